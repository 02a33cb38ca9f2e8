/-! ===== the reference: a scan ===== -/
def sq (F : Fl) (S : Sit) (sc k : Nat) : Nat → Nat → Bool := fun c j => sPl S c j && (!(decide (4 * c + j < k)) || cSc F S sc c j 4)
theorem cSc_pl (F : Fl) (S : Sit) (P : Nat → Nat → Bool) (sc c hd : Nat) : ∀ q, cSc F (setPl S P) sc c hd q = cSc F S sc c hd q := by
  intro q
  induction q with
  | zero => rfl
  | succ q ih =>
    show (cSc F (setPl S P) sc c hd q && canBe F (setPl S P) (dg sc q) (nb F c ((hd + q) % 4))) = _
    rw [ih]
    show _ = (cSc F S sc c hd q && canBe F S (dg sc q) (nb F c ((hd + q) % 4)))
    cases nb F c ((hd + q) % 4) <;> rfl
theorem ms_plc {F : Fl} (hF : fOK F) {S : Sit} {P P' : Nat → Nat → Bool} {z : Nat → Int32} (he : ∀ c, c < fN F → ∀ j, j < 4 → P' c j = P c j) : ms F (setPl S P) z = ms F (setPl S P') z := by
  have h36 := fN_le hF
  have e : ∀ i, i < fN F → plN (setPl S P) i = plN (setPl S P') i := by
    intro i hi
    show (if sLost S = true then pb (P i) else 0) = (if sLost S = true then pb (P' i) else 0)
    rw [pb_congr (he i hi)]
  funext j
  by_cases hj : 72 ≤ j ∧ j < 72 + fN F
  · have h2 : j = 72 + (j - 72) := by omega
    rw [h2, ms_p hF (by omega), ms_p hF (by omega), e _ (by omega)]
  · exact ms_pl_out hF (setPl S P) (setPl S P') z (fun _ => rfl) hj
theorem ms_plu {F : Fl} (hF : fOK F) {S : Sit} (hl : sLost S = true) {P P' : Nat → Nat → Bool} {z : Nat → Int32} {c : Nat} {x : Int32} (hc : c < fN F) (hx : x = nI (pb (P' c))) (he : ∀ c', c' < fN F → c' ≠ c → ∀ j, j < 4 → P' c' j = P c' j) : upd (ms F (setPl S P) z) (72 + c) x = ms F (setPl S P') z := by
  have h36 := fN_le hF
  have e : ∀ (P : Nat → Nat → Bool) (i : Nat), plN (setPl S P) i = pb (P i) := by
    intro P i
    show (if sLost S = true then pb (P i) else 0) = _
    rw [if_pos hl]
  funext j
  by_cases hj : j = 72 + c
  · subst hj
    rw [upd_eq, ms_p hF hc, e, hx]
  · rw [upd_ne _ _ hj]
    by_cases hj2 : 72 ≤ j ∧ j < 72 + fN F
    · have h2 : j = 72 + (j - 72) := by omega
      rw [h2, ms_p hF (by omega), ms_p hF (by omega), e, e, pb_congr (he (j - 72) (by omega) (by omega))]
    · exact ms_pl_out hF (setPl S P) (setPl S P') z (fun _ => rfl) hj2
theorem many_congr {P P' : Nat → Nat → Bool} (he : ∀ c j, j < 4 → P' c j = P c j) : many P = many P' := by
  unfold many
  rw [cnt_congr (p := fun c => P c 0) (q := fun c => P' c 0) (fun i _ => (he i 0 (by decide)).symm), cnt_congr (p := fun c => P c 1) (q := fun c => P' c 1) (fun i _ => (he i 1 (by decide)).symm), cnt_congr (p := fun c => P c 2) (q := fun c => P' c 2) (fun i _ => (he i 2 (by decide)).symm), cnt_congr (p := fun c => P c 3) (q := fun c => P' c 3) (fun i _ => (he i 3 (by decide)).symm)]
theorem ms_found {F : Fl} (hF : fOK F) {S : Sit} {P P' : Nat → Nat → Bool} {z : Nat → Int32} (he : ∀ c j, j < 4 → P' c j = P c j) : ms F (found (setPl S P)) z = ms F (found (setPl S P')) z := by
  unfold found
  have e := many_congr he
  by_cases h : sLost S = true ∧ many P = 1
  · rw [if_pos (show sLost (setPl S P) = true ∧ many (sPl (setPl S P)) = 1 from h), if_pos (show sLost (setPl S P') = true ∧ many (sPl (setPl S P')) = 1 from by rw [e] at h; exact h)]
    exact (ms_plx (S := setLost S false) rfl P).trans (ms_plx (S := setLost S false) rfl P').symm
  · rw [if_neg (show ¬ (sLost (setPl S P) = true ∧ many (sPl (setPl S P)) = 1) from h), if_neg (show ¬ (sLost (setPl S P') = true ∧ many (sPl (setPl S P')) = 1) from by rw [e] at h; exact h)]
    exact ms_plc hF (fun c _ j hj => he c j hj)
theorem dg_sc (F : Fl) (S : Sit) : dg (scanO F S) 0 = scanT F S 0 ∧ dg (scanO F S) 1 = scanT F S 1 ∧ dg (scanO F S) 2 = scanT F S 2 ∧ dg (scanO F S) 3 = scanT F S 3 := by
  have h0 := scanT_lt F S 0
  have h1 := scanT_lt F S 1
  have h2 := scanT_lt F S 2
  have h3 := scanT_lt F S 3
  refine ⟨?_, ?_, ?_, ?_⟩
  · show scanO F S / 3 / 3 / 3 % 3 = _
    unfold scanO; omega
  · show scanO F S / 3 / 3 % 3 = _
    unfold scanO; omega
  · show scanO F S / 3 % 3 = _
    unfold scanO; omega
  · show scanO F S % 3 = _
    unfold scanO; omega
section C61
variable {l : Launch} {g : zG} {d : Nat} {h : zH} {O : Om}
theorem sq_end {F : Fl} {S : Sit} (ok : sOK F S) (hl : sLost S = true) : ∀ c j, j < 4 → sq F S (scanO F S) (4 * fN F) c j = keepP F S (scanT F S 3) 3 (keepP F S (scanT F S 2) 2 (keepP F S (scanT F S 1) 1 (keepP F S (scanT F S 0) 0 (sPl S)))) c j := by
  intro c j hj
  obtain ⟨e0, e1, e2, e3⟩ := dg_sc F S
  unfold sq
  simp only [keepP, cSc, e0, e1, e2, e3]
  cases hp : sPl S c j with
  | false => simp
  | true =>
    have hc := ok.pl hl c j hj hp
    have h4 : 4 * c + j < 4 * fN F := by omega
    simp [hc, h4]
theorem c_M_scans (a : MX h O) (ok : oOK' O) : Run l g mM_scans (d + 3) 0 0 [.ref 31] h (PIh (rScans O) (MP h (nScans O))) := by
  obtain ⟨⟨qa, qb, z, hM, hS⟩, -⟩ := id a
  have hF := ok.1
  have h36 := fN_le hF
  have hsz := ok.2.2.2.2.1
  have sok := ok.2.1
  have hat := sok.at
  have hhd := sok.hd
  unfold rScans nScans
  obtain ⟨Sx, hSx⟩ : ∃ Sx, Sx = scanS (oF O) (oS O) := ⟨_, rfl⟩
  obtain ⟨sc, hsc⟩ : ∃ sc, sc = scanO (oF O) (oS O) := ⟨_, rfl⟩
  have hscl : sc < 100 := by rw [hsc, ← sAcc_4]; have := sAcc_lt (oF O) (oS O) 4 (by decide); omega
  rw [← hSx, ← hsc]
  have e4 : (4 : Int32) * nI (fN (oF O)) = nI (4 * fN (oF O)) := pk_mul 4 (fN (oF O))
  refine run_of (by decide) (Nat.le_of_ble_eq_true rfl) ?_
  refine zw_aload_n dM_scans_0 rfl ?_
  refine zx_V0V dM_scans_1 zm_M_remembers zk_M_97 hM rfl (c_M_remembers a hsz) zRR (Nat.le_of_ble_eq_true rfl) ⟨Nat.le_of_ble_eq_true rfl, Nat.le_of_ble_eq_true rfl⟩ ?_
  rintro h1 ⟨a1, f1, n1⟩
  obtain ⟨⟨qa1, qb1, z1, hM1, hS1⟩, -⟩ := id a1
  have hM1 : h1[31]? = some (mC (oF O) (oSz (oRem O)) (oLen O) qa1 qb1) := hM1
  have hS1 : h1[32]? = some (sC (oF O) (oS O) z1) := hS1
  have hM32 : ∀ c, (h1.set 32 c)[31]? = _ := fun c => zg_ne (by decide) hM1
  have hS32 : ∀ c, (h1.set 32 c)[32]? = some c := fun c => zg_eq hS1
  have Q : MP h (nSt O Sx) (h1.set 32 (sC (oF O) Sx z1)) := ⟨a1.now Sx z1, f1.tr (frM.set (by decide)), by rw [zs_len, n1]⟩
  refine zw_iconst (v := 0) dM_scans_4 (by decide) ?_
  refine zw_istore_n dM_scans_5 (by decide) rfl ?_
  refine zw_iconst (v := 0) dM_scans_6 (by decide) ?_
  refine zw_istore_n dM_scans_7 (by decide) rfl ?_
  have L2 : WW l g mM_scans (zrm (d + 3) 0 0) (fun _ => True) (zQQ g (PIh (nI sc) (MP h (nSt O Sx))) (h.length + 0) 0 0) 52 [(0, some (.ref 31)), (1, some (.int (nI sc))), (2, some (.int (nI 0)))] [] h1 0 0 := by
    cases hl : sLost (oS O) with
    | false =>
      have r111 : ms (oF O) (oS O) z1 111 = 0 := by rw [ms_111, hl]; rfl
      have cf := c_M_findsMaybe (l := l) (g := g) (d := d) (h := h1) hF sok hM1 hS1
      have ef : found (oS O) = Sx := by
        rw [hSx]
        unfold found scanS
        rw [if_neg (fun q => by rw [hl] at q; cases q.1), if_neg (by rw [hl]; decide)]
      rw [ef] at cf
      have hp : 0 < 4 * fN (oF O) := by have := fN_pos hF; omega
      refine zw_iload_n dM_scans_52 rfl ?_
      refine zw_iconst (v := 4) dM_scans_53 (by decide) ?_
      refine zw_aload_n dM_scans_54 rfl ?_
      refine zc_V0I dM_scans_55 zm_M_cells zk_M_57 (by first | exact hM1 | exact hS1) rfl (c_M_cells hM1) ?_ zRR (Nat.le_of_ble_eq_true rfl) ⟨Nat.le_of_ble_eq_true rfl, Nat.le_of_ble_eq_true rfl⟩
      refine zw_imul dM_scans_58 ?_
      rw [e4]
      refine zw_icmp_ge 114 dM_scans_59 (by decide) (fun c_59 => ?_) (fun c_59 => ?_)
      · exact absurd ((nI_leI (b := 0) (by omega) (by omega)).mp c_59) (by omega)
      · refine zw_aload_n dM_scans_62 rfl ?_
        refine zw_get dM_scans_63 zf_M_16 (by first | exact hM1 | exact hS1) rfl ?_
        refine zw_bipush (v := 111) dM_scans_66 (by decide) ?_
        refine zw_iald dM_scans_68 (by first | exact hM1 | exact hS1) v111 ?_
        rw [e111, r111]
        refine zw_iconst (v := 1) dM_scans_69 (by decide) ?_
        refine zw_icmp_ne 114 dM_scans_70 (by decide) (fun c_70 => ?_) (fun c_70 => ?_)
        · refine zw_aload_n dM_scans_114 rfl ?_
          refine zc_V0V dM_scans_115 zm_M_findsMaybe zk_M_120 (by first | exact hM1 | exact hS1) rfl cf ?_ zRR (Nat.le_of_ble_eq_true rfl) ⟨Nat.le_of_ble_eq_true rfl, Nat.le_of_ble_eq_true rfl⟩
          refine zw_iload_n dM_scans_118 rfl ?_
          exact zw_iret dM_scans_119 rfl rfl (zset_len1 _ _ _ n1) ⟨rfl, Q⟩
        · exact absurd c_70 (by decide)
    | true =>
      have hF1 : ∀ k, sOK (oF O) (setPl (oS O) (sq (oF O) (oS O) sc k)) := fun k => ⟨sok.shut, sok.brim, sok.rate, sok.at, sok.hd, sok.ch, sok.kn, sok.knn, fun _ c j hj hp => sok.pl hl c j hj (by
        have hp2 : sq (oF O) (oS O) sc k c j = true := hp
        simp only [sq, Bool.and_eq_true] at hp2
        exact hp2.1)⟩
      obtain ⟨Sk, hSk⟩ : ∃ Sk : Nat → Sit, ∀ k, Sk k = setPl (oS O) (sq (oF O) (oS O) sc k) := ⟨_, fun _ => rfl⟩
      have e0 : ms (oF O) (Sk 0) z1 = ms (oF O) (oS O) z1 := by
        rw [hSk]
        have := ms_plc (S := oS O) (P := sq (oF O) (oS O) sc 0) (P' := sPl (oS O)) (z := z1) hF (fun c _ j _ => by simp [sq])
        exact this
      have efin : ms (oF O) (found (Sk (4 * fN (oF O)))) z1 = ms (oF O) Sx z1 := by
        rw [hSk, hSx]
        unfold scanS
        rw [if_pos hl]
        exact ms_found hF (fun c j hj => by rw [hsc]; exact (sq_end sok hl c j hj).symm)
      have okk : ∀ k, sOK (oF O) (Sk k) := fun k => by rw [hSk]; exact hF1 k
      have r111 : ∀ k, ms (oF O) (Sk k) z1 111 = 1 := fun k => by rw [hSk]; show (if sLost (oS O) = true then (1 : Int32) else 0) = 1; rw [if_pos hl]
      have L : ∀ (m k : Nat), k + m = 4 * fN (oF O) → WW l g mM_scans (zrm (d + 3) 0 0) (fun _ => True) (zQQ g (PIh (nI sc) (MP h (nSt O Sx))) (h.length + 0) 0 0) 52 [(0, some (.ref 31)), (1, some (.int (nI sc))), (2, some (.int (nI k)))] [] (h1.set 32 (sC (oF O) (Sk k) z1)) 0 0 := by
        intro m
        induction m with
        | zero =>
          intro k hk
          have hk : k = 4 * fN (oF O) := by omega
          subst hk
          have cf := c_M_findsMaybe (l := l) (g := g) (d := d) (h := h1.set 32 (sC (oF O) (Sk (4 * fN (oF O))) z1)) hF (okk _) (hM32 _) (hS32 _)
          rw [zs_set, show sC (oF O) (found (Sk (4 * fN (oF O)))) z1 = sC (oF O) Sx z1 from by unfold sC; rw [efin]] at cf
          refine zw_iload_n dM_scans_52 rfl ?_
          refine zw_iconst (v := 4) dM_scans_53 (by decide) ?_
          refine zw_aload_n dM_scans_54 rfl ?_
          refine zc_V0I dM_scans_55 zm_M_cells zk_M_57 (by first | exact hM32 _ | exact hS32 _) rfl (c_M_cells (hM32 _)) ?_ zRR (Nat.le_of_ble_eq_true rfl) ⟨Nat.le_of_ble_eq_true rfl, Nat.le_of_ble_eq_true rfl⟩
          refine zw_imul dM_scans_58 ?_
          rw [e4]
          refine zw_icmp_ge 114 dM_scans_59 (by decide) (fun c_59 => ?_) (fun c_59 => ?_)
          · refine zw_aload_n dM_scans_114 rfl ?_
            refine zc_V0V dM_scans_115 zm_M_findsMaybe zk_M_120 (by first | exact hM32 _ | exact hS32 _) rfl cf ?_ zRR (Nat.le_of_ble_eq_true rfl) ⟨Nat.le_of_ble_eq_true rfl, Nat.le_of_ble_eq_true rfl⟩
            refine zw_iload_n dM_scans_118 rfl ?_
            exact zw_iret dM_scans_119 rfl rfl (zset_len1 _ _ _ n1) ⟨rfl, Q⟩
          · exact absurd (Int32.le_refl _) c_59
        | succ m ih =>
          intro k hk
          have hc : k / 4 < fN (oF O) := by omega
          have hj : k % 4 < 4 := Nat.mod_lt _ (by decide)
          obtain ⟨q1, q2⟩ := k4 (k := k) (by omega)
          obtain ⟨v1, v2, v3⟩ := vP hF hc
          have hM' := hM32 (sC (oF O) (Sk k) z1)
          have hS' := hS32 (sC (oF O) (Sk k) z1)
          have cs := c_M_canScan (l := l) (g := g) (d := d) hF (okk k) hM' hS' hc hj hscl
          have ecs : cSc (oF O) (Sk k) sc (k / 4) (k % 4) 4 = cSc (oF O) (oS O) sc (k / 4) (k % 4) 4 := by rw [hSk]; exact cSc_pl _ _ _ _ _ _ 4
          rw [ecs] at cs
          have I := ih (k + 1) (by omega)
          have r1 := r111 k
          have eoth : ∀ c j, j < 4 → ¬ (c = k / 4 ∧ j = k % 4) → sq (oF O) (oS O) sc (k + 1) c j = sq (oF O) (oS O) sc k c j := by
            intro c j hj4 hne
            have : (4 * c + j < k + 1) ↔ (4 * c + j < k) := by omega
            simp only [sq, this]
          cases hcs : cSc (oF O) (oS O) sc (k / 4) (k % 4) 4 with
          | true =>
            rw [hcs] at cs
            have eS : sC (oF O) (Sk (k + 1)) z1 = sC (oF O) (Sk k) z1 := by
              unfold sC
              rw [hSk, hSk, ms_plc (S := oS O) (P := sq (oF O) (oS O) sc k) (P' := sq (oF O) (oS O) sc (k + 1)) (z := z1) hF (fun c _ j hj4 => by
                by_cases q : c = k / 4 ∧ j = k % 4
                · obtain ⟨rfl, rfl⟩ := q
                  simp only [sq, hcs, Bool.or_true]
                · exact eoth c j hj4 q)]
            rw [eS] at I
            refine zw_iload_n dM_scans_52 rfl ?_
            refine zw_iconst (v := 4) dM_scans_53 (by decide) ?_
            refine zw_aload_n dM_scans_54 rfl ?_
            refine zc_V0I dM_scans_55 zm_M_cells zk_M_57 (by first | exact hM' | exact hS') rfl (c_M_cells hM') ?_ zRR (Nat.le_of_ble_eq_true rfl) ⟨Nat.le_of_ble_eq_true rfl, Nat.le_of_ble_eq_true rfl⟩
            refine zw_imul dM_scans_58 ?_
            rw [e4]
            refine zw_icmp_ge 114 dM_scans_59 (by decide) (fun c_59 => ?_) (fun c_59 => ?_)
            · exact absurd ((nI_leI (by omega) (by omega)).mp c_59) (by omega)
            · refine zw_aload_n dM_scans_62 rfl ?_
              refine zw_get dM_scans_63 zf_M_16 (by first | exact hM' | exact hS') rfl ?_
              refine zw_bipush (v := 111) dM_scans_66 (by decide) ?_
              refine zw_iald dM_scans_68 (by first | exact hM' | exact hS') v111 ?_
              rw [e111, r1]
              refine zw_iconst (v := 1) dM_scans_69 (by decide) ?_
              refine zw_icmp_ne 114 dM_scans_70 (by decide) (fun c_70 => ?_) (fun c_70 => ?_)
              · exact absurd rfl c_70
              · refine zw_aload_n dM_scans_73 rfl ?_
                refine zw_iload_n dM_scans_74 rfl ?_
                refine zw_iconst (v := 4) dM_scans_75 (by decide) ?_
                refine zw_idiv dM_scans_76 n4 ?_
                rw [q1]
                refine zw_iload_n dM_scans_77 rfl ?_
                refine zw_iconst (v := 4) dM_scans_78 (by decide) ?_
                refine zw_irem dM_scans_79 n4 ?_
                rw [q2]
                refine zw_iload_n dM_scans_80 rfl ?_
                refine zc_V3I dM_scans_81 zm_M_canScan zk_M_136 (by first | exact hM' | exact hS') rfl cs ?_ zRR (Nat.le_of_ble_eq_true rfl) ⟨Nat.le_of_ble_eq_true rfl, Nat.le_of_ble_eq_true rfl⟩
                refine zw_if_ne 108 dM_scans_84 (by decide) (fun c_84 => ?_) (fun c_84 => ?_)
                · refine zw_incN dM_scans_108 rfl (by decide) rfl ?_
                  refine zw_goto 52 dM_scans_111 (by decide) ?_
                  exact zw_lk I ⟨rfl, rfl, rfl, trivial⟩
                · exact absurd c_84 (show ¬ (1 : Int32) = 0 by decide)
          | false =>
            rw [hcs] at cs
            have ep : ms (oF O) (Sk k) z1 (72 + k / 4) = nI (pb (sq (oF O) (oS O) sc k (k / 4))) := by
              rw [ms_p hF hc, hSk]
              show nI (if sLost (oS O) = true then pb (sq (oF O) (oS O) sc k (k / 4)) else 0) = _
              rw [if_pos hl]
            have eu : upd (ms (oF O) (Sk k) z1) (72 + k / 4) (nI (pb (sq (oF O) (oS O) sc k (k / 4))) &&& (((1 : Int32) <<< (nI (k % 4) &&& 31)) ^^^ (-1))) = ms (oF O) (Sk (k + 1)) z1 := by
              rw [hSk, hSk]
              refine ms_plu hF hl hc ?_ (fun c' _ hne j hj4 => eoth c' j hj4 (fun q => hne q.1))
              refine pb_cl _ _ hj ?_ (fun i hi hne => eoth (k / 4) i hi (fun q => hne q.2))
              have e : 4 * (k / 4) + k % 4 < k + 1 := by omega
              simp only [sq, hcs, e, decide_true, Bool.not_true, Bool.or_false, Bool.and_false]
            refine zw_iload_n dM_scans_52 rfl ?_
            refine zw_iconst (v := 4) dM_scans_53 (by decide) ?_
            refine zw_aload_n dM_scans_54 rfl ?_
            refine zc_V0I dM_scans_55 zm_M_cells zk_M_57 (by first | exact hM' | exact hS') rfl (c_M_cells hM') ?_ zRR (Nat.le_of_ble_eq_true rfl) ⟨Nat.le_of_ble_eq_true rfl, Nat.le_of_ble_eq_true rfl⟩
            refine zw_imul dM_scans_58 ?_
            rw [e4]
            refine zw_icmp_ge 114 dM_scans_59 (by decide) (fun c_59 => ?_) (fun c_59 => ?_)
            · exact absurd ((nI_leI (by omega) (by omega)).mp c_59) (by omega)
            · refine zw_aload_n dM_scans_62 rfl ?_
              refine zw_get dM_scans_63 zf_M_16 (by first | exact hM' | exact hS') rfl ?_
              refine zw_bipush (v := 111) dM_scans_66 (by decide) ?_
              refine zw_iald dM_scans_68 (by first | exact hM' | exact hS') v111 ?_
              rw [e111, r1]
              refine zw_iconst (v := 1) dM_scans_69 (by decide) ?_
              refine zw_icmp_ne 114 dM_scans_70 (by decide) (fun c_70 => ?_) (fun c_70 => ?_)
              · exact absurd rfl c_70
              · refine zw_aload_n dM_scans_73 rfl ?_
                refine zw_iload_n dM_scans_74 rfl ?_
                refine zw_iconst (v := 4) dM_scans_75 (by decide) ?_
                refine zw_idiv dM_scans_76 n4 ?_
                rw [q1]
                refine zw_iload_n dM_scans_77 rfl ?_
                refine zw_iconst (v := 4) dM_scans_78 (by decide) ?_
                refine zw_irem dM_scans_79 n4 ?_
                rw [q2]
                refine zw_iload_n dM_scans_80 rfl ?_
                refine zc_V3I dM_scans_81 zm_M_canScan zk_M_136 (by first | exact hM' | exact hS') rfl cs ?_ zRR (Nat.le_of_ble_eq_true rfl) ⟨Nat.le_of_ble_eq_true rfl, Nat.le_of_ble_eq_true rfl⟩
                refine zw_if_ne 108 dM_scans_84 (by decide) (fun c_84 => ?_) (fun c_84 => ?_)
                · exact absurd rfl c_84
                · refine zw_aload_n dM_scans_87 rfl ?_
                  refine zw_get dM_scans_88 zf_M_16 (by first | exact hM' | exact hS') rfl ?_
                  refine zw_bipush (v := 72) dM_scans_91 (by decide) ?_
                  refine zw_iload_n dM_scans_93 rfl ?_
                  refine zw_iconst (v := 4) dM_scans_94 (by decide) ?_
                  refine zw_idiv dM_scans_95 n4 ?_
                  rw [q1]
                  refine zw_iadd dM_scans_96 ?_
                  rw [v1]
                  refine zw_dup2 dM_scans_97 rfl rfl ?_
                  refine zw_iald dM_scans_98 (by first | exact hM' | exact hS') v2 ?_
                  rw [v3, ep]
                  refine zw_iconst (v := 1) dM_scans_99 (by decide) ?_
                  refine zw_iload_n dM_scans_100 rfl ?_
                  refine zw_iconst (v := 4) dM_scans_101 (by decide) ?_
                  refine zw_irem dM_scans_102 n4 ?_
                  rw [q2]
                  refine zw_ishl dM_scans_103 ?_
                  refine zw_iconst (v := (-1)) dM_scans_104 (by decide) ?_
                  refine zw_ixor dM_scans_105 ?_
                  refine zw_iand dM_scans_106 ?_
                  refine zw_iast dM_scans_107 (by first | exact hM' | exact hS') v2 ?_
                  rw [v3]
                  refine zw_h (sC_up eu) ?_
                  refine zw_incN dM_scans_108 rfl (by decide) rfl ?_
                  refine zw_goto 52 dM_scans_111 (by decide) ?_
                  exact zw_lk I ⟨rfl, rfl, rfl, trivial⟩
      have L0 := L (4 * fN (oF O)) 0 (by omega)
      rw [show sC (oF O) (Sk 0) z1 = sC (oF O) (oS O) z1 from by unfold sC; rw [e0], zs_self hS1] at L0
      exact L0
  have L1 : ∀ (m q : Nat), q + m = 4 → WW l g mM_scans (zrm (d + 3) 0 0) (fun _ => True) (zQQ g (PIh (nI sc) (MP h (nSt O Sx))) (h.length + 0) 0 0) 8 [(0, some (.ref 31)), (1, some (.int (nI (sAcc (oF O) (oS O) q)))), (2, some (.int (nI q)))] [] h1 0 0 := by
    intro m
    induction m with
    | zero =>
      intro q hq
      have hq : q = 4 := by omega
      subst hq
      rw [sAcc_4, ← hsc]
      refine zw_iload_n dM_scans_8 rfl ?_
      refine zw_iconst (v := 4) dM_scans_9 (by decide) ?_
      refine zw_icmp_ge 50 dM_scans_10 (by decide) (fun c_10 => ?_) (fun c_10 => ?_)
      · refine zw_iconst (v := 0) dM_scans_50 (by decide) ?_
        refine zw_istore_n dM_scans_51 (by decide) rfl ?_
        exact zw_lk L2 ⟨rfl, rfl, rfl, trivial⟩
      · exact absurd (Int32.le_refl _) c_10
    | succ m ih =>
      intro q hq
      have hm : (sHd (oS O) + q) % 4 < 4 := Nat.mod_lt _ (by decide)
      have e5 : nI (sHd (oS O)) + nI q - (nI (sHd (oS O)) + nI q) / 4 * 4 = nI ((sHd (oS O) + q) % 4) := by rw [nI_add]; exact pk_rem (d := 4) (by omega) (by decide) (by decide)
      have cb := c_M_beside (l := l) (g := g) (d := d + 1) hF hM1 hat hm
      have ct := c_M_toldOf (l := l) (g := g) (d := d + 1) hF sok.shut hM1 hS1 (o := nb (oF O) (sAt (oS O)) ((sHd (oS O) + q) % 4)) (fun b e => (nb_spec hF hat hm e).1)
      have es : (3 : Int32) * nI (sAcc (oF O) (oS O) q) + nI (told (oF O) (oS O) (nb (oF O) (sAt (oS O)) ((sHd (oS O) + q) % 4))) = nI (sAcc (oF O) (oS O) (q + 1)) := by
        rw [show (3 : Int32) * nI (sAcc (oF O) (oS O) q) = nI (3 * sAcc (oF O) (oS O) q) from pk_mul 3 _, nI_add, Nat.mul_comm]
        rfl
      refine zw_iload_n dM_scans_8 rfl ?_
      refine zw_iconst (v := 4) dM_scans_9 (by decide) ?_
      refine zw_icmp_ge 50 dM_scans_10 (by decide) (fun c_10 => ?_) (fun c_10 => ?_)
      · exact absurd ((nI_leI (a := 4) (by omega) (by omega)).mp c_10) (by omega)
      · refine zw_iconst (v := 3) dM_scans_13 (by decide) ?_
        refine zw_iload_n dM_scans_14 rfl ?_
        refine zw_imul dM_scans_15 ?_
        refine zw_aload_n dM_scans_16 rfl ?_
        refine zw_aload_n dM_scans_17 rfl ?_
        refine zw_aload_n dM_scans_18 rfl ?_
        refine zw_get dM_scans_19 zf_M_16 (by first | exact hM1 | exact hS1) rfl ?_
        refine zw_bipush (v := 108) dM_scans_22 (by decide) ?_
        refine zw_iald dM_scans_24 (by first | exact hM1 | exact hS1) v108 ?_
        rw [e108, ms_108]
        refine zw_aload_n dM_scans_25 rfl ?_
        refine zw_get dM_scans_26 zf_M_16 (by first | exact hM1 | exact hS1) rfl ?_
        refine zw_bipush (v := 109) dM_scans_29 (by decide) ?_
        refine zw_iald dM_scans_31 (by first | exact hM1 | exact hS1) v109 ?_
        rw [e109, ms_109]
        refine zw_iload_n dM_scans_32 rfl ?_
        refine zw_iadd dM_scans_33 ?_
        refine zw_iconst (v := 4) dM_scans_34 (by decide) ?_
        refine zw_irem dM_scans_35 n4 ?_
        rw [e5]
        refine zc_V2I dM_scans_36 zm_M_beside zk_M_109 (by first | exact hM1 | exact hS1) rfl cb ?_ zRR (Nat.le_of_ble_eq_true rfl) ⟨Nat.le_of_ble_eq_true rfl, Nat.le_of_ble_eq_true rfl⟩
        refine zc_V1I dM_scans_39 zm_M_toldOf zk_M_123 (by first | exact hM1 | exact hS1) rfl ct ?_ zRR (Nat.le_of_ble_eq_true rfl) ⟨Nat.le_of_ble_eq_true rfl, Nat.le_of_ble_eq_true rfl⟩
        refine zw_iadd dM_scans_42 ?_
        rw [es]
        refine zw_istore_n dM_scans_43 (by decide) rfl ?_
        refine zw_incN dM_scans_44 rfl (by decide) rfl ?_
        refine zw_goto 8 dM_scans_47 (by decide) ?_
        exact zw_lk (ih (q + 1) (by omega)) ⟨rfl, rfl, rfl, trivial⟩
  exact zw_lk (L1 4 0 (by omega)) ⟨rfl, rfl, rfl, trivial⟩
end C61
