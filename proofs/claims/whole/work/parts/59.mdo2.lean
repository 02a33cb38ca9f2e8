/-! ===== the reference: turned, carried, undone, kept ===== -/
theorem ms_plx {F : Fl} {S : Sit} {z : Nat → Int32} (hl : sLost S = false) (P : Nat → Nat → Bool) : ms F (setPl S P) z = ms F S z := by
  have e : ∀ i, plN (setPl S P) i = plN S i := by
    intro i
    show (if sLost S = true then _ else 0) = (if sLost S = true then _ else 0)
    rw [hl]; rfl
  funext j
  simp only [ms, e]
  rfl
/-- only the places differ -/
theorem ms_pl_out {F : Fl} (hF : fOK F) (S S' : Sit) (z : Nat → Int32) (e : ∀ P, setPl S P = setPl S' P) {j : Nat} (hj : ¬ (72 ≤ j ∧ j < 72 + fN F)) : ms F S z j = ms F S' z j := by
  have h36 := fN_le hF
  have e0 := e (fun _ _ => false)
  simp only [setPl, Prod.mk.injEq] at e0
  obtain ⟨e1, e2, e3, e4, e5, e6, e7, e8, -⟩ := e0
  simp only [ms, kdn, e1, e2, e3, e4, e5, e6, e7, e8]
  by_cases h1 : j < 36
  · simp only [h1, if_true]
  · by_cases h2 : j < 72
    · simp only [h1, h2, if_true, if_false]
    · by_cases h3 : j < 108
      · have h4 : ¬ j - 72 < fN F := by omega
        simp only [h1, h2, h3, h4, if_true, if_false]
      · simp only [h1, h2, h3, if_false]
section C59
variable {l : Launch} {g : zG} {d : Nat} {h : zH} {O : Om}
theorem c_M_rotates (a : MX h O) (ok : oOK' O) {x : Int32} : Run l g mM_rotates (d + 3) 0 0 [.ref 31, .int x] h (PIh (rRot O x) (MP h (nRot O x))) := by
  obtain ⟨⟨qa, qb, z, hM, hS⟩, -⟩ := id a
  have hF := ok.1
  have h36 := fN_le hF
  have hsz := ok.2.2.2.2.1
  have sok := ok.2.1
  have ci := c_M_inB (l := l) (g := g) (d := d + 2) (h := h) (x := x) (a := 1) (b := 3) (by decide) (by decide)
  unfold rRot nRot
  refine run_of (by decide) (Nat.le_of_ble_eq_true rfl) ?_
  cases hb : btw x 1 3 with
  | none =>
    rw [hb] at ci
    refine zw_iload_n dM_rotates_0 rfl ?_
    refine zw_iconst (v := 1) dM_rotates_1 (by decide) ?_
    refine zw_iconst (v := 3) dM_rotates_2 (by decide) ?_
    refine zc_S3I dM_rotates_3 zm_M_in zk_M_67 ci ?_ zRR (Nat.le_of_ble_eq_true rfl) ⟨Nat.le_of_ble_eq_true rfl, Nat.le_of_ble_eq_true rfl⟩
    refine zw_if_ne 11 dM_rotates_6 (by decide) (fun c_6 => ?_) (fun c_6 => ?_)
    · exact absurd rfl c_6
    · refine zw_iconst (v := (-1)) dM_rotates_9 (by decide) ?_
      exact zw_iret dM_rotates_10 rfl rfl rfl ⟨rfl, MP.rf a⟩
  | some q =>
    rw [hb] at ci
    obtain ⟨hq1, hq3, rfl⟩ := (btw_some (by decide)).mp hb
    dsimp only
    have hhd := sok.hd
    obtain ⟨q4, hq4⟩ : ∃ q4, q4 = (sHd (oS O) + q) % 4 := ⟨_, rfl⟩
    have hq4l : q4 < 4 := by rw [hq4]; exact Nat.mod_lt _ (by decide)
    have e4 : nI (sHd (oS O)) + nI q - (nI (sHd (oS O)) + nI q) / 4 * 4 = nI q4 := by rw [nI_add, hq4]; exact pk_rem (d := 4) (by omega) (by decide) (by decide)
    obtain ⟨S2, hS2⟩ : ∃ S2, S2 = setPl (setHd (oS O) q4) (turnP q (sPl (oS O))) := ⟨_, rfl⟩
    have eT : sLost (oS O) = true → turnS (oS O) q = found S2 := fun hl => by unfold turnS; rw [if_pos hl, ← hq4, hS2]
    have eN : sLost (oS O) = false → turnS (oS O) q = setHd (oS O) q4 := fun hl => by unfold turnS; rw [if_neg (by rw [hl]; decide), ← hq4]
    have l2 : sLost S2 = sLost (oS O) := by rw [hS2]; rfl
    have ok2 : sOK (oF O) S2 := by
      have o1 := ok_hd sok hq4l
      rw [hS2]
      refine ⟨o1.shut, o1.brim, o1.rate, o1.at, o1.hd, o1.ch, o1.kn, o1.knn, fun hl c j hj hp => ?_⟩
      exact sok.pl hl c ((j + 4 - q) % 4) (Nat.mod_lt _ (by decide)) hp
    have efin : ∀ z, ms (oF O) (found S2) z = ms (oF O) (turnS (oS O) q) z := by
      intro z
      cases hl : sLost (oS O) with
      | true => rw [eT hl]
      | false =>
        rw [eN hl, show found S2 = S2 from by unfold found; rw [if_neg (fun q => by rw [l2, hl] at q; cases q.1)], hS2]
        exact ms_plx (S := setHd (oS O) q4) hl _
    have ev : ∀ i, rotI (nI (plN (oS O) i)) (nI q) = nI (plN S2 i) := by
      intro i
      have eS2 : plN S2 i = if sLost (oS O) = true then pb (turnP q (sPl (oS O)) i) else 0 := by rw [hS2]; rfl
      rw [eS2]
      unfold plN
      cases sLost (oS O) with
      | true => simp only [if_true]; exact pb_rot _ hq1 hq3
      | false =>
        simp only [Bool.false_eq_true, if_false]
        exact pb_rot (fun _ => false) hq1 hq3
    have eall : ∀ z, fil (ms (oF O) (setHd (oS O) q4) z) 72 (fN (oF O)) (fun i => nI (plN S2 i)) = ms (oF O) S2 z := by
      intro z
      refine ms_fil hF (oS O) S2 z _ _ (fun i _ => rfl) (fun j hj => ms_pl_out hF _ _ z (fun P => by rw [hS2]; rfl) hj)
    obtain ⟨St, hSt⟩ : ∃ St, St = turnS (oS O) q := ⟨_, rfl⟩
    rw [← hSt] at efin ⊢
    have hhdt : sHd St = q4 := by rw [hSt, turnS_hd, hq4]
    have eq : nI ((sHd (oS O) + q) % 4) = nI q4 := by rw [hq4]
    rw [eq]
    refine zw_iload_n dM_rotates_0 rfl ?_
    refine zw_iconst (v := 1) dM_rotates_1 (by decide) ?_
    refine zw_iconst (v := 3) dM_rotates_2 (by decide) ?_
    refine zc_S3I dM_rotates_3 zm_M_in zk_M_67 ci ?_ zRR (Nat.le_of_ble_eq_true rfl) ⟨Nat.le_of_ble_eq_true rfl, Nat.le_of_ble_eq_true rfl⟩
    refine zw_if_ne 11 dM_rotates_6 (by decide) (fun c_6 => ?_) (fun c_6 => ?_)
    · refine zw_aload_n dM_rotates_11 rfl ?_
      refine zx_V0V dM_rotates_12 zm_M_remembers zk_M_97 (by first | exact hM | exact hS | exact hM1 | exact hS1 | exact hM32 _ | exact hS32 _) rfl (c_M_remembers a hsz) zRR (Nat.le_of_ble_eq_true rfl) ⟨Nat.le_of_ble_eq_true rfl, Nat.le_of_ble_eq_true rfl⟩ ?_
      rintro h1 ⟨a1, f1, n1⟩
      obtain ⟨⟨qa1, qb1, z1, hM1, hS1⟩, -⟩ := id a1
      have hM1 : h1[31]? = some (mC (oF O) (oSz (oRem O)) (oLen O) qa1 qb1) := hM1
      have hS1 : h1[32]? = some (sC (oF O) (oS O) z1) := hS1
      have hM32 : ∀ c, (h1.set 32 c)[31]? = _ := fun c => zg_ne (by decide) hM1
      have hS32 : ∀ c, (h1.set 32 c)[32]? = some c := fun c => zg_eq hS1
      have Q : MP h (nSt O St) (h1.set 32 (sC (oF O) St z1)) := ⟨a1.now St z1, f1.tr (frM.set (by decide)), by rw [zs_len, n1]⟩
      refine zw_aload_n dM_rotates_15 rfl ?_
      refine zw_get dM_rotates_16 zf_M_16 (by first | exact hM | exact hS | exact hM1 | exact hS1 | exact hM32 _ | exact hS32 _) rfl ?_
      refine zw_bipush (v := 109) dM_rotates_19 (by decide) ?_
      refine zw_aload_n dM_rotates_21 rfl ?_
      refine zw_get dM_rotates_22 zf_M_16 (by first | exact hM | exact hS | exact hM1 | exact hS1 | exact hM32 _ | exact hS32 _) rfl ?_
      refine zw_bipush (v := 109) dM_rotates_25 (by decide) ?_
      refine zw_iald dM_rotates_27 (by first | exact hM | exact hS | exact hM1 | exact hS1 | exact hM32 _ | exact hS32 _) v109 ?_
      rw [e109, ms_109]
      refine zw_iload_n dM_rotates_28 rfl ?_
      refine zw_iadd dM_rotates_29 ?_
      refine zw_iconst (v := 4) dM_rotates_30 (by decide) ?_
      refine zw_irem dM_rotates_31 n4 ?_
      rw [e4]
      refine zw_iast dM_rotates_32 (by first | exact hM | exact hS | exact hM1 | exact hS1 | exact hM32 _ | exact hS32 _) v109 ?_
      rw [e109]
      refine zw_h (sC_u1 (ms_h1 (oF O) (oS O) z1 q4)) ?_
      refine zw_iconst (v := 0) dM_rotates_33 (by decide) ?_
      refine zw_istore_n dM_rotates_34 (by decide) rfl ?_
      have L : ∀ (m i : Nat), i + m = fN (oF O) → WW l g mM_rotates (zrm (d + 3) 0 0) (fun _ => True) (zQQ g (PIh (nI q4) (MP h (nSt O St))) (h.length + 0) 0 0) 35 [(0, some (.ref 31)), (1, some (.int (nI q))), (2, some (.int (nI i)))] [] (h1.set 32 (iA 114 (fil (ms (oF O) (setHd (oS O) q4) z1) 72 i (fun i => nI (plN S2 i))))) 0 0 := by
        intro m
        induction m with
        | zero =>
          intro i hi
          have hi : i = fN (oF O) := by omega
          subst hi
          rw [eall z1]
          have cf := c_M_findsMaybe (l := l) (g := g) (d := d) (h := h1.set 32 (sC (oF O) S2 z1)) hF ok2 (hM32 _) (hS32 _)
          rw [zs_set, show sC (oF O) (found S2) z1 = sC (oF O) St z1 from by unfold sC; rw [efin]] at cf
          have r109 : ms (oF O) St z1 109 = nI q4 := by rw [ms_109, hhdt]
          have hfl : fN (oF (oRem O)) = fN (oF O) := rfl
          refine zw_iload_n dM_rotates_35 rfl ?_
          refine zw_aload_n dM_rotates_36 rfl ?_
          refine zc_V0I dM_rotates_37 zm_M_cells zk_M_57 (by first | exact hM32 _ | exact hS32 _) rfl (c_M_cells (hM32 _)) ?_ zRR (Nat.le_of_ble_eq_true rfl) ⟨Nat.le_of_ble_eq_true rfl, Nat.le_of_ble_eq_true rfl⟩
          refine zw_icmp_ge 78 dM_rotates_40 (by decide) (fun c_40 => ?_) (fun c_40 => ?_)
          · refine zw_aload_n dM_rotates_78 rfl ?_
            refine zc_V0V dM_rotates_79 zm_M_findsMaybe zk_M_120 (by first | exact hM32 _ | exact hS32 _) rfl cf ?_ zRR (Nat.le_of_ble_eq_true rfl) ⟨Nat.le_of_ble_eq_true rfl, Nat.le_of_ble_eq_true rfl⟩
            refine zw_aload_n dM_rotates_82 rfl ?_
            refine zw_get dM_rotates_83 zf_M_16 (by first | exact hM32 _ | exact hS32 _) rfl ?_
            refine zw_bipush (v := 109) dM_rotates_86 (by decide) ?_
            refine zw_iald dM_rotates_88 (by first | exact hM32 _ | exact hS32 _) v109 ?_
            rw [e109, r109]
            exact zw_iret dM_rotates_89 rfl rfl (zset_len1 _ _ _ n1) ⟨rfl, Q⟩
          · exact absurd (Int32.le_refl _) c_40
        | succ m ih =>
          intro i hi
          have hin : i < fN (oF O) := by omega
          obtain ⟨v1, v2, v3⟩ := vP hF hin
          have ep : fil (ms (oF O) (setHd (oS O) q4) z1) 72 i (fun i => nI (plN S2 i)) (72 + i) = nI (plN (oS O) i) := by rw [fil_out (by omega), ms_p hF hin]; rfl
          have es : upd (fil (ms (oF O) (setHd (oS O) q4) z1) 72 i (fun i => nI (plN S2 i))) (72 + i) (((nI (plN (oS O) i) <<< (nI q &&& 31)) &&& 15) ||| ((nI (plN (oS O) i) <<< (nI q &&& 31)) >>> ((4 : Int32) &&& 31))) = fil (ms (oF O) (setHd (oS O) q4) z1) 72 (i + 1) (fun i => nI (plN S2 i)) := by
            rw [show (((nI (plN (oS O) i) <<< (nI q &&& 31)) &&& 15) ||| ((nI (plN (oS O) i) <<< (nI q &&& 31)) >>> ((4 : Int32) &&& 31))) = nI (plN S2 i) from ev i]
            exact fil_s _ _ _ (fun i => nI (plN S2 i))
          have cc := c_M_cells (l := l) (g := g) (d := d + 2) (hM32 (iA 114 (fil (ms (oF O) (setHd (oS O) q4) z1) 72 i (fun i => nI (plN S2 i)))))
          have cc2 : Run l g mM_cells (d + 2) 0 0 [.ref 31] (h1.set 32 (iA 114 (fil (ms (oF O) (setHd (oS O) q4) z1) 72 i (fun i => nI (plN S2 i))))) (PI (nI (fN (oF O))) (h1.set 32 (iA 114 (fil (ms (oF O) (setHd (oS O) q4) z1) 72 i (fun i => nI (plN S2 i)))))) := cc
          refine zw_iload_n dM_rotates_35 rfl ?_
          refine zw_aload_n dM_rotates_36 rfl ?_
          refine zc_V0I dM_rotates_37 zm_M_cells zk_M_57 (by first | exact hM32 _ | exact hS32 _) rfl cc2 ?_ zRR (Nat.le_of_ble_eq_true rfl) ⟨Nat.le_of_ble_eq_true rfl, Nat.le_of_ble_eq_true rfl⟩
          refine zw_icmp_ge 78 dM_rotates_40 (by decide) (fun c_40 => ?_) (fun c_40 => ?_)
          · exact absurd ((nI_leI (by omega) (by omega)).mp c_40) (by omega)
          · refine zw_aload_n dM_rotates_43 rfl ?_
            refine zw_get dM_rotates_44 zf_M_16 (by first | exact hM32 _ | exact hS32 _) rfl ?_
            refine zw_bipush (v := 72) dM_rotates_47 (by decide) ?_
            refine zw_iload_n dM_rotates_49 rfl ?_
            refine zw_iadd dM_rotates_50 ?_
            rw [v1]
            refine zw_iald dM_rotates_51 (by first | exact hM32 _ | exact hS32 _) v2 ?_
            rw [v3, ep]
            refine zw_iload_n dM_rotates_52 rfl ?_
            refine zw_ishl dM_rotates_53 ?_
            refine zw_istore_n dM_rotates_54 (by decide) rfl ?_
            refine zw_aload_n dM_rotates_55 rfl ?_
            refine zw_get dM_rotates_56 zf_M_16 (by first | exact hM32 _ | exact hS32 _) rfl ?_
            refine zw_bipush (v := 72) dM_rotates_59 (by decide) ?_
            refine zw_iload_n dM_rotates_61 rfl ?_
            refine zw_iadd dM_rotates_62 ?_
            rw [v1]
            refine zw_iload_n dM_rotates_63 rfl ?_
            refine zw_bipush (v := 15) dM_rotates_64 (by decide) ?_
            refine zw_iand dM_rotates_66 ?_
            refine zw_iload_n dM_rotates_67 rfl ?_
            refine zw_iconst (v := 4) dM_rotates_68 (by decide) ?_
            refine zw_ishr dM_rotates_69 ?_
            refine zw_ior dM_rotates_70 ?_
            refine zw_iast dM_rotates_71 (by first | exact hM32 _ | exact hS32 _) v2 ?_
            rw [v3]
            refine zw_h (iAu es) ?_
            refine zw_incN dM_rotates_72 rfl (by decide) rfl ?_
            refine zw_goto 35 dM_rotates_75 (by decide) ?_
            exact zw_lk (ih (i + 1) (by omega)) ⟨rfl, rfl, rfl, trivial⟩
      have L0 := L (fN (oF O)) 0 (by omega)
      rw [fil_0] at L0
      exact zw_lk L0 ⟨rfl, rfl, rfl, trivial⟩
    · exact absurd c_6 (show ¬ (1 : Int32) = 0 by decide)
theorem ok_car0 {F : Fl} {S : Sit} (hh : sOK F S) {c hd : Nat} (hc : c < fN F) (h4 : hd < 4) : sOK F (carS0 F S c hd) := by
  have o1 := ok_hd (ok_at hh hc) h4
  refine ⟨o1.shut, o1.brim, o1.rate, o1.at, o1.hd, o1.ch, o1.kn, o1.knn, fun _ c2 j _ hp => ?_⟩
  have hp2 : carP F S c2 j = true := hp
  simp only [carP, Bool.and_eq_true, decide_eq_true_eq] at hp2
  exact hp2.1
theorem c_M_carries (a : MX h O) (ok : oOK' O) {x y : Int32} : Run l g mM_carries (d + 3) 0 0 [.ref 31, .int x, .int y] h (PIh (rCar O x y) (MP h (nCar O x y))) := by
  obtain ⟨⟨qa, qb, z, hM, hS⟩, -⟩ := id a
  have hF := ok.1
  have h36 := fN_le hF
  have hsz := ok.2.2.2.2.1
  have sok := ok.2.1
  have ch := c_M_isCell (l := l) (g := g) (d := d + 1) hF hM (x := x)
  have ci := c_M_inB (l := l) (g := g) (d := d + 2) (h := h) (x := y) (a := 0) (b := 3) (by decide) (by decide)
  unfold rCar nCar
  refine run_of (by decide) (Nat.le_of_ble_eq_true rfl) ?_
  cases hc : cel (oF O) x with
  | none =>
    rw [hc] at ch
    refine zw_aload_n dM_carries_0 rfl ?_
    refine zw_iload_n dM_carries_1 rfl ?_
    refine zc_V1I dM_carries_2 zm_M_isCell zk_M_94 hM rfl ch ?_ zRR (Nat.le_of_ble_eq_true rfl) ⟨Nat.le_of_ble_eq_true rfl, Nat.le_of_ble_eq_true rfl⟩
    refine zw_if_eq 25 dM_carries_5 (by decide) (fun c_5 => ?_) (fun c_5 => ?_)
    · refine zw_iconst (v := (-1)) dM_carries_25 (by decide) ?_
      exact zw_iret dM_carries_26 rfl rfl rfl ⟨rfl, MP.rf a⟩
    · exact absurd rfl c_5
  | some c =>
    obtain ⟨hcn, rfl⟩ := (cel_some hF).mp hc
    rw [hc] at ch
    have cd := c_M_isFree (l := l) (g := g) (d := d + 2) (S := oS O) (z := z) hF sok.shut hM hS hcn
    dsimp only
    cases hf : fre (oF O) (oS O) c with
    | false =>
      rw [hf] at cd
      rw [if_neg (by decide), if_neg (by decide)]
      refine zw_aload_n dM_carries_0 rfl ?_
      refine zw_iload_n dM_carries_1 rfl ?_
      refine zc_V1I dM_carries_2 zm_M_isCell zk_M_94 (by first | exact hM | exact hS) rfl ch ?_ zRR (Nat.le_of_ble_eq_true rfl) ⟨Nat.le_of_ble_eq_true rfl, Nat.le_of_ble_eq_true rfl⟩
      refine zw_if_eq 25 dM_carries_5 (by decide) (fun c_5 => ?_) (fun c_5 => ?_)
      · exact absurd c_5 (show ¬ (1 : Int32) = 0 by decide)
      · refine zw_aload_n dM_carries_8 rfl ?_
        refine zw_iload_n dM_carries_9 rfl ?_
        refine zc_V1I dM_carries_10 zm_M_isFree zk_M_103 (by first | exact hM | exact hS) rfl cd ?_ zRR (Nat.le_of_ble_eq_true rfl) ⟨Nat.le_of_ble_eq_true rfl, Nat.le_of_ble_eq_true rfl⟩
        refine zw_if_eq 25 dM_carries_13 (by decide) (fun c_13 => ?_) (fun c_13 => ?_)
        · refine zw_iconst (v := (-1)) dM_carries_25 (by decide) ?_
          exact zw_iret dM_carries_26 rfl rfl rfl ⟨rfl, MP.rf a⟩
        · exact absurd rfl c_13
    | true =>
      rw [hf] at cd
      rw [if_pos rfl, if_pos rfl]
      cases hb : btw y 0 3 with
      | none =>
        rw [hb] at ci
        refine zw_aload_n dM_carries_0 rfl ?_
        refine zw_iload_n dM_carries_1 rfl ?_
        refine zc_V1I dM_carries_2 zm_M_isCell zk_M_94 (by first | exact hM | exact hS) rfl ch ?_ zRR (Nat.le_of_ble_eq_true rfl) ⟨Nat.le_of_ble_eq_true rfl, Nat.le_of_ble_eq_true rfl⟩
        refine zw_if_eq 25 dM_carries_5 (by decide) (fun c_5 => ?_) (fun c_5 => ?_)
        · exact absurd c_5 (show ¬ (1 : Int32) = 0 by decide)
        · refine zw_aload_n dM_carries_8 rfl ?_
          refine zw_iload_n dM_carries_9 rfl ?_
          refine zc_V1I dM_carries_10 zm_M_isFree zk_M_103 (by first | exact hM | exact hS) rfl cd ?_ zRR (Nat.le_of_ble_eq_true rfl) ⟨Nat.le_of_ble_eq_true rfl, Nat.le_of_ble_eq_true rfl⟩
          refine zw_if_eq 25 dM_carries_13 (by decide) (fun c_13 => ?_) (fun c_13 => ?_)
          · exact absurd c_13 (show ¬ (1 : Int32) = 0 by decide)
          · refine zw_iload_n dM_carries_16 rfl ?_
            refine zw_iconst (v := 0) dM_carries_17 (by decide) ?_
            refine zw_iconst (v := 3) dM_carries_18 (by decide) ?_
            refine zc_S3I dM_carries_19 zm_M_in zk_M_67 ci ?_ zRR (Nat.le_of_ble_eq_true rfl) ⟨Nat.le_of_ble_eq_true rfl, Nat.le_of_ble_eq_true rfl⟩
            refine zw_if_ne 27 dM_carries_22 (by decide) (fun c_22 => ?_) (fun c_22 => ?_)
            · exact absurd rfl c_22
            · refine zw_iconst (v := (-1)) dM_carries_25 (by decide) ?_
              exact zw_iret dM_carries_26 rfl rfl rfl ⟨rfl, MP.rf a⟩
      | some hd =>
        rw [hb] at ci
        obtain ⟨-, hd3, rfl⟩ := (btw_some (by decide)).mp hb
        dsimp only
        obtain ⟨S0, hS0⟩ : ∃ S0, S0 = carS0 (oF O) (oS O) c hd := ⟨_, rfl⟩
        have ok0 : sOK (oF O) S0 := by rw [hS0]; exact ok_car0 sok hcn (by omega)
        have el : sLost S0 = true := by rw [hS0]; rfl
        have ep0 : sPl S0 = carP (oF O) (oS O) := by rw [hS0]; rfl
        have eC : carS (oF O) (oS O) c hd = found S0 := by rw [hS0]; rfl
        obtain ⟨mn, hmn⟩ : ∃ mn, mn = many (carP (oF O) (oS O)) := ⟨_, rfl⟩
        have emn : cnt (lpl S0) (4 * fN (oF O)) = mn := by rw [cnt_lpl hF ok0 el, ep0, hmn]
        rw [eC, ← hmn]
        have ecar : ∀ i, i < fN (oF O) → carP (oF O) (oS O) i = fun _ => ((!(fK (oF O) i == 3)) && (fK (oF O) i == 4 || !(sKn (oS O) i == 2))) := by
          intro i hi
          funext j
          simp only [carP, hi, decide_true, Bool.true_and]
          rfl
        obtain ⟨f0, hf0⟩ : ∃ f0 : (Nat → Int32) → Nat → Int32, ∀ z, f0 z = upd (upd (upd (ms (oF O) (oS O) z) 108 (nI c)) 109 (nI hd)) 111 1 := ⟨_, fun _ => rfl⟩
        have f0k : ∀ z j, j < 108 → f0 z j = ms (oF O) (oS O) z j := by
          intro z j hj
          rw [hf0, upd_ne _ _ (by omega), upd_ne _ _ (by omega), upd_ne _ _ (by omega)]
        have eall : ∀ z, fil (f0 z) 72 (fN (oF O)) (fun i => nI (plN S0 i)) = ms (oF O) S0 z := by
          intro z
          refine ms_fil hF (oS O) S0 z _ _ (fun i _ => rfl) (fun j hj => ?_)
          by_cases e : j = 111
          · subst e; rw [hf0, upd_eq, ms_111, el]; rfl
          · rw [hf0, upd_ne _ _ e, ms_h3, ms_h1]
            rw [hS0]
            simp only [ms]
            by_cases h1 : j < 36
            · simp only [h1, if_true]; rfl
            · by_cases h2 : j < 72
              · simp only [h1, h2, if_true, if_false]; rfl
              · by_cases h3 : j < 108
                · have h4 : ¬ j - 72 < fN (oF O) := by omega
                  simp only [h1, h2, h3, h4, if_true, if_false]
                · simp only [h1, h2, h3, e, if_false]; rfl
        have hlt3 : ∀ i, i < fN (oF O) → (nI (kdn (oF O) (oS O) i) = 3 ↔ fK (oF O) i = 3) := by
          intro i hi
          have := kdn_lt (S := oS O) hF hi
          rw [← kdn_3 (S := oS O) hF hi]
          exact nI_eq (b := 3) (by omega) (by omega)
        have hlt2 : ∀ i, nI (sKn (oS O) i) = 2 ↔ sKn (oS O) i = 2 := by
          intro i
          have := sok.kn i
          exact nI_eq (b := 2) (by omega) (by omega)
        have vb : ∀ b : Bool, nI (pb (fun _ => b)) = if b = true then 15 else 0 := by decide
        have v15 : ∀ i, i < fN (oF O) → nI (plN S0 i) = if ((!(fK (oF O) i == 3)) && (fK (oF O) i == 4 || !(sKn (oS O) i == 2))) = true then 15 else 0 := by
          intro i hi
          unfold plN
          rw [if_pos el, ep0, ecar i hi]
          exact vb _
        obtain ⟨pz, hpz⟩ : ∃ pz : Nat → Int32, ∀ i, pz i = nI (plN S0 i) := ⟨_, fun _ => rfl⟩
        have hpz' : (fun i => nI (plN S0 i)) = pz := funext fun i => (hpz i).symm
        rw [hpz'] at eall
        have v15' : ∀ i, i < fN (oF O) → pz i = if ((!(fK (oF O) i == 3)) && (fK (oF O) i == 4 || !(sKn (oS O) i == 2))) = true then 15 else 0 := fun i hi => (hpz i).trans (v15 i hi)
        refine zw_aload_n dM_carries_0 rfl ?_
        refine zw_iload_n dM_carries_1 rfl ?_
        refine zc_V1I dM_carries_2 zm_M_isCell zk_M_94 (by first | exact hM | exact hS | exact hM1 | exact hS1 | exact hM32 _ | exact hS32 _) rfl ch ?_ zRR (Nat.le_of_ble_eq_true rfl) ⟨Nat.le_of_ble_eq_true rfl, Nat.le_of_ble_eq_true rfl⟩
        refine zw_if_eq 25 dM_carries_5 (by decide) (fun c_5 => ?_) (fun c_5 => ?_)
        · exact absurd c_5 (show ¬ (1 : Int32) = 0 by decide)
        · refine zw_aload_n dM_carries_8 rfl ?_
          refine zw_iload_n dM_carries_9 rfl ?_
          refine zc_V1I dM_carries_10 zm_M_isFree zk_M_103 (by first | exact hM | exact hS | exact hM1 | exact hS1 | exact hM32 _ | exact hS32 _) rfl cd ?_ zRR (Nat.le_of_ble_eq_true rfl) ⟨Nat.le_of_ble_eq_true rfl, Nat.le_of_ble_eq_true rfl⟩
          refine zw_if_eq 25 dM_carries_13 (by decide) (fun c_13 => ?_) (fun c_13 => ?_)
          · exact absurd c_13 (show ¬ (1 : Int32) = 0 by decide)
          · refine zw_iload_n dM_carries_16 rfl ?_
            refine zw_iconst (v := 0) dM_carries_17 (by decide) ?_
            refine zw_iconst (v := 3) dM_carries_18 (by decide) ?_
            refine zc_S3I dM_carries_19 zm_M_in zk_M_67 ci ?_ zRR (Nat.le_of_ble_eq_true rfl) ⟨Nat.le_of_ble_eq_true rfl, Nat.le_of_ble_eq_true rfl⟩
            refine zw_if_ne 27 dM_carries_22 (by decide) (fun c_22 => ?_) (fun c_22 => ?_)
            · refine zw_aload_n dM_carries_27 rfl ?_
              refine zx_V0V dM_carries_28 zm_M_remembers zk_M_97 (by first | exact hM | exact hS | exact hM1 | exact hS1 | exact hM32 _ | exact hS32 _) rfl (c_M_remembers a hsz) zRR (Nat.le_of_ble_eq_true rfl) ⟨Nat.le_of_ble_eq_true rfl, Nat.le_of_ble_eq_true rfl⟩ ?_
              rintro h1 ⟨a1, f1, n1⟩
              obtain ⟨⟨qa1, qb1, z1, hM1, hS1⟩, -⟩ := id a1
              have hM1 : h1[31]? = some (mC (oF O) (oSz (oRem O)) (oLen O) qa1 qb1) := hM1
              have hS1 : h1[32]? = some (sC (oF O) (oS O) z1) := hS1
              have hM32 : ∀ c, (h1.set 32 c)[31]? = _ := fun c => zg_ne (by decide) hM1
              have hS32 : ∀ c, (h1.set 32 c)[32]? = some c := fun c => zg_eq hS1
              have Q : MP h (nSt O (found S0)) (h1.set 32 (sC (oF O) (found S0) z1)) := ⟨a1.now (found S0) z1, f1.tr (frM.set (by decide)), by rw [zs_len, n1]⟩
              refine zw_aload_n dM_carries_31 rfl ?_
              refine zw_get dM_carries_32 zf_M_16 (by first | exact hM | exact hS | exact hM1 | exact hS1 | exact hM32 _ | exact hS32 _) rfl ?_
              refine zw_bipush (v := 108) dM_carries_35 (by decide) ?_
              refine zw_iload_n dM_carries_37 rfl ?_
              refine zw_iast dM_carries_38 (by first | exact hM | exact hS | exact hM1 | exact hS1 | exact hM32 _ | exact hS32 _) v108 ?_
              rw [e108]
              refine zw_aload_n dM_carries_39 rfl ?_
              refine zw_get dM_carries_40 zf_M_16 (by first | exact hM | exact hS | exact hM1 | exact hS1 | exact hM32 _ | exact hS32 _) rfl ?_
              refine zw_bipush (v := 109) dM_carries_43 (by decide) ?_
              refine zw_iload_n dM_carries_45 rfl ?_
              refine zw_iast dM_carries_46 (by first | exact hM | exact hS | exact hM1 | exact hS1 | exact hM32 _ | exact hS32 _) v109 ?_
              rw [e109]
              refine zw_h (iAu rfl) ?_
              refine zw_aload_n dM_carries_47 rfl ?_
              refine zw_get dM_carries_48 zf_M_16 (by first | exact hM | exact hS | exact hM1 | exact hS1 | exact hM32 _ | exact hS32 _) rfl ?_
              refine zw_bipush (v := 111) dM_carries_51 (by decide) ?_
              refine zw_iconst (v := 1) dM_carries_53 (by decide) ?_
              refine zw_iast dM_carries_54 (by first | exact hM | exact hS | exact hM1 | exact hS1 | exact hM32 _ | exact hS32 _) v111 ?_
              rw [e111]
              refine zw_h (iAu (hf0 z1).symm) ?_
              refine zw_iconst (v := 0) dM_carries_55 (by decide) ?_
              refine zw_istore_n dM_carries_56 (by decide) rfl ?_
              have L : ∀ (m i : Nat), i + m = fN (oF O) → WW l g mM_carries (zrm (d + 3) 0 0) (fun _ => True) (zQQ g (PIh (nI mn) (MP h (nSt O (found S0)))) (h.length + 0) 0 0) 57 [(0, some (.ref 31)), (3, some (.int (nI i)))] [] (h1.set 32 (iA 114 (fil (f0 z1) 72 i pz))) 0 0 := by
                intro m
                induction m with
                | zero =>
                  intro i hi
                  have hi : i = fN (oF O) := by omega
                  subst hi
                  rw [eall z1]
                  have cm := c_M_manyPlaces (l := l) (g := g) (d := d + 1) (h := h1.set 32 (sC (oF O) S0 z1)) hF (hM32 _) (hS32 _)
                  rw [emn] at cm
                  have cf := c_M_findsMaybe (l := l) (g := g) (d := d) (h := h1.set 32 (sC (oF O) S0 z1)) hF ok0 (hM32 _) (hS32 _)
                  rw [zs_set] at cf
                  refine zw_iload_n dM_carries_57 rfl ?_
                  refine zw_aload_n dM_carries_58 rfl ?_
                  refine zc_V0I dM_carries_59 zm_M_cells zk_M_57 (by first | exact hM32 _ | exact hS32 _) rfl (c_M_cells (hM32 _)) ?_ zRR (Nat.le_of_ble_eq_true rfl) ⟨Nat.le_of_ble_eq_true rfl, Nat.le_of_ble_eq_true rfl⟩
                  refine zw_icmp_ge 129 dM_carries_62 (by decide) (fun c_62 => ?_) (fun c_62 => ?_)
                  · refine zw_aload_n dM_carries_129 rfl ?_
                    refine zc_V0I dM_carries_130 zm_M_manyPlaces zk_M_106 (by first | exact hM32 _ | exact hS32 _) rfl cm ?_ zRR (Nat.le_of_ble_eq_true rfl) ⟨Nat.le_of_ble_eq_true rfl, Nat.le_of_ble_eq_true rfl⟩
                    refine zw_istore_n dM_carries_133 (by decide) rfl ?_
                    refine zw_aload_n dM_carries_134 rfl ?_
                    refine zc_V0V dM_carries_135 zm_M_findsMaybe zk_M_120 (by first | exact hM32 _ | exact hS32 _) rfl cf ?_ zRR (Nat.le_of_ble_eq_true rfl) ⟨Nat.le_of_ble_eq_true rfl, Nat.le_of_ble_eq_true rfl⟩
                    refine zw_iload_n dM_carries_138 rfl ?_
                    exact zw_iret dM_carries_139 rfl rfl (zset_len1 _ _ _ n1) ⟨rfl, Q⟩
                  · exact absurd (Int32.le_refl _) c_62
                | succ m ih =>
                  intro i hi
                  have hin : i < fN (oF O) := by omega
                  obtain ⟨v1, v2, v3⟩ := vP hF hin
                  obtain ⟨w1, w2, w3⟩ := vK hF hin
                  have hcl := clk hF hin
                  have p1 : fil (f0 z1) 72 i pz i = nI (kdn (oF O) (oS O) i) := by rw [fil_out (by omega), f0k _ _ (by omega), ms_k hF hin]
                  have p2 : fil (f0 z1) 72 i pz (36 + i) = nI (sKn (oS O) i) := by rw [fil_out (by omega), f0k _ _ (by omega), ms_n hF hin]
                  have vi := v15' i hin
                  have k1 : fK (oF O) i = 3 → pz i = 0 := fun q => by rw [vi, if_neg (by simp [q])]
                  have k2 : sKn (oS O) i = 2 → ¬ fK (oF O) i = 4 → pz i = 0 := fun q q2 => by rw [vi, if_neg (by simp [q, q2])]
                  have k3 : ¬ fK (oF O) i = 3 → ¬ sKn (oS O) i = 2 → pz i = 15 := fun q q2 => by rw [vi, if_pos (by simp [q, q2])]
                  have k4 : ¬ fK (oF O) i = 3 → fK (oF O) i = 4 → pz i = 15 := fun q q2 => by rw [vi, if_pos (by simp [q2])]
                  have es : upd (fil (f0 z1) 72 i pz) (72 + i) (pz i) = fil (f0 z1) 72 (i + 1) pz := fil_s _ _ _ _
                  have l3 := hlt3 i hin
                  have l2 := hlt2 i
                  have hM32' := hM32 (iA 114 (fil (f0 z1) 72 i pz))
                  have hS32' := hS32 (iA 114 (fil (f0 z1) 72 i pz))
                  have cc : Run l g mM_cells (d + 2) 0 0 [.ref 31] (h1.set 32 (iA 114 (fil (f0 z1) 72 i pz))) (PI (nI (fN (oF O))) (h1.set 32 (iA 114 (fil (f0 z1) 72 i pz)))) := c_M_cells (hM32 _)
                  have cdr : Run l g mM_isDoor (d + 2) 0 0 [.ref 31, .int (nI i)] (h1.set 32 (iA 114 (fil (f0 z1) 72 i pz))) (PI (if fK (oF O) i = 4 then 1 else 0) (h1.set 32 (iA 114 (fil (f0 z1) 72 i pz)))) := by
                    have ev := (kdn_door (S := oS O) hF hin)
                    have hlt := kdn_lt (S := oS O) hF hin
                    clear ih vi es l3 l2 cc k1 k2 k3 k4
                    refine run_of (by decide) (Nat.le_of_ble_eq_true rfl) ?_
                    refine zw_aload_n dM_isDoor_0 rfl ?_
                    refine zw_get dM_isDoor_1 zf_M_16 (by first | exact hM32' | exact hS32') rfl ?_
                    refine zw_iload_n dM_isDoor_4 rfl ?_
                    refine zw_iald dM_isDoor_5 (by first | exact hM32' | exact hS32') (vk hF hin) ?_
                    rw [hcl, p1]
                    refine zw_iconst (v := 4) dM_isDoor_6 (by decide) ?_
                    refine zw_icmp_eq 20 dM_isDoor_7 (by decide) (fun c_7 => ?_) (fun c_7 => ?_)
                    · refine zw_iconst (v := 1) dM_isDoor_20 (by decide) ?_
                      refine zw_goto 25 dM_isDoor_21 (by decide) ?_
                      exact zw_iret dM_isDoor_25 rfl rfl rfl ⟨by
                first
                  | (rw [if_pos (ev.mp (Or.inl ((nI_eq (b := 4) (by omega) (by omega)).mp c_7)))])
                  | (rw [if_pos (ev.mp (Or.inr ((nI_eq (b := 5) (by omega) (by omega)).mp c_17)))])
                  | (rw [if_neg (fun q => by
                      rcases ev.mpr q with q | q
                      · exact c_7 (by rw [q]; rfl)
                      · exact c_17 (by rw [q]; rfl))]), rfl⟩
                    · refine zw_aload_n dM_isDoor_10 rfl ?_
                      refine zw_get dM_isDoor_11 zf_M_16 (by first | exact hM32' | exact hS32') rfl ?_
                      refine zw_iload_n dM_isDoor_14 rfl ?_
                      refine zw_iald dM_isDoor_15 (by first | exact hM32' | exact hS32') (vk hF hin) ?_
                      rw [hcl, p1]
                      refine zw_iconst (v := 5) dM_isDoor_16 (by decide) ?_
                      refine zw_icmp_ne 24 dM_isDoor_17 (by decide) (fun c_17 => ?_) (fun c_17 => ?_)
                      · refine zw_iconst (v := 0) dM_isDoor_24 (by decide) ?_
                        exact zw_iret dM_isDoor_25 rfl rfl rfl ⟨by
                first
                  | (rw [if_pos (ev.mp (Or.inl ((nI_eq (b := 4) (by omega) (by omega)).mp c_7)))])
                  | (rw [if_pos (ev.mp (Or.inr ((nI_eq (b := 5) (by omega) (by omega)).mp c_17)))])
                  | (rw [if_neg (fun q => by
                      rcases ev.mpr q with q | q
                      · exact c_7 (by rw [q]; rfl)
                      · exact c_17 (by rw [q]; rfl))]), rfl⟩
                      · refine zw_iconst (v := 1) dM_isDoor_20 (by decide) ?_
                        refine zw_goto 25 dM_isDoor_21 (by decide) ?_
                        exact zw_iret dM_isDoor_25 rfl rfl rfl ⟨by
                first
                  | (rw [if_pos (ev.mp (Or.inl ((nI_eq (b := 4) (by omega) (by omega)).mp c_7)))])
                  | (rw [if_pos (ev.mp (Or.inr ((nI_eq (b := 5) (by omega) (by omega)).mp c_17)))])
                  | (rw [if_neg (fun q => by
                      rcases ev.mpr q with q | q
                      · exact c_7 (by rw [q]; rfl)
                      · exact c_17 (by rw [q]; rfl))]), rfl⟩
                  refine zw_iload_n dM_carries_57 rfl ?_
                  refine zw_aload_n dM_carries_58 rfl ?_
                  refine zc_V0I dM_carries_59 zm_M_cells zk_M_57 (by first | exact hM32' | exact hS32') rfl cc ?_ zRR (Nat.le_of_ble_eq_true rfl) ⟨Nat.le_of_ble_eq_true rfl, Nat.le_of_ble_eq_true rfl⟩
                  refine zw_icmp_ge 129 dM_carries_62 (by decide) (fun c_62 => ?_) (fun c_62 => ?_)
                  · exact absurd ((nI_leI (by omega) (by omega)).mp c_62) (by omega)
                  · refine zw_aload_n dM_carries_65 rfl ?_
                    refine zw_get dM_carries_66 zf_M_16 (by first | exact hM32' | exact hS32') rfl ?_
                    refine zw_iload_n dM_carries_69 rfl ?_
                    refine zw_iald dM_carries_70 (by first | exact hM32' | exact hS32') (vk hF hin) ?_
                    rw [hcl, p1]
                    refine zw_iconst (v := 3) dM_carries_71 (by decide) ?_
                    refine zw_icmp_eq 100 dM_carries_72 (by decide) (fun c_72 => ?_) (fun c_72 => ?_)
                    · refine zw_iconst (v := 0) dM_carries_100 (by decide) ?_
                      refine zw_istore dM_carries_101 (by decide) rfl ?_
                      refine zw_aload_n dM_carries_103 rfl ?_
                      refine zw_get dM_carries_104 zf_M_16 (by first | exact hM32' | exact hS32') rfl ?_
                      refine zw_bipush (v := 72) dM_carries_107 (by decide) ?_
                      refine zw_iload_n dM_carries_109 rfl ?_
                      refine zw_iadd dM_carries_110 ?_
                      rw [v1]
                      refine zw_iload dM_carries_111 rfl ?_
                      refine zw_if_eq 121 dM_carries_113 (by decide) (fun c_113 => ?_) (fun c_113 => ?_)
                      · refine zw_iconst (v := 0) dM_carries_121 (by decide) ?_
                        have cont : ∀ v, pz i = v → WW l g mM_carries (zrm (d + 3) 0 0) (fun _ => True) (zQQ g (PIh (nI mn) (MP h (nSt O (found S0)))) (h.length + 0) 0 0) 122 [(0, some (.ref 31)), (3, some (.int (nI i)))] [.int v, .int (nI (72 + i)), .ref 32] (h1.set 32 (iA 114 (fil (f0 z1) 72 i pz))) 0 0 := by
                          intro v hv
                          refine zw_iast dM_carries_122 hS32' v2 ?_
                          rw [v3, ← hv]
                          refine zw_h (iAu es) ?_
                          refine zw_incN dM_carries_123 rfl (by decide) rfl ?_
                          refine zw_goto 57 dM_carries_126 (by decide) ?_
                          exact zw_lk (ih (i + 1) (by omega)) ⟨rfl, rfl, trivial⟩
                        first
                          | exact absurd c_113 (by decide)
                          | exact absurd rfl c_113
                          | exact zw_lk (cont 0 (k1 (l3.mp c_72))) ⟨rfl, rfl, trivial⟩
                          | exact zw_lk (cont 0 (k2 (l2.mp c_85) (d10 c_93))) ⟨rfl, rfl, trivial⟩
                          | exact zw_lk (cont 15 (k3 (fun q => c_72 (l3.mpr q)) (fun q => c_85 (l2.mpr q)))) ⟨rfl, rfl, trivial⟩
                          | exact zw_lk (cont 15 (k4 (fun q => c_72 (l3.mpr q)) (d11 c_93))) ⟨rfl, rfl, trivial⟩
                      · refine zw_bipush (v := 15) dM_carries_116 (by decide) ?_
                        refine zw_goto 122 dM_carries_118 (by decide) ?_
                        have cont : ∀ v, pz i = v → WW l g mM_carries (zrm (d + 3) 0 0) (fun _ => True) (zQQ g (PIh (nI mn) (MP h (nSt O (found S0)))) (h.length + 0) 0 0) 122 [(0, some (.ref 31)), (3, some (.int (nI i)))] [.int v, .int (nI (72 + i)), .ref 32] (h1.set 32 (iA 114 (fil (f0 z1) 72 i pz))) 0 0 := by
                          intro v hv
                          refine zw_iast dM_carries_122 hS32' v2 ?_
                          rw [v3, ← hv]
                          refine zw_h (iAu es) ?_
                          refine zw_incN dM_carries_123 rfl (by decide) rfl ?_
                          refine zw_goto 57 dM_carries_126 (by decide) ?_
                          exact zw_lk (ih (i + 1) (by omega)) ⟨rfl, rfl, trivial⟩
                        first
                          | exact absurd c_113 (by decide)
                          | exact absurd rfl c_113
                          | exact zw_lk (cont 0 (k1 (l3.mp c_72))) ⟨rfl, rfl, trivial⟩
                          | exact zw_lk (cont 0 (k2 (l2.mp c_85) (d10 c_93))) ⟨rfl, rfl, trivial⟩
                          | exact zw_lk (cont 15 (k3 (fun q => c_72 (l3.mpr q)) (fun q => c_85 (l2.mpr q)))) ⟨rfl, rfl, trivial⟩
                          | exact zw_lk (cont 15 (k4 (fun q => c_72 (l3.mpr q)) (d11 c_93))) ⟨rfl, rfl, trivial⟩
                    · refine zw_aload_n dM_carries_75 rfl ?_
                      refine zw_get dM_carries_76 zf_M_16 (by first | exact hM32' | exact hS32') rfl ?_
                      refine zw_bipush (v := 36) dM_carries_79 (by decide) ?_
                      refine zw_iload_n dM_carries_81 rfl ?_
                      refine zw_iadd dM_carries_82 ?_
                      rw [w1]
                      refine zw_iald dM_carries_83 (by first | exact hM32' | exact hS32') w2 ?_
                      rw [w3, p2]
                      refine zw_iconst (v := 2) dM_carries_84 (by decide) ?_
                      refine zw_icmp_ne 96 dM_carries_85 (by decide) (fun c_85 => ?_) (fun c_85 => ?_)
                      · refine zw_iconst (v := 1) dM_carries_96 (by decide) ?_
                        refine zw_goto 101 dM_carries_97 (by decide) ?_
                        refine zw_istore dM_carries_101 (by decide) rfl ?_
                        refine zw_aload_n dM_carries_103 rfl ?_
                        refine zw_get dM_carries_104 zf_M_16 (by first | exact hM32' | exact hS32') rfl ?_
                        refine zw_bipush (v := 72) dM_carries_107 (by decide) ?_
                        refine zw_iload_n dM_carries_109 rfl ?_
                        refine zw_iadd dM_carries_110 ?_
                        rw [v1]
                        refine zw_iload dM_carries_111 rfl ?_
                        refine zw_if_eq 121 dM_carries_113 (by decide) (fun c_113 => ?_) (fun c_113 => ?_)
                        · refine zw_iconst (v := 0) dM_carries_121 (by decide) ?_
                          have cont : ∀ v, pz i = v → WW l g mM_carries (zrm (d + 3) 0 0) (fun _ => True) (zQQ g (PIh (nI mn) (MP h (nSt O (found S0)))) (h.length + 0) 0 0) 122 [(0, some (.ref 31)), (3, some (.int (nI i)))] [.int v, .int (nI (72 + i)), .ref 32] (h1.set 32 (iA 114 (fil (f0 z1) 72 i pz))) 0 0 := by
                            intro v hv
                            refine zw_iast dM_carries_122 hS32' v2 ?_
                            rw [v3, ← hv]
                            refine zw_h (iAu es) ?_
                            refine zw_incN dM_carries_123 rfl (by decide) rfl ?_
                            refine zw_goto 57 dM_carries_126 (by decide) ?_
                            exact zw_lk (ih (i + 1) (by omega)) ⟨rfl, rfl, trivial⟩
                          first
                            | exact absurd c_113 (by decide)
                            | exact absurd rfl c_113
                            | exact zw_lk (cont 0 (k1 (l3.mp c_72))) ⟨rfl, rfl, trivial⟩
                            | exact zw_lk (cont 0 (k2 (l2.mp c_85) (d10 c_93))) ⟨rfl, rfl, trivial⟩
                            | exact zw_lk (cont 15 (k3 (fun q => c_72 (l3.mpr q)) (fun q => c_85 (l2.mpr q)))) ⟨rfl, rfl, trivial⟩
                            | exact zw_lk (cont 15 (k4 (fun q => c_72 (l3.mpr q)) (d11 c_93))) ⟨rfl, rfl, trivial⟩
                        · refine zw_bipush (v := 15) dM_carries_116 (by decide) ?_
                          refine zw_goto 122 dM_carries_118 (by decide) ?_
                          have cont : ∀ v, pz i = v → WW l g mM_carries (zrm (d + 3) 0 0) (fun _ => True) (zQQ g (PIh (nI mn) (MP h (nSt O (found S0)))) (h.length + 0) 0 0) 122 [(0, some (.ref 31)), (3, some (.int (nI i)))] [.int v, .int (nI (72 + i)), .ref 32] (h1.set 32 (iA 114 (fil (f0 z1) 72 i pz))) 0 0 := by
                            intro v hv
                            refine zw_iast dM_carries_122 hS32' v2 ?_
                            rw [v3, ← hv]
                            refine zw_h (iAu es) ?_
                            refine zw_incN dM_carries_123 rfl (by decide) rfl ?_
                            refine zw_goto 57 dM_carries_126 (by decide) ?_
                            exact zw_lk (ih (i + 1) (by omega)) ⟨rfl, rfl, trivial⟩
                          first
                            | exact absurd c_113 (by decide)
                            | exact absurd rfl c_113
                            | exact zw_lk (cont 0 (k1 (l3.mp c_72))) ⟨rfl, rfl, trivial⟩
                            | exact zw_lk (cont 0 (k2 (l2.mp c_85) (d10 c_93))) ⟨rfl, rfl, trivial⟩
                            | exact zw_lk (cont 15 (k3 (fun q => c_72 (l3.mpr q)) (fun q => c_85 (l2.mpr q)))) ⟨rfl, rfl, trivial⟩
                            | exact zw_lk (cont 15 (k4 (fun q => c_72 (l3.mpr q)) (d11 c_93))) ⟨rfl, rfl, trivial⟩
                      · refine zw_aload_n dM_carries_88 rfl ?_
                        refine zw_iload_n dM_carries_89 rfl ?_
                        refine zc_V1I dM_carries_90 zm_M_isDoor zk_M_100 (by first | exact hM32' | exact hS32') rfl cdr ?_ zRR (Nat.le_of_ble_eq_true rfl) ⟨Nat.le_of_ble_eq_true rfl, Nat.le_of_ble_eq_true rfl⟩
                        refine zw_if_eq 100 dM_carries_93 (by decide) (fun c_93 => ?_) (fun c_93 => ?_)
                        · refine zw_iconst (v := 0) dM_carries_100 (by decide) ?_
                          refine zw_istore dM_carries_101 (by decide) rfl ?_
                          refine zw_aload_n dM_carries_103 rfl ?_
                          refine zw_get dM_carries_104 zf_M_16 (by first | exact hM32' | exact hS32') rfl ?_
                          refine zw_bipush (v := 72) dM_carries_107 (by decide) ?_
                          refine zw_iload_n dM_carries_109 rfl ?_
                          refine zw_iadd dM_carries_110 ?_
                          rw [v1]
                          refine zw_iload dM_carries_111 rfl ?_
                          refine zw_if_eq 121 dM_carries_113 (by decide) (fun c_113 => ?_) (fun c_113 => ?_)
                          · refine zw_iconst (v := 0) dM_carries_121 (by decide) ?_
                            have cont : ∀ v, pz i = v → WW l g mM_carries (zrm (d + 3) 0 0) (fun _ => True) (zQQ g (PIh (nI mn) (MP h (nSt O (found S0)))) (h.length + 0) 0 0) 122 [(0, some (.ref 31)), (3, some (.int (nI i)))] [.int v, .int (nI (72 + i)), .ref 32] (h1.set 32 (iA 114 (fil (f0 z1) 72 i pz))) 0 0 := by
                              intro v hv
                              refine zw_iast dM_carries_122 hS32' v2 ?_
                              rw [v3, ← hv]
                              refine zw_h (iAu es) ?_
                              refine zw_incN dM_carries_123 rfl (by decide) rfl ?_
                              refine zw_goto 57 dM_carries_126 (by decide) ?_
                              exact zw_lk (ih (i + 1) (by omega)) ⟨rfl, rfl, trivial⟩
                            first
                              | exact absurd c_113 (by decide)
                              | exact absurd rfl c_113
                              | exact zw_lk (cont 0 (k1 (l3.mp c_72))) ⟨rfl, rfl, trivial⟩
                              | exact zw_lk (cont 0 (k2 (l2.mp c_85) (d10 c_93))) ⟨rfl, rfl, trivial⟩
                              | exact zw_lk (cont 15 (k3 (fun q => c_72 (l3.mpr q)) (fun q => c_85 (l2.mpr q)))) ⟨rfl, rfl, trivial⟩
                              | exact zw_lk (cont 15 (k4 (fun q => c_72 (l3.mpr q)) (d11 c_93))) ⟨rfl, rfl, trivial⟩
                          · refine zw_bipush (v := 15) dM_carries_116 (by decide) ?_
                            refine zw_goto 122 dM_carries_118 (by decide) ?_
                            have cont : ∀ v, pz i = v → WW l g mM_carries (zrm (d + 3) 0 0) (fun _ => True) (zQQ g (PIh (nI mn) (MP h (nSt O (found S0)))) (h.length + 0) 0 0) 122 [(0, some (.ref 31)), (3, some (.int (nI i)))] [.int v, .int (nI (72 + i)), .ref 32] (h1.set 32 (iA 114 (fil (f0 z1) 72 i pz))) 0 0 := by
                              intro v hv
                              refine zw_iast dM_carries_122 hS32' v2 ?_
                              rw [v3, ← hv]
                              refine zw_h (iAu es) ?_
                              refine zw_incN dM_carries_123 rfl (by decide) rfl ?_
                              refine zw_goto 57 dM_carries_126 (by decide) ?_
                              exact zw_lk (ih (i + 1) (by omega)) ⟨rfl, rfl, trivial⟩
                            first
                              | exact absurd c_113 (by decide)
                              | exact absurd rfl c_113
                              | exact zw_lk (cont 0 (k1 (l3.mp c_72))) ⟨rfl, rfl, trivial⟩
                              | exact zw_lk (cont 0 (k2 (l2.mp c_85) (d10 c_93))) ⟨rfl, rfl, trivial⟩
                              | exact zw_lk (cont 15 (k3 (fun q => c_72 (l3.mpr q)) (fun q => c_85 (l2.mpr q)))) ⟨rfl, rfl, trivial⟩
                              | exact zw_lk (cont 15 (k4 (fun q => c_72 (l3.mpr q)) (d11 c_93))) ⟨rfl, rfl, trivial⟩
                        · refine zw_iconst (v := 1) dM_carries_96 (by decide) ?_
                          refine zw_goto 101 dM_carries_97 (by decide) ?_
                          refine zw_istore dM_carries_101 (by decide) rfl ?_
                          refine zw_aload_n dM_carries_103 rfl ?_
                          refine zw_get dM_carries_104 zf_M_16 (by first | exact hM32' | exact hS32') rfl ?_
                          refine zw_bipush (v := 72) dM_carries_107 (by decide) ?_
                          refine zw_iload_n dM_carries_109 rfl ?_
                          refine zw_iadd dM_carries_110 ?_
                          rw [v1]
                          refine zw_iload dM_carries_111 rfl ?_
                          refine zw_if_eq 121 dM_carries_113 (by decide) (fun c_113 => ?_) (fun c_113 => ?_)
                          · refine zw_iconst (v := 0) dM_carries_121 (by decide) ?_
                            have cont : ∀ v, pz i = v → WW l g mM_carries (zrm (d + 3) 0 0) (fun _ => True) (zQQ g (PIh (nI mn) (MP h (nSt O (found S0)))) (h.length + 0) 0 0) 122 [(0, some (.ref 31)), (3, some (.int (nI i)))] [.int v, .int (nI (72 + i)), .ref 32] (h1.set 32 (iA 114 (fil (f0 z1) 72 i pz))) 0 0 := by
                              intro v hv
                              refine zw_iast dM_carries_122 hS32' v2 ?_
                              rw [v3, ← hv]
                              refine zw_h (iAu es) ?_
                              refine zw_incN dM_carries_123 rfl (by decide) rfl ?_
                              refine zw_goto 57 dM_carries_126 (by decide) ?_
                              exact zw_lk (ih (i + 1) (by omega)) ⟨rfl, rfl, trivial⟩
                            first
                              | exact absurd c_113 (by decide)
                              | exact absurd rfl c_113
                              | exact zw_lk (cont 0 (k1 (l3.mp c_72))) ⟨rfl, rfl, trivial⟩
                              | exact zw_lk (cont 0 (k2 (l2.mp c_85) (d10 c_93))) ⟨rfl, rfl, trivial⟩
                              | exact zw_lk (cont 15 (k3 (fun q => c_72 (l3.mpr q)) (fun q => c_85 (l2.mpr q)))) ⟨rfl, rfl, trivial⟩
                              | exact zw_lk (cont 15 (k4 (fun q => c_72 (l3.mpr q)) (d11 c_93))) ⟨rfl, rfl, trivial⟩
                          · refine zw_bipush (v := 15) dM_carries_116 (by decide) ?_
                            refine zw_goto 122 dM_carries_118 (by decide) ?_
                            have cont : ∀ v, pz i = v → WW l g mM_carries (zrm (d + 3) 0 0) (fun _ => True) (zQQ g (PIh (nI mn) (MP h (nSt O (found S0)))) (h.length + 0) 0 0) 122 [(0, some (.ref 31)), (3, some (.int (nI i)))] [.int v, .int (nI (72 + i)), .ref 32] (h1.set 32 (iA 114 (fil (f0 z1) 72 i pz))) 0 0 := by
                              intro v hv
                              refine zw_iast dM_carries_122 hS32' v2 ?_
                              rw [v3, ← hv]
                              refine zw_h (iAu es) ?_
                              refine zw_incN dM_carries_123 rfl (by decide) rfl ?_
                              refine zw_goto 57 dM_carries_126 (by decide) ?_
                              exact zw_lk (ih (i + 1) (by omega)) ⟨rfl, rfl, trivial⟩
                            first
                              | exact absurd c_113 (by decide)
                              | exact absurd rfl c_113
                              | exact zw_lk (cont 0 (k1 (l3.mp c_72))) ⟨rfl, rfl, trivial⟩
                              | exact zw_lk (cont 0 (k2 (l2.mp c_85) (d10 c_93))) ⟨rfl, rfl, trivial⟩
                              | exact zw_lk (cont 15 (k3 (fun q => c_72 (l3.mpr q)) (fun q => c_85 (l2.mpr q)))) ⟨rfl, rfl, trivial⟩
                              | exact zw_lk (cont 15 (k4 (fun q => c_72 (l3.mpr q)) (d11 c_93))) ⟨rfl, rfl, trivial⟩
              have L0 := L (fN (oF O)) 0 (by omega)
              rw [fil_0] at L0
              exact zw_lk L0 ⟨rfl, rfl, trivial⟩
            · exact absurd c_22 (show ¬ (1 : Int32) = 0 by decide)
end C59
