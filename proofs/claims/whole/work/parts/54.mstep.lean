/-! ===== the reference: a step ===== -/
def NP (F : Fl) (S : Sit) (t : Nat) : Nat → Nat → Bool := if t = 0 then moveP F (keepP F S 0 0 (sPl S)) else keepP F S t 0 (sPl S)
def nq (F : Fl) (S : Sit) (t k : Nat) : Nat → Nat → Bool := fun c j => if t = 0 then (match nb F c ((j + 2) % 4) with | none => false | some b => decide (4 * b + j < k) && keepP F S 0 0 (sPl S) b j) else decide (4 * c + j < k) && keepP F S t 0 (sPl S) c j
theorem fil_upd {f : Nat → Int32} {n : Nat} {v v' : Nat → Int32} {T : Nat} {x : Int32} (hT : T < n) (hx : x = v' T) (hv : ∀ c, c < n → c ≠ T → v' c = v c) : upd (fil f 0 n v) T x = fil f 0 n v' := by
  funext j
  by_cases e : j = T
  · subst e
    rw [upd_eq, hx]
    have := fil_in (f := f) (b := 0) (v := v') hT
    rw [Nat.zero_add] at this
    rw [this]
  · rw [upd_ne _ _ e]
    by_cases hj : j < n
    · have a1 := fil_in (f := f) (b := 0) (v := v') hj
      have a2 := fil_in (f := f) (b := 0) (v := v) hj
      rw [Nat.zero_add] at a1 a2
      rw [a1, a2, hv j hj e]
    · rw [fil_out (by omega), fil_out (by omega)]
theorem fil_congr {f : Nat → Int32} {b n : Nat} {v v' : Nat → Int32} (hv : ∀ c, c < n → v' c = v c) : fil f b n v = fil f b n v' := by
  funext j
  by_cases h : b ≤ j ∧ j < b + n
  · simp only [fil, if_pos h]
    exact (hv _ (by omega)).symm
  · simp only [fil, if_neg h]
theorem fil0 {f : Nat → Int32} {n : Nat} {v : Nat → Int32} {c : Nat} (hc : c < n) : fil f 0 n v c = v c := by
  have := fil_in (f := f) (b := 0) (v := v) hc
  rw [Nat.zero_add] at this
  exact this
section C54
variable {l : Launch} {g : zG} {d : Nat} {h : zH} {F : Fl} {S : Sit} {z : Nat → Int32} {un le : Nat} {qa qb : I4} {t k : Nat}
theorem nq_other (hF : fOK F) {c j : Nat} (hc : c < fN F) (hj : j < 4) (hne : ¬ (if t = 0 then nb F (k / 4) (k % 4) = some c else k / 4 = c) ∨ j ≠ k % 4) : nq F S t (k + 1) c j = nq F S t k c j := by
  unfold nq
  by_cases ht : t = 0
  · simp only [ht, if_true] at hne ⊢
    cases hb : nb F c ((j + 2) % 4) with
    | none => rfl
    | some b =>
      have hs := nb_inv hF hc hj hb
      have : ¬ (4 * b + j = k) := by
        intro e
        have e1 : k / 4 = b := by omega
        have e2 : k % 4 = j := by omega
        rcases hne with q | q
        · exact q (by rw [e1, e2]; exact hs.2)
        · exact q e2.symm
      have e : (4 * b + j < k + 1) ↔ (4 * b + j < k) := by omega
      simp only [e]
  · simp only [ht, if_false] at hne ⊢
    have : ¬ (4 * c + j = k) := by
      intro e
      rcases hne with q | q
      · exact q (by omega)
      · exact q (by omega)
    have e : (4 * c + j < k + 1) ↔ (4 * c + j < k) := by omega
    simp only [e]
theorem nq_no (hF : fOK F) (hk : keepP F S t 0 (sPl S) (k / 4) (k % 4) = false) {c j : Nat} (hc : c < fN F) (hj : j < 4) : nq F S t (k + 1) c j = nq F S t k c j := by
  by_cases q : (if t = 0 then nb F (k / 4) (k % 4) = some c else k / 4 = c) ∧ j = k % 4
  · obtain ⟨q1, q2⟩ := q
    unfold nq
    by_cases ht : t = 0
    · subst ht
      simp only [if_true] at q1 ⊢
      cases hb : nb F c ((j + 2) % 4) with
      | none => rfl
      | some b =>
        have hs := nb_inv hF hc hj hb
        by_cases e : 4 * b + j = k
        · have e1 : k / 4 = b := by omega
          rw [e1, ← q2] at hk
          simp only [hk, Bool.and_false]
        · have e2 : (4 * b + j < k + 1) ↔ (4 * b + j < k) := by omega
          simp only [e2]
    · simp only [ht, if_false] at q1 ⊢
      rw [q1, ← q2] at hk
      simp only [hk, Bool.and_false]
  · refine nq_other hF hc hj ?_
    by_cases q1 : (if t = 0 then nb F (k / 4) (k % 4) = some c else k / 4 = c)
    · exact Or.inr (fun e => q ⟨q1, e⟩)
    · exact Or.inl q1
theorem nq_yes (hF : fOK F) (h4 : k < 4 * fN F) (hk : keepP F S t 0 (sPl S) (k / 4) (k % 4) = true) {T : Nat} (hT : if t = 0 then nb F (k / 4) (k % 4) = some T else k / 4 = T) : nq F S t (k + 1) T (k % 4) = true := by
  unfold nq
  by_cases ht : t = 0
  · subst ht
    simp only [if_true] at hT ⊢
    have hs := nb_spec hF (by omega) (Nat.mod_lt _ (by decide)) hT
    rw [hs.2]
    simp only [Bool.and_eq_true, decide_eq_true_eq]
    exact ⟨by omega, hk⟩
  · simp only [ht, if_false] at hT ⊢
    rw [← hT]
    simp only [Bool.and_eq_true, decide_eq_true_eq]
    exact ⟨by omega, hk⟩
theorem nq_0 (F : Fl) (S : Sit) (t c j : Nat) : nq F S t 0 c j = false := by
  unfold nq
  split
  · split <;> simp
  · simp
theorem nq_end (hF : fOK F) {c j : Nat} (hc : c < fN F) (hj : j < 4) : nq F S t (4 * fN F) c j = NP F S t c j := by
  unfold nq NP
  by_cases ht : t = 0
  · subst ht
    simp only [if_true, moveP, bes, hc, decide_true, Bool.true_and]
    cases hb : nb F c ((j + 2) % 4) with
    | none => rfl
    | some b =>
      have hs := nb_inv hF hc hj hb
      have e : 4 * b + j < 4 * fN F := by omega
      simp only [e, decide_true, Bool.true_and]
  · have e : 4 * c + j < 4 * fN F := by omega
    simp only [ht, if_false, e, decide_true, Bool.true_and]
theorem NP_n (F : Fl) (S : Sit) (t : Nat) : ∀ c j, j < 4 → NP F S t c j = true → c < fN F := by
  intro c j _ h
  unfold NP at h
  split at h
  · exact moveP_n h
  · exact keepP_n h
theorem c_M_stepsPlaces {np : Nat → Int32} (hF : fOK F) (ok : sOK F S) (hl : sLost S = true) (hM : h[31]? = some (mC F un le qa qb)) (hS : h[32]? = some (sC F S z)) (hN : h[39]? = some (iA 36 np)) (ht : t < 3) : Run l g mM_stepsPlaces (d + 3) 0 0 [.ref 31, .int (nI t)] h (PV ((h.set 39 (iA 36 (fil np 0 (fN F) (fun c => nI (pb (NP F S t c)))))).set 32 (sC F (found (setPl S (NP F S t))) z))) := by
  have h36 := fN_le hF
  have e4 : (4 : Int32) * nI (fN F) = nI (4 * fN F) := pk_mul 4 (fN F)
  have hM39 : ∀ c, (h.set 39 c)[31]? = some (mC F un le qa qb) := fun c => zg_ne (by decide) hM
  have hS39 : ∀ c, (h.set 39 c)[32]? = some (sC F S z) := fun c => zg_ne (by decide) hS
  have hN39 : ∀ c, (h.set 39 c)[39]? = some c := fun c => zg_eq hN
  obtain ⟨PQ, hPQ⟩ : ∃ PQ, PQ = PV ((h.set 39 (iA 36 (fil np 0 (fN F) (fun c => nI (pb (NP F S t c)))))).set 32 (sC F (found (setPl S (NP F S t))) z)) := ⟨_, rfl⟩
  rw [← hPQ]
  refine run_of (by decide) (Nat.le_of_ble_eq_true rfl) ?_
  have L2 : ∀ (m k : Nat), k + m = 4 * fN F → WW l g mM_stepsPlaces (zrm (d + 3) 0 0) (fun _ => True) (zQQ g PQ (h.length + 0) 0 0) 25 [(0, some (.ref 31)), (1, some (.int (nI t))), (2, some (.int (nI k)))] [] (h.set 39 (iA 36 (fil np 0 (fN F) (fun c => nI (pb (nq F S t k c)))))) 0 0 := by
    intro m
    induction m with
    | zero =>
      intro k hk
      have hk : k = 4 * fN F := by omega
      subst hk
      have e5 : (fil np 0 (fN F) (fun c => nI (pb (nq F S t (4 * fN F) c)))) = fil np 0 (fN F) (fun c => nI (pb (NP F S t c))) := fil_congr (fun c hc => by
        show nI (pb (NP F S t c)) = nI (pb (nq F S t (4 * fN F) c))
        rw [pb_congr (fun j hj => nq_end hF hc hj)])
      rw [e5]
      have e6 : fil (ms F S z) 72 (fN F) (fil np 0 (fN F) (fun c => nI (pb (NP F S t c)))) = ms F (setPl S (NP F S t)) z := by
        apply ms_fil hF S
        · intro i hi
          rw [fil0 hi]
          show _ = nI (if sLost S = true then pb (NP F S t i) else 0)
          rw [if_pos hl]
        · intro j hj
          simp only [ms]
          by_cases h1 : j < 36
          · simp only [h1, if_true]; rfl
          · by_cases h2 : j < 72
            · simp only [h1, h2, if_true, if_false]; rfl
            · by_cases h3 : j < 108
              · have h4 : ¬ j - 72 < fN F := by omega
                simp only [h1, h2, h3, h4, if_true, if_false]
              · simp only [h1, h2, h3, if_false]; rfl
      have cb := c_M_becomePlaces (l := l) (g := g) (d := d + 1) hF (hM39 (iA 36 (fil np 0 (fN F) (fun c => nI (pb (NP F S t c)))))) (hS39 _) (hN39 _)
      rw [e6] at cb
      obtain ⟨A, hA⟩ : ∃ A, A = iA 36 (fil np 0 (fN F) (fun c => nI (pb (NP F S t c)))) := ⟨_, rfl⟩
      rw [← hA] at cb hPQ ⊢
      have cf := c_M_findsMaybe (l := l) (g := g) (d := d) (h := (h.set 39 A).set 32 (sC F (setPl S (NP F S t)) z)) (un := un) (le := le) (qa := qa) (qb := qb) hF (ok_pl ok (NP_n F S t)) (zg_ne (by decide) (hM39 _)) (zg_eq (hS39 _))
      rw [zs_set] at cf
      refine zw_iload_n dM_stepsPlaces_25 rfl ?_
      refine zw_iconst (v := 4) dM_stepsPlaces_26 (by decide) ?_
      refine zw_aload_n dM_stepsPlaces_27 rfl ?_
      refine zc_V0I dM_stepsPlaces_28 zm_M_cells zk_M_57 (by first | exact hM39 _ | exact hS39 _ | exact zg_ne (by decide) (hM39 _)) rfl (c_M_cells (hM39 _)) ?_ zRR (Nat.le_of_ble_eq_true rfl) ⟨Nat.le_of_ble_eq_true rfl, Nat.le_of_ble_eq_true rfl⟩
      refine zw_imul dM_stepsPlaces_31 ?_
      rw [e4]
      refine zw_icmp_ge 106 dM_stepsPlaces_32 (by decide) (fun c_32 => ?_) (fun c_32 => ?_)
      · refine zw_aload_n dM_stepsPlaces_106 rfl ?_
        refine zc_V0V dM_stepsPlaces_107 zm_M_becomePlaces zk_M_117 (by first | exact hM39 _ | exact hS39 _ | exact zg_ne (by decide) (hM39 _)) rfl cb ?_ zRR (Nat.le_of_ble_eq_true rfl) ⟨Nat.le_of_ble_eq_true rfl, Nat.le_of_ble_eq_true rfl⟩
        refine zw_aload_n dM_stepsPlaces_110 rfl ?_
        refine zc_V0V dM_stepsPlaces_111 zm_M_findsMaybe zk_M_120 (by first | exact hM39 _ | exact hS39 _ | exact zg_ne (by decide) (hM39 _)) rfl cf ?_ zRR (Nat.le_of_ble_eq_true rfl) ⟨Nat.le_of_ble_eq_true rfl, Nat.le_of_ble_eq_true rfl⟩
        exact zw_vret dM_stepsPlaces_114 rfl (by rw [zs_len, zs_len]; rfl) (by rw [hPQ]; exact ⟨rfl, rfl⟩)
      · exact absurd (Int32.le_refl _) c_32
    | succ m ih =>
      intro k hk
      have hc : k / 4 < fN F := by omega
      have hj : k % 4 < 4 := Nat.mod_lt _ (by decide)
      obtain ⟨q1, q2⟩ := k4 (k := k) (by omega)
      obtain ⟨v1, v2, v3⟩ := vP hF hc
      have ep := ms_p (S := S) (z := z) hF hc
      have eg := plN_get S k
      have hnb : ∀ c, nb F (k / 4) (k % 4) = some c → c < fN F := fun c q => (nb_spec hF hc hj q).1
      have cbs := fun (c : zC) => c_M_beside (l := l) (g := g) (d := d + 1) hF (hM39 c) hc hj
      have ccb := fun (c : zC) => c_M_canBe (l := l) (g := g) (d := d + 1) hF ok.kn (hM39 c) (hS39 c) hnb ht
      have ekp : keepP F S t 0 (sPl S) (k / 4) (k % 4) = (lpl S k && canBe F S t (nb F (k / 4) (k % 4))) := by
        have q : (k % 4 + 0) % 4 = k % 4 := by omega
        simp only [keepP, lpl, hl, ppl, hc, decide_true, Bool.true_and, q]
      have eno : keepP F S t 0 (sPl S) (k / 4) (k % 4) = false → (fil np 0 (fN F) (fun c => nI (pb (nq F S t k c)))) = fil np 0 (fN F) (fun c => nI (pb (nq F S t (k + 1) c))) := fun q => fil_congr (fun c hc => by
        show nI (pb (nq F S t (k + 1) c)) = nI (pb (nq F S t k c))
        rw [pb_congr (fun j hj => nq_no hF q hc hj)])
      have eyes : keepP F S t 0 (sPl S) (k / 4) (k % 4) = true → ∀ T, (if t = 0 then nb F (k / 4) (k % 4) = some T else k / 4 = T) → T < fN F → upd (fil np 0 (fN F) (fun c => nI (pb (nq F S t k c)))) T (nI (pb (nq F S t k T)) ||| ((1 : Int32) <<< (nI (k % 4) &&& 31))) = fil np 0 (fN F) (fun c => nI (pb (nq F S t (k + 1) c))) := by
        intro q T hT hTn
        refine fil_upd hTn ?_ ?_
        · exact pb_or _ _ hj (nq_yes hF (by omega) q hT) (fun i hi hne => nq_other hF hTn hi (Or.inr hne))
        · intro c hc2 hne
          show nI (pb (nq F S t (k + 1) c)) = nI (pb (nq F S t k c))
          rw [pb_congr (fun j hj => nq_other hF hc2 hj (Or.inl (fun q3 => hne (by
            by_cases t0 : t = 0
            · simp only [t0, if_true] at q3 hT
              rw [hT] at q3
              injection q3 with q3
              exact q3.symm
            · simp only [t0, if_false] at q3 hT
              omega))))]
      obtain ⟨fk, hfk⟩ : ∃ fk : Nat → Nat → Int32, ∀ k, fk k = fil np 0 (fN F) (fun c => nI (pb (nq F S t k c))) := ⟨_, fun _ => rfl⟩
      have hfT : ∀ T, T < fN F → fk k T = nI (pb (nq F S t k T)) := fun T hT => by rw [hfk, fil0 hT]
      have ih' := ih (k + 1) (by omega)
      rw [← hfk (k + 1)] at ih' eno eyes
      rw [← hfk k] at eno eyes ⊢
      have back : WW l g mM_stepsPlaces (zrm (d + 3) 0 0) (fun _ => True) (zQQ g PQ (h.length + 0) 0 0) 25 [(0, some (.ref 31)), (1, some (.int (nI t))), (2, some (.int (nI (k + 1))))] [] (h.set 39 (iA 36 (fk (k + 1)))) 0 0 := ih'
      cases hkp : (lpl S k && canBe F S t (nb F (k / 4) (k % 4))) with
      | false =>
        rw [← eno (ekp.trans hkp)] at back
        refine zw_iload_n dM_stepsPlaces_25 rfl ?_
        refine zw_iconst (v := 4) dM_stepsPlaces_26 (by decide) ?_
        refine zw_aload_n dM_stepsPlaces_27 rfl ?_
        refine zc_V0I dM_stepsPlaces_28 zm_M_cells zk_M_57 (by first | exact hM39 _ | exact hS39 _) rfl (c_M_cells (hM39 _)) ?_ zRR (Nat.le_of_ble_eq_true rfl) ⟨Nat.le_of_ble_eq_true rfl, Nat.le_of_ble_eq_true rfl⟩
        refine zw_imul dM_stepsPlaces_31 ?_
        rw [e4]
        refine zw_icmp_ge 106 dM_stepsPlaces_32 (by decide) (fun c_32 => ?_) (fun c_32 => ?_)
        · exact absurd ((nI_leI (by omega) (by omega)).mp c_32) (by omega)
        · refine zw_aload_n dM_stepsPlaces_35 rfl ?_
          refine zw_iload_n dM_stepsPlaces_36 rfl ?_
          refine zw_iconst (v := 4) dM_stepsPlaces_37 (by decide) ?_
          refine zw_idiv dM_stepsPlaces_38 n4 ?_
          rw [q1]
          refine zw_iload_n dM_stepsPlaces_39 rfl ?_
          refine zw_iconst (v := 4) dM_stepsPlaces_40 (by decide) ?_
          refine zw_irem dM_stepsPlaces_41 n4 ?_
          rw [q2]
          refine zc_V2I dM_stepsPlaces_42 zm_M_beside zk_M_109 (by first | exact hM39 _ | exact hS39 _) rfl (cbs _) ?_ zRR (Nat.le_of_ble_eq_true rfl) ⟨Nat.le_of_ble_eq_true rfl, Nat.le_of_ble_eq_true rfl⟩
          refine zw_istore_n dM_stepsPlaces_45 (by decide) rfl ?_
          refine zw_aload_n dM_stepsPlaces_46 rfl ?_
          refine zw_get dM_stepsPlaces_47 zf_M_16 (by first | exact hM39 _ | exact hS39 _) rfl ?_
          refine zw_bipush (v := 72) dM_stepsPlaces_50 (by decide) ?_
          refine zw_iload_n dM_stepsPlaces_52 rfl ?_
          refine zw_iconst (v := 4) dM_stepsPlaces_53 (by decide) ?_
          refine zw_idiv dM_stepsPlaces_54 n4 ?_
          rw [q1]
          refine zw_iadd dM_stepsPlaces_55 ?_
          rw [v1]
          refine zw_iald dM_stepsPlaces_56 (by first | exact hM39 _ | exact hS39 _) v2 ?_
          rw [v3, ep]
          refine zw_iload_n dM_stepsPlaces_57 rfl ?_
          refine zw_iconst (v := 4) dM_stepsPlaces_58 (by decide) ?_
          refine zw_irem dM_stepsPlaces_59 n4 ?_
          rw [q2]
          refine zw_ishr dM_stepsPlaces_60 ?_
          refine zw_iconst (v := 1) dM_stepsPlaces_61 (by decide) ?_
          refine zw_iand dM_stepsPlaces_62 ?_
          rw [eg]
          refine zw_iconst (v := 1) dM_stepsPlaces_63 (by decide) ?_
          refine zw_icmp_ne 100 dM_stepsPlaces_64 (by decide) (fun c_64 => ?_) (fun c_64 => ?_)
          · refine zw_incN dM_stepsPlaces_100 rfl (by decide) rfl ?_
            refine zw_goto 25 dM_stepsPlaces_103 (by decide) ?_
            exact zw_lk back ⟨rfl, rfl, rfl, trivial⟩
          · refine zw_aload_n dM_stepsPlaces_67 rfl ?_
            refine zw_iload_n dM_stepsPlaces_68 rfl ?_
            refine zw_iload_n dM_stepsPlaces_69 rfl ?_
            refine zc_V2I dM_stepsPlaces_70 zm_M_canBe zk_M_113 (by first | exact hM39 _ | exact hS39 _) rfl (ccb _) ?_ zRR (Nat.le_of_ble_eq_true rfl) ⟨Nat.le_of_ble_eq_true rfl, Nat.le_of_ble_eq_true rfl⟩
            refine zw_if_eq 100 dM_stepsPlaces_73 (by decide) (fun c_73 => ?_) (fun c_73 => ?_)
            · refine zw_incN dM_stepsPlaces_100 rfl (by decide) rfl ?_
              refine zw_goto 25 dM_stepsPlaces_103 (by decide) ?_
              exact zw_lk back ⟨rfl, rfl, rfl, trivial⟩
            · exact absurd (show (lpl S k && canBe F S t (nb F (k / 4) (k % 4))) = true by rw [d11 (fun q => absurd (c_64.symm.trans q) (by decide)), d11 c_73]; rfl) (by rw [hkp]; decide)
      | true =>
        have hkt := ekp.trans hkp
        have hl1 : lpl S k = true := by cases q : lpl S k with | true => rfl | false => rw [q] at hkp; cases hkp
        have hl2 : canBe F S t (nb F (k / 4) (k % 4)) = true := by rw [hl1] at hkp; exact hkp
        rw [hl1] at eg
        have ccb' := ccb
        rw [hl2] at ccb'
        by_cases ht0 : t = 0
        · obtain ⟨T, hT⟩ : ∃ T, nb F (k / 4) (k % 4) = some T := by
            cases q : nb F (k / 4) (k % 4) with
            | none => rw [q, ht0] at hl2; cases hl2
            | some T => exact ⟨T, rfl⟩
          have hTn := hnb T hT
          have ey := eyes hkt T (by rw [if_pos ht0]; exact hT) hTn
          have eT := hfT T hTn
          rw [← eT] at ey
          rw [hT] at cbs ccb'
          have etc : (nI T).toNatClampNeg = T := nI_clamp (by omega)
          subst ht0
          have cbs2 : ∀ c, Run l g mM_beside (d + 1 + 1) 0 0 [.ref 31, .int (nI (k / 4)), .int (nI (k % 4))] (h.set 39 c) (PI (nI T) (h.set 39 c)) := cbs
          have ccb2 : ∀ c, Run l g mM_canBe (d + 1 + 1) 0 0 [.ref 31, .int (nI T), .int (nI 0)] (h.set 39 c) (PI 1 (h.set 39 c)) := ccb'
          refine zw_iload_n dM_stepsPlaces_25 rfl ?_
          refine zw_iconst (v := 4) dM_stepsPlaces_26 (by decide) ?_
          refine zw_aload_n dM_stepsPlaces_27 rfl ?_
          refine zc_V0I dM_stepsPlaces_28 zm_M_cells zk_M_57 (by first | exact hM39 _ | exact hS39 _ | exact hN39 _) rfl (c_M_cells (hM39 _)) ?_ zRR (Nat.le_of_ble_eq_true rfl) ⟨Nat.le_of_ble_eq_true rfl, Nat.le_of_ble_eq_true rfl⟩
          refine zw_imul dM_stepsPlaces_31 ?_
          rw [e4]
          refine zw_icmp_ge 106 dM_stepsPlaces_32 (by decide) (fun c_32 => ?_) (fun c_32 => ?_)
          · exact absurd ((nI_leI (by omega) (by omega)).mp c_32) (by omega)
          · refine zw_aload_n dM_stepsPlaces_35 rfl ?_
            refine zw_iload_n dM_stepsPlaces_36 rfl ?_
            refine zw_iconst (v := 4) dM_stepsPlaces_37 (by decide) ?_
            refine zw_idiv dM_stepsPlaces_38 n4 ?_
            rw [q1]
            refine zw_iload_n dM_stepsPlaces_39 rfl ?_
            refine zw_iconst (v := 4) dM_stepsPlaces_40 (by decide) ?_
            refine zw_irem dM_stepsPlaces_41 n4 ?_
            rw [q2]
            refine zc_V2I dM_stepsPlaces_42 zm_M_beside zk_M_109 (by first | exact hM39 _ | exact hS39 _ | exact hN39 _) rfl (cbs2 _) ?_ zRR (Nat.le_of_ble_eq_true rfl) ⟨Nat.le_of_ble_eq_true rfl, Nat.le_of_ble_eq_true rfl⟩
            refine zw_istore_n dM_stepsPlaces_45 (by decide) rfl ?_
            refine zw_aload_n dM_stepsPlaces_46 rfl ?_
            refine zw_get dM_stepsPlaces_47 zf_M_16 (by first | exact hM39 _ | exact hS39 _ | exact hN39 _) rfl ?_
            refine zw_bipush (v := 72) dM_stepsPlaces_50 (by decide) ?_
            refine zw_iload_n dM_stepsPlaces_52 rfl ?_
            refine zw_iconst (v := 4) dM_stepsPlaces_53 (by decide) ?_
            refine zw_idiv dM_stepsPlaces_54 n4 ?_
            rw [q1]
            refine zw_iadd dM_stepsPlaces_55 ?_
            rw [v1]
            refine zw_iald dM_stepsPlaces_56 (by first | exact hM39 _ | exact hS39 _ | exact hN39 _) v2 ?_
            rw [v3, ep]
            refine zw_iload_n dM_stepsPlaces_57 rfl ?_
            refine zw_iconst (v := 4) dM_stepsPlaces_58 (by decide) ?_
            refine zw_irem dM_stepsPlaces_59 n4 ?_
            rw [q2]
            refine zw_ishr dM_stepsPlaces_60 ?_
            refine zw_iconst (v := 1) dM_stepsPlaces_61 (by decide) ?_
            refine zw_iand dM_stepsPlaces_62 ?_
            rw [eg]
            refine zw_iconst (v := 1) dM_stepsPlaces_63 (by decide) ?_
            refine zw_icmp_ne 100 dM_stepsPlaces_64 (by decide) (fun c_64 => ?_) (fun c_64 => ?_)
            · exact absurd rfl c_64
            · refine zw_aload_n dM_stepsPlaces_67 rfl ?_
              refine zw_iload_n dM_stepsPlaces_68 rfl ?_
              refine zw_iload_n dM_stepsPlaces_69 rfl ?_
              refine zc_V2I dM_stepsPlaces_70 zm_M_canBe zk_M_113 (by first | exact hM39 _ | exact hS39 _ | exact hN39 _) rfl (ccb2 _) ?_ zRR (Nat.le_of_ble_eq_true rfl) ⟨Nat.le_of_ble_eq_true rfl, Nat.le_of_ble_eq_true rfl⟩
              refine zw_if_eq 100 dM_stepsPlaces_73 (by decide) (fun c_73 => ?_) (fun c_73 => ?_)
              · exact absurd c_73 (by decide)
              · refine zw_aload_n dM_stepsPlaces_76 rfl ?_
                refine zw_get dM_stepsPlaces_77 zf_M_39 (by first | exact hM39 _ | exact hS39 _ | exact hN39 _) rfl ?_
                refine zw_iload_n dM_stepsPlaces_80 rfl ?_
                refine zw_if_ne 88 dM_stepsPlaces_81 (by decide) (fun c_81 => ?_) (fun c_81 => ?_)
                · exact absurd rfl c_81
                · refine zw_iload_n dM_stepsPlaces_84 rfl ?_
                  refine zw_goto 91 dM_stepsPlaces_85 (by decide) ?_
                  refine zw_dup2 dM_stepsPlaces_91 rfl rfl ?_
                  refine zw_iald dM_stepsPlaces_92 (by first | exact hM39 _ | exact hS39 _ | exact hN39 _) (vp_in_nI (show T < 36 by omega) (by decide)) ?_
                  rw [etc]
                  refine zw_iconst (v := 1) dM_stepsPlaces_93 (by decide) ?_
                  refine zw_iload_n dM_stepsPlaces_94 rfl ?_
                  refine zw_iconst (v := 4) dM_stepsPlaces_95 (by decide) ?_
                  refine zw_irem dM_stepsPlaces_96 n4 ?_
                  rw [q2]
                  refine zw_ishl dM_stepsPlaces_97 ?_
                  refine zw_ior dM_stepsPlaces_98 ?_
                  refine zw_iast dM_stepsPlaces_99 (by first | exact hM39 _ | exact hS39 _ | exact hN39 _) (vp_in_nI (show T < 36 by omega) (by decide)) ?_
                  rw [etc, ey]
                  refine zw_h (iAs _ _ _ _ _) ?_
                  refine zw_incN dM_stepsPlaces_100 rfl (by decide) rfl ?_
                  refine zw_goto 25 dM_stepsPlaces_103 (by decide) ?_
                  exact zw_lk back ⟨rfl, rfl, rfl, trivial⟩
        · have ey := eyes hkt (k / 4) (by rw [if_neg ht0]) hc
          have eT := hfT (k / 4) hc
          rw [← eT] at ey
          have etc : (nI (k / 4)).toNatClampNeg = k / 4 := nI_clamp (by omega)
          have ent : ¬ nI t = 0 := fun q => ht0 ((nI_eq (b := 0) (by omega) (by omega)).mp q)
          refine zw_iload_n dM_stepsPlaces_25 rfl ?_
          refine zw_iconst (v := 4) dM_stepsPlaces_26 (by decide) ?_
          refine zw_aload_n dM_stepsPlaces_27 rfl ?_
          refine zc_V0I dM_stepsPlaces_28 zm_M_cells zk_M_57 (by first | exact hM39 _ | exact hS39 _ | exact hN39 _) rfl (c_M_cells (hM39 _)) ?_ zRR (Nat.le_of_ble_eq_true rfl) ⟨Nat.le_of_ble_eq_true rfl, Nat.le_of_ble_eq_true rfl⟩
          refine zw_imul dM_stepsPlaces_31 ?_
          rw [e4]
          refine zw_icmp_ge 106 dM_stepsPlaces_32 (by decide) (fun c_32 => ?_) (fun c_32 => ?_)
          · exact absurd ((nI_leI (by omega) (by omega)).mp c_32) (by omega)
          · refine zw_aload_n dM_stepsPlaces_35 rfl ?_
            refine zw_iload_n dM_stepsPlaces_36 rfl ?_
            refine zw_iconst (v := 4) dM_stepsPlaces_37 (by decide) ?_
            refine zw_idiv dM_stepsPlaces_38 n4 ?_
            rw [q1]
            refine zw_iload_n dM_stepsPlaces_39 rfl ?_
            refine zw_iconst (v := 4) dM_stepsPlaces_40 (by decide) ?_
            refine zw_irem dM_stepsPlaces_41 n4 ?_
            rw [q2]
            refine zc_V2I dM_stepsPlaces_42 zm_M_beside zk_M_109 (by first | exact hM39 _ | exact hS39 _ | exact hN39 _) rfl (cbs _) ?_ zRR (Nat.le_of_ble_eq_true rfl) ⟨Nat.le_of_ble_eq_true rfl, Nat.le_of_ble_eq_true rfl⟩
            refine zw_istore_n dM_stepsPlaces_45 (by decide) rfl ?_
            refine zw_aload_n dM_stepsPlaces_46 rfl ?_
            refine zw_get dM_stepsPlaces_47 zf_M_16 (by first | exact hM39 _ | exact hS39 _ | exact hN39 _) rfl ?_
            refine zw_bipush (v := 72) dM_stepsPlaces_50 (by decide) ?_
            refine zw_iload_n dM_stepsPlaces_52 rfl ?_
            refine zw_iconst (v := 4) dM_stepsPlaces_53 (by decide) ?_
            refine zw_idiv dM_stepsPlaces_54 n4 ?_
            rw [q1]
            refine zw_iadd dM_stepsPlaces_55 ?_
            rw [v1]
            refine zw_iald dM_stepsPlaces_56 (by first | exact hM39 _ | exact hS39 _ | exact hN39 _) v2 ?_
            rw [v3, ep]
            refine zw_iload_n dM_stepsPlaces_57 rfl ?_
            refine zw_iconst (v := 4) dM_stepsPlaces_58 (by decide) ?_
            refine zw_irem dM_stepsPlaces_59 n4 ?_
            rw [q2]
            refine zw_ishr dM_stepsPlaces_60 ?_
            refine zw_iconst (v := 1) dM_stepsPlaces_61 (by decide) ?_
            refine zw_iand dM_stepsPlaces_62 ?_
            rw [eg]
            refine zw_iconst (v := 1) dM_stepsPlaces_63 (by decide) ?_
            refine zw_icmp_ne 100 dM_stepsPlaces_64 (by decide) (fun c_64 => ?_) (fun c_64 => ?_)
            · exact absurd rfl c_64
            · refine zw_aload_n dM_stepsPlaces_67 rfl ?_
              refine zw_iload_n dM_stepsPlaces_68 rfl ?_
              refine zw_iload_n dM_stepsPlaces_69 rfl ?_
              refine zc_V2I dM_stepsPlaces_70 zm_M_canBe zk_M_113 (by first | exact hM39 _ | exact hS39 _ | exact hN39 _) rfl (ccb' _) ?_ zRR (Nat.le_of_ble_eq_true rfl) ⟨Nat.le_of_ble_eq_true rfl, Nat.le_of_ble_eq_true rfl⟩
              refine zw_if_eq 100 dM_stepsPlaces_73 (by decide) (fun c_73 => ?_) (fun c_73 => ?_)
              · exact absurd c_73 (by decide)
              · refine zw_aload_n dM_stepsPlaces_76 rfl ?_
                refine zw_get dM_stepsPlaces_77 zf_M_39 (by first | exact hM39 _ | exact hS39 _ | exact hN39 _) rfl ?_
                refine zw_iload_n dM_stepsPlaces_80 rfl ?_
                refine zw_if_ne 88 dM_stepsPlaces_81 (by decide) (fun c_81 => ?_) (fun c_81 => ?_)
                · refine zw_iload_n dM_stepsPlaces_88 rfl ?_
                  refine zw_iconst (v := 4) dM_stepsPlaces_89 (by decide) ?_
                  refine zw_idiv dM_stepsPlaces_90 n4 ?_
                  rw [q1]
                  refine zw_dup2 dM_stepsPlaces_91 rfl rfl ?_
                  refine zw_iald dM_stepsPlaces_92 (by first | exact hM39 _ | exact hS39 _ | exact hN39 _) (vp_in_nI (show k / 4 < 36 by omega) (by decide)) ?_
                  rw [etc]
                  refine zw_iconst (v := 1) dM_stepsPlaces_93 (by decide) ?_
                  refine zw_iload_n dM_stepsPlaces_94 rfl ?_
                  refine zw_iconst (v := 4) dM_stepsPlaces_95 (by decide) ?_
                  refine zw_irem dM_stepsPlaces_96 n4 ?_
                  rw [q2]
                  refine zw_ishl dM_stepsPlaces_97 ?_
                  refine zw_ior dM_stepsPlaces_98 ?_
                  refine zw_iast dM_stepsPlaces_99 (by first | exact hM39 _ | exact hS39 _ | exact hN39 _) (vp_in_nI (show k / 4 < 36 by omega) (by decide)) ?_
                  rw [etc, ey]
                  refine zw_h (iAs _ _ _ _ _) ?_
                  refine zw_incN dM_stepsPlaces_100 rfl (by decide) rfl ?_
                  refine zw_goto 25 dM_stepsPlaces_103 (by decide) ?_
                  exact zw_lk back ⟨rfl, rfl, rfl, trivial⟩
                · exact absurd c_81 ent
  have L1 : ∀ (m i : Nat), i + m = fN F → WW l g mM_stepsPlaces (zrm (d + 3) 0 0) (fun _ => True) (zQQ g PQ (h.length + 0) 0 0) 2 [(0, some (.ref 31)), (1, some (.int (nI t))), (2, some (.int (nI i)))] [] (h.set 39 (iA 36 (fil np 0 i (fun _ => 0)))) 0 0 := by
    intro m
    induction m with
    | zero =>
      intro i hi
      have hi : i = fN F := by omega
      subst hi
      have e0 : fil np 0 (fN F) (fun _ => 0) = fil np 0 (fN F) (fun c => nI (pb (nq F S t 0 c))) := fil_congr (fun c hc => by
        show nI (pb (nq F S t 0 c)) = nI (pb (fun _ => false))
        rw [pb_congr (fun j _ => nq_0 F S t c j)])
      have L0 := L2 (4 * fN F) 0 (by omega)
      rw [← e0] at L0
      refine zw_iload_n dM_stepsPlaces_2 rfl ?_
      refine zw_aload_n dM_stepsPlaces_3 rfl ?_
      refine zc_V0I dM_stepsPlaces_4 zm_M_cells zk_M_57 (hM39 _) rfl (c_M_cells (hM39 _)) ?_ zRR (Nat.le_of_ble_eq_true rfl) ⟨Nat.le_of_ble_eq_true rfl, Nat.le_of_ble_eq_true rfl⟩
      refine zw_icmp_ge 23 dM_stepsPlaces_7 (by decide) (fun c_7 => ?_) (fun c_7 => ?_)
      · refine zw_iconst (v := 0) dM_stepsPlaces_23 (by decide) ?_
        refine zw_istore_n dM_stepsPlaces_24 (by decide) rfl ?_
        exact zw_lk L0 ⟨rfl, rfl, rfl, trivial⟩
      · exact absurd (Int32.le_refl _) c_7
    | succ m ih =>
      intro i hi
      have ecl : (nI i).toNatClampNeg = i := nI_clamp (by omega)
      have es : upd (fil np 0 i (fun _ => 0)) i 0 = fil np 0 (i + 1) (fun _ => 0) := by
        have := fil_s np 0 i (fun _ => 0)
        rw [Nat.zero_add] at this
        exact this
      refine zw_iload_n dM_stepsPlaces_2 rfl ?_
      refine zw_aload_n dM_stepsPlaces_3 rfl ?_
      refine zc_V0I dM_stepsPlaces_4 zm_M_cells zk_M_57 (by first | exact hM39 _ | exact hN39 _) rfl (c_M_cells (hM39 _)) ?_ zRR (Nat.le_of_ble_eq_true rfl) ⟨Nat.le_of_ble_eq_true rfl, Nat.le_of_ble_eq_true rfl⟩
      refine zw_icmp_ge 23 dM_stepsPlaces_7 (by decide) (fun c_7 => ?_) (fun c_7 => ?_)
      · exact absurd ((nI_leI (by omega) (by omega)).mp c_7) (by omega)
      · refine zw_aload_n dM_stepsPlaces_10 rfl ?_
        refine zw_get dM_stepsPlaces_11 zf_M_39 (by first | exact hM39 _ | exact hN39 _) rfl ?_
        refine zw_iload_n dM_stepsPlaces_14 rfl ?_
        refine zw_iconst (v := 0) dM_stepsPlaces_15 (by decide) ?_
        refine zw_iast dM_stepsPlaces_16 (by first | exact hM39 _ | exact hN39 _) (vp_in_nI (show i < 36 by omega) (by decide)) ?_
        rw [ecl, es]
        refine zw_h (iAs _ _ _ _ _) ?_
        refine zw_incN dM_stepsPlaces_17 rfl (by decide) rfl ?_
        refine zw_goto 2 dM_stepsPlaces_20 (by decide) ?_
        exact zw_lk (ih (i + 1) (by omega)) ⟨rfl, rfl, rfl, trivial⟩
  refine zw_iconst (v := 0) dM_stepsPlaces_0 (by decide) ?_
  refine zw_istore_n dM_stepsPlaces_1 (by decide) rfl ?_
  have L0 := L1 (fN F) 0 (by omega)
  rw [fil_0, zs_self hN] at L0
  exact zw_lk L0 ⟨rfl, rfl, rfl, trivial⟩
end C54
