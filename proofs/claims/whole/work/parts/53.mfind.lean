/-! ===== the reference: what is left of the places ===== -/
theorem v108 : vp_in (108 : Int32) 114 := vp_in_nI (show 108 < 114 by decide) (by decide)
theorem e108 : (108 : Int32).toNatClampNeg = 108 := by decide
theorem v109 : vp_in (109 : Int32) 114 := vp_in_nI (show 109 < 114 by decide) (by decide)
theorem e109 : (109 : Int32).toNatClampNeg = 109 := by decide
theorem v110 : vp_in (110 : Int32) 114 := vp_in_nI (show 110 < 114 by decide) (by decide)
theorem e110 : (110 : Int32).toNatClampNeg = 110 := by decide
theorem v111 : vp_in (111 : Int32) 114 := vp_in_nI (show 111 < 114 by decide) (by decide)
theorem e111 : (111 : Int32).toNatClampNeg = 111 := by decide
theorem v112 : vp_in (112 : Int32) 114 := vp_in_nI (show 112 < 114 by decide) (by decide)
theorem e112 : (112 : Int32).toNatClampNeg = 112 := by decide
theorem v113 : vp_in (113 : Int32) 114 := vp_in_nI (show 113 < 114 by decide) (by decide)
theorem e113 : (113 : Int32).toNatClampNeg = 113 := by decide
theorem iAs (h : zH) (k N : Nat) (f f2 : Nat → Int32) : (h.set k (iA N f)).set k (iA N f2) = h.set k (iA N f2) := zs_set _ _ _ _
section C53
variable {l : Launch} {g : zG} {d : Nat} {h : zH} {F : Fl} {S : Sit} {z : Nat → Int32} {un le : Nat} {qa qb : I4}
theorem k4 {k : Nat} (hk : k < 144) : nI k / 4 = nI (k / 4) ∧ nI k - nI k / 4 * 4 = nI (k % 4) := ⟨pk_div (d := 4) (by omega) (by decide) (by decide), pk_rem (d := 4) (by omega) (by decide) (by decide)⟩
theorem n4 : ¬ (4 : Int32) = 0 := by decide
theorem c_M_manyPlaces (hF : fOK F) (hM : h[31]? = some (mC F un le qa qb)) (hS : h[32]? = some (sC F S z)) : Run l g mM_manyPlaces (d + 1) 0 0 [.ref 31] h (PI (nI (cnt (lpl S) (4 * fN F))) h) := by
  have h36 := fN_le hF
  have e4 : (4 : Int32) * nI (fN F) = nI (4 * fN F) := pk_mul 4 (fN F)
  refine run_of (by decide) (Nat.le_of_ble_eq_true rfl) ?_
  have L : ∀ (m k : Nat), k + m = 4 * fN F → WW l g mM_manyPlaces (zrm (d + 1) 0 0) (fun _ => True) (zQQ g (PI (nI (cnt (lpl S) (4 * fN F))) h) (h.length + 0) 0 0) 4 [(0, some (.ref 31)), (1, some (.int (nI (cnt (lpl S) k)))), (2, some (.int (nI k)))] [] h 0 0 := by
    intro m
    induction m with
    | zero =>
      intro k hk
      have hk : k = 4 * fN F := by omega
      subst hk
      refine zw_iload_n dM_manyPlaces_4 rfl ?_
      refine zw_iconst (v := 4) dM_manyPlaces_5 (by decide) ?_
      refine zw_aload_n dM_manyPlaces_6 rfl ?_
      refine zc_V0I dM_manyPlaces_7 zm_M_cells zk_M_57 hM rfl (c_M_cells hM) ?_ zRR (Nat.le_of_ble_eq_true rfl) ⟨Nat.le_of_ble_eq_true rfl, Nat.le_of_ble_eq_true rfl⟩
      refine zw_imul dM_manyPlaces_10 ?_
      rw [e4]
      refine zw_icmp_ge 40 dM_manyPlaces_11 (by decide) (fun c_11 => ?_) (fun c_11 => ?_)
      · refine zw_iload_n dM_manyPlaces_40 rfl ?_
        exact zw_iret dM_manyPlaces_41 rfl rfl rfl ⟨rfl, rfl⟩
      · exact absurd (Int32.le_refl _) c_11
    | succ m ih =>
      intro k hk
      have hc : k / 4 < fN F := by omega
      obtain ⟨q1, q2⟩ := k4 (k := k) (by omega)
      obtain ⟨v1, v2, v3⟩ := vP hF hc
      have ep := ms_p (S := S) (z := z) hF hc
      have eg := plN_get S k
      have ec : nI (cnt (lpl S) k) + (if lpl S k = true then 1 else 0) = nI (cnt (lpl S) (k + 1)) := by
        show _ = nI (cnt (lpl S) k + (if lpl S k = true then 1 else 0))
        rw [← nI_add]
        split <;> rfl
      refine zw_iload_n dM_manyPlaces_4 rfl ?_
      refine zw_iconst (v := 4) dM_manyPlaces_5 (by decide) ?_
      refine zw_aload_n dM_manyPlaces_6 rfl ?_
      refine zc_V0I dM_manyPlaces_7 zm_M_cells zk_M_57 (by first | exact hM | exact hS) rfl (c_M_cells hM) ?_ zRR (Nat.le_of_ble_eq_true rfl) ⟨Nat.le_of_ble_eq_true rfl, Nat.le_of_ble_eq_true rfl⟩
      refine zw_imul dM_manyPlaces_10 ?_
      rw [e4]
      refine zw_icmp_ge 40 dM_manyPlaces_11 (by decide) (fun c_11 => ?_) (fun c_11 => ?_)
      · exact absurd ((nI_leI (by omega) (by omega)).mp c_11) (by omega)
      · refine zw_iload_n dM_manyPlaces_14 rfl ?_
        refine zw_aload_n dM_manyPlaces_15 rfl ?_
        refine zw_get dM_manyPlaces_16 zf_M_16 (by first | exact hM | exact hS) rfl ?_
        refine zw_bipush (v := 72) dM_manyPlaces_19 (by decide) ?_
        refine zw_iload_n dM_manyPlaces_21 rfl ?_
        refine zw_iconst (v := 4) dM_manyPlaces_22 (by decide) ?_
        refine zw_idiv dM_manyPlaces_23 n4 ?_
        rw [q1]
        refine zw_iadd dM_manyPlaces_24 ?_
        rw [v1]
        refine zw_iald dM_manyPlaces_25 (by first | exact hM | exact hS) v2 ?_
        rw [v3, ep]
        refine zw_iload_n dM_manyPlaces_26 rfl ?_
        refine zw_iconst (v := 4) dM_manyPlaces_27 (by decide) ?_
        refine zw_irem dM_manyPlaces_28 n4 ?_
        rw [q2]
        refine zw_ishr dM_manyPlaces_29 ?_
        refine zw_iconst (v := 1) dM_manyPlaces_30 (by decide) ?_
        refine zw_iand dM_manyPlaces_31 ?_
        rw [eg]
        refine zw_iadd dM_manyPlaces_32 ?_
        rw [ec]
        refine zw_istore_n dM_manyPlaces_33 (by decide) rfl ?_
        refine zw_incN dM_manyPlaces_34 rfl (by decide) rfl ?_
        refine zw_goto 4 dM_manyPlaces_37 (by decide) ?_
        exact zw_lk (ih (k + 1) (by omega)) ⟨rfl, rfl, rfl, trivial⟩
  refine zw_iconst (v := 0) dM_manyPlaces_0 (by decide) ?_
  refine zw_istore_n dM_manyPlaces_1 (by decide) rfl ?_
  refine zw_iconst (v := 0) dM_manyPlaces_2 (by decide) ?_
  refine zw_istore_n dM_manyPlaces_3 (by decide) rfl ?_
  exact zw_lk (L (4 * fN F) 0 (by omega)) ⟨rfl, rfl, rfl, trivial⟩
theorem cnt_lpl (hF : fOK F) (ok : sOK F S) (hl : sLost S = true) : cnt (lpl S) (4 * fN F) = many (sPl S) := by
  rw [← many_cnt hF (ok.pl hl)]
  apply cnt_congr
  intro i _
  simp [lpl, hl]
theorem fnd_eq (hF : fOK F) (hl : sLost S = true) : fil (upd (ms F S z) 111 0) 72 (fN F) (fun _ => 0) = ms F (setLost S false) z := by
  have h36 := fN_le hF
  apply ms_fil hF S
  · intro i _; rfl
  · intro j hj
    by_cases e : j = 111
    · subst e; rw [upd_eq]; rfl
    · rw [upd_ne _ _ e]
      simp only [ms]
      by_cases h1 : j < 36
      · simp only [h1, if_true]; rfl
      · by_cases h2 : j < 72
        · simp only [h1, h2, if_true, if_false]; rfl
        · by_cases h3 : j < 108
          · have h4 : ¬ j - 72 < fN F := by omega
            simp only [h1, h2, h3, h4, if_true, if_false]
          · simp only [h1, h2, h3, e, if_false]; rfl
theorem c_M_findsMaybe (hF : fOK F) (ok : sOK F S) (hM : h[31]? = some (mC F un le qa qb)) (hS : h[32]? = some (sC F S z)) : Run l g mM_findsMaybe (d + 2) 0 0 [.ref 31] h (PV (h.set 32 (sC F (found S) z))) := by
  have h36 := fN_le hF
  have hp := c_M_manyPlaces (l := l) (g := g) (d := d) hF hM hS
  have hM32 : ∀ c, (h.set 32 c)[31]? = some (mC F un le qa qb) := fun c => zg_ne (by decide) hM
  have hS32 : ∀ c, (h.set 32 c)[32]? = some c := fun c => zg_eq hS
  have e1 := ms_111 F S z
  cases hl : sLost S with
  | false =>
    have hf : found S = S := by unfold found; rw [if_neg (fun q => by rw [hl] at q; cases q.1)]
    rw [hf, zs_self hS]
    rw [hl] at e1
    refine run_of (by decide) (Nat.le_of_ble_eq_true rfl) ?_
    refine zw_aload_n dM_findsMaybe_0 rfl ?_
    refine zw_get dM_findsMaybe_1 zf_M_16 (by first | exact hM | exact hS) rfl ?_
    refine zw_bipush (v := 111) dM_findsMaybe_4 (by decide) ?_
    refine zw_iald dM_findsMaybe_6 (by first | exact hM | exact hS) v111 ?_
    rw [e111, e1]
    refine zw_iconst (v := 1) dM_findsMaybe_7 (by decide) ?_
    refine zw_icmp_ne 53 dM_findsMaybe_8 (by decide) (fun c_8 => ?_) (fun c_8 => ?_)
    · exact zw_vret dM_findsMaybe_53 rfl rfl ⟨rfl, rfl⟩
    · exact absurd c_8 (by decide)
  | true =>
    rw [cnt_lpl hF ok hl] at hp
    rw [hl] at e1
    have hml : many (sPl S) < 2 ^ 31 := by
      unfold many
      have a0 := cnt_le (fun c => sPl S c 0) 36
      have a1 := cnt_le (fun c => sPl S c 1) 36
      have a2 := cnt_le (fun c => sPl S c 2) 36
      have a3 := cnt_le (fun c => sPl S c 3) 36
      omega
    have en : nI (many (sPl S)) = 1 ↔ many (sPl S) = 1 := nI_eq (b := 1) hml (by decide)
    refine run_of (by decide) (Nat.le_of_ble_eq_true rfl) ?_
    by_cases hm : many (sPl S) = 1
    · have hf : found S = setLost S false := by unfold found; rw [if_pos ⟨hl, hm⟩]
      rw [hf]
      have L : ∀ (m i : Nat), i + m = fN F → WW l g mM_findsMaybe (zrm (d + 2) 0 0) (fun _ => True) (zQQ g (PV (h.set 32 (sC F (setLost S false) z))) (h.length + 0) 0 0) 29 [(0, some (.ref 31)), (1, some (.int (nI i)))] [] (h.set 32 (iA 114 (fil (upd (ms F S z) 111 0) 72 i (fun _ => 0)))) 0 0 := by
        intro m
        induction m with
        | zero =>
          intro i hi
          have hi : i = fN F := by omega
          subst hi
          refine zw_iload_n dM_findsMaybe_29 rfl ?_
          refine zw_aload_n dM_findsMaybe_30 rfl ?_
          refine zc_V0I dM_findsMaybe_31 zm_M_cells zk_M_57 (hM32 _) rfl (c_M_cells (hM32 _)) ?_ zRR (Nat.le_of_ble_eq_true rfl) ⟨Nat.le_of_ble_eq_true rfl, Nat.le_of_ble_eq_true rfl⟩
          refine zw_icmp_ge 53 dM_findsMaybe_34 (by decide) (fun c_34 => ?_) (fun c_34 => ?_)
          · exact zw_vret dM_findsMaybe_53 rfl (by rw [zs_len]; rfl) ⟨rfl, by rw [fnd_eq hF hl]; rfl⟩
          · exact absurd (Int32.le_refl _) c_34
        | succ m ih =>
          intro i hi
          obtain ⟨v1, v2, v3⟩ := vP hF (show i < fN F by omega)
          refine zw_iload_n dM_findsMaybe_29 rfl ?_
          refine zw_aload_n dM_findsMaybe_30 rfl ?_
          refine zc_V0I dM_findsMaybe_31 zm_M_cells zk_M_57 (by first | exact hM32 _ | exact hS32 _) rfl (c_M_cells (hM32 _)) ?_ zRR (Nat.le_of_ble_eq_true rfl) ⟨Nat.le_of_ble_eq_true rfl, Nat.le_of_ble_eq_true rfl⟩
          refine zw_icmp_ge 53 dM_findsMaybe_34 (by decide) (fun c_34 => ?_) (fun c_34 => ?_)
          · exact absurd ((nI_leI (by omega) (by omega)).mp c_34) (by omega)
          · refine zw_aload_n dM_findsMaybe_37 rfl ?_
            refine zw_get dM_findsMaybe_38 zf_M_16 (by first | exact hM32 _ | exact hS32 _) rfl ?_
            refine zw_bipush (v := 72) dM_findsMaybe_41 (by decide) ?_
            refine zw_iload_n dM_findsMaybe_43 rfl ?_
            refine zw_iadd dM_findsMaybe_44 ?_
            rw [v1]
            refine zw_iconst (v := 0) dM_findsMaybe_45 (by decide) ?_
            refine zw_iast dM_findsMaybe_46 (by first | exact hM32 _ | exact hS32 _) v2 ?_
            rw [v3]
            refine zw_h (iAs _ _ _ _ _) ?_
            rw [show upd (fil (upd (ms F S z) 111 0) 72 i (fun _ => 0)) (72 + i) 0 = fil (upd (ms F S z) 111 0) 72 (i + 1) (fun _ => 0) from fil_s _ _ _ _]
            refine zw_incN dM_findsMaybe_47 rfl (by decide) rfl ?_
            refine zw_goto 29 dM_findsMaybe_50 (by decide) ?_
            exact zw_lk (ih (i + 1) (by omega)) ⟨rfl, rfl, trivial⟩
      refine zw_aload_n dM_findsMaybe_0 rfl ?_
      refine zw_get dM_findsMaybe_1 zf_M_16 (by first | exact hM | exact hS | exact hM32 _ | exact hS32 _) rfl ?_
      refine zw_bipush (v := 111) dM_findsMaybe_4 (by decide) ?_
      refine zw_iald dM_findsMaybe_6 (by first | exact hM | exact hS | exact hM32 _ | exact hS32 _) v111 ?_
      rw [e111, e1]
      refine zw_iconst (v := 1) dM_findsMaybe_7 (by decide) ?_
      refine zw_icmp_ne 53 dM_findsMaybe_8 (by decide) (fun c_8 => ?_) (fun c_8 => ?_)
      · exact absurd rfl c_8
      · refine zw_aload_n dM_findsMaybe_11 rfl ?_
        refine zc_V0I dM_findsMaybe_12 zm_M_manyPlaces zk_M_106 (by first | exact hM | exact hS | exact hM32 _ | exact hS32 _) rfl hp ?_ zRR (Nat.le_of_ble_eq_true rfl) ⟨Nat.le_of_ble_eq_true rfl, Nat.le_of_ble_eq_true rfl⟩
        refine zw_iconst (v := 1) dM_findsMaybe_15 (by decide) ?_
        refine zw_icmp_ne 53 dM_findsMaybe_16 (by decide) (fun c_16 => ?_) (fun c_16 => ?_)
        · exact absurd (en.mpr hm) c_16
        · refine zw_aload_n dM_findsMaybe_19 rfl ?_
          refine zw_get dM_findsMaybe_20 zf_M_16 (by first | exact hM | exact hS | exact hM32 _ | exact hS32 _) rfl ?_
          refine zw_bipush (v := 111) dM_findsMaybe_23 (by decide) ?_
          refine zw_iconst (v := 0) dM_findsMaybe_25 (by decide) ?_
          refine zw_iast dM_findsMaybe_26 (by first | exact hM | exact hS | exact hM32 _ | exact hS32 _) v111 ?_
          rw [e111]
          refine zw_iconst (v := 0) dM_findsMaybe_27 (by decide) ?_
          refine zw_istore_n dM_findsMaybe_28 (by decide) rfl ?_
          refine zw_lk (ls2 := [(0, some (.ref 31)), (1, some (.int (nI 0)))]) ?_ ⟨rfl, rfl, trivial⟩
          have L0 := L (fN F) 0 (by omega)
          rw [fil_0] at L0
          exact L0
    · have hf : found S = S := by unfold found; rw [if_neg (fun q => hm q.2)]
      rw [hf, zs_self hS]
      refine zw_aload_n dM_findsMaybe_0 rfl ?_
      refine zw_get dM_findsMaybe_1 zf_M_16 (by first | exact hM | exact hS) rfl ?_
      refine zw_bipush (v := 111) dM_findsMaybe_4 (by decide) ?_
      refine zw_iald dM_findsMaybe_6 (by first | exact hM | exact hS) v111 ?_
      rw [e111, e1]
      refine zw_iconst (v := 1) dM_findsMaybe_7 (by decide) ?_
      refine zw_icmp_ne 53 dM_findsMaybe_8 (by decide) (fun c_8 => ?_) (fun c_8 => ?_)
      · exact absurd rfl c_8
      · refine zw_aload_n dM_findsMaybe_11 rfl ?_
        refine zc_V0I dM_findsMaybe_12 zm_M_manyPlaces zk_M_106 (by first | exact hM | exact hS) rfl hp ?_ zRR (Nat.le_of_ble_eq_true rfl) ⟨Nat.le_of_ble_eq_true rfl, Nat.le_of_ble_eq_true rfl⟩
        refine zw_iconst (v := 1) dM_findsMaybe_15 (by decide) ?_
        refine zw_icmp_ne 53 dM_findsMaybe_16 (by decide) (fun c_16 => ?_) (fun c_16 => ?_)
        · exact zw_vret dM_findsMaybe_53 rfl rfl ⟨rfl, rfl⟩
        · exact absurd (en.mp c_16) hm
theorem c_M_becomePlaces {f np : Nat → Int32} (hF : fOK F) (hM : h[31]? = some (mC F un le qa qb)) (hS : h[32]? = some (iA 114 f)) (hN : h[39]? = some (iA 36 np)) : Run l g mM_becomePlaces (d + 1) 0 0 [.ref 31] h (PV (h.set 32 (iA 114 (fil f 72 (fN F) np)))) := by
  have h36 := fN_le hF
  have hM32 : ∀ c, (h.set 32 c)[31]? = some (mC F un le qa qb) := fun c => zg_ne (by decide) hM
  have hS32 : ∀ c, (h.set 32 c)[32]? = some c := fun c => zg_eq hS
  have hN32 : ∀ c, (h.set 32 c)[39]? = some (iA 36 np) := fun c => zg_ne (by decide) hN
  refine run_of (by decide) (Nat.le_of_ble_eq_true rfl) ?_
  have L : ∀ (m i : Nat), i + m = fN F → WW l g mM_becomePlaces (zrm (d + 1) 0 0) (fun _ => True) (zQQ g (PV (h.set 32 (iA 114 (fil f 72 (fN F) np)))) (h.length + 0) 0 0) 2 [(0, some (.ref 31)), (1, some (.int (nI i)))] [] (h.set 32 (iA 114 (fil f 72 i np))) 0 0 := by
    intro m
    induction m with
    | zero =>
      intro i hi
      have hi : i = fN F := by omega
      subst hi
      refine zw_iload_n dM_becomePlaces_2 rfl ?_
      refine zw_aload_n dM_becomePlaces_3 rfl ?_
      refine zc_V0I dM_becomePlaces_4 zm_M_cells zk_M_57 (hM32 _) rfl (c_M_cells (hM32 _)) ?_ zRR (Nat.le_of_ble_eq_true rfl) ⟨Nat.le_of_ble_eq_true rfl, Nat.le_of_ble_eq_true rfl⟩
      refine zw_icmp_ge 31 dM_becomePlaces_7 (by decide) (fun c_7 => ?_) (fun c_7 => ?_)
      · exact zw_vret dM_becomePlaces_31 rfl (by rw [zs_len]; rfl) ⟨rfl, rfl⟩
      · exact absurd (Int32.le_refl _) c_7
    | succ m ih =>
      intro i hi
      obtain ⟨v1, v2, v3⟩ := vP hF (show i < fN F by omega)
      have ecl : (nI i).toNatClampNeg = i := nI_clamp (by omega)
      refine zw_iload_n dM_becomePlaces_2 rfl ?_
      refine zw_aload_n dM_becomePlaces_3 rfl ?_
      refine zc_V0I dM_becomePlaces_4 zm_M_cells zk_M_57 (by first | exact hM32 _ | exact hS32 _ | exact hN32 _) rfl (c_M_cells (hM32 _)) ?_ zRR (Nat.le_of_ble_eq_true rfl) ⟨Nat.le_of_ble_eq_true rfl, Nat.le_of_ble_eq_true rfl⟩
      refine zw_icmp_ge 31 dM_becomePlaces_7 (by decide) (fun c_7 => ?_) (fun c_7 => ?_)
      · exact absurd ((nI_leI (by omega) (by omega)).mp c_7) (by omega)
      · refine zw_aload_n dM_becomePlaces_10 rfl ?_
        refine zw_get dM_becomePlaces_11 zf_M_16 (by first | exact hM32 _ | exact hS32 _ | exact hN32 _) rfl ?_
        refine zw_bipush (v := 72) dM_becomePlaces_14 (by decide) ?_
        refine zw_iload_n dM_becomePlaces_16 rfl ?_
        refine zw_iadd dM_becomePlaces_17 ?_
        rw [v1]
        refine zw_aload_n dM_becomePlaces_18 rfl ?_
        refine zw_get dM_becomePlaces_19 zf_M_39 (by first | exact hM32 _ | exact hS32 _ | exact hN32 _) rfl ?_
        refine zw_iload_n dM_becomePlaces_22 rfl ?_
        refine zw_iald dM_becomePlaces_23 (by first | exact hM32 _ | exact hS32 _ | exact hN32 _) (vp_in_nI (show i < 36 by omega) (by decide)) ?_
        rw [ecl]
        refine zw_iast dM_becomePlaces_24 (by first | exact hM32 _ | exact hS32 _ | exact hN32 _) v2 ?_
        rw [v3]
        refine zw_h (iAs _ _ _ _ _) ?_
        rw [fil_s]
        refine zw_incN dM_becomePlaces_25 rfl (by decide) rfl ?_
        refine zw_goto 2 dM_becomePlaces_28 (by decide) ?_
        exact zw_lk (ih (i + 1) (by omega)) ⟨rfl, rfl, trivial⟩
  refine zw_iconst (v := 0) dM_becomePlaces_0 (by decide) ?_
  refine zw_istore_n dM_becomePlaces_1 (by decide) rfl ?_
  refine zw_lk (ls2 := [(0, some (.ref 31)), (1, some (.int (nI 0)))]) ?_ ⟨rfl, rfl, trivial⟩
  have L0 := L (fN F) 0 (by omega)
  rw [fil_0, zs_self hS] at L0
  exact L0
end C53
