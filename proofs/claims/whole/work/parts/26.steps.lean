/-! ===== steps, turns, scans ===== -/
theorem lost0 {b : Bool} (c : (if b = true then (1 : Int32) else 0) = 0) : b = false := by cases b with | false => rfl | true => exact absurd c (by decide)
theorem lost1 {b : Bool} (c : ¬ (if b = true then (1 : Int32) else 0) = 0) : b = true := by cases b with | true => rfl | false => exact absurd rfl c
theorem keepP_sub {F : Fl} {S : Sit} {t q : Nat} {pl : Nat → Nat → Bool} (j : Nat) : sub F (fun c => keepP F S t q pl c j) := by
  intro i hi
  simp only [keepP, Bool.and_eq_true, decide_eq_true_eq] at hi
  exact hi.2.1
section C26
variable {l : Launch} {g : zG} {d : Nat} {h : zH} {F : Fl} {S : Sit} {k : Nat}
theorem c_S_sortOutBy (hk4 : k ≠ 4 ∧ k + 1 ≠ 4) (hF : fOK F) (hG : h[4]? = some (gC F)) (hS : h[k]? = some (sitC k S)) (hp : h[k + 1]? = some (plC S)) {out : Nat} (ho : out < 4) : Run l g mS_sortOutBy (d + 3) 0 0 [.ref k, .int (nI out)] h (PV (hs2 k (sortP F S out) h)) := by
  refine run_of (by decide) (Nat.le_of_ble_eq_true rfl) ?_
  by_cases h0 : out = 0
  · subst h0
    have hS1 : (hs2 k (setPl S (keepP F S 0 0 (sPl S))) h)[k]? = some (sitC k (setPl S (keepP F S 0 0 (sPl S)))) := hs2_k hS
    have hp1 : (hs2 k (setPl S (keepP F S 0 0 (sPl S))) h)[k + 1]? = some (plC (setPl S (keepP F S 0 0 (sPl S)))) := hs2_p hp
    have hG1 : (hs2 k (setPl S (keepP F S 0 0 (sPl S))) h)[4]? = some (gC F) := hs2_ne hk4.1 hk4.2 hG
    have hS2 : (hs2 k (setPl S (moveP F (keepP F S 0 0 (sPl S)))) h)[k]? = some (sitC k (setPl S (moveP F (keepP F S 0 0 (sPl S))))) := hs2_k hS
    have hp2 : (hs2 k (setPl S (moveP F (keepP F S 0 0 (sPl S)))) h)[k + 1]? = some (plC (setPl S (moveP F (keepP F S 0 0 (sPl S))))) := hs2_p hp
    refine zw_iload_n dS_sortOutBy_0 rfl ?_
    refine zw_if_ne 17 dS_sortOutBy_1 (by decide) (fun c_1 => ?_) (fun c_1 => ?_)
    · exact absurd rfl c_1
    · refine zw_aload_n dS_sortOutBy_4 rfl ?_
      refine zw_iconst (v := 0) dS_sortOutBy_5 (by decide) ?_
      refine zw_iconst (v := 0) dS_sortOutBy_6 (by decide) ?_
      refine zc_V2V dS_sortOutBy_7 zm_S_keepPlacesThatSee zk_S_118 (by first | exact hS | exact hS1 | exact hS2) rfl (c_S_keepPlacesThatSee (t := 0) (q := 0) hk4 hF hG hS hp (by decide) (by decide)) ?_ zRR (Nat.le_of_ble_eq_true rfl) ⟨Nat.le_of_ble_eq_true rfl, Nat.le_of_ble_eq_true rfl⟩
      refine zw_aload_n dS_sortOutBy_10 rfl ?_
      refine zc_V0V dS_sortOutBy_11 zm_S_movePlacesAhead zk_S_128 (by first | exact hS | exact hS1 | exact hS2) rfl (c_S_movePlacesAhead hk4 hF hG1 hS1 hp1 (fun j _ => keepP_sub j)) ?_ zRR (Nat.le_of_ble_eq_true rfl) ⟨Nat.le_of_ble_eq_true rfl, Nat.le_of_ble_eq_true rfl⟩
      refine zw_h (h2 := hs2 k (setPl S (moveP F (keepP F S 0 0 (sPl S)))) h) (hs2_hs2 _ _ _ _) ?_
      refine zw_goto 32 dS_sortOutBy_14 (by decide) ?_
      refine zw_aload_n dS_sortOutBy_32 rfl ?_
      refine zc_V0V dS_sortOutBy_33 zm_S_beFoundIfSure zk_S_112 (by first | exact hS | exact hS1 | exact hS2) rfl (c_S_beFoundIfSure hS2 hp2) ?_ zRR (Nat.le_of_ble_eq_true rfl) ⟨Nat.le_of_ble_eq_true rfl, Nat.le_of_ble_eq_true rfl⟩
      exact zw_vret dS_sortOutBy_36 rfl (by rw [hs2_len, hs2_len]; rfl) ⟨rfl, by rw [hs2_hs2]; rfl⟩
  · have hS1 : (hs2 k (setPl S (keepP F S (if out = 3 then 2 else 1) 0 (sPl S))) h)[k]? = some (sitC k (setPl S (keepP F S (if out = 3 then 2 else 1) 0 (sPl S)))) := hs2_k hS
    have hp1 : (hs2 k (setPl S (keepP F S (if out = 3 then 2 else 1) 0 (sPl S))) h)[k + 1]? = some (plC (setPl S (keepP F S (if out = 3 then 2 else 1) 0 (sPl S)))) := hs2_p hp
    have e : sortP F S out = found (setPl S (keepP F S (if out = 3 then 2 else 1) 0 (sPl S))) := by unfold sortP; rw [if_neg h0]
    rw [e]
    by_cases h3 : out = 3
    · rw [if_pos h3] at hS1 hp1 ⊢
      subst h3
      refine zw_iload_n dS_sortOutBy_0 rfl ?_
      refine zw_if_ne 17 dS_sortOutBy_1 (by decide) (fun c_1 => ?_) (fun c_1 => ?_)
      · refine zw_aload_n dS_sortOutBy_17 rfl ?_
        refine zw_iload_n dS_sortOutBy_18 rfl ?_
        refine zw_iconst (v := 3) dS_sortOutBy_19 (by decide) ?_
        refine zw_icmp_ne 27 dS_sortOutBy_20 (by decide) (fun c_20 => ?_) (fun c_20 => ?_)
        · exact absurd rfl c_20
        · refine zw_iconst (v := 2) dS_sortOutBy_23 (by decide) ?_
          refine zw_goto 28 dS_sortOutBy_24 (by decide) ?_
          refine zw_iconst (v := 0) dS_sortOutBy_28 (by decide) ?_
          refine zc_V2V dS_sortOutBy_29 zm_S_keepPlacesThatSee zk_S_118 (by first | exact hS | exact hS1) rfl (c_S_keepPlacesThatSee (t := 2) (q := 0) hk4 hF hG hS hp (by decide) (by decide)) ?_ zRR (Nat.le_of_ble_eq_true rfl) ⟨Nat.le_of_ble_eq_true rfl, Nat.le_of_ble_eq_true rfl⟩
          refine zw_aload_n dS_sortOutBy_32 rfl ?_
          refine zc_V0V dS_sortOutBy_33 zm_S_beFoundIfSure zk_S_112 (by first | exact hS | exact hS1) rfl (c_S_beFoundIfSure hS1 hp1) ?_ zRR (Nat.le_of_ble_eq_true rfl) ⟨Nat.le_of_ble_eq_true rfl, Nat.le_of_ble_eq_true rfl⟩
          exact zw_vret dS_sortOutBy_36 rfl (by rw [hs2_len, hs2_len]; rfl) ⟨rfl, by rw [hs2_hs2]⟩
      · exact absurd c_1 (by decide)
    · rw [if_neg h3] at hS1 hp1 ⊢
      refine zw_iload_n dS_sortOutBy_0 rfl ?_
      refine zw_if_ne 17 dS_sortOutBy_1 (by decide) (fun c_1 => ?_) (fun c_1 => ?_)
      · refine zw_aload_n dS_sortOutBy_17 rfl ?_
        refine zw_iload_n dS_sortOutBy_18 rfl ?_
        refine zw_iconst (v := 3) dS_sortOutBy_19 (by decide) ?_
        refine zw_icmp_ne 27 dS_sortOutBy_20 (by decide) (fun c_20 => ?_) (fun c_20 => ?_)
        · refine zw_iconst (v := 1) dS_sortOutBy_27 (by decide) ?_
          refine zw_iconst (v := 0) dS_sortOutBy_28 (by decide) ?_
          refine zc_V2V dS_sortOutBy_29 zm_S_keepPlacesThatSee zk_S_118 (by first | exact hS | exact hS1) rfl (c_S_keepPlacesThatSee (t := 1) (q := 0) hk4 hF hG hS hp (by decide) (by decide)) ?_ zRR (Nat.le_of_ble_eq_true rfl) ⟨Nat.le_of_ble_eq_true rfl, Nat.le_of_ble_eq_true rfl⟩
          refine zw_aload_n dS_sortOutBy_32 rfl ?_
          refine zc_V0V dS_sortOutBy_33 zm_S_beFoundIfSure zk_S_112 (by first | exact hS | exact hS1) rfl (c_S_beFoundIfSure hS1 hp1) ?_ zRR (Nat.le_of_ble_eq_true rfl) ⟨Nat.le_of_ble_eq_true rfl, Nat.le_of_ble_eq_true rfl⟩
          exact zw_vret dS_sortOutBy_36 rfl (by rw [hs2_len, hs2_len]; rfl) ⟨rfl, by rw [hs2_hs2]⟩
        · exact absurd ((nI_eq (a := out) (b := 3) (by omega) (by decide)).mp c_20) h3
      · exact absurd ((nI_eq (a := out) (b := 0) (by omega) (by decide)).mp c_1) h0
theorem m_or_none (p : Nat → Bool) : mset p ||| mset (oneO none) = mset p := by rw [oneO_none, m_or]; simp
theorem m_andn_none (p : Nat → Bool) : mset p &&& (mset (oneO none) ^^^ (-1)) = mset p := by rw [oneO_none, m_andn]; simp
theorem lrn_a (S : Sit) (c : Nat) : mset (kn1 S) ||| mset (oneO (some c)) = mset (kn1 (lrn S (some c) 0)) := by
  rw [m_or, oneO_some]
  apply mset_congr
  intro i _
  show (sKn S i == 1 || i == c) = ((if i = c then 1 else sKn S i) == 1)
  by_cases e : i = c <;> simp [e]
theorem lrn_b (S : Sit) (c : Nat) : mset (kn2 S) &&& (mset (oneO (some c)) ^^^ (-1)) = mset (kn2 (lrn S (some c) 0)) := by
  rw [m_andn, oneO_some]
  apply mset_congr
  intro i _
  show (sKn S i == 2 && !(i == c)) = ((if i = c then 1 else sKn S i) == 2)
  by_cases e : i = c <;> simp [e]
theorem lrn_2 (S : Sit) (c : Nat) {out : Nat} (h0 : out ≠ 0) (h3 : out ≠ 3) : lrn S (some c) out = setKn S (fun i => if i = c then 2 else sKn S i) := by simp [lrn, h0, h3]
theorem lrn_c (S : Sit) (c : Nat) : mset (kn2 S) ||| mset (oneO (some c)) = mset (kn2 (setKn S (fun i => if i = c then 2 else sKn S i))) := by
  rw [m_or, oneO_some]
  apply mset_congr
  intro i _
  show (sKn S i == 2 || i == c) = ((if i = c then 2 else sKn S i) == 2)
  by_cases e : i = c <;> simp [e]
theorem lrn_d (S : Sit) (c : Nat) : mset (kn1 S) &&& (mset (oneO (some c)) ^^^ (-1)) = mset (kn1 (setKn S (fun i => if i = c then 2 else sKn S i))) := by
  rw [m_andn, oneO_some]
  apply mset_congr
  intro i _
  show (sKn S i == 1 && !(i == c)) = ((if i = c then 2 else sKn S i) == 1)
  by_cases e : i = c <;> simp [e]
theorem c_S_learn (hS : h[k]? = some (sitC k S)) (hp : h[k + 1]? = some (plC S)) {o : Option Nat} (ho : oOK o) {out : Nat} (hout : out < 4) : Run l g mS_learn (d + 1) 0 0 [.ref k, .int (oI o), .int (nI out)] h (PV (hs2 k (lrn S o out) h)) := by
  refine run_of (by decide) (Nat.le_of_ble_eq_true rfl) ?_
  cases o with
  | none =>
    have hid : ∀ c : zC, c = sitC k S → h.set k c = h := fun c e => by rw [e]; exact zs_self hS
    refine zw_iload_n dS_learn_0 rfl ?_
    refine zw_if_ne 37 dS_learn_1 (by decide) (fun c_1 => ?_) (fun c_1 => ?_)
    · refine zw_iload_n dS_learn_37 rfl ?_
      refine zw_iconst (v := 3) dS_learn_38 (by decide) ?_
      refine zw_icmp_eq 72 dS_learn_39 (by decide) (fun c_39 => ?_) (fun c_39 => ?_)
      · exact zw_vret dS_learn_72 rfl rfl ⟨rfl, by rw [show lrn S none out = S from rfl, hs2_self hS hp]⟩
      · refine zw_aload_n dS_learn_42 rfl ?_
        refine zw_dup dS_learn_43 rfl ?_
        refine zw_get dS_learn_44 zf_S_51 (by first | exact hS | exact zg_eq hS) rfl ?_
        refine zw_iload_n dS_learn_47 rfl ?_
        refine zc_S1L dS_learn_48 zm_F_only zk_S_44 (c_F_only (a := none) ho) ?_ zRR (Nat.le_of_ble_eq_true rfl) ⟨Nat.le_of_ble_eq_true rfl, Nat.le_of_ble_eq_true rfl⟩
        refine zw_lor dS_learn_51 ?_
        rw [m_or_none]
        refine zw_putl dS_learn_52 zf_S_51 (by first | exact hS | exact zg_eq hS) (Nat.le_of_ble_eq_true rfl) ?_
        refine zw_aload_n dS_learn_55 rfl ?_
        refine zw_dup dS_learn_56 rfl ?_
        refine zw_get dS_learn_57 zf_S_48 (by first | exact hS | exact zg_eq hS) rfl ?_
        refine zw_iload_n dS_learn_60 rfl ?_
        refine zc_S1L dS_learn_61 zm_F_only zk_S_44 (c_F_only (a := none) ho) ?_ zRR (Nat.le_of_ble_eq_true rfl) ⟨Nat.le_of_ble_eq_true rfl, Nat.le_of_ble_eq_true rfl⟩
        refine zw_ldc2 dS_learn_64 zcl_S_70 ?_
        refine zw_lxor dS_learn_67 ?_
        refine zw_land dS_learn_68 ?_
        rw [m_andn_none]
        refine zw_putl dS_learn_69 zf_S_48 (by first | exact hS | exact zg_eq hS) (Nat.le_of_ble_eq_true rfl) ?_
        refine zw_h (h2 := h) ((zs_set _ _ _ _).trans (hid _ rfl)) ?_
        exact zw_vret dS_learn_72 rfl rfl ⟨rfl, by rw [show lrn S none out = S from rfl, hs2_self hS hp]⟩
    · refine zw_aload_n dS_learn_4 rfl ?_
      refine zw_dup dS_learn_5 rfl ?_
      refine zw_get dS_learn_6 zf_S_48 (by first | exact hS | exact zg_eq hS) rfl ?_
      refine zw_iload_n dS_learn_9 rfl ?_
      refine zc_S1L dS_learn_10 zm_F_only zk_S_44 (c_F_only (a := none) ho) ?_ zRR (Nat.le_of_ble_eq_true rfl) ⟨Nat.le_of_ble_eq_true rfl, Nat.le_of_ble_eq_true rfl⟩
      refine zw_lor dS_learn_13 ?_
      rw [m_or_none]
      refine zw_putl dS_learn_14 zf_S_48 (by first | exact hS | exact zg_eq hS) (Nat.le_of_ble_eq_true rfl) ?_
      refine zw_aload_n dS_learn_17 rfl ?_
      refine zw_dup dS_learn_18 rfl ?_
      refine zw_get dS_learn_19 zf_S_51 (by first | exact hS | exact zg_eq hS) rfl ?_
      refine zw_iload_n dS_learn_22 rfl ?_
      refine zc_S1L dS_learn_23 zm_F_only zk_S_44 (c_F_only (a := none) ho) ?_ zRR (Nat.le_of_ble_eq_true rfl) ⟨Nat.le_of_ble_eq_true rfl, Nat.le_of_ble_eq_true rfl⟩
      refine zw_ldc2 dS_learn_26 zcl_S_70 ?_
      refine zw_lxor dS_learn_29 ?_
      refine zw_land dS_learn_30 ?_
      rw [m_andn_none]
      refine zw_putl dS_learn_31 zf_S_51 (by first | exact hS | exact zg_eq hS) (Nat.le_of_ble_eq_true rfl) ?_
      refine zw_h (h2 := h) ((zs_set _ _ _ _).trans (hid _ rfl)) ?_
      refine zw_goto 72 dS_learn_34 (by decide) ?_
      exact zw_vret dS_learn_72 rfl rfl ⟨rfl, by rw [show lrn S none out = S from rfl, hs2_self hS hp]⟩
  | some c =>
    by_cases h0 : out = 0
    · subst h0
      refine zw_iload_n dS_learn_0 rfl ?_
      refine zw_if_ne 37 dS_learn_1 (by decide) (fun c_1 => ?_) (fun c_1 => ?_)
      · exact absurd rfl c_1
      · refine zw_aload_n dS_learn_4 rfl ?_
        refine zw_dup dS_learn_5 rfl ?_
        refine zw_get dS_learn_6 zf_S_48 (by first | exact hS | exact zg_eq hS) rfl ?_
        refine zw_iload_n dS_learn_9 rfl ?_
        refine zc_S1L dS_learn_10 zm_F_only zk_S_44 (c_F_only (a := some c) ho) ?_ zRR (Nat.le_of_ble_eq_true rfl) ⟨Nat.le_of_ble_eq_true rfl, Nat.le_of_ble_eq_true rfl⟩
        refine zw_lor dS_learn_13 ?_
        rw [lrn_a]
        refine zw_putl dS_learn_14 zf_S_48 (by first | exact hS | exact zg_eq hS) (Nat.le_of_ble_eq_true rfl) ?_
        refine zw_aload_n dS_learn_17 rfl ?_
        refine zw_dup dS_learn_18 rfl ?_
        refine zw_get dS_learn_19 zf_S_51 (by first | exact hS | exact zg_eq hS) rfl ?_
        refine zw_iload_n dS_learn_22 rfl ?_
        refine zc_S1L dS_learn_23 zm_F_only zk_S_44 (c_F_only (a := some c) ho) ?_ zRR (Nat.le_of_ble_eq_true rfl) ⟨Nat.le_of_ble_eq_true rfl, Nat.le_of_ble_eq_true rfl⟩
        refine zw_ldc2 dS_learn_26 zcl_S_70 ?_
        refine zw_lxor dS_learn_29 ?_
        refine zw_land dS_learn_30 ?_
        rw [lrn_b]
        refine zw_putl dS_learn_31 zf_S_51 (by first | exact hS | exact zg_eq hS) (Nat.le_of_ble_eq_true rfl) ?_
        refine zw_h (h2 := hs2 k (lrn S (some c) 0) h) ((zs_set _ _ _ _).trans (hs2_sit (S := S) rfl rfl hp)) ?_
        refine zw_goto 72 dS_learn_34 (by decide) ?_
        exact zw_vret dS_learn_72 rfl (by rw [hs2_len]; rfl) ⟨rfl, rfl⟩
    · by_cases h3 : out = 3
      · subst h3
        refine zw_iload_n dS_learn_0 rfl ?_
        refine zw_if_ne 37 dS_learn_1 (by decide) (fun c_1 => ?_) (fun c_1 => ?_)
        · refine zw_iload_n dS_learn_37 rfl ?_
          refine zw_iconst (v := 3) dS_learn_38 (by decide) ?_
          refine zw_icmp_eq 72 dS_learn_39 (by decide) (fun c_39 => ?_) (fun c_39 => ?_)
          · exact zw_vret dS_learn_72 rfl rfl ⟨rfl, by rw [show lrn S (some c) 3 = S from rfl, hs2_self hS hp]⟩
          · exact absurd rfl c_39
        · exact absurd c_1 (by decide)
      · refine zw_iload_n dS_learn_0 rfl ?_
        refine zw_if_ne 37 dS_learn_1 (by decide) (fun c_1 => ?_) (fun c_1 => ?_)
        · refine zw_iload_n dS_learn_37 rfl ?_
          refine zw_iconst (v := 3) dS_learn_38 (by decide) ?_
          refine zw_icmp_eq 72 dS_learn_39 (by decide) (fun c_39 => ?_) (fun c_39 => ?_)
          · exact absurd ((nI_eq (a := out) (b := 3) (by omega) (by decide)).mp c_39) h3
          · refine zw_aload_n dS_learn_42 rfl ?_
            refine zw_dup dS_learn_43 rfl ?_
            refine zw_get dS_learn_44 zf_S_51 (by first | exact hS | exact zg_eq hS) rfl ?_
            refine zw_iload_n dS_learn_47 rfl ?_
            refine zc_S1L dS_learn_48 zm_F_only zk_S_44 (c_F_only (a := some c) ho) ?_ zRR (Nat.le_of_ble_eq_true rfl) ⟨Nat.le_of_ble_eq_true rfl, Nat.le_of_ble_eq_true rfl⟩
            refine zw_lor dS_learn_51 ?_
            rw [lrn_c]
            refine zw_putl dS_learn_52 zf_S_51 (by first | exact hS | exact zg_eq hS) (Nat.le_of_ble_eq_true rfl) ?_
            refine zw_aload_n dS_learn_55 rfl ?_
            refine zw_dup dS_learn_56 rfl ?_
            refine zw_get dS_learn_57 zf_S_48 (by first | exact hS | exact zg_eq hS) rfl ?_
            refine zw_iload_n dS_learn_60 rfl ?_
            refine zc_S1L dS_learn_61 zm_F_only zk_S_44 (c_F_only (a := some c) ho) ?_ zRR (Nat.le_of_ble_eq_true rfl) ⟨Nat.le_of_ble_eq_true rfl, Nat.le_of_ble_eq_true rfl⟩
            refine zw_ldc2 dS_learn_64 zcl_S_70 ?_
            refine zw_lxor dS_learn_67 ?_
            refine zw_land dS_learn_68 ?_
            rw [lrn_d]
            refine zw_putl dS_learn_69 zf_S_48 (by first | exact hS | exact zg_eq hS) (Nat.le_of_ble_eq_true rfl) ?_
            refine zw_h (h2 := hs2 k (lrn S (some c) out) h) ((zs_set _ _ _ _).trans (by rw [lrn_2 S c h0 h3]; exact hs2_sit (S := S) rfl rfl hp)) ?_
            exact zw_vret dS_learn_72 rfl (by rw [hs2_len]; rfl) ⟨rfl, rfl⟩
        · exact absurd ((nI_eq (a := out) (b := 0) (by omega) (by decide)).mp c_1) h0
theorem outc_lt (F : Fl) (S : Sit) (o : Option Nat) : outc F S o < 4 := by
  cases o with
  | none => exact (by decide : 1 < 4)
  | some c => simp only [outc]; split; decide; split; decide; split <;> decide
theorem nb_ok {F : Fl} (hF : fOK F) {c hand : Nat} (hc : c < fN F) (hh : hand < 4) : (∀ b, nb F c hand = some b → b < fN F) ∧ oOK (nb F c hand) := by
  have h1 : ∀ b, nb F c hand = some b → b < fN F := fun b e => (nb_spec hF hc hh e).1
  exact ⟨h1, fun b e => Nat.lt_of_lt_of_le (h1 b e) (fN_le hF)⟩
theorem c_S_stepTo (hk4 : k ≠ 4 ∧ k + 1 ≠ 4) (hF : fOK F) (hG : h[4]? = some (gC F)) (hS : h[k]? = some (sitC k S)) (hp : h[k + 1]? = some (plC S)) {hand : Nat} (hh : hand < 4) (hat : sAt S < fN F) (hch : 0 < sCh S) : Run l g mS_stepTo (d + 4) 0 0 [.ref k, .int (nI hand)] h (PI (nI (stepO F S hand)) (hs2 k (stepS F S hand) h)) := by
  refine run_of (by decide) (Nat.le_of_ble_eq_true rfl) ?_
  obtain ⟨hnb, hnO⟩ := nb_ok hF hat hh
  generalize hS1e : setCh (setHd S hand) (sCh S - 1) = S1
  have hSa : (hs2 k (setHd S hand) h)[k]? = some (sitC k (setHd S hand)) := hs2_k hS
  have hpa : (hs2 k (setHd S hand) h)[k + 1]? = some (plC (setHd S hand)) := hs2_p hp
  have hS1 : (hs2 k S1 h)[k]? = some (sitC k S1) := hs2_k hS
  have hp1 : (hs2 k S1 h)[k + 1]? = some (plC S1) := hs2_p hp
  have hG1 : (hs2 k S1 h)[4]? = some (gC F) := hs2_ne hk4.1 hk4.2 hG
  have eat : sAt S1 = sAt S := by rw [← hS1e]; rfl
  have elost : sLost S1 = sLost S := by rw [← hS1e]; rfl
  have eout : outc F S1 (nb F (sAt S) hand) = outc F S (nb F (sAt S) hand) := by rw [← hS1e]; rfl
  have ech : nI (sCh S) - 1 = nI (sCh S - 1) := pk_sub (b := 1) hch
  have hol := outc_lt F S (nb F (sAt S) hand)
  -- the end: S2 behind learning or sorting out
  have E : ∀ (S2 : Sit), S2 = (if sLost S = true then sortP F S1 (outc F S (nb F (sAt S) hand)) else lrn S1 (nb F (sAt S) hand) (outc F S (nb F (sAt S) hand))) → WW l g mS_stepTo (zrm (d + 4) 0 0) (fun _ => True) (zQQ g (PI (nI (stepO F S hand)) (hs2 k (stepS F S hand) h)) (h.length + 0) 0 0) 55 [(0, some (.ref k)), (1, some (.int (nI hand))), (2, some (.int (oI (nb F (sAt S) hand)))), (3, some (.int (nI (outc F S (nb F (sAt S) hand)))))] [] (hs2 k S2 h) 0 0 := by
    intro S2 hS2e
    have hS2 : (hs2 k S2 h)[k]? = some (sitC k S2) := hs2_k hS
    have hp2 : (hs2 k S2 h)[k + 1]? = some (plC S2) := hs2_p hp
    have efin : stepS F S hand = if outc F S (nb F (sAt S) hand) = 0 then setAt' S2 ((nb F (sAt S) hand).getD 0) else S2 := by rw [hS2e, ← hS1e]; rfl
    by_cases h0 : outc F S (nb F (sAt S) hand) = 0
    · rw [h0] at efin ⊢
      cases hq : nb F (sAt S) hand with
      | none => rw [hq] at h0; exact absurd (show (1 : Nat) = 0 from h0) (by decide)
      | some c =>
        rw [hq] at efin
        rw [efin]
        refine zw_iload_n dS_stepTo_55 rfl ?_
        refine zw_if_ne 64 dS_stepTo_56 (by decide) (fun c_56 => ?_) (fun c_56 => ?_)
        · exact absurd rfl c_56
        · refine zw_aload_n dS_stepTo_59 rfl ?_
          refine zw_iload_n dS_stepTo_60 rfl ?_
          refine zw_puti dS_stepTo_61 zf_S_35 hS2 (Nat.le_of_ble_eq_true rfl) ?_
          refine zw_h (h2 := hs2 k (setAt' S2 c) h) ((hs2_sit (S := S2) (S' := setAt' S2 c) rfl rfl hp2).trans (hs2_hs2 _ _ _ _)) ?_
          refine zw_iload_n dS_stepTo_64 rfl ?_
          exact zw_iret dS_stepTo_65 rfl rfl (by rw [hs2_len]; rfl) ⟨by rw [show stepO F S hand = 0 from by unfold stepO; rw [hq]; rw [hq] at h0; exact h0], rfl⟩
    · rw [if_neg h0] at efin
      rw [efin]
      refine zw_iload_n dS_stepTo_55 rfl ?_
      refine zw_if_ne 64 dS_stepTo_56 (by decide) (fun c_56 => ?_) (fun c_56 => ?_)
      · refine zw_iload_n dS_stepTo_64 rfl ?_
        exact zw_iret dS_stepTo_65 rfl rfl (by rw [hs2_len]; rfl) ⟨rfl, rfl⟩
      · exact absurd ((nI_eq (b := 0) (by omega) (by decide)).mp c_56) h0
  refine zw_aload_n dS_stepTo_0 rfl ?_
  refine zw_iload_n dS_stepTo_1 rfl ?_
  refine zw_puti dS_stepTo_2 zf_S_38 hS (Nat.le_of_ble_eq_true rfl) ?_
  refine zw_h (h2 := hs2 k (setHd S hand) h) (hs2_sit (S := S) rfl rfl hp) ?_
  refine zw_aload_n dS_stepTo_5 rfl ?_
  refine zw_dup dS_stepTo_6 rfl ?_
  refine zw_get dS_stepTo_7 zf_S_41 hSa rfl ?_
  refine zw_iconst (v := 1) dS_stepTo_10 (by decide) ?_
  refine zw_isub dS_stepTo_11 ?_
  rw [show sCh (setHd S hand) = sCh S from rfl, ech]
  refine zw_puti dS_stepTo_12 zf_S_41 hSa (Nat.le_of_ble_eq_true rfl) ?_
  refine zw_h (h2 := hs2 k S1 h) (by rw [← hS1e]; exact (hs2_sit (S := setHd S hand) (S' := setCh (setHd S hand) (sCh S - 1)) rfl rfl hpa).trans (hs2_hs2 _ _ _ _)) ?_
  refine zw_aload_n dS_stepTo_15 rfl ?_
  refine zw_get dS_stepTo_16 zf_S_15 (by first | exact hS1 | exact hG1) rfl ?_
  refine zw_aload_n dS_stepTo_19 rfl ?_
  refine zw_get dS_stepTo_20 zf_S_35 (by first | exact hS1 | exact hG1) rfl ?_
  rw [eat]
  refine zw_iload_n dS_stepTo_23 rfl ?_
  refine zc_V2I dS_stepTo_24 zm_G_cellBeside zk_S_86 (by first | exact hS1 | exact hG1) rfl (c_G_cellBeside hF hG1 hat hh) ?_ zRR (Nat.le_of_ble_eq_true rfl) ⟨Nat.le_of_ble_eq_true rfl, Nat.le_of_ble_eq_true rfl⟩
  refine zw_istore_n dS_stepTo_27 (by decide) rfl ?_
  refine zw_aload_n dS_stepTo_28 rfl ?_
  refine zw_iload_n dS_stepTo_29 rfl ?_
  refine zc_V1I dS_stepTo_30 zm_S_outcomeAt zk_S_90 (by first | exact hS1 | exact hG1) rfl (c_S_outcomeAt hF hG1 hS1 hnO hnb) ?_ zRR (Nat.le_of_ble_eq_true rfl) ⟨Nat.le_of_ble_eq_true rfl, Nat.le_of_ble_eq_true rfl⟩
  rw [eout]
  refine zw_istore_n dS_stepTo_33 (by decide) rfl ?_
  refine zw_aload_n dS_stepTo_34 rfl ?_
  refine zw_get dS_stepTo_35 zf_S_54 (by first | exact hS1 | exact hG1) rfl ?_
  refine zw_if_eq 49 dS_stepTo_38 (by decide) (fun c_38 => ?_) (fun c_38 => ?_)
  · refine zw_aload_n dS_stepTo_49 rfl ?_
    refine zw_iload_n dS_stepTo_50 rfl ?_
    refine zw_iload_n dS_stepTo_51 rfl ?_
    refine zc_V2V dS_stepTo_52 zm_S_learn zk_S_98 (by first | exact hS1 | exact hG1) rfl (c_S_learn hS1 hp1 hnO hol) ?_ zRR (Nat.le_of_ble_eq_true rfl) ⟨Nat.le_of_ble_eq_true rfl, Nat.le_of_ble_eq_true rfl⟩
    refine zw_h (h2 := hs2 k (lrn S1 (nb F (sAt S) hand) (outc F S (nb F (sAt S) hand))) h) (hs2_hs2 _ _ _ _) ?_
    exact zw_lk (E _ (by first | (rw [if_pos (by rw [← elost]; exact lost1 c_38)]) | (rw [if_neg (by rw [← elost, lost0 c_38]; decide)]))) ⟨rfl, rfl, rfl, rfl, trivial⟩
  · refine zw_aload_n dS_stepTo_41 rfl ?_
    refine zw_iload_n dS_stepTo_42 rfl ?_
    refine zc_V1V dS_stepTo_43 zm_S_sortOutBy zk_S_94 (by first | exact hS1 | exact hG1) rfl (c_S_sortOutBy hk4 hF hG1 hS1 hp1 hol) ?_ zRR (Nat.le_of_ble_eq_true rfl) ⟨Nat.le_of_ble_eq_true rfl, Nat.le_of_ble_eq_true rfl⟩
    refine zw_h (h2 := hs2 k (sortP F S1 (outc F S (nb F (sAt S) hand))) h) (hs2_hs2 _ _ _ _) ?_
    refine zw_goto 55 dS_stepTo_46 (by decide) ?_
    exact zw_lk (E _ (by first | (rw [if_pos (by rw [← elost]; exact lost1 c_38)]) | (rw [if_neg (by rw [← elost, lost0 c_38]; decide)]))) ⟨rfl, rfl, rfl, rfl, trivial⟩
end C26
