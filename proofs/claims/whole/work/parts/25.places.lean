/-! ===== where it may be ===== -/
section C25
variable {l : Launch} {g : zG} {d : Nat} {h : zH} {F : Fl} {S : Sit} {k : Nat}
def mixP (a b : Nat → Nat → Bool) (i : Nat) : Nat → Int64 := fun j => mset (fun c => if j < i then b c j else a c j)
theorem mixP_0 (a b : Nat → Nat → Bool) : mixP a b 0 = fun j => mset (fun c => a c j) := by funext j; simp [mixP]
theorem mixP_up (a b : Nat → Nat → Bool) (i : Nat) : vp_updL (mixP a b i) i (mset (fun c => b c i)) = mixP a b (i + 1) := by
  funext j
  simp only [vp_updL, mixP]
  by_cases e : j = i
  · subst e; simp
  · have : (j < i + 1) ↔ j < i := by omega
    simp [e, this]
theorem mixP_at (a b : Nat → Nat → Bool) (i : Nat) : mixP a b i i = mset (fun c => a c i) := by simp [mixP]
theorem mixP_4 (a b : Nat → Nat → Bool) : ∀ j, j < 4 → mixP a b 4 j = mset (fun c => b c j) := by
  intro j hj
  simp [mixP, hj]
theorem nI4 {i : Nat} (h : i < 4) : vp_in (nI i) 4 := vp_in_nI h (by decide)
theorem cl4 {i : Nat} (h : i < 4) : (nI i).toNatClampNeg = i := nI_clamp (by omega)
theorem sit_pl (S : Sit) (pl : Nat → Nat → Bool) (k : Nat) : sitC k (setPl S pl) = sitC k S := rfl
theorem c_S_keepPlacesThatSee (hk4 : k ≠ 4 ∧ k + 1 ≠ 4) (hF : fOK F) (hG : h[4]? = some (gC F)) (hS : h[k]? = some (sitC k S)) (hp : h[k + 1]? = some (plC S)) {t q : Nat} (ht : t < 3) (hq : q < 4) : Run l g mS_keepPlacesThatSee (d + 2) 0 0 [.ref k, .int (nI t), .int (nI q)] h (PV (hs2 k (setPl S (keepP F S t q (sPl S))) h)) := by
  refine run_of (by decide) (Nat.le_of_ble_eq_true rfl) ?_
  have L : ∀ (m i : Nat), i + m = 4 → WW l g mS_keepPlacesThatSee (zrm (d + 2) 0 0) (fun _ => True) (zQQ g (PV (hs2 k (setPl S (keepP F S t q (sPl S))) h)) (h.length + 0) 0 0) 2 [(0, some (.ref k)), (1, some (.int (nI t))), (2, some (.int (nI q))), (3, some (.int (nI i)))] [] (h.set (k + 1) (.inl (1, 4, .inr (.inl (mixP (sPl S) (keepP F S t q (sPl S)) i))))) 0 0 := by
    intro m
    induction m with
    | zero =>
      intro i him
      have hi : i = 4 := by omega
      subst hi
      refine zw_extl (fun j => mset (fun c => keepP F S t q (sPl S) c j)) (zg_eq hp) (mixP_4 _ _) ?_
      refine zw_h (h2 := hs2 k (setPl S (keepP F S t q (sPl S))) h) ((zs_set _ _ _ _).trans (hs2_pl rfl rfl hS)) ?_
      refine zw_iload_n dS_keepPlacesThatSee_2 rfl ?_
      refine zw_iconst (v := 4) dS_keepPlacesThatSee_3 (by decide) ?_
      refine zw_icmp_ge 32 dS_keepPlacesThatSee_4 (by decide) (fun c_4 => ?_) (fun c_4 => ?_)
      · exact zw_vret dS_keepPlacesThatSee_32 rfl (by rw [hs2_len]; rfl) ⟨rfl, rfl⟩
      · exact absurd (by decide) c_4
    | succ m ih =>
      intro i him
      have hi : i < 4 := by omega
      have hS1 : (h.set (k + 1) (.inl (1, 4, .inr (.inl (mixP (sPl S) (keepP F S t q (sPl S)) i)))))[k]? = some (sitC k S) := zg_ne (by omega) hS
      have hG1 : (h.set (k + 1) (.inl (1, 4, .inr (.inl (mixP (sPl S) (keepP F S t q (sPl S)) i)))))[4]? = some (gC F) := zg_ne hk4.2 hG
      have hp1 : (h.set (k + 1) (.inl (1, 4, .inr (.inl (mixP (sPl S) (keepP F S t q (sPl S)) i)))))[k + 1]? = some (.inl (1, 4, .inr (.inl (mixP (sPl S) (keepP F S t q (sPl S)) i)))) := zg_eq hp
      have hm : (i + q) % 4 < 4 := Nat.mod_lt _ (by decide)
      refine zw_iload_n dS_keepPlacesThatSee_2 rfl ?_
      refine zw_iconst (v := 4) dS_keepPlacesThatSee_3 (by decide) ?_
      refine zw_icmp_ge 32 dS_keepPlacesThatSee_4 (by decide) (fun c_4 => ?_) (fun c_4 => ?_)
      · exact absurd ((nI_leI (a := 4) (b := i) (by omega) (by omega)).mp c_4) (by omega)
      · refine zw_aload_n dS_keepPlacesThatSee_7 rfl ?_
        refine zw_get dS_keepPlacesThatSee_8 zf_S_9 (by first | exact hS1 | exact hG1 | exact hp1) rfl ?_
        refine zw_iload_n dS_keepPlacesThatSee_11 rfl ?_
        refine zw_dup2 dS_keepPlacesThatSee_12 rfl rfl ?_
        refine zw_lald dS_keepPlacesThatSee_13 (by first | exact hS1 | exact hG1 | exact hp1) (nI4 hi) ?_
        rw [cl4 hi, mixP_at]
        refine zw_aload_n dS_keepPlacesThatSee_14 rfl ?_
        refine zw_iload_n dS_keepPlacesThatSee_15 rfl ?_
        refine zw_iload_n dS_keepPlacesThatSee_16 rfl ?_
        refine zw_iload_n dS_keepPlacesThatSee_17 rfl ?_
        refine zc_S2I dS_keepPlacesThatSee_18 zm_F_turned zk_S_106 (c_F_turned hi hq) ?_ zRR (Nat.le_of_ble_eq_true rfl) ⟨Nat.le_of_ble_eq_true rfl, Nat.le_of_ble_eq_true rfl⟩
        refine zc_V2L dS_keepPlacesThatSee_21 zm_S_cellsThatMaySee zk_S_131 (by first | exact hS1 | exact hG1 | exact hp1) rfl (c_S_cellsThatMaySee hF hG1 hS1 ht hm) ?_ zRR (Nat.le_of_ble_eq_true rfl) ⟨Nat.le_of_ble_eq_true rfl, Nat.le_of_ble_eq_true rfl⟩
        refine zw_land dS_keepPlacesThatSee_24 ?_
        rw [m_and]
        refine zw_last dS_keepPlacesThatSee_25 (by first | exact hS1 | exact hG1 | exact hp1) (nI4 hi) ?_
        refine zw_h (h2 := h.set (k + 1) (.inl (1, 4, .inr (.inl (mixP (sPl S) (keepP F S t q (sPl S)) (i + 1)))))) ?_ ?_
        · rw [zs_set, cl4 hi]
          rw [show mset (fun c => sPl S c i && mayO F S t ((i + q) % 4) c) = mset (fun c => keepP F S t q (sPl S) c i) from rfl, mixP_up]
        refine zw_incN dS_keepPlacesThatSee_26 rfl (by decide) rfl ?_
        refine zw_goto 2 dS_keepPlacesThatSee_29 (by decide) ?_
        exact zw_lk (ih (i + 1) (by omega)) ⟨rfl, rfl, rfl, rfl, trivial⟩
  have e0 : h = h.set (k + 1) (.inl (1, 4, .inr (.inl (mixP (sPl S) (keepP F S t q (sPl S)) 0)))) := by
    rw [mixP_0]; exact (zs_self hp).symm
  refine zw_iconst (v := 0) dS_keepPlacesThatSee_0 (by decide) ?_
  refine zw_istore_n dS_keepPlacesThatSee_1 (by decide) rfl ?_
  refine zw_h e0 ?_
  exact zw_lk (L 4 0 rfl) ⟨rfl, rfl, rfl, rfl, trivial⟩
theorem c_S_movePlacesAhead (hk4 : k ≠ 4 ∧ k + 1 ≠ 4) (hF : fOK F) (hG : h[4]? = some (gC F)) (hS : h[k]? = some (sitC k S)) (hp : h[k + 1]? = some (plC S)) (hsb : ∀ j, j < 4 → sub F (fun c => sPl S c j)) : Run l g mS_movePlacesAhead (d + 1) 0 0 [.ref k] h (PV (hs2 k (setPl S (moveP F (sPl S))) h)) := by
  refine run_of (by decide) (Nat.le_of_ble_eq_true rfl) ?_
  have L : ∀ (m i : Nat), i + m = 4 → WW l g mS_movePlacesAhead (zrm (d + 1) 0 0) (fun _ => True) (zQQ g (PV (hs2 k (setPl S (moveP F (sPl S))) h)) (h.length + 0) 0 0) 2 [(0, some (.ref k)), (1, some (.int (nI i)))] [] (h.set (k + 1) (.inl (1, 4, .inr (.inl (mixP (sPl S) (moveP F (sPl S)) i))))) 0 0 := by
    intro m
    induction m with
    | zero =>
      intro i him
      have hi : i = 4 := by omega
      subst hi
      refine zw_extl (fun j => mset (fun c => moveP F (sPl S) c j)) (zg_eq hp) (mixP_4 _ _) ?_
      refine zw_h (h2 := hs2 k (setPl S (moveP F (sPl S))) h) ((zs_set _ _ _ _).trans (hs2_pl rfl rfl hS)) ?_
      refine zw_iload_n dS_movePlacesAhead_2 rfl ?_
      refine zw_iconst (v := 4) dS_movePlacesAhead_3 (by decide) ?_
      refine zw_icmp_ge 33 dS_movePlacesAhead_4 (by decide) (fun c_4 => ?_) (fun c_4 => ?_)
      · exact zw_vret dS_movePlacesAhead_33 rfl (by rw [hs2_len]; rfl) ⟨rfl, rfl⟩
      · exact absurd (by decide) c_4
    | succ m ih =>
      intro i him
      have hi : i < 4 := by omega
      have hS1 : (h.set (k + 1) (.inl (1, 4, .inr (.inl (mixP (sPl S) (moveP F (sPl S)) i)))))[k]? = some (sitC k S) := zg_ne (by omega) hS
      have hG1 : (h.set (k + 1) (.inl (1, 4, .inr (.inl (mixP (sPl S) (moveP F (sPl S)) i)))))[4]? = some (gC F) := zg_ne hk4.2 hG
      have hp1 : (h.set (k + 1) (.inl (1, 4, .inr (.inl (mixP (sPl S) (moveP F (sPl S)) i)))))[k + 1]? = some (.inl (1, 4, .inr (.inl (mixP (sPl S) (moveP F (sPl S)) i)))) := zg_eq hp
      refine zw_iload_n dS_movePlacesAhead_2 rfl ?_
      refine zw_iconst (v := 4) dS_movePlacesAhead_3 (by decide) ?_
      refine zw_icmp_ge 33 dS_movePlacesAhead_4 (by decide) (fun c_4 => ?_) (fun c_4 => ?_)
      · exact absurd ((nI_leI (a := 4) (b := i) (by omega) (by omega)).mp c_4) (by omega)
      · refine zw_aload_n dS_movePlacesAhead_7 rfl ?_
        refine zw_get dS_movePlacesAhead_8 zf_S_9 (by first | exact hS1 | exact hG1 | exact hp1) rfl ?_
        refine zw_iload_n dS_movePlacesAhead_11 rfl ?_
        refine zw_aload_n dS_movePlacesAhead_12 rfl ?_
        refine zw_get dS_movePlacesAhead_13 zf_S_15 (by first | exact hS1 | exact hG1 | exact hp1) rfl ?_
        refine zw_aload_n dS_movePlacesAhead_16 rfl ?_
        refine zw_get dS_movePlacesAhead_17 zf_S_9 (by first | exact hS1 | exact hG1 | exact hp1) rfl ?_
        refine zw_iload_n dS_movePlacesAhead_20 rfl ?_
        refine zw_lald dS_movePlacesAhead_21 (by first | exact hS1 | exact hG1 | exact hp1) (nI4 hi) ?_
        rw [cl4 hi, mixP_at]
        refine zw_iload_n dS_movePlacesAhead_22 rfl ?_
        refine zc_V2L dS_movePlacesAhead_23 zm_G_beside zk_S_135 (by first | exact hS1 | exact hG1 | exact hp1) rfl (c_G_beside hF hG1 (hsb i hi) hi) ?_ zRR (Nat.le_of_ble_eq_true rfl) ⟨Nat.le_of_ble_eq_true rfl, Nat.le_of_ble_eq_true rfl⟩
        refine zw_last dS_movePlacesAhead_26 (by first | exact hS1 | exact hG1 | exact hp1) (nI4 hi) ?_
        refine zw_h (h2 := h.set (k + 1) (.inl (1, 4, .inr (.inl (mixP (sPl S) (moveP F (sPl S)) (i + 1)))))) ?_ ?_
        · rw [zs_set, cl4 hi]
          rw [show mset (bes F i (fun c => sPl S c i)) = mset (fun c => moveP F (sPl S) c i) from rfl, mixP_up]
        refine zw_incN dS_movePlacesAhead_27 rfl (by decide) rfl ?_
        refine zw_goto 2 dS_movePlacesAhead_30 (by decide) ?_
        exact zw_lk (ih (i + 1) (by omega)) ⟨rfl, rfl, trivial⟩
  have e0 : h = h.set (k + 1) (.inl (1, 4, .inr (.inl (mixP (sPl S) (moveP F (sPl S)) 0)))) := by
    rw [mixP_0]; exact (zs_self hp).symm
  refine zw_iconst (v := 0) dS_movePlacesAhead_0 (by decide) ?_
  refine zw_istore_n dS_movePlacesAhead_1 (by decide) rfl ?_
  refine zw_h e0 ?_
  exact zw_lk (L 4 0 rfl) ⟨rfl, rfl, trivial⟩
theorem c_S_turnPlaces (hS : h[k]? = some (sitC k S)) (hp : h[k + 1]? = some (plC S)) : Run l g mS_turnPlaces d 0 0 [.ref k] h (PV (hs2 k (setPl S (turnP 1 (sPl S))) h)) := by
  refine run_of (by decide) (Nat.le_of_ble_eq_true rfl) ?_
  refine zw_aload_n dS_turnPlaces_0 rfl ?_
  refine zw_get dS_turnPlaces_1 zf_S_9 (by first | exact hS | exact hp | exact zg_ne (by omega) hS | exact zg_eq hp | exact zg_ne (by omega) (zg_ne (by omega) hS) | exact zg_eq (zg_eq hp) | exact zg_ne (by omega) (zg_ne (by omega) (zg_ne (by omega) hS)) | exact zg_eq (zg_eq (zg_eq hp))) rfl ?_
  refine zw_iconst (v := 3) dS_turnPlaces_4 (by decide) ?_
  refine zw_lald dS_turnPlaces_5 (by first | exact hS | exact hp | exact zg_ne (by omega) hS | exact zg_eq hp | exact zg_ne (by omega) (zg_ne (by omega) hS) | exact zg_eq (zg_eq hp) | exact zg_ne (by omega) (zg_ne (by omega) (zg_ne (by omega) hS)) | exact zg_eq (zg_eq (zg_eq hp))) (nI4 (i := 3) (by decide)) ?_
  refine zw_lstore_n dS_turnPlaces_6 (by decide) rfl ?_
  refine zw_aload_n dS_turnPlaces_7 rfl ?_
  refine zw_get dS_turnPlaces_8 zf_S_9 (by first | exact hS | exact hp | exact zg_ne (by omega) hS | exact zg_eq hp | exact zg_ne (by omega) (zg_ne (by omega) hS) | exact zg_eq (zg_eq hp) | exact zg_ne (by omega) (zg_ne (by omega) (zg_ne (by omega) hS)) | exact zg_eq (zg_eq (zg_eq hp))) rfl ?_
  refine zw_iconst (v := 3) dS_turnPlaces_11 (by decide) ?_
  refine zw_aload_n dS_turnPlaces_12 rfl ?_
  refine zw_get dS_turnPlaces_13 zf_S_9 (by first | exact hS | exact hp | exact zg_ne (by omega) hS | exact zg_eq hp | exact zg_ne (by omega) (zg_ne (by omega) hS) | exact zg_eq (zg_eq hp) | exact zg_ne (by omega) (zg_ne (by omega) (zg_ne (by omega) hS)) | exact zg_eq (zg_eq (zg_eq hp))) rfl ?_
  refine zw_iconst (v := 2) dS_turnPlaces_16 (by decide) ?_
  refine zw_lald dS_turnPlaces_17 (by first | exact hS | exact hp | exact zg_ne (by omega) hS | exact zg_eq hp | exact zg_ne (by omega) (zg_ne (by omega) hS) | exact zg_eq (zg_eq hp) | exact zg_ne (by omega) (zg_ne (by omega) (zg_ne (by omega) hS)) | exact zg_eq (zg_eq (zg_eq hp))) (nI4 (i := 2) (by decide)) ?_
  refine zw_last dS_turnPlaces_18 (by first | exact hS | exact hp | exact zg_ne (by omega) hS | exact zg_eq hp | exact zg_ne (by omega) (zg_ne (by omega) hS) | exact zg_eq (zg_eq hp) | exact zg_ne (by omega) (zg_ne (by omega) (zg_ne (by omega) hS)) | exact zg_eq (zg_eq (zg_eq hp))) (nI4 (i := 3) (by decide)) ?_
  refine zw_aload_n dS_turnPlaces_19 rfl ?_
  refine zw_get dS_turnPlaces_20 zf_S_9 (by first | exact hS | exact hp | exact zg_ne (by omega) hS | exact zg_eq hp | exact zg_ne (by omega) (zg_ne (by omega) hS) | exact zg_eq (zg_eq hp) | exact zg_ne (by omega) (zg_ne (by omega) (zg_ne (by omega) hS)) | exact zg_eq (zg_eq (zg_eq hp))) rfl ?_
  refine zw_iconst (v := 2) dS_turnPlaces_23 (by decide) ?_
  refine zw_aload_n dS_turnPlaces_24 rfl ?_
  refine zw_get dS_turnPlaces_25 zf_S_9 (by first | exact hS | exact hp | exact zg_ne (by omega) hS | exact zg_eq hp | exact zg_ne (by omega) (zg_ne (by omega) hS) | exact zg_eq (zg_eq hp) | exact zg_ne (by omega) (zg_ne (by omega) (zg_ne (by omega) hS)) | exact zg_eq (zg_eq (zg_eq hp))) rfl ?_
  refine zw_iconst (v := 1) dS_turnPlaces_28 (by decide) ?_
  refine zw_lald dS_turnPlaces_29 (by first | exact hS | exact hp | exact zg_ne (by omega) hS | exact zg_eq hp | exact zg_ne (by omega) (zg_ne (by omega) hS) | exact zg_eq (zg_eq hp) | exact zg_ne (by omega) (zg_ne (by omega) (zg_ne (by omega) hS)) | exact zg_eq (zg_eq (zg_eq hp))) (nI4 (i := 1) (by decide)) ?_
  refine zw_last dS_turnPlaces_30 (by first | exact hS | exact hp | exact zg_ne (by omega) hS | exact zg_eq hp | exact zg_ne (by omega) (zg_ne (by omega) hS) | exact zg_eq (zg_eq hp) | exact zg_ne (by omega) (zg_ne (by omega) (zg_ne (by omega) hS)) | exact zg_eq (zg_eq (zg_eq hp))) (nI4 (i := 2) (by decide)) ?_
  refine zw_aload_n dS_turnPlaces_31 rfl ?_
  refine zw_get dS_turnPlaces_32 zf_S_9 (by first | exact hS | exact hp | exact zg_ne (by omega) hS | exact zg_eq hp | exact zg_ne (by omega) (zg_ne (by omega) hS) | exact zg_eq (zg_eq hp) | exact zg_ne (by omega) (zg_ne (by omega) (zg_ne (by omega) hS)) | exact zg_eq (zg_eq (zg_eq hp))) rfl ?_
  refine zw_iconst (v := 1) dS_turnPlaces_35 (by decide) ?_
  refine zw_aload_n dS_turnPlaces_36 rfl ?_
  refine zw_get dS_turnPlaces_37 zf_S_9 (by first | exact hS | exact hp | exact zg_ne (by omega) hS | exact zg_eq hp | exact zg_ne (by omega) (zg_ne (by omega) hS) | exact zg_eq (zg_eq hp) | exact zg_ne (by omega) (zg_ne (by omega) (zg_ne (by omega) hS)) | exact zg_eq (zg_eq (zg_eq hp))) rfl ?_
  refine zw_iconst (v := 0) dS_turnPlaces_40 (by decide) ?_
  refine zw_lald dS_turnPlaces_41 (by first | exact hS | exact hp | exact zg_ne (by omega) hS | exact zg_eq hp | exact zg_ne (by omega) (zg_ne (by omega) hS) | exact zg_eq (zg_eq hp) | exact zg_ne (by omega) (zg_ne (by omega) (zg_ne (by omega) hS)) | exact zg_eq (zg_eq (zg_eq hp))) (nI4 (i := 0) (by decide)) ?_
  refine zw_last dS_turnPlaces_42 (by first | exact hS | exact hp | exact zg_ne (by omega) hS | exact zg_eq hp | exact zg_ne (by omega) (zg_ne (by omega) hS) | exact zg_eq (zg_eq hp) | exact zg_ne (by omega) (zg_ne (by omega) (zg_ne (by omega) hS)) | exact zg_eq (zg_eq (zg_eq hp))) (nI4 (i := 1) (by decide)) ?_
  refine zw_aload_n dS_turnPlaces_43 rfl ?_
  refine zw_get dS_turnPlaces_44 zf_S_9 (by first | exact hS | exact hp | exact zg_ne (by omega) hS | exact zg_eq hp | exact zg_ne (by omega) (zg_ne (by omega) hS) | exact zg_eq (zg_eq hp) | exact zg_ne (by omega) (zg_ne (by omega) (zg_ne (by omega) hS)) | exact zg_eq (zg_eq (zg_eq hp))) rfl ?_
  refine zw_iconst (v := 0) dS_turnPlaces_47 (by decide) ?_
  refine zw_lload_n dS_turnPlaces_48 rfl ?_
  refine zw_last dS_turnPlaces_49 (by first | exact hS | exact hp | exact zg_ne (by omega) hS | exact zg_eq hp | exact zg_ne (by omega) (zg_ne (by omega) hS) | exact zg_eq (zg_eq hp) | exact zg_ne (by omega) (zg_ne (by omega) (zg_ne (by omega) hS)) | exact zg_eq (zg_eq (zg_eq hp))) (nI4 (i := 0) (by decide)) ?_
  refine zw_extl (fun j => mset (fun c => turnP 1 (sPl S) c j)) (zg_eq (zg_eq (zg_eq (zg_eq hp)))) ?_ ?_
  · intro j hj
    rcases (show j = 0 ∨ j = 1 ∨ j = 2 ∨ j = 3 by omega) with rfl | rfl | rfl | rfl <;> rfl
  refine zw_h (h2 := hs2 k (setPl S (turnP 1 (sPl S))) h) ?_ ?_
  · rw [zs_set, zs_set, zs_set, zs_set]
    exact hs2_pl rfl rfl hS
  exact zw_vret dS_turnPlaces_50 rfl (by rw [hs2_len]; rfl) ⟨rfl, rfl⟩
theorem c_S_placeCount (hS : h[k]? = some (sitC k S)) (hp : h[k + 1]? = some (plC S)) : Run l g mS_placeCount (d + 1) 0 0 [.ref k] h (PI (if sLost S = true then nI (many (sPl S)) else 1) h) := by
  refine run_of (by decide) (Nat.le_of_ble_eq_true rfl) ?_
  cases hl : sLost S with
  | false =>
    have hS0 : h[k]? = some (.inr (3, [.ref 4, .long (mset (sShut S)), .int (nI (sBrim S)), .int (nI (sRate S)), .int (nI (sAt S)), .int (nI (sHd S)), .int (nI (sCh S)), .long (mset (kn1 S)), .long (mset (kn2 S)), .int 0, .ref (k + 1)])) := by rw [hS]; simp [sitC, hl]
    refine zw_aload_n dS_placeCount_0 rfl ?_
    refine zw_get dS_placeCount_1 zf_S_54 hS0 rfl ?_
    refine zw_if_ne 9 dS_placeCount_4 (by decide) (fun c_4 => ?_) (fun c_4 => ?_)
    · exact absurd rfl c_4
    · refine zw_iconst (v := 1) dS_placeCount_7 (by decide) ?_
      exact zw_iret dS_placeCount_8 rfl rfl rfl ⟨rfl, rfl⟩
  | true =>
    have hS0 : h[k]? = some (.inr (3, [.ref 4, .long (mset (sShut S)), .int (nI (sBrim S)), .int (nI (sRate S)), .int (nI (sAt S)), .int (nI (sHd S)), .int (nI (sCh S)), .long (mset (kn1 S)), .long (mset (kn2 S)), .int 1, .ref (k + 1)])) := by rw [hS]; simp [sitC, hl]
    have L : ∀ (m i : Nat) (x : Nat), i + m = 4 → x + (if i < 1 then cnt (fun c => sPl S c 0) 36 else 0) + (if i < 2 then cnt (fun c => sPl S c 1) 36 else 0) + (if i < 3 then cnt (fun c => sPl S c 2) 36 else 0) + (if i < 4 then cnt (fun c => sPl S c 3) 36 else 0) = many (sPl S) → WW l g mS_placeCount (zrm (d + 1) 0 0) (fun _ => True) (zQQ g (PI (if true = true then nI (many (sPl S)) else 1) h) (h.length + 0) 0 0) 13 [(0, some (.ref k)), (1, some (.int (nI x))), (2, some (.int (nI i)))] [] h 0 0 := by
      intro m
      induction m with
      | zero =>
        intro i x him hx
        have hi : i = 4 := by omega
        subst hi
        refine zw_iload_n dS_placeCount_13 rfl ?_
        refine zw_iconst (v := 4) dS_placeCount_14 (by decide) ?_
        refine zw_icmp_ge 36 dS_placeCount_15 (by decide) (fun c_15 => ?_) (fun c_15 => ?_)
        · refine zw_iload_n dS_placeCount_36 rfl ?_
          exact zw_iret dS_placeCount_37 rfl rfl rfl ⟨by simp at hx; rw [hx]; rfl, rfl⟩
        · exact absurd (by decide) c_15
      | succ m ih =>
        intro i x him hx
        have hi : i < 4 := by omega
        refine zw_iload_n dS_placeCount_13 rfl ?_
        refine zw_iconst (v := 4) dS_placeCount_14 (by decide) ?_
        refine zw_icmp_ge 36 dS_placeCount_15 (by decide) (fun c_15 => ?_) (fun c_15 => ?_)
        · exact absurd ((nI_leI (a := 4) (b := i) (by omega) (by omega)).mp c_15) (by omega)
        · refine zw_iload_n dS_placeCount_18 rfl ?_
          refine zw_aload_n dS_placeCount_19 rfl ?_
          refine zw_get dS_placeCount_20 zf_S_9 (by first | exact hS0 | exact hp) rfl ?_
          refine zw_iload_n dS_placeCount_23 rfl ?_
          refine zw_lald dS_placeCount_24 (by first | exact hS0 | exact hp) (nI4 hi) ?_
          rw [cl4 hi]
          refine zc_S1I dS_placeCount_25 zm_J_bitCount zk_S_142 c_J_bitCount ?_ zRR (Nat.le_of_ble_eq_true rfl) ⟨Nat.le_of_ble_eq_true rfl, Nat.le_of_ble_eq_true rfl⟩
          refine zw_iadd dS_placeCount_28 ?_
          rw [nI_add]
          refine zw_istore_n dS_placeCount_29 (by decide) rfl ?_
          refine zw_incN dS_placeCount_30 rfl (by decide) rfl ?_
          refine zw_goto 13 dS_placeCount_33 (by decide) ?_
          refine zw_lk (ih (i + 1) (x + cnt (fun c => sPl S c i) 36) (by omega) ?_) ⟨rfl, rfl, rfl, trivial⟩
          rcases (show i = 0 ∨ i = 1 ∨ i = 2 ∨ i = 3 by omega) with rfl | rfl | rfl | rfl <;> simp at hx ⊢ <;> omega
    refine zw_aload_n dS_placeCount_0 rfl ?_
    refine zw_get dS_placeCount_1 zf_S_54 hS0 rfl ?_
    refine zw_if_ne 9 dS_placeCount_4 (by decide) (fun c_4 => ?_) (fun c_4 => ?_)
    · refine zw_iconst (v := 0) dS_placeCount_9 (by decide) ?_
      refine zw_istore_n dS_placeCount_10 (by decide) rfl ?_
      refine zw_iconst (v := 0) dS_placeCount_11 (by decide) ?_
      refine zw_istore_n dS_placeCount_12 (by decide) rfl ?_
      exact zw_lk (L 4 0 0 rfl (by simp [many])) ⟨rfl, rfl, rfl, trivial⟩
    · exact absurd c_4 (by decide)
theorem many_lt (pl : Nat → Nat → Bool) : many pl ≤ 144 := by
  have := cnt_le (fun c => pl c 0) 36
  have := cnt_le (fun c => pl c 1) 36
  have := cnt_le (fun c => pl c 2) 36
  have := cnt_le (fun c => pl c 3) 36
  unfold many
  omega
theorem found_eq (S : Sit) : found S = if (if sLost S = true then nI (many (sPl S)) else 1) = 1 then setLost S false else S := by
  unfold found
  cases hl : sLost S with
  | false =>
    simp
    unfold setLost
    rw [← hl]
    rfl
  | true =>
    have h1 := many_lt (sPl S)
    have this : nI (many (sPl S)) = 1 ↔ many (sPl S) = 1 := nI_eq (a := many (sPl S)) (b := 1) (by omega) (by decide)
    rw [show (if true = true then nI (many (sPl S)) else 1) = nI (many (sPl S)) from rfl]
    by_cases hm : many (sPl S) = 1
    · rw [if_pos ⟨rfl, hm⟩, if_pos (this.mpr hm)]
    · rw [if_neg (fun q => hm q.2), if_neg (fun q => hm (this.mp q))]
theorem c_S_beFoundIfSure (hS : h[k]? = some (sitC k S)) (hp : h[k + 1]? = some (plC S)) : Run l g mS_beFoundIfSure (d + 2) 0 0 [.ref k] h (PV (hs2 k (found S) h)) := by
  refine run_of (by decide) (Nat.le_of_ble_eq_true rfl) ?_
  refine zw_aload_n dS_beFoundIfSure_0 rfl ?_
  refine zc_V0I dS_beFoundIfSure_1 zm_S_placeCount zk_S_124 hS rfl (c_S_placeCount hS hp) ?_ zRR (Nat.le_of_ble_eq_true rfl) ⟨Nat.le_of_ble_eq_true rfl, Nat.le_of_ble_eq_true rfl⟩
  refine zw_iconst (v := 1) dS_beFoundIfSure_4 (by decide) ?_
  refine zw_icmp_ne 13 dS_beFoundIfSure_5 (by decide) (fun c_5 => ?_) (fun c_5 => ?_)
  · exact zw_vret dS_beFoundIfSure_13 rfl (by first | rfl | (rw [hs2_len]; rfl)) ⟨rfl, by first | (rw [found_eq, if_pos c_5]) | (rw [found_eq, if_neg c_5, hs2_self hS hp])⟩
  · refine zw_aload_n dS_beFoundIfSure_8 rfl ?_
    refine zw_iconst (v := 0) dS_beFoundIfSure_9 (by decide) ?_
    refine zw_put dS_beFoundIfSure_10 zf_S_54 hS rfl rfl (Nat.le_of_ble_eq_true rfl) ?_
    refine zw_h (h2 := hs2 k (setLost S false) h) (hs2_sit (S := S) rfl rfl hp) ?_
    exact zw_vret dS_beFoundIfSure_13 rfl (by first | rfl | (rw [hs2_len]; rfl)) ⟨rfl, by first | (rw [found_eq, if_pos c_5]) | (rw [found_eq, if_neg c_5, hs2_self hS hp])⟩
end C25
