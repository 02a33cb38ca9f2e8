section C37
variable {l : Launch} {g : zG} {d : Nat} {h : zH} {O : Om}
/-! images -/
theorem CX.img {h : zH} {O : Om} (a : CX h O) {i : Nat} (hi : i < 2) {f : Nat → Int32} (hf : h[26]? = some (kptC f)) (hff : ∀ i, i < 2 → f i = if oKp O i = true then 1 else 0) : CX ((hs2 (27 + 2 * i) (oS O) h).set 26 (kptC (upd f i 1))) (nKeep O i) := by
  obtain ⟨h1, h2, h3, h4, h5, h6, h7, h8, i1, i2, -, i4⟩ := a
  have K : ∀ j, j ≠ 26 → j ≠ 27 + 2 * i → j ≠ 27 + 2 * i + 1 → ((hs2 (27 + 2 * i) (oS O) h).set 26 (kptC (upd f i 1)))[j]? = h[j]? := fun j a b c => zg_ne (Ne.symm a) (hs2_ne (Ne.symm b) (Ne.symm c) rfl)
  refine ⟨(K _ (by omega) (by omega) (by omega)).trans h1, h2.keep (fun j _ _ => K j (by omega) (by omega) (by omega)), (K _ (by omega) (by omega) (by omega)).trans h3, (K _ (by omega) (by omega) (by omega)).trans h4, (K _ (by omega) (by omega) (by omega)).trans h5, h6.keep (fun j _ _ => K j (by omega) (by omega) (by omega)), h7.keep (K _ (by omega) (by omega) (by omega)), h8.keep (fun j _ _ => K j (by omega) (by omega) (by omega)), (K _ (by omega) (by omega) (by omega)).trans i1, (K _ (by omega) (by omega) (by omega)).trans i2, ⟨upd f i 1, zg_eq (hs2_ne (by omega) (by omega) hf), fun j hj => ?_⟩, fun j hj => ?_⟩
  · show upd f i 1 j = if (if j = i then true else oKp O j) = true then 1 else 0
    by_cases e : j = i
    · simp [upd, e]
    · simp only [upd, e, if_false]; exact hff j hj
  · obtain ⟨Q, q1, q2, q3⟩ := i4 j hj
    by_cases e : j = i
    · subst e
      refine ⟨oS O, zg_ne (by omega) (hs2_k q1), zg_ne (by omega) (hs2_p q2), fun _ => ?_⟩
      show oS O = if j = j then oS O else oI' O j
      rw [if_pos rfl]
    · refine ⟨Q, (K _ (by omega) (by omega) (by omega)).trans q1, (K _ (by omega) (by omega) (by omega)).trans q2, fun hk => ?_⟩
      have hk' : (if j = i then true else oKp O j) = true := hk
      rw [if_neg e] at hk'
      show Q = if j = i then oS O else oI' O j
      rw [if_neg e]
      exact q3 hk'
theorem c_A_putIn (a : CX h O) {i : Nat} (hi : i < 2) : Run l g mA_putIn (d + 2) 0 0 [.ref 24, .int (nI i), .ref 5] h (PVh (CQ h (nKeep O i))) := by
  obtain ⟨h1, h2, h3, h4, h5, h6, h7, h8, h9⟩ := id a
  obtain ⟨i1, i2, ⟨f, i3, i3'⟩, i4⟩ := h9
  obtain ⟨Q, q1, q2, -⟩ := i4 i hi
  have ecl : (nI i).toNatClampNeg = i := nI_clamp (by omega)
  have v26 : (hs2 (27 + 2 * i) (oS O) h)[26]? = some (kptC f) := hs2_ne (by omega) (by omega) i3
  have v24 : (hs2 (27 + 2 * i) (oS O) h)[24]? = some albC := hs2_ne (by omega) (by omega) i1
  refine run_of (by decide) (Nat.le_of_ble_eq_true rfl) ?_
  refine zw_iload_n dA_putIn_0 rfl ?_
  refine zw_if_lt 18 dA_putIn_1 (by decide) (fun c_1 => ?_) (fun c_1 => ?_)
  · exact absurd c_1 (nI_pos (by omega))
  · refine zw_iload_n dA_putIn_4 rfl ?_
    refine zw_iconst (v := 2) dA_putIn_5 (by decide) ?_
    refine zw_icmp_ge 18 dA_putIn_6 (by decide) (fun c_6 => ?_) (fun c_6 => ?_)
    · exact absurd ((nI_leI (a := 2) (by omega) (by omega)).mp c_6) (by omega)
    · refine zw_aload_n dA_putIn_9 rfl ?_
      refine zw_get dA_putIn_10 zf_A_11 i1 rfl ?_
      refine zw_iload_n dA_putIn_13 rfl ?_
      refine zw_aald dA_putIn_14 i2 (vp_in_nI hi (by decide)) (by rw [ecl]; rfl) ?_
      refine zw_goto 19 dA_putIn_15 (by decide) ?_
      refine zw_astore_n dA_putIn_19 (by decide) rfl ?_
      refine zw_aload_n dA_putIn_20 rfl ?_
      refine zw_ifnull dA_putIn_21 ?_
      refine zw_aload_n dA_putIn_24 rfl ?_
      refine zw_aload_n dA_putIn_25 rfl ?_
      refine zc_V1V dA_putIn_26 zm_S_copyFrom zk_A_24 q1 rfl (c_S_copyFrom q1 q2 h4 h5 (by omega) (by omega)) ?_ zRR (Nat.le_of_ble_eq_true rfl) ⟨Nat.le_of_ble_eq_true rfl, Nat.le_of_ble_eq_true rfl⟩
      refine zw_aload_n dA_putIn_29 rfl ?_
      refine zw_get dA_putIn_30 zf_A_17 v24 rfl ?_
      refine zw_iload_n dA_putIn_33 rfl ?_
      refine zw_iconst (v := 1) dA_putIn_34 (by decide) ?_
      refine zw_zast dA_putIn_35 v26 (vp_in_nI hi (by decide)) ?_
      refine zw_h (h2 := (hs2 (27 + 2 * i) (oS O) h).set 26 (kptC (upd f i 1))) (by rw [ecl]; rfl) ?_
      exact zw_vret dA_putIn_36 rfl (by simp [hs2_len]) ⟨rfl, a.img hi i3 i3', (frC.hs2 (by omega)).tr (frC.set (by decide)), by simp [hs2_len]⟩
def rKeep (O : Om) (x : Int32) : Int32 := match btw x 0 1 with | none => -1 | some _ => nI (sAt (oS O))
def nKeepX (O : Om) (x : Int32) : Om := match btw x 0 1 with | none => O | some i => nKeep O i
theorem c_F_keep (a : CX h O) (ok : oOK' O) {x : Int32} : Run l g mF_keep (d + 3) 0 0 [.ref 0, .int x] h (PIh (rKeep O x) (CQ h (nKeepX O x))) := by
  obtain ⟨h1, h2, h3, h4, h5, h6, h7, h8, h9⟩ := id a
  refine run_of (by decide) (Nat.le_of_ble_eq_true rfl) ?_
  cases hw : btw x 0 1 with
  | none =>
    have hb := btw_none.mp hw
    rw [show rKeep O x = -1 from by unfold rKeep; rw [hw], show nKeepX O x = O from by unfold nKeepX; rw [hw]]
    refine zw_iload_n dF_keep_0 rfl ?_
    refine zw_if_lt 9 dF_keep_1 (by decide) (fun c_1 => ?_) (fun c_1 => ?_)
    · refine zw_iconst (v := (-1)) dF_keep_9 (by decide) ?_
      exact zw_iret dF_keep_10 rfl rfl rfl ⟨rfl, CQ.rf a⟩
    · refine zw_iload_n dF_keep_4 rfl ?_
      refine zw_iconst (v := 2) dF_keep_5 (by decide) ?_
      refine zw_icmp_lt 11 dF_keep_6 (by decide) (fun c_6 => ?_) (fun c_6 => ?_)
      · exact absurd ((i_ltn (c := 2) (by decide) x).mp c_6) (by have : ¬ x.toInt < 0 := fun q => c_1 ((i_lt0 x).mpr q); omega)
      · refine zw_iconst (v := (-1)) dF_keep_9 (by decide) ?_
        exact zw_iret dF_keep_10 rfl rfl rfl ⟨rfl, CQ.rf a⟩
  | some i =>
    obtain ⟨-, hi1, rfl⟩ := (btw_some (by decide)).mp hw
    rw [show rKeep O (nI i) = nI (sAt (oS O)) from by unfold rKeep; rw [hw], show nKeepX O (nI i) = nKeep O i from by unfold nKeepX; rw [hw]]
    refine zw_iload_n dF_keep_0 rfl ?_
    refine zw_if_lt 9 dF_keep_1 (by decide) (fun c_1 => ?_) (fun c_1 => ?_)
    · exact absurd c_1 (nI_pos (by omega))
    · refine zw_iload_n dF_keep_4 rfl ?_
      refine zw_iconst (v := 2) dF_keep_5 (by decide) ?_
      refine zw_icmp_lt 11 dF_keep_6 (by decide) (fun c_6 => ?_) (fun c_6 => ?_)
      · refine zw_aload_n dF_keep_11 rfl ?_
        refine zw_get dF_keep_12 zf_F_52 (by first | exact h1 | exact h9.1) rfl ?_
        refine zw_iload_n dF_keep_15 rfl ?_
        refine zw_aload_n dF_keep_16 rfl ?_
        refine zw_get dF_keep_17 zf_F_28 (by first | exact h1 | exact h9.1) rfl ?_
        refine zx_V2V dF_keep_20 zm_A_putIn zk_F_221 (by first | exact h1 | exact h9.1) rfl (c_A_putIn a (by omega)) zRR (Nat.le_of_ble_eq_true rfl) ⟨Nat.le_of_ble_eq_true rfl, Nat.le_of_ble_eq_true rfl⟩ ?_
        intro h' ⟨ca, hf, hl⟩
        obtain ⟨g1, g2, g3, g4, g5, g6, g7, g8, g9⟩ := id ca; have g3 : h'[4]? = some (gC (oF O)) := g3; have g4 : h'[5]? = some (sitC 5 (oS O)) := g4; have g5 : h'[5 + 1]? = some (plC (oS O)) := g5
        refine zw_aload_n dF_keep_23 rfl ?_
        refine zw_get dF_keep_24 zf_F_28 (by first | exact g1 | exact g4) rfl ?_
        refine zw_get dF_keep_27 zf_F_105 (by first | exact g1 | exact g4) rfl ?_
        exact zw_iret dF_keep_30 rfl rfl (by rw [hl]; rfl) ⟨rfl, ca, hf, hl⟩
      · exact absurd (nI_lt (b := 2) (by omega) (by decide)) c_6
def rBack (O : Om) (x : Int32) : Int32 := match btw x 0 1 with | none => -1 | some i => if oKp O i = true then nI (sAt (oI' O i)) else -2
def nBackX (O : Om) (x : Int32) : Om := match btw x 0 1 with | none => O | some i => if oKp O i = true then nBack O i else O
theorem CX.sz0 {h : zH} {O : Om} (a : CX h O) : ∃ lt, lt < 6 ∧ h[10]? = some (hisC lt (oSz O)) ∧ CX (h.set 10 (hisC lt 0)) (oMk (oF O) (oS O) (oT O) (oLen O) (oU O) 0 (oI' O) (oKp O)) := by
  obtain ⟨h1, h2, h3, h4, h5, h6, h7, ⟨lt, P, hlt, u2, u3, u4, u5⟩, h9⟩ := a
  have K : ∀ j, j ≠ 10 → (h.set 10 (hisC lt 0))[j]? = h[j]? := fun j a => zg_ne (Ne.symm a) rfl
  exact ⟨lt, hlt, u2, (K _ (by omega)).trans h1, h2.keep (fun j _ _ => K j (by omega)), (K _ (by omega)).trans h3, (K _ (by omega)).trans h4, (K _ (by omega)).trans h5, h6.keep (fun j _ _ => K j (by omega)), h7.keep (K _ (by omega)), ⟨lt, P, hlt, zg_eq u2, (K _ (by omega)).trans u3, fun i hi => ⟨(K _ (by omega)).trans (u4 i hi).1, (K _ (by omega)).trans (u4 i hi).2⟩, fun j hj => absurd hj (Nat.not_lt_zero _)⟩, h9.keep (fun j _ _ => K j (by omega))⟩
theorem c_F_back (a : CX h O) (ok : oOK' O) {x : Int32} : Run l g mF_back (d + 3) 0 0 [.ref 0, .int x] h (PIh (rBack O x) (CQ h (nBackX O x))) := by
  obtain ⟨h1, h2, h3, h4, h5, h6, h7, h8, h9⟩ := id a
  refine run_of (by decide) (Nat.le_of_ble_eq_true rfl) ?_
  cases hw : btw x 0 1 with
  | none =>
    have hb := btw_none.mp hw
    rw [show rBack O x = -1 from by unfold rBack; rw [hw], show nBackX O x = O from by unfold nBackX; rw [hw]]
    refine zw_iload_n dF_back_0 rfl ?_
    refine zw_if_lt 9 dF_back_1 (by decide) (fun c_1 => ?_) (fun c_1 => ?_)
    · refine zw_iconst (v := (-1)) dF_back_9 (by decide) ?_
      exact zw_iret dF_back_10 rfl rfl rfl ⟨rfl, CQ.rf a⟩
    · refine zw_iload_n dF_back_4 rfl ?_
      refine zw_iconst (v := 2) dF_back_5 (by decide) ?_
      refine zw_icmp_lt 11 dF_back_6 (by decide) (fun c_6 => ?_) (fun c_6 => ?_)
      · exact absurd ((i_ltn (c := 2) (by decide) x).mp c_6) (by have : ¬ x.toInt < 0 := fun q => c_1 ((i_lt0 x).mpr q); omega)
      · refine zw_iconst (v := (-1)) dF_back_9 (by decide) ?_
        exact zw_iret dF_back_10 rfl rfl rfl ⟨rfl, CQ.rf a⟩
  | some i =>
    obtain ⟨-, hi1, rfl⟩ := (btw_some (by decide)).mp hw
    have hi : i < 2 := by omega
    obtain ⟨i1, i2, ⟨f, i3, i3'⟩, i4⟩ := h9
    obtain ⟨Q, q1, q2, q3⟩ := i4 i hi
    have ecl : (nI i).toNatClampNeg = i := nI_clamp (by omega)
    by_cases hk : oKp O i = true
    · rw [show rBack O (nI i) = nI (sAt (oI' O i)) from by unfold rBack; rw [hw]; dsimp only; rw [if_pos hk], show nBackX O (nI i) = nBack O i from by unfold nBackX; rw [hw]; dsimp only; rw [if_pos hk]]
      have hQ := q3 hk
      subst hQ
      have hfi : f i = 1 := by rw [i3' i hi, if_pos hk]
      have ct : Run l g mA_takeOut (d + 2) 0 0 [.ref 24, .int (nI i), .ref 5] h (PI 1 (hs2 5 (oI' O i) h)) := by
        refine run_of (by decide) (Nat.le_of_ble_eq_true rfl) ?_
        refine zw_iload_n dA_takeOut_0 rfl ?_
        refine zw_if_lt 18 dA_takeOut_1 (by decide) (fun c_1 => ?_) (fun c_1 => ?_)
        · exact absurd c_1 (nI_pos (by omega))
        · refine zw_iload_n dA_takeOut_4 rfl ?_
          refine zw_iconst (v := 2) dA_takeOut_5 (by decide) ?_
          refine zw_icmp_ge 18 dA_takeOut_6 (by decide) (fun c_6 => ?_) (fun c_6 => ?_)
          · exact absurd ((nI_leI (a := 2) (by omega) (by omega)).mp c_6) (by omega)
          · refine zw_aload_n dA_takeOut_9 rfl ?_
            refine zw_get dA_takeOut_10 zf_A_11 i1 rfl ?_
            refine zw_iload_n dA_takeOut_13 rfl ?_
            refine zw_aald dA_takeOut_14 i2 (vp_in_nI hi (by decide)) (by rw [ecl]; rfl) ?_
            refine zw_goto 19 dA_takeOut_15 (by decide) ?_
            refine zw_astore_n dA_takeOut_19 (by decide) rfl ?_
            refine zw_aload_n dA_takeOut_20 rfl ?_
            refine zw_ifnull dA_takeOut_21 ?_
            refine zw_aload_n dA_takeOut_24 rfl ?_
            refine zw_get dA_takeOut_25 zf_A_17 i1 rfl ?_
            refine zw_iload_n dA_takeOut_28 rfl ?_
            refine zw_zald dA_takeOut_29 i3 (vp_in_nI hi (by decide)) ?_
            rw [ecl, hfi]
            refine zw_if_ne 35 dA_takeOut_30 (by decide) (fun c_30 => ?_) (fun c_30 => ?_)
            · refine zw_aload_n dA_takeOut_35 rfl ?_
              refine zw_aload_n dA_takeOut_36 rfl ?_
              refine zc_V1V dA_takeOut_37 zm_S_copyFrom zk_A_24 h4 rfl (c_S_copyFrom h4 h5 q1 q2 (by omega) (by omega)) ?_ zRR (Nat.le_of_ble_eq_true rfl) ⟨Nat.le_of_ble_eq_true rfl, Nat.le_of_ble_eq_true rfl⟩
              refine zw_iconst (v := 1) dA_takeOut_40 (by decide) ?_
              exact zw_iret dA_takeOut_41 rfl rfl (by rw [hs2_len]; rfl) ⟨rfl, rfl⟩
            · exact absurd c_30 (by decide)
      have ca := a.now (oI' O i)
      obtain ⟨lt, hlt, gu, cb⟩ := ca.sz0
      have gx : ((hs2 5 (oI' O i) h).set 10 (hisC lt 0))[0]? = some xC := cb.1
      have gy : ((hs2 5 (oI' O i) h).set 10 (hisC lt 0))[5]? = some (sitC 5 (oI' O i)) := cb.2.2.2.1
      refine zw_iload_n dF_back_0 rfl ?_
      refine zw_if_lt 9 dF_back_1 (by decide) (fun c_1 => ?_) (fun c_1 => ?_)
      · exact absurd c_1 (nI_pos (by omega))
      · refine zw_iload_n dF_back_4 rfl ?_
        refine zw_iconst (v := 2) dF_back_5 (by decide) ?_
        refine zw_icmp_lt 11 dF_back_6 (by decide) (fun c_6 => ?_) (fun c_6 => ?_)
        · refine zw_aload_n dF_back_11 rfl ?_
          refine zw_get dF_back_12 zf_F_52 (by first | exact h1 | exact i1) rfl ?_
          refine zw_iload_n dF_back_15 rfl ?_
          refine zw_aload_n dF_back_16 rfl ?_
          refine zw_get dF_back_17 zf_F_28 (by first | exact h1 | exact i1) rfl ?_
          refine zc_V2I dF_back_20 zm_A_takeOut zk_F_225 (by first | exact h1 | exact i1) rfl ct ?_ zRR (Nat.le_of_ble_eq_true rfl) ⟨Nat.le_of_ble_eq_true rfl, Nat.le_of_ble_eq_true rfl⟩
          refine zw_if_ne 29 dF_back_23 (by decide) (fun c_23 => ?_) (fun c_23 => ?_)
          · refine zw_aload_n dF_back_29 rfl ?_
            refine zw_get dF_back_30 zf_F_45 ca.1 rfl ?_
            refine zw_iconst (v := 0) dF_back_33 (by decide) ?_
            refine zw_puti dF_back_34 zf_F_147 gu (Nat.le_of_ble_eq_true rfl) ?_
            refine zw_h (h2 := (hs2 5 (oI' O i) h).set 10 (hisC lt 0)) rfl ?_
            refine zw_aload_n dF_back_37 rfl ?_
            refine zw_get dF_back_38 zf_F_28 (by first | exact gx | exact gy) rfl ?_
            refine zw_get dF_back_41 zf_F_105 (by first | exact gx | exact gy) rfl ?_
            exact zw_iret dF_back_44 rfl rfl (by simp [hs2_len]) ⟨rfl, cb, (frC.hs2 (by decide)).tr (frC.set (by decide)), by simp [hs2_len]⟩
          · exact absurd c_23 (by decide)
        · exact absurd (nI_lt (b := 2) (by omega) (by decide)) c_6
    · rw [show rBack O (nI i) = -2 from by unfold rBack; rw [hw]; dsimp only; rw [if_neg hk], show nBackX O (nI i) = O from by unfold nBackX; rw [hw]; dsimp only; rw [if_neg hk]]
      have hfi : f i = 0 := by rw [i3' i hi, if_neg hk]
      have ct : Run l g mA_takeOut (d + 2) 0 0 [.ref 24, .int (nI i), .ref 5] h (PI 0 h) := by
        refine run_of (by decide) (Nat.le_of_ble_eq_true rfl) ?_
        refine zw_iload_n dA_takeOut_0 rfl ?_
        refine zw_if_lt 18 dA_takeOut_1 (by decide) (fun c_1 => ?_) (fun c_1 => ?_)
        · exact absurd c_1 (nI_pos (by omega))
        · refine zw_iload_n dA_takeOut_4 rfl ?_
          refine zw_iconst (v := 2) dA_takeOut_5 (by decide) ?_
          refine zw_icmp_ge 18 dA_takeOut_6 (by decide) (fun c_6 => ?_) (fun c_6 => ?_)
          · exact absurd ((nI_leI (a := 2) (by omega) (by omega)).mp c_6) (by omega)
          · refine zw_aload_n dA_takeOut_9 rfl ?_
            refine zw_get dA_takeOut_10 zf_A_11 i1 rfl ?_
            refine zw_iload_n dA_takeOut_13 rfl ?_
            refine zw_aald dA_takeOut_14 i2 (vp_in_nI hi (by decide)) (by rw [ecl]; rfl) ?_
            refine zw_goto 19 dA_takeOut_15 (by decide) ?_
            refine zw_astore_n dA_takeOut_19 (by decide) rfl ?_
            refine zw_aload_n dA_takeOut_20 rfl ?_
            refine zw_ifnull dA_takeOut_21 ?_
            refine zw_aload_n dA_takeOut_24 rfl ?_
            refine zw_get dA_takeOut_25 zf_A_17 i1 rfl ?_
            refine zw_iload_n dA_takeOut_28 rfl ?_
            refine zw_zald dA_takeOut_29 i3 (vp_in_nI hi (by decide)) ?_
            rw [ecl, hfi]
            refine zw_if_ne 35 dA_takeOut_30 (by decide) (fun c_30 => ?_) (fun c_30 => ?_)
            · exact absurd rfl c_30
            · refine zw_iconst (v := 0) dA_takeOut_33 (by decide) ?_
              exact zw_iret dA_takeOut_34 rfl rfl rfl ⟨rfl, rfl⟩
      refine zw_iload_n dF_back_0 rfl ?_
      refine zw_if_lt 9 dF_back_1 (by decide) (fun c_1 => ?_) (fun c_1 => ?_)
      · exact absurd c_1 (nI_pos (by omega))
      · refine zw_iload_n dF_back_4 rfl ?_
        refine zw_iconst (v := 2) dF_back_5 (by decide) ?_
        refine zw_icmp_lt 11 dF_back_6 (by decide) (fun c_6 => ?_) (fun c_6 => ?_)
        · refine zw_aload_n dF_back_11 rfl ?_
          refine zw_get dF_back_12 zf_F_52 (by first | exact h1 | exact i1) rfl ?_
          refine zw_iload_n dF_back_15 rfl ?_
          refine zw_aload_n dF_back_16 rfl ?_
          refine zw_get dF_back_17 zf_F_28 (by first | exact h1 | exact i1) rfl ?_
          refine zc_V2I dF_back_20 zm_A_takeOut zk_F_225 (by first | exact h1 | exact i1) rfl ct ?_ zRR (Nat.le_of_ble_eq_true rfl) ⟨Nat.le_of_ble_eq_true rfl, Nat.le_of_ble_eq_true rfl⟩
          refine zw_if_ne 29 dF_back_23 (by decide) (fun c_23 => ?_) (fun c_23 => ?_)
          · exact absurd rfl c_23
          · refine zw_bipush (v := (-2)) dF_back_26 (by decide) ?_
            exact zw_iret dF_back_28 rfl rfl rfl ⟨rfl, CQ.rf a⟩
        · exact absurd (nI_lt (b := 2) (by omega) (by decide)) c_6
/-! by itself -/
def rGoes (O : Om) (x : Int32) : Int32 := match btw x 1 60 with | none => -1 | some n => if sLost (oS O) = true then -2 else nI (goesN (oF O) n (oS O)).1
def nGoes (O : Om) (x : Int32) : Om := match btw x 1 60 with | none => O | some n => if sLost (oS O) = true then O else nSt O (goesN (oF O) n (oS O)).2
theorem c_F_goes (a : CX h O) (ok : oOK' O) {x : Int32} : Run l g mF_goes (d + 7) 0 0 [.ref 0, .int x] h (PIh (rGoes O x) (CQ h (nGoes O x))) := by
  obtain ⟨h1, h2, h3, h4, h5, h6, h7, h8, h9⟩ := id a
  have hF := ok.1
  refine run_of (by decide) (Nat.le_of_ble_eq_true rfl) ?_
  cases hw : btw x 1 60 with
  | none =>
    have hb := btw_none.mp hw
    rw [show rGoes O x = -1 from by unfold rGoes; rw [hw], show nGoes O x = O from by unfold nGoes; rw [hw]]
    refine zw_iload_n dF_goes_0 rfl ?_
    refine zw_iconst (v := 1) dF_goes_1 (by decide) ?_
    refine zw_icmp_lt 11 dF_goes_2 (by decide) (fun c_2 => ?_) (fun c_2 => ?_)
    · refine zw_iconst (v := (-1)) dF_goes_11 (by decide) ?_
      exact zw_iret dF_goes_12 rfl rfl rfl ⟨rfl, CQ.rf a⟩
    · refine zw_iload_n dF_goes_5 rfl ?_
      refine zw_bipush (v := 60) dF_goes_6 (by decide) ?_
      refine zw_icmp_le 13 dF_goes_8 (by decide) (fun c_8 => ?_) (fun c_8 => ?_)
      · exact absurd hb (by have h1' : ¬ x.toInt < 1 := fun q => c_2 ((i_ltn (c := 1) (by decide) x).mpr q); have h2' := (i_len (c := 60) (by decide) x).mp c_8; omega)
      · refine zw_iconst (v := (-1)) dF_goes_11 (by decide) ?_
        exact zw_iret dF_goes_12 rfl rfl rfl ⟨rfl, CQ.rf a⟩
  | some n =>
    obtain ⟨hn1, hn2, rfl⟩ := (btw_some (by decide)).mp hw
    by_cases hl : sLost (oS O) = true
    · rw [show rGoes O (nI n) = -2 from by unfold rGoes; rw [hw]; dsimp only; rw [if_pos hl], show nGoes O (nI n) = O from by unfold nGoes; rw [hw]; dsimp only; rw [if_pos hl]]
      refine zw_iload_n dF_goes_0 rfl ?_
      refine zw_iconst (v := 1) dF_goes_1 (by decide) ?_
      refine zw_icmp_lt 11 dF_goes_2 (by decide) (fun c_2 => ?_) (fun c_2 => ?_)
      · exact absurd ((i_ltn (c := 1) (by decide) _).mp c_2) (by rw [nI_toInt (by omega)]; omega)
      · refine zw_iload_n dF_goes_5 rfl ?_
        refine zw_bipush (v := 60) dF_goes_6 (by decide) ?_
        refine zw_icmp_le 13 dF_goes_8 (by decide) (fun c_8 => ?_) (fun c_8 => ?_)
        · refine zw_aload_n dF_goes_13 rfl ?_
          refine zw_get dF_goes_14 zf_F_28 (by first | exact h1 | exact h4) rfl ?_
          refine zw_get dF_goes_17 zf_F_135 (by first | exact h1 | exact h4) rfl ?_
          refine zw_if_eq 26 dF_goes_20 (by decide) (fun c_20 => ?_) (fun c_20 => ?_)
          · exact absurd hl (by rw [show sLost (oS O) = false from lost0 c_20]; decide)
          · refine zw_bipush (v := (-2)) dF_goes_23 (by decide) ?_
            exact zw_iret dF_goes_25 rfl rfl rfl ⟨rfl, CQ.rf a⟩
        · exact absurd (nI_le (b := 60) hn2 (by decide)) c_8
    · rw [show rGoes O (nI n) = nI (goesN (oF O) n (oS O)).1 from by unfold rGoes; rw [hw]; dsimp only; rw [if_neg hl], show nGoes O (nI n) = nSt O (goesN (oF O) n (oS O)).2 from by unfold nGoes; rw [hw]; dsimp only; rw [if_neg hl]]
      have L : ∀ (m i st : Nat) (S : Sit) (h' : zH), i + m = n → sOK (oF O) S → CX h' (oSetS (oRem O) S) → frC h h' → h'.length = h.length → st + (goesN (oF O) m S).1 = (goesN (oF O) n (oS O)).1 → (goesN (oF O) m S).2 = (goesN (oF O) n (oS O)).2 → WW l g mF_goes (zrm (d + 7) 0 0) (fun _ => True) (zQQ g (PIh (nI (goesN (oF O) n (oS O)).1) (CQ h (nSt O (goesN (oF O) n (oS O)).2))) (h.length + 0) 0 0) 41 [(0, some (.ref 0)), (1, some (.int (nI n))), (2, some (.int (nI st))), (3, some (.int (nI i)))] [] h' 0 0 := by
        intro m
        induction m with
        | zero =>
          intro i st S h' him sk ca hf hlen e1 e2
          have hi : i = n := by omega
          subst hi
          have e1' : st = (goesN (oF O) i (oS O)).1 := e1
          have e2' : S = (goesN (oF O) i (oS O)).2 := e2
          rw [← e1', ← e2']
          refine zw_iload_n dF_goes_41 rfl ?_
          refine zw_iload_n dF_goes_42 rfl ?_
          refine zw_icmp_ge 82 dF_goes_43 (by decide) (fun c_43 => ?_) (fun c_43 => ?_)
          · refine zw_iload_n dF_goes_82 rfl ?_
            exact zw_iret dF_goes_83 rfl rfl (by rw [hlen]; rfl) ⟨rfl, ca, hf, hlen⟩
          · exact absurd (Int32.le_refl _) c_43
        | succ m ih =>
          intro i st S h' him sk ca hf hlen e1 e2
          obtain ⟨g1, g2, g3, g4, g5, g6, ⟨p0, p1, p2, p3, g7⟩, g8, g9⟩ := id ca
          have g3 : h'[4]? = some (gC (oF O)) := g3
          have g4 : h'[5]? = some (sitC 5 S) := g4
          have g5 : h'[5 + 1]? = some (plC S) := g5
          have ca1 := c_P_act (l := l) (g := g) (d := d) (k := 5) ⟨by decide, by decide⟩ ⟨by decide, by decide⟩ hF g3 g4 sk.k1 sk.at (by have := sk.ch; have := sk.brim; omega) g7 g5 sk.brim.2 sk.rate.2
          have hal := act_le (F := oF O) (S := S)
          have e1' : st + ((if (act (oF O) S).1 = 2 then 1 else 0) + (goesN (oF O) m (act (oF O) S).2).1) = (goesN (oF O) n (oS O)).1 := e1
          have e2' : (goesN (oF O) m (act (oF O) S).2).2 = (goesN (oF O) n (oS O)).2 := e2
          have e0 := fun q => goes_0 (F := oF O) (S := S) q (m + 1)
          have ska := ok_act hF sk
          have e0' := act_0 (F := oF O) (S := S)
          generalize (act (oF O) S) = ac at ca1 hal e1' e2' e0 ska e0'
          obtain ⟨did, S1⟩ := ac
          dsimp only at e1' e2' hal ska e0' e0
          refine zw_iload_n dF_goes_41 rfl ?_
          refine zw_iload_n dF_goes_42 rfl ?_
          refine zw_icmp_ge 82 dF_goes_43 (by decide) (fun c_43 => ?_) (fun c_43 => ?_)
          · exact absurd ((nI_leI (by omega) (by omega)).mp c_43) (by omega)
          · refine zw_aload_n dF_goes_46 rfl ?_
            refine zw_get dF_goes_47 zf_F_38 (by first | exact g1 | exact g7) rfl ?_
            refine zw_aload_n dF_goes_50 rfl ?_
            refine zw_get dF_goes_51 zf_F_28 (by first | exact g1 | exact g7) rfl ?_
            refine zx_V1I dF_goes_54 zm_P_act zk_F_139 (by first | exact g1 | exact g7) rfl (ca1) zRR (Nat.le_of_ble_eq_true rfl) ⟨Nat.le_of_ble_eq_true rfl, Nat.le_of_ble_eq_true rfl⟩ ?_
            rintro h2 ⟨hx, hpA, rfl⟩
            have cb : CX (hs2 5 S1 hx) (oSetS (oRem O) S1) := (ca.pil hpA).now S1
            have fb : frC h (hs2 5 S1 hx) := (hf.tr hpA.fr).tr (frC.hs2 (by decide))
            have lb : (hs2 5 S1 hx).length = h.length := by rw [hs2_len, hpA.len, hlen]
            refine zw_istore dF_goes_57 (by decide) rfl ?_
            refine zw_iload dF_goes_59 rfl ?_
            refine zw_iconst (v := 2) dF_goes_61 (by decide) ?_
            refine zw_icmp_ne 68 dF_goes_62 (by decide) (fun c_62 => ?_) (fun c_62 => ?_)
            · have hd2 : did ≠ 2 := fun q => c_62 (by rw [q]; rfl)
              rw [if_neg hd2] at e1'
              refine zw_iload dF_goes_68 rfl ?_
              refine zw_if_ne 76 dF_goes_70 (by decide) (fun c_70 => ?_) (fun c_70 => ?_)
              · refine zw_incN dF_goes_76 rfl (by decide) rfl ?_
                refine zw_goto 41 dF_goes_79 (by decide) ?_
                exact zw_lk (ih (i + 1) st S1 _ (by omega) ska cb fb lb (by rw [← e1']; omega) e2') ⟨rfl, rfl, rfl, rfl, trivial⟩
              · have hd0 : did = 0 := (nI_eq (b := 0) (by omega) (by decide)).mp c_70
                have hS1 : S1 = S := by have := e0' hd0; exact (Prod.mk.inj this).2
                have hz := e0 hd0
                refine zw_goto 82 dF_goes_73 (by decide) ?_
                refine zw_iload_n dF_goes_82 rfl ?_
                have f1 : st = (goesN (oF O) n (oS O)).1 := by rw [← e1, hz]; rfl
                have f2 : S1 = (goesN (oF O) n (oS O)).2 := by rw [← e2, hz, hS1]
                rw [← f1, ← f2]
                exact zw_iret dF_goes_83 rfl rfl (by rw [lb]; rfl) ⟨rfl, cb, fb, lb⟩
            · have hd2 : did = 2 := (nI_eq (b := 2) (by omega) (by decide)).mp (Classical.byContradiction fun q => q c_62)
              rw [hd2] at e1'
              refine zw_incN dF_goes_65 rfl (by decide) rfl ?_
              refine zw_iload dF_goes_68 rfl ?_
              refine zw_if_ne 76 dF_goes_70 (by decide) (fun c_70 => ?_) (fun c_70 => ?_)
              · refine zw_incN dF_goes_76 rfl (by decide) rfl ?_
                refine zw_goto 41 dF_goes_79 (by decide) ?_
                exact zw_lk (ih (i + 1) (st + 1) S1 _ (by omega) ska cb fb lb (by rw [← e1']; simp; omega) e2') ⟨rfl, rfl, rfl, rfl, trivial⟩
              · exact absurd (show nI did = 0 from c_70) (by rw [hd2]; decide)
      refine zw_iload_n dF_goes_0 rfl ?_
      refine zw_iconst (v := 1) dF_goes_1 (by decide) ?_
      refine zw_icmp_lt 11 dF_goes_2 (by decide) (fun c_2 => ?_) (fun c_2 => ?_)
      · exact absurd ((i_ltn (c := 1) (by decide) _).mp c_2) (by rw [nI_toInt (by omega)]; omega)
      · refine zw_iload_n dF_goes_5 rfl ?_
        refine zw_bipush (v := 60) dF_goes_6 (by decide) ?_
        refine zw_icmp_le 13 dF_goes_8 (by decide) (fun c_8 => ?_) (fun c_8 => ?_)
        · refine zw_aload_n dF_goes_13 rfl ?_
          refine zw_get dF_goes_14 zf_F_28 (by first | exact h1 | exact h4 | exact h8.choose_spec.choose_spec.2.1) rfl ?_
          refine zw_get dF_goes_17 zf_F_135 (by first | exact h1 | exact h4 | exact h8.choose_spec.choose_spec.2.1) rfl ?_
          refine zw_if_eq 26 dF_goes_20 (by decide) (fun c_20 => ?_) (fun c_20 => ?_)
          · refine zw_aload_n dF_goes_26 rfl ?_
            refine zw_get dF_goes_27 zf_F_45 (by first | exact h1 | exact h4 | exact h8.choose_spec.choose_spec.2.1) rfl ?_
            refine zw_aload_n dF_goes_30 rfl ?_
            refine zw_get dF_goes_31 zf_F_28 (by first | exact h1 | exact h4 | exact h8.choose_spec.choose_spec.2.1) rfl ?_
            refine zx_V1V dF_goes_34 zm_H_remember zk_F_84 (by first | exact h1 | exact h4 | exact h8.choose_spec.choose_spec.2.1) rfl (c_H_remember a ok.2.2.2.2.1) zRR (Nat.le_of_ble_eq_true rfl) ⟨Nat.le_of_ble_eq_true rfl, Nat.le_of_ble_eq_true rfl⟩ ?_
            intro h' ⟨ca, hf, hlen⟩
            refine zw_iconst (v := 0) dF_goes_37 (by decide) ?_
            refine zw_istore_n dF_goes_38 (by decide) rfl ?_
            refine zw_iconst (v := 0) dF_goes_39 (by decide) ?_
            refine zw_istore_n dF_goes_40 (by decide) rfl ?_
            exact zw_lk (L n 0 0 (oS O) h' (by omega) ok.2.1 ca hf hlen (by omega) rfl) ⟨rfl, rfl, rfl, rfl, trivial⟩
          · exact absurd (lost1 c_20) hl
        · exact absurd (nI_le (b := 60) hn2 (by decide)) c_8
def rWhen (O : Om) : Int32 := if sLost (oS O) = true then -9 else dI (whenN (oF O) 401 0 (oS O))
theorem c_F_when (a : CX h O) (ok : oOK' O) : Run l g mF_when (d + 7) 0 0 [.ref 0] h (PIh (rWhen O) (CQ h O)) := by
  obtain ⟨h1, h2, h3, h4, h5, h6, h7, h8, h9⟩ := id a
  have hF := ok.1
  refine run_of (by decide) (Nat.le_of_ble_eq_true rfl) ?_
  by_cases hl : sLost (oS O) = true
  · rw [show rWhen O = -9 from if_pos hl]
    refine zw_aload_n dF_when_0 rfl ?_
    refine zw_get dF_when_1 zf_F_28 (by first | exact h1 | exact h4) rfl ?_
    refine zw_get dF_when_4 zf_F_135 (by first | exact h1 | exact h4) rfl ?_
    refine zw_if_eq 13 dF_when_7 (by decide) (fun c_7 => ?_) (fun c_7 => ?_)
    · exact absurd hl (by rw [show sLost (oS O) = false from lost0 c_7]; decide)
    · refine zw_bipush (v := (-9)) dF_when_10 (by decide) ?_
      exact zw_iret dF_when_12 rfl rfl rfl ⟨rfl, CQ.rf a⟩
  · rw [show rWhen O = _ from if_neg hl]
    have L : ∀ (m i : Nat) (S : Sit) (h' : zH), i + m = 401 → sOK (oF O) S → CX h' O → h'[7]? = some (sitC 7 S) → h'[7 + 1]? = some (plC S) → frC h h' → h'.length = h.length → whenN (oF O) m i S = whenN (oF O) 401 0 (oS O) → WW l g mF_when (zrm (d + 7) 0 0) (fun _ => True) (zQQ g (PIh (dI (whenN (oF O) 401 0 (oS O))) (CQ h O)) (h.length + 0) 0 0) 26 [(0, some (.ref 0)), (1, some (.int (nI i)))] [] h' 0 0 := by
      intro m
      induction m with
      | zero =>
        intro i S h' him sk ca k1 k2 hf hlen e1
        have hi : i = 401 := by omega
        subst hi
        rw [← e1]
        refine zw_iload_n dF_when_26 rfl ?_
        refine zw_sipush (v := 400) dF_when_27 (by decide) ?_
        refine zw_icmp_gt 72 dF_when_30 (by decide) (fun c_30 => ?_) (fun c_30 => ?_)
        · refine zw_bipush (v := (-9)) dF_when_72 (by decide) ?_
          exact zw_iret dF_when_74 rfl rfl (by rw [hlen]; rfl) ⟨rfl, ca, hf, hlen⟩
        · exact absurd (by decide) c_30
      | succ m ih =>
        intro i S h' him sk ca k1 k2 hf hlen e1
        obtain ⟨g1, g2, g3, g4, g5, g6, ⟨p0, p1, p2, p3, g7⟩, g8, g9⟩ := id ca
        have hch99 : sCh S ≤ 99 := by have := sk.ch; have := sk.brim; omega
        have ct := c_P_isThrough (l := l) (g := g) (d := d + 1) (k := 7) ⟨by decide, by decide⟩ hF g3 k1 sk.k1 sk.at hch99 g7 sk.brim.2
        have e1' : (if thr (oF O) S = true then some i else if (act (oF O) S).1 = 0 then none else whenN (oF O) m (i + 1) (act (oF O) S).2) = whenN (oF O) 401 0 (oS O) := e1
        refine zw_iload_n dF_when_26 rfl ?_
        refine zw_sipush (v := 400) dF_when_27 (by decide) ?_
        refine zw_icmp_gt 72 dF_when_30 (by decide) (fun c_30 => ?_) (fun c_30 => ?_)
        · exact absurd ((i_nlt (c := 400) (by decide) _).mp c_30) (by rw [nI_toInt (by omega)]; omega)
        · refine zw_aload_n dF_when_33 rfl ?_
          refine zw_get dF_when_34 zf_F_38 (by first | exact g1 | exact g7) rfl ?_
          refine zw_aload_n dF_when_37 rfl ?_
          refine zw_get dF_when_38 zf_F_32 (by first | exact g1 | exact g7) rfl ?_
          refine zx_V1I dF_when_41 zm_P_isThrough zk_F_218 (by first | exact g1 | exact g7) rfl (ct) zRR (Nat.le_of_ble_eq_true rfl) ⟨Nat.le_of_ble_eq_true rfl, Nat.le_of_ble_eq_true rfl⟩ ?_
          intro h2 hpA
          have cb := ca.pil hpA
          have fb := hf.tr hpA.fr
          have lb : h2.length = h.length := by rw [hpA.len, hlen]
          obtain ⟨q0, q1, q2, q3, hqe⟩ := hpA
          have j1 : h2[7]? = some (sitC 7 S) := by rw [hqe]; exact zg_ne (by decide) k1
          have j2 : h2[7 + 1]? = some (plC S) := by rw [hqe]; exact zg_ne (by decide) k2
          obtain ⟨b1, b2, b3, b4, b5, b6, ⟨r0, r1, r2, r3, b7⟩, b8, b9⟩ := id cb
          have cc := c_P_act (l := l) (g := g) (d := d) (k := 7) ⟨by decide, by decide⟩ ⟨by decide, by decide⟩ hF b3 j1 sk.k1 sk.at hch99 b7 j2 sk.brim.2 sk.rate.2
          have hal := act_le (F := oF O) (S := S)
          have ska := ok_act hF sk
          generalize (act (oF O) S) = ac at cc hal ska e1'
          obtain ⟨did, S1⟩ := ac
          refine zw_if_eq 49 dF_when_44 (by decide) (fun c_44 => ?_) (fun c_44 => ?_)
          · have ht : thr (oF O) S = false := lost0 c_44
            rw [if_neg (by rw [ht]; decide)] at e1'
            refine zw_aload_n dF_when_49 rfl ?_
            refine zw_get dF_when_50 zf_F_38 (by first | exact b1 | exact b7) rfl ?_
            refine zw_aload_n dF_when_53 rfl ?_
            refine zw_get dF_when_54 zf_F_32 (by first | exact b1 | exact b7) rfl ?_
            refine zx_V1I dF_when_57 zm_P_act zk_F_139 (by first | exact b1 | exact b7) rfl (cc) zRR (Nat.le_of_ble_eq_true rfl) ⟨Nat.le_of_ble_eq_true rfl, Nat.le_of_ble_eq_true rfl⟩ ?_
            rintro h3 ⟨hx, hpA2, rfl⟩
            have cd : CX (hs2 7 S1 hx) O := (cb.pil hpA2).fore S1
            have fd : frC h (hs2 7 S1 hx) := (fb.tr hpA2.fr).tr (frC.hs2 (by decide))
            have ld : (hs2 7 S1 hx).length = h.length := by rw [hs2_len, hpA2.len, lb]
            refine zw_if_ne 66 dF_when_60 (by decide) (fun c_60 => ?_) (fun c_60 => ?_)
            · refine zw_incN dF_when_66 rfl (by decide) rfl ?_
              refine zw_goto 26 dF_when_69 (by decide) ?_
              have hd0 : did ≠ 0 := fun q => c_60 (by rw [q]; rfl)
              rw [if_neg (show ¬ (did, S1).1 = 0 from hd0)] at e1'
              obtain ⟨q0', q1', q2', q3', hqe2⟩ := hpA2
              exact zw_lk (ih (i + 1) S1 _ (by omega) ska cd (hs2_k (by rw [hqe2]; exact zg_ne (by decide) j1)) (hs2_p (by rw [hqe2]; exact zg_ne (by decide) j2)) fd ld e1') ⟨rfl, rfl, trivial⟩
            · have hd0 : did = 0 := (nI_eq (b := 0) (by omega) (by decide)).mp c_60
              rw [if_pos (show (did, S1).1 = 0 from hd0)] at e1'
              refine zw_bipush (v := (-9)) dF_when_63 (by decide) ?_
              exact zw_iret dF_when_65 rfl rfl (by rw [ld]; rfl) ⟨by rw [← e1']; rfl, cd, fd, ld⟩
          · have ht : thr (oF O) S = true := lost1 c_44
            rw [if_pos ht] at e1'
            refine zw_iload_n dF_when_47 rfl ?_
            exact zw_iret dF_when_48 rfl rfl (by rw [lb]; rfl) ⟨by rw [← e1']; rfl, cb, fb, lb⟩
    obtain ⟨Q, f1, f2⟩ := h6
    have ca : CX (hs2 7 (oS O) h) O := a.fore (oS O)
    refine zw_aload_n dF_when_0 rfl ?_
    refine zw_get dF_when_1 zf_F_28 (by first | exact h1 | exact h4 | exact f1) rfl ?_
    refine zw_get dF_when_4 zf_F_135 (by first | exact h1 | exact h4 | exact f1) rfl ?_
    refine zw_if_eq 13 dF_when_7 (by decide) (fun c_7 => ?_) (fun c_7 => ?_)
    · refine zw_aload_n dF_when_13 rfl ?_
      refine zw_get dF_when_14 zf_F_32 (by first | exact h1 | exact h4 | exact f1) rfl ?_
      refine zw_aload_n dF_when_17 rfl ?_
      refine zw_get dF_when_18 zf_F_28 (by first | exact h1 | exact h4 | exact f1) rfl ?_
      refine zc_V1V dF_when_21 zm_S_copyFrom zk_F_215 (by first | exact h1 | exact h4 | exact f1) rfl (c_S_copyFrom f1 f2 h4 h5 (by decide) (by decide)) ?_ zRR (Nat.le_of_ble_eq_true rfl) ⟨Nat.le_of_ble_eq_true rfl, Nat.le_of_ble_eq_true rfl⟩
      refine zw_iconst (v := 0) dF_when_24 (by decide) ?_
      refine zw_istore_n dF_when_25 (by decide) rfl ?_
      exact zw_lk (L 401 0 (oS O) _ rfl ok.2.1 ca (hs2_k f1) (hs2_p f2) (frC.hs2 (by decide)) (hs2_len _ _ _) rfl) ⟨rfl, rfl, trivial⟩
    · exact absurd (lost1 c_7) hl
end C37
