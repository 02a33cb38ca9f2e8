/-! ===== the class's heap as one abstract state ===== -/
/-- floor, robot, text, its length, what can be undone (newest first), how many, images, which are kept -/
abbrev Om : Type := Fl × Sit × (Nat → Int32) × Nat × (Nat → Sit) × Nat × (Nat → Sit) × (Nat → Bool)
def oF (O : Om) : Fl := O.1
def oS (O : Om) : Sit := O.2.1
def oT (O : Om) : Nat → Int32 := O.2.2.1
def oLen (O : Om) : Nat := O.2.2.2.1
def oU (O : Om) : Nat → Sit := O.2.2.2.2.1
def oSz (O : Om) : Nat := O.2.2.2.2.2.1
def oI' (O : Om) : Nat → Sit := O.2.2.2.2.2.2.1
def oKp (O : Om) : Nat → Bool := O.2.2.2.2.2.2.2
def oMk (F : Fl) (S : Sit) (T : Nat → Int32) (len : Nat) (U : Nat → Sit) (sz : Nat) (I : Nat → Sit) (kp : Nat → Bool) : Om := (F, S, T, len, U, sz, I, kp)
def oSetS (O : Om) (S : Sit) : Om := oMk (oF O) S (oT O) (oLen O) (oU O) (oSz O) (oI' O) (oKp O)
def xC : zC := .inr (0, [.ref 1, .ref 4, .ref 5, .ref 7, .ref 9, .ref 10, .ref 24])
def txC (len c w ht sg dk : Int32) : zC := .inr (1, [.ref 2, .int len, .ref 3, .int c, .int w, .int ht, .int sg, .int dk])
def hisC (lt sz : Nat) : zC := .inr (5, [.ref 11, .int (nI lt), .int (nI sz)])
def pastF : Nat → Option Nat := fun i => some (12 + 2 * i)
def pastC : zC := .inl (3, 6, .inr (.inr (.inr (.inr pastF))))
def albC : zC := .inr (6, [.ref 25, .ref 26])
def picF : Nat → Option Nat := fun i => some (27 + 2 * i)
def picC : zC := .inl (3, 2, .inr (.inr (.inr (.inr picF))))
def kptC (f : Nat → Int32) : zC := .inl (2, 2, .inl f)
/-- the text's part -/
def CXt (h : zH) (T : Nat → Int32) (len : Nat) : Prop := ∃ (c w ht sg dk : Int32) (lf kf : Nat → Int32), h[1]? = some (txC (nI len) c w ht sg dk) ∧ h[2]? = some (.inl (0, 60, .inl lf)) ∧ h[3]? = some (.inl (0, 36, .inl kf)) ∧ ∀ i, i < len → lf i = T i
/-- what can be undone -/
def CXu (h : zH) (U : Nat → Sit) (sz : Nat) : Prop := ∃ (lt : Nat) (P : Nat → Sit), lt < 6 ∧ h[10]? = some (hisC lt sz) ∧ h[11]? = some pastC ∧ (∀ i, i < 6 → h[12 + 2 * i]? = some (sitC (12 + 2 * i) (P i)) ∧ h[12 + 2 * i + 1]? = some (plC (P i))) ∧ ∀ j, j < sz → P ((lt + 6 - j) % 6) = U j
/-- the images -/
def CXi (h : zH) (I : Nat → Sit) (kp : Nat → Bool) : Prop := h[24]? = some albC ∧ h[25]? = some picC ∧ (∃ f : Nat → Int32, h[26]? = some (kptC f) ∧ ∀ i, i < 2 → f i = if kp i = true then 1 else 0) ∧ ∀ i, i < 2 → ∃ Q : Sit, h[27 + 2 * i]? = some (sitC (27 + 2 * i) Q) ∧ h[27 + 2 * i + 1]? = some (plC Q) ∧ (kp i = true → Q = I i)
def CXf (h : zH) : Prop := ∃ Q : Sit, h[7]? = some (sitC 7 Q) ∧ h[7 + 1]? = some (plC Q)
def CXp (h : zH) : Prop := ∃ p0 p1 p2 p3 : Int32, h[9]? = some (pilC p0 p1 p2 p3)
def CX (h : zH) (O : Om) : Prop := h[0]? = some xC ∧ CXt h (oT O) (oLen O) ∧ h[4]? = some (gC (oF O)) ∧ h[5]? = some (sitC 5 (oS O)) ∧ h[5 + 1]? = some (plC (oS O)) ∧ CXf h ∧ CXp h ∧ CXu h (oU O) (oSz O) ∧ CXi h (oI' O) (oKp O)
/-- nothing from 31 on is changed -/
def frC (h h' : zH) : Prop := ∀ j, 31 ≤ j → h'[j]? = h[j]?
theorem frC.rf (h : zH) : frC h h := fun _ _ => rfl
theorem frC.tr {h h1 h2 : zH} (a : frC h h1) (b : frC h1 h2) : frC h h2 := fun j hj => (b j hj).trans (a j hj)
theorem frC.set {h : zH} {k : Nat} {c : zC} (hk : k < 31) : frC h (h.set k c) := fun j hj => zg_ne (by omega) rfl
theorem frC.hs2 {h : zH} {k : Nat} {S : Sit} (hk : k < 30) : frC h (hs2 k S h) := fun j hj => hs2_ne (by omega) (by omega) rfl
/-- only cells that P names may have changed -/
theorem CXt.keep {h h' : zH} {T : Nat → Int32} {len : Nat} (H : ∀ j, 1 ≤ j → j < 4 → h'[j]? = h[j]?) (a : CXt h T len) : CXt h' T len := by
  obtain ⟨c, w, ht, sg, dk, lf, kf, h1, h2, h3, h4⟩ := a
  exact ⟨c, w, ht, sg, dk, lf, kf, (H 1 (by omega) (by omega)).trans h1, (H 2 (by omega) (by omega)).trans h2, (H 3 (by omega) (by omega)).trans h3, h4⟩
theorem CXu.keep {h h' : zH} {U : Nat → Sit} {sz : Nat} (H : ∀ j, 10 ≤ j → j < 24 → h'[j]? = h[j]?) (a : CXu h U sz) : CXu h' U sz := by
  obtain ⟨lt, P, h1, h2, h3, h4, h5⟩ := a
  exact ⟨lt, P, h1, (H 10 (by omega) (by omega)).trans h2, (H 11 (by omega) (by omega)).trans h3, fun i hi => ⟨(H _ (by omega) (by omega)).trans (h4 i hi).1, (H _ (by omega) (by omega)).trans (h4 i hi).2⟩, h5⟩
theorem CXi.keep {h h' : zH} {I : Nat → Sit} {kp : Nat → Bool} (H : ∀ j, 24 ≤ j → j < 31 → h'[j]? = h[j]?) (a : CXi h I kp) : CXi h' I kp := by
  obtain ⟨h1, h2, ⟨f, h3, h4⟩, h5⟩ := a
  refine ⟨(H _ (by omega) (by omega)).trans h1, (H _ (by omega) (by omega)).trans h2, ⟨f, (H _ (by omega) (by omega)).trans h3, h4⟩, fun i hi => ?_⟩
  obtain ⟨Q, g1, g2, g3⟩ := h5 i hi
  exact ⟨Q, (H _ (by omega) (by omega)).trans g1, (H _ (by omega) (by omega)).trans g2, g3⟩
theorem CXf.keep {h h' : zH} (H : ∀ j, 7 ≤ j → j < 9 → h'[j]? = h[j]?) (a : CXf h) : CXf h' := by
  obtain ⟨Q, h1, h2⟩ := a
  exact ⟨Q, (H _ (by omega) (by omega)).trans h1, (H _ (by omega) (by omega)).trans h2⟩
theorem CXp.keep {h h' : zH} (H : h'[9]? = h[9]?) (a : CXp h) : CXp h' := by
  obtain ⟨p0, p1, p2, p3, h1⟩ := a
  exact ⟨p0, p1, p2, p3, H.trans h1⟩
theorem CX.keep {h h' : zH} {O : Om} (H : ∀ j, j < 31 → h'[j]? = h[j]?) (a : CX h O) : CX h' O := by
  obtain ⟨h1, h2, h3, h4, h5, h6, h7, h8, h9⟩ := a
  exact ⟨(H _ (by omega)).trans h1, h2.keep (fun j _ q => H j (by omega)), (H _ (by omega)).trans h3, (H _ (by omega)).trans h4, (H _ (by omega)).trans h5, h6.keep (fun j _ q => H j (by omega)), h7.keep (H _ (by omega)), h8.keep (fun j _ q => H j (by omega)), h9.keep (fun j _ q => H j (by omega))⟩
/-- the robot changes -/
theorem CX.now {h : zH} {O : Om} (a : CX h O) (S' : Sit) : CX (hs2 5 S' h) (oSetS O S') := by
  obtain ⟨h1, h2, h3, h4, h5, h6, h7, h8, h9⟩ := a
  have K : ∀ j, j ≠ 5 → j ≠ 6 → (hs2 5 S' h)[j]? = h[j]? := fun j a b => hs2_ne (Ne.symm a) (Ne.symm b) rfl
  exact ⟨(K _ (by omega) (by omega)).trans h1, h2.keep (fun j _ _ => K j (by omega) (by omega)), (K _ (by omega) (by omega)).trans h3, hs2_k h4, hs2_p h5, h6.keep (fun j _ _ => K j (by omega) (by omega)), h7.keep (K _ (by omega) (by omega)), h8.keep (fun j _ _ => K j (by omega) (by omega)), h9.keep (fun j _ _ => K j (by omega) (by omega))⟩
theorem CX.fore {h : zH} {O : Om} (a : CX h O) (S' : Sit) : CX (hs2 7 S' h) O := by
  obtain ⟨h1, h2, h3, h4, h5, h6, h7, h8, h9⟩ := a
  have K : ∀ j, j ≠ 7 → j ≠ 8 → (hs2 7 S' h)[j]? = h[j]? := fun j a b => hs2_ne (Ne.symm a) (Ne.symm b) rfl
  obtain ⟨Q, q1, q2⟩ := h6
  exact ⟨(K _ (by omega) (by omega)).trans h1, h2.keep (fun j _ _ => K j (by omega) (by omega)), (K _ (by omega) (by omega)).trans h3, (K _ (by omega) (by omega)).trans h4, (K _ (by omega) (by omega)).trans h5, ⟨S', hs2_k q1, hs2_p q2⟩, h7.keep (K _ (by omega) (by omega)), h8.keep (fun j _ _ => K j (by omega) (by omega)), h9.keep (fun j _ _ => K j (by omega) (by omega))⟩
theorem CX.pil {h : zH} {O : Om} (a : CX h O) {h1 : zH} (hp : pilA h h1) : CX h1 O := by
  obtain ⟨q0, q1, q2, q3, rfl⟩ := hp
  obtain ⟨h1, h2, h3, h4, h5, h6, ⟨p0, p1, p2, p3, h7⟩, h8, h9⟩ := a
  have K : ∀ j, j ≠ 9 → (h.set 9 (pilC q0 q1 q2 q3))[j]? = h[j]? := fun j a => zg_ne (Ne.symm a) rfl
  exact ⟨(K _ (by omega)).trans h1, h2.keep (fun j _ _ => K j (by omega)), (K _ (by omega)).trans h3, (K _ (by omega)).trans h4, (K _ (by omega)).trans h5, h6.keep (fun j _ _ => K j (by omega)), ⟨q0, q1, q2, q3, zg_eq h7⟩, h8.keep (fun j _ _ => K j (by omega)), h9.keep (fun j _ _ => K j (by omega))⟩
theorem pilA.fr {h h1 : zH} (hp : pilA h h1) : frC h h1 := by
  obtain ⟨q0, q1, q2, q3, rfl⟩ := hp
  exact frC.set (by decide)
theorem pilA.len {h h1 : zH} (hp : pilA h h1) : h1.length = h.length := by
  obtain ⟨q0, q1, q2, q3, rfl⟩ := hp
  simp
/-- what is done is remembered -/
def oRem (O : Om) : Om := oMk (oF O) (oS O) (oT O) (oLen O) (fun j => match j with | 0 => oS O | j + 1 => oU O j) (min (oSz O + 1) 6) (oI' O) (oKp O)
section C33
variable {l : Launch} {g : zG} {d : Nat} {h : zH} {O : Om}
/-- the place of a number -/
theorem c_H_slotOf {h : zH} {lt sz nl : Nat} (u2 : h[10]? = some (hisC lt sz)) (u3 : h[11]? = some pastC) (hnl : nl < 6) : Run l g mH_slotOf d 0 0 [.ref 10, .int (nI nl)] h (fun v h' => v = some (.ref (12 + 2 * nl)) ∧ h = h') := by
  have ecl : (nI nl).toNatClampNeg = nl := nI_clamp (by omega)
  refine run_of (by decide) (Nat.le_of_ble_eq_true rfl) ?_
  refine zw_iload_n dH_slotOf_0 rfl ?_
  refine zw_if_lt 19 dH_slotOf_1 (by decide) (fun c_1 => ?_) (fun c_1 => ?_)
  · exact absurd c_1 (nI_nlt (a := nl) (b := 0) (Nat.zero_le _) (by omega))
  · refine zw_iload_n dH_slotOf_4 rfl ?_
    refine zw_bipush (v := 6) dH_slotOf_5 (by decide) ?_
    refine zw_icmp_ge 19 dH_slotOf_7 (by decide) (fun c_7 => ?_) (fun c_7 => ?_)
    · exact absurd ((nI_leI (a := 6) (by omega) (by omega)).mp c_7) (by omega)
    · refine zw_aload_n dH_slotOf_10 rfl ?_
      refine zw_get dH_slotOf_11 zf_H_11 (by first | exact u2 | exact u3) rfl ?_
      refine zw_iload_n dH_slotOf_14 rfl ?_
      refine zw_aald dH_slotOf_15 (by first | exact u2 | exact u3) (vp_in_nI hnl (by decide)) (by rw [ecl]; rfl) ?_
      refine zw_goto 20 dH_slotOf_16 (by decide) ?_
      exact zw_aret dH_slotOf_20 rfl rfl ⟨rfl, rfl⟩
theorem c_H_remember (a : CX h O) (hsz : oSz O ≤ 6) : Run l g mH_remember (d + 2) 0 0 [.ref 10, .ref 5] h (PVh (fun h' => CX h' (oRem O) ∧ frC h h' ∧ h'.length = h.length)) := by
  obtain ⟨h1, h2, h3, h4, h5, h6, h7, ⟨lt, P, hlt, u2, u3, u4, u5⟩, h9⟩ := a
  generalize hn : (if lt + 1 < 6 then lt + 1 else 0) = nl
  have hnl : nl < 6 := by rw [← hn]; split <;> omega
  have emin : (if (6 : Int32) < nI (oSz O + 1) then 6 else nI (oSz O + 1)) = nI (min (oSz O + 1) 6) := by
    rw [show (6 : Int32) = nI 6 from rfl]
    rcases Nat.lt_or_ge 6 (oSz O + 1) with q | q
    · rw [if_pos (nI_lt (a := 6) q (by omega)), show min (oSz O + 1) 6 = 6 by omega]
    · rw [if_neg (nI_nlt (a := 6) q (by omega)), show min (oSz O + 1) 6 = oSz O + 1 by omega]
  have uA := u4 nl hnl
  -- the heap behind it
  have E : CX (hs2 (12 + 2 * nl) (oS O) (h.set 10 (hisC nl (min (oSz O + 1) 6)))) (oRem O) := by
    have K : ∀ j, j ≠ 10 → j ≠ 12 + 2 * nl → j ≠ 12 + 2 * nl + 1 → (hs2 (12 + 2 * nl) (oS O) (h.set 10 (hisC nl (min (oSz O + 1) 6))))[j]? = h[j]? := fun j a b c => hs2_ne (Ne.symm b) (Ne.symm c) (zg_ne (Ne.symm a) rfl)
    refine ⟨(K _ (by omega) (by omega) (by omega)).trans h1, h2.keep (fun j _ _ => K j (by omega) (by omega) (by omega)), (K _ (by omega) (by omega) (by omega)).trans h3, (K _ (by omega) (by omega) (by omega)).trans h4, (K _ (by omega) (by omega) (by omega)).trans h5, h6.keep (fun j _ _ => K j (by omega) (by omega) (by omega)), h7.keep (K _ (by omega) (by omega) (by omega)), ?_, h9.keep (fun j _ _ => K j (by omega) (by omega) (by omega))⟩
    refine ⟨nl, fun i => if i = nl then oS O else P i, hnl, hs2_ne (by omega) (by omega) (zg_eq u2), (K _ (by omega) (by omega) (by omega)).trans u3, fun i hi => ?_, fun j hj => ?_⟩
    · by_cases e : i = nl
      · subst e
        dsimp only
        rw [if_pos rfl]
        exact ⟨hs2_k (zg_ne (by omega) uA.1), hs2_p (zg_ne (by omega) uA.2)⟩
      · dsimp only
        rw [if_neg e]
        exact ⟨(K _ (by omega) (by omega) (by omega)).trans (u4 i hi).1, (K _ (by omega) (by omega) (by omega)).trans (u4 i hi).2⟩
    · have hj6 : j < min (oSz O + 1) 6 := hj
      cases j with
      | zero =>
        have : (nl + 6 - 0) % 6 = nl := by omega
        dsimp only
        rw [this, if_pos rfl]
        rfl
      | succ j =>
        have hne : (nl + 6 - (j + 1)) % 6 ≠ nl := by omega
        dsimp only
        rw [if_neg hne]
        have e2 : (nl + 6 - (j + 1)) % 6 = (lt + 6 - j) % 6 := by
          rw [← hn]
          split <;> omega
        rw [e2]
        exact u5 j (by omega)
  have EF : frC h (hs2 (12 + 2 * nl) (oS O) (h.set 10 (hisC nl (min (oSz O + 1) 6)))) := (frC.set (by decide)).tr (frC.hs2 (by omega))
  have EL : (hs2 (12 + 2 * nl) (oS O) (h.set 10 (hisC nl (min (oSz O + 1) 6)))).length = h.length := by rw [hs2_len]; simp
  refine run_of (by decide) (Nat.le_of_ble_eq_true rfl) ?_
  -- from 25 on, with the new place
  have L : WW l g mH_remember (zrm (d + 2) 0 0) (fun _ => True) (zQQ g (PVh (fun h' => CX h' (oRem O) ∧ frC h h' ∧ h'.length = h.length)) (h.length + 0) 0 0) 25 [(0, some (.ref 10)), (1, some (.ref 5))] [] (h.set 10 (hisC nl (oSz O))) 0 0 := by
    have v2 : (h.set 10 (hisC nl (oSz O)))[10]? = some (hisC nl (oSz O)) := zg_eq u2
    have v3 : (h.set 10 (hisC nl (oSz O)))[11]? = some pastC := zg_ne (by omega) u3
    have vA : (h.set 10 (hisC nl (oSz O)))[12 + 2 * nl]? = some (sitC (12 + 2 * nl) (P nl)) := zg_ne (by omega) uA.1
    have vB : (h.set 10 (hisC nl (oSz O)))[12 + 2 * nl + 1]? = some (plC (P nl)) := zg_ne (by omega) uA.2
    have v4 : (h.set 10 (hisC nl (oSz O)))[5]? = some (sitC 5 (oS O)) := zg_ne (by omega) h4
    have v5 : (h.set 10 (hisC nl (oSz O)))[5 + 1]? = some (plC (oS O)) := zg_ne (by omega) h5
    have w2 : (hs2 (12 + 2 * nl) (oS O) (h.set 10 (hisC nl (oSz O))))[10]? = some (hisC nl (oSz O)) := hs2_ne (by omega) (by omega) v2
    refine zw_aload_n dH_remember_25 rfl ?_
    refine zw_aload_n dH_remember_26 rfl ?_
    refine zw_get dH_remember_27 zf_H_20 (by first | exact v2 | exact v3 | exact w2) rfl ?_
    refine zg_V1 dH_remember_30 zm_H_slotOf zk_H_24 (by first | exact v2 | exact v3 | exact w2) rfl (c_H_slotOf (d := d + 1) v2 v3 hnl) zRR (Nat.le_of_ble_eq_true rfl) ⟨Nat.le_of_ble_eq_true rfl, Nat.le_of_ble_eq_true rfl⟩ ?_
    rintro v h' ⟨rfl, rfl⟩
    refine zw_astore_n dH_remember_33 (by decide) rfl ?_
    refine zw_aload_n dH_remember_34 rfl ?_
    refine zw_ifnull dH_remember_35 ?_
    refine zw_aload_n dH_remember_38 rfl ?_
    refine zw_aload_n dH_remember_39 rfl ?_
    refine zc_V1V dH_remember_40 zm_S_copyFrom zk_H_28 vA rfl (c_S_copyFrom vA vB v4 v5 (by omega) (by omega)) ?_ zRR (Nat.le_of_ble_eq_true rfl) ⟨Nat.le_of_ble_eq_true rfl, Nat.le_of_ble_eq_true rfl⟩
    refine zw_aload_n dH_remember_43 rfl ?_
    refine zw_aload_n dH_remember_44 rfl ?_
    refine zw_get dH_remember_45 zf_H_32 (by first | exact v2 | exact v3 | exact w2) rfl ?_
    refine zw_iconst (v := 1) dH_remember_48 (by decide) ?_
    refine zw_iadd dH_remember_49 ?_
    rw [nI_1]
    refine zw_bipush (v := 6) dH_remember_50 (by decide) ?_
    refine zw_mmin dH_remember_52 zmm_H_35 ⟨Nat.succ_le_succ (Nat.zero_le _), by show 38 ≤ 38 * _; omega⟩ (Nat.le_of_ble_eq_true rfl) ⟨Nat.le_of_ble_eq_true rfl, Nat.le_of_ble_eq_true rfl⟩ ?_
    rw [emin]
    refine zw_puti dH_remember_55 zf_H_32 (by first | exact v2 | exact v3 | exact w2) (Nat.le_of_ble_eq_true rfl) ?_
    refine zw_h (h2 := hs2 (12 + 2 * nl) (oS O) (h.set 10 (hisC nl (min (oSz O + 1) 6)))) (by unfold hs2; rw [zs_comm _ _ _ (show 12 + 2 * nl + 1 ≠ 10 by omega), zs_comm _ _ _ (show 12 + 2 * nl ≠ 10 by omega), zs_set]; rfl) ?_
    exact zw_vret dH_remember_58 rfl EL ⟨rfl, E, EF, EL⟩
  have e1 : nI lt + 1 = nI (lt + 1) := nI_1 lt
  by_cases hc : lt + 1 < 6
  · rw [if_pos hc] at hn
    subst hn
    refine zw_aload_n dH_remember_0 rfl ?_
    refine zw_aload_n dH_remember_1 rfl ?_
    refine zw_get dH_remember_2 zf_H_20 u2 rfl ?_
    refine zw_iconst (v := 1) dH_remember_5 (by decide) ?_
    refine zw_iadd dH_remember_6 ?_
    rw [e1]
    refine zw_bipush (v := 6) dH_remember_7 (by decide) ?_
    refine zw_icmp_ge 21 dH_remember_9 (by decide) (fun c_9 => ?_) (fun c_9 => ?_)
    · exact absurd ((nI_leI (a := 6) (by omega) (by omega)).mp c_9) (by omega)
    · refine zw_aload_n dH_remember_12 rfl ?_
      refine zw_get dH_remember_13 zf_H_20 u2 rfl ?_
      refine zw_iconst (v := 1) dH_remember_16 (by decide) ?_
      refine zw_iadd dH_remember_17 ?_
      rw [e1]
      refine zw_goto 22 dH_remember_18 (by decide) ?_
      refine zw_puti dH_remember_22 zf_H_20 u2 (Nat.le_of_ble_eq_true rfl) ?_
      exact zw_lk L ⟨rfl, rfl, trivial⟩
  · rw [if_neg hc] at hn
    subst hn
    refine zw_aload_n dH_remember_0 rfl ?_
    refine zw_aload_n dH_remember_1 rfl ?_
    refine zw_get dH_remember_2 zf_H_20 u2 rfl ?_
    refine zw_iconst (v := 1) dH_remember_5 (by decide) ?_
    refine zw_iadd dH_remember_6 ?_
    rw [e1]
    refine zw_bipush (v := 6) dH_remember_7 (by decide) ?_
    refine zw_icmp_ge 21 dH_remember_9 (by decide) (fun c_9 => ?_) (fun c_9 => ?_)
    · refine zw_iconst (v := 0) dH_remember_21 (by decide) ?_
      refine zw_puti dH_remember_22 zf_H_20 u2 (Nat.le_of_ble_eq_true rfl) ?_
      exact zw_lk L ⟨rfl, rfl, trivial⟩
    · exact absurd (nI_le (a := 6) (b := lt + 1) (by omega) (by omega)) c_9
/-- undone -/
def oUnd (O : Om) : Om := oMk (oF O) (oU O 0) (oT O) (oLen O) (fun j => oU O (j + 1)) (oSz O - 1) (oI' O) (oKp O)
theorem c_H_bringBack0 (a : CX h O) (hsz : oSz O = 0) : Run l g mH_bringBack (d + 2) 0 0 [.ref 10, .ref 5] h (PI 0 h) := by
  obtain ⟨h1, h2, h3, h4, h5, h6, h7, ⟨lt, P, hlt, u2, u3, u4, u5⟩, h9⟩ := a
  rw [hsz] at u2
  refine run_of (by decide) (Nat.le_of_ble_eq_true rfl) ?_
  refine zw_aload_n dH_bringBack_0 rfl ?_
  refine zw_aload_n dH_bringBack_1 rfl ?_
  refine zw_get dH_bringBack_2 zf_H_20 (by first | exact u2 | exact u3) rfl ?_
  refine zg_V1 dH_bringBack_5 zm_H_slotOf zk_H_24 (by first | exact u2 | exact u3) rfl (c_H_slotOf (d := d + 1) u2 u3 hlt) zRR (Nat.le_of_ble_eq_true rfl) ⟨Nat.le_of_ble_eq_true rfl, Nat.le_of_ble_eq_true rfl⟩ ?_
  rintro v h' ⟨rfl, rfl⟩
  refine zw_astore_n dH_bringBack_8 (by decide) rfl ?_
  refine zw_aload_n dH_bringBack_9 rfl ?_
  refine zw_get dH_bringBack_10 zf_H_32 (by first | exact u2 | exact u3) rfl ?_
  refine zw_if_le 20 dH_bringBack_13 (by decide) (fun c_13 => ?_) (fun c_13 => ?_)
  · refine zw_iconst (v := 0) dH_bringBack_20 (by decide) ?_
    exact zw_iret dH_bringBack_21 rfl rfl rfl ⟨rfl, rfl⟩
  · exact absurd (by decide) c_13
theorem c_H_bringBack (a : CX h O) (hsz : oSz O ≤ 6) (h0 : 0 < oSz O) : Run l g mH_bringBack (d + 2) 0 0 [.ref 10, .ref 5] h (PIh 1 (fun h' => CX h' (oUnd O) ∧ frC h h' ∧ h'.length = h.length)) := by
  obtain ⟨h1, h2, h3, h4, h5, h6, h7, ⟨lt, P, hlt, u2, u3, u4, u5⟩, h9⟩ := a
  have uA := u4 lt hlt
  have hPU : P lt = oU O 0 := by have := u5 0 h0; rw [show (lt + 6 - 0) % 6 = lt by omega] at this; exact this
  generalize hn : (if 0 < lt then lt - 1 else 5) = nl
  have hnl : nl < 6 := by rw [← hn]; split <;> omega
  have E : CX ((hs2 5 (oU O 0) h).set 10 (hisC nl (oSz O - 1))) (oUnd O) := by
    have K : ∀ j, j ≠ 5 → j ≠ 6 → j ≠ 10 → ((hs2 5 (oU O 0) h).set 10 (hisC nl (oSz O - 1)))[j]? = h[j]? := fun j a b c => zg_ne (Ne.symm c) (hs2_ne (Ne.symm a) (Ne.symm b) rfl)
    refine ⟨(K _ (by omega) (by omega) (by omega)).trans h1, h2.keep (fun j _ _ => K j (by omega) (by omega) (by omega)), (K _ (by omega) (by omega) (by omega)).trans h3, zg_ne (by omega) (hs2_k h4), zg_ne (by omega) (hs2_p h5), h6.keep (fun j _ _ => K j (by omega) (by omega) (by omega)), h7.keep (K _ (by omega) (by omega) (by omega)), ?_, h9.keep (fun j _ _ => K j (by omega) (by omega) (by omega))⟩
    refine ⟨nl, P, hnl, zg_eq (hs2_ne (by omega) (by omega) u2), (K _ (by omega) (by omega) (by omega)).trans u3, fun i hi => ⟨(K _ (by omega) (by omega) (by omega)).trans (u4 i hi).1, (K _ (by omega) (by omega) (by omega)).trans (u4 i hi).2⟩, fun j hj => ?_⟩
    have hj' : j < oSz O - 1 := hj
    have e2 : (nl + 6 - j) % 6 = (lt + 6 - (j + 1)) % 6 := by
      rw [← hn]
      split <;> omega
    rw [e2]
    exact u5 (j + 1) (by omega)
  have EF : frC h ((hs2 5 (oU O 0) h).set 10 (hisC nl (oSz O - 1))) := (frC.hs2 (by decide)).tr (frC.set (by decide))
  have EL : ((hs2 5 (oU O 0) h).set 10 (hisC nl (oSz O - 1))).length = h.length := by simp [hs2_len]
  have v2 : (hs2 5 (oU O 0) h)[10]? = some (hisC lt (oSz O)) := hs2_ne (by omega) (by omega) u2
  have esz : nI (oSz O) - 1 = nI (oSz O - 1) := pk_sub (b := 1) h0
  refine run_of (by decide) (Nat.le_of_ble_eq_true rfl) ?_
  have cc := c_S_copyFrom (l := l) (g := g) (d := d) h4 h5 uA.1 uA.2 (by omega) (by omega)
  rw [hPU] at cc
  by_cases hc : 0 < lt
  · rw [if_pos hc] at hn
    have elt : nI lt - 1 = nI nl := by rw [← hn]; exact pk_sub (b := 1) hc
    refine zw_aload_n dH_bringBack_0 rfl ?_
    refine zw_aload_n dH_bringBack_1 rfl ?_
    refine zw_get dH_bringBack_2 zf_H_20 u2 rfl ?_
    refine zg_V1 dH_bringBack_5 zm_H_slotOf zk_H_24 u2 rfl (c_H_slotOf (d := d + 1) u2 u3 hlt) zRR (Nat.le_of_ble_eq_true rfl) ⟨Nat.le_of_ble_eq_true rfl, Nat.le_of_ble_eq_true rfl⟩ ?_
    rintro v h' ⟨rfl, rfl⟩
    refine zw_astore_n dH_bringBack_8 (by decide) rfl ?_
    refine zw_aload_n dH_bringBack_9 rfl ?_
    refine zw_get dH_bringBack_10 zf_H_32 u2 rfl ?_
    refine zw_if_le 20 dH_bringBack_13 (by decide) (fun c_13 => ?_) (fun c_13 => ?_)
    · exact absurd c_13 (nI_nle h0 (by omega))
    · refine zw_aload_n dH_bringBack_16 rfl ?_
      refine zw_ifnonnull 22 dH_bringBack_17 (by decide) ?_
      refine zw_aload_n dH_bringBack_22 rfl ?_
      refine zw_aload_n dH_bringBack_23 rfl ?_
      refine zc_V1V dH_bringBack_24 zm_S_copyFrom zk_H_28 h4 rfl cc ?_ zRR (Nat.le_of_ble_eq_true rfl) ⟨Nat.le_of_ble_eq_true rfl, Nat.le_of_ble_eq_true rfl⟩
      refine zw_aload_n dH_bringBack_27 rfl ?_
      refine zw_aload_n dH_bringBack_28 rfl ?_
      refine zw_get dH_bringBack_29 zf_H_20 (by first | exact v2 | exact zg_eq v2) rfl ?_
      refine zw_if_le 44 dH_bringBack_32 (by decide) (fun c_32 => ?_) (fun c_32 => ?_)
      · exact absurd c_32 (nI_nle hc (by omega))
      · refine zw_aload_n dH_bringBack_35 rfl ?_
        refine zw_get dH_bringBack_36 zf_H_20 (by first | exact v2 | exact zg_eq v2) rfl ?_
        refine zw_iconst (v := 1) dH_bringBack_39 (by decide) ?_
        refine zw_isub dH_bringBack_40 ?_
        rw [elt]
        refine zw_goto 45 dH_bringBack_41 (by decide) ?_
        refine zw_puti dH_bringBack_45 zf_H_20 (by first | exact v2 | exact zg_eq v2) (Nat.le_of_ble_eq_true rfl) ?_
        refine zw_aload_n dH_bringBack_48 rfl ?_
        refine zw_dup dH_bringBack_49 rfl ?_
        refine zw_get dH_bringBack_50 zf_H_32 (by first | exact v2 | exact zg_eq v2) rfl ?_
        refine zw_iconst (v := 1) dH_bringBack_53 (by decide) ?_
        refine zw_isub dH_bringBack_54 ?_
        rw [esz]
        refine zw_puti dH_bringBack_55 zf_H_32 (by first | exact v2 | exact zg_eq v2) (Nat.le_of_ble_eq_true rfl) ?_
        refine zw_h (h2 := (hs2 5 (oU O 0) h).set 10 (hisC nl (oSz O - 1))) (zs_set _ _ _ _) ?_
        refine zw_iconst (v := 1) dH_bringBack_58 (by decide) ?_
        exact zw_iret dH_bringBack_59 rfl rfl EL ⟨rfl, E, EF, EL⟩
  · rw [if_neg hc] at hn
    have hl0 : lt = 0 := by omega
    have elt : (5 : Int32) = nI nl := by rw [← hn]; rfl
    refine zw_aload_n dH_bringBack_0 rfl ?_
    refine zw_aload_n dH_bringBack_1 rfl ?_
    refine zw_get dH_bringBack_2 zf_H_20 u2 rfl ?_
    refine zg_V1 dH_bringBack_5 zm_H_slotOf zk_H_24 u2 rfl (c_H_slotOf (d := d + 1) u2 u3 hlt) zRR (Nat.le_of_ble_eq_true rfl) ⟨Nat.le_of_ble_eq_true rfl, Nat.le_of_ble_eq_true rfl⟩ ?_
    rintro v h' ⟨rfl, rfl⟩
    refine zw_astore_n dH_bringBack_8 (by decide) rfl ?_
    refine zw_aload_n dH_bringBack_9 rfl ?_
    refine zw_get dH_bringBack_10 zf_H_32 u2 rfl ?_
    refine zw_if_le 20 dH_bringBack_13 (by decide) (fun c_13 => ?_) (fun c_13 => ?_)
    · exact absurd c_13 (nI_nle h0 (by omega))
    · refine zw_aload_n dH_bringBack_16 rfl ?_
      refine zw_ifnonnull 22 dH_bringBack_17 (by decide) ?_
      refine zw_aload_n dH_bringBack_22 rfl ?_
      refine zw_aload_n dH_bringBack_23 rfl ?_
      refine zc_V1V dH_bringBack_24 zm_S_copyFrom zk_H_28 h4 rfl cc ?_ zRR (Nat.le_of_ble_eq_true rfl) ⟨Nat.le_of_ble_eq_true rfl, Nat.le_of_ble_eq_true rfl⟩
      refine zw_aload_n dH_bringBack_27 rfl ?_
      refine zw_aload_n dH_bringBack_28 rfl ?_
      refine zw_get dH_bringBack_29 zf_H_20 (by first | exact v2 | exact zg_eq v2) rfl ?_
      refine zw_if_le 44 dH_bringBack_32 (by decide) (fun c_32 => ?_) (fun c_32 => ?_)
      · refine zw_iconst (v := 5) dH_bringBack_44 (by decide) ?_
        rw [elt]
        refine zw_puti dH_bringBack_45 zf_H_20 (by first | exact v2 | exact zg_eq v2) (Nat.le_of_ble_eq_true rfl) ?_
        refine zw_aload_n dH_bringBack_48 rfl ?_
        refine zw_dup dH_bringBack_49 rfl ?_
        refine zw_get dH_bringBack_50 zf_H_32 (by first | exact v2 | exact zg_eq v2) rfl ?_
        refine zw_iconst (v := 1) dH_bringBack_53 (by decide) ?_
        refine zw_isub dH_bringBack_54 ?_
        rw [esz]
        refine zw_puti dH_bringBack_55 zf_H_32 (by first | exact v2 | exact zg_eq v2) (Nat.le_of_ble_eq_true rfl) ?_
        refine zw_h (h2 := (hs2 5 (oU O 0) h).set 10 (hisC nl (oSz O - 1))) (zs_set _ _ _ _) ?_
        refine zw_iconst (v := 1) dH_bringBack_58 (by decide) ?_
        exact zw_iret dH_bringBack_59 rfl rfl EL ⟨rfl, E, EF, EL⟩
      · exact absurd (by rw [hl0]; decide) c_32
end C33
