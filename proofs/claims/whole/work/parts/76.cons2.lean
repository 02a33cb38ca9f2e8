/-! ===== what can be undone, images: made ===== -/
def pfI (f : Nat → Option Nat) (i : Nat) : Nat → Option Nat := fun j => if j < i then f j else none
theorem pfI_s (f : Nat → Option Nat) (i : Nat) {x : Option Nat} (hx : x = f i) : va_up (pfI f i) i x = pfI f (i + 1) := by
  funext j
  by_cases e : j = i
  · subst e
    rw [va_up_self, hx]
    simp only [pfI]
    rw [if_pos (by omega)]
  · rw [va_up_ne _ _ e]
    simp only [pfI]
    by_cases q : j < i
    · rw [if_pos q, if_pos (by omega)]
    · rw [if_neg q, if_neg (by omega)]
def rfA (n : Nat) (f : Nat → Option Nat) : zC := .inl (3, n, .inr (.inr (.inr (.inr f))))
def IH (h : zH) (i : Nat) (c : zC) (h' : zH) : Prop := h'.length = 12 + 2 * i ∧ (∀ j, j < 10 → h'[j]? = h[j]?) ∧ h'[10]? = some (hisC 0 0) ∧ h'[11]? = some c ∧ ∀ j, j < i → h'[12 + 2 * j]? = some (sitC (12 + 2 * j) S00) ∧ h'[12 + 2 * j + 1]? = some (plC S00)
def IA (h : zH) (i : Nat) (c : zC) (h' : zH) : Prop := h'.length = 27 + 2 * i ∧ (∀ j, j < 24 → h'[j]? = h[j]?) ∧ h'[24]? = some albC ∧ h'[25]? = some c ∧ h'[26]? = some (kptC (fun _ => 0)) ∧ ∀ j, j < i → h'[27 + 2 * j]? = some (sitC (27 + 2 * j) S00) ∧ h'[27 + 2 * j + 1]? = some (plC S00)
theorem nw_eq {hh : zH} {n : Nat} {c X p : zC} (hn : hh.length = n) : (hh ++ [c]).set n X ++ [p] = hh ++ [X, p] := by
  subst hn
  simp
section C76
variable {l : Launch} {g : zG} {d : Nat} {h : zH}
theorem c_H_init (hq : h[10]? = some (.inr (5, n0_H))) (hl : h.length = 11) : Run l g mH_init (d + 2) 13 96 [.ref 10, .ref 4] h (PVh (IH h 6 pastC)) := by
  have hq1 : 10 < h.length := by omega
  refine run_of (by decide) (Nat.le_of_ble_eq_true rfl) ?_
  have L : ∀ (m i : Nat) (hh : zH), i + m = 6 → IH h i (rfA 6 (pfI pastF i)) hh → WW l g mH_init (zrm (d + 2) 13 96) (fun _ => True) (zQQ g (PVh (IH h 6 pastC)) (h.length + 13) 13 96) 15 [(0, some (.ref 10)), (1, some (.ref 4)), (2, some (.int (nI i)))] [] hh (1 + 2 * i) (6 + 15 * i) := by
    intro m
    induction m with
    | zero =>
      intro i hh hi I
      have hi : i = 6 := by omega
      subst hi
      obtain ⟨i1, i2, i3, i4, i5⟩ := I
      refine zw_extq pastF i4 (fun j hj => by simp only [pfI]; rw [if_pos hj]) ?_
      refine zw_h (h2 := hh.set 11 pastC) rfl ?_
      have I2 : IH h 6 pastC (hh.set 11 pastC) := ⟨by rw [zs_len]; exact i1, fun j hj => (zg_ne (by omega) rfl).trans (i2 j hj), zg_ne (by decide) i3, zg_eq i4, fun j hj => ⟨zg_ne (by omega) (i5 j hj).1, zg_ne (by omega) (i5 j hj).2⟩⟩
      refine zw_iload_n dH_init_15 rfl ?_
      refine zw_bipush (v := 6) dH_init_16 (by decide) ?_
      refine zw_icmp_ge 41 dH_init_18 (by decide) (fun c_18 => ?_) (fun c_18 => ?_)
      · exact zw_vret dH_init_41 rfl (by rw [zs_len, i1, hl]) ⟨rfl, I2⟩
      · exact absurd (Int32.le_refl _) c_18
    | succ m ih =>
      intro i hh hi I
      obtain ⟨i1, i2, i3, i4, i5⟩ := I
      have ecl : (nI i).toNatClampNeg = i := nI_clamp (by omega)
      have s1 : (hh ++ [.inr (3, n0_S)])[12 + 2 * i]? = some (.inr (3, n0_S)) := by
        have := ap_ge (L := [(.inr (3, n0_S) : zC)]) (j := 0) i1
        exact this
      have s2 : List.length (α := zC) (hh ++ [.inr (3, n0_S)]) = 12 + 2 * i + 1 := by simp [i1]
      have cs := c_S_init (l := l) (g := g) (d := d) s1 s2
      rw [nw_eq i1] at cs
      obtain ⟨h2, hh2⟩ : ∃ h2, h2 = hh ++ [sitC (12 + 2 * i) S00, plC S00] := ⟨_, rfl⟩
      rw [← hh2] at cs
      have k0 : ∀ j, j < 12 + 2 * i → h2[j]? = hh[j]? := fun j hj => by rw [hh2]; exact ap_lt (by omega)
      have k1 : h2[12 + 2 * i]? = some (sitC (12 + 2 * i) S00) := by rw [hh2]; exact ap_ge (j := 0) i1
      have k2 : h2[12 + 2 * i + 1]? = some (plC S00) := by rw [hh2]; exact ap_ge (j := 1) i1
      have k3 : h2[11]? = some (rfA 6 (pfI pastF i)) := (k0 11 (by omega)).trans i4
      have k4 : h2.length = 12 + 2 * (i + 1) := by rw [hh2]; simp [i1]; omega
      have I2 : IH h (i + 1) (rfA 6 (pfI pastF (i + 1))) (h2.set 11 (rfA 6 (pfI pastF (i + 1)))) := by
        refine ⟨by rw [zs_len]; exact k4, fun j hj => ((zg_ne (by omega) rfl).trans (k0 j (by omega))).trans (i2 j hj), (zg_ne (by decide) (k0 10 (by omega))).trans i3, zg_eq k3, fun j hj => ?_⟩
        by_cases e : j = i
        · subst e
          exact ⟨zg_ne (by omega) k1, zg_ne (by omega) k2⟩
        · exact ⟨zg_ne (by omega) ((k0 _ (by omega)).trans (i5 j (by omega)).1), zg_ne (by omega) ((k0 _ (by omega)).trans (i5 j (by omega)).2)⟩
      refine zw_iload_n dH_init_15 rfl ?_
      refine zw_bipush (v := 6) dH_init_16 (by decide) ?_
      refine zw_icmp_ge 41 dH_init_18 (by decide) (fun c_18 => ?_) (fun c_18 => ?_)
      · exact absurd ((nI_leI (a := 6) (by omega) (by omega)).mp c_18) (by omega)
      · refine zw_aload_n dH_init_21 rfl ?_
        refine zw_get dH_init_22 zf_H_11 i3 rfl ?_
        refine zw_iload_n dH_init_25 rfl ?_
        refine zw_new (ci := 3) (fs := n0_S) dH_init_26 rfl zi_S zy_S zcK_H_9 zin_S zii_S znf_S rfl ⟨by show 1 + 2 * i + 1 ≤ 13; omega, by show 6 + 15 * i + 11 ≤ 96; omega⟩ ?_
        rw [i1]
        refine zw_dup dH_init_29 rfl ?_
        refine zw_aload_n dH_init_30 rfl ?_
        refine zg_I1 dH_init_31 zm_S_init zk_H_17 cs zRR (Nat.le_of_ble_eq_true rfl) ⟨by show 1 + 2 * i + 1 + 1 ≤ 13; omega, by show 6 + 15 * i + 11 + 4 ≤ 96; omega⟩ ?_
        rintro v h' ⟨rfl, e⟩
        rw [e]
        refine zw_aast dH_init_34 k3 k1 (vp_in_nI (show i < 6 by omega) (by decide)) ?_
        rw [ecl, pfI_s pastF i (x := some (12 + 2 * i)) rfl]
        refine zw_h (h2 := h2.set 11 (rfA 6 (pfI pastF (i + 1)))) rfl ?_
        refine zw_incN dH_init_35 rfl (by decide) rfl ?_
        refine zw_goto 15 dH_init_38 (by decide) ?_
        exact zw_kn (show _ = 1 + 2 * (i + 1) by omega) (show _ = 6 + 15 * (i + 1) by omega) (zw_lk (ih (i + 1) _ (by omega) I2) ⟨rfl, rfl, rfl, trivial⟩)
  have I0 : IH h 0 (rfA 6 (pfI pastF 0)) (h.set 10 (hisC 0 0) ++ [rfA 6 (fun _ => none)]) := by
    refine ⟨by simp [hl], fun j hj => ?_, ap_get hq1, ?_, fun j hj => absurd hj (Nat.not_lt_zero _)⟩
    · rw [ap_lt (by rw [zs_len]; omega)]
      exact zg_ne (by omega) rfl
    · have e : pfI pastF 0 = fun _ => none := funext fun j => if_neg (Nat.not_lt_zero _)
      rw [e]
      exact ap_ge (h := h.set 10 (hisC 0 0)) (n := 11) (j := 0) (by rw [zs_len]; exact hl)
  have L0 := L 6 0 _ (by omega) I0
  refine zw_aload_n dH_init_0 rfl ?_
  refine zw_objInit dH_init_1 zk_H_3 zoi_i zoi_c ⟨Nat.succ_le_succ (Nat.zero_le _), by show 38 ≤ 38 * _; omega⟩ (Nat.le_of_ble_eq_true rfl) ?_
  refine zw_aload_n dH_init_4 rfl ?_
  refine zw_bipush (v := 6) dH_init_5 (by decide) ?_
  refine zw_newq (N := 6) dH_init_7 zcK_H_9 (by decide) (by decide) (by decide) ⟨Nat.le_of_ble_eq_true rfl, Nat.le_of_ble_eq_true rfl⟩ ?_
  rw [show (List.length h) = 11 from hl]
  refine zw_putF dH_init_10 zfF_H_11 rfl (by exact (ap_lt hq1).trans hq) rfl rfl (Nat.le_of_ble_eq_true rfl) ?_
  refine zw_h (h2 := h.set 10 (hisC 0 0) ++ [rfA 6 (fun _ => none)]) (ap_set0 hq1) ?_
  refine zw_iconst (v := 0) dH_init_13 (by decide) ?_
  refine zw_istore_n dH_init_14 (by decide) rfl ?_
  rw [hl] at L0
  exact zw_lk L0 ⟨rfl, rfl, rfl, trivial⟩
theorem c_A_init (hq : h[24]? = some (.inr (6, n0_A))) (hl : h.length = 25) : Run l g mA_init (d + 2) 6 34 [.ref 24, .ref 4] h (PVh (IA h 2 picC)) := by
  have hq1 : 24 < h.length := by omega
  refine run_of (by decide) (Nat.le_of_ble_eq_true rfl) ?_
  have L : ∀ (m i : Nat) (hh : zH), i + m = 2 → IA h i (rfA 2 (pfI picF i)) hh → WW l g mA_init (zrm (d + 2) 6 34) (fun _ => True) (zQQ g (PVh (IA h 2 picC)) (h.length + 6) 6 34) 21 [(0, some (.ref 24)), (1, some (.ref 4)), (2, some (.int (nI i)))] [] hh (2 + 2 * i) (4 + 15 * i) := by
    intro m
    induction m with
    | zero =>
      intro i hh hi I
      have hi : i = 2 := by omega
      subst hi
      obtain ⟨i1, i2, i3, i4, i6, i5⟩ := I
      refine zw_extq picF i4 (fun j hj => by simp only [pfI]; rw [if_pos hj]) ?_
      refine zw_h (h2 := hh.set 25 picC) rfl ?_
      have I2 : IA h 2 picC (hh.set 25 picC) := ⟨by rw [zs_len]; exact i1, fun j hj => (zg_ne (by omega) rfl).trans (i2 j hj), zg_ne (by decide) i3, zg_eq i4, zg_ne (by decide) i6, fun j hj => ⟨zg_ne (by omega) (i5 j hj).1, zg_ne (by omega) (i5 j hj).2⟩⟩
      refine zw_iload_n dA_init_21 rfl ?_
      refine zw_iconst (v := 2) dA_init_22 (by decide) ?_
      refine zw_icmp_ge 46 dA_init_23 (by decide) (fun c_23 => ?_) (fun c_23 => ?_)
      · exact zw_vret dA_init_46 rfl (by rw [zs_len, i1, hl]) ⟨rfl, I2⟩
      · exact absurd (Int32.le_refl _) c_23
    | succ m ih =>
      intro i hh hi I
      obtain ⟨i1, i2, i3, i4, i6, i5⟩ := I
      have ecl : (nI i).toNatClampNeg = i := nI_clamp (by omega)
      have s1 : (hh ++ [.inr (3, n0_S)])[27 + 2 * i]? = some (.inr (3, n0_S)) := by
        have := ap_ge (L := [(.inr (3, n0_S) : zC)]) (j := 0) i1
        exact this
      have s2 : List.length (α := zC) (hh ++ [.inr (3, n0_S)]) = 27 + 2 * i + 1 := by simp [i1]
      have cs := c_S_init (l := l) (g := g) (d := d) s1 s2
      rw [nw_eq i1] at cs
      obtain ⟨h2, hh2⟩ : ∃ h2, h2 = hh ++ [sitC (27 + 2 * i) S00, plC S00] := ⟨_, rfl⟩
      rw [← hh2] at cs
      have k0 : ∀ j, j < 27 + 2 * i → h2[j]? = hh[j]? := fun j hj => by rw [hh2]; exact ap_lt (by omega)
      have k1 : h2[27 + 2 * i]? = some (sitC (27 + 2 * i) S00) := by rw [hh2]; exact ap_ge (j := 0) i1
      have k2 : h2[27 + 2 * i + 1]? = some (plC S00) := by rw [hh2]; exact ap_ge (j := 1) i1
      have k3 : h2[25]? = some (rfA 2 (pfI picF i)) := (k0 25 (by omega)).trans i4
      have k4 : h2.length = 27 + 2 * (i + 1) := by rw [hh2]; simp [i1]; omega
      have I2 : IA h (i + 1) (rfA 2 (pfI picF (i + 1))) (h2.set 25 (rfA 2 (pfI picF (i + 1)))) := by
        refine ⟨by rw [zs_len]; exact k4, fun j hj => ((zg_ne (by omega) rfl).trans (k0 j (by omega))).trans (i2 j hj), (zg_ne (by decide) (k0 24 (by omega))).trans i3, zg_eq k3, (zg_ne (by decide) (k0 26 (by omega))).trans i6, fun j hj => ?_⟩
        by_cases e : j = i
        · subst e
          exact ⟨zg_ne (by omega) k1, zg_ne (by omega) k2⟩
        · exact ⟨zg_ne (by omega) ((k0 _ (by omega)).trans (i5 j (by omega)).1), zg_ne (by omega) ((k0 _ (by omega)).trans (i5 j (by omega)).2)⟩
      refine zw_iload_n dA_init_21 rfl ?_
      refine zw_iconst (v := 2) dA_init_22 (by decide) ?_
      refine zw_icmp_ge 46 dA_init_23 (by decide) (fun c_23 => ?_) (fun c_23 => ?_)
      · exact absurd ((nI_leI (a := 2) (by omega) (by omega)).mp c_23) (by omega)
      · refine zw_aload_n dA_init_26 rfl ?_
        refine zw_get dA_init_27 zf_A_11 i3 rfl ?_
        refine zw_iload_n dA_init_30 rfl ?_
        refine zw_new (ci := 3) (fs := n0_S) dA_init_31 rfl zi_S zy_S zcK_A_9 zin_S zii_S znf_S rfl ⟨by show 2 + 2 * i + 1 ≤ 6; omega, by show 4 + 15 * i + 11 ≤ 34; omega⟩ ?_
        rw [i1]
        refine zw_dup dA_init_34 rfl ?_
        refine zw_aload_n dA_init_35 rfl ?_
        refine zg_I1 dA_init_36 zm_S_init zk_A_21 cs zRR (Nat.le_of_ble_eq_true rfl) ⟨by show 2 + 2 * i + 1 + 1 ≤ 6; omega, by show 4 + 15 * i + 11 + 4 ≤ 34; omega⟩ ?_
        rintro v h' ⟨rfl, e⟩
        rw [e]
        refine zw_aast dA_init_39 k3 k1 (vp_in_nI (show i < 2 by omega) (by decide)) ?_
        rw [ecl, pfI_s picF i (x := some (27 + 2 * i)) rfl]
        refine zw_h (h2 := h2.set 25 (rfA 2 (pfI picF (i + 1)))) rfl ?_
        refine zw_incN dA_init_40 rfl (by decide) rfl ?_
        refine zw_goto 21 dA_init_43 (by decide) ?_
        exact zw_kn (show _ = 2 + 2 * (i + 1) by omega) (show _ = 4 + 15 * (i + 1) by omega) (zw_lk (ih (i + 1) _ (by omega) I2) ⟨rfl, rfl, rfl, trivial⟩)
  have I0 : IA h 0 (rfA 2 (pfI picF 0)) (h.set 24 albC ++ [rfA 2 (fun _ => none), kptC (fun _ => 0)]) := by
    refine ⟨by simp [hl], fun j hj => ?_, ap_get hq1, ?_, ?_, fun j hj => absurd hj (Nat.not_lt_zero _)⟩
    · rw [ap_lt (by rw [zs_len]; omega)]
      exact zg_ne (by omega) rfl
    · have e : pfI picF 0 = fun _ => none := funext fun j => if_neg (Nat.not_lt_zero _)
      rw [e]
      exact ap_ge (h := h.set 24 albC) (n := 25) (j := 0) (by rw [zs_len]; exact hl)
    · exact ap_ge (h := h.set 24 albC) (n := 25) (j := 1) (by rw [zs_len]; exact hl)
  have L0 := L 2 0 _ (by omega) I0
  refine zw_aload_n dA_init_0 rfl ?_
  refine zw_objInit dA_init_1 zk_A_3 zoi_i zoi_c ⟨Nat.succ_le_succ (Nat.zero_le _), by show 38 ≤ 38 * _; omega⟩ (Nat.le_of_ble_eq_true rfl) ?_
  refine zw_aload_n dA_init_4 rfl ?_
  refine zw_iconst (v := 2) dA_init_5 (by decide) ?_
  refine zw_newq (N := 2) dA_init_6 zcK_A_9 (by decide) (by decide) (by decide) ⟨Nat.le_of_ble_eq_true rfl, Nat.le_of_ble_eq_true rfl⟩ ?_
  rw [show (List.length h) = 25 from hl]
  refine zw_putF dA_init_9 zfF_A_11 rfl (by exact (ap_lt hq1).trans hq) rfl rfl (Nat.le_of_ble_eq_true rfl) ?_
  refine zw_h (h2 := h.set 24 (.inr (6, [.ref 25, .null])) ++ [rfA 2 (fun _ => none)]) (ap_set0 hq1) ?_
  refine zw_aload_n dA_init_12 rfl ?_
  refine zw_iconst (v := 2) dA_init_13 (by decide) ?_
  refine zw_newz (N := 2) dA_init_14 zar_boolean (by decide) (by decide) (by decide) ⟨Nat.le_of_ble_eq_true rfl, Nat.le_of_ble_eq_true rfl⟩ ?_
  rw [show List.length (α := zC) (h.set 24 (.inr (6, [.ref 25, .null])) ++ [rfA 2 (fun _ => none)]) = 26 from by simp [hl]]
  refine zw_h (h2 := h.set 24 (.inr (6, [.ref 25, .null])) ++ [rfA 2 (fun _ => none), kptC (fun _ => 0)]) (List.append_assoc _ _ _) ?_
  refine zw_putF dA_init_16 zfF_A_17 rfl (by exact ap_get hq1) rfl rfl (Nat.le_of_ble_eq_true rfl) ?_
  refine zw_h (h2 := h.set 24 albC ++ [rfA 2 (fun _ => none), kptC (fun _ => 0)]) (ap_set hq1) ?_
  refine zw_iconst (v := 0) dA_init_19 (by decide) ?_
  refine zw_istore_n dA_init_20 (by decide) rfl ?_
  rw [hl] at L0
  exact zw_lk L0 ⟨rfl, rfl, rfl, trivial⟩
end C76
