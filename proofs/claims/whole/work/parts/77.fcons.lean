/-! ===== the class's constructor ===== -/
def T00 : Nat → Int32 := upd (upd (fun _ => 0) 0 68) 1 59
def F00 : Fl := (1, 1, 0, fun i => if i = 0 then 6 else 0)
def O00 : Om := oMk F00 S00 T00 2 (fun _ => S00) 0 (fun _ => S00) (fun _ => false)
def O01 : Om := oMk F00 (bgS F00 S00) T00 0 (fun _ => S00) 0 (fun _ => S00) (fun _ => false)
theorem prs00 : prs T00 2 0 pIni = .inr (1, 1, 0, (fun i => if i = 0 then 6 else 0), some 0) := by
  have t0 : T00 0 = 68 := rfl
  have t1 : T00 1 = 59 := rfl
  have k1 : ks 68 = some 6 := by decide
  have a1 : takL pIni 68 = some (0, 0, 1, (fun i => if i = 0 then 6 else 0), some 0) := by
    unfold takL
    rw [if_neg (by decide), k1]
    rfl
  have a2 : takL (0, 0, 1, (fun i => if i = 0 then 6 else 0), some 0) 59 = some (1, 1, 0, (fun i => if i = 0 then 6 else 0), some 0) := by
    unfold takL
    rw [if_pos rfl]
    rfl
  have b1 : prs T00 2 0 pIni = prs T00 1 1 (0, 0, 1, (fun i => if i = 0 then 6 else 0), some 0) := by
    show (if T00 0 = 32 then prs T00 1 1 pIni else match takL pIni (T00 0) with | none => .inl 0 | some P' => prs T00 1 1 P') = _
    rw [if_neg (by rw [t0]; decide), t0, a1]
  have b2 : prs T00 1 1 (0, 0, 1, (fun i => if i = 0 then 6 else 0), some 0) = prs T00 0 2 (1, 1, 0, (fun i => if i = 0 then 6 else 0), some 0) := by
    show (if T00 1 = 32 then prs T00 0 2 (0, 0, 1, (fun i => if i = 0 then 6 else 0), some 0) else match takL (0, 0, 1, (fun i => if i = 0 then 6 else 0), some 0) (T00 1) with | none => .inl 1 | some P' => prs T00 0 2 P') = _
    rw [if_neg (by rw [t1]; decide), t1, a2]
  rw [b1, b2]
  rfl
theorem O01_eq : nFloor O00 = O01 := by
  unfold nFloor
  rw [show prs (oT O00) (oLen O00) 0 pIni = .inr (1, 1, 0, (fun i => if i = 0 then 6 else 0), some 0) from prs00]
  rfl
section C77
variable {l : Launch} {g : zG} {d : Nat} {h : zH}
theorem c_T_add {len : Nat} {x c w ht sg dk : Int32} {lf : Nat → Int32} (hl59 : len < 60) (t1 : h[1]? = some (txC (nI len) c w ht sg dk)) (t2 : h[2]? = some (.inl (0, 60, .inl lf))) : Run l g mT_add d 0 0 [.ref 1, .int x] h (PI 1 ((h.set 2 (.inl (0, 60, .inl (upd lf len x)))).set 1 (txC (nI (len + 1)) c w ht sg dk))) := by
  have ecl : (nI len).toNatClampNeg = len := nI_clamp (by omega)
  refine run_of (by decide) (Nat.le_of_ble_eq_true rfl) ?_
  refine zw_aload_n dT_add_0 rfl ?_
  refine zw_get dT_add_1 zf_T_18 t1 rfl ?_
  refine zw_if_lt 16 dT_add_4 (by decide) (fun c_4 => ?_) (fun c_4 => ?_)
  · exact absurd c_4 (nI_pos (by omega))
  · refine zw_aload_n dT_add_7 rfl ?_
    refine zw_get dT_add_8 zf_T_18 t1 rfl ?_
    refine zw_bipush (v := 60) dT_add_11 (by decide) ?_
    refine zw_icmp_lt 18 dT_add_13 (by decide) (fun c_13 => ?_) (fun c_13 => ?_)
    · refine zw_aload_n dT_add_18 rfl ?_
      refine zw_get dT_add_19 zf_T_9 t1 rfl ?_
      refine zw_aload_n dT_add_22 rfl ?_
      refine zw_get dT_add_23 zf_T_18 t1 rfl ?_
      refine zw_iload_n dT_add_26 rfl ?_
      refine zw_iast dT_add_27 t2 (vp_in_nI hl59 (by decide)) ?_
      rw [ecl]
      refine zw_aload_n dT_add_28 rfl ?_
      refine zw_dup dT_add_29 rfl ?_
      refine zw_get dT_add_30 zf_T_18 (by exact zg_ne (by omega) t1) rfl ?_
      refine zw_iconst (v := 1) dT_add_33 (by decide) ?_
      refine zw_iadd dT_add_34 ?_
      rw [nI_1]
      refine zw_puti dT_add_35 zf_T_18 (by exact zg_ne (by omega) t1) (Nat.le_of_ble_eq_true rfl) ?_
      refine zw_h (h2 := (h.set 2 (.inl (0, 60, .inl (upd lf len x)))).set 1 (txC (nI (len + 1)) c w ht sg dk)) rfl ?_
      refine zw_iconst (v := 1) dT_add_38 (by decide) ?_
      exact zw_iret dT_add_39 rfl rfl (by simp) ⟨rfl, rfl⟩
    · exact absurd (nI_lt (b := 60) hl59 (by decide)) c_13
theorem c_F_init : Run l g mF_init (d + 4) 30 283 [.ref 0] [.inr (0, n0_F)] (PVh (fun h' => CX h' O01 ∧ h'.length = 31)) := by
  refine run_of (by decide) (Nat.le_of_ble_eq_true rfl) ?_
  refine zw_aload_n dF_init_0 rfl ?_
  refine zw_objInit dF_init_1 zk_F_3 zoi_i zoi_c ⟨Nat.succ_le_succ (Nat.zero_le _), by show 38 ≤ 38 * _; omega⟩ (Nat.le_of_ble_eq_true rfl) ?_
  refine zw_aload_n dF_init_4 rfl ?_
  refine zw_new (ci := 1) (fs := n0_T) dF_init_5 rfl zi_T zy_T zcK_F_9 zin_T zii_T znf_T rfl ⟨Nat.le_of_ble_eq_true rfl, Nat.le_of_ble_eq_true rfl⟩ ?_
  refine zw_h (h2 := [.inr (0, n0_F), .inr (1, n0_T)]) rfl ?_
  refine zw_st (st2 := [.ref 1, .ref 0]) rfl ?_
  refine zw_dup dF_init_8 rfl ?_
  refine zg_I0 dF_init_9 zm_T_init zk_F_11 (c_T_init (d := d + 2) rfl rfl) zRR (Nat.le_of_ble_eq_true rfl) ⟨Nat.le_of_ble_eq_true rfl, Nat.le_of_ble_eq_true rfl⟩ ?_
  rintro v h' ⟨rfl, e⟩
  subst e
  refine zw_h (h2 := [.inr (0, n0_F), txC 0 0 0 0 0 0, .inl (0, 60, .inl (fun _ => 0)), .inl (0, 36, .inl (fun _ => 0))]) rfl ?_
  refine zw_putF dF_init_12 zfF_F_12 rfl rfl rfl rfl (Nat.le_of_ble_eq_true rfl) ?_
  refine zw_h (h2 := [.inr (0, [.ref 1, .null, .null, .null, .null, .null, .null]), txC 0 0 0 0 0 0, .inl (0, 60, .inl (fun _ => 0)), .inl (0, 36, .inl (fun _ => 0))]) rfl ?_
  refine zw_aload_n dF_init_15 rfl ?_
  refine zw_new (ci := 2) (fs := n0_G) dF_init_16 rfl zi_G zy_G zcK_F_16 zin_G zii_G znf_G rfl ⟨Nat.le_of_ble_eq_true rfl, Nat.le_of_ble_eq_true rfl⟩ ?_
  refine zw_h (h2 := [.inr (0, [.ref 1, .null, .null, .null, .null, .null, .null]), txC 0 0 0 0 0 0, .inl (0, 60, .inl (fun _ => 0)), .inl (0, 36, .inl (fun _ => 0)), .inr (2, n0_G)]) rfl ?_
  refine zw_st (st2 := [.ref 4, .ref 0]) rfl ?_
  refine zw_dup dF_init_19 rfl ?_
  refine zg_I0 dF_init_20 zm_G_init zk_F_18 (c_G_init (d := d + 2)) zRR (Nat.le_of_ble_eq_true rfl) ⟨Nat.le_of_ble_eq_true rfl, Nat.le_of_ble_eq_true rfl⟩ ?_
  rintro v h' ⟨rfl, e⟩
  subst e
  refine zw_putF dF_init_23 zfF_F_19 rfl rfl rfl rfl (Nat.le_of_ble_eq_true rfl) ?_
  refine zw_h (h2 := [.inr (0, [.ref 1, .ref 4, .null, .null, .null, .null, .null]), txC 0 0 0 0 0 0, .inl (0, 60, .inl (fun _ => 0)), .inl (0, 36, .inl (fun _ => 0)), .inr (2, n0_G)]) rfl ?_
  refine zw_aload_n dF_init_26 rfl ?_
  refine zw_new (ci := 3) (fs := n0_S) dF_init_27 rfl zi_S zy_S zcK_F_23 zin_S zii_S znf_S rfl ⟨Nat.le_of_ble_eq_true rfl, Nat.le_of_ble_eq_true rfl⟩ ?_
  refine zw_h (h2 := [.inr (0, [.ref 1, .ref 4, .null, .null, .null, .null, .null]), txC 0 0 0 0 0 0, .inl (0, 60, .inl (fun _ => 0)), .inl (0, 36, .inl (fun _ => 0)), .inr (2, n0_G), .inr (3, n0_S)]) rfl ?_
  refine zw_st (st2 := [.ref 5, .ref 0]) rfl ?_
  refine zw_dup dF_init_30 rfl ?_
  refine zw_aload_n dF_init_31 rfl ?_
  refine zw_get dF_init_32 zf_F_19 rfl rfl ?_
  refine zg_I1 dF_init_35 zm_S_init zk_F_25 (c_S_init (d := d + 2) rfl rfl) zRR (Nat.le_of_ble_eq_true rfl) ⟨Nat.le_of_ble_eq_true rfl, Nat.le_of_ble_eq_true rfl⟩ ?_
  rintro v h' ⟨rfl, e⟩
  subst e
  refine zw_h (h2 := [.inr (0, [.ref 1, .ref 4, .null, .null, .null, .null, .null]), txC 0 0 0 0 0 0, .inl (0, 60, .inl (fun _ => 0)), .inl (0, 36, .inl (fun _ => 0)), .inr (2, n0_G), sitC 5 S00, plC S00]) rfl ?_
  refine zw_putF dF_init_38 zfF_F_28 rfl rfl rfl rfl (Nat.le_of_ble_eq_true rfl) ?_
  refine zw_h (h2 := [.inr (0, [.ref 1, .ref 4, .ref 5, .null, .null, .null, .null]), txC 0 0 0 0 0 0, .inl (0, 60, .inl (fun _ => 0)), .inl (0, 36, .inl (fun _ => 0)), .inr (2, n0_G), sitC 5 S00, plC S00]) rfl ?_
  refine zw_aload_n dF_init_41 rfl ?_
  refine zw_new (ci := 3) (fs := n0_S) dF_init_42 rfl zi_S zy_S zcK_F_23 zin_S zii_S znf_S rfl ⟨Nat.le_of_ble_eq_true rfl, Nat.le_of_ble_eq_true rfl⟩ ?_
  refine zw_h (h2 := [.inr (0, [.ref 1, .ref 4, .ref 5, .null, .null, .null, .null]), txC 0 0 0 0 0 0, .inl (0, 60, .inl (fun _ => 0)), .inl (0, 36, .inl (fun _ => 0)), .inr (2, n0_G), sitC 5 S00, plC S00, .inr (3, n0_S)]) rfl ?_
  refine zw_st (st2 := [.ref 7, .ref 0]) rfl ?_
  refine zw_dup dF_init_45 rfl ?_
  refine zw_aload_n dF_init_46 rfl ?_
  refine zw_get dF_init_47 zf_F_19 rfl rfl ?_
  refine zg_I1 dF_init_50 zm_S_init zk_F_25 (c_S_init (d := d + 2) rfl rfl) zRR (Nat.le_of_ble_eq_true rfl) ⟨Nat.le_of_ble_eq_true rfl, Nat.le_of_ble_eq_true rfl⟩ ?_
  rintro v h' ⟨rfl, e⟩
  subst e
  refine zw_h (h2 := [.inr (0, [.ref 1, .ref 4, .ref 5, .null, .null, .null, .null]), txC 0 0 0 0 0 0, .inl (0, 60, .inl (fun _ => 0)), .inl (0, 36, .inl (fun _ => 0)), .inr (2, n0_G), sitC 5 S00, plC S00, sitC 7 S00, plC S00]) rfl ?_
  refine zw_putF dF_init_53 zfF_F_32 rfl rfl rfl rfl (Nat.le_of_ble_eq_true rfl) ?_
  refine zw_h (h2 := [.inr (0, [.ref 1, .ref 4, .ref 5, .ref 7, .null, .null, .null]), txC 0 0 0 0 0 0, .inl (0, 60, .inl (fun _ => 0)), .inl (0, 36, .inl (fun _ => 0)), .inr (2, n0_G), sitC 5 S00, plC S00, sitC 7 S00, plC S00]) rfl ?_
  refine zw_aload_n dF_init_56 rfl ?_
  refine zw_new (ci := 4) (fs := n0_P) dF_init_57 rfl zi_P zy_P zcK_F_35 zin_P zii_P znf_P rfl ⟨Nat.le_of_ble_eq_true rfl, Nat.le_of_ble_eq_true rfl⟩ ?_
  refine zw_h (h2 := [.inr (0, [.ref 1, .ref 4, .ref 5, .ref 7, .null, .null, .null]), txC 0 0 0 0 0 0, .inl (0, 60, .inl (fun _ => 0)), .inl (0, 36, .inl (fun _ => 0)), .inr (2, n0_G), sitC 5 S00, plC S00, sitC 7 S00, plC S00, .inr (4, n0_P)]) rfl ?_
  refine zw_st (st2 := [.ref 9, .ref 0]) rfl ?_
  refine zw_dup dF_init_60 rfl ?_
  refine zg_I0 dF_init_61 zm_P_init zk_F_37 (c_P_init (d := d + 2)) zRR (Nat.le_of_ble_eq_true rfl) ⟨Nat.le_of_ble_eq_true rfl, Nat.le_of_ble_eq_true rfl⟩ ?_
  rintro v h' ⟨rfl, e⟩
  subst e
  refine zw_putF dF_init_64 zfF_F_38 rfl rfl rfl rfl (Nat.le_of_ble_eq_true rfl) ?_
  refine zw_h (h2 := [.inr (0, [.ref 1, .ref 4, .ref 5, .ref 7, .ref 9, .null, .null]), txC 0 0 0 0 0 0, .inl (0, 60, .inl (fun _ => 0)), .inl (0, 36, .inl (fun _ => 0)), .inr (2, n0_G), sitC 5 S00, plC S00, sitC 7 S00, plC S00, .inr (4, n0_P)]) rfl ?_
  refine zw_aload_n dF_init_67 rfl ?_
  refine zw_new (ci := 5) (fs := n0_H) dF_init_68 rfl zi_H zy_H zcK_F_42 zin_H zii_H znf_H rfl ⟨Nat.le_of_ble_eq_true rfl, Nat.le_of_ble_eq_true rfl⟩ ?_
  refine zw_h (h2 := [.inr (0, [.ref 1, .ref 4, .ref 5, .ref 7, .ref 9, .null, .null]), txC 0 0 0 0 0 0, .inl (0, 60, .inl (fun _ => 0)), .inl (0, 36, .inl (fun _ => 0)), .inr (2, n0_G), sitC 5 S00, plC S00, sitC 7 S00, plC S00, .inr (4, n0_P), .inr (5, n0_H)]) rfl ?_
  refine zw_st (st2 := [.ref 10, .ref 0]) rfl ?_
  refine zw_dup dF_init_71 rfl ?_
  refine zw_aload_n dF_init_72 rfl ?_
  refine zw_get dF_init_73 zf_F_19 rfl rfl ?_
  refine zg_I1 dF_init_76 zm_H_init zk_F_44 (c_H_init (d := d + 1) rfl rfl) zRR (Nat.le_of_ble_eq_true rfl) ⟨Nat.le_of_ble_eq_true rfl, Nat.le_of_ble_eq_true rfl⟩ ?_
  rintro v hA ⟨rfl, a1, a2, a3, a4, a5⟩
  have a0 := a2 0 (by decide)
  have lA : hA.length = 24 := a1
  refine zw_putF dF_init_79 zfF_F_45 rfl (by exact a0) rfl rfl (Nat.le_of_ble_eq_true rfl) ?_
  refine zw_h (h2 := hA.set 0 (.inr (0, [.ref 1, .ref 4, .ref 5, .ref 7, .ref 9, .ref 10, .null]))) rfl ?_
  have b0 : (hA.set 0 (.inr (0, [.ref 1, .ref 4, .ref 5, .ref 7, .ref 9, .ref 10, .null])))[0]? = some (.inr (0, [.ref 1, .ref 4, .ref 5, .ref 7, .ref 9, .ref 10, .null])) := zg_eq a0
  have bO : ∀ j, j ≠ 0 → (hA.set 0 (.inr (0, [.ref 1, .ref 4, .ref 5, .ref 7, .ref 9, .ref 10, .null])))[j]? = hA[j]? := fun j hj => zg_ne (Ne.symm hj) rfl
  have bl : (hA.set 0 (.inr (0, [.ref 1, .ref 4, .ref 5, .ref 7, .ref 9, .ref 10, .null]))).length = 24 := by rw [zs_len]; exact lA
  generalize hA.set 0 (.inr (0, [.ref 1, .ref 4, .ref 5, .ref 7, .ref 9, .ref 10, .null])) = hB at b0 bO bl
  have d24 : (hB ++ [.inr (6, n0_A)])[24]? = some (.inr (6, n0_A)) := ap_ge (j := 0) bl
  have dl : List.length (α := zC) (hB ++ [.inr (6, n0_A)]) = 25 := by simp [bl]
  have dO : ∀ j, j < 24 → (hB ++ [.inr (6, n0_A)])[j]? = hB[j]? := fun j hj => ap_lt (by omega)
  refine zw_aload_n dF_init_82 rfl ?_
  refine zw_new (ci := 6) (fs := n0_A) dF_init_83 rfl zi_A zy_A zcK_F_49 zin_A zii_A znf_A rfl ⟨Nat.le_of_ble_eq_true rfl, Nat.le_of_ble_eq_true rfl⟩ ?_
  rw [bl]
  refine zw_dup dF_init_86 rfl ?_
  refine zw_aload_n dF_init_87 rfl ?_
  refine zw_get dF_init_88 zf_F_19 (by exact (dO 0 (by decide)).trans b0) rfl ?_
  refine zg_I1 dF_init_91 zm_A_init zk_F_51 (c_A_init (d := d + 1) d24 dl) zRR (Nat.le_of_ble_eq_true rfl) ⟨Nat.le_of_ble_eq_true rfl, Nat.le_of_ble_eq_true rfl⟩ ?_
  rintro v hC ⟨rfl, e1, e2, e3, e4, e6, e5⟩
  have e0 := ((e2 0 (by decide)).trans (dO 0 (by decide))).trans b0
  refine zw_putF dF_init_94 zfF_F_52 rfl (by exact e0) rfl rfl (Nat.le_of_ble_eq_true rfl) ?_
  refine zw_h (h2 := hC.set 0 xC) rfl ?_
  have f0 : (hC.set 0 xC)[0]? = some xC := zg_eq e0
  have fO : ∀ j, j ≠ 0 → (hC.set 0 xC)[j]? = hC[j]? := fun j hj => zg_ne (Ne.symm hj) rfl
  have fl : (hC.set 0 xC).length = 31 := by rw [zs_len]; exact e1
  generalize hC.set 0 xC = hD at f0 fO fl
  have g1 : ∀ j, 0 < j → j < 24 → hD[j]? = hA[j]? := fun j h1 h2 => (((fO j (by omega)).trans (e2 j h2)).trans (dO j h2)).trans (bO j (by omega))
  have g2 : ∀ j, 24 ≤ j → hD[j]? = hC[j]? := fun j hj => fO j (by omega)
  have t1 : hD[1]? = some (txC (nI 0) 0 0 0 0 0) := (g1 1 (by decide) (by decide)).trans (a2 1 (by decide))
  have t2 : hD[2]? = some (.inl (0, 60, .inl (fun _ => 0))) := (g1 2 (by decide) (by decide)).trans (a2 2 (by decide))
  have t3 : hD[3]? = some (.inl (0, 36, .inl (fun _ => 0))) := (g1 3 (by decide) (by decide)).trans (a2 3 (by decide))
  have t4 : hD[4]? = some (.inr (2, n0_G)) := (g1 4 (by decide) (by decide)).trans (a2 4 (by decide))
  have t5 : hD[5]? = some (sitC 5 S00) := (g1 5 (by decide) (by decide)).trans (a2 5 (by decide))
  have t6 : hD[6]? = some (plC S00) := (g1 6 (by decide) (by decide)).trans (a2 6 (by decide))
  have t7 : hD[7]? = some (sitC 7 S00) := (g1 7 (by decide) (by decide)).trans (a2 7 (by decide))
  have t8 : hD[8]? = some (plC S00) := (g1 8 (by decide) (by decide)).trans (a2 8 (by decide))
  have t9 : hD[9]? = some (.inr (4, n0_P)) := (g1 9 (by decide) (by decide)).trans (a2 9 (by decide))
  have cA := c_T_add (l := l) (g := g) (d := d + 3) (x := 68) (by decide) t1 t2
  obtain ⟨hE, hhE⟩ : ∃ hE, hE = (hD.set 2 (.inl (0, 60, .inl (upd (fun _ => 0) 0 68)))).set 1 (txC (nI (0 + 1)) 0 0 0 0 0) := ⟨_, rfl⟩
  rw [← hhE] at cA
  have u1 : hE[1]? = some (txC (nI 1) 0 0 0 0 0) := by rw [hhE]; exact zg_eq (zg_ne (by decide) t1)
  have u2 : hE[2]? = some (.inl (0, 60, .inl (upd (fun _ => 0) 0 68))) := by rw [hhE]; exact zg_ne (by decide) (zg_eq t2)
  have uO : ∀ j, j ≠ 1 → j ≠ 2 → hE[j]? = hD[j]? := fun j q1 q2 => by rw [hhE]; exact zg_ne (Ne.symm q1) (zg_ne (Ne.symm q2) rfl)
  have ul : hE.length = 31 := by rw [hhE, zs_len, zs_len]; exact fl
  have cB := c_T_add (l := l) (g := g) (d := d + 3) (x := 59) (by decide) u1 u2
  obtain ⟨hF, hhF⟩ : ∃ hF, hF = (hE.set 2 (.inl (0, 60, .inl (upd (upd (fun _ => 0) 0 68) 1 59)))).set 1 (txC (nI (1 + 1)) 0 0 0 0 0) := ⟨_, rfl⟩
  rw [← hhF] at cB
  have w1 : hF[1]? = some (txC (nI 2) 0 0 0 0 0) := by rw [hhF]; exact zg_eq (zg_ne (by decide) u1)
  have w2 : hF[2]? = some (.inl (0, 60, .inl T00)) := by rw [hhF]; exact zg_ne (by decide) (zg_eq u2)
  have wO : ∀ j, j ≠ 1 → j ≠ 2 → hF[j]? = hD[j]? := fun j q1 q2 => by rw [hhF]; exact (zg_ne (Ne.symm q1) (zg_ne (Ne.symm q2) rfl)).trans (uO j q1 q2)
  have wl : hF.length = 31 := by rw [hhF, zs_len, zs_len]; exact ul
  have cR := c_F_readText (l := l) (g := g) (d := d) (h := hF) (O := O00) ((wO 0 (by decide) (by decide)).trans f0) (by decide) ⟨_, _, _, _, _, T00, _, w1, w2, (wO 3 (by decide) (by decide)).trans t3, fun i _ => rfl⟩ (a := 0) (b := 0) (c := 0) (d0 := 0) (d1 := 0) (d2 := 0) (d3 := 0) (d4 := 0) (d5 := 0) (d6 := 0) ((wO 4 (by decide) (by decide)).trans t4) (fun f hf => by
    rw [show prs (oT O00) (oLen O00) 0 pIni = .inr (1, 1, 0, (fun i => if i = 0 then 6 else 0), some 0) from prs00] at hf
    cases hf) ((wO 5 (by decide) (by decide)).trans t5) ((wO 6 (by decide) (by decide)).trans t6) ⟨S00, (wO 7 (by decide) (by decide)).trans t7, (wO 8 (by decide) (by decide)).trans t8⟩ ⟨0, 0, 0, 0, (wO 9 (by decide) (by decide)).trans t9⟩ ⟨0, fun _ => S00, by decide, ((wO 10 (by decide) (by decide)).trans (g1 10 (by decide) (by decide))).trans a3, ((wO 11 (by decide) (by decide)).trans (g1 11 (by decide) (by decide))).trans a4, fun i hi => ⟨((wO _ (by omega) (by omega)).trans (g1 _ (by omega) (by omega))).trans (a5 i hi).1, ((wO _ (by omega) (by omega)).trans (g1 _ (by omega) (by omega))).trans (a5 i hi).2⟩, fun j hj => absurd hj (Nat.not_lt_zero _)⟩ ⟨((wO 24 (by decide) (by decide)).trans (g2 24 (by decide))).trans e3, ((wO 25 (by decide) (by decide)).trans (g2 25 (by decide))).trans e4, ⟨fun _ => 0, ((wO 26 (by decide) (by decide)).trans (g2 26 (by decide))).trans e6, fun i _ => rfl⟩, fun i hi => ⟨S00, ((wO _ (by omega) (by omega)).trans (g2 _ (by omega))).trans (e5 i hi).1, ((wO _ (by omega) (by omega)).trans (g2 _ (by omega))).trans (e5 i hi).2, fun q => absurd q Bool.false_ne_true⟩⟩
  rw [O01_eq] at cR
  refine zw_aload_n dF_init_97 rfl ?_
  refine zw_get dF_init_98 zf_F_12 f0 rfl ?_
  refine zw_bipush (v := 68) dF_init_101 (by decide) ?_
  refine zc_V1I dF_init_103 zm_T_add zk_F_56 t1 rfl cA ?_ zRR (Nat.le_of_ble_eq_true rfl) ⟨Nat.le_of_ble_eq_true rfl, Nat.le_of_ble_eq_true rfl⟩
  refine zw_pop dF_init_106 rfl ?_
  refine zw_aload_n dF_init_107 rfl ?_
  refine zw_get dF_init_108 zf_F_12 (by exact (uO 0 (by decide) (by decide)).trans f0) rfl ?_
  refine zw_bipush (v := 59) dF_init_111 (by decide) ?_
  refine zc_V1I dF_init_113 zm_T_add zk_F_56 u1 rfl cB ?_ zRR (Nat.le_of_ble_eq_true rfl) ⟨Nat.le_of_ble_eq_true rfl, Nat.le_of_ble_eq_true rfl⟩
  refine zw_pop dF_init_116 rfl ?_
  refine zw_aload_n dF_init_117 rfl ?_
  refine zx_V0I dF_init_118 zm_F_readText zk_F_60 (by exact (wO 0 (by decide) (by decide)).trans f0) rfl cR zRR (Nat.le_of_ble_eq_true rfl) ⟨Nat.le_of_ble_eq_true rfl, Nat.le_of_ble_eq_true rfl⟩ ?_
  rintro h' ⟨p1, p2, p3⟩
  refine zw_pop dF_init_121 rfl ?_
  exact zw_vret dF_init_122 rfl (by rw [p3, wl]; rfl) ⟨rfl, p1, by rw [p3, wl]⟩
end C77
