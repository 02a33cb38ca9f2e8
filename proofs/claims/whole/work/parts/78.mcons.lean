/-! ===== the reference's constructor ===== -/
theorem F00_ok : fOK F00 := by
  refine ⟨⟨by decide, by decide⟩, ⟨by decide, by decide⟩, by decide, fun i hi => ?_⟩
  have hi2 : i < 1 := hi
  have e : i = 0 := by omega
  subst e
  exact ⟨Or.inr rfl, ⟨fun _ => rfl, fun _ => rfl⟩⟩
section C78
variable {l : Launch} {g : zG} {d : Nat} {h : zH}
theorem c_M_init (hq : h[31]? = some (.inr (7, n0_M))) (hl : h.length = 32) : Run l g mM_init (d + 2) 12 1418 [.ref 31] h (PVh (fun h' => MX h' O01 ∧ (∀ j, j < 31 → h'[j]? = h[j]?) ∧ h'.length = 44)) := by
  have hq1 : 31 < h.length := by omega
  refine run_of (by decide) (Nat.le_of_ble_eq_true rfl) ?_
  rw [hl]
  refine zw_aload_n dM_init_0 rfl ?_
  refine zw_objInit dM_init_1 zk_M_1 zoi_i zoi_c ⟨Nat.succ_le_succ (Nat.zero_le _), by show 38 ≤ 38 * _; omega⟩ (Nat.le_of_ble_eq_true rfl) ?_
  refine zw_aload_n dM_init_4 rfl ?_
  refine zw_iconst (v := 1) dM_init_5 (by decide) ?_
  refine zw_puti dM_init_6 zf_M_7 hq (Nat.le_of_ble_eq_true rfl) ?_
  refine zw_h (h2 := h.set 31 (.inr (7, [.int 1, .int 0, .int 0, .null, .int 0, .null, .null, .null, .null, .int 0, .null, .null, .int 0, .int 0, .int 0, .int 0, .null, .null, .null, .null, .int 0, .int 0, .int 0, .int 0, .null]))) rfl ?_
  refine zw_aload_n dM_init_9 rfl ?_
  refine zw_iconst (v := 1) dM_init_10 (by decide) ?_
  refine zw_puti dM_init_11 zf_M_13 (by exact zg_eq hq) (Nat.le_of_ble_eq_true rfl) ?_
  refine zw_h (h2 := h.set 31 (.inr (7, [.int 1, .int 1, .int 0, .null, .int 0, .null, .null, .null, .null, .int 0, .null, .null, .int 0, .int 0, .int 0, .int 0, .null, .null, .null, .null, .int 0, .int 0, .int 0, .int 0, .null]))) (zs_set _ _ _ _) ?_
  refine zw_aload_n dM_init_14 rfl ?_
  refine zw_bipush (v := 114) dM_init_15 (by decide) ?_
  refine zw_newi (N := 114) dM_init_17 zar_int (by decide) (by decide) (by decide) ⟨Nat.le_of_ble_eq_true rfl, Nat.le_of_ble_eq_true rfl⟩ ?_
  rw [show List.length (α := zC) (h.set 31 (.inr (7, [.int 1, .int 1, .int 0, .null, .int 0, .null, .null, .null, .null, .int 0, .null, .null, .int 0, .int 0, .int 0, .int 0, .null, .null, .null, .null, .int 0, .int 0, .int 0, .int 0, .null]))) = 32 from by rw [zs_len]; exact hl]
  refine zw_h (h2 := h.set 31 (.inr (7, [.int 1, .int 1, .int 0, .null, .int 0, .null, .null, .null, .null, .int 0, .null, .null, .int 0, .int 0, .int 0, .int 0, .null, .null, .null, .null, .int 0, .int 0, .int 0, .int 0, .null])) ++ [iA 114 (fun _ => 0)]) rfl ?_
  refine zw_putF dM_init_19 zfF_M_16 rfl (by exact ap_get hq1) rfl rfl (Nat.le_of_ble_eq_true rfl) ?_
  refine zw_h (h2 := h.set 31 (.inr (7, [.int 1, .int 1, .int 0, .ref 32, .int 0, .null, .null, .null, .null, .int 0, .null, .null, .int 0, .int 0, .int 0, .int 0, .null, .null, .null, .null, .int 0, .int 0, .int 0, .int 0, .null])) ++ [iA 114 (fun _ => 0)]) (ap_set hq1) ?_
  refine zw_aload_n dM_init_22 rfl ?_
  refine zw_sipush (v := 684) dM_init_23 (by decide) ?_
  refine zw_newi (N := 684) dM_init_26 zar_int (by decide) (by decide) (by decide) ⟨Nat.le_of_ble_eq_true rfl, Nat.le_of_ble_eq_true rfl⟩ ?_
  rw [show List.length (α := zC) (h.set 31 (.inr (7, [.int 1, .int 1, .int 0, .ref 32, .int 0, .null, .null, .null, .null, .int 0, .null, .null, .int 0, .int 0, .int 0, .int 0, .null, .null, .null, .null, .int 0, .int 0, .int 0, .int 0, .null])) ++ [iA 114 (fun _ => 0)]) = 33 from by rw [List.length_append, zs_len, hl]; rfl]
  refine zw_h (h2 := h.set 31 (.inr (7, [.int 1, .int 1, .int 0, .ref 32, .int 0, .null, .null, .null, .null, .int 0, .null, .null, .int 0, .int 0, .int 0, .int 0, .null, .null, .null, .null, .int 0, .int 0, .int 0, .int 0, .null])) ++ [iA 114 (fun _ => 0), iA 684 (fun _ => 0)]) (List.append_assoc _ _ _) ?_
  refine zw_putF dM_init_28 zfF_M_20 rfl (by exact ap_get hq1) rfl rfl (Nat.le_of_ble_eq_true rfl) ?_
  refine zw_h (h2 := h.set 31 (.inr (7, [.int 1, .int 1, .int 0, .ref 32, .int 0, .ref 33, .null, .null, .null, .int 0, .null, .null, .int 0, .int 0, .int 0, .int 0, .null, .null, .null, .null, .int 0, .int 0, .int 0, .int 0, .null])) ++ [iA 114 (fun _ => 0), iA 684 (fun _ => 0)]) (ap_set hq1) ?_
  refine zw_aload_n dM_init_31 rfl ?_
  refine zw_iconst (v := 2) dM_init_32 (by decide) ?_
  refine zw_newz (N := 2) dM_init_33 zar_boolean (by decide) (by decide) (by decide) ⟨Nat.le_of_ble_eq_true rfl, Nat.le_of_ble_eq_true rfl⟩ ?_
  rw [show List.length (α := zC) (h.set 31 (.inr (7, [.int 1, .int 1, .int 0, .ref 32, .int 0, .ref 33, .null, .null, .null, .int 0, .null, .null, .int 0, .int 0, .int 0, .int 0, .null, .null, .null, .null, .int 0, .int 0, .int 0, .int 0, .null])) ++ [iA 114 (fun _ => 0), iA 684 (fun _ => 0)]) = 34 from by rw [List.length_append, zs_len, hl]; rfl]
  refine zw_h (h2 := h.set 31 (.inr (7, [.int 1, .int 1, .int 0, .ref 32, .int 0, .ref 33, .null, .null, .null, .int 0, .null, .null, .int 0, .int 0, .int 0, .int 0, .null, .null, .null, .null, .int 0, .int 0, .int 0, .int 0, .null])) ++ [iA 114 (fun _ => 0), iA 684 (fun _ => 0), bA (fun _ => 0)]) (List.append_assoc _ _ _) ?_
  refine zw_putF dM_init_35 zfF_M_23 rfl (by exact ap_get hq1) rfl rfl (Nat.le_of_ble_eq_true rfl) ?_
  refine zw_h (h2 := h.set 31 (.inr (7, [.int 1, .int 1, .int 0, .ref 32, .int 0, .ref 33, .ref 34, .null, .null, .int 0, .null, .null, .int 0, .int 0, .int 0, .int 0, .null, .null, .null, .null, .int 0, .int 0, .int 0, .int 0, .null])) ++ [iA 114 (fun _ => 0), iA 684 (fun _ => 0), bA (fun _ => 0)]) (ap_set hq1) ?_
  refine zw_aload_n dM_init_38 rfl ?_
  refine zw_sipush (v := 228) dM_init_39 (by decide) ?_
  refine zw_newi (N := 228) dM_init_42 zar_int (by decide) (by decide) (by decide) ⟨Nat.le_of_ble_eq_true rfl, Nat.le_of_ble_eq_true rfl⟩ ?_
  rw [show List.length (α := zC) (h.set 31 (.inr (7, [.int 1, .int 1, .int 0, .ref 32, .int 0, .ref 33, .ref 34, .null, .null, .int 0, .null, .null, .int 0, .int 0, .int 0, .int 0, .null, .null, .null, .null, .int 0, .int 0, .int 0, .int 0, .null])) ++ [iA 114 (fun _ => 0), iA 684 (fun _ => 0), bA (fun _ => 0)]) = 35 from by rw [List.length_append, zs_len, hl]; rfl]
  refine zw_h (h2 := h.set 31 (.inr (7, [.int 1, .int 1, .int 0, .ref 32, .int 0, .ref 33, .ref 34, .null, .null, .int 0, .null, .null, .int 0, .int 0, .int 0, .int 0, .null, .null, .null, .null, .int 0, .int 0, .int 0, .int 0, .null])) ++ [iA 114 (fun _ => 0), iA 684 (fun _ => 0), bA (fun _ => 0), iA 228 (fun _ => 0)]) (List.append_assoc _ _ _) ?_
  refine zw_putF dM_init_44 zfF_M_27 rfl (by exact ap_get hq1) rfl rfl (Nat.le_of_ble_eq_true rfl) ?_
  refine zw_h (h2 := h.set 31 (.inr (7, [.int 1, .int 1, .int 0, .ref 32, .int 0, .ref 33, .ref 34, .ref 35, .null, .int 0, .null, .null, .int 0, .int 0, .int 0, .int 0, .null, .null, .null, .null, .int 0, .int 0, .int 0, .int 0, .null])) ++ [iA 114 (fun _ => 0), iA 684 (fun _ => 0), bA (fun _ => 0), iA 228 (fun _ => 0)]) (ap_set hq1) ?_
  refine zw_aload_n dM_init_47 rfl ?_
  refine zw_bipush (v := 114) dM_init_48 (by decide) ?_
  refine zw_newi (N := 114) dM_init_50 zar_int (by decide) (by decide) (by decide) ⟨Nat.le_of_ble_eq_true rfl, Nat.le_of_ble_eq_true rfl⟩ ?_
  rw [show List.length (α := zC) (h.set 31 (.inr (7, [.int 1, .int 1, .int 0, .ref 32, .int 0, .ref 33, .ref 34, .ref 35, .null, .int 0, .null, .null, .int 0, .int 0, .int 0, .int 0, .null, .null, .null, .null, .int 0, .int 0, .int 0, .int 0, .null])) ++ [iA 114 (fun _ => 0), iA 684 (fun _ => 0), bA (fun _ => 0), iA 228 (fun _ => 0)]) = 36 from by rw [List.length_append, zs_len, hl]; rfl]
  refine zw_h (h2 := h.set 31 (.inr (7, [.int 1, .int 1, .int 0, .ref 32, .int 0, .ref 33, .ref 34, .ref 35, .null, .int 0, .null, .null, .int 0, .int 0, .int 0, .int 0, .null, .null, .null, .null, .int 0, .int 0, .int 0, .int 0, .null])) ++ [iA 114 (fun _ => 0), iA 684 (fun _ => 0), bA (fun _ => 0), iA 228 (fun _ => 0), iA 114 (fun _ => 0)]) (List.append_assoc _ _ _) ?_
  refine zw_putF dM_init_52 zfF_M_30 rfl (by exact ap_get hq1) rfl rfl (Nat.le_of_ble_eq_true rfl) ?_
  refine zw_h (h2 := h.set 31 (.inr (7, [.int 1, .int 1, .int 0, .ref 32, .int 0, .ref 33, .ref 34, .ref 35, .ref 36, .int 0, .null, .null, .int 0, .int 0, .int 0, .int 0, .null, .null, .null, .null, .int 0, .int 0, .int 0, .int 0, .null])) ++ [iA 114 (fun _ => 0), iA 684 (fun _ => 0), bA (fun _ => 0), iA 228 (fun _ => 0), iA 114 (fun _ => 0)]) (ap_set hq1) ?_
  refine zw_aload_n dM_init_55 rfl ?_
  refine zw_bipush (v := 60) dM_init_56 (by decide) ?_
  refine zw_newi (N := 60) dM_init_58 zar_int (by decide) (by decide) (by decide) ⟨Nat.le_of_ble_eq_true rfl, Nat.le_of_ble_eq_true rfl⟩ ?_
  rw [show List.length (α := zC) (h.set 31 (.inr (7, [.int 1, .int 1, .int 0, .ref 32, .int 0, .ref 33, .ref 34, .ref 35, .ref 36, .int 0, .null, .null, .int 0, .int 0, .int 0, .int 0, .null, .null, .null, .null, .int 0, .int 0, .int 0, .int 0, .null])) ++ [iA 114 (fun _ => 0), iA 684 (fun _ => 0), bA (fun _ => 0), iA 228 (fun _ => 0), iA 114 (fun _ => 0)]) = 37 from by rw [List.length_append, zs_len, hl]; rfl]
  refine zw_h (h2 := h.set 31 (.inr (7, [.int 1, .int 1, .int 0, .ref 32, .int 0, .ref 33, .ref 34, .ref 35, .ref 36, .int 0, .null, .null, .int 0, .int 0, .int 0, .int 0, .null, .null, .null, .null, .int 0, .int 0, .int 0, .int 0, .null])) ++ [iA 114 (fun _ => 0), iA 684 (fun _ => 0), bA (fun _ => 0), iA 228 (fun _ => 0), iA 114 (fun _ => 0), iA 60 (fun _ => 0)]) (List.append_assoc _ _ _) ?_
  refine zw_putF dM_init_60 zfF_M_33 rfl (by exact ap_get hq1) rfl rfl (Nat.le_of_ble_eq_true rfl) ?_
  refine zw_h (h2 := h.set 31 (.inr (7, [.int 1, .int 1, .int 0, .ref 32, .int 0, .ref 33, .ref 34, .ref 35, .ref 36, .int 0, .ref 37, .null, .int 0, .int 0, .int 0, .int 0, .null, .null, .null, .null, .int 0, .int 0, .int 0, .int 0, .null])) ++ [iA 114 (fun _ => 0), iA 684 (fun _ => 0), bA (fun _ => 0), iA 228 (fun _ => 0), iA 114 (fun _ => 0), iA 60 (fun _ => 0)]) (ap_set hq1) ?_
  refine zw_aload_n dM_init_63 rfl ?_
  refine zw_bipush (v := 36) dM_init_64 (by decide) ?_
  refine zw_newi (N := 36) dM_init_66 zar_int (by decide) (by decide) (by decide) ⟨Nat.le_of_ble_eq_true rfl, Nat.le_of_ble_eq_true rfl⟩ ?_
  rw [show List.length (α := zC) (h.set 31 (.inr (7, [.int 1, .int 1, .int 0, .ref 32, .int 0, .ref 33, .ref 34, .ref 35, .ref 36, .int 0, .ref 37, .null, .int 0, .int 0, .int 0, .int 0, .null, .null, .null, .null, .int 0, .int 0, .int 0, .int 0, .null])) ++ [iA 114 (fun _ => 0), iA 684 (fun _ => 0), bA (fun _ => 0), iA 228 (fun _ => 0), iA 114 (fun _ => 0), iA 60 (fun _ => 0)]) = 38 from by rw [List.length_append, zs_len, hl]; rfl]
  refine zw_h (h2 := h.set 31 (.inr (7, [.int 1, .int 1, .int 0, .ref 32, .int 0, .ref 33, .ref 34, .ref 35, .ref 36, .int 0, .ref 37, .null, .int 0, .int 0, .int 0, .int 0, .null, .null, .null, .null, .int 0, .int 0, .int 0, .int 0, .null])) ++ [iA 114 (fun _ => 0), iA 684 (fun _ => 0), bA (fun _ => 0), iA 228 (fun _ => 0), iA 114 (fun _ => 0), iA 60 (fun _ => 0), iA 36 (fun _ => 0)]) (List.append_assoc _ _ _) ?_
  refine zw_putF dM_init_68 zfF_M_36 rfl (by exact ap_get hq1) rfl rfl (Nat.le_of_ble_eq_true rfl) ?_
  refine zw_h (h2 := h.set 31 (.inr (7, [.int 1, .int 1, .int 0, .ref 32, .int 0, .ref 33, .ref 34, .ref 35, .ref 36, .int 0, .ref 37, .ref 38, .int 0, .int 0, .int 0, .int 0, .null, .null, .null, .null, .int 0, .int 0, .int 0, .int 0, .null])) ++ [iA 114 (fun _ => 0), iA 684 (fun _ => 0), bA (fun _ => 0), iA 228 (fun _ => 0), iA 114 (fun _ => 0), iA 60 (fun _ => 0), iA 36 (fun _ => 0)]) (ap_set hq1) ?_
  refine zw_aload_n dM_init_71 rfl ?_
  refine zw_bipush (v := 36) dM_init_72 (by decide) ?_
  refine zw_newi (N := 36) dM_init_74 zar_int (by decide) (by decide) (by decide) ⟨Nat.le_of_ble_eq_true rfl, Nat.le_of_ble_eq_true rfl⟩ ?_
  rw [show List.length (α := zC) (h.set 31 (.inr (7, [.int 1, .int 1, .int 0, .ref 32, .int 0, .ref 33, .ref 34, .ref 35, .ref 36, .int 0, .ref 37, .ref 38, .int 0, .int 0, .int 0, .int 0, .null, .null, .null, .null, .int 0, .int 0, .int 0, .int 0, .null])) ++ [iA 114 (fun _ => 0), iA 684 (fun _ => 0), bA (fun _ => 0), iA 228 (fun _ => 0), iA 114 (fun _ => 0), iA 60 (fun _ => 0), iA 36 (fun _ => 0)]) = 39 from by rw [List.length_append, zs_len, hl]; rfl]
  refine zw_h (h2 := h.set 31 (.inr (7, [.int 1, .int 1, .int 0, .ref 32, .int 0, .ref 33, .ref 34, .ref 35, .ref 36, .int 0, .ref 37, .ref 38, .int 0, .int 0, .int 0, .int 0, .null, .null, .null, .null, .int 0, .int 0, .int 0, .int 0, .null])) ++ [iA 114 (fun _ => 0), iA 684 (fun _ => 0), bA (fun _ => 0), iA 228 (fun _ => 0), iA 114 (fun _ => 0), iA 60 (fun _ => 0), iA 36 (fun _ => 0), iA 36 (fun _ => 0)]) (List.append_assoc _ _ _) ?_
  refine zw_putF dM_init_76 zfF_M_39 rfl (by exact ap_get hq1) rfl rfl (Nat.le_of_ble_eq_true rfl) ?_
  refine zw_h (h2 := h.set 31 (.inr (7, [.int 1, .int 1, .int 0, .ref 32, .int 0, .ref 33, .ref 34, .ref 35, .ref 36, .int 0, .ref 37, .ref 38, .int 0, .int 0, .int 0, .int 0, .ref 39, .null, .null, .null, .int 0, .int 0, .int 0, .int 0, .null])) ++ [iA 114 (fun _ => 0), iA 684 (fun _ => 0), bA (fun _ => 0), iA 228 (fun _ => 0), iA 114 (fun _ => 0), iA 60 (fun _ => 0), iA 36 (fun _ => 0), iA 36 (fun _ => 0)]) (ap_set hq1) ?_
  refine zw_aload_n dM_init_79 rfl ?_
  refine zw_bipush (v := 36) dM_init_80 (by decide) ?_
  refine zw_newi (N := 36) dM_init_82 zar_int (by decide) (by decide) (by decide) ⟨Nat.le_of_ble_eq_true rfl, Nat.le_of_ble_eq_true rfl⟩ ?_
  rw [show List.length (α := zC) (h.set 31 (.inr (7, [.int 1, .int 1, .int 0, .ref 32, .int 0, .ref 33, .ref 34, .ref 35, .ref 36, .int 0, .ref 37, .ref 38, .int 0, .int 0, .int 0, .int 0, .ref 39, .null, .null, .null, .int 0, .int 0, .int 0, .int 0, .null])) ++ [iA 114 (fun _ => 0), iA 684 (fun _ => 0), bA (fun _ => 0), iA 228 (fun _ => 0), iA 114 (fun _ => 0), iA 60 (fun _ => 0), iA 36 (fun _ => 0), iA 36 (fun _ => 0)]) = 40 from by rw [List.length_append, zs_len, hl]; rfl]
  refine zw_h (h2 := h.set 31 (.inr (7, [.int 1, .int 1, .int 0, .ref 32, .int 0, .ref 33, .ref 34, .ref 35, .ref 36, .int 0, .ref 37, .ref 38, .int 0, .int 0, .int 0, .int 0, .ref 39, .null, .null, .null, .int 0, .int 0, .int 0, .int 0, .null])) ++ [iA 114 (fun _ => 0), iA 684 (fun _ => 0), bA (fun _ => 0), iA 228 (fun _ => 0), iA 114 (fun _ => 0), iA 60 (fun _ => 0), iA 36 (fun _ => 0), iA 36 (fun _ => 0), iA 36 (fun _ => 0)]) (List.append_assoc _ _ _) ?_
  refine zw_putF dM_init_84 zfF_M_42 rfl (by exact ap_get hq1) rfl rfl (Nat.le_of_ble_eq_true rfl) ?_
  refine zw_h (h2 := h.set 31 (.inr (7, [.int 1, .int 1, .int 0, .ref 32, .int 0, .ref 33, .ref 34, .ref 35, .ref 36, .int 0, .ref 37, .ref 38, .int 0, .int 0, .int 0, .int 0, .ref 39, .ref 40, .null, .null, .int 0, .int 0, .int 0, .int 0, .null])) ++ [iA 114 (fun _ => 0), iA 684 (fun _ => 0), bA (fun _ => 0), iA 228 (fun _ => 0), iA 114 (fun _ => 0), iA 60 (fun _ => 0), iA 36 (fun _ => 0), iA 36 (fun _ => 0), iA 36 (fun _ => 0)]) (ap_set hq1) ?_
  refine zw_aload_n dM_init_87 rfl ?_
  refine zw_bipush (v := 36) dM_init_88 (by decide) ?_
  refine zw_newi (N := 36) dM_init_90 zar_int (by decide) (by decide) (by decide) ⟨Nat.le_of_ble_eq_true rfl, Nat.le_of_ble_eq_true rfl⟩ ?_
  rw [show List.length (α := zC) (h.set 31 (.inr (7, [.int 1, .int 1, .int 0, .ref 32, .int 0, .ref 33, .ref 34, .ref 35, .ref 36, .int 0, .ref 37, .ref 38, .int 0, .int 0, .int 0, .int 0, .ref 39, .ref 40, .null, .null, .int 0, .int 0, .int 0, .int 0, .null])) ++ [iA 114 (fun _ => 0), iA 684 (fun _ => 0), bA (fun _ => 0), iA 228 (fun _ => 0), iA 114 (fun _ => 0), iA 60 (fun _ => 0), iA 36 (fun _ => 0), iA 36 (fun _ => 0), iA 36 (fun _ => 0)]) = 41 from by rw [List.length_append, zs_len, hl]; rfl]
  refine zw_h (h2 := h.set 31 (.inr (7, [.int 1, .int 1, .int 0, .ref 32, .int 0, .ref 33, .ref 34, .ref 35, .ref 36, .int 0, .ref 37, .ref 38, .int 0, .int 0, .int 0, .int 0, .ref 39, .ref 40, .null, .null, .int 0, .int 0, .int 0, .int 0, .null])) ++ [iA 114 (fun _ => 0), iA 684 (fun _ => 0), bA (fun _ => 0), iA 228 (fun _ => 0), iA 114 (fun _ => 0), iA 60 (fun _ => 0), iA 36 (fun _ => 0), iA 36 (fun _ => 0), iA 36 (fun _ => 0), iA 36 (fun _ => 0)]) (List.append_assoc _ _ _) ?_
  refine zw_putF dM_init_92 zfF_M_45 rfl (by exact ap_get hq1) rfl rfl (Nat.le_of_ble_eq_true rfl) ?_
  refine zw_h (h2 := h.set 31 (.inr (7, [.int 1, .int 1, .int 0, .ref 32, .int 0, .ref 33, .ref 34, .ref 35, .ref 36, .int 0, .ref 37, .ref 38, .int 0, .int 0, .int 0, .int 0, .ref 39, .ref 40, .ref 41, .null, .int 0, .int 0, .int 0, .int 0, .null])) ++ [iA 114 (fun _ => 0), iA 684 (fun _ => 0), bA (fun _ => 0), iA 228 (fun _ => 0), iA 114 (fun _ => 0), iA 60 (fun _ => 0), iA 36 (fun _ => 0), iA 36 (fun _ => 0), iA 36 (fun _ => 0), iA 36 (fun _ => 0)]) (ap_set hq1) ?_
  refine zw_aload_n dM_init_95 rfl ?_
  refine zw_bipush (v := 36) dM_init_96 (by decide) ?_
  refine zw_newi (N := 36) dM_init_98 zar_int (by decide) (by decide) (by decide) ⟨Nat.le_of_ble_eq_true rfl, Nat.le_of_ble_eq_true rfl⟩ ?_
  rw [show List.length (α := zC) (h.set 31 (.inr (7, [.int 1, .int 1, .int 0, .ref 32, .int 0, .ref 33, .ref 34, .ref 35, .ref 36, .int 0, .ref 37, .ref 38, .int 0, .int 0, .int 0, .int 0, .ref 39, .ref 40, .ref 41, .null, .int 0, .int 0, .int 0, .int 0, .null])) ++ [iA 114 (fun _ => 0), iA 684 (fun _ => 0), bA (fun _ => 0), iA 228 (fun _ => 0), iA 114 (fun _ => 0), iA 60 (fun _ => 0), iA 36 (fun _ => 0), iA 36 (fun _ => 0), iA 36 (fun _ => 0), iA 36 (fun _ => 0)]) = 42 from by rw [List.length_append, zs_len, hl]; rfl]
  refine zw_h (h2 := h.set 31 (.inr (7, [.int 1, .int 1, .int 0, .ref 32, .int 0, .ref 33, .ref 34, .ref 35, .ref 36, .int 0, .ref 37, .ref 38, .int 0, .int 0, .int 0, .int 0, .ref 39, .ref 40, .ref 41, .null, .int 0, .int 0, .int 0, .int 0, .null])) ++ [iA 114 (fun _ => 0), iA 684 (fun _ => 0), bA (fun _ => 0), iA 228 (fun _ => 0), iA 114 (fun _ => 0), iA 60 (fun _ => 0), iA 36 (fun _ => 0), iA 36 (fun _ => 0), iA 36 (fun _ => 0), iA 36 (fun _ => 0), iA 36 (fun _ => 0)]) (List.append_assoc _ _ _) ?_
  refine zw_putF dM_init_100 zfF_M_48 rfl (by exact ap_get hq1) rfl rfl (Nat.le_of_ble_eq_true rfl) ?_
  refine zw_h (h2 := h.set 31 (.inr (7, [.int 1, .int 1, .int 0, .ref 32, .int 0, .ref 33, .ref 34, .ref 35, .ref 36, .int 0, .ref 37, .ref 38, .int 0, .int 0, .int 0, .int 0, .ref 39, .ref 40, .ref 41, .ref 42, .int 0, .int 0, .int 0, .int 0, .null])) ++ [iA 114 (fun _ => 0), iA 684 (fun _ => 0), bA (fun _ => 0), iA 228 (fun _ => 0), iA 114 (fun _ => 0), iA 60 (fun _ => 0), iA 36 (fun _ => 0), iA 36 (fun _ => 0), iA 36 (fun _ => 0), iA 36 (fun _ => 0), iA 36 (fun _ => 0)]) (ap_set hq1) ?_
  refine zw_aload_n dM_init_103 rfl ?_
  refine zw_bipush (v := 36) dM_init_104 (by decide) ?_
  refine zw_newi (N := 36) dM_init_106 zar_int (by decide) (by decide) (by decide) ⟨Nat.le_of_ble_eq_true rfl, Nat.le_of_ble_eq_true rfl⟩ ?_
  rw [show List.length (α := zC) (h.set 31 (.inr (7, [.int 1, .int 1, .int 0, .ref 32, .int 0, .ref 33, .ref 34, .ref 35, .ref 36, .int 0, .ref 37, .ref 38, .int 0, .int 0, .int 0, .int 0, .ref 39, .ref 40, .ref 41, .ref 42, .int 0, .int 0, .int 0, .int 0, .null])) ++ [iA 114 (fun _ => 0), iA 684 (fun _ => 0), bA (fun _ => 0), iA 228 (fun _ => 0), iA 114 (fun _ => 0), iA 60 (fun _ => 0), iA 36 (fun _ => 0), iA 36 (fun _ => 0), iA 36 (fun _ => 0), iA 36 (fun _ => 0), iA 36 (fun _ => 0)]) = 43 from by rw [List.length_append, zs_len, hl]; rfl]
  refine zw_h (h2 := h.set 31 (.inr (7, [.int 1, .int 1, .int 0, .ref 32, .int 0, .ref 33, .ref 34, .ref 35, .ref 36, .int 0, .ref 37, .ref 38, .int 0, .int 0, .int 0, .int 0, .ref 39, .ref 40, .ref 41, .ref 42, .int 0, .int 0, .int 0, .int 0, .null])) ++ [iA 114 (fun _ => 0), iA 684 (fun _ => 0), bA (fun _ => 0), iA 228 (fun _ => 0), iA 114 (fun _ => 0), iA 60 (fun _ => 0), iA 36 (fun _ => 0), iA 36 (fun _ => 0), iA 36 (fun _ => 0), iA 36 (fun _ => 0), iA 36 (fun _ => 0), iA 36 (fun _ => 0)]) (List.append_assoc _ _ _) ?_
  refine zw_putF dM_init_108 zfF_M_51 rfl (by exact ap_get hq1) rfl rfl (Nat.le_of_ble_eq_true rfl) ?_
  refine zw_h (h2 := h.set 31 (mC F00 0 0 (0, 0, 0, 0) (0, 0, 0, 0)) ++ [iA 114 (fun _ => 0), iA 684 (fun _ => 0), bA (fun _ => 0), iA 228 (fun _ => 0), iA 114 (fun _ => 0), iA 60 (fun _ => 0), iA 36 (fun _ => 0), iA 36 (fun _ => 0), iA 36 (fun _ => 0), iA 36 (fun _ => 0), iA 36 (fun _ => 0), iA 36 (fun _ => 0)]) (ap_set hq1) ?_
  have A31 : (h.set 31 (mC F00 0 0 (0, 0, 0, 0) (0, 0, 0, 0)) ++ [iA 114 (fun _ => 0), iA 684 (fun _ => 0), bA (fun _ => 0), iA 228 (fun _ => 0), iA 114 (fun _ => 0), iA 60 (fun _ => 0), iA 36 (fun _ => 0), iA 36 (fun _ => 0), iA 36 (fun _ => 0), iA 36 (fun _ => 0), iA 36 (fun _ => 0), iA 36 (fun _ => 0)])[31]? = some (mC F00 0 0 (0, 0, 0, 0) (0, 0, 0, 0)) := ap_get hq1
  have AG : ∀ j, (h.set 31 (mC F00 0 0 (0, 0, 0, 0) (0, 0, 0, 0)) ++ [iA 114 (fun _ => 0), iA 684 (fun _ => 0), bA (fun _ => 0), iA 228 (fun _ => 0), iA 114 (fun _ => 0), iA 60 (fun _ => 0), iA 36 (fun _ => 0), iA 36 (fun _ => 0), iA 36 (fun _ => 0), iA 36 (fun _ => 0), iA 36 (fun _ => 0), iA 36 (fun _ => 0)])[32 + j]? = ([iA 114 (fun _ => 0), iA 684 (fun _ => 0), bA (fun _ => 0), iA 228 (fun _ => 0), iA 114 (fun _ => 0), iA 60 (fun _ => 0), iA 36 (fun _ => 0), iA 36 (fun _ => 0), iA 36 (fun _ => 0), iA 36 (fun _ => 0), iA 36 (fun _ => 0), iA 36 (fun _ => 0)] : List zC)[j]? := fun j => ap_ge (by rw [zs_len]; exact hl)
  have AO : ∀ j, j < 31 → (h.set 31 (mC F00 0 0 (0, 0, 0, 0) (0, 0, 0, 0)) ++ [iA 114 (fun _ => 0), iA 684 (fun _ => 0), bA (fun _ => 0), iA 228 (fun _ => 0), iA 114 (fun _ => 0), iA 60 (fun _ => 0), iA 36 (fun _ => 0), iA 36 (fun _ => 0), iA 36 (fun _ => 0), iA 36 (fun _ => 0), iA 36 (fun _ => 0), iA 36 (fun _ => 0)])[j]? = h[j]? := fun j hj => (ap_lt (by rw [zs_len]; omega)).trans (zg_ne (by omega) rfl)
  have AL : List.length (α := zC) (h.set 31 (mC F00 0 0 (0, 0, 0, 0) (0, 0, 0, 0)) ++ [iA 114 (fun _ => 0), iA 684 (fun _ => 0), bA (fun _ => 0), iA 228 (fun _ => 0), iA 114 (fun _ => 0), iA 60 (fun _ => 0), iA 36 (fun _ => 0), iA 36 (fun _ => 0), iA 36 (fun _ => 0), iA 36 (fun _ => 0), iA 36 (fun _ => 0), iA 36 (fun _ => 0)]) = 44 := by rw [List.length_append, zs_len, hl]; rfl
  generalize h.set 31 (mC F00 0 0 (0, 0, 0, 0) (0, 0, 0, 0)) ++ [iA 114 (fun _ => 0), iA 684 (fun _ => 0), bA (fun _ => 0), iA 228 (fun _ => 0), iA 114 (fun _ => 0), iA 60 (fun _ => 0), iA 36 (fun _ => 0), iA 36 (fun _ => 0), iA 36 (fun _ => 0), iA 36 (fun _ => 0), iA 36 (fun _ => 0), iA 36 (fun _ => 0)] = hA at A31 AG AO AL
  have a32 : hA[32]? = some (iA 114 (fun _ => 0)) := AG 0
  have B32 : (hA.set 32 (iA 114 (upd (fun _ => 0) 0 6)))[32]? = some (iA 114 (upd (fun _ => 0) 0 6)) := zg_eq a32
  have BO : ∀ j, j ≠ 32 → (hA.set 32 (iA 114 (upd (fun _ => 0) 0 6)))[j]? = hA[j]? := fun j hj => zg_ne (Ne.symm hj) rfl
  have BL : (hA.set 32 (iA 114 (upd (fun _ => 0) 0 6))).length = 44 := by rw [zs_len]; exact AL
  have B31 := (BO 31 (by decide)).trans A31
  have B34 : (hA.set 32 (iA 114 (upd (fun _ => 0) 0 6)))[34]? = some (bA (fun _ => 0)) := (BO 34 (by decide)).trans (AG 2)
  have cb := c_M_begins (l := l) (g := g) (d := d) F00_ok B31 B32 B34 (fun i hi => by
    have hi2 : i < 1 := hi
    have e : i = 0 := by omega
    subst e
    rfl) S00
  generalize hhB : hA.set 32 (iA 114 (upd (fun _ => 0) 0 6)) = hB at B32 BO BL B31 B34 cb
  obtain ⟨hC, hhC⟩ : ∃ hC, hC = ((hB.set 32 (sC F00 (bgS F00 S00) (upd (fun _ => 0) 0 6))).set 31 (mC F00 0 0 (0, 0, 0, 0) (0, 0, 0, 0))).set 34 (bA (fun _ => 0)) := ⟨_, rfl⟩
  rw [← hhC] at cb
  have C31 : hC[31]? = some (mC F00 0 0 (0, 0, 0, 0) (0, 0, 0, 0)) := by rw [hhC]; exact zg_ne (by decide) (zg_eq (zg_ne (by decide) B31))
  have C32 : hC[32]? = some (sC F00 (bgS F00 S00) (upd (fun _ => 0) 0 6)) := by rw [hhC]; exact zg_ne (by decide) (zg_ne (by decide) (zg_eq B32))
  have C34 : hC[34]? = some (bA (fun _ => 0)) := by rw [hhC]; exact zg_eq (zg_ne (by decide) (zg_ne (by decide) B34))
  have CL : hC.length = 44 := by rw [hhC, zs_len, zs_len, zs_len]; exact BL
  have CO : ∀ j, j ≠ 31 → j ≠ 32 → j ≠ 34 → hC[j]? = hA[j]? := fun j q1 q2 q3 => by rw [hhC]; exact (zg_ne (Ne.symm q3) (zg_ne (Ne.symm q1) (zg_ne (Ne.symm q2) rfl))).trans (BO j q2)
  have Q : MX hC O01 := ⟨⟨_, _, _, C31, C32⟩, ⟨_, (CO 33 (by decide) (by decide) (by decide)).trans (AG 1), fun r hr => absurd hr (Nat.not_lt_zero _)⟩, ⟨_, _, C34, (CO 35 (by decide) (by decide) (by decide)).trans (AG 3), fun i _ => ⟨rfl, fun q => absurd q Bool.false_ne_true⟩⟩, ⟨_, (CO 37 (by decide) (by decide) (by decide)).trans (AG 5), fun i hi => absurd hi (Nat.not_lt_zero _)⟩, ⟨_, _, _, _, _, _, _, (CO 36 (by decide) (by decide) (by decide)).trans (AG 4), (CO 38 (by decide) (by decide) (by decide)).trans (AG 6), (CO 39 (by decide) (by decide) (by decide)).trans (AG 7), (CO 40 (by decide) (by decide) (by decide)).trans (AG 8), (CO 41 (by decide) (by decide) (by decide)).trans (AG 9), (CO 42 (by decide) (by decide) (by decide)).trans (AG 10), (CO 43 (by decide) (by decide) (by decide)).trans (AG 11)⟩⟩
  refine zw_aload_n dM_init_111 rfl ?_
  refine zw_get dM_init_112 zf_M_16 A31 rfl ?_
  refine zw_iconst (v := 0) dM_init_115 (by decide) ?_
  refine zw_bipush (v := 6) dM_init_116 (by decide) ?_
  refine zw_iast dM_init_118 a32 (vp_in_nI (n := 0) (by decide) (by decide)) ?_
  refine zw_h (h2 := hB) hhB ?_
  refine zw_aload_n dM_init_119 rfl ?_
  refine zc_V0V dM_init_120 zm_M_begins zk_M_54 B31 rfl cb ?_ zRR (Nat.le_of_ble_eq_true rfl) ⟨Nat.le_of_ble_eq_true rfl, Nat.le_of_ble_eq_true rfl⟩
  exact zw_vret dM_init_123 rfl (by rw [CL]) ⟨rfl, Q, fun j hj => (CO j (by omega) (by omega) (by omega)).trans (AO j hj), CL⟩
end C78
