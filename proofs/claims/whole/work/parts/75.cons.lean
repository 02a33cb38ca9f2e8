/-! ===== what is new ===== -/
def n0_F : List Value := [.null, .null, .null, .null, .null, .null, .null]
theorem znf_F : ∀ j, j < 7 → defaultValue (zY_F j) = vp_V n0_F j := fun j hj => match j, hj with
  | 0, _ => rfl
  | 1, _ => rfl
  | 2, _ => rfl
  | 3, _ => rfl
  | 4, _ => rfl
  | 5, _ => rfl
  | 6, _ => rfl
  | k + 7, h => absurd h (Nat.not_lt.mpr (Nat.le_add_left _ _))
def n0_T : List Value := [.null, .int 0, .null, .int 0, .int 0, .int 0, .int 0, .int 0]
theorem znf_T : ∀ j, j < 8 → defaultValue (zY_T j) = vp_V n0_T j := fun j hj => match j, hj with
  | 0, _ => rfl
  | 1, _ => rfl
  | 2, _ => rfl
  | 3, _ => rfl
  | 4, _ => rfl
  | 5, _ => rfl
  | 6, _ => rfl
  | 7, _ => rfl
  | k + 8, h => absurd h (Nat.not_lt.mpr (Nat.le_add_left _ _))
def n0_G : List Value := [.int 0, .int 0, .int 0, .long 0, .long 0, .long 0, .long 0, .long 0, .long 0, .long 0]
theorem znf_G : ∀ j, j < 10 → defaultValue (zY_G j) = vp_V n0_G j := fun j hj => match j, hj with
  | 0, _ => rfl
  | 1, _ => rfl
  | 2, _ => rfl
  | 3, _ => rfl
  | 4, _ => rfl
  | 5, _ => rfl
  | 6, _ => rfl
  | 7, _ => rfl
  | 8, _ => rfl
  | 9, _ => rfl
  | k + 10, h => absurd h (Nat.not_lt.mpr (Nat.le_add_left _ _))
def n0_S : List Value := [.null, .long 0, .int 0, .int 0, .int 0, .int 0, .int 0, .long 0, .long 0, .int 0, .null]
theorem znf_S : ∀ j, j < 11 → defaultValue (zY_S j) = vp_V n0_S j := fun j hj => match j, hj with
  | 0, _ => rfl
  | 1, _ => rfl
  | 2, _ => rfl
  | 3, _ => rfl
  | 4, _ => rfl
  | 5, _ => rfl
  | 6, _ => rfl
  | 7, _ => rfl
  | 8, _ => rfl
  | 9, _ => rfl
  | 10, _ => rfl
  | k + 11, h => absurd h (Nat.not_lt.mpr (Nat.le_add_left _ _))
def n0_P : List Value := [.int 0, .int 0, .int 0, .int 0]
theorem znf_P : ∀ j, j < 4 → defaultValue (zY_P j) = vp_V n0_P j := fun j hj => match j, hj with
  | 0, _ => rfl
  | 1, _ => rfl
  | 2, _ => rfl
  | 3, _ => rfl
  | k + 4, h => absurd h (Nat.not_lt.mpr (Nat.le_add_left _ _))
def n0_H : List Value := [.null, .int 0, .int 0]
theorem znf_H : ∀ j, j < 3 → defaultValue (zY_H j) = vp_V n0_H j := fun j hj => match j, hj with
  | 0, _ => rfl
  | 1, _ => rfl
  | 2, _ => rfl
  | k + 3, h => absurd h (Nat.not_lt.mpr (Nat.le_add_left _ _))
def n0_A : List Value := [.null, .null]
theorem znf_A : ∀ j, j < 2 → defaultValue (zY_A j) = vp_V n0_A j := fun j hj => match j, hj with
  | 0, _ => rfl
  | 1, _ => rfl
  | k + 2, h => absurd h (Nat.not_lt.mpr (Nat.le_add_left _ _))
def n0_M : List Value := [.int 0, .int 0, .int 0, .null, .int 0, .null, .null, .null, .null, .int 0, .null, .null, .int 0, .int 0, .int 0, .int 0, .null, .null, .null, .null, .int 0, .int 0, .int 0, .int 0, .null]
theorem znf_M : ∀ j, j < 25 → defaultValue (zY_M j) = vp_V n0_M j := fun j hj => match j, hj with
  | 0, _ => rfl
  | 1, _ => rfl
  | 2, _ => rfl
  | 3, _ => rfl
  | 4, _ => rfl
  | 5, _ => rfl
  | 6, _ => rfl
  | 7, _ => rfl
  | 8, _ => rfl
  | 9, _ => rfl
  | 10, _ => rfl
  | 11, _ => rfl
  | 12, _ => rfl
  | 13, _ => rfl
  | 14, _ => rfl
  | 15, _ => rfl
  | 16, _ => rfl
  | 17, _ => rfl
  | 18, _ => rfl
  | 19, _ => rfl
  | 20, _ => rfl
  | 21, _ => rfl
  | 22, _ => rfl
  | 23, _ => rfl
  | 24, _ => rfl
  | k + 25, h => absurd h (Nat.not_lt.mpr (Nat.le_add_left _ _))
def S00 : Sit := (fun _ => false, 0, 0, 0, 0, 0, fun _ => 0, false, fun _ _ => false)
theorem pl0_eq : (.inl (1, 4, .inr (.inl (fun _ => 0))) : zC) = plC S00 := by
  have e : (fun _ : Nat => (0 : Int64)) = fun j => mset (fun c => sPl S00 c j) := funext fun j => m_0
  unfold plC
  rw [← e]
theorem sit0_eq (q : Nat) : (.inr (3, [.ref 4, .long 0, .int 0, .int 0, .int 0, .int 0, .int 0, .long 0, .long 0, .int 0, .ref (q + 1)]) : zC) = sitC q S00 := by
  have e1 : (0 : Int64) = mset (sShut S00) := m_0
  have e2 : (0 : Int64) = mset (kn1 S00) := m_0.trans (congrArg mset (funext fun i => rfl))
  have e3 : (0 : Int64) = mset (kn2 S00) := m_0.trans (congrArg mset (funext fun i => rfl))
  unfold sitC
  rw [← e1, ← e2, ← e3]
  rfl
theorem ap_get {h : zH} {k : Nat} {X : zC} {L : List zC} (hk : k < h.length) : (h.set k X ++ L)[k]? = some X := by
  rw [List.getElem?_append_left (by rw [List.length_set]; exact hk)]
  simp [hk]
theorem ap_set {h : zH} {k : Nat} {X Y : zC} {L : List zC} (hk : k < h.length) : (h.set k X ++ L).set k Y = h.set k Y ++ L := by
  rw [List.set_append_left _ _ (by rw [List.length_set]; exact hk), List.set_set]
theorem ap_set0 {h : zH} {k : Nat} {Y : zC} {L : List zC} (hk : k < h.length) : (h ++ L).set k Y = h.set k Y ++ L := List.set_append_left _ _ hk
theorem ap_lt {h : zH} {k : Nat} {L : List zC} (hk : k < h.length) : (h ++ L)[k]? = h[k]? := List.getElem?_append_left hk
theorem ap_ge {h : zH} {L : List zC} {n j : Nat} (hn : h.length = n) : (h ++ L)[n + j]? = L[j]? := by
  rw [List.getElem?_append_right (by omega)]
  congr 1
  omega
section C75x
variable {l : Launch} {g : zG} {M : zM} {R : Room} {Z : State → Prop} {QQ : List Frame → Array Value → State → State → Prop} {pc : Nat} {ls : zL} {st : List Value} {h : zH} {k n : Nat}
theorem zw_extq {q t N : Nat} {f : Nat → Option Nat} (f2 : Nat → Option Nat) (hq : h[q]? = some (.inl (t, N, .inr (.inr (.inr (.inr f)))))) (he : ∀ j, j < N → f j = f2 j) (kk : WW l g M R Z QQ pc ls st (h.set q (.inl (t, N, .inr (.inr (.inr (.inr f2)))))) k n) : WW l g M R Z QQ pc ls st h k n := by
  intro p e s m args below meth c H locs lsA X hz hP hS hL
  refine kk p e s m args below meth c H locs lsA X (by rw [List.length_set]; exact hz) (zP_swap hq (fun ha => ?_) hP) hS hL
  have ha' : H[g.1 + q]? = some (arrV (g.2.1 t) N (fun j => va_rf ((f j).map (g.1 + ·)))) := ha
  show H[g.1 + q]? = some (arrV (g.2.1 t) N (fun j => va_rf ((f2 j).map (g.1 + ·))))
  rw [ha', arrV_ext (fun j hj => by rw [he j hj])]
theorem zw_kn {k2 n2 : Nat} (e1 : k = k2) (e2 : n = n2) (kk : WW l g M R Z QQ pc ls st h k2 n2) : WW l g M R Z QQ pc ls st h k n := by rw [e1, e2]; exact kk
end C75x
section C75
variable {l : Launch} {g : zG} {d : Nat} {h : zH}
theorem c_G_init {q : Nat} : Run l g mG_init (d + 1) 0 0 [.ref q] h (PV h) := by
  refine run_of (by decide) (Nat.le_of_ble_eq_true rfl) ?_
  refine zw_aload_n dG_init_0 rfl ?_
  refine zw_objInit dG_init_1 zk_G_3 zoi_i zoi_c ⟨Nat.succ_le_succ (Nat.zero_le _), by show 38 ≤ 38 * _; omega⟩ (Nat.le_of_ble_eq_true rfl) ?_
  exact zw_vret dG_init_4 rfl rfl ⟨rfl, rfl⟩
theorem c_P_init {q : Nat} : Run l g mP_init (d + 1) 0 0 [.ref q] h (PV h) := by
  refine run_of (by decide) (Nat.le_of_ble_eq_true rfl) ?_
  refine zw_aload_n dP_init_0 rfl ?_
  refine zw_objInit dP_init_1 zk_P_3 zoi_i zoi_c ⟨Nat.succ_le_succ (Nat.zero_le _), by show 38 ≤ 38 * _; omega⟩ (Nat.le_of_ble_eq_true rfl) ?_
  exact zw_vret dP_init_4 rfl rfl ⟨rfl, rfl⟩
theorem c_S_init {q : Nat} (hq : h[q]? = some (.inr (3, n0_S))) (hl : h.length = q + 1) : Run l g mS_init (d + 1) 1 4 [.ref q, .ref 4] h (PV (h.set q (sitC q S00) ++ [plC S00])) := by
  have hq1 : q < h.length := by omega
  refine run_of (by decide) (Nat.le_of_ble_eq_true rfl) ?_
  rw [hl]
  refine zw_aload_n dS_init_0 rfl ?_
  refine zw_objInit dS_init_1 zk_S_3 zoi_i zoi_c ⟨Nat.succ_le_succ (Nat.zero_le _), by show 38 ≤ 38 * _; omega⟩ (Nat.le_of_ble_eq_true rfl) ?_
  refine zw_aload_n dS_init_4 rfl ?_
  refine zw_iconst (v := 4) dS_init_5 (by decide) ?_
  refine zw_newl (N := 4) dS_init_6 zar_long (by decide) (by decide) (by decide) ⟨Nat.le_of_ble_eq_true rfl, Nat.le_of_ble_eq_true rfl⟩ ?_
  rw [hl]
  refine zw_putF dS_init_8 zfF_S_9 rfl (by exact (ap_lt hq1).trans hq) rfl rfl (Nat.le_of_ble_eq_true rfl) ?_
  refine zw_h (h2 := h.set q (.inr (3, [.null, .long 0, .int 0, .int 0, .int 0, .int 0, .int 0, .long 0, .long 0, .int 0, .ref (q + 1)])) ++ [.inl (1, 4, .inr (.inl (fun _ => 0)))]) (ap_set0 hq1) ?_
  refine zw_aload_n dS_init_11 rfl ?_
  refine zw_aload_n dS_init_12 rfl ?_
  refine zw_putF dS_init_13 zfF_S_15 rfl (by exact ap_get hq1) rfl rfl (Nat.le_of_ble_eq_true rfl) ?_
  refine zw_h (h2 := h.set q (sitC q S00) ++ [plC S00]) (by rw [← pl0_eq, ← sit0_eq q]; exact ap_set hq1) ?_
  exact zw_vret dS_init_16 rfl (by simp [hl]) ⟨rfl, rfl⟩
theorem c_T_init (hq : h[1]? = some (.inr (1, n0_T))) (hl : h.length = 2) : Run l g mT_init (d + 1) 2 96 [.ref 1] h (PV (h.set 1 (txC 0 0 0 0 0 0) ++ [.inl (0, 60, .inl (fun _ => 0)), .inl (0, 36, .inl (fun _ => 0))])) := by
  have hq1 : 1 < h.length := by omega
  refine run_of (by decide) (Nat.le_of_ble_eq_true rfl) ?_
  rw [hl]
  refine zw_aload_n dT_init_0 rfl ?_
  refine zw_objInit dT_init_1 zk_T_3 zoi_i zoi_c ⟨Nat.succ_le_succ (Nat.zero_le _), by show 38 ≤ 38 * _; omega⟩ (Nat.le_of_ble_eq_true rfl) ?_
  refine zw_aload_n dT_init_4 rfl ?_
  refine zw_bipush (v := 60) dT_init_5 (by decide) ?_
  refine zw_newi (N := 60) dT_init_7 zar_int (by decide) (by decide) (by decide) ⟨Nat.le_of_ble_eq_true rfl, Nat.le_of_ble_eq_true rfl⟩ ?_
  rw [hl]
  refine zw_putF dT_init_9 zfF_T_9 rfl (by exact (ap_lt hq1).trans hq) rfl rfl (Nat.le_of_ble_eq_true rfl) ?_
  refine zw_h (h2 := h.set 1 (.inr (1, [.ref 2, .int 0, .null, .int 0, .int 0, .int 0, .int 0, .int 0])) ++ [.inl (0, 60, .inl (fun _ => 0))]) (ap_set0 hq1) ?_
  refine zw_aload_n dT_init_12 rfl ?_
  refine zw_bipush (v := 36) dT_init_13 (by decide) ?_
  refine zw_newi (N := 36) dT_init_15 zar_int (by decide) (by decide) (by decide) ⟨Nat.le_of_ble_eq_true rfl, Nat.le_of_ble_eq_true rfl⟩ ?_
  rw [show List.length (α := zC) (h.set 1 (.inr (1, [.ref 2, .int 0, .null, .int 0, .int 0, .int 0, .int 0, .int 0])) ++ [.inl (0, 60, .inl (fun _ => 0))]) = 3 from by simp [hl]]
  refine zw_h (h2 := h.set 1 (.inr (1, [.ref 2, .int 0, .null, .int 0, .int 0, .int 0, .int 0, .int 0])) ++ [.inl (0, 60, .inl (fun _ => 0)), .inl (0, 36, .inl (fun _ => 0))]) (List.append_assoc _ _ _) ?_
  refine zw_putF dT_init_17 zfF_T_15 rfl (by exact ap_get hq1) rfl rfl (Nat.le_of_ble_eq_true rfl) ?_
  refine zw_h (h2 := h.set 1 (txC 0 0 0 0 0 0) ++ [.inl (0, 60, .inl (fun _ => 0)), .inl (0, 36, .inl (fun _ => 0))]) (ap_set hq1) ?_
  exact zw_vret dT_init_20 rfl (by simp [hl]) ⟨rfl, rfl⟩
end C75
