section C20
variable {l : Launch} {g : zG} {d : Nat} {h : zH}
theorem c_F_only {a : Option Nat} (ha : oOK a) : Run l g mF_only d 0 0 [.int (oI a)] h (PL (mset (oneO a)) h) := by
  refine run_of (by decide) (Nat.le_of_ble_eq_true rfl) ?_
  cases a with
  | none =>
    refine zw_iload_n dF_only_0 rfl ?_
    refine zw_if_lt 16 dF_only_1 (by decide) (fun c_1 => ?_) (fun c_1 => ?_)
    · refine zw_lconst (v := 0) dF_only_16 (by decide) ?_
      exact zw_lret dF_only_17 rfl rfl ⟨by rw [oneO_none, ← m_0], rfl⟩
    · exact absurd (by decide) c_1
  | some c =>
    have hc := ha c rfl
    refine zw_iload_n dF_only_0 rfl ?_
    refine zw_if_lt 16 dF_only_1 (by decide) (fun c_1 => ?_) (fun c_1 => ?_)
    · exact absurd c_1 (nI_pos (by omega))
    · refine zw_iload_n dF_only_4 rfl ?_
      refine zw_bipush (v := 36) dF_only_5 (by decide) ?_
      refine zw_icmp_ge 16 dF_only_7 (by decide) (fun c_7 => ?_) (fun c_7 => ?_)
      · exact absurd ((nI_leI (a := 36) (b := c) (by omega) (by omega)).mp c_7) (by omega)
      · refine zw_lconst (v := 1) dF_only_10 (by decide) ?_
        refine zw_iload_n dF_only_11 rfl ?_
        refine zw_lshl dF_only_12 ?_
        refine zw_goto 17 dF_only_13 (by decide) ?_
        exact zw_lret dF_only_17 rfl rfl ⟨by rw [oneO_some, ← m_one c hc]; rfl, rfl⟩
theorem lgc_eq (x y : Int64) (h : lg_cmp x y = 0) : x = y := (lg_cmp_eq x y).mp h
theorem lgc_ne (x y : Int64) (h : ¬ lg_cmp x y = 0) : x ≠ y := fun e => h ((lg_cmp_eq x y).mpr e)
theorem m_holds {p : Nat → Bool} {c : Nat} (hc : c < 36) : mset p &&& mset (oneO (some c)) = 0 ↔ p c = false := by
  rw [m_and, m_eq0]
  constructor
  · intro h
    have := h c hc
    simpa [oneO] using this
  · intro h i hi
    by_cases e : i = c
    · subst e; simp [h]
    · have : (some c == some i) = false := by simpa using fun q => e q.symm
      simp [oneO, this]
def holdsB (p : Nat → Bool) : Option Nat → Bool
  | none => false
  | some c => p c
theorem c_F_holds {p : Nat → Bool} {a : Option Nat} (ha : oOK a) : Run l g mF_holds (d + 1) 0 0 [.long (mset p), .int (oI a)] h (PI (if holdsB p a = true then 1 else 0) h) := by
  refine run_of (by decide) (Nat.le_of_ble_eq_true rfl) ?_
  have key : mset p &&& mset (oneO a) = 0 ↔ holdsB p a = false := by
    cases a with
    | none => rw [oneO_none, m_and, m_eq0]; simp [holdsB]
    | some c => exact m_holds (ha c rfl)
  refine zw_lload_n dF_holds_0 rfl ?_
  refine zw_iload_n dF_holds_1 rfl ?_
  refine zc_S1L dF_holds_2 zm_F_only zk_F_111 (c_F_only (by assumption)) ?_ zRR (Nat.le_of_ble_eq_true rfl) ⟨Nat.le_of_ble_eq_true rfl, Nat.le_of_ble_eq_true rfl⟩
  refine zw_land dF_holds_5 ?_
  refine zw_lconst (v := 0) dF_holds_6 (by decide) ?_
  refine zw_lcmp dF_holds_7 ?_
  refine zw_if_eq 15 dF_holds_8 (by decide) (fun c_8 => ?_) (fun c_8 => ?_)
  · refine zw_iconst (v := 0) dF_holds_15 (by decide) ?_
    exact zw_iret dF_holds_16 rfl rfl rfl ⟨by rw [if_neg (by rw [key.mp (lgc_eq _ _ c_8)]; decide)], rfl⟩
  · refine zw_iconst (v := 1) dF_holds_11 (by decide) ?_
    refine zw_goto 16 dF_holds_12 (by decide) ?_
    exact zw_iret dF_holds_16 rfl rfl rfl ⟨by rw [if_pos (by cases hb : holdsB p a with | true => rfl | false => exact absurd (key.mpr hb) (lgc_ne _ _ c_8))], rfl⟩
theorem c_F_turned {a b : Nat} (ha : a < 4) (hb : b < 4) : Run l g mF_turned d 0 0 [.int (nI a), .int (nI b)] h (PI (nI ((a + b) % 4)) h) := by
  refine run_of (by decide) (Nat.le_of_ble_eq_true rfl) ?_
  refine zw_iload_n dF_turned_0 rfl ?_
  refine zw_iload_n dF_turned_1 rfl ?_
  refine zw_iadd dF_turned_2 ?_
  refine zw_iconst (v := 3) dF_turned_3 (by decide) ?_
  refine zw_iand dF_turned_4 ?_
  exact zw_iret dF_turned_5 rfl rfl rfl ⟨by rw [nI_add, show (3 : Int32) = nI 3 from rfl, pk_andN (by omega) 2 (by decide)], rfl⟩
/-- Long.bitCount, as it is computed -/
def bc1 (x : Int64) : Int64 := x - ((x.toUInt64 >>> ((1 : Int32).toInt64.toUInt64 &&& Int64.toUInt64 63)).toInt64 &&& 6148914691236517205)
def bc2 (x : Int64) : Int64 := (x &&& 3689348814741910323) + ((x.toUInt64 >>> ((2 : Int32).toInt64.toUInt64 &&& Int64.toUInt64 63)).toInt64 &&& 3689348814741910323)
def bc3 (x : Int64) : Int64 := (x + (x.toUInt64 >>> ((4 : Int32).toInt64.toUInt64 &&& Int64.toUInt64 63)).toInt64) &&& 1085102592571150095
def bc4 (x : Int64) : Int64 := x + (x.toUInt64 >>> ((8 : Int32).toInt64.toUInt64 &&& Int64.toUInt64 63)).toInt64
def bc5 (x : Int64) : Int64 := x + (x.toUInt64 >>> ((16 : Int32).toInt64.toUInt64 &&& Int64.toUInt64 63)).toInt64
def bc6 (x : Int64) : Int64 := x + (x.toUInt64 >>> ((32 : Int32).toInt64.toUInt64 &&& Int64.toUInt64 63)).toInt64
def bcI (x : Int64) : Int32 := (bc6 (bc5 (bc4 (bc3 (bc2 (bc1 x)))))).toInt32 &&& 127
theorem c_J_bitCountI {x : Int64} : Run l g mJ_bitCount d 0 0 [.long x] h (PI (bcI x) h) := by
  refine run_of (by decide) (Nat.le_of_ble_eq_true rfl) ?_
  refine zw_lload_n dJ_bitCount_0 rfl ?_
  refine zw_lload_n dJ_bitCount_1 rfl ?_
  refine zw_iconst (v := 1) dJ_bitCount_2 (by decide) ?_
  refine zw_lushr dJ_bitCount_3 ?_
  refine zw_ldc2 dJ_bitCount_4 zcl_J_314 ?_
  refine zw_land dJ_bitCount_7 ?_
  refine zw_lsub dJ_bitCount_8 ?_
  refine zw_lstore_n dJ_bitCount_9 (by decide) rfl ?_
  refine zw_lload_n dJ_bitCount_10 rfl ?_
  refine zw_ldc2 dJ_bitCount_11 zcl_J_316 ?_
  refine zw_land dJ_bitCount_14 ?_
  refine zw_lload_n dJ_bitCount_15 rfl ?_
  refine zw_iconst (v := 2) dJ_bitCount_16 (by decide) ?_
  refine zw_lushr dJ_bitCount_17 ?_
  refine zw_ldc2 dJ_bitCount_18 zcl_J_316 ?_
  refine zw_land dJ_bitCount_21 ?_
  refine zw_ladd dJ_bitCount_22 ?_
  refine zw_lstore_n dJ_bitCount_23 (by decide) rfl ?_
  refine zw_lload_n dJ_bitCount_24 rfl ?_
  refine zw_lload_n dJ_bitCount_25 rfl ?_
  refine zw_iconst (v := 4) dJ_bitCount_26 (by decide) ?_
  refine zw_lushr dJ_bitCount_27 ?_
  refine zw_ladd dJ_bitCount_28 ?_
  refine zw_ldc2 dJ_bitCount_29 zcl_J_318 ?_
  refine zw_land dJ_bitCount_32 ?_
  refine zw_lstore_n dJ_bitCount_33 (by decide) rfl ?_
  refine zw_lload_n dJ_bitCount_34 rfl ?_
  refine zw_lload_n dJ_bitCount_35 rfl ?_
  refine zw_bipush (v := 8) dJ_bitCount_36 (by decide) ?_
  refine zw_lushr dJ_bitCount_38 ?_
  refine zw_ladd dJ_bitCount_39 ?_
  refine zw_lstore_n dJ_bitCount_40 (by decide) rfl ?_
  refine zw_lload_n dJ_bitCount_41 rfl ?_
  refine zw_lload_n dJ_bitCount_42 rfl ?_
  refine zw_bipush (v := 16) dJ_bitCount_43 (by decide) ?_
  refine zw_lushr dJ_bitCount_45 ?_
  refine zw_ladd dJ_bitCount_46 ?_
  refine zw_lstore_n dJ_bitCount_47 (by decide) rfl ?_
  refine zw_lload_n dJ_bitCount_48 rfl ?_
  refine zw_lload_n dJ_bitCount_49 rfl ?_
  refine zw_bipush (v := 32) dJ_bitCount_50 (by decide) ?_
  refine zw_lushr dJ_bitCount_52 ?_
  refine zw_ladd dJ_bitCount_53 ?_
  refine zw_lstore_n dJ_bitCount_54 (by decide) rfl ?_
  refine zw_lload_n dJ_bitCount_55 rfl ?_
  refine zw_l2i dJ_bitCount_56 ?_
  refine zw_bipush (v := 127) dJ_bitCount_57 (by decide) ?_
  refine zw_iand dJ_bitCount_59 ?_
  exact zw_iret dJ_bitCount_60 rfl rfl rfl ⟨rfl, rfl⟩
end C20
