section C21
variable {l : Launch} {g : zG} {d : Nat} {h : zH} {F : Fl}
theorem c_G_size (hF : fOK F) (hG : h[4]? = some (gC F)) : Run l g mG_size d 0 0 [.ref 4] h (PI (nI (fN F)) h) := by
  refine run_of (by decide) (Nat.le_of_ble_eq_true rfl) ?_
  refine zw_aload_n dG_size_0 rfl ?_
  refine zw_get dG_size_1 zf_G_15 hG rfl ?_
  refine zw_aload_n dG_size_4 rfl ?_
  refine zw_get dG_size_5 zf_G_21 hG rfl ?_
  refine zw_imul dG_size_8 ?_
  exact zw_iret dG_size_9 rfl rfl rfl ⟨by rw [pk_mul]; rfl, rfl⟩
/-- the cell that an int names -/
def cel (F : Fl) (x : Int32) : Option Nat := if 0 ≤ x.toInt ∧ x.toInt < fN F then some x.toInt.toNat else none
theorem cel_some {F : Fl} (hF : fOK F) {x : Int32} {c : Nat} : cel F x = some c ↔ c < fN F ∧ x = nI c := by
  have hn := fN_le hF
  unfold cel
  constructor
  · intro h
    split at h
    case isTrue hx =>
      cases h
      refine ⟨by omega, ?_⟩
      apply Int32.toInt_inj.mp
      rw [nI_toInt (by omega)]
      omega
    case isFalse => cases h
  · rintro ⟨h1, rfl⟩
    rw [nI_toInt (by omega), if_pos ⟨by omega, by omega⟩]
    simp
theorem cel_none {F : Fl} {x : Int32} : cel F x = none ↔ (x.toInt < 0 ∨ (fN F : Int) ≤ x.toInt) := by
  unfold cel
  constructor
  · intro h
    split at h
    case isTrue => cases h
    case isFalse hx => omega
  · intro h
    rw [if_neg (by omega)]
theorem i_lt0 (x : Int32) : x < 0 ↔ x.toInt < 0 := by rw [Int32.lt_iff_toInt_lt]; rfl
theorem i_le {c : Nat} (h : c < 2 ^ 31) (x : Int32) : nI c ≤ x ↔ (c : Int) ≤ x.toInt := by rw [Int32.le_iff_toInt_le, nI_toInt h]
theorem c_G_has (hF : fOK F) (hG : h[4]? = some (gC F)) {x : Int32} : Run l g mG_has (d + 1) 0 0 [.ref 4, .int x] h (PI (if (cel F x).isSome = true then 1 else 0) h) := by
  refine run_of (by decide) (Nat.le_of_ble_eq_true rfl) ?_
  have hn := fN_le hF
  refine zw_iload_n dG_has_0 rfl ?_
  refine zw_if_lt 16 dG_has_1 (by decide) (fun c_1 => ?_) (fun c_1 => ?_)
  · refine zw_iconst (v := 0) dG_has_16 (by decide) ?_
    exact zw_iret dG_has_17 rfl rfl rfl ⟨by rw [if_neg (by rw [cel_none.mpr (by first | exact Or.inl ((i_lt0 x).mp c_1) | exact Or.inr ((i_le (by omega) x).mp c_9))]; decide)], rfl⟩
  · refine zw_iload_n dG_has_4 rfl ?_
    refine zw_aload_n dG_has_5 rfl ?_
    refine zc_V0I dG_has_6 zm_G_size zk_G_26 hG rfl (c_G_size hF hG) ?_ zRR (Nat.le_of_ble_eq_true rfl) ⟨Nat.le_of_ble_eq_true rfl, Nat.le_of_ble_eq_true rfl⟩
    refine zw_icmp_ge 16 dG_has_9 (by decide) (fun c_9 => ?_) (fun c_9 => ?_)
    · refine zw_iconst (v := 0) dG_has_16 (by decide) ?_
      exact zw_iret dG_has_17 rfl rfl rfl ⟨by rw [if_neg (by rw [cel_none.mpr (by first | exact Or.inl ((i_lt0 x).mp c_1) | exact Or.inr ((i_le (by omega) x).mp c_9))]; decide)], rfl⟩
    · refine zw_iconst (v := 1) dG_has_12 (by decide) ?_
      refine zw_goto 17 dG_has_13 (by decide) ?_
      exact zw_iret dG_has_17 rfl rfl rfl ⟨by rw [if_pos (by cases hc : cel F x with | some c => rfl | none => exact absurd (cel_none.mp hc) (by rw [i_lt0] at c_1; rw [i_le (by omega)] at c_9; omega))], rfl⟩
theorem c_G_beside (hF : fOK F) (hG : h[4]? = some (gC F)) {p : Nat → Bool} (hp : sub F p) {hand : Nat} (hh : hand < 4) : Run l g mG_beside d 0 0 [.ref 4, .long (mset p), .int (nI hand)] h (PL (mset (bes F hand p)) h) := by
  refine run_of (by decide) (Nat.le_of_ble_eq_true rfl) ?_
  rcases (show hand = 0 ∨ hand = 1 ∨ hand = 2 ∨ hand = 3 by omega) with rfl | rfl | rfl | rfl
  · refine zw_iload_n dG_beside_0 rfl ?_
    refine zw_tabIn 28 dG_beside_1 (by decide) (by decide) rfl (by decide) ?_
    refine zw_lload_n dG_beside_28 rfl ?_
    refine zw_aload_n dG_beside_29 rfl ?_
    refine zw_get dG_beside_30 zf_G_15 hG rfl ?_
    refine zw_lushr dG_beside_33 ?_
    exact zw_lret dG_beside_34 rfl rfl ⟨by rw [← m_up hF hp], rfl⟩
  · refine zw_iload_n dG_beside_0 rfl ?_
    refine zw_tabIn 35 dG_beside_1 (by decide) (by decide) rfl (by decide) ?_
    refine zw_lload_n dG_beside_35 rfl ?_
    refine zw_aload_n dG_beside_36 rfl ?_
    refine zw_get dG_beside_37 zf_G_57 hG rfl ?_
    refine zw_ldc2 dG_beside_40 zcl_G_67 ?_
    refine zw_lxor dG_beside_43 ?_
    refine zw_land dG_beside_44 ?_
    refine zw_iconst (v := 1) dG_beside_45 (by decide) ?_
    refine zw_lshl dG_beside_46 ?_
    exact zw_lret dG_beside_47 rfl rfl ⟨by rw [← m_right hF hp], rfl⟩
  · refine zw_iload_n dG_beside_0 rfl ?_
    refine zw_tabIn 48 dG_beside_1 (by decide) (by decide) rfl (by decide) ?_
    refine zw_lload_n dG_beside_48 rfl ?_
    refine zw_aload_n dG_beside_49 rfl ?_
    refine zw_get dG_beside_50 zf_G_15 hG rfl ?_
    refine zw_lshl dG_beside_53 ?_
    refine zw_aload_n dG_beside_54 rfl ?_
    refine zw_get dG_beside_55 zf_G_30 hG rfl ?_
    refine zw_land dG_beside_58 ?_
    exact zw_lret dG_beside_59 rfl rfl ⟨by rw [← m_down hF], rfl⟩
  · refine zw_iload_n dG_beside_0 rfl ?_
    refine zw_tabOut 60 dG_beside_1 (by decide) (by decide) ?_
    refine zw_lload_n dG_beside_60 rfl ?_
    refine zw_aload_n dG_beside_61 rfl ?_
    refine zw_get dG_beside_62 zf_G_50 hG rfl ?_
    refine zw_ldc2 dG_beside_65 zcl_G_67 ?_
    refine zw_lxor dG_beside_68 ?_
    refine zw_land dG_beside_69 ?_
    refine zw_iconst (v := 1) dG_beside_70 (by decide) ?_
    refine zw_lushr dG_beside_71 ?_
    exact zw_lret dG_beside_72 rfl rfl ⟨by rw [← m_left hF hp], rfl⟩
theorem c_G_around (hF : fOK F) (hG : h[4]? = some (gC F)) {p : Nat → Bool} (hp : sub F p) : Run l g mG_around d 0 0 [.ref 4, .long (mset p)] h (PL (mset (arn F p)) h) := by
  refine run_of (by decide) (Nat.le_of_ble_eq_true rfl) ?_
  refine zw_lload_n dG_around_0 rfl ?_
  refine zw_aload_n dG_around_1 rfl ?_
  refine zw_get dG_around_2 zf_G_15 hG rfl ?_
  refine zw_lushr dG_around_5 ?_
  refine zw_lload_n dG_around_6 rfl ?_
  refine zw_aload_n dG_around_7 rfl ?_
  refine zw_get dG_around_8 zf_G_15 hG rfl ?_
  refine zw_lshl dG_around_11 ?_
  refine zw_aload_n dG_around_12 rfl ?_
  refine zw_get dG_around_13 zf_G_30 hG rfl ?_
  refine zw_land dG_around_16 ?_
  refine zw_lor dG_around_17 ?_
  refine zw_lload_n dG_around_18 rfl ?_
  refine zw_aload_n dG_around_19 rfl ?_
  refine zw_get dG_around_20 zf_G_57 hG rfl ?_
  refine zw_ldc2 dG_around_23 zcl_G_67 ?_
  refine zw_lxor dG_around_26 ?_
  refine zw_land dG_around_27 ?_
  refine zw_iconst (v := 1) dG_around_28 (by decide) ?_
  refine zw_lshl dG_around_29 ?_
  refine zw_lor dG_around_30 ?_
  refine zw_lload_n dG_around_31 rfl ?_
  refine zw_aload_n dG_around_32 rfl ?_
  refine zw_get dG_around_33 zf_G_50 hG rfl ?_
  refine zw_ldc2 dG_around_36 zcl_G_67 ?_
  refine zw_lxor dG_around_39 ?_
  refine zw_land dG_around_40 ?_
  refine zw_iconst (v := 1) dG_around_41 (by decide) ?_
  refine zw_lushr dG_around_42 ?_
  refine zw_lor dG_around_43 ?_
  exact zw_lret dG_around_44 rfl rfl ⟨by rw [← m_around hF hp], rfl⟩
theorem wth_neg {F : Fl} {K : Nat → Bool} {a : Option Nat} {s : Int} (h : s < 0) : wth F K a s = fun _ => false := by simp [wth, h]
theorem wth_at {F : Fl} {K : Nat → Bool} {a : Option Nat} {s : Int} (h : 0 ≤ s) : wth F K a s = lvl F K a (min s.toNat 36) := by
  unfold wth; rw [if_neg (by omega)]
theorem m_next {F : Fl} {K : Nat → Bool} {a : Option Nat} (i : Nat) : mset (lvl F K a i) ||| (mset (arn F (lvl F K a i)) &&& mset K) = mset (lvl F K a (i + 1)) := by rw [m_and, m_or]; rfl
theorem m_first {F : Fl} {K : Nat → Bool} {a : Option Nat} : mset (oneO a) &&& mset K = mset (lvl F K a 0) := by rw [m_and]; rfl
theorem c_G_within (hF : fOK F) (hG : h[4]? = some (gC F)) {K : Nat → Bool} (hK : sub F K) {a : Option Nat} (ha : oOK a) {s : Int32} : Run l g mG_within (d + 1) 0 0 [.ref 4, .int s, .int (oI a), .long (mset K)] h (PL (mset (wth F K a s.toInt)) h) := by
  refine run_of (by decide) (Nat.le_of_ble_eq_true rfl) ?_
  have L : 0 ≤ s.toInt → ∀ (m i : Nat), i + m = 36 → (i : Int) ≤ s.toInt → WW l g mG_within (zrm (d + 1) 0 0) (fun _ => True) (zQQ g (PL (mset (wth F K a s.toInt)) h) (h.length + 0) 0 0) 19 [(0, some (.ref 4)), (1, some (.int s)), (3, some (.long (mset K))), (5, some (.long (mset (lvl F K a i)))), (7, some (.int (nI i)))] [] h 0 0 := by
    intro hs m
    induction m with
    | zero =>
      intro i him his
      have hi : i = 36 := by omega
      subst hi
      refine zw_iload dG_within_19 rfl ?_
      refine zw_iload_n dG_within_21 rfl ?_
      refine zw_icmp_ge 66 dG_within_22 (by decide) (fun c_22 => ?_) (fun c_22 => ?_)
      · refine zw_lload dG_within_66 rfl ?_
        exact zw_lret dG_within_68 rfl rfl ⟨by rw [wth_at hs, show min s.toInt.toNat 36 = 36 by omega], rfl⟩
      · refine zw_iload dG_within_25 rfl ?_
        refine zw_bipush (v := 36) dG_within_27 (by decide) ?_
        refine zw_icmp_ge 66 dG_within_29 (by decide) (fun c_29 => ?_) (fun c_29 => ?_)
        · refine zw_lload dG_within_66 rfl ?_
          exact zw_lret dG_within_68 rfl rfl ⟨by rw [wth_at hs, show min s.toInt.toNat 36 = 36 by omega], rfl⟩
        · exact absurd (by decide) c_29
    | succ m ih =>
      intro i him his
      refine zw_iload dG_within_19 rfl ?_
      refine zw_iload_n dG_within_21 rfl ?_
      refine zw_icmp_ge 66 dG_within_22 (by decide) (fun c_22 => ?_) (fun c_22 => ?_)
      · refine zw_lload dG_within_66 rfl ?_
        exact zw_lret dG_within_68 rfl rfl ⟨by rw [wth_at hs, show min s.toInt.toNat 36 = i by have := (Int32.le_iff_toInt_le).mp c_22; rw [nI_toInt (by omega)] at this; omega], rfl⟩
      · refine zw_iload dG_within_25 rfl ?_
        refine zw_bipush (v := 36) dG_within_27 (by decide) ?_
        refine zw_icmp_ge 66 dG_within_29 (by decide) (fun c_29 => ?_) (fun c_29 => ?_)
        · exact absurd ((nI_leI (a := 36) (b := i) (by omega) (by omega)).mp c_29) (by omega)
        · refine zw_lload dG_within_32 rfl ?_
          refine zw_aload_n dG_within_34 rfl ?_
          refine zw_lload dG_within_35 rfl ?_
          refine zc_V1L dG_within_37 zm_G_around zk_G_77 hG rfl (c_G_around hF hG (lvl_sub hK i)) ?_ zRR (Nat.le_of_ble_eq_true rfl) ⟨Nat.le_of_ble_eq_true rfl, Nat.le_of_ble_eq_true rfl⟩
          refine zw_lload_n dG_within_40 rfl ?_
          refine zw_land dG_within_41 ?_
          refine zw_lor dG_within_42 ?_
          rw [m_next]
          refine zw_lstore dG_within_43 (by decide) rfl ?_
          refine zw_lload dG_within_45 rfl ?_
          refine zw_lload dG_within_47 rfl ?_
          refine zw_lcmp dG_within_49 ?_
          refine zw_if_ne 56 dG_within_50 (by decide) (fun c_50 => ?_) (fun c_50 => ?_)
          · refine zw_lload dG_within_56 rfl ?_
            refine zw_lstore dG_within_58 (by decide) rfl ?_
            refine zw_incN dG_within_60 rfl (by decide) rfl ?_
            refine zw_goto 19 dG_within_63 (by decide) ?_
            have c2 : (i : Int) < s.toInt := by
              rcases Int.lt_or_le (i : Int) s.toInt with q | q
              · exact q
              · exact absurd (Int32.le_iff_toInt_le.mpr (by rw [nI_toInt (by omega)]; exact q)) c_22
            exact zw_lk (ih (i + 1) (by omega) (by omega)) ⟨rfl, rfl, rfl, rfl, rfl, trivial⟩
          · refine zw_goto 66 dG_within_53 (by decide) ?_
            refine zw_lload dG_within_66 rfl ?_
            have e := lvl_eq hF hK (lgc_eq _ _ c_50)
            exact zw_lret dG_within_68 rfl rfl ⟨by rw [wth_at hs, show min s.toInt.toNat 36 = i + (min s.toInt.toNat 36 - i) by omega, lvl_stay e], rfl⟩
  refine zw_iload_n dG_within_0 rfl ?_
  refine zw_if_ge 8 dG_within_1 (by decide) (fun c_1 => ?_) (fun c_1 => ?_)
  · have hs : 0 ≤ s.toInt := by have := (Int32.le_iff_toInt_le).mp c_1; simpa using this
    refine zw_iload_n dG_within_8 rfl ?_
    refine zc_S1L dG_within_9 zm_F_only zk_G_53 (c_F_only (by assumption)) ?_ zRR (Nat.le_of_ble_eq_true rfl) ⟨Nat.le_of_ble_eq_true rfl, Nat.le_of_ble_eq_true rfl⟩
    refine zw_lload_n dG_within_12 rfl ?_
    refine zw_land dG_within_13 ?_
    rw [m_first (F := F)]
    refine zw_lstore dG_within_14 (by decide) rfl ?_
    refine zw_iconst (v := 0) dG_within_16 (by decide) ?_
    refine zw_istore dG_within_17 (by decide) rfl ?_
    exact zw_lk (L hs 36 0 rfl (by omega)) ⟨rfl, rfl, rfl, rfl, rfl, trivial⟩
  · have hs : s.toInt < 0 := by
      have : ¬ (0 ≤ s.toInt) := fun q => c_1 ((Int32.le_iff_toInt_le).mpr (by simpa using q))
      omega
    refine zw_lconst (v := 0) dG_within_4 (by decide) ?_
    refine zw_goto 14 dG_within_5 (by decide) ?_
    refine zw_lstore dG_within_14 (by decide) rfl ?_
    refine zw_iconst (v := 0) dG_within_16 (by decide) ?_
    refine zw_istore dG_within_17 (by decide) rfl ?_
    refine zw_iload dG_within_19 rfl ?_
    refine zw_iload_n dG_within_21 rfl ?_
    refine zw_icmp_ge 66 dG_within_22 (by decide) (fun c_22 => ?_) (fun c_22 => ?_)
    · refine zw_lload dG_within_66 rfl ?_
      exact zw_lret dG_within_68 rfl rfl ⟨by rw [wth_neg hs, ← m_0], rfl⟩
    · exact absurd (Int32.le_iff_toInt_le.mpr (by show s.toInt ≤ 0; omega)) c_22
theorem dst_hit {F : Fl} {K : Nat → Bool} {a : Option Nat} {c i : Nat} (hi : i < 36) (h : lvl F K a i c = true) (hb : ∀ j, j < i → lvl F K a j c = false) : dst F K a c = some i := fst_some.mpr ⟨by omega, by omega, h, fun j _ hj => hb j hj⟩
theorem dst_no {F : Fl} {K : Nat → Bool} {a : Option Nat} {c : Nat} (hb : ∀ j, j < 36 → lvl F K a j c = false) : dst F K a c = none := fst_none.mpr (fun j _ hj => hb j (by omega))
theorem c_G_stepsBetween (hF : fOK F) (hG : h[4]? = some (gC F)) {K : Nat → Bool} (hK : sub F K) {a : Option Nat} (ha : oOK a) {c : Nat} (hc : c < 36) : Run l g mG_stepsBetween (d + 1) 0 0 [.ref 4, .int (oI a), .int (oI (some c)), .long (mset K)] h (PI (dI (dst F K a c)) h) := by
  refine run_of (by decide) (Nat.le_of_ble_eq_true rfl) ?_
  have hc2 : oOK (some c) := oOK_some hc
  have L : ∀ (m i : Nat), i + m = 36 → (∀ j, j < i → lvl F K a j c = false) → WW l g mG_stepsBetween (zrm (d + 1) 0 0) (fun _ => True) (zQQ g (PI (dI (dst F K a c)) h) (h.length + 0) 0 0) 17 [(0, some (.ref 4)), (3, some (.long (mset K))), (5, some (.long (mset (oneO (some c))))), (7, some (.long (mset (lvl F K a i)))), (9, some (.int (nI i)))] [] h 0 0 := by
    intro m
    induction m with
    | zero =>
      intro i him hb
      have hi : i = 36 := by omega
      subst hi
      refine zw_iload dG_stepsBetween_17 rfl ?_
      refine zw_bipush (v := 36) dG_stepsBetween_19 (by decide) ?_
      refine zw_icmp_ge 71 dG_stepsBetween_21 (by decide) (fun c_21 => ?_) (fun c_21 => ?_)
      · refine zw_bipush (v := (-9)) dG_stepsBetween_71 (by decide) ?_
        exact zw_iret dG_stepsBetween_73 rfl rfl rfl ⟨by rw [dst_no hb]; rfl, rfl⟩
      · exact absurd (by decide) c_21
    | succ m ih =>
      intro i him hb
      refine zw_iload dG_stepsBetween_17 rfl ?_
      refine zw_bipush (v := 36) dG_stepsBetween_19 (by decide) ?_
      refine zw_icmp_ge 71 dG_stepsBetween_21 (by decide) (fun c_21 => ?_) (fun c_21 => ?_)
      · exact absurd ((nI_leI (a := 36) (b := i) (by omega) (by omega)).mp c_21) (by omega)
      · refine zw_lload dG_stepsBetween_24 rfl ?_
        refine zw_lload dG_stepsBetween_26 rfl ?_
        refine zw_land dG_stepsBetween_28 ?_
        refine zw_lconst (v := 0) dG_stepsBetween_29 (by decide) ?_
        refine zw_lcmp dG_stepsBetween_30 ?_
        refine zw_if_eq 37 dG_stepsBetween_31 (by decide) (fun c_31 => ?_) (fun c_31 => ?_)
        · have hf : lvl F K a i c = false := (m_holds hc).mp (lgc_eq _ _ c_31)
          have hb2 : ∀ j, j < i + 1 → lvl F K a j c = false := fun j hj => by
            rcases Nat.lt_or_ge j i with q | q
            · exact hb j q
            · have : j = i := by omega
              subst this; exact hf
          refine zw_lload dG_stepsBetween_37 rfl ?_
          refine zw_aload_n dG_stepsBetween_39 rfl ?_
          refine zw_lload dG_stepsBetween_40 rfl ?_
          refine zc_V1L dG_stepsBetween_42 zm_G_around zk_G_77 hG rfl (c_G_around hF hG (lvl_sub hK i)) ?_ zRR (Nat.le_of_ble_eq_true rfl) ⟨Nat.le_of_ble_eq_true rfl, Nat.le_of_ble_eq_true rfl⟩
          refine zw_lload_n dG_stepsBetween_45 rfl ?_
          refine zw_land dG_stepsBetween_46 ?_
          refine zw_lor dG_stepsBetween_47 ?_
          rw [m_next]
          refine zw_lstore dG_stepsBetween_48 (by decide) rfl ?_
          refine zw_lload dG_stepsBetween_50 rfl ?_
          refine zw_lload dG_stepsBetween_52 rfl ?_
          refine zw_lcmp dG_stepsBetween_54 ?_
          refine zw_if_ne 61 dG_stepsBetween_55 (by decide) (fun c_55 => ?_) (fun c_55 => ?_)
          · refine zw_lload dG_stepsBetween_61 rfl ?_
            refine zw_lstore dG_stepsBetween_63 (by decide) rfl ?_
            refine zw_incN dG_stepsBetween_65 rfl (by decide) rfl ?_
            refine zw_goto 17 dG_stepsBetween_68 (by decide) ?_
            exact zw_lk (ih (i + 1) (by omega) hb2) ⟨rfl, rfl, rfl, rfl, rfl, trivial⟩
          · refine zw_bipush (v := (-9)) dG_stepsBetween_58 (by decide) ?_
            have e := lvl_eq hF hK (lgc_eq _ _ c_55)
            have hno : ∀ j, j < 36 → lvl F K a j c = false := fun j hj => by
              rcases Nat.lt_or_ge j (i + 1) with q | q
              · exact hb2 j q
              · rw [show j = i + (j - i) by omega, lvl_stay e]; exact hf
            exact zw_iret dG_stepsBetween_60 rfl rfl rfl ⟨by rw [dst_no hno]; rfl, rfl⟩
        · refine zw_iload dG_stepsBetween_34 rfl ?_
          exact zw_iret dG_stepsBetween_36 rfl rfl rfl ⟨by rw [dst_hit (by omega) (by cases hq : lvl F K a i c with | true => rfl | false => exact absurd ((m_holds hc).mpr hq) (lgc_ne _ _ c_31)) hb]; rfl, rfl⟩
  refine zw_iload_n dG_stepsBetween_0 rfl ?_
  refine zc_S1L dG_stepsBetween_1 zm_F_only zk_G_53 (c_F_only hc2) ?_ zRR (Nat.le_of_ble_eq_true rfl) ⟨Nat.le_of_ble_eq_true rfl, Nat.le_of_ble_eq_true rfl⟩
  refine zw_lstore dG_stepsBetween_4 (by decide) rfl ?_
  refine zw_iload_n dG_stepsBetween_6 rfl ?_
  refine zc_S1L dG_stepsBetween_7 zm_F_only zk_G_53 (c_F_only (by assumption)) ?_ zRR (Nat.le_of_ble_eq_true rfl) ⟨Nat.le_of_ble_eq_true rfl, Nat.le_of_ble_eq_true rfl⟩
  refine zw_lload_n dG_stepsBetween_10 rfl ?_
  refine zw_land dG_stepsBetween_11 ?_
  rw [m_first (F := F)]
  refine zw_lstore dG_stepsBetween_12 (by decide) rfl ?_
  refine zw_iconst (v := 0) dG_stepsBetween_14 (by decide) ?_
  refine zw_istore dG_stepsBetween_15 (by decide) rfl ?_
  exact zw_lk (L 36 0 rfl (fun j hj => absurd hj (Nat.not_lt_zero _))) ⟨rfl, rfl, rfl, rfl, rfl, trivial⟩
theorem stay_iff {F : Fl} {K : Nat → Bool} {a : Option Nat} {s : Nat} : ((List.range 36).all (fun i => lvl F K a (s + 1) i == lvl F K a s i)) = true ↔ mset (lvl F K a (s + 1)) = mset (lvl F K a s) := by
  rw [m_eq, List.all_eq_true]
  constructor
  · intro h i hi
    simpa using h i (List.mem_range.mpr hi)
  · intro h i hi
    simpa using h i (List.mem_range.mp hi)
theorem c_G_mostSteps (hF : fOK F) (hG : h[4]? = some (gC F)) {K : Nat → Bool} (hK : sub F K) {a : Option Nat} (ha : oOK a) : Run l g mG_mostSteps (d + 1) 0 0 [.ref 4, .int (oI a), .long (mset K)] h (PI (nI (mst F K a)) h) := by
  refine run_of (by decide) (Nat.le_of_ble_eq_true rfl) ?_
  have L : ∀ (m i : Nat), i + m = 36 → (fst (fun s => (List.range 36).all (fun i => lvl F K a (s + 1) i == lvl F K a s i)) m i).getD 35 = mst F K a → WW l g mG_mostSteps (zrm (d + 1) 0 0) (fun _ => True) (zQQ g (PI (nI (mst F K a)) h) (h.length + 0) 0 0) 11 [(0, some (.ref 4)), (2, some (.long (mset K))), (4, some (.long (mset (lvl F K a i)))), (6, some (.int (nI i)))] [] h 0 0 := by
    intro m
    induction m with
    | zero =>
      intro i him hb
      have hi : i = 36 := by omega
      subst hi
      refine zw_iload dG_mostSteps_11 rfl ?_
      refine zw_bipush (v := 36) dG_mostSteps_13 (by decide) ?_
      refine zw_icmp_ge 52 dG_mostSteps_15 (by decide) (fun c_15 => ?_) (fun c_15 => ?_)
      · refine zw_bipush (v := 35) dG_mostSteps_52 (by decide) ?_
        exact zw_iret dG_mostSteps_54 rfl rfl rfl ⟨by rw [← hb]; rfl, rfl⟩
      · exact absurd (by decide) c_15
    | succ m ih =>
      intro i him hb
      refine zw_iload dG_mostSteps_11 rfl ?_
      refine zw_bipush (v := 36) dG_mostSteps_13 (by decide) ?_
      refine zw_icmp_ge 52 dG_mostSteps_15 (by decide) (fun c_15 => ?_) (fun c_15 => ?_)
      · exact absurd ((nI_leI (a := 36) (b := i) (by omega) (by omega)).mp c_15) (by omega)
      · refine zw_lload dG_mostSteps_18 rfl ?_
        refine zw_aload_n dG_mostSteps_20 rfl ?_
        refine zw_lload dG_mostSteps_21 rfl ?_
        refine zc_V1L dG_mostSteps_23 zm_G_around zk_G_77 hG rfl (c_G_around hF hG (lvl_sub hK i)) ?_ zRR (Nat.le_of_ble_eq_true rfl) ⟨Nat.le_of_ble_eq_true rfl, Nat.le_of_ble_eq_true rfl⟩
        refine zw_lload_n dG_mostSteps_26 rfl ?_
        refine zw_land dG_mostSteps_27 ?_
        refine zw_lor dG_mostSteps_28 ?_
        rw [m_next]
        refine zw_lstore dG_mostSteps_29 (by decide) rfl ?_
        refine zw_lload dG_mostSteps_31 rfl ?_
        refine zw_lload dG_mostSteps_33 rfl ?_
        refine zw_lcmp dG_mostSteps_35 ?_
        refine zw_if_ne 42 dG_mostSteps_36 (by decide) (fun c_36 => ?_) (fun c_36 => ?_)
        · refine zw_lload dG_mostSteps_42 rfl ?_
          refine zw_lstore dG_mostSteps_44 (by decide) rfl ?_
          refine zw_incN dG_mostSteps_46 rfl (by decide) rfl ?_
          refine zw_goto 11 dG_mostSteps_49 (by decide) ?_
          have hq : ((List.range 36).all (fun j => lvl F K a (i + 1) j == lvl F K a i j)) = false := by
            cases hq : ((List.range 36).all (fun j => lvl F K a (i + 1) j == lvl F K a i j)) with
            | false => rfl
            | true => exact absurd (stay_iff.mp hq) (lgc_ne _ _ c_36)
          exact zw_lk (ih (i + 1) (by omega) (by rw [← hb, fst_f hq])) ⟨rfl, rfl, rfl, rfl, trivial⟩
        · refine zw_iload dG_mostSteps_39 rfl ?_
          exact zw_iret dG_mostSteps_41 rfl rfl rfl ⟨by rw [← hb, fst_t (stay_iff.mpr (lgc_eq _ _ c_36))]; rfl, rfl⟩
  refine zw_iload_n dG_mostSteps_0 rfl ?_
  refine zc_S1L dG_mostSteps_1 zm_F_only zk_G_53 (c_F_only (by assumption)) ?_ zRR (Nat.le_of_ble_eq_true rfl) ⟨Nat.le_of_ble_eq_true rfl, Nat.le_of_ble_eq_true rfl⟩
  refine zw_lload_n dG_mostSteps_4 rfl ?_
  refine zw_land dG_mostSteps_5 ?_
  rw [m_first (F := F)]
  refine zw_lstore dG_mostSteps_6 (by decide) rfl ?_
  refine zw_iconst (v := 0) dG_mostSteps_8 (by decide) ?_
  refine zw_istore dG_mostSteps_9 (by decide) rfl ?_
  exact zw_lk (L 36 0 rfl rfl) ⟨rfl, rfl, rfl, rfl, trivial⟩
end C21
