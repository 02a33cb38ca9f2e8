/-! ===== the text is read ===== -/
abbrev PS : Type := Nat × Nat × Nat × (Nat → Nat) × Option Nat
def ks (x : Int32) : Option Nat := if x = 46 then some 0 else if x = 35 then some 1 else if x = 33 then some 2 else if x = 110 then some 3 else if x = 100 then some 4 else if x = 68 then some 6 else none
def pCell (P : PS) : Nat := P.1 * P.2.1 + P.2.2.1
def endR (P : PS) : Option PS := if P.2.2.1 = 0 ∨ P.2.2.1 < P.2.1 then none else some (P.1 + 1, P.2.2.1, 0, P.2.2.2.1, P.2.2.2.2)
def takS (P : PS) (k : Nat) : Option PS := if 6 ≤ P.1 ∨ (if P.1 = 0 then 6 else P.2.1) ≤ P.2.2.1 ∨ (k = 6 ∧ P.2.2.2.2 ≠ none) then none
  else some (P.1, P.2.1, P.2.2.1 + 1, (fun i => if i = pCell P then k else P.2.2.2.1 i), if k = 6 then some (pCell P) else P.2.2.2.2)
def takL (P : PS) (x : Int32) : Option PS := if x = 59 then endR P else match ks x with | none => none | some k => takS P k
def prs (T : Nat → Int32) : Nat → Nat → PS → Nat ⊕ PS
  | 0, i, P => if P.2.2.1 = 0 ∧ 0 < P.1 ∧ P.2.2.2.2 ≠ none then .inr P else .inl i
  | m + 1, i, P => if T i = 32 then prs T m (i + 1) P else match takL P (T i) with | none => .inl i | some P' => prs T m (i + 1) P'
def pIni : PS := (0, 0, 0, fun _ => 0, none)
def pOK (P : PS) : Prop := P.1 ≤ 6 ∧ P.2.1 ≤ 6 ∧ P.2.2.1 ≤ 6 ∧ (P.1 = 0 → P.2.1 = 0) ∧ (0 < P.1 → 1 ≤ P.2.1 ∧ P.2.2.1 ≤ P.2.1) ∧ (P.1 = 6 → P.2.2.1 = 0) ∧ (∀ i, i < pCell P → (P.2.2.2.1 i ≤ 4 ∨ P.2.2.2.1 i = 6) ∧ (P.2.2.2.1 i = 6 ↔ P.2.2.2.2 = some i)) ∧ ∀ c, P.2.2.2.2 = some c → c < pCell P
theorem pIni_ok : pOK pIni := ⟨by decide, by decide, by decide, fun _ => rfl, fun h => absurd h (by decide), fun h => (by cases h), fun i hi => absurd hi (Nat.not_lt_zero _), fun c h => (by cases h)⟩
theorem ks_le {x : Int32} {k : Nat} (h : ks x = some k) : k ≤ 4 ∨ k = 6 := by
  unfold ks at h
  repeat (split at h; (cases h; decide))
  cases h
theorem endR_ok {P P' : PS} (h : pOK P) (e : endR P = some P') : pOK P' := by
  obtain ⟨r, w, s, kd, dk⟩ := P
  obtain ⟨h1, h2, h3, h4, h5, h6, h7, h8⟩ := h
  unfold endR at e
  dsimp only at *
  split at e
  · cases e
  case isFalse hn =>
    cases e
    have hs : 0 < s := by omega
    have hr6 : r ≠ 6 := fun q => by have := h6 q; omega
    have ew : 0 < r → w = s := fun q => by have := h5 q; omega
    have ec : (r + 1) * s + 0 = r * w + s := by
      rcases Nat.eq_zero_or_pos r with q | q
      · subst q; simp
      · rw [ew q, Nat.add_mul]; omega
    refine ⟨(by show r + 1 ≤ 6; omega), h3, Nat.zero_le _, fun q => (by cases q), fun _ => ⟨hs, Nat.zero_le _⟩, fun _ => rfl, fun i hi => ?_, fun c hc => ?_⟩
    · have hi' : i < (r + 1) * s + 0 := hi
      rw [ec] at hi'
      exact h7 i hi'
    · show c < (r + 1) * s + 0
      rw [ec]; exact h8 c hc
theorem pc_lt {P : PS} (h : pOK P) (h6 : P.1 < 6) (hs : P.2.2.1 < (if P.1 = 0 then 6 else P.2.1)) : pCell P < 36 := by
  obtain ⟨r, w, s, kd, dk⟩ := P
  obtain ⟨h1, h2, h3, h4, h5, -⟩ := h
  dsimp only at *
  show r * w + s < 36
  rcases Nat.eq_zero_or_pos r with q | q
  · subst q; simp at *; omega
  · rw [if_neg (by omega)] at hs
    have : r * w ≤ 5 * w := Nat.mul_le_mul_right w (by omega)
    omega
theorem takS_ok {P P' : PS} {k : Nat} (h : pOK P) (hk : k ≤ 4 ∨ k = 6) (e : takS P k = some P') : pOK P' := by
  have hp := pc_lt h
  obtain ⟨r, w, s, kd, dk⟩ := P
  obtain ⟨h1, h2, h3, h4, h5, h6, h7, h8⟩ := h
  unfold takS at e
  dsimp only at *
  by_cases hn : 6 ≤ r ∨ (if r = 0 then 6 else w) ≤ s ∨ (k = 6 ∧ dk ≠ none)
  · rw [if_pos hn] at e; cases e
  · rw [if_neg hn] at e
    cases e
    have hr : r < 6 := by omega
    have hs : s < (if r = 0 then 6 else w) := by omega
    have ec : r * w + (s + 1) = r * w + s + 1 := by omega
    refine ⟨h1, h2, ?_, h4, fun q => ⟨(h5 q).1, ?_⟩, fun q => absurd q (by show r ≠ 6; omega), fun i hi => ?_, fun c hc => ?_⟩
    · show s + 1 ≤ 6
      split at hs <;> omega
    · show s + 1 ≤ w
      have q' : 0 < r := q
      rw [if_neg (by omega)] at hs
      omega
    · have hi' : i < r * w + s + 1 := hi
      show ((if i = r * w + s then k else kd i) ≤ 4 ∨ (if i = r * w + s then k else kd i) = 6) ∧ ((if i = r * w + s then k else kd i) = 6 ↔ (if k = 6 then some (r * w + s) else dk) = some i)
      by_cases ei : i = r * w + s
      · rw [if_pos ei]
        refine ⟨hk, ?_⟩
        constructor
        · intro q; rw [if_pos q, ei]
        · intro q
          by_cases k6 : k = 6
          · exact k6
          · rw [if_neg k6] at q
            have : i < r * w + s := h8 i q
            omega
      · rw [if_neg ei]
        have hi2 : i < r * w + s := by omega
        refine ⟨(h7 i hi2).1, ?_⟩
        by_cases k6 : k = 6
        · rw [if_pos k6]
          have hdk : dk = none := Classical.byContradiction fun q => hn (Or.inr (Or.inr ⟨k6, q⟩))
          constructor
          · intro q; have := (h7 i hi2).2.mp q; rw [hdk] at this; cases this
          · intro q; exact absurd (Option.some.inj q).symm ei
        · rw [if_neg k6]; exact (h7 i hi2).2
    · show c < r * w + (s + 1)
      have hc' : (if k = 6 then some (r * w + s) else dk) = some c := hc
      by_cases k6 : k = 6
      · rw [if_pos k6] at hc'
        have := Option.some.inj hc'
        omega
      · rw [if_neg k6] at hc'
        have : c < r * w + s := h8 c hc'
        omega
theorem takL_ok {P P' : PS} {x : Int32} (h : pOK P) (e : takL P x = some P') : pOK P' := by
  unfold takL at e
  split at e
  · exact endR_ok h e
  · cases hk : ks x with
    | none => rw [hk] at e; cases e
    | some k => rw [hk] at e; exact takS_ok h (ks_le hk) e
theorem prs_ok {T : Nat → Int32} : ∀ {m i : Nat} {P P' : PS}, pOK P → prs T m i P = .inr P' → pOK P' ∧ P'.2.2.1 = 0 ∧ 0 < P'.1 ∧ P'.2.2.2.2 ≠ none := by
  intro m
  induction m with
  | zero =>
    intro i P P' h e
    simp only [prs] at e
    split at e
    case isTrue hq => cases e; exact ⟨h, hq⟩
    case isFalse => cases e
  | succ m ih =>
    intro i P P' h e
    simp only [prs] at e
    split at e
    · exact ih h e
    · cases ht : takL P (T i) with
      | none => rw [ht] at e; cases e
      | some P1 => rw [ht] at e; exact ih (takL_ok h ht) e
theorem prs_le {T : Nat → Int32} : ∀ {m i f : Nat} {P : PS}, prs T m i P = .inl f → f ≤ i + m := by
  intro m
  induction m with
  | zero =>
    intro i f P e
    simp only [prs] at e
    split at e
    · cases e
    · cases e; omega
  | succ m ih =>
    intro i f P e
    simp only [prs] at e
    split at e
    · have := ih e; omega
    · cases ht : takL P (T i) with
      | none => rw [ht] at e; cases e; omega
      | some P1 => rw [ht] at e; have := ih e; omega
/-- the floor that was read -/
def pFl (P : PS) : Fl := (P.2.1, P.1, P.2.2.2.2.getD 0, P.2.2.2.1)
theorem pFl_ok {P : PS} (h : pOK P) (h0 : P.2.2.1 = 0) (hr : 0 < P.1) (hd : P.2.2.2.2 ≠ none) : fOK (pFl P) := by
  obtain ⟨r, w, s, kd, dk⟩ := P
  obtain ⟨h1, h2, h3, h4, h5, h6, h7, h8⟩ := h
  dsimp only at *
  subst h0
  obtain ⟨hw, -⟩ := h5 hr
  have en : r * w + 0 = w * r := by rw [Nat.mul_comm]; rfl
  cases dk with
  | none => exact absurd rfl hd
  | some c =>
    have hc : c < w * r := by have : c < r * w + 0 := h8 c rfl; rw [en] at this; exact this
    refine ⟨⟨hw, h2⟩, ⟨hr, h1⟩, hc, fun i hi => ?_⟩
    have hi' : i < r * w + 0 := by rw [en]; exact hi
    obtain ⟨a, b⟩ := h7 i hi'
    refine ⟨a, ?_⟩
    show kd i = 6 ↔ i = c
    rw [b]
    constructor
    · intro q; exact (Option.some.inj q).symm
    · intro q; rw [q]
def psC (len : Nat) (P : PS) : zC := txC (nI len) (nI (pCell P)) (nI P.2.1) (nI P.1) (nI P.2.2.1) (oI P.2.2.2.2)
def kdA (kf : Nat → Int32) : zC := .inl (0, 36, .inl kf)
section C39
variable {l : Launch} {g : zG} {d : Nat} {h : zH}
theorem c_T_kindOfSign {x : Int32} : Run l g mT_kindOfSign d 0 0 [.int x] h (PI (dI (ks x)) h) := by
  refine run_of (by decide) (Nat.le_of_ble_eq_true rfl) ?_
  refine zw_iload_n dT_kindOfSign_0 rfl ?_
  by_cases e1 : x = 46
  · subst e1
    refine zw_look 60 dT_kindOfSign_1 (off := 59) (by decide) (by decide) (by decide) ?_
    refine zw_iconst (v := 0) dT_kindOfSign_60 (by decide) ?_
    exact zw_iret dT_kindOfSign_61 rfl rfl rfl ⟨rfl, rfl⟩
  by_cases e2 : x = 35
  · subst e2
    refine zw_look 62 dT_kindOfSign_1 (off := 61) (by decide) (by decide) (by decide) ?_
    refine zw_iconst (v := 1) dT_kindOfSign_62 (by decide) ?_
    exact zw_iret dT_kindOfSign_63 rfl rfl rfl ⟨rfl, rfl⟩
  by_cases e3 : x = 33
  · subst e3
    refine zw_look 64 dT_kindOfSign_1 (off := 63) (by decide) (by decide) (by decide) ?_
    refine zw_iconst (v := 2) dT_kindOfSign_64 (by decide) ?_
    exact zw_iret dT_kindOfSign_65 rfl rfl rfl ⟨rfl, rfl⟩
  by_cases e4 : x = 110
  · subst e4
    refine zw_look 66 dT_kindOfSign_1 (off := 65) (by decide) (by decide) (by decide) ?_
    refine zw_iconst (v := 3) dT_kindOfSign_66 (by decide) ?_
    exact zw_iret dT_kindOfSign_67 rfl rfl rfl ⟨rfl, rfl⟩
  by_cases e5 : x = 100
  · subst e5
    refine zw_look 68 dT_kindOfSign_1 (off := 67) (by decide) (by decide) (by decide) ?_
    refine zw_iconst (v := 4) dT_kindOfSign_68 (by decide) ?_
    exact zw_iret dT_kindOfSign_69 rfl rfl rfl ⟨rfl, rfl⟩
  by_cases e6 : x = 68
  · subst e6
    refine zw_look 70 dT_kindOfSign_1 (off := 69) (by decide) (by decide) (by decide) ?_
    refine zw_bipush (v := 6) dT_kindOfSign_70 (by decide) ?_
    exact zw_iret dT_kindOfSign_72 rfl rfl rfl ⟨rfl, rfl⟩
  have ne : ∀ (c : Int32), ¬ x = c → ¬ c.toInt = x.toInt := fun c h q => h (Int32.toInt_inj.mp q.symm)
  have n1 := ne 46 e1
  have n2 := ne 35 e2
  have n3 := ne 33 e3
  have n4 := ne 110 e4
  have n5 := ne 100 e5
  have n6 := ne 68 e6
  rw [show (46 : Int32).toInt = 46 from by decide] at n1
  rw [show (35 : Int32).toInt = 35 from by decide] at n2
  rw [show (33 : Int32).toInt = 33 from by decide] at n3
  rw [show (110 : Int32).toInt = 110 from by decide] at n4
  rw [show (100 : Int32).toInt = 100 from by decide] at n5
  rw [show (68 : Int32).toInt = 68 from by decide] at n6
  have hk : ks x = none := by simp [ks, e1, e2, e3, e4, e5, e6]
  rw [hk]
  refine zw_look 73 dT_kindOfSign_1 (by decide) (off := 72) ?_ (by decide) ?_
  · simp [Op.lookupswitch.offset, n1, n2, n3, n4, n5, n6]
  refine zw_bipush (v := (-9)) dT_kindOfSign_73 (by decide) ?_
  exact zw_iret dT_kindOfSign_75 rfl rfl rfl ⟨rfl, rfl⟩
theorem c_T_endsRow {len : Nat} {P : PS} (hP : pOK P) (t1 : h[1]? = some (psC len P)) : Run l g mT_endsRow d 0 0 [.ref 1] h (match endR P with | none => PI 0 h | some P' => PI 1 (h.set 1 (psC len P'))) := by
  obtain ⟨r, w, s, kd, dk⟩ := P
  obtain ⟨h1, h2, h3, h4, h5, h6, h7, h8⟩ := hP
  dsimp only at *
  have t1 : h[1]? = some (txC (nI len) (nI (r * w + s)) (nI w) (nI r) (nI s) (oI dk)) := t1
  unfold endR
  dsimp only
  by_cases hn : s = 0 ∨ s < w
  · rw [if_pos hn]
    dsimp only
    refine run_of (by decide) (Nat.le_of_ble_eq_true rfl) ?_
    refine zw_aload_n dT_endsRow_0 rfl ?_
    refine zw_get dT_endsRow_1 zf_T_31 t1 rfl ?_
    refine zw_if_eq 18 dT_endsRow_4 (by decide) (fun c_4 => ?_) (fun c_4 => ?_)
    · refine zw_iconst (v := 0) dT_endsRow_18 (by decide) ?_
      exact zw_iret dT_endsRow_19 rfl rfl rfl ⟨rfl, rfl⟩
    · refine zw_aload_n dT_endsRow_7 rfl ?_
      refine zw_get dT_endsRow_8 zf_T_31 t1 rfl ?_
      refine zw_aload_n dT_endsRow_11 rfl ?_
      refine zw_get dT_endsRow_12 zf_T_25 t1 rfl ?_
      refine zw_icmp_ge 20 dT_endsRow_15 (by decide) (fun c_15 => ?_) (fun c_15 => ?_)
      · exact absurd hn (by have c1 : ¬ s = 0 := fun q => c_4 (by show nI s = 0; rw [q]; rfl); have c2 := (nI_leI (by omega) (by omega)).mp c_15; omega)
      · refine zw_iconst (v := 0) dT_endsRow_18 (by decide) ?_
        exact zw_iret dT_endsRow_19 rfl rfl rfl ⟨rfl, rfl⟩
  · rw [if_neg hn]
    dsimp only
    have ec : (r + 1) * s + 0 = r * w + s := by
      rcases Nat.eq_zero_or_pos r with q | q
      · subst q; simp
      · have ew : w = s := by have := h5 q; omega
        rw [ew, Nat.add_mul]; omega
    refine run_of (by decide) (Nat.le_of_ble_eq_true rfl) ?_
    refine zw_aload_n dT_endsRow_0 rfl ?_
    refine zw_get dT_endsRow_1 zf_T_31 t1 rfl ?_
    refine zw_if_eq 18 dT_endsRow_4 (by decide) (fun c_4 => ?_) (fun c_4 => ?_)
    · exact absurd ((nI_eq (b := 0) (by omega) (by decide)).mp c_4) (by omega)
    · refine zw_aload_n dT_endsRow_7 rfl ?_
      refine zw_get dT_endsRow_8 zf_T_31 t1 rfl ?_
      refine zw_aload_n dT_endsRow_11 rfl ?_
      refine zw_get dT_endsRow_12 zf_T_25 t1 rfl ?_
      refine zw_icmp_ge 20 dT_endsRow_15 (by decide) (fun c_15 => ?_) (fun c_15 => ?_)
      · refine zw_aload_n dT_endsRow_20 rfl ?_
        refine zw_aload_n dT_endsRow_21 rfl ?_
        refine zw_get dT_endsRow_22 zf_T_31 t1 rfl ?_
        refine zw_puti dT_endsRow_25 zf_T_25 t1 (Nat.le_of_ble_eq_true rfl) ?_
        refine zw_aload_n dT_endsRow_28 rfl ?_
        refine zw_dup dT_endsRow_29 rfl ?_
        refine zw_get dT_endsRow_30 zf_T_28 (by exact zg_eq t1) rfl ?_
        refine zw_iconst (v := 1) dT_endsRow_33 (by decide) ?_
        refine zw_iadd dT_endsRow_34 ?_
        rw [nI_1]
        refine zw_puti dT_endsRow_35 zf_T_28 (by exact zg_eq t1) (Nat.le_of_ble_eq_true rfl) ?_
        refine zw_h (zs_set _ _ _ _) ?_
        refine zw_aload_n dT_endsRow_38 rfl ?_
        refine zw_iconst (v := 0) dT_endsRow_39 (by decide) ?_
        refine zw_puti dT_endsRow_40 zf_T_31 (by exact zg_eq t1) (Nat.le_of_ble_eq_true rfl) ?_
        refine zw_h (zs_set _ _ _ _) ?_
        refine zw_h (h2 := h.set 1 (psC len (r + 1, s, 0, kd, dk))) (by unfold psC pCell; dsimp only; rw [ec]; rfl) ?_
        refine zw_iconst (v := 1) dT_endsRow_43 (by decide) ?_
        exact zw_iret dT_endsRow_44 rfl rfl (by simp) ⟨rfl, rfl⟩
      · exact absurd (nI_le (by omega) (by omega)) c_15
theorem c_T_takesSign0 {len : Nat} {P : PS} (t1 : h[1]? = some (psC len P)) : Run l g mT_takesSign d 0 0 [.ref 1, .int (-9)] h (PI 0 h) := by
  obtain ⟨r, w, s, kd, dk⟩ := P
  have t1 : h[1]? = some (txC (nI len) (nI (r * w + s)) (nI w) (nI r) (nI s) (oI dk)) := t1
  refine run_of (by decide) (Nat.le_of_ble_eq_true rfl) ?_
  refine zw_aload_n dT_takesSign_0 rfl ?_
  refine zw_get dT_takesSign_1 zf_T_28 t1 rfl ?_
  refine zw_if_ne 12 dT_takesSign_4 (by decide) (fun c_4 => ?_) (fun c_4 => ?_)
  · refine zw_aload_n dT_takesSign_12 rfl ?_
    refine zw_get dT_takesSign_13 zf_T_25 t1 rfl ?_
    refine zw_istore_n dT_takesSign_16 (by decide) rfl ?_
    refine zw_iload_n dT_takesSign_17 rfl ?_
    refine zw_bipush (v := (-9)) dT_takesSign_18 (by decide) ?_
    refine zw_icmp_eq 49 dT_takesSign_20 (by decide) (fun c_20 => ?_) (fun c_20 => ?_)
    · refine zw_iconst (v := 0) dT_takesSign_49 (by decide) ?_
      exact zw_iret dT_takesSign_50 rfl rfl rfl ⟨rfl, rfl⟩
    · exact absurd rfl c_20
  · refine zw_bipush (v := 6) dT_takesSign_7 (by decide) ?_
    refine zw_goto 16 dT_takesSign_9 (by decide) ?_
    refine zw_istore_n dT_takesSign_16 (by decide) rfl ?_
    refine zw_iload_n dT_takesSign_17 rfl ?_
    refine zw_bipush (v := (-9)) dT_takesSign_18 (by decide) ?_
    refine zw_icmp_eq 49 dT_takesSign_20 (by decide) (fun c_20 => ?_) (fun c_20 => ?_)
    · refine zw_iconst (v := 0) dT_takesSign_49 (by decide) ?_
      exact zw_iret dT_takesSign_50 rfl rfl rfl ⟨rfl, rfl⟩
    · exact absurd rfl c_20
theorem c_T_takesSign {len : Nat} {P : PS} (hP : pOK P) {k : Nat} (hk : k ≤ 4 ∨ k = 6) (t1 : h[1]? = some (psC len P)) {kf : Nat → Int32} (t3 : h[3]? = some (kdA kf)) : Run l g mT_takesSign d 0 0 [.ref 1, .int (nI k)] h (match takS P k with | none => PI 0 h | some P' => PI 1 ((h.set 3 (kdA (upd kf (pCell P) (nI k)))).set 1 (psC len P'))) := by
  have hpc := pc_lt hP
  obtain ⟨r, w, s, kd, dk⟩ := P
  obtain ⟨h1, h2, h3, h4, h5, h6, h7, h8⟩ := hP
  dsimp only at *
  have t1 : h[1]? = some (txC (nI len) (nI (r * w + s)) (nI w) (nI r) (nI s) (oI dk)) := t1
  have hpc : r < 6 → s < (if r = 0 then 6 else w) → r * w + s < 36 := hpc
  have hdk36 : ∀ c, dk = some c → c < r * w + s := h8
  have hrw : r * w + s ≤ 42 := by have := Nat.mul_le_mul h1 h2; omega
  have hdkI : ∀ (q : ¬ dk = none), oI dk ≠ -1 := by
    intro q
    cases hdk : dk with
    | none => exact absurd hdk q
    | some c =>
      intro e
      have hc := hdk36 c hdk
      have q' : (nI c).toInt = (-1 : Int32).toInt := by rw [show nI c = -1 from e]
      rw [nI_toInt (by omega), show (-1 : Int32).toInt = -1 from by decide] at q'
      omega
  have hk9 : nI k ≠ -9 := by
    intro e
    have q' : (nI k).toInt = (-9 : Int32).toInt := by rw [e]
    rw [nI_toInt (by omega), show (-9 : Int32).toInt = -9 from by decide] at q'
    omega
  have hmost : ∃ mo, mo = (if r = 0 then 6 else w) ∧ mo ≤ 6 := ⟨_, rfl, by split <;> omega⟩
  obtain ⟨mo, hmo, hmo6⟩ := hmost
  unfold takS
  dsimp only
  rw [← hmo] at hpc ⊢
  -- behind 17, with the most signs that a row has
  have E : WW l g mT_takesSign (zrm d 0 0) (fun _ => True) (zQQ g (match (if 6 ≤ r ∨ mo ≤ s ∨ (k = 6 ∧ dk ≠ none) then (none : Option PS) else some (r, w, s + 1, (fun i => if i = pCell (r, w, s, kd, dk) then k else kd i), if k = 6 then some (pCell (r, w, s, kd, dk)) else dk)) with | none => PI 0 h | some P' => PI 1 ((h.set 3 (kdA (upd kf (pCell (r, w, s, kd, dk)) (nI k)))).set 1 (psC len P'))) (h.length + 0) 0 0) 17 [(0, some (.ref 1)), (1, some (.int (nI k))), (2, some (.int (nI mo)))] [] h 0 0 := by
    by_cases hn : 6 ≤ r ∨ mo ≤ s ∨ (k = 6 ∧ dk ≠ none)
    · rw [if_pos hn]
      dsimp only
      refine zw_iload_n dT_takesSign_17 rfl ?_
      refine zw_bipush (v := (-9)) dT_takesSign_18 (by decide) ?_
      refine zw_icmp_eq 49 dT_takesSign_20 (by decide) (fun c_20 => ?_) (fun c_20 => ?_)
      · exact absurd c_20 hk9
      · refine zw_aload_n dT_takesSign_23 rfl ?_
        refine zw_get dT_takesSign_24 zf_T_28 t1 rfl ?_
        refine zw_bipush (v := 6) dT_takesSign_27 (by decide) ?_
        refine zw_icmp_ge 49 dT_takesSign_29 (by decide) (fun c_29 => ?_) (fun c_29 => ?_)
        · refine zw_iconst (v := 0) dT_takesSign_49 (by decide) ?_
          exact zw_iret dT_takesSign_50 rfl rfl rfl ⟨rfl, rfl⟩
        · refine zw_aload_n dT_takesSign_32 rfl ?_
          refine zw_get dT_takesSign_33 zf_T_31 t1 rfl ?_
          refine zw_iload_n dT_takesSign_36 rfl ?_
          refine zw_icmp_ge 49 dT_takesSign_37 (by decide) (fun c_37 => ?_) (fun c_37 => ?_)
          · refine zw_iconst (v := 0) dT_takesSign_49 (by decide) ?_
            exact zw_iret dT_takesSign_50 rfl rfl rfl ⟨rfl, rfl⟩
          · refine zw_aload_n dT_takesSign_40 rfl ?_
            refine zw_get dT_takesSign_41 zf_T_22 t1 rfl ?_
            refine zw_bipush (v := 36) dT_takesSign_44 (by decide) ?_
            refine zw_icmp_lt 51 dT_takesSign_46 (by decide) (fun c_46 => ?_) (fun c_46 => ?_)
            · refine zw_iload_n dT_takesSign_51 rfl ?_
              refine zw_bipush (v := 6) dT_takesSign_52 (by decide) ?_
              have f1 : ¬ 6 ≤ r := fun q => c_29 (nI_le (a := 6) q (by omega))
              have f2 : ¬ mo ≤ s := fun q => c_37 (nI_le q (by omega))
              have f3 : k = 6 ∧ dk ≠ none := by rcases hn with q | q | q; exact absurd q f1; exact absurd q f2; exact q
              refine zw_icmp_ne 67 dT_takesSign_54 (by decide) (fun c_54 => ?_) (fun c_54 => ?_)
              · exact absurd (by rw [f3.1]; rfl) c_54
              · refine zw_aload_n dT_takesSign_57 rfl ?_
                refine zw_get dT_takesSign_58 zf_T_34 t1 rfl ?_
                refine zw_iconst (v := -1) dT_takesSign_61 (by decide) ?_
                refine zw_icmp_eq 67 dT_takesSign_62 (by decide) (fun c_62 => ?_) (fun c_62 => ?_)
                · exact absurd c_62 (hdkI f3.2)
                · refine zw_iconst (v := 0) dT_takesSign_65 (by decide) ?_
                  exact zw_iret dT_takesSign_66 rfl rfl rfl ⟨rfl, rfl⟩
            · refine zw_iconst (v := 0) dT_takesSign_49 (by decide) ?_
              exact zw_iret dT_takesSign_50 rfl rfl rfl ⟨rfl, rfl⟩
    · rw [if_neg hn]
      dsimp only
      have f1 : r < 6 := by omega
      have f2 : s < mo := by omega
      have f3 : k = 6 → dk = none := fun q => Classical.byContradiction fun r' => hn (Or.inr (Or.inr ⟨q, r'⟩))
      have hpc36 := hpc f1 f2
      have ecl : (nI (r * w + s)).toNatClampNeg = r * w + s := nI_clamp (by omega)
      -- the end, from 81
      have E2 : ∀ (dk' : Option Nat), dk' = (if k = 6 then some (r * w + s) else dk) → WW l g mT_takesSign (zrm d 0 0) (fun _ => True) (zQQ g (PI 1 ((h.set 3 (kdA (upd kf (r * w + s) (nI k)))).set 1 (psC len (r, w, s + 1, (fun i => if i = r * w + s then k else kd i), if k = 6 then some (r * w + s) else dk)))) (h.length + 0) 0 0) 81 [(0, some (.ref 1)), (1, some (.int (nI k))), (2, some (.int (nI mo)))] [] (h.set 1 (txC (nI len) (nI (r * w + s)) (nI w) (nI r) (nI s) (oI dk'))) 0 0 := by
        intro dk' hdk'
        have v1 : (h.set 1 (txC (nI len) (nI (r * w + s)) (nI w) (nI r) (nI s) (oI dk')))[1]? = some (txC (nI len) (nI (r * w + s)) (nI w) (nI r) (nI s) (oI dk')) := zg_eq t1
        have v3 : (h.set 1 (txC (nI len) (nI (r * w + s)) (nI w) (nI r) (nI s) (oI dk')))[3]? = some (kdA kf) := zg_ne (by decide) t3
        refine zw_aload_n dT_takesSign_81 rfl ?_
        refine zw_get dT_takesSign_82 zf_T_15 v1 rfl ?_
        refine zw_aload_n dT_takesSign_85 rfl ?_
        refine zw_get dT_takesSign_86 zf_T_22 v1 rfl ?_
        refine zw_iload_n dT_takesSign_89 rfl ?_
        refine zw_iast dT_takesSign_90 v3 (vp_in_nI hpc36 (by decide)) ?_
        rw [ecl]
        refine zw_aload_n dT_takesSign_91 rfl ?_
        refine zw_dup dT_takesSign_92 rfl ?_
        refine zw_get dT_takesSign_93 zf_T_22 (by first | exact zg_ne (by decide) v1 | exact zg_eq (zg_ne (by decide) v1)) rfl ?_
        refine zw_iconst (v := 1) dT_takesSign_96 (by decide) ?_
        refine zw_iadd dT_takesSign_97 ?_
        rw [nI_1]
        refine zw_puti dT_takesSign_98 zf_T_22 (by first | exact zg_ne (by decide) v1 | exact zg_eq (zg_ne (by decide) v1)) (Nat.le_of_ble_eq_true rfl) ?_
        refine zw_aload_n dT_takesSign_101 rfl ?_
        refine zw_dup dT_takesSign_102 rfl ?_
        refine zw_get dT_takesSign_103 zf_T_31 (by first | exact zg_ne (by decide) v1 | exact zg_eq (zg_ne (by decide) v1)) rfl ?_
        refine zw_iconst (v := 1) dT_takesSign_106 (by decide) ?_
        refine zw_iadd dT_takesSign_107 ?_
        rw [nI_1]
        refine zw_puti dT_takesSign_108 zf_T_31 (by first | exact zg_ne (by decide) v1 | exact zg_eq (zg_ne (by decide) v1)) (Nat.le_of_ble_eq_true rfl) ?_
        refine zw_h (zs_set _ _ _ _) ?_
        refine zw_h (h2 := (h.set 3 (kdA (upd kf (r * w + s) (nI k)))).set 1 (psC len (r, w, s + 1, (fun i => if i = r * w + s then k else kd i), if k = 6 then some (r * w + s) else dk))) (by rw [zs_comm _ _ _ (show (1 : Nat) ≠ 3 by decide), zs_set, ← hdk']; unfold psC pCell; dsimp only; rw [show r * w + (s + 1) = r * w + s + 1 by omega]; rfl) ?_
        refine zw_iconst (v := 1) dT_takesSign_111 (by decide) ?_
        exact zw_iret dT_takesSign_112 rfl rfl (by simp) ⟨rfl, rfl⟩
      refine zw_iload_n dT_takesSign_17 rfl ?_
      refine zw_bipush (v := (-9)) dT_takesSign_18 (by decide) ?_
      refine zw_icmp_eq 49 dT_takesSign_20 (by decide) (fun c_20 => ?_) (fun c_20 => ?_)
      · exact absurd c_20 hk9
      · refine zw_aload_n dT_takesSign_23 rfl ?_
        refine zw_get dT_takesSign_24 zf_T_28 t1 rfl ?_
        refine zw_bipush (v := 6) dT_takesSign_27 (by decide) ?_
        refine zw_icmp_ge 49 dT_takesSign_29 (by decide) (fun c_29 => ?_) (fun c_29 => ?_)
        · exact absurd ((nI_leI (a := 6) (by decide) (by omega)).mp c_29) (by omega)
        · refine zw_aload_n dT_takesSign_32 rfl ?_
          refine zw_get dT_takesSign_33 zf_T_31 t1 rfl ?_
          refine zw_iload_n dT_takesSign_36 rfl ?_
          refine zw_icmp_ge 49 dT_takesSign_37 (by decide) (fun c_37 => ?_) (fun c_37 => ?_)
          · exact absurd ((nI_leI (by omega) (by omega)).mp c_37) (by omega)
          · refine zw_aload_n dT_takesSign_40 rfl ?_
            refine zw_get dT_takesSign_41 zf_T_22 t1 rfl ?_
            refine zw_bipush (v := 36) dT_takesSign_44 (by decide) ?_
            refine zw_icmp_lt 51 dT_takesSign_46 (by decide) (fun c_46 => ?_) (fun c_46 => ?_)
            · refine zw_iload_n dT_takesSign_51 rfl ?_
              refine zw_bipush (v := 6) dT_takesSign_52 (by decide) ?_
              refine zw_icmp_ne 67 dT_takesSign_54 (by decide) (fun c_54 => ?_) (fun c_54 => ?_)
              · refine zw_iload_n dT_takesSign_67 rfl ?_
                refine zw_bipush (v := 6) dT_takesSign_68 (by decide) ?_
                refine zw_icmp_ne 81 dT_takesSign_70 (by decide) (fun c_70 => ?_) (fun c_70 => ?_)
                · first
                    | (have k6 : k = 6 := (nI_eq (b := 6) (by omega) (by decide)).mp (Classical.byContradiction fun q => q c_70)
                       exact zw_lk (E2 (some (r * w + s)) (by rw [if_pos k6])) ⟨rfl, rfl, rfl, trivial⟩)
                    | (have k6 : ¬ k = 6 := fun q => c_70 (by rw [q]; rfl)
                       refine zw_h (zs_self t1).symm ?_
                       exact zw_lk (E2 dk (by rw [if_neg k6])) ⟨rfl, rfl, rfl, trivial⟩)
                · refine zw_aload_n dT_takesSign_73 rfl ?_
                  refine zw_aload_n dT_takesSign_74 rfl ?_
                  refine zw_get dT_takesSign_75 zf_T_22 t1 rfl ?_
                  refine zw_puti dT_takesSign_78 zf_T_34 t1 (Nat.le_of_ble_eq_true rfl) ?_
                  refine zw_h (h2 := h.set 1 (txC (nI len) (nI (r * w + s)) (nI w) (nI r) (nI s) (oI (some (r * w + s))))) rfl ?_
                  first
                    | (have k6 : k = 6 := (nI_eq (b := 6) (by omega) (by decide)).mp (Classical.byContradiction fun q => q c_70)
                       exact zw_lk (E2 (some (r * w + s)) (by rw [if_pos k6])) ⟨rfl, rfl, rfl, trivial⟩)
                    | (have k6 : ¬ k = 6 := fun q => c_70 (by rw [q]; rfl)
                       refine zw_h (zs_self t1).symm ?_
                       exact zw_lk (E2 dk (by rw [if_neg k6])) ⟨rfl, rfl, rfl, trivial⟩)
              · refine zw_aload_n dT_takesSign_57 rfl ?_
                refine zw_get dT_takesSign_58 zf_T_34 t1 rfl ?_
                refine zw_iconst (v := (-1)) dT_takesSign_61 (by decide) ?_
                refine zw_icmp_eq 67 dT_takesSign_62 (by decide) (fun c_62 => ?_) (fun c_62 => ?_)
                · refine zw_iload_n dT_takesSign_67 rfl ?_
                  refine zw_bipush (v := 6) dT_takesSign_68 (by decide) ?_
                  refine zw_icmp_ne 81 dT_takesSign_70 (by decide) (fun c_70 => ?_) (fun c_70 => ?_)
                  · first
                      | (have k6 : k = 6 := (nI_eq (b := 6) (by omega) (by decide)).mp (Classical.byContradiction fun q => q c_70)
                         exact zw_lk (E2 (some (r * w + s)) (by rw [if_pos k6])) ⟨rfl, rfl, rfl, trivial⟩)
                      | (have k6 : ¬ k = 6 := fun q => c_70 (by rw [q]; rfl)
                         refine zw_h (zs_self t1).symm ?_
                         exact zw_lk (E2 dk (by rw [if_neg k6])) ⟨rfl, rfl, rfl, trivial⟩)
                  · refine zw_aload_n dT_takesSign_73 rfl ?_
                    refine zw_aload_n dT_takesSign_74 rfl ?_
                    refine zw_get dT_takesSign_75 zf_T_22 t1 rfl ?_
                    refine zw_puti dT_takesSign_78 zf_T_34 t1 (Nat.le_of_ble_eq_true rfl) ?_
                    refine zw_h (h2 := h.set 1 (txC (nI len) (nI (r * w + s)) (nI w) (nI r) (nI s) (oI (some (r * w + s))))) rfl ?_
                    first
                      | (have k6 : k = 6 := (nI_eq (b := 6) (by omega) (by decide)).mp (Classical.byContradiction fun q => q c_70)
                         exact zw_lk (E2 (some (r * w + s)) (by rw [if_pos k6])) ⟨rfl, rfl, rfl, trivial⟩)
                      | (have k6 : ¬ k = 6 := fun q => c_70 (by rw [q]; rfl)
                         refine zw_h (zs_self t1).symm ?_
                         exact zw_lk (E2 dk (by rw [if_neg k6])) ⟨rfl, rfl, rfl, trivial⟩)
                · have k6 : k = 6 := (nI_eq (b := 6) (by omega) (by decide)).mp (Classical.byContradiction fun q => q c_54)
                  exact absurd (by rw [f3 k6]; rfl) c_62
            · exact absurd (nI_lt (b := 36) hpc36 (by decide)) c_46
  refine run_of (by decide) (Nat.le_of_ble_eq_true rfl) ?_
  by_cases hr0 : r = 0
  · have e6 : mo = 6 := by rw [hmo, if_pos hr0]
    subst e6
    refine zw_aload_n dT_takesSign_0 rfl ?_
    refine zw_get dT_takesSign_1 zf_T_28 t1 rfl ?_
    refine zw_if_ne 12 dT_takesSign_4 (by decide) (fun c_4 => ?_) (fun c_4 => ?_)
    · exact absurd (by rw [hr0]; rfl) c_4
    · refine zw_bipush (v := 6) dT_takesSign_7 (by decide) ?_
      refine zw_goto 16 dT_takesSign_9 (by decide) ?_
      refine zw_istore_n dT_takesSign_16 (by decide) rfl ?_
      exact zw_lk E ⟨rfl, rfl, rfl, trivial⟩
  · have e6 : mo = w := by rw [hmo, if_neg hr0]
    subst e6
    refine zw_aload_n dT_takesSign_0 rfl ?_
    refine zw_get dT_takesSign_1 zf_T_28 t1 rfl ?_
    refine zw_if_ne 12 dT_takesSign_4 (by decide) (fun c_4 => ?_) (fun c_4 => ?_)
    · refine zw_aload_n dT_takesSign_12 rfl ?_
      refine zw_get dT_takesSign_13 zf_T_25 t1 rfl ?_
      refine zw_istore_n dT_takesSign_16 (by decide) rfl ?_
      exact zw_lk E ⟨rfl, rfl, rfl, trivial⟩
    · exact absurd ((nI_eq (b := 0) (by omega) (by decide)).mp c_4) hr0
end C39
