/-! ===== the floor ===== -/
abbrev Fl : Type := Nat × Nat × Nat × (Nat → Nat)
def fW (F : Fl) : Nat := F.1
def fH (F : Fl) : Nat := F.2.1
def fD (F : Fl) : Nat := F.2.2.1
def fK (F : Fl) : Nat → Nat := F.2.2.2
def fN (F : Fl) : Nat := F.1 * F.2.1
def fOK (F : Fl) : Prop := (1 ≤ fW F ∧ fW F ≤ 6) ∧ (1 ≤ fH F ∧ fH F ≤ 6) ∧ fD F < fN F ∧ ∀ i, i < fN F → (fK F i ≤ 4 ∨ fK F i = 6) ∧ (fK F i = 6 ↔ i = fD F)
theorem fN_le {F : Fl} (h : fOK F) : fN F ≤ 36 := by
  obtain ⟨⟨_, h1⟩, ⟨_, h2⟩, -⟩ := h
  exact Nat.mul_le_mul h1 h2
theorem fN_pos {F : Fl} (h : fOK F) : 0 < fN F := Nat.lt_of_le_of_lt (Nat.zero_le _) h.2.2.1
/-- the cell on a hand: 0 up, 1 right, 2 down, 3 left -/
def nbW (W H c hand : Nat) : Option Nat :=
  if hand = 0 then (if W ≤ c then some (c - W) else none)
  else if hand = 1 then (if c % W + 1 < W then some (c + 1) else none)
  else if hand = 2 then (if c + W < W * H then some (c + W) else none)
  else (if 0 < c % W then some (c - 1) else none)
def nb (F : Fl) (c hand : Nat) : Option Nat := nbW F.1 F.2.1 c hand
theorem nb_chk : (List.range 7).all (fun W => (List.range 7).all (fun H => (List.range 36).all (fun c => (List.range 4).all (fun hand => !(decide (0 < W) && decide (c < W * H)) || (match nbW W H c hand with | none => true | some b => decide (b < W * H) && (nbW W H b ((hand + 2) % 4) == some c)))))) = true := by decide +kernel
theorem nb_all (W : Nat) (hW : W < 7) (H : Nat) (hH : H < 7) (c : Nat) (hc : c < 36) (hand : Nat) (hh : hand < 4) (h0 : 0 < W) (hn : c < W * H) : (match nbW W H c hand with | none => true | some b => decide (b < W * H) && (nbW W H b ((hand + 2) % 4) == some c)) = true := by
  have h1 := List.all_eq_true.mp (List.all_eq_true.mp (List.all_eq_true.mp (List.all_eq_true.mp nb_chk W (List.mem_range.mpr hW)) H (List.mem_range.mpr hH)) c (List.mem_range.mpr hc)) hand (List.mem_range.mpr hh)
  simpa [h0, hn] using h1
theorem nb_spec {F : Fl} (h : fOK F) {c hand b : Nat} (hc : c < fN F) (hh : hand < 4) (e : nb F c hand = some b) : b < fN F ∧ nb F b ((hand + 2) % 4) = some c := by
  have hn := fN_le h
  obtain ⟨⟨h0, h1⟩, ⟨_, h2⟩, -⟩ := h
  have := nb_all F.1 (Nat.lt_succ_of_le h1) F.2.1 (Nat.lt_succ_of_le h2) c (Nat.lt_of_lt_of_le hc hn) hand hh h0 hc
  unfold nb at e ⊢
  rw [e] at this
  simpa [fN] using this
theorem nb_inv {F : Fl} (h : fOK F) {c hand b : Nat} (hc : c < fN F) (hh : hand < 4) (e : nb F c ((hand + 2) % 4) = some b) : b < fN F ∧ nb F b hand = some c := by
  have h1 := nb_spec h hc (Nat.mod_lt _ (by decide)) e
  refine ⟨h1.1, ?_⟩
  have h2 := h1.2
  have e2 : ((hand + 2) % 4 + 2) % 4 = hand := by omega
  rw [e2] at h2
  exact h2
/-- the cells on that hand of these -/
def bes (F : Fl) (hand : Nat) (p : Nat → Bool) : Nat → Bool := fun c => decide (c < fN F) && (match nb F c ((hand + 2) % 4) with | none => false | some b => p b)
def arn (F : Fl) (p : Nat → Bool) : Nat → Bool := fun c => bes F 0 p c || bes F 2 p c || bes F 1 p c || bes F 3 p c
/-- of the floor -/
def sub (F : Fl) (p : Nat → Bool) : Prop := ∀ i, p i = true → i < fN F
theorem sub36 {F : Fl} (h : fOK F) {p : Nat → Bool} (hp : sub F p) : ∀ i, p i = true → i < 36 := fun i hi => Nat.lt_of_lt_of_le (hp i hi) (fN_le h)
theorem bes_sub (F : Fl) (hand : Nat) (p : Nat → Bool) : sub F (bes F hand p) := by
  intro i hi
  simp only [bes, Bool.and_eq_true, decide_eq_true_eq] at hi
  exact hi.1
theorem arn_sub (F : Fl) (p : Nat → Bool) : sub F (arn F p) := by
  intro i hi
  simp only [arn, Bool.or_eq_true] at hi
  rcases hi with ((h | h) | h) | h <;> exact bes_sub _ _ _ _ h
theorem bes_iff {F : Fl} {hand c : Nat} {p : Nat → Bool} : bes F hand p c = true ↔ c < fN F ∧ ∃ b, nb F c ((hand + 2) % 4) = some b ∧ p b = true := by
  simp only [bes, Bool.and_eq_true, decide_eq_true_eq]
  cases nb F c ((hand + 2) % 4) with
  | none => simp
  | some b => simp
theorem arn_iff {F : Fl} {c : Nat} {p : Nat → Bool} : arn F p c = true ↔ c < fN F ∧ ∃ hand b, hand < 4 ∧ nb F c hand = some b ∧ p b = true := by
  simp only [arn, Bool.or_eq_true, bes_iff]
  constructor
  · rintro (((⟨h, b, h1, h2⟩ | ⟨h, b, h1, h2⟩) | ⟨h, b, h1, h2⟩) | ⟨h, b, h1, h2⟩)
    · exact ⟨h, _, b, by decide, h1, h2⟩
    · exact ⟨h, _, b, by decide, h1, h2⟩
    · exact ⟨h, _, b, by decide, h1, h2⟩
    · exact ⟨h, _, b, by decide, h1, h2⟩
  · rintro ⟨h, hand, b, h4, h1, h2⟩
    rcases (show hand = 0 ∨ hand = 1 ∨ hand = 2 ∨ hand = 3 by omega) with rfl | rfl | rfl | rfl
    · exact Or.inl (Or.inl (Or.inr ⟨h, b, h1, h2⟩))
    · exact Or.inr ⟨h, b, h1, h2⟩
    · exact Or.inl (Or.inl (Or.inl ⟨h, b, h1, h2⟩))
    · exact Or.inl (Or.inr ⟨h, b, h1, h2⟩)
/-! the ground's sets -/
def gAll (F : Fl) : Nat → Bool := fun i => decide (i < fN F)
def gK (F : Fl) (k : Nat) : Nat → Bool := fun i => decide (i < fN F) && (fK F i == k)
def gLeft (F : Fl) : Nat → Bool := fun i => decide (i < fN F) && (i % fW F == 0)
def gRight (F : Fl) : Nat → Bool := fun i => decide (i < fN F) && (i % fW F == fW F - 1)
theorem gAll_sub (F : Fl) : sub F (gAll F) := fun i hi => by simpa [gAll] using hi
theorem gK_sub (F : Fl) (k : Nat) : sub F (gK F k) := fun i hi => by simp [gK] at hi; exact hi.1
theorem r_chk : (List.range 7).all (fun W => (List.range 7).all (fun H => (List.range 37).all (fun i => !(decide (0 < W) && decide (1 ≤ i) && decide (i - 1 < W * H)) || (decide ((i - 1) % W = W - 1) == !(decide (0 < i % W) && decide (i < W * H)))))) = true := by decide +kernel
theorem r_all (W : Nat) (hW : W < 7) (H : Nat) (hH : H < 7) (i : Nat) (hi : i < 37) (h0 : 0 < W) (h1 : 1 ≤ i) (h2 : i - 1 < W * H) : (i - 1) % W = W - 1 ↔ ¬ (0 < i % W ∧ i < W * H) := by
  have h3 := List.all_eq_true.mp (List.all_eq_true.mp (List.all_eq_true.mp r_chk W (List.mem_range.mpr hW)) H (List.mem_range.mpr hH)) i (List.mem_range.mpr hi)
  simp only [h0, h1, h2, decide_true, Bool.and_true, Bool.not_true, Bool.false_or, beq_iff_eq] at h3
  by_cases hA : (i - 1) % W = W - 1 <;> by_cases hB : 0 < i % W <;> by_cases hC : i < W * H <;> simp_all
theorem l_chk : (List.range 7).all (fun W => (List.range 37).all (fun i => !(decide (0 < W)) || (decide ((i + 1) % W = 0) == !(decide (i % W + 1 < W))))) = true := by decide +kernel
theorem l_all (W : Nat) (hW : W < 7) (i : Nat) (hi : i < 37) (h0 : 0 < W) : (i + 1) % W = 0 ↔ ¬ (i % W + 1 < W) := by
  have h3 := List.all_eq_true.mp (List.all_eq_true.mp l_chk W (List.mem_range.mpr hW)) i (List.mem_range.mpr hi)
  simp only [h0, decide_true, Bool.not_true, Bool.false_or, beq_iff_eq] at h3
  by_cases hA : (i + 1) % W = 0 <;> by_cases hB : i % W + 1 < W <;> simp_all
theorem m_up {F : Fl} (h : fOK F) {p : Nat → Bool} (hp : sub F p) : ((mset p).toUInt64 >>> ((nI (fW F)).toInt64.toUInt64 &&& Int64.toUInt64 63)).toInt64 = mset (bes F 0 p) := by
  rw [m_shr h.1.2 (sub36 h hp)]
  apply mset_congr
  intro i _
  simp only [bes, nb, nbW]
  by_cases h2 : i + F.1 < F.1 * F.2.1
  · have h3 : i < fN F := by show i < F.1 * F.2.1; omega
    simp [h2, h3, fW]
  · cases hq : p (i + fW F) with
    | false => simp [h2]
    | true => exact absurd (hp _ hq) h2
theorem m_down {F : Fl} (h : fOK F) {p : Nat → Bool} : (mset p <<< ((nI (fW F)).toInt64 &&& 63)) &&& mset (gAll F) = mset (bes F 2 p) := by
  rw [m_shlA h.1.2]
  apply mset_congr
  intro i _
  simp only [bes, nb, nbW, gAll]
  by_cases h2 : F.1 ≤ i
  · simp [h2, fW, Bool.and_comm]
  · simp [h2, fW]
theorem m_right {F : Fl} (h : fOK F) {p : Nat → Bool} (hp : sub F p) : (mset p &&& (mset (gRight F) ^^^ (-1))) <<< ((1 : Int32).toInt64 &&& 63) = mset (bes F 1 p) := by
  have hn := fN_le h
  have hr : ∀ i, 1 ≤ i → i - 1 < fN F → ((i - 1) % fW F = fW F - 1 ↔ ¬ (0 < i % fW F ∧ i < fN F)) := by
    intro i hi hj
    exact r_all F.1 (Nat.lt_succ_of_le h.1.2) F.2.1 (Nat.lt_succ_of_le h.2.1.2) i (by omega) h.1.1 hi hj
  rw [m_andn, show (1 : Int32) = nI 1 from rfl, m_shl (by decide)]
  · apply mset_congr
    intro i _
    simp only [bes, nb, nbW, gRight]
    by_cases h1 : 1 ≤ i
    · cases hq : p (i - 1) with
      | false => by_cases hz : 0 < i % F.1 <;> simp [hz, hq]
      | true =>
        have hj := hp _ hq
        have := hr i h1 hj
        by_cases hz : 0 < i % F.1 ∧ i < F.1 * F.2.1
        · have h3 : ¬ ((i - 1) % fW F = fW F - 1) := fun e => this.mp e hz
          simp [h1, hj, h3, hz.1, hq, fN, hz.2]
        · have h3 : (i - 1) % fW F = fW F - 1 := this.mpr hz
          by_cases hz1 : 0 < i % F.1
          · have hz2 : ¬ i < F.1 * F.2.1 := fun e => hz ⟨hz1, e⟩
            have hj' : i - 1 < F.1 * F.2.1 := hj
            simp [hj', h3, fN, hz2]
          · simp [hj, h3, hz1]
    · have h0 : i = 0 := by omega
      subst h0
      simp
  · intro i hi
    simp only [Bool.and_eq_true] at hi
    have hj := hp _ hi.1
    have h2 := hi.2
    simp only [gRight, Bool.not_eq_true', Bool.and_eq_false_iff, decide_eq_false_iff_not, beq_eq_false_iff_ne] at h2
    have h3 : i % fW F ≠ fW F - 1 := by
      rcases h2 with h2 | h2
      · exact absurd hj h2
      · exact h2
    have := hr (i + 1) (by omega) (by simpa using hj)
    simp only [Nat.add_sub_cancel] at this
    have h4 : 0 < (i + 1) % fW F ∧ i + 1 < fN F := Classical.byContradiction fun e => h3 (this.mpr e)
    omega
theorem m_left {F : Fl} (h : fOK F) {p : Nat → Bool} (hp : sub F p) : ((mset p &&& (mset (gLeft F) ^^^ (-1))).toUInt64 >>> ((1 : Int32).toInt64.toUInt64 &&& Int64.toUInt64 63)).toInt64 = mset (bes F 3 p) := by
  have hn := fN_le h
  rw [m_andn, show (1 : Int32) = nI 1 from rfl, m_shr (by decide)]
  · apply mset_congr
    intro i hi
    simp only [bes, nb, nbW, gLeft]
    have e := l_all F.1 (Nat.lt_succ_of_le h.1.2) i (by omega) h.1.1
    cases hq : p (i + 1) with
    | false => by_cases hz : i % F.1 + 1 < F.1 <;> simp [hz, hq]
    | true =>
      have hj := hp _ hq
      have hi2 : i < fN F := by omega
      by_cases hz : i % F.1 + 1 < F.1
      · have h3 : ¬ ((i + 1) % fW F = 0) := fun q => e.mp q hz
        simp [hj, h3, hz, hi2, hq]
      · have h3 : (i + 1) % fW F = 0 := e.mpr hz
        simp [hj, h3, hz]
  · intro i hi
    simp only [Bool.and_eq_true] at hi
    exact sub36 h hp i hi.1
theorem m_around {F : Fl} (h : fOK F) {p : Nat → Bool} (hp : sub F p) :
    ((((mset p).toUInt64 >>> ((nI (fW F)).toInt64.toUInt64 &&& Int64.toUInt64 63)).toInt64 ||| ((mset p <<< ((nI (fW F)).toInt64 &&& 63)) &&& mset (gAll F))) ||| ((mset p &&& (mset (gRight F) ^^^ (-1))) <<< ((1 : Int32).toInt64 &&& 63))) ||| ((mset p &&& (mset (gLeft F) ^^^ (-1))).toUInt64 >>> ((1 : Int32).toInt64.toUInt64 &&& Int64.toUInt64 63)).toInt64 = mset (arn F p) := by
  rw [m_up h hp, m_down h, m_right h hp, m_left h hp, m_or, m_or, m_or]
  rfl
