/-! ===== ways are the same from both ends ===== -/
def Adj (F : Fl) (c b : Nat) : Prop := ∃ hand, hand < 4 ∧ nb F c hand = some b
theorem Adj.symm {F : Fl} (hF : fOK F) {c b : Nat} (hc : c < fN F) (h : Adj F c b) : b < fN F ∧ Adj F b c := by
  obtain ⟨hand, hh, e⟩ := h
  obtain ⟨h1, h2⟩ := nb_spec hF hc hh e
  exact ⟨h1, _, Nat.mod_lt _ (by decide), h2⟩
theorem arn_adj {F : Fl} {c : Nat} {p : Nat → Bool} : arn F p c = true ↔ c < fN F ∧ ∃ b, Adj F c b ∧ p b = true := by
  rw [arn_iff]
  constructor
  · rintro ⟨h, hand, b, h1, h2, h3⟩; exact ⟨h, b, ⟨hand, h1, h2⟩, h3⟩
  · rintro ⟨h, b, ⟨hand, h1, h2⟩, h3⟩; exact ⟨h, hand, b, h1, h2, h3⟩
section DST
variable {F : Fl} {K : Nat → Bool}
theorem lvl_0 {a c : Nat} : lvl F K (some a) 0 c = true ↔ a = c ∧ K c = true := by
  simp [lvl, oneO]
theorem lvl_s {a : Option Nat} {k c : Nat} : lvl F K a (k + 1) c = true ↔ lvl F K a k c = true ∨ (K c = true ∧ c < fN F ∧ ∃ b, Adj F c b ∧ lvl F K a k b = true) := by
  simp only [lvl, Bool.or_eq_true, Bool.and_eq_true, arn_adj]
  constructor
  · rintro (h | ⟨⟨h1, b, h2⟩, h3⟩)
    · exact Or.inl h
    · exact Or.inr ⟨h3, h1, b, h2⟩
  · rintro (h | ⟨h3, h1, b, h2⟩)
    · exact Or.inl h
    · exact Or.inr ⟨⟨h1, b, h2⟩, h3⟩
theorem lvl_front (hF : fOK F) (hK : sub F K) : ∀ (k a c : Nat), lvl F K (some a) (k + 1) c = true ↔ lvl F K (some a) k c = true ∨ (K a = true ∧ ∃ b, Adj F a b ∧ lvl F K (some b) k c = true) := by
  intro k
  induction k with
  | zero =>
    intro a c
    rw [lvl_s]
    constructor
    · rintro (h | ⟨h1, h2, b, h3, h4⟩)
      · exact Or.inl h
      · obtain ⟨rfl, h5⟩ := lvl_0.mp h4
        exact Or.inr ⟨h5, c, (h3.symm hF h2).2, lvl_0.mpr ⟨rfl, h1⟩⟩
    · rintro (h | ⟨h1, b, h2, h3⟩)
      · exact Or.inl h
      · obtain ⟨rfl, h5⟩ := lvl_0.mp h3
        have ha := hK _ h1
        exact Or.inr ⟨h5, (h2.symm hF ha).1, a, (h2.symm hF ha).2, lvl_0.mpr ⟨rfl, h1⟩⟩
  | succ k ih =>
    intro a c
    constructor
    · intro h
      rcases lvl_s.mp h with h | ⟨h1, h2, b, h3, h4⟩
      · exact Or.inl h
      · rcases (ih a b).mp h4 with h5 | ⟨h5, b2, h6, h7⟩
        · exact Or.inl (lvl_s.mpr (Or.inr ⟨h1, h2, b, h3, h5⟩))
        · exact Or.inr ⟨h5, b2, h6, lvl_s.mpr (Or.inr ⟨h1, h2, b, h3, h7⟩)⟩
    · rintro (h | ⟨h1, b, h2, h3⟩)
      · exact lvl_up h
      · rcases lvl_s.mp h3 with h4 | ⟨h4, h5, b2, h6, h7⟩
        · exact lvl_up ((ih a c).mpr (Or.inr ⟨h1, b, h2, h4⟩))
        · exact lvl_s.mpr (Or.inr ⟨h4, h5, b2, h6, (ih a b2).mpr (Or.inr ⟨h1, b, h2, h7⟩)⟩)
theorem lvl_symm (hF : fOK F) (hK : sub F K) : ∀ (k a c : Nat), lvl F K (some a) k c = true ↔ lvl F K (some c) k a = true := by
  intro k
  induction k with
  | zero =>
    intro a c
    rw [lvl_0, lvl_0]
    constructor
    · rintro ⟨rfl, h⟩; exact ⟨rfl, h⟩
    · rintro ⟨rfl, h⟩; exact ⟨rfl, h⟩
  | succ k ih =>
    intro a c
    rw [lvl_s, lvl_front hF hK k c a, ih a c]
    constructor
    · rintro (h | ⟨h1, h2, b, h3, h4⟩)
      · exact Or.inl h
      · exact Or.inr ⟨h1, b, h3, (ih a b).mp h4⟩
    · rintro (h | ⟨h1, b, h3, h4⟩)
      · exact Or.inl h
      · exact Or.inr ⟨h1, hK _ h1, b, h3, (ih a b).mpr h4⟩
theorem dst_symm (hF : fOK F) (hK : sub F K) (a c : Nat) : dst F K (some a) c = dst F K (some c) a := by
  unfold dst
  congr 1
  funext k
  have := lvl_symm hF hK k a c
  cases h1 : lvl F K (some a) k c with
  | true => exact (this.mp h1).symm
  | false =>
    cases h2 : lvl F K (some c) k a with
    | false => rfl
    | true => rw [this.mpr h2] at h1; cases h1
theorem dst_some {a : Option Nat} {c k : Nat} : dst F K a c = some k ↔ (k < 36 ∧ lvl F K a k c = true ∧ ∀ j, j < k → lvl F K a j c = false) := by
  unfold dst
  rw [fst_some]
  constructor
  · rintro ⟨-, h2, h3, h4⟩; exact ⟨by omega, h3, fun j hj => h4 j (by omega) hj⟩
  · rintro ⟨h2, h3, h4⟩; exact ⟨by omega, by omega, h3, fun j _ hj => h4 j hj⟩
theorem dst_none {a : Option Nat} {c : Nat} : dst F K a c = none ↔ ∀ j, j < 36 → lvl F K a j c = false := by
  unfold dst
  rw [fst_none]
  constructor
  · intro h j hj; exact h j (by omega) (by omega)
  · intro h j _ hj; exact h j (by omega)
/-- a level below 36 gives a distance -/
theorem dst_of {a : Option Nat} {c k : Nat} (hk : k < 36) (h : lvl F K a k c = true) : ∃ m, m ≤ k ∧ dst F K a c = some m := by
  cases hq : dst F K a c with
  | none => rw [dst_none.mp hq k hk] at h; cases h
  | some m =>
    refine ⟨m, ?_, rfl⟩
    obtain ⟨h1, h2, h3⟩ := dst_some.mp hq
    rcases Nat.lt_or_ge k m with q | q
    · rw [h3 k q] at h; cases h
    · exact q
/-! levels stay at the latest behind as many steps as there are cells -/
theorem lvl_cnt (hF : fOK F) (hK : sub F K) {a : Option Nat} : ∀ k, (∀ j, j < k → lvl F K a (j + 1) ≠ lvl F K a j) → k ≤ cnt (lvl F K a k) 36 := by
  intro k
  induction k with
  | zero => intro _; exact Nat.zero_le _
  | succ k ih =>
    intro h
    have h1 := ih (fun j hj => h j (by omega))
    have h2 := h k (by omega)
    have h3 : cnt (lvl F K a k) 36 < cnt (lvl F K a (k + 1)) 36 := by
      have hle : ∀ n, cnt (lvl F K a k) n ≤ cnt (lvl F K a (k + 1)) n := by
        intro n
        induction n with
        | zero => exact Nat.le_refl _
        | succ n ihn =>
          simp only [cnt]
          by_cases hq : lvl F K a k n = true
          · rw [if_pos hq, if_pos (lvl_up hq)]; omega
          · rw [if_neg hq]; omega
      obtain ⟨c, hc⟩ : ∃ c, lvl F K a (k + 1) c ≠ lvl F K a k c := Classical.byContradiction fun q => h2 (funext fun c => Classical.byContradiction fun r => q ⟨c, r⟩)
      have hc1 : lvl F K a (k + 1) c = true ∧ lvl F K a k c = false := by
        cases h5 : lvl F K a k c with
        | true => rw [h5, lvl_up h5] at hc; exact absurd rfl hc
        | false =>
          cases h6 : lvl F K a (k + 1) c with
          | true => exact ⟨rfl, rfl⟩
          | false => rw [h5, h6] at hc; exact absurd rfl hc
      have hc36 : c < 36 := sub36 hF (lvl_sub hK _) c hc1.1
      have hlt : ∀ n, c < n → cnt (lvl F K a k) n < cnt (lvl F K a (k + 1)) n := by
        intro n
        induction n with
        | zero => intro q; omega
        | succ n ihn =>
          intro q
          simp only [cnt]
          rcases Nat.lt_or_ge c n with r | r
          · have := ihn r
            by_cases hq : lvl F K a k n = true
            · rw [if_pos hq, if_pos (lvl_up hq)]; omega
            · rw [if_neg hq]; omega
          · have : c = n := by omega
            subst this
            have := hle c
            rw [if_neg (by rw [hc1.2]; decide), if_pos hc1.1]
            omega
      exact hlt 36 hc36
    omega
theorem cnt_sub (F : Fl) {p : Nat → Bool} (hF : fOK F) (hp : sub F p) : cnt p 36 ≤ fN F := by
  rw [cnt_more (n := fN F) (fN_le hF) (fun i h1 _ => by
    cases hq : p i with
    | false => rfl
    | true => have := hp i hq; omega)]
  exact cnt_le _ _
/-- from 'cells less one' on nothing comes -/
theorem lvl_sat (hF : fOK F) (hK : sub F K) {a : Option Nat} : ∀ j, fN F ≤ j + 1 → lvl F K a j = lvl F K a (fN F - 1) := by
  have hex : ∃ k, k ≤ fN F - 1 ∧ lvl F K a (k + 1) = lvl F K a k := by
    apply Classical.byContradiction
    intro q
    have hpos := fN_pos hF
    have h1 := lvl_cnt hF hK (a := a) (fN F) (fun j hj e => q ⟨j, by omega, e⟩)
    -- the last level has all cells of the floor, and yet it grew from a first level with one cell at most
    have h2 : ∀ k, (∀ j, j < k → lvl F K a (j + 1) ≠ lvl F K a j) → 0 < k → k + 1 ≤ cnt (lvl F K a k) 36 := by
      intro k hk hk0
      have h0 : 0 < cnt (lvl F K a 0) 36 := by
        rcases Nat.eq_zero_or_pos (cnt (lvl F K a 0) 36) with r | r
        · exfalso
          have hz : lvl F K a 0 = fun _ => false := by
            funext c
            cases hq : lvl F K a 0 c with
            | false => rfl
            | true =>
              have := cnt_lt (p := lvl F K a 0) (sub36 hF (lvl_sub hK 0) c hq) hq
              omega
          have : lvl F K a 1 = lvl F K a 0 := by
            funext c
            have e1 : lvl F K a 1 c = (lvl F K a 0 c || (arn F (lvl F K a 0) c && K c)) := rfl
            rw [e1, hz]
            have : arn F (fun _ => false) c = false := by
              cases hq : arn F (fun _ => false) c with
              | false => rfl
              | true => obtain ⟨_, b, _, h3⟩ := arn_adj.mp hq; cases h3
            simp [this]
          exact hk 0 hk0 this
        · exact r
      -- each level grows by one at least
      have grow : ∀ m, m ≤ k → m + cnt (lvl F K a 0) 36 ≤ cnt (lvl F K a m) 36 := by
        intro m
        induction m with
        | zero => intro _; omega
        | succ m ihm =>
          intro hm
          have h3 := ihm (by omega)
          have h4 := hk m (by omega)
          have h5 : cnt (lvl F K a m) 36 < cnt (lvl F K a (m + 1)) 36 := by
            obtain ⟨c, hc⟩ : ∃ c, lvl F K a (m + 1) c ≠ lvl F K a m c := Classical.byContradiction fun q => h4 (funext fun c => Classical.byContradiction fun r => q ⟨c, r⟩)
            have hc1 : lvl F K a (m + 1) c = true ∧ lvl F K a m c = false := by
              cases h5 : lvl F K a m c with
              | true => rw [h5, lvl_up h5] at hc; exact absurd rfl hc
              | false =>
                cases h6 : lvl F K a (m + 1) c with
                | true => exact ⟨rfl, rfl⟩
                | false => rw [h5, h6] at hc; exact absurd rfl hc
            have hc36 : c < 36 := sub36 hF (lvl_sub hK _) c hc1.1
            have hle : ∀ n, cnt (lvl F K a m) n ≤ cnt (lvl F K a (m + 1)) n := by
              intro n
              induction n with
              | zero => exact Nat.le_refl _
              | succ n ihn =>
                simp only [cnt]
                by_cases hq : lvl F K a m n = true
                · rw [if_pos hq, if_pos (lvl_up hq)]; omega
                · rw [if_neg hq]; omega
            have hlt : ∀ n, c < n → cnt (lvl F K a m) n < cnt (lvl F K a (m + 1)) n := by
              intro n
              induction n with
              | zero => intro q; omega
              | succ n ihn =>
                intro q
                simp only [cnt]
                rcases Nat.lt_or_ge c n with r | r
                · have := ihn r
                  by_cases hq : lvl F K a m n = true
                  · rw [if_pos hq, if_pos (lvl_up hq)]; omega
                  · rw [if_neg hq]; omega
                · have : c = n := by omega
                  subst this
                  have := hle c
                  rw [if_neg (by rw [hc1.2]; decide), if_pos hc1.1]
                  omega
            exact hlt 36 hc36
          omega
      have := grow k (Nat.le_refl _)
      omega
    have h3 := h2 (fN F) (fun j hj e => q ⟨j, by omega, e⟩) hpos
    have h4 := cnt_sub F hF (lvl_sub hK (a := a) (fN F))
    omega
  obtain ⟨k, hk, e⟩ := hex
  intro j hj
  have hpos := fN_pos hF
  rw [show j = k + (j - k) by omega, lvl_stay e, show fN F - 1 = k + (fN F - 1 - k) by omega, lvl_stay e]
end DST
