/-! ===== fewest steps, laid level by level ===== -/
abbrev TT : Type := Nat → Option Nat
def stH (F : Fl) (K : Nat → Bool) (n k hd : Nat) (t : TT) : TT := if t k = some n then (match nb F k hd with | none => t | some b => if t b = none ∧ K b = true then (fun c => if c = b then some (n + 1) else t c) else t) else t
def lH (F : Fl) (K : Nat → Bool) (n k : Nat) : Nat → Nat → TT → TT
  | 0, _, t => t
  | m + 1, hd, t => lH F K n k m (hd + 1) (stH F K n k hd t)
def lK (F : Fl) (K : Nat → Bool) (n : Nat) : Nat → Nat → TT → TT
  | 0, _, t => t
  | m + 1, k, t => lK F K n m (k + 1) (lH F K n k 4 0 t)
def lNs (F : Fl) (K : Nat → Bool) : Nat → Nat → TT → TT
  | 0, _, t => t
  | m + 1, n, t => lNs F K m (n + 1) (lK F K n (fN F) 0 t)
def rch (F : Fl) (K : Nat → Bool) (a n k hd c : Nat) : Prop := ∃ k' h', k' < fN F ∧ h' < 4 ∧ (k' < k ∨ (k' = k ∧ h' < hd)) ∧ dst F K (some a) k' = some n ∧ nb F k' h' = some c
def JJ (F : Fl) (K : Nat → Bool) (a n k hd : Nat) (t : TT) : Prop := ∀ c, c < fN F → (lvl F K (some a) n c = true → t c = dst F K (some a) c) ∧ (lvl F K (some a) n c = false → (K c = true ∧ rch F K a n k hd c → t c = some (n + 1)) ∧ (¬ (K c = true ∧ rch F K a n k hd c) → t c = none))
section C62
variable {F : Fl} {K : Nat → Bool} {a n k hd : Nat} {t : TT}
theorem JJ_at (hn : n < 36) (J : JJ F K a n k hd t) (hk : k < fN F) : t k = some n ↔ dst F K (some a) k = some n := by
  obtain ⟨j1, j2⟩ := J k hk
  cases hl : lvl F K (some a) n k with
  | true => rw [j1 hl]
  | false =>
    constructor
    · intro h
      by_cases q : K k = true ∧ rch F K a n k hd k
      · rw [(j2 hl).1 q] at h
        injection h with h
        omega
      · rw [(j2 hl).2 q] at h
        cases h
    · intro h
      have := (dst_some.mp h).2.1
      rw [hl] at this
      cases this
theorem rch_step (hk : k < fN F) (hh : hd < 4) {c : Nat} : rch F K a n k (hd + 1) c ↔ rch F K a n k hd c ∨ (dst F K (some a) k = some n ∧ nb F k hd = some c) := by
  constructor
  · rintro ⟨k', h', a1, a2, a3, a4, a5⟩
    rcases a3 with a3 | ⟨a3, a6⟩
    · exact Or.inl ⟨k', h', a1, a2, Or.inl a3, a4, a5⟩
    · by_cases e : h' = hd
      · subst e; subst a3; exact Or.inr ⟨a4, a5⟩
      · exact Or.inl ⟨k', h', a1, a2, Or.inr ⟨a3, by omega⟩, a4, a5⟩
  · rintro (⟨k', h', a1, a2, a3, a4, a5⟩ | ⟨a4, a5⟩)
    · refine ⟨k', h', a1, a2, ?_, a4, a5⟩
      rcases a3 with a3 | ⟨a3, a6⟩
      · exact Or.inl a3
      · exact Or.inr ⟨a3, by omega⟩
    · exact ⟨k, hd, hk, hh, Or.inr ⟨rfl, by omega⟩, a4, a5⟩
theorem JJ_same (J : JJ F K a n k hd t) {k2 hd2 : Nat} (h : ∀ c, c < fN F → (rch F K a n k2 hd2 c ↔ rch F K a n k hd c)) : JJ F K a n k2 hd2 t := by
  intro c hc
  obtain ⟨j1, j2⟩ := J c hc
  refine ⟨j1, fun hl => ⟨fun q => (j2 hl).1 ⟨q.1, (h c hc).mp q.2⟩, fun q => (j2 hl).2 (fun q2 => q ⟨q2.1, (h c hc).mpr q2.2⟩)⟩⟩
theorem JJ_st (hF : fOK F) (hn : n < 36) (hk : k < fN F) (hh : hd < 4) (J : JJ F K a n k hd t) : JJ F K a n k (hd + 1) (stH F K n k hd t) := by
  have hat := JJ_at hn J hk
  unfold stH
  by_cases h1 : t k = some n
  · rw [if_pos h1]
    have hd1 := hat.mp h1
    cases hb : nb F k hd with
    | none =>
      dsimp only
      exact JJ_same J (fun c _ => by rw [rch_step hk hh, hb]; simp)
    | some b =>
      dsimp only
      have hbn := (nb_spec hF hk hh hb).1
      by_cases h2 : t b = none ∧ K b = true
      · rw [if_pos h2]
        intro c hc
        obtain ⟨j1, j2⟩ := J c hc
        by_cases e : c = b
        · subst e
          have hl : lvl F K (some a) n c = false := by
            cases q : lvl F K (some a) n c with
            | false => rfl
            | true =>
              have q2 := j1 q
              rw [h2.1] at q2
              exact absurd (dst_none.mp q2.symm n hn) (by rw [q]; decide)
          dsimp only
          rw [if_pos rfl]
          refine ⟨fun q => (by rw [hl] at q; cases q), fun _ => ⟨fun _ => rfl, fun q => absurd ⟨h2.2, (rch_step hk hh).mpr (Or.inr ⟨hd1, hb⟩)⟩ q⟩⟩
        · dsimp only
          rw [if_neg e]
          have er : rch F K a n k (hd + 1) c ↔ rch F K a n k hd c := by
            rw [rch_step hk hh, hb]
            constructor
            · rintro (q | ⟨-, q⟩)
              · exact q
              · injection q with q; exact absurd q.symm e
            · exact Or.inl
          rw [er]
          exact ⟨j1, j2⟩
      · rw [if_neg h2]
        intro c hc
        obtain ⟨j1, j2⟩ := J c hc
        by_cases e : c = b
        · subst e
          refine ⟨j1, fun hl => ⟨fun q => ?_, fun q => (j2 hl).2 (fun q2 => q ⟨q2.1, (rch_step hk hh).mpr (Or.inl q2.2)⟩)⟩⟩
          by_cases q3 : K c = true ∧ rch F K a n k hd c
          · exact (j2 hl).1 q3
          · exact absurd ⟨(j2 hl).2 q3, q.1⟩ h2
        · have er : rch F K a n k (hd + 1) c ↔ rch F K a n k hd c := by
            rw [rch_step hk hh, hb]
            constructor
            · rintro (q | ⟨-, q⟩)
              · exact q
              · injection q with q; exact absurd q.symm e
            · exact Or.inl
          rw [er]
          exact ⟨j1, j2⟩
  · rw [if_neg h1]
    refine JJ_same J (fun c _ => ?_)
    rw [rch_step hk hh]
    constructor
    · rintro (q | ⟨q, -⟩)
      · exact q
      · exact absurd (hat.mpr q) h1
    · exact Or.inl
theorem JJ_H (hF : fOK F) (hn : n < 36) (hk : k < fN F) : ∀ (m hd : Nat) (t : TT), hd + m = 4 → JJ F K a n k hd t → JJ F K a n k 4 (lH F K n k m hd t) := by
  intro m
  induction m with
  | zero =>
    intro hd t h J
    have : hd = 4 := by omega
    subst this
    exact J
  | succ m ih =>
    intro hd t h J
    exact ih (hd + 1) _ (by omega) (JJ_st hF hn hk (by omega) J)
theorem JJ_K (hF : fOK F) (hn : n < 36) : ∀ (m k : Nat) (t : TT), k + m = fN F → JJ F K a n k 0 t → JJ F K a n (fN F) 0 (lK F K n m k t) := by
  intro m
  induction m with
  | zero =>
    intro k t h J
    have : k = fN F := by omega
    subst this
    exact J
  | succ m ih =>
    intro k t h J
    refine ih (k + 1) _ (by omega) (JJ_same (JJ_H hF hn (by omega) 4 0 t (by omega) J) (fun c _ => ?_))
    constructor
    · rintro ⟨k', h', a1, a2, a3, a4, a5⟩
      refine ⟨k', h', a1, a2, ?_, a4, a5⟩
      rcases a3 with a3 | ⟨-, a6⟩
      · rcases Nat.lt_or_ge k' k with g | g
        · exact Or.inl g
        · exact Or.inr ⟨by omega, a2⟩
      · omega
    · rintro ⟨k', h', a1, a2, a3, a4, a5⟩
      refine ⟨k', h', a1, a2, Or.inl ?_, a4, a5⟩
      rcases a3 with a3 | ⟨a3, -⟩ <;> omega
theorem JJ_next (hF : fOK F) (hK : sub F K) (hn : n < fN F) (J : JJ F K a n (fN F) 0 t) : JJ F K a (n + 1) 0 0 t := by
  have h36 := fN_le hF
  have r0 : ∀ c, ¬ rch F K a (n + 1) 0 0 c := by
    rintro c ⟨k', h', a1, a2, a3, a4, a5⟩
    omega
  intro c hc
  obtain ⟨j1, j2⟩ := J c hc
  cases hl : lvl F K (some a) n c with
  | true =>
    refine ⟨fun _ => j1 hl, fun q => ?_⟩
    rw [lvl_up hl] at q
    cases q
  | false =>
    have key : lvl F K (some a) (n + 1) c = true ↔ (K c = true ∧ rch F K a n (fN F) 0 c) := by
      constructor
      · intro q
        rcases lvl_s.mp q with q | ⟨q1, q2, b, q3, q4⟩
        · rw [hl] at q; cases q
        · refine ⟨q1, ?_⟩
          obtain ⟨m, hm, hdb⟩ := dst_of (show n < 36 by omega) q4
          have hmn : m = n := by
            rcases Nat.lt_or_ge m n with g | g
            · have q5 := (dst_some.mp hdb).2.1
              have q6 : lvl F K (some a) (m + 1) c = true := lvl_s.mpr (Or.inr ⟨q1, q2, b, q3, q5⟩)
              have q7 := lvl_mono q6 n (by omega)
              rw [hl] at q7
              cases q7
            · omega
          subst hmn
          obtain ⟨hb, hand, hh, hnb⟩ := Adj.symm hF hc q3
          exact ⟨b, hand, hb, hh, Or.inl hb, hdb, hnb⟩
      · rintro ⟨q1, k', h', a1, a2, a3, a4, a5⟩
        have q4 := (dst_some.mp a4).2.1
        exact lvl_s.mpr (Or.inr ⟨q1, hc, k', (Adj.symm hF a1 ⟨h', a2, a5⟩).2, q4⟩)
    refine ⟨fun q => ?_, fun q => ⟨fun q2 => absurd q2.2 (r0 c), fun _ => (j2 hl).2 (fun q3 => by rw [key.mpr q3] at q; cases q)⟩⟩
    rw [(j2 hl).1 (key.mp q)]
    have hn1 : n + 1 < 36 := by
      rcases Nat.lt_or_ge (n + 1) (fN F) with g | g
      · omega
      · have e1 := lvl_sat hF hK (a := some a) (n + 1) (by omega)
        have e2 := lvl_sat hF hK (a := some a) n (by omega)
        rw [e1, ← e2, hl] at q
        cases q
    refine (dst_some.mpr ⟨hn1, q, fun j hj => ?_⟩).symm
    cases q5 : lvl F K (some a) j c with
    | false => rfl
    | true =>
      have := lvl_mono q5 n (by omega)
      rw [hl] at this
      cases this
theorem JJ_N (hF : fOK F) (hK : sub F K) : ∀ (m n : Nat) (t : TT), n + m = fN F → JJ F K a n 0 0 t → JJ F K a (fN F) 0 0 (lNs F K m n t) := by
  have h36 := fN_le hF
  intro m
  induction m with
  | zero =>
    intro n t h J
    have : n = fN F := by omega
    subst this
    exact J
  | succ m ih =>
    intro n t h J
    exact ih (n + 1) _ (by omega) (JJ_next hF hK (by omega) (JJ_K hF (by omega) (fN F) 0 t (by omega) J))
def tt0 (a : Nat) : TT := fun c => if c = a then some 0 else none
theorem lNs_dst (hF : fOK F) (hK : sub F K) (ha : a < fN F) (hKa : K a = true) : ∀ c, c < fN F → lNs F K (fN F) 0 (tt0 a) c = dst F K (some a) c := by
  have h36 := fN_le hF
  have J0 : JJ F K a 0 0 0 (tt0 a) := by
    intro c hc
    refine ⟨fun q => ?_, fun q => ⟨fun q2 => ?_, fun q2 => ?_⟩⟩
    · obtain ⟨e, -⟩ := lvl_0.mp q
      subst e
      unfold tt0
      rw [if_pos rfl]
      exact (dst_some.mpr ⟨by decide, q, fun j hj => absurd hj (Nat.not_lt_zero _)⟩).symm
    · obtain ⟨-, k', h', a1, a2, a3, -⟩ := q2
      omega
    · unfold tt0
      rw [if_neg]
      intro e
      subst e
      rw [lvl_0.mpr ⟨rfl, hKa⟩] at q
      cases q
  intro c hc
  obtain ⟨j1, j2⟩ := JJ_N hF hK (fN F) 0 (tt0 a) (by omega) J0 c hc
  cases hl : lvl F K (some a) (fN F) c with
  | true => exact j1 hl
  | false =>
    rw [(j2 hl).2 (fun q => by
      obtain ⟨-, k', h', a1, a2, a3, -⟩ := q
      omega)]
    refine (dst_none.mpr (fun j hj => ?_)).symm
    cases q5 : lvl F K (some a) j c with
    | false => rfl
    | true =>
      rcases Nat.lt_or_ge j (fN F) with g | g
      · have := lvl_mono q5 (fN F) (by omega)
        rw [hl] at this
        cases this
      · have e1 := lvl_sat hF hK (a := some a) j (by omega)
        have e2 := lvl_sat hF hK (a := some a) (fN F) (by omega)
        rw [e1, ← e2, hl] at q5
        cases q5
end C62
