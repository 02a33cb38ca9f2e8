/-! ===== the target, looked for pair by pair ===== -/
abbrev TG : Type := Option (Nat × Nat × Nat × Nat)
def far (F : Fl) (S : Sit) (g : Nat) : Option Nat := dst F (kn1 S) (some (sAt S)) g
def hom (F : Fl) (S : Sit) (g : Nat) : Option Nat := dst F (kn1 S) (some (fD F)) g
def bsd (F : Fl) (c g : Nat) : Nat → Bool
  | 0 => false
  | m + 1 => bsd F c g m || (nb F c m == some g)
def vld (F : Fl) (S : Sit) (c g : Nat) : Bool := bsd F c g 4 && (match far F S g, hom F S g with | some s, some b => decide (s + b + 2 ≤ sCh S) | _, _ => false)
def bstep (F : Fl) (S : Sit) (c g : Nat) (cur : TG) : TG := if vld F S c g = true then (match far F S g, hom F S g with
    | some s, some b => (match cur with | none => some (c, g, s + 1, b + 1) | some (t, g0, w, wb) => if s + 1 < w then some (c, g, s + 1, b + 1) else some (t, g0, w, wb))
    | _, _ => cur) else cur
def bG (F : Fl) (S : Sit) (c : Nat) : Nat → Nat → TG → TG
  | 0, _, cur => cur
  | m + 1, g, cur => bG F S c m (g + 1) (bstep F S c g cur)
def bC (F : Fl) (S : Sit) : Nat → Nat → TG → TG
  | 0, _, cur => cur
  | m + 1, c, cur => bC F S m (c + 1) (if unk F S c = true then bG F S c (fN F) 0 cur else cur)
def VP (F : Fl) (S : Sit) (c g : Nat) : Prop := unk F S c = true ∧ vld F S c g = true
def Pr (F : Fl) (c g c' g' : Nat) : Prop := c' < fN F ∧ g' < fN F ∧ (c' < c ∨ (c' = c ∧ g' < g))
def IV (F : Fl) (S : Sit) (P : Nat → Nat → Prop) (cur : TG) : Prop := match cur with
  | none => ∀ c g, P c g → ¬ VP F S c g
  | some (t, g, w, b) => P t g ∧ VP F S t g ∧ (∃ s hb, far F S g = some s ∧ hom F S g = some hb ∧ w = s + 1 ∧ b = hb + 1) ∧ ∀ c' g' s', P c' g' → VP F S c' g' → far F S g' = some s' → w ≤ s' + 1 ∧ (w = s' + 1 → t < c' ∨ (t = c' ∧ g ≤ g'))
section C64
variable {F : Fl} {S : Sit}
theorem vld_some {c g : Nat} (h : vld F S c g = true) : ∃ s b, far F S g = some s ∧ hom F S g = some b ∧ s + b + 2 ≤ sCh S ∧ bsd F c g 4 = true := by
  unfold vld at h
  rw [Bool.and_eq_true] at h
  obtain ⟨h1, h2⟩ := h
  cases hf : far F S g with
  | none => rw [hf] at h2; simp at h2
  | some s =>
    cases hh : hom F S g with
    | none => rw [hf, hh] at h2; simp at h2
    | some b =>
      rw [hf, hh] at h2
      exact ⟨s, b, rfl, rfl, by simpa using h2, h1⟩
theorem Pr_step {c g c' g' : Nat} (hc : c < fN F) (hg : g < fN F) : Pr F c (g + 1) c' g' ↔ Pr F c g c' g' ∨ (c' = c ∧ g' = g) := by
  unfold Pr
  constructor
  · rintro ⟨a1, a2, a3⟩
    by_cases e : c' = c ∧ g' = g
    · exact Or.inr e
    · refine Or.inl ⟨a1, a2, ?_⟩
      omega
  · rintro (⟨a1, a2, a3⟩ | ⟨rfl, rfl⟩)
    · exact ⟨a1, a2, by omega⟩
    · exact ⟨hc, hg, by omega⟩
theorem IV_congr {P P' : Nat → Nat → Prop} (h : ∀ c g, VP F S c g → (P c g ↔ P' c g)) {cur : TG} (i : IV F S P cur) : IV F S P' cur := by
  cases cur with
  | none => exact fun c g hp hv => i c g ((h c g hv).mpr hp) hv
  | some x =>
    obtain ⟨t, g, w, b⟩ := x
    obtain ⟨a1, a2, a3, a4⟩ := i
    exact ⟨(h t g a2).mp a1, a2, a3, fun c' g' s' hp hv hf => a4 c' g' s' ((h c' g' hv).mpr hp) hv hf⟩
theorem IV_step {c g : Nat} (hc : c < fN F) (hg : g < fN F) (hu : unk F S c = true) {cur : TG} (i : IV F S (Pr F c g) cur) : IV F S (Pr F c (g + 1)) (bstep F S c g cur) := by
  unfold bstep
  by_cases hv : vld F S c g = true
  · rw [if_pos hv]
    obtain ⟨s, b, hs, hb, hle, hbs⟩ := vld_some hv
    rw [hs, hb]
    dsimp only
    have hvp : VP F S c g := ⟨hu, hv⟩
    have hnew : Pr F c (g + 1) c g := (Pr_step hc hg).mpr (Or.inr ⟨rfl, rfl⟩)
    cases cur with
    | none =>
      dsimp only
      refine ⟨hnew, hvp, ⟨s, b, hs, hb, rfl, rfl⟩, fun c' g' s' hp hv' hf => ?_⟩
      rcases (Pr_step hc hg).mp hp with hp | ⟨rfl, rfl⟩
      · exact absurd hv' (i c' g' hp)
      · rw [hs] at hf
        injection hf with hf
        exact ⟨by omega, fun _ => Or.inr ⟨rfl, Nat.le_refl _⟩⟩
    | some x =>
      obtain ⟨t, g0, w, wb⟩ := x
      obtain ⟨a1, a2, a3, a4⟩ := i
      dsimp only
      by_cases hlt : s + 1 < w
      · rw [if_pos hlt]
        refine ⟨hnew, hvp, ⟨s, b, hs, hb, rfl, rfl⟩, fun c' g' s' hp hv' hf => ?_⟩
        rcases (Pr_step hc hg).mp hp with hp | ⟨rfl, rfl⟩
        · have := (a4 c' g' s' hp hv' hf).1
          exact ⟨by omega, fun e => by omega⟩
        · rw [hs] at hf
          injection hf with hf
          exact ⟨by omega, fun _ => Or.inr ⟨rfl, Nat.le_refl _⟩⟩
      · rw [if_neg hlt]
        refine ⟨(Pr_step hc hg).mpr (Or.inl a1), a2, a3, fun c' g' s' hp hv' hf => ?_⟩
        rcases (Pr_step hc hg).mp hp with hp | ⟨rfl, rfl⟩
        · exact a4 c' g' s' hp hv' hf
        · rw [hs] at hf
          injection hf with hf
          refine ⟨by omega, fun _ => ?_⟩
          have := a1.2.2
          omega
  · rw [if_neg hv]
    refine IV_congr (fun c' g' hv' => ?_) i
    rw [Pr_step hc hg]
    constructor
    · exact Or.inl
    · rintro (h | ⟨rfl, rfl⟩)
      · exact h
      · exact absurd hv'.2 hv
theorem IV_G {c : Nat} (hc : c < fN F) (hu : unk F S c = true) : ∀ (m g : Nat) (cur : TG), g + m = fN F → IV F S (Pr F c g) cur → IV F S (Pr F c (fN F)) (bG F S c m g cur) := by
  intro m
  induction m with
  | zero =>
    intro g cur hg i
    have : g = fN F := by omega
    subst this
    exact i
  | succ m ih =>
    intro g cur hg i
    exact ih (g + 1) _ (by omega) (IV_step hc (by omega) hu i)
theorem IV_C : ∀ (m c : Nat) (cur : TG), c + m = fN F → IV F S (Pr F c 0) cur → IV F S (Pr F (fN F) 0) (bC F S m c cur) := by
  intro m
  induction m with
  | zero =>
    intro c cur hc i
    have : c = fN F := by omega
    subst this
    exact i
  | succ m ih =>
    intro c cur hc i
    refine ih (c + 1) _ (by omega) ?_
    by_cases hu : unk F S c = true
    · rw [if_pos hu]
      refine IV_congr (fun c' g' _ => ?_) (IV_G (by omega) hu (fN F) 0 cur (by omega) i)
      unfold Pr
      constructor
      · rintro ⟨a1, a2, a3⟩; exact ⟨a1, a2, by omega⟩
      · rintro ⟨a1, a2, a3⟩; exact ⟨a1, a2, by omega⟩
    · rw [if_neg hu]
      refine IV_congr (fun c' g' hv => ?_) i
      unfold Pr
      constructor
      · rintro ⟨a1, a2, a3⟩; exact ⟨a1, a2, by omega⟩
      · rintro ⟨a1, a2, a3⟩
        refine ⟨a1, a2, ?_⟩
        rcases a3 with a3 | a3
        · by_cases e : c' = c
          · subst e; exact absurd hv.1 hu
          · omega
        · omega
theorem bsd_iff {c g : Nat} : bsd F c g 4 = true ↔ Adj F c g := by
  simp only [bsd, Bool.or_eq_true, beq_iff_eq, Bool.false_eq_true, false_or]
  constructor
  · rintro (((h | h) | h) | h)
    · exact ⟨0, by decide, h⟩
    · exact ⟨1, by decide, h⟩
    · exact ⟨2, by decide, h⟩
    · exact ⟨3, by decide, h⟩
  · rintro ⟨hd, h4, h⟩
    rcases (show hd = 0 ∨ hd = 1 ∨ hd = 2 ∨ hd = 3 by omega) with rfl | rfl | rfl | rfl
    · exact Or.inl (Or.inl (Or.inl h))
    · exact Or.inl (Or.inl (Or.inr h))
    · exact Or.inl (Or.inr h)
    · exact Or.inr h
theorem ex_iff {K : Nat → Bool} {a : Option Nat} {s c : Nat} (hs : s < 36) : ex F K a s c = true ↔ dst F K a c = some s := by
  rw [dst_some]
  cases s with
  | zero =>
    show lvl F K a 0 c = true ↔ _
    exact ⟨fun h => ⟨by decide, h, fun j hj => absurd hj (Nat.not_lt_zero _)⟩, fun h => h.2.1⟩
  | succ s =>
    show ((arn F (lvl F K a s) c && K c) && !(lvl F K a s c)) = true ↔ _
    have e : lvl F K a (s + 1) c = (lvl F K a s c || (arn F (lvl F K a s) c && K c)) := rfl
    rw [e]
    constructor
    · intro h
      rw [Bool.and_eq_true] at h
      obtain ⟨h1, h2⟩ := h
      have h3 : lvl F K a s c = false := by simpa using h2
      refine ⟨hs, by rw [h1]; simp, fun j hj => ?_⟩
      cases q : lvl F K a j c with
      | false => rfl
      | true =>
        have := lvl_mono q s (by omega)
        rw [h3] at this
        cases this
    · rintro ⟨-, h1, h2⟩
      have h3 := h2 s (by omega)
      rw [h3] at h1 ⊢
      simpa using h1
theorem gts_iff (hF : fOK F) (hK : sub F (kn1 S)) {s c : Nat} (hs : s < 36) : gts F S s c = true ↔ far F S c = some s ∧ ∃ b, hom F S c = some b ∧ s + b + 2 ≤ sCh S := by
  constructor
  · intro h
    have h0 : (ex F (kn1 S) (some (sAt S)) s c && wth F (kn1 S) (some (fD F)) ((sCh S : Int) - s - 2) c) = true := h
    rw [Bool.and_eq_true] at h0
    refine ⟨(ex_iff hs).mp h0.1, ?_⟩
    obtain ⟨b, hb, hle⟩ := home_in hF hK h
    refine ⟨b, ?_, by omega⟩
    unfold hom
    rw [dst_symm hF hK]
    exact hb
  · rintro ⟨h1, b, h2, h3⟩
    show (ex F (kn1 S) (some (sAt S)) s c && wth F (kn1 S) (some (fD F)) ((sCh S : Int) - s - 2) c) = true
    rw [Bool.and_eq_true]
    refine ⟨(ex_iff hs).mpr h1, ?_⟩
    rw [wth_at (by omega)]
    obtain ⟨hb, hl, -⟩ := dst_some.mp h2
    exact lvl_mono hl _ (by omega)
theorem unk_lt {c : Nat} (h : unk F S c = true) : c < fN F := by
  simp only [unk, Bool.and_eq_true, decide_eq_true_eq] at h
  exact h.1.1.1
theorem tgs_iff (hF : fOK F) (hK : sub F (kn1 S)) {s c : Nat} (hs : s < 36) : tgs F S s c = true ↔ ∃ g, VP F S c g ∧ far F S g = some s ∧ g < fN F := by
  show (arn F (gts F S s) c && unk F S c) = true ↔ _
  rw [Bool.and_eq_true, arn_adj]
  constructor
  · rintro ⟨⟨hc, g, ha, hg⟩, hu⟩
    obtain ⟨h1, b, h2, h3⟩ := (gts_iff hF hK hs).mp hg
    refine ⟨g, ⟨hu, ?_⟩, h1, (Adj.symm hF hc ha).1⟩
    unfold vld
    rw [h1, h2, bsd_iff.mpr ha]
    simpa using h3
  · rintro ⟨g, ⟨hu, hv⟩, hf, hg⟩
    obtain ⟨s', b, h1, h2, h3, h4⟩ := vld_some hv
    rw [hf] at h1
    injection h1 with h1
    subst h1
    exact ⟨⟨unk_lt hu, g, bsd_iff.mp h4, (gts_iff hF hK hs).mpr ⟨hf, b, h2, h3⟩⟩, hu⟩
theorem gat_iff (hF : fOK F) (hK : sub F (kn1 S)) {s t g : Nat} (hs : s < 36) (hu : unk F S t = true) : gat F S s t g = true ↔ VP F S t g ∧ far F S g = some s ∧ g < fN F := by
  show (gts F S s g && arn F (oneO (some t)) g) = true ↔ _
  rw [Bool.and_eq_true, arn_adj]
  have ht := unk_lt hu
  constructor
  · rintro ⟨hg, hgn, b, ha, hb⟩
    have e : t = b := by simpa [oneO] using hb
    subst e
    obtain ⟨h1, b2, h2, h3⟩ := (gts_iff hF hK hs).mp hg
    refine ⟨⟨hu, ?_⟩, h1, hgn⟩
    unfold vld
    rw [h1, h2, bsd_iff.mpr (Adj.symm hF hgn ha).2]
    simpa using h3
  · rintro ⟨⟨-, hv⟩, hf, hgn⟩
    obtain ⟨s', b, h1, h2, h3, h4⟩ := vld_some hv
    rw [hf] at h1
    injection h1 with h1
    subst h1
    refine ⟨(gts_iff hF hK hs).mpr ⟨hf, b, h2, h3⟩, hgn, t, (Adj.symm hF ht (bsd_iff.mp h4)).2, by simp [oneO]⟩
theorem bC_tgt (hF : fOK F) (hK : sub F (kn1 S)) : bC F S (fN F) 0 none = tgt F S := by
  have h36 := fN_le hF
  have i := IV_C (F := F) (S := S) (fN F) 0 none (by omega) (fun c g hp => by have := hp.2.2; omega)
  cases hr : bC F S (fN F) 0 none with
  | none =>
    rw [hr] at i
    have hno : ∀ s, s < 36 → ∀ c, tgs F S s c = false := by
      intro s hs c
      cases q : tgs F S s c with
      | false => rfl
      | true =>
        obtain ⟨g, hv, hf, hg⟩ := (tgs_iff hF hK hs).mp q
        exact absurd hv (i c g ⟨unk_lt hv.1, hg, Or.inl (unk_lt hv.1)⟩)
    have h0 : fst (tHas F S) 36 0 = none := by
      refine fst_none.mpr (fun s _ hs => ?_)
      unfold tHas
      rw [show fst (tgs F S s) 36 0 = none from fst_none.mpr (fun c _ _ => hno s (by omega) c)]
      rfl
    unfold tgt
    rw [h0]
  | some x =>
    obtain ⟨t, gt, w, b⟩ := x
    rw [hr] at i
    obtain ⟨a1, a2, ⟨s, hb, e1, e2, rfl, rfl⟩, a4⟩ := i
    have hs : s < 36 := dst_lt e1
    have htn := unk_lt a2.1
    have hgn := a1.2.1
    have PrA : ∀ c g, c < fN F → g < fN F → Pr F (fN F) 0 c g := fun c g hc hg => ⟨hc, hg, Or.inl hc⟩
    have hT : fst (tgs F S s) 36 0 = some t := by
      refine fst_some.mpr ⟨by omega, by omega, (tgs_iff hF hK hs).mpr ⟨gt, a2, e1, hgn⟩, fun t' _ hlt => ?_⟩
      cases q : tgs F S s t' with
      | false => rfl
      | true =>
        obtain ⟨g', hv, hf, hg⟩ := (tgs_iff hF hK hs).mp q
        have := (a4 t' g' s (PrA _ _ (unk_lt hv.1) hg) hv hf).2 rfl
        omega
    have hH : fst (tHas F S) 36 0 = some s := by
      refine fst_some.mpr ⟨by omega, by omega, ?_, fun s' _ hlt => ?_⟩
      · unfold tHas; rw [hT]; rfl
      · cases q : tHas F S s' with
        | false => rfl
        | true =>
          unfold tHas at q
          cases q2 : fst (tgs F S s') 36 0 with
          | none => rw [q2] at q; cases q
          | some t' =>
            have q3 := (fst_some.mp q2).2.2.1
            obtain ⟨g', hv, hf, hg⟩ := (tgs_iff hF hK (by omega)).mp q3
            have := (a4 t' g' s' (PrA _ _ (unk_lt hv.1) hg) hv hf).1
            omega
    have hG : fst (gat F S s t) 36 0 = some gt := by
      refine fst_some.mpr ⟨by omega, by omega, (gat_iff hF hK hs a2.1).mpr ⟨a2, e1, hgn⟩, fun g' _ hlt => ?_⟩
      cases q : gat F S s t g' with
      | false => rfl
      | true =>
        obtain ⟨hv, hf, hg⟩ := (gat_iff hF hK hs a2.1).mp q
        have := (a4 t g' s (PrA _ _ htn hg) hv hf).2 rfl
        omega
    have hD : dst F (kn1 S) (some gt) (fD F) = some hb := by
      rw [dst_symm hF hK]
      exact e2
    unfold tgt
    rw [hH]
    dsimp only
    rw [hT]
    dsimp only
    rw [hG]
    dsimp only
    rw [hD]
/-- what is known of a target -/
theorem tgt_facts (hF : fOK F) (hK : sub F (kn1 S)) {t gt w b : Nat} (e : tgt F S = some (t, gt, w, b)) : ∃ s hb, far F S gt = some s ∧ hom F S gt = some hb ∧ w = s + 1 ∧ b = hb + 1 ∧ Adj F t gt ∧ t < fN F ∧ gt < fN F := by
  have i := IV_C (F := F) (S := S) (fN F) 0 none (by omega) (fun c g hp => by have := hp.2.2; omega)
  rw [bC_tgt hF hK, e] at i
  obtain ⟨a1, a2, ⟨s, hb, e1, e2, rfl, rfl⟩, -⟩ := i
  obtain ⟨_, _, _, _, _, h4⟩ := vld_some a2.2
  exact ⟨s, hb, e1, e2, rfl, rfl, bsd_iff.mp h4, a1.1, a1.2.1⟩
end C64
