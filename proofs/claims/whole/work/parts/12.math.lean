/-! ===== searching, counting ===== -/
/-- the first of n places from s on -/
def fst (p : Nat → Bool) : Nat → Nat → Option Nat
  | 0, _ => none
  | n + 1, s => if p s = true then some s else fst p n (s + 1)
theorem fst_some {p : Nat → Bool} : ∀ {n s k : Nat}, fst p n s = some k ↔ (s ≤ k ∧ k < s + n ∧ p k = true ∧ ∀ j, s ≤ j → j < k → p j = false) := by
  intro n
  induction n with
  | zero =>
    intro s k
    constructor
    · intro h; cases h
    · rintro ⟨h1, h2, -⟩; omega
  | succ n ih =>
    intro s k
    by_cases hp : p s = true
    · simp only [fst, hp, if_true]
      constructor
      · intro h
        cases h
        exact ⟨Nat.le_refl _, by omega, hp, fun j h1 h2 => by omega⟩
      · rintro ⟨h1, h2, h3, h4⟩
        rcases Nat.lt_or_ge s k with h | h
        · have := h4 s (Nat.le_refl _) h
          rw [hp] at this
          cases this
        · congr 1; omega
    · rw [show fst p (n + 1) s = fst p n (s + 1) from by simp [fst, hp], ih]
      constructor
      · rintro ⟨h1, h2, h3, h4⟩
        refine ⟨by omega, by omega, h3, fun j g1 g2 => ?_⟩
        rcases Nat.lt_or_ge s j with h | h
        · exact h4 j h g2
        · have : j = s := by omega
          subst this
          simpa using hp
      · rintro ⟨h1, h2, h3, h4⟩
        have hne : s ≠ k := fun e => hp (by rw [e]; exact h3)
        exact ⟨by omega, by omega, h3, fun j g1 g2 => h4 j (by omega) g2⟩
theorem fst_none {p : Nat → Bool} : ∀ {n s : Nat}, fst p n s = none ↔ (∀ j, s ≤ j → j < s + n → p j = false) := by
  intro n
  induction n with
  | zero => intro s; constructor; (intro _ j h1 h2; omega); intro _; rfl
  | succ n ih =>
    intro s
    by_cases hp : p s = true
    · simp only [fst, hp, if_true]
      constructor
      · intro h; cases h
      · intro h
        have := h s (Nat.le_refl _) (by omega)
        rw [hp] at this; cases this
    · rw [show fst p (n + 1) s = fst p n (s + 1) from by simp [fst, hp], ih]
      constructor
      · intro h j h1 h2
        rcases Nat.lt_or_ge s j with g | g
        · exact h j g (by omega)
        · have : j = s := by omega
          subst this
          simpa using hp
      · intro h j h1 h2
        exact h j (by omega) (by omega)
theorem fst_t {p : Nat → Bool} {n s : Nat} (h : p s = true) : fst p (n + 1) s = some s := by simp [fst, h]
theorem fst_f {p : Nat → Bool} {n s : Nat} (h : p s = false) : fst p (n + 1) s = fst p n (s + 1) := by simp [fst, h]
def cnt (p : Nat → Bool) : Nat → Nat
  | 0 => 0
  | n + 1 => cnt p n + (if p n = true then 1 else 0)
theorem cnt_le (p : Nat → Bool) : ∀ n, cnt p n ≤ n := by
  intro n
  induction n with
  | zero => exact Nat.le_refl _
  | succ n ih => simp only [cnt]; split <;> omega
theorem cnt_congr {p q : Nat → Bool} : ∀ {n : Nat}, (∀ i, i < n → p i = q i) → cnt p n = cnt q n := by
  intro n
  induction n with
  | zero => intro _; rfl
  | succ n ih =>
    intro h
    simp only [cnt]
    rw [ih (fun i hi => h i (by omega)), h n (by omega)]
theorem cnt_more {p : Nat → Bool} {n m : Nat} (hnm : n ≤ m) (h : ∀ i, n ≤ i → i < m → p i = false) : cnt p m = cnt p n := by
  induction m with
  | zero => have : n = 0 := by omega
            subst this; rfl
  | succ m ih =>
    rcases Nat.lt_or_ge m n with g | g
    · have : n = m + 1 := by omega
      subst this; rfl
    · simp only [cnt]
      rw [ih g (fun i h1 h2 => h i h1 (by omega)), h m g (by omega)]
      simp
/-- a cell, or none, as an int -/
def oI : Option Nat → Int32
  | none => -1
  | some c => nI c
def oneO (a : Option Nat) : Nat → Bool := fun i => a == some i
def oOK (a : Option Nat) : Prop := ∀ c, a = some c → c < 36
theorem oOK_none : oOK none := fun _ h => by cases h
theorem oOK_some {c : Nat} (h : c < 36) : oOK (some c) := fun _ e => by cases e; exact h
theorem oneO_some (c : Nat) : oneO (some c) = one c := by
  funext i
  simp only [oneO, one]
  by_cases h : i = c
  · subst h; simp
  · have h1 : (i == c) = false := by simpa using h
    have h2 : (some c == some i) = false := by simpa using fun e => h e.symm
    rw [h1, h2]
theorem oneO_none : oneO none = fun _ => false := by funext i; rfl
def dI : Option Nat → Int32
  | none => -9
  | some k => nI k
/-! ===== steps over a set of cells ===== -/
def lvl (F : Fl) (K : Nat → Bool) (a : Option Nat) : Nat → Nat → Bool
  | 0 => fun c => oneO a c && K c
  | k + 1 => fun c => lvl F K a k c || (arn F (lvl F K a k) c && K c)
theorem lvl_K {F : Fl} {K : Nat → Bool} {a : Option Nat} : ∀ (k c : Nat), lvl F K a k c = true → K c = true := by
  intro k
  induction k with
  | zero => intro c h; simp only [lvl, Bool.and_eq_true] at h; exact h.2
  | succ k ih =>
    intro c h
    simp only [lvl, Bool.or_eq_true, Bool.and_eq_true] at h
    rcases h with h | h
    · exact ih c h
    · exact h.2
theorem lvl_sub {F : Fl} {K : Nat → Bool} {a : Option Nat} (hK : sub F K) (k : Nat) : sub F (lvl F K a k) := fun c h => hK c (lvl_K k c h)
theorem lvl_eq {F : Fl} (h : fOK F) {K : Nat → Bool} {a : Option Nat} (hK : sub F K) {k : Nat} (e : mset (lvl F K a (k + 1)) = mset (lvl F K a k)) : lvl F K a (k + 1) = lvl F K a k := by
  funext i
  by_cases hi : i < 36
  · exact mset_inj e i hi
  · cases h1 : lvl F K a (k + 1) i with
    | true => exact absurd (sub36 h (lvl_sub hK _) i h1) hi
    | false =>
      cases h2 : lvl F K a k i with
      | true => exact absurd (sub36 h (lvl_sub hK _) i h2) hi
      | false => rfl
theorem lvl_stay {F : Fl} {K : Nat → Bool} {a : Option Nat} {k : Nat} (e : lvl F K a (k + 1) = lvl F K a k) : ∀ j, lvl F K a (k + j) = lvl F K a k := by
  intro j
  induction j with
  | zero => rfl
  | succ j ih =>
    have : lvl F K a (k + j + 1) = fun c => lvl F K a (k + j) c || (arn F (lvl F K a (k + j)) c && K c) := rfl
    rw [← Nat.add_assoc, this, ih]
    exact e
theorem lvl_up {F : Fl} {K : Nat → Bool} {a : Option Nat} {k c : Nat} (h : lvl F K a k c = true) : lvl F K a (k + 1) c = true := by
  simp only [lvl, h, Bool.true_or]
theorem lvl_mono {F : Fl} {K : Nat → Bool} {a : Option Nat} {k c : Nat} (h : lvl F K a k c = true) : ∀ j, k ≤ j → lvl F K a j c = true := by
  intro j hj
  induction j with
  | zero => have : k = 0 := by omega
            subst this; exact h
  | succ j ih =>
    rcases Nat.lt_or_ge j k with g | g
    · have : k = j + 1 := by omega
      subst this; exact h
    · exact lvl_up (ih g)
def dst (F : Fl) (K : Nat → Bool) (a : Option Nat) (c : Nat) : Option Nat := fst (fun k => lvl F K a k c) 36 0
/-- the cells to which it is s steps at most -/
def wth (F : Fl) (K : Nat → Bool) (a : Option Nat) (s : Int) : Nat → Bool := if s < 0 then (fun _ => false) else lvl F K a (min s.toNat 36)
/-- when the level stays -/
def mst (F : Fl) (K : Nat → Bool) (a : Option Nat) : Nat := (fst (fun s => (List.range 36).all (fun i => lvl F K a (s + 1) i == lvl F K a s i)) 36 0).getD 35
/-! ===== the robot ===== -/
abbrev Sit : Type := (Nat → Bool) × Nat × Nat × Nat × Nat × Nat × (Nat → Nat) × Bool × (Nat → Nat → Bool)
def sShut (S : Sit) : Nat → Bool := S.1
def sBrim (S : Sit) : Nat := S.2.1
def sRate (S : Sit) : Nat := S.2.2.1
def sAt (S : Sit) : Nat := S.2.2.2.1
def sHd (S : Sit) : Nat := S.2.2.2.2.1
def sCh (S : Sit) : Nat := S.2.2.2.2.2.1
def sKn (S : Sit) : Nat → Nat := S.2.2.2.2.2.2.1
def sLost (S : Sit) : Bool := S.2.2.2.2.2.2.2.1
def sPl (S : Sit) : Nat → Nat → Bool := S.2.2.2.2.2.2.2.2
def kn1 (S : Sit) : Nat → Bool := fun i => sKn S i == 1
def kn2 (S : Sit) : Nat → Bool := fun i => sKn S i == 2
/-- the ground lies at cell 4, a situation's places right behind it -/
def gC (F : Fl) : zC := .inr (2, [.int (nI (fW F)), .int (nI (fH F)), .int (nI (fD F)), .long (mset (gAll F)), .long (mset (gK F 0)), .long (mset (gK F 2)), .long (mset (gK F 3)), .long (mset (gK F 4)), .long (mset (gLeft F)), .long (mset (gRight F))])
def sitC (k : Nat) (S : Sit) : zC := .inr (3, [.ref 4, .long (mset (sShut S)), .int (nI (sBrim S)), .int (nI (sRate S)), .int (nI (sAt S)), .int (nI (sHd S)), .int (nI (sCh S)), .long (mset (kn1 S)), .long (mset (kn2 S)), .int (if sLost S then 1 else 0), .ref (k + 1)])
def plC (S : Sit) : zC := .inl (1, 4, .inr (.inl (fun j => mset (fun c => sPl S c j))))
/-- a FREE cell -/
def fre (F : Fl) (S : Sit) : Nat → Bool := fun i => decide (i < fN F) && (fK F i == 0 || fK F i == 6 || fK F i == 4) && !sShut S i
def told (F : Fl) (S : Sit) : Option Nat → Nat
  | none => 1
  | some c => if fK F c = 3 then 2 else if fre F S c = true then 0 else 1
def outc (F : Fl) (S : Sit) : Option Nat → Nat
  | none => 1
  | some c => if fre F S c = true then 0 else if fK F c = 2 then 2 else if fK F c = 3 then 3 else 1
def canBe (F : Fl) (S : Sit) (t : Nat) : Option Nat → Bool
  | none => t == 1
  | some c => if t = 2 then fK F c == 3 else (!(fK F c == 3)) && (fK F c == 4 || !(sKn S c == (if t = 0 then 2 else 1)))
def keepP (F : Fl) (S : Sit) (t q : Nat) (pl : Nat → Nat → Bool) : Nat → Nat → Bool := fun c h => pl c h && (decide (c < fN F) && canBe F S t (nb F c ((h + q) % 4)))
def moveP (F : Fl) (pl : Nat → Nat → Bool) : Nat → Nat → Bool := fun c h => bes F h (fun b => pl b h) c
def many (pl : Nat → Nat → Bool) : Nat := cnt (fun c => pl c 0) 36 + cnt (fun c => pl c 1) 36 + cnt (fun c => pl c 2) 36 + cnt (fun c => pl c 3) 36
def setPl (S : Sit) (pl : Nat → Nat → Bool) : Sit := (sShut S, sBrim S, sRate S, sAt S, sHd S, sCh S, sKn S, sLost S, pl)
def setLost (S : Sit) (b : Bool) : Sit := (sShut S, sBrim S, sRate S, sAt S, sHd S, sCh S, sKn S, b, sPl S)
def setAt' (S : Sit) (c : Nat) : Sit := (sShut S, sBrim S, sRate S, c, sHd S, sCh S, sKn S, sLost S, sPl S)
def setHd (S : Sit) (c : Nat) : Sit := (sShut S, sBrim S, sRate S, sAt S, c, sCh S, sKn S, sLost S, sPl S)
def setCh (S : Sit) (c : Nat) : Sit := (sShut S, sBrim S, sRate S, sAt S, sHd S, c, sKn S, sLost S, sPl S)
def setKn (S : Sit) (f : Nat → Nat) : Sit := (sShut S, sBrim S, sRate S, sAt S, sHd S, sCh S, f, sLost S, sPl S)
def setShut (S : Sit) (f : Nat → Bool) : Sit := (f, sBrim S, sRate S, sAt S, sHd S, sCh S, sKn S, sLost S, sPl S)
def setPow (S : Sit) (b r : Nat) : Sit := (sShut S, b, r, sAt S, sHd S, sCh S, sKn S, sLost S, sPl S)
/-- FOUND, if there is just one place -/
def found (S : Sit) : Sit := if sLost S = true ∧ many (sPl S) = 1 then setLost S false else S
def lrn (S : Sit) (o : Option Nat) (out : Nat) : Sit := match o with
  | none => S
  | some c => if out = 0 then setKn S (fun i => if i = c then 1 else sKn S i) else if out = 3 then S else setKn S (fun i => if i = c then 2 else sKn S i)
def sortP (F : Fl) (S : Sit) (out : Nat) : Sit := found (setPl S (if out = 0 then moveP F (keepP F S 0 0 (sPl S)) else keepP F S (if out = 3 then 2 else 1) 0 (sPl S)))
/-- a STEP -/
def stepS (F : Fl) (S : Sit) (hand : Nat) : Sit :=
  let S1 := setCh (setHd S hand) (sCh S - 1)
  let o := nb F (sAt S) hand
  let out := outc F S o
  let S2 := if sLost S = true then sortP F S1 out else lrn S1 o out
  if out = 0 then setAt' S2 (o.getD 0) else S2
def stepO (F : Fl) (S : Sit) (hand : Nat) : Nat := outc F S (nb F (sAt S) hand)
def turnP (q : Nat) (pl : Nat → Nat → Bool) : Nat → Nat → Bool := fun c h => pl c ((h + 4 - q) % 4)
def turnS (S : Sit) (q : Nat) : Sit := if sLost S = true then found (setPl (setHd S ((sHd S + q) % 4)) (turnP q (sPl S))) else setHd S ((sHd S + q) % 4)
def scanT (F : Fl) (S : Sit) (q : Nat) : Nat := told F S (nb F (sAt S) ((sHd S + q) % 4))
def scanO (F : Fl) (S : Sit) : Nat := ((scanT F S 0 * 3 + scanT F S 1) * 3 + scanT F S 2) * 3 + scanT F S 3
def scanS (F : Fl) (S : Sit) : Sit := if sLost S = true then found (setPl S (keepP F S (scanT F S 3) 3 (keepP F S (scanT F S 2) 2 (keepP F S (scanT F S 1) 1 (keepP F S (scanT F S 0) 0 (sPl S)))))) else S
def carP (F : Fl) (S : Sit) : Nat → Nat → Bool := fun c _ => decide (c < fN F) && canBe F S 0 (some c)
def carS0 (F : Fl) (S : Sit) (c hd : Nat) : Sit := setPl (setLost (setHd (setAt' S c) hd) true) (carP F S)
def carS (F : Fl) (S : Sit) (c hd : Nat) : Sit := found (carS0 F S c hd)
