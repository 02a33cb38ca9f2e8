/-! ===== sets of cells as longs ===== -/
def mB (p : Nat → Bool) : Nat → BitVec 64
  | 0 => 0#64
  | n + 1 => mB p n ||| (if p n then BitVec.twoPow 64 n else 0#64)
theorem mB_get (p : Nat → Bool) : ∀ n, n ≤ 64 → ∀ i, (mB p n).getLsbD i = (decide (i < n) && p i) := by
  intro n
  induction n with
  | zero => intro _ i; simp [mB]
  | succ n ih =>
    intro hn i
    rw [mB, BitVec.getLsbD_or, ih (by omega)]
    by_cases hi : i = n
    · subst hi
      by_cases hp : p i = true
      · simp [hp, BitVec.getLsbD_twoPow]; omega
      · simp [hp]
    · by_cases hp : p n = true
      · simp only [hp, if_true, BitVec.getLsbD_twoPow]
        have h1 : decide (n = i) = false := by simp; omega
        have h2 : decide (i < n + 1) = decide (i < n) := by simp; omega
        rw [h2, h1]
        simp
      · have h2 : decide (i < n + 1) = decide (i < n) := by simp; omega
        rw [h2]
        simp [hp]
def mset (p : Nat → Bool) : Int64 := Int64.ofBitVec (mB p 36)
def bs (m : Int64) (i : Nat) : Bool := m.toBitVec.getLsbD i
theorem bs_mset (p : Nat → Bool) (i : Nat) : bs (mset p) i = (decide (i < 36) && p i) := by
  show (mB p 36).getLsbD i = _
  exact mB_get p 36 (by decide) i
theorem bs_ext {a b : Int64} (h : ∀ i, i < 64 → bs a i = bs b i) : a = b := Int64.toBitVec_inj.mp (BitVec.eq_of_getLsbD_eq (fun i hi => h i hi))
theorem mset_congr {p q : Nat → Bool} (h : ∀ i, i < 36 → p i = q i) : mset p = mset q := by
  apply bs_ext
  intro i _
  rw [bs_mset, bs_mset]
  by_cases hi : i < 36
  · rw [h i hi]
  · simp [hi]
theorem mset_inj {p q : Nat → Bool} (h : mset p = mset q) : ∀ i, i < 36 → p i = q i := by
  intro i hi
  have h1 : bs (mset p) i = bs (mset q) i := by rw [h]
  rw [bs_mset, bs_mset] at h1
  simpa [hi] using h1
theorem bs_and (a b : Int64) (i : Nat) : bs (a &&& b) i = (bs a i && bs b i) := by simp [bs]
theorem bs_or (a b : Int64) (i : Nat) : bs (a ||| b) i = (bs a i || bs b i) := by simp [bs]
theorem bs_xor (a b : Int64) (i : Nat) : bs (a ^^^ b) i = (bs a i ^^ bs b i) := by simp [bs]
theorem bs_m1 {i : Nat} (h : i < 64) : bs (-1) i = true := by
  have : ∀ i, i < 64 → bs (-1) i = true := by decide +kernel
  exact this i h
theorem bs_0 (i : Nat) : bs 0 i = false := by simp [bs]
theorem bs_not (a : Int64) {i : Nat} (h : i < 64) : bs (a ^^^ (-1)) i = !(bs a i) := by rw [bs_xor, bs_m1 h]; simp
theorem m_or (p q : Nat → Bool) : mset p ||| mset q = mset (fun i => p i || q i) := by
  apply bs_ext; intro i _; rw [bs_or, bs_mset, bs_mset, bs_mset]; by_cases hi : i < 36 <;> simp [hi]
theorem m_and (p q : Nat → Bool) : mset p &&& mset q = mset (fun i => p i && q i) := by
  apply bs_ext; intro i _; rw [bs_and, bs_mset, bs_mset, bs_mset]; by_cases hi : i < 36 <;> simp [hi]
theorem m_xor (p q : Nat → Bool) : mset p ^^^ mset q = mset (fun i => p i ^^ q i) := by
  apply bs_ext; intro i _; rw [bs_xor, bs_mset, bs_mset, bs_mset]; by_cases hi : i < 36 <;> simp [hi]
theorem m_andn (p q : Nat → Bool) : mset p &&& (mset q ^^^ (-1)) = mset (fun i => p i && !q i) := by
  apply bs_ext; intro i h64; rw [bs_and, bs_not _ h64, bs_mset, bs_mset, bs_mset]; by_cases hi : i < 36 <;> simp [hi]
theorem m_0 : (0 : Int64) = mset (fun _ => false) := by
  apply bs_ext; intro i _; rw [bs_mset, bs_0]; simp
theorem m_eq0 (p : Nat → Bool) : mset p = 0 ↔ ∀ i, i < 36 → p i = false := by
  rw [m_0]
  exact ⟨fun h i hi => mset_inj h i hi, fun h => mset_congr h⟩
theorem m_eq (p q : Nat → Bool) : mset p = mset q ↔ ∀ i, i < 36 → p i = q i := ⟨mset_inj, mset_congr⟩
theorem sh_c : ∀ k, k < 64 → ((nI k).toInt64 &&& 63).toBitVec.smod 64 = BitVec.ofNat 64 k := by decide +kernel
theorem sh_u : ∀ k, k < 64 → ((nI k).toInt64.toUInt64 &&& Int64.toUInt64 63).toNat % 64 = k := by decide +kernel
theorem bs_shl (a : Int64) {k i : Nat} (hk : k < 64) (hi : i < 64) : bs (a <<< ((nI k).toInt64 &&& 63)) i = (decide (k ≤ i) && bs a (i - k)) := by
  unfold bs
  rw [Int64.toBitVec_shiftLeft, sh_c k hk, BitVec.shiftLeft_eq', BitVec.getLsbD_shiftLeft]
  have h1 : (BitVec.ofNat 64 k).toNat = k := by simp; omega
  rw [h1]
  by_cases h : k ≤ i
  · have h2 : ¬ i < k := by omega
    simp [h, h2, hi]
  · have h2 : i < k := by omega
    simp [h, h2]
theorem bs_shr (a : Int64) {k : Nat} (hk : k < 64) (i : Nat) : bs (a.toUInt64 >>> ((nI k).toInt64.toUInt64 &&& Int64.toUInt64 63)).toInt64 i = bs a (i + k) := by
  unfold bs
  show (a.toUInt64 >>> ((nI k).toInt64.toUInt64 &&& Int64.toUInt64 63)).toBitVec.getLsbD i = _
  rw [UInt64.toBitVec_shiftRight]
  generalize hz : ((nI k).toInt64.toUInt64 &&& Int64.toUInt64 63) = z
  have hzk : z.toBitVec.toNat % 64 = k := by rw [← hz]; exact sh_u k hk
  have h1 : (z.toBitVec % 64).toNat = k := by
    rw [BitVec.toNat_umod]; exact hzk
  rw [BitVec.ushiftRight_eq', BitVec.getLsbD_ushiftRight, h1, Nat.add_comm]
  rfl
theorem m_shl {p : Nat → Bool} {k : Nat} (hk : k ≤ 6) (hp : ∀ i, p i = true → i + k < 36) : mset p <<< ((nI k).toInt64 &&& 63) = mset (fun i => decide (k ≤ i) && p (i - k)) := by
  apply bs_ext; intro i h64
  rw [bs_shl _ (by omega) h64, bs_mset, bs_mset]
  by_cases h : k ≤ i
  · by_cases hi : i < 36
    · have : i - k < 36 := by omega
      simp [h, hi, this]
    · have : p (i - k) = false := by
        cases hq : p (i - k) with
        | false => rfl
        | true => have := hp _ hq; omega
      simp [h, this]
  · simp [h]
theorem m_shlA {p a : Nat → Bool} {k : Nat} (hk : k ≤ 6) : mset p <<< ((nI k).toInt64 &&& 63) &&& mset a = mset (fun i => (decide (k ≤ i) && p (i - k)) && a i) := by
  apply bs_ext; intro i h64
  rw [bs_and, bs_shl _ (by omega) h64, bs_mset, bs_mset, bs_mset]
  by_cases h : k ≤ i
  · by_cases hi : i < 36
    · have : i - k < 36 := by omega
      simp [h, hi, this]
    · simp [hi]
  · simp [h]
theorem m_shr {p : Nat → Bool} {k : Nat} (hk : k ≤ 6) (hp : ∀ i, p i = true → i < 36) : ((mset p).toUInt64 >>> ((nI k).toInt64.toUInt64 &&& Int64.toUInt64 63)).toInt64 = mset (fun i => p (i + k)) := by
  apply bs_ext; intro i h64
  rw [bs_shr _ (by omega), bs_mset, bs_mset]
  cases hq : p (i + k) with
  | false => simp
  | true => have := hp _ hq; simp; omega
/-- one cell -/
def one (c : Nat) : Nat → Bool := fun i => i == c
theorem m_one : ∀ c, c < 36 → (1 : Int64) <<< ((nI c).toInt64 &&& 63) = mset (one c) := by
  intro c hc
  apply bs_ext; intro i h64
  rw [bs_shl _ (by omega) h64, bs_mset]
  have h1 : ∀ j, j < 64 → bs 1 j = decide (j = 0) := by decide +kernel
  rw [h1 _ (by omega)]
  simp only [one]
  by_cases h : i = c
  · subst h; simp; omega
  · by_cases h2 : c ≤ i
    · have : ¬ (i - c = 0) := by omega
      have h3 : (i == c) = false := by simpa using h
      simp [this, h3]
    · have h3 : (i == c) = false := by simpa using h
      simp [h2, h3]
