/-! ===== counting the bits of a long ===== -/
def ds (w : Nat) (f : Nat → Nat) : Nat → Nat
  | 0 => 0
  | n + 1 => ds w f n + f n * 2 ^ (w * n)
theorem ds_lt {w : Nat} {f : Nat → Nat} : ∀ {n : Nat}, (∀ j, j < n → f j < 2 ^ w) → ds w f n < 2 ^ (w * n) := by
  intro n
  induction n with
  | zero => intro _; simp [ds]
  | succ n ih =>
    intro h
    have h1 := ih (fun j hj => h j (by omega))
    have h2 : f n + 1 ≤ 2 ^ w := h n (by omega)
    have h3 := Nat.mul_le_mul_right (2 ^ (w * n)) h2
    have e : 2 ^ (w * (n + 1)) = 2 ^ w * 2 ^ (w * n) := by rw [Nat.mul_succ, Nat.add_comm, Nat.pow_add]
    rw [e]
    simp only [ds]
    rw [Nat.add_mul, Nat.one_mul] at h3
    omega
theorem ds_bit {w : Nat} (hw : 0 < w) {f : Nat → Nat} : ∀ {n : Nat}, (∀ j, j < n → f j < 2 ^ w) → ∀ i, (ds w f n).testBit i = (decide (i < w * n) && (f (i / w)).testBit (i % w)) := by
  intro n
  induction n with
  | zero => intro _ i; simp [ds]
  | succ n ih =>
    intro h i
    have h0 : ∀ j, j < n → f j < 2 ^ w := fun j hj => h j (by omega)
    have e : ds w f (n + 1) = 2 ^ (w * n) * f n + ds w f n := by simp only [ds]; rw [Nat.mul_comm (f n), Nat.add_comm]
    rw [e, Nat.testBit_two_pow_mul_add _ (ds_lt h0)]
    by_cases hi : i < w * n
    · rw [if_pos hi, ih h0]
      have : i < w * (n + 1) := by rw [Nat.mul_succ]; omega
      simp [hi, this]
    · rw [if_neg hi]
      by_cases hi2 : i < w * (n + 1)
      · have hd : i / w = n := by
          apply Nat.div_eq_of_lt_le
          · rw [Nat.mul_comm]; omega
          · rw [Nat.mul_comm]; exact hi2
        have hm : i % w = i - w * n := by
          have := Nat.div_add_mod i w
          rw [hd] at this
          omega
        simp [hi2, hd, hm]
      · have : (f n).testBit (i - w * n) = false := by
          apply Nat.testBit_lt_two_pow
          have h1 := h n (by omega)
          have h2 : w ≤ i - w * n := by rw [Nat.mul_succ] at hi2; omega
          exact Nat.lt_of_lt_of_le h1 (Nat.pow_le_pow_right (by decide) h2)
        simp [hi2, this]
theorem ds_congr {w : Nat} {f g : Nat → Nat} : ∀ {n : Nat}, (∀ j, j < n → f j = g j) → ds w f n = ds w g n := by
  intro n
  induction n with
  | zero => intro _; rfl
  | succ n ih => intro h; simp only [ds]; rw [ih (fun j hj => h j (by omega)), h n (by omega)]
theorem ds_add (w : Nat) (f g : Nat → Nat) : ∀ n, ds w f n + ds w g n = ds w (fun j => f j + g j) n := by
  intro n
  induction n with
  | zero => rfl
  | succ n ih => simp only [ds]; rw [← ih, Nat.add_mul]; omega
theorem ds_half {k : Nat} (hk : 0 < k) {f : Nat → Nat} {n : Nat} (h : ∀ j, j < n → f j < 2 ^ (2 * k)) : (ds (2 * k) f n >>> k) &&& ds (2 * k) (fun _ => 2 ^ k - 1) n = ds (2 * k) (fun j => f j / 2 ^ k) n := by
  have hp : 2 ^ k ≤ 2 ^ (2 * k) := Nat.pow_le_pow_right (by decide) (by omega)
  have hp0 : 0 < 2 ^ k := Nat.two_pow_pos k
  apply Nat.eq_of_testBit_eq
  intro i
  rw [Nat.testBit_and, Nat.testBit_shiftRight, ds_bit (by omega) h, ds_bit (by omega) (fun _ _ => by omega), ds_bit (by omega) (fun j hj => Nat.lt_of_le_of_lt (Nat.div_le_self _ _) (h j hj)), Nat.testBit_two_pow_sub_one, Nat.testBit_div_two_pow]
  by_cases hi : i < 2 * k * n
  · by_cases hm : i % (2 * k) < k
    · have hdm := Nat.div_add_mod i (2 * k)
      have e1 : (k + i) / (2 * k) = i / (2 * k) := by
        apply Nat.div_eq_of_lt_le
        · rw [Nat.mul_comm]; omega
        · rw [Nat.add_mul, Nat.one_mul, Nat.mul_comm]; omega
      have e2 : (k + i) % (2 * k) = i % (2 * k) + k := by
        have := Nat.div_add_mod (k + i) (2 * k)
        rw [e1] at this
        omega
      have hi2 : k + i < 2 * k * n := by
        have h1 : i / (2 * k) < n := Nat.div_lt_of_lt_mul hi
        have h2 : 2 * k * (i / (2 * k)) + 2 * k ≤ 2 * k * n := by rw [← Nat.mul_succ]; exact Nat.mul_le_mul_left _ h1
        omega
      simp [hi, hm, hi2, e1, e2]
    · have : (f (i / (2 * k))).testBit (i % (2 * k) + k) = false := by
        apply Nat.testBit_lt_two_pow
        exact Nat.lt_of_lt_of_le (h _ (Nat.div_lt_of_lt_mul hi)) (Nat.pow_le_pow_right (by decide) (by omega))
      simp [hm, this]
  · simp [hi]
theorem ds_low {k : Nat} (hk : 0 < k) {f : Nat → Nat} {n : Nat} (h : ∀ j, j < n → f j < 2 ^ (2 * k)) : ds (2 * k) f n &&& ds (2 * k) (fun _ => 2 ^ k - 1) n = ds (2 * k) (fun j => f j % 2 ^ k) n := by
  have hp : 2 ^ k ≤ 2 ^ (2 * k) := Nat.pow_le_pow_right (by decide) (by omega)
  have hp0 : 0 < 2 ^ k := Nat.two_pow_pos k
  apply Nat.eq_of_testBit_eq
  intro i
  rw [Nat.testBit_and, ds_bit (by omega) h, ds_bit (by omega) (fun _ _ => by omega), ds_bit (by omega) (fun j hj => Nat.lt_of_le_of_lt (Nat.mod_le _ _) (h j hj)), Nat.testBit_two_pow_sub_one, Nat.testBit_mod_two_pow]
  by_cases hi : i < 2 * k * n
  · simp [hi, Bool.and_comm]
  · simp [hi]
theorem ds_shift {w : Nat} (hw : 0 < w) {f : Nat → Nat} {n : Nat} (t : Nat) (h : ∀ j, j < n → f j < 2 ^ w) : ds w f n >>> (w * t) = ds w (fun j => if j + t < n then f (j + t) else 0) n := by
  apply Nat.eq_of_testBit_eq
  intro i
  rw [Nat.testBit_shiftRight, ds_bit hw h, ds_bit hw (fun j _ => by split; (rename_i q; exact h _ q); exact Nat.two_pow_pos w)]
  have e1 : (w * t + i) / w = i / w + t := by rw [Nat.add_comm, Nat.add_mul_div_left _ _ hw]
  have e2 : (w * t + i) % w = i % w := by rw [Nat.add_comm, Nat.add_mul_mod_self_left]
  rw [e1, e2]
  by_cases hi : i / w + t < n
  · have h1 : w * t + i < w * n := by
      have hdm := Nat.div_add_mod i w
      have hml := Nat.mod_lt i hw
      have h2 : w * (i / w + t) + w ≤ w * n := by rw [← Nat.mul_succ]; exact Nat.mul_le_mul_left _ hi
      rw [Nat.mul_add] at h2
      omega
    have h2 : i < w * n := by omega
    simp [h1, h2, hi]
  · have h1 : ¬ (w * t + i < w * n) := by
      intro q
      have hdm := Nat.div_add_mod i w
      have h2 : w * n ≤ w * (i / w + t) := Nat.mul_le_mul_left _ (by omega)
      rw [Nat.mul_add] at h2
      omega
    simp [h1, hi]
theorem ds_pair (w : Nat) (f : Nat → Nat) : ∀ n, ds w f (2 * n) = ds (2 * w) (fun j => f (2 * j) + f (2 * j + 1) * 2 ^ w) n := by
  intro n
  induction n with
  | zero => rfl
  | succ n ih =>
    rw [show 2 * (n + 1) = 2 * n + 1 + 1 by omega]
    simp only [ds]
    rw [ih, Nat.add_mul, Nat.mul_assoc (f (2 * n + 1)) (2 ^ w), ← Nat.pow_add]
    have e1 : w * (2 * n) = 2 * w * n := by rw [← Nat.mul_assoc, Nat.mul_comm w 2]
    have e2 : w * (2 * n + 1) = w + 2 * w * n := by rw [Nat.mul_add, e1]; omega
    rw [e1, e2]
    omega
theorem ds_bits {N n : Nat} (h : N < 2 ^ n) : N = ds 1 (fun j => if N.testBit j = true then 1 else 0) n := by
  apply Nat.eq_of_testBit_eq
  intro i
  rw [ds_bit (by decide) (fun j _ => by split <;> decide)]
  by_cases hi : i < n
  · simp only [Nat.one_mul, hi, decide_true, Nat.div_one, Nat.mod_one, Bool.true_and]
    cases hq : N.testBit i <;> simp
  · have : N.testBit i = false := Nat.testBit_lt_two_pow (Nat.lt_of_lt_of_le h (Nat.pow_le_pow_right (by decide) (by omega)))
    simp [hi, this]
/-- a long as a number -/
def uN (x : Int64) : Nat := x.toBitVec.toNat
theorem uN_bit (x : Int64) (i : Nat) : (uN x).testBit i = bs x i := rfl
theorem uN_lt (x : Int64) : uN x < 2 ^ 64 := x.toBitVec.isLt
theorem uN_shr (x : Int64) {k : Nat} (hk : k < 64) : uN (x.toUInt64 >>> ((nI k).toInt64.toUInt64 &&& Int64.toUInt64 63)).toInt64 = uN x >>> k := by
  apply Nat.eq_of_testBit_eq
  intro i
  rw [uN_bit, bs_shr x hk, Nat.testBit_shiftRight, uN_bit, Nat.add_comm]
theorem uN_and (x y : Int64) : uN (x &&& y) = uN x &&& uN y := by
  apply Nat.eq_of_testBit_eq
  intro i
  rw [uN_bit, bs_and, Nat.testBit_and, uN_bit, uN_bit]
theorem uN_add {x y : Int64} (h : uN x + uN y < 2 ^ 64) : uN (x + y) = uN x + uN y := by
  show (x.toBitVec + y.toBitVec).toNat = _
  rw [BitVec.toNat_add]
  exact Nat.mod_eq_of_lt h
theorem uN_sub {x y : Int64} (h : uN y ≤ uN x) : uN (x - y) = uN x - uN y := by
  show (x.toBitVec - y.toBitVec).toNat = _
  rw [BitVec.toNat_sub]
  have h1 := x.toBitVec.isLt
  have h2 : y.toBitVec.toNat ≤ x.toBitVec.toNat := h
  show (2 ^ 64 - y.toBitVec.toNat + x.toBitVec.toNat) % 2 ^ 64 = x.toBitVec.toNat - y.toBitVec.toNat
  omega
theorem bc_all (x : Int64) : bcI x = nI (cnt (bs x) 64) := by
  generalize hb : (fun j => if bs x j = true then 1 else 0 : Nat → Nat) = b
  have b1 : ∀ j, b j ≤ 1 := by intro j; rw [← hb]; simp only; split <;> decide
  have x0 : uN x = ds 1 b 64 := by rw [← hb]; exact ds_bits (uN_lt x)
  -- two bits
  have x1 : uN x = ds 2 (fun j => b (2 * j) + b (2 * j + 1) * 2 ^ 1) 32 := by rw [x0]; exact ds_pair 1 b 32
  have y1 : uN (bc1 x) = ds 2 (fun j => b (2 * j) + b (2 * j + 1)) 32 := by
    have hm : uN 6148914691236517205 = ds (2 * 1) (fun _ => 2 ^ 1 - 1) 32 := by decide +kernel
    have e : uN ((x.toUInt64 >>> ((1 : Int32).toInt64.toUInt64 &&& Int64.toUInt64 63)).toInt64 &&& 6148914691236517205) = ds 2 (fun j => b (2 * j + 1)) 32 := by
      rw [uN_and, show (1 : Int32) = nI 1 from rfl, uN_shr x (by decide), hm, x1]
      rw [show (2 : Nat) = 2 * 1 from rfl, ds_half (by decide) (fun j _ => by have := b1 (2 * 1 * j); have := b1 (2 * 1 * j + 1); omega)]
      exact ds_congr (fun j _ => by have := b1 (2 * 1 * j); have := b1 (2 * 1 * j + 1); show (b (2 * 1 * j) + b (2 * 1 * j + 1) * 2 ^ 1) / 2 ^ 1 = b (2 * j + 1); simp only [Nat.mul_one] at *; omega)
    have e2 : uN x = ds 2 (fun j => b (2 * j) + b (2 * j + 1)) 32 + ds 2 (fun j => b (2 * j + 1)) 32 := by
      rw [ds_add, x1]
      exact ds_congr (fun j _ => by omega)
    unfold bc1
    rw [uN_sub (by rw [e, e2]; exact Nat.le_add_left _ _), e, e2, Nat.add_sub_cancel]
  generalize hc : (fun j => b (2 * j) + b (2 * j + 1)) = c at y1
  have c1 : ∀ j, c j ≤ 2 := by intro j; rw [← hc]; have := b1 (2 * j); have := b1 (2 * j + 1); show b (2 * j) + b (2 * j + 1) ≤ 2; omega
  have x2 : uN (bc1 x) = ds 4 (fun j => c (2 * j) + c (2 * j + 1) * 2 ^ 2) 16 := by rw [y1]; exact ds_pair 2 c 16
  have y2 : uN (bc2 (bc1 x)) = ds 4 (fun j => c (2 * j) + c (2 * j + 1)) 16 := by
    have hm : uN 3689348814741910323 = ds (2 * 2) (fun _ => 2 ^ 2 - 1) 16 := by decide +kernel
    have e1 : uN (bc1 x &&& 3689348814741910323) = ds 4 (fun j => c (2 * j)) 16 := by
      rw [uN_and, hm, x2]
      rw [show (4 : Nat) = 2 * 2 from rfl, ds_low (by decide) (fun j _ => by have := c1 (2 * j); have := c1 (2 * j + 1); omega)]
      exact ds_congr (fun j _ => by have := c1 (2 * j); have := c1 (2 * j + 1); show (c (2 * j) + c (2 * j + 1) * 2 ^ 2) % 2 ^ 2 = c (2 * j); omega)
    have e2 : uN (((bc1 x).toUInt64 >>> ((2 : Int32).toInt64.toUInt64 &&& Int64.toUInt64 63)).toInt64 &&& 3689348814741910323) = ds 4 (fun j => c (2 * j + 1)) 16 := by
      rw [uN_and, show (2 : Int32) = nI 2 from rfl, uN_shr _ (by decide), hm, x2]
      rw [show (4 : Nat) = 2 * 2 from rfl, ds_half (by decide) (fun j _ => by have := c1 (2 * j); have := c1 (2 * j + 1); omega)]
      exact ds_congr (fun j _ => by have := c1 (2 * j); have := c1 (2 * j + 1); show (c (2 * j) + c (2 * j + 1) * 2 ^ 2) / 2 ^ 2 = c (2 * j + 1); omega)
    have hl : ds 4 (fun j => c (2 * j) + c (2 * j + 1)) 16 < 2 ^ 64 := ds_lt (w := 4) (n := 16) (fun j _ => by have := c1 (2 * j); have := c1 (2 * j + 1); show c (2 * j) + c (2 * j + 1) < 2 ^ 4; omega)
    unfold bc2
    rw [uN_add (by rw [e1, e2, ds_add]; exact hl), e1, e2, ds_add]
  generalize hd : (fun j => c (2 * j) + c (2 * j + 1)) = e at y2
  have e1 : ∀ j, e j ≤ 4 := by intro j; rw [← hd]; have := c1 (2 * j); have := c1 (2 * j + 1); show c (2 * j) + c (2 * j + 1) ≤ 4; omega
  have y3 : uN (bc3 (bc2 (bc1 x))) = ds 8 (fun j => e (2 * j) + e (2 * j + 1)) 8 := by
    have hm : uN 1085102592571150095 = ds (2 * 4) (fun _ => 2 ^ 4 - 1) 8 := by decide +kernel
    have hs : uN ((bc2 (bc1 x)).toUInt64 >>> ((4 : Int32).toInt64.toUInt64 &&& Int64.toUInt64 63)).toInt64 = ds 4 (fun j => if j + 1 < 16 then e (j + 1) else 0) 16 := by
      rw [show (4 : Int32) = nI 4 from rfl, uN_shr _ (by decide), y2]
      exact ds_shift (w := 4) (by decide) 1 (fun j _ => by have := e1 j; omega)
    have hsum : uN (bc2 (bc1 x) + ((bc2 (bc1 x)).toUInt64 >>> ((4 : Int32).toInt64.toUInt64 &&& Int64.toUInt64 63)).toInt64) = ds 4 (fun j => e j + (if j + 1 < 16 then e (j + 1) else 0)) 16 := by
      have hl : ds 4 (fun j => e j + (if j + 1 < 16 then e (j + 1) else 0)) 16 < 2 ^ 64 := ds_lt (w := 4) (n := 16) (fun j _ => by have := e1 j; have := e1 (j + 1); show e j + (if j + 1 < 16 then e (j + 1) else 0) < 2 ^ 4; split <;> omega)
      rw [uN_add (by rw [y2, hs, ds_add]; exact hl), y2, hs, ds_add]
    unfold bc3
    rw [uN_and, hsum, hm]
    generalize hq : (fun j => e j + (if j + 1 < 16 then e (j + 1) else 0)) = q
    have q1 : ∀ j, q j ≤ 8 := by intro j; rw [← hq]; have := e1 j; have := e1 (j + 1); show e j + (if j + 1 < 16 then e (j + 1) else 0) ≤ 8; split <;> omega
    rw [show ds 4 q 16 = ds (2 * 4) (fun j => q (2 * j) + q (2 * j + 1) * 2 ^ 4) 8 from ds_pair 4 q 8]
    rw [ds_low (by decide) (fun j _ => by have := q1 (2 * j); have := q1 (2 * j + 1); show q (2 * j) + q (2 * j + 1) * 2 ^ 4 < 2 ^ (2 * 4); omega)]
    refine ds_congr (fun j hj => ?_)
    have := q1 (2 * j); have := q1 (2 * j + 1)
    have hqe : q (2 * j) = e (2 * j) + e (2 * j + 1) := by rw [← hq]; show e (2 * j) + (if 2 * j + 1 < 16 then e (2 * j + 1) else 0) = _; rw [if_pos (by omega)]
    show (q (2 * j) + q (2 * j + 1) * 2 ^ 4) % 2 ^ 4 = e (2 * j) + e (2 * j + 1)
    omega
  generalize hf : (fun j => e (2 * j) + e (2 * j + 1)) = f at y3
  have f1 : ∀ j, f j ≤ 8 := by intro j; rw [← hf]; have := e1 (2 * j); have := e1 (2 * j + 1); show e (2 * j) + e (2 * j + 1) ≤ 8; omega
  have sh : ∀ (y : Int64) (k t : Nat) (u : Nat → Nat) (B : Nat), k < 64 → k = 8 * t → (∀ j, u j ≤ B) → 2 * B < 256 → uN y = ds 8 u 8 → uN (y + (y.toUInt64 >>> ((nI k).toInt64.toUInt64 &&& Int64.toUInt64 63)).toInt64) = ds 8 (fun j => u j + (if j + t < 8 then u (j + t) else 0)) 8 := by
    intro y k t u B hk ht hu hB hy
    have hs : uN (y.toUInt64 >>> ((nI k).toInt64.toUInt64 &&& Int64.toUInt64 63)).toInt64 = ds 8 (fun j => if j + t < 8 then u (j + t) else 0) 8 := by
      rw [uN_shr _ hk, hy, ht]
      exact ds_shift (w := 8) (by decide) t (fun j _ => by have := hu j; omega)
    have hl : ds 8 (fun j => u j + (if j + t < 8 then u (j + t) else 0)) 8 < 2 ^ 64 := ds_lt (w := 8) (n := 8) (fun j _ => by have := hu j; have := hu (j + t); show u j + (if j + t < 8 then u (j + t) else 0) < 2 ^ 8; split <;> omega)
    rw [uN_add (by rw [hy, hs, ds_add]; exact hl), hy, hs, ds_add]
  have y4 := sh (bc3 (bc2 (bc1 x))) 8 1 f 8 (by decide) rfl f1 (by decide) y3
  have y5 := sh (bc4 (bc3 (bc2 (bc1 x)))) 16 2 _ 16 (by decide) rfl (fun j => by have := f1 j; have := f1 (j + 1); show f j + (if j + 1 < 8 then f (j + 1) else 0) ≤ 16; split <;> omega) (by decide) y4
  have y6 := sh (bc5 (bc4 (bc3 (bc2 (bc1 x))))) 32 4 _ 32 (by decide) rfl (fun j => by
    have := f1 j; have := f1 (j + 1); have := f1 (j + 2); have := f1 (j + 2 + 1)
    show (f j + (if j + 1 < 8 then f (j + 1) else 0)) + (if j + 2 < 8 then f (j + 2) + (if j + 2 + 1 < 8 then f (j + 2 + 1) else 0) else 0) ≤ 32
    split <;> split <;> (try split) <;> omega) (by decide) y5
  have hz : uN (bc6 (bc5 (bc4 (bc3 (bc2 (bc1 x)))))) % 128 = f 0 + f 1 + f 2 + f 3 + f 4 + f 5 + f 6 + f 7 := by
    have y6' : uN (bc6 (bc5 (bc4 (bc3 (bc2 (bc1 x)))))) = _ := y6
    rw [y6']
    have := f1 0; have := f1 1; have := f1 2; have := f1 3; have := f1 4; have := f1 5; have := f1 6; have := f1 7
    simp [ds]
    omega
  have hsum : f 0 + f 1 + f 2 + f 3 + f 4 + f 5 + f 6 + f 7 = cnt (bs x) 64 := by
    rw [← hf, ← hd, ← hc, ← hb]
    simp only [cnt]
    simp
    omega
  unfold bcI
  have hi : (bc6 (bc5 (bc4 (bc3 (bc2 (bc1 x)))))).toInt32.toBitVec.toNat = uN (bc6 (bc5 (bc4 (bc3 (bc2 (bc1 x)))))) % 2 ^ 32 := by
    show (BitVec.signExtend 32 (bc6 (bc5 (bc4 (bc3 (bc2 (bc1 x)))))).toBitVec).toNat = _
    rw [BitVec.signExtend_eq_setWidth_of_le _ (by decide), BitVec.toNat_setWidth]
    rfl
  rw [pk_and _ 7 (by decide), hi, Nat.mod_mod_of_dvd _ (by decide), show (2 : Nat) ^ 7 = 128 from rfl, hz, hsum]
