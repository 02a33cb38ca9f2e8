/-! ===== the lowest cell of a set ===== -/
theorem cnt_mono (p : Nat → Bool) {m n : Nat} (h : m ≤ n) : cnt p m ≤ cnt p n := by
  induction n with
  | zero => have : m = 0 := by omega
            subst this; exact Nat.le_refl _
  | succ n ih =>
    rcases Nat.lt_or_ge n m with q | q
    · have : m = n + 1 := by omega
      subst this; exact Nat.le_refl _
    · exact Nat.le_trans (ih q) (by simp only [cnt]; omega)
theorem cnt_lt {p : Nat → Bool} {y x : Nat} (h : y < x) (hp : p y = true) : cnt p y < cnt p x := by
  have h1 : cnt p (y + 1) ≤ cnt p x := cnt_mono p h
  have h2 : cnt p (y + 1) = cnt p y + 1 := by simp [cnt, hp]
  omega
theorem cnt_bs (p : Nat → Bool) : cnt (bs (mset p)) 64 = cnt p 36 := by
  rw [cnt_more (n := 36) (by decide) (fun i h1 _ => by rw [bs_mset]; simp; omega)]
  exact cnt_congr (fun i hi => by rw [bs_mset]; simp [hi])
theorem bc_mset (p : Nat → Bool) : bcI (mset p) = nI (cnt p 36) := by rw [bc_all, cnt_bs]
theorem tb_pred {N a : Nat} (h1 : N.testBit a = true) (h2 : ∀ j, j < a → N.testBit j = false) (i : Nat) : (N - 1).testBit i = if i < a then true else if i = a then false else N.testBit i := by
  have hz : N % 2 ^ a = 0 := by
    apply Nat.eq_of_testBit_eq
    intro j
    rw [Nat.testBit_mod_two_pow]
    by_cases hj : j < a
    · simp [h2 j hj]
    · simp [hj]
  have hq : N / 2 ^ a % 2 = 1 := by
    have := h1
    rw [Nat.testBit_eq_decide_div_mod_eq] at this
    simpa using this
  have hN : N = 2 ^ a * (N / 2 ^ a) := by have := Nat.div_add_mod N (2 ^ a); omega
  generalize hqq : N / 2 ^ a = q at hq hN
  obtain ⟨m, hm⟩ : ∃ m, q = 2 * m + 1 := ⟨q / 2, by omega⟩
  have hp := Nat.two_pow_pos a
  have e : N - 1 = 2 ^ a * (2 * m) + (2 ^ a - 1) := by
    rw [hN, hm, Nat.mul_add]
    omega
  have e0 : N = 2 ^ a * q + 0 := by omega
  rw [e, Nat.testBit_two_pow_mul_add _ (by omega)]
  by_cases hi : i < a
  · rw [if_pos hi, if_pos hi, Nat.testBit_two_pow_sub_one]; simp [hi]
  · rw [if_neg hi, if_neg hi]
    by_cases hia : i = a
    · subst hia
      simp [Nat.testBit_zero]
    · rw [if_neg hia, e0, Nat.testBit_two_pow_mul_add _ hp, if_neg hi, hm]
      obtain ⟨k, hk⟩ : ∃ k, i - a = k + 1 := ⟨i - a - 1, by omega⟩
      rw [hk, Nat.testBit_succ, Nat.testBit_succ]
      congr 1
      omega
theorem bs_pred {x : Int64} {a : Nat} (h1 : bs x a = true) (h2 : ∀ j, j < a → bs x j = false) (i : Nat) : bs (x - 1) i = if i < a then true else if i = a then false else bs x i := by
  have hx : 1 ≤ uN x := by
    rcases Nat.eq_zero_or_pos (uN x) with q | q
    · have : (uN x).testBit a = true := h1
      rw [q] at this
      simp at this
    · exact q
  have e : uN (x - 1) = uN x - 1 := uN_sub (y := 1) hx
  rw [← uN_bit, e, tb_pred (N := uN x) (a := a) h1 h2]
  rfl
theorem bs_neg {x : Int64} (hx : 1 ≤ uN x) {i : Nat} (hi : i < 64) : bs (-x) i = !(bs (x - 1) i) := by
  have e : -x = (x - 1) ^^^ (-1) := by
    apply Int64.toBitVec_inj.mp
    apply BitVec.eq_of_toNat_eq
    have h1 : ((x - 1) ^^^ (-1)).toBitVec = ~~~ (x - 1).toBitVec := by
      show (x - 1).toBitVec ^^^ (-1 : Int64).toBitVec = _
      rw [show (-1 : Int64).toBitVec = BitVec.allOnes 64 by decide +kernel, BitVec.xor_allOnes]
    rw [h1, BitVec.toNat_not]
    have e2 : (x - 1).toBitVec.toNat = uN x - 1 := uN_sub (y := 1) hx
    rw [e2]
    show (- x.toBitVec).toNat = _
    rw [BitVec.toNat_neg]
    have h3 := uN_lt x
    show (2 ^ 64 - uN x) % 2 ^ 64 = _
    omega
  rw [e, bs_not _ hi]
section LOW
variable {p : Nat → Bool} {a : Nat}
theorem low_bs (h : fst p 36 0 = some a) : bs (mset p) a = true ∧ (∀ j, j < a → bs (mset p) j = false) ∧ a < 36 ∧ p a = true := by
  obtain ⟨-, h2, h3, h4⟩ := fst_some.mp h
  refine ⟨by rw [bs_mset, h3]; simp; omega, fun j hj => by rw [bs_mset, h4 j (by omega) hj]; simp, by omega, h3⟩
theorem m_low (h : fst p 36 0 = some a) : mset p &&& -(mset p) = mset (one a) := by
  obtain ⟨h1, h2, h3, h4⟩ := low_bs h
  have hx : 1 ≤ uN (mset p) := by
    rcases Nat.eq_zero_or_pos (uN (mset p)) with q | q
    · have : (uN (mset p)).testBit a = true := h1
      rw [q] at this
      simp at this
    · exact q
  apply bs_ext
  intro i hi
  rw [bs_and, bs_neg hx hi, bs_pred h1 h2, bs_mset (one a)]
  by_cases q1 : i < a
  · have : (i == a) = false := by simp; omega
    simp [h2 i q1, one, this]
  · by_cases q2 : i = a
    · subst q2
      simp [h1, one, h3]
    · have : (i == a) = false := by simpa using q2
      simp [q1, q2, one, this]
theorem m_pred (ha : a < 36) : mset (one a) - 1 = mset (fun i => decide (i < a)) := by
  have h : fst (one a) 36 0 = some a := fst_some.mpr ⟨by omega, by omega, by simp [one], fun j _ hj => by simp [one]; omega⟩
  obtain ⟨h1, h2, -, -⟩ := low_bs h
  apply bs_ext
  intro i hi
  rw [bs_pred h1 h2, bs_mset, bs_mset]
  by_cases q1 : i < a
  · have : i < 36 := by omega
    simp [q1, this]
  · by_cases q2 : i = a
    · simp [q2]
    · have : (i == a) = false := by simpa using q2
      simp [q1, q2, one, this]
theorem m_drop (h : fst p 36 0 = some a) : mset p &&& (mset p - 1) = mset (fun i => p i && !(i == a)) := by
  obtain ⟨h1, h2, h3, h4⟩ := low_bs h
  apply bs_ext
  intro i hi
  rw [bs_and, bs_pred h1 h2, bs_mset (fun i => p i && !(i == a))]
  by_cases q1 : i < a
  · have : (i == a) = false := by simp; omega
    have h5 := h2 i q1
    rw [h5]
    rw [bs_mset] at h5
    simp only [Bool.false_and, this, Bool.not_false, Bool.and_true]
    exact h5.symm
  · by_cases q2 : i = a
    · simp [q2]
    · have : (i == a) = false := by simpa using q2
      simp only [q1, q2, if_false, this, Bool.not_false, Bool.and_true, Bool.and_self]
      exact bs_mset p i
theorem cnt_below : ∀ (n : Nat), a ≤ n → cnt (fun i => decide (i < a)) n = a := by
  intro n
  induction n with
  | zero => intro h; simp [cnt]; omega
  | succ n ih =>
    intro h
    simp only [cnt]
    rcases Nat.lt_or_ge n a with q | q
    · have : a = n + 1 := by omega
      subst this
      have : ∀ m, m ≤ n + 1 → cnt (fun i => decide (i < n + 1)) m = m := by
        intro m
        induction m with
        | zero => intro _; rfl
        | succ m ih => intro hm; simp only [cnt]; rw [ih (by omega)]; simp; omega
      rw [this n (by omega)]; simp
    · rw [ih q]; simp; omega
theorem fst_no0 (h : fst p 36 0 = none) : mset p = 0 := by
  rw [m_eq0]
  intro i hi
  exact fst_none.mp h i (by omega) (by omega)
end LOW
section C23
variable {l : Launch} {g : zG} {d : Nat} {h : zH} {F : Fl}
theorem c_J_bitCount {p : Nat → Bool} : Run l g mJ_bitCount d 0 0 [.long (mset p)] h (PI (nI (cnt p 36)) h) := by
  have := c_J_bitCountI (l := l) (g := g) (d := d) (h := h) (x := mset p)
  rw [bc_mset] at this
  exact this
theorem c_F_lowestOf {p : Nat → Bool} : Run l g mF_lowestOf (d + 1) 0 0 [.long (mset p)] h (PI (oI (fst p 36 0)) h) := by
  refine run_of (by decide) (Nat.le_of_ble_eq_true rfl) ?_
  cases hq : fst p 36 0 with
  | none =>
    refine zw_lload_n dF_lowestOf_0 rfl ?_
    refine zw_lconst (v := 0) dF_lowestOf_1 (by decide) ?_
    refine zw_lcmp dF_lowestOf_2 ?_
    refine zw_if_ne 10 dF_lowestOf_3 (by decide) (fun c_3 => ?_) (fun c_3 => ?_)
    · exact absurd ((lg_cmp_eq _ _).mpr (fst_no0 hq)) c_3
    · refine zw_iconst (v := (-1)) dF_lowestOf_6 (by decide) ?_
      refine zw_goto 19 dF_lowestOf_7 (by decide) ?_
      exact zw_iret dF_lowestOf_19 rfl rfl rfl ⟨rfl, rfl⟩
  | some a =>
    have ha := low_bs hq
    refine zw_lload_n dF_lowestOf_0 rfl ?_
    refine zw_lconst (v := 0) dF_lowestOf_1 (by decide) ?_
    refine zw_lcmp dF_lowestOf_2 ?_
    refine zw_if_ne 10 dF_lowestOf_3 (by decide) (fun c_3 => ?_) (fun c_3 => ?_)
    · refine zw_lload_n dF_lowestOf_10 rfl ?_
      refine zw_lload_n dF_lowestOf_11 rfl ?_
      refine zw_lneg dF_lowestOf_12 ?_
      refine zw_land dF_lowestOf_13 ?_
      refine zw_lconst (v := 1) dF_lowestOf_14 (by decide) ?_
      refine zw_lsub dF_lowestOf_15 ?_
      rw [m_low hq, m_pred ha.2.2.1]
      refine zc_S1I dF_lowestOf_16 zm_J_bitCount zk_F_152 c_J_bitCount ?_ zRR (Nat.le_of_ble_eq_true rfl) ⟨Nat.le_of_ble_eq_true rfl, Nat.le_of_ble_eq_true rfl⟩
      exact zw_iret dF_lowestOf_19 rfl rfl rfl ⟨by rw [cnt_below 36 (by omega)]; rfl, rfl⟩
    · have e := lgc_eq _ _ c_3
      have h1 := ha.1
      rw [e, bs_0] at h1
      cases h1
/-- the k-th member -/
def nth (p : Nat → Bool) (k : Nat) : Option Nat := fst (fun i => p i && cnt p i == k) 36 0
theorem nth_ex {p : Nat → Bool} {k : Nat} : ∀ {n : Nat}, k < cnt p n → ∃ x, x < n ∧ p x = true ∧ cnt p x = k := by
  intro n
  induction n with
  | zero => intro h; simp [cnt] at h
  | succ n ih =>
    intro h
    rcases Nat.lt_or_ge k (cnt p n) with q | q
    · obtain ⟨x, h1, h2, h3⟩ := ih q
      exact ⟨x, by omega, h2, h3⟩
    · simp only [cnt] at h
      split at h
      case isTrue hp => exact ⟨n, by omega, hp, by omega⟩
      case isFalse hp => omega
def drp (p : Nat → Bool) (k : Nat) : Nat → Bool := fun x => p x && decide (k ≤ cnt p x)
theorem drp_low {p : Nat → Bool} {k x : Nat} (hx : x < 36) (hp : p x = true) (hc : cnt p x = k) : fst (drp p k) 36 0 = some x := by
  refine fst_some.mpr ⟨by omega, by omega, by simp [drp, hp, hc], fun j _ hj => ?_⟩
  cases hq : p j with
  | false => simp [drp, hq]
  | true =>
    have := cnt_lt hj hq
    simp [drp]
    intro _
    omega
theorem drp_next {p : Nat → Bool} {k x : Nat} (hp : p x = true) (hc : cnt p x = k) : (fun i => drp p k i && !(i == x)) = drp p (k + 1) := by
  funext i
  cases hq : p i with
  | false => simp [drp, hq]
  | true =>
    by_cases e : i = x
    · subst e
      simp [drp, hc]
    · have h1 : (i == x) = false := by simpa using e
      have h2 : cnt p i ≠ k := by
        rcases Nat.lt_or_ge i x with q | q
        · have := cnt_lt q hq; omega
        · have := cnt_lt (show x < i by omega) hp; omega
      simp only [drp, hq, h1, Bool.true_and, Bool.not_false, Bool.and_true]
      by_cases h3 : k ≤ cnt p i
      · have : k + 1 ≤ cnt p i := by omega
        simp [h3, this]
      · have : ¬ k + 1 ≤ cnt p i := by omega
        simp [h3, this]
theorem nth_some {p : Nat → Bool} {k x : Nat} (hx : x < 36) (hp : p x = true) (hc : cnt p x = k) : nth p k = some x := by
  refine fst_some.mpr ⟨by omega, by omega, by simp [hp, hc], fun j _ hj => ?_⟩
  cases hq : p j with
  | false => simp
  | true =>
    have := cnt_lt hj hq
    simp
    omega
theorem nth_none {p : Nat → Bool} {k : Nat} (hc : cnt p 36 ≤ k) : nth p k = none := by
  refine fst_none.mpr (fun j _ hj => ?_)
  cases hq : p j with
  | false => simp
  | true =>
    have := cnt_lt (x := 36) (show j < 36 by omega) hq
    simp
    omega
theorem c_F_memberAt {p : Nat → Bool} {k : Nat} (hk : k < 2 ^ 31) : Run l g mF_memberAt (d + 2) 0 0 [.long (mset p), .int (nI k)] h (PI (oI (nth p k)) h) := by
  refine run_of (by decide) (Nat.le_of_ble_eq_true rfl) ?_
  have hc36 := cnt_le p 36
  rcases Nat.lt_or_ge k (cnt p 36) with hlt | hge
  · have L : ∀ (m i : Nat), i + m = k → WW l g mF_memberAt (zrm (d + 2) 0 0) (fun _ => True) (zQQ g (PI (oI (nth p k)) h) (h.length + 0) 0 0) 19 [(2, some (.int (nI k))), (3, some (.long (mset (drp p i)))), (5, some (.int (nI i)))] [] h 0 0 := by
      intro m
      induction m with
      | zero =>
        intro i him
        have hi : i = k := by omega
        subst hi
        obtain ⟨x, hx1, hx2, hx3⟩ := nth_ex hlt
        refine zw_iload dF_memberAt_19 rfl ?_
        refine zw_iload_n dF_memberAt_21 rfl ?_
        refine zw_icmp_ge 44 dF_memberAt_22 (by decide) (fun c_22 => ?_) (fun c_22 => ?_)
        · refine zw_lload_n dF_memberAt_44 rfl ?_
          refine zc_S1I dF_memberAt_45 zm_F_lowestOf zk_F_248 c_F_lowestOf ?_ zRR (Nat.le_of_ble_eq_true rfl) ⟨Nat.le_of_ble_eq_true rfl, Nat.le_of_ble_eq_true rfl⟩
          exact zw_iret dF_memberAt_48 rfl rfl rfl ⟨by rw [nth_some hx1 hx2 hx3, drp_low hx1 hx2 hx3], rfl⟩
        · exact absurd (Int32.le_refl _) c_22
      | succ m ih =>
        intro i him
        obtain ⟨x, hx1, hx2, hx3⟩ := nth_ex (p := p) (k := i) (n := 36) (by omega)
        refine zw_iload dF_memberAt_19 rfl ?_
        refine zw_iload_n dF_memberAt_21 rfl ?_
        refine zw_icmp_ge 44 dF_memberAt_22 (by decide) (fun c_22 => ?_) (fun c_22 => ?_)
        · exact absurd ((nI_leI (by omega) (by omega)).mp c_22) (by omega)
        · refine zw_iload dF_memberAt_25 rfl ?_
          refine zw_bipush (v := 36) dF_memberAt_27 (by decide) ?_
          refine zw_icmp_ge 44 dF_memberAt_29 (by decide) (fun c_29 => ?_) (fun c_29 => ?_)
          · exact absurd ((nI_leI (a := 36) (b := i) (by omega) (by omega)).mp c_29) (by omega)
          · refine zw_lload_n dF_memberAt_32 rfl ?_
            refine zw_lload_n dF_memberAt_33 rfl ?_
            refine zw_lconst (v := 1) dF_memberAt_34 (by decide) ?_
            refine zw_lsub dF_memberAt_35 ?_
            refine zw_land dF_memberAt_36 ?_
            rw [m_drop (drp_low hx1 hx2 hx3), drp_next hx2 hx3]
            refine zw_lstore_n dF_memberAt_37 (by decide) rfl ?_
            refine zw_incN dF_memberAt_38 rfl (by decide) rfl ?_
            refine zw_goto 19 dF_memberAt_41 (by decide) ?_
            exact zw_lk (ih (i + 1) (by omega)) ⟨rfl, rfl, rfl, trivial⟩
    have e0 : drp p 0 = p := by funext x; simp [drp]
    refine zw_iload_n dF_memberAt_0 rfl ?_
    refine zw_if_lt 12 dF_memberAt_1 (by decide) (fun c_1 => ?_) (fun c_1 => ?_)
    · exact absurd c_1 (nI_pos (by omega))
    · refine zw_iload_n dF_memberAt_4 rfl ?_
      refine zw_lload_n dF_memberAt_5 rfl ?_
      refine zc_S1I dF_memberAt_6 zm_J_bitCount zk_F_152 c_J_bitCount ?_ zRR (Nat.le_of_ble_eq_true rfl) ⟨Nat.le_of_ble_eq_true rfl, Nat.le_of_ble_eq_true rfl⟩
      refine zw_icmp_lt 14 dF_memberAt_9 (by decide) (fun c_9 => ?_) (fun c_9 => ?_)
      · refine zw_lload_n dF_memberAt_14 rfl ?_
        refine zw_lstore_n dF_memberAt_15 (by decide) rfl ?_
        refine zw_iconst (v := 0) dF_memberAt_16 (by decide) ?_
        refine zw_istore dF_memberAt_17 (by decide) rfl ?_
        exact zw_lk (L k 0 (by omega)) ⟨rfl, by rw [e0]; rfl, rfl, trivial⟩
      · exact absurd ((nI_ltI (by omega) (by omega)).mpr hlt) c_9
  · refine zw_iload_n dF_memberAt_0 rfl ?_
    refine zw_if_lt 12 dF_memberAt_1 (by decide) (fun c_1 => ?_) (fun c_1 => ?_)
    · exact absurd c_1 (nI_pos (by omega))
    · refine zw_iload_n dF_memberAt_4 rfl ?_
      refine zw_lload_n dF_memberAt_5 rfl ?_
      refine zc_S1I dF_memberAt_6 zm_J_bitCount zk_F_152 c_J_bitCount ?_ zRR (Nat.le_of_ble_eq_true rfl) ⟨Nat.le_of_ble_eq_true rfl, Nat.le_of_ble_eq_true rfl⟩
      refine zw_icmp_lt 14 dF_memberAt_9 (by decide) (fun c_9 => ?_) (fun c_9 => ?_)
      · exact absurd ((nI_ltI (by omega) (by omega)).mp c_9) (by omega)
      · refine zw_iconst (v := (-1)) dF_memberAt_12 (by decide) ?_
        exact zw_iret dF_memberAt_13 rfl rfl rfl ⟨by rw [nth_none hge]; rfl, rfl⟩
theorem nb_low (hF : fOK F) {c hand : Nat} (hc : c < fN F) (hh : hand < 4) : fst (bes F hand (oneO (some c))) 36 0 = nb F c hand := by
  have hn := fN_le hF
  have key : ∀ i, bes F hand (oneO (some c)) i = true ↔ nb F c hand = some i := by
    intro i
    rw [bes_iff]
    constructor
    · rintro ⟨h1, b, h2, h3⟩
      have hb : b = c := by simp only [oneO, beq_iff_eq, Option.some.injEq] at h3; exact h3.symm
      subst hb
      exact (nb_inv hF h1 hh h2).2
    · intro h1
      obtain ⟨h2, h3⟩ := nb_spec hF hc hh h1
      exact ⟨h2, c, h3, by simp [oneO]⟩
  cases hq : nb F c hand with
  | none =>
    refine fst_none.mpr (fun j _ _ => ?_)
    cases hb : bes F hand (oneO (some c)) j with
    | false => rfl
    | true => have := (key j).mp hb; rw [hq] at this; cases this
  | some b =>
    have h1 := (key b).mpr hq
    have h2 := bes_sub F hand _ b h1
    refine fst_some.mpr ⟨by omega, by omega, h1, fun j _ hj => ?_⟩
    cases hb : bes F hand (oneO (some c)) j with
    | false => rfl
    | true => have := (key j).mp hb; rw [hq] at this; cases this; omega
theorem one_sub {c : Nat} (hc : c < fN F) : sub F (oneO (some c)) := by
  intro i hi
  simp only [oneO, beq_iff_eq, Option.some.injEq] at hi
  omega
theorem c_G_cellBeside (hF : fOK F) (hG : h[4]? = some (gC F)) {c hand : Nat} (hc : c < fN F) (hh : hand < 4) : Run l g mG_cellBeside (d + 2) 0 0 [.ref 4, .int (nI c), .int (nI hand)] h (PI (oI (nb F c hand)) h) := by
  refine run_of (by decide) (Nat.le_of_ble_eq_true rfl) ?_
  have hn := fN_le hF
  refine zw_aload_n dG_cellBeside_0 rfl ?_
  refine zw_iload_n dG_cellBeside_1 rfl ?_
  refine zc_S1L dG_cellBeside_2 zm_F_only zk_G_53 (c_F_only (a := some c) (oOK_some (by omega))) ?_ zRR (Nat.le_of_ble_eq_true rfl) ⟨Nat.le_of_ble_eq_true rfl, Nat.le_of_ble_eq_true rfl⟩
  refine zw_iload_n dG_cellBeside_5 rfl ?_
  refine zc_V2L dG_cellBeside_6 zm_G_beside zk_G_69 hG rfl (c_G_beside hF hG (one_sub hc) hh) ?_ zRR (Nat.le_of_ble_eq_true rfl) ⟨Nat.le_of_ble_eq_true rfl, Nat.le_of_ble_eq_true rfl⟩
  refine zc_S1I dG_cellBeside_9 zm_F_lowestOf zk_G_73 c_F_lowestOf ?_ zRR (Nat.le_of_ble_eq_true rfl) ⟨Nat.le_of_ble_eq_true rfl, Nat.le_of_ble_eq_true rfl⟩
  exact zw_iret dG_cellBeside_12 rfl rfl rfl ⟨by rw [nb_low hF hc hh], rfl⟩
end C23
