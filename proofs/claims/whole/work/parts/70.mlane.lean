/-! ===== the reference: lanes ===== -/
def okR (F : Fl) (S : Sit) (c n : Nat) : Bool := decide (¬ (c + n) % fW F = 0) && fre F S (c + n)
def rnR (F : Fl) (S : Sit) (c : Nat) : Nat → Bool
  | 0 => true
  | n + 1 => rnR F S c n && okR F S c (n + 1)
section C70a
variable {F : Fl} {S : Sit} {c : Nat}
theorem lst_iff (hF : fOK F) {c : Nat} (hc : c < fN F) : lst F S c = true ↔ fre F S c = true ∧ (c % fW F = 0 ∨ fre F S (c - 1) = false) := by
  have e : bes F 1 (fre F S) c = (match nb F c 3 with | none => false | some b => fre F S b) := by
    show (decide (c < fN F) && (match nb F c ((1 + 2) % 4) with | none => false | some b => fre F S b)) = _
    simp only [hc, decide_true, Bool.true_and]
  simp only [lst, e, nb_3, Bool.and_eq_true, Bool.not_eq_true']
  by_cases q : 0 < c % fW F
  · rw [if_pos q]
    have : ¬ c % fW F = 0 := by omega
    simp [this]
  · rw [if_neg q]
    have : c % fW F = 0 := by omega
    simp [this]
theorem rn_lt (hF : fOK F) {n : Nat} (h : rnR F S c n = true) : n < 6 := by
  have w0 := hF.1.1
  have w6 := hF.1.2
  have hm : c % fW F < fW F := Nat.mod_lt _ (by omega)
  have all : ∀ n, rnR F S c n = true → ∀ j, 1 ≤ j → j ≤ n → okR F S c j = true := by
    intro n
    induction n with
    | zero => intro _ j h1 h2; omega
    | succ n ih =>
      intro h j h1 h2
      have h3 : rnR F S c n = true ∧ okR F S c (n + 1) = true := by simpa [rnR] using h
      by_cases q : j = n + 1
      · rw [q]; exact h3.2
      · exact ih h3.1 j h1 (by omega)
  rcases Nat.lt_or_ge n (fW F - c % fW F) with g | g
  · omega
  · have := all n h (fW F - c % fW F) (by omega) g
    simp only [okR, Bool.and_eq_true, decide_eq_true_eq] at this
    have e : (c + (fW F - c % fW F)) % fW F = 0 := by
      have e1 : c + (fW F - c % fW F) = fW F * (c / fW F + 1) := by
        have := Nat.div_add_mod c (fW F)
        rw [Nat.mul_add, Nat.mul_one]
        omega
      rw [e1]
      exact Nat.mul_mod_right _ _
    exact absurd e this.1
theorem eL_char (hF : fOK F) (hf : fre F S c = true) : ∀ i, (rnR F S c i = true → ∀ x, eL F S c i x = (x == c + i)) ∧ (rnR F S c i = false → ∀ x, eL F S c i x = false) := by
  have hcn := fre_sub F S c hf
  intro i
  induction i with
  | zero =>
    refine ⟨fun _ x => ?_, fun h => by cases h⟩
    show (oneO (some c) x && fre F S x) = (x == c + 0)
    by_cases q : x = c
    · subst q; simp [oneO, hf]
    · have q1 : (some c == some x) = false := by simpa using fun e => q e.symm
      have q2 : (x == c + 0) = false := by simpa using q
      simp only [oneO, q1, q2, Bool.false_and]
  | succ i ih =>
    have es : ∀ x, eL F S c (i + 1) x = (bes F 1 (eL F S c i) x && fre F S x) := fun x => rfl
    have eb : ∀ x, bes F 1 (eL F S c i) x = (decide (x < fN F) && (match nb F x 3 with | none => false | some b => eL F S c i b)) := fun x => rfl
    have er : rnR F S c (i + 1) = (rnR F S c i && okR F S c (i + 1)) := rfl
    cases hr : rnR F S c i with
    | false =>
      have e0 := ih.2 hr
      refine ⟨fun h => ?_, fun _ x => ?_⟩
      · rw [er, hr] at h; cases h
      · rw [es, eb]
        cases nb F x 3 with
        | none => simp
        | some b => simp [e0]
    | true =>
      have e1 := ih.1 hr
      have key : ∀ x, eL F S c (i + 1) x = (okR F S c (i + 1) && (x == c + (i + 1))) := by
        intro x
        rw [es, eb, nb_3]
        by_cases q : x = c + (i + 1)
        · subst q
          simp only [okR, beq_self_eq_true, Bool.and_true]
          by_cases q2 : (c + (i + 1)) % fW F = 0
          · simp [q2]
          · have q3 : 0 < (c + (i + 1)) % fW F := by omega
            rw [if_pos q3]
            dsimp only
            rw [e1]
            cases q4 : fre F S (c + (i + 1)) with
            | false => simp
            | true =>
              have q5 := fre_sub F S _ q4
              have q6 : c + (i + 1) - 1 = c + i := by omega
              simp [q5, q6, q2]
        · have q1 : (x == c + (i + 1)) = false := by simpa using q
          rw [q1, Bool.and_false]
          by_cases q3 : 0 < x % fW F
          · rw [if_pos q3]
            dsimp only
            rw [e1]
            have q4 : ¬ x = 0 := fun e => by rw [e, Nat.zero_mod] at q3; omega
            have q5 : (x - 1 == c + i) = false := by
              simp
              omega
            rw [q5]; simp
          · rw [if_neg q3]; simp
      rw [er, hr, Bool.true_and]
      refine ⟨fun h x => by rw [key, h, Bool.true_and], fun h x => by rw [key, h, Bool.false_and]⟩
theorem llen_eq (hF : fOK F) (hf : fre F S c = true) {n : Nat} (h1 : rnR F S c n = true) (h2 : okR F S c (n + 1) = false) : llen F S c = n + 1 := by
  have hn := rn_lt hF h1
  have h36 := fN_le hF
  have mono : ∀ k j, rnR F S c (j + k) = true → rnR F S c j = true := by
    intro k
    induction k with
    | zero => intro j h; exact h
    | succ k ih =>
      intro j h
      have h3 : rnR F S c (j + k) = true ∧ okR F S c (j + k + 1) = true := by
        have : rnR F S c (j + k + 1) = true := h
        simpa [rnR] using this
      exact ih j h3.1
  have hsub : ∀ i, rnR F S c i = true → c + i < fN F := by
    intro i hi
    cases i with
    | zero => exact fre_sub F S c hf
    | succ i =>
      have h3 : rnR F S c i = true ∧ okR F S c (i + 1) = true := by simpa [rnR] using hi
      have h4 := h3.2
      simp only [okR, Bool.and_eq_true] at h4
      exact fre_sub F S _ h4.2
  have iff : ∀ i, (fst (eL F S c i) 36 0).isNone = true ↔ rnR F S c i = false := by
    intro i
    rw [Option.isNone_iff_eq_none, fst_none]
    constructor
    · intro h
      cases q : rnR F S c i with
      | false => rfl
      | true =>
        have := h (c + i) (by omega) (by have := hsub i q; omega)
        rw [(eL_char hF hf i).1 q] at this
        simp at this
    · intro h j _ _
      exact (eL_char hF hf i).2 h j
  have hlast : rnR F S c (n + 1) = false := by show (rnR F S c n && okR F S c (n + 1)) = false; rw [h2]; simp
  unfold llen
  by_cases h5 : n = 5
  · subst h5
    have : fst (fun i => (fst (eL F S c i) 36 0).isNone) 6 0 = none := fst_none.mpr (fun j _ hj => by
      cases q : (fst (eL F S c j) 36 0).isNone with
      | false => rfl
      | true =>
        have q2 := (iff j).mp q
        have q3 := mono (5 - j) j (by rw [show j + (5 - j) = 5 by omega]; exact h1)
        rw [q2] at q3
        cases q3)
    rw [this]; rfl
  · have : fst (fun i => (fst (eL F S c i) 36 0).isNone) 6 0 = some (n + 1) := fst_some.mpr ⟨by omega, by omega, (iff _).mpr hlast, fun j _ hj => by
      cases q : (fst (eL F S c j) 36 0).isNone with
      | false => rfl
      | true =>
        have q2 := (iff j).mp q
        have q3 := mono (n - j) j (by rw [show j + (n - j) = n by omega]; exact h1)
        rw [q2] at q3
        cases q3⟩
    rw [this]; rfl
end C70a
section C70
variable {l : Launch} {g : zG} {d : Nat} {h : zH} {F : Fl} {S : Sit} {z : Nat → Int32} {un le : Nat} {qa qb : I4}
theorem c_M_isFirst (hF : fOK F) (ok : sOK F S) (hM : h[31]? = some (mC F un le qa qb)) (hS : h[32]? = some (sC F S z)) {c : Nat} (hc : c < fN F) : Run l g mM_isFirst (d + 1) 0 0 [.ref 31, .int (nI c)] h (PI (if lst F S c = true then 1 else 0) h) := by
  have h36 := fN_le hF
  have w0 := hF.1.1
  have w6 := hF.1.2
  have hW0 : ¬ nI (fW F) = 0 := nI_ne0 (by omega) (by omega)
  have er : nI c - nI c / nI (fW F) * nI (fW F) = nI (c % fW F) := pk_rem (by omega) (by omega) (by omega)
  have hm : c % fW F < fW F := Nat.mod_lt _ (by omega)
  have em : nI (c % fW F) = 0 ↔ c % fW F = 0 := nI_eq (b := 0) (by omega) (by omega)
  have li := lst_iff (S := S) hF hc
  have cf := c_M_isFree (l := l) (g := g) (d := d) hF ok.shut hM hS hc
  refine run_of (by decide) (Nat.le_of_ble_eq_true rfl) ?_
  cases hf : fre F S c with
  | false =>
    have hl : lst F S c = false := by cases q : lst F S c with | false => rfl | true => have := (li.mp q).1; rw [hf] at this; cases this
    rw [hl]
    rw [hf] at cf
    refine zw_aload_n dM_isFirst_0 rfl ?_
    refine zw_iload_n dM_isFirst_1 rfl ?_
    refine zc_V1I dM_isFirst_2 zm_M_isFree zk_M_103 hM rfl cf ?_ zRR (Nat.le_of_ble_eq_true rfl) ⟨Nat.le_of_ble_eq_true rfl, Nat.le_of_ble_eq_true rfl⟩
    refine zw_if_eq 31 dM_isFirst_5 (by decide) (fun c_5 => ?_) (fun c_5 => ?_)
    · refine zw_iconst (v := 0) dM_isFirst_31 (by decide) ?_
      exact zw_iret dM_isFirst_32 rfl rfl rfl ⟨rfl, rfl⟩
    · exact absurd rfl c_5
  | true =>
    rw [hf] at cf
    by_cases h0 : c % fW F = 0
    · have hl : lst F S c = true := li.mpr ⟨hf, Or.inl h0⟩
      rw [hl]
      refine zw_aload_n dM_isFirst_0 rfl ?_
      refine zw_iload_n dM_isFirst_1 rfl ?_
      refine zc_V1I dM_isFirst_2 zm_M_isFree zk_M_103 hM rfl cf ?_ zRR (Nat.le_of_ble_eq_true rfl) ⟨Nat.le_of_ble_eq_true rfl, Nat.le_of_ble_eq_true rfl⟩
      refine zw_if_eq 31 dM_isFirst_5 (by decide) (fun c_5 => ?_) (fun c_5 => ?_)
      · exact absurd c_5 (by decide)
      · refine zw_iload_n dM_isFirst_8 rfl ?_
        refine zw_aload_n dM_isFirst_9 rfl ?_
        refine zw_get dM_isFirst_10 zf_M_7 hM rfl ?_
        refine zw_irem dM_isFirst_13 hW0 ?_
        rw [er]
        refine zw_if_eq 27 dM_isFirst_14 (by decide) (fun c_14 => ?_) (fun c_14 => ?_)
        · refine zw_iconst (v := 1) dM_isFirst_27 (by decide) ?_
          refine zw_goto 32 dM_isFirst_28 (by decide) ?_
          exact zw_iret dM_isFirst_32 rfl rfl rfl ⟨rfl, rfl⟩
        · exact absurd (em.mpr h0) c_14
    · have hc0 : 0 < c := by rcases Nat.eq_zero_or_pos c with q | q; (rw [q, Nat.zero_mod] at h0; exact absurd rfl h0); exact q
      have e1 : nI c - 1 = nI (c - 1) := pk_sub (b := 1) (by omega)
      have cf2 := c_M_isFree (l := l) (g := g) (d := d) hF ok.shut hM hS (show c - 1 < fN F by omega)
      cases hf2 : fre F S (c - 1) with
      | false =>
        rw [hf2] at cf2
        have hl : lst F S c = true := li.mpr ⟨hf, Or.inr hf2⟩
        rw [hl]
        refine zw_aload_n dM_isFirst_0 rfl ?_
        refine zw_iload_n dM_isFirst_1 rfl ?_
        refine zc_V1I dM_isFirst_2 zm_M_isFree zk_M_103 hM rfl cf ?_ zRR (Nat.le_of_ble_eq_true rfl) ⟨Nat.le_of_ble_eq_true rfl, Nat.le_of_ble_eq_true rfl⟩
        refine zw_if_eq 31 dM_isFirst_5 (by decide) (fun c_5 => ?_) (fun c_5 => ?_)
        · exact absurd c_5 (by decide)
        · refine zw_iload_n dM_isFirst_8 rfl ?_
          refine zw_aload_n dM_isFirst_9 rfl ?_
          refine zw_get dM_isFirst_10 zf_M_7 hM rfl ?_
          refine zw_irem dM_isFirst_13 hW0 ?_
          rw [er]
          refine zw_if_eq 27 dM_isFirst_14 (by decide) (fun c_14 => ?_) (fun c_14 => ?_)
          · exact absurd (em.mp c_14) h0
          · refine zw_aload_n dM_isFirst_17 rfl ?_
            refine zw_iload_n dM_isFirst_18 rfl ?_
            refine zw_iconst (v := 1) dM_isFirst_19 (by decide) ?_
            refine zw_isub dM_isFirst_20 ?_
            rw [e1]
            refine zc_V1I dM_isFirst_21 zm_M_isFree zk_M_103 hM rfl cf2 ?_ zRR (Nat.le_of_ble_eq_true rfl) ⟨Nat.le_of_ble_eq_true rfl, Nat.le_of_ble_eq_true rfl⟩
            refine zw_if_ne 31 dM_isFirst_24 (by decide) (fun c_24 => ?_) (fun c_24 => ?_)
            · exact absurd rfl c_24
            · refine zw_iconst (v := 1) dM_isFirst_27 (by decide) ?_
              refine zw_goto 32 dM_isFirst_28 (by decide) ?_
              exact zw_iret dM_isFirst_32 rfl rfl rfl ⟨rfl, rfl⟩
      | true =>
        rw [hf2] at cf2
        have hl : lst F S c = false := by
          cases q : lst F S c with
          | false => rfl
          | true =>
            rcases (li.mp q).2 with q2 | q2
            · exact absurd q2 h0
            · rw [hf2] at q2; cases q2
        rw [hl]
        refine zw_aload_n dM_isFirst_0 rfl ?_
        refine zw_iload_n dM_isFirst_1 rfl ?_
        refine zc_V1I dM_isFirst_2 zm_M_isFree zk_M_103 hM rfl cf ?_ zRR (Nat.le_of_ble_eq_true rfl) ⟨Nat.le_of_ble_eq_true rfl, Nat.le_of_ble_eq_true rfl⟩
        refine zw_if_eq 31 dM_isFirst_5 (by decide) (fun c_5 => ?_) (fun c_5 => ?_)
        · exact absurd c_5 (by decide)
        · refine zw_iload_n dM_isFirst_8 rfl ?_
          refine zw_aload_n dM_isFirst_9 rfl ?_
          refine zw_get dM_isFirst_10 zf_M_7 hM rfl ?_
          refine zw_irem dM_isFirst_13 hW0 ?_
          rw [er]
          refine zw_if_eq 27 dM_isFirst_14 (by decide) (fun c_14 => ?_) (fun c_14 => ?_)
          · exact absurd (em.mp c_14) h0
          · refine zw_aload_n dM_isFirst_17 rfl ?_
            refine zw_iload_n dM_isFirst_18 rfl ?_
            refine zw_iconst (v := 1) dM_isFirst_19 (by decide) ?_
            refine zw_isub dM_isFirst_20 ?_
            rw [e1]
            refine zc_V1I dM_isFirst_21 zm_M_isFree zk_M_103 hM rfl cf2 ?_ zRR (Nat.le_of_ble_eq_true rfl) ⟨Nat.le_of_ble_eq_true rfl, Nat.le_of_ble_eq_true rfl⟩
            refine zw_if_ne 31 dM_isFirst_24 (by decide) (fun c_24 => ?_) (fun c_24 => ?_)
            · refine zw_iconst (v := 0) dM_isFirst_31 (by decide) ?_
              exact zw_iret dM_isFirst_32 rfl rfl rfl ⟨rfl, rfl⟩
            · exact absurd c_24 (by decide)
theorem c_M_longOf (hF : fOK F) (ok : sOK F S) (hM : h[31]? = some (mC F un le qa qb)) (hS : h[32]? = some (sC F S z)) {c : Nat} (hf : fre F S c = true) : Run l g mM_longOf (d + 1) 0 0 [.ref 31, .int (nI c)] h (PI (nI (llen F S c)) h) := by
  have h36 := fN_le hF
  have w0 := hF.1.1
  have w6 := hF.1.2
  have hc := fre_sub F S c hf
  have hW0 : ¬ nI (fW F) = 0 := nI_ne0 (by omega) (by omega)
  refine run_of (by decide) (Nat.le_of_ble_eq_true rfl) ?_
  have L : ∀ (m n : Nat), n + m = 6 → rnR F S c n = true → WW l g mM_longOf (zrm (d + 1) 0 0) (fun _ => True) (zQQ g (PI (nI (llen F S c)) h) (h.length + 0) 0 0) 2 [(0, some (.ref 31)), (1, some (.int (nI c))), (2, some (.int (nI (n + 1))))] [] h 0 0 := by
    intro m
    induction m with
    | zero =>
      intro n hn hr
      exact absurd (rn_lt hF hr) (by omega)
    | succ m ih =>
      intro n hn hr
      have ea : nI c + nI (n + 1) = nI (c + (n + 1)) := nI_add _ _
      have er : nI (c + (n + 1)) - nI (c + (n + 1)) / nI (fW F) * nI (fW F) = nI ((c + (n + 1)) % fW F) := pk_rem (by omega) (by omega) (by omega)
      have hm : (c + (n + 1)) % fW F < fW F := Nat.mod_lt _ (by omega)
      have em : nI ((c + (n + 1)) % fW F) = 0 ↔ (c + (n + 1)) % fW F = 0 := nI_eq (b := 0) (by omega) (by omega)
      by_cases h0 : (c + (n + 1)) % fW F = 0
      · have hk : okR F S c (n + 1) = false := by simp [okR, h0]
        rw [llen_eq hF hf hr hk]
        refine zw_iload_n dM_longOf_2 rfl ?_
        refine zw_iload_n dM_longOf_3 rfl ?_
        refine zw_iadd dM_longOf_4 ?_
        rw [ea]
        refine zw_aload_n dM_longOf_5 rfl ?_
        refine zw_get dM_longOf_6 zf_M_7 hM rfl ?_
        refine zw_irem dM_longOf_9 hW0 ?_
        rw [er]
        refine zw_if_eq 29 dM_longOf_10 (by decide) (fun c_10 => ?_) (fun c_10 => ?_)
        · refine zw_iload_n dM_longOf_29 rfl ?_
          exact zw_iret dM_longOf_30 rfl rfl rfl ⟨rfl, rfl⟩
        · exact absurd (em.mpr h0) c_10
      · have hcn : c + (n + 1) < fN F := by
          have hle : c + n < fN F := by
            cases n with
            | zero => exact hc
            | succ n =>
              have h3 : rnR F S c n = true ∧ okR F S c (n + 1) = true := by simpa [rnR] using hr
              have h4 := h3.2
              simp only [okR, Bool.and_eq_true] at h4
              exact fre_sub F S _ h4.2
          rcases Nat.lt_or_ge (c + (n + 1)) (fN F) with q | q
          · exact q
          · have e : c + (n + 1) = fN F := by omega
            rw [e, show fN F = fW F * fH F from rfl, Nat.mul_mod_right] at h0
            exact absurd rfl h0
        have cf := c_M_isFree (l := l) (g := g) (d := d) hF ok.shut hM hS hcn
        cases hf2 : fre F S (c + (n + 1)) with
        | false =>
          rw [hf2] at cf
          have hk : okR F S c (n + 1) = false := by simp [okR, hf2]
          rw [llen_eq hF hf hr hk]
          refine zw_iload_n dM_longOf_2 rfl ?_
          refine zw_iload_n dM_longOf_3 rfl ?_
          refine zw_iadd dM_longOf_4 ?_
          rw [ea]
          refine zw_aload_n dM_longOf_5 rfl ?_
          refine zw_get dM_longOf_6 zf_M_7 hM rfl ?_
          refine zw_irem dM_longOf_9 hW0 ?_
          rw [er]
          refine zw_if_eq 29 dM_longOf_10 (by decide) (fun c_10 => ?_) (fun c_10 => ?_)
          · exact absurd (em.mp c_10) h0
          · refine zw_aload_n dM_longOf_13 rfl ?_
            refine zw_iload_n dM_longOf_14 rfl ?_
            refine zw_iload_n dM_longOf_15 rfl ?_
            refine zw_iadd dM_longOf_16 ?_
            rw [ea]
            refine zc_V1I dM_longOf_17 zm_M_isFree zk_M_103 hM rfl cf ?_ zRR (Nat.le_of_ble_eq_true rfl) ⟨Nat.le_of_ble_eq_true rfl, Nat.le_of_ble_eq_true rfl⟩
            refine zw_if_eq 29 dM_longOf_20 (by decide) (fun c_20 => ?_) (fun c_20 => ?_)
            · refine zw_iload_n dM_longOf_29 rfl ?_
              exact zw_iret dM_longOf_30 rfl rfl rfl ⟨rfl, rfl⟩
            · exact absurd rfl c_20
        | true =>
          rw [hf2] at cf
          have hk : rnR F S c (n + 1) = true := by show (rnR F S c n && okR F S c (n + 1)) = true; rw [hr]; simp [okR, h0, hf2]
          refine zw_iload_n dM_longOf_2 rfl ?_
          refine zw_iload_n dM_longOf_3 rfl ?_
          refine zw_iadd dM_longOf_4 ?_
          rw [ea]
          refine zw_aload_n dM_longOf_5 rfl ?_
          refine zw_get dM_longOf_6 zf_M_7 hM rfl ?_
          refine zw_irem dM_longOf_9 hW0 ?_
          rw [er]
          refine zw_if_eq 29 dM_longOf_10 (by decide) (fun c_10 => ?_) (fun c_10 => ?_)
          · exact absurd (em.mp c_10) h0
          · refine zw_aload_n dM_longOf_13 rfl ?_
            refine zw_iload_n dM_longOf_14 rfl ?_
            refine zw_iload_n dM_longOf_15 rfl ?_
            refine zw_iadd dM_longOf_16 ?_
            rw [ea]
            refine zc_V1I dM_longOf_17 zm_M_isFree zk_M_103 hM rfl cf ?_ zRR (Nat.le_of_ble_eq_true rfl) ⟨Nat.le_of_ble_eq_true rfl, Nat.le_of_ble_eq_true rfl⟩
            refine zw_if_eq 29 dM_longOf_20 (by decide) (fun c_20 => ?_) (fun c_20 => ?_)
            · exact absurd c_20 (by decide)
            · refine zw_incN dM_longOf_23 rfl (by decide) rfl ?_
              refine zw_goto 2 dM_longOf_26 (by decide) ?_
              exact zw_lk (ih (n + 1) (by omega) hk) ⟨rfl, rfl, rfl, trivial⟩
  refine zw_iconst (v := 1) dM_longOf_0 (by decide) ?_
  refine zw_istore_n dM_longOf_1 (by decide) rfl ?_
  exact zw_lk (L 6 0 (by omega) rfl) ⟨rfl, rfl, rfl, trivial⟩
theorem lst_sub (F : Fl) (S : Sit) : sub F (lst F S) := fun c h => by
  simp only [lst, Bool.and_eq_true] at h
  exact fre_sub F S c h.1
theorem c_M_lane {O : Om} (a : MX h O) (ok : oOK' O) {x y : Int32} : Run l g mM_lane (d + 2) 0 0 [.ref 31, .int x, .int y] h (PIh (rLane O x y) (MP h O)) := by
  refine run_rm a ?_
  obtain ⟨⟨qa, qb, z, hM, hS⟩, -⟩ := id a
  have hF := ok.1
  have h36 := fN_le hF
  have sok := ok.2.1
  have ci := c_M_inB (l := l) (g := g) (d := d + 1) (h := h) (x := y) (a := 0) (b := 1) (by decide) (by decide)
  obtain ⟨p, hp⟩ : ∃ p, p = lst (oF O) (oS O) := ⟨_, rfl⟩
  have hps : sub (oF O) p := by rw [hp]; exact lst_sub _ _
  have cN : cnt p 36 = cnt p (fN (oF O)) := cnt_more h36 (fun i h1 _ => by
    cases q : p i with
    | false => rfl
    | true => exact absurd (hps i q) (by omega))
  unfold rLane
  rw [← hp]
  refine run_of (by decide) (Nat.le_of_ble_eq_true rfl) ?_
  by_cases hx1 : x < -1
  · rw [if_pos hx1]
    refine zw_iload_n dM_lane_0 rfl ?_
    refine zw_iconst (v := (-1)) dM_lane_1 (by decide) ?_
    refine zw_icmp_lt 14 dM_lane_2 (by decide) (fun c_2 => ?_) (fun c_2 => ?_)
    · refine zw_iconst (v := (-1)) dM_lane_14 (by decide) ?_
      exact zw_iret dM_lane_15 rfl rfl rfl ⟨rfl, rfl⟩
    · exact absurd hx1 c_2
  · rw [if_neg hx1]
    cases hb : btw y 0 1 with
    | none =>
      rw [hb] at ci
      refine zw_iload_n dM_lane_0 rfl ?_
      refine zw_iconst (v := (-1)) dM_lane_1 (by decide) ?_
      refine zw_icmp_lt 14 dM_lane_2 (by decide) (fun c_2 => ?_) (fun c_2 => ?_)
      · exact absurd c_2 hx1
      · refine zw_iload_n dM_lane_5 rfl ?_
        refine zw_iconst (v := 0) dM_lane_6 (by decide) ?_
        refine zw_iconst (v := 1) dM_lane_7 (by decide) ?_
        refine zc_S3I dM_lane_8 zm_M_in zk_M_67 ci ?_ zRR (Nat.le_of_ble_eq_true rfl) ⟨Nat.le_of_ble_eq_true rfl, Nat.le_of_ble_eq_true rfl⟩
        refine zw_if_ne 16 dM_lane_11 (by decide) (fun c_11 => ?_) (fun c_11 => ?_)
        · exact absurd rfl c_11
        · refine zw_iconst (v := (-1)) dM_lane_14 (by decide) ?_
          exact zw_iret dM_lane_15 rfl rfl rfl ⟨rfl, rfl⟩
    | some w =>
      rw [hb] at ci
      obtain ⟨-, hw, rfl⟩ := (btw_some (by decide)).mp hb
      dsimp only
      by_cases hx2 : x = -1
      · subst hx2
        rw [if_pos rfl, cN]
        have L : ∀ (m c : Nat), c + m = fN (oF O) → WW l g mM_lane (zrm (d + 2) 0 0) (fun _ => True) (zQQ g (PI (nI (cnt p (fN (oF O)))) h) (h.length + 0) 0 0) 21 [(0, some (.ref 31)), (1, some (.int (-1))), (2, some (.int (nI w))), (3, some (.int (nI (cnt p c)))), (4, some (.int (nI c)))] [] h 0 0 := by
          intro m
          induction m with
          | zero =>
            intro c hc
            have hc : c = fN (oF O) := by omega
            subst hc
            refine zw_iload dM_lane_21 rfl ?_
            refine zw_aload_n dM_lane_23 rfl ?_
            refine zc_V0I dM_lane_24 zm_M_cells zk_M_57 hM rfl (c_M_cells hM) ?_ zRR (Nat.le_of_ble_eq_true rfl) ⟨Nat.le_of_ble_eq_true rfl, Nat.le_of_ble_eq_true rfl⟩
            refine zw_icmp_ge 69 dM_lane_27 (by decide) (fun c_27 => ?_) (fun c_27 => ?_)
            · refine zw_iload_n dM_lane_69 rfl ?_
              refine zw_iconst (v := (-1)) dM_lane_70 (by decide) ?_
              refine zw_icmp_ne 78 dM_lane_71 (by decide) (fun c_71 => ?_) (fun c_71 => ?_)
              · exact absurd rfl c_71
              · refine zw_iload_n dM_lane_74 rfl ?_
                refine zw_goto 80 dM_lane_75 (by decide) ?_
                exact zw_iret dM_lane_80 rfl rfl rfl ⟨rfl, rfl⟩
            · exact absurd (Int32.le_refl _) c_27
          | succ m ih =>
            intro c hc
            have hcn : c < fN (oF O) := by omega
            have cf := c_M_isFirst (l := l) (g := g) (d := d) hF sok hM hS hcn
            rw [← hp] at cf
            have I := ih (c + 1) (by omega)
            have es : cnt p (c + 1) = cnt p c + (if p c = true then 1 else 0) := rfl
            have cl := cnt_le p c
            have ne : ¬ nI (cnt p c) = -1 := by
              intro q
              have q2 := congrArg Int32.toInt q
              rw [nI_toInt (by omega), show (-1 : Int32).toInt = -1 from by decide] at q2
              omega
            cases hpc : p c with
            | false =>
              rw [hpc] at cf es
              have es' : cnt p (c + 1) = cnt p c := es
              rw [es'] at I
              refine zw_iload dM_lane_21 rfl ?_
              refine zw_aload_n dM_lane_23 rfl ?_
              refine zc_V0I dM_lane_24 zm_M_cells zk_M_57 hM rfl (c_M_cells hM) ?_ zRR (Nat.le_of_ble_eq_true rfl) ⟨Nat.le_of_ble_eq_true rfl, Nat.le_of_ble_eq_true rfl⟩
              refine zw_icmp_ge 69 dM_lane_27 (by decide) (fun c_27 => ?_) (fun c_27 => ?_)
              · exact absurd ((nI_leI (by omega) (by omega)).mp c_27) (by omega)
              · refine zw_aload_n dM_lane_30 rfl ?_
                refine zw_iload dM_lane_31 rfl ?_
                refine zc_V1I dM_lane_33 zm_M_isFirst zk_M_175 hM rfl cf ?_ zRR (Nat.le_of_ble_eq_true rfl) ⟨Nat.le_of_ble_eq_true rfl, Nat.le_of_ble_eq_true rfl⟩
                refine zw_if_eq 63 dM_lane_36 (by decide) (fun c_36 => ?_) (fun c_36 => ?_)
                · refine zw_incN dM_lane_63 rfl (by decide) rfl ?_
                  refine zw_goto 21 dM_lane_66 (by decide) ?_
                  exact zw_lk I ⟨rfl, rfl, rfl, rfl, rfl, trivial⟩
                · exact absurd rfl c_36
            | true =>
              rw [hpc] at cf es
              have es' : cnt p (c + 1) = cnt p c + 1 := es
              rw [es'] at I
              refine zw_iload dM_lane_21 rfl ?_
              refine zw_aload_n dM_lane_23 rfl ?_
              refine zc_V0I dM_lane_24 zm_M_cells zk_M_57 hM rfl (c_M_cells hM) ?_ zRR (Nat.le_of_ble_eq_true rfl) ⟨Nat.le_of_ble_eq_true rfl, Nat.le_of_ble_eq_true rfl⟩
              refine zw_icmp_ge 69 dM_lane_27 (by decide) (fun c_27 => ?_) (fun c_27 => ?_)
              · exact absurd ((nI_leI (by omega) (by omega)).mp c_27) (by omega)
              · refine zw_aload_n dM_lane_30 rfl ?_
                refine zw_iload dM_lane_31 rfl ?_
                refine zc_V1I dM_lane_33 zm_M_isFirst zk_M_175 hM rfl cf ?_ zRR (Nat.le_of_ble_eq_true rfl) ⟨Nat.le_of_ble_eq_true rfl, Nat.le_of_ble_eq_true rfl⟩
                refine zw_if_eq 63 dM_lane_36 (by decide) (fun c_36 => ?_) (fun c_36 => ?_)
                · exact absurd c_36 (by decide)
                · refine zw_iload_n dM_lane_39 rfl ?_
                  refine zw_iload_n dM_lane_40 rfl ?_
                  refine zw_icmp_ne 60 dM_lane_41 (by decide) (fun c_41 => ?_) (fun c_41 => ?_)
                  · refine zw_incN dM_lane_60 rfl (by decide) rfl ?_
                    refine zw_incN dM_lane_63 rfl (by decide) rfl ?_
                    refine zw_goto 21 dM_lane_66 (by decide) ?_
                    exact zw_lk I ⟨rfl, rfl, rfl, rfl, rfl, trivial⟩
                  · exact absurd c_41 ne
        refine zw_iload_n dM_lane_0 rfl ?_
        refine zw_iconst (v := (-1)) dM_lane_1 (by decide) ?_
        refine zw_icmp_lt 14 dM_lane_2 (by decide) (fun c_2 => ?_) (fun c_2 => ?_)
        · exact absurd c_2 hx1
        · refine zw_iload_n dM_lane_5 rfl ?_
          refine zw_iconst (v := 0) dM_lane_6 (by decide) ?_
          refine zw_iconst (v := 1) dM_lane_7 (by decide) ?_
          refine zc_S3I dM_lane_8 zm_M_in zk_M_67 ci ?_ zRR (Nat.le_of_ble_eq_true rfl) ⟨Nat.le_of_ble_eq_true rfl, Nat.le_of_ble_eq_true rfl⟩
          refine zw_if_ne 16 dM_lane_11 (by decide) (fun c_11 => ?_) (fun c_11 => ?_)
          · refine zw_iconst (v := 0) dM_lane_16 (by decide) ?_
            refine zw_istore_n dM_lane_17 (by decide) rfl ?_
            refine zw_iconst (v := 0) dM_lane_18 (by decide) ?_
            refine zw_istore dM_lane_19 (by decide) rfl ?_
            exact zw_lk (L (fN (oF O)) 0 (by omega)) ⟨rfl, rfl, rfl, rfl, rfl, trivial⟩
          · exact absurd c_11 (show ¬ (1 : Int32) = 0 by decide)
      · rw [if_neg hx2]
        obtain ⟨j, hj, rfl⟩ := nonneg_of hx1 hx2
        rw [nI_clamp hj]
        suffices H : ∀ r : Int32, (nth p j = none → r = -9) → (∀ c, nth p j = some c → r = if w = 0 then nI c else nI (llen (oF O) (oS O) c)) → WW l g mM_lane (zrm (d + 2) 0 0) (fun _ => True) (zQQ g (PI r h) (h.length + 0) 0 0) 0 (zargs 0 [.ref 31, .int (nI j), .int (nI w)]) [] h 0 0 by
          cases hn : nth p j with
          | none => exact H _ (fun _ => rfl) (fun c e => by rw [hn] at e; cases e)
          | some c => exact H _ (fun e => by rw [hn] at e; cases e) (fun c2 e => by rw [hn] at e; injection e with e; subst e; rfl)
        intro r hrN hrS
        have L : ∀ (m c : Nat), c + m = fN (oF O) → cnt p c ≤ j → WW l g mM_lane (zrm (d + 2) 0 0) (fun _ => True) (zQQ g (PI r h) (h.length + 0) 0 0) 21 [(0, some (.ref 31)), (1, some (.int (nI j))), (2, some (.int (nI w))), (3, some (.int (nI (cnt p c)))), (4, some (.int (nI c)))] [] h 0 0 := by
          intro m
          induction m with
          | zero =>
            intro c hc hcj
            have hc : c = fN (oF O) := by omega
            subst hc
            have hr := hrN (nth_none (by rw [cN]; exact hcj))
            subst hr
            refine zw_iload dM_lane_21 rfl ?_
            refine zw_aload_n dM_lane_23 rfl ?_
            refine zc_V0I dM_lane_24 zm_M_cells zk_M_57 hM rfl (c_M_cells hM) ?_ zRR (Nat.le_of_ble_eq_true rfl) ⟨Nat.le_of_ble_eq_true rfl, Nat.le_of_ble_eq_true rfl⟩
            refine zw_icmp_ge 69 dM_lane_27 (by decide) (fun c_27 => ?_) (fun c_27 => ?_)
            · refine zw_iload_n dM_lane_69 rfl ?_
              refine zw_iconst (v := (-1)) dM_lane_70 (by decide) ?_
              refine zw_icmp_ne 78 dM_lane_71 (by decide) (fun c_71 => ?_) (fun c_71 => ?_)
              · refine zw_bipush (v := (-9)) dM_lane_78 (by decide) ?_
                exact zw_iret dM_lane_80 rfl rfl rfl ⟨rfl, rfl⟩
              · exact absurd c_71 hx2
            · exact absurd (Int32.le_refl _) c_27
          | succ m ih =>
            intro c hc hcj
            have hcn : c < fN (oF O) := by omega
            have cf := c_M_isFirst (l := l) (g := g) (d := d) hF sok hM hS hcn
            rw [← hp] at cf
            have es : cnt p (c + 1) = cnt p c + (if p c = true then 1 else 0) := rfl
            have cl := cnt_le p c
            have ene : nI (cnt p c) = nI j ↔ cnt p c = j := nI_eq (by omega) hj
            cases hpc : p c with
            | false =>
              rw [hpc] at cf es
              have es' : cnt p (c + 1) = cnt p c := es
              have I := ih (c + 1) (by omega) (by omega)
              rw [es'] at I
              refine zw_iload dM_lane_21 rfl ?_
              refine zw_aload_n dM_lane_23 rfl ?_
              refine zc_V0I dM_lane_24 zm_M_cells zk_M_57 hM rfl (c_M_cells hM) ?_ zRR (Nat.le_of_ble_eq_true rfl) ⟨Nat.le_of_ble_eq_true rfl, Nat.le_of_ble_eq_true rfl⟩
              refine zw_icmp_ge 69 dM_lane_27 (by decide) (fun c_27 => ?_) (fun c_27 => ?_)
              · exact absurd ((nI_leI (by omega) (by omega)).mp c_27) (by omega)
              · refine zw_aload_n dM_lane_30 rfl ?_
                refine zw_iload dM_lane_31 rfl ?_
                refine zc_V1I dM_lane_33 zm_M_isFirst zk_M_175 hM rfl cf ?_ zRR (Nat.le_of_ble_eq_true rfl) ⟨Nat.le_of_ble_eq_true rfl, Nat.le_of_ble_eq_true rfl⟩
                refine zw_if_eq 63 dM_lane_36 (by decide) (fun c_36 => ?_) (fun c_36 => ?_)
                · refine zw_incN dM_lane_63 rfl (by decide) rfl ?_
                  refine zw_goto 21 dM_lane_66 (by decide) ?_
                  exact zw_lk I ⟨rfl, rfl, rfl, rfl, rfl, trivial⟩
                · exact absurd rfl c_36
            | true =>
              rw [hpc] at cf es
              have es' : cnt p (c + 1) = cnt p c + 1 := es
              by_cases hz : cnt p c = j
              · have hr := hrS c (nth_some (by omega) hpc hz)
                have hfc : fre (oF O) (oS O) c = true := by
                  rw [hp] at hpc
                  exact ((lst_iff hF hcn).mp hpc).1
                have cg := c_M_longOf (l := l) (g := g) (d := d) hF sok hM hS hfc
                rcases (show w = 0 ∨ w = 1 by omega) with rfl | rfl
                · rw [if_pos rfl] at hr
                  subst hr
                  refine zw_iload dM_lane_21 rfl ?_
                  refine zw_aload_n dM_lane_23 rfl ?_
                  refine zc_V0I dM_lane_24 zm_M_cells zk_M_57 hM rfl (c_M_cells hM) ?_ zRR (Nat.le_of_ble_eq_true rfl) ⟨Nat.le_of_ble_eq_true rfl, Nat.le_of_ble_eq_true rfl⟩
                  refine zw_icmp_ge 69 dM_lane_27 (by decide) (fun c_27 => ?_) (fun c_27 => ?_)
                  · exact absurd ((nI_leI (by omega) (by omega)).mp c_27) (by omega)
                  · refine zw_aload_n dM_lane_30 rfl ?_
                    refine zw_iload dM_lane_31 rfl ?_
                    refine zc_V1I dM_lane_33 zm_M_isFirst zk_M_175 hM rfl cf ?_ zRR (Nat.le_of_ble_eq_true rfl) ⟨Nat.le_of_ble_eq_true rfl, Nat.le_of_ble_eq_true rfl⟩
                    refine zw_if_eq 63 dM_lane_36 (by decide) (fun c_36 => ?_) (fun c_36 => ?_)
                    · exact absurd c_36 (by decide)
                    · refine zw_iload_n dM_lane_39 rfl ?_
                      refine zw_iload_n dM_lane_40 rfl ?_
                      refine zw_icmp_ne 60 dM_lane_41 (by decide) (fun c_41 => ?_) (fun c_41 => ?_)
                      · exact absurd (ene.mpr hz) c_41
                      · refine zw_iload_n dM_lane_44 rfl ?_
                        refine zw_if_ne 53 dM_lane_45 (by decide) (fun c_45 => ?_) (fun c_45 => ?_)
                        · exact absurd rfl c_45
                        · refine zw_iload dM_lane_48 rfl ?_
                          refine zw_goto 59 dM_lane_50 (by decide) ?_
                          exact zw_iret dM_lane_59 rfl rfl rfl ⟨rfl, rfl⟩
                · rw [if_neg (by decide)] at hr
                  subst hr
                  refine zw_iload dM_lane_21 rfl ?_
                  refine zw_aload_n dM_lane_23 rfl ?_
                  refine zc_V0I dM_lane_24 zm_M_cells zk_M_57 hM rfl (c_M_cells hM) ?_ zRR (Nat.le_of_ble_eq_true rfl) ⟨Nat.le_of_ble_eq_true rfl, Nat.le_of_ble_eq_true rfl⟩
                  refine zw_icmp_ge 69 dM_lane_27 (by decide) (fun c_27 => ?_) (fun c_27 => ?_)
                  · exact absurd ((nI_leI (by omega) (by omega)).mp c_27) (by omega)
                  · refine zw_aload_n dM_lane_30 rfl ?_
                    refine zw_iload dM_lane_31 rfl ?_
                    refine zc_V1I dM_lane_33 zm_M_isFirst zk_M_175 hM rfl cf ?_ zRR (Nat.le_of_ble_eq_true rfl) ⟨Nat.le_of_ble_eq_true rfl, Nat.le_of_ble_eq_true rfl⟩
                    refine zw_if_eq 63 dM_lane_36 (by decide) (fun c_36 => ?_) (fun c_36 => ?_)
                    · exact absurd c_36 (by decide)
                    · refine zw_iload_n dM_lane_39 rfl ?_
                      refine zw_iload_n dM_lane_40 rfl ?_
                      refine zw_icmp_ne 60 dM_lane_41 (by decide) (fun c_41 => ?_) (fun c_41 => ?_)
                      · exact absurd (ene.mpr hz) c_41
                      · refine zw_iload_n dM_lane_44 rfl ?_
                        refine zw_if_ne 53 dM_lane_45 (by decide) (fun c_45 => ?_) (fun c_45 => ?_)
                        · refine zw_aload_n dM_lane_53 rfl ?_
                          refine zw_iload dM_lane_54 rfl ?_
                          refine zc_V1I dM_lane_56 zm_M_longOf zk_M_178 hM rfl cg ?_ zRR (Nat.le_of_ble_eq_true rfl) ⟨Nat.le_of_ble_eq_true rfl, Nat.le_of_ble_eq_true rfl⟩
                          exact zw_iret dM_lane_59 rfl rfl rfl ⟨rfl, rfl⟩
                        · exact absurd c_45 (by decide)
              · have I := ih (c + 1) (by omega) (by omega)
                rw [es'] at I
                refine zw_iload dM_lane_21 rfl ?_
                refine zw_aload_n dM_lane_23 rfl ?_
                refine zc_V0I dM_lane_24 zm_M_cells zk_M_57 hM rfl (c_M_cells hM) ?_ zRR (Nat.le_of_ble_eq_true rfl) ⟨Nat.le_of_ble_eq_true rfl, Nat.le_of_ble_eq_true rfl⟩
                refine zw_icmp_ge 69 dM_lane_27 (by decide) (fun c_27 => ?_) (fun c_27 => ?_)
                · exact absurd ((nI_leI (by omega) (by omega)).mp c_27) (by omega)
                · refine zw_aload_n dM_lane_30 rfl ?_
                  refine zw_iload dM_lane_31 rfl ?_
                  refine zc_V1I dM_lane_33 zm_M_isFirst zk_M_175 hM rfl cf ?_ zRR (Nat.le_of_ble_eq_true rfl) ⟨Nat.le_of_ble_eq_true rfl, Nat.le_of_ble_eq_true rfl⟩
                  refine zw_if_eq 63 dM_lane_36 (by decide) (fun c_36 => ?_) (fun c_36 => ?_)
                  · exact absurd c_36 (by decide)
                  · refine zw_iload_n dM_lane_39 rfl ?_
                    refine zw_iload_n dM_lane_40 rfl ?_
                    refine zw_icmp_ne 60 dM_lane_41 (by decide) (fun c_41 => ?_) (fun c_41 => ?_)
                    · refine zw_incN dM_lane_60 rfl (by decide) rfl ?_
                      refine zw_incN dM_lane_63 rfl (by decide) rfl ?_
                      refine zw_goto 21 dM_lane_66 (by decide) ?_
                      exact zw_lk I ⟨rfl, rfl, rfl, rfl, rfl, trivial⟩
                    · exact absurd (ene.mp c_41) hz
        refine zw_iload_n dM_lane_0 rfl ?_
        refine zw_iconst (v := (-1)) dM_lane_1 (by decide) ?_
        refine zw_icmp_lt 14 dM_lane_2 (by decide) (fun c_2 => ?_) (fun c_2 => ?_)
        · exact absurd c_2 hx1
        · refine zw_iload_n dM_lane_5 rfl ?_
          refine zw_iconst (v := 0) dM_lane_6 (by decide) ?_
          refine zw_iconst (v := 1) dM_lane_7 (by decide) ?_
          refine zc_S3I dM_lane_8 zm_M_in zk_M_67 ci ?_ zRR (Nat.le_of_ble_eq_true rfl) ⟨Nat.le_of_ble_eq_true rfl, Nat.le_of_ble_eq_true rfl⟩
          refine zw_if_ne 16 dM_lane_11 (by decide) (fun c_11 => ?_) (fun c_11 => ?_)
          · refine zw_iconst (v := 0) dM_lane_16 (by decide) ?_
            refine zw_istore_n dM_lane_17 (by decide) rfl ?_
            refine zw_iconst (v := 0) dM_lane_18 (by decide) ?_
            refine zw_istore dM_lane_19 (by decide) rfl ?_
            exact zw_lk (L (fN (oF O)) 0 (by omega) (Nat.zero_le _)) ⟨rfl, rfl, rfl, rfl, rfl, trivial⟩
          · exact absurd c_11 (show ¬ (1 : Int32) = 0 by decide)
end C70
