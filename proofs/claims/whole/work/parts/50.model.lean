/-! ===== the reference: its cells, its row ===== -/
def iA (N : Nat) (f : Nat → Int32) : zC := .inl (0, N, .inl f)
abbrev I4 : Type := Int32 × Int32 × Int32 × Int32
def mC (F : Fl) (un le : Nat) (a b : I4) : zC := .inr (7, [.int (nI (fW F)), .int (nI (fH F)), .int (nI (fD F)), .ref 32, .int (nI un), .ref 33, .ref 34, .ref 35, .ref 36, .int (nI le), .ref 37, .ref 38, .int a.1, .int a.2.1, .int a.2.2.1, .int a.2.2.2, .ref 39, .ref 40, .ref 41, .ref 42, .int b.1, .int b.2.1, .int b.2.2.1, .int b.2.2.2, .ref 43])
/-- four bits -/
def pb (f : Nat → Bool) : Nat := (if f 0 = true then 1 else 0) + (if f 1 = true then 2 else 0) + (if f 2 = true then 4 else 0) + (if f 3 = true then 8 else 0)
def plN (S : Sit) (c : Nat) : Nat := if sLost S = true then pb (sPl S c) else 0
def ms (F : Fl) (S : Sit) (z : Nat → Int32) : Nat → Int32 := fun j =>
  if j < 36 then (if j < fN F then nI (kdn F S j) else z j)
  else if j < 72 then (if j - 36 < fN F then nI (sKn S (j - 36)) else z j)
  else if j < 108 then (if j - 72 < fN F then nI (plN S (j - 72)) else z j)
  else if j = 108 then nI (sAt S) else if j = 109 then nI (sHd S) else if j = 110 then nI (sCh S)
  else if j = 111 then (if sLost S = true then 1 else 0) else if j = 112 then nI (sBrim S) else if j = 113 then nI (sRate S) else z j
def sC (F : Fl) (S : Sit) (z : Nat → Int32) : zC := iA 114 (ms F S z)
theorem ms_k {F : Fl} {S : Sit} {z : Nat → Int32} (hF : fOK F) {i : Nat} (h : i < fN F) : ms F S z i = nI (kdn F S i) := by
  have := fN_le hF
  simp only [ms]
  rw [if_pos (by omega), if_pos h]
theorem ms_n {F : Fl} {S : Sit} {z : Nat → Int32} (hF : fOK F) {i : Nat} (h : i < fN F) : ms F S z (36 + i) = nI (sKn S i) := by
  have := fN_le hF
  have e : 36 + i - 36 = i := by omega
  simp only [ms]
  rw [if_neg (by omega), if_pos (by omega), e, if_pos h]
theorem ms_p {F : Fl} {S : Sit} {z : Nat → Int32} (hF : fOK F) {i : Nat} (h : i < fN F) : ms F S z (72 + i) = nI (plN S i) := by
  have := fN_le hF
  have e : 72 + i - 72 = i := by omega
  simp only [ms]
  rw [if_neg (by omega), if_neg (by omega), if_pos (by omega), e, if_pos h]
theorem ms_108 (F : Fl) (S : Sit) (z : Nat → Int32) : ms F S z 108 = nI (sAt S) := rfl
theorem ms_109 (F : Fl) (S : Sit) (z : Nat → Int32) : ms F S z 109 = nI (sHd S) := rfl
theorem ms_110 (F : Fl) (S : Sit) (z : Nat → Int32) : ms F S z 110 = nI (sCh S) := rfl
theorem ms_111 (F : Fl) (S : Sit) (z : Nat → Int32) : ms F S z 111 = if sLost S = true then 1 else 0 := rfl
theorem ms_112 (F : Fl) (S : Sit) (z : Nat → Int32) : ms F S z 112 = nI (sBrim S) := rfl
theorem ms_113 (F : Fl) (S : Sit) (z : Nat → Int32) : ms F S z 113 = nI (sRate S) := rfl
theorem upd_eq (f : Nat → Int32) (k : Nat) (x : Int32) : upd f k x k = x := by simp [upd]
theorem upd_ne (f : Nat → Int32) {k j : Nat} (x : Int32) (h : j ≠ k) : upd f k x j = f j := by simp [upd, h]
theorem ms_h1 (F : Fl) (S : Sit) (z : Nat → Int32) (x : Nat) : upd (ms F S z) 109 (nI x) = ms F (setHd S x) z := by
  funext j
  by_cases e : j = 109
  · subst e; rw [upd_eq, ms_109]; rfl
  · rw [upd_ne _ _ e]; simp only [ms, if_neg e]; rfl
theorem ms_h2 (F : Fl) (S : Sit) (z : Nat → Int32) (x : Nat) : upd (ms F S z) 110 (nI x) = ms F (setCh S x) z := by
  funext j
  by_cases e : j = 110
  · subst e; rw [upd_eq, ms_110]; rfl
  · rw [upd_ne _ _ e]; simp only [ms, if_neg e]; rfl
theorem ms_h3 (F : Fl) (S : Sit) (z : Nat → Int32) (x : Nat) : upd (ms F S z) 108 (nI x) = ms F (setAt' S x) z := by
  funext j
  by_cases e : j = 108
  · subst e; rw [upd_eq, ms_108]; rfl
  · rw [upd_ne _ _ e]; simp only [ms, if_neg e]; rfl
theorem ms_kn {F : Fl} (hF : fOK F) (S : Sit) (z : Nat → Int32) {c v : Nat} (hc : c < fN F) : upd (ms F S z) (36 + c) (nI v) = ms F (setKn S (fun i => if i = c then v else sKn S i)) z := by
  have h36 := fN_le hF
  funext j
  by_cases e : j = 36 + c
  · subst e; rw [upd_eq, ms_n hF hc]; congr 1; show v = if c = c then v else sKn S c; rw [if_pos rfl]
  · rw [upd_ne _ _ e]
    simp only [ms]
    by_cases h1 : j < 36
    · simp only [h1, if_true]; rfl
    · by_cases h2 : j < 72
      · have h3 : ¬ j - 36 = c := by omega
        have h4 : sKn (setKn S (fun i => if i = c then v else sKn S i)) (j - 36) = sKn S (j - 36) := by show (if j - 36 = c then v else sKn S (j - 36)) = _; rw [if_neg h3]
        simp only [h1, h2, if_true, if_false, h4]
      · simp only [h1, h2, if_false]; rfl
/-- a stretch of a row is written -/
def fil (f : Nat → Int32) (b n : Nat) (v : Nat → Int32) : Nat → Int32 := fun j => if b ≤ j ∧ j < b + n then v (j - b) else f j
theorem fil_0 (f : Nat → Int32) (b : Nat) (v : Nat → Int32) : fil f b 0 v = f := by
  funext j
  simp only [fil]
  rw [if_neg (by omega)]
theorem fil_s (f : Nat → Int32) (b n : Nat) (v : Nat → Int32) : upd (fil f b n v) (b + n) (v n) = fil f b (n + 1) v := by
  funext j
  by_cases e : j = b + n
  · subst e
    rw [upd_eq]
    simp only [fil]
    rw [if_pos (by omega)]
    congr 1
    omega
  · rw [upd_ne _ _ e]
    simp only [fil]
    by_cases h : b ≤ j ∧ j < b + n
    · rw [if_pos h, if_pos (by omega)]
    · rw [if_neg h, if_neg (by omega)]
theorem fil_in {f : Nat → Int32} {b n : Nat} {v : Nat → Int32} {i : Nat} (h : i < n) : fil f b n v (b + i) = v i := by
  simp only [fil]
  rw [if_pos (by omega)]
  congr 1
  omega
theorem fil_out {f : Nat → Int32} {b n : Nat} {v : Nat → Int32} {j : Nat} (h : j < b ∨ b + n ≤ j) : fil f b n v j = f j := by
  simp only [fil]
  rw [if_neg (by omega)]
/-- the places are written -/
theorem ms_fil {F : Fl} (hF : fOK F) (S S' : Sit) (z : Nat → Int32) (f : Nat → Int32) (v : Nat → Int32)
    (hv : ∀ i, i < fN F → v i = nI (plN S' i)) (hk : ∀ j, ¬ (72 ≤ j ∧ j < 72 + fN F) → f j = ms F S' z j) : fil f 72 (fN F) v = ms F S' z := by
  funext j
  by_cases h : 72 ≤ j ∧ j < 72 + fN F
  · have h2 : j = 72 + (j - 72) := by omega
    rw [h2, fil_in (by omega), hv _ (by omega), ms_p hF (by omega)]
  · rw [fil_out (by omega)]; exact hk j h
section C50
variable {l : Launch} {g : zG} {d : Nat} {h : zH} {F : Fl} {S : Sit} {z : Nat → Int32} {un le : Nat} {qa qb : I4}
theorem c_M_in {x lo hi : Int32} : Run l g mM_in d 0 0 [.int x, .int lo, .int hi] h (PI (if lo ≤ x ∧ x ≤ hi then 1 else 0) h) := by
  refine run_of (by decide) (Nat.le_of_ble_eq_true rfl) ?_
  refine zw_iload_n dM_in_0 rfl ?_
  refine zw_iload_n dM_in_1 rfl ?_
  refine zw_icmp_lt 14 dM_in_2 (by decide) (fun c_2 => ?_) (fun c_2 => ?_)
  · refine zw_iconst (v := 0) dM_in_14 (by decide) ?_
    exact zw_iret dM_in_15 rfl rfl rfl ⟨by first | (rw [if_pos ⟨Int32.not_lt.mp (by assumption), Int32.not_lt.mp (by assumption)⟩]) | (rw [if_neg (fun q => absurd q.1 (Int32.not_le.mpr (by assumption)))]) | (rw [if_neg (fun q => absurd q.2 (Int32.not_le.mpr (by assumption)))]), rfl⟩
  · refine zw_iload_n dM_in_5 rfl ?_
    refine zw_iload_n dM_in_6 rfl ?_
    refine zw_icmp_gt 14 dM_in_7 (by decide) (fun c_7 => ?_) (fun c_7 => ?_)
    · refine zw_iconst (v := 0) dM_in_14 (by decide) ?_
      exact zw_iret dM_in_15 rfl rfl rfl ⟨by first | (rw [if_pos ⟨Int32.not_lt.mp (by assumption), Int32.not_lt.mp (by assumption)⟩]) | (rw [if_neg (fun q => absurd q.1 (Int32.not_le.mpr (by assumption)))]) | (rw [if_neg (fun q => absurd q.2 (Int32.not_le.mpr (by assumption)))]), rfl⟩
    · refine zw_iconst (v := 1) dM_in_10 (by decide) ?_
      refine zw_goto 15 dM_in_11 (by decide) ?_
      exact zw_iret dM_in_15 rfl rfl rfl ⟨by first | (rw [if_pos ⟨Int32.not_lt.mp (by assumption), Int32.not_lt.mp (by assumption)⟩]) | (rw [if_neg (fun q => absurd q.1 (Int32.not_le.mpr (by assumption)))]) | (rw [if_neg (fun q => absurd q.2 (Int32.not_le.mpr (by assumption)))]), rfl⟩
theorem c_M_inB {x : Int32} {a b : Nat} (ha : a < 2 ^ 31) (hb : b < 2 ^ 31) : Run l g mM_in d 0 0 [.int x, .int (nI a), .int (nI b)] h (PI (if (btw x a b).isSome = true then 1 else 0) h) := by
  have h0 := c_M_in (l := l) (g := g) (d := d) (h := h) (x := x) (lo := nI a) (hi := nI b)
  have e : (if nI a ≤ x ∧ x ≤ nI b then (1 : Int32) else 0) = if (btw x a b).isSome = true then 1 else 0 := by
    unfold btw
    simp only [i_le ha, i_len hb]
    by_cases q : (a : Int) ≤ x.toInt ∧ x.toInt ≤ b
    · simp [q]
    · simp [q]
  rw [e] at h0
  exact h0
theorem c_M_cells (hM : h[31]? = some (mC F un le qa qb)) : Run l g mM_cells d 0 0 [.ref 31] h (PI (nI (fN F)) h) := by
  refine run_of (by decide) (Nat.le_of_ble_eq_true rfl) ?_
  refine zw_aload_n dM_cells_0 rfl ?_
  refine zw_get dM_cells_1 zf_M_7 hM rfl ?_
  refine zw_aload_n dM_cells_4 rfl ?_
  refine zw_get dM_cells_5 zf_M_13 hM rfl ?_
  refine zw_imul dM_cells_8 ?_
  exact zw_iret dM_cells_9 rfl rfl rfl ⟨by rw [pk_mul]; rfl, rfl⟩
theorem c_M_isCell (hF : fOK F) (hM : h[31]? = some (mC F un le qa qb)) {x : Int32} : Run l g mM_isCell (d + 1) 0 0 [.ref 31, .int x] h (PI (if (cel F x).isSome = true then 1 else 0) h) := by
  have h36 := fN_le hF
  have h0 := fN_pos hF
  have e : (if (0 : Int32) ≤ x ∧ x ≤ nI (fN F) - 1 then (1 : Int32) else 0) = if (cel F x).isSome = true then 1 else 0 := by
    have q1 : (0 : Int32) ≤ x ↔ (0 : Int) ≤ x.toInt := i_le (c := 0) (by decide) x
    have q2 : x ≤ nI (fN F) - 1 ↔ x.toInt ≤ ((fN F - 1 : Nat) : Int) := by rw [show nI (fN F) - 1 = nI (fN F - 1) from pk_sub (b := 1) h0, i_len (by omega)]
    simp only [q1, q2]
    unfold cel
    by_cases q : 0 ≤ x.toInt ∧ x.toInt < fN F
    · rw [if_pos q, if_pos (by omega)]; rfl
    · rw [if_neg q, if_neg (by omega)]; rfl
  have ci := c_M_in (l := l) (g := g) (d := d) (h := h) (x := x) (lo := 0) (hi := nI (fN F) - 1)
  rw [e] at ci
  refine run_of (by decide) (Nat.le_of_ble_eq_true rfl) ?_
  refine zw_iload_n dM_isCell_0 rfl ?_
  refine zw_iconst (v := 0) dM_isCell_1 (by decide) ?_
  refine zw_aload_n dM_isCell_2 rfl ?_
  refine zc_V0I dM_isCell_3 zm_M_cells zk_M_57 hM rfl (c_M_cells hM) ?_ zRR (Nat.le_of_ble_eq_true rfl) ⟨Nat.le_of_ble_eq_true rfl, Nat.le_of_ble_eq_true rfl⟩
  refine zw_iconst (v := 1) dM_isCell_6 (by decide) ?_
  refine zw_isub dM_isCell_7 ?_
  refine zc_S3I dM_isCell_8 zm_M_in zk_M_67 ci ?_ zRR (Nat.le_of_ble_eq_true rfl) ⟨Nat.le_of_ble_eq_true rfl, Nat.le_of_ble_eq_true rfl⟩
  exact zw_iret dM_isCell_11 rfl (by split <;> rfl) rfl ⟨rfl, rfl⟩
end C50
