/-! ===== what stays so ===== -/
section INV
variable {F : Fl} {S : Sit}
theorem ok_pl (h : sOK F S) {pl : Nat → Nat → Bool} (hp : ∀ c j, j < 4 → pl c j = true → c < fN F) : sOK F (setPl S pl) := ⟨h.shut, h.brim, h.rate, h.at, h.hd, h.ch, h.kn, h.knn, fun _ => hp⟩
theorem ok_found (h : sOK F S) : sOK F (found S) := by
  unfold found
  split
  · exact ⟨h.shut, h.brim, h.rate, h.at, h.hd, h.ch, h.kn, h.knn, fun q => by cases q⟩
  · exact h
theorem ok_hd (h : sOK F S) {n : Nat} (hn : n < 4) : sOK F (setHd S n) := ⟨h.shut, h.brim, h.rate, h.at, hn, h.ch, h.kn, h.knn, h.pl⟩
theorem ok_ch (h : sOK F S) {n : Nat} (hn : n ≤ sBrim S) : sOK F (setCh S n) := ⟨h.shut, h.brim, h.rate, h.at, h.hd, hn, h.kn, h.knn, h.pl⟩
theorem ok_at (h : sOK F S) {n : Nat} (hn : n < fN F) : sOK F (setAt' S n) := ⟨h.shut, h.brim, h.rate, hn, h.hd, h.ch, h.kn, h.knn, h.pl⟩
theorem ok_kn (h : sOK F S) {c v : Nat} (hc : c < fN F) (hv : v ≤ 2) : sOK F (setKn S (fun i => if i = c then v else sKn S i)) := by
  refine ⟨h.shut, h.brim, h.rate, h.at, h.hd, h.ch, fun i => ?_, fun i hi => ?_, h.pl⟩
  · show (if i = c then v else sKn S i) ≤ 2
    split
    · exact hv
    · exact h.kn i
  · have hi' : (if i = c then v else sKn S i) ≠ 0 := hi
    split at hi'
    case isTrue e => rw [e]; exact hc
    case isFalse => exact h.knn i hi'
theorem ok_lrn (h : sOK F S) {o : Option Nat} (ho : ∀ c, o = some c → c < fN F) (out : Nat) : sOK F (lrn S o out) := by
  cases o with
  | none => exact h
  | some c =>
    simp only [lrn]
    split
    · exact ok_kn h (ho c rfl) (by decide)
    · split
      · exact h
      · exact ok_kn h (ho c rfl) (by decide)
theorem keepP_n {t q : Nat} {pl : Nat → Nat → Bool} {c j : Nat} (h : keepP F S t q pl c j = true) : c < fN F := keepP_sub (F := F) (S := S) (t := t) (q := q) (pl := pl) j c h
theorem moveP_n {pl : Nat → Nat → Bool} {c j : Nat} (h : moveP F pl c j = true) : c < fN F := bes_sub F j _ c h
theorem ok_sort (h : sOK F S) (out : Nat) : sOK F (sortP F S out) := by
  unfold sortP
  refine ok_found (ok_pl h (fun c j _ hc => ?_))
  split at hc
  · exact moveP_n hc
  · exact keepP_n hc
theorem ok_step (hF : fOK F) (h : sOK F S) {hand : Nat} (hh : hand < 4) : sOK F (stepS F S hand) := by
  have h1 : sOK F (setCh (setHd S hand) (sCh S - 1)) := ok_ch (ok_hd h hh) (by have := h.ch; show sCh S - 1 ≤ sBrim S; omega)
  have hnb := (nb_ok hF h.at hh).1
  unfold stepS
  dsimp only
  have h2 : sOK F (if sLost S = true then sortP F (setCh (setHd S hand) (sCh S - 1)) (outc F S (nb F (sAt S) hand)) else lrn (setCh (setHd S hand) (sCh S - 1)) (nb F (sAt S) hand) (outc F S (nb F (sAt S) hand))) := by
    split
    · exact ok_sort h1 _
    · exact ok_lrn h1 hnb _
  generalize (if sLost S = true then sortP F (setCh (setHd S hand) (sCh S - 1)) (outc F S (nb F (sAt S) hand)) else lrn (setCh (setHd S hand) (sCh S - 1)) (nb F (sAt S) hand) (outc F S (nb F (sAt S) hand))) = S2 at h2
  split
  case isTrue h0 =>
    cases hq : nb F (sAt S) hand with
    | none => rw [hq] at h0; exact absurd (show (1 : Nat) = 0 from h0) (by decide)
    | some c => exact ok_at h2 (hnb c hq)
  case isFalse => exact h2
theorem ok_turn (h : sOK F S) (q : Nat) : sOK F (turnS S q) := by
  have hm : (sHd S + q) % 4 < 4 := Nat.mod_lt _ (by decide)
  unfold turnS
  generalize (sHd S + q) % 4 = n at hm
  split
  case isTrue hl =>
    refine ok_found (ok_pl (ok_hd h hm) (fun c j hj hc => ?_))
    unfold turnP at hc
    exact h.pl hl c _ (Nat.mod_lt _ (by decide)) hc
  case isFalse => exact ok_hd h hm
theorem ok_scan (h : sOK F S) : sOK F (scanS F S) := by
  unfold scanS
  split
  · exact ok_found (ok_pl h (fun c j _ hc => keepP_n hc))
  · exact h
theorem ok_car (h : sOK F S) {c hd : Nat} (hc : c < fN F) (hh : hd < 4) : sOK F (carS F S c hd) := by
  unfold carS carS0
  refine ok_found ⟨h.shut, h.brim, h.rate, hc, hh, h.ch, h.kn, h.knn, fun _ c' j _ q => ?_⟩
  have q' : carP F S c' j = true := q
  simp only [carP, Bool.and_eq_true, decide_eq_true_eq] at q'
  exact q'.1
theorem nxt_lt {hd : Nat} (h : nxt F S = some hd) : hd < 4 := by
  have hfst : ∀ (p : Nat → Bool), fst p 4 0 = some hd → hd < 4 := fun p q => by have := (fst_some.mp q).2.1; omega
  have hnear : ∀ gl, hNr F (kn1 S) (sAt S) gl = some hd → hd < 4 := by
    intro gl q
    unfold hNr at q
    cases hdd : dst F (kn1 S) (some (sAt S)) gl with
    | none => rw [hdd] at q; cases q
    | some s => rw [hdd] at q; exact hfst _ q
  unfold nxt at h
  cases ht : tgt F S with
  | none =>
    rw [ht] at h; dsimp only at h
    split at h
    · cases h
    · exact hnear _ h
  | some x =>
    obtain ⟨t, gt, w, b⟩ := x
    rw [ht] at h; dsimp only at h
    split at h
    · exact hfst _ h
    · exact hnear _ h
theorem ok_act (hF : fOK F) (h : sOK F S) : sOK F (act F S).2 := by
  unfold act
  split
  · exact ok_ch h (Nat.min_le_right _ _)
  · split
    · exact h
    · cases hx : nxt F S with
      | none => exact h
      | some hd => exact ok_step hF h (nxt_lt hx)
theorem lost_lrn (o : Option Nat) (out : Nat) : sLost (lrn S o out) = sLost S := by
  cases o with
  | none => rfl
  | some c =>
    simp only [lrn]
    split
    · rfl
    · split <;> rfl
theorem lost_step (hl : sLost S = false) (hand : Nat) : sLost (stepS F S hand) = false := by
  unfold stepS
  dsimp only
  have e : (if sLost S = true then sortP F (setCh (setHd S hand) (sCh S - 1)) (outc F S (nb F (sAt S) hand)) else lrn (setCh (setHd S hand) (sCh S - 1)) (nb F (sAt S) hand) (outc F S (nb F (sAt S) hand))) = lrn (setCh (setHd S hand) (sCh S - 1)) (nb F (sAt S) hand) (outc F S (nb F (sAt S) hand)) := if_neg (by rw [hl]; decide)
  rw [e]
  have e2 : sLost (lrn (setCh (setHd S hand) (sCh S - 1)) (nb F (sAt S) hand) (outc F S (nb F (sAt S) hand))) = false := by rw [lost_lrn]; exact hl
  split
  · exact e2
  · exact e2
theorem lost_act (hl : sLost S = false) : sLost (act F S).2 = false := by
  unfold act
  split
  · exact hl
  · split
    · exact hl
    · cases hx : nxt F S with
      | none => exact hl
      | some hd => exact lost_step hl hd
theorem act_0 (h : (act F S).1 = 0) : act F S = (0, S) := by
  unfold act at h ⊢
  split at h
  · cases h
  case isFalse h1 =>
    rw [if_neg h1]
    split at h
    case isTrue h2 => rw [if_pos h2]
    case isFalse h2 =>
      rw [if_neg h2]
      cases hx : nxt F S with
      | none => rfl
      | some hd => rw [hx] at h; cases h
theorem act_le : (act F S).1 ≤ 2 := by
  unfold act
  split
  · exact (by decide : 1 ≤ 2)
  · split
    · exact Nat.zero_le _
    · cases nxt F S with
      | none => exact Nat.zero_le _
      | some hd => exact Nat.le_refl _
end INV
/-- n actions: how many were steps -/
def goesN (F : Fl) : Nat → Sit → Nat × Sit
  | 0, S => (0, S)
  | n + 1, S => ((if (act F S).1 = 2 then 1 else 0) + (goesN F n (act F S).2).1, (goesN F n (act F S).2).2)
theorem goes_0 {F : Fl} {S : Sit} (h : (act F S).1 = 0) : ∀ n, goesN F n S = (0, S) := by
  intro n
  induction n with
  | zero => rfl
  | succ n ih =>
    have e := act_0 h
    simp only [goesN]
    rw [e, ih]
    rfl
theorem goes_le {F : Fl} : ∀ (n : Nat) (S : Sit), (goesN F n S).1 ≤ n := by
  intro n
  induction n with
  | zero => intro S; exact Nat.le_refl _
  | succ n ih =>
    intro S
    simp only [goesN]
    have := ih (act F S).2
    split <;> omega
theorem goes_ok {F : Fl} (hF : fOK F) : ∀ (n : Nat) {S : Sit}, sOK F S → sOK F (goesN F n S).2 := by
  intro n
  induction n with
  | zero => intro S h; exact h
  | succ n ih => intro S h; simp only [goesN]; exact ih (ok_act hF h)
def whenN (F : Fl) : Nat → Nat → Sit → Option Nat
  | 0, _, _ => none
  | m + 1, n, S => if thr F S = true then some n else if (act F S).1 = 0 then none else whenN F m (n + 1) (act F S).2
