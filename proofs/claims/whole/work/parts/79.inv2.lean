/-! ===== what each call leaves is in order ===== -/
theorem ok_len {O : Om} (ok : oOK' O) {T : Nat → Int32} {n : Nat} (hn : n ≤ 60) : oOK' (nLen O T n) := ⟨ok.1, ok.2.1, ok.2.2.1, ok.2.2.2.1, ok.2.2.2.2.1, hn⟩
theorem ok_type {O : Om} (ok : oOK' O) (x : Int32) : oOK' (nType O x) := by
  have hl := ok.2.2.2.2.2
  unfold nType
  cases btw x 0 255 with
  | none => exact ok
  | some v =>
    show oOK' (if oLen O = 60 then O else nLen O (upd (oT O) (oLen O) x) (oLen O + 1))
    by_cases e : oLen O = 60
    · rw [if_pos e]; exact ok
    · rw [if_neg e]; exact ok_len ok (by omega)
theorem ok_bg {F : Fl} (hF : fOK F) (S : Sit) : sOK F (bgS F S) := by
  refine ⟨fun i h => absurd h Bool.false_ne_true, ⟨(by decide : 1 ≤ 40), (by decide : 40 ≤ 99)⟩, ⟨(by decide : 1 ≤ 5), (by decide : 5 ≤ 20)⟩, hF.2.2.1, (by decide : 0 < 4), (by decide : 40 ≤ 40), fun i => ?_, fun i h => ?_, fun h => absurd h Bool.false_ne_true⟩
  · show (if i = fD F then 1 else 0) ≤ 2
    split <;> decide
  · have h' : (if i = fD F then 1 else 0) ≠ 0 := h
    by_cases e : i = fD F
    · rw [e]; exact hF.2.2.1
    · rw [if_neg e] at h'; exact absurd rfl h'
theorem ok_floor {O : Om} (ok : oOK' O) : oOK' (nFloor O) := by
  unfold nFloor
  cases hq : prs (oT O) (oLen O) 0 pIni with
  | inl f => exact ok
  | inr P =>
    obtain ⟨hP, hs0, hr0, hd0⟩ := prs_ok pIni_ok hq
    have hF := pFl_ok hP hs0 hr0 hd0
    exact ⟨hF, ok_bg hF _, fun j hj => absurd hj (Nat.not_lt_zero _), fun i _ q => absurd q Bool.false_ne_true, Nat.zero_le _, Nat.zero_le _⟩
theorem ok_pow {O : Om} (ok : oOK' O) (x y : Int32) : oOK' (nPowX O x y) := by
  have sk := ok.2.1
  unfold nPowX
  cases hb : btw x 1 99 with
  | none => exact ok
  | some b =>
    cases hr : btw y 1 20 with
    | none => exact ok
    | some r =>
      obtain ⟨b1, b2, -⟩ := (btw_some (by decide)).mp hb
      obtain ⟨r1, r2, -⟩ := (btw_some (by decide)).mp hr
      show oOK' (if b = sBrim (oS O) ∧ r = sRate (oS O) then O else nPow O b r)
      by_cases e : b = sBrim (oS O) ∧ r = sRate (oS O)
      · rw [if_pos e]; exact ok
      · rw [if_neg e]
        refine ok_nSt ok ?_
        exact ⟨sk.shut, ⟨b1, b2⟩, ⟨r1, r2⟩, sk.at, sk.hd, Nat.min_le_right _ _, sk.kn, sk.knn, sk.pl⟩
theorem ok_mov {O : Om} (ok : oOK' O) (x : Int32) : oOK' (nMovX O x) := by
  have sk := ok.2.1
  have hF := ok.1
  unfold nMovX
  cases hc : cel (oF O) x with
  | none => exact ok
  | some c =>
    obtain ⟨hcn, -⟩ := (cel_some hF).mp hc
    show oOK' (if fK (oF O) c = 4 then (if c = sAt (oS O) then O else nMov O c) else O)
    by_cases e : fK (oF O) c = 4
    · rw [if_pos e]
      by_cases e2 : c = sAt (oS O)
      · rw [if_pos e2]; exact ok
      · rw [if_neg e2]
        refine ok_nSt ok ?_
        refine ⟨fun i hi => ?_, sk.brim, sk.rate, sk.at, sk.hd, sk.ch, sk.kn, sk.knn, sk.pl⟩
        by_cases ei : i = c
        · rw [ei]; exact ⟨hcn, e⟩
        · have hi' : (sShut (oS O) i ^^ oneO (some c) i) = true := hi
          rw [oneO_some] at hi'
          have h0 : (i == c) = false := by simpa using ei
          have h1 : (sShut (oS O) i ^^ (i == c)) = true := hi'
          rw [h0, Bool.xor_false] at h1
          exact sk.shut i h1
    · rw [if_neg e]; exact ok
theorem ok_steps {O : Om} (ok : oOK' O) : oOK' (nSteps O) := by
  unfold nSteps
  by_cases e : sCh (oS O) = 0
  · rw [if_pos e]; exact ok
  · rw [if_neg e]; exact ok_nSt ok (ok_step ok.1 ok.2.1 ok.2.1.hd)
theorem ok_rot {O : Om} (ok : oOK' O) (x : Int32) : oOK' (nRot O x) := by
  unfold nRot
  cases btw x 1 3 with
  | none => exact ok
  | some q => exact ok_nSt ok (ok_turn ok.2.1 q)
theorem ok_scans {O : Om} (ok : oOK' O) : oOK' (nScans O) := ok_nSt ok (ok_scan ok.2.1)
theorem ok_carX {O : Om} (ok : oOK' O) (x y : Int32) : oOK' (nCar O x y) := by
  unfold nCar
  cases hc : cel (oF O) x with
  | none => exact ok
  | some c =>
    obtain ⟨hcn, -⟩ := (cel_some ok.1).mp hc
    show oOK' (if fre (oF O) (oS O) c = true then (match btw y 0 3 with | none => O | some hd => nSt O (carS (oF O) (oS O) c hd)) else O)
    by_cases e : fre (oF O) (oS O) c = true
    · rw [if_pos e]
      cases hy : btw y 0 3 with
      | none => exact ok
      | some hd =>
        obtain ⟨-, y2, -⟩ := (btw_some (by decide)).mp hy
        exact ok_nSt ok (ok_car ok.2.1 hcn (by omega))
    · rw [if_neg e]; exact ok
theorem ok_goes {O : Om} (ok : oOK' O) (x : Int32) : oOK' (nGoes O x) := by
  unfold nGoes
  cases btw x 1 60 with
  | none => exact ok
  | some n =>
    show oOK' (if sLost (oS O) = true then O else nSt O (goesN (oF O) n (oS O)).2)
    by_cases e : sLost (oS O) = true
    · rw [if_pos e]; exact ok
    · rw [if_neg e]; exact ok_nSt ok (goes_ok ok.1 n ok.2.1)
theorem ok_undo {O : Om} (ok : oOK' O) : oOK' (nUndo O) := by
  have h6 := ok.2.2.2.2.1
  unfold nUndo
  by_cases e : oSz O = 0
  · rw [if_pos e]; exact ok
  · rw [if_neg e]
    refine ⟨ok.1, ok.2.2.1 0 (by omega), fun j hj => ?_, ok.2.2.2.1, ?_, ok.2.2.2.2.2⟩
    · have hj' : j < oSz O - 1 := hj
      exact ok.2.2.1 (j + 1) (by omega)
    · show oSz O - 1 ≤ 6
      omega
theorem ok_keep {O : Om} (ok : oOK' O) (x : Int32) : oOK' (nKeepX O x) := by
  unfold nKeepX
  cases btw x 0 1 with
  | none => exact ok
  | some k =>
    refine ⟨ok.1, ok.2.1, ok.2.2.1, fun i hi hk => ?_, ok.2.2.2.2.1, ok.2.2.2.2.2⟩
    have hk' : (if i = k then true else oKp O i) = true := hk
    show sOK (oF O) (if i = k then oS O else oI' O i)
    by_cases e : i = k
    · rw [if_pos e]; exact ok.2.1
    · rw [if_neg e] at hk' ⊢
      exact ok.2.2.2.1 i hi hk'
theorem ok_back {O : Om} (ok : oOK' O) (x : Int32) : oOK' (nBackX O x) := by
  unfold nBackX
  cases hx : btw x 0 1 with
  | none => exact ok
  | some k =>
    obtain ⟨-, k2, -⟩ := (btw_some (by decide)).mp hx
    show oOK' (if oKp O k = true then nBack O k else O)
    by_cases e : oKp O k = true
    · rw [if_pos e]
      exact ⟨ok.1, ok.2.2.2.1 k (by omega) e, fun j hj => absurd hj (Nat.not_lt_zero _), ok.2.2.2.1, Nat.zero_le _, ok.2.2.2.2.2⟩
    · rw [if_neg e]; exact ok
theorem O01_ok : oOK' O01 := ⟨F00_ok, ok_bg F00_ok _, fun j hj => absurd hj (Nat.not_lt_zero _), fun i _ q => absurd q Bool.false_ne_true, Nat.zero_le _, Nat.zero_le _⟩
