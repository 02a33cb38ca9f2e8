/-! ===== what each call answers and does, as mathematics; the class's calls ===== -/
def sOK (F : Fl) (S : Sit) : Prop := (∀ i, sShut S i = true → i < fN F ∧ fK F i = 4) ∧ (1 ≤ sBrim S ∧ sBrim S ≤ 99) ∧ (1 ≤ sRate S ∧ sRate S ≤ 20) ∧ sAt S < fN F ∧ sHd S < 4 ∧ sCh S ≤ sBrim S ∧ (∀ i, sKn S i ≤ 2) ∧ (∀ i, sKn S i ≠ 0 → i < fN F) ∧ (sLost S = true → ∀ c j, j < 4 → sPl S c j = true → c < fN F)
theorem sOK.shut {F : Fl} {S : Sit} (h : sOK F S) : ∀ i, sShut S i = true → i < fN F ∧ fK F i = 4 := h.1
theorem sOK.brim {F : Fl} {S : Sit} (h : sOK F S) : 1 ≤ sBrim S ∧ sBrim S ≤ 99 := h.2.1
theorem sOK.rate {F : Fl} {S : Sit} (h : sOK F S) : 1 ≤ sRate S ∧ sRate S ≤ 20 := h.2.2.1
theorem sOK.at {F : Fl} {S : Sit} (h : sOK F S) : sAt S < fN F := h.2.2.2.1
theorem sOK.hd {F : Fl} {S : Sit} (h : sOK F S) : sHd S < 4 := h.2.2.2.2.1
theorem sOK.ch {F : Fl} {S : Sit} (h : sOK F S) : sCh S ≤ sBrim S := h.2.2.2.2.2.1
theorem sOK.kn {F : Fl} {S : Sit} (h : sOK F S) : ∀ i, sKn S i ≤ 2 := h.2.2.2.2.2.2.1
theorem sOK.knn {F : Fl} {S : Sit} (h : sOK F S) : ∀ i, sKn S i ≠ 0 → i < fN F := h.2.2.2.2.2.2.2.1
theorem sOK.pl {F : Fl} {S : Sit} (h : sOK F S) : sLost S = true → ∀ c j, j < 4 → sPl S c j = true → c < fN F := h.2.2.2.2.2.2.2.2
theorem sOK.k1 {F : Fl} {S : Sit} (h : sOK F S) : sub F (kn1 S) := fun i hi => h.knn i (fun q => by rw [show kn1 S i = (sKn S i == 1) from rfl, q] at hi; cases hi)
theorem sOK.k2 {F : Fl} {S : Sit} (h : sOK F S) : sub F (kn2 S) := fun i hi => h.knn i (fun q => by rw [show kn2 S i = (sKn S i == 2) from rfl, q] at hi; cases hi)
def oOK' (O : Om) : Prop := fOK (oF O) ∧ sOK (oF O) (oS O) ∧ (∀ j, j < oSz O → sOK (oF O) (oU O j)) ∧ (∀ i, i < 2 → oKp O i = true → sOK (oF O) (oI' O i)) ∧ oSz O ≤ 6 ∧ oLen O ≤ 60
/-- an int between two bounds, as a number -/
def btw (x : Int32) (a b : Nat) : Option Nat := if (a : Int) ≤ x.toInt ∧ x.toInt ≤ b then some x.toInt.toNat else none
theorem btw_some {x : Int32} {a b c : Nat} (hb : b < 2 ^ 31) : btw x a b = some c ↔ a ≤ c ∧ c ≤ b ∧ x = nI c := by
  unfold btw
  constructor
  · intro h
    split at h
    case isTrue hx =>
      cases h
      refine ⟨by omega, by omega, ?_⟩
      apply Int32.toInt_inj.mp
      rw [nI_toInt (by omega)]
      omega
    case isFalse => cases h
  · rintro ⟨h1, h2, rfl⟩
    rw [nI_toInt (by omega), if_pos ⟨by omega, by omega⟩]
    simp
theorem btw_none {x : Int32} {a b : Nat} : btw x a b = none ↔ (x.toInt < a ∨ (b : Int) < x.toInt) := by
  unfold btw
  constructor
  · intro h
    split at h
    case isTrue => cases h
    case isFalse hx => omega
  · intro h
    rw [if_neg (by omega)]
theorem i_ltn {c : Nat} (h : c < 2 ^ 31) (x : Int32) : x < nI c ↔ x.toInt < (c : Int) := by rw [Int32.lt_iff_toInt_lt, nI_toInt h]
theorem i_nlt {c : Nat} (h : c < 2 ^ 31) (x : Int32) : nI c < x ↔ (c : Int) < x.toInt := by rw [Int32.lt_iff_toInt_lt, nI_toInt h]
theorem i_len {c : Nat} (h : c < 2 ^ 31) (x : Int32) : x ≤ nI c ↔ x.toInt ≤ (c : Int) := by rw [Int32.le_iff_toInt_le, nI_toInt h]
/-- behind a call -/
def CQ (h : zH) (O : Om) : zH → Prop := fun h' => CX h' O ∧ frC h h' ∧ h'.length = h.length
theorem CQ.rf {h : zH} {O : Om} (a : CX h O) : CQ h O h := ⟨a, frC.rf h, rfl⟩
theorem run_ro {l : Launch} {g : zG} {M : zM} {d : Nat} {args : List Value} {h : zH} {r : Int32} {O : Om} (a : CX h O) (hr : Run l g M d 0 0 args h (PI r h)) : Run l g M d 0 0 args h (PIh r (CQ h O)) := hr.mono (fun v h' ⟨e1, e2⟩ => ⟨e1, by rw [e2]; exact CQ.rf a⟩)
-- answers
def rCell (O : Om) (x : Int32) : Int32 := match cel (oF O) x with | none => -1 | some c => nI (kdn (oF O) (oS O) c)
def rKnows (O : Om) (x : Int32) : Int32 := match cel (oF O) x with | none => -1 | some c => nI (sKn (oS O) c)
def rHome (O : Om) (x : Int32) : Int32 := match cel (oF O) x with | none => -1 | some c => dI (dst (oF O) (kn1 (oS O)) (some c) (fD (oF O)))
def rRobot (O : Om) (x : Int32) : Int32 := match btw x 0 5 with
  | some 0 => nI (sAt (oS O))
  | some 1 => nI (sHd (oS O))
  | some 2 => nI (sCh (oS O))
  | some 3 => if sLost (oS O) = true then 1 else 0
  | some 4 => nI (cnt (kn1 (oS O)) 36)
  | some 5 => nI (cnt (kn2 (oS O)) 36)
  | _ => -1
def rCount (O : Om) (x : Int32) : Int32 := match btw x 0 6 with
  | some 0 => nI (fW (oF O))
  | some 1 => nI (fH (oF O))
  | some 2 => nI (fD (oF O))
  | some 3 => nI (sBrim (oS O))
  | some 4 => nI (sRate (oS O))
  | some 5 => nI (oLen O)
  | some 6 => nI (oSz O)
  | _ => -1
def rTarget (O : Om) (x : Int32) : Int32 := match btw x 0 3 with
  | none => -1
  | some w => if sLost (oS O) = true then -9 else match tgt (oF O) (oS O) with
    | none => -9
    | some (t, gt, wa, b) => if w = 0 then nI t else if w = 1 then nI wa else if w = 2 then nI b else nI gt
def rPlace (O : Om) (x : Int32) : Int32 := if x < -1 then -1 else if x = -1 then (if sLost (oS O) = true then nI (many (sPl (oS O))) else 1) else dI (plK (oS O) x.toNatClampNeg)
def nPow (O : Om) (b r : Nat) : Om := oSetS (oRem O) (setCh (setPow (oS O) b r) (min (sCh (oS O)) b))
def nMov (O : Om) (c : Nat) : Om := oSetS (oRem O) (setShut (oS O) (fun i => sShut (oS O) i ^^ oneO (some c) i))
def nKeep (O : Om) (i : Nat) : Om := oMk (oF O) (oS O) (oT O) (oLen O) (oU O) (oSz O) (fun j => if j = i then oS O else oI' O j) (fun j => if j = i then true else oKp O j)
def nBack (O : Om) (i : Nat) : Om := oMk (oF O) (oI' O i) (oT O) (oLen O) (oU O) 0 (oI' O) (oKp O)
section C34
variable {l : Launch} {g : zG} {d : Nat} {h : zH} {O : Om}
theorem cel_cases (x : Int32) : (cel (oF O) x = none) ∨ ∃ c, cel (oF O) x = some c := by cases cel (oF O) x with | none => exact Or.inl rfl | some c => exact Or.inr ⟨c, rfl⟩
theorem c_F_cell (a : CX h O) (ok : oOK' O) {x : Int32} : Run l g mF_cell (d + 3) 0 0 [.ref 0, .int x] h (PIh (rCell O x) (CQ h O)) := by
  refine run_ro a ?_
  obtain ⟨h1, h2, h3, h4, h5, h6, h7, h8, h9⟩ := id a
  refine run_of (by decide) (Nat.le_of_ble_eq_true rfl) ?_
  have hF := ok.1
  have ch := c_G_has (l := l) (g := g) (d := d + 1) hF h3 (x := x)
  unfold rCell
  cases hc : cel (oF O) x with
  | none =>
    rw [hc] at ch
    refine zw_aload_n dF_cell_0 rfl ?_
    refine zw_get dF_cell_1 zf_F_19 (by first | exact h1 | exact h3 | exact h4) rfl ?_
    refine zw_iload_n dF_cell_4 rfl ?_
    refine zc_V1I dF_cell_5 zm_G_has zk_F_71 (by first | exact h1 | exact h3 | exact h4) rfl ch ?_ zRR (Nat.le_of_ble_eq_true rfl) ⟨Nat.le_of_ble_eq_true rfl, Nat.le_of_ble_eq_true rfl⟩
    refine zw_if_eq 22 dF_cell_8 (by decide) (fun c_8 => ?_) (fun c_8 => ?_)
    · refine zw_iconst (v := (-1)) dF_cell_22 (by decide) ?_
      exact zw_iret dF_cell_23 rfl rfl rfl ⟨rfl, rfl⟩
    · exact absurd rfl c_8
  | some c =>
    obtain ⟨hcn, rfl⟩ := (cel_some hF).mp hc
    rw [hc] at ch
    refine zw_aload_n dF_cell_0 rfl ?_
    refine zw_get dF_cell_1 zf_F_19 (by first | exact h1 | exact h3 | exact h4) rfl ?_
    refine zw_iload_n dF_cell_4 rfl ?_
    refine zc_V1I dF_cell_5 zm_G_has zk_F_71 (by first | exact h1 | exact h3 | exact h4) rfl ch ?_ zRR (Nat.le_of_ble_eq_true rfl) ⟨Nat.le_of_ble_eq_true rfl, Nat.le_of_ble_eq_true rfl⟩
    refine zw_if_eq 22 dF_cell_8 (by decide) (fun c_8 => ?_) (fun c_8 => ?_)
    · exact absurd c_8 (show ¬ (1 : Int32) = 0 by decide)
    · refine zw_aload_n dF_cell_11 rfl ?_
      refine zw_get dF_cell_12 zf_F_28 (by first | exact h1 | exact h3 | exact h4) rfl ?_
      refine zw_iload_n dF_cell_15 rfl ?_
      refine zc_V1I dF_cell_16 zm_S_kindOf zk_F_74 (by first | exact h1 | exact h3 | exact h4) rfl (c_S_kindOf hF h3 h4 hcn ok.2.1.shut) ?_ zRR (Nat.le_of_ble_eq_true rfl) ⟨Nat.le_of_ble_eq_true rfl, Nat.le_of_ble_eq_true rfl⟩
      refine zw_goto 23 dF_cell_19 (by decide) ?_
      exact zw_iret dF_cell_23 rfl rfl rfl ⟨rfl, rfl⟩
theorem c_F_knows (a : CX h O) (ok : oOK' O) {x : Int32} : Run l g mF_knows (d + 3) 0 0 [.ref 0, .int x] h (PIh (rKnows O x) (CQ h O)) := by
  refine run_ro a ?_
  obtain ⟨h1, h2, h3, h4, h5, h6, h7, h8, h9⟩ := id a
  refine run_of (by decide) (Nat.le_of_ble_eq_true rfl) ?_
  have hF := ok.1
  have hn := fN_le hF
  have ch := c_G_has (l := l) (g := g) (d := d + 1) hF h3 (x := x)
  unfold rKnows
  cases hc : cel (oF O) x with
  | none =>
    rw [hc] at ch
    refine zw_aload_n dF_knows_0 rfl ?_
    refine zw_get dF_knows_1 zf_F_19 (by first | exact h1 | exact h3 | exact h4) rfl ?_
    refine zw_iload_n dF_knows_4 rfl ?_
    refine zc_V1I dF_knows_5 zm_G_has zk_F_71 (by first | exact h1 | exact h3 | exact h4) rfl ch ?_ zRR (Nat.le_of_ble_eq_true rfl) ⟨Nat.le_of_ble_eq_true rfl, Nat.le_of_ble_eq_true rfl⟩
    refine zw_if_eq 22 dF_knows_8 (by decide) (fun c_8 => ?_) (fun c_8 => ?_)
    · refine zw_iconst (v := (-1)) dF_knows_22 (by decide) ?_
      exact zw_iret dF_knows_23 rfl rfl rfl ⟨rfl, rfl⟩
    · exact absurd rfl c_8
  | some c =>
    obtain ⟨hcn, rfl⟩ := (cel_some hF).mp hc
    rw [hc] at ch
    refine zw_aload_n dF_knows_0 rfl ?_
    refine zw_get dF_knows_1 zf_F_19 (by first | exact h1 | exact h3 | exact h4) rfl ?_
    refine zw_iload_n dF_knows_4 rfl ?_
    refine zc_V1I dF_knows_5 zm_G_has zk_F_71 (by first | exact h1 | exact h3 | exact h4) rfl ch ?_ zRR (Nat.le_of_ble_eq_true rfl) ⟨Nat.le_of_ble_eq_true rfl, Nat.le_of_ble_eq_true rfl⟩
    refine zw_if_eq 22 dF_knows_8 (by decide) (fun c_8 => ?_) (fun c_8 => ?_)
    · exact absurd c_8 (show ¬ (1 : Int32) = 0 by decide)
    · refine zw_aload_n dF_knows_11 rfl ?_
      refine zw_get dF_knows_12 zf_F_28 (by first | exact h1 | exact h3 | exact h4) rfl ?_
      refine zw_iload_n dF_knows_15 rfl ?_
      refine zc_V1I dF_knows_16 zm_S_knowledgeOf zk_F_161 (by first | exact h1 | exact h3 | exact h4) rfl (c_S_knowledgeOf h4 (by omega) (ok.2.1.kn c)) ?_ zRR (Nat.le_of_ble_eq_true rfl) ⟨Nat.le_of_ble_eq_true rfl, Nat.le_of_ble_eq_true rfl⟩
      refine zw_goto 23 dF_knows_19 (by decide) ?_
      exact zw_iret dF_knows_23 rfl rfl rfl ⟨rfl, rfl⟩
theorem c_F_home (a : CX h O) (ok : oOK' O) {x : Int32} : Run l g mF_home (d + 3) 0 0 [.ref 0, .int x] h (PIh (rHome O x) (CQ h O)) := by
  refine run_ro a ?_
  obtain ⟨h1, h2, h3, h4, h5, h6, h7, h8, h9⟩ := id a
  refine run_of (by decide) (Nat.le_of_ble_eq_true rfl) ?_
  have hF := ok.1
  have hn := fN_le hF
  have ch := c_G_has (l := l) (g := g) (d := d + 1) hF h3 (x := x)
  unfold rHome
  cases hc : cel (oF O) x with
  | none =>
    rw [hc] at ch
    refine zw_aload_n dF_home_0 rfl ?_
    refine zw_get dF_home_1 zf_F_19 (by first | exact h1 | exact h3 | exact h4) rfl ?_
    refine zw_iload_n dF_home_4 rfl ?_
    refine zc_V1I dF_home_5 zm_G_has zk_F_71 (by first | exact h1 | exact h3 | exact h4) rfl ch ?_ zRR (Nat.le_of_ble_eq_true rfl) ⟨Nat.le_of_ble_eq_true rfl, Nat.le_of_ble_eq_true rfl⟩
    refine zw_if_eq 22 dF_home_8 (by decide) (fun c_8 => ?_) (fun c_8 => ?_)
    · refine zw_iconst (v := (-1)) dF_home_22 (by decide) ?_
      exact zw_iret dF_home_23 rfl rfl rfl ⟨rfl, rfl⟩
    · exact absurd rfl c_8
  | some c =>
    obtain ⟨hcn, rfl⟩ := (cel_some hF).mp hc
    rw [hc] at ch
    refine zw_aload_n dF_home_0 rfl ?_
    refine zw_get dF_home_1 zf_F_19 (by first | exact h1 | exact h3 | exact h4) rfl ?_
    refine zw_iload_n dF_home_4 rfl ?_
    refine zc_V1I dF_home_5 zm_G_has zk_F_71 (by first | exact h1 | exact h3 | exact h4) rfl ch ?_ zRR (Nat.le_of_ble_eq_true rfl) ⟨Nat.le_of_ble_eq_true rfl, Nat.le_of_ble_eq_true rfl⟩
    refine zw_if_eq 22 dF_home_8 (by decide) (fun c_8 => ?_) (fun c_8 => ?_)
    · exact absurd c_8 (show ¬ (1 : Int32) = 0 by decide)
    · refine zw_aload_n dF_home_11 rfl ?_
      refine zw_get dF_home_12 zf_F_28 (by first | exact h1 | exact h3 | exact h4) rfl ?_
      refine zw_iload_n dF_home_15 rfl ?_
      refine zc_V1I dF_home_16 zm_S_homeOf zk_F_164 (by first | exact h1 | exact h3 | exact h4) rfl (c_S_homeOf hF h3 h4 ok.2.1.k1 (by omega)) ?_ zRR (Nat.le_of_ble_eq_true rfl) ⟨Nat.le_of_ble_eq_true rfl, Nat.le_of_ble_eq_true rfl⟩
      refine zw_goto 23 dF_home_19 (by decide) ?_
      exact zw_iret dF_home_23 rfl rfl rfl ⟨rfl, rfl⟩
theorem sw_out {x : Int32} {b : Nat} (hb : b < 2 ^ 31) (h : btw x 0 b = none) : x.toInt < 0 ∨ (b : Int) < x.toInt := btw_none.mp h
theorem c_F_robot (a : CX h O) (ok : oOK' O) {x : Int32} : Run l g mF_robot (d + 3) 0 0 [.ref 0, .int x] h (PIh (rRobot O x) (CQ h O)) := by
  refine run_ro a ?_
  obtain ⟨h1, h2, h3, h4, h5, h6, h7, h8, h9⟩ := id a
  refine run_of (by decide) (Nat.le_of_ble_eq_true rfl) ?_
  unfold rRobot
  cases hw : btw x 0 5 with
  | none =>
    refine zw_iload_n dF_robot_0 rfl ?_
    refine zw_tabOut 102 dF_robot_1 (btw_none.mp hw) (by decide) ?_
    refine zw_iconst (v := (-1)) dF_robot_102 (by decide) ?_
    exact zw_iret dF_robot_103 rfl rfl rfl ⟨rfl, rfl⟩
  | some w =>
    obtain ⟨-, hw5, rfl⟩ := (btw_some (by decide)).mp hw
    rcases (show w = 0 ∨ w = 1 ∨ w = 2 ∨ w = 3 ∨ w = 4 ∨ w = 5 by omega) with rfl | rfl | rfl | rfl | rfl | rfl
    · refine zw_iload_n dF_robot_0 rfl ?_
      refine zw_tabIn 40 dF_robot_1 (by decide) (by decide) rfl (by decide) ?_
      refine zw_aload_n dF_robot_40 rfl ?_
      refine zw_get dF_robot_41 zf_F_28 (by first | exact h1 | exact h3 | exact h4) rfl ?_
      refine zw_get dF_robot_44 zf_F_105 (by first | exact h1 | exact h3 | exact h4) rfl ?_
      exact zw_iret dF_robot_47 rfl rfl rfl ⟨rfl, rfl⟩
    · refine zw_iload_n dF_robot_0 rfl ?_
      refine zw_tabIn 48 dF_robot_1 (by decide) (by decide) rfl (by decide) ?_
      refine zw_aload_n dF_robot_48 rfl ?_
      refine zw_get dF_robot_49 zf_F_28 (by first | exact h1 | exact h3 | exact h4) rfl ?_
      refine zw_get dF_robot_52 zf_F_115 (by first | exact h1 | exact h3 | exact h4) rfl ?_
      exact zw_iret dF_robot_55 rfl rfl rfl ⟨rfl, rfl⟩
    · refine zw_iload_n dF_robot_0 rfl ?_
      refine zw_tabIn 56 dF_robot_1 (by decide) (by decide) rfl (by decide) ?_
      refine zw_aload_n dF_robot_56 rfl ?_
      refine zw_get dF_robot_57 zf_F_28 (by first | exact h1 | exact h3 | exact h4) rfl ?_
      refine zw_get dF_robot_60 zf_F_88 (by first | exact h1 | exact h3 | exact h4) rfl ?_
      exact zw_iret dF_robot_63 rfl rfl rfl ⟨rfl, rfl⟩
    · refine zw_iload_n dF_robot_0 rfl ?_
      refine zw_tabIn 64 dF_robot_1 (by decide) (by decide) rfl (by decide) ?_
      refine zw_aload_n dF_robot_64 rfl ?_
      refine zw_get dF_robot_65 zf_F_28 (by first | exact h1 | exact h3 | exact h4) rfl ?_
      refine zw_get dF_robot_68 zf_F_135 (by first | exact h1 | exact h3 | exact h4) rfl ?_
      refine zw_if_eq 78 dF_robot_71 (by decide) (fun c_71 => ?_) (fun c_71 => ?_)
      · refine zw_iconst (v := 0) dF_robot_78 (by decide) ?_
        exact zw_iret dF_robot_79 rfl rfl rfl ⟨by first | (rw [show sLost (oS O) = true from lost1 c_71]; rfl) | (rw [show sLost (oS O) = false from lost0 c_71]; rfl), rfl⟩
      · refine zw_iconst (v := 1) dF_robot_74 (by decide) ?_
        refine zw_goto 79 dF_robot_75 (by decide) ?_
        exact zw_iret dF_robot_79 rfl rfl rfl ⟨by first | (rw [show sLost (oS O) = true from lost1 c_71]; rfl) | (rw [show sLost (oS O) = false from lost0 c_71]; rfl), rfl⟩
    · refine zw_iload_n dF_robot_0 rfl ?_
      refine zw_tabIn 80 dF_robot_1 (by decide) (by decide) rfl (by decide) ?_
      refine zw_aload_n dF_robot_80 rfl ?_
      refine zw_get dF_robot_81 zf_F_28 (by first | exact h1 | exact h3 | exact h4) rfl ?_
      refine zw_get dF_robot_84 zf_F_149 (by first | exact h1 | exact h3 | exact h4) rfl ?_
      refine zc_S1I dF_robot_87 zm_J_bitCount zk_F_152 c_J_bitCount ?_ zRR (Nat.le_of_ble_eq_true rfl) ⟨Nat.le_of_ble_eq_true rfl, Nat.le_of_ble_eq_true rfl⟩
      exact zw_iret dF_robot_90 rfl rfl rfl ⟨rfl, rfl⟩
    · refine zw_iload_n dF_robot_0 rfl ?_
      refine zw_tabIn 91 dF_robot_1 (by decide) (by decide) rfl (by decide) ?_
      refine zw_aload_n dF_robot_91 rfl ?_
      refine zw_get dF_robot_92 zf_F_28 (by first | exact h1 | exact h3 | exact h4) rfl ?_
      refine zw_get dF_robot_95 zf_F_158 (by first | exact h1 | exact h3 | exact h4) rfl ?_
      refine zc_S1I dF_robot_98 zm_J_bitCount zk_F_152 c_J_bitCount ?_ zRR (Nat.le_of_ble_eq_true rfl) ⟨Nat.le_of_ble_eq_true rfl, Nat.le_of_ble_eq_true rfl⟩
      exact zw_iret dF_robot_101 rfl rfl rfl ⟨rfl, rfl⟩
theorem c_F_count (a : CX h O) (ok : oOK' O) {x : Int32} : Run l g mF_count (d + 3) 0 0 [.ref 0, .int x] h (PIh (rCount O x) (CQ h O)) := by
  refine run_ro a ?_
  obtain ⟨h1, h2, h3, h4, h5, h6, h7, h8, h9⟩ := id a
  obtain ⟨c, w, ht, sg, dk, lf, kf, t1, t2, t3, t4⟩ := h2
  obtain ⟨lt, P, hlt, u2, u3, u4, u5⟩ := h8
  refine run_of (by decide) (Nat.le_of_ble_eq_true rfl) ?_
  unfold rCount
  cases hw : btw x 0 6 with
  | none =>
    refine zw_iload_n dF_count_0 rfl ?_
    refine zw_tabOut 100 dF_count_1 (btw_none.mp hw) (by decide) ?_
    refine zw_iconst (v := (-1)) dF_count_100 (by decide) ?_
    exact zw_iret dF_count_101 rfl rfl rfl ⟨rfl, rfl⟩
  | some w =>
    obtain ⟨-, hw5, rfl⟩ := (btw_some (by decide)).mp hw
    rcases (show w = 0 ∨ w = 1 ∨ w = 2 ∨ w = 3 ∨ w = 4 ∨ w = 5 ∨ w = 6 by omega) with rfl | rfl | rfl | rfl | rfl | rfl | rfl
    · refine zw_iload_n dF_count_0 rfl ?_
      refine zw_tabIn 44 dF_count_1 (by decide) (by decide) rfl (by decide) ?_
      refine zw_aload_n dF_count_44 rfl ?_
      refine zw_get dF_count_45 zf_F_19 (by first | exact h1 | exact h3 | exact h4) rfl ?_
      refine zw_get dF_count_48 zf_F_229 (by first | exact h1 | exact h3 | exact h4) rfl ?_
      exact zw_iret dF_count_51 rfl rfl rfl ⟨rfl, rfl⟩
    · refine zw_iload_n dF_count_0 rfl ?_
      refine zw_tabIn 52 dF_count_1 (by decide) (by decide) rfl (by decide) ?_
      refine zw_aload_n dF_count_52 rfl ?_
      refine zw_get dF_count_53 zf_F_19 (by first | exact h1 | exact h3 | exact h4) rfl ?_
      refine zw_get dF_count_56 zf_F_232 (by first | exact h1 | exact h3 | exact h4) rfl ?_
      exact zw_iret dF_count_59 rfl rfl rfl ⟨rfl, rfl⟩
    · refine zw_iload_n dF_count_0 rfl ?_
      refine zw_tabIn 60 dF_count_1 (by decide) (by decide) rfl (by decide) ?_
      refine zw_aload_n dF_count_60 rfl ?_
      refine zw_get dF_count_61 zf_F_19 (by first | exact h1 | exact h3 | exact h4) rfl ?_
      refine zw_get dF_count_64 zf_F_205 (by first | exact h1 | exact h3 | exact h4) rfl ?_
      exact zw_iret dF_count_67 rfl rfl rfl ⟨rfl, rfl⟩
    · refine zw_iload_n dF_count_0 rfl ?_
      refine zw_tabIn 68 dF_count_1 (by decide) (by decide) rfl (by decide) ?_
      refine zw_aload_n dF_count_68 rfl ?_
      refine zw_get dF_count_69 zf_F_28 (by first | exact h1 | exact h3 | exact h4) rfl ?_
      refine zw_get dF_count_72 zf_F_78 (by first | exact h1 | exact h3 | exact h4) rfl ?_
      exact zw_iret dF_count_75 rfl rfl rfl ⟨rfl, rfl⟩
    · refine zw_iload_n dF_count_0 rfl ?_
      refine zw_tabIn 76 dF_count_1 (by decide) (by decide) rfl (by decide) ?_
      refine zw_aload_n dF_count_76 rfl ?_
      refine zw_get dF_count_77 zf_F_28 (by first | exact h1 | exact h3 | exact h4) rfl ?_
      refine zw_get dF_count_80 zf_F_81 (by first | exact h1 | exact h3 | exact h4) rfl ?_
      exact zw_iret dF_count_83 rfl rfl rfl ⟨rfl, rfl⟩
    · refine zw_iload_n dF_count_0 rfl ?_
      refine zw_tabIn 84 dF_count_1 (by decide) (by decide) rfl (by decide) ?_
      refine zw_aload_n dF_count_84 rfl ?_
      refine zw_get dF_count_85 zf_F_12 (by first | exact h1 | exact t1) rfl ?_
      refine zw_get dF_count_88 zf_F_64 (by first | exact h1 | exact t1) rfl ?_
      exact zw_iret dF_count_91 rfl rfl rfl ⟨rfl, rfl⟩
    · refine zw_iload_n dF_count_0 rfl ?_
      refine zw_tabIn 92 dF_count_1 (by decide) (by decide) rfl (by decide) ?_
      refine zw_aload_n dF_count_92 rfl ?_
      refine zw_get dF_count_93 zf_F_45 (by first | exact h1 | exact u2) rfl ?_
      refine zw_get dF_count_96 zf_F_147 (by first | exact h1 | exact u2) rfl ?_
      exact zw_iret dF_count_99 rfl rfl rfl ⟨rfl, rfl⟩
theorem c_F_place (a : CX h O) (ok : oOK' O) {x : Int32} : Run l g mF_place (d + 3) 0 0 [.ref 0, .int x] h (PIh (rPlace O x) (CQ h O)) := by
  refine run_ro a ?_
  obtain ⟨h1, h2, h3, h4, h5, h6, h7, h8, h9⟩ := id a
  refine run_of (by decide) (Nat.le_of_ble_eq_true rfl) ?_
  unfold rPlace
  by_cases hx1 : x < -1
  · rw [if_pos hx1]
    refine zw_iload_n dF_place_0 rfl ?_
    refine zw_iconst (v := (-1)) dF_place_1 (by decide) ?_
    refine zw_icmp_ge 7 dF_place_2 (by decide) (fun c_2 => ?_) (fun c_2 => ?_)
    · exact absurd (Int32.le_iff_toInt_le.mp c_2) (by have := Int32.lt_iff_toInt_lt.mp hx1; omega)
    · refine zw_iconst (v := (-1)) dF_place_5 (by decide) ?_
      exact zw_iret dF_place_6 rfl rfl rfl ⟨rfl, rfl⟩
  · rw [if_neg hx1]
    by_cases hx2 : x = -1
    · rw [if_pos hx2]
      subst hx2
      refine zw_iload_n dF_place_0 rfl ?_
      refine zw_iconst (v := (-1)) dF_place_1 (by decide) ?_
      refine zw_icmp_ge 7 dF_place_2 (by decide) (fun c_2 => ?_) (fun c_2 => ?_)
      · refine zw_iload_n dF_place_7 rfl ?_
        refine zw_iconst (v := (-1)) dF_place_8 (by decide) ?_
        refine zw_icmp_ne 22 dF_place_9 (by decide) (fun c_9 => ?_) (fun c_9 => ?_)
        · exact absurd rfl c_9
        · refine zw_aload_n dF_place_12 rfl ?_
          refine zw_get dF_place_13 zf_F_28 (by first | exact h1 | exact h3 | exact h4) rfl ?_
          refine zc_V0I dF_place_16 zm_S_placeCount zk_F_182 (by first | exact h1 | exact h3 | exact h4) rfl (c_S_placeCount h4 h5) ?_ zRR (Nat.le_of_ble_eq_true rfl) ⟨Nat.le_of_ble_eq_true rfl, Nat.le_of_ble_eq_true rfl⟩
          refine zw_goto 30 dF_place_19 (by decide) ?_
          exact zw_iret dF_place_30 rfl rfl rfl ⟨rfl, rfl⟩
      · exact absurd (by decide) c_2
    · rw [if_neg hx2]
      obtain ⟨j, hj, rfl⟩ : ∃ j : Nat, j < 2 ^ 31 ∧ x = nI j := by
        apply nI_of
        intro q
        have h1' := Int32.lt_iff_toInt_lt.mp q
        have h2' : ¬ x.toInt < (-1 : Int32).toInt := fun r => hx1 (Int32.lt_iff_toInt_lt.mpr r)
        have h3' : x.toInt ≠ (-1 : Int32).toInt := fun r => hx2 (Int32.toInt_inj.mp r)
        have e0 : (0 : Int32).toInt = 0 := by decide
        have e1 : (-1 : Int32).toInt = -1 := by decide
        omega
      rw [nI_clamp hj]
      refine zw_iload_n dF_place_0 rfl ?_
      refine zw_iconst (v := (-1)) dF_place_1 (by decide) ?_
      refine zw_icmp_ge 7 dF_place_2 (by decide) (fun c_2 => ?_) (fun c_2 => ?_)
      · refine zw_iload_n dF_place_7 rfl ?_
        refine zw_iconst (v := (-1)) dF_place_8 (by decide) ?_
        refine zw_icmp_ne 22 dF_place_9 (by decide) (fun c_9 => ?_) (fun c_9 => ?_)
        · refine zw_aload_n dF_place_22 rfl ?_
          refine zw_get dF_place_23 zf_F_28 (by first | exact h1 | exact h3 | exact h4) rfl ?_
          refine zw_iload_n dF_place_26 rfl ?_
          refine zc_V1I dF_place_27 zm_S_placeAt zk_F_185 (by first | exact h1 | exact h3 | exact h4) rfl (c_S_placeAt h4 h5 hj) ?_ zRR (Nat.le_of_ble_eq_true rfl) ⟨Nat.le_of_ble_eq_true rfl, Nat.le_of_ble_eq_true rfl⟩
          exact zw_iret dF_place_30 rfl rfl rfl ⟨rfl, rfl⟩
        · exact absurd c_9 hx2
      · have e1 : (-1 : Int32).toInt = -1 := by decide
        exact absurd (Int32.le_iff_toInt_le.mpr (by rw [nI_toInt hj]; omega)) c_2
theorem c_F_target (a : CX h O) (ok : oOK' O) {x : Int32} : Run l g mF_target (d + 5) 0 0 [.ref 0, .int x] h (PIh (rTarget O x) (CQ h O)) := by
  obtain ⟨h1, h2, h3, h4, h5, h6, h7, h8, h9⟩ := id a
  obtain ⟨p0, p1, p2, p3, hPi⟩ := h7
  have hF := ok.1
  have sk := ok.2.1
  refine run_of (by decide) (Nat.le_of_ble_eq_true rfl) ?_
  unfold rTarget
  cases hw : btw x 0 3 with
  | none =>
    have hb := btw_none.mp hw
    dsimp only
    refine zw_iload_n dF_target_0 rfl ?_
    refine zw_if_lt 9 dF_target_1 (by decide) (fun c_1 => ?_) (fun c_1 => ?_)
    · refine zw_iconst (v := (-1)) dF_target_9 (by decide) ?_
      exact zw_iret dF_target_10 rfl rfl rfl ⟨rfl, CQ.rf a⟩
    · refine zw_iload_n dF_target_4 rfl ?_
      refine zw_iconst (v := 3) dF_target_5 (by decide) ?_
      refine zw_icmp_le 11 dF_target_6 (by decide) (fun c_6 => ?_) (fun c_6 => ?_)
      · exact absurd ((i_len (c := 3) (by decide) x).mp c_6) (by have : ¬ x.toInt < 0 := fun q => c_1 ((i_lt0 x).mpr q); omega)
      · refine zw_iconst (v := (-1)) dF_target_9 (by decide) ?_
        exact zw_iret dF_target_10 rfl rfl rfl ⟨rfl, CQ.rf a⟩
  | some w =>
    obtain ⟨-, hw3, rfl⟩ := (btw_some (by decide)).mp hw
    dsimp only
    by_cases hl : sLost (oS O) = true
    · rw [if_pos hl]
      refine zw_iload_n dF_target_0 rfl ?_
      refine zw_if_lt 9 dF_target_1 (by decide) (fun c_1 => ?_) (fun c_1 => ?_)
      · exact absurd c_1 (nI_pos (by omega))
      · refine zw_iload_n dF_target_4 rfl ?_
        refine zw_iconst (v := 3) dF_target_5 (by decide) ?_
        refine zw_icmp_le 11 dF_target_6 (by decide) (fun c_6 => ?_) (fun c_6 => ?_)
        · refine zw_aload_n dF_target_11 rfl ?_
          refine zw_get dF_target_12 zf_F_28 (by first | exact h1 | exact h3 | exact h4) rfl ?_
          refine zw_get dF_target_15 zf_F_135 (by first | exact h1 | exact h3 | exact h4) rfl ?_
          refine zw_if_ne 35 dF_target_18 (by decide) (fun c_18 => ?_) (fun c_18 => ?_)
          · refine zw_bipush (v := (-9)) dF_target_35 (by decide) ?_
            exact zw_iret dF_target_37 rfl rfl rfl ⟨rfl, CQ.rf a⟩
          · exact absurd hl (by rw [show sLost (oS O) = false from lost0 c_18]; decide)
        · exact absurd (nI_le (b := 3) hw3 (by decide)) c_6
    · rw [if_neg hl]
      have cf := c_P_findsTarget (l := l) (g := g) (d := d) (k := 5) ⟨by decide, by decide⟩ hF h3 h4 sk.k1 sk.at (by have := sk.ch; have := sk.brim; omega) hPi
      cases ht : tgt (oF O) (oS O) with
      | none =>
        rw [ht] at cf
        dsimp only
        refine zw_iload_n dF_target_0 rfl ?_
        refine zw_if_lt 9 dF_target_1 (by decide) (fun c_1 => ?_) (fun c_1 => ?_)
        · exact absurd c_1 (nI_pos (by omega))
        · refine zw_iload_n dF_target_4 rfl ?_
          refine zw_iconst (v := 3) dF_target_5 (by decide) ?_
          refine zw_icmp_le 11 dF_target_6 (by decide) (fun c_6 => ?_) (fun c_6 => ?_)
          · refine zw_aload_n dF_target_11 rfl ?_
            refine zw_get dF_target_12 zf_F_28 (by first | exact h1 | exact h4 | exact hPi) rfl ?_
            refine zw_get dF_target_15 zf_F_135 (by first | exact h1 | exact h4 | exact hPi) rfl ?_
            refine zw_if_ne 35 dF_target_18 (by decide) (fun c_18 => ?_) (fun c_18 => ?_)
            · exact absurd (lost1 (Classical.byContradiction fun q => q c_18)) hl
            · refine zw_aload_n dF_target_21 rfl ?_
              refine zw_get dF_target_22 zf_F_38 (by first | exact h1 | exact h4 | exact hPi) rfl ?_
              refine zw_aload_n dF_target_25 rfl ?_
              refine zw_get dF_target_26 zf_F_28 (by first | exact h1 | exact h4 | exact hPi) rfl ?_
              refine zc_V1I dF_target_29 zm_P_findsTarget zk_F_167 (by first | exact h1 | exact h4 | exact hPi) rfl cf ?_ zRR (Nat.le_of_ble_eq_true rfl) ⟨Nat.le_of_ble_eq_true rfl, Nat.le_of_ble_eq_true rfl⟩
              refine zw_if_ne 38 dF_target_32 (by decide) (fun c_32 => ?_) (fun c_32 => ?_)
              · exact absurd rfl c_32
              · refine zw_bipush (v := (-9)) dF_target_35 (by decide) ?_
                exact zw_iret dF_target_37 rfl rfl rfl ⟨rfl, CQ.rf a⟩
          · exact absurd (nI_le (b := 3) hw3 (by decide)) c_6
      | some y =>
        obtain ⟨t, gt, wa, b⟩ := y
        rw [ht] at cf
        dsimp only
        have hP1 : (pilH (some (t, gt, wa, b)) h)[9]? = some (pilC (nI t) (nI gt) (nI wa) (nI b)) := zg_eq hPi
        have hX1 : (pilH (some (t, gt, wa, b)) h)[0]? = some xC := zg_ne (by decide) h1
        have hpA : pilA h (pilH (some (t, gt, wa, b)) h) := ⟨_, _, _, _, rfl⟩
        have hQ : CQ h O (pilH (some (t, gt, wa, b)) h) := ⟨a.pil hpA, hpA.fr, hpA.len⟩
        have hE : ∀ (tgt' : Nat), tgt' = tgt' → True := fun _ _ => trivial
        rcases (show w = 0 ∨ w = 1 ∨ w = 2 ∨ w = 3 by omega) with rfl | rfl | rfl | rfl
        · refine zw_iload_n dF_target_0 rfl ?_
          refine zw_if_lt 9 dF_target_1 (by decide) (fun c_1 => ?_) (fun c_1 => ?_)
          · exact absurd c_1 (by decide)
          · refine zw_iload_n dF_target_4 rfl ?_
            refine zw_iconst (v := 3) dF_target_5 (by decide) ?_
            refine zw_icmp_le 11 dF_target_6 (by decide) (fun c_6 => ?_) (fun c_6 => ?_)
            · refine zw_aload_n dF_target_11 rfl ?_
              refine zw_get dF_target_12 zf_F_28 (by first | exact h1 | exact h4 | exact hPi) rfl ?_
              refine zw_get dF_target_15 zf_F_135 (by first | exact h1 | exact h4 | exact hPi) rfl ?_
              refine zw_if_ne 35 dF_target_18 (by decide) (fun c_18 => ?_) (fun c_18 => ?_)
              · exact absurd (lost1 (Classical.byContradiction fun q => q c_18)) hl
              · refine zw_aload_n dF_target_21 rfl ?_
                refine zw_get dF_target_22 zf_F_38 (by first | exact h1 | exact h4 | exact hPi) rfl ?_
                refine zw_aload_n dF_target_25 rfl ?_
                refine zw_get dF_target_26 zf_F_28 (by first | exact h1 | exact h4 | exact hPi) rfl ?_
                refine zc_V1I dF_target_29 zm_P_findsTarget zk_F_167 (by first | exact h1 | exact h4 | exact hPi) rfl cf ?_ zRR (Nat.le_of_ble_eq_true rfl) ⟨Nat.le_of_ble_eq_true rfl, Nat.le_of_ble_eq_true rfl⟩
                refine zw_if_ne 38 dF_target_32 (by decide) (fun c_32 => ?_) (fun c_32 => ?_)
                · refine zw_iload_n dF_target_38 rfl ?_
                  refine zw_tabIn 64 dF_target_39 (by decide) (by decide) rfl (by decide) ?_
                  refine zw_aload_n dF_target_64 rfl ?_
                  refine zw_get dF_target_65 zf_F_38 hX1 rfl ?_
                  refine zw_get dF_target_68 zf_F_170 hP1 rfl ?_
                  exact zw_iret dF_target_71 rfl rfl hpA.len ⟨rfl, hQ⟩
                · exact absurd c_32 (show ¬ (1 : Int32) = 0 by decide)
            · exact absurd (by decide) c_6
        · refine zw_iload_n dF_target_0 rfl ?_
          refine zw_if_lt 9 dF_target_1 (by decide) (fun c_1 => ?_) (fun c_1 => ?_)
          · exact absurd c_1 (by decide)
          · refine zw_iload_n dF_target_4 rfl ?_
            refine zw_iconst (v := 3) dF_target_5 (by decide) ?_
            refine zw_icmp_le 11 dF_target_6 (by decide) (fun c_6 => ?_) (fun c_6 => ?_)
            · refine zw_aload_n dF_target_11 rfl ?_
              refine zw_get dF_target_12 zf_F_28 (by first | exact h1 | exact h4 | exact hPi) rfl ?_
              refine zw_get dF_target_15 zf_F_135 (by first | exact h1 | exact h4 | exact hPi) rfl ?_
              refine zw_if_ne 35 dF_target_18 (by decide) (fun c_18 => ?_) (fun c_18 => ?_)
              · exact absurd (lost1 (Classical.byContradiction fun q => q c_18)) hl
              · refine zw_aload_n dF_target_21 rfl ?_
                refine zw_get dF_target_22 zf_F_38 (by first | exact h1 | exact h4 | exact hPi) rfl ?_
                refine zw_aload_n dF_target_25 rfl ?_
                refine zw_get dF_target_26 zf_F_28 (by first | exact h1 | exact h4 | exact hPi) rfl ?_
                refine zc_V1I dF_target_29 zm_P_findsTarget zk_F_167 (by first | exact h1 | exact h4 | exact hPi) rfl cf ?_ zRR (Nat.le_of_ble_eq_true rfl) ⟨Nat.le_of_ble_eq_true rfl, Nat.le_of_ble_eq_true rfl⟩
                refine zw_if_ne 38 dF_target_32 (by decide) (fun c_32 => ?_) (fun c_32 => ?_)
                · refine zw_iload_n dF_target_38 rfl ?_
                  refine zw_tabIn 72 dF_target_39 (by decide) (by decide) rfl (by decide) ?_
                  refine zw_aload_n dF_target_72 rfl ?_
                  refine zw_get dF_target_73 zf_F_38 hX1 rfl ?_
                  refine zw_get dF_target_76 zf_F_173 hP1 rfl ?_
                  exact zw_iret dF_target_79 rfl rfl hpA.len ⟨rfl, hQ⟩
                · exact absurd c_32 (show ¬ (1 : Int32) = 0 by decide)
            · exact absurd (by decide) c_6
        · refine zw_iload_n dF_target_0 rfl ?_
          refine zw_if_lt 9 dF_target_1 (by decide) (fun c_1 => ?_) (fun c_1 => ?_)
          · exact absurd c_1 (by decide)
          · refine zw_iload_n dF_target_4 rfl ?_
            refine zw_iconst (v := 3) dF_target_5 (by decide) ?_
            refine zw_icmp_le 11 dF_target_6 (by decide) (fun c_6 => ?_) (fun c_6 => ?_)
            · refine zw_aload_n dF_target_11 rfl ?_
              refine zw_get dF_target_12 zf_F_28 (by first | exact h1 | exact h4 | exact hPi) rfl ?_
              refine zw_get dF_target_15 zf_F_135 (by first | exact h1 | exact h4 | exact hPi) rfl ?_
              refine zw_if_ne 35 dF_target_18 (by decide) (fun c_18 => ?_) (fun c_18 => ?_)
              · exact absurd (lost1 (Classical.byContradiction fun q => q c_18)) hl
              · refine zw_aload_n dF_target_21 rfl ?_
                refine zw_get dF_target_22 zf_F_38 (by first | exact h1 | exact h4 | exact hPi) rfl ?_
                refine zw_aload_n dF_target_25 rfl ?_
                refine zw_get dF_target_26 zf_F_28 (by first | exact h1 | exact h4 | exact hPi) rfl ?_
                refine zc_V1I dF_target_29 zm_P_findsTarget zk_F_167 (by first | exact h1 | exact h4 | exact hPi) rfl cf ?_ zRR (Nat.le_of_ble_eq_true rfl) ⟨Nat.le_of_ble_eq_true rfl, Nat.le_of_ble_eq_true rfl⟩
                refine zw_if_ne 38 dF_target_32 (by decide) (fun c_32 => ?_) (fun c_32 => ?_)
                · refine zw_iload_n dF_target_38 rfl ?_
                  refine zw_tabIn 80 dF_target_39 (by decide) (by decide) rfl (by decide) ?_
                  refine zw_aload_n dF_target_80 rfl ?_
                  refine zw_get dF_target_81 zf_F_38 hX1 rfl ?_
                  refine zw_get dF_target_84 zf_F_176 hP1 rfl ?_
                  exact zw_iret dF_target_87 rfl rfl hpA.len ⟨rfl, hQ⟩
                · exact absurd c_32 (show ¬ (1 : Int32) = 0 by decide)
            · exact absurd (by decide) c_6
        · refine zw_iload_n dF_target_0 rfl ?_
          refine zw_if_lt 9 dF_target_1 (by decide) (fun c_1 => ?_) (fun c_1 => ?_)
          · exact absurd c_1 (by decide)
          · refine zw_iload_n dF_target_4 rfl ?_
            refine zw_iconst (v := 3) dF_target_5 (by decide) ?_
            refine zw_icmp_le 11 dF_target_6 (by decide) (fun c_6 => ?_) (fun c_6 => ?_)
            · refine zw_aload_n dF_target_11 rfl ?_
              refine zw_get dF_target_12 zf_F_28 (by first | exact h1 | exact h4 | exact hPi) rfl ?_
              refine zw_get dF_target_15 zf_F_135 (by first | exact h1 | exact h4 | exact hPi) rfl ?_
              refine zw_if_ne 35 dF_target_18 (by decide) (fun c_18 => ?_) (fun c_18 => ?_)
              · exact absurd (lost1 (Classical.byContradiction fun q => q c_18)) hl
              · refine zw_aload_n dF_target_21 rfl ?_
                refine zw_get dF_target_22 zf_F_38 (by first | exact h1 | exact h4 | exact hPi) rfl ?_
                refine zw_aload_n dF_target_25 rfl ?_
                refine zw_get dF_target_26 zf_F_28 (by first | exact h1 | exact h4 | exact hPi) rfl ?_
                refine zc_V1I dF_target_29 zm_P_findsTarget zk_F_167 (by first | exact h1 | exact h4 | exact hPi) rfl cf ?_ zRR (Nat.le_of_ble_eq_true rfl) ⟨Nat.le_of_ble_eq_true rfl, Nat.le_of_ble_eq_true rfl⟩
                refine zw_if_ne 38 dF_target_32 (by decide) (fun c_32 => ?_) (fun c_32 => ?_)
                · refine zw_iload_n dF_target_38 rfl ?_
                  refine zw_tabOut 88 dF_target_39 (by decide) (by decide) ?_
                  refine zw_aload_n dF_target_88 rfl ?_
                  refine zw_get dF_target_89 zf_F_38 hX1 rfl ?_
                  refine zw_get dF_target_92 zf_F_179 hP1 rfl ?_
                  exact zw_iret dF_target_95 rfl rfl hpA.len ⟨rfl, hQ⟩
                · exact absurd c_32 (show ¬ (1 : Int32) = 0 by decide)
            · exact absurd (by decide) c_6
end C34
