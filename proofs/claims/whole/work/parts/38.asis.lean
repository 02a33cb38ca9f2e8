/-! ===== the floor as it is ===== -/
def lst (F : Fl) (S : Sit) : Nat → Bool := fun c => fre F S c && !(bes F 1 (fre F S) c)
def eL (F : Fl) (S : Sit) (s : Nat) : Nat → Nat → Bool
  | 0 => fun c => oneO (some s) c && fre F S c
  | i + 1 => fun c => bes F 1 (eL F S s i) c && fre F S c
def llen (F : Fl) (S : Sit) (s : Nat) : Nat := (fst (fun i => (fst (eL F S s i) 36 0).isNone) 6 0).getD 6
theorem eL_sub {F : Fl} {S : Sit} {s : Nat} (i : Nat) : sub F (eL F S s i) := by
  intro c hc
  cases i with
  | zero => simp only [eL, Bool.and_eq_true] at hc; exact fre_sub F S c hc.2
  | succ i => simp only [eL, Bool.and_eq_true] at hc; exact fre_sub F S c hc.2
theorem eL_none {F : Fl} {S : Sit} {s i : Nat} : (fst (eL F S s i) 36 0).isNone = true ↔ mset (eL F S s i) = 0 := by
  rw [Option.isNone_iff_eq_none]
  constructor
  · intro h; exact fst_no0 h
  · intro h; exact fst_none.mpr (fun c _ hc => (m_eq0 _).mp h c (by omega))
/-- the rooms -/
def rof (F : Fl) : Nat → Bool := fun c => gK F 0 c || oneO (some (fD F)) c
def roomN (F : Fl) (x : Option Nat) : Nat → Nat → (Nat → Bool) → Nat → Int32
  | 0, _, _, n => if x = none then nI n else -9
  | m + 1, i, left, n => if left i = true then (if holdsB (lvl F left (some i) 36) x = true then nI n else roomN F x m (i + 1) (fun c => left c && !(lvl F left (some i) 36 c)) (n + 1)) else roomN F x m (i + 1) left n
theorem rof_sub {F : Fl} (hF : fOK F) : sub F (rof F) := by
  intro c hc
  simp only [rof, Bool.or_eq_true] at hc
  rcases hc with h | h
  · exact gK_sub F 0 c h
  · simp only [oneO, beq_iff_eq, Option.some.injEq] at h; rw [← h]; exact hF.2.2.1
section C38
variable {l : Launch} {g : zG} {d : Nat} {h : zH} {O : Om}
theorem c_F_laneLength (a : CX h O) (ok : oOK' O) {s : Nat} (hs : s < 36) : Run l g mF_laneLength (d + 2) 0 0 [.ref 0, .int (nI s), .long (mset (fre (oF O) (oS O)))] h (PI (nI (llen (oF O) (oS O) s)) h) := by
  obtain ⟨h1, h2, h3, h4, h5, h6, h7, h8, h9⟩ := id a
  have hF := ok.1
  refine run_of (by decide) (Nat.le_of_ble_eq_true rfl) ?_
  have L : ∀ (m i : Nat), i + m = 6 → (fst (fun i => (fst (eL (oF O) (oS O) s i) 36 0).isNone) m i).getD 6 = llen (oF O) (oS O) s → WW l g mF_laneLength (zrm (d + 2) 0 0) (fun _ => True) (zQQ g (PI (nI (llen (oF O) (oS O) s)) h) (h.length + 0) 0 0) 14 [(0, some (.ref 0)), (2, some (.long (mset (fre (oF O) (oS O))))), (4, some (.int (nI i))), (5, some (.long (mset (eL (oF O) (oS O) s i)))), (7, some (.int (nI i)))] [] h 0 0 := by
    intro m
    induction m with
    | zero =>
      intro i him e
      have hi : i = 6 := by omega
      subst hi
      refine zw_iload dF_laneLength_14 rfl ?_
      refine zw_bipush (v := 6) dF_laneLength_16 (by decide) ?_
      refine zw_icmp_ge 51 dF_laneLength_18 (by decide) (fun c_18 => ?_) (fun c_18 => ?_)
      · refine zw_iload dF_laneLength_51 rfl ?_
        exact zw_iret dF_laneLength_53 rfl rfl rfl ⟨by rw [← e]; rfl, rfl⟩
      · exact absurd (by decide) c_18
    | succ m ih =>
      intro i him e
      have key : mset (bes (oF O) 1 (eL (oF O) (oS O) s i)) &&& mset (fre (oF O) (oS O)) = mset (eL (oF O) (oS O) s (i + 1)) := by rw [m_and]; rfl
      refine zw_iload dF_laneLength_14 rfl ?_
      refine zw_bipush (v := 6) dF_laneLength_16 (by decide) ?_
      refine zw_icmp_ge 51 dF_laneLength_18 (by decide) (fun c_18 => ?_) (fun c_18 => ?_)
      · exact absurd ((nI_leI (a := 6) (by omega) (by omega)).mp c_18) (by omega)
      · refine zw_lload dF_laneLength_21 rfl ?_
        refine zw_lconst (v := 0) dF_laneLength_23 (by decide) ?_
        refine zw_lcmp dF_laneLength_24 ?_
        refine zw_if_eq 51 dF_laneLength_25 (by decide) (fun c_25 => ?_) (fun c_25 => ?_)
        · refine zw_iload dF_laneLength_51 rfl ?_
          exact zw_iret dF_laneLength_53 rfl rfl rfl ⟨by rw [← e, fst_t (eL_none.mpr (lgc_eq _ _ c_25))]; rfl, rfl⟩
        · refine zw_incN dF_laneLength_28 rfl (by decide) rfl ?_
          refine zw_aload_n dF_laneLength_31 rfl ?_
          refine zw_get dF_laneLength_32 zf_F_19 (by first | exact h1 | exact h3 | exact h4) rfl ?_
          refine zw_lload dF_laneLength_35 rfl ?_
          refine zw_iconst (v := 1) dF_laneLength_37 (by decide) ?_
          refine zc_V2L dF_laneLength_38 zm_G_beside zk_F_188 (by first | exact h1 | exact h3 | exact h4) rfl (c_G_beside (hand := 1) hF h3 (eL_sub i) (by decide)) ?_ zRR (Nat.le_of_ble_eq_true rfl) ⟨Nat.le_of_ble_eq_true rfl, Nat.le_of_ble_eq_true rfl⟩
          refine zw_lload_n dF_laneLength_41 rfl ?_
          refine zw_land dF_laneLength_42 ?_
          rw [key]
          refine zw_lstore dF_laneLength_43 (by decide) rfl ?_
          refine zw_incN dF_laneLength_45 rfl (by decide) rfl ?_
          refine zw_goto 14 dF_laneLength_48 (by decide) ?_
          have hno : (fst (eL (oF O) (oS O) s i) 36 0).isNone = false := by
            cases hq : (fst (eL (oF O) (oS O) s i) 36 0).isNone with
            | false => rfl
            | true => exact absurd (eL_none.mp hq) (lgc_ne _ _ c_25)
          exact zw_lk (ih (i + 1) (by omega) (by rw [← e, fst_f hno])) ⟨rfl, rfl, rfl, rfl, rfl, trivial⟩
  refine zw_iconst (v := 0) dF_laneLength_0 (by decide) ?_
  refine zw_istore dF_laneLength_1 (by decide) rfl ?_
  refine zw_iload_n dF_laneLength_3 rfl ?_
  refine zc_S1L dF_laneLength_4 zm_F_only zk_F_111 (c_F_only (a := some s) (oOK_some hs)) ?_ zRR (Nat.le_of_ble_eq_true rfl) ⟨Nat.le_of_ble_eq_true rfl, Nat.le_of_ble_eq_true rfl⟩
  refine zw_lload_n dF_laneLength_7 rfl ?_
  refine zw_land dF_laneLength_8 ?_
  rw [show mset (oneO (some s)) &&& mset (fre (oF O) (oS O)) = mset (eL (oF O) (oS O) s 0) from by rw [m_and]; rfl]
  refine zw_lstore dF_laneLength_9 (by decide) rfl ?_
  refine zw_iconst (v := 0) dF_laneLength_11 (by decide) ?_
  refine zw_istore dF_laneLength_12 (by decide) rfl ?_
  exact zw_lk (L 6 0 rfl rfl) ⟨rfl, rfl, rfl, rfl, rfl, trivial⟩
def rLane (O : Om) (x y : Int32) : Int32 := if x < -1 then -1 else match btw y 0 1 with
  | none => -1
  | some w => if x = -1 then nI (cnt (lst (oF O) (oS O)) 36) else match nth (lst (oF O) (oS O)) x.toNatClampNeg with
    | none => -9
    | some c => if w = 0 then nI c else nI (llen (oF O) (oS O) c)
theorem nonneg_of {x : Int32} (hx1 : ¬ x < -1) (hx2 : ¬ x = -1) : ∃ j : Nat, j < 2 ^ 31 ∧ x = nI j := by
  apply nI_of
  intro q
  have h1' := Int32.lt_iff_toInt_lt.mp q
  have h2' : ¬ x.toInt < (-1 : Int32).toInt := fun r => hx1 (Int32.lt_iff_toInt_lt.mpr r)
  have h3' : x.toInt ≠ (-1 : Int32).toInt := fun r => hx2 (Int32.toInt_inj.mp r)
  have e0 : (0 : Int32).toInt = 0 := by decide
  have e1 : (-1 : Int32).toInt = -1 := by decide
  omega
theorem c_F_lane (a : CX h O) (ok : oOK' O) {x y : Int32} : Run l g mF_lane (d + 3) 0 0 [.ref 0, .int x, .int y] h (PIh (rLane O x y) (CQ h O)) := by
  refine run_ro a ?_
  obtain ⟨h1, h2, h3, h4, h5, h6, h7, h8, h9⟩ := id a
  have hF := ok.1
  have key : mset (fre (oF O) (oS O)) &&& (mset (bes (oF O) 1 (fre (oF O) (oS O))) ^^^ (-1)) = mset (lst (oF O) (oS O)) := by rw [m_andn]; rfl
  refine run_of (by decide) (Nat.le_of_ble_eq_true rfl) ?_
  unfold rLane
  by_cases hx1 : x < -1
  · rw [if_pos hx1]
    refine zw_iload_n dF_lane_0 rfl ?_
    refine zw_iconst (v := (-1)) dF_lane_1 (by decide) ?_
    refine zw_icmp_lt 14 dF_lane_2 (by decide) (fun c_2 => ?_) (fun c_2 => ?_)
    · refine zw_iconst (v := (-1)) dF_lane_14 (by decide) ?_
      exact zw_iret dF_lane_15 rfl rfl rfl ⟨rfl, rfl⟩
    · exact absurd hx1 c_2
  · rw [if_neg hx1]
    cases hw : btw y 0 1 with
    | none =>
      have hb := btw_none.mp hw
      dsimp only
      refine zw_iload_n dF_lane_0 rfl ?_
      refine zw_iconst (v := (-1)) dF_lane_1 (by decide) ?_
      refine zw_icmp_lt 14 dF_lane_2 (by decide) (fun c_2 => ?_) (fun c_2 => ?_)
      · exact absurd c_2 hx1
      · refine zw_iload_n dF_lane_5 rfl ?_
        refine zw_if_lt 14 dF_lane_6 (by decide) (fun c_6 => ?_) (fun c_6 => ?_)
        · refine zw_iconst (v := (-1)) dF_lane_14 (by decide) ?_
          exact zw_iret dF_lane_15 rfl rfl rfl ⟨rfl, rfl⟩
        · refine zw_iload_n dF_lane_9 rfl ?_
          refine zw_iconst (v := 1) dF_lane_10 (by decide) ?_
          refine zw_icmp_le 16 dF_lane_11 (by decide) (fun c_11 => ?_) (fun c_11 => ?_)
          · exact absurd ((i_len (c := 1) (by decide) y).mp c_11) (by have : ¬ y.toInt < 0 := fun q => c_6 ((i_lt0 y).mpr q); omega)
          · refine zw_iconst (v := (-1)) dF_lane_14 (by decide) ?_
            exact zw_iret dF_lane_15 rfl rfl rfl ⟨rfl, rfl⟩
    | some w =>
      obtain ⟨-, hw1, rfl⟩ := (btw_some (by decide)).mp hw
      dsimp only
      by_cases hx2 : x = -1
      · rw [if_pos hx2]
        subst hx2
        refine zw_iload_n dF_lane_0 rfl ?_
        refine zw_iconst (v := (-1)) dF_lane_1 (by decide) ?_
        refine zw_icmp_lt 14 dF_lane_2 (by decide) (fun c_2 => ?_) (fun c_2 => ?_)
        · exact absurd c_2 hx1
        · refine zw_iload_n dF_lane_5 rfl ?_
          refine zw_if_lt 14 dF_lane_6 (by decide) (fun c_6 => ?_) (fun c_6 => ?_)
          · exact absurd c_6 (nI_pos (by omega))
          · refine zw_iload_n dF_lane_9 rfl ?_
            refine zw_iconst (v := 1) dF_lane_10 (by decide) ?_
            refine zw_icmp_le 16 dF_lane_11 (by decide) (fun c_11 => ?_) (fun c_11 => ?_)
            · refine zw_aload_n dF_lane_16 rfl ?_
              refine zw_get dF_lane_17 zf_F_28 (by first | exact h1 | exact h3 | exact h4) rfl ?_
              refine zc_V0L dF_lane_20 zm_S_freeCells zk_F_128 (by first | exact h1 | exact h3 | exact h4) rfl (c_S_freeCells hF h3 h4) ?_ zRR (Nat.le_of_ble_eq_true rfl) ⟨Nat.le_of_ble_eq_true rfl, Nat.le_of_ble_eq_true rfl⟩
              refine zw_lstore_n dF_lane_23 (by decide) rfl ?_
              refine zw_lload_n dF_lane_24 rfl ?_
              refine zw_aload_n dF_lane_25 rfl ?_
              refine zw_get dF_lane_26 zf_F_19 (by first | exact h1 | exact h3 | exact h4) rfl ?_
              refine zw_lload_n dF_lane_29 rfl ?_
              refine zw_iconst (v := 1) dF_lane_30 (by decide) ?_
              refine zc_V2L dF_lane_31 zm_G_beside zk_F_188 (by first | exact h1 | exact h3 | exact h4) rfl (c_G_beside (hand := 1) hF h3 (fre_sub _ _) (by decide)) ?_ zRR (Nat.le_of_ble_eq_true rfl) ⟨Nat.le_of_ble_eq_true rfl, Nat.le_of_ble_eq_true rfl⟩
              refine zw_ldc2 dF_lane_34 zcl_F_192 ?_
              refine zw_lxor dF_lane_37 ?_
              refine zw_land dF_lane_38 ?_
              rw [key]
              refine zw_lstore dF_lane_39 (by decide) rfl ?_
              refine zw_iload_n dF_lane_41 rfl ?_
              refine zw_iconst (v := (-1)) dF_lane_42 (by decide) ?_
              refine zw_icmp_ne 52 dF_lane_43 (by decide) (fun c_43 => ?_) (fun c_43 => ?_)
              · exact absurd rfl c_43
              · refine zw_lload dF_lane_46 rfl ?_
                refine zc_S1I dF_lane_48 zm_J_bitCount zk_F_152 c_J_bitCount ?_ zRR (Nat.le_of_ble_eq_true rfl) ⟨Nat.le_of_ble_eq_true rfl, Nat.le_of_ble_eq_true rfl⟩
                exact zw_iret dF_lane_51 rfl rfl rfl ⟨rfl, rfl⟩
            · exact absurd (nI_le (b := 1) hw1 (by decide)) c_11
      · rw [if_neg hx2]
        obtain ⟨j, hj, rfl⟩ := nonneg_of hx1 hx2
        rw [nI_clamp hj]
        have cm := c_F_memberAt (l := l) (g := g) (d := d) (h := h) (p := lst (oF O) (oS O)) hj
        cases hq : nth (lst (oF O) (oS O)) j with
        | none =>
          rw [hq] at cm
          dsimp only
          refine zw_iload_n dF_lane_0 rfl ?_
          refine zw_iconst (v := (-1)) dF_lane_1 (by decide) ?_
          refine zw_icmp_lt 14 dF_lane_2 (by decide) (fun c_2 => ?_) (fun c_2 => ?_)
          · exact absurd c_2 hx1
          · refine zw_iload_n dF_lane_5 rfl ?_
            refine zw_if_lt 14 dF_lane_6 (by decide) (fun c_6 => ?_) (fun c_6 => ?_)
            · exact absurd c_6 (nI_pos (by omega))
            · refine zw_iload_n dF_lane_9 rfl ?_
              refine zw_iconst (v := 1) dF_lane_10 (by decide) ?_
              refine zw_icmp_le 16 dF_lane_11 (by decide) (fun c_11 => ?_) (fun c_11 => ?_)
              · refine zw_aload_n dF_lane_16 rfl ?_
                refine zw_get dF_lane_17 zf_F_28 (by first | exact h1 | exact h3 | exact h4) rfl ?_
                refine zc_V0L dF_lane_20 zm_S_freeCells zk_F_128 (by first | exact h1 | exact h3 | exact h4) rfl (c_S_freeCells hF h3 h4) ?_ zRR (Nat.le_of_ble_eq_true rfl) ⟨Nat.le_of_ble_eq_true rfl, Nat.le_of_ble_eq_true rfl⟩
                refine zw_lstore_n dF_lane_23 (by decide) rfl ?_
                refine zw_lload_n dF_lane_24 rfl ?_
                refine zw_aload_n dF_lane_25 rfl ?_
                refine zw_get dF_lane_26 zf_F_19 (by first | exact h1 | exact h3 | exact h4) rfl ?_
                refine zw_lload_n dF_lane_29 rfl ?_
                refine zw_iconst (v := 1) dF_lane_30 (by decide) ?_
                refine zc_V2L dF_lane_31 zm_G_beside zk_F_188 (by first | exact h1 | exact h3 | exact h4) rfl (c_G_beside (hand := 1) hF h3 (fre_sub _ _) (by decide)) ?_ zRR (Nat.le_of_ble_eq_true rfl) ⟨Nat.le_of_ble_eq_true rfl, Nat.le_of_ble_eq_true rfl⟩
                refine zw_ldc2 dF_lane_34 zcl_F_192 ?_
                refine zw_lxor dF_lane_37 ?_
                refine zw_land dF_lane_38 ?_
                rw [key]
                refine zw_lstore dF_lane_39 (by decide) rfl ?_
                refine zw_iload_n dF_lane_41 rfl ?_
                refine zw_iconst (v := (-1)) dF_lane_42 (by decide) ?_
                refine zw_icmp_ne 52 dF_lane_43 (by decide) (fun c_43 => ?_) (fun c_43 => ?_)
                · refine zw_lload dF_lane_52 rfl ?_
                  refine zw_iload_n dF_lane_54 rfl ?_
                  refine zc_S2I dF_lane_55 zm_F_memberAt zk_F_194 cm ?_ zRR (Nat.le_of_ble_eq_true rfl) ⟨Nat.le_of_ble_eq_true rfl, Nat.le_of_ble_eq_true rfl⟩
                  refine zw_istore dF_lane_58 (by decide) rfl ?_
                  refine zw_iload dF_lane_60 rfl ?_
                  refine zw_iconst (v := (-1)) dF_lane_62 (by decide) ?_
                  refine zw_icmp_ne 69 dF_lane_63 (by decide) (fun c_63 => ?_) (fun c_63 => ?_)
                  · exact absurd rfl c_63
                  · refine zw_bipush (v := (-9)) dF_lane_66 (by decide) ?_
                    exact zw_iret dF_lane_68 rfl rfl rfl ⟨rfl, rfl⟩
                · exact absurd c_43 hx2
              · exact absurd (nI_le (b := 1) hw1 (by decide)) c_11
        | some c =>
          rw [hq] at cm
          have hc36 : c < 36 := by have := (fst_some.mp hq).2.1; omega
          dsimp only
          refine zw_iload_n dF_lane_0 rfl ?_
          refine zw_iconst (v := (-1)) dF_lane_1 (by decide) ?_
          refine zw_icmp_lt 14 dF_lane_2 (by decide) (fun c_2 => ?_) (fun c_2 => ?_)
          · exact absurd c_2 hx1
          · refine zw_iload_n dF_lane_5 rfl ?_
            refine zw_if_lt 14 dF_lane_6 (by decide) (fun c_6 => ?_) (fun c_6 => ?_)
            · exact absurd c_6 (nI_pos (by omega))
            · refine zw_iload_n dF_lane_9 rfl ?_
              refine zw_iconst (v := 1) dF_lane_10 (by decide) ?_
              refine zw_icmp_le 16 dF_lane_11 (by decide) (fun c_11 => ?_) (fun c_11 => ?_)
              · refine zw_aload_n dF_lane_16 rfl ?_
                refine zw_get dF_lane_17 zf_F_28 (by first | exact h1 | exact h3 | exact h4) rfl ?_
                refine zc_V0L dF_lane_20 zm_S_freeCells zk_F_128 (by first | exact h1 | exact h3 | exact h4) rfl (c_S_freeCells hF h3 h4) ?_ zRR (Nat.le_of_ble_eq_true rfl) ⟨Nat.le_of_ble_eq_true rfl, Nat.le_of_ble_eq_true rfl⟩
                refine zw_lstore_n dF_lane_23 (by decide) rfl ?_
                refine zw_lload_n dF_lane_24 rfl ?_
                refine zw_aload_n dF_lane_25 rfl ?_
                refine zw_get dF_lane_26 zf_F_19 (by first | exact h1 | exact h3 | exact h4) rfl ?_
                refine zw_lload_n dF_lane_29 rfl ?_
                refine zw_iconst (v := 1) dF_lane_30 (by decide) ?_
                refine zc_V2L dF_lane_31 zm_G_beside zk_F_188 (by first | exact h1 | exact h3 | exact h4) rfl (c_G_beside (hand := 1) hF h3 (fre_sub _ _) (by decide)) ?_ zRR (Nat.le_of_ble_eq_true rfl) ⟨Nat.le_of_ble_eq_true rfl, Nat.le_of_ble_eq_true rfl⟩
                refine zw_ldc2 dF_lane_34 zcl_F_192 ?_
                refine zw_lxor dF_lane_37 ?_
                refine zw_land dF_lane_38 ?_
                rw [key]
                refine zw_lstore dF_lane_39 (by decide) rfl ?_
                refine zw_iload_n dF_lane_41 rfl ?_
                refine zw_iconst (v := (-1)) dF_lane_42 (by decide) ?_
                refine zw_icmp_ne 52 dF_lane_43 (by decide) (fun c_43 => ?_) (fun c_43 => ?_)
                · refine zw_lload dF_lane_52 rfl ?_
                  refine zw_iload_n dF_lane_54 rfl ?_
                  refine zc_S2I dF_lane_55 zm_F_memberAt zk_F_194 cm ?_ zRR (Nat.le_of_ble_eq_true rfl) ⟨Nat.le_of_ble_eq_true rfl, Nat.le_of_ble_eq_true rfl⟩
                  refine zw_istore dF_lane_58 (by decide) rfl ?_
                  refine zw_iload dF_lane_60 rfl ?_
                  refine zw_iconst (v := (-1)) dF_lane_62 (by decide) ?_
                  refine zw_icmp_ne 69 dF_lane_63 (by decide) (fun c_63 => ?_) (fun c_63 => ?_)
                  · refine zw_iload_n dF_lane_69 rfl ?_
                    refine zw_if_ne 78 dF_lane_70 (by decide) (fun c_70 => ?_) (fun c_70 => ?_)
                    · refine zw_aload_n dF_lane_78 rfl ?_
                      refine zw_iload dF_lane_79 rfl ?_
                      refine zw_lload_n dF_lane_81 rfl ?_
                      refine zc_V2I dF_lane_82 zm_F_laneLength zk_F_198 (by first | exact h1 | exact h3 | exact h4) rfl (c_F_laneLength a ok hc36) ?_ zRR (Nat.le_of_ble_eq_true rfl) ⟨Nat.le_of_ble_eq_true rfl, Nat.le_of_ble_eq_true rfl⟩
                      exact zw_iret dF_lane_85 rfl rfl rfl ⟨by first | (rw [if_pos ((nI_eq (b := 0) (by omega) (by decide)).mp c_70)]; rfl) | (rw [if_neg (fun q => c_70 (by rw [q]; rfl))]), rfl⟩
                    · refine zw_iload dF_lane_73 rfl ?_
                      refine zw_goto 85 dF_lane_75 (by decide) ?_
                      exact zw_iret dF_lane_85 rfl rfl rfl ⟨by first | (rw [if_pos ((nI_eq (b := 0) (by omega) (by decide)).mp c_70)]; rfl) | (rw [if_neg (fun q => c_70 (by rw [q]; rfl))]), rfl⟩
                  · have q : (nI c).toInt = (-1 : Int32).toInt := by rw [show nI c = -1 from c_63]
                    rw [nI_toInt (by omega), show (-1 : Int32).toInt = -1 from by decide] at q
                    omega
                · exact absurd c_43 hx2
              · exact absurd (nI_le (b := 1) hw1 (by decide)) c_11
def rReach (O : Om) (x : Int32) : Int32 := match btw x 0 1 with
  | none => -1
  | some w => if w = 0 then nI (cnt (lvl (oF O) (fre (oF O) (oS O)) (some (fD (oF O))) 36) 36) else nI (2 * mst (oF O) (fre (oF O) (oS O)) (some (fD (oF O))))
theorem wth_36 (F : Fl) (K : Nat → Bool) (a : Option Nat) : wth F K a (36 : Int32).toInt = lvl F K a 36 := by
  rw [show (36 : Int32).toInt = 36 from by decide, wth_at (by decide)]
  rfl
theorem c_F_reach (a : CX h O) (ok : oOK' O) {x : Int32} : Run l g mF_reach (d + 3) 0 0 [.ref 0, .int x] h (PIh (rReach O x) (CQ h O)) := by
  refine run_ro a ?_
  obtain ⟨h1, h2, h3, h4, h5, h6, h7, h8, h9⟩ := id a
  have hF := ok.1
  have hdO : oOK (some (fD (oF O))) := oOK_some (by have := fN_le hF; have := hF.2.2.1; omega)
  refine run_of (by decide) (Nat.le_of_ble_eq_true rfl) ?_
  unfold rReach
  cases hw : btw x 0 1 with
  | none =>
    have hb := btw_none.mp hw
    dsimp only
    refine zw_iload_n dF_reach_0 rfl ?_
    refine zw_if_lt 9 dF_reach_1 (by decide) (fun c_1 => ?_) (fun c_1 => ?_)
    · refine zw_iconst (v := (-1)) dF_reach_9 (by decide) ?_
      exact zw_iret dF_reach_10 rfl rfl rfl ⟨rfl, rfl⟩
    · refine zw_iload_n dF_reach_4 rfl ?_
      refine zw_iconst (v := 1) dF_reach_5 (by decide) ?_
      refine zw_icmp_le 11 dF_reach_6 (by decide) (fun c_6 => ?_) (fun c_6 => ?_)
      · exact absurd ((i_len (c := 1) (by decide) x).mp c_6) (by have : ¬ x.toInt < 0 := fun q => c_1 ((i_lt0 x).mpr q); omega)
      · refine zw_iconst (v := (-1)) dF_reach_9 (by decide) ?_
        exact zw_iret dF_reach_10 rfl rfl rfl ⟨rfl, rfl⟩
  | some w =>
    obtain ⟨-, hw1, rfl⟩ := (btw_some (by decide)).mp hw
    dsimp only
    have cw := c_G_within (l := l) (g := g) (d := d + 1) hF h3 (fre_sub (oF O) (oS O)) hdO (s := 36)
    rw [wth_36] at cw
    refine zw_iload_n dF_reach_0 rfl ?_
    refine zw_if_lt 9 dF_reach_1 (by decide) (fun c_1 => ?_) (fun c_1 => ?_)
    · exact absurd c_1 (nI_pos (by omega))
    · refine zw_iload_n dF_reach_4 rfl ?_
      refine zw_iconst (v := 1) dF_reach_5 (by decide) ?_
      refine zw_icmp_le 11 dF_reach_6 (by decide) (fun c_6 => ?_) (fun c_6 => ?_)
      · refine zw_aload_n dF_reach_11 rfl ?_
        refine zw_get dF_reach_12 zf_F_28 (by first | exact h1 | exact h3 | exact h4) rfl ?_
        refine zc_V0L dF_reach_15 zm_S_freeCells zk_F_128 (by first | exact h1 | exact h3 | exact h4) rfl (c_S_freeCells hF h3 h4) ?_ zRR (Nat.le_of_ble_eq_true rfl) ⟨Nat.le_of_ble_eq_true rfl, Nat.le_of_ble_eq_true rfl⟩
        refine zw_lstore_n dF_reach_18 (by decide) rfl ?_
        refine zw_iload_n dF_reach_19 rfl ?_
        refine zw_if_ne 44 dF_reach_20 (by decide) (fun c_20 => ?_) (fun c_20 => ?_)
        · refine zw_iconst (v := 2) dF_reach_44 (by decide) ?_
          refine zw_aload_n dF_reach_45 rfl ?_
          refine zw_get dF_reach_46 zf_F_19 (by first | exact h1 | exact h3 | exact h4) rfl ?_
          refine zw_aload_n dF_reach_49 rfl ?_
          refine zw_get dF_reach_50 zf_F_19 (by first | exact h1 | exact h3 | exact h4) rfl ?_
          refine zw_get dF_reach_53 zf_F_205 (by first | exact h1 | exact h3 | exact h4) rfl ?_
          refine zw_lload_n dF_reach_56 rfl ?_
          refine zc_V2I dF_reach_57 zm_G_mostSteps zk_F_212 (by first | exact h1 | exact h3 | exact h4) rfl (c_G_mostSteps hF h3 (fre_sub _ _) hdO) ?_ zRR (Nat.le_of_ble_eq_true rfl) ⟨Nat.le_of_ble_eq_true rfl, Nat.le_of_ble_eq_true rfl⟩
          refine zw_imul dF_reach_60 ?_
          rw [show (2 : Int32) = nI 2 from rfl, pk_mul]
          exact zw_iret dF_reach_61 rfl rfl rfl ⟨by rw [if_neg (fun q => c_20 (by rw [q]; rfl))], rfl⟩
        · refine zw_aload_n dF_reach_23 rfl ?_
          refine zw_get dF_reach_24 zf_F_19 (by first | exact h1 | exact h3 | exact h4) rfl ?_
          refine zw_bipush (v := 36) dF_reach_27 (by decide) ?_
          refine zw_aload_n dF_reach_29 rfl ?_
          refine zw_get dF_reach_30 zf_F_19 (by first | exact h1 | exact h3 | exact h4) rfl ?_
          refine zw_get dF_reach_33 zf_F_205 (by first | exact h1 | exact h3 | exact h4) rfl ?_
          refine zw_lload_n dF_reach_36 rfl ?_
          refine zc_V3L dF_reach_37 zm_G_within zk_F_208 (by first | exact h1 | exact h3 | exact h4) rfl cw ?_ zRR (Nat.le_of_ble_eq_true rfl) ⟨Nat.le_of_ble_eq_true rfl, Nat.le_of_ble_eq_true rfl⟩
          refine zc_S1I dF_reach_40 zm_J_bitCount zk_F_152 c_J_bitCount ?_ zRR (Nat.le_of_ble_eq_true rfl) ⟨Nat.le_of_ble_eq_true rfl, Nat.le_of_ble_eq_true rfl⟩
          exact zw_iret dF_reach_43 rfl rfl rfl ⟨by rw [if_pos ((nI_eq (b := 0) (by omega) (by decide)).mp (Classical.byContradiction fun q => q c_20))], rfl⟩
      · exact absurd (nI_le (b := 1) hw1 (by decide)) c_6
def rRoom (O : Om) (x : Int32) : Int32 := if x = -1 then roomN (oF O) none 36 0 (rof (oF O)) 0 else match cel (oF O) x with
  | none => -1
  | some c => roomN (oF O) (some c) 36 0 (rof (oF O)) 0
theorem oI_neg {o : Option Nat} (ho : oOK o) : oI o = -1 ↔ o = none := by
  cases o with
  | none => exact ⟨fun _ => rfl, fun _ => rfl⟩
  | some c =>
    constructor
    · intro q
      have hc := ho c rfl
      have q' : (nI c).toInt = (-1 : Int32).toInt := by rw [show nI c = -1 from q]
      rw [nI_toInt (by omega), show (-1 : Int32).toInt = -1 from by decide] at q'
      omega
    · intro q; cases q
theorem c_F_room (a : CX h O) (ok : oOK' O) {x : Int32} : Run l g mF_room (d + 3) 0 0 [.ref 0, .int x] h (PIh (rRoom O x) (CQ h O)) := by
  refine run_ro a ?_
  obtain ⟨h1, h2, h3, h4, h5, h6, h7, h8, h9⟩ := id a
  have hF := ok.1
  have hn := fN_le hF
  have hdO : oOK (some (fD (oF O))) := oOK_some (by have := hF.2.2.1; omega)
  have key : mset (gK (oF O) 0) ||| mset (oneO (some (fD (oF O)))) = mset (rof (oF O)) := by rw [m_or]; rfl
  refine run_of (by decide) (Nat.le_of_ble_eq_true rfl) ?_
  have L : ∀ (o : Option Nat) (r : Int32), oOK o → ∀ (m i n : Nat) (left : Nat → Bool), i + m = 36 → n ≤ i → sub (oF O) left → roomN (oF O) o m i left n = r → WW l g mF_room (zrm (d + 3) 0 0) (fun _ => True) (zQQ g (PI r h) (h.length + 0) 0 0) 43 [(0, some (.ref 0)), (1, some (.int (oI o))), (2, some (.long (mset left))), (4, some (.int (nI n))), (5, some (.int (nI i)))] [] h 0 0 := by
    intro o r ho m
    induction m with
    | zero =>
      intro i n left him hni hsub e
      have hi : i = 36 := by omega
      subst hi
      have e' : (if o = none then nI n else -9) = r := e
      refine zw_iload dF_room_43 rfl ?_
      refine zw_bipush (v := 36) dF_room_45 (by decide) ?_
      refine zw_icmp_ge 103 dF_room_47 (by decide) (fun c_47 => ?_) (fun c_47 => ?_)
      · refine zw_iload_n dF_room_103 rfl ?_
        refine zw_iconst (v := (-1)) dF_room_104 (by decide) ?_
        refine zw_icmp_ne 113 dF_room_105 (by decide) (fun c_105 => ?_) (fun c_105 => ?_)
        · refine zw_bipush (v := (-9)) dF_room_113 (by decide) ?_
          exact zw_iret dF_room_115 rfl rfl rfl ⟨by first | (rw [← e', if_pos ((oI_neg ho).mp (Classical.byContradiction fun q => q c_105))]) | (rw [← e', if_neg (fun q => c_105 ((oI_neg ho).mpr q))]), rfl⟩
        · refine zw_iload dF_room_108 rfl ?_
          refine zw_goto 115 dF_room_110 (by decide) ?_
          exact zw_iret dF_room_115 rfl rfl rfl ⟨by first | (rw [← e', if_pos ((oI_neg ho).mp (Classical.byContradiction fun q => q c_105))]) | (rw [← e', if_neg (fun q => c_105 ((oI_neg ho).mpr q))]), rfl⟩
      · exact absurd (by decide) c_47
    | succ m ih =>
      intro i n left him hni hsub e
      have e' : (if left i = true then (if holdsB (lvl (oF O) left (some i) 36) o = true then nI n else roomN (oF O) o m (i + 1) (fun c => left c && !(lvl (oF O) left (some i) 36 c)) (n + 1)) else roomN (oF O) o m (i + 1) left n) = r := e
      have hiO : oOK (some i) := oOK_some (by omega)
      have cw := c_G_within (l := l) (g := g) (d := d + 1) hF h3 hsub hiO (s := 36)
      rw [wth_36] at cw
      refine zw_iload dF_room_43 rfl ?_
      refine zw_bipush (v := 36) dF_room_45 (by decide) ?_
      refine zw_icmp_ge 103 dF_room_47 (by decide) (fun c_47 => ?_) (fun c_47 => ?_)
      · exact absurd ((nI_leI (a := 36) (by omega) (by omega)).mp c_47) (by omega)
      · refine zw_lload_n dF_room_50 rfl ?_
        refine zw_iload dF_room_51 rfl ?_
        refine zc_S2I dF_room_53 zm_F_holds zk_F_101 (c_F_holds (a := some i) hiO) ?_ zRR (Nat.le_of_ble_eq_true rfl) ⟨Nat.le_of_ble_eq_true rfl, Nat.le_of_ble_eq_true rfl⟩
        refine zw_if_eq 97 dF_room_56 (by decide) (fun c_56 => ?_) (fun c_56 => ?_)
        · rw [if_neg (by rw [show left i = false from hb0 c_56]; decide)] at e'
          refine zw_incN dF_room_97 rfl (by decide) rfl ?_
          refine zw_goto 43 dF_room_100 (by decide) ?_
          exact zw_lk (ih (i + 1) n left (by omega) (by omega) hsub e') ⟨rfl, rfl, rfl, rfl, rfl, trivial⟩
        · have hli : left i = true := hb1 c_56
          rw [if_pos hli] at e'
          refine zw_aload_n dF_room_59 rfl ?_
          refine zw_get dF_room_60 zf_F_19 (by first | exact h1 | exact h3 | exact h4) rfl ?_
          refine zw_bipush (v := 36) dF_room_63 (by decide) ?_
          refine zw_iload dF_room_65 rfl ?_
          refine zw_lload_n dF_room_67 rfl ?_
          refine zc_V3L dF_room_68 zm_G_within zk_F_208 (by first | exact h1 | exact h3 | exact h4) rfl cw ?_ zRR (Nat.le_of_ble_eq_true rfl) ⟨Nat.le_of_ble_eq_true rfl, Nat.le_of_ble_eq_true rfl⟩
          refine zw_lstore dF_room_71 (by decide) rfl ?_
          refine zw_lload dF_room_73 rfl ?_
          refine zw_iload_n dF_room_75 rfl ?_
          refine zc_S2I dF_room_76 zm_F_holds zk_F_101 (c_F_holds ho) ?_ zRR (Nat.le_of_ble_eq_true rfl) ⟨Nat.le_of_ble_eq_true rfl, Nat.le_of_ble_eq_true rfl⟩
          refine zw_if_eq 85 dF_room_79 (by decide) (fun c_79 => ?_) (fun c_79 => ?_)
          · refine zw_lload_n dF_room_85 rfl ?_
            refine zw_lload dF_room_86 rfl ?_
            refine zw_ldc2 dF_room_88 zcl_F_192 ?_
            refine zw_lxor dF_room_91 ?_
            refine zw_land dF_room_92 ?_
            rw [m_andn]
            refine zw_lstore_n dF_room_93 (by decide) rfl ?_
            rw [if_neg (by rw [hb0 c_79]; decide)] at e'
            refine zw_incN dF_room_94 rfl (by decide) rfl ?_
            refine zw_incN dF_room_97 rfl (by decide) rfl ?_
            refine zw_goto 43 dF_room_100 (by decide) ?_
            exact zw_lk (ih (i + 1) (n + 1) _ (by omega) (by omega) (fun c hc => by simp only [Bool.and_eq_true] at hc; exact hsub c hc.1) e') ⟨rfl, rfl, rfl, rfl, rfl, trivial⟩
          · refine zw_iload dF_room_82 rfl ?_
            exact zw_iret dF_room_84 rfl rfl rfl ⟨by rw [← e', if_pos (hb1 c_79)], rfl⟩
  unfold rRoom
  by_cases hx : x = -1
  · rw [if_pos hx]
    subst hx
    refine zw_iload_n dF_room_0 rfl ?_
    refine zw_iconst (v := (-1)) dF_room_1 (by decide) ?_
    refine zw_icmp_eq 18 dF_room_2 (by decide) (fun c_2 => ?_) (fun c_2 => ?_)
    · refine zw_aload_n dF_room_18 rfl ?_
      refine zw_get dF_room_19 zf_F_19 (by first | exact h1 | exact h3 | exact h4) rfl ?_
      refine zw_get dF_room_22 zf_F_202 (by first | exact h1 | exact h3 | exact h4) rfl ?_
      refine zw_aload_n dF_room_25 rfl ?_
      refine zw_get dF_room_26 zf_F_19 (by first | exact h1 | exact h3 | exact h4) rfl ?_
      refine zw_get dF_room_29 zf_F_205 (by first | exact h1 | exact h3 | exact h4) rfl ?_
      refine zc_S1L dF_room_32 zm_F_only zk_F_111 (c_F_only hdO) ?_ zRR (Nat.le_of_ble_eq_true rfl) ⟨Nat.le_of_ble_eq_true rfl, Nat.le_of_ble_eq_true rfl⟩
      refine zw_lor dF_room_35 ?_
      rw [key]
      refine zw_lstore_n dF_room_36 (by decide) rfl ?_
      refine zw_iconst (v := 0) dF_room_37 (by decide) ?_
      refine zw_istore dF_room_38 (by decide) rfl ?_
      refine zw_iconst (v := 0) dF_room_40 (by decide) ?_
      refine zw_istore dF_room_41 (by decide) rfl ?_
      exact zw_lk (L none _ oOK_none 36 0 0 (rof (oF O)) rfl (Nat.le_refl _) (rof_sub hF) rfl) ⟨rfl, rfl, rfl, rfl, rfl, trivial⟩
    · exact absurd rfl c_2
  · rw [if_neg hx]
    have ch := c_G_has (l := l) (g := g) (d := d + 1) hF h3 (x := x)
    cases hc : cel (oF O) x with
    | none =>
      rw [hc] at ch
      dsimp only
      refine zw_iload_n dF_room_0 rfl ?_
      refine zw_iconst (v := (-1)) dF_room_1 (by decide) ?_
      refine zw_icmp_eq 18 dF_room_2 (by decide) (fun c_2 => ?_) (fun c_2 => ?_)
      · exact absurd c_2 hx
      · refine zw_aload_n dF_room_5 rfl ?_
        refine zw_get dF_room_6 zf_F_19 (by first | exact h1 | exact h3 | exact h4) rfl ?_
        refine zw_iload_n dF_room_9 rfl ?_
        refine zc_V1I dF_room_10 zm_G_has zk_F_71 (by first | exact h1 | exact h3 | exact h4) rfl ch ?_ zRR (Nat.le_of_ble_eq_true rfl) ⟨Nat.le_of_ble_eq_true rfl, Nat.le_of_ble_eq_true rfl⟩
        refine zw_if_ne 18 dF_room_13 (by decide) (fun c_13 => ?_) (fun c_13 => ?_)
        · exact absurd rfl c_13
        · refine zw_iconst (v := (-1)) dF_room_16 (by decide) ?_
          exact zw_iret dF_room_17 rfl rfl rfl ⟨rfl, rfl⟩
    | some c =>
      obtain ⟨hcn, rfl⟩ := (cel_some hF).mp hc
      rw [hc] at ch
      dsimp only
      refine zw_iload_n dF_room_0 rfl ?_
      refine zw_iconst (v := (-1)) dF_room_1 (by decide) ?_
      refine zw_icmp_eq 18 dF_room_2 (by decide) (fun c_2 => ?_) (fun c_2 => ?_)
      · exact absurd c_2 hx
      · refine zw_aload_n dF_room_5 rfl ?_
        refine zw_get dF_room_6 zf_F_19 (by first | exact h1 | exact h3 | exact h4) rfl ?_
        refine zw_iload_n dF_room_9 rfl ?_
        refine zc_V1I dF_room_10 zm_G_has zk_F_71 (by first | exact h1 | exact h3 | exact h4) rfl ch ?_ zRR (Nat.le_of_ble_eq_true rfl) ⟨Nat.le_of_ble_eq_true rfl, Nat.le_of_ble_eq_true rfl⟩
        refine zw_if_ne 18 dF_room_13 (by decide) (fun c_13 => ?_) (fun c_13 => ?_)
        · refine zw_aload_n dF_room_18 rfl ?_
          refine zw_get dF_room_19 zf_F_19 (by first | exact h1 | exact h3 | exact h4) rfl ?_
          refine zw_get dF_room_22 zf_F_202 (by first | exact h1 | exact h3 | exact h4) rfl ?_
          refine zw_aload_n dF_room_25 rfl ?_
          refine zw_get dF_room_26 zf_F_19 (by first | exact h1 | exact h3 | exact h4) rfl ?_
          refine zw_get dF_room_29 zf_F_205 (by first | exact h1 | exact h3 | exact h4) rfl ?_
          refine zc_S1L dF_room_32 zm_F_only zk_F_111 (c_F_only hdO) ?_ zRR (Nat.le_of_ble_eq_true rfl) ⟨Nat.le_of_ble_eq_true rfl, Nat.le_of_ble_eq_true rfl⟩
          refine zw_lor dF_room_35 ?_
          rw [key]
          refine zw_lstore_n dF_room_36 (by decide) rfl ?_
          refine zw_iconst (v := 0) dF_room_37 (by decide) ?_
          refine zw_istore dF_room_38 (by decide) rfl ?_
          refine zw_iconst (v := 0) dF_room_40 (by decide) ?_
          refine zw_istore dF_room_41 (by decide) rfl ?_
          exact zw_lk (L (some c) _ (oOK_some (by omega)) 36 0 0 (rof (oF O)) rfl (Nat.le_refl _) (rof_sub hF) rfl) ⟨rfl, rfl, rfl, rfl, rfl, trivial⟩
        · exact absurd c_13 (show ¬ (1 : Int32) = 0 by decide)
/-! the text -/
def rClear (O : Om) : Int32 := nI (oLen O)
def nLen (O : Om) (T : Nat → Int32) (n : Nat) : Om := oMk (oF O) (oS O) T n (oU O) (oSz O) (oI' O) (oKp O)
theorem CX.text {h h' : zH} {O : Om} (a : CX h O) {T : Nat → Int32} {n : Nat} (K : ∀ j, 4 ≤ j → h'[j]? = h[j]?) (K0 : h'[0]? = h[0]?) (t : CXt h' T n) : CX h' (nLen O T n) := by
  obtain ⟨h1, h2, h3, h4, h5, h6, h7, h8, h9⟩ := a
  exact ⟨K0.trans h1, t, (K _ (by omega)).trans h3, (K _ (by omega)).trans h4, (K _ (by omega)).trans h5, h6.keep (fun j _ _ => K j (by omega)), h7.keep (K _ (by omega)), h8.keep (fun j _ _ => K j (by omega)), h9.keep (fun j _ _ => K j (by omega))⟩
theorem c_F_clear (a : CX h O) : Run l g mF_clear d 0 0 [.ref 0] h (PIh (rClear O) (CQ h (nLen O (oT O) 0))) := by
  obtain ⟨h1, h2, h3, h4, h5, h6, h7, h8, h9⟩ := id a
  obtain ⟨c, w, ht, sg, dk, lf, kf, t1, t2, t3, t4⟩ := h2
  have E : CX (h.set 1 (txC (nI 0) c w ht sg dk)) (nLen O (oT O) 0) := a.text (fun j hj => zg_ne (by omega) rfl) (zg_ne (by omega) rfl) ⟨c, w, ht, sg, dk, lf, kf, zg_eq t1, zg_ne (by omega) t2, zg_ne (by omega) t3, fun i hi => absurd hi (Nat.not_lt_zero _)⟩
  refine run_of (by decide) (Nat.le_of_ble_eq_true rfl) ?_
  refine zw_aload_n dF_clear_0 rfl ?_
  refine zw_get dF_clear_1 zf_F_12 (by first | exact h1 | exact t1) rfl ?_
  refine zw_get dF_clear_4 zf_F_64 (by first | exact h1 | exact t1) rfl ?_
  refine zw_istore_n dF_clear_7 (by decide) rfl ?_
  refine zw_aload_n dF_clear_8 rfl ?_
  refine zw_get dF_clear_9 zf_F_12 (by first | exact h1 | exact t1) rfl ?_
  refine zw_iconst (v := 0) dF_clear_12 (by decide) ?_
  refine zw_puti dF_clear_13 zf_F_64 (by first | exact h1 | exact t1) (Nat.le_of_ble_eq_true rfl) ?_
  refine zw_h (h2 := h.set 1 (txC (nI 0) c w ht sg dk)) rfl ?_
  refine zw_iload_n dF_clear_16 rfl ?_
  exact zw_iret dF_clear_17 rfl rfl (by simp) ⟨rfl, E, frC.set (by decide), by simp⟩
def rType (O : Om) (x : Int32) : Int32 := match btw x 0 255 with | none => -1 | some _ => if oLen O = 60 then -3 else nI (oLen O + 1)
def nType (O : Om) (x : Int32) : Om := match btw x 0 255 with | none => O | some _ => if oLen O = 60 then O else nLen O (upd (oT O) (oLen O) x) (oLen O + 1)
theorem c_F_type (a : CX h O) (ok : oOK' O) {x : Int32} : Run l g mF_type (d + 1) 0 0 [.ref 0, .int x] h (PIh (rType O x) (CQ h (nType O x))) := by
  obtain ⟨h1, h2, h3, h4, h5, h6, h7, h8, h9⟩ := id a
  obtain ⟨c, w, ht, sg, dk, lf, kf, t1, t2, t3, t4⟩ := h2
  have hlen := ok.2.2.2.2.2
  refine run_of (by decide) (Nat.le_of_ble_eq_true rfl) ?_
  cases hw : btw x 0 255 with
  | none =>
    have hb := btw_none.mp hw
    rw [show rType O x = -1 from by unfold rType; rw [hw], show nType O x = O from by unfold nType; rw [hw]]
    refine zw_iload_n dF_type_0 rfl ?_
    refine zw_if_lt 11 dF_type_1 (by decide) (fun c_1 => ?_) (fun c_1 => ?_)
    · refine zw_iconst (v := (-1)) dF_type_11 (by decide) ?_
      exact zw_iret dF_type_12 rfl rfl rfl ⟨rfl, CQ.rf a⟩
    · refine zw_iload_n dF_type_4 rfl ?_
      refine zw_sipush (v := 255) dF_type_5 (by decide) ?_
      refine zw_icmp_le 13 dF_type_8 (by decide) (fun c_8 => ?_) (fun c_8 => ?_)
      · exact absurd ((i_len (c := 255) (by decide) x).mp c_8) (by have : ¬ x.toInt < 0 := fun q => c_1 ((i_lt0 x).mpr q); omega)
      · refine zw_iconst (v := (-1)) dF_type_11 (by decide) ?_
        exact zw_iret dF_type_12 rfl rfl rfl ⟨rfl, CQ.rf a⟩
  | some v =>
    obtain ⟨-, hv, hxe⟩ := (btw_some (by decide)).mp hw
    by_cases h60 : oLen O = 60
    · rw [show rType O x = -3 from by unfold rType; rw [hw]; exact if_pos h60, show nType O x = O from by unfold nType; rw [hw]; exact if_pos h60]
      have ca : Run l g mT_add d 0 0 [.ref 1, .int x] h (PI 0 h) := by
        rw [h60] at t1
        refine run_of (by decide) (Nat.le_of_ble_eq_true rfl) ?_
        refine zw_aload_n dT_add_0 rfl ?_
        refine zw_get dT_add_1 zf_T_18 t1 rfl ?_
        refine zw_if_lt 16 dT_add_4 (by decide) (fun c_4 => ?_) (fun c_4 => ?_)
        · refine zw_iconst (v := 0) dT_add_16 (by decide) ?_
          exact zw_iret dT_add_17 rfl rfl rfl ⟨rfl, rfl⟩
        · refine zw_aload_n dT_add_7 rfl ?_
          refine zw_get dT_add_8 zf_T_18 t1 rfl ?_
          refine zw_bipush (v := 60) dT_add_11 (by decide) ?_
          refine zw_icmp_lt 18 dT_add_13 (by decide) (fun c_13 => ?_) (fun c_13 => ?_)
          · exact absurd c_13 (by decide)
          · refine zw_iconst (v := 0) dT_add_16 (by decide) ?_
            exact zw_iret dT_add_17 rfl rfl rfl ⟨rfl, rfl⟩
      refine zw_iload_n dF_type_0 rfl ?_
      refine zw_if_lt 11 dF_type_1 (by decide) (fun c_1 => ?_) (fun c_1 => ?_)
      · exact absurd c_1 (by rw [hxe]; exact nI_pos (by omega))
      · refine zw_iload_n dF_type_4 rfl ?_
        refine zw_sipush (v := 255) dF_type_5 (by decide) ?_
        refine zw_icmp_le 13 dF_type_8 (by decide) (fun c_8 => ?_) (fun c_8 => ?_)
        · refine zw_aload_n dF_type_13 rfl ?_
          refine zw_get dF_type_14 zf_F_12 (by first | exact h1 | exact t1) rfl ?_
          refine zw_iload_n dF_type_17 rfl ?_
          refine zc_V1I dF_type_18 zm_T_add zk_F_56 (by first | exact h1 | exact t1) rfl ca ?_ zRR (Nat.le_of_ble_eq_true rfl) ⟨Nat.le_of_ble_eq_true rfl, Nat.le_of_ble_eq_true rfl⟩
          refine zw_if_eq 34 dF_type_21 (by decide) (fun c_21 => ?_) (fun c_21 => ?_)
          · refine zw_bipush (v := (-3)) dF_type_34 (by decide) ?_
            exact zw_iret dF_type_36 rfl rfl rfl ⟨rfl, CQ.rf a⟩
          · exact absurd rfl c_21
        · exact absurd (by rw [hxe]; exact nI_le (b := 255) hv (by decide)) c_8
    · rw [show rType O x = nI (oLen O + 1) from by unfold rType; rw [hw]; exact if_neg h60, show nType O x = nLen O (upd (oT O) (oLen O) x) (oLen O + 1) from by unfold nType; rw [hw]; exact if_neg h60]
      have hl59 : oLen O < 60 := by omega
      have ecl : (nI (oLen O)).toNatClampNeg = oLen O := nI_clamp (by omega)
      have v1 : ((h.set 2 (.inl (0, 60, .inl (upd lf (oLen O) x)))).set 1 (txC (nI (oLen O + 1)) c w ht sg dk))[1]? = some (txC (nI (oLen O + 1)) c w ht sg dk) := zg_eq (c := txC (nI (oLen O)) c w ht sg dk) (zg_ne (by omega) t1)
      have E : CX ((h.set 2 (.inl (0, 60, .inl (upd lf (oLen O) x)))).set 1 (txC (nI (oLen O + 1)) c w ht sg dk)) (nLen O (upd (oT O) (oLen O) x) (oLen O + 1)) := a.text (fun j hj => zg_ne (by omega) (zg_ne (by omega) rfl)) (zg_ne (by omega) (zg_ne (by omega) rfl)) ⟨c, w, ht, sg, dk, upd lf (oLen O) x, kf, v1, zg_ne (by omega) (zg_eq t2), zg_ne (by omega) (zg_ne (by omega) t3), fun i hi => by
        by_cases e : i = oLen O
        · simp [upd, e]
        · simp only [upd, e, if_false]; exact t4 i (by omega)⟩
      have ca : Run l g mT_add d 0 0 [.ref 1, .int x] h (PI 1 ((h.set 2 (.inl (0, 60, .inl (upd lf (oLen O) x)))).set 1 (txC (nI (oLen O + 1)) c w ht sg dk))) := by
        refine run_of (by decide) (Nat.le_of_ble_eq_true rfl) ?_
        refine zw_aload_n dT_add_0 rfl ?_
        refine zw_get dT_add_1 zf_T_18 t1 rfl ?_
        refine zw_if_lt 16 dT_add_4 (by decide) (fun c_4 => ?_) (fun c_4 => ?_)
        · exact absurd c_4 (nI_pos (by omega))
        · refine zw_aload_n dT_add_7 rfl ?_
          refine zw_get dT_add_8 zf_T_18 t1 rfl ?_
          refine zw_bipush (v := 60) dT_add_11 (by decide) ?_
          refine zw_icmp_lt 18 dT_add_13 (by decide) (fun c_13 => ?_) (fun c_13 => ?_)
          · refine zw_aload_n dT_add_18 rfl ?_
            refine zw_get dT_add_19 zf_T_9 t1 rfl ?_
            refine zw_aload_n dT_add_22 rfl ?_
            refine zw_get dT_add_23 zf_T_18 t1 rfl ?_
            refine zw_iload_n dT_add_26 rfl ?_
            refine zw_iast dT_add_27 t2 (vp_in_nI hl59 (by decide)) ?_
            rw [ecl]
            refine zw_aload_n dT_add_28 rfl ?_
            refine zw_dup dT_add_29 rfl ?_
            refine zw_get dT_add_30 zf_T_18 (by exact zg_ne (by omega) t1) rfl ?_
            refine zw_iconst (v := 1) dT_add_33 (by decide) ?_
            refine zw_iadd dT_add_34 ?_
            rw [nI_1]
            refine zw_puti dT_add_35 zf_T_18 (by exact zg_ne (by omega) t1) (Nat.le_of_ble_eq_true rfl) ?_
            refine zw_h (h2 := (h.set 2 (.inl (0, 60, .inl (upd lf (oLen O) x)))).set 1 (txC (nI (oLen O + 1)) c w ht sg dk)) rfl ?_
            refine zw_iconst (v := 1) dT_add_38 (by decide) ?_
            exact zw_iret dT_add_39 rfl rfl (by simp) ⟨rfl, rfl⟩
          · exact absurd (nI_lt (b := 60) hl59 (by decide)) c_13
      refine zw_iload_n dF_type_0 rfl ?_
      refine zw_if_lt 11 dF_type_1 (by decide) (fun c_1 => ?_) (fun c_1 => ?_)
      · exact absurd c_1 (by rw [hxe]; exact nI_pos (by omega))
      · refine zw_iload_n dF_type_4 rfl ?_
        refine zw_sipush (v := 255) dF_type_5 (by decide) ?_
        refine zw_icmp_le 13 dF_type_8 (by decide) (fun c_8 => ?_) (fun c_8 => ?_)
        · refine zw_aload_n dF_type_13 rfl ?_
          refine zw_get dF_type_14 zf_F_12 (by first | exact h1 | exact t1) rfl ?_
          refine zw_iload_n dF_type_17 rfl ?_
          refine zc_V1I dF_type_18 zm_T_add zk_F_56 (by first | exact h1 | exact t1) rfl ca ?_ zRR (Nat.le_of_ble_eq_true rfl) ⟨Nat.le_of_ble_eq_true rfl, Nat.le_of_ble_eq_true rfl⟩
          refine zw_if_eq 34 dF_type_21 (by decide) (fun c_21 => ?_) (fun c_21 => ?_)
          · exact absurd c_21 (by decide)
          · refine zw_aload_n dF_type_24 rfl ?_
            refine zw_get dF_type_25 zf_F_12 (by first | exact E.1 | exact v1) rfl ?_
            refine zw_get dF_type_28 zf_F_64 (by first | exact E.1 | exact v1) rfl ?_
            refine zw_goto 36 dF_type_31 (by decide) ?_
            exact zw_iret dF_type_36 rfl rfl (by simp) ⟨rfl, E, (frC.set (by decide)).tr (frC.set (by decide)), by simp⟩
        · exact absurd (by rw [hxe]; exact nI_le (b := 255) hv (by decide)) c_8
end C38
