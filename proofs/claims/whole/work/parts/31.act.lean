def hOn (F : Fl) (a t : Nat) : Option Nat := fst (fun hd => nb F a hd == some t) 4 0
def nearB (F : Fl) (K : Nat → Bool) (a goal s : Nat) : Nat → Bool := fun hd => match s with
  | 0 => false
  | m + 1 => dst F K (nb F a hd) goal == some m
def hNr (F : Fl) (K : Nat → Bool) (a goal : Nat) : Option Nat := match dst F K (some a) goal with
  | none => none
  | some s => fst (nearB F K a goal s) 4 0
def nxt (F : Fl) (S : Sit) : Option Nat := match tgt F S with
  | some (t, gt, _, _) => if sAt S = gt then hOn F (sAt S) t else hNr F (kn1 S) (sAt S) gt
  | none => if sAt S = fD F then none else hNr F (kn1 S) (sAt S) (fD F)
def act (F : Fl) (S : Sit) : Nat × Sit :=
  if sAt S = fD F ∧ sCh S < sBrim S then (1, setCh S (min (sCh S + sRate S) (sBrim S)))
  else if sCh S = 0 then (0, S)
  else match nxt F S with
    | none => (0, S)
    | some hd => (2, stepS F S hd)
def thr (F : Fl) (S : Sit) : Bool := decide (sAt S = fD F) && decide (sCh S = sBrim S) && (tgt F S).isNone
theorem oI_eq {o : Option Nat} {t : Nat} (ho : oOK o) (ht : t < 36) : oI o = nI t ↔ o = some t := by
  cases o with
  | none =>
    constructor
    · intro h
      have : (-1 : Int32).toInt = (nI t).toInt := by rw [← h]; rfl
      rw [nI_toInt (by omega)] at this
      have h1 : (-1 : Int32).toInt = -1 := by decide
      omega
    · intro h; cases h
  | some c =>
    have := ho c rfl
    rw [show oI (some c) = nI c from rfl, nI_eq (by omega) (by omega)]
    simp
theorem dI_near {x : Option Nat} {s : Nat} (hx : ∀ k, x = some k → k < 36) (hs : s < 36) : dI x = nI s - 1 ↔ ∃ m, s = m + 1 ∧ x = some m := by
  have h1 : (nI s - 1).toInt = (s : Int) - 1 := pk_sub_toInt (b := 1) (by omega) (by decide)
  have h9 : (-9 : Int32).toInt = -9 := by decide
  cases x with
  | none =>
    constructor
    · intro h
      have : (-9 : Int32).toInt = (nI s - 1).toInt := by rw [← h]; rfl
      omega
    · rintro ⟨m, -, h⟩; cases h
  | some k =>
    have hk := hx k rfl
    constructor
    · intro h
      have : (nI k).toInt = (nI s - 1).toInt := by rw [← h]; rfl
      rw [nI_toInt (by omega)] at this
      exact ⟨k, by omega, rfl⟩
    · rintro ⟨m, rfl, h⟩
      cases h
      exact (nI_pred _).symm
theorem dst_lt {F : Fl} {K : Nat → Bool} {a : Option Nat} {c k : Nat} (h : dst F K a c = some k) : k < 36 := (dst_some.mp h).1
section C31
variable {l : Launch} {g : zG} {d : Nat} {h : zH} {F : Fl} {S : Sit} {k : Nat}
theorem c_P_handOnto (hF : fOK F) (hG : h[4]? = some (gC F)) (hS : h[k]? = some (sitC k S)) (hat : sAt S < fN F) {t : Nat} (ht : t < 36) : Run l g mP_handOnto (d + 3) 0 0 [.ref k, .int (nI t)] h (PI (oI (hOn F (sAt S) t)) h) := by
  refine run_of (by decide) (Nat.le_of_ble_eq_true rfl) ?_
  have L : ∀ (m i : Nat), i + m = 4 → fst (fun hd => nb F (sAt S) hd == some t) m i = hOn F (sAt S) t → WW l g mP_handOnto (zrm (d + 3) 0 0) (fun _ => True) (zQQ g (PI (oI (hOn F (sAt S) t)) h) (h.length + 0) 0 0) 2 [(0, some (.ref k)), (1, some (.int (nI t))), (2, some (.int (nI i)))] [] h 0 0 := by
    intro m
    induction m with
    | zero =>
      intro i him hfs
      have hi : i = 4 := by omega
      subst hi
      refine zw_iload_n dP_handOnto_2 rfl ?_
      refine zw_iconst (v := 4) dP_handOnto_3 (by decide) ?_
      refine zw_icmp_ge 31 dP_handOnto_4 (by decide) (fun c_4 => ?_) (fun c_4 => ?_)
      · refine zw_iconst (v := (-1)) dP_handOnto_31 (by decide) ?_
        exact zw_iret dP_handOnto_32 rfl rfl rfl ⟨by rw [← hfs]; rfl, rfl⟩
      · exact absurd (by decide) c_4
    | succ m ih =>
      intro i him hfs
      have hi : i < 4 := by omega
      have hO := (nb_ok hF hat hi).2
      refine zw_iload_n dP_handOnto_2 rfl ?_
      refine zw_iconst (v := 4) dP_handOnto_3 (by decide) ?_
      refine zw_icmp_ge 31 dP_handOnto_4 (by decide) (fun c_4 => ?_) (fun c_4 => ?_)
      · exact absurd ((nI_leI (a := 4) (b := i) (by omega) (by omega)).mp c_4) (by omega)
      · refine zw_aload_n dP_handOnto_7 rfl ?_
        refine zw_get dP_handOnto_8 zf_P_15 (by first | exact hS | exact hG) rfl ?_
        refine zw_aload_n dP_handOnto_11 rfl ?_
        refine zw_get dP_handOnto_12 zf_P_9 (by first | exact hS | exact hG) rfl ?_
        refine zw_iload_n dP_handOnto_15 rfl ?_
        refine zc_V2I dP_handOnto_16 zm_G_cellBeside zk_P_66 (by first | exact hS | exact hG) rfl (c_G_cellBeside hF hG hat hi) ?_ zRR (Nat.le_of_ble_eq_true rfl) ⟨Nat.le_of_ble_eq_true rfl, Nat.le_of_ble_eq_true rfl⟩
        refine zw_iload_n dP_handOnto_19 rfl ?_
        refine zw_icmp_ne 25 dP_handOnto_20 (by decide) (fun c_20 => ?_) (fun c_20 => ?_)
        · refine zw_incN dP_handOnto_25 rfl (by decide) rfl ?_
          refine zw_goto 2 dP_handOnto_28 (by decide) ?_
          exact zw_lk (ih (i + 1) (by omega) (by rw [← hfs, fst_f (by rw [beq_eq_false_iff_ne]; exact fun q => c_20 ((oI_eq hO ht).mpr q))])) ⟨rfl, rfl, rfl, trivial⟩
        · refine zw_iload_n dP_handOnto_23 rfl ?_
          exact zw_iret dP_handOnto_24 rfl rfl rfl ⟨by rw [← hfs, fst_t (by rw [beq_iff_eq]; exact (oI_eq hO ht).mp (Classical.byContradiction fun q => q c_20))]; rfl, rfl⟩
  refine zw_iconst (v := 0) dP_handOnto_0 (by decide) ?_
  refine zw_istore_n dP_handOnto_1 (by decide) rfl ?_
  exact zw_lk (L 4 0 rfl rfl) ⟨rfl, rfl, rfl, trivial⟩
theorem c_P_handNearer (hF : fOK F) (hG : h[4]? = some (gC F)) (hS : h[k]? = some (sitC k S)) (hat : sAt S < fN F) (hK : sub F (kn1 S)) {c : Nat} (hc : c < 36) : Run l g mP_handNearer (d + 3) 0 0 [.ref k, .int (nI c)] h (PI (oI (hNr F (kn1 S) (sAt S) c)) h) := by
  refine run_of (by decide) (Nat.le_of_ble_eq_true rfl) ?_
  have hn := fN_le hF
  have haO : oOK (some (sAt S)) := oOK_some (by omega)
  cases hd0 : dst F (kn1 S) (some (sAt S)) c with
  | none =>
    have e : hNr F (kn1 S) (sAt S) c = none := by unfold hNr; rw [hd0]
    rw [e]
    have c1 := c_G_stepsBetween (l := l) (g := g) (d := d + 1) hF hG hK haO hc
    rw [hd0] at c1
    refine zw_aload_n dP_handNearer_0 rfl ?_
    refine zw_get dP_handNearer_1 zf_P_15 (by first | exact hS | exact hG) rfl ?_
    refine zw_aload_n dP_handNearer_4 rfl ?_
    refine zw_get dP_handNearer_5 zf_P_9 (by first | exact hS | exact hG) rfl ?_
    refine zw_iload_n dP_handNearer_8 rfl ?_
    refine zw_aload_n dP_handNearer_9 rfl ?_
    refine zw_get dP_handNearer_10 zf_P_69 (by first | exact hS | exact hG) rfl ?_
    refine zc_V3I dP_handNearer_13 zm_G_stepsBetween zk_P_73 (by first | exact hS | exact hG) rfl c1 ?_ zRR (Nat.le_of_ble_eq_true rfl) ⟨Nat.le_of_ble_eq_true rfl, Nat.le_of_ble_eq_true rfl⟩
    refine zw_istore_n dP_handNearer_16 (by decide) rfl ?_
    refine zw_iload_n dP_handNearer_17 rfl ?_
    refine zw_bipush (v := (-9)) dP_handNearer_18 (by decide) ?_
    refine zw_icmp_ne 25 dP_handNearer_20 (by decide) (fun c_20 => ?_) (fun c_20 => ?_)
    · exact absurd rfl c_20
    · refine zw_iconst (v := (-1)) dP_handNearer_23 (by decide) ?_
      exact zw_iret dP_handNearer_24 rfl rfl rfl ⟨rfl, rfl⟩
  | some s =>
    have hs := dst_lt hd0
    have c1 := c_G_stepsBetween (l := l) (g := g) (d := d + 1) hF hG hK haO hc
    rw [hd0] at c1
    have e : hNr F (kn1 S) (sAt S) c = fst (nearB F (kn1 S) (sAt S) c s) 4 0 := by unfold hNr; rw [hd0]
    rw [e]
    have L : ∀ (m i : Nat), i + m = 4 → fst (nearB F (kn1 S) (sAt S) c s) m i = fst (nearB F (kn1 S) (sAt S) c s) 4 0 → WW l g mP_handNearer (zrm (d + 3) 0 0) (fun _ => True) (zQQ g (PI (oI (fst (nearB F (kn1 S) (sAt S) c s) 4 0)) h) (h.length + 0) 0 0) 27 [(0, some (.ref k)), (1, some (.int (nI c))), (2, some (.int (nI s))), (3, some (.int (nI i)))] [] h 0 0 := by
      intro m
      induction m with
      | zero =>
        intro i him hfs
        have hi : i = 4 := by omega
        subst hi
        refine zw_iload_n dP_handNearer_27 rfl ?_
        refine zw_iconst (v := 4) dP_handNearer_28 (by decide) ?_
        refine zw_icmp_ge 74 dP_handNearer_29 (by decide) (fun c_29 => ?_) (fun c_29 => ?_)
        · refine zw_iconst (v := (-1)) dP_handNearer_74 (by decide) ?_
          exact zw_iret dP_handNearer_75 rfl rfl rfl ⟨by rw [← hfs]; rfl, rfl⟩
        · exact absurd (by decide) c_29
      | succ m ih =>
        intro i him hfs
        have hi : i < 4 := by omega
        have hO := (nb_ok hF hat hi).2
        have hkey := dI_near (x := dst F (kn1 S) (nb F (sAt S) i) c) (fun k e => dst_lt e) hs
        refine zw_iload_n dP_handNearer_27 rfl ?_
        refine zw_iconst (v := 4) dP_handNearer_28 (by decide) ?_
        refine zw_icmp_ge 74 dP_handNearer_29 (by decide) (fun c_29 => ?_) (fun c_29 => ?_)
        · exact absurd ((nI_leI (a := 4) (b := i) (by omega) (by omega)).mp c_29) (by omega)
        · refine zw_aload_n dP_handNearer_32 rfl ?_
          refine zw_get dP_handNearer_33 zf_P_15 (by first | exact hS | exact hG) rfl ?_
          refine zw_aload_n dP_handNearer_36 rfl ?_
          refine zw_get dP_handNearer_37 zf_P_9 (by first | exact hS | exact hG) rfl ?_
          refine zw_iload_n dP_handNearer_40 rfl ?_
          refine zc_V2I dP_handNearer_41 zm_G_cellBeside zk_P_66 (by first | exact hS | exact hG) rfl (c_G_cellBeside hF hG hat hi) ?_ zRR (Nat.le_of_ble_eq_true rfl) ⟨Nat.le_of_ble_eq_true rfl, Nat.le_of_ble_eq_true rfl⟩
          refine zw_istore dP_handNearer_44 (by decide) rfl ?_
          refine zw_aload_n dP_handNearer_46 rfl ?_
          refine zw_get dP_handNearer_47 zf_P_15 (by first | exact hS | exact hG) rfl ?_
          refine zw_iload dP_handNearer_50 rfl ?_
          refine zw_iload_n dP_handNearer_52 rfl ?_
          refine zw_aload_n dP_handNearer_53 rfl ?_
          refine zw_get dP_handNearer_54 zf_P_69 (by first | exact hS | exact hG) rfl ?_
          refine zc_V3I dP_handNearer_57 zm_G_stepsBetween zk_P_73 (by first | exact hS | exact hG) rfl (c_G_stepsBetween hF hG hK hO hc) ?_ zRR (Nat.le_of_ble_eq_true rfl) ⟨Nat.le_of_ble_eq_true rfl, Nat.le_of_ble_eq_true rfl⟩
          refine zw_iload_n dP_handNearer_60 rfl ?_
          refine zw_iconst (v := 1) dP_handNearer_61 (by decide) ?_
          refine zw_isub dP_handNearer_62 ?_
          refine zw_icmp_ne 68 dP_handNearer_63 (by decide) (fun c_63 => ?_) (fun c_63 => ?_)
          · refine zw_incN dP_handNearer_68 rfl (by decide) rfl ?_
            refine zw_goto 27 dP_handNearer_71 (by decide) ?_
            have hno : nearB F (kn1 S) (sAt S) c s i = false := by
              cases hq : nearB F (kn1 S) (sAt S) c s i with
              | false => rfl
              | true =>
                exfalso
                cases s with
                | zero => cases hq
                | succ m' => exact c_63 (hkey.mpr ⟨m', rfl, by simpa [nearB] using hq⟩)
            exact zw_lk (ih (i + 1) (by omega) (by rw [← hfs, fst_f hno])) ⟨rfl, rfl, rfl, rfl, trivial⟩
          · obtain ⟨m', hm1, hm2⟩ := hkey.mp (Classical.byContradiction fun q => q c_63)
            refine zw_iload_n dP_handNearer_66 rfl ?_
            exact zw_iret dP_handNearer_67 rfl rfl rfl ⟨by rw [← hfs, fst_t (by rw [hm1]; simp [nearB, hm2])]; rfl, rfl⟩
    refine zw_aload_n dP_handNearer_0 rfl ?_
    refine zw_get dP_handNearer_1 zf_P_15 (by first | exact hS | exact hG) rfl ?_
    refine zw_aload_n dP_handNearer_4 rfl ?_
    refine zw_get dP_handNearer_5 zf_P_9 (by first | exact hS | exact hG) rfl ?_
    refine zw_iload_n dP_handNearer_8 rfl ?_
    refine zw_aload_n dP_handNearer_9 rfl ?_
    refine zw_get dP_handNearer_10 zf_P_69 (by first | exact hS | exact hG) rfl ?_
    refine zc_V3I dP_handNearer_13 zm_G_stepsBetween zk_P_73 (by first | exact hS | exact hG) rfl c1 ?_ zRR (Nat.le_of_ble_eq_true rfl) ⟨Nat.le_of_ble_eq_true rfl, Nat.le_of_ble_eq_true rfl⟩
    refine zw_istore_n dP_handNearer_16 (by decide) rfl ?_
    refine zw_iload_n dP_handNearer_17 rfl ?_
    refine zw_bipush (v := (-9)) dP_handNearer_18 (by decide) ?_
    refine zw_icmp_ne 25 dP_handNearer_20 (by decide) (fun c_20 => ?_) (fun c_20 => ?_)
    · refine zw_iconst (v := 0) dP_handNearer_25 (by decide) ?_
      refine zw_istore_n dP_handNearer_26 (by decide) rfl ?_
      exact zw_lk (L 4 0 rfl rfl) ⟨rfl, rfl, rfl, rfl, trivial⟩
    · have h9 : (-9 : Int32).toInt = -9 := by decide
      have h1 : (nI s).toInt = (-9 : Int32).toInt := by rw [show nI s = -9 from c_20]
      rw [nI_toInt (by omega)] at h1
      omega
theorem tgt_lt (hF : fOK F) (hK : sub F (kn1 S)) {t gt w b : Nat} (e : tgt F S = some (t, gt, w, b)) : t < 36 ∧ gt < 36 := by
  unfold tgt at e
  cases h1 : fst (tHas F S) 36 0 with
  | none => rw [h1] at e; cases e
  | some s =>
    rw [h1] at e; dsimp only at e
    cases h2 : fst (tgs F S s) 36 0 with
    | none => rw [h2] at e; cases e
    | some t' =>
      rw [h2] at e; dsimp only at e
      cases h3 : fst (gat F S s t') 36 0 with
      | none => rw [h3] at e; cases e
      | some g' =>
        rw [h3] at e; dsimp only at e
        cases h4 : dst F (kn1 S) (some g') (fD F) with
        | none => rw [h4] at e; cases e
        | some b' =>
          rw [h4] at e
          cases e
          have a1 := (fst_some.mp h2).2.1
          have a2 := (fst_some.mp h3).2.1
          exact ⟨by omega, by omega⟩
theorem c_P_nextHand {p0 p1 p2 p3 : Int32} (hk9 : k ≠ 9 ∧ k + 1 ≠ 9) (hF : fOK F) (hG : h[4]? = some (gC F)) (hS : h[k]? = some (sitC k S)) (hK : sub F (kn1 S)) (hat : sAt S < fN F) (hch : sCh S ≤ 99) (hPi : h[9]? = some (pilC p0 p1 p2 p3)) : Run l g mP_nextHand (d + 5) 0 0 [.ref 9, .ref k] h (PI (oI (nxt F S)) (pilH (tgt F S) h)) := by
  refine run_of (by decide) (Nat.le_of_ble_eq_true rfl) ?_
  have hn := fN_le hF
  have hd36 : fD F < 36 := by have := hF.2.2.1; omega
  have cf := c_P_findsTarget (l := l) (g := g) (d := d) hk9 hF hG hS hK hat hch hPi
  cases ht : tgt F S with
  | none =>
    rw [ht] at cf
    have e : nxt F S = if sAt S = fD F then none else hNr F (kn1 S) (sAt S) (fD F) := by unfold nxt; rw [ht]
    rw [e]
    refine zw_aload_n dP_nextHand_0 rfl ?_
    refine zw_aload_n dP_nextHand_1 rfl ?_
    refine zc_V1I dP_nextHand_2 zm_P_findsTarget zk_P_49 (by first | exact hPi | exact hS | exact hG) rfl cf ?_ zRR (Nat.le_of_ble_eq_true rfl) ⟨Nat.le_of_ble_eq_true rfl, Nat.le_of_ble_eq_true rfl⟩
    refine zw_if_eq 39 dP_nextHand_5 (by decide) (fun c_5 => ?_) (fun c_5 => ?_)
    · refine zw_aload_n dP_nextHand_39 rfl ?_
      refine zw_get dP_nextHand_40 zf_P_9 (by first | exact hPi | exact hS | exact hG) rfl ?_
      refine zw_aload_n dP_nextHand_43 rfl ?_
      refine zw_get dP_nextHand_44 zf_P_15 (by first | exact hPi | exact hS | exact hG) rfl ?_
      refine zw_get dP_nextHand_47 zf_P_19 (by first | exact hPi | exact hS | exact hG) rfl ?_
      refine zw_icmp_ne 57 dP_nextHand_50 (by decide) (fun c_50 => ?_) (fun c_50 => ?_)
      · refine zw_aload_n dP_nextHand_57 rfl ?_
        refine zw_aload_n dP_nextHand_58 rfl ?_
        refine zw_get dP_nextHand_59 zf_P_15 (by first | exact hPi | exact hS | exact hG) rfl ?_
        refine zw_get dP_nextHand_62 zf_P_19 (by first | exact hPi | exact hS | exact hG) rfl ?_
        refine zc_S2I dP_nextHand_65 zm_P_handNearer zk_P_63 (c_P_handNearer hF hG hS hat hK hd36) ?_ zRR (Nat.le_of_ble_eq_true rfl) ⟨Nat.le_of_ble_eq_true rfl, Nat.le_of_ble_eq_true rfl⟩
        exact zw_iret dP_nextHand_68 rfl rfl rfl ⟨by first | (rw [if_pos ((nI_eq (by omega) (by omega)).mp (Classical.byContradiction fun q => q c_50))]; rfl) | (rw [if_neg (fun q => c_50 (by rw [q]))]), rfl⟩
      · refine zw_iconst (v := (-1)) dP_nextHand_53 (by decide) ?_
        refine zw_goto 68 dP_nextHand_54 (by decide) ?_
        exact zw_iret dP_nextHand_68 rfl rfl rfl ⟨by first | (rw [if_pos ((nI_eq (by omega) (by omega)).mp (Classical.byContradiction fun q => q c_50))]; rfl) | (rw [if_neg (fun q => c_50 (by rw [q]))]), rfl⟩
    · exact absurd rfl c_5
  | some x =>
    obtain ⟨t, gt, w, b⟩ := x
    rw [ht] at cf
    obtain ⟨hl1, hl2⟩ := tgt_lt hF hK ht
    have e : nxt F S = if sAt S = gt then hOn F (sAt S) t else hNr F (kn1 S) (sAt S) gt := by unfold nxt; rw [ht]
    rw [e]
    have hP1 : (pilH (some (t, gt, w, b)) h)[9]? = some (pilC (nI t) (nI gt) (nI w) (nI b)) := zg_eq hPi
    have hS1 : (pilH (some (t, gt, w, b)) h)[k]? = some (sitC k S) := zg_ne (Ne.symm hk9.1) hS
    have hG1 : (pilH (some (t, gt, w, b)) h)[4]? = some (gC F) := zg_ne (by omega) hG
    refine zw_aload_n dP_nextHand_0 rfl ?_
    refine zw_aload_n dP_nextHand_1 rfl ?_
    refine zc_V1I dP_nextHand_2 zm_P_findsTarget zk_P_49 hPi rfl cf ?_ zRR (Nat.le_of_ble_eq_true rfl) ⟨Nat.le_of_ble_eq_true rfl, Nat.le_of_ble_eq_true rfl⟩
    refine zw_if_eq 39 dP_nextHand_5 (by decide) (fun c_5 => ?_) (fun c_5 => ?_)
    · exact absurd c_5 (show ¬ (1 : Int32) = 0 by decide)
    · refine zw_aload_n dP_nextHand_8 rfl ?_
      refine zw_get dP_nextHand_9 zf_P_9 (by first | exact hP1 | exact hS1 | exact hG1) rfl ?_
      refine zw_aload_n dP_nextHand_12 rfl ?_
      refine zw_get dP_nextHand_13 zf_P_53 (by first | exact hP1 | exact hS1 | exact hG1) rfl ?_
      refine zw_icmp_ne 30 dP_nextHand_16 (by decide) (fun c_16 => ?_) (fun c_16 => ?_)
      · refine zw_aload_n dP_nextHand_30 rfl ?_
        refine zw_aload_n dP_nextHand_31 rfl ?_
        refine zw_get dP_nextHand_32 zf_P_53 (by first | exact hP1 | exact hS1 | exact hG1) rfl ?_
        refine zc_S2I dP_nextHand_35 zm_P_handNearer zk_P_63 (c_P_handNearer hF hG1 hS1 hat hK hl2) ?_ zRR (Nat.le_of_ble_eq_true rfl) ⟨Nat.le_of_ble_eq_true rfl, Nat.le_of_ble_eq_true rfl⟩
        exact zw_iret dP_nextHand_38 rfl rfl (by simp [pilH]) ⟨by first | (rw [if_pos ((nI_eq (by omega) (by omega)).mp (Classical.byContradiction fun q => q c_16))]) | (rw [if_neg (fun q => c_16 (by rw [q]))]), rfl⟩
      · refine zw_aload_n dP_nextHand_19 rfl ?_
        refine zw_aload_n dP_nextHand_20 rfl ?_
        refine zw_get dP_nextHand_21 zf_P_56 (by first | exact hP1 | exact hS1 | exact hG1) rfl ?_
        refine zc_S2I dP_nextHand_24 zm_P_handOnto zk_P_59 (c_P_handOnto hF hG1 hS1 hat hl1) ?_ zRR (Nat.le_of_ble_eq_true rfl) ⟨Nat.le_of_ble_eq_true rfl, Nat.le_of_ble_eq_true rfl⟩
        refine zw_goto 38 dP_nextHand_27 (by decide) ?_
        exact zw_iret dP_nextHand_38 rfl rfl (by simp [pilH]) ⟨by first | (rw [if_pos ((nI_eq (by omega) (by omega)).mp (Classical.byContradiction fun q => q c_16))]) | (rw [if_neg (fun q => c_16 (by rw [q]))]), rfl⟩
/-- any contents of the pilot -/
def pilA (h h' : zH) : Prop := ∃ q0 q1 q2 q3 : Int32, h' = h.set 9 (pilC q0 q1 q2 q3)
theorem pilA_self {p0 p1 p2 p3 : Int32} (hPi : h[9]? = some (pilC p0 p1 p2 p3)) : pilA h h := ⟨p0, p1, p2, p3, (zs_self hPi).symm⟩
theorem pilA_H {p0 p1 p2 p3 : Int32} (hPi : h[9]? = some (pilC p0 p1 p2 p3)) (o : Option (Nat × Nat × Nat × Nat)) : pilA h (pilH o h) := by
  cases o with
  | none => exact pilA_self hPi
  | some x => obtain ⟨t, gt, w, b⟩ := x; exact ⟨_, _, _, _, rfl⟩
theorem c_P_isThrough {p0 p1 p2 p3 : Int32} (hk9 : k ≠ 9 ∧ k + 1 ≠ 9) (hF : fOK F) (hG : h[4]? = some (gC F)) (hS : h[k]? = some (sitC k S)) (hK : sub F (kn1 S)) (hat : sAt S < fN F) (hch : sCh S ≤ 99) (hPi : h[9]? = some (pilC p0 p1 p2 p3)) (hbr : sBrim S ≤ 99) : Run l g mP_isThrough (d + 5) 0 0 [.ref 9, .ref k] h (fun v h' => v = some (.int (if thr F S = true then 1 else 0)) ∧ pilA h h') := by
  refine run_of (by decide) (Nat.le_of_ble_eq_true rfl) ?_
  have hn := fN_le hF
  have hd36 : fD F < 36 := by have := hF.2.2.1; omega
  have cf := c_P_findsTarget (l := l) (g := g) (d := d) hk9 hF hG hS hK hat hch hPi
  have hlen : (pilH (tgt F S) h).length = h.length := by cases tgt F S with | none => rfl | some x => obtain ⟨t, gt, w, b⟩ := x; simp [pilH]
  have hself := pilA_self hPi
  have hH := pilA_H hPi (tgt F S)
  generalize pilH (tgt F S) h = hx at cf hlen hH
  refine zw_aload_n dP_isThrough_0 rfl ?_
  refine zw_get dP_isThrough_1 zf_P_9 (by first | exact hPi | exact hS | exact hG) rfl ?_
  refine zw_aload_n dP_isThrough_4 rfl ?_
  refine zw_get dP_isThrough_5 zf_P_15 (by first | exact hPi | exact hS | exact hG) rfl ?_
  refine zw_get dP_isThrough_8 zf_P_19 (by first | exact hPi | exact hS | exact hG) rfl ?_
  refine zw_icmp_ne 37 dP_isThrough_11 (by decide) (fun c_11 => ?_) (fun c_11 => ?_)
  · refine zw_iconst (v := 0) dP_isThrough_37 (by decide) ?_
    have e : thr F S = false := by
      first
        | (have h1 : ¬ sAt S = fD F := fun q => c_11 (by rw [q])
           simp [thr, h1]; done)
        | (have h1 : ¬ sCh S = sBrim S := fun q => c_22 (by rw [q])
           simp [thr, h1]; done)
        | (cases ht : tgt F S with
           | none => rw [ht] at c_30; exact absurd rfl c_30
           | some x => simp [thr, ht])
    exact zw_iret dP_isThrough_38 rfl rfl (by first | rfl | exact hlen) ⟨by rw [e]; rfl, by first | exact hself | exact hH⟩
  · refine zw_aload_n dP_isThrough_14 rfl ?_
    refine zw_get dP_isThrough_15 zf_P_24 (by first | exact hPi | exact hS | exact hG) rfl ?_
    refine zw_aload_n dP_isThrough_18 rfl ?_
    refine zw_get dP_isThrough_19 zf_P_27 (by first | exact hPi | exact hS | exact hG) rfl ?_
    refine zw_icmp_ne 37 dP_isThrough_22 (by decide) (fun c_22 => ?_) (fun c_22 => ?_)
    · refine zw_iconst (v := 0) dP_isThrough_37 (by decide) ?_
      have e : thr F S = false := by
        first
          | (have h1 : ¬ sAt S = fD F := fun q => c_11 (by rw [q])
             simp [thr, h1]; done)
          | (have h1 : ¬ sCh S = sBrim S := fun q => c_22 (by rw [q])
             simp [thr, h1]; done)
          | (cases ht : tgt F S with
             | none => rw [ht] at c_30; exact absurd rfl c_30
             | some x => simp [thr, ht])
      exact zw_iret dP_isThrough_38 rfl rfl (by first | rfl | exact hlen) ⟨by rw [e]; rfl, by first | exact hself | exact hH⟩
    · refine zw_aload_n dP_isThrough_25 rfl ?_
      refine zw_aload_n dP_isThrough_26 rfl ?_
      refine zc_V1I dP_isThrough_27 zm_P_findsTarget zk_P_49 (by first | exact hPi | exact hS | exact hG) rfl cf ?_ zRR (Nat.le_of_ble_eq_true rfl) ⟨Nat.le_of_ble_eq_true rfl, Nat.le_of_ble_eq_true rfl⟩
      refine zw_if_ne 37 dP_isThrough_30 (by decide) (fun c_30 => ?_) (fun c_30 => ?_)
      · refine zw_iconst (v := 0) dP_isThrough_37 (by decide) ?_
        have e : thr F S = false := by
          first
            | (have h1 : ¬ sAt S = fD F := fun q => c_11 (by rw [q])
               simp [thr, h1]; done)
            | (have h1 : ¬ sCh S = sBrim S := fun q => c_22 (by rw [q])
               simp [thr, h1]; done)
            | (cases ht : tgt F S with
               | none => rw [ht] at c_30; exact absurd rfl c_30
               | some x => simp [thr, ht])
        exact zw_iret dP_isThrough_38 rfl rfl (by first | rfl | exact hlen) ⟨by rw [e]; rfl, by first | exact hself | exact hH⟩
      · refine zw_iconst (v := 1) dP_isThrough_33 (by decide) ?_
        refine zw_goto 38 dP_isThrough_34 (by decide) ?_
        have e : thr F S = true := by
          have h1 := (nI_eq (by omega) (by omega)).mp (Classical.byContradiction fun q => q c_11)
          have h2 := (nI_eq (by omega) (by omega)).mp (Classical.byContradiction fun q => q c_22)
          cases ht : tgt F S with
          | none => simp [thr, h1, h2, ht]
          | some x => rw [ht] at c_30; exact absurd c_30 (show ¬ (1 : Int32) = 0 by decide)
        exact zw_iret dP_isThrough_38 rfl rfl hlen ⟨by rw [if_pos e], hH⟩
theorem c_P_act {p0 p1 p2 p3 : Int32} (hk4 : k ≠ 4 ∧ k + 1 ≠ 4) (hk9 : k ≠ 9 ∧ k + 1 ≠ 9) (hF : fOK F) (hG : h[4]? = some (gC F)) (hS : h[k]? = some (sitC k S)) (hK : sub F (kn1 S)) (hat : sAt S < fN F) (hch : sCh S ≤ 99) (hPi : h[9]? = some (pilC p0 p1 p2 p3)) (hp : h[k + 1]? = some (plC S)) (hbr : sBrim S ≤ 99) (hrt : sRate S ≤ 20) : Run l g mP_act (d + 6) 0 0 [.ref 9, .ref k] h (fun v h' => v = some (.int (nI (act F S).1)) ∧ ∃ h1, pilA h h1 ∧ h' = hs2 k (act F S).2 h1) := by
  refine run_of (by decide) (Nat.le_of_ble_eq_true rfl) ?_
  have hn := fN_le hF
  have hd36 : fD F < 36 := by have := hF.2.2.1; omega
  have cn := c_P_nextHand (l := l) (g := g) (d := d) hk9 hF hG hS hK hat hch hPi
  have hlen : (pilH (tgt F S) h).length = h.length := by cases tgt F S with | none => rfl | some x => obtain ⟨t, gt, w, b⟩ := x; simp [pilH]
  have hself := pilA_self hPi
  have hH := pilA_H hPi (tgt F S)
  generalize pilH (tgt F S) h = hx at cn hlen hH
  obtain ⟨q0, q1, q2, q3, hxe⟩ := hH
  have hH : pilA h hx := ⟨q0, q1, q2, q3, hxe⟩
  have hG1 : hx[4]? = some (gC F) := by rw [hxe]; exact zg_ne (by omega) hG
  have hS1 : hx[k]? = some (sitC k S) := by rw [hxe]; exact zg_ne (Ne.symm hk9.1) hS
  have hp1 : hx[k + 1]? = some (plC S) := by rw [hxe]; exact zg_ne (Ne.symm hk9.2) hp
  by_cases hA : sAt S = fD F ∧ sCh S < sBrim S
  · have e : act F S = (1, setCh S (min (sCh S + sRate S) (sBrim S))) := by unfold act; rw [if_pos hA]
    rw [e]
    have emin : (if nI (sBrim S) < nI (sCh S + sRate S) then nI (sBrim S) else nI (sCh S + sRate S)) = nI (min (sCh S + sRate S) (sBrim S)) := by
      rcases Nat.lt_or_ge (sBrim S) (sCh S + sRate S) with q | q
      · rw [if_pos (nI_lt q (by omega)), show min (sCh S + sRate S) (sBrim S) = sBrim S by omega]
      · rw [if_neg (nI_nlt q (by omega)), show min (sCh S + sRate S) (sBrim S) = sCh S + sRate S by omega]
    generalize min (sCh S + sRate S) (sBrim S) = nc at emin
    refine zw_aload_n dP_act_0 rfl ?_
    refine zw_get dP_act_1 zf_P_9 (by first | exact hS | exact hG) rfl ?_
    refine zw_aload_n dP_act_4 rfl ?_
    refine zw_get dP_act_5 zf_P_15 (by first | exact hS | exact hG) rfl ?_
    refine zw_get dP_act_8 zf_P_19 (by first | exact hS | exact hG) rfl ?_
    refine zw_icmp_ne 47 dP_act_11 (by decide) (fun c_11 => ?_) (fun c_11 => ?_)
    · exact absurd (by rw [hA.1]) c_11
    · refine zw_aload_n dP_act_14 rfl ?_
      refine zw_get dP_act_15 zf_P_24 (by first | exact hS | exact hG) rfl ?_
      refine zw_aload_n dP_act_18 rfl ?_
      refine zw_get dP_act_19 zf_P_27 (by first | exact hS | exact hG) rfl ?_
      refine zw_icmp_ge 47 dP_act_22 (by decide) (fun c_22 => ?_) (fun c_22 => ?_)
      · exact absurd ((nI_leI (by omega) (by omega)).mp c_22) (by omega)
      · refine zw_aload_n dP_act_25 rfl ?_
        refine zw_aload_n dP_act_26 rfl ?_
        refine zw_get dP_act_27 zf_P_24 (by first | exact hS | exact hG) rfl ?_
        refine zw_aload_n dP_act_30 rfl ?_
        refine zw_get dP_act_31 zf_P_30 (by first | exact hS | exact hG) rfl ?_
        refine zw_iadd dP_act_34 ?_
        rw [nI_add]
        refine zw_aload_n dP_act_35 rfl ?_
        refine zw_get dP_act_36 zf_P_27 (by first | exact hS | exact hG) rfl ?_
        refine zw_mmin dP_act_39 zmm_P_33 ⟨Nat.succ_le_succ (Nat.zero_le _), by show 38 ≤ 38 * _; omega⟩ (Nat.le_of_ble_eq_true rfl) ⟨Nat.le_of_ble_eq_true rfl, Nat.le_of_ble_eq_true rfl⟩ ?_
        rw [emin]
        refine zw_puti dP_act_42 zf_P_24 (by first | exact hS | exact hG) (Nat.le_of_ble_eq_true rfl) ?_
        refine zw_h (h2 := hs2 k (setCh S nc) h) (hs2_sit (S := S) rfl rfl hp) ?_
        refine zw_iconst (v := 1) dP_act_45 (by decide) ?_
        exact zw_iret dP_act_46 rfl rfl (by rw [hs2_len]; rfl) ⟨rfl, h, hself, rfl⟩
  · have cutA : ∀ (P : Prop), (nI (sAt S) ≠ nI (fD F) → P) → (nI (sBrim S) ≤ nI (sCh S) → P) → P := by
      intro P f1 f2
      by_cases h1 : sAt S = fD F
      · exact f2 (nI_le (by have : ¬ sCh S < sBrim S := fun q => hA ⟨h1, q⟩; omega) (by omega))
      · exact f1 (fun q => h1 ((nI_eq (by omega) (by omega)).mp q))
    have E : WW l g mP_act (zrm (d + 6) 0 0) (fun _ => True) (zQQ g (fun v h' => v = some (.int (nI (act F S).1)) ∧ ∃ h1, pilA h h1 ∧ h' = hs2 k (act F S).2 h1) (h.length + 0) 0 0) 47 [(0, some (.ref 9)), (1, some (.ref k))] [] h 0 0 := by
      by_cases h0 : sCh S = 0
      · have e : act F S = (0, S) := by unfold act; rw [if_neg hA, if_pos h0]
        rw [e]
        refine zw_aload_n dP_act_47 rfl ?_
        refine zw_get dP_act_48 zf_P_24 (by first | exact hS | exact hG) rfl ?_
        refine zw_if_gt 56 dP_act_51 (by decide) (fun c_51 => ?_) (fun c_51 => ?_)
        · exact absurd c_51 (by rw [show sCh S = 0 from h0]; decide)
        · refine zw_iconst (v := 0) dP_act_54 (by decide) ?_
          exact zw_iret dP_act_55 rfl rfl rfl ⟨rfl, h, hself, (hs2_self hS hp).symm⟩
      · have hc0 : 0 < sCh S := by omega
        cases hx2 : nxt F S with
        | none =>
          have e : act F S = (0, S) := by unfold act; rw [if_neg hA, if_neg h0, hx2]
          rw [e]
          rw [hx2] at cn
          refine zw_aload_n dP_act_47 rfl ?_
          refine zw_get dP_act_48 zf_P_24 (by first | exact hPi | exact hS | exact hG) rfl ?_
          refine zw_if_gt 56 dP_act_51 (by decide) (fun c_51 => ?_) (fun c_51 => ?_)
          · refine zw_aload_n dP_act_56 rfl ?_
            refine zw_aload_n dP_act_57 rfl ?_
            refine zc_V1I dP_act_58 zm_P_nextHand zk_P_39 (by first | exact hPi | exact hS | exact hG) rfl cn ?_ zRR (Nat.le_of_ble_eq_true rfl) ⟨Nat.le_of_ble_eq_true rfl, Nat.le_of_ble_eq_true rfl⟩
            refine zw_istore_n dP_act_61 (by decide) rfl ?_
            refine zw_iload_n dP_act_62 rfl ?_
            refine zw_iconst (v := (-1)) dP_act_63 (by decide) ?_
            refine zw_icmp_ne 69 dP_act_64 (by decide) (fun c_64 => ?_) (fun c_64 => ?_)
            · exact absurd rfl c_64
            · refine zw_iconst (v := 0) dP_act_67 (by decide) ?_
              exact zw_iret dP_act_68 rfl rfl (by exact hlen) ⟨rfl, hx, hH, (hs2_self hS1 hp1).symm⟩
          · exact absurd (nI_lt (a := 0) hc0 (by omega)) c_51
        | some hd =>
          have hhd : hd < 4 := by
            have hfst : ∀ (p : Nat → Bool), fst p 4 0 = some hd → hd < 4 := fun p q => by have := (fst_some.mp q).2.1; omega
            have hnear : ∀ gl, hNr F (kn1 S) (sAt S) gl = some hd → hd < 4 := by
              intro gl q
              unfold hNr at q
              cases hdd : dst F (kn1 S) (some (sAt S)) gl with
              | none => rw [hdd] at q; cases q
              | some s => rw [hdd] at q; exact hfst _ q
            unfold nxt at hx2
            cases ht : tgt F S with
            | none =>
              rw [ht] at hx2; dsimp only at hx2
              split at hx2
              · cases hx2
              · exact hnear _ hx2
            | some x =>
              obtain ⟨t, gt, w, b⟩ := x
              rw [ht] at hx2; dsimp only at hx2
              split at hx2
              · exact hfst _ hx2
              · exact hnear _ hx2
          have e : act F S = (2, stepS F S hd) := by unfold act; rw [if_neg hA, if_neg h0, hx2]
          rw [e]
          rw [hx2] at cn
          refine zw_aload_n dP_act_47 rfl ?_
          refine zw_get dP_act_48 zf_P_24 hS rfl ?_
          refine zw_if_gt 56 dP_act_51 (by decide) (fun c_51 => ?_) (fun c_51 => ?_)
          · refine zw_aload_n dP_act_56 rfl ?_
            refine zw_aload_n dP_act_57 rfl ?_
            refine zc_V1I dP_act_58 zm_P_nextHand zk_P_39 hPi rfl cn ?_ zRR (Nat.le_of_ble_eq_true rfl) ⟨Nat.le_of_ble_eq_true rfl, Nat.le_of_ble_eq_true rfl⟩
            refine zw_istore_n dP_act_61 (by decide) rfl ?_
            refine zw_iload_n dP_act_62 rfl ?_
            refine zw_iconst (v := (-1)) dP_act_63 (by decide) ?_
            refine zw_icmp_ne 69 dP_act_64 (by decide) (fun c_64 => ?_) (fun c_64 => ?_)
            · refine zw_aload_n dP_act_69 rfl ?_
              refine zw_iload_n dP_act_70 rfl ?_
              refine zc_V1I dP_act_71 zm_S_stepTo zk_P_45 (by first | exact hS1 | exact hG1) rfl (c_S_stepTo hk4 hF hG1 hS1 hp1 hhd hat hc0) ?_ zRR (Nat.le_of_ble_eq_true rfl) ⟨Nat.le_of_ble_eq_true rfl, Nat.le_of_ble_eq_true rfl⟩
              refine zw_pop dP_act_74 rfl ?_
              refine zw_iconst (v := 2) dP_act_75 (by decide) ?_
              exact zw_iret dP_act_76 rfl rfl (by rw [hs2_len]; exact hlen) ⟨rfl, hx, hH, rfl⟩
            · have h1 : (nI hd).toInt = (-1 : Int32).toInt := by rw [show nI hd = -1 from c_64]
              rw [nI_toInt (by omega), show (-1 : Int32).toInt = -1 from by decide] at h1
              omega
          · exact absurd (nI_lt (a := 0) hc0 (by omega)) c_51
    refine zw_aload_n dP_act_0 rfl ?_
    refine zw_get dP_act_1 zf_P_9 (by first | exact hS | exact hG) rfl ?_
    refine zw_aload_n dP_act_4 rfl ?_
    refine zw_get dP_act_5 zf_P_15 (by first | exact hS | exact hG) rfl ?_
    refine zw_get dP_act_8 zf_P_19 (by first | exact hS | exact hG) rfl ?_
    refine zw_icmp_ne 47 dP_act_11 (by decide) (fun c_11 => ?_) (fun c_11 => ?_)
    · exact zw_lk E ⟨rfl, rfl, trivial⟩
    · refine zw_aload_n dP_act_14 rfl ?_
      refine zw_get dP_act_15 zf_P_24 (by first | exact hS | exact hG) rfl ?_
      refine zw_aload_n dP_act_18 rfl ?_
      refine zw_get dP_act_19 zf_P_27 (by first | exact hS | exact hG) rfl ?_
      refine zw_icmp_ge 47 dP_act_22 (by decide) (fun c_22 => ?_) (fun c_22 => ?_)
      · exact zw_lk E ⟨rfl, rfl, trivial⟩
      · exact (cutA False (fun r => r c_11) (fun r => c_22 r)).elim
end C31
