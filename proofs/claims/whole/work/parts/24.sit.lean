/-! ===== situations on the heap ===== -/
def hs2 (k : Nat) (S : Sit) (h : zH) : zH := (h.set k (sitC k S)).set (k + 1) (plC S)
theorem hs2_len (k : Nat) (S : Sit) (h : zH) : (hs2 k S h).length = h.length := by simp [hs2]
theorem hs2_self {k : Nat} {S : Sit} {h : zH} (hS : h[k]? = some (sitC k S)) (hp : h[k + 1]? = some (plC S)) : hs2 k S h = h := by
  unfold hs2; rw [zs_self hS, zs_self hp]
theorem hs2_hs2 (k : Nat) (S S' : Sit) (h : zH) : hs2 k S' (hs2 k S h) = hs2 k S' h := by
  unfold hs2
  rw [zs_comm _ _ _ (show k + 1 ≠ k by omega), zs_set, zs_set]
theorem hs2_k {k : Nat} {S : Sit} {h : zH} {c : zC} (hS : h[k]? = some c) : (hs2 k S h)[k]? = some (sitC k S) := zg_ne (by omega) (zg_eq hS)
theorem hs2_p {k : Nat} {S : Sit} {h : zH} {c : zC} (hp : h[k + 1]? = some c) : (hs2 k S h)[k + 1]? = some (plC S) := zg_eq (c := c) (zg_ne (by omega) hp)
theorem hs2_ne {k j : Nat} {S : Sit} {h : zH} {x : Option zC} (h1 : k ≠ j) (h2 : k + 1 ≠ j) (hj : h[j]? = x) : (hs2 k S h)[j]? = x := zg_ne h2 (zg_ne h1 hj)
theorem hs2_sit {k : Nat} {S S' : Sit} {h : zH} {c : zC} (hc : c = sitC k S') (e : plC S' = plC S) (hp : h[k + 1]? = some (plC S)) : h.set k c = hs2 k S' h := by
  subst hc
  unfold hs2
  rw [e, zs_self (zg_ne (by omega) hp)]
theorem hs2_pl {k : Nat} {S S' : Sit} {h : zH} {c : zC} (hc : c = plC S') (e : sitC k S' = sitC k S) (hS : h[k]? = some (sitC k S)) : h.set (k + 1) c = hs2 k S' h := by
  subst hc
  unfold hs2
  rw [e, zs_self hS]
/-! the sets of a situation -/
theorem fre_sub (F : Fl) (S : Sit) : sub F (fre F S) := by
  intro i hi
  simp only [fre, Bool.and_eq_true, decide_eq_true_eq] at hi
  exact hi.1.1
theorem m_free {F : Fl} (hF : fOK F) (S : Sit) : ((mset (gK F 0) ||| mset (oneO (some (fD F)))) ||| mset (gK F 4)) &&& (mset (sShut S) ^^^ (-1)) = mset (fre F S) := by
  rw [m_or, m_or, m_andn]
  apply mset_congr
  intro i _
  simp only [gK, oneO, fre]
  by_cases hi : i < fN F
  · have := (hF.2.2.2 i hi).2
    by_cases hd : i = fD F
    · have h6 := this.mpr hd
      subst hd
      simp [hi, h6]
    · have h6 : ¬ fK F i = 6 := fun q => hd (this.mp q)
      have h7 : (fK F i == 6) = false := by simpa using h6
      have h8 : (some (fD F) == some i) = false := by simpa using fun q => hd q.symm
      simp [hi, h7, h8]
  · have h8 : (some (fD F) == some i) = false := by
      have := hF.2.2.1
      simp
      omega
    simp [hi, h8]
def kdn (F : Fl) (S : Sit) (c : Nat) : Nat := if fK F c = 4 ∧ sShut S c = true then 5 else fK F c
def mayS (F : Fl) (S : Sit) (t : Nat) : Nat → Bool := fun c => decide (c < fN F) && canBe F S t (some c)
def mayO (F : Fl) (S : Sit) (t hand : Nat) : Nat → Bool := fun c => decide (c < fN F) && canBe F S t (nb F c hand)
theorem mayS_sub (F : Fl) (S : Sit) (t : Nat) : sub F (mayS F S t) := by
  intro i hi
  simp only [mayS, Bool.and_eq_true, decide_eq_true_eq] at hi
  exact hi.1
theorem mayS_2 (F : Fl) (S : Sit) : mset (gK F 3) = mset (mayS F S 2) := rfl
theorem mayS_01 (F : Fl) (S : Sit) {t : Nat} (ht : t < 2) : (mset (gAll F) &&& (mset (gK F 3) ^^^ (-1))) &&& ((mset (if t = 0 then kn2 S else kn1 S) &&& (mset (gK F 4) ^^^ (-1))) ^^^ (-1)) = mset (mayS F S t) := by
  rw [m_andn, m_andn, m_andn]
  apply mset_congr
  intro i _
  have ht2 : ¬ t = 2 := by omega
  simp only [gAll, gK, mayS, canBe, ht2, if_false]
  by_cases hi : i < fN F
  · rcases (show t = 0 ∨ t = 1 by omega) with rfl | rfl
    · simp [hi, kn2, Bool.or_comm]
    · simp [hi, kn1, Bool.or_comm]
  · simp [hi]
theorem mayO_eq {F : Fl} (hF : fOK F) (S : Sit) {t hand : Nat} (hh : hand < 4) (ht : t ≠ 1) : bes F ((hand + 2) % 4) (mayS F S t) = mayO F S t hand := by
  funext c
  have e : ((hand + 2) % 4 + 2) % 4 = hand := by omega
  simp only [bes, mayO, e]
  by_cases hc : c < fN F
  · cases hq : nb F c hand with
    | none => have : (t == 1) = false := by simpa using ht
              simp [canBe, this]
    | some b =>
      have hb := (nb_spec hF hc hh hq).1
      simp [mayS, hc, hb]
  · simp [hc]
theorem mayO_1 {F : Fl} (hF : fOK F) (S : Sit) {hand : Nat} (hh : hand < 4) : mset (bes F ((hand + 2) % 4) (mayS F S 1)) ||| (mset (gAll F) &&& (mset (bes F ((hand + 2) % 4) (gAll F)) ^^^ (-1))) = mset (mayO F S 1 hand) := by
  rw [m_andn, m_or]
  apply mset_congr
  intro c _
  have e : ((hand + 2) % 4 + 2) % 4 = hand := by omega
  simp only [bes, mayO, e]
  by_cases hc : c < fN F
  · cases hq : nb F c hand with
    | none => simp [canBe, hc, gAll]
    | some b =>
      have hb := (nb_spec hF hc hh hq).1
      simp [mayS, hc, hb, gAll]
  · simp [hc, gAll]
section C24
variable {l : Launch} {g : zG} {d : Nat} {h : zH} {F : Fl} {S : Sit} {k : Nat}
theorem c_S_freeCells (hF : fOK F) (hG : h[4]? = some (gC F)) (hS : h[k]? = some (sitC k S)) : Run l g mS_freeCells (d + 1) 0 0 [.ref k] h (PL (mset (fre F S)) h) := by
  refine run_of (by decide) (Nat.le_of_ble_eq_true rfl) ?_
  have hD : oOK (some (fD F)) := oOK_some (by have := fN_le hF; have := hF.2.2.1; omega)
  refine zw_aload_n dS_freeCells_0 rfl ?_
  refine zw_get dS_freeCells_1 zf_S_15 (by first | exact hS | exact hG) rfl ?_
  refine zw_get dS_freeCells_4 zf_S_64 (by first | exact hS | exact hG) rfl ?_
  refine zw_aload_n dS_freeCells_7 rfl ?_
  refine zw_get dS_freeCells_8 zf_S_15 (by first | exact hS | exact hG) rfl ?_
  refine zw_get dS_freeCells_11 zf_S_30 (by first | exact hS | exact hG) rfl ?_
  refine zc_S1L dS_freeCells_14 zm_F_only zk_S_44 (c_F_only hD) ?_ zRR (Nat.le_of_ble_eq_true rfl) ⟨Nat.le_of_ble_eq_true rfl, Nat.le_of_ble_eq_true rfl⟩
  refine zw_lor dS_freeCells_17 ?_
  refine zw_aload_n dS_freeCells_18 rfl ?_
  refine zw_get dS_freeCells_19 zf_S_15 (by first | exact hS | exact hG) rfl ?_
  refine zw_get dS_freeCells_22 zf_S_67 (by first | exact hS | exact hG) rfl ?_
  refine zw_lor dS_freeCells_25 ?_
  refine zw_aload_n dS_freeCells_26 rfl ?_
  refine zw_get dS_freeCells_27 zf_S_19 (by first | exact hS | exact hG) rfl ?_
  refine zw_ldc2 dS_freeCells_30 zcl_S_70 ?_
  refine zw_lxor dS_freeCells_33 ?_
  refine zw_land dS_freeCells_34 ?_
  exact zw_lret dS_freeCells_35 rfl rfl ⟨by rw [← m_free hF S], rfl⟩
theorem holds_iff {p : Nat → Bool} {o : Option Nat} {x : Int32} (e : x = if holdsB p o = true then 1 else 0) : (x = 0 → holdsB p o = false) ∧ (¬ x = 0 → holdsB p o = true) := by
  cases hq : holdsB p o with
  | false => rw [hq] at e; simp at e; subst e; exact ⟨fun _ => rfl, fun q => absurd rfl q⟩
  | true => rw [hq] at e; simp at e; subst e; exact ⟨fun q => absurd q (by decide), fun _ => rfl⟩
theorem hb0 {p : Nat → Bool} {o : Option Nat} (c : (if holdsB p o = true then (1 : Int32) else 0) = 0) : holdsB p o = false := (holds_iff rfl).1 c
theorem hb1 {p : Nat → Bool} {o : Option Nat} (c : ¬ (if holdsB p o = true then (1 : Int32) else 0) = 0) : holdsB p o = true := (holds_iff rfl).2 c
theorem gK_at {F : Fl} {c kd : Nat} (hc : c < fN F) : gK F kd c = (fK F c == kd) := by simp [gK, hc]
theorem c_S_outcomeAt (hF : fOK F) (hG : h[4]? = some (gC F)) (hS : h[k]? = some (sitC k S)) {o : Option Nat} (ho : oOK o) (hn : ∀ c, o = some c → c < fN F) : Run l g mS_outcomeAt (d + 2) 0 0 [.ref k, .int (oI o)] h (PI (nI (outc F S o)) h) := by
  refine run_of (by decide) (Nat.le_of_ble_eq_true rfl) ?_
  refine zw_aload_n dS_outcomeAt_0 rfl ?_
  refine zc_V0L dS_outcomeAt_1 zm_S_freeCells zk_S_102 (by first | exact hS | exact hG) rfl (c_S_freeCells hF hG hS) ?_ zRR (Nat.le_of_ble_eq_true rfl) ⟨Nat.le_of_ble_eq_true rfl, Nat.le_of_ble_eq_true rfl⟩
  refine zw_iload_n dS_outcomeAt_4 rfl ?_
  refine zc_S2I dS_outcomeAt_5 zm_F_holds zk_S_72 (c_F_holds ho) ?_ zRR (Nat.le_of_ble_eq_true rfl) ⟨Nat.le_of_ble_eq_true rfl, Nat.le_of_ble_eq_true rfl⟩
  refine zw_if_eq 13 dS_outcomeAt_8 (by decide) (fun c_8 => ?_) (fun c_8 => ?_)
  · refine zw_aload_n dS_outcomeAt_13 rfl ?_
    refine zw_get dS_outcomeAt_14 zf_S_15 (by first | exact hS | exact hG) rfl ?_
    refine zw_get dS_outcomeAt_17 zf_S_79 (by first | exact hS | exact hG) rfl ?_
    refine zw_iload_n dS_outcomeAt_20 rfl ?_
    refine zc_S2I dS_outcomeAt_21 zm_F_holds zk_S_72 (c_F_holds ho) ?_ zRR (Nat.le_of_ble_eq_true rfl) ⟨Nat.le_of_ble_eq_true rfl, Nat.le_of_ble_eq_true rfl⟩
    refine zw_if_eq 29 dS_outcomeAt_24 (by decide) (fun c_24 => ?_) (fun c_24 => ?_)
    · refine zw_aload_n dS_outcomeAt_29 rfl ?_
      refine zw_get dS_outcomeAt_30 zf_S_15 (by first | exact hS | exact hG) rfl ?_
      refine zw_get dS_outcomeAt_33 zf_S_76 (by first | exact hS | exact hG) rfl ?_
      refine zw_iload_n dS_outcomeAt_36 rfl ?_
      refine zc_S2I dS_outcomeAt_37 zm_F_holds zk_S_72 (c_F_holds ho) ?_ zRR (Nat.le_of_ble_eq_true rfl) ⟨Nat.le_of_ble_eq_true rfl, Nat.le_of_ble_eq_true rfl⟩
      refine zw_if_eq 47 dS_outcomeAt_40 (by decide) (fun c_40 => ?_) (fun c_40 => ?_)
      · have e : outc F S o = 1 := by cases o with | none => rfl | some c => have h1 := hb0 c_8; have h2 := hb0 c_24; have h3 := hb0 c_40; simp only [holdsB] at h1 h2 h3; rw [gK_at (hn c rfl)] at h2 h3; simp at h2 h3; simp [outc, h1, h2, h3]
        refine zw_iconst (v := 1) dS_outcomeAt_47 (by decide) ?_
        exact zw_iret dS_outcomeAt_48 rfl rfl rfl ⟨by rw [e]; rfl, rfl⟩
      · have e : outc F S o = 3 := by cases o with | none => exact absurd (hb1 c_40) (by simp [holdsB]) | some c => have h1 := hb0 c_8; have h2 := hb0 c_24; have h3 := hb1 c_40; simp only [holdsB] at h1 h2 h3; rw [gK_at (hn c rfl)] at h2 h3; simp at h2 h3; simp [outc, h1, h2, h3]
        refine zw_iconst (v := 3) dS_outcomeAt_43 (by decide) ?_
        refine zw_goto 48 dS_outcomeAt_44 (by decide) ?_
        exact zw_iret dS_outcomeAt_48 rfl rfl rfl ⟨by rw [e]; rfl, rfl⟩
    · have e : outc F S o = 2 := by cases o with | none => exact absurd (hb1 c_24) (by simp [holdsB]) | some c => have h1 := hb0 c_8; have h2 := hb1 c_24; simp only [holdsB] at h1 h2; rw [gK_at (hn c rfl)] at h2; simp at h2; simp [outc, h1, h2]
      refine zw_iconst (v := 2) dS_outcomeAt_27 (by decide) ?_
      exact zw_iret dS_outcomeAt_28 rfl rfl rfl ⟨by rw [e]; rfl, rfl⟩
  · have e : outc F S o = 0 := by cases o with | none => exact absurd (hb1 c_8) (by simp [holdsB]) | some c => have := hb1 c_8; simp only [holdsB] at this; simp [outc, this]
    refine zw_iconst (v := 0) dS_outcomeAt_11 (by decide) ?_
    exact zw_iret dS_outcomeAt_12 rfl rfl rfl ⟨by rw [e]; rfl, rfl⟩
theorem fre_3 {F : Fl} {S : Sit} {c : Nat} (h : fre F S c = true) : fK F c ≠ 3 := by
  intro q
  simp [fre, q] at h
theorem c_S_seenAt (hF : fOK F) (hG : h[4]? = some (gC F)) (hS : h[k]? = some (sitC k S)) {o : Option Nat} (ho : oOK o) (hn : ∀ c, o = some c → c < fN F) : Run l g mS_seenAt (d + 2) 0 0 [.ref k, .int (oI o)] h (PI (nI (told F S o)) h) := by
  refine run_of (by decide) (Nat.le_of_ble_eq_true rfl) ?_
  refine zw_aload_n dS_seenAt_0 rfl ?_
  refine zc_V0L dS_seenAt_1 zm_S_freeCells zk_S_102 (by first | exact hS | exact hG) rfl (c_S_freeCells hF hG hS) ?_ zRR (Nat.le_of_ble_eq_true rfl) ⟨Nat.le_of_ble_eq_true rfl, Nat.le_of_ble_eq_true rfl⟩
  refine zw_iload_n dS_seenAt_4 rfl ?_
  refine zc_S2I dS_seenAt_5 zm_F_holds zk_S_72 (c_F_holds ho) ?_ zRR (Nat.le_of_ble_eq_true rfl) ⟨Nat.le_of_ble_eq_true rfl, Nat.le_of_ble_eq_true rfl⟩
  refine zw_if_eq 13 dS_seenAt_8 (by decide) (fun c_8 => ?_) (fun c_8 => ?_)
  · refine zw_aload_n dS_seenAt_13 rfl ?_
    refine zw_get dS_seenAt_14 zf_S_15 (by first | exact hS | exact hG) rfl ?_
    refine zw_get dS_seenAt_17 zf_S_76 (by first | exact hS | exact hG) rfl ?_
    refine zw_iload_n dS_seenAt_20 rfl ?_
    refine zc_S2I dS_seenAt_21 zm_F_holds zk_S_72 (c_F_holds ho) ?_ zRR (Nat.le_of_ble_eq_true rfl) ⟨Nat.le_of_ble_eq_true rfl, Nat.le_of_ble_eq_true rfl⟩
    refine zw_if_eq 31 dS_seenAt_24 (by decide) (fun c_24 => ?_) (fun c_24 => ?_)
    · have e : told F S o = 1 := by cases o with | none => rfl | some c => have h1 := hb0 c_8; have h2 := hb0 c_24; simp only [holdsB] at h1 h2; rw [gK_at (hn c rfl)] at h2; simp at h2; simp [told, h1, h2]
      refine zw_iconst (v := 1) dS_seenAt_31 (by decide) ?_
      exact zw_iret dS_seenAt_32 rfl rfl rfl ⟨by rw [e]; rfl, rfl⟩
    · have e : told F S o = 2 := by cases o with | none => exact absurd (hb1 c_24) (by simp [holdsB]) | some c => have h2 := hb1 c_24; simp only [holdsB] at h2; rw [gK_at (hn c rfl)] at h2; simp at h2; simp [told, h2]
      refine zw_iconst (v := 2) dS_seenAt_27 (by decide) ?_
      refine zw_goto 32 dS_seenAt_28 (by decide) ?_
      exact zw_iret dS_seenAt_32 rfl rfl rfl ⟨by rw [e]; rfl, rfl⟩
  · have e : told F S o = 0 := by cases o with | none => exact absurd (hb1 c_8) (by simp [holdsB]) | some c => have := hb1 c_8; simp only [holdsB] at this; simp [told, this, fre_3 this]
    refine zw_iconst (v := 0) dS_seenAt_11 (by decide) ?_
    exact zw_iret dS_seenAt_12 rfl rfl rfl ⟨by rw [e]; rfl, rfl⟩
theorem c_S_kindOf (hF : fOK F) (hG : h[4]? = some (gC F)) (hS : h[k]? = some (sitC k S)) {c : Nat} (hc : c < fN F) (hsh : ∀ i, sShut S i = true → i < fN F ∧ fK F i = 4) : Run l g mS_kindOf (d + 2) 0 0 [.ref k, .int (nI c)] h (PI (nI (kdn F S c)) h) := by
  refine run_of (by decide) (Nat.le_of_ble_eq_true rfl) ?_
  have hn := fN_le hF
  have ho : oOK (some c) := oOK_some (by omega)
  have hkd := (hF.2.2.2 c hc)
  have hdk := hF.2.2.1
  refine zw_iload_n dS_kindOf_0 rfl ?_
  refine zw_aload_n dS_kindOf_1 rfl ?_
  refine zw_get dS_kindOf_2 zf_S_15 (by first | exact hS | exact hG) rfl ?_
  refine zw_get dS_kindOf_5 zf_S_30 (by first | exact hS | exact hG) rfl ?_
  refine zw_icmp_ne 14 dS_kindOf_8 (by decide) (fun c_8 => ?_) (fun c_8 => ?_)
  · refine zw_aload_n dS_kindOf_14 rfl ?_
    refine zw_get dS_kindOf_15 zf_S_15 (by first | exact hS | exact hG) rfl ?_
    refine zw_get dS_kindOf_18 zf_S_64 (by first | exact hS | exact hG) rfl ?_
    refine zw_iload_n dS_kindOf_21 rfl ?_
    refine zc_S2I dS_kindOf_22 zm_F_holds zk_S_72 (c_F_holds (a := some c) ho) ?_ zRR (Nat.le_of_ble_eq_true rfl) ⟨Nat.le_of_ble_eq_true rfl, Nat.le_of_ble_eq_true rfl⟩
    refine zw_if_eq 30 dS_kindOf_25 (by decide) (fun c_25 => ?_) (fun c_25 => ?_)
    · refine zw_aload_n dS_kindOf_30 rfl ?_
      refine zw_get dS_kindOf_31 zf_S_15 (by first | exact hS | exact hG) rfl ?_
      refine zw_get dS_kindOf_34 zf_S_67 (by first | exact hS | exact hG) rfl ?_
      refine zw_iload_n dS_kindOf_37 rfl ?_
      refine zc_S2I dS_kindOf_38 zm_F_holds zk_S_72 (c_F_holds (a := some c) ho) ?_ zRR (Nat.le_of_ble_eq_true rfl) ⟨Nat.le_of_ble_eq_true rfl, Nat.le_of_ble_eq_true rfl⟩
      refine zw_if_eq 61 dS_kindOf_41 (by decide) (fun c_41 => ?_) (fun c_41 => ?_)
      · refine zw_aload_n dS_kindOf_61 rfl ?_
        refine zw_get dS_kindOf_62 zf_S_15 (by first | exact hS | exact hG) rfl ?_
        refine zw_get dS_kindOf_65 zf_S_76 (by first | exact hS | exact hG) rfl ?_
        refine zw_iload_n dS_kindOf_68 rfl ?_
        refine zc_S2I dS_kindOf_69 zm_F_holds zk_S_72 (c_F_holds (a := some c) ho) ?_ zRR (Nat.le_of_ble_eq_true rfl) ⟨Nat.le_of_ble_eq_true rfl, Nat.le_of_ble_eq_true rfl⟩
        refine zw_if_eq 77 dS_kindOf_72 (by decide) (fun c_72 => ?_) (fun c_72 => ?_)
        · refine zw_aload_n dS_kindOf_77 rfl ?_
          refine zw_get dS_kindOf_78 zf_S_15 (by first | exact hS | exact hG) rfl ?_
          refine zw_get dS_kindOf_81 zf_S_79 (by first | exact hS | exact hG) rfl ?_
          refine zw_iload_n dS_kindOf_84 rfl ?_
          refine zc_S2I dS_kindOf_85 zm_F_holds zk_S_72 (c_F_holds (a := some c) ho) ?_ zRR (Nat.le_of_ble_eq_true rfl) ⟨Nat.le_of_ble_eq_true rfl, Nat.le_of_ble_eq_true rfl⟩
          refine zw_if_eq 95 dS_kindOf_88 (by decide) (fun c_88 => ?_) (fun c_88 => ?_)
          · have e : kdn F S c = 1 := by
              have h0 := hb0 c_25; have h1 := hb0 c_41; have h2 := hb0 c_72; have h3 := hb0 c_88
              simp only [holdsB, gK_at hc] at h0 h1 h2 h3
              simp at h0 h1 h2 h3
              have h6 : fK F c ≠ 6 := fun q => c_8 (by rw [hkd.2.mp q])
              have : fK F c = 1 := by omega
              simp [kdn, this]
            refine zw_iconst (v := 1) dS_kindOf_95 (by decide) ?_
            exact zw_iret dS_kindOf_96 rfl rfl rfl ⟨by rw [e]; rfl, rfl⟩
          · have e : kdn F S c = 2 := by have h1 := hb1 c_88; simp only [holdsB, gK_at hc] at h1; simp at h1; simp [kdn, h1]
            refine zw_iconst (v := 2) dS_kindOf_91 (by decide) ?_
            refine zw_goto 96 dS_kindOf_92 (by decide) ?_
            exact zw_iret dS_kindOf_96 rfl rfl rfl ⟨by rw [e]; rfl, rfl⟩
        · have e : kdn F S c = 3 := by have h1 := hb1 c_72; simp only [holdsB, gK_at hc] at h1; simp at h1; simp [kdn, h1]
          refine zw_iconst (v := 3) dS_kindOf_75 (by decide) ?_
          exact zw_iret dS_kindOf_76 rfl rfl rfl ⟨by rw [e]; rfl, rfl⟩
      · refine zw_aload_n dS_kindOf_44 rfl ?_
        refine zw_get dS_kindOf_45 zf_S_19 (by first | exact hS | exact hG) rfl ?_
        refine zw_iload_n dS_kindOf_48 rfl ?_
        refine zc_S2I dS_kindOf_49 zm_F_holds zk_S_72 (c_F_holds (a := some c) ho) ?_ zRR (Nat.le_of_ble_eq_true rfl) ⟨Nat.le_of_ble_eq_true rfl, Nat.le_of_ble_eq_true rfl⟩
        refine zw_if_eq 59 dS_kindOf_52 (by decide) (fun c_52 => ?_) (fun c_52 => ?_)
        · have e : kdn F S c = 4 := by have h1 := hb1 c_41; have h2 := hb0 c_52; simp only [holdsB, gK_at hc] at h1 h2; simp at h1; simp [kdn, h1, h2]
          refine zw_iconst (v := 4) dS_kindOf_59 (by decide) ?_
          exact zw_iret dS_kindOf_60 rfl rfl rfl ⟨by rw [e]; rfl, rfl⟩
        · have e : kdn F S c = 5 := by have h1 := hb1 c_41; have h2 := hb1 c_52; simp only [holdsB, gK_at hc] at h1 h2; simp at h1; simp [kdn, h1, h2]
          refine zw_iconst (v := 5) dS_kindOf_55 (by decide) ?_
          refine zw_goto 60 dS_kindOf_56 (by decide) ?_
          exact zw_iret dS_kindOf_60 rfl rfl rfl ⟨by rw [e]; rfl, rfl⟩
    · have e : kdn F S c = 0 := by have h1 := hb1 c_25; simp only [holdsB, gK_at hc] at h1; simp at h1; simp [kdn, h1]
      refine zw_iconst (v := 0) dS_kindOf_28 (by decide) ?_
      exact zw_iret dS_kindOf_29 rfl rfl rfl ⟨by rw [e]; rfl, rfl⟩
  · have e : kdn F S c = 6 := by have h1 : c = fD F := Classical.byContradiction fun q => q ((nI_eq (by omega) (by omega)).mp c_8); have := hkd.2.mpr h1; simp [kdn, this]
    refine zw_bipush (v := 6) dS_kindOf_11 (by decide) ?_
    exact zw_iret dS_kindOf_13 rfl rfl rfl ⟨by rw [e]; rfl, rfl⟩
theorem c_S_knowledgeOf (hS : h[k]? = some (sitC k S)) {c : Nat} (hc : c < 36) (hk2 : sKn S c ≤ 2) : Run l g mS_knowledgeOf (d + 2) 0 0 [.ref k, .int (nI c)] h (PI (nI (sKn S c)) h) := by
  refine run_of (by decide) (Nat.le_of_ble_eq_true rfl) ?_
  have ho : oOK (some c) := oOK_some (by omega)
  refine zw_aload_n dS_knowledgeOf_0 rfl ?_
  refine zw_get dS_knowledgeOf_1 zf_S_48 hS rfl ?_
  refine zw_iload_n dS_knowledgeOf_4 rfl ?_
  refine zc_S2I dS_knowledgeOf_5 zm_F_holds zk_S_72 (c_F_holds (a := some c) ho) ?_ zRR (Nat.le_of_ble_eq_true rfl) ⟨Nat.le_of_ble_eq_true rfl, Nat.le_of_ble_eq_true rfl⟩
  refine zw_if_eq 13 dS_knowledgeOf_8 (by decide) (fun c_8 => ?_) (fun c_8 => ?_)
  · refine zw_aload_n dS_knowledgeOf_13 rfl ?_
    refine zw_get dS_knowledgeOf_14 zf_S_51 hS rfl ?_
    refine zw_iload_n dS_knowledgeOf_17 rfl ?_
    refine zc_S2I dS_knowledgeOf_18 zm_F_holds zk_S_72 (c_F_holds (a := some c) ho) ?_ zRR (Nat.le_of_ble_eq_true rfl) ⟨Nat.le_of_ble_eq_true rfl, Nat.le_of_ble_eq_true rfl⟩
    refine zw_if_eq 28 dS_knowledgeOf_21 (by decide) (fun c_21 => ?_) (fun c_21 => ?_)
    · have e : sKn S c = 0 := by have h1 := hb0 c_8; have h2 := hb0 c_21; simp only [holdsB, kn1, kn2] at h1 h2; simp at h1 h2; omega
      refine zw_iconst (v := 0) dS_knowledgeOf_28 (by decide) ?_
      exact zw_iret dS_knowledgeOf_29 rfl rfl rfl ⟨by rw [e]; rfl, rfl⟩
    · have e : sKn S c = 2 := by have h1 := hb1 c_21; simp only [holdsB, kn2] at h1; simpa using h1
      refine zw_iconst (v := 2) dS_knowledgeOf_24 (by decide) ?_
      refine zw_goto 29 dS_knowledgeOf_25 (by decide) ?_
      exact zw_iret dS_knowledgeOf_29 rfl rfl rfl ⟨by rw [e]; rfl, rfl⟩
  · have e : sKn S c = 1 := by have h1 := hb1 c_8; simp only [holdsB, kn1] at h1; simpa using h1
    refine zw_iconst (v := 1) dS_knowledgeOf_11 (by decide) ?_
    exact zw_iret dS_knowledgeOf_12 rfl rfl rfl ⟨by rw [e]; rfl, rfl⟩
theorem c_S_homeOf (hF : fOK F) (hG : h[4]? = some (gC F)) (hS : h[k]? = some (sitC k S)) (hK : sub F (kn1 S)) {c : Nat} (hc : c < 36) : Run l g mS_homeOf (d + 2) 0 0 [.ref k, .int (nI c)] h (PI (dI (dst F (kn1 S) (some c) (fD F))) h) := by
  refine run_of (by decide) (Nat.le_of_ble_eq_true rfl) ?_
  have hd36 : fD F < 36 := by have := fN_le hF; have := hF.2.2.1; omega
  refine zw_aload_n dS_homeOf_0 rfl ?_
  refine zw_get dS_homeOf_1 zf_S_15 (by first | exact hS | exact hG) rfl ?_
  refine zw_iload_n dS_homeOf_4 rfl ?_
  refine zw_aload_n dS_homeOf_5 rfl ?_
  refine zw_get dS_homeOf_6 zf_S_15 (by first | exact hS | exact hG) rfl ?_
  refine zw_get dS_homeOf_9 zf_S_30 (by first | exact hS | exact hG) rfl ?_
  refine zw_aload_n dS_homeOf_12 rfl ?_
  refine zw_get dS_homeOf_13 zf_S_48 (by first | exact hS | exact hG) rfl ?_
  refine zc_V3I dS_homeOf_16 zm_G_stepsBetween zk_S_82 (by first | exact hS | exact hG) rfl (c_G_stepsBetween hF hG hK (a := some c) (oOK_some hc) hd36) ?_ zRR (Nat.le_of_ble_eq_true rfl) ⟨Nat.le_of_ble_eq_true rfl, Nat.le_of_ble_eq_true rfl⟩
  exact zw_iret dS_homeOf_19 rfl rfl rfl ⟨rfl, rfl⟩
theorem c_S_cellsThatMayShow (hF : fOK F) (hG : h[4]? = some (gC F)) (hS : h[k]? = some (sitC k S)) {t : Nat} (ht : t < 3) : Run l g mS_cellsThatMayShow d 0 0 [.ref k, .int (nI t)] h (PL (mset (mayS F S t)) h) := by
  refine run_of (by decide) (Nat.le_of_ble_eq_true rfl) ?_
  rcases (show t = 0 ∨ t = 1 ∨ t = 2 by omega) with rfl | rfl | rfl
  · refine zw_iload_n dS_cellsThatMayShow_0 rfl ?_
    refine zw_iconst (v := 2) dS_cellsThatMayShow_1 (by decide) ?_
    refine zw_icmp_ne 13 dS_cellsThatMayShow_2 (by decide) (fun c_2 => ?_) (fun c_2 => ?_)
    · refine zw_iload_n dS_cellsThatMayShow_13 rfl ?_
      refine zw_if_ne 24 dS_cellsThatMayShow_14 (by decide) (fun c_14 => ?_) (fun c_14 => ?_)
      · exact absurd c_14 (by decide)
      · refine zw_aload_n dS_cellsThatMayShow_17 rfl ?_
        refine zw_get dS_cellsThatMayShow_18 zf_S_51 (by first | exact hS | exact hG) rfl ?_
        refine zw_goto 28 dS_cellsThatMayShow_21 (by decide) ?_
        refine zw_lstore_n dS_cellsThatMayShow_28 (by decide) rfl ?_
        refine zw_aload_n dS_cellsThatMayShow_29 rfl ?_
        refine zw_get dS_cellsThatMayShow_30 zf_S_15 (by first | exact hS | exact hG) rfl ?_
        refine zw_get dS_cellsThatMayShow_33 zf_S_139 (by first | exact hS | exact hG) rfl ?_
        refine zw_aload_n dS_cellsThatMayShow_36 rfl ?_
        refine zw_get dS_cellsThatMayShow_37 zf_S_15 (by first | exact hS | exact hG) rfl ?_
        refine zw_get dS_cellsThatMayShow_40 zf_S_76 (by first | exact hS | exact hG) rfl ?_
        refine zw_ldc2 dS_cellsThatMayShow_43 zcl_S_70 ?_
        refine zw_lxor dS_cellsThatMayShow_46 ?_
        refine zw_land dS_cellsThatMayShow_47 ?_
        refine zw_lload_n dS_cellsThatMayShow_48 rfl ?_
        refine zw_aload_n dS_cellsThatMayShow_49 rfl ?_
        refine zw_get dS_cellsThatMayShow_50 zf_S_15 (by first | exact hS | exact hG) rfl ?_
        refine zw_get dS_cellsThatMayShow_53 zf_S_67 (by first | exact hS | exact hG) rfl ?_
        refine zw_ldc2 dS_cellsThatMayShow_56 zcl_S_70 ?_
        refine zw_lxor dS_cellsThatMayShow_59 ?_
        refine zw_land dS_cellsThatMayShow_60 ?_
        refine zw_ldc2 dS_cellsThatMayShow_61 zcl_S_70 ?_
        refine zw_lxor dS_cellsThatMayShow_64 ?_
        refine zw_land dS_cellsThatMayShow_65 ?_
        exact zw_lret dS_cellsThatMayShow_66 rfl rfl ⟨by rw [← mayS_01 F S (t := 0) (by decide)]; rfl, rfl⟩
    · exact absurd c_2 (by decide)
  · refine zw_iload_n dS_cellsThatMayShow_0 rfl ?_
    refine zw_iconst (v := 2) dS_cellsThatMayShow_1 (by decide) ?_
    refine zw_icmp_ne 13 dS_cellsThatMayShow_2 (by decide) (fun c_2 => ?_) (fun c_2 => ?_)
    · refine zw_iload_n dS_cellsThatMayShow_13 rfl ?_
      refine zw_if_ne 24 dS_cellsThatMayShow_14 (by decide) (fun c_14 => ?_) (fun c_14 => ?_)
      · refine zw_aload_n dS_cellsThatMayShow_24 rfl ?_
        refine zw_get dS_cellsThatMayShow_25 zf_S_48 (by first | exact hS | exact hG) rfl ?_
        refine zw_lstore_n dS_cellsThatMayShow_28 (by decide) rfl ?_
        refine zw_aload_n dS_cellsThatMayShow_29 rfl ?_
        refine zw_get dS_cellsThatMayShow_30 zf_S_15 (by first | exact hS | exact hG) rfl ?_
        refine zw_get dS_cellsThatMayShow_33 zf_S_139 (by first | exact hS | exact hG) rfl ?_
        refine zw_aload_n dS_cellsThatMayShow_36 rfl ?_
        refine zw_get dS_cellsThatMayShow_37 zf_S_15 (by first | exact hS | exact hG) rfl ?_
        refine zw_get dS_cellsThatMayShow_40 zf_S_76 (by first | exact hS | exact hG) rfl ?_
        refine zw_ldc2 dS_cellsThatMayShow_43 zcl_S_70 ?_
        refine zw_lxor dS_cellsThatMayShow_46 ?_
        refine zw_land dS_cellsThatMayShow_47 ?_
        refine zw_lload_n dS_cellsThatMayShow_48 rfl ?_
        refine zw_aload_n dS_cellsThatMayShow_49 rfl ?_
        refine zw_get dS_cellsThatMayShow_50 zf_S_15 (by first | exact hS | exact hG) rfl ?_
        refine zw_get dS_cellsThatMayShow_53 zf_S_67 (by first | exact hS | exact hG) rfl ?_
        refine zw_ldc2 dS_cellsThatMayShow_56 zcl_S_70 ?_
        refine zw_lxor dS_cellsThatMayShow_59 ?_
        refine zw_land dS_cellsThatMayShow_60 ?_
        refine zw_ldc2 dS_cellsThatMayShow_61 zcl_S_70 ?_
        refine zw_lxor dS_cellsThatMayShow_64 ?_
        refine zw_land dS_cellsThatMayShow_65 ?_
        exact zw_lret dS_cellsThatMayShow_66 rfl rfl ⟨by rw [← mayS_01 F S (t := 1) (by decide)]; rfl, rfl⟩
      · exact absurd c_14 (by decide)
    · exact absurd c_2 (by decide)
  · refine zw_iload_n dS_cellsThatMayShow_0 rfl ?_
    refine zw_iconst (v := 2) dS_cellsThatMayShow_1 (by decide) ?_
    refine zw_icmp_ne 13 dS_cellsThatMayShow_2 (by decide) (fun c_2 => ?_) (fun c_2 => ?_)
    · exact absurd rfl c_2
    · refine zw_aload_n dS_cellsThatMayShow_5 rfl ?_
      refine zw_get dS_cellsThatMayShow_6 zf_S_15 (by first | exact hS | exact hG) rfl ?_
      refine zw_get dS_cellsThatMayShow_9 zf_S_76 (by first | exact hS | exact hG) rfl ?_
      exact zw_lret dS_cellsThatMayShow_12 rfl rfl ⟨rfl, rfl⟩
theorem c_S_cellsThatMaySee (hF : fOK F) (hG : h[4]? = some (gC F)) (hS : h[k]? = some (sitC k S)) {t hand : Nat} (ht : t < 3) (hh : hand < 4) : Run l g mS_cellsThatMaySee (d + 1) 0 0 [.ref k, .int (nI t), .int (nI hand)] h (PL (mset (mayO F S t hand)) h) := by
  refine run_of (by decide) (Nat.le_of_ble_eq_true rfl) ?_
  have ho : (hand + 2) % 4 < 4 := Nat.mod_lt _ (by decide)
  by_cases h1 : t = 1
  · subst h1
    refine zw_iload_n dS_cellsThatMaySee_0 rfl ?_
    refine zw_iconst (v := 2) dS_cellsThatMaySee_1 (by decide) ?_
    refine zc_S2I dS_cellsThatMaySee_2 zm_F_turned zk_S_106 (c_F_turned (a := hand) (b := 2) hh (by decide)) ?_ zRR (Nat.le_of_ble_eq_true rfl) ⟨Nat.le_of_ble_eq_true rfl, Nat.le_of_ble_eq_true rfl⟩
    refine zw_istore_n dS_cellsThatMaySee_5 (by decide) rfl ?_
    refine zw_aload_n dS_cellsThatMaySee_6 rfl ?_
    refine zw_get dS_cellsThatMaySee_7 zf_S_15 (by first | exact hS | exact hG) rfl ?_
    refine zw_aload_n dS_cellsThatMaySee_10 rfl ?_
    refine zw_iload_n dS_cellsThatMaySee_11 rfl ?_
    refine zc_V1L dS_cellsThatMaySee_12 zm_S_cellsThatMayShow zk_S_121 (by first | exact hS | exact hG) rfl (c_S_cellsThatMayShow hF hG hS (by decide)) ?_ zRR (Nat.le_of_ble_eq_true rfl) ⟨Nat.le_of_ble_eq_true rfl, Nat.le_of_ble_eq_true rfl⟩
    refine zw_iload_n dS_cellsThatMaySee_15 rfl ?_
    refine zc_V2L dS_cellsThatMaySee_16 zm_G_beside zk_S_135 (by first | exact hS | exact hG) rfl (c_G_beside hF hG (mayS_sub F S 1) ho) ?_ zRR (Nat.le_of_ble_eq_true rfl) ⟨Nat.le_of_ble_eq_true rfl, Nat.le_of_ble_eq_true rfl⟩
    refine zw_lstore dS_cellsThatMaySee_19 (by decide) rfl ?_
    refine zw_iload_n dS_cellsThatMaySee_21 rfl ?_
    refine zw_iconst (v := 1) dS_cellsThatMaySee_22 (by decide) ?_
    refine zw_icmp_ne 58 dS_cellsThatMaySee_23 (by decide) (fun c_23 => ?_) (fun c_23 => ?_)
    · exact absurd rfl c_23
    · refine zw_lload dS_cellsThatMaySee_26 rfl ?_
      refine zw_aload_n dS_cellsThatMaySee_28 rfl ?_
      refine zw_get dS_cellsThatMaySee_29 zf_S_15 (by first | exact hS | exact hG) rfl ?_
      refine zw_get dS_cellsThatMaySee_32 zf_S_139 (by first | exact hS | exact hG) rfl ?_
      refine zw_aload_n dS_cellsThatMaySee_35 rfl ?_
      refine zw_get dS_cellsThatMaySee_36 zf_S_15 (by first | exact hS | exact hG) rfl ?_
      refine zw_aload_n dS_cellsThatMaySee_39 rfl ?_
      refine zw_get dS_cellsThatMaySee_40 zf_S_15 (by first | exact hS | exact hG) rfl ?_
      refine zw_get dS_cellsThatMaySee_43 zf_S_139 (by first | exact hS | exact hG) rfl ?_
      refine zw_iload_n dS_cellsThatMaySee_46 rfl ?_
      refine zc_V2L dS_cellsThatMaySee_47 zm_G_beside zk_S_135 (by first | exact hS | exact hG) rfl (c_G_beside hF hG (gAll_sub F) ho) ?_ zRR (Nat.le_of_ble_eq_true rfl) ⟨Nat.le_of_ble_eq_true rfl, Nat.le_of_ble_eq_true rfl⟩
      refine zw_ldc2 dS_cellsThatMaySee_50 zcl_S_70 ?_
      refine zw_lxor dS_cellsThatMaySee_53 ?_
      refine zw_land dS_cellsThatMaySee_54 ?_
      refine zw_lor dS_cellsThatMaySee_55 ?_
      refine zw_lstore dS_cellsThatMaySee_56 (by decide) rfl ?_
      refine zw_lload dS_cellsThatMaySee_58 rfl ?_
      exact zw_lret dS_cellsThatMaySee_60 rfl rfl ⟨by rw [← mayO_1 hF S hh], rfl⟩
  · refine zw_iload_n dS_cellsThatMaySee_0 rfl ?_
    refine zw_iconst (v := 2) dS_cellsThatMaySee_1 (by decide) ?_
    refine zc_S2I dS_cellsThatMaySee_2 zm_F_turned zk_S_106 (c_F_turned (a := hand) (b := 2) hh (by decide)) ?_ zRR (Nat.le_of_ble_eq_true rfl) ⟨Nat.le_of_ble_eq_true rfl, Nat.le_of_ble_eq_true rfl⟩
    refine zw_istore_n dS_cellsThatMaySee_5 (by decide) rfl ?_
    refine zw_aload_n dS_cellsThatMaySee_6 rfl ?_
    refine zw_get dS_cellsThatMaySee_7 zf_S_15 (by first | exact hS | exact hG) rfl ?_
    refine zw_aload_n dS_cellsThatMaySee_10 rfl ?_
    refine zw_iload_n dS_cellsThatMaySee_11 rfl ?_
    refine zc_V1L dS_cellsThatMaySee_12 zm_S_cellsThatMayShow zk_S_121 (by first | exact hS | exact hG) rfl (c_S_cellsThatMayShow hF hG hS ht) ?_ zRR (Nat.le_of_ble_eq_true rfl) ⟨Nat.le_of_ble_eq_true rfl, Nat.le_of_ble_eq_true rfl⟩
    refine zw_iload_n dS_cellsThatMaySee_15 rfl ?_
    refine zc_V2L dS_cellsThatMaySee_16 zm_G_beside zk_S_135 (by first | exact hS | exact hG) rfl (c_G_beside hF hG (mayS_sub F S t) ho) ?_ zRR (Nat.le_of_ble_eq_true rfl) ⟨Nat.le_of_ble_eq_true rfl, Nat.le_of_ble_eq_true rfl⟩
    refine zw_lstore dS_cellsThatMaySee_19 (by decide) rfl ?_
    refine zw_iload_n dS_cellsThatMaySee_21 rfl ?_
    refine zw_iconst (v := 1) dS_cellsThatMaySee_22 (by decide) ?_
    refine zw_icmp_ne 58 dS_cellsThatMaySee_23 (by decide) (fun c_23 => ?_) (fun c_23 => ?_)
    · refine zw_lload dS_cellsThatMaySee_58 rfl ?_
      exact zw_lret dS_cellsThatMaySee_60 rfl rfl ⟨by rw [← mayO_eq hF S hh h1], rfl⟩
    · exact absurd ((nI_eq (by omega) (by omega)).mp (show nI t = nI 1 from c_23)) h1
end C24
