/-! ===== the reference: a step to a hand ===== -/
def stQ (h : zH) (F : Fl) (S' : Sit) (z : Nat → Int32) : zH → Prop := fun h' => ∃ np', h' = (h.set 39 (iA 36 np')).set 32 (sC F S' z)
theorem sC_up {h : zH} {k : Nat} {c : zC} {F : Fl} {S' : Sit} {z : Nat → Int32} {f : Nat → Int32} (e : f = ms F S' z) : (h.set k c).set k (.inl (0, 114, .inl f)) = h.set k (sC F S' z) := by rw [zs_set, e]; rfl
theorem sC_u1 {h : zH} {k : Nat} {F : Fl} {S' : Sit} {z : Nat → Int32} {f : Nat → Int32} (e : f = ms F S' z) : h.set k (.inl (0, 114, .inl f)) = h.set k (sC F S' z) := by rw [e]; rfl
section C55
variable {l : Launch} {g : zG} {d : Nat} {h : zH} {F : Fl} {S : Sit} {z : Nat → Int32} {un le : Nat} {qa qb : I4} {t k : Nat}
theorem kdn_found (F : Fl) (S : Sit) (c : Nat) : kdn F (found S) c = kdn F S c := by unfold found; split <;> rfl
theorem found_at (S : Sit) (b : Nat) : found (setAt' S b) = setAt' (found S) b := by
  unfold found
  by_cases h : sLost S = true ∧ many (sPl S) = 1
  · rw [if_pos h, if_pos (show sLost (setAt' S b) = true ∧ many (sPl (setAt' S b)) = 1 from h)]; rfl
  · rw [if_neg h, if_neg (show ¬ (sLost (setAt' S b) = true ∧ many (sPl (setAt' S b)) = 1) from h)]
theorem told_0 {F : Fl} {S : Sit} {o : Option Nat} : told F S o = 0 ↔ outc F S o = 0 := by
  cases o with
  | none => simp [told, outc]
  | some c =>
    simp only [told, outc]
    by_cases hf : fre F S c = true
    · have := fre_3 hf
      simp [hf, this]
    · by_cases h3 : fK F c = 3
      · simp [hf, h3]
      · by_cases h2 : fK F c = 2 <;> simp [hf, h3, h2]
theorem sort_np (F : Fl) (S : Sit) (o : Option Nat) (hl : sLost S = true) : sortP F S (outc F S o) = found (setPl S (NP F S (told F S o))) := by
  have e : (if outc F S o = 0 then moveP F (keepP F S 0 0 (sPl S)) else keepP F S (if outc F S o = 3 then 2 else 1) 0 (sPl S)) = NP F S (told F S o) := by
    unfold NP
    by_cases h0 : outc F S o = 0
    · rw [if_pos h0, if_pos (told_0.mpr h0)]
    · have ht : ¬ told F S o = 0 := fun q => h0 (told_0.mp q)
      rw [if_neg h0, if_neg ht]
      have e2 : (if outc F S o = 3 then 2 else 1) = told F S o := by
        cases o with
        | none => simp [told, outc]
        | some c =>
          simp only [told, outc]
          simp only [told, outc] at h0 ht
          by_cases hf : fre F S c = true
          · simp [hf] at h0
          · by_cases h3 : fK F c = 3
            · simp [hf, h3]
            · by_cases h2 : fK F c = 2 <;> simp [hf, h3, h2]
      rw [e2]
  unfold sortP
  rw [e]
theorem c_M_stepTo {np : Nat → Int32} (hF : fOK F) (ok : sOK F S) (hch : 0 < sCh S) (hM : h[31]? = some (mC F un le qa qb)) (hS : h[32]? = some (sC F S z)) (hN : h[39]? = some (iA 36 np)) {hand : Nat} (hh : hand < 4) : Run l g mM_stepTo (d + 4) 0 0 [.ref 31, .int (nI hand)] h (PIh (nI (stepO F S hand)) (stQ h F (stepS F S hand) z)) := by
  have h36 := fN_le hF
  have hat := ok.at
  have hM32 : ∀ c, (h.set 32 c)[31]? = some (mC F un le qa qb) := fun c => zg_ne (by decide) hM
  have hS32 : ∀ c, (h.set 32 c)[32]? = some c := fun c => zg_eq hS
  have hN32 : ∀ c, (h.set 32 c)[39]? = some (iA 36 np) := fun c => zg_ne (by decide) hN
  obtain ⟨S1, hS1⟩ : ∃ S1, S1 = setCh (setHd S hand) (sCh S - 1) := ⟨_, rfl⟩
  have ok1 : sOK F S1 := by rw [hS1]; exact ok_ch (ok_hd ok hh) (Nat.le_trans (Nat.sub_le _ _) ok.ch)
  have eh1 : upd (ms F S z) 109 (nI hand) = ms F (setHd S hand) z := ms_h1 _ _ _ _
  have eh2 : upd (ms F (setHd S hand) z) 110 (nI (sCh S) - 1) = ms F S1 z := by
    rw [show nI (sCh S) - 1 = nI (sCh S - 1) from pk_sub (b := 1) hch, hS1]; exact ms_h2 _ _ _ _
  have r110 : ms F (setHd S hand) z 110 = nI (sCh S) := rfl
  have r108 : ms F S1 z 108 = nI (sAt S) := by rw [hS1]; rfl
  have r111 : ms F S1 z 111 = if sLost S = true then 1 else 0 := by rw [hS1]; rfl
  have hnb : ∀ c, nb F (sAt S) hand = some c → c < fN F := fun c q => (nb_spec hF hat hh q).1
  have cbs := c_M_beside (l := l) (g := g) (d := d + 2) hF (hM32 (sC F S1 z)) hat hh
  have ct := c_M_toldOf (l := l) (g := g) (d := d + 2) hF ok1.shut (hM32 (sC F S1 z)) (hS32 _) hnb
  have etd : ∀ o, told F S1 o = told F S o := by intro o; rw [hS1]; cases o <;> rfl
  have eou : ∀ o, outc F S1 o = outc F S o := by intro o; rw [hS1]; cases o <;> rfl
  rw [etd] at ct
  have eS : stepS F S hand = (let o := nb F (sAt S) hand; let out := outc F S o; let S2 := if sLost S = true then sortP F S1 out else lrn S1 o out; if out = 0 then setAt' S2 (o.getD 0) else S2) := by rw [hS1]; rfl
  have eO : stepO F S hand = outc F S (nb F (sAt S) hand) := rfl
  rw [eO]
  obtain ⟨o, ho⟩ : ∃ o, o = nb F (sAt S) hand := ⟨_, rfl⟩
  rw [← ho] at eS cbs ct hnb ⊢
  dsimp only at eS
  have l1 : sLost S1 = sLost S := by rw [hS1]; rfl
  have snp : sLost S = true → sortP F S1 (outc F S o) = found (setPl S1 (NP F S1 (told F S o))) := fun q => by rw [← eou, ← etd]; exact sort_np F S1 o (l1.trans q)
  obtain ⟨S2, hS2⟩ : ∃ S2, S2 = if outc F S o = 0 then setAt' S1 (o.getD 0) else S1 := ⟨_, rfl⟩
  have ok2 : sOK F S2 := by
    rw [hS2]
    split
    case isTrue q =>
      cases o with
      | none => exact absurd q (show ¬ (1 = 0) by decide)
      | some b => exact ok_at ok1 (hnb b rfl)
    case isFalse => exact ok1
  have l2 : sLost S2 = sLost S := by rw [hS2, ← l1]; split <;> rfl
  have np2 : ∀ t, NP F S2 t = NP F S1 t := by intro t; rw [hS2]; split <;> rfl
  have eL : sLost S = true → stepS F S hand = found (setPl S2 (NP F S2 (told F S o))) := by
    intro q
    rw [eS, if_pos q, snp q, np2, hS2]
    by_cases h0 : outc F S o = 0
    · rw [if_pos h0, if_pos h0]
      exact (found_at _ _).symm
    · rw [if_neg h0, if_neg h0]
  have csp := fun (q : sLost S = true) (ht : told F S o < 3) => c_M_stepsPlaces (l := l) (g := g) (d := d) (h := h.set 32 (sC F S2 z)) (np := np) (un := un) (le := le) (qa := qa) (qb := qb) (z := z) hF ok2 (l2.trans q) (hM32 _) (hS32 _) (hN32 _) ht
  have tl : told F S o < 3 := by
    cases o with
    | none => exact (show 1 < 3 by decide)
    | some c => show (if fK F c = 3 then 2 else if fre F S c = true then 0 else 1) < 3; split <;> (try split) <;> omega
  refine run_of (by decide) (Nat.le_of_ble_eq_true rfl) ?_
  cases o with
  | none =>
    have h0 : outc F S none = 1 := rfl
    have hne0 : ¬ outc F S none = 0 := (show ¬ (1 = 0) by decide)
    have ct : Run l g mM_toldOf (d + 2 + 1) 0 0 [.ref 31, .int (-9)] (h.set 32 (sC F S1 z)) (PI (nI 1) (h.set 32 (sC F S1 z))) := ct
    have csp : ∀ (_ : sLost S = true) (_ : told F S none < 3), Run l g mM_stepsPlaces (d + 3) 0 0 [.ref 31, .int (nI 1)] (h.set 32 (sC F S2 z)) (PV (((h.set 32 (sC F S2 z)).set 39 (iA 36 (fil np 0 (fN F) (fun c => nI (pb (NP F S2 1 c)))))).set 32 (sC F (found (setPl S2 (NP F S2 (told F S none)))) z))) := csp
    rw [h0]
    cases hl : sLost S with
    | true =>
      rw [hl] at r111
      have es2 : upd (ms F S1 z) 108 (nI (sAt S)) = ms F S2 z := by
        rw [hS2, if_neg hne0]
        funext j
        by_cases e : j = 108
        · subst e; rw [upd_eq, r108]
        · rw [upd_ne _ _ e]
      replace csp := csp hl tl
      rw [← eL hl] at csp
      obtain ⟨A, hA⟩ : ∃ A, A = fil np 0 (fN F) (fun c => nI (pb (NP F S2 1 c))) := ⟨_, rfl⟩
      rw [← hA] at csp
      have hQ : stQ h F (stepS F S hand) z (((h.set 32 (sC F S2 z)).set 39 (iA 36 A)).set 32 (sC F (stepS F S hand) z)) := ⟨A, by rw [zs_comm h _ _ (show 32 ≠ 39 by decide), zs_set]⟩
      have hM39a : ∀ c c2, (((h.set 32 (sC F S2 z)).set 39 c).set 32 c2)[31]? = some (mC F un le qa qb) := fun c c2 => zg_ne (by decide) (zg_ne (by decide) (hM32 _))
      have hS39a : ∀ c c2, (((h.set 32 (sC F S2 z)).set 39 c).set 32 c2)[32]? = some c2 := fun c c2 => zg_eq (zg_ne (by decide) (hS32 _))
      have hM39 := hM39a (iA 36 A)
      have hS39 := hS39a (iA 36 A)
      have hlen : (((h.set 32 (sC F S2 z)).set 39 (iA 36 A)).set 32 (sC F (stepS F S hand) z)).length = h.length + 0 := by rw [zs_len, zs_len, zs_len]; rfl
      refine zw_aload_n dM_stepTo_0 rfl ?_
      refine zw_get dM_stepTo_1 zf_M_16 (by first | exact hM | exact hS | exact hM32 _ | exact hS32 _ | exact hM39 _ | exact hS39 _) rfl ?_
      refine zw_bipush (v := 109) dM_stepTo_4 (by decide) ?_
      refine zw_iload_n dM_stepTo_6 rfl ?_
      refine zw_iast dM_stepTo_7 (by first | exact hM | exact hS | exact hM32 _ | exact hS32 _ | exact hM39 _ | exact hS39 _) v109 ?_
      rw [e109]
      refine zw_h (sC_u1 eh1) ?_
      refine zw_aload_n dM_stepTo_8 rfl ?_
      refine zw_get dM_stepTo_9 zf_M_16 (by first | exact hM | exact hS | exact hM32 _ | exact hS32 _ | exact hM39 _ | exact hS39 _) rfl ?_
      refine zw_bipush (v := 110) dM_stepTo_12 (by decide) ?_
      refine zw_dup2 dM_stepTo_14 rfl rfl ?_
      refine zw_iald dM_stepTo_15 (by first | exact hM | exact hS | exact hM32 _ | exact hS32 _ | exact hM39 _ | exact hS39 _) v110 ?_
      rw [e110, r110]
      refine zw_iconst (v := 1) dM_stepTo_16 (by decide) ?_
      refine zw_isub dM_stepTo_17 ?_
      refine zw_iast dM_stepTo_18 (by first | exact hM | exact hS | exact hM32 _ | exact hS32 _ | exact hM39 _ | exact hS39 _) v110 ?_
      rw [e110]
      refine zw_h (sC_up eh2) ?_
      refine zw_aload_n dM_stepTo_19 rfl ?_
      refine zw_aload_n dM_stepTo_20 rfl ?_
      refine zw_get dM_stepTo_21 zf_M_16 (by first | exact hM | exact hS | exact hM32 _ | exact hS32 _ | exact hM39 _ | exact hS39 _) rfl ?_
      refine zw_bipush (v := 108) dM_stepTo_24 (by decide) ?_
      refine zw_iald dM_stepTo_26 (by first | exact hM | exact hS | exact hM32 _ | exact hS32 _ | exact hM39 _ | exact hS39 _) v108 ?_
      rw [e108, r108]
      refine zw_iload_n dM_stepTo_27 rfl ?_
      refine zc_V2I dM_stepTo_28 zm_M_beside zk_M_109 (by first | exact hM | exact hS | exact hM32 _ | exact hS32 _ | exact hM39 _ | exact hS39 _) rfl cbs ?_ zRR (Nat.le_of_ble_eq_true rfl) ⟨Nat.le_of_ble_eq_true rfl, Nat.le_of_ble_eq_true rfl⟩
      refine zw_istore_n dM_stepTo_31 (by decide) rfl ?_
      refine zw_aload_n dM_stepTo_32 rfl ?_
      refine zw_iload_n dM_stepTo_33 rfl ?_
      refine zc_V1I dM_stepTo_34 zm_M_toldOf zk_M_123 (by first | exact hM | exact hS | exact hM32 _ | exact hS32 _ | exact hM39 _ | exact hS39 _) rfl ct ?_ zRR (Nat.le_of_ble_eq_true rfl) ⟨Nat.le_of_ble_eq_true rfl, Nat.le_of_ble_eq_true rfl⟩
      refine zw_istore_n dM_stepTo_37 (by decide) rfl ?_
      refine zw_aload_n dM_stepTo_38 rfl ?_
      refine zw_get dM_stepTo_39 zf_M_16 (by first | exact hM | exact hS | exact hM32 _ | exact hS32 _ | exact hM39 _ | exact hS39 _) rfl ?_
      refine zw_bipush (v := 111) dM_stepTo_42 (by decide) ?_
      refine zw_iald dM_stepTo_44 (by first | exact hM | exact hS | exact hM32 _ | exact hS32 _ | exact hM39 _ | exact hS39 _) v111 ?_
      rw [e111, r111]
      refine zw_iconst (v := 1) dM_stepTo_45 (by decide) ?_
      refine zw_icmp_ne 53 dM_stepTo_46 (by decide) (fun c_46 => ?_) (fun c_46 => ?_)
      · exact absurd rfl c_46
      · refine zw_iconst (v := 1) dM_stepTo_49 (by decide) ?_
        refine zw_goto 54 dM_stepTo_50 (by decide) ?_
        refine zw_istore dM_stepTo_54 (by decide) rfl ?_
        refine zw_aload_n dM_stepTo_56 rfl ?_
        refine zw_get dM_stepTo_57 zf_M_16 (by first | exact hM | exact hS | exact hM32 _ | exact hS32 _ | exact hM39 _ | exact hS39 _) rfl ?_
        refine zw_bipush (v := 108) dM_stepTo_60 (by decide) ?_
        refine zw_iload_n dM_stepTo_62 rfl ?_
        refine zw_if_ne 70 dM_stepTo_63 (by decide) (fun c_63 => ?_) (fun c_63 => ?_)
        · refine zw_aload_n dM_stepTo_70 rfl ?_
          refine zw_get dM_stepTo_71 zf_M_16 (by first | exact hM | exact hS | exact hM32 _ | exact hS32 _ | exact hM39 _ | exact hS39 _) rfl ?_
          refine zw_bipush (v := 108) dM_stepTo_74 (by decide) ?_
          refine zw_iald dM_stepTo_76 (by first | exact hM | exact hS | exact hM32 _ | exact hS32 _ | exact hM39 _ | exact hS39 _) v108 ?_
          rw [e108, r108]
          refine zw_iast dM_stepTo_77 (by first | exact hM | exact hS | exact hM32 _ | exact hS32 _ | exact hM39 _ | exact hS39 _) v108 ?_
          rw [e108]
          refine zw_h (sC_up es2) ?_
          refine zw_iload dM_stepTo_78 rfl ?_
          refine zw_if_eq 91 dM_stepTo_80 (by decide) (fun c_80 => ?_) (fun c_80 => ?_)
          · exact absurd c_80 (by decide)
          · refine zw_aload_n dM_stepTo_83 rfl ?_
            refine zw_iload_n dM_stepTo_84 rfl ?_
            refine zc_V1V dM_stepTo_85 zm_M_stepsPlaces zk_M_126 (by first | exact hM | exact hS | exact hM32 _ | exact hS32 _ | exact hM39 _ | exact hS39 _) rfl csp ?_ zRR (Nat.le_of_ble_eq_true rfl) ⟨Nat.le_of_ble_eq_true rfl, Nat.le_of_ble_eq_true rfl⟩
            refine zw_goto 120 dM_stepTo_88 (by decide) ?_
            refine zw_iload_n dM_stepTo_120 rfl ?_
            refine zw_iconst (v := 2) dM_stepTo_121 (by decide) ?_
            refine zw_icmp_ne 129 dM_stepTo_122 (by decide) (fun c_122 => ?_) (fun c_122 => ?_)
            · refine zw_iload_n dM_stepTo_129 rfl ?_
              refine zw_if_ne 137 dM_stepTo_130 (by decide) (fun c_130 => ?_) (fun c_130 => ?_)
              · refine zw_iload_n dM_stepTo_137 rfl ?_
                refine zw_bipush (v := (-9)) dM_stepTo_138 (by decide) ?_
                refine zw_icmp_eq 157 dM_stepTo_140 (by decide) (fun c_140 => ?_) (fun c_140 => ?_)
                · refine zw_iconst (v := 1) dM_stepTo_157 (by decide) ?_
                  exact zw_iret dM_stepTo_158 rfl rfl hlen ⟨rfl, hQ⟩
                · exact absurd rfl c_140
              · exact absurd c_130 (by decide)
            · exact absurd c_122 (by decide)
        · exact absurd c_63 (by decide)
    | false =>
      rw [hl] at r111
      have es2 : upd (ms F S1 z) 108 (nI (sAt S)) = ms F S2 z := by
        rw [hS2, if_neg hne0]
        funext j
        by_cases e : j = 108
        · subst e; rw [upd_eq, r108]
        · rw [upd_ne _ _ e]
      have hM39 : ∀ c, (h.set 32 c)[31]? = some (mC F un le qa qb) := hM32
      have hS39 := hS32
      have eN : stepS F S hand = S2 := by rw [eS, hl, hS2, if_neg hne0, if_neg hne0]; rfl
      rw [← eN] at es2
      have hQ : stQ h F (stepS F S hand) z (h.set 32 (sC F (stepS F S hand) z)) := ⟨np, by rw [zs_self hN]⟩
      have hlen : (h.set 32 (sC F (stepS F S hand) z)).length = h.length + 0 := by rw [zs_len]; rfl
      refine zw_aload_n dM_stepTo_0 rfl ?_
      refine zw_get dM_stepTo_1 zf_M_16 (by first | exact hM | exact hS | exact hM32 _ | exact hS32 _ | exact hM39 _ | exact hS39 _) rfl ?_
      refine zw_bipush (v := 109) dM_stepTo_4 (by decide) ?_
      refine zw_iload_n dM_stepTo_6 rfl ?_
      refine zw_iast dM_stepTo_7 (by first | exact hM | exact hS | exact hM32 _ | exact hS32 _ | exact hM39 _ | exact hS39 _) v109 ?_
      rw [e109]
      refine zw_h (sC_u1 eh1) ?_
      refine zw_aload_n dM_stepTo_8 rfl ?_
      refine zw_get dM_stepTo_9 zf_M_16 (by first | exact hM | exact hS | exact hM32 _ | exact hS32 _ | exact hM39 _ | exact hS39 _) rfl ?_
      refine zw_bipush (v := 110) dM_stepTo_12 (by decide) ?_
      refine zw_dup2 dM_stepTo_14 rfl rfl ?_
      refine zw_iald dM_stepTo_15 (by first | exact hM | exact hS | exact hM32 _ | exact hS32 _ | exact hM39 _ | exact hS39 _) v110 ?_
      rw [e110, r110]
      refine zw_iconst (v := 1) dM_stepTo_16 (by decide) ?_
      refine zw_isub dM_stepTo_17 ?_
      refine zw_iast dM_stepTo_18 (by first | exact hM | exact hS | exact hM32 _ | exact hS32 _ | exact hM39 _ | exact hS39 _) v110 ?_
      rw [e110]
      refine zw_h (sC_up eh2) ?_
      refine zw_aload_n dM_stepTo_19 rfl ?_
      refine zw_aload_n dM_stepTo_20 rfl ?_
      refine zw_get dM_stepTo_21 zf_M_16 (by first | exact hM | exact hS | exact hM32 _ | exact hS32 _ | exact hM39 _ | exact hS39 _) rfl ?_
      refine zw_bipush (v := 108) dM_stepTo_24 (by decide) ?_
      refine zw_iald dM_stepTo_26 (by first | exact hM | exact hS | exact hM32 _ | exact hS32 _ | exact hM39 _ | exact hS39 _) v108 ?_
      rw [e108, r108]
      refine zw_iload_n dM_stepTo_27 rfl ?_
      refine zc_V2I dM_stepTo_28 zm_M_beside zk_M_109 (by first | exact hM | exact hS | exact hM32 _ | exact hS32 _ | exact hM39 _ | exact hS39 _) rfl cbs ?_ zRR (Nat.le_of_ble_eq_true rfl) ⟨Nat.le_of_ble_eq_true rfl, Nat.le_of_ble_eq_true rfl⟩
      refine zw_istore_n dM_stepTo_31 (by decide) rfl ?_
      refine zw_aload_n dM_stepTo_32 rfl ?_
      refine zw_iload_n dM_stepTo_33 rfl ?_
      refine zc_V1I dM_stepTo_34 zm_M_toldOf zk_M_123 (by first | exact hM | exact hS | exact hM32 _ | exact hS32 _ | exact hM39 _ | exact hS39 _) rfl ct ?_ zRR (Nat.le_of_ble_eq_true rfl) ⟨Nat.le_of_ble_eq_true rfl, Nat.le_of_ble_eq_true rfl⟩
      refine zw_istore_n dM_stepTo_37 (by decide) rfl ?_
      refine zw_aload_n dM_stepTo_38 rfl ?_
      refine zw_get dM_stepTo_39 zf_M_16 (by first | exact hM | exact hS | exact hM32 _ | exact hS32 _ | exact hM39 _ | exact hS39 _) rfl ?_
      refine zw_bipush (v := 111) dM_stepTo_42 (by decide) ?_
      refine zw_iald dM_stepTo_44 (by first | exact hM | exact hS | exact hM32 _ | exact hS32 _ | exact hM39 _ | exact hS39 _) v111 ?_
      rw [e111, r111]
      refine zw_iconst (v := 1) dM_stepTo_45 (by decide) ?_
      refine zw_icmp_ne 53 dM_stepTo_46 (by decide) (fun c_46 => ?_) (fun c_46 => ?_)
      · refine zw_iconst (v := 0) dM_stepTo_53 (by decide) ?_
        refine zw_istore dM_stepTo_54 (by decide) rfl ?_
        refine zw_aload_n dM_stepTo_56 rfl ?_
        refine zw_get dM_stepTo_57 zf_M_16 (by first | exact hM | exact hS | exact hM32 _ | exact hS32 _ | exact hM39 _ | exact hS39 _) rfl ?_
        refine zw_bipush (v := 108) dM_stepTo_60 (by decide) ?_
        refine zw_iload_n dM_stepTo_62 rfl ?_
        refine zw_if_ne 70 dM_stepTo_63 (by decide) (fun c_63 => ?_) (fun c_63 => ?_)
        · refine zw_aload_n dM_stepTo_70 rfl ?_
          refine zw_get dM_stepTo_71 zf_M_16 (by first | exact hM | exact hS | exact hM32 _ | exact hS32 _ | exact hM39 _ | exact hS39 _) rfl ?_
          refine zw_bipush (v := 108) dM_stepTo_74 (by decide) ?_
          refine zw_iald dM_stepTo_76 (by first | exact hM | exact hS | exact hM32 _ | exact hS32 _ | exact hM39 _ | exact hS39 _) v108 ?_
          rw [e108, r108]
          refine zw_iast dM_stepTo_77 (by first | exact hM | exact hS | exact hM32 _ | exact hS32 _ | exact hM39 _ | exact hS39 _) v108 ?_
          rw [e108]
          refine zw_h (sC_up es2) ?_
          refine zw_iload dM_stepTo_78 rfl ?_
          refine zw_if_eq 91 dM_stepTo_80 (by decide) (fun c_80 => ?_) (fun c_80 => ?_)
          · refine zw_iload_n dM_stepTo_91 rfl ?_
            refine zw_bipush (v := (-9)) dM_stepTo_92 (by decide) ?_
            refine zw_icmp_eq 120 dM_stepTo_94 (by decide) (fun c_94 => ?_) (fun c_94 => ?_)
            · refine zw_iload_n dM_stepTo_120 rfl ?_
              refine zw_iconst (v := 2) dM_stepTo_121 (by decide) ?_
              refine zw_icmp_ne 129 dM_stepTo_122 (by decide) (fun c_122 => ?_) (fun c_122 => ?_)
              · refine zw_iload_n dM_stepTo_129 rfl ?_
                refine zw_if_ne 137 dM_stepTo_130 (by decide) (fun c_130 => ?_) (fun c_130 => ?_)
                · refine zw_iload_n dM_stepTo_137 rfl ?_
                  refine zw_bipush (v := (-9)) dM_stepTo_138 (by decide) ?_
                  refine zw_icmp_eq 157 dM_stepTo_140 (by decide) (fun c_140 => ?_) (fun c_140 => ?_)
                  · refine zw_iconst (v := 1) dM_stepTo_157 (by decide) ?_
                    exact zw_iret dM_stepTo_158 rfl rfl hlen ⟨rfl, hQ⟩
                  · exact absurd rfl c_140
                · exact absurd c_130 (by decide)
              · exact absurd c_122 (by decide)
            · exact absurd rfl c_94
          · exact absurd rfl c_80
        · exact absurd c_63 (by decide)
      · exact absurd c_46 (by decide)
  | some b =>
    have hb := hnb b rfl
    have cbs : Run l g mM_beside (d + 2 + 1) 0 0 [.ref 31, .int (nI (sAt S)), .int (nI hand)] (h.set 32 (sC F S1 z)) (PI (nI b) (h.set 32 (sC F S1 z))) := cbs
    have e9 : ¬ nI b = -9 := nI_m9 (by omega)
    have hcl := clk hF hb
    obtain ⟨v1, v2, v3⟩ := vK hF hb
    have hlt := kdn_lt (S := S) hF hb
    have n2 : nI (kdn F S b) = 2 ↔ fK F b = 2 := by rw [← kdn_2 (S := S) hF hb]; exact nI_eq (b := 2) (by omega) (by omega)
    by_cases hf3 : fK F b = 3
    · have hnf : ¬ fre F S b = true := fun q => fre_3 q hf3
      have et : told F S (some b) = 2 := by show (if fK F b = 3 then 2 else if fre F S b = true then 0 else 1) = 2; rw [if_pos hf3]
      have ho3 : outc F S (some b) = 3 := by show (if fre F S b = true then 0 else if fK F b = 2 then 2 else if fK F b = 3 then 3 else 1) = 3; rw [if_neg hnf, if_neg (by omega), if_pos hf3]
      have hne0 : ¬ outc F S (some b) = 0 := by omega
      have eL' := eL
      rw [et] at ct tl csp
      rw [et] at eL
      have ct : Run l g mM_toldOf (d + 2 + 1) 0 0 [.ref 31, .int (nI b)] (h.set 32 (sC F S1 z)) (PI (nI 2) (h.set 32 (sC F S1 z))) := ct
      rw [show nI (outc F S (some b)) = 3 from by rw [ho3]; rfl]
      cases hl : sLost S with
      | true =>
        rw [hl] at r111
        have es2 : upd (ms F S1 z) 108 (nI (sAt S)) = ms F S2 z := by
          rw [hS2, if_neg hne0]
          funext j
          by_cases e : j = 108
          · subst e; rw [upd_eq, r108]
          · rw [upd_ne _ _ e]
        replace csp := csp hl tl
        rw [← eL hl] at csp
        obtain ⟨A, hA⟩ : ∃ A, A = fil np 0 (fN F) (fun c => nI (pb (NP F S2 2 c))) := ⟨_, rfl⟩
        rw [← hA] at csp
        have hQ : stQ h F (stepS F S hand) z (((h.set 32 (sC F S2 z)).set 39 (iA 36 A)).set 32 (sC F (stepS F S hand) z)) := ⟨A, by rw [zs_comm h _ _ (show 32 ≠ 39 by decide), zs_set]⟩
        have hM39a : ∀ c c2, (((h.set 32 (sC F S2 z)).set 39 c).set 32 c2)[31]? = some (mC F un le qa qb) := fun c c2 => zg_ne (by decide) (zg_ne (by decide) (hM32 _))
        have hS39a : ∀ c c2, (((h.set 32 (sC F S2 z)).set 39 c).set 32 c2)[32]? = some c2 := fun c c2 => zg_eq (zg_ne (by decide) (hS32 _))
        have hM39 := hM39a (iA 36 A)
        have hS39 := hS39a (iA 36 A)
        have hlen : (((h.set 32 (sC F S2 z)).set 39 (iA 36 A)).set 32 (sC F (stepS F S hand) z)).length = h.length + 0 := by rw [zs_len, zs_len, zs_len]; rfl
        refine zw_aload_n dM_stepTo_0 rfl ?_
        refine zw_get dM_stepTo_1 zf_M_16 (by first | exact hM | exact hS | exact hM32 _ | exact hS32 _ | exact hM39 _ | exact hS39 _) rfl ?_
        refine zw_bipush (v := 109) dM_stepTo_4 (by decide) ?_
        refine zw_iload_n dM_stepTo_6 rfl ?_
        refine zw_iast dM_stepTo_7 (by first | exact hM | exact hS | exact hM32 _ | exact hS32 _ | exact hM39 _ | exact hS39 _) v109 ?_
        rw [e109]
        refine zw_h (sC_u1 eh1) ?_
        refine zw_aload_n dM_stepTo_8 rfl ?_
        refine zw_get dM_stepTo_9 zf_M_16 (by first | exact hM | exact hS | exact hM32 _ | exact hS32 _ | exact hM39 _ | exact hS39 _) rfl ?_
        refine zw_bipush (v := 110) dM_stepTo_12 (by decide) ?_
        refine zw_dup2 dM_stepTo_14 rfl rfl ?_
        refine zw_iald dM_stepTo_15 (by first | exact hM | exact hS | exact hM32 _ | exact hS32 _ | exact hM39 _ | exact hS39 _) v110 ?_
        rw [e110, r110]
        refine zw_iconst (v := 1) dM_stepTo_16 (by decide) ?_
        refine zw_isub dM_stepTo_17 ?_
        refine zw_iast dM_stepTo_18 (by first | exact hM | exact hS | exact hM32 _ | exact hS32 _ | exact hM39 _ | exact hS39 _) v110 ?_
        rw [e110]
        refine zw_h (sC_up eh2) ?_
        refine zw_aload_n dM_stepTo_19 rfl ?_
        refine zw_aload_n dM_stepTo_20 rfl ?_
        refine zw_get dM_stepTo_21 zf_M_16 (by first | exact hM | exact hS | exact hM32 _ | exact hS32 _ | exact hM39 _ | exact hS39 _) rfl ?_
        refine zw_bipush (v := 108) dM_stepTo_24 (by decide) ?_
        refine zw_iald dM_stepTo_26 (by first | exact hM | exact hS | exact hM32 _ | exact hS32 _ | exact hM39 _ | exact hS39 _) v108 ?_
        rw [e108, r108]
        refine zw_iload_n dM_stepTo_27 rfl ?_
        refine zc_V2I dM_stepTo_28 zm_M_beside zk_M_109 (by first | exact hM | exact hS | exact hM32 _ | exact hS32 _ | exact hM39 _ | exact hS39 _) rfl cbs ?_ zRR (Nat.le_of_ble_eq_true rfl) ⟨Nat.le_of_ble_eq_true rfl, Nat.le_of_ble_eq_true rfl⟩
        refine zw_istore_n dM_stepTo_31 (by decide) rfl ?_
        refine zw_aload_n dM_stepTo_32 rfl ?_
        refine zw_iload_n dM_stepTo_33 rfl ?_
        refine zc_V1I dM_stepTo_34 zm_M_toldOf zk_M_123 (by first | exact hM | exact hS | exact hM32 _ | exact hS32 _ | exact hM39 _ | exact hS39 _) rfl ct ?_ zRR (Nat.le_of_ble_eq_true rfl) ⟨Nat.le_of_ble_eq_true rfl, Nat.le_of_ble_eq_true rfl⟩
        refine zw_istore_n dM_stepTo_37 (by decide) rfl ?_
        refine zw_aload_n dM_stepTo_38 rfl ?_
        refine zw_get dM_stepTo_39 zf_M_16 (by first | exact hM | exact hS | exact hM32 _ | exact hS32 _ | exact hM39 _ | exact hS39 _) rfl ?_
        refine zw_bipush (v := 111) dM_stepTo_42 (by decide) ?_
        refine zw_iald dM_stepTo_44 (by first | exact hM | exact hS | exact hM32 _ | exact hS32 _ | exact hM39 _ | exact hS39 _) v111 ?_
        rw [e111, r111]
        refine zw_iconst (v := 1) dM_stepTo_45 (by decide) ?_
        refine zw_icmp_ne 53 dM_stepTo_46 (by decide) (fun c_46 => ?_) (fun c_46 => ?_)
        · exact absurd rfl c_46
        · refine zw_iconst (v := 1) dM_stepTo_49 (by decide) ?_
          refine zw_goto 54 dM_stepTo_50 (by decide) ?_
          refine zw_istore dM_stepTo_54 (by decide) rfl ?_
          refine zw_aload_n dM_stepTo_56 rfl ?_
          refine zw_get dM_stepTo_57 zf_M_16 (by first | exact hM | exact hS | exact hM32 _ | exact hS32 _ | exact hM39 _ | exact hS39 _) rfl ?_
          refine zw_bipush (v := 108) dM_stepTo_60 (by decide) ?_
          refine zw_iload_n dM_stepTo_62 rfl ?_
          refine zw_if_ne 70 dM_stepTo_63 (by decide) (fun c_63 => ?_) (fun c_63 => ?_)
          · refine zw_aload_n dM_stepTo_70 rfl ?_
            refine zw_get dM_stepTo_71 zf_M_16 (by first | exact hM | exact hS | exact hM32 _ | exact hS32 _ | exact hM39 _ | exact hS39 _) rfl ?_
            refine zw_bipush (v := 108) dM_stepTo_74 (by decide) ?_
            refine zw_iald dM_stepTo_76 (by first | exact hM | exact hS | exact hM32 _ | exact hS32 _ | exact hM39 _ | exact hS39 _) v108 ?_
            rw [e108, r108]
            refine zw_iast dM_stepTo_77 (by first | exact hM | exact hS | exact hM32 _ | exact hS32 _ | exact hM39 _ | exact hS39 _) v108 ?_
            rw [e108]
            refine zw_h (sC_up es2) ?_
            refine zw_iload dM_stepTo_78 rfl ?_
            refine zw_if_eq 91 dM_stepTo_80 (by decide) (fun c_80 => ?_) (fun c_80 => ?_)
            · exact absurd c_80 (by decide)
            · refine zw_aload_n dM_stepTo_83 rfl ?_
              refine zw_iload_n dM_stepTo_84 rfl ?_
              refine zc_V1V dM_stepTo_85 zm_M_stepsPlaces zk_M_126 (by first | exact hM | exact hS | exact hM32 _ | exact hS32 _ | exact hM39 _ | exact hS39 _) rfl csp ?_ zRR (Nat.le_of_ble_eq_true rfl) ⟨Nat.le_of_ble_eq_true rfl, Nat.le_of_ble_eq_true rfl⟩
              refine zw_goto 120 dM_stepTo_88 (by decide) ?_
              refine zw_iload_n dM_stepTo_120 rfl ?_
              refine zw_iconst (v := 2) dM_stepTo_121 (by decide) ?_
              refine zw_icmp_ne 129 dM_stepTo_122 (by decide) (fun c_122 => ?_) (fun c_122 => ?_)
              · exact absurd rfl c_122
              · refine zw_iconst (v := 3) dM_stepTo_125 (by decide) ?_
                refine zw_goto 158 dM_stepTo_126 (by decide) ?_
                exact zw_iret dM_stepTo_158 rfl rfl hlen ⟨rfl, hQ⟩
          · exact absurd c_63 (by decide)
      | false =>
        rw [hl] at r111
        have es2 : upd (ms F S1 z) 108 (nI (sAt S)) = ms F S2 z := by
          rw [hS2, if_neg hne0]
          funext j
          by_cases e : j = 108
          · subst e; rw [upd_eq, r108]
          · rw [upd_ne _ _ e]
        have hM39 : ∀ c, (h.set 32 c)[31]? = some (mC F un le qa qb) := hM32
        have hS39 := hS32
        have eN : stepS F S hand = S2 := by rw [eS, hl, hS2, if_neg hne0, if_neg hne0, if_neg (by decide), ho3]; rfl
        rw [← eN] at es2
        have hQ : stQ h F (stepS F S hand) z (h.set 32 (sC F (stepS F S hand) z)) := ⟨np, by rw [zs_self hN]⟩
        have hlen : (h.set 32 (sC F (stepS F S hand) z)).length = h.length + 0 := by rw [zs_len]; rfl
        refine zw_aload_n dM_stepTo_0 rfl ?_
        refine zw_get dM_stepTo_1 zf_M_16 (by first | exact hM | exact hS | exact hM32 _ | exact hS32 _ | exact hM39 _ | exact hS39 _) rfl ?_
        refine zw_bipush (v := 109) dM_stepTo_4 (by decide) ?_
        refine zw_iload_n dM_stepTo_6 rfl ?_
        refine zw_iast dM_stepTo_7 (by first | exact hM | exact hS | exact hM32 _ | exact hS32 _ | exact hM39 _ | exact hS39 _) v109 ?_
        rw [e109]
        refine zw_h (sC_u1 eh1) ?_
        refine zw_aload_n dM_stepTo_8 rfl ?_
        refine zw_get dM_stepTo_9 zf_M_16 (by first | exact hM | exact hS | exact hM32 _ | exact hS32 _ | exact hM39 _ | exact hS39 _) rfl ?_
        refine zw_bipush (v := 110) dM_stepTo_12 (by decide) ?_
        refine zw_dup2 dM_stepTo_14 rfl rfl ?_
        refine zw_iald dM_stepTo_15 (by first | exact hM | exact hS | exact hM32 _ | exact hS32 _ | exact hM39 _ | exact hS39 _) v110 ?_
        rw [e110, r110]
        refine zw_iconst (v := 1) dM_stepTo_16 (by decide) ?_
        refine zw_isub dM_stepTo_17 ?_
        refine zw_iast dM_stepTo_18 (by first | exact hM | exact hS | exact hM32 _ | exact hS32 _ | exact hM39 _ | exact hS39 _) v110 ?_
        rw [e110]
        refine zw_h (sC_up eh2) ?_
        refine zw_aload_n dM_stepTo_19 rfl ?_
        refine zw_aload_n dM_stepTo_20 rfl ?_
        refine zw_get dM_stepTo_21 zf_M_16 (by first | exact hM | exact hS | exact hM32 _ | exact hS32 _ | exact hM39 _ | exact hS39 _) rfl ?_
        refine zw_bipush (v := 108) dM_stepTo_24 (by decide) ?_
        refine zw_iald dM_stepTo_26 (by first | exact hM | exact hS | exact hM32 _ | exact hS32 _ | exact hM39 _ | exact hS39 _) v108 ?_
        rw [e108, r108]
        refine zw_iload_n dM_stepTo_27 rfl ?_
        refine zc_V2I dM_stepTo_28 zm_M_beside zk_M_109 (by first | exact hM | exact hS | exact hM32 _ | exact hS32 _ | exact hM39 _ | exact hS39 _) rfl cbs ?_ zRR (Nat.le_of_ble_eq_true rfl) ⟨Nat.le_of_ble_eq_true rfl, Nat.le_of_ble_eq_true rfl⟩
        refine zw_istore_n dM_stepTo_31 (by decide) rfl ?_
        refine zw_aload_n dM_stepTo_32 rfl ?_
        refine zw_iload_n dM_stepTo_33 rfl ?_
        refine zc_V1I dM_stepTo_34 zm_M_toldOf zk_M_123 (by first | exact hM | exact hS | exact hM32 _ | exact hS32 _ | exact hM39 _ | exact hS39 _) rfl ct ?_ zRR (Nat.le_of_ble_eq_true rfl) ⟨Nat.le_of_ble_eq_true rfl, Nat.le_of_ble_eq_true rfl⟩
        refine zw_istore_n dM_stepTo_37 (by decide) rfl ?_
        refine zw_aload_n dM_stepTo_38 rfl ?_
        refine zw_get dM_stepTo_39 zf_M_16 (by first | exact hM | exact hS | exact hM32 _ | exact hS32 _ | exact hM39 _ | exact hS39 _) rfl ?_
        refine zw_bipush (v := 111) dM_stepTo_42 (by decide) ?_
        refine zw_iald dM_stepTo_44 (by first | exact hM | exact hS | exact hM32 _ | exact hS32 _ | exact hM39 _ | exact hS39 _) v111 ?_
        rw [e111, r111]
        refine zw_iconst (v := 1) dM_stepTo_45 (by decide) ?_
        refine zw_icmp_ne 53 dM_stepTo_46 (by decide) (fun c_46 => ?_) (fun c_46 => ?_)
        · refine zw_iconst (v := 0) dM_stepTo_53 (by decide) ?_
          refine zw_istore dM_stepTo_54 (by decide) rfl ?_
          refine zw_aload_n dM_stepTo_56 rfl ?_
          refine zw_get dM_stepTo_57 zf_M_16 (by first | exact hM | exact hS | exact hM32 _ | exact hS32 _ | exact hM39 _ | exact hS39 _) rfl ?_
          refine zw_bipush (v := 108) dM_stepTo_60 (by decide) ?_
          refine zw_iload_n dM_stepTo_62 rfl ?_
          refine zw_if_ne 70 dM_stepTo_63 (by decide) (fun c_63 => ?_) (fun c_63 => ?_)
          · refine zw_aload_n dM_stepTo_70 rfl ?_
            refine zw_get dM_stepTo_71 zf_M_16 (by first | exact hM | exact hS | exact hM32 _ | exact hS32 _ | exact hM39 _ | exact hS39 _) rfl ?_
            refine zw_bipush (v := 108) dM_stepTo_74 (by decide) ?_
            refine zw_iald dM_stepTo_76 (by first | exact hM | exact hS | exact hM32 _ | exact hS32 _ | exact hM39 _ | exact hS39 _) v108 ?_
            rw [e108, r108]
            refine zw_iast dM_stepTo_77 (by first | exact hM | exact hS | exact hM32 _ | exact hS32 _ | exact hM39 _ | exact hS39 _) v108 ?_
            rw [e108]
            refine zw_h (sC_up es2) ?_
            refine zw_iload dM_stepTo_78 rfl ?_
            refine zw_if_eq 91 dM_stepTo_80 (by decide) (fun c_80 => ?_) (fun c_80 => ?_)
            · refine zw_iload_n dM_stepTo_91 rfl ?_
              refine zw_bipush (v := (-9)) dM_stepTo_92 (by decide) ?_
              refine zw_icmp_eq 120 dM_stepTo_94 (by decide) (fun c_94 => ?_) (fun c_94 => ?_)
              · exact absurd c_94 e9
              · refine zw_iload_n dM_stepTo_97 rfl ?_
                refine zw_iconst (v := 2) dM_stepTo_98 (by decide) ?_
                refine zw_icmp_ge 120 dM_stepTo_99 (by decide) (fun c_99 => ?_) (fun c_99 => ?_)
                · refine zw_iload_n dM_stepTo_120 rfl ?_
                  refine zw_iconst (v := 2) dM_stepTo_121 (by decide) ?_
                  refine zw_icmp_ne 129 dM_stepTo_122 (by decide) (fun c_122 => ?_) (fun c_122 => ?_)
                  · exact absurd rfl c_122
                  · refine zw_iconst (v := 3) dM_stepTo_125 (by decide) ?_
                    refine zw_goto 158 dM_stepTo_126 (by decide) ?_
                    exact zw_iret dM_stepTo_158 rfl rfl hlen ⟨rfl, hQ⟩
                · exact absurd (show (2 : Int32) ≤ nI 2 by decide) c_99
            · exact absurd rfl c_80
          · exact absurd c_63 (by decide)
        · exact absurd c_46 (by decide)
    · by_cases hfr : fre F S b = true
      · have et : told F S (some b) = 0 := by show (if fK F b = 3 then 2 else if fre F S b = true then 0 else 1) = 0; rw [if_neg hf3, if_pos hfr]
        have h0 : outc F S (some b) = 0 := told_0.mp et
        rw [et] at ct tl csp
        rw [et] at eL
        have ct : Run l g mM_toldOf (d + 2 + 1) 0 0 [.ref 31, .int (nI b)] (h.set 32 (sC F S1 z)) (PI (nI 0) (h.set 32 (sC F S1 z))) := ct
        rw [show nI (outc F S (some b)) = 0 from by rw [h0]; rfl]
        cases hl : sLost S with
        | true =>
          rw [hl] at r111
          have es2 : upd (ms F S1 z) 108 (nI b) = ms F S2 z := by rw [hS2, if_pos h0]; exact ms_h3 _ _ _ _
          replace csp := csp hl tl
          rw [← eL hl] at csp
          obtain ⟨A, hA⟩ : ∃ A, A = fil np 0 (fN F) (fun c => nI (pb (NP F S2 0 c))) := ⟨_, rfl⟩
          rw [← hA] at csp
          have hQ : stQ h F (stepS F S hand) z (((h.set 32 (sC F S2 z)).set 39 (iA 36 A)).set 32 (sC F (stepS F S hand) z)) := ⟨A, by rw [zs_comm h _ _ (show 32 ≠ 39 by decide), zs_set]⟩
          have hM39a : ∀ c c2, (((h.set 32 (sC F S2 z)).set 39 c).set 32 c2)[31]? = some (mC F un le qa qb) := fun c c2 => zg_ne (by decide) (zg_ne (by decide) (hM32 _))
          have hS39a : ∀ c c2, (((h.set 32 (sC F S2 z)).set 39 c).set 32 c2)[32]? = some c2 := fun c c2 => zg_eq (zg_ne (by decide) (hS32 _))
          have hM39 := hM39a (iA 36 A)
          have hS39 := hS39a (iA 36 A)
          have hlen : (((h.set 32 (sC F S2 z)).set 39 (iA 36 A)).set 32 (sC F (stepS F S hand) z)).length = h.length + 0 := by rw [zs_len, zs_len, zs_len]; rfl
          refine zw_aload_n dM_stepTo_0 rfl ?_
          refine zw_get dM_stepTo_1 zf_M_16 (by first | exact hM | exact hS | exact hM32 _ | exact hS32 _ | exact hM39 _ | exact hS39 _) rfl ?_
          refine zw_bipush (v := 109) dM_stepTo_4 (by decide) ?_
          refine zw_iload_n dM_stepTo_6 rfl ?_
          refine zw_iast dM_stepTo_7 (by first | exact hM | exact hS | exact hM32 _ | exact hS32 _ | exact hM39 _ | exact hS39 _) v109 ?_
          rw [e109]
          refine zw_h (sC_u1 eh1) ?_
          refine zw_aload_n dM_stepTo_8 rfl ?_
          refine zw_get dM_stepTo_9 zf_M_16 (by first | exact hM | exact hS | exact hM32 _ | exact hS32 _ | exact hM39 _ | exact hS39 _) rfl ?_
          refine zw_bipush (v := 110) dM_stepTo_12 (by decide) ?_
          refine zw_dup2 dM_stepTo_14 rfl rfl ?_
          refine zw_iald dM_stepTo_15 (by first | exact hM | exact hS | exact hM32 _ | exact hS32 _ | exact hM39 _ | exact hS39 _) v110 ?_
          rw [e110, r110]
          refine zw_iconst (v := 1) dM_stepTo_16 (by decide) ?_
          refine zw_isub dM_stepTo_17 ?_
          refine zw_iast dM_stepTo_18 (by first | exact hM | exact hS | exact hM32 _ | exact hS32 _ | exact hM39 _ | exact hS39 _) v110 ?_
          rw [e110]
          refine zw_h (sC_up eh2) ?_
          refine zw_aload_n dM_stepTo_19 rfl ?_
          refine zw_aload_n dM_stepTo_20 rfl ?_
          refine zw_get dM_stepTo_21 zf_M_16 (by first | exact hM | exact hS | exact hM32 _ | exact hS32 _ | exact hM39 _ | exact hS39 _) rfl ?_
          refine zw_bipush (v := 108) dM_stepTo_24 (by decide) ?_
          refine zw_iald dM_stepTo_26 (by first | exact hM | exact hS | exact hM32 _ | exact hS32 _ | exact hM39 _ | exact hS39 _) v108 ?_
          rw [e108, r108]
          refine zw_iload_n dM_stepTo_27 rfl ?_
          refine zc_V2I dM_stepTo_28 zm_M_beside zk_M_109 (by first | exact hM | exact hS | exact hM32 _ | exact hS32 _ | exact hM39 _ | exact hS39 _) rfl cbs ?_ zRR (Nat.le_of_ble_eq_true rfl) ⟨Nat.le_of_ble_eq_true rfl, Nat.le_of_ble_eq_true rfl⟩
          refine zw_istore_n dM_stepTo_31 (by decide) rfl ?_
          refine zw_aload_n dM_stepTo_32 rfl ?_
          refine zw_iload_n dM_stepTo_33 rfl ?_
          refine zc_V1I dM_stepTo_34 zm_M_toldOf zk_M_123 (by first | exact hM | exact hS | exact hM32 _ | exact hS32 _ | exact hM39 _ | exact hS39 _) rfl ct ?_ zRR (Nat.le_of_ble_eq_true rfl) ⟨Nat.le_of_ble_eq_true rfl, Nat.le_of_ble_eq_true rfl⟩
          refine zw_istore_n dM_stepTo_37 (by decide) rfl ?_
          refine zw_aload_n dM_stepTo_38 rfl ?_
          refine zw_get dM_stepTo_39 zf_M_16 (by first | exact hM | exact hS | exact hM32 _ | exact hS32 _ | exact hM39 _ | exact hS39 _) rfl ?_
          refine zw_bipush (v := 111) dM_stepTo_42 (by decide) ?_
          refine zw_iald dM_stepTo_44 (by first | exact hM | exact hS | exact hM32 _ | exact hS32 _ | exact hM39 _ | exact hS39 _) v111 ?_
          rw [e111, r111]
          refine zw_iconst (v := 1) dM_stepTo_45 (by decide) ?_
          refine zw_icmp_ne 53 dM_stepTo_46 (by decide) (fun c_46 => ?_) (fun c_46 => ?_)
          · exact absurd rfl c_46
          · refine zw_iconst (v := 1) dM_stepTo_49 (by decide) ?_
            refine zw_goto 54 dM_stepTo_50 (by decide) ?_
            refine zw_istore dM_stepTo_54 (by decide) rfl ?_
            refine zw_aload_n dM_stepTo_56 rfl ?_
            refine zw_get dM_stepTo_57 zf_M_16 (by first | exact hM | exact hS | exact hM32 _ | exact hS32 _ | exact hM39 _ | exact hS39 _) rfl ?_
            refine zw_bipush (v := 108) dM_stepTo_60 (by decide) ?_
            refine zw_iload_n dM_stepTo_62 rfl ?_
            refine zw_if_ne 70 dM_stepTo_63 (by decide) (fun c_63 => ?_) (fun c_63 => ?_)
            · exact absurd rfl c_63
            · refine zw_iload_n dM_stepTo_66 rfl ?_
              refine zw_goto 77 dM_stepTo_67 (by decide) ?_
              refine zw_iast dM_stepTo_77 (by first | exact hM | exact hS | exact hM32 _ | exact hS32 _ | exact hM39 _ | exact hS39 _) v108 ?_
              rw [e108]
              refine zw_h (sC_up es2) ?_
              refine zw_iload dM_stepTo_78 rfl ?_
              refine zw_if_eq 91 dM_stepTo_80 (by decide) (fun c_80 => ?_) (fun c_80 => ?_)
              · exact absurd c_80 (by decide)
              · refine zw_aload_n dM_stepTo_83 rfl ?_
                refine zw_iload_n dM_stepTo_84 rfl ?_
                refine zc_V1V dM_stepTo_85 zm_M_stepsPlaces zk_M_126 (by first | exact hM | exact hS | exact hM32 _ | exact hS32 _ | exact hM39 _ | exact hS39 _) rfl csp ?_ zRR (Nat.le_of_ble_eq_true rfl) ⟨Nat.le_of_ble_eq_true rfl, Nat.le_of_ble_eq_true rfl⟩
                refine zw_goto 120 dM_stepTo_88 (by decide) ?_
                refine zw_iload_n dM_stepTo_120 rfl ?_
                refine zw_iconst (v := 2) dM_stepTo_121 (by decide) ?_
                refine zw_icmp_ne 129 dM_stepTo_122 (by decide) (fun c_122 => ?_) (fun c_122 => ?_)
                · refine zw_iload_n dM_stepTo_129 rfl ?_
                  refine zw_if_ne 137 dM_stepTo_130 (by decide) (fun c_130 => ?_) (fun c_130 => ?_)
                  · exact absurd rfl c_130
                  · refine zw_iconst (v := 0) dM_stepTo_133 (by decide) ?_
                    refine zw_goto 158 dM_stepTo_134 (by decide) ?_
                    exact zw_iret dM_stepTo_158 rfl rfl hlen ⟨rfl, hQ⟩
                · exact absurd c_122 (by decide)
        | false =>
          rw [hl] at r111
          have es2 : upd (ms F S1 z) 108 (nI b) = ms F S2 z := by rw [hS2, if_pos h0]; exact ms_h3 _ _ _ _
          have hM39 : ∀ c, (h.set 32 c)[31]? = some (mC F un le qa qb) := hM32
          have hS39 := hS32
          have eN : stepS F S hand = setKn S2 (fun i => if i = b then 1 else sKn S2 i) := by
            rw [eS, hl, hS2, if_pos h0, if_pos h0, h0]; rfl
          have es3 : upd (ms F S2 z) (36 + b) 1 = ms F (stepS F S hand) z := by rw [eN]; exact ms_kn hF _ _ hb
          have hQ : stQ h F (stepS F S hand) z (h.set 32 (sC F (stepS F S hand) z)) := ⟨np, by rw [zs_self hN]⟩
          have hlen : (h.set 32 (sC F (stepS F S hand) z)).length = h.length + 0 := by rw [zs_len]; rfl
          refine zw_aload_n dM_stepTo_0 rfl ?_
          refine zw_get dM_stepTo_1 zf_M_16 (by first | exact hM | exact hS | exact hM32 _ | exact hS32 _ | exact hM39 _ | exact hS39 _) rfl ?_
          refine zw_bipush (v := 109) dM_stepTo_4 (by decide) ?_
          refine zw_iload_n dM_stepTo_6 rfl ?_
          refine zw_iast dM_stepTo_7 (by first | exact hM | exact hS | exact hM32 _ | exact hS32 _ | exact hM39 _ | exact hS39 _) v109 ?_
          rw [e109]
          refine zw_h (sC_u1 eh1) ?_
          refine zw_aload_n dM_stepTo_8 rfl ?_
          refine zw_get dM_stepTo_9 zf_M_16 (by first | exact hM | exact hS | exact hM32 _ | exact hS32 _ | exact hM39 _ | exact hS39 _) rfl ?_
          refine zw_bipush (v := 110) dM_stepTo_12 (by decide) ?_
          refine zw_dup2 dM_stepTo_14 rfl rfl ?_
          refine zw_iald dM_stepTo_15 (by first | exact hM | exact hS | exact hM32 _ | exact hS32 _ | exact hM39 _ | exact hS39 _) v110 ?_
          rw [e110, r110]
          refine zw_iconst (v := 1) dM_stepTo_16 (by decide) ?_
          refine zw_isub dM_stepTo_17 ?_
          refine zw_iast dM_stepTo_18 (by first | exact hM | exact hS | exact hM32 _ | exact hS32 _ | exact hM39 _ | exact hS39 _) v110 ?_
          rw [e110]
          refine zw_h (sC_up eh2) ?_
          refine zw_aload_n dM_stepTo_19 rfl ?_
          refine zw_aload_n dM_stepTo_20 rfl ?_
          refine zw_get dM_stepTo_21 zf_M_16 (by first | exact hM | exact hS | exact hM32 _ | exact hS32 _ | exact hM39 _ | exact hS39 _) rfl ?_
          refine zw_bipush (v := 108) dM_stepTo_24 (by decide) ?_
          refine zw_iald dM_stepTo_26 (by first | exact hM | exact hS | exact hM32 _ | exact hS32 _ | exact hM39 _ | exact hS39 _) v108 ?_
          rw [e108, r108]
          refine zw_iload_n dM_stepTo_27 rfl ?_
          refine zc_V2I dM_stepTo_28 zm_M_beside zk_M_109 (by first | exact hM | exact hS | exact hM32 _ | exact hS32 _ | exact hM39 _ | exact hS39 _) rfl cbs ?_ zRR (Nat.le_of_ble_eq_true rfl) ⟨Nat.le_of_ble_eq_true rfl, Nat.le_of_ble_eq_true rfl⟩
          refine zw_istore_n dM_stepTo_31 (by decide) rfl ?_
          refine zw_aload_n dM_stepTo_32 rfl ?_
          refine zw_iload_n dM_stepTo_33 rfl ?_
          refine zc_V1I dM_stepTo_34 zm_M_toldOf zk_M_123 (by first | exact hM | exact hS | exact hM32 _ | exact hS32 _ | exact hM39 _ | exact hS39 _) rfl ct ?_ zRR (Nat.le_of_ble_eq_true rfl) ⟨Nat.le_of_ble_eq_true rfl, Nat.le_of_ble_eq_true rfl⟩
          refine zw_istore_n dM_stepTo_37 (by decide) rfl ?_
          refine zw_aload_n dM_stepTo_38 rfl ?_
          refine zw_get dM_stepTo_39 zf_M_16 (by first | exact hM | exact hS | exact hM32 _ | exact hS32 _ | exact hM39 _ | exact hS39 _) rfl ?_
          refine zw_bipush (v := 111) dM_stepTo_42 (by decide) ?_
          refine zw_iald dM_stepTo_44 (by first | exact hM | exact hS | exact hM32 _ | exact hS32 _ | exact hM39 _ | exact hS39 _) v111 ?_
          rw [e111, r111]
          refine zw_iconst (v := 1) dM_stepTo_45 (by decide) ?_
          refine zw_icmp_ne 53 dM_stepTo_46 (by decide) (fun c_46 => ?_) (fun c_46 => ?_)
          · refine zw_iconst (v := 0) dM_stepTo_53 (by decide) ?_
            refine zw_istore dM_stepTo_54 (by decide) rfl ?_
            refine zw_aload_n dM_stepTo_56 rfl ?_
            refine zw_get dM_stepTo_57 zf_M_16 (by first | exact hM | exact hS | exact hM32 _ | exact hS32 _ | exact hM39 _ | exact hS39 _) rfl ?_
            refine zw_bipush (v := 108) dM_stepTo_60 (by decide) ?_
            refine zw_iload_n dM_stepTo_62 rfl ?_
            refine zw_if_ne 70 dM_stepTo_63 (by decide) (fun c_63 => ?_) (fun c_63 => ?_)
            · exact absurd rfl c_63
            · refine zw_iload_n dM_stepTo_66 rfl ?_
              refine zw_goto 77 dM_stepTo_67 (by decide) ?_
              refine zw_iast dM_stepTo_77 (by first | exact hM | exact hS | exact hM32 _ | exact hS32 _ | exact hM39 _ | exact hS39 _) v108 ?_
              rw [e108]
              refine zw_h (sC_up es2) ?_
              refine zw_iload dM_stepTo_78 rfl ?_
              refine zw_if_eq 91 dM_stepTo_80 (by decide) (fun c_80 => ?_) (fun c_80 => ?_)
              · refine zw_iload_n dM_stepTo_91 rfl ?_
                refine zw_bipush (v := (-9)) dM_stepTo_92 (by decide) ?_
                refine zw_icmp_eq 120 dM_stepTo_94 (by decide) (fun c_94 => ?_) (fun c_94 => ?_)
                · exact absurd c_94 e9
                · refine zw_iload_n dM_stepTo_97 rfl ?_
                  refine zw_iconst (v := 2) dM_stepTo_98 (by decide) ?_
                  refine zw_icmp_ge 120 dM_stepTo_99 (by decide) (fun c_99 => ?_) (fun c_99 => ?_)
                  · exact absurd c_99 (show ¬ (2 : Int32) ≤ nI 0 by decide)
                  · refine zw_aload_n dM_stepTo_102 rfl ?_
                    refine zw_get dM_stepTo_103 zf_M_16 (by first | exact hM | exact hS | exact hM32 _ | exact hS32 _ | exact hM39 _ | exact hS39 _) rfl ?_
                    refine zw_bipush (v := 36) dM_stepTo_106 (by decide) ?_
                    refine zw_iload_n dM_stepTo_108 rfl ?_
                    refine zw_iadd dM_stepTo_109 ?_
                    rw [v1]
                    refine zw_iload_n dM_stepTo_110 rfl ?_
                    refine zw_if_ne 118 dM_stepTo_111 (by decide) (fun c_111 => ?_) (fun c_111 => ?_)
                    · exact absurd rfl c_111
                    · refine zw_iconst (v := 1) dM_stepTo_114 (by decide) ?_
                      refine zw_goto 119 dM_stepTo_115 (by decide) ?_
                      refine zw_iast dM_stepTo_119 (by first | exact hM | exact hS | exact hM32 _ | exact hS32 _ | exact hM39 _ | exact hS39 _) v2 ?_
                      rw [v3]
                      refine zw_h (sC_up es3) ?_
                      refine zw_iload_n dM_stepTo_120 rfl ?_
                      refine zw_iconst (v := 2) dM_stepTo_121 (by decide) ?_
                      refine zw_icmp_ne 129 dM_stepTo_122 (by decide) (fun c_122 => ?_) (fun c_122 => ?_)
                      · refine zw_iload_n dM_stepTo_129 rfl ?_
                        refine zw_if_ne 137 dM_stepTo_130 (by decide) (fun c_130 => ?_) (fun c_130 => ?_)
                        · exact absurd rfl c_130
                        · refine zw_iconst (v := 0) dM_stepTo_133 (by decide) ?_
                          refine zw_goto 158 dM_stepTo_134 (by decide) ?_
                          exact zw_iret dM_stepTo_158 rfl rfl hlen ⟨rfl, hQ⟩
                      · exact absurd c_122 (by decide)
              · exact absurd rfl c_80
          · exact absurd c_46 (by decide)
      · have et : told F S (some b) = 1 := by show (if fK F b = 3 then 2 else if fre F S b = true then 0 else 1) = 1; rw [if_neg hf3, if_neg hfr]
        have ho : outc F S (some b) = if fK F b = 2 then 2 else 1 := by show (if fre F S b = true then 0 else if fK F b = 2 then 2 else if fK F b = 3 then 3 else 1) = _; rw [if_neg hfr, if_neg hf3]
        have hne0 : ¬ outc F S (some b) = 0 := by rw [ho]; split <;> decide
        have hne3 : ¬ outc F S (some b) = 3 := by rw [ho]; split <;> decide
        rw [et] at ct tl csp
        rw [et] at eL
        have ct : Run l g mM_toldOf (d + 2 + 1) 0 0 [.ref 31, .int (nI b)] (h.set 32 (sC F S1 z)) (PI (nI 1) (h.set 32 (sC F S1 z))) := ct
        rw [show nI (outc F S (some b)) = nI (if fK F b = 2 then 2 else 1) from by rw [ho]]
        cases hl : sLost S with
        | true =>
          rw [hl] at r111
          have es2 : upd (ms F S1 z) 108 (nI (sAt S)) = ms F S2 z := by
            rw [hS2, if_neg hne0]
            funext j
            by_cases e : j = 108
            · subst e; rw [upd_eq, r108]
            · rw [upd_ne _ _ e]
          replace csp := csp hl tl
          rw [← eL hl] at csp
          obtain ⟨A, hA⟩ : ∃ A, A = fil np 0 (fN F) (fun c => nI (pb (NP F S2 1 c))) := ⟨_, rfl⟩
          rw [← hA] at csp
          have hQ : stQ h F (stepS F S hand) z (((h.set 32 (sC F S2 z)).set 39 (iA 36 A)).set 32 (sC F (stepS F S hand) z)) := ⟨A, by rw [zs_comm h _ _ (show 32 ≠ 39 by decide), zs_set]⟩
          have hM39a : ∀ c c2, (((h.set 32 (sC F S2 z)).set 39 c).set 32 c2)[31]? = some (mC F un le qa qb) := fun c c2 => zg_ne (by decide) (zg_ne (by decide) (hM32 _))
          have hS39a : ∀ c c2, (((h.set 32 (sC F S2 z)).set 39 c).set 32 c2)[32]? = some c2 := fun c c2 => zg_eq (zg_ne (by decide) (hS32 _))
          have hM39 := hM39a (iA 36 A)
          have hS39 := hS39a (iA 36 A)
          have hlen : (((h.set 32 (sC F S2 z)).set 39 (iA 36 A)).set 32 (sC F (stepS F S hand) z)).length = h.length + 0 := by rw [zs_len, zs_len, zs_len]; rfl
          have ek : ms F (stepS F S hand) z b = nI (kdn F S b) := by
            rw [ms_k hF hb, eL hl, kdn_found, hS2, if_neg hne0, hS1]; rfl
          refine zw_aload_n dM_stepTo_0 rfl ?_
          refine zw_get dM_stepTo_1 zf_M_16 (by first | exact hM | exact hS | exact hM32 _ | exact hS32 _ | exact hM39 _ | exact hS39 _) rfl ?_
          refine zw_bipush (v := 109) dM_stepTo_4 (by decide) ?_
          refine zw_iload_n dM_stepTo_6 rfl ?_
          refine zw_iast dM_stepTo_7 (by first | exact hM | exact hS | exact hM32 _ | exact hS32 _ | exact hM39 _ | exact hS39 _) v109 ?_
          rw [e109]
          refine zw_h (sC_u1 eh1) ?_
          refine zw_aload_n dM_stepTo_8 rfl ?_
          refine zw_get dM_stepTo_9 zf_M_16 (by first | exact hM | exact hS | exact hM32 _ | exact hS32 _ | exact hM39 _ | exact hS39 _) rfl ?_
          refine zw_bipush (v := 110) dM_stepTo_12 (by decide) ?_
          refine zw_dup2 dM_stepTo_14 rfl rfl ?_
          refine zw_iald dM_stepTo_15 (by first | exact hM | exact hS | exact hM32 _ | exact hS32 _ | exact hM39 _ | exact hS39 _) v110 ?_
          rw [e110, r110]
          refine zw_iconst (v := 1) dM_stepTo_16 (by decide) ?_
          refine zw_isub dM_stepTo_17 ?_
          refine zw_iast dM_stepTo_18 (by first | exact hM | exact hS | exact hM32 _ | exact hS32 _ | exact hM39 _ | exact hS39 _) v110 ?_
          rw [e110]
          refine zw_h (sC_up eh2) ?_
          refine zw_aload_n dM_stepTo_19 rfl ?_
          refine zw_aload_n dM_stepTo_20 rfl ?_
          refine zw_get dM_stepTo_21 zf_M_16 (by first | exact hM | exact hS | exact hM32 _ | exact hS32 _ | exact hM39 _ | exact hS39 _) rfl ?_
          refine zw_bipush (v := 108) dM_stepTo_24 (by decide) ?_
          refine zw_iald dM_stepTo_26 (by first | exact hM | exact hS | exact hM32 _ | exact hS32 _ | exact hM39 _ | exact hS39 _) v108 ?_
          rw [e108, r108]
          refine zw_iload_n dM_stepTo_27 rfl ?_
          refine zc_V2I dM_stepTo_28 zm_M_beside zk_M_109 (by first | exact hM | exact hS | exact hM32 _ | exact hS32 _ | exact hM39 _ | exact hS39 _) rfl cbs ?_ zRR (Nat.le_of_ble_eq_true rfl) ⟨Nat.le_of_ble_eq_true rfl, Nat.le_of_ble_eq_true rfl⟩
          refine zw_istore_n dM_stepTo_31 (by decide) rfl ?_
          refine zw_aload_n dM_stepTo_32 rfl ?_
          refine zw_iload_n dM_stepTo_33 rfl ?_
          refine zc_V1I dM_stepTo_34 zm_M_toldOf zk_M_123 (by first | exact hM | exact hS | exact hM32 _ | exact hS32 _ | exact hM39 _ | exact hS39 _) rfl ct ?_ zRR (Nat.le_of_ble_eq_true rfl) ⟨Nat.le_of_ble_eq_true rfl, Nat.le_of_ble_eq_true rfl⟩
          refine zw_istore_n dM_stepTo_37 (by decide) rfl ?_
          refine zw_aload_n dM_stepTo_38 rfl ?_
          refine zw_get dM_stepTo_39 zf_M_16 (by first | exact hM | exact hS | exact hM32 _ | exact hS32 _ | exact hM39 _ | exact hS39 _) rfl ?_
          refine zw_bipush (v := 111) dM_stepTo_42 (by decide) ?_
          refine zw_iald dM_stepTo_44 (by first | exact hM | exact hS | exact hM32 _ | exact hS32 _ | exact hM39 _ | exact hS39 _) v111 ?_
          rw [e111, r111]
          refine zw_iconst (v := 1) dM_stepTo_45 (by decide) ?_
          refine zw_icmp_ne 53 dM_stepTo_46 (by decide) (fun c_46 => ?_) (fun c_46 => ?_)
          · exact absurd rfl c_46
          · refine zw_iconst (v := 1) dM_stepTo_49 (by decide) ?_
            refine zw_goto 54 dM_stepTo_50 (by decide) ?_
            refine zw_istore dM_stepTo_54 (by decide) rfl ?_
            refine zw_aload_n dM_stepTo_56 rfl ?_
            refine zw_get dM_stepTo_57 zf_M_16 (by first | exact hM | exact hS | exact hM32 _ | exact hS32 _ | exact hM39 _ | exact hS39 _) rfl ?_
            refine zw_bipush (v := 108) dM_stepTo_60 (by decide) ?_
            refine zw_iload_n dM_stepTo_62 rfl ?_
            refine zw_if_ne 70 dM_stepTo_63 (by decide) (fun c_63 => ?_) (fun c_63 => ?_)
            · refine zw_aload_n dM_stepTo_70 rfl ?_
              refine zw_get dM_stepTo_71 zf_M_16 (by first | exact hM | exact hS | exact hM32 _ | exact hS32 _ | exact hM39 _ | exact hS39 _) rfl ?_
              refine zw_bipush (v := 108) dM_stepTo_74 (by decide) ?_
              refine zw_iald dM_stepTo_76 (by first | exact hM | exact hS | exact hM32 _ | exact hS32 _ | exact hM39 _ | exact hS39 _) v108 ?_
              rw [e108, r108]
              refine zw_iast dM_stepTo_77 (by first | exact hM | exact hS | exact hM32 _ | exact hS32 _ | exact hM39 _ | exact hS39 _) v108 ?_
              rw [e108]
              refine zw_h (sC_up es2) ?_
              refine zw_iload dM_stepTo_78 rfl ?_
              refine zw_if_eq 91 dM_stepTo_80 (by decide) (fun c_80 => ?_) (fun c_80 => ?_)
              · exact absurd c_80 (by decide)
              · refine zw_aload_n dM_stepTo_83 rfl ?_
                refine zw_iload_n dM_stepTo_84 rfl ?_
                refine zc_V1V dM_stepTo_85 zm_M_stepsPlaces zk_M_126 (by first | exact hM | exact hS | exact hM32 _ | exact hS32 _ | exact hM39 _ | exact hS39 _) rfl csp ?_ zRR (Nat.le_of_ble_eq_true rfl) ⟨Nat.le_of_ble_eq_true rfl, Nat.le_of_ble_eq_true rfl⟩
                refine zw_goto 120 dM_stepTo_88 (by decide) ?_
                refine zw_iload_n dM_stepTo_120 rfl ?_
                refine zw_iconst (v := 2) dM_stepTo_121 (by decide) ?_
                refine zw_icmp_ne 129 dM_stepTo_122 (by decide) (fun c_122 => ?_) (fun c_122 => ?_)
                · refine zw_iload_n dM_stepTo_129 rfl ?_
                  refine zw_if_ne 137 dM_stepTo_130 (by decide) (fun c_130 => ?_) (fun c_130 => ?_)
                  · refine zw_iload_n dM_stepTo_137 rfl ?_
                    refine zw_bipush (v := (-9)) dM_stepTo_138 (by decide) ?_
                    refine zw_icmp_eq 157 dM_stepTo_140 (by decide) (fun c_140 => ?_) (fun c_140 => ?_)
                    · exact absurd c_140 e9
                    · refine zw_aload_n dM_stepTo_143 rfl ?_
                      refine zw_get dM_stepTo_144 zf_M_16 (by first | exact hM | exact hS | exact hM32 _ | exact hS32 _ | exact hM39 _ | exact hS39 _) rfl ?_
                      refine zw_iload_n dM_stepTo_147 rfl ?_
                      refine zw_iald dM_stepTo_148 (by first | exact hM | exact hS | exact hM32 _ | exact hS32 _ | exact hM39 _ | exact hS39 _) (vk hF hb) ?_
                      rw [hcl, ek]
                      refine zw_iconst (v := 2) dM_stepTo_149 (by decide) ?_
                      refine zw_icmp_ne 157 dM_stepTo_150 (by decide) (fun c_150 => ?_) (fun c_150 => ?_)
                      · refine zw_iconst (v := 1) dM_stepTo_157 (by decide) ?_
                        exact zw_iret dM_stepTo_158 rfl rfl hlen ⟨piE (by
first
  | (rw [if_neg (fun q => c_150 (n2.mpr q))]; rfl)
  | (rw [if_pos (n2.mp c_150)]; rfl)), hQ⟩
                      · refine zw_iconst (v := 2) dM_stepTo_153 (by decide) ?_
                        refine zw_goto 158 dM_stepTo_154 (by decide) ?_
                        exact zw_iret dM_stepTo_158 rfl rfl hlen ⟨piE (by
first
  | (rw [if_neg (fun q => c_150 (n2.mpr q))]; rfl)
  | (rw [if_pos (n2.mp c_150)]; rfl)), hQ⟩
                  · exact absurd c_130 (by decide)
                · exact absurd c_122 (by decide)
            · exact absurd c_63 (by decide)
        | false =>
          rw [hl] at r111
          have es2 : upd (ms F S1 z) 108 (nI (sAt S)) = ms F S2 z := by
            rw [hS2, if_neg hne0]
            funext j
            by_cases e : j = 108
            · subst e; rw [upd_eq, r108]
            · rw [upd_ne _ _ e]
          have hM39 : ∀ c, (h.set 32 c)[31]? = some (mC F un le qa qb) := hM32
          have hS39 := hS32
          have eN : stepS F S hand = setKn S2 (fun i => if i = b then 2 else sKn S2 i) := by
            rw [eS, hl, hS2, if_neg hne0, if_neg hne0, if_neg (by decide), lrn_2 _ _ hne0 hne3]
          have es3 : upd (ms F S2 z) (36 + b) 2 = ms F (stepS F S hand) z := by rw [eN]; exact ms_kn hF _ _ hb
          have hQ : stQ h F (stepS F S hand) z (h.set 32 (sC F (stepS F S hand) z)) := ⟨np, by rw [zs_self hN]⟩
          have hlen : (h.set 32 (sC F (stepS F S hand) z)).length = h.length + 0 := by rw [zs_len]; rfl
          have ek : ms F (stepS F S hand) z b = nI (kdn F S b) := by
            rw [ms_k hF hb, eN, hS2, if_neg hne0, hS1]; rfl
          refine zw_aload_n dM_stepTo_0 rfl ?_
          refine zw_get dM_stepTo_1 zf_M_16 (by first | exact hM | exact hS | exact hM32 _ | exact hS32 _ | exact hM39 _ | exact hS39 _) rfl ?_
          refine zw_bipush (v := 109) dM_stepTo_4 (by decide) ?_
          refine zw_iload_n dM_stepTo_6 rfl ?_
          refine zw_iast dM_stepTo_7 (by first | exact hM | exact hS | exact hM32 _ | exact hS32 _ | exact hM39 _ | exact hS39 _) v109 ?_
          rw [e109]
          refine zw_h (sC_u1 eh1) ?_
          refine zw_aload_n dM_stepTo_8 rfl ?_
          refine zw_get dM_stepTo_9 zf_M_16 (by first | exact hM | exact hS | exact hM32 _ | exact hS32 _ | exact hM39 _ | exact hS39 _) rfl ?_
          refine zw_bipush (v := 110) dM_stepTo_12 (by decide) ?_
          refine zw_dup2 dM_stepTo_14 rfl rfl ?_
          refine zw_iald dM_stepTo_15 (by first | exact hM | exact hS | exact hM32 _ | exact hS32 _ | exact hM39 _ | exact hS39 _) v110 ?_
          rw [e110, r110]
          refine zw_iconst (v := 1) dM_stepTo_16 (by decide) ?_
          refine zw_isub dM_stepTo_17 ?_
          refine zw_iast dM_stepTo_18 (by first | exact hM | exact hS | exact hM32 _ | exact hS32 _ | exact hM39 _ | exact hS39 _) v110 ?_
          rw [e110]
          refine zw_h (sC_up eh2) ?_
          refine zw_aload_n dM_stepTo_19 rfl ?_
          refine zw_aload_n dM_stepTo_20 rfl ?_
          refine zw_get dM_stepTo_21 zf_M_16 (by first | exact hM | exact hS | exact hM32 _ | exact hS32 _ | exact hM39 _ | exact hS39 _) rfl ?_
          refine zw_bipush (v := 108) dM_stepTo_24 (by decide) ?_
          refine zw_iald dM_stepTo_26 (by first | exact hM | exact hS | exact hM32 _ | exact hS32 _ | exact hM39 _ | exact hS39 _) v108 ?_
          rw [e108, r108]
          refine zw_iload_n dM_stepTo_27 rfl ?_
          refine zc_V2I dM_stepTo_28 zm_M_beside zk_M_109 (by first | exact hM | exact hS | exact hM32 _ | exact hS32 _ | exact hM39 _ | exact hS39 _) rfl cbs ?_ zRR (Nat.le_of_ble_eq_true rfl) ⟨Nat.le_of_ble_eq_true rfl, Nat.le_of_ble_eq_true rfl⟩
          refine zw_istore_n dM_stepTo_31 (by decide) rfl ?_
          refine zw_aload_n dM_stepTo_32 rfl ?_
          refine zw_iload_n dM_stepTo_33 rfl ?_
          refine zc_V1I dM_stepTo_34 zm_M_toldOf zk_M_123 (by first | exact hM | exact hS | exact hM32 _ | exact hS32 _ | exact hM39 _ | exact hS39 _) rfl ct ?_ zRR (Nat.le_of_ble_eq_true rfl) ⟨Nat.le_of_ble_eq_true rfl, Nat.le_of_ble_eq_true rfl⟩
          refine zw_istore_n dM_stepTo_37 (by decide) rfl ?_
          refine zw_aload_n dM_stepTo_38 rfl ?_
          refine zw_get dM_stepTo_39 zf_M_16 (by first | exact hM | exact hS | exact hM32 _ | exact hS32 _ | exact hM39 _ | exact hS39 _) rfl ?_
          refine zw_bipush (v := 111) dM_stepTo_42 (by decide) ?_
          refine zw_iald dM_stepTo_44 (by first | exact hM | exact hS | exact hM32 _ | exact hS32 _ | exact hM39 _ | exact hS39 _) v111 ?_
          rw [e111, r111]
          refine zw_iconst (v := 1) dM_stepTo_45 (by decide) ?_
          refine zw_icmp_ne 53 dM_stepTo_46 (by decide) (fun c_46 => ?_) (fun c_46 => ?_)
          · refine zw_iconst (v := 0) dM_stepTo_53 (by decide) ?_
            refine zw_istore dM_stepTo_54 (by decide) rfl ?_
            refine zw_aload_n dM_stepTo_56 rfl ?_
            refine zw_get dM_stepTo_57 zf_M_16 (by first | exact hM | exact hS | exact hM32 _ | exact hS32 _ | exact hM39 _ | exact hS39 _) rfl ?_
            refine zw_bipush (v := 108) dM_stepTo_60 (by decide) ?_
            refine zw_iload_n dM_stepTo_62 rfl ?_
            refine zw_if_ne 70 dM_stepTo_63 (by decide) (fun c_63 => ?_) (fun c_63 => ?_)
            · refine zw_aload_n dM_stepTo_70 rfl ?_
              refine zw_get dM_stepTo_71 zf_M_16 (by first | exact hM | exact hS | exact hM32 _ | exact hS32 _ | exact hM39 _ | exact hS39 _) rfl ?_
              refine zw_bipush (v := 108) dM_stepTo_74 (by decide) ?_
              refine zw_iald dM_stepTo_76 (by first | exact hM | exact hS | exact hM32 _ | exact hS32 _ | exact hM39 _ | exact hS39 _) v108 ?_
              rw [e108, r108]
              refine zw_iast dM_stepTo_77 (by first | exact hM | exact hS | exact hM32 _ | exact hS32 _ | exact hM39 _ | exact hS39 _) v108 ?_
              rw [e108]
              refine zw_h (sC_up es2) ?_
              refine zw_iload dM_stepTo_78 rfl ?_
              refine zw_if_eq 91 dM_stepTo_80 (by decide) (fun c_80 => ?_) (fun c_80 => ?_)
              · refine zw_iload_n dM_stepTo_91 rfl ?_
                refine zw_bipush (v := (-9)) dM_stepTo_92 (by decide) ?_
                refine zw_icmp_eq 120 dM_stepTo_94 (by decide) (fun c_94 => ?_) (fun c_94 => ?_)
                · exact absurd c_94 e9
                · refine zw_iload_n dM_stepTo_97 rfl ?_
                  refine zw_iconst (v := 2) dM_stepTo_98 (by decide) ?_
                  refine zw_icmp_ge 120 dM_stepTo_99 (by decide) (fun c_99 => ?_) (fun c_99 => ?_)
                  · exact absurd c_99 (show ¬ (2 : Int32) ≤ nI 1 by decide)
                  · refine zw_aload_n dM_stepTo_102 rfl ?_
                    refine zw_get dM_stepTo_103 zf_M_16 (by first | exact hM | exact hS | exact hM32 _ | exact hS32 _ | exact hM39 _ | exact hS39 _) rfl ?_
                    refine zw_bipush (v := 36) dM_stepTo_106 (by decide) ?_
                    refine zw_iload_n dM_stepTo_108 rfl ?_
                    refine zw_iadd dM_stepTo_109 ?_
                    rw [v1]
                    refine zw_iload_n dM_stepTo_110 rfl ?_
                    refine zw_if_ne 118 dM_stepTo_111 (by decide) (fun c_111 => ?_) (fun c_111 => ?_)
                    · refine zw_iconst (v := 2) dM_stepTo_118 (by decide) ?_
                      refine zw_iast dM_stepTo_119 (by first | exact hM | exact hS | exact hM32 _ | exact hS32 _ | exact hM39 _ | exact hS39 _) v2 ?_
                      rw [v3]
                      refine zw_h (sC_up es3) ?_
                      refine zw_iload_n dM_stepTo_120 rfl ?_
                      refine zw_iconst (v := 2) dM_stepTo_121 (by decide) ?_
                      refine zw_icmp_ne 129 dM_stepTo_122 (by decide) (fun c_122 => ?_) (fun c_122 => ?_)
                      · refine zw_iload_n dM_stepTo_129 rfl ?_
                        refine zw_if_ne 137 dM_stepTo_130 (by decide) (fun c_130 => ?_) (fun c_130 => ?_)
                        · refine zw_iload_n dM_stepTo_137 rfl ?_
                          refine zw_bipush (v := (-9)) dM_stepTo_138 (by decide) ?_
                          refine zw_icmp_eq 157 dM_stepTo_140 (by decide) (fun c_140 => ?_) (fun c_140 => ?_)
                          · exact absurd c_140 e9
                          · refine zw_aload_n dM_stepTo_143 rfl ?_
                            refine zw_get dM_stepTo_144 zf_M_16 (by first | exact hM | exact hS | exact hM32 _ | exact hS32 _ | exact hM39 _ | exact hS39 _) rfl ?_
                            refine zw_iload_n dM_stepTo_147 rfl ?_
                            refine zw_iald dM_stepTo_148 (by first | exact hM | exact hS | exact hM32 _ | exact hS32 _ | exact hM39 _ | exact hS39 _) (vk hF hb) ?_
                            rw [hcl, ek]
                            refine zw_iconst (v := 2) dM_stepTo_149 (by decide) ?_
                            refine zw_icmp_ne 157 dM_stepTo_150 (by decide) (fun c_150 => ?_) (fun c_150 => ?_)
                            · refine zw_iconst (v := 1) dM_stepTo_157 (by decide) ?_
                              exact zw_iret dM_stepTo_158 rfl rfl hlen ⟨piE (by
first
  | (rw [if_neg (fun q => c_150 (n2.mpr q))]; rfl)
  | (rw [if_pos (n2.mp c_150)]; rfl)), hQ⟩
                            · refine zw_iconst (v := 2) dM_stepTo_153 (by decide) ?_
                              refine zw_goto 158 dM_stepTo_154 (by decide) ?_
                              exact zw_iret dM_stepTo_158 rfl rfl hlen ⟨piE (by
first
  | (rw [if_neg (fun q => c_150 (n2.mpr q))]; rfl)
  | (rw [if_pos (n2.mp c_150)]; rfl)), hQ⟩
                        · exact absurd c_130 (by decide)
                      · exact absurd c_122 (by decide)
                    · exact absurd c_111 (by decide)
              · exact absurd rfl c_80
            · exact absurd c_63 (by decide)
          · exact absurd c_46 (by decide)
end C55
