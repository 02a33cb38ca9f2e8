section C40
variable {l : Launch} {g : zG} {d : Nat} {h : zH}
/-- the kinds that were read -/
def kdR (P : PS) (kf : Nat → Int32) : Prop := ∀ i, i < pCell P → kf i = nI (P.2.2.2.1 i)
theorem endR_cell {P P' : PS} (h : pOK P) (e : endR P = some P') : pCell P' = pCell P ∧ P'.2.2.2.1 = P.2.2.2.1 := by
  obtain ⟨r, w, s, kd, dk⟩ := P
  obtain ⟨h1, h2, h3, h4, h5, h6, h7, h8⟩ := h
  unfold endR at e
  dsimp only at *
  split at e
  · cases e
  case isFalse hn =>
    cases e
    refine ⟨?_, rfl⟩
    show (r + 1) * s + 0 = r * w + s
    rcases Nat.eq_zero_or_pos r with q | q
    · subst q; simp
    · have ew : w = s := by have := h5 q; omega
      rw [ew, Nat.add_mul]; omega
theorem takS_cell {P P' : PS} {k : Nat} (e : takS P k = some P') : pCell P' = pCell P + 1 ∧ P'.2.2.2.1 = fun i => if i = pCell P then k else P.2.2.2.1 i := by
  obtain ⟨r, w, s, kd, dk⟩ := P
  unfold takS at e
  dsimp only at *
  by_cases hn : 6 ≤ r ∨ (if r = 0 then 6 else w) ≤ s ∨ (k = 6 ∧ dk ≠ none)
  · rw [if_pos hn] at e; cases e
  · rw [if_neg hn] at e
    cases e
    exact ⟨by show r * w + (s + 1) = r * w + s + 1; omega, rfl⟩
def tkH (len : Nat) (h : zH) (o : Option PS) : zH → Prop := fun h' => match o with
  | none => h' = h
  | some P' => ∃ kf', kdR P' kf' ∧ h' = (h.set 3 (kdA kf')).set 1 (psC len P')
theorem c_T_takes {len : Nat} {P : PS} (hP : pOK P) {x : Int32} (t1 : h[1]? = some (psC len P)) {kf : Nat → Int32} (t3 : h[3]? = some (kdA kf)) (hkf : kdR P kf) : Run l g mT_takes (d + 1) 0 0 [.ref 1, .int x] h (PIh (if (takL P x).isSome = true then 1 else 0) (tkH len h (takL P x))) := by
  by_cases h59 : x = 59
  · have e : takL P x = endR P := by unfold takL; rw [if_pos h59]
    rw [e]
    have ce := c_T_endsRow (l := l) (g := g) (d := d) hP t1
    cases hq : endR P with
    | none =>
      rw [hq] at ce
      subst h59
      refine run_of (by decide) (Nat.le_of_ble_eq_true rfl) ?_
      refine zw_iload_n dT_takes_0 rfl ?_
      refine zw_bipush (v := 59) dT_takes_1 (by decide) ?_
      refine zw_icmp_ne 13 dT_takes_3 (by decide) (fun c_3 => ?_) (fun c_3 => ?_)
      · exact absurd rfl c_3
      · refine zw_aload_n dT_takes_6 rfl ?_
        refine zc_V0I dT_takes_7 zm_T_endsRow zk_T_41 t1 rfl ce ?_ zRR (Nat.le_of_ble_eq_true rfl) ⟨Nat.le_of_ble_eq_true rfl, Nat.le_of_ble_eq_true rfl⟩
        refine zw_goto 21 dT_takes_10 (by decide) ?_
        exact zw_iret dT_takes_21 rfl rfl rfl ⟨rfl, rfl⟩
    | some P' =>
      rw [hq] at ce
      subst h59
      obtain ⟨c1, c2⟩ := endR_cell hP hq
      refine run_of (by decide) (Nat.le_of_ble_eq_true rfl) ?_
      refine zw_iload_n dT_takes_0 rfl ?_
      refine zw_bipush (v := 59) dT_takes_1 (by decide) ?_
      refine zw_icmp_ne 13 dT_takes_3 (by decide) (fun c_3 => ?_) (fun c_3 => ?_)
      · exact absurd rfl c_3
      · refine zw_aload_n dT_takes_6 rfl ?_
        refine zc_V0I dT_takes_7 zm_T_endsRow zk_T_41 t1 rfl ce ?_ zRR (Nat.le_of_ble_eq_true rfl) ⟨Nat.le_of_ble_eq_true rfl, Nat.le_of_ble_eq_true rfl⟩
        refine zw_goto 21 dT_takes_10 (by decide) ?_
        exact zw_iret dT_takes_21 rfl rfl (by simp) ⟨rfl, kf, fun i hi => by rw [c2]; exact hkf i (by rw [← c1]; exact hi), by rw [zs_self t3]⟩
  · cases hk : ks x with
    | none =>
      have e : takL P x = none := by unfold takL; rw [if_neg h59, hk]
      rw [e]
      have ck := c_T_kindOfSign (l := l) (g := g) (d := d) (h := h) (x := x)
      rw [hk] at ck
      refine run_of (by decide) (Nat.le_of_ble_eq_true rfl) ?_
      refine zw_iload_n dT_takes_0 rfl ?_
      refine zw_bipush (v := 59) dT_takes_1 (by decide) ?_
      refine zw_icmp_ne 13 dT_takes_3 (by decide) (fun c_3 => ?_) (fun c_3 => ?_)
      · refine zw_aload_n dT_takes_13 rfl ?_
        refine zw_iload_n dT_takes_14 rfl ?_
        refine zc_S1I dT_takes_15 zm_T_kindOfSign zk_T_45 ck ?_ zRR (Nat.le_of_ble_eq_true rfl) ⟨Nat.le_of_ble_eq_true rfl, Nat.le_of_ble_eq_true rfl⟩
        refine zc_V1I dT_takes_18 zm_T_takesSign zk_T_49 t1 rfl (c_T_takesSign0 t1) ?_ zRR (Nat.le_of_ble_eq_true rfl) ⟨Nat.le_of_ble_eq_true rfl, Nat.le_of_ble_eq_true rfl⟩
        exact zw_iret dT_takes_21 rfl rfl rfl ⟨rfl, rfl⟩
      · exact absurd c_3 h59
    | some k =>
      have e : takL P x = takS P k := by unfold takL; rw [if_neg h59, hk]
      rw [e]
      have ck := c_T_kindOfSign (l := l) (g := g) (d := d) (h := h) (x := x)
      rw [hk] at ck
      have ct := c_T_takesSign (l := l) (g := g) (d := d) hP (ks_le hk) t1 t3
      cases hq : takS P k with
      | none =>
        rw [hq] at ct
        refine run_of (by decide) (Nat.le_of_ble_eq_true rfl) ?_
        refine zw_iload_n dT_takes_0 rfl ?_
        refine zw_bipush (v := 59) dT_takes_1 (by decide) ?_
        refine zw_icmp_ne 13 dT_takes_3 (by decide) (fun c_3 => ?_) (fun c_3 => ?_)
        · refine zw_aload_n dT_takes_13 rfl ?_
          refine zw_iload_n dT_takes_14 rfl ?_
          refine zc_S1I dT_takes_15 zm_T_kindOfSign zk_T_45 ck ?_ zRR (Nat.le_of_ble_eq_true rfl) ⟨Nat.le_of_ble_eq_true rfl, Nat.le_of_ble_eq_true rfl⟩
          refine zc_V1I dT_takes_18 zm_T_takesSign zk_T_49 t1 rfl ct ?_ zRR (Nat.le_of_ble_eq_true rfl) ⟨Nat.le_of_ble_eq_true rfl, Nat.le_of_ble_eq_true rfl⟩
          exact zw_iret dT_takes_21 rfl rfl rfl ⟨rfl, rfl⟩
        · exact absurd c_3 h59
      | some P' =>
        rw [hq] at ct
        obtain ⟨c1, c2⟩ := takS_cell hq
        refine run_of (by decide) (Nat.le_of_ble_eq_true rfl) ?_
        refine zw_iload_n dT_takes_0 rfl ?_
        refine zw_bipush (v := 59) dT_takes_1 (by decide) ?_
        refine zw_icmp_ne 13 dT_takes_3 (by decide) (fun c_3 => ?_) (fun c_3 => ?_)
        · refine zw_aload_n dT_takes_13 rfl ?_
          refine zw_iload_n dT_takes_14 rfl ?_
          refine zc_S1I dT_takes_15 zm_T_kindOfSign zk_T_45 ck ?_ zRR (Nat.le_of_ble_eq_true rfl) ⟨Nat.le_of_ble_eq_true rfl, Nat.le_of_ble_eq_true rfl⟩
          refine zc_V1I dT_takes_18 zm_T_takesSign zk_T_49 t1 rfl ct ?_ zRR (Nat.le_of_ble_eq_true rfl) ⟨Nat.le_of_ble_eq_true rfl, Nat.le_of_ble_eq_true rfl⟩
          exact zw_iret dT_takes_21 rfl rfl (by simp) ⟨rfl, _, fun i hi => by rw [c2]; dsimp only; rw [c1] at hi; by_cases ei : i = pCell P; (simp [upd, ei]); (simp only [upd, ei, if_false]; exact hkf i (by omega)), rfl⟩
        · exact absurd c_3 h59
def ffI (q : Nat ⊕ PS) : Int32 := match q with | .inl f => nI f | .inr _ => -1
def ffH (len : Nat) (h : zH) (q : Nat ⊕ PS) : zH → Prop := fun h' => ∃ (P : PS) (kf : Nat → Int32), h' = (h.set 3 (kdA kf)).set 1 (psC len P) ∧ ∀ P', q = .inr P' → P = P' ∧ kdR P' kf
theorem c_T_findFault {len : Nat} (hlen : len ≤ 60) {T lf kf0 : Nat → Int32} {c w ht sg dk : Int32} (t1 : h[1]? = some (txC (nI len) c w ht sg dk)) (t2 : h[2]? = some (.inl (0, 60, .inl lf))) (t3 : h[3]? = some (kdA kf0)) (t4 : ∀ i, i < len → lf i = T i) : Run l g mT_findFault (d + 2) 0 0 [.ref 1] h (PIh (ffI (prs T len 0 pIni)) (ffH len h (prs T len 0 pIni))) := by
  generalize hq : prs T len 0 pIni = q
  refine run_of (by decide) (Nat.le_of_ble_eq_true rfl) ?_
  have L : ∀ (m i : Nat) (P : PS) (kf : Nat → Int32), i + m = len → pOK P → kdR P kf → prs T m i P = q → WW l g mT_findFault (zrm (d + 2) 0 0) (fun _ => True) (zQQ g (PIh (ffI q) (ffH len h q)) (h.length + 0) 0 0) 27 [(0, some (.ref 1)), (1, some (.int (nI i)))] [] ((h.set 3 (kdA kf)).set 1 (psC len P)) 0 0 := by
    intro m
    induction m with
    | zero =>
      intro i P kf him hP hkf e
      have hi : i = len := by omega
      subst hi
      have v1 : ((h.set 3 (kdA kf)).set 1 (psC i P))[1]? = some (psC i P) := zg_eq (c := txC (nI i) c w ht sg dk) (zg_ne (by decide) t1)
      have hrw : ∀ P', q = .inr P' → P = P' ∧ kdR P' kf := by
        intro P' hq'
        rw [hq'] at e
        simp only [prs] at e
        split at e
        · cases e; exact ⟨rfl, hkf⟩
        · cases e
      have hX : ffH i h q ((h.set 3 (kdA kf)).set 1 (psC i P)) := ⟨P, kf, rfl, hrw⟩
      have h42 : pCell P ≤ 42 := by have := Nat.mul_le_mul hP.1 hP.2.1; have := hP.2.2.1; unfold pCell; omega
      have hdc := hP.2.2.2.2.2.2.2
      obtain ⟨r, w', s, kd, dk'⟩ := P
      have v1 : ((h.set 3 (kdA kf)).set 1 (psC i (r, w', s, kd, dk')))[1]? = some (txC (nI i) (nI (r * w' + s)) (nI w') (nI r) (nI s) (oI dk')) := v1
      have h42 : r * w' + s ≤ 42 := h42
      have hr6 : r ≤ 6 := hP.1
      have hs6 : s ≤ 6 := hP.2.2.1
      have hdc : ∀ c, dk' = some c → c < r * w' + s := hdc
      have e' : (if s = 0 ∧ 0 < r ∧ dk' ≠ none then (.inr (r, w', s, kd, dk') : Nat ⊕ PS) else .inl i) = q := e
      have hdO : dk' = none ↔ oI dk' = -1 := by
        cases hdk : dk' with
        | none => exact ⟨fun _ => rfl, fun _ => rfl⟩
        | some c' =>
          have hc := hdc c' hdk
          constructor
          · intro q'; cases q'
          · intro q'
            have q2 : (nI c').toInt = (-1 : Int32).toInt := by rw [show nI c' = -1 from q']
            rw [nI_toInt (by omega), show (-1 : Int32).toInt = -1 from by decide] at q2
            omega
      by_cases hok : s = 0 ∧ 0 < r ∧ dk' ≠ none
      · rw [if_pos hok] at e'
        refine zw_iload_n dT_findFault_27 rfl ?_
        refine zw_aload_n dT_findFault_28 rfl ?_
        refine zw_get dT_findFault_29 zf_T_18 v1 rfl ?_
        refine zw_icmp_ge 73 dT_findFault_32 (by decide) (fun c_32 => ?_) (fun c_32 => ?_)
        · refine zw_aload_n dT_findFault_73 rfl ?_
          refine zw_get dT_findFault_74 zf_T_31 v1 rfl ?_
          refine zw_if_ne 99 dT_findFault_77 (by decide) (fun c_77 => ?_) (fun c_77 => ?_)
          · exact absurd (by rw [show s = 0 from hok.1]; rfl) c_77
          · refine zw_aload_n dT_findFault_80 rfl ?_
            refine zw_get dT_findFault_81 zf_T_28 v1 rfl ?_
            refine zw_if_le 99 dT_findFault_84 (by decide) (fun c_84 => ?_) (fun c_84 => ?_)
            · exact absurd c_84 (nI_nle hok.2.1 (by omega))
            · refine zw_aload_n dT_findFault_87 rfl ?_
              refine zw_get dT_findFault_88 zf_T_34 v1 rfl ?_
              refine zw_iconst (v := (-1)) dT_findFault_91 (by decide) ?_
              refine zw_icmp_eq 99 dT_findFault_92 (by decide) (fun c_92 => ?_) (fun c_92 => ?_)
              · exact absurd (hdO.mpr c_92) hok.2.2
              · refine zw_iconst (v := 1) dT_findFault_95 (by decide) ?_
                refine zw_goto 100 dT_findFault_96 (by decide) ?_
                refine zw_istore_n dT_findFault_100 (by decide) rfl ?_
                refine zw_iload_n dT_findFault_101 rfl ?_
                refine zw_if_eq 109 dT_findFault_102 (by decide) (fun c_102 => ?_) (fun c_102 => ?_)
                · exact absurd c_102 (by decide)
                · refine zw_iconst (v := (-1)) dT_findFault_105 (by decide) ?_
                  refine zw_goto 113 dT_findFault_106 (by decide) ?_
                  exact zw_iret dT_findFault_113 rfl rfl (by simp) ⟨by rw [← e']; rfl, hX⟩
        · exact absurd (Int32.le_refl _) c_32
      · rw [if_neg hok] at e'
        have E : ∀ (ls : zL), zsub [(0, some (.ref 1))] ls → WW l g mT_findFault (zrm (d + 2) 0 0) (fun _ => True) (zQQ g (PIh (ffI q) (ffH i h q)) (h.length + 0) 0 0) 99 ls [] ((h.set 3 (kdA kf)).set 1 (psC i (r, w', s, kd, dk'))) 0 0 := by
          intro ls hls
          refine zw_lk ?_ hls
          refine zw_iconst (v := 0) dT_findFault_99 (by decide) ?_
          refine zw_istore_n dT_findFault_100 (by decide) rfl ?_
          refine zw_iload_n dT_findFault_101 rfl ?_
          refine zw_if_eq 109 dT_findFault_102 (by decide) (fun c_102 => ?_) (fun c_102 => ?_)
          · refine zw_aload_n dT_findFault_109 rfl ?_
            refine zw_get dT_findFault_110 zf_T_18 v1 rfl ?_
            exact zw_iret dT_findFault_113 rfl rfl (by simp) ⟨by rw [← e']; rfl, hX⟩
          · exact absurd rfl c_102
        refine zw_iload_n dT_findFault_27 rfl ?_
        refine zw_aload_n dT_findFault_28 rfl ?_
        refine zw_get dT_findFault_29 zf_T_18 v1 rfl ?_
        refine zw_icmp_ge 73 dT_findFault_32 (by decide) (fun c_32 => ?_) (fun c_32 => ?_)
        · refine zw_aload_n dT_findFault_73 rfl ?_
          refine zw_get dT_findFault_74 zf_T_31 v1 rfl ?_
          refine zw_if_ne 99 dT_findFault_77 (by decide) (fun c_77 => ?_) (fun c_77 => ?_)
          · exact E _ ⟨rfl, trivial⟩
          · refine zw_aload_n dT_findFault_80 rfl ?_
            refine zw_get dT_findFault_81 zf_T_28 v1 rfl ?_
            refine zw_if_le 99 dT_findFault_84 (by decide) (fun c_84 => ?_) (fun c_84 => ?_)
            · exact E _ ⟨rfl, trivial⟩
            · refine zw_aload_n dT_findFault_87 rfl ?_
              refine zw_get dT_findFault_88 zf_T_34 v1 rfl ?_
              refine zw_iconst (v := (-1)) dT_findFault_91 (by decide) ?_
              refine zw_icmp_eq 99 dT_findFault_92 (by decide) (fun c_92 => ?_) (fun c_92 => ?_)
              · exact E _ ⟨rfl, trivial⟩
              · have a1 : s = 0 := (nI_eq (b := 0) (by omega) (by decide)).mp (Classical.byContradiction fun q' => q' c_77)
                have a2 : 0 < r := Nat.pos_of_ne_zero (fun q' => c_84 (by rw [show r = 0 from q']; decide))
                exact absurd ⟨a1, a2, fun q' => c_92 (hdO.mp q')⟩ hok
        · exact absurd (Int32.le_refl _) c_32
    | succ m ih =>
      intro i P kf him hP hkf e
      have v1 : ((h.set 3 (kdA kf)).set 1 (psC len P))[1]? = some (psC len P) := zg_eq (c := txC (nI len) c w ht sg dk) (zg_ne (by decide) t1)
      have v2 : ((h.set 3 (kdA kf)).set 1 (psC len P))[2]? = some (.inl (0, 60, .inl lf)) := zg_ne (by decide) (zg_ne (by decide) t2)
      have v3 : ((h.set 3 (kdA kf)).set 1 (psC len P))[3]? = some (kdA kf) := zg_ne (by decide) (zg_eq t3)
      have hlfi : lf i = T i := t4 i (by omega)
      have ecl : (nI i).toNatClampNeg = i := nI_clamp (by omega)
      have e' : (if T i = 32 then prs T m (i + 1) P else match takL P (T i) with | none => .inl i | some P' => prs T m (i + 1) P') = q := e
      have ct := c_T_takes (l := l) (g := g) (d := d) (x := T i) hP v1 v3 hkf
      refine zw_iload_n dT_findFault_27 rfl ?_
      refine zw_aload_n dT_findFault_28 rfl ?_
      refine zw_get dT_findFault_29 zf_T_18 (by first | exact v1 | exact v2) rfl ?_
      refine zw_icmp_ge 73 dT_findFault_32 (by decide) (fun c_32 => ?_) (fun c_32 => ?_)
      · exact absurd ((nI_leI (by omega) (by omega)).mp c_32) (by omega)
      · refine zw_iload_n dT_findFault_35 rfl ?_
        refine zw_bipush (v := 60) dT_findFault_36 (by decide) ?_
        refine zw_icmp_ge 73 dT_findFault_38 (by decide) (fun c_38 => ?_) (fun c_38 => ?_)
        · exact absurd ((nI_leI (a := 60) (by omega) (by omega)).mp c_38) (by omega)
        · refine zw_aload_n dT_findFault_41 rfl ?_
          refine zw_get dT_findFault_42 zf_T_9 (by first | exact v1 | exact v2) rfl ?_
          refine zw_iload_n dT_findFault_45 rfl ?_
          refine zw_iald dT_findFault_46 (by first | exact v1 | exact v2) (vp_in_nI (show i < 60 by omega) (by decide)) ?_
          rw [ecl, hlfi]
          refine zw_bipush (v := 32) dT_findFault_47 (by decide) ?_
          refine zw_icmp_eq 67 dT_findFault_49 (by decide) (fun c_49 => ?_) (fun c_49 => ?_)
          · refine zw_incN dT_findFault_67 rfl (by decide) rfl ?_
            refine zw_goto 27 dT_findFault_70 (by decide) ?_
            rw [if_pos (show T i = 32 from c_49)] at e'
            exact zw_lk (ih (i + 1) P kf (by omega) hP hkf e') ⟨rfl, rfl, trivial⟩
          · refine zw_aload_n dT_findFault_52 rfl ?_
            refine zw_aload_n dT_findFault_53 rfl ?_
            refine zw_get dT_findFault_54 zf_T_9 (by first | exact v1 | exact v2) rfl ?_
            refine zw_iload_n dT_findFault_57 rfl ?_
            refine zw_iald dT_findFault_58 (by first | exact v1 | exact v2) (vp_in_nI (show i < 60 by omega) (by decide)) ?_
            rw [ecl, hlfi]
            refine zx_V1I dT_findFault_59 zm_T_takes zk_T_37 (by first | exact v1 | exact v2) rfl (ct) zRR (Nat.le_of_ble_eq_true rfl) ⟨Nat.le_of_ble_eq_true rfl, Nat.le_of_ble_eq_true rfl⟩ ?_
            rw [if_neg (show ¬ T i = 32 from c_49)] at e'
            intro h' hh
            cases hq2 : takL P (T i) with
            | none =>
              rw [hq2] at hh e'
              have hh : h' = (h.set 3 (kdA kf)).set 1 (psC len P) := hh
              subst hh
              have e' : Sum.inl i = q := e'
              refine zw_if_ne 67 dT_findFault_62 (by decide) (fun c_62 => ?_) (fun c_62 => ?_)
              · exact absurd rfl c_62
              · refine zw_iload_n dT_findFault_65 rfl ?_
                exact zw_iret dT_findFault_66 rfl rfl (by simp) ⟨by rw [← e']; rfl, P, kf, rfl, fun P' q' => by rw [← e'] at q'; cases q'⟩
            | some P' =>
              rw [hq2] at hh e'
              obtain ⟨kf', hkf', hh⟩ : ∃ kf', kdR P' kf' ∧ h' = (((h.set 3 (kdA kf)).set 1 (psC len P)).set 3 (kdA kf')).set 1 (psC len P') := hh
              have hh2 : h' = (h.set 3 (kdA kf')).set 1 (psC len P') := by rw [hh, zs_comm _ _ _ (show (1 : Nat) ≠ 3 by decide), zs_set, zs_set]
              subst hh2
              have e' : prs T m (i + 1) P' = q := e'
              refine zw_if_ne 67 dT_findFault_62 (by decide) (fun c_62 => ?_) (fun c_62 => ?_)
              · refine zw_incN dT_findFault_67 rfl (by decide) rfl ?_
                refine zw_goto 27 dT_findFault_70 (by decide) ?_
                exact zw_lk (ih (i + 1) P' kf' (by omega) (takL_ok hP hq2) hkf' e') ⟨rfl, rfl, trivial⟩
              · exact absurd c_62 (show ¬ (1 : Int32) = 0 by decide)
  refine zw_aload_n dT_findFault_0 rfl ?_
  refine zw_iconst (v := 0) dT_findFault_1 (by decide) ?_
  refine zw_puti dT_findFault_2 zf_T_22 t1 (Nat.le_of_ble_eq_true rfl) ?_
  refine zw_aload_n dT_findFault_5 rfl ?_
  refine zw_iconst (v := 0) dT_findFault_6 (by decide) ?_
  refine zw_puti dT_findFault_7 zf_T_25 (by exact zg_eq t1) (Nat.le_of_ble_eq_true rfl) ?_
  refine zw_h (zs_set _ _ _ _) ?_
  refine zw_aload_n dT_findFault_10 rfl ?_
  refine zw_iconst (v := 0) dT_findFault_11 (by decide) ?_
  refine zw_puti dT_findFault_12 zf_T_28 (by exact zg_eq t1) (Nat.le_of_ble_eq_true rfl) ?_
  refine zw_h (zs_set _ _ _ _) ?_
  refine zw_aload_n dT_findFault_15 rfl ?_
  refine zw_iconst (v := 0) dT_findFault_16 (by decide) ?_
  refine zw_puti dT_findFault_17 zf_T_31 (by exact zg_eq t1) (Nat.le_of_ble_eq_true rfl) ?_
  refine zw_h (zs_set _ _ _ _) ?_
  refine zw_aload_n dT_findFault_20 rfl ?_
  refine zw_iconst (v := (-1)) dT_findFault_21 (by decide) ?_
  refine zw_puti dT_findFault_22 zf_T_34 (by exact zg_eq t1) (Nat.le_of_ble_eq_true rfl) ?_
  refine zw_h (zs_set _ _ _ _) ?_
  refine zw_iconst (v := 0) dT_findFault_25 (by decide) ?_
  refine zw_istore_n dT_findFault_26 (by decide) rfl ?_
  refine zw_h (h2 := (h.set 3 (kdA kf0)).set 1 (psC len pIni)) (by rw [zs_self t3]; rfl) ?_
  exact zw_lk (L len 0 pIni kf0 (by omega) pIni_ok (fun i hi => absurd hi (Nat.not_lt_zero _)) hq) ⟨rfl, rfl, trivial⟩
end C40
