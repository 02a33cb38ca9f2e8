/-! ===== the reference reads the text ===== -/
def pA (P : PS) (nd : Int32) : I4 := (nI P.1, nI P.2.1, nI P.2.2.1, nd)
def inP' (P : PS) (r c : Nat) : Prop := (r < P.1 ∧ c < P.2.1) ∨ (r = P.1 ∧ c < P.2.2.1)
def dkR (P : PS) (nd : Int32) (o : Option Nat) : Prop := match o with | none => nd = -9 | some dc => ∃ r c, inP' P r c ∧ dc = r * P.2.1 + c ∧ nd = nI (6 * r + c)
def relP (P : PS) (nd : Int32) (re : Nat → Int32) : Prop := (∀ r c, inP' P r c → re (6 * r + c) = nI (P.2.2.2.1 (r * P.2.1 + c))) ∧ dkR P nd P.2.2.2.2
theorem inP_lt {P : PS} (h : pOK P) {r c : Nat} (hi : inP' P r c) : r ≤ P.1 ∧ c < 6 ∧ (r < 6) := by
  obtain ⟨h1, h2, h3, h4, h5, h6, -⟩ := h
  rcases hi with ⟨q1, q2⟩ | ⟨q1, q2⟩
  · exact ⟨by omega, by omega, by omega⟩
  · refine ⟨by omega, by omega, ?_⟩
    rcases Nat.lt_or_ge r 6 with g | g
    · exact g
    · have : P.1 = 6 := by omega
      have := h6 this
      omega
theorem rel_end {P P' : PS} (h : pOK P) (e : endR P = some P') {nd : Int32} {re : Nat → Int32} (hr : relP P nd re) : relP P' nd re := by
  obtain ⟨R, w, s, kd, dk⟩ := P
  obtain ⟨h1, h2, h3, h4, h5, h6, -⟩ := h
  unfold endR at e
  dsimp only at *
  split at e
  · cases e
  case isFalse hn =>
    injection e with e
    subst e
    obtain ⟨r1, r2⟩ := hr
    have key : ∀ r c, inP' (R + 1, s, 0, kd, dk) r c → inP' (R, w, s, kd, dk) r c ∧ r * s + c = r * w + c := by
      intro r c hi
      unfold inP' at hi ⊢
      dsimp only at hi ⊢
      rcases Nat.eq_zero_or_pos R with q | q
      · have hw := h4 q
        have hr0 : r = 0 := by omega
        subst hr0
        refine ⟨Or.inr ⟨by omega, by omega⟩, by simp⟩
      · have hsw : s = w := by have := h5 q; omega
        rw [hsw]
        exact ⟨by omega, rfl⟩
    refine ⟨fun r c hi => ?_, ?_⟩
    · have k := key r c hi
      show re (6 * r + c) = nI (kd (r * s + c))
      rw [k.2]
      exact r1 r c k.1
    · show dkR (R + 1, s, 0, kd, dk) nd dk
      have r2' : dkR (R, w, s, kd, dk) nd dk := r2
      cases dk with
      | none => exact r2'
      | some dc =>
        obtain ⟨r, c, q1, q2, q3⟩ := r2'
        refine ⟨r, c, ?_, ?_, q3⟩
        · unfold inP' at q1 ⊢
          dsimp only at q1 ⊢
          rcases Nat.eq_zero_or_pos R with q | q
          · have hw := h4 q
            omega
          · have hsw : s = w := by have := h5 q; omega
            omega
        · rw [q2]
          rcases Nat.eq_zero_or_pos R with q | q
          · unfold inP' at q1
            dsimp only at q1
            have : r = 0 := by omega
            rw [this]; simp
          · have hsw : s = w := by have := h5 q; omega
            rw [hsw]
theorem rel_tak {P P' : PS} (h : pOK P) {k : Nat} (e : takS P k = some P') {nd : Int32} {re : Nat → Int32} (hr : relP P nd re) : relP P' (if k = 6 then nI (6 * P.1 + P.2.2.1) else nd) (upd re (6 * P.1 + P.2.2.1) (nI k)) := by
  have hio := fun r c hi => inP_lt h (r := r) (c := c) hi
  obtain ⟨R, w, s, kd, dk⟩ := P
  obtain ⟨h1, h2, h3, h4, h5, h6, -⟩ := h
  unfold takS at e
  dsimp only at *
  by_cases hn : 6 ≤ R ∨ (if R = 0 then 6 else w) ≤ s ∨ (k = 6 ∧ dk ≠ none)
  · rw [if_pos hn] at e
    cases e
  · rw [if_neg hn] at e
    injection e with e
    subst e
    obtain ⟨r1, r2⟩ := hr
    have hs6 : s < 6 := by
      have : ¬ (if R = 0 then 6 else w) ≤ s := fun q => hn (Or.inr (Or.inl q))
      split at this <;> omega
    have old : ∀ r c, inP' (R, w, s, kd, dk) r c → ¬ (r = R ∧ c = s) ∧ r * w + c < R * w + s := by
      intro r c hi
      unfold inP' at hi
      dsimp only at hi
      rcases hi with ⟨q1, q2⟩ | ⟨q1, q2⟩
      · refine ⟨by omega, ?_⟩
        have : r * w + w ≤ R * w := by
          have := Nat.mul_le_mul_right w q1
          rw [Nat.succ_mul] at this
          exact this
        omega
      · refine ⟨by omega, ?_⟩
        rw [q1]; omega
    have new : ∀ r c, inP' (R, w, s + 1, (fun i => if i = R * w + s then k else kd i), (if k = 6 then some (R * w + s) else dk)) r c → inP' (R, w, s, kd, dk) r c ∨ (r = R ∧ c = s) := by
      intro r c hi
      unfold inP' at hi ⊢
      dsimp only at hi ⊢
      omega
    have pc : pCell (R, w, s, kd, dk) = R * w + s := rfl
    refine ⟨fun r c hi => ?_, ?_⟩
    · show upd re (6 * R + s) (nI k) (6 * r + c) = nI (if r * w + c = pCell (R, w, s, kd, dk) then k else kd (r * w + c))
      rw [pc]
      rcases new r c hi with q | ⟨rfl, rfl⟩
      · have o := old r c q
        have io := hio r c q
        rw [upd_ne _ _ (by omega), if_neg (by omega)]
        exact r1 r c q
      · rw [upd_eq, if_pos rfl]
    · show dkR (R, w, s + 1, (fun i => if i = R * w + s then k else kd i), (if k = 6 then some (R * w + s) else dk)) (if k = 6 then nI (6 * R + s) else nd) (if k = 6 then some (R * w + s) else dk)
      by_cases hk : k = 6
      · rw [if_pos hk, if_pos hk]
        refine ⟨R, s, ?_, rfl, rfl⟩
        unfold inP'
        dsimp only
        omega
      · rw [if_neg hk]
        have r2' : dkR (R, w, s, kd, dk) nd dk := r2
        rw [if_neg hk]
        cases dk with
        | none => exact r2'
        | some dc =>
          obtain ⟨r, c, q1, q2, q3⟩ := r2'
          refine ⟨r, c, ?_, q2, q3⟩
          unfold inP' at q1 ⊢
          dsimp only at q1 ⊢
          omega
theorem rel_ini (re : Nat → Int32) : relP pIni (-9) re := by
  refine ⟨fun r c hi => ?_, rfl⟩
  rcases hi with ⟨q, -⟩ | ⟨-, q⟩ <;> exact absurd q (Nat.not_lt_zero _)
section C72
variable {l : Launch} {g : zG} {d : Nat} {h : zH} {F : Fl} {un le : Nat} {qb : I4}
theorem c_M_kindOf {x : Int32} : Run l g mM_kindOf d 0 0 [.int x] h (PI (dI (ks x)) h) := by
  refine run_of (by decide) (Nat.le_of_ble_eq_true rfl) ?_
  refine zw_iload_n dM_kindOf_0 rfl ?_
  by_cases e1 : x = 46
  · subst e1
    refine zw_look 60 dM_kindOf_1 (off := 59) (by decide) (by decide) (by decide) ?_
    refine zw_iconst (v := 0) dM_kindOf_60 (by decide) ?_
    exact zw_iret dM_kindOf_61 rfl rfl rfl ⟨rfl, rfl⟩
  by_cases e2 : x = 35
  · subst e2
    refine zw_look 62 dM_kindOf_1 (off := 61) (by decide) (by decide) (by decide) ?_
    refine zw_iconst (v := 1) dM_kindOf_62 (by decide) ?_
    exact zw_iret dM_kindOf_63 rfl rfl rfl ⟨rfl, rfl⟩
  by_cases e3 : x = 33
  · subst e3
    refine zw_look 64 dM_kindOf_1 (off := 63) (by decide) (by decide) (by decide) ?_
    refine zw_iconst (v := 2) dM_kindOf_64 (by decide) ?_
    exact zw_iret dM_kindOf_65 rfl rfl rfl ⟨rfl, rfl⟩
  by_cases e4 : x = 110
  · subst e4
    refine zw_look 66 dM_kindOf_1 (off := 65) (by decide) (by decide) (by decide) ?_
    refine zw_iconst (v := 3) dM_kindOf_66 (by decide) ?_
    exact zw_iret dM_kindOf_67 rfl rfl rfl ⟨rfl, rfl⟩
  by_cases e5 : x = 100
  · subst e5
    refine zw_look 68 dM_kindOf_1 (off := 67) (by decide) (by decide) (by decide) ?_
    refine zw_iconst (v := 4) dM_kindOf_68 (by decide) ?_
    exact zw_iret dM_kindOf_69 rfl rfl rfl ⟨rfl, rfl⟩
  by_cases e6 : x = 68
  · subst e6
    refine zw_look 70 dM_kindOf_1 (off := 69) (by decide) (by decide) (by decide) ?_
    refine zw_bipush (v := 6) dM_kindOf_70 (by decide) ?_
    exact zw_iret dM_kindOf_72 rfl rfl rfl ⟨rfl, rfl⟩
  have ne : ∀ (c : Int32), ¬ x = c → ¬ c.toInt = x.toInt := fun c h q => h (Int32.toInt_inj.mp q.symm)
  have n1 := ne 46 e1
  have n2 := ne 35 e2
  have n3 := ne 33 e3
  have n4 := ne 110 e4
  have n5 := ne 100 e5
  have n6 := ne 68 e6
  rw [show (46 : Int32).toInt = 46 from by decide] at n1
  rw [show (35 : Int32).toInt = 35 from by decide] at n2
  rw [show (33 : Int32).toInt = 33 from by decide] at n3
  rw [show (110 : Int32).toInt = 110 from by decide] at n4
  rw [show (100 : Int32).toInt = 100 from by decide] at n5
  rw [show (68 : Int32).toInt = 68 from by decide] at n6
  have hk : ks x = none := by simp [ks, e1, e2, e3, e4, e5, e6]
  rw [hk]
  refine zw_look 73 dM_kindOf_1 (by decide) (off := 72) ?_ (by decide) ?_
  · simp [Op.lookupswitch.offset, n1, n2, n3, n4, n5, n6]
  refine zw_bipush (v := (-9)) dM_kindOf_73 (by decide) ?_
  exact zw_iret dM_kindOf_75 rfl rfl rfl ⟨rfl, rfl⟩
def tkM (F : Fl) (un le : Nat) (qb : I4) (h : zH) (o : Option PS) : zH → Prop := fun h' => match o with
  | none => h' = h
  | some P' => ∃ nd' re', relP P' nd' re' ∧ h' = (h.set 38 (iA 36 re')).set 31 (mC F un le (pA P' nd') qb)
theorem c_M_takes {P : PS} (hP : pOK P) {nd x : Int32} {re : Nat → Int32} (hM : h[31]? = some (mC F un le (pA P nd) qb)) (hR : h[38]? = some (iA 36 re)) (hr : relP P nd re) : Run l g mM_takes (d + 1) 0 0 [.ref 31, .int x] h (PIh (if (takL P x).isSome = true then 1 else 0) (tkM F un le qb h (takL P x))) := by
  obtain ⟨R, w, s, kd, dk⟩ := P
  obtain ⟨p1, p2, p3, p4, p5, p6, p7, p8⟩ := id hP
  dsimp only at *
  have hpa : pA (R, w, s, kd, dk) nd = (nI R, nI w, nI s, nd) := rfl
  rw [hpa] at hM
  have nR0 : nI R = 0 ↔ R = 0 := nI_eq (b := 0) (by omega) (by omega)
  have ns0 : nI s = 0 ↔ s = 0 := nI_eq (b := 0) (by omega) (by omega)
  have nR6 : nI R = 6 ↔ R = 6 := nI_eq (b := 6) (by omega) (by omega)
  have hM1 : ∀ q, (h.set 31 (mC F un le q qb))[31]? = some (mC F un le q qb) := fun q => zg_eq hM
  refine run_of (by decide) (Nat.le_of_ble_eq_true rfl) ?_
  by_cases hx : x = 59
  · subst hx
    have et : takL (R, w, s, kd, dk) 59 = endR (R, w, s, kd, dk) := by unfold takL; rw [if_pos rfl]
    rw [et]
    have ee : endR (R, w, s, kd, dk) = if s = 0 ∨ s < w then none else some (R + 1, s, 0, kd, dk) := rfl
    by_cases hn : s = 0 ∨ s < w
    · rw [ee, if_pos hn]
      have hno : ¬ (¬ s = 0 ∧ ¬ (0 < R ∧ s < w)) := by
        intro q
        rcases hn with q1 | q1
        · exact q.1 q1
        · refine q.2 ⟨?_, q1⟩
          rcases Nat.eq_zero_or_pos R with q2 | q2
          · have := p4 q2; omega
          · exact q2
      refine zw_iload_n dM_takes_0 rfl ?_
      refine zw_bipush (v := 59) dM_takes_1 (by decide) ?_
      refine zw_icmp_ne 58 dM_takes_3 (by decide) (fun c_3 => ?_) (fun c_3 => ?_)
      · exact absurd rfl c_3
      · refine zw_aload_n dM_takes_6 rfl ?_
        refine zw_get dM_takes_7 zf_M_74 hM rfl ?_
        refine zw_if_eq 31 dM_takes_10 (by decide) (fun c_10 => ?_) (fun c_10 => ?_)
        · refine zw_iconst (v := 0) dM_takes_31 (by decide) ?_
          exact zw_iret dM_takes_32 rfl rfl rfl ⟨rfl, rfl⟩
        · refine zw_aload_n dM_takes_13 rfl ?_
          refine zw_get dM_takes_14 zf_M_77 hM rfl ?_
          refine zw_if_le 33 dM_takes_17 (by decide) (fun c_17 => ?_) (fun c_17 => ?_)
          · exact absurd ⟨fun q => c_10 (ns0.mpr q), fun q => absurd ((nI_leI (b := 0) (by omega) (by omega)).mp c_17) (by omega)⟩ hno
          · refine zw_aload_n dM_takes_20 rfl ?_
            refine zw_get dM_takes_21 zf_M_74 hM rfl ?_
            refine zw_aload_n dM_takes_24 rfl ?_
            refine zw_get dM_takes_25 zf_M_80 hM rfl ?_
            refine zw_icmp_ge 33 dM_takes_28 (by decide) (fun c_28 => ?_) (fun c_28 => ?_)
            · exact absurd ⟨fun q => c_10 (ns0.mpr q), fun q => absurd ((nI_leI (by omega) (by omega)).mp c_28) (by omega)⟩ hno
            · refine zw_iconst (v := 0) dM_takes_31 (by decide) ?_
              exact zw_iret dM_takes_32 rfl rfl rfl ⟨rfl, rfl⟩
    · rw [ee, if_neg hn]
      have hE : endR (R, w, s, kd, dk) = some (R + 1, s, 0, kd, dk) := by rw [ee, if_neg hn]
      have hr2 := rel_end hP hE hr
      have e1 : nI R + 1 = nI (R + 1) := nI_1 R
      have Q : tkM F un le qb h (some (R + 1, s, 0, kd, dk)) (h.set 31 (mC F un le (nI (R + 1), nI s, nI 0, nd) qb)) := ⟨nd, re, hr2, by rw [zs_self hR]; rfl⟩
      have z1 : (h.set 31 (mC F un le (nI R, nI s, nI s, nd) qb)).set 31 (mC F un le (nI (R + 1), nI s, nI s, nd) qb) = h.set 31 (mC F un le (nI (R + 1), nI s, nI s, nd) qb) := zs_set _ _ _ _
      have z2 : (h.set 31 (mC F un le (nI (R + 1), nI s, nI s, nd) qb)).set 31 (mC F un le (nI (R + 1), nI s, nI 0, nd) qb) = h.set 31 (mC F un le (nI (R + 1), nI s, nI 0, nd) qb) := zs_set _ _ _ _
      refine zw_iload_n dM_takes_0 rfl ?_
      refine zw_bipush (v := 59) dM_takes_1 (by decide) ?_
      refine zw_icmp_ne 58 dM_takes_3 (by decide) (fun c_3 => ?_) (fun c_3 => ?_)
      · exact absurd rfl c_3
      · refine zw_aload_n dM_takes_6 rfl ?_
        refine zw_get dM_takes_7 zf_M_74 (by first | exact hM | exact hM1 (nI R, nI s, nI s, nd) | exact hM1 (nI (R + 1), nI s, nI s, nd)) rfl ?_
        refine zw_if_eq 31 dM_takes_10 (by decide) (fun c_10 => ?_) (fun c_10 => ?_)
        · exact absurd (Or.inl (ns0.mp c_10)) hn
        · refine zw_aload_n dM_takes_13 rfl ?_
          refine zw_get dM_takes_14 zf_M_77 (by first | exact hM | exact hM1 (nI R, nI s, nI s, nd) | exact hM1 (nI (R + 1), nI s, nI s, nd)) rfl ?_
          refine zw_if_le 33 dM_takes_17 (by decide) (fun c_17 => ?_) (fun c_17 => ?_)
          · refine zw_aload_n dM_takes_33 rfl ?_
            refine zw_aload_n dM_takes_34 rfl ?_
            refine zw_get dM_takes_35 zf_M_74 (by first | exact hM | exact hM1 (nI R, nI s, nI s, nd) | exact hM1 (nI (R + 1), nI s, nI s, nd)) rfl ?_
            refine zw_puti dM_takes_38 zf_M_80 (by first | exact hM | exact hM1 (nI R, nI s, nI s, nd) | exact hM1 (nI (R + 1), nI s, nI s, nd)) (Nat.le_of_ble_eq_true rfl) ?_
            refine zw_aload_n dM_takes_41 rfl ?_
            refine zw_dup dM_takes_42 rfl ?_
            refine zw_get dM_takes_43 zf_M_77 (by first | exact hM | exact hM1 (nI R, nI s, nI s, nd) | exact hM1 (nI (R + 1), nI s, nI s, nd)) rfl ?_
            refine zw_iconst (v := 1) dM_takes_46 (by decide) ?_
            refine zw_iadd dM_takes_47 ?_
            rw [e1]
            refine zw_puti dM_takes_48 zf_M_77 (by first | exact hM | exact hM1 (nI R, nI s, nI s, nd) | exact hM1 (nI (R + 1), nI s, nI s, nd)) (Nat.le_of_ble_eq_true rfl) ?_
            refine zw_h z1 ?_
            refine zw_aload_n dM_takes_51 rfl ?_
            refine zw_iconst (v := 0) dM_takes_52 (by decide) ?_
            refine zw_puti dM_takes_53 zf_M_74 (by first | exact hM | exact hM1 (nI R, nI s, nI s, nd) | exact hM1 (nI (R + 1), nI s, nI s, nd)) (Nat.le_of_ble_eq_true rfl) ?_
            refine zw_h z2 ?_
            refine zw_iconst (v := 1) dM_takes_56 (by decide) ?_
            exact zw_iret dM_takes_57 rfl rfl (by rw [zs_len]; rfl) ⟨rfl, Q⟩
          · refine zw_aload_n dM_takes_20 rfl ?_
            refine zw_get dM_takes_21 zf_M_74 (by first | exact hM | exact hM1 (nI R, nI s, nI s, nd) | exact hM1 (nI (R + 1), nI s, nI s, nd)) rfl ?_
            refine zw_aload_n dM_takes_24 rfl ?_
            refine zw_get dM_takes_25 zf_M_80 (by first | exact hM | exact hM1 (nI R, nI s, nI s, nd) | exact hM1 (nI (R + 1), nI s, nI s, nd)) rfl ?_
            refine zw_icmp_ge 33 dM_takes_28 (by decide) (fun c_28 => ?_) (fun c_28 => ?_)
            · refine zw_aload_n dM_takes_33 rfl ?_
              refine zw_aload_n dM_takes_34 rfl ?_
              refine zw_get dM_takes_35 zf_M_74 (by first | exact hM | exact hM1 (nI R, nI s, nI s, nd) | exact hM1 (nI (R + 1), nI s, nI s, nd)) rfl ?_
              refine zw_puti dM_takes_38 zf_M_80 (by first | exact hM | exact hM1 (nI R, nI s, nI s, nd) | exact hM1 (nI (R + 1), nI s, nI s, nd)) (Nat.le_of_ble_eq_true rfl) ?_
              refine zw_aload_n dM_takes_41 rfl ?_
              refine zw_dup dM_takes_42 rfl ?_
              refine zw_get dM_takes_43 zf_M_77 (by first | exact hM | exact hM1 (nI R, nI s, nI s, nd) | exact hM1 (nI (R + 1), nI s, nI s, nd)) rfl ?_
              refine zw_iconst (v := 1) dM_takes_46 (by decide) ?_
              refine zw_iadd dM_takes_47 ?_
              rw [e1]
              refine zw_puti dM_takes_48 zf_M_77 (by first | exact hM | exact hM1 (nI R, nI s, nI s, nd) | exact hM1 (nI (R + 1), nI s, nI s, nd)) (Nat.le_of_ble_eq_true rfl) ?_
              refine zw_h z1 ?_
              refine zw_aload_n dM_takes_51 rfl ?_
              refine zw_iconst (v := 0) dM_takes_52 (by decide) ?_
              refine zw_puti dM_takes_53 zf_M_74 (by first | exact hM | exact hM1 (nI R, nI s, nI s, nd) | exact hM1 (nI (R + 1), nI s, nI s, nd)) (Nat.le_of_ble_eq_true rfl) ?_
              refine zw_h z2 ?_
              refine zw_iconst (v := 1) dM_takes_56 (by decide) ?_
              exact zw_iret dM_takes_57 rfl rfl (by rw [zs_len]; rfl) ⟨rfl, Q⟩
            · exact absurd (Or.inr (Nat.lt_of_not_le (fun q => c_28 ((nI_leI (by omega) (by omega)).mpr q)))) hn
  · have et : takL (R, w, s, kd, dk) x = match ks x with | none => none | some k => takS (R, w, s, kd, dk) k := by unfold takL; rw [if_neg hx]; rfl
    have ck := c_M_kindOf (l := l) (g := g) (d := d) (h := h) (x := x)
    cases hk : ks x with
    | none =>
      rw [hk] at et ck
      dsimp only at et
      rw [et]
      refine zw_iload_n dM_takes_0 rfl ?_
      refine zw_bipush (v := 59) dM_takes_1 (by decide) ?_
      refine zw_icmp_ne 58 dM_takes_3 (by decide) (fun c_3 => ?_) (fun c_3 => ?_)
      · refine zw_iload_n dM_takes_58 rfl ?_
        refine zc_S1I dM_takes_59 zm_M_kindOf zk_M_83 ck ?_ zRR (Nat.le_of_ble_eq_true rfl) ⟨Nat.le_of_ble_eq_true rfl, Nat.le_of_ble_eq_true rfl⟩
        refine zw_istore_n dM_takes_62 (by decide) rfl ?_
        refine zw_aload_n dM_takes_63 rfl ?_
        refine zw_get dM_takes_64 zf_M_77 hM rfl ?_
        refine zw_if_ne 75 dM_takes_67 (by decide) (fun c_67 => ?_) (fun c_67 => ?_)
        · refine zw_aload_n dM_takes_75 rfl ?_
          refine zw_get dM_takes_76 zf_M_80 hM rfl ?_
          refine zw_istore_n dM_takes_79 (by decide) rfl ?_
          refine zw_iload_n dM_takes_80 rfl ?_
          refine zw_bipush (v := (-9)) dM_takes_81 (by decide) ?_
          refine zw_icmp_eq 118 dM_takes_83 (by decide) (fun c_83 => ?_) (fun c_83 => ?_)
          · refine zw_iconst (v := 0) dM_takes_118 (by decide) ?_
            exact zw_iret dM_takes_119 rfl rfl rfl ⟨rfl, rfl⟩
          · exact absurd rfl c_83
        · refine zw_bipush (v := 6) dM_takes_70 (by decide) ?_
          refine zw_goto 79 dM_takes_72 (by decide) ?_
          refine zw_istore_n dM_takes_79 (by decide) rfl ?_
          refine zw_iload_n dM_takes_80 rfl ?_
          refine zw_bipush (v := (-9)) dM_takes_81 (by decide) ?_
          refine zw_icmp_eq 118 dM_takes_83 (by decide) (fun c_83 => ?_) (fun c_83 => ?_)
          · refine zw_iconst (v := 0) dM_takes_118 (by decide) ?_
            exact zw_iret dM_takes_119 rfl rfl rfl ⟨rfl, rfl⟩
          · exact absurd rfl c_83
      · exact absurd c_3 hx
    | some k =>
      rw [hk] at et ck
      dsimp only at et
      rw [et]
      have hkl := ks_le hk
      have ck2 : Run l g mM_kindOf d 0 0 [.int x] h (PI (nI k) h) := ck
      have e9 : ¬ nI k = -9 := nI_m9 (by omega)
      have nk6 : nI k = 6 ↔ k = 6 := nI_eq (b := 6) (by omega) (by omega)
      have ee : takS (R, w, s, kd, dk) k = if 6 ≤ R ∨ (if R = 0 then 6 else w) ≤ s ∨ (k = 6 ∧ dk ≠ none) then none else some (R, w, s + 1, (fun i => if i = pCell (R, w, s, kd, dk) then k else kd i), if k = 6 then some (pCell (R, w, s, kd, dk)) else dk) := rfl
      obtain ⟨r1, r2⟩ := id hr
      have r2' : dkR (R, w, s, kd, dk) nd dk := r2
      have hnd : nd = -9 ↔ dk = none := by
        cases dk with
        | none => exact ⟨fun _ => rfl, fun _ => r2'⟩
        | some dc =>
          obtain ⟨r, c, q1, q2, q3⟩ := r2'
          have := inP_lt hP q1
          constructor
          · intro q
            rw [q3] at q
            exact absurd q (nI_m9 (by omega))
          · intro q; cases q
      obtain ⟨mo, hmo⟩ : ∃ mo, mo = if R = 0 then 6 else w := ⟨_, rfl⟩
      rw [← hmo] at ee
      have hsm : s ≤ mo := by
        rw [hmo]
        split
        · exact p3
        · exact (p5 (by omega)).2
      have hmo6 : mo ≤ 6 := by rw [hmo]; split <;> omega
      have nsm : nI s = nI mo ↔ s = mo := nI_eq (by omega) (by omega)
      have MM : ∀ (PQ : Option Value → zH → Prop), WW l g mM_takes (zrm (d + 1) 0 0) (fun _ => True) (zQQ g PQ (h.length + 0) 0 0) 80 [(0, some (.ref 31)), (1, some (.int x)), (2, some (.int (nI k))), (3, some (.int (nI mo)))] [] h 0 0 → WW l g mM_takes (zrm (d + 1) 0 0) (fun _ => True) (zQQ g PQ (h.length + 0) 0 0) 0 [(0, some (.ref 31)), (1, some (.int x))] [] h 0 0 := by
        intro PQ C
        by_cases hR0 : R = 0
        · rw [if_pos hR0] at hmo
          subst hmo
          refine zw_iload_n dM_takes_0 rfl ?_
          refine zw_bipush (v := 59) dM_takes_1 (by decide) ?_
          refine zw_icmp_ne 58 dM_takes_3 (by decide) (fun c_3 => ?_) (fun c_3 => ?_)
          · refine zw_iload_n dM_takes_58 rfl ?_
            refine zc_S1I dM_takes_59 zm_M_kindOf zk_M_83 ck2 ?_ zRR (Nat.le_of_ble_eq_true rfl) ⟨Nat.le_of_ble_eq_true rfl, Nat.le_of_ble_eq_true rfl⟩
            refine zw_istore_n dM_takes_62 (by decide) rfl ?_
            refine zw_aload_n dM_takes_63 rfl ?_
            refine zw_get dM_takes_64 zf_M_77 hM rfl ?_
            refine zw_if_ne 75 dM_takes_67 (by decide) (fun c_67 => ?_) (fun c_67 => ?_)
            · exact absurd (nR0.mpr hR0) c_67
            · refine zw_bipush (v := 6) dM_takes_70 (by decide) ?_
              refine zw_goto 79 dM_takes_72 (by decide) ?_
              refine zw_istore_n dM_takes_79 (by decide) rfl ?_
              exact zw_lk C ⟨rfl, rfl, rfl, rfl, trivial⟩
          · exact absurd c_3 hx
        · rw [if_neg hR0] at hmo
          subst hmo
          refine zw_iload_n dM_takes_0 rfl ?_
          refine zw_bipush (v := 59) dM_takes_1 (by decide) ?_
          refine zw_icmp_ne 58 dM_takes_3 (by decide) (fun c_3 => ?_) (fun c_3 => ?_)
          · refine zw_iload_n dM_takes_58 rfl ?_
            refine zc_S1I dM_takes_59 zm_M_kindOf zk_M_83 ck2 ?_ zRR (Nat.le_of_ble_eq_true rfl) ⟨Nat.le_of_ble_eq_true rfl, Nat.le_of_ble_eq_true rfl⟩
            refine zw_istore_n dM_takes_62 (by decide) rfl ?_
            refine zw_aload_n dM_takes_63 rfl ?_
            refine zw_get dM_takes_64 zf_M_77 hM rfl ?_
            refine zw_if_ne 75 dM_takes_67 (by decide) (fun c_67 => ?_) (fun c_67 => ?_)
            · refine zw_aload_n dM_takes_75 rfl ?_
              refine zw_get dM_takes_76 zf_M_80 hM rfl ?_
              refine zw_istore_n dM_takes_79 (by decide) rfl ?_
              exact zw_lk C ⟨rfl, rfl, rfl, rfl, trivial⟩
            · exact absurd (nR0.mp c_67) hR0
          · exact absurd c_3 hx
      refine MM _ ?_
      by_cases hn : 6 ≤ R ∨ mo ≤ s ∨ (k = 6 ∧ dk ≠ none)
      · rw [ee, if_pos hn]
        have hno : ¬ (¬ R = 6 ∧ ¬ s = mo ∧ ¬ (k = 6 ∧ dk ≠ none)) := by
          rintro ⟨q1, q2, q3⟩
          rcases hn with q | q | q
          · omega
          · omega
          · exact q3 q
        refine zw_iload_n dM_takes_80 rfl ?_
        refine zw_bipush (v := (-9)) dM_takes_81 (by decide) ?_
        refine zw_icmp_eq 118 dM_takes_83 (by decide) (fun c_83 => ?_) (fun c_83 => ?_)
        · exact absurd c_83 e9
        · refine zw_aload_n dM_takes_86 rfl ?_
          refine zw_get dM_takes_87 zf_M_77 hM rfl ?_
          refine zw_bipush (v := 6) dM_takes_90 (by decide) ?_
          refine zw_icmp_eq 118 dM_takes_92 (by decide) (fun c_92 => ?_) (fun c_92 => ?_)
          · refine zw_iconst (v := 0) dM_takes_118 (by decide) ?_
            exact zw_iret dM_takes_119 rfl rfl rfl ⟨rfl, rfl⟩
          · refine zw_aload_n dM_takes_95 rfl ?_
            refine zw_get dM_takes_96 zf_M_74 hM rfl ?_
            refine zw_iload_n dM_takes_99 rfl ?_
            refine zw_icmp_eq 118 dM_takes_100 (by decide) (fun c_100 => ?_) (fun c_100 => ?_)
            · refine zw_iconst (v := 0) dM_takes_118 (by decide) ?_
              exact zw_iret dM_takes_119 rfl rfl rfl ⟨rfl, rfl⟩
            · refine zw_iload_n dM_takes_103 rfl ?_
              refine zw_bipush (v := 6) dM_takes_104 (by decide) ?_
              refine zw_icmp_ne 120 dM_takes_106 (by decide) (fun c_106 => ?_) (fun c_106 => ?_)
              · exact absurd ⟨fun q => c_92 (nR6.mpr q), fun q => c_100 (nsm.mpr q), fun q => c_106 (nk6.mpr q.1)⟩ hno
              · refine zw_aload_n dM_takes_109 rfl ?_
                refine zw_get dM_takes_110 zf_M_87 hM rfl ?_
                refine zw_bipush (v := (-9)) dM_takes_113 (by decide) ?_
                refine zw_icmp_eq 120 dM_takes_115 (by decide) (fun c_115 => ?_) (fun c_115 => ?_)
                · exact absurd ⟨fun q => c_92 (nR6.mpr q), fun q => c_100 (nsm.mpr q), fun q => q.2 (hnd.mp c_115)⟩ hno
                · refine zw_iconst (v := 0) dM_takes_118 (by decide) ?_
                  exact zw_iret dM_takes_119 rfl rfl rfl ⟨rfl, rfl⟩
      · have hT : takS (R, w, s, kd, dk) k = some (R, w, s + 1, (fun i => if i = pCell (R, w, s, kd, dk) then k else kd i), if k = 6 then some (pCell (R, w, s, kd, dk)) else dk) := by rw [ee, if_neg hn]
        have hrt := rel_tak hP hT hr
        rw [hT]
        have hR6 : ¬ R = 6 := fun q => hn (Or.inl (by omega))
        have hs6 : ¬ s = mo := fun q => hn (Or.inr (Or.inl (by omega)))
        obtain ⟨re2, hre2⟩ : ∃ re2, re2 = upd re (6 * R + s) (nI k) := ⟨_, rfl⟩
        obtain ⟨nd2, hnd2⟩ : ∃ nd2, nd2 = if k = 6 then nI (6 * R + s) else nd := ⟨_, rfl⟩
        dsimp only at hrt
        rw [← hre2, ← hnd2] at hrt
        have e1 : (6 : Int32) * nI R + nI s = nI (6 * R + s) := by rw [show (6 : Int32) * nI R = nI (6 * R) from pk_mul 6 R, nI_add]
        have ecl : (nI (6 * R + s)).toNatClampNeg = 6 * R + s := nI_clamp (by omega)
        have e2 : nI s + 1 = nI (s + 1) := nI_1 s
        have Q : tkM F un le qb h (some (R, w, s + 1, (fun i => if i = pCell (R, w, s, kd, dk) then k else kd i), if k = 6 then some (pCell (R, w, s, kd, dk)) else dk)) ((h.set 38 (iA 36 re2)).set 31 (mC F un le (nI R, nI w, nI (s + 1), nd2) qb)) := ⟨nd2, re2, hrt, rfl⟩
        have k31 : (h.set 38 (iA 36 re2))[31]? = some (mC F un le (nI R, nI w, nI s, nd) qb) := zg_ne (by decide) hM
        have k31b : ∀ q, ((h.set 38 (iA 36 re2)).set 31 (mC F un le q qb))[31]? = some (mC F un le q qb) := fun q => zg_eq k31
        have z2 : ((h.set 38 (iA 36 re2)).set 31 (mC F un le (nI R, nI w, nI s, nd2) qb)).set 31 (mC F un le (nI R, nI w, nI (s + 1), nd2) qb) = (h.set 38 (iA 36 re2)).set 31 (mC F un le (nI R, nI w, nI (s + 1), nd2) qb) := zs_set _ _ _ _
        by_cases hk6 : k = 6
        · rw [if_pos hk6] at hnd2
          have hdn : dk = none := Classical.byContradiction fun q => hn (Or.inr (Or.inr ⟨hk6, q⟩))
          refine zw_iload_n dM_takes_80 rfl ?_
          refine zw_bipush (v := (-9)) dM_takes_81 (by decide) ?_
          refine zw_icmp_eq 118 dM_takes_83 (by decide) (fun c_83 => ?_) (fun c_83 => ?_)
          · exact absurd c_83 e9
          · refine zw_aload_n dM_takes_86 rfl ?_
            refine zw_get dM_takes_87 zf_M_77 (by first | exact hM | exact hR | exact k31 | exact k31b (nI R, nI w, nI s, nd2)) rfl ?_
            refine zw_bipush (v := 6) dM_takes_90 (by decide) ?_
            refine zw_icmp_eq 118 dM_takes_92 (by decide) (fun c_92 => ?_) (fun c_92 => ?_)
            · exact absurd (nR6.mp c_92) hR6
            · refine zw_aload_n dM_takes_95 rfl ?_
              refine zw_get dM_takes_96 zf_M_74 (by first | exact hM | exact hR | exact k31 | exact k31b (nI R, nI w, nI s, nd2)) rfl ?_
              refine zw_iload_n dM_takes_99 rfl ?_
              refine zw_icmp_eq 118 dM_takes_100 (by decide) (fun c_100 => ?_) (fun c_100 => ?_)
              · exact absurd (nsm.mp c_100) hs6
              · refine zw_iload_n dM_takes_103 rfl ?_
                refine zw_bipush (v := 6) dM_takes_104 (by decide) ?_
                refine zw_icmp_ne 120 dM_takes_106 (by decide) (fun c_106 => ?_) (fun c_106 => ?_)
                · exact absurd (nk6.mpr hk6) c_106
                · refine zw_aload_n dM_takes_109 rfl ?_
                  refine zw_get dM_takes_110 zf_M_87 (by first | exact hM | exact hR | exact k31 | exact k31b (nI R, nI w, nI s, nd2)) rfl ?_
                  refine zw_bipush (v := (-9)) dM_takes_113 (by decide) ?_
                  refine zw_icmp_eq 120 dM_takes_115 (by decide) (fun c_115 => ?_) (fun c_115 => ?_)
                  · refine zw_bipush (v := 6) dM_takes_120 (by decide) ?_
                    refine zw_aload_n dM_takes_122 rfl ?_
                    refine zw_get dM_takes_123 zf_M_77 (by first | exact hM | exact hR | exact k31 | exact k31b (nI R, nI w, nI s, nd2)) rfl ?_
                    refine zw_imul dM_takes_126 ?_
                    refine zw_aload_n dM_takes_127 rfl ?_
                    refine zw_get dM_takes_128 zf_M_74 (by first | exact hM | exact hR | exact k31 | exact k31b (nI R, nI w, nI s, nd2)) rfl ?_
                    refine zw_iadd dM_takes_131 ?_
                    rw [e1]
                    refine zw_istore dM_takes_132 (by decide) rfl ?_
                    refine zw_aload_n dM_takes_134 rfl ?_
                    refine zw_get dM_takes_135 zf_M_36 (by first | exact hM | exact hR | exact k31 | exact k31b (nI R, nI w, nI s, nd2)) rfl ?_
                    refine zw_iload dM_takes_138 rfl ?_
                    refine zw_iload_n dM_takes_140 rfl ?_
                    refine zw_iast dM_takes_141 (by first | exact hM | exact hR | exact k31 | exact k31b (nI R, nI w, nI s, nd2)) (vp_in_nI (show 6 * R + s < 36 by omega) (by decide)) ?_
                    rw [ecl]
                    refine zw_h (show _ = h.set 38 (iA 36 re2) from by rw [hre2]; rfl) ?_
                    refine zw_aload_n dM_takes_142 rfl ?_
                    refine zw_iload_n dM_takes_143 rfl ?_
                    refine zw_bipush (v := 6) dM_takes_144 (by decide) ?_
                    refine zw_icmp_ne 154 dM_takes_146 (by decide) (fun c_146 => ?_) (fun c_146 => ?_)
                    · exact absurd (nk6.mpr hk6) c_146
                    · refine zw_iload dM_takes_149 rfl ?_
                      refine zw_goto 158 dM_takes_151 (by decide) ?_
                      refine zw_puti dM_takes_158 zf_M_87 (by first | exact hM | exact hR | exact k31 | exact k31b (nI R, nI w, nI s, nd2)) (Nat.le_of_ble_eq_true rfl) ?_
                      refine zw_h (show _ = (h.set 38 (iA 36 re2)).set 31 (mC F un le (nI R, nI w, nI s, nd2) qb) from by rw [hnd2]; rfl) ?_
                      refine zw_aload_n dM_takes_161 rfl ?_
                      refine zw_dup dM_takes_162 rfl ?_
                      refine zw_get dM_takes_163 zf_M_74 (by first | exact hM | exact hR | exact k31 | exact k31b (nI R, nI w, nI s, nd2)) rfl ?_
                      refine zw_iconst (v := 1) dM_takes_166 (by decide) ?_
                      refine zw_iadd dM_takes_167 ?_
                      rw [e2]
                      refine zw_puti dM_takes_168 zf_M_74 (by first | exact hM | exact hR | exact k31 | exact k31b (nI R, nI w, nI s, nd2)) (Nat.le_of_ble_eq_true rfl) ?_
                      refine zw_h z2 ?_
                      refine zw_iconst (v := 1) dM_takes_171 (by decide) ?_
                      exact zw_iret dM_takes_172 rfl rfl (by rw [zs_len, zs_len]; rfl) ⟨rfl, Q⟩
                  · exact absurd (hnd.mpr hdn) c_115
        · rw [if_neg hk6] at hnd2
          refine zw_iload_n dM_takes_80 rfl ?_
          refine zw_bipush (v := (-9)) dM_takes_81 (by decide) ?_
          refine zw_icmp_eq 118 dM_takes_83 (by decide) (fun c_83 => ?_) (fun c_83 => ?_)
          · exact absurd c_83 e9
          · refine zw_aload_n dM_takes_86 rfl ?_
            refine zw_get dM_takes_87 zf_M_77 (by first | exact hM | exact hR | exact k31 | exact k31b (nI R, nI w, nI s, nd2)) rfl ?_
            refine zw_bipush (v := 6) dM_takes_90 (by decide) ?_
            refine zw_icmp_eq 118 dM_takes_92 (by decide) (fun c_92 => ?_) (fun c_92 => ?_)
            · exact absurd (nR6.mp c_92) hR6
            · refine zw_aload_n dM_takes_95 rfl ?_
              refine zw_get dM_takes_96 zf_M_74 (by first | exact hM | exact hR | exact k31 | exact k31b (nI R, nI w, nI s, nd2)) rfl ?_
              refine zw_iload_n dM_takes_99 rfl ?_
              refine zw_icmp_eq 118 dM_takes_100 (by decide) (fun c_100 => ?_) (fun c_100 => ?_)
              · exact absurd (nsm.mp c_100) hs6
              · refine zw_iload_n dM_takes_103 rfl ?_
                refine zw_bipush (v := 6) dM_takes_104 (by decide) ?_
                refine zw_icmp_ne 120 dM_takes_106 (by decide) (fun c_106 => ?_) (fun c_106 => ?_)
                · refine zw_bipush (v := 6) dM_takes_120 (by decide) ?_
                  refine zw_aload_n dM_takes_122 rfl ?_
                  refine zw_get dM_takes_123 zf_M_77 (by first | exact hM | exact hR | exact k31 | exact k31b (nI R, nI w, nI s, nd2)) rfl ?_
                  refine zw_imul dM_takes_126 ?_
                  refine zw_aload_n dM_takes_127 rfl ?_
                  refine zw_get dM_takes_128 zf_M_74 (by first | exact hM | exact hR | exact k31 | exact k31b (nI R, nI w, nI s, nd2)) rfl ?_
                  refine zw_iadd dM_takes_131 ?_
                  rw [e1]
                  refine zw_istore dM_takes_132 (by decide) rfl ?_
                  refine zw_aload_n dM_takes_134 rfl ?_
                  refine zw_get dM_takes_135 zf_M_36 (by first | exact hM | exact hR | exact k31 | exact k31b (nI R, nI w, nI s, nd2)) rfl ?_
                  refine zw_iload dM_takes_138 rfl ?_
                  refine zw_iload_n dM_takes_140 rfl ?_
                  refine zw_iast dM_takes_141 (by first | exact hM | exact hR | exact k31 | exact k31b (nI R, nI w, nI s, nd2)) (vp_in_nI (show 6 * R + s < 36 by omega) (by decide)) ?_
                  rw [ecl]
                  refine zw_h (show _ = h.set 38 (iA 36 re2) from by rw [hre2]; rfl) ?_
                  refine zw_aload_n dM_takes_142 rfl ?_
                  refine zw_iload_n dM_takes_143 rfl ?_
                  refine zw_bipush (v := 6) dM_takes_144 (by decide) ?_
                  refine zw_icmp_ne 154 dM_takes_146 (by decide) (fun c_146 => ?_) (fun c_146 => ?_)
                  · refine zw_aload_n dM_takes_154 rfl ?_
                    refine zw_get dM_takes_155 zf_M_87 (by first | exact hM | exact hR | exact k31 | exact k31b (nI R, nI w, nI s, nd2)) rfl ?_
                    refine zw_puti dM_takes_158 zf_M_87 (by first | exact hM | exact hR | exact k31 | exact k31b (nI R, nI w, nI s, nd2)) (Nat.le_of_ble_eq_true rfl) ?_
                    refine zw_h (show _ = (h.set 38 (iA 36 re2)).set 31 (mC F un le (nI R, nI w, nI s, nd2) qb) from by rw [hnd2]; rfl) ?_
                    refine zw_aload_n dM_takes_161 rfl ?_
                    refine zw_dup dM_takes_162 rfl ?_
                    refine zw_get dM_takes_163 zf_M_74 (by first | exact hM | exact hR | exact k31 | exact k31b (nI R, nI w, nI s, nd2)) rfl ?_
                    refine zw_iconst (v := 1) dM_takes_166 (by decide) ?_
                    refine zw_iadd dM_takes_167 ?_
                    rw [e2]
                    refine zw_puti dM_takes_168 zf_M_74 (by first | exact hM | exact hR | exact k31 | exact k31b (nI R, nI w, nI s, nd2)) (Nat.le_of_ble_eq_true rfl) ?_
                    refine zw_h z2 ?_
                    refine zw_iconst (v := 1) dM_takes_171 (by decide) ?_
                    exact zw_iret dM_takes_172 rfl rfl (by rw [zs_len, zs_len]; rfl) ⟨rfl, Q⟩
                  · exact absurd (nk6.mp c_146) hk6
                · exact absurd (nk6.mp c_106) hk6
end C72
