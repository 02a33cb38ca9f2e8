/-! ===== the reference: by itself ===== -/
def aQ (h : zH) (O : Om) : zH → Prop := fun h' => MP h O h' ∧ h'[36]? = h[36]?
theorem MX.lt {h h' : zH} {O : Om} (a : MX h O) {S : Sit} {qa : I4} (s : ltQ h (oF O) S (oSz O) (oLen O) qa h') : aQ h O h' := by
  obtain ⟨qb, ho, fa, -, rfl, -, -⟩ := s
  exact ⟨⟨((a.scr (by decide) ho).scr (by decide) fa).num qa qb, ((frM.set (by decide)).tr (frM.set (by decide))).tr (frM.set (by decide)), by rw [zs_len, zs_len, zs_len]⟩, zg_ne (by decide) (zg_ne (by decide) (zg_ne (by decide) rfl))⟩
theorem aQ.tr {h h1 h2 : zH} {O O' : Om} (a : aQ h O h1) (b : aQ h1 O' h2) : aQ h O' h2 := ⟨MP.tr (O := O) ⟨a.1.2.1, a.1.2.2⟩ b.1, b.2.trans a.2⟩
theorem stQ.a {h h' : zH} {O : Om} (a : MX h O) {S' : Sit} {z : Nat → Int32} (s : stQ h (oF O) S' z h') : aQ h (oSetS O S') h' := ⟨a.st s, by obtain ⟨np, rfl⟩ := s; exact zg_ne (by decide) (zg_ne (by decide) rfl)⟩
theorem MX.sc {h : zH} {O : Om} (a : MX h O) {j : Nat} (hj : 38 ≤ j) (f : Nat → Int32) : aQ h O (h.set j (iA 36 f)) := ⟨⟨a.scr hj f, frM.set (by omega), zs_len _ _ _⟩, zg_ne (by omega) rfl⟩
section C67
variable {l : Launch} {g : zG} {d : Nat} {h : zH} {O : Om}
theorem c_M_home (a : MX h O) (ok : oOK' O) {x : Int32} : Run l g mM_home (d + 3) 0 0 [.ref 31, .int x] h (PIh (rHome O x) (MP h O)) := by
  obtain ⟨⟨qa, qb, z, hM, hS⟩, -, -, -, ⟨-, -, -, -, ho, -, -, -, -, -, -, h41, -⟩⟩ := id a
  have hF := ok.1
  have h36 := fN_le hF
  have ch := c_M_isCell (l := l) (g := g) (d := d + 1) hF hM (x := x)
  unfold rHome
  refine run_of (by decide) (Nat.le_of_ble_eq_true rfl) ?_
  cases hc : cel (oF O) x with
  | none =>
    rw [hc] at ch
    refine zw_aload_n dM_home_0 rfl ?_
    refine zw_iload_n dM_home_1 rfl ?_
    refine zc_V1I dM_home_2 zm_M_isCell zk_M_94 hM rfl ch ?_ zRR (Nat.le_of_ble_eq_true rfl) ⟨Nat.le_of_ble_eq_true rfl, Nat.le_of_ble_eq_true rfl⟩
    refine zw_if_ne 10 dM_home_5 (by decide) (fun c_5 => ?_) (fun c_5 => ?_)
    · exact absurd rfl c_5
    · refine zw_iconst (v := (-1)) dM_home_8 (by decide) ?_
      exact zw_iret dM_home_9 rfl rfl rfl ⟨rfl, MP.rf a⟩
  | some c =>
    obtain ⟨hcn, rfl⟩ := (cel_some hF).mp hc
    rw [hc] at ch
    have cl := c_M_laysK (l := l) (g := g) (d := d) (q := 41) (by decide) (by decide) hF ok.2.1 hM hS h41 hF.2.2.1
    obtain ⟨f2, hf2⟩ : ∃ f2, f2 = fil ho 0 (fN (oF O)) (fun c => dI (dst (oF O) (kn1 (oS O)) (some (fD (oF O))) c)) := ⟨_, rfl⟩
    rw [← hf2] at cl
    have ef : f2 c = dI (dst (oF O) (kn1 (oS O)) (some c) (fD (oF O))) := by rw [hf2, fil0 hcn, dst_symm hF ok.2.1.k1]
    have ecl := clk hF hcn
    refine zw_aload_n dM_home_0 rfl ?_
    refine zw_iload_n dM_home_1 rfl ?_
    refine zc_V1I dM_home_2 zm_M_isCell zk_M_94 (by first | exact hM | exact zg_ne (by decide) hM | exact zg_eq h41) rfl ch ?_ zRR (Nat.le_of_ble_eq_true rfl) ⟨Nat.le_of_ble_eq_true rfl, Nat.le_of_ble_eq_true rfl⟩
    refine zw_if_ne 10 dM_home_5 (by decide) (fun c_5 => ?_) (fun c_5 => ?_)
    · refine zw_aload_n dM_home_10 rfl ?_
      refine zw_aload_n dM_home_11 rfl ?_
      refine zw_get dM_home_12 zf_M_61 (by first | exact hM | exact zg_ne (by decide) hM | exact zg_eq h41) rfl ?_
      refine zw_iconst (v := 1) dM_home_15 (by decide) ?_
      refine zw_aload_n dM_home_16 rfl ?_
      refine zw_get dM_home_17 zf_M_45 (by first | exact hM | exact zg_ne (by decide) hM | exact zg_eq h41) rfl ?_
      refine zc_V3V dM_home_20 zm_M_lays zk_M_139 (by first | exact hM | exact zg_ne (by decide) hM | exact zg_eq h41) rfl cl ?_ zRR (Nat.le_of_ble_eq_true rfl) ⟨Nat.le_of_ble_eq_true rfl, Nat.le_of_ble_eq_true rfl⟩
      refine zw_aload_n dM_home_23 rfl ?_
      refine zw_get dM_home_24 zf_M_45 (by first | exact hM | exact zg_ne (by decide) hM | exact zg_eq h41) rfl ?_
      refine zw_iload_n dM_home_27 rfl ?_
      refine zw_iald dM_home_28 (by first | exact hM | exact zg_ne (by decide) hM | exact zg_eq h41) (vp_in_nI (show c < 36 by omega) (by decide)) ?_
      rw [ecl, ef]
      exact zw_iret dM_home_29 rfl rfl (by rw [zs_len]; rfl) ⟨rfl, (a.sc (by decide) f2).1⟩
    · exact absurd c_5 (show ¬ (1 : Int32) = 0 by decide)
theorem c_M_target (a : MX h O) (ok : oOK' O) {x : Int32} : Run l g mM_target (d + 4) 0 0 [.ref 31, .int x] h (PIh (rTarget O x) (MP h O)) := by
  obtain ⟨⟨qa, qb, z, hM, hS⟩, -, -, -, ⟨-, -, -, fa0, ho0, -, -, -, -, -, h40, h41, -⟩⟩ := id a
  have hF := ok.1
  have ci := c_M_inB (l := l) (g := g) (d := d + 3) (h := h) (x := x) (a := 0) (b := 3) (by decide) (by decide)
  refine run_of (by decide) (Nat.le_of_ble_eq_true rfl) ?_
  cases hb : btw x 0 3 with
  | none =>
    rw [hb] at ci
    have hr0 : rTarget O x = -1 := by unfold rTarget; rw [hb]
    rw [hr0]
    refine zw_iload_n dM_target_0 rfl ?_
    refine zw_iconst (v := 0) dM_target_1 (by decide) ?_
    refine zw_iconst (v := 3) dM_target_2 (by decide) ?_
    refine zc_S3I dM_target_3 zm_M_in zk_M_67 ci ?_ zRR (Nat.le_of_ble_eq_true rfl) ⟨Nat.le_of_ble_eq_true rfl, Nat.le_of_ble_eq_true rfl⟩
    refine zw_if_ne 11 dM_target_6 (by decide) (fun c_6 => ?_) (fun c_6 => ?_)
    · exact absurd rfl c_6
    · refine zw_iconst (v := (-1)) dM_target_9 (by decide) ?_
      exact zw_iret dM_target_10 rfl rfl rfl ⟨rfl, MP.rf a⟩
  | some w =>
    rw [hb] at ci
    obtain ⟨-, hw, rfl⟩ := (btw_some (by decide)).mp hb
    have cl := c_M_laysTarget (l := l) (g := g) (d := d) hF ok.2.1 hM hS h40 h41
    have hrn : ctg (oF O) (oS O) = none → rTarget O (nI w) = -9 := by
      intro e
      unfold ctg at e
      unfold rTarget
      rw [hb]
      dsimp only
      cases hl : sLost (oS O) with
      | true => rw [if_pos rfl]
      | false => rw [hl, if_neg (by decide)] at e; rw [if_neg (by decide), e]
    have hrs : ∀ t gt wa b, ctg (oF O) (oS O) = some (t, gt, wa, b) → rTarget O (nI w) = if w = 0 then nI t else if w = 1 then nI wa else if w = 2 then nI b else nI gt := by
      intro t gt wa b e
      unfold ctg at e
      unfold rTarget
      rw [hb]
      dsimp only
      cases hl : sLost (oS O) with
      | true => rw [hl, if_pos rfl] at e; cases e
      | false => rw [hl, if_neg (by decide)] at e; rw [if_neg (by decide), e]
    refine zw_iload_n dM_target_0 rfl ?_
    refine zw_iconst (v := 0) dM_target_1 (by decide) ?_
    refine zw_iconst (v := 3) dM_target_2 (by decide) ?_
    refine zc_S3I dM_target_3 zm_M_in zk_M_67 ci ?_ zRR (Nat.le_of_ble_eq_true rfl) ⟨Nat.le_of_ble_eq_true rfl, Nat.le_of_ble_eq_true rfl⟩
    refine zw_if_ne 11 dM_target_6 (by decide) (fun c_6 => ?_) (fun c_6 => absurd c_6 (show ¬ (1 : Int32) = 0 by decide))
    refine zw_aload_n dM_target_11 rfl ?_
    refine zx_V0V dM_target_12 zm_M_laysTarget zk_M_158 hM rfl cl zRR (Nat.le_of_ble_eq_true rfl) ⟨Nat.le_of_ble_eq_true rfl, Nat.le_of_ble_eq_true rfl⟩ ?_
    intro h1 s1
    have A := (a.lt s1).1
    have hl1 : h1.length = h.length + 0 := A.2.2
    obtain ⟨q, ho, fa, hbr, e1, -, -⟩ := s1
    have k31 : h1[31]? = some (mC (oF O) (oSz O) (oLen O) qa q) := by rw [e1]; exact zg_eq (zg_ne (by decide) (zg_ne (by decide) hM))
    cases ht : ctg (oF O) (oS O) with
    | none =>
      rw [ht] at hbr
      have e9 : q.1 = -9 := hbr
      rw [hrn ht]
      refine zw_aload_n dM_target_15 rfl ?_
      refine zw_get dM_target_16 zf_M_143 k31 rfl ?_
      refine zw_bipush (v := (-9)) dM_target_19 (by decide) ?_
      refine zw_icmp_ne 27 dM_target_21 (by decide) (fun c_21 => ?_) (fun c_21 => ?_)
      · exact absurd e9 c_21
      · refine zw_bipush (v := (-9)) dM_target_24 (by decide) ?_
        exact zw_iret dM_target_26 rfl rfl hl1 ⟨rfl, A⟩
    | some y =>
      obtain ⟨t, gt, wa, b⟩ := y
      rw [ht] at hbr
      have e9 : q = (nI t, nI gt, nI wa, nI b) := hbr
      subst e9
      have ht2 : tgt (oF O) (oS O) = some (t, gt, wa, b) := by
        unfold ctg at ht
        split at ht
        · cases ht
        · exact ht
      have htl := (tgt_lt hF ok.2.1.k1 ht2).1
      have n9 : ¬ nI t = -9 := nI_m9 (by omega)
      rw [hrs _ _ _ _ ht]
      rcases (show w = 0 ∨ w = 1 ∨ w = 2 ∨ w = 3 by omega) with rfl | rfl | rfl | rfl
      · refine zw_aload_n dM_target_15 rfl ?_
        refine zw_get dM_target_16 zf_M_143 k31 rfl ?_
        refine zw_bipush (v := (-9)) dM_target_19 (by decide) ?_
        refine zw_icmp_ne 27 dM_target_21 (by decide) (fun c_21 => ?_) (fun c_21 => ?_)
        · refine zw_iload_n dM_target_27 rfl ?_
          refine zw_if_ne 38 dM_target_28 (by decide) (fun c_28 => ?_) (fun c_28 => ?_)
          · exact absurd rfl c_28
          · refine zw_aload_n dM_target_31 rfl ?_
            refine zw_get dM_target_32 zf_M_143 k31 rfl ?_
            refine zw_goto 66 dM_target_35 (by decide) ?_
            exact zw_iret dM_target_66 rfl rfl hl1 ⟨rfl, A⟩
        · exact absurd c_21 n9
      · refine zw_aload_n dM_target_15 rfl ?_
        refine zw_get dM_target_16 zf_M_143 k31 rfl ?_
        refine zw_bipush (v := (-9)) dM_target_19 (by decide) ?_
        refine zw_icmp_ne 27 dM_target_21 (by decide) (fun c_21 => ?_) (fun c_21 => ?_)
        · refine zw_iload_n dM_target_27 rfl ?_
          refine zw_if_ne 38 dM_target_28 (by decide) (fun c_28 => ?_) (fun c_28 => ?_)
          · refine zw_iload_n dM_target_38 rfl ?_
            refine zw_iconst (v := 1) dM_target_39 (by decide) ?_
            refine zw_icmp_ne 50 dM_target_40 (by decide) (fun c_40 => ?_) (fun c_40 => ?_)
            · exact absurd rfl c_40
            · refine zw_aload_n dM_target_43 rfl ?_
              refine zw_get dM_target_44 zf_M_149 k31 rfl ?_
              refine zw_goto 66 dM_target_47 (by decide) ?_
              exact zw_iret dM_target_66 rfl rfl hl1 ⟨rfl, A⟩
          · exact absurd c_28 (by decide)
        · exact absurd c_21 n9
      · refine zw_aload_n dM_target_15 rfl ?_
        refine zw_get dM_target_16 zf_M_143 k31 rfl ?_
        refine zw_bipush (v := (-9)) dM_target_19 (by decide) ?_
        refine zw_icmp_ne 27 dM_target_21 (by decide) (fun c_21 => ?_) (fun c_21 => ?_)
        · refine zw_iload_n dM_target_27 rfl ?_
          refine zw_if_ne 38 dM_target_28 (by decide) (fun c_28 => ?_) (fun c_28 => ?_)
          · refine zw_iload_n dM_target_38 rfl ?_
            refine zw_iconst (v := 1) dM_target_39 (by decide) ?_
            refine zw_icmp_ne 50 dM_target_40 (by decide) (fun c_40 => ?_) (fun c_40 => ?_)
            · refine zw_iload_n dM_target_50 rfl ?_
              refine zw_iconst (v := 2) dM_target_51 (by decide) ?_
              refine zw_icmp_ne 62 dM_target_52 (by decide) (fun c_52 => ?_) (fun c_52 => ?_)
              · exact absurd rfl c_52
              · refine zw_aload_n dM_target_55 rfl ?_
                refine zw_get dM_target_56 zf_M_155 k31 rfl ?_
                refine zw_goto 66 dM_target_59 (by decide) ?_
                exact zw_iret dM_target_66 rfl rfl hl1 ⟨rfl, A⟩
            · exact absurd c_40 (by decide)
          · exact absurd c_28 (by decide)
        · exact absurd c_21 n9
      · refine zw_aload_n dM_target_15 rfl ?_
        refine zw_get dM_target_16 zf_M_143 k31 rfl ?_
        refine zw_bipush (v := (-9)) dM_target_19 (by decide) ?_
        refine zw_icmp_ne 27 dM_target_21 (by decide) (fun c_21 => ?_) (fun c_21 => ?_)
        · refine zw_iload_n dM_target_27 rfl ?_
          refine zw_if_ne 38 dM_target_28 (by decide) (fun c_28 => ?_) (fun c_28 => ?_)
          · refine zw_iload_n dM_target_38 rfl ?_
            refine zw_iconst (v := 1) dM_target_39 (by decide) ?_
            refine zw_icmp_ne 50 dM_target_40 (by decide) (fun c_40 => ?_) (fun c_40 => ?_)
            · refine zw_iload_n dM_target_50 rfl ?_
              refine zw_iconst (v := 2) dM_target_51 (by decide) ?_
              refine zw_icmp_ne 62 dM_target_52 (by decide) (fun c_52 => ?_) (fun c_52 => ?_)
              · refine zw_aload_n dM_target_62 rfl ?_
                refine zw_get dM_target_63 zf_M_152 k31 rfl ?_
                exact zw_iret dM_target_66 rfl rfl hl1 ⟨rfl, A⟩
              · exact absurd c_52 (by decide)
            · exact absurd c_40 (by decide)
          · exact absurd c_28 (by decide)
        · exact absurd c_21 n9
theorem c_M_isAllDone (a : MX h O) (ok : oOK' O) (hl : sLost (oS O) = false) : Run l g mM_isAllDone (d + 4) 0 0 [.ref 31] h (PIh (if thr (oF O) (oS O) = true then 1 else 0) (aQ h O)) := by
  obtain ⟨⟨qa, qb, z, hM, hS⟩, -, -, -, ⟨-, -, -, fa0, ho0, -, -, -, -, -, h40, h41, -⟩⟩ := id a
  have hF := ok.1
  have h36 := fN_le hF
  have sok := ok.2.1
  have hat := sok.at
  have hch := sok.ch
  have hbr := sok.brim
  have hdk := hF.2.2.1
  have ea : nI (sAt (oS O)) = nI (fD (oF O)) ↔ sAt (oS O) = fD (oF O) := nI_eq (by omega) (by omega)
  have ec : nI (sCh (oS O)) = nI (sBrim (oS O)) ↔ sCh (oS O) = sBrim (oS O) := nI_eq (by omega) (by omega)
  have A0 : aQ h O h := ⟨MP.rf a, rfl⟩
  refine run_of (by decide) (Nat.le_of_ble_eq_true rfl) ?_
  by_cases h1 : sAt (oS O) = fD (oF O)
  · by_cases h2 : sCh (oS O) = sBrim (oS O)
    · have et : thr (oF O) (oS O) = (tgt (oF O) (oS O)).isNone := by unfold thr; rw [decide_eq_true h1, decide_eq_true h2]; rfl
      rw [et]
      have hctg : ctg (oF O) (oS O) = tgt (oF O) (oS O) := by unfold ctg; rw [if_neg (by rw [hl]; decide)]
      refine zw_aload_n dM_isAllDone_0 rfl ?_
      refine zw_get dM_isAllDone_1 zf_M_16 (by first | exact hM | exact hS | exact k31) rfl ?_
      refine zw_bipush (v := 108) dM_isAllDone_4 (by decide) ?_
      refine zw_iald dM_isAllDone_6 (by first | exact hM | exact hS | exact k31) v108 ?_
      rw [e108, ms_108]
      refine zw_aload_n dM_isAllDone_7 rfl ?_
      refine zw_get dM_isAllDone_8 zf_M_61 (by first | exact hM | exact hS | exact k31) rfl ?_
      refine zw_icmp_ne 31 dM_isAllDone_11 (by decide) (fun c_11 => ?_) (fun c_11 => ?_)
      · exact absurd (ea.mpr h1) c_11
      · refine zw_aload_n dM_isAllDone_14 rfl ?_
        refine zw_get dM_isAllDone_15 zf_M_16 (by first | exact hM | exact hS | exact k31) rfl ?_
        refine zw_bipush (v := 110) dM_isAllDone_18 (by decide) ?_
        refine zw_iald dM_isAllDone_20 (by first | exact hM | exact hS | exact k31) v110 ?_
        rw [e110, ms_110]
        refine zw_aload_n dM_isAllDone_21 rfl ?_
        refine zw_get dM_isAllDone_22 zf_M_16 (by first | exact hM | exact hS | exact k31) rfl ?_
        refine zw_bipush (v := 112) dM_isAllDone_25 (by decide) ?_
        refine zw_iald dM_isAllDone_27 (by first | exact hM | exact hS | exact k31) v112 ?_
        rw [e112, ms_112]
        refine zw_icmp_eq 33 dM_isAllDone_28 (by decide) (fun c_28 => ?_) (fun c_28 => ?_)
        · refine zw_aload_n dM_isAllDone_33 rfl ?_
          refine zx_V0V dM_isAllDone_34 zm_M_laysTarget zk_M_158 (by first | exact hM | exact hS | exact k31) rfl (c_M_laysTarget hF sok hM hS h40 h41) zRR (Nat.le_of_ble_eq_true rfl) ⟨Nat.le_of_ble_eq_true rfl, Nat.le_of_ble_eq_true rfl⟩ ?_
          rintro h1 s1
          have A := a.lt s1
          have hl1 : h1.length = h.length + 0 := A.1.2.2
          obtain ⟨q, ho, fa, hbr, e1, -, -⟩ := s1
          have k31 : h1[31]? = some (mC (oF O) (oSz O) (oLen O) qa q) := by rw [e1]; exact zg_eq (zg_ne (by decide) (zg_ne (by decide) hM))
          rw [hctg] at hbr
          have en : q.1 = -9 ↔ (tgt (oF O) (oS O)).isNone = true := by
            cases ht : tgt (oF O) (oS O) with
            | none =>
              rw [ht] at hbr
              exact ⟨fun _ => rfl, fun _ => hbr⟩
            | some y =>
              obtain ⟨t, gt, wa, b⟩ := y
              rw [ht] at hbr
              have e9 : q = (nI t, nI gt, nI wa, nI b) := hbr
              have htl := (tgt_lt hF sok.k1 ht).1
              constructor
              · intro q2
                rw [e9] at q2
                exact absurd q2 (nI_m9 (by omega))
              · intro q2; cases q2
          refine zw_aload_n dM_isAllDone_37 rfl ?_
          refine zw_get dM_isAllDone_38 zf_M_143 (by first | exact hM | exact hS | exact k31) rfl ?_
          refine zw_bipush (v := (-9)) dM_isAllDone_41 (by decide) ?_
          refine zw_icmp_ne 50 dM_isAllDone_43 (by decide) (fun c_43 => ?_) (fun c_43 => ?_)
          · refine zw_iconst (v := 0) dM_isAllDone_50 (by decide) ?_
            exact zw_iret dM_isAllDone_51 rfl rfl hl1 ⟨piE (by
first
  | (rw [if_pos (en.mp c_43)])
  | (rw [if_neg (fun q => c_43 (en.mpr q))])), A⟩
          · refine zw_iconst (v := 1) dM_isAllDone_46 (by decide) ?_
            refine zw_goto 51 dM_isAllDone_47 (by decide) ?_
            exact zw_iret dM_isAllDone_51 rfl rfl hl1 ⟨piE (by
first
  | (rw [if_pos (en.mp c_43)])
  | (rw [if_neg (fun q => c_43 (en.mpr q))])), A⟩
        · exact absurd (ec.mpr h2) c_28
    · have et : thr (oF O) (oS O) = false := by unfold thr; rw [decide_eq_false h2]; simp
      rw [et]
      refine zw_aload_n dM_isAllDone_0 rfl ?_
      refine zw_get dM_isAllDone_1 zf_M_16 (by first | exact hM | exact hS) rfl ?_
      refine zw_bipush (v := 108) dM_isAllDone_4 (by decide) ?_
      refine zw_iald dM_isAllDone_6 (by first | exact hM | exact hS) v108 ?_
      rw [e108, ms_108]
      refine zw_aload_n dM_isAllDone_7 rfl ?_
      refine zw_get dM_isAllDone_8 zf_M_61 (by first | exact hM | exact hS) rfl ?_
      refine zw_icmp_ne 31 dM_isAllDone_11 (by decide) (fun c_11 => ?_) (fun c_11 => ?_)
      · exact absurd (ea.mpr h1) c_11
      · refine zw_aload_n dM_isAllDone_14 rfl ?_
        refine zw_get dM_isAllDone_15 zf_M_16 (by first | exact hM | exact hS) rfl ?_
        refine zw_bipush (v := 110) dM_isAllDone_18 (by decide) ?_
        refine zw_iald dM_isAllDone_20 (by first | exact hM | exact hS) v110 ?_
        rw [e110, ms_110]
        refine zw_aload_n dM_isAllDone_21 rfl ?_
        refine zw_get dM_isAllDone_22 zf_M_16 (by first | exact hM | exact hS) rfl ?_
        refine zw_bipush (v := 112) dM_isAllDone_25 (by decide) ?_
        refine zw_iald dM_isAllDone_27 (by first | exact hM | exact hS) v112 ?_
        rw [e112, ms_112]
        refine zw_icmp_eq 33 dM_isAllDone_28 (by decide) (fun c_28 => ?_) (fun c_28 => ?_)
        · exact absurd (ec.mp c_28) h2
        · refine zw_iconst (v := 0) dM_isAllDone_31 (by decide) ?_
          exact zw_iret dM_isAllDone_32 rfl rfl rfl ⟨rfl, A0⟩
  · have et : thr (oF O) (oS O) = false := by unfold thr; rw [decide_eq_false h1]; simp
    rw [et]
    refine zw_aload_n dM_isAllDone_0 rfl ?_
    refine zw_get dM_isAllDone_1 zf_M_16 (by first | exact hM | exact hS) rfl ?_
    refine zw_bipush (v := 108) dM_isAllDone_4 (by decide) ?_
    refine zw_iald dM_isAllDone_6 (by first | exact hM | exact hS) v108 ?_
    rw [e108, ms_108]
    refine zw_aload_n dM_isAllDone_7 rfl ?_
    refine zw_get dM_isAllDone_8 zf_M_61 (by first | exact hM | exact hS) rfl ?_
    refine zw_icmp_ne 31 dM_isAllDone_11 (by decide) (fun c_11 => ?_) (fun c_11 => ?_)
    · refine zw_iconst (v := 0) dM_isAllDone_31 (by decide) ?_
      exact zw_iret dM_isAllDone_32 rfl rfl rfl ⟨rfl, A0⟩
    · exact absurd (ea.mp c_11) h1
theorem hOn_ex {F : Fl} (hF : fOK F) {a t : Nat} (h : Adj F a t) : ∃ r, r < 4 ∧ hOn F a t = some r := by
  obtain ⟨hd, hh, e⟩ := h
  cases q : hOn F a t with
  | none =>
    have := fst_none.mp q hd (by omega) (by omega)
    rw [e] at this
    simp at this
  | some r =>
    obtain ⟨q1, q2, -⟩ := fst_some.mp q
    exact ⟨r, by omega, rfl⟩
theorem dst_0 {F : Fl} {K : Nat → Bool} {a c : Nat} (h : dst F K (some a) c = some 0) : a = c := (lvl_0.mp (dst_some.mp h).2.1).1
theorem c_M_acts (a : MX h O) (ok : oOK' O) (hl : sLost (oS O) = false) : Run l g mM_acts (d + 5) 0 0 [.ref 31] h (PIh (if (act (oF O) (oS O)).1 = 2 then 1 else 0) (aQ h (oSetS O (act (oF O) (oS O)).2))) := by
  obtain ⟨⟨qa, qb, z, hM, hS⟩, -, -, -, ⟨-, -, np0, fa0, ho0, tg0, -, -, -, h39, h40, h41, h42, -⟩⟩ := id a
  have hF := ok.1
  have h36 := fN_le hF
  have sok := ok.2.1
  have hat := sok.at
  have hch := sok.ch
  have hbr := sok.brim
  have hrt := sok.rate
  have hdk := hF.2.2.1
  have hK := sok.k1
  have ea : nI (sAt (oS O)) = nI (fD (oF O)) ↔ sAt (oS O) = fD (oF O) := nI_eq (by omega) (by omega)
  have ec : nI (sBrim (oS O)) ≤ nI (sCh (oS O)) ↔ sBrim (oS O) ≤ sCh (oS O) := nI_leI (by omega) (by omega)
  have A0 : aQ h (oSetS O (oS O)) h := ⟨MP.rf a, rfl⟩
  have hM32 : ∀ c, (h.set 32 c)[31]? = some (mC (oF O) (oSz O) (oLen O) qa qb) := fun c => zg_ne (by decide) hM
  have hS32 : ∀ c, (h.set 32 c)[32]? = some c := fun c => zg_eq hS
  refine run_of (by decide) (Nat.le_of_ble_eq_true rfl) ?_
  have LATER : ¬ (sAt (oS O) = fD (oF O) ∧ sCh (oS O) < sBrim (oS O)) → WW l g mM_acts (zrm (d + 5) 0 0) (fun _ => True) (zQQ g (PIh (if (act (oF O) (oS O)).1 = 2 then 1 else 0) (aQ h (oSetS O (act (oF O) (oS O)).2))) (h.length + 0) 0 0) 90 [(0, some (.ref 31))] [] h 0 0 := by
    intro hn1
    by_cases h0 : sCh (oS O) = 0
    · have e : act (oF O) (oS O) = (0, oS O) := by unfold act; rw [if_neg hn1, if_pos h0]
      rw [e]
      refine zw_aload_n dM_acts_90 rfl ?_
      refine zw_get dM_acts_91 zf_M_16 (by first | exact hM | exact hS) rfl ?_
      refine zw_bipush (v := 110) dM_acts_94 (by decide) ?_
      refine zw_iald dM_acts_96 (by first | exact hM | exact hS) v110 ?_
      rw [e110, ms_110]
      refine zw_if_ne 102 dM_acts_97 (by decide) (fun c_97 => ?_) (fun c_97 => ?_)
      · exact absurd (by rw [h0]; rfl) c_97
      · refine zw_iconst (v := 0) dM_acts_100 (by decide) ?_
        exact zw_iret dM_acts_101 rfl rfl rfl ⟨rfl, A0⟩
    · have hn0 : ¬ nI (sCh (oS O)) = 0 := nI_ne0 (by omega) (by omega)
      have eactN : nxt (oF O) (oS O) = none → act (oF O) (oS O) = (0, oS O) := fun e => by unfold act; rw [if_neg hn1, if_neg h0, e]
      have eactS : ∀ hd, nxt (oF O) (oS O) = some hd → act (oF O) (oS O) = (2, stepS (oF O) (oS O) hd) := fun hd e => by unfold act; rw [if_neg hn1, if_neg h0, e]
      have hctg : ctg (oF O) (oS O) = tgt (oF O) (oS O) := by unfold ctg; rw [if_neg (by rw [hl]; decide)]
      refine zw_aload_n dM_acts_90 rfl ?_
      refine zw_get dM_acts_91 zf_M_16 hM rfl ?_
      refine zw_bipush (v := 110) dM_acts_94 (by decide) ?_
      refine zw_iald dM_acts_96 hS v110 ?_
      rw [e110, ms_110]
      refine zw_if_ne 102 dM_acts_97 (by decide) (fun c_97 => ?_) (fun c_97 => absurd c_97 hn0)
      refine zw_aload_n dM_acts_102 rfl ?_
      refine zx_V0V dM_acts_103 zm_M_laysTarget zk_M_158 hM rfl (c_M_laysTarget (d := d + 1) hF sok hM hS h40 h41) zRR (Nat.le_of_ble_eq_true rfl) ⟨Nat.le_of_ble_eq_true rfl, Nat.le_of_ble_eq_true rfl⟩ ?_
      intro h1 s1
      have A := a.lt s1
      have a1 : MX h1 O := A.1.1
      obtain ⟨q, ho, fa, hbR, e1, eho, efa⟩ := s1
      rw [hctg] at hbR
      have k31 : h1[31]? = some (mC (oF O) (oSz O) (oLen O) qa q) := by rw [e1]; exact zg_eq (zg_ne (by decide) (zg_ne (by decide) hM))
      have k32 : h1[32]? = some (sC (oF O) (oS O) z) := by rw [e1]; exact zg_ne (by decide) (zg_ne (by decide) (zg_ne (by decide) hS))
      have k39 : h1[39]? = some (iA 36 np0) := by rw [e1]; exact zg_ne (by decide) (zg_ne (by decide) (zg_ne (by decide) h39))
      have k41 : h1[41]? = some (iA 36 ho) := by rw [e1]; exact zg_ne (by decide) (zg_ne (by decide) (zg_eq h41))
      have k42 : h1[42]? = some (iA 36 tg0) := by rw [e1]; exact zg_ne (by decide) (zg_ne (by decide) (zg_ne (by decide) h42))
      have hl1 : h1.length = h.length + 0 := A.1.2.2
      have eatc := clk hF hat
      have hina : vp_in (nI (sAt (oS O))) 36 := vp_in_nI (by omega) (by decide)
      cases ht : tgt (oF O) (oS O) with
      | none =>
        rw [ht] at hbR
        have e9 : q.1 = -9 := hbR
        by_cases h2 : sAt (oS O) = fD (oF O)
        · have e : act (oF O) (oS O) = (0, oS O) := eactN (by unfold nxt; rw [ht]; dsimp only; rw [if_pos h2])
          rw [e]
          refine zw_aload_n dM_acts_106 rfl ?_
          refine zw_get dM_acts_107 zf_M_143 (by first | exact k31 | exact k32) rfl ?_
          refine zw_bipush (v := (-9)) dM_acts_110 (by decide) ?_
          refine zw_icmp_eq 144 dM_acts_112 (by decide) (fun c_112 => ?_) (fun c_112 => ?_)
          · refine zw_aload_n dM_acts_144 rfl ?_
            refine zw_get dM_acts_145 zf_M_143 (by first | exact k31 | exact k32) rfl ?_
            refine zw_bipush (v := (-9)) dM_acts_148 (by decide) ?_
            refine zw_icmp_eq 195 dM_acts_150 (by decide) (fun c_150 => ?_) (fun c_150 => ?_)
            · refine zw_aload_n dM_acts_195 rfl ?_
              refine zw_get dM_acts_196 zf_M_16 (by first | exact k31 | exact k32) rfl ?_
              refine zw_bipush (v := 108) dM_acts_199 (by decide) ?_
              refine zw_iald dM_acts_201 (by first | exact k31 | exact k32) v108 ?_
              rw [e108, ms_108]
              refine zw_aload_n dM_acts_202 rfl ?_
              refine zw_get dM_acts_203 zf_M_61 (by first | exact k31 | exact k32) rfl ?_
              refine zw_icmp_eq 255 dM_acts_206 (by decide) (fun c_206 => ?_) (fun c_206 => ?_)
              · refine zw_iconst (v := 0) dM_acts_255 (by decide) ?_
                exact zw_iret dM_acts_256 rfl rfl hl1 ⟨rfl, A⟩
              · exact absurd (ea.mpr h2) c_206
            · exact absurd e9 c_150
          · exact absurd e9 c_112
        · have enx : nxt (oF O) (oS O) = hNr (oF O) (kn1 (oS O)) (sAt (oS O)) (fD (oF O)) := by unfold nxt; rw [ht]; dsimp only; rw [if_neg h2]
          have eh := eho (sAt (oS O)) hat
          have hsy : hom (oF O) (oS O) (sAt (oS O)) = dst (oF O) (kn1 (oS O)) (some (sAt (oS O))) (fD (oF O)) := dst_symm hF hK _ _
          cases hd : dst (oF O) (kn1 (oS O)) (some (sAt (oS O))) (fD (oF O)) with
          | none =>
            have e : act (oF O) (oS O) = (0, oS O) := eactN (by rw [enx]; unfold hNr; rw [hd])
            rw [e]
            rw [hsy, hd] at eh
            refine zw_aload_n dM_acts_106 rfl ?_
            refine zw_get dM_acts_107 zf_M_143 (by first | exact k31 | exact k32 | exact k41) rfl ?_
            refine zw_bipush (v := (-9)) dM_acts_110 (by decide) ?_
            refine zw_icmp_eq 144 dM_acts_112 (by decide) (fun c_112 => ?_) (fun c_112 => ?_)
            · refine zw_aload_n dM_acts_144 rfl ?_
              refine zw_get dM_acts_145 zf_M_143 (by first | exact k31 | exact k32 | exact k41) rfl ?_
              refine zw_bipush (v := (-9)) dM_acts_148 (by decide) ?_
              refine zw_icmp_eq 195 dM_acts_150 (by decide) (fun c_150 => ?_) (fun c_150 => ?_)
              · refine zw_aload_n dM_acts_195 rfl ?_
                refine zw_get dM_acts_196 zf_M_16 (by first | exact k31 | exact k32 | exact k41) rfl ?_
                refine zw_bipush (v := 108) dM_acts_199 (by decide) ?_
                refine zw_iald dM_acts_201 (by first | exact k31 | exact k32 | exact k41) v108 ?_
                rw [e108, ms_108]
                refine zw_aload_n dM_acts_202 rfl ?_
                refine zw_get dM_acts_203 zf_M_61 (by first | exact k31 | exact k32 | exact k41) rfl ?_
                refine zw_icmp_eq 255 dM_acts_206 (by decide) (fun c_206 => ?_) (fun c_206 => ?_)
                · exact absurd (ea.mp c_206) h2
                · refine zw_aload_n dM_acts_209 rfl ?_
                  refine zw_get dM_acts_210 zf_M_45 (by first | exact k31 | exact k32 | exact k41) rfl ?_
                  refine zw_aload_n dM_acts_213 rfl ?_
                  refine zw_get dM_acts_214 zf_M_16 (by first | exact k31 | exact k32 | exact k41) rfl ?_
                  refine zw_bipush (v := 108) dM_acts_217 (by decide) ?_
                  refine zw_iald dM_acts_219 (by first | exact k31 | exact k32 | exact k41) v108 ?_
                  rw [e108, ms_108]
                  refine zw_iald dM_acts_220 (by first | exact k31 | exact k32 | exact k41) hina ?_
                  rw [eatc, eh]
                  refine zw_bipush (v := (-9)) dM_acts_221 (by decide) ?_
                  refine zw_icmp_eq 255 dM_acts_223 (by decide) (fun c_223 => ?_) (fun c_223 => ?_)
                  · refine zw_iconst (v := 0) dM_acts_255 (by decide) ?_
                    exact zw_iret dM_acts_256 rfl rfl hl1 ⟨rfl, A⟩
                  · exact absurd rfl c_223
              · exact absurd e9 c_150
            · exact absurd e9 c_112
          | some s =>
            cases s with
            | zero => exact absurd (dst_0 hd) h2
            | succ m =>
              have hmlt := dst_lt hd
              obtain ⟨r, hr4, hr1, hr2⟩ := near_ex hF hK hat hd
              have e : act (oF O) (oS O) = (2, stepS (oF O) (oS O) r) := eactS r (by rw [enx, hr1])
              rw [e]
              rw [hsy, hd] at eh
              have eh2 : ho (sAt (oS O)) = nI (m + 1) := eh
              have e9m : ¬ nI (m + 1) = -9 := nI_m9 (by omega)
              have epr : nI (m + 1) - 1 = nI m := nI_pred m
              have cht := c_M_handTo (l := l) (g := g) (d := d + 2) (t := fun c => dst (oF O) (kn1 (oS O)) (some (fD (oF O))) c) hF sok k31 k32 k41 eho (fun c v hv => by have := dst_lt hv; omega) (by omega) hr2
              refine zw_aload_n dM_acts_106 rfl ?_
              refine zw_get dM_acts_107 zf_M_143 (by first | exact k31 | exact k32 | exact k41) rfl ?_
              refine zw_bipush (v := (-9)) dM_acts_110 (by decide) ?_
              refine zw_icmp_eq 144 dM_acts_112 (by decide) (fun c_112 => ?_) (fun c_112 => ?_)
              · refine zw_aload_n dM_acts_144 rfl ?_
                refine zw_get dM_acts_145 zf_M_143 (by first | exact k31 | exact k32 | exact k41) rfl ?_
                refine zw_bipush (v := (-9)) dM_acts_148 (by decide) ?_
                refine zw_icmp_eq 195 dM_acts_150 (by decide) (fun c_150 => ?_) (fun c_150 => ?_)
                · refine zw_aload_n dM_acts_195 rfl ?_
                  refine zw_get dM_acts_196 zf_M_16 (by first | exact k31 | exact k32 | exact k41) rfl ?_
                  refine zw_bipush (v := 108) dM_acts_199 (by decide) ?_
                  refine zw_iald dM_acts_201 (by first | exact k31 | exact k32 | exact k41) v108 ?_
                  rw [e108, ms_108]
                  refine zw_aload_n dM_acts_202 rfl ?_
                  refine zw_get dM_acts_203 zf_M_61 (by first | exact k31 | exact k32 | exact k41) rfl ?_
                  refine zw_icmp_eq 255 dM_acts_206 (by decide) (fun c_206 => ?_) (fun c_206 => ?_)
                  · exact absurd (ea.mp c_206) h2
                  · refine zw_aload_n dM_acts_209 rfl ?_
                    refine zw_get dM_acts_210 zf_M_45 (by first | exact k31 | exact k32 | exact k41) rfl ?_
                    refine zw_aload_n dM_acts_213 rfl ?_
                    refine zw_get dM_acts_214 zf_M_16 (by first | exact k31 | exact k32 | exact k41) rfl ?_
                    refine zw_bipush (v := 108) dM_acts_217 (by decide) ?_
                    refine zw_iald dM_acts_219 (by first | exact k31 | exact k32 | exact k41) v108 ?_
                    rw [e108, ms_108]
                    refine zw_iald dM_acts_220 (by first | exact k31 | exact k32 | exact k41) hina ?_
                    rw [eatc, eh2]
                    refine zw_bipush (v := (-9)) dM_acts_221 (by decide) ?_
                    refine zw_icmp_eq 255 dM_acts_223 (by decide) (fun c_223 => ?_) (fun c_223 => ?_)
                    · exact absurd c_223 e9m
                    · refine zw_aload_n dM_acts_226 rfl ?_
                      refine zw_aload_n dM_acts_227 rfl ?_
                      refine zw_aload_n dM_acts_228 rfl ?_
                      refine zw_get dM_acts_229 zf_M_45 (by first | exact k31 | exact k32 | exact k41) rfl ?_
                      refine zw_aload_n dM_acts_232 rfl ?_
                      refine zw_get dM_acts_233 zf_M_45 (by first | exact k31 | exact k32 | exact k41) rfl ?_
                      refine zw_aload_n dM_acts_236 rfl ?_
                      refine zw_get dM_acts_237 zf_M_16 (by first | exact k31 | exact k32 | exact k41) rfl ?_
                      refine zw_bipush (v := 108) dM_acts_240 (by decide) ?_
                      refine zw_iald dM_acts_242 (by first | exact k31 | exact k32 | exact k41) v108 ?_
                      rw [e108, ms_108]
                      refine zw_iald dM_acts_243 (by first | exact k31 | exact k32 | exact k41) hina ?_
                      rw [eatc, eh2]
                      refine zw_iconst (v := 1) dM_acts_244 (by decide) ?_
                      refine zw_isub dM_acts_245 ?_
                      rw [epr]
                      refine zc_V2I dM_acts_246 zm_M_handTo zk_M_164 (by first | exact k31 | exact k32 | exact k41) rfl cht ?_ zRR (Nat.le_of_ble_eq_true rfl) ⟨Nat.le_of_ble_eq_true rfl, Nat.le_of_ble_eq_true rfl⟩
                      refine zx_V1I dM_acts_249 zm_M_stepTo zk_M_130 (by first | exact k31 | exact k32 | exact k41) rfl (c_M_stepTo hF sok (by omega) k31 k32 k39 hr4) zRR (Nat.le_of_ble_eq_true rfl) ⟨Nat.le_of_ble_eq_true rfl, Nat.le_of_ble_eq_true rfl⟩ ?_
                      rintro h2 s2
                      have B := aQ.tr A (stQ.a a1 s2)
                      have hl2 : h2.length = h.length + 0 := B.1.2.2
                      refine zw_pop dM_acts_252 rfl ?_
                      refine zw_iconst (v := 1) dM_acts_253 (by decide) ?_
                      exact zw_iret dM_acts_254 rfl rfl hl2 ⟨rfl, B⟩
                · exact absurd e9 c_150
              · exact absurd e9 c_112
      | some y =>
        obtain ⟨t, gt, wa, b⟩ := y
        rw [ht] at hbR
        have eq : q = (nI t, nI gt, nI wa, nI b) := hbR
        subst eq
        obtain ⟨s, hb, f1, f2, -, -, adj, htn, hgn⟩ := tgt_facts hF hK ht
        have e9 : ¬ nI t = -9 := nI_m9 (by omega)
        have eg : nI gt = nI (sAt (oS O)) ↔ gt = sAt (oS O) := nI_eq (by omega) (by omega)
        by_cases h2 : gt = sAt (oS O)
        · obtain ⟨r, hr4, hr⟩ := hOn_ex hF (show Adj (oF O) (sAt (oS O)) t from by rw [← h2]; exact (Adj.symm hF htn adj).2)
          have e : act (oF O) (oS O) = (2, stepS (oF O) (oS O) r) := eactS r (by unfold nxt; rw [ht]; dsimp only; rw [if_pos h2.symm, hr])
          rw [e]
          have cho := c_M_handOn (l := l) (g := g) (d := d + 2) hF sok k31 k32 (by omega) hr
          refine zw_aload_n dM_acts_106 rfl ?_
          refine zw_get dM_acts_107 zf_M_143 (by first | exact k31 | exact k32 | exact k41) rfl ?_
          refine zw_bipush (v := (-9)) dM_acts_110 (by decide) ?_
          refine zw_icmp_eq 144 dM_acts_112 (by decide) (fun c_112 => ?_) (fun c_112 => ?_)
          · exact absurd c_112 e9
          · refine zw_aload_n dM_acts_115 rfl ?_
            refine zw_get dM_acts_116 zf_M_152 (by first | exact k31 | exact k32 | exact k41) rfl ?_
            refine zw_aload_n dM_acts_119 rfl ?_
            refine zw_get dM_acts_120 zf_M_16 (by first | exact k31 | exact k32 | exact k41) rfl ?_
            refine zw_bipush (v := 108) dM_acts_123 (by decide) ?_
            refine zw_iald dM_acts_125 (by first | exact k31 | exact k32 | exact k41) v108 ?_
            rw [e108, ms_108]
            refine zw_icmp_ne 144 dM_acts_126 (by decide) (fun c_126 => ?_) (fun c_126 => ?_)
            · exact absurd (eg.mpr h2) c_126
            · refine zw_aload_n dM_acts_129 rfl ?_
              refine zw_aload_n dM_acts_130 rfl ?_
              refine zw_aload_n dM_acts_131 rfl ?_
              refine zw_get dM_acts_132 zf_M_143 (by first | exact k31 | exact k32 | exact k41) rfl ?_
              refine zc_V1I dM_acts_135 zm_M_handOn zk_M_161 (by first | exact k31 | exact k32 | exact k41) rfl cho ?_ zRR (Nat.le_of_ble_eq_true rfl) ⟨Nat.le_of_ble_eq_true rfl, Nat.le_of_ble_eq_true rfl⟩
              refine zx_V1I dM_acts_138 zm_M_stepTo zk_M_130 (by first | exact k31 | exact k32 | exact k41) rfl (c_M_stepTo hF sok (by omega) k31 k32 k39 hr4) zRR (Nat.le_of_ble_eq_true rfl) ⟨Nat.le_of_ble_eq_true rfl, Nat.le_of_ble_eq_true rfl⟩ ?_
              rintro h2 s2
              have B := aQ.tr A (stQ.a a1 s2)
              have hl2 : h2.length = h.length + 0 := B.1.2.2
              refine zw_pop dM_acts_141 rfl ?_
              refine zw_iconst (v := 1) dM_acts_142 (by decide) ?_
              exact zw_iret dM_acts_143 rfl rfl hl2 ⟨rfl, B⟩
        · have hds : dst (oF O) (kn1 (oS O)) (some (sAt (oS O))) gt = some s := f1
          cases s with
          | zero => exact absurd (dst_0 hds).symm h2
          | succ m =>
            have hmlt := dst_lt hds
            obtain ⟨r, hr4, hr1, hr2⟩ := near_ex hF hK hat hds
            have e : act (oF O) (oS O) = (2, stepS (oF O) (oS O) r) := eactS r (by unfold nxt; rw [ht]; dsimp only; rw [if_neg (fun q => h2 q.symm), hr1])
            rw [e]
            have cl := c_M_laysK (l := l) (g := g) (d := d + 2) (q := 42) (by decide) (by decide) hF sok k31 k32 k42 hgn
            obtain ⟨f42, hf42⟩ : ∃ f42, f42 = fil tg0 0 (fN (oF O)) (fun c => dI (dst (oF O) (kn1 (oS O)) (some gt) c)) := ⟨_, rfl⟩
            rw [← hf42] at cl
            have ef : ∀ i, i < fN (oF O) → f42 i = dI (dst (oF O) (kn1 (oS O)) (some gt) i) := fun i hi => by rw [hf42, fil0 hi]
            have ef2 : f42 (sAt (oS O)) = nI (m + 1) := by rw [ef _ hat, dst_symm hF hK, hds]; rfl
            have m31 : (h1.set 42 (iA 36 f42))[31]? = some (mC (oF O) (oSz O) (oLen O) qa (nI t, nI gt, nI wa, nI b)) := zg_ne (by decide) k31
            have m32 : (h1.set 42 (iA 36 f42))[32]? = some (sC (oF O) (oS O) z) := zg_ne (by decide) k32
            have m39 : (h1.set 42 (iA 36 f42))[39]? = some (iA 36 np0) := zg_ne (by decide) k39
            have m42 : (h1.set 42 (iA 36 f42))[42]? = some (iA 36 f42) := zg_eq k42
            have A2 := aQ.tr A (a1.sc (show 38 ≤ 42 by decide) f42)
            have epr : nI (m + 1) - 1 = nI m := nI_pred m
            have cht := c_M_handTo (l := l) (g := g) (d := d + 2) (t := fun c => dst (oF O) (kn1 (oS O)) (some gt) c) hF sok m31 m32 m42 ef (fun c v hv => by have := dst_lt hv; omega) (by omega) hr2
            refine zw_aload_n dM_acts_106 rfl ?_
            refine zw_get dM_acts_107 zf_M_143 (by first | exact k31 | exact k32 | exact m31 | exact m32 | exact m42) rfl ?_
            refine zw_bipush (v := (-9)) dM_acts_110 (by decide) ?_
            refine zw_icmp_eq 144 dM_acts_112 (by decide) (fun c_112 => ?_) (fun c_112 => ?_)
            · exact absurd c_112 e9
            · refine zw_aload_n dM_acts_115 rfl ?_
              refine zw_get dM_acts_116 zf_M_152 (by first | exact k31 | exact k32 | exact m31 | exact m32 | exact m42) rfl ?_
              refine zw_aload_n dM_acts_119 rfl ?_
              refine zw_get dM_acts_120 zf_M_16 (by first | exact k31 | exact k32 | exact m31 | exact m32 | exact m42) rfl ?_
              refine zw_bipush (v := 108) dM_acts_123 (by decide) ?_
              refine zw_iald dM_acts_125 (by first | exact k31 | exact k32 | exact m31 | exact m32 | exact m42) v108 ?_
              rw [e108, ms_108]
              refine zw_icmp_ne 144 dM_acts_126 (by decide) (fun c_126 => ?_) (fun c_126 => ?_)
              · refine zw_aload_n dM_acts_144 rfl ?_
                refine zw_get dM_acts_145 zf_M_143 (by first | exact k31 | exact k32 | exact m31 | exact m32 | exact m42) rfl ?_
                refine zw_bipush (v := (-9)) dM_acts_148 (by decide) ?_
                refine zw_icmp_eq 195 dM_acts_150 (by decide) (fun c_150 => ?_) (fun c_150 => ?_)
                · exact absurd c_150 e9
                · refine zw_aload_n dM_acts_153 rfl ?_
                  refine zw_aload_n dM_acts_154 rfl ?_
                  refine zw_get dM_acts_155 zf_M_152 (by first | exact k31 | exact k32 | exact m31 | exact m32 | exact m42) rfl ?_
                  refine zw_iconst (v := 1) dM_acts_158 (by decide) ?_
                  refine zw_aload_n dM_acts_159 rfl ?_
                  refine zw_get dM_acts_160 zf_M_48 (by first | exact k31 | exact k32 | exact m31 | exact m32 | exact m42) rfl ?_
                  refine zc_V3V dM_acts_163 zm_M_lays zk_M_139 (by first | exact k31 | exact k32 | exact m31 | exact m32 | exact m42) rfl cl ?_ zRR (Nat.le_of_ble_eq_true rfl) ⟨Nat.le_of_ble_eq_true rfl, Nat.le_of_ble_eq_true rfl⟩
                  refine zw_aload_n dM_acts_166 rfl ?_
                  refine zw_aload_n dM_acts_167 rfl ?_
                  refine zw_aload_n dM_acts_168 rfl ?_
                  refine zw_get dM_acts_169 zf_M_48 (by first | exact k31 | exact k32 | exact m31 | exact m32 | exact m42) rfl ?_
                  refine zw_aload_n dM_acts_172 rfl ?_
                  refine zw_get dM_acts_173 zf_M_48 (by first | exact k31 | exact k32 | exact m31 | exact m32 | exact m42) rfl ?_
                  refine zw_aload_n dM_acts_176 rfl ?_
                  refine zw_get dM_acts_177 zf_M_16 (by first | exact k31 | exact k32 | exact m31 | exact m32 | exact m42) rfl ?_
                  refine zw_bipush (v := 108) dM_acts_180 (by decide) ?_
                  refine zw_iald dM_acts_182 (by first | exact k31 | exact k32 | exact m31 | exact m32 | exact m42) v108 ?_
                  rw [e108, ms_108]
                  refine zw_iald dM_acts_183 (by first | exact k31 | exact k32 | exact m31 | exact m32 | exact m42) hina ?_
                  rw [eatc, ef2]
                  refine zw_iconst (v := 1) dM_acts_184 (by decide) ?_
                  refine zw_isub dM_acts_185 ?_
                  rw [epr]
                  refine zc_V2I dM_acts_186 zm_M_handTo zk_M_164 (by first | exact k31 | exact k32 | exact m31 | exact m32 | exact m42) rfl cht ?_ zRR (Nat.le_of_ble_eq_true rfl) ⟨Nat.le_of_ble_eq_true rfl, Nat.le_of_ble_eq_true rfl⟩
                  refine zx_V1I dM_acts_189 zm_M_stepTo zk_M_130 (by first | exact k31 | exact k32 | exact m31 | exact m32 | exact m42) rfl (c_M_stepTo hF sok (by omega) m31 m32 m39 hr4) zRR (Nat.le_of_ble_eq_true rfl) ⟨Nat.le_of_ble_eq_true rfl, Nat.le_of_ble_eq_true rfl⟩ ?_
                  rintro h2 s2
                  have B := aQ.tr A2 (stQ.a A2.1.1 s2)
                  have hl2 : h2.length = h.length + 0 := B.1.2.2
                  refine zw_pop dM_acts_192 rfl ?_
                  refine zw_iconst (v := 1) dM_acts_193 (by decide) ?_
                  exact zw_iret dM_acts_194 rfl rfl hl2 ⟨rfl, B⟩
              · exact absurd (eg.mp c_126) h2
  by_cases h1 : sAt (oS O) = fD (oF O)
  · by_cases h2 : sCh (oS O) < sBrim (oS O)
    · have e : act (oF O) (oS O) = (1, setCh (oS O) (min (sCh (oS O) + sRate (oS O)) (sBrim (oS O)))) := by unfold act; rw [if_pos ⟨h1, h2⟩]
      rw [e]
      have esum : nI (sCh (oS O)) + nI (sRate (oS O)) = nI (sCh (oS O) + sRate (oS O)) := nI_add _ _
      have CH : ∀ n, n = min (sCh (oS O) + sRate (oS O)) (sBrim (oS O)) → aQ h (oSetS O (setCh (oS O) (min (sCh (oS O) + sRate (oS O)) (sBrim (oS O))))) (h.set 32 (sC (oF O) (setCh (oS O) n) z)) := fun n hn => by
        rw [hn]
        exact ⟨⟨a.now _ z, frM.set (by decide), zs_len _ _ _⟩, zg_ne (by decide) rfl⟩
      by_cases h3 : sCh (oS O) + sRate (oS O) ≤ sBrim (oS O)
      · have C := CH (sCh (oS O) + sRate (oS O)) (by omega)
        refine zw_aload_n dM_acts_0 rfl ?_
        refine zw_get dM_acts_1 zf_M_16 (by first | exact hM | exact hS) rfl ?_
        refine zw_bipush (v := 108) dM_acts_4 (by decide) ?_
        refine zw_iald dM_acts_6 (by first | exact hM | exact hS) v108 ?_
        rw [e108, ms_108]
        refine zw_aload_n dM_acts_7 rfl ?_
        refine zw_get dM_acts_8 zf_M_61 (by first | exact hM | exact hS) rfl ?_
        refine zw_icmp_ne 90 dM_acts_11 (by decide) (fun c_11 => ?_) (fun c_11 => ?_)
        · exact absurd (ea.mpr h1) c_11
        · refine zw_aload_n dM_acts_14 rfl ?_
          refine zw_get dM_acts_15 zf_M_16 (by first | exact hM | exact hS) rfl ?_
          refine zw_bipush (v := 110) dM_acts_18 (by decide) ?_
          refine zw_iald dM_acts_20 (by first | exact hM | exact hS) v110 ?_
          rw [e110, ms_110]
          refine zw_aload_n dM_acts_21 rfl ?_
          refine zw_get dM_acts_22 zf_M_16 (by first | exact hM | exact hS) rfl ?_
          refine zw_bipush (v := 112) dM_acts_25 (by decide) ?_
          refine zw_iald dM_acts_27 (by first | exact hM | exact hS) v112 ?_
          rw [e112, ms_112]
          refine zw_icmp_ge 90 dM_acts_28 (by decide) (fun c_28 => ?_) (fun c_28 => ?_)
          · exact absurd (ec.mp c_28) (by omega)
          · refine zw_aload_n dM_acts_31 rfl ?_
            refine zw_get dM_acts_32 zf_M_16 (by first | exact hM | exact hS) rfl ?_
            refine zw_bipush (v := 110) dM_acts_35 (by decide) ?_
            refine zw_aload_n dM_acts_37 rfl ?_
            refine zw_get dM_acts_38 zf_M_16 (by first | exact hM | exact hS) rfl ?_
            refine zw_bipush (v := 110) dM_acts_41 (by decide) ?_
            refine zw_iald dM_acts_43 (by first | exact hM | exact hS) v110 ?_
            rw [e110, ms_110]
            refine zw_aload_n dM_acts_44 rfl ?_
            refine zw_get dM_acts_45 zf_M_16 (by first | exact hM | exact hS) rfl ?_
            refine zw_bipush (v := 113) dM_acts_48 (by decide) ?_
            refine zw_iald dM_acts_50 (by first | exact hM | exact hS) v113 ?_
            rw [e113, ms_113]
            refine zw_iadd dM_acts_51 ?_
            rw [esum]
            refine zw_aload_n dM_acts_52 rfl ?_
            refine zw_get dM_acts_53 zf_M_16 (by first | exact hM | exact hS) rfl ?_
            refine zw_bipush (v := 112) dM_acts_56 (by decide) ?_
            refine zw_iald dM_acts_58 (by first | exact hM | exact hS) v112 ?_
            rw [e112, ms_112]
            refine zw_icmp_le 72 dM_acts_59 (by decide) (fun c_59 => ?_) (fun c_59 => ?_)
            · refine zw_aload_n dM_acts_72 rfl ?_
              refine zw_get dM_acts_73 zf_M_16 (by first | exact hM | exact hS) rfl ?_
              refine zw_bipush (v := 110) dM_acts_76 (by decide) ?_
              refine zw_iald dM_acts_78 (by first | exact hM | exact hS) v110 ?_
              rw [e110, ms_110]
              refine zw_aload_n dM_acts_79 rfl ?_
              refine zw_get dM_acts_80 zf_M_16 (by first | exact hM | exact hS) rfl ?_
              refine zw_bipush (v := 113) dM_acts_83 (by decide) ?_
              refine zw_iald dM_acts_85 (by first | exact hM | exact hS) v113 ?_
              rw [e113, ms_113]
              refine zw_iadd dM_acts_86 ?_
              rw [esum]
              refine zw_iast dM_acts_87 (by first | exact hM | exact hS) v110 ?_
              rw [e110]
              refine zw_h (sC_u1 (ms_h2 _ _ _ _)) ?_
              refine zw_iconst (v := 0) dM_acts_88 (by decide) ?_
              exact zw_iret dM_acts_89 rfl rfl (by rw [zs_len]; rfl) ⟨rfl, C⟩
            · exact absurd ((nI_leI (by omega) (by omega)).mpr h3) c_59
      · have C := CH (sBrim (oS O)) (by omega)
        refine zw_aload_n dM_acts_0 rfl ?_
        refine zw_get dM_acts_1 zf_M_16 (by first | exact hM | exact hS) rfl ?_
        refine zw_bipush (v := 108) dM_acts_4 (by decide) ?_
        refine zw_iald dM_acts_6 (by first | exact hM | exact hS) v108 ?_
        rw [e108, ms_108]
        refine zw_aload_n dM_acts_7 rfl ?_
        refine zw_get dM_acts_8 zf_M_61 (by first | exact hM | exact hS) rfl ?_
        refine zw_icmp_ne 90 dM_acts_11 (by decide) (fun c_11 => ?_) (fun c_11 => ?_)
        · exact absurd (ea.mpr h1) c_11
        · refine zw_aload_n dM_acts_14 rfl ?_
          refine zw_get dM_acts_15 zf_M_16 (by first | exact hM | exact hS) rfl ?_
          refine zw_bipush (v := 110) dM_acts_18 (by decide) ?_
          refine zw_iald dM_acts_20 (by first | exact hM | exact hS) v110 ?_
          rw [e110, ms_110]
          refine zw_aload_n dM_acts_21 rfl ?_
          refine zw_get dM_acts_22 zf_M_16 (by first | exact hM | exact hS) rfl ?_
          refine zw_bipush (v := 112) dM_acts_25 (by decide) ?_
          refine zw_iald dM_acts_27 (by first | exact hM | exact hS) v112 ?_
          rw [e112, ms_112]
          refine zw_icmp_ge 90 dM_acts_28 (by decide) (fun c_28 => ?_) (fun c_28 => ?_)
          · exact absurd (ec.mp c_28) (by omega)
          · refine zw_aload_n dM_acts_31 rfl ?_
            refine zw_get dM_acts_32 zf_M_16 (by first | exact hM | exact hS) rfl ?_
            refine zw_bipush (v := 110) dM_acts_35 (by decide) ?_
            refine zw_aload_n dM_acts_37 rfl ?_
            refine zw_get dM_acts_38 zf_M_16 (by first | exact hM | exact hS) rfl ?_
            refine zw_bipush (v := 110) dM_acts_41 (by decide) ?_
            refine zw_iald dM_acts_43 (by first | exact hM | exact hS) v110 ?_
            rw [e110, ms_110]
            refine zw_aload_n dM_acts_44 rfl ?_
            refine zw_get dM_acts_45 zf_M_16 (by first | exact hM | exact hS) rfl ?_
            refine zw_bipush (v := 113) dM_acts_48 (by decide) ?_
            refine zw_iald dM_acts_50 (by first | exact hM | exact hS) v113 ?_
            rw [e113, ms_113]
            refine zw_iadd dM_acts_51 ?_
            rw [esum]
            refine zw_aload_n dM_acts_52 rfl ?_
            refine zw_get dM_acts_53 zf_M_16 (by first | exact hM | exact hS) rfl ?_
            refine zw_bipush (v := 112) dM_acts_56 (by decide) ?_
            refine zw_iald dM_acts_58 (by first | exact hM | exact hS) v112 ?_
            rw [e112, ms_112]
            refine zw_icmp_le 72 dM_acts_59 (by decide) (fun c_59 => ?_) (fun c_59 => ?_)
            · exact absurd ((nI_leI (by omega) (by omega)).mp c_59) h3
            · refine zw_aload_n dM_acts_62 rfl ?_
              refine zw_get dM_acts_63 zf_M_16 (by first | exact hM | exact hS) rfl ?_
              refine zw_bipush (v := 112) dM_acts_66 (by decide) ?_
              refine zw_iald dM_acts_68 (by first | exact hM | exact hS) v112 ?_
              rw [e112, ms_112]
              refine zw_goto 87 dM_acts_69 (by decide) ?_
              refine zw_iast dM_acts_87 (by first | exact hM | exact hS) v110 ?_
              rw [e110]
              refine zw_h (sC_u1 (ms_h2 _ _ _ _)) ?_
              refine zw_iconst (v := 0) dM_acts_88 (by decide) ?_
              exact zw_iret dM_acts_89 rfl rfl (by rw [zs_len]; rfl) ⟨rfl, C⟩
    · have LL := LATER (fun q => h2 q.2)
      refine zw_aload_n dM_acts_0 rfl ?_
      refine zw_get dM_acts_1 zf_M_16 (by first | exact hM | exact hS) rfl ?_
      refine zw_bipush (v := 108) dM_acts_4 (by decide) ?_
      refine zw_iald dM_acts_6 (by first | exact hM | exact hS) v108 ?_
      rw [e108, ms_108]
      refine zw_aload_n dM_acts_7 rfl ?_
      refine zw_get dM_acts_8 zf_M_61 (by first | exact hM | exact hS) rfl ?_
      refine zw_icmp_ne 90 dM_acts_11 (by decide) (fun c_11 => ?_) (fun c_11 => ?_)
      · exact absurd (ea.mpr h1) c_11
      · refine zw_aload_n dM_acts_14 rfl ?_
        refine zw_get dM_acts_15 zf_M_16 (by first | exact hM | exact hS) rfl ?_
        refine zw_bipush (v := 110) dM_acts_18 (by decide) ?_
        refine zw_iald dM_acts_20 (by first | exact hM | exact hS) v110 ?_
        rw [e110, ms_110]
        refine zw_aload_n dM_acts_21 rfl ?_
        refine zw_get dM_acts_22 zf_M_16 (by first | exact hM | exact hS) rfl ?_
        refine zw_bipush (v := 112) dM_acts_25 (by decide) ?_
        refine zw_iald dM_acts_27 (by first | exact hM | exact hS) v112 ?_
        rw [e112, ms_112]
        refine zw_icmp_ge 90 dM_acts_28 (by decide) (fun c_28 => ?_) (fun c_28 => ?_)
        · exact zw_lk LL ⟨rfl, trivial⟩
        · exact absurd (ec.mpr (by omega)) c_28
  · have LL := LATER (fun q => h1 q.1)
    refine zw_aload_n dM_acts_0 rfl ?_
    refine zw_get dM_acts_1 zf_M_16 (by first | exact hM | exact hS) rfl ?_
    refine zw_bipush (v := 108) dM_acts_4 (by decide) ?_
    refine zw_iald dM_acts_6 (by first | exact hM | exact hS) v108 ?_
    rw [e108, ms_108]
    refine zw_aload_n dM_acts_7 rfl ?_
    refine zw_get dM_acts_8 zf_M_61 (by first | exact hM | exact hS) rfl ?_
    refine zw_icmp_ne 90 dM_acts_11 (by decide) (fun c_11 => ?_) (fun c_11 => ?_)
    · exact zw_lk LL ⟨rfl, trivial⟩
    · exact absurd (ea.mp c_11) h1
end C67
