section C35
variable {l : Launch} {g : zG} {d : Nat} {h : zH} {O : Om}
def nSt (O : Om) (S : Sit) : Om := oSetS (oRem O) S
theorem frQ {h h1 : zH} {S : Sit} {O O' : Om} (ca : CX h1 O) (hf : frC h h1) (hl : h1.length = h.length) (e : oSetS O S = O') : CQ h O' (hs2 5 S h1) := ⟨by rw [← e]; exact ca.now S, hf.tr (frC.hs2 (by decide)), by rw [hs2_len, hl]⟩
def rSteps (O : Om) : Int32 := if sCh (oS O) = 0 then -2 else nI (stepO (oF O) (oS O) (sHd (oS O)))
def nSteps (O : Om) : Om := if sCh (oS O) = 0 then O else nSt O (stepS (oF O) (oS O) (sHd (oS O)))
theorem c_F_steps (a : CX h O) (ok : oOK' O) : Run l g mF_steps (d + 5) 0 0 [.ref 0] h (PIh (rSteps O) (CQ h (nSteps O))) := by
  obtain ⟨h1, h2, h3, h4, h5, h6, h7, h8, h9⟩ := id a
  have sk := ok.2.1
  have hb := sk.brim
  have hc := sk.ch
  refine run_of (by decide) (Nat.le_of_ble_eq_true rfl) ?_
  by_cases h0 : sCh (oS O) = 0
  · rw [show rSteps O = -2 from if_pos h0, show nSteps O = O from if_pos h0]
    refine zw_aload_n dF_steps_0 rfl ?_
    refine zw_get dF_steps_1 zf_F_28 (by first | exact h1 | exact h4) rfl ?_
    refine zw_get dF_steps_4 zf_F_88 (by first | exact h1 | exact h4) rfl ?_
    refine zw_if_gt 13 dF_steps_7 (by decide) (fun c_7 => ?_) (fun c_7 => ?_)
    · exact absurd c_7 (by rw [show sCh (oS O) = 0 from h0]; decide)
    · refine zw_bipush (v := (-2)) dF_steps_10 (by decide) ?_
      exact zw_iret dF_steps_12 rfl rfl rfl ⟨rfl, CQ.rf a⟩
  · rw [show rSteps O = _ from if_neg h0, show nSteps O = _ from if_neg h0]
    refine zw_aload_n dF_steps_0 rfl ?_
    refine zw_get dF_steps_1 zf_F_28 (by first | exact h1 | exact h4 | exact h8.choose_spec.choose_spec.2.1) rfl ?_
    refine zw_get dF_steps_4 zf_F_88 (by first | exact h1 | exact h4 | exact h8.choose_spec.choose_spec.2.1) rfl ?_
    refine zw_if_gt 13 dF_steps_7 (by decide) (fun c_7 => ?_) (fun c_7 => ?_)
    · refine zw_aload_n dF_steps_13 rfl ?_
      refine zw_get dF_steps_14 zf_F_45 (by first | exact h1 | exact h4 | exact h8.choose_spec.choose_spec.2.1) rfl ?_
      refine zw_aload_n dF_steps_17 rfl ?_
      refine zw_get dF_steps_18 zf_F_28 (by first | exact h1 | exact h4 | exact h8.choose_spec.choose_spec.2.1) rfl ?_
      refine zx_V1V dF_steps_21 zm_H_remember zk_F_84 (by first | exact h1 | exact h4 | exact h8.choose_spec.choose_spec.2.1) rfl (c_H_remember a ok.2.2.2.2.1) zRR (Nat.le_of_ble_eq_true rfl) ⟨Nat.le_of_ble_eq_true rfl, Nat.le_of_ble_eq_true rfl⟩ ?_
      intro h' ⟨ca, hf, hl⟩
      obtain ⟨g1, g2, g3, g4, g5, g6, g7, g8, g9⟩ := id ca; have g3 : h'[4]? = some (gC (oF O)) := g3; have g4 : h'[5]? = some (sitC 5 (oS O)) := g4; have g5 : h'[5 + 1]? = some (plC (oS O)) := g5
      refine zw_aload_n dF_steps_24 rfl ?_
      refine zw_get dF_steps_25 zf_F_28 (by first | exact g1 | exact g4) rfl ?_
      refine zw_aload_n dF_steps_28 rfl ?_
      refine zw_get dF_steps_29 zf_F_28 (by first | exact g1 | exact g4) rfl ?_
      refine zw_get dF_steps_32 zf_F_115 (by first | exact g1 | exact g4) rfl ?_
      refine zc_V1I dF_steps_35 zm_S_stepTo zk_F_118 (by first | exact g1 | exact g4) rfl (c_S_stepTo (S := oS O) (F := oF O) ⟨by decide, by decide⟩ ok.1 g3 g4 g5 sk.hd sk.at (by omega)) ?_ zRR (Nat.le_of_ble_eq_true rfl) ⟨Nat.le_of_ble_eq_true rfl, Nat.le_of_ble_eq_true rfl⟩
      exact zw_iret dF_steps_38 rfl rfl (by rw [hs2_len, hl]; rfl) ⟨rfl, frQ ca hf hl rfl⟩
    · exact absurd (nI_lt (a := 0) (by omega) (by omega)) c_7
def rScans (O : Om) : Int32 := nI (scanO (oF O) (oS O))
def nScans (O : Om) : Om := nSt O (scanS (oF O) (oS O))
theorem c_F_scans (a : CX h O) (ok : oOK' O) : Run l g mF_scans (d + 4) 0 0 [.ref 0] h (PIh (rScans O) (CQ h (nScans O))) := by
  obtain ⟨h1, h2, h3, h4, h5, h6, h7, h8, h9⟩ := id a
  have sk := ok.2.1
  refine run_of (by decide) (Nat.le_of_ble_eq_true rfl) ?_
  refine zw_aload_n dF_scans_0 rfl ?_
  refine zw_get dF_scans_1 zf_F_45 (by first | exact h1 | exact h4 | exact h8.choose_spec.choose_spec.2.1) rfl ?_
  refine zw_aload_n dF_scans_4 rfl ?_
  refine zw_get dF_scans_5 zf_F_28 (by first | exact h1 | exact h4 | exact h8.choose_spec.choose_spec.2.1) rfl ?_
  refine zx_V1V dF_scans_8 zm_H_remember zk_F_84 (by first | exact h1 | exact h4 | exact h8.choose_spec.choose_spec.2.1) rfl (c_H_remember a ok.2.2.2.2.1) zRR (Nat.le_of_ble_eq_true rfl) ⟨Nat.le_of_ble_eq_true rfl, Nat.le_of_ble_eq_true rfl⟩ ?_
  intro h' ⟨ca, hf, hl⟩
  obtain ⟨g1, g2, g3, g4, g5, g6, g7, g8, g9⟩ := id ca; have g3 : h'[4]? = some (gC (oF O)) := g3; have g4 : h'[5]? = some (sitC 5 (oS O)) := g4; have g5 : h'[5 + 1]? = some (plC (oS O)) := g5
  refine zw_aload_n dF_scans_11 rfl ?_
  refine zw_get dF_scans_12 zf_F_28 (by first | exact g1 | exact g4) rfl ?_
  refine zc_V0I dF_scans_15 zm_S_scanAround zk_F_125 (by first | exact g1 | exact g4) rfl (c_S_scanAround (S := oS O) (F := oF O) ⟨by decide, by decide⟩ ok.1 g3 g4 g5 sk.hd sk.at) ?_ zRR (Nat.le_of_ble_eq_true rfl) ⟨Nat.le_of_ble_eq_true rfl, Nat.le_of_ble_eq_true rfl⟩
  exact zw_iret dF_scans_18 rfl rfl (by rw [hs2_len, hl]; rfl) ⟨rfl, frQ ca hf hl rfl⟩
def rRot (O : Om) (x : Int32) : Int32 := match btw x 1 3 with | none => -1 | some q => nI ((sHd (oS O) + q) % 4)
def nRot (O : Om) (x : Int32) : Om := match btw x 1 3 with | none => O | some q => nSt O (turnS (oS O) q)
theorem found_hd (S : Sit) : sHd (found S) = sHd S := by unfold found; split <;> rfl
theorem turnS_hd (S : Sit) (q : Nat) : sHd (turnS S q) = (sHd S + q) % 4 := by
  unfold turnS
  generalize (sHd S + q) % 4 = n
  split
  · rw [found_hd]; rfl
  · rfl
theorem c_F_rotates (a : CX h O) (ok : oOK' O) {x : Int32} : Run l g mF_rotates (d + 4) 0 0 [.ref 0, .int x] h (PIh (rRot O x) (CQ h (nRot O x))) := by
  obtain ⟨h1, h2, h3, h4, h5, h6, h7, h8, h9⟩ := id a
  have sk := ok.2.1
  refine run_of (by decide) (Nat.le_of_ble_eq_true rfl) ?_
  cases hw : btw x 1 3 with
  | none =>
    have hb := btw_none.mp hw
    rw [show rRot O x = -1 from by unfold rRot; rw [hw], show nRot O x = O from by unfold nRot; rw [hw]]
    refine zw_iload_n dF_rotates_0 rfl ?_
    refine zw_iconst (v := 1) dF_rotates_1 (by decide) ?_
    refine zw_icmp_lt 10 dF_rotates_2 (by decide) (fun c_2 => ?_) (fun c_2 => ?_)
    · refine zw_iconst (v := (-1)) dF_rotates_10 (by decide) ?_
      exact zw_iret dF_rotates_11 rfl rfl rfl ⟨rfl, CQ.rf a⟩
    · refine zw_iload_n dF_rotates_5 rfl ?_
      refine zw_iconst (v := 4) dF_rotates_6 (by decide) ?_
      refine zw_icmp_lt 12 dF_rotates_7 (by decide) (fun c_7 => ?_) (fun c_7 => ?_)
      · exact absurd ((i_ltn (c := 4) (by decide) x).mp c_7) (by have : ¬ x.toInt < 1 := fun q => c_2 ((i_ltn (c := 1) (by decide) x).mpr q); omega)
      · refine zw_iconst (v := (-1)) dF_rotates_10 (by decide) ?_
        exact zw_iret dF_rotates_11 rfl rfl rfl ⟨rfl, CQ.rf a⟩
  | some q =>
    obtain ⟨hq1, hq3, rfl⟩ := (btw_some (by decide)).mp hw
    rw [show rRot O (nI q) = nI ((sHd (oS O) + q) % 4) from by unfold rRot; rw [hw], show nRot O (nI q) = nSt O (turnS (oS O) q) from by unfold nRot; rw [hw]]
    rw [← turnS_hd]
    have ct := fun (h' : zH) (g4 : h'[5]? = some (sitC 5 (oS O))) (g5 : h'[5 + 1]? = some (plC (oS O))) => c_S_turn (l := l) (g := g) (d := d) g4 g5 (q := q) (by omega) sk.hd
    generalize turnS (oS O) q = S' at ct
    refine zw_iload_n dF_rotates_0 rfl ?_
    refine zw_iconst (v := 1) dF_rotates_1 (by decide) ?_
    refine zw_icmp_lt 10 dF_rotates_2 (by decide) (fun c_2 => ?_) (fun c_2 => ?_)
    · exact absurd ((i_ltn (c := 1) (by decide) _).mp c_2) (by rw [nI_toInt (by omega)]; omega)
    · refine zw_iload_n dF_rotates_5 rfl ?_
      refine zw_iconst (v := 4) dF_rotates_6 (by decide) ?_
      refine zw_icmp_lt 12 dF_rotates_7 (by decide) (fun c_7 => ?_) (fun c_7 => ?_)
      · refine zw_aload_n dF_rotates_12 rfl ?_
        refine zw_get dF_rotates_13 zf_F_45 (by first | exact h1 | exact h4 | exact h8.choose_spec.choose_spec.2.1) rfl ?_
        refine zw_aload_n dF_rotates_16 rfl ?_
        refine zw_get dF_rotates_17 zf_F_28 (by first | exact h1 | exact h4 | exact h8.choose_spec.choose_spec.2.1) rfl ?_
        refine zx_V1V dF_rotates_20 zm_H_remember zk_F_84 (by first | exact h1 | exact h4 | exact h8.choose_spec.choose_spec.2.1) rfl (c_H_remember a ok.2.2.2.2.1) zRR (Nat.le_of_ble_eq_true rfl) ⟨Nat.le_of_ble_eq_true rfl, Nat.le_of_ble_eq_true rfl⟩ ?_
        intro h' ⟨ca, hf, hl⟩
        obtain ⟨g1, g2, g3, g4, g5, g6, g7, g8, g9⟩ := id ca; have g3 : h'[4]? = some (gC (oF O)) := g3; have g4 : h'[5]? = some (sitC 5 (oS O)) := g4; have g5 : h'[5 + 1]? = some (plC (oS O)) := g5
        have gx : (hs2 5 S' h')[0]? = some xC := hs2_ne (by decide) (by decide) g1
        have gy : (hs2 5 S' h')[5]? = some (sitC 5 S') := hs2_k g4
        refine zw_aload_n dF_rotates_23 rfl ?_
        refine zw_get dF_rotates_24 zf_F_28 (by first | exact g1 | exact g4 | exact gx | exact gy) rfl ?_
        refine zw_iload_n dF_rotates_27 rfl ?_
        refine zc_V1V dF_rotates_28 zm_S_turn zk_F_121 (by first | exact g1 | exact g4 | exact gx | exact gy) rfl (ct _ g4 g5) ?_ zRR (Nat.le_of_ble_eq_true rfl) ⟨Nat.le_of_ble_eq_true rfl, Nat.le_of_ble_eq_true rfl⟩
        refine zw_aload_n dF_rotates_31 rfl ?_
        refine zw_get dF_rotates_32 zf_F_28 (by first | exact g1 | exact g4 | exact gx | exact gy) rfl ?_
        refine zw_get dF_rotates_35 zf_F_115 (by first | exact g1 | exact g4 | exact gx | exact gy) rfl ?_
        exact zw_iret dF_rotates_38 rfl rfl (by rw [hs2_len, hl]; rfl) ⟨rfl, frQ ca hf hl rfl⟩
      · exact absurd (nI_lt (b := 4) (by omega) (by decide)) c_7
def rCar (O : Om) (x y : Int32) : Int32 := match cel (oF O) x with
  | none => -1
  | some c => if fre (oF O) (oS O) c = true then (match btw y 0 3 with | none => -1 | some _ => nI (many (carP (oF O) (oS O)))) else -1
def nCar (O : Om) (x y : Int32) : Om := match cel (oF O) x with
  | none => O
  | some c => if fre (oF O) (oS O) c = true then (match btw y 0 3 with | none => O | some hd => nSt O (carS (oF O) (oS O) c hd)) else O
theorem c_F_carries (a : CX h O) (ok : oOK' O) {x y : Int32} : Run l g mF_carries (d + 4) 0 0 [.ref 0, .int x, .int y] h (PIh (rCar O x y) (CQ h (nCar O x y))) := by
  obtain ⟨h1, h2, h3, h4, h5, h6, h7, h8, h9⟩ := id a
  have sk := ok.2.1
  have hF := ok.1
  have hn := fN_le hF
  have ch := c_G_has (l := l) (g := g) (d := d + 2) hF h3 (x := x)
  refine run_of (by decide) (Nat.le_of_ble_eq_true rfl) ?_
  cases hc : cel (oF O) x with
  | none =>
    rw [hc] at ch
    rw [show rCar O x y = -1 from by unfold rCar; rw [hc], show nCar O x y = O from by unfold nCar; rw [hc]]
    refine zw_aload_n dF_carries_0 rfl ?_
    refine zw_get dF_carries_1 zf_F_19 (by first | exact h1 | exact h3) rfl ?_
    refine zw_iload_n dF_carries_4 rfl ?_
    refine zc_V1I dF_carries_5 zm_G_has zk_F_71 (by first | exact h1 | exact h3) rfl ch ?_ zRR (Nat.le_of_ble_eq_true rfl) ⟨Nat.le_of_ble_eq_true rfl, Nat.le_of_ble_eq_true rfl⟩
    refine zw_if_eq 34 dF_carries_8 (by decide) (fun c_8 => ?_) (fun c_8 => ?_)
    · refine zw_iconst (v := (-1)) dF_carries_34 (by decide) ?_
      exact zw_iret dF_carries_35 rfl rfl rfl ⟨rfl, CQ.rf a⟩
    · exact absurd rfl c_8
  | some c =>
    obtain ⟨hcn, rfl⟩ := (cel_some hF).mp hc
    rw [hc] at ch
    by_cases hfr : fre (oF O) (oS O) c = true
    · cases hw : btw y 0 3 with
      | none =>
        have hb := btw_none.mp hw
        rw [show rCar O (nI c) y = -1 from by unfold rCar; rw [hc]; dsimp only; rw [if_pos hfr, hw], show nCar O (nI c) y = O from by unfold nCar; rw [hc]; dsimp only; rw [if_pos hfr, hw]]
        refine zw_aload_n dF_carries_0 rfl ?_
        refine zw_get dF_carries_1 zf_F_19 (by first | exact h1 | exact h3 | exact h4) rfl ?_
        refine zw_iload_n dF_carries_4 rfl ?_
        refine zc_V1I dF_carries_5 zm_G_has zk_F_71 (by first | exact h1 | exact h3 | exact h4) rfl ch ?_ zRR (Nat.le_of_ble_eq_true rfl) ⟨Nat.le_of_ble_eq_true rfl, Nat.le_of_ble_eq_true rfl⟩
        refine zw_if_eq 34 dF_carries_8 (by decide) (fun c_8 => ?_) (fun c_8 => ?_)
        · exact absurd c_8 (show ¬ (1 : Int32) = 0 by decide)
        · refine zw_aload_n dF_carries_11 rfl ?_
          refine zw_get dF_carries_12 zf_F_28 (by first | exact h1 | exact h3 | exact h4) rfl ?_
          refine zc_V0L dF_carries_15 zm_S_freeCells zk_F_128 (by first | exact h1 | exact h3 | exact h4) rfl (c_S_freeCells hF h3 h4) ?_ zRR (Nat.le_of_ble_eq_true rfl) ⟨Nat.le_of_ble_eq_true rfl, Nat.le_of_ble_eq_true rfl⟩
          refine zw_iload_n dF_carries_18 rfl ?_
          refine zc_S2I dF_carries_19 zm_F_holds zk_F_101 (c_F_holds (a := some c) (oOK_some (by omega))) ?_ zRR (Nat.le_of_ble_eq_true rfl) ⟨Nat.le_of_ble_eq_true rfl, Nat.le_of_ble_eq_true rfl⟩
          refine zw_if_eq 34 dF_carries_22 (by decide) (fun c_22 => ?_) (fun c_22 => ?_)
          · exact absurd (hb0 c_22) (by simp [holdsB, hfr])
          · refine zw_iload_n dF_carries_25 rfl ?_
            refine zw_if_lt 34 dF_carries_26 (by decide) (fun c_26 => ?_) (fun c_26 => ?_)
            · refine zw_iconst (v := (-1)) dF_carries_34 (by decide) ?_
              exact zw_iret dF_carries_35 rfl rfl rfl ⟨rfl, CQ.rf a⟩
            · refine zw_iload_n dF_carries_29 rfl ?_
              refine zw_iconst (v := 4) dF_carries_30 (by decide) ?_
              refine zw_icmp_lt 36 dF_carries_31 (by decide) (fun c_31 => ?_) (fun c_31 => ?_)
              · exact absurd ((i_ltn (c := 4) (by decide) y).mp c_31) (by have : ¬ y.toInt < 0 := fun q => c_26 ((i_lt0 y).mpr q); omega)
              · refine zw_iconst (v := (-1)) dF_carries_34 (by decide) ?_
                exact zw_iret dF_carries_35 rfl rfl rfl ⟨rfl, CQ.rf a⟩
      | some hd =>
        obtain ⟨-, hd3, rfl⟩ := (btw_some (by decide)).mp hw
        rw [show rCar O (nI c) (nI hd) = nI (many (carP (oF O) (oS O))) from by unfold rCar; rw [hc]; dsimp only; rw [if_pos hfr, hw], show nCar O (nI c) (nI hd) = nSt O (carS (oF O) (oS O) c hd) from by unfold nCar; rw [hc]; dsimp only; rw [if_pos hfr, hw]]
        refine zw_aload_n dF_carries_0 rfl ?_
        refine zw_get dF_carries_1 zf_F_19 (by first | exact h1 | exact h3 | exact h4 | exact h8.choose_spec.choose_spec.2.1) rfl ?_
        refine zw_iload_n dF_carries_4 rfl ?_
        refine zc_V1I dF_carries_5 zm_G_has zk_F_71 (by first | exact h1 | exact h3 | exact h4 | exact h8.choose_spec.choose_spec.2.1) rfl ch ?_ zRR (Nat.le_of_ble_eq_true rfl) ⟨Nat.le_of_ble_eq_true rfl, Nat.le_of_ble_eq_true rfl⟩
        refine zw_if_eq 34 dF_carries_8 (by decide) (fun c_8 => ?_) (fun c_8 => ?_)
        · exact absurd c_8 (show ¬ (1 : Int32) = 0 by decide)
        · refine zw_aload_n dF_carries_11 rfl ?_
          refine zw_get dF_carries_12 zf_F_28 (by first | exact h1 | exact h3 | exact h4 | exact h8.choose_spec.choose_spec.2.1) rfl ?_
          refine zc_V0L dF_carries_15 zm_S_freeCells zk_F_128 (by first | exact h1 | exact h3 | exact h4 | exact h8.choose_spec.choose_spec.2.1) rfl (c_S_freeCells hF h3 h4) ?_ zRR (Nat.le_of_ble_eq_true rfl) ⟨Nat.le_of_ble_eq_true rfl, Nat.le_of_ble_eq_true rfl⟩
          refine zw_iload_n dF_carries_18 rfl ?_
          refine zc_S2I dF_carries_19 zm_F_holds zk_F_101 (c_F_holds (a := some c) (oOK_some (by omega))) ?_ zRR (Nat.le_of_ble_eq_true rfl) ⟨Nat.le_of_ble_eq_true rfl, Nat.le_of_ble_eq_true rfl⟩
          refine zw_if_eq 34 dF_carries_22 (by decide) (fun c_22 => ?_) (fun c_22 => ?_)
          · exact absurd (hb0 c_22) (by simp [holdsB, hfr])
          · refine zw_iload_n dF_carries_25 rfl ?_
            refine zw_if_lt 34 dF_carries_26 (by decide) (fun c_26 => ?_) (fun c_26 => ?_)
            · exact absurd c_26 (nI_pos (by omega))
            · refine zw_iload_n dF_carries_29 rfl ?_
              refine zw_iconst (v := 4) dF_carries_30 (by decide) ?_
              refine zw_icmp_lt 36 dF_carries_31 (by decide) (fun c_31 => ?_) (fun c_31 => ?_)
              · refine zw_aload_n dF_carries_36 rfl ?_
                refine zw_get dF_carries_37 zf_F_45 (by first | exact h1 | exact h3 | exact h4 | exact h8.choose_spec.choose_spec.2.1) rfl ?_
                refine zw_aload_n dF_carries_40 rfl ?_
                refine zw_get dF_carries_41 zf_F_28 (by first | exact h1 | exact h3 | exact h4 | exact h8.choose_spec.choose_spec.2.1) rfl ?_
                refine zx_V1V dF_carries_44 zm_H_remember zk_F_84 (by first | exact h1 | exact h3 | exact h4 | exact h8.choose_spec.choose_spec.2.1) rfl (c_H_remember a ok.2.2.2.2.1) zRR (Nat.le_of_ble_eq_true rfl) ⟨Nat.le_of_ble_eq_true rfl, Nat.le_of_ble_eq_true rfl⟩ ?_
                intro h' ⟨ca, hf, hl⟩
                obtain ⟨g1, g2, g3, g4, g5, g6, g7, g8, g9⟩ := id ca; have g3 : h'[4]? = some (gC (oF O)) := g3; have g4 : h'[5]? = some (sitC 5 (oS O)) := g4; have g5 : h'[5 + 1]? = some (plC (oS O)) := g5
                refine zw_aload_n dF_carries_47 rfl ?_
                refine zw_get dF_carries_48 zf_F_28 (by first | exact g1 | exact g4) rfl ?_
                refine zw_iload_n dF_carries_51 rfl ?_
                refine zw_iload_n dF_carries_52 rfl ?_
                refine zc_V2I dF_carries_53 zm_S_carryTo zk_F_132 (by first | exact g1 | exact g4) rfl (c_S_carryTo (S := oS O) (F := oF O) ⟨by decide, by decide⟩ hF g3 g4 g5) ?_ zRR (Nat.le_of_ble_eq_true rfl) ⟨Nat.le_of_ble_eq_true rfl, Nat.le_of_ble_eq_true rfl⟩
                exact zw_iret dF_carries_56 rfl rfl (by rw [hs2_len, hl]; rfl) ⟨rfl, frQ ca hf hl rfl⟩
              · exact absurd (nI_lt (b := 4) (by omega) (by decide)) c_31
    · rw [show rCar O (nI c) y = -1 from by unfold rCar; rw [hc]; dsimp only; rw [if_neg hfr], show nCar O (nI c) y = O from by unfold nCar; rw [hc]; dsimp only; rw [if_neg hfr]]
      refine zw_aload_n dF_carries_0 rfl ?_
      refine zw_get dF_carries_1 zf_F_19 (by first | exact h1 | exact h3 | exact h4) rfl ?_
      refine zw_iload_n dF_carries_4 rfl ?_
      refine zc_V1I dF_carries_5 zm_G_has zk_F_71 (by first | exact h1 | exact h3 | exact h4) rfl ch ?_ zRR (Nat.le_of_ble_eq_true rfl) ⟨Nat.le_of_ble_eq_true rfl, Nat.le_of_ble_eq_true rfl⟩
      refine zw_if_eq 34 dF_carries_8 (by decide) (fun c_8 => ?_) (fun c_8 => ?_)
      · exact absurd c_8 (show ¬ (1 : Int32) = 0 by decide)
      · refine zw_aload_n dF_carries_11 rfl ?_
        refine zw_get dF_carries_12 zf_F_28 (by first | exact h1 | exact h3 | exact h4) rfl ?_
        refine zc_V0L dF_carries_15 zm_S_freeCells zk_F_128 (by first | exact h1 | exact h3 | exact h4) rfl (c_S_freeCells hF h3 h4) ?_ zRR (Nat.le_of_ble_eq_true rfl) ⟨Nat.le_of_ble_eq_true rfl, Nat.le_of_ble_eq_true rfl⟩
        refine zw_iload_n dF_carries_18 rfl ?_
        refine zc_S2I dF_carries_19 zm_F_holds zk_F_101 (c_F_holds (a := some c) (oOK_some (by omega))) ?_ zRR (Nat.le_of_ble_eq_true rfl) ⟨Nat.le_of_ble_eq_true rfl, Nat.le_of_ble_eq_true rfl⟩
        refine zw_if_eq 34 dF_carries_22 (by decide) (fun c_22 => ?_) (fun c_22 => ?_)
        · refine zw_iconst (v := (-1)) dF_carries_34 (by decide) ?_
          exact zw_iret dF_carries_35 rfl rfl rfl ⟨rfl, CQ.rf a⟩
        · exact absurd (hb1 c_22) (by simpa [holdsB] using hfr)
def rPow (O : Om) (x y : Int32) : Int32 := match btw x 1 99, btw y 1 20 with
  | some b, some r => if b = sBrim (oS O) ∧ r = sRate (oS O) then -2 else nI (min (sCh (oS O)) b)
  | _, _ => -1
def nPowX (O : Om) (x y : Int32) : Om := match btw x 1 99, btw y 1 20 with
  | some b, some r => if b = sBrim (oS O) ∧ r = sRate (oS O) then O else nPow O b r
  | _, _ => O
theorem c_F_powers (a : CX h O) (ok : oOK' O) {x y : Int32} : Run l g mF_powers (d + 3) 0 0 [.ref 0, .int x, .int y] h (PIh (rPow O x y) (CQ h (nPowX O x y))) := by
  obtain ⟨h1, h2, h3, h4, h5, h6, h7, h8, h9⟩ := id a
  have sk := ok.2.1
  have hbr := sk.brim
  have hch := sk.ch
  have hrt := sk.rate
  refine run_of (by decide) (Nat.le_of_ble_eq_true rfl) ?_
  cases hw : btw x 1 99 with
  | none =>
    have hb := btw_none.mp hw
    rw [show rPow O x y = -1 from by unfold rPow; rw [hw], show nPowX O x y = O from by unfold nPowX; rw [hw]]
    refine zw_iload_n dF_powers_0 rfl ?_
    refine zw_iconst (v := 1) dF_powers_1 (by decide) ?_
    refine zw_icmp_lt 22 dF_powers_2 (by decide) (fun c_2 => ?_) (fun c_2 => ?_)
    · refine zw_iconst (v := (-1)) dF_powers_22 (by decide) ?_
      exact zw_iret dF_powers_23 rfl rfl rfl ⟨rfl, CQ.rf a⟩
    · refine zw_iload_n dF_powers_5 rfl ?_
      refine zw_bipush (v := 99) dF_powers_6 (by decide) ?_
      refine zw_icmp_gt 22 dF_powers_8 (by decide) (fun c_8 => ?_) (fun c_8 => ?_)
      · refine zw_iconst (v := (-1)) dF_powers_22 (by decide) ?_
        exact zw_iret dF_powers_23 rfl rfl rfl ⟨rfl, CQ.rf a⟩
      · exact absurd hb (by have h1' : ¬ x.toInt < 1 := fun q => c_2 ((i_ltn (c := 1) (by decide) x).mpr q); have h2' : ¬ (99 : Int) < x.toInt := fun q => c_8 ((i_nlt (c := 99) (by decide) x).mpr q); omega)
  | some b =>
    obtain ⟨hb1', hb2', rfl⟩ := (btw_some (by decide)).mp hw
    cases hv : btw y 1 20 with
    | none =>
      have hb := btw_none.mp hv
      rw [show rPow O (nI b) y = -1 from by unfold rPow; rw [hw, hv], show nPowX O (nI b) y = O from by unfold nPowX; rw [hw, hv]]
      refine zw_iload_n dF_powers_0 rfl ?_
      refine zw_iconst (v := 1) dF_powers_1 (by decide) ?_
      refine zw_icmp_lt 22 dF_powers_2 (by decide) (fun c_2 => ?_) (fun c_2 => ?_)
      · exact absurd ((i_ltn (c := 1) (by decide) _).mp c_2) (by rw [nI_toInt (by omega)]; omega)
      · refine zw_iload_n dF_powers_5 rfl ?_
        refine zw_bipush (v := 99) dF_powers_6 (by decide) ?_
        refine zw_icmp_gt 22 dF_powers_8 (by decide) (fun c_8 => ?_) (fun c_8 => ?_)
        · exact absurd ((i_nlt (c := 99) (by decide) _).mp c_8) (by rw [nI_toInt (by omega)]; omega)
        · refine zw_iload_n dF_powers_11 rfl ?_
          refine zw_iconst (v := 1) dF_powers_12 (by decide) ?_
          refine zw_icmp_lt 22 dF_powers_13 (by decide) (fun c_13 => ?_) (fun c_13 => ?_)
          · refine zw_iconst (v := (-1)) dF_powers_22 (by decide) ?_
            exact zw_iret dF_powers_23 rfl rfl rfl ⟨rfl, CQ.rf a⟩
          · refine zw_iload_n dF_powers_16 rfl ?_
            refine zw_bipush (v := 20) dF_powers_17 (by decide) ?_
            refine zw_icmp_le 24 dF_powers_19 (by decide) (fun c_19 => ?_) (fun c_19 => ?_)
            · exact absurd ((i_len (c := 20) (by decide) y).mp c_19) (by have : ¬ y.toInt < 1 := fun q => c_13 ((i_ltn (c := 1) (by decide) y).mpr q); omega)
            · refine zw_iconst (v := (-1)) dF_powers_22 (by decide) ?_
              exact zw_iret dF_powers_23 rfl rfl rfl ⟨rfl, CQ.rf a⟩
    | some r =>
      obtain ⟨hr1', hr2', rfl⟩ := (btw_some (by decide)).mp hv
      have emin : (if nI b < nI (sCh (oS O)) then nI b else nI (sCh (oS O))) = nI (min (sCh (oS O)) b) := by
        rcases Nat.lt_or_ge b (sCh (oS O)) with q | q
        · rw [if_pos (nI_lt q (by omega)), show min (sCh (oS O)) b = b by omega]
        · rw [if_neg (nI_nlt q (by omega)), show min (sCh (oS O)) b = sCh (oS O) by omega]
      by_cases he : b = sBrim (oS O) ∧ r = sRate (oS O)
      · rw [show rPow O (nI b) (nI r) = -2 from by unfold rPow; rw [hw, hv]; dsimp only; rw [if_pos he], show nPowX O (nI b) (nI r) = O from by unfold nPowX; rw [hw, hv]; dsimp only; rw [if_pos he]]
        refine zw_iload_n dF_powers_0 rfl ?_
        refine zw_iconst (v := 1) dF_powers_1 (by decide) ?_
        refine zw_icmp_lt 22 dF_powers_2 (by decide) (fun c_2 => ?_) (fun c_2 => ?_)
        · exact absurd ((i_ltn (c := 1) (by decide) _).mp c_2) (by rw [nI_toInt (by omega)]; omega)
        · refine zw_iload_n dF_powers_5 rfl ?_
          refine zw_bipush (v := 99) dF_powers_6 (by decide) ?_
          refine zw_icmp_gt 22 dF_powers_8 (by decide) (fun c_8 => ?_) (fun c_8 => ?_)
          · exact absurd ((i_nlt (c := 99) (by decide) _).mp c_8) (by rw [nI_toInt (by omega)]; omega)
          · refine zw_iload_n dF_powers_11 rfl ?_
            refine zw_iconst (v := 1) dF_powers_12 (by decide) ?_
            refine zw_icmp_lt 22 dF_powers_13 (by decide) (fun c_13 => ?_) (fun c_13 => ?_)
            · exact absurd ((i_ltn (c := 1) (by decide) _).mp c_13) (by rw [nI_toInt (by omega)]; omega)
            · refine zw_iload_n dF_powers_16 rfl ?_
              refine zw_bipush (v := 20) dF_powers_17 (by decide) ?_
              refine zw_icmp_le 24 dF_powers_19 (by decide) (fun c_19 => ?_) (fun c_19 => ?_)
              · refine zw_iload_n dF_powers_24 rfl ?_
                refine zw_aload_n dF_powers_25 rfl ?_
                refine zw_get dF_powers_26 zf_F_28 (by first | exact h1 | exact h4) rfl ?_
                refine zw_get dF_powers_29 zf_F_78 (by first | exact h1 | exact h4) rfl ?_
                refine zw_icmp_ne 49 dF_powers_32 (by decide) (fun c_32 => ?_) (fun c_32 => ?_)
                · exact absurd (by rw [he.1]) c_32
                · refine zw_iload_n dF_powers_35 rfl ?_
                  refine zw_aload_n dF_powers_36 rfl ?_
                  refine zw_get dF_powers_37 zf_F_28 (by first | exact h1 | exact h4) rfl ?_
                  refine zw_get dF_powers_40 zf_F_81 (by first | exact h1 | exact h4) rfl ?_
                  refine zw_icmp_ne 49 dF_powers_43 (by decide) (fun c_43 => ?_) (fun c_43 => ?_)
                  · exact absurd (by rw [he.2]) c_43
                  · refine zw_bipush (v := (-2)) dF_powers_46 (by decide) ?_
                    exact zw_iret dF_powers_48 rfl rfl rfl ⟨rfl, CQ.rf a⟩
              · exact absurd (nI_le (b := 20) hr2' (by decide)) c_19
      · rw [show rPow O (nI b) (nI r) = nI (min (sCh (oS O)) b) from by unfold rPow; rw [hw, hv]; dsimp only; rw [if_neg he], show nPowX O (nI b) (nI r) = nPow O b r from by unfold nPowX; rw [hw, hv]; dsimp only; rw [if_neg he]]
        have E : WW l g mF_powers (zrm (d + 3) 0 0) (fun _ => True) (zQQ g (PIh (nI (min (sCh (oS O)) b)) (CQ h (nPow O b r))) (h.length + 0) 0 0) 49 [(0, some (.ref 0)), (1, some (.int (nI b))), (2, some (.int (nI r)))] [] h 0 0 := by
          unfold nPow
          generalize min (sCh (oS O)) b = nc at emin
          generalize hS1 : setCh (setPow (oS O) b r) nc = S1
          refine zw_aload_n dF_powers_49 rfl ?_
          refine zw_get dF_powers_50 zf_F_45 (by first | exact h1 | exact h4 | exact h8.choose_spec.choose_spec.2.1) rfl ?_
          refine zw_aload_n dF_powers_53 rfl ?_
          refine zw_get dF_powers_54 zf_F_28 (by first | exact h1 | exact h4 | exact h8.choose_spec.choose_spec.2.1) rfl ?_
          refine zx_V1V dF_powers_57 zm_H_remember zk_F_84 (by first | exact h1 | exact h4 | exact h8.choose_spec.choose_spec.2.1) rfl (c_H_remember a ok.2.2.2.2.1) zRR (Nat.le_of_ble_eq_true rfl) ⟨Nat.le_of_ble_eq_true rfl, Nat.le_of_ble_eq_true rfl⟩ ?_
          intro h' ⟨ca, hf, hl⟩
          obtain ⟨g1, g2, g3, g4, g5, g6, g7, g8, g9⟩ := id ca; have g3 : h'[4]? = some (gC (oF O)) := g3; have g4 : h'[5]? = some (sitC 5 (oS O)) := g4; have g5 : h'[5 + 1]? = some (plC (oS O)) := g5
          refine zw_aload_n dF_powers_60 rfl ?_
          refine zw_get dF_powers_61 zf_F_28 (by first | exact g1 | exact g4 | exact zg_ne (by decide) g1 | exact zg_eq g4) rfl ?_
          refine zw_iload_n dF_powers_64 rfl ?_
          refine zw_puti dF_powers_65 zf_F_78 (by first | exact g1 | exact g4 | exact zg_ne (by decide) g1 | exact zg_eq g4) (Nat.le_of_ble_eq_true rfl) ?_
          refine zw_aload_n dF_powers_68 rfl ?_
          refine zw_get dF_powers_69 zf_F_28 (by first | exact g1 | exact g4 | exact zg_ne (by decide) g1 | exact zg_eq g4) rfl ?_
          refine zw_iload_n dF_powers_72 rfl ?_
          refine zw_puti dF_powers_73 zf_F_81 (by first | exact g1 | exact g4 | exact zg_ne (by decide) g1 | exact zg_eq g4) (Nat.le_of_ble_eq_true rfl) ?_
          refine zw_h (zs_set _ _ _ _) ?_
          refine zw_aload_n dF_powers_76 rfl ?_
          refine zw_get dF_powers_77 zf_F_28 (by first | exact g1 | exact g4 | exact zg_ne (by decide) g1 | exact zg_eq g4) rfl ?_
          refine zw_aload_n dF_powers_80 rfl ?_
          refine zw_get dF_powers_81 zf_F_28 (by first | exact g1 | exact g4 | exact zg_ne (by decide) g1 | exact zg_eq g4) rfl ?_
          refine zw_get dF_powers_84 zf_F_88 (by first | exact g1 | exact g4 | exact zg_ne (by decide) g1 | exact zg_eq g4) rfl ?_
          refine zw_iload_n dF_powers_87 rfl ?_
          refine zw_mmin dF_powers_88 zmm_F_91 ⟨Nat.succ_le_succ (Nat.zero_le _), by show 38 ≤ 38 * _; omega⟩ (Nat.le_of_ble_eq_true rfl) ⟨Nat.le_of_ble_eq_true rfl, Nat.le_of_ble_eq_true rfl⟩ ?_
          rw [emin]
          refine zw_puti dF_powers_91 zf_F_88 (by first | exact g1 | exact g4 | exact zg_ne (by decide) g1 | exact zg_eq g4) (Nat.le_of_ble_eq_true rfl) ?_
          refine zw_h (zs_set _ _ _ _) ?_
          refine zw_h (h2 := hs2 5 S1 h') (by rw [← hS1]; exact hs2_sit (S := oS O) rfl rfl g5) ?_
          refine zw_aload_n dF_powers_94 rfl ?_
          refine zw_get dF_powers_95 zf_F_28 (hs2_ne (by decide) (by decide) g1) rfl ?_
          refine zw_get dF_powers_98 zf_F_88 (hs2_k g4) rfl ?_
          exact zw_iret dF_powers_101 rfl rfl (by rw [hs2_len, hl]; rfl) ⟨by rw [← hS1]; rfl, frQ ca hf hl rfl⟩
        refine zw_iload_n dF_powers_0 rfl ?_
        refine zw_iconst (v := 1) dF_powers_1 (by decide) ?_
        refine zw_icmp_lt 22 dF_powers_2 (by decide) (fun c_2 => ?_) (fun c_2 => ?_)
        · exact absurd ((i_ltn (c := 1) (by decide) _).mp c_2) (by rw [nI_toInt (by omega)]; omega)
        · refine zw_iload_n dF_powers_5 rfl ?_
          refine zw_bipush (v := 99) dF_powers_6 (by decide) ?_
          refine zw_icmp_gt 22 dF_powers_8 (by decide) (fun c_8 => ?_) (fun c_8 => ?_)
          · exact absurd ((i_nlt (c := 99) (by decide) _).mp c_8) (by rw [nI_toInt (by omega)]; omega)
          · refine zw_iload_n dF_powers_11 rfl ?_
            refine zw_iconst (v := 1) dF_powers_12 (by decide) ?_
            refine zw_icmp_lt 22 dF_powers_13 (by decide) (fun c_13 => ?_) (fun c_13 => ?_)
            · exact absurd ((i_ltn (c := 1) (by decide) _).mp c_13) (by rw [nI_toInt (by omega)]; omega)
            · refine zw_iload_n dF_powers_16 rfl ?_
              refine zw_bipush (v := 20) dF_powers_17 (by decide) ?_
              refine zw_icmp_le 24 dF_powers_19 (by decide) (fun c_19 => ?_) (fun c_19 => ?_)
              · refine zw_iload_n dF_powers_24 rfl ?_
                refine zw_aload_n dF_powers_25 rfl ?_
                refine zw_get dF_powers_26 zf_F_28 (by first | exact h1 | exact h4) rfl ?_
                refine zw_get dF_powers_29 zf_F_78 (by first | exact h1 | exact h4) rfl ?_
                refine zw_icmp_ne 49 dF_powers_32 (by decide) (fun c_32 => ?_) (fun c_32 => ?_)
                · exact zw_lk E ⟨rfl, rfl, rfl, trivial⟩
                · refine zw_iload_n dF_powers_35 rfl ?_
                  refine zw_aload_n dF_powers_36 rfl ?_
                  refine zw_get dF_powers_37 zf_F_28 (by first | exact h1 | exact h4) rfl ?_
                  refine zw_get dF_powers_40 zf_F_81 (by first | exact h1 | exact h4) rfl ?_
                  refine zw_icmp_ne 49 dF_powers_43 (by decide) (fun c_43 => ?_) (fun c_43 => ?_)
                  · exact zw_lk E ⟨rfl, rfl, rfl, trivial⟩
                  · exact absurd ⟨(nI_eq (by omega) (by omega)).mp (Classical.byContradiction fun q => q c_32), (nI_eq (by omega) (by omega)).mp (Classical.byContradiction fun q => q c_43)⟩ he
              · exact absurd (nI_le (b := 20) hr2' (by decide)) c_19
def rMov (O : Om) (x : Int32) : Int32 := match cel (oF O) x with
  | none => -1
  | some c => if fK (oF O) c = 4 then (if c = sAt (oS O) then -2 else if sShut (oS O) c = true then 1 else 0) else -1
def nMovX (O : Om) (x : Int32) : Om := match cel (oF O) x with
  | none => O
  | some c => if fK (oF O) c = 4 then (if c = sAt (oS O) then O else nMov O c) else O
theorem c_F_moves (a : CX h O) (ok : oOK' O) {x : Int32} : Run l g mF_moves (d + 3) 0 0 [.ref 0, .int x] h (PIh (rMov O x) (CQ h (nMovX O x))) := by
  obtain ⟨h1, h2, h3, h4, h5, h6, h7, h8, h9⟩ := id a
  have sk := ok.2.1
  have hat := sk.at
  have hF := ok.1
  have hn := fN_le hF
  have ch := c_G_has (l := l) (g := g) (d := d + 1) hF h3 (x := x)
  refine run_of (by decide) (Nat.le_of_ble_eq_true rfl) ?_
  cases hc : cel (oF O) x with
  | none =>
    rw [hc] at ch
    rw [show rMov O x = -1 from by unfold rMov; rw [hc], show nMovX O x = O from by unfold nMovX; rw [hc]]
    refine zw_aload_n dF_moves_0 rfl ?_
    refine zw_get dF_moves_1 zf_F_19 (by first | exact h1 | exact h3) rfl ?_
    refine zw_iload_n dF_moves_4 rfl ?_
    refine zc_V1I dF_moves_5 zm_G_has zk_F_71 (by first | exact h1 | exact h3) rfl ch ?_ zRR (Nat.le_of_ble_eq_true rfl) ⟨Nat.le_of_ble_eq_true rfl, Nat.le_of_ble_eq_true rfl⟩
    refine zw_if_eq 25 dF_moves_8 (by decide) (fun c_8 => ?_) (fun c_8 => ?_)
    · refine zw_iconst (v := (-1)) dF_moves_25 (by decide) ?_
      exact zw_iret dF_moves_26 rfl rfl rfl ⟨rfl, CQ.rf a⟩
    · exact absurd rfl c_8
  | some c =>
    obtain ⟨hcn, rfl⟩ := (cel_some hF).mp hc
    have hcO : oOK (some c) := oOK_some (by omega)
    rw [hc] at ch
    by_cases hd : fK (oF O) c = 4
    · have hdr : holdsB (gK (oF O) 4) (some c) = true := by simp [holdsB, gK_at hcn, hd]
      by_cases he : c = sAt (oS O)
      · rw [show rMov O (nI c) = -2 from by unfold rMov; rw [hc]; dsimp only; rw [if_pos hd, if_pos he], show nMovX O (nI c) = O from by unfold nMovX; rw [hc]; dsimp only; rw [if_pos hd, if_pos he]]
        refine zw_aload_n dF_moves_0 rfl ?_
        refine zw_get dF_moves_1 zf_F_19 (by first | exact h1 | exact h3 | exact h4) rfl ?_
        refine zw_iload_n dF_moves_4 rfl ?_
        refine zc_V1I dF_moves_5 zm_G_has zk_F_71 (by first | exact h1 | exact h3 | exact h4) rfl ch ?_ zRR (Nat.le_of_ble_eq_true rfl) ⟨Nat.le_of_ble_eq_true rfl, Nat.le_of_ble_eq_true rfl⟩
        refine zw_if_eq 25 dF_moves_8 (by decide) (fun c_8 => ?_) (fun c_8 => ?_)
        · exact absurd c_8 (show ¬ (1 : Int32) = 0 by decide)
        · refine zw_aload_n dF_moves_11 rfl ?_
          refine zw_get dF_moves_12 zf_F_19 (by first | exact h1 | exact h3 | exact h4) rfl ?_
          refine zw_get dF_moves_15 zf_F_97 (by first | exact h1 | exact h3 | exact h4) rfl ?_
          refine zw_iload_n dF_moves_18 rfl ?_
          refine zc_S2I dF_moves_19 zm_F_holds zk_F_101 (c_F_holds hcO) ?_ zRR (Nat.le_of_ble_eq_true rfl) ⟨Nat.le_of_ble_eq_true rfl, Nat.le_of_ble_eq_true rfl⟩
          refine zw_if_ne 27 dF_moves_22 (by decide) (fun c_22 => ?_) (fun c_22 => ?_)
          · refine zw_iload_n dF_moves_27 rfl ?_
            refine zw_aload_n dF_moves_28 rfl ?_
            refine zw_get dF_moves_29 zf_F_28 (by first | exact h1 | exact h3 | exact h4) rfl ?_
            refine zw_get dF_moves_32 zf_F_105 (by first | exact h1 | exact h3 | exact h4) rfl ?_
            refine zw_icmp_ne 41 dF_moves_35 (by decide) (fun c_35 => ?_) (fun c_35 => ?_)
            · exact absurd (by rw [he]) c_35
            · refine zw_bipush (v := (-2)) dF_moves_38 (by decide) ?_
              exact zw_iret dF_moves_40 rfl rfl rfl ⟨rfl, CQ.rf a⟩
          · exact absurd hdr (by rw [hb0 c_22]; decide)
      · rw [show rMov O (nI c) = if sShut (oS O) c = true then 1 else 0 from by unfold rMov; rw [hc]; dsimp only; rw [if_pos hd, if_neg he], show nMovX O (nI c) = nMov O c from by unfold nMovX; rw [hc]; dsimp only; rw [if_pos hd, if_neg he]]
        have hx : (fun i => sShut (oS O) i ^^ oneO (some c) i) c = !(sShut (oS O) c) := by simp [oneO]
        have mx := m_xor (sShut (oS O)) (oneO (some c))
        unfold nMov
        generalize (fun i => sShut (oS O) i ^^ oneO (some c) i) = sh at mx hx
        refine zw_aload_n dF_moves_0 rfl ?_
        refine zw_get dF_moves_1 zf_F_19 (by first | exact h1 | exact h3 | exact h4 | exact h8.choose_spec.choose_spec.2.1) rfl ?_
        refine zw_iload_n dF_moves_4 rfl ?_
        refine zc_V1I dF_moves_5 zm_G_has zk_F_71 (by first | exact h1 | exact h3 | exact h4 | exact h8.choose_spec.choose_spec.2.1) rfl ch ?_ zRR (Nat.le_of_ble_eq_true rfl) ⟨Nat.le_of_ble_eq_true rfl, Nat.le_of_ble_eq_true rfl⟩
        refine zw_if_eq 25 dF_moves_8 (by decide) (fun c_8 => ?_) (fun c_8 => ?_)
        · exact absurd c_8 (show ¬ (1 : Int32) = 0 by decide)
        · refine zw_aload_n dF_moves_11 rfl ?_
          refine zw_get dF_moves_12 zf_F_19 (by first | exact h1 | exact h3 | exact h4 | exact h8.choose_spec.choose_spec.2.1) rfl ?_
          refine zw_get dF_moves_15 zf_F_97 (by first | exact h1 | exact h3 | exact h4 | exact h8.choose_spec.choose_spec.2.1) rfl ?_
          refine zw_iload_n dF_moves_18 rfl ?_
          refine zc_S2I dF_moves_19 zm_F_holds zk_F_101 (c_F_holds hcO) ?_ zRR (Nat.le_of_ble_eq_true rfl) ⟨Nat.le_of_ble_eq_true rfl, Nat.le_of_ble_eq_true rfl⟩
          refine zw_if_ne 27 dF_moves_22 (by decide) (fun c_22 => ?_) (fun c_22 => ?_)
          · refine zw_iload_n dF_moves_27 rfl ?_
            refine zw_aload_n dF_moves_28 rfl ?_
            refine zw_get dF_moves_29 zf_F_28 (by first | exact h1 | exact h3 | exact h4 | exact h8.choose_spec.choose_spec.2.1) rfl ?_
            refine zw_get dF_moves_32 zf_F_105 (by first | exact h1 | exact h3 | exact h4 | exact h8.choose_spec.choose_spec.2.1) rfl ?_
            refine zw_icmp_ne 41 dF_moves_35 (by decide) (fun c_35 => ?_) (fun c_35 => ?_)
            · refine zw_aload_n dF_moves_41 rfl ?_
              refine zw_get dF_moves_42 zf_F_45 (by first | exact h1 | exact h3 | exact h4 | exact h8.choose_spec.choose_spec.2.1) rfl ?_
              refine zw_aload_n dF_moves_45 rfl ?_
              refine zw_get dF_moves_46 zf_F_28 (by first | exact h1 | exact h3 | exact h4 | exact h8.choose_spec.choose_spec.2.1) rfl ?_
              refine zx_V1V dF_moves_49 zm_H_remember zk_F_84 (by first | exact h1 | exact h3 | exact h4 | exact h8.choose_spec.choose_spec.2.1) rfl (c_H_remember a ok.2.2.2.2.1) zRR (Nat.le_of_ble_eq_true rfl) ⟨Nat.le_of_ble_eq_true rfl, Nat.le_of_ble_eq_true rfl⟩ ?_
              intro h' ⟨ca, hf, hl⟩
              obtain ⟨g1, g2, g3, g4, g5, g6, g7, g8, g9⟩ := id ca; have g3 : h'[4]? = some (gC (oF O)) := g3; have g4 : h'[5]? = some (sitC 5 (oS O)) := g4; have g5 : h'[5 + 1]? = some (plC (oS O)) := g5
              have gx : (hs2 5 (setShut (oS O) sh) h')[0]? = some xC := hs2_ne (by decide) (by decide) g1
              have gy : (hs2 5 (setShut (oS O) sh) h')[5]? = some (sitC 5 (setShut (oS O) sh)) := hs2_k g4
              refine zw_aload_n dF_moves_52 rfl ?_
              refine zw_get dF_moves_53 zf_F_28 (by first | exact g1 | exact g4 | exact gx | exact gy) rfl ?_
              refine zw_dup dF_moves_56 rfl ?_
              refine zw_get dF_moves_57 zf_F_108 (by first | exact g1 | exact g4 | exact gx | exact gy) rfl ?_
              refine zw_iload_n dF_moves_60 rfl ?_
              refine zc_S1L dF_moves_61 zm_F_only zk_F_111 (c_F_only hcO) ?_ zRR (Nat.le_of_ble_eq_true rfl) ⟨Nat.le_of_ble_eq_true rfl, Nat.le_of_ble_eq_true rfl⟩
              refine zw_lxor dF_moves_64 ?_
              rw [mx]
              refine zw_putl dF_moves_65 zf_F_108 (by first | exact g1 | exact g4 | exact gx | exact gy) (Nat.le_of_ble_eq_true rfl) ?_
              refine zw_h (h2 := hs2 5 (setShut (oS O) sh) h') (hs2_sit (S := oS O) rfl rfl g5) ?_
              refine zw_aload_n dF_moves_68 rfl ?_
              refine zw_get dF_moves_69 zf_F_28 (by first | exact g1 | exact g4 | exact gx | exact gy) rfl ?_
              refine zw_get dF_moves_72 zf_F_108 (by first | exact g1 | exact g4 | exact gx | exact gy) rfl ?_
              refine zw_iload_n dF_moves_75 rfl ?_
              refine zc_S2I dF_moves_76 zm_F_holds zk_F_101 (c_F_holds (p := sh) hcO) ?_ zRR (Nat.le_of_ble_eq_true rfl) ⟨Nat.le_of_ble_eq_true rfl, Nat.le_of_ble_eq_true rfl⟩
              refine zw_if_eq 86 dF_moves_79 (by decide) (fun c_79 => ?_) (fun c_79 => ?_)
              · refine zw_iconst (v := 1) dF_moves_86 (by decide) ?_
                have e : sShut (oS O) c = true := by have := hb0 c_79; simp only [holdsB] at this; rw [this] at hx; simpa using hx
                exact zw_iret dF_moves_87 rfl rfl (by rw [hs2_len, hl]; rfl) ⟨by rw [e]; rfl, frQ ca hf hl rfl⟩
              · refine zw_iconst (v := 0) dF_moves_82 (by decide) ?_
                refine zw_goto 87 dF_moves_83 (by decide) ?_
                have e : sShut (oS O) c = false := by have := hb1 c_79; simp only [holdsB] at this; rw [this] at hx; simpa using hx
                exact zw_iret dF_moves_87 rfl rfl (by rw [hs2_len, hl]; rfl) ⟨by rw [e]; rfl, frQ ca hf hl rfl⟩
            · exact absurd ((nI_eq (by omega) (by omega)).mp c_35) he
          · exact absurd hdr (by rw [hb0 c_22]; decide)
    · have hdr : holdsB (gK (oF O) 4) (some c) = false := by simp [holdsB, gK_at hcn, hd]
      rw [show rMov O (nI c) = -1 from by unfold rMov; rw [hc]; dsimp only; rw [if_neg hd], show nMovX O (nI c) = O from by unfold nMovX; rw [hc]; dsimp only; rw [if_neg hd]]
      refine zw_aload_n dF_moves_0 rfl ?_
      refine zw_get dF_moves_1 zf_F_19 (by first | exact h1 | exact h3 | exact h4) rfl ?_
      refine zw_iload_n dF_moves_4 rfl ?_
      refine zc_V1I dF_moves_5 zm_G_has zk_F_71 (by first | exact h1 | exact h3 | exact h4) rfl ch ?_ zRR (Nat.le_of_ble_eq_true rfl) ⟨Nat.le_of_ble_eq_true rfl, Nat.le_of_ble_eq_true rfl⟩
      refine zw_if_eq 25 dF_moves_8 (by decide) (fun c_8 => ?_) (fun c_8 => ?_)
      · exact absurd c_8 (show ¬ (1 : Int32) = 0 by decide)
      · refine zw_aload_n dF_moves_11 rfl ?_
        refine zw_get dF_moves_12 zf_F_19 (by first | exact h1 | exact h3 | exact h4) rfl ?_
        refine zw_get dF_moves_15 zf_F_97 (by first | exact h1 | exact h3 | exact h4) rfl ?_
        refine zw_iload_n dF_moves_18 rfl ?_
        refine zc_S2I dF_moves_19 zm_F_holds zk_F_101 (c_F_holds hcO) ?_ zRR (Nat.le_of_ble_eq_true rfl) ⟨Nat.le_of_ble_eq_true rfl, Nat.le_of_ble_eq_true rfl⟩
        refine zw_if_ne 27 dF_moves_22 (by decide) (fun c_22 => ?_) (fun c_22 => ?_)
        · exact absurd (hb1 c_22) (by rw [hdr]; decide)
        · refine zw_iconst (v := (-1)) dF_moves_25 (by decide) ?_
          exact zw_iret dF_moves_26 rfl rfl rfl ⟨rfl, CQ.rf a⟩
def rUndo (O : Om) : Int32 := if oSz O = 0 then -2 else nI (oSz O - 1)
def nUndo (O : Om) : Om := if oSz O = 0 then O else oUnd O
theorem c_F_undo (a : CX h O) (ok : oOK' O) : Run l g mF_undo (d + 3) 0 0 [.ref 0] h (PIh (rUndo O) (CQ h (nUndo O))) := by
  obtain ⟨h1, h2, h3, h4, h5, h6, h7, h8, h9⟩ := id a
  refine run_of (by decide) (Nat.le_of_ble_eq_true rfl) ?_
  by_cases h0 : oSz O = 0
  · rw [show rUndo O = -2 from if_pos h0, show nUndo O = O from if_pos h0]
    refine zw_aload_n dF_undo_0 rfl ?_
    refine zw_get dF_undo_1 zf_F_45 (by first | exact h1 | exact h8.choose_spec.choose_spec.2.1) rfl ?_
    refine zw_aload_n dF_undo_4 rfl ?_
    refine zw_get dF_undo_5 zf_F_28 (by first | exact h1 | exact h8.choose_spec.choose_spec.2.1) rfl ?_
    refine zc_V1I dF_undo_8 zm_H_bringBack zk_F_143 (by first | exact h1 | exact h8.choose_spec.choose_spec.2.1) rfl (c_H_bringBack0 a h0) ?_ zRR (Nat.le_of_ble_eq_true rfl) ⟨Nat.le_of_ble_eq_true rfl, Nat.le_of_ble_eq_true rfl⟩
    refine zw_if_eq 24 dF_undo_11 (by decide) (fun c_11 => ?_) (fun c_11 => ?_)
    · refine zw_bipush (v := (-2)) dF_undo_24 (by decide) ?_
      exact zw_iret dF_undo_26 rfl rfl rfl ⟨rfl, CQ.rf a⟩
    · exact absurd rfl c_11
  · rw [show rUndo O = _ from if_neg h0, show nUndo O = _ from if_neg h0]
    refine zw_aload_n dF_undo_0 rfl ?_
    refine zw_get dF_undo_1 zf_F_45 (by first | exact h1 | exact h8.choose_spec.choose_spec.2.1) rfl ?_
    refine zw_aload_n dF_undo_4 rfl ?_
    refine zw_get dF_undo_5 zf_F_28 (by first | exact h1 | exact h8.choose_spec.choose_spec.2.1) rfl ?_
    refine zx_V1I dF_undo_8 zm_H_bringBack zk_F_143 (by first | exact h1 | exact h8.choose_spec.choose_spec.2.1) rfl (c_H_bringBack a ok.2.2.2.2.1 (by omega)) zRR (Nat.le_of_ble_eq_true rfl) ⟨Nat.le_of_ble_eq_true rfl, Nat.le_of_ble_eq_true rfl⟩ ?_
    intro h' ⟨ca, hf, hl⟩
    obtain ⟨g1, g2, g3, g4, g5, g6, g7, g8, g9⟩ := id ca
    refine zw_if_eq 24 dF_undo_11 (by decide) (fun c_11 => ?_) (fun c_11 => ?_)
    · exact absurd c_11 (by decide)
    · refine zw_aload_n dF_undo_14 rfl ?_
      refine zw_get dF_undo_15 zf_F_45 (by first | exact g1 | exact g8.choose_spec.choose_spec.2.1) rfl ?_
      refine zw_get dF_undo_18 zf_F_147 (by first | exact g1 | exact g8.choose_spec.choose_spec.2.1) rfl ?_
      refine zw_goto 26 dF_undo_21 (by decide) ?_
      exact zw_iret dF_undo_26 rfl rfl (by rw [hl]; rfl) ⟨rfl, ca, hf, hl⟩
end C35
