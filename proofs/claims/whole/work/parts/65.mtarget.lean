/-! ===== the reference looks for a target ===== -/
def bR (cur : TG) (q : I4) : Prop := match cur with
  | none => q.1 = -9
  | some (t, g, w, b) => q = (nI t, nI g, nI w, nI b)
def TGB (cur : TG) : Prop := ∀ t g w b, cur = some (t, g, w, b) → t < 36 ∧ g < 36 ∧ w ≤ 36
theorem far_lt {F : Fl} {S : Sit} {g v : Nat} (h : far F S g = some v) : v < 36 := dst_lt h
theorem hom_lt {F : Fl} {S : Sit} {g v : Nat} (h : hom F S g = some v) : v < 36 := dst_lt h
theorem TGB_step {F : Fl} {S : Sit} {c g : Nat} {cur : TG} (hc : c < 36) (hg : g < 36) (h : TGB cur) : TGB (bstep F S c g cur) := by
  intro t g' w b e
  unfold bstep at e
  split at e
  · cases hf : far F S g with
    | none => rw [hf] at e; exact h t g' w b e
    | some s =>
      have := far_lt hf
      cases hh : hom F S g with
      | none => rw [hf, hh] at e; exact h t g' w b e
      | some hb =>
        rw [hf, hh] at e
        dsimp only at e
        cases cur with
        | none =>
          dsimp only at e
          injection e with e
          simp only [Prod.mk.injEq] at e
          omega
        | some x =>
          obtain ⟨t0, g0, w0, b0⟩ := x
          dsimp only at e
          split at e
          · injection e with e
            simp only [Prod.mk.injEq] at e
            omega
          · exact h t g' w b e
  · exact h t g' w b e
theorem TGB_G {F : Fl} {S : Sit} {c : Nat} (hF : fOK F) (hc : c < fN F) : ∀ (m g : Nat) (cur : TG), g + m = fN F → TGB cur → TGB (bG F S c m g cur) := by
  have h36 := fN_le hF
  intro m
  induction m with
  | zero => intro g cur _ h; exact h
  | succ m ih => intro g cur hg h; exact ih (g + 1) _ (by omega) (TGB_step (by omega) (by omega) h)
theorem bstep_n {F : Fl} {S : Sit} {c g s b : Nat} (hv : vld F S c g = true) (hf : far F S g = some s) (hh : hom F S g = some b) : bstep F S c g none = some (c, g, s + 1, b + 1) := by
  unfold bstep
  rw [if_pos hv, hf, hh]
theorem bstep_s {F : Fl} {S : Sit} {c g s b t g0 w wb : Nat} (hv : vld F S c g = true) (hf : far F S g = some s) (hh : hom F S g = some b) : bstep F S c g (some (t, g0, w, wb)) = if s + 1 < w then some (c, g, s + 1, b + 1) else some (t, g0, w, wb) := by
  unfold bstep
  rw [if_pos hv, hf, hh]
section C65
variable {l : Launch} {g : zG} {d : Nat} {h : zH} {F : Fl} {S : Sit} {z : Nat → Int32} {un le : Nat} {qa : I4}
theorem c_M_looksFor {fa ho : Nat → Int32} (hF : fOK F) (ok : sOK F S) {qb : I4} (hM : h[31]? = some (mC F un le qa qb)) (hS : h[32]? = some (sC F S z)) (h40 : h[40]? = some (iA 36 fa)) (h41 : h[41]? = some (iA 36 ho)) (efa : ∀ i, i < fN F → fa i = dI (far F S i)) (eho : ∀ i, i < fN F → ho i = dI (hom F S i)) {cell : Nat} (hc : cell < fN F) {cur : TG} (hcu : TGB cur) (hq : bR cur qb) : Run l g mM_looksFor (d + 2) 0 0 [.ref 31, .int (nI cell)] h (PVh (fun h' => ∃ qb', bR (bG F S cell (fN F) 0 cur) qb' ∧ h' = h.set 31 (mC F un le qa qb'))) := by
  have h36 := fN_le hF
  have hM1 : ∀ q, (h.set 31 (mC F un le qa q))[31]? = some (mC F un le qa q) := fun q => zg_eq hM
  have hS1 : ∀ c, (h.set 31 c)[32]? = some (sC F S z) := fun c => zg_ne (by decide) hS
  have hA1 : ∀ c, (h.set 31 c)[40]? = some (iA 36 fa) := fun c => zg_ne (by decide) h40
  have hH1 : ∀ c, (h.set 31 c)[41]? = some (iA 36 ho) := fun c => zg_ne (by decide) h41
  have hbr := ok.brim
  have hch := ok.ch
  obtain ⟨R, hR⟩ : ∃ R, R = bG F S cell (fN F) 0 cur := ⟨_, rfl⟩
  rw [← hR]
  refine run_of (by decide) (Nat.le_of_ble_eq_true rfl) ?_
  have L : ∀ (m by' : Nat) (cu : TG) (q : I4), by' + m = fN F → TGB cu → bR cu q → bG F S cell m by' cu = R → WW l g mM_looksFor (zrm (d + 2) 0 0) (fun _ => True) (zQQ g (PVh (fun h' => ∃ qb', bR R qb' ∧ h' = h.set 31 (mC F un le qa qb'))) (h.length + 0) 0 0) 2 [(0, some (.ref 31)), (1, some (.int (nI cell))), (2, some (.int (nI by')))] [] (h.set 31 (mC F un le qa q)) 0 0 := by
    intro m
    induction m with
    | zero =>
      intro y cu q hy hB hb hE
      have hy : y = fN F := by omega
      subst hy
      refine zw_iload_n dM_looksFor_2 rfl ?_
      refine zw_aload_n dM_looksFor_3 rfl ?_
      refine zc_V0I dM_looksFor_4 zm_M_cells zk_M_57 (hM1 _) rfl (c_M_cells (hM1 _)) ?_ zRR (Nat.le_of_ble_eq_true rfl) ⟨Nat.le_of_ble_eq_true rfl, Nat.le_of_ble_eq_true rfl⟩
      refine zw_icmp_ge 175 dM_looksFor_7 (by decide) (fun c_7 => ?_) (fun c_7 => ?_)
      · exact zw_vret dM_looksFor_175 rfl (by rw [zs_len]; rfl) ⟨rfl, q, by rw [← hE]; exact hb, rfl⟩
      · exact absurd (Int32.le_refl _) c_7
    | succ m ih =>
      intro y cu q hy hB hb hE
      have hyn : y < fN F := by omega
      have hE' : bG F S cell m (y + 1) (bstep F S cell y cu) = R := hE
      have eyc : (nI y).toNatClampNeg = y := nI_clamp (by omega)
      have hin : vp_in (nI y) 36 := vp_in_nI (by omega) (by decide)
      have ef := efa y hyn
      have eh := eho y hyn
      have NX : ∀ (q' : I4), bR (bstep F S cell y cu) q' → WW l g mM_looksFor (zrm (d + 2) 0 0) (fun _ => True) (zQQ g (PVh (fun h' => ∃ qb', bR R qb' ∧ h' = h.set 31 (mC F un le qa qb'))) (h.length + 0) 0 0) 169 [(0, some (.ref 31)), (1, some (.int (nI cell))), (2, some (.int (nI y)))] [] (h.set 31 (mC F un le qa q')) 0 0 := by
        intro q' hb'
        have I := ih (y + 1) (bstep F S cell y cu) q' (by omega) (TGB_step (by omega) (by omega) hB) hb' hE'
        refine zw_incN dM_looksFor_169 rfl (by decide) rfl ?_
        refine zw_goto 2 dM_looksFor_172 (by decide) ?_
        exact zw_lk I ⟨rfl, rfl, rfl, trivial⟩
      have BD : WW l g mM_looksFor (zrm (d + 2) 0 0) (fun _ => True) (zQQ g (PVh (fun h' => ∃ qb', bR R qb' ∧ h' = h.set 31 (mC F un le qa qb'))) (h.length + 0) 0 0) 48 [(0, some (.ref 31)), (1, some (.int (nI cell))), (2, some (.int (nI y))), (3, some (.int (if bsd F cell y 4 = true then 1 else 0)))] [] (h.set 31 (mC F un le qa q)) 0 0 := by
        have SAME : vld F S cell y = false → WW l g mM_looksFor (zrm (d + 2) 0 0) (fun _ => True) (zQQ g (PVh (fun h' => ∃ qb', bR R qb' ∧ h' = h.set 31 (mC F un le qa qb'))) (h.length + 0) 0 0) 103 [(0, some (.ref 31)), (1, some (.int (nI cell))), (2, some (.int (nI y)))] [] (h.set 31 (mC F un le qa q)) 0 0 := by
          intro hv
          have N := NX q (by unfold bstep; rw [if_neg (by rw [hv]; decide)]; exact hb)
          refine zw_iconst (v := 0) dM_looksFor_103 (by decide) ?_
          refine zw_istore dM_looksFor_104 (by decide) rfl ?_
          refine zw_iload dM_looksFor_106 rfl ?_
          refine zw_if_eq 169 dM_looksFor_108 (by decide) (fun c_108 => ?_) (fun c_108 => ?_)
          · exact zw_lk N ⟨rfl, rfl, rfl, trivial⟩
          · exact absurd rfl c_108
        cases hbs : bsd F cell y 4 with
        | false =>
          have hv : vld F S cell y = false := by unfold vld; rw [hbs]; rfl
          refine zw_iload_n dM_looksFor_48 rfl ?_
          refine zw_if_eq 103 dM_looksFor_49 (by decide) (fun c_49 => ?_) (fun c_49 => ?_)
          · exact zw_lk (SAME hv) ⟨rfl, rfl, rfl, trivial⟩
          · exact absurd rfl c_49
        | true =>
          cases hh : hom F S y with
          | none =>
            have hv : vld F S cell y = false := by unfold vld; rw [hh]; cases far F S y <;> simp
            rw [hh] at eh
            refine zw_iload_n dM_looksFor_48 rfl ?_
            refine zw_if_eq 103 dM_looksFor_49 (by decide) (fun c_49 => ?_) (fun c_49 => ?_)
            · exact absurd c_49 (by decide)
            · refine zw_aload_n dM_looksFor_52 rfl ?_
              refine zw_get dM_looksFor_53 zf_M_45 (by first | exact hM1 _ | exact hA1 _ | exact hH1 _) rfl ?_
              refine zw_iload_n dM_looksFor_56 rfl ?_
              refine zw_iald dM_looksFor_57 (by first | exact hM1 _ | exact hA1 _ | exact hH1 _) hin ?_
              rw [eyc, eh]
              refine zw_bipush (v := (-9)) dM_looksFor_58 (by decide) ?_
              refine zw_icmp_eq 103 dM_looksFor_60 (by decide) (fun c_60 => ?_) (fun c_60 => ?_)
              · exact zw_lk (SAME hv) ⟨rfl, rfl, rfl, trivial⟩
              · exact absurd rfl c_60
          | some hv' =>
            have hvl := hom_lt hh
            have e9h : ¬ nI hv' = -9 := nI_m9 (by omega)
            rw [hh] at eh
            have eh2 : ho y = nI hv' := eh
            cases hf : far F S y with
            | none =>
              have hv : vld F S cell y = false := by unfold vld; rw [hf]; simp
              rw [hf] at ef
              refine zw_iload_n dM_looksFor_48 rfl ?_
              refine zw_if_eq 103 dM_looksFor_49 (by decide) (fun c_49 => ?_) (fun c_49 => ?_)
              · exact absurd c_49 (by decide)
              · refine zw_aload_n dM_looksFor_52 rfl ?_
                refine zw_get dM_looksFor_53 zf_M_45 (by first | exact hM1 _ | exact hA1 _ | exact hH1 _) rfl ?_
                refine zw_iload_n dM_looksFor_56 rfl ?_
                refine zw_iald dM_looksFor_57 (by first | exact hM1 _ | exact hA1 _ | exact hH1 _) hin ?_
                rw [eyc, eh2]
                refine zw_bipush (v := (-9)) dM_looksFor_58 (by decide) ?_
                refine zw_icmp_eq 103 dM_looksFor_60 (by decide) (fun c_60 => ?_) (fun c_60 => ?_)
                · exact absurd c_60 e9h
                · refine zw_aload_n dM_looksFor_63 rfl ?_
                  refine zw_get dM_looksFor_64 zf_M_42 (by first | exact hM1 _ | exact hA1 _ | exact hH1 _) rfl ?_
                  refine zw_iload_n dM_looksFor_67 rfl ?_
                  refine zw_iald dM_looksFor_68 (by first | exact hM1 _ | exact hA1 _ | exact hH1 _) hin ?_
                  rw [eyc, ef]
                  refine zw_bipush (v := (-9)) dM_looksFor_69 (by decide) ?_
                  refine zw_icmp_eq 103 dM_looksFor_71 (by decide) (fun c_71 => ?_) (fun c_71 => ?_)
                  · exact zw_lk (SAME hv) ⟨rfl, rfl, rfl, trivial⟩
                  · exact absurd rfl c_71
            | some fv =>
              have fvl := far_lt hf
              have e9f : ¬ nI fv = -9 := nI_m9 (by omega)
              rw [hf] at ef
              have ef2 : fa y = nI fv := ef
              have esum : nI fv + nI hv' + 2 = nI (fv + hv' + 2) := by rw [nI_add]; exact nI_add _ 2
              by_cases hle : fv + hv' + 2 ≤ sCh S
              · have hv : vld F S cell y = true := by unfold vld; rw [hf, hh, hbs]; simpa using hle
                have e1 : nI fv + 1 = nI (fv + 1) := nI_1 fv
                have e2 : nI hv' + 1 = nI (hv' + 1) := nI_1 hv'
                have ebn := bstep_n hv hf hh
                have ebs := fun t g0 w wb => bstep_s (t := t) (g0 := g0) (w := w) (wb := wb) hv hf hh
                have NEW : bstep F S cell y cu = some (cell, y, fv + 1, hv' + 1) → WW l g mM_looksFor (zrm (d + 2) 0 0) (fun _ => True) (zQQ g (PVh (fun h' => ∃ qb', bR R qb' ∧ h' = h.set 31 (mC F un le qa qb'))) (h.length + 0) 0 0) 135 [(0, some (.ref 31)), (1, some (.int (nI cell))), (2, some (.int (nI y)))] [] (h.set 31 (mC F un le qa q)) 0 0 := by
                  intro e
                  have N := NX (nI cell, nI y, nI (fv + 1), nI (hv' + 1)) (by rw [e]; rfl)
                  have z1 : ((((h.set 31 (mC F un le qa q)).set 31 (mC F un le qa (nI cell, q.2.1, q.2.2.1, q.2.2.2))))) = h.set 31 (mC F un le qa (nI cell, q.2.1, q.2.2.1, q.2.2.2)) := zs_set _ _ _ _
                  have z2 : ((((h.set 31 (mC F un le qa (nI cell, q.2.1, q.2.2.1, q.2.2.2))).set 31 (mC F un le qa (nI cell, nI y, q.2.2.1, q.2.2.2))))) = h.set 31 (mC F un le qa (nI cell, nI y, q.2.2.1, q.2.2.2)) := zs_set _ _ _ _
                  have z3 : ((((h.set 31 (mC F un le qa (nI cell, nI y, q.2.2.1, q.2.2.2))).set 31 (mC F un le qa (nI cell, nI y, nI (fv + 1), q.2.2.2))))) = h.set 31 (mC F un le qa (nI cell, nI y, nI (fv + 1), q.2.2.2)) := zs_set _ _ _ _
                  have z4 : ((((h.set 31 (mC F un le qa (nI cell, nI y, nI (fv + 1), q.2.2.2))).set 31 (mC F un le qa (nI cell, nI y, nI (fv + 1), nI (hv' + 1)))))) = h.set 31 (mC F un le qa (nI cell, nI y, nI (fv + 1), nI (hv' + 1))) := zs_set _ _ _ _
                  refine zw_aload_n dM_looksFor_135 rfl ?_
                  refine zw_iload_n dM_looksFor_136 rfl ?_
                  refine zw_puti dM_looksFor_137 zf_M_143 (by first | exact hM1 _ | exact hA1 _ | exact hH1 _) (Nat.le_of_ble_eq_true rfl) ?_
                  refine zw_h z1 ?_
                  refine zw_aload_n dM_looksFor_140 rfl ?_
                  refine zw_iload_n dM_looksFor_141 rfl ?_
                  refine zw_puti dM_looksFor_142 zf_M_152 (by first | exact hM1 _ | exact hA1 _ | exact hH1 _) (Nat.le_of_ble_eq_true rfl) ?_
                  refine zw_h z2 ?_
                  refine zw_aload_n dM_looksFor_145 rfl ?_
                  refine zw_aload_n dM_looksFor_146 rfl ?_
                  refine zw_get dM_looksFor_147 zf_M_42 (by first | exact hM1 _ | exact hA1 _ | exact hH1 _) rfl ?_
                  refine zw_iload_n dM_looksFor_150 rfl ?_
                  refine zw_iald dM_looksFor_151 (by first | exact hM1 _ | exact hA1 _ | exact hH1 _) hin ?_
                  rw [eyc, ef2]
                  refine zw_iconst (v := 1) dM_looksFor_152 (by decide) ?_
                  refine zw_iadd dM_looksFor_153 ?_
                  rw [e1]
                  refine zw_puti dM_looksFor_154 zf_M_149 (by first | exact hM1 _ | exact hA1 _ | exact hH1 _) (Nat.le_of_ble_eq_true rfl) ?_
                  refine zw_h z3 ?_
                  refine zw_aload_n dM_looksFor_157 rfl ?_
                  refine zw_aload_n dM_looksFor_158 rfl ?_
                  refine zw_get dM_looksFor_159 zf_M_45 (by first | exact hM1 _ | exact hA1 _ | exact hH1 _) rfl ?_
                  refine zw_iload_n dM_looksFor_162 rfl ?_
                  refine zw_iald dM_looksFor_163 (by first | exact hM1 _ | exact hA1 _ | exact hH1 _) hin ?_
                  rw [eyc, eh2]
                  refine zw_iconst (v := 1) dM_looksFor_164 (by decide) ?_
                  refine zw_iadd dM_looksFor_165 ?_
                  rw [e2]
                  refine zw_puti dM_looksFor_166 zf_M_155 (by first | exact hM1 _ | exact hA1 _ | exact hH1 _) (Nat.le_of_ble_eq_true rfl) ?_
                  refine zw_h z4 ?_
                  exact zw_lk N ⟨rfl, rfl, rfl, trivial⟩
                cases cu with
                | none =>
                  have et : q.1 = -9 := hb
                  have ebs := ebn
                  refine zw_iload_n dM_looksFor_48 rfl ?_
                  refine zw_if_eq 103 dM_looksFor_49 (by decide) (fun c_49 => ?_) (fun c_49 => ?_)
                  · exact absurd c_49 (by decide)
                  · refine zw_aload_n dM_looksFor_52 rfl ?_
                    refine zw_get dM_looksFor_53 zf_M_45 (by first | exact hM1 _ | exact hA1 _ | exact hH1 _ | exact hS1 _) rfl ?_
                    refine zw_iload_n dM_looksFor_56 rfl ?_
                    refine zw_iald dM_looksFor_57 (by first | exact hM1 _ | exact hA1 _ | exact hH1 _ | exact hS1 _) hin ?_
                    rw [eyc, eh2]
                    refine zw_bipush (v := (-9)) dM_looksFor_58 (by decide) ?_
                    refine zw_icmp_eq 103 dM_looksFor_60 (by decide) (fun c_60 => ?_) (fun c_60 => ?_)
                    · exact absurd c_60 e9h
                    · refine zw_aload_n dM_looksFor_63 rfl ?_
                      refine zw_get dM_looksFor_64 zf_M_42 (by first | exact hM1 _ | exact hA1 _ | exact hH1 _ | exact hS1 _) rfl ?_
                      refine zw_iload_n dM_looksFor_67 rfl ?_
                      refine zw_iald dM_looksFor_68 (by first | exact hM1 _ | exact hA1 _ | exact hH1 _ | exact hS1 _) hin ?_
                      rw [eyc, ef2]
                      refine zw_bipush (v := (-9)) dM_looksFor_69 (by decide) ?_
                      refine zw_icmp_eq 103 dM_looksFor_71 (by decide) (fun c_71 => ?_) (fun c_71 => ?_)
                      · exact absurd c_71 e9f
                      · refine zw_aload_n dM_looksFor_74 rfl ?_
                        refine zw_get dM_looksFor_75 zf_M_42 (by first | exact hM1 _ | exact hA1 _ | exact hH1 _ | exact hS1 _) rfl ?_
                        refine zw_iload_n dM_looksFor_78 rfl ?_
                        refine zw_iald dM_looksFor_79 (by first | exact hM1 _ | exact hA1 _ | exact hH1 _ | exact hS1 _) hin ?_
                        rw [eyc, ef2]
                        refine zw_aload_n dM_looksFor_80 rfl ?_
                        refine zw_get dM_looksFor_81 zf_M_45 (by first | exact hM1 _ | exact hA1 _ | exact hH1 _ | exact hS1 _) rfl ?_
                        refine zw_iload_n dM_looksFor_84 rfl ?_
                        refine zw_iald dM_looksFor_85 (by first | exact hM1 _ | exact hA1 _ | exact hH1 _ | exact hS1 _) hin ?_
                        rw [eyc, eh2]
                        refine zw_iadd dM_looksFor_86 ?_
                        refine zw_iconst (v := 2) dM_looksFor_87 (by decide) ?_
                        refine zw_iadd dM_looksFor_88 ?_
                        rw [esum]
                        refine zw_aload_n dM_looksFor_89 rfl ?_
                        refine zw_get dM_looksFor_90 zf_M_16 (by first | exact hM1 _ | exact hA1 _ | exact hH1 _ | exact hS1 _) rfl ?_
                        refine zw_bipush (v := 110) dM_looksFor_93 (by decide) ?_
                        refine zw_iald dM_looksFor_95 (by first | exact hM1 _ | exact hA1 _ | exact hH1 _ | exact hS1 _) v110 ?_
                        rw [e110, ms_110]
                        refine zw_icmp_gt 103 dM_looksFor_96 (by decide) (fun c_96 => ?_) (fun c_96 => ?_)
                        · exact absurd ((nI_ltI (by omega) (by omega)).mp c_96) (by omega)
                        · refine zw_iconst (v := 1) dM_looksFor_99 (by decide) ?_
                          refine zw_goto 104 dM_looksFor_100 (by decide) ?_
                          refine zw_istore dM_looksFor_104 (by decide) rfl ?_
                          refine zw_iload dM_looksFor_106 rfl ?_
                          refine zw_if_eq 169 dM_looksFor_108 (by decide) (fun c_108 => ?_) (fun c_108 => ?_)
                          · exact absurd c_108 (by decide)
                          · refine zw_aload_n dM_looksFor_111 rfl ?_
                            refine zw_get dM_looksFor_112 zf_M_143 (by first | exact hM1 _ | exact hA1 _ | exact hH1 _ | exact hS1 _) rfl ?_
                            refine zw_bipush (v := (-9)) dM_looksFor_115 (by decide) ?_
                            refine zw_icmp_eq 135 dM_looksFor_117 (by decide) (fun c_117 => ?_) (fun c_117 => ?_)
                            · exact zw_lk (NEW ebs) ⟨rfl, rfl, rfl, trivial⟩
                            · exact absurd et c_117
                | some x =>
                  obtain ⟨t, g0, w, wb⟩ := x
                  have et : q = (nI t, nI g0, nI w, nI wb) := hb
                  obtain ⟨tl, gl, wl⟩ := hB t g0 w wb rfl
                  have e9t : ¬ nI t = -9 := nI_m9 (by omega)
                  subst et
                  have ebs := ebs t g0 w wb
                  by_cases hlt : fv + 1 < w
                  · rw [if_pos hlt] at ebs
                    refine zw_iload_n dM_looksFor_48 rfl ?_
                    refine zw_if_eq 103 dM_looksFor_49 (by decide) (fun c_49 => ?_) (fun c_49 => ?_)
                    · exact absurd c_49 (by decide)
                    · refine zw_aload_n dM_looksFor_52 rfl ?_
                      refine zw_get dM_looksFor_53 zf_M_45 (by first | exact hM1 _ | exact hA1 _ | exact hH1 _ | exact hS1 _) rfl ?_
                      refine zw_iload_n dM_looksFor_56 rfl ?_
                      refine zw_iald dM_looksFor_57 (by first | exact hM1 _ | exact hA1 _ | exact hH1 _ | exact hS1 _) hin ?_
                      rw [eyc, eh2]
                      refine zw_bipush (v := (-9)) dM_looksFor_58 (by decide) ?_
                      refine zw_icmp_eq 103 dM_looksFor_60 (by decide) (fun c_60 => ?_) (fun c_60 => ?_)
                      · exact absurd c_60 e9h
                      · refine zw_aload_n dM_looksFor_63 rfl ?_
                        refine zw_get dM_looksFor_64 zf_M_42 (by first | exact hM1 _ | exact hA1 _ | exact hH1 _ | exact hS1 _) rfl ?_
                        refine zw_iload_n dM_looksFor_67 rfl ?_
                        refine zw_iald dM_looksFor_68 (by first | exact hM1 _ | exact hA1 _ | exact hH1 _ | exact hS1 _) hin ?_
                        rw [eyc, ef2]
                        refine zw_bipush (v := (-9)) dM_looksFor_69 (by decide) ?_
                        refine zw_icmp_eq 103 dM_looksFor_71 (by decide) (fun c_71 => ?_) (fun c_71 => ?_)
                        · exact absurd c_71 e9f
                        · refine zw_aload_n dM_looksFor_74 rfl ?_
                          refine zw_get dM_looksFor_75 zf_M_42 (by first | exact hM1 _ | exact hA1 _ | exact hH1 _ | exact hS1 _) rfl ?_
                          refine zw_iload_n dM_looksFor_78 rfl ?_
                          refine zw_iald dM_looksFor_79 (by first | exact hM1 _ | exact hA1 _ | exact hH1 _ | exact hS1 _) hin ?_
                          rw [eyc, ef2]
                          refine zw_aload_n dM_looksFor_80 rfl ?_
                          refine zw_get dM_looksFor_81 zf_M_45 (by first | exact hM1 _ | exact hA1 _ | exact hH1 _ | exact hS1 _) rfl ?_
                          refine zw_iload_n dM_looksFor_84 rfl ?_
                          refine zw_iald dM_looksFor_85 (by first | exact hM1 _ | exact hA1 _ | exact hH1 _ | exact hS1 _) hin ?_
                          rw [eyc, eh2]
                          refine zw_iadd dM_looksFor_86 ?_
                          refine zw_iconst (v := 2) dM_looksFor_87 (by decide) ?_
                          refine zw_iadd dM_looksFor_88 ?_
                          rw [esum]
                          refine zw_aload_n dM_looksFor_89 rfl ?_
                          refine zw_get dM_looksFor_90 zf_M_16 (by first | exact hM1 _ | exact hA1 _ | exact hH1 _ | exact hS1 _) rfl ?_
                          refine zw_bipush (v := 110) dM_looksFor_93 (by decide) ?_
                          refine zw_iald dM_looksFor_95 (by first | exact hM1 _ | exact hA1 _ | exact hH1 _ | exact hS1 _) v110 ?_
                          rw [e110, ms_110]
                          refine zw_icmp_gt 103 dM_looksFor_96 (by decide) (fun c_96 => ?_) (fun c_96 => ?_)
                          · exact absurd ((nI_ltI (by omega) (by omega)).mp c_96) (by omega)
                          · refine zw_iconst (v := 1) dM_looksFor_99 (by decide) ?_
                            refine zw_goto 104 dM_looksFor_100 (by decide) ?_
                            refine zw_istore dM_looksFor_104 (by decide) rfl ?_
                            refine zw_iload dM_looksFor_106 rfl ?_
                            refine zw_if_eq 169 dM_looksFor_108 (by decide) (fun c_108 => ?_) (fun c_108 => ?_)
                            · exact absurd c_108 (by decide)
                            · refine zw_aload_n dM_looksFor_111 rfl ?_
                              refine zw_get dM_looksFor_112 zf_M_143 (by first | exact hM1 _ | exact hA1 _ | exact hH1 _ | exact hS1 _) rfl ?_
                              refine zw_bipush (v := (-9)) dM_looksFor_115 (by decide) ?_
                              refine zw_icmp_eq 135 dM_looksFor_117 (by decide) (fun c_117 => ?_) (fun c_117 => ?_)
                              · exact absurd c_117 e9t
                              · refine zw_aload_n dM_looksFor_120 rfl ?_
                                refine zw_get dM_looksFor_121 zf_M_42 (by first | exact hM1 _ | exact hA1 _ | exact hH1 _ | exact hS1 _) rfl ?_
                                refine zw_iload_n dM_looksFor_124 rfl ?_
                                refine zw_iald dM_looksFor_125 (by first | exact hM1 _ | exact hA1 _ | exact hH1 _ | exact hS1 _) hin ?_
                                rw [eyc, ef2]
                                refine zw_iconst (v := 1) dM_looksFor_126 (by decide) ?_
                                refine zw_iadd dM_looksFor_127 ?_
                                rw [e1]
                                refine zw_aload_n dM_looksFor_128 rfl ?_
                                refine zw_get dM_looksFor_129 zf_M_149 (by first | exact hM1 _ | exact hA1 _ | exact hH1 _ | exact hS1 _) rfl ?_
                                refine zw_icmp_ge 169 dM_looksFor_132 (by decide) (fun c_132 => ?_) (fun c_132 => ?_)
                                · exact absurd ((nI_leI (by omega) (by omega)).mp c_132) (by omega)
                                · exact zw_lk (NEW ebs) ⟨rfl, rfl, rfl, trivial⟩
                  · rw [if_neg hlt] at ebs
                    have N := NX (nI t, nI g0, nI w, nI wb) (by rw [ebs]; exact rfl)
                    refine zw_iload_n dM_looksFor_48 rfl ?_
                    refine zw_if_eq 103 dM_looksFor_49 (by decide) (fun c_49 => ?_) (fun c_49 => ?_)
                    · exact absurd c_49 (by decide)
                    · refine zw_aload_n dM_looksFor_52 rfl ?_
                      refine zw_get dM_looksFor_53 zf_M_45 (by first | exact hM1 _ | exact hA1 _ | exact hH1 _ | exact hS1 _) rfl ?_
                      refine zw_iload_n dM_looksFor_56 rfl ?_
                      refine zw_iald dM_looksFor_57 (by first | exact hM1 _ | exact hA1 _ | exact hH1 _ | exact hS1 _) hin ?_
                      rw [eyc, eh2]
                      refine zw_bipush (v := (-9)) dM_looksFor_58 (by decide) ?_
                      refine zw_icmp_eq 103 dM_looksFor_60 (by decide) (fun c_60 => ?_) (fun c_60 => ?_)
                      · exact absurd c_60 e9h
                      · refine zw_aload_n dM_looksFor_63 rfl ?_
                        refine zw_get dM_looksFor_64 zf_M_42 (by first | exact hM1 _ | exact hA1 _ | exact hH1 _ | exact hS1 _) rfl ?_
                        refine zw_iload_n dM_looksFor_67 rfl ?_
                        refine zw_iald dM_looksFor_68 (by first | exact hM1 _ | exact hA1 _ | exact hH1 _ | exact hS1 _) hin ?_
                        rw [eyc, ef2]
                        refine zw_bipush (v := (-9)) dM_looksFor_69 (by decide) ?_
                        refine zw_icmp_eq 103 dM_looksFor_71 (by decide) (fun c_71 => ?_) (fun c_71 => ?_)
                        · exact absurd c_71 e9f
                        · refine zw_aload_n dM_looksFor_74 rfl ?_
                          refine zw_get dM_looksFor_75 zf_M_42 (by first | exact hM1 _ | exact hA1 _ | exact hH1 _ | exact hS1 _) rfl ?_
                          refine zw_iload_n dM_looksFor_78 rfl ?_
                          refine zw_iald dM_looksFor_79 (by first | exact hM1 _ | exact hA1 _ | exact hH1 _ | exact hS1 _) hin ?_
                          rw [eyc, ef2]
                          refine zw_aload_n dM_looksFor_80 rfl ?_
                          refine zw_get dM_looksFor_81 zf_M_45 (by first | exact hM1 _ | exact hA1 _ | exact hH1 _ | exact hS1 _) rfl ?_
                          refine zw_iload_n dM_looksFor_84 rfl ?_
                          refine zw_iald dM_looksFor_85 (by first | exact hM1 _ | exact hA1 _ | exact hH1 _ | exact hS1 _) hin ?_
                          rw [eyc, eh2]
                          refine zw_iadd dM_looksFor_86 ?_
                          refine zw_iconst (v := 2) dM_looksFor_87 (by decide) ?_
                          refine zw_iadd dM_looksFor_88 ?_
                          rw [esum]
                          refine zw_aload_n dM_looksFor_89 rfl ?_
                          refine zw_get dM_looksFor_90 zf_M_16 (by first | exact hM1 _ | exact hA1 _ | exact hH1 _ | exact hS1 _) rfl ?_
                          refine zw_bipush (v := 110) dM_looksFor_93 (by decide) ?_
                          refine zw_iald dM_looksFor_95 (by first | exact hM1 _ | exact hA1 _ | exact hH1 _ | exact hS1 _) v110 ?_
                          rw [e110, ms_110]
                          refine zw_icmp_gt 103 dM_looksFor_96 (by decide) (fun c_96 => ?_) (fun c_96 => ?_)
                          · exact absurd ((nI_ltI (by omega) (by omega)).mp c_96) (by omega)
                          · refine zw_iconst (v := 1) dM_looksFor_99 (by decide) ?_
                            refine zw_goto 104 dM_looksFor_100 (by decide) ?_
                            refine zw_istore dM_looksFor_104 (by decide) rfl ?_
                            refine zw_iload dM_looksFor_106 rfl ?_
                            refine zw_if_eq 169 dM_looksFor_108 (by decide) (fun c_108 => ?_) (fun c_108 => ?_)
                            · exact absurd c_108 (by decide)
                            · refine zw_aload_n dM_looksFor_111 rfl ?_
                              refine zw_get dM_looksFor_112 zf_M_143 (by first | exact hM1 _ | exact hA1 _ | exact hH1 _ | exact hS1 _) rfl ?_
                              refine zw_bipush (v := (-9)) dM_looksFor_115 (by decide) ?_
                              refine zw_icmp_eq 135 dM_looksFor_117 (by decide) (fun c_117 => ?_) (fun c_117 => ?_)
                              · exact absurd c_117 e9t
                              · refine zw_aload_n dM_looksFor_120 rfl ?_
                                refine zw_get dM_looksFor_121 zf_M_42 (by first | exact hM1 _ | exact hA1 _ | exact hH1 _ | exact hS1 _) rfl ?_
                                refine zw_iload_n dM_looksFor_124 rfl ?_
                                refine zw_iald dM_looksFor_125 (by first | exact hM1 _ | exact hA1 _ | exact hH1 _ | exact hS1 _) hin ?_
                                rw [eyc, ef2]
                                refine zw_iconst (v := 1) dM_looksFor_126 (by decide) ?_
                                refine zw_iadd dM_looksFor_127 ?_
                                rw [e1]
                                refine zw_aload_n dM_looksFor_128 rfl ?_
                                refine zw_get dM_looksFor_129 zf_M_149 (by first | exact hM1 _ | exact hA1 _ | exact hH1 _ | exact hS1 _) rfl ?_
                                refine zw_icmp_ge 169 dM_looksFor_132 (by decide) (fun c_132 => ?_) (fun c_132 => ?_)
                                · exact zw_lk N ⟨rfl, rfl, rfl, trivial⟩
                                · exact absurd ((nI_leI (by omega) (by omega)).mpr (by omega)) c_132
              · have hv : vld F S cell y = false := by unfold vld; rw [hf, hh, hbs]; simpa using hle
                refine zw_iload_n dM_looksFor_48 rfl ?_
                refine zw_if_eq 103 dM_looksFor_49 (by decide) (fun c_49 => ?_) (fun c_49 => ?_)
                · exact absurd c_49 (by decide)
                · refine zw_aload_n dM_looksFor_52 rfl ?_
                  refine zw_get dM_looksFor_53 zf_M_45 (by first | exact hM1 _ | exact hA1 _ | exact hH1 _ | exact hS1 _) rfl ?_
                  refine zw_iload_n dM_looksFor_56 rfl ?_
                  refine zw_iald dM_looksFor_57 (by first | exact hM1 _ | exact hA1 _ | exact hH1 _ | exact hS1 _) hin ?_
                  rw [eyc, eh2]
                  refine zw_bipush (v := (-9)) dM_looksFor_58 (by decide) ?_
                  refine zw_icmp_eq 103 dM_looksFor_60 (by decide) (fun c_60 => ?_) (fun c_60 => ?_)
                  · exact absurd c_60 e9h
                  · refine zw_aload_n dM_looksFor_63 rfl ?_
                    refine zw_get dM_looksFor_64 zf_M_42 (by first | exact hM1 _ | exact hA1 _ | exact hH1 _ | exact hS1 _) rfl ?_
                    refine zw_iload_n dM_looksFor_67 rfl ?_
                    refine zw_iald dM_looksFor_68 (by first | exact hM1 _ | exact hA1 _ | exact hH1 _ | exact hS1 _) hin ?_
                    rw [eyc, ef2]
                    refine zw_bipush (v := (-9)) dM_looksFor_69 (by decide) ?_
                    refine zw_icmp_eq 103 dM_looksFor_71 (by decide) (fun c_71 => ?_) (fun c_71 => ?_)
                    · exact absurd c_71 e9f
                    · refine zw_aload_n dM_looksFor_74 rfl ?_
                      refine zw_get dM_looksFor_75 zf_M_42 (by first | exact hM1 _ | exact hA1 _ | exact hH1 _ | exact hS1 _) rfl ?_
                      refine zw_iload_n dM_looksFor_78 rfl ?_
                      refine zw_iald dM_looksFor_79 (by first | exact hM1 _ | exact hA1 _ | exact hH1 _ | exact hS1 _) hin ?_
                      rw [eyc, ef2]
                      refine zw_aload_n dM_looksFor_80 rfl ?_
                      refine zw_get dM_looksFor_81 zf_M_45 (by first | exact hM1 _ | exact hA1 _ | exact hH1 _ | exact hS1 _) rfl ?_
                      refine zw_iload_n dM_looksFor_84 rfl ?_
                      refine zw_iald dM_looksFor_85 (by first | exact hM1 _ | exact hA1 _ | exact hH1 _ | exact hS1 _) hin ?_
                      rw [eyc, eh2]
                      refine zw_iadd dM_looksFor_86 ?_
                      refine zw_iconst (v := 2) dM_looksFor_87 (by decide) ?_
                      refine zw_iadd dM_looksFor_88 ?_
                      rw [esum]
                      refine zw_aload_n dM_looksFor_89 rfl ?_
                      refine zw_get dM_looksFor_90 zf_M_16 (by first | exact hM1 _ | exact hA1 _ | exact hH1 _ | exact hS1 _) rfl ?_
                      refine zw_bipush (v := 110) dM_looksFor_93 (by decide) ?_
                      refine zw_iald dM_looksFor_95 (by first | exact hM1 _ | exact hA1 _ | exact hH1 _ | exact hS1 _) v110 ?_
                      rw [e110, ms_110]
                      refine zw_icmp_gt 103 dM_looksFor_96 (by decide) (fun c_96 => ?_) (fun c_96 => ?_)
                      · exact zw_lk (SAME hv) ⟨rfl, rfl, rfl, trivial⟩
                      · exact absurd ((nI_ltI (by omega) (by omega)).mpr (by omega)) c_96
      have LB : ∀ (m2 hd : Nat), hd + m2 = 4 → WW l g mM_looksFor (zrm (d + 2) 0 0) (fun _ => True) (zQQ g (PVh (fun h' => ∃ qb', bR R qb' ∧ h' = h.set 31 (mC F un le qa qb'))) (h.length + 0) 0 0) 15 [(0, some (.ref 31)), (1, some (.int (nI cell))), (2, some (.int (nI y))), (3, some (.int (if bsd F cell y hd = true then 1 else 0))), (4, some (.int (nI hd)))] [] (h.set 31 (mC F un le qa q)) 0 0 := by
        intro m2
        induction m2 with
        | zero =>
          intro hd hhd
          have hhd : hd = 4 := by omega
          subst hhd
          refine zw_iload dM_looksFor_15 rfl ?_
          refine zw_iconst (v := 4) dM_looksFor_17 (by decide) ?_
          refine zw_icmp_ge 48 dM_looksFor_18 (by decide) (fun c_18 => ?_) (fun c_18 => ?_)
          · exact zw_lk BD ⟨rfl, rfl, rfl, rfl, trivial⟩
          · exact absurd (Int32.le_refl _) c_18
        | succ m2 ih2 =>
          intro hd hhd
          have hh : hd < 4 := by omega
          have I := ih2 (hd + 1) (by omega)
          have es : bsd F cell y (hd + 1) = (bsd F cell y hd || (nb F cell hd == some y)) := rfl
          have cb := c_M_beside (l := l) (g := g) (d := d) hF (hM1 q) hc hh
          have hnb : ∀ v, nb F cell hd = some v → v ≤ 36 := fun v e => by have := (nb_spec hF hc hh e).1; omega
          have en := dI_n (n := y) hnb (by omega)
          cases h1 : bsd F cell y hd with
          | true =>
            rw [h1, Bool.true_or] at es
            rw [es] at I
            refine zw_iload dM_looksFor_15 rfl ?_
            refine zw_iconst (v := 4) dM_looksFor_17 (by decide) ?_
            refine zw_icmp_ge 48 dM_looksFor_18 (by decide) (fun c_18 => ?_) (fun c_18 => ?_)
            · exact absurd ((nI_leI (a := 4) (by omega) (by omega)).mp c_18) (by omega)
            · refine zw_iload_n dM_looksFor_21 rfl ?_
              refine zw_if_ne 36 dM_looksFor_22 (by decide) (fun c_22 => ?_) (fun c_22 => ?_)
              · refine zw_iconst (v := 1) dM_looksFor_36 (by decide) ?_
                refine zw_goto 41 dM_looksFor_37 (by decide) ?_
                refine zw_istore_n dM_looksFor_41 (by decide) rfl ?_
                refine zw_incN dM_looksFor_42 rfl (by decide) rfl ?_
                refine zw_goto 15 dM_looksFor_45 (by decide) ?_
                exact zw_lk I ⟨rfl, rfl, rfl, rfl, rfl, trivial⟩
              · exact absurd c_22 (by decide)
          | false =>
            rw [h1, Bool.false_or] at es
            rw [es] at I
            by_cases h2 : nb F cell hd = some y
            · rw [show (nb F cell hd == some y) = true from by rw [h2]; simp] at I
              refine zw_iload dM_looksFor_15 rfl ?_
              refine zw_iconst (v := 4) dM_looksFor_17 (by decide) ?_
              refine zw_icmp_ge 48 dM_looksFor_18 (by decide) (fun c_18 => ?_) (fun c_18 => ?_)
              · exact absurd ((nI_leI (a := 4) (by omega) (by omega)).mp c_18) (by omega)
              · refine zw_iload_n dM_looksFor_21 rfl ?_
                refine zw_if_ne 36 dM_looksFor_22 (by decide) (fun c_22 => ?_) (fun c_22 => ?_)
                · exact absurd rfl c_22
                · refine zw_aload_n dM_looksFor_25 rfl ?_
                  refine zw_iload_n dM_looksFor_26 rfl ?_
                  refine zw_iload dM_looksFor_27 rfl ?_
                  refine zc_V2I dM_looksFor_29 zm_M_beside zk_M_109 (hM1 _) rfl cb ?_ zRR (Nat.le_of_ble_eq_true rfl) ⟨Nat.le_of_ble_eq_true rfl, Nat.le_of_ble_eq_true rfl⟩
                  refine zw_iload_n dM_looksFor_32 rfl ?_
                  refine zw_icmp_ne 40 dM_looksFor_33 (by decide) (fun c_33 => ?_) (fun c_33 => ?_)
                  · exact absurd (en.mpr h2) c_33
                  · refine zw_iconst (v := 1) dM_looksFor_36 (by decide) ?_
                    refine zw_goto 41 dM_looksFor_37 (by decide) ?_
                    refine zw_istore_n dM_looksFor_41 (by decide) rfl ?_
                    refine zw_incN dM_looksFor_42 rfl (by decide) rfl ?_
                    refine zw_goto 15 dM_looksFor_45 (by decide) ?_
                    exact zw_lk I ⟨rfl, rfl, rfl, rfl, rfl, trivial⟩
            · rw [show (nb F cell hd == some y) = false from by simpa using h2] at I
              refine zw_iload dM_looksFor_15 rfl ?_
              refine zw_iconst (v := 4) dM_looksFor_17 (by decide) ?_
              refine zw_icmp_ge 48 dM_looksFor_18 (by decide) (fun c_18 => ?_) (fun c_18 => ?_)
              · exact absurd ((nI_leI (a := 4) (by omega) (by omega)).mp c_18) (by omega)
              · refine zw_iload_n dM_looksFor_21 rfl ?_
                refine zw_if_ne 36 dM_looksFor_22 (by decide) (fun c_22 => ?_) (fun c_22 => ?_)
                · exact absurd rfl c_22
                · refine zw_aload_n dM_looksFor_25 rfl ?_
                  refine zw_iload_n dM_looksFor_26 rfl ?_
                  refine zw_iload dM_looksFor_27 rfl ?_
                  refine zc_V2I dM_looksFor_29 zm_M_beside zk_M_109 (hM1 _) rfl cb ?_ zRR (Nat.le_of_ble_eq_true rfl) ⟨Nat.le_of_ble_eq_true rfl, Nat.le_of_ble_eq_true rfl⟩
                  refine zw_iload_n dM_looksFor_32 rfl ?_
                  refine zw_icmp_ne 40 dM_looksFor_33 (by decide) (fun c_33 => ?_) (fun c_33 => ?_)
                  · refine zw_iconst (v := 0) dM_looksFor_40 (by decide) ?_
                    refine zw_istore_n dM_looksFor_41 (by decide) rfl ?_
                    refine zw_incN dM_looksFor_42 rfl (by decide) rfl ?_
                    refine zw_goto 15 dM_looksFor_45 (by decide) ?_
                    exact zw_lk I ⟨rfl, rfl, rfl, rfl, rfl, trivial⟩
                  · exact absurd (en.mp c_33) h2
      refine zw_iload_n dM_looksFor_2 rfl ?_
      refine zw_aload_n dM_looksFor_3 rfl ?_
      refine zc_V0I dM_looksFor_4 zm_M_cells zk_M_57 (hM1 _) rfl (c_M_cells (hM1 _)) ?_ zRR (Nat.le_of_ble_eq_true rfl) ⟨Nat.le_of_ble_eq_true rfl, Nat.le_of_ble_eq_true rfl⟩
      refine zw_icmp_ge 175 dM_looksFor_7 (by decide) (fun c_7 => ?_) (fun c_7 => ?_)
      · exact absurd ((nI_leI (by omega) (by omega)).mp c_7) (by omega)
      · refine zw_iconst (v := 0) dM_looksFor_10 (by decide) ?_
        refine zw_istore_n dM_looksFor_11 (by decide) rfl ?_
        refine zw_iconst (v := 0) dM_looksFor_12 (by decide) ?_
        refine zw_istore dM_looksFor_13 (by decide) rfl ?_
        exact zw_lk (LB 4 0 (by omega)) ⟨rfl, rfl, rfl, rfl, rfl, trivial⟩
  refine zw_iconst (v := 0) dM_looksFor_0 (by decide) ?_
  refine zw_istore_n dM_looksFor_1 (by decide) rfl ?_
  have L0 := L (fN F) 0 cur qb (by omega) hcu hq hR.symm
  rw [zs_self hM] at L0
  exact zw_lk L0 ⟨rfl, rfl, rfl, trivial⟩
end C65
