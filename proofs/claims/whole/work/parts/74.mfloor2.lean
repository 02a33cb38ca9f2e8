/-! ===== the reference reads a floor ===== -/
section C74
variable {l : Launch} {g : zG} {d : Nat} {h : zH} {un le : Nat} {qb : I4}
theorem mfl_tail {F : Fl} {P : PS} {nd : Int32} {re f ik : Nat → Int32} (hP : pOK P) (hr : relP P nd re) (h0 : P.2.2.1 = 0) (hr0 : 0 < P.1) {dc : Nat} (hdk : P.2.2.2.2 = some dc) (hM : h[31]? = some (mC F un le (pA P nd) qb)) (hS : h[32]? = some (iA 114 f)) (hK : h[34]? = some (bA ik)) (hR : h[38]? = some (iA 36 re)) (S : Sit) {PQ : Option Value → zH → Prop} (hPQ : ∀ (h' : zH) (f' : Nat → Int32), h'[31]? = some (mC (pFl P) 0 0 (pA P nd) qb) → h'[32]? = some (sC (pFl P) (bgS (pFl P) S) f') → h'[34]? = some (bA (fun _ => 0)) → (∀ j, j ≠ 31 → j ≠ 32 → j ≠ 34 → h'[j]? = h[j]?) → h'.length = h.length → PQ (some (.int (nI (fN (pFl P))))) h') : WW l g mM_floor (zrm (d + 2) 0 0) (fun _ => True) (zQQ g PQ (h.length + 0) 0 0) 97 [(0, some (.ref 31))] [] h 0 0 := by
  have hF := pFl_ok hP h0 hr0 (by rw [hdk]; exact fun q => by cases q)
  have h36 := fN_le hF
  have eF : pFl P = (P.2.1, P.1, dc, P.2.2.2.1) := by unfold pFl; rw [hdk]; rfl
  obtain ⟨r1, r2⟩ := id hr
  rw [hdk] at r2
  obtain ⟨r, c, q1, q2, q3⟩ : ∃ r c, inP' P r c ∧ dc = r * P.2.1 + c ∧ nd = nI (6 * r + c) := r2
  have io := inP_lt hP q1
  obtain ⟨hw1, hw6⟩ : 1 ≤ P.2.1 ∧ P.2.1 ≤ 6 := by have h1 := hF.1; rw [eF] at h1; exact h1
  have hH6 : P.1 ≤ 6 := hP.1
  have eN : fN (pFl P) = P.2.1 * P.1 := by rw [eF]; rfl
  have ed : nd / 6 = nI r := by
    rw [q3, show nI (6 * r + c) / 6 = nI ((6 * r + c) / 6) from pk_div (d := 6) (by omega) (by decide) (by decide)]
    congr 1
    omega
  have em : nd - nI r * 6 = nI c := by
    rw [← ed, q3, show nI (6 * r + c) - nI (6 * r + c) / 6 * 6 = nI ((6 * r + c) % 6) from pk_rem (d := 6) (by omega) (by decide) (by decide)]
    congr 1
    omega
  have e3 : nI r * nI P.2.1 + nI c = nI dc := by rw [pk_mul, nI_add, q2]
  obtain ⟨pa, hpa⟩ : ∃ pa, pa = pA P nd := ⟨_, rfl⟩
  have pa1 : pa.1 = nI P.1 := by rw [hpa]; rfl
  have pa2 : pa.2.1 = nI P.2.1 := by rw [hpa]; rfl
  have pa4 : pa.2.2.2 = nd := by rw [hpa]; rfl
  rw [← hpa] at hM hPQ
  have hM31 : ∀ G, (h.set 31 (mC G un le pa qb))[31]? = some (mC G un le pa qb) := fun G => zg_eq hM
  have z1 : ∀ G G', (h.set 31 (mC G un le pa qb)).set 31 (mC G' un le pa qb) = h.set 31 (mC G' un le pa qb) := fun G G' => zs_set _ _ _ _
  have n6 : ¬ (6 : Int32) = 0 := by decide
  have hw0 : ¬ nI P.2.1 = 0 := nI_ne0 hw1 (by omega)
  -- the floor's numbers stand
  obtain ⟨hc, hhc⟩ : ∃ hc, hc = h.set 31 (mC (pFl P) un le pa qb) := ⟨_, rfl⟩
  have cM : hc[31]? = some (mC (pFl P) un le pa qb) := by rw [hhc]; exact zg_eq hM
  have cS : hc[32]? = some (iA 114 f) := by rw [hhc]; exact zg_ne (by decide) hS
  have cK : hc[34]? = some (bA ik) := by rw [hhc]; exact zg_ne (by decide) hK
  have cR : hc[38]? = some (iA 36 re) := by rw [hhc]; exact zg_ne (by decide) hR
  have cl : hc.length = h.length := by rw [hhc, zs_len]
  have cO : ∀ j, j ≠ 31 → hc[j]? = h[j]? := fun j hj => by rw [hhc]; exact zg_ne (Ne.symm hj) rfl
  have cM32 : ∀ x, (hc.set 32 x)[31]? = some (mC (pFl P) un le pa qb) := fun x => zg_ne (by decide) cM
  have cS32 : ∀ x, (hc.set 32 x)[32]? = some x := fun x => zg_eq cS
  have cR32 : ∀ x, (hc.set 32 x)[38]? = some (iA 36 re) := fun x => zg_ne (by decide) cR
  have cK32 : ∀ x, (hc.set 32 x)[34]? = some (bA ik) := fun x => zg_ne (by decide) cK
  obtain ⟨v, hv⟩ : ∃ v : Nat → Int32, v = fun k => re (6 * (k / P.2.1) + k % P.2.1) := ⟨_, rfl⟩
  have hvk : ∀ i, i < fN (pFl P) → v i = nI (fK (pFl P) i) := by
    intro i hi
    rw [eN] at hi
    have a1 : i / P.2.1 < P.1 := Nat.div_lt_of_lt_mul hi
    have a2 : i % P.2.1 < P.2.1 := Nat.mod_lt _ hw1
    rw [hv]
    dsimp only
    rw [r1 _ _ (Or.inl ⟨a1, a2⟩), Nat.div_add_mod', eF]
    rfl
  have L : ∀ (m i : Nat), i + m = fN (pFl P) → WW l g mM_floor (zrm (d + 2) 0 0) (fun _ => True) (zQQ g PQ (h.length + 0) 0 0) 139 [(0, some (.ref 31)), (1, some (.int (nI i)))] [] (hc.set 32 (iA 114 (fil f 0 i v))) 0 0 := by
    intro m
    induction m with
    | zero =>
      intro i hi
      have hi : i = fN (pFl P) := by omega
      subst hi
      have hk : ∀ i, i < fN (pFl P) → fil f 0 (fN (pFl P)) v i = nI (fK (pFl P) i) := fun i hi => by rw [fil0 hi]; exact hvk i hi
      obtain ⟨f', hf'⟩ : ∃ f', f' = fil f 0 (fN (pFl P)) v := ⟨_, rfl⟩
      rw [← hf'] at hk ⊢
      obtain ⟨hd, hhd⟩ : ∃ hd, hd = hc.set 32 (iA 114 f') := ⟨_, rfl⟩
      have dM : hd[31]? = some (mC (pFl P) un le pa qb) := by rw [hhd]; exact cM32 _
      have dS : hd[32]? = some (iA 114 f') := by rw [hhd]; exact cS32 _
      have dK : hd[34]? = some (bA ik) := by rw [hhd]; exact cK32 _
      have dl : hd.length = h.length := by rw [hhd, zs_len, cl]
      have dO : ∀ j, j ≠ 31 → j ≠ 32 → hd[j]? = h[j]? := fun j h1 h2 => by rw [hhd]; exact (zg_ne (Ne.symm h2) rfl).trans (cO j h1)
      rw [← hhd]
      have cb := c_M_begins (l := l) (g := g) (d := d) hF dM dS dK hk S
      obtain ⟨he, hhe⟩ : ∃ he, he = ((hd.set 32 (sC (pFl P) (bgS (pFl P) S) f')).set 31 (mC (pFl P) 0 le pa qb)).set 34 (bA (fun _ => 0)) := ⟨_, rfl⟩
      rw [← hhe] at cb
      have eM : he[31]? = some (mC (pFl P) 0 le pa qb) := by rw [hhe]; exact zg_ne (by decide) (zg_eq (zg_ne (by decide) dM))
      have eS : he[32]? = some (sC (pFl P) (bgS (pFl P) S) f') := by rw [hhe]; exact zg_ne (by decide) (zg_ne (by decide) (zg_eq dS))
      have eK : he[34]? = some (bA (fun _ => 0)) := by rw [hhe]; exact zg_eq (zg_ne (by decide) (zg_ne (by decide) dK))
      have el : he.length = h.length := by rw [hhe, zs_len, zs_len, zs_len, dl]
      have eO : ∀ j, j ≠ 31 → j ≠ 32 → j ≠ 34 → he[j]? = h[j]? := fun j h1 h2 h3 => by rw [hhe]; exact (zg_ne (Ne.symm h3) (zg_ne (Ne.symm h1) (zg_ne (Ne.symm h2) rfl))).trans (dO j h1 h2)
      have fM : (he.set 31 (mC (pFl P) 0 0 pa qb))[31]? = some (mC (pFl P) 0 0 pa qb) := zg_eq eM
      have fP := hPQ (he.set 31 (mC (pFl P) 0 0 pa qb)) f' fM (zg_ne (by decide) eS) (zg_ne (by decide) eK) (fun j h1 h2 h3 => (zg_ne (Ne.symm h1) rfl).trans (eO j h1 h2 h3)) (by rw [zs_len, el])
      refine zw_iload_n dM_floor_139 rfl ?_
      refine zw_aload_n dM_floor_140 rfl ?_
      refine zc_V0I dM_floor_141 zm_M_cells zk_M_57 dM rfl (c_M_cells dM) ?_ zRR (Nat.le_of_ble_eq_true rfl) ⟨Nat.le_of_ble_eq_true rfl, Nat.le_of_ble_eq_true rfl⟩
      refine zw_icmp_ge 180 dM_floor_144 (by decide) (fun c_144 => ?_) (fun c_144 => ?_)
      · refine zw_aload_n dM_floor_180 rfl ?_
        refine zc_V0V dM_floor_181 zm_M_begins zk_M_54 dM rfl cb ?_ zRR (Nat.le_of_ble_eq_true rfl) ⟨Nat.le_of_ble_eq_true rfl, Nat.le_of_ble_eq_true rfl⟩
        refine zw_aload_n dM_floor_184 rfl ?_
        refine zw_iconst (v := 0) dM_floor_185 (by decide) ?_
        refine zw_puti dM_floor_186 zf_M_71 eM (Nat.le_of_ble_eq_true rfl) ?_
        refine zw_h (show _ = he.set 31 (mC (pFl P) 0 0 pa qb) from rfl) ?_
        refine zw_aload_n dM_floor_189 rfl ?_
        refine zc_V0I dM_floor_190 zm_M_cells zk_M_57 fM rfl (c_M_cells fM) ?_ zRR (Nat.le_of_ble_eq_true rfl) ⟨Nat.le_of_ble_eq_true rfl, Nat.le_of_ble_eq_true rfl⟩
        exact zw_iret dM_floor_193 rfl rfl (by rw [zs_len, el]; rfl) fP
      · exact absurd (Int32.le_refl _) c_144
    | succ m ih =>
      intro i hi
      have hi2 : i < P.2.1 * P.1 := by rw [← eN]; omega
      have a1 : i / P.2.1 < P.1 := Nat.div_lt_of_lt_mul hi2
      have a2 : i % P.2.1 < P.2.1 := Nat.mod_lt _ hw1
      have ecl : (nI i).toNatClampNeg = i := nI_clamp (by omega)
      have eq1 : nI i / nI P.2.1 = nI (i / P.2.1) := pk_div (by omega) hw1 (by omega)
      have eq2 : nI i - nI (i / P.2.1) * nI P.2.1 = nI (i % P.2.1) := by rw [← eq1]; exact pk_rem (by omega) hw1 (by omega)
      have eq3 : (6 : Int32) * nI (i / P.2.1) = nI (6 * (i / P.2.1)) := pk_mul 6 _
      have eq4 : (nI (6 * (i / P.2.1) + i % P.2.1)).toNatClampNeg = 6 * (i / P.2.1) + i % P.2.1 := nI_clamp (by omega)
      have eq5 : re (6 * (i / P.2.1) + i % P.2.1) = v i := by rw [hv]
      have eW : nI (fW (pFl P)) = nI P.2.1 := rfl
      refine zw_iload_n dM_floor_139 rfl ?_
      refine zw_aload_n dM_floor_140 rfl ?_
      refine zc_V0I dM_floor_141 zm_M_cells zk_M_57 (by first | exact cM32 _ | exact cS32 _ | exact cR32 _) rfl (c_M_cells (cM32 _)) ?_ zRR (Nat.le_of_ble_eq_true rfl) ⟨Nat.le_of_ble_eq_true rfl, Nat.le_of_ble_eq_true rfl⟩
      refine zw_icmp_ge 180 dM_floor_144 (by decide) (fun c_144 => ?_) (fun c_144 => ?_)
      · exact absurd ((nI_leI (by omega) (by omega)).mp c_144) (by omega)
      · refine zw_aload_n dM_floor_147 rfl ?_
        refine zw_get dM_floor_148 zf_M_16 (by first | exact cM32 _ | exact cS32 _ | exact cR32 _) rfl ?_
        refine zw_iload_n dM_floor_151 rfl ?_
        refine zw_aload_n dM_floor_152 rfl ?_
        refine zw_get dM_floor_153 zf_M_36 (by first | exact cM32 _ | exact cS32 _ | exact cR32 _) rfl ?_
        refine zw_bipush (v := 6) dM_floor_156 (by decide) ?_
        refine zw_iload_n dM_floor_158 rfl ?_
        refine zw_aload_n dM_floor_159 rfl ?_
        refine zw_get dM_floor_160 zf_M_7 (by first | exact cM32 _ | exact cS32 _ | exact cR32 _) rfl ?_
        refine zw_idiv dM_floor_163 hw0 ?_
        rw [eW, eq1]
        refine zw_imul dM_floor_164 ?_
        rw [eq3]
        refine zw_iload_n dM_floor_165 rfl ?_
        refine zw_aload_n dM_floor_166 rfl ?_
        refine zw_get dM_floor_167 zf_M_7 (by first | exact cM32 _ | exact cS32 _ | exact cR32 _) rfl ?_
        refine zw_irem dM_floor_170 hw0 ?_
        rw [eW, eq1, eq2]
        refine zw_iadd dM_floor_171 ?_
        rw [nI_add]
        refine zw_iald dM_floor_172 (by first | exact cM32 _ | exact cS32 _ | exact cR32 _) (vp_in_nI (show 6 * (i / P.2.1) + i % P.2.1 < 36 by omega) (by decide)) ?_
        rw [eq4, eq5]
        refine zw_iast dM_floor_173 (by first | exact cM32 _ | exact cS32 _ | exact cR32 _) (vp_in_nI (show i < 114 by omega) (by decide)) ?_
        rw [ecl]
        refine zw_h (iAu (fil_0s _ _ v)) ?_
        refine zw_incN dM_floor_174 rfl (by decide) rfl ?_
        refine zw_goto 139 dM_floor_177 (by decide) ?_
        exact zw_lk (ih (i + 1) (by omega)) ⟨rfl, rfl, trivial⟩
  refine zw_aload_n dM_floor_97 rfl ?_
  refine zw_aload_n dM_floor_98 rfl ?_
  refine zw_get dM_floor_99 zf_M_80 hM rfl ?_
  rw [pa2]
  refine zw_puti dM_floor_102 zf_M_7 hM (Nat.le_of_ble_eq_true rfl) ?_
  refine zw_h (show _ = h.set 31 (mC (P.2.1, fH F, fD F, fK F) un le pa qb) from rfl) ?_
  refine zw_aload_n dM_floor_105 rfl ?_
  refine zw_aload_n dM_floor_106 rfl ?_
  refine zw_get dM_floor_107 zf_M_77 (hM31 (P.2.1, fH F, fD F, fK F)) rfl ?_
  rw [pa1]
  refine zw_puti dM_floor_110 zf_M_13 (hM31 (P.2.1, fH F, fD F, fK F)) (Nat.le_of_ble_eq_true rfl) ?_
  refine zw_h (show _ = (h.set 31 (mC (P.2.1, fH F, fD F, fK F) un le pa qb)).set 31 (mC (P.2.1, P.1, fD F, fK F) un le pa qb) from rfl) ?_
  refine zw_h (z1 _ _) ?_
  refine zw_aload_n dM_floor_113 rfl ?_
  refine zw_aload_n dM_floor_114 rfl ?_
  refine zw_get dM_floor_115 zf_M_87 (hM31 (P.2.1, P.1, fD F, fK F)) rfl ?_
  rw [pa4]
  refine zw_bipush (v := 6) dM_floor_118 (by decide) ?_
  refine zw_idiv dM_floor_120 n6 ?_
  rw [ed]
  refine zw_aload_n dM_floor_121 rfl ?_
  refine zw_get dM_floor_122 zf_M_7 (hM31 (P.2.1, P.1, fD F, fK F)) rfl ?_
  refine zw_imul dM_floor_125 ?_
  refine zw_aload_n dM_floor_126 rfl ?_
  refine zw_get dM_floor_127 zf_M_87 (hM31 (P.2.1, P.1, fD F, fK F)) rfl ?_
  rw [pa4]
  refine zw_bipush (v := 6) dM_floor_130 (by decide) ?_
  refine zw_irem dM_floor_132 n6 ?_
  rw [ed, em]
  refine zw_iadd dM_floor_133 ?_
  rw [show fW (P.2.1, P.1, fD F, fK F) = P.2.1 from rfl, e3]
  refine zw_puti dM_floor_134 zf_M_61 (hM31 (P.2.1, P.1, fD F, fK F)) (Nat.le_of_ble_eq_true rfl) ?_
  refine zw_h (show _ = (h.set 31 (mC (P.2.1, P.1, fD F, fK F) un le pa qb)).set 31 (mC (P.2.1, P.1, dc, P.2.2.2.1) un le pa qb) from rfl) ?_
  refine zw_h (z1 _ _) ?_
  refine zw_h (show _ = hc from by rw [hhc, eF]) ?_
  refine zw_iconst (v := 0) dM_floor_137 (by decide) ?_
  refine zw_istore_n dM_floor_138 (by decide) rfl ?_
  refine zw_lk (ls2 := [(0, some (.ref 31)), (1, some (.int (nI 0)))]) ?_ ⟨rfl, rfl, trivial⟩
  have L0 := L (fN (pFl P)) 0 (by omega)
  rw [fil_0, zs_self cS] at L0
  exact L0
theorem c_M_floor {O : Om} (a : MX h O) (ok : oOK' O) : Run l g mM_floor (d + 2) 0 0 [.ref 31] h (PIh (rFloor O) (MP h (nFloor O))) := by
  obtain ⟨⟨qa, qb, z, hM, hS⟩, au, ai, ⟨te, hT, ht⟩, az⟩ := id a
  obtain ⟨sp, re0, np, fa, ho, tg, ro, a36, a38, a39, a40, a41, a42, a43⟩ := id az
  have hlen : oLen O ≤ 60 := ok.2.2.2.2.2
  obtain ⟨ik, ke, i34, i35, -⟩ := id ai
  obtain ⟨upa, u33, -⟩ := id au
  have K31 : ∀ re q, ((h.set 38 (iA 36 re)).set 31 (mC (oF O) (oSz O) (oLen O) q qb))[31]? = some (mC (oF O) (oSz O) (oLen O) q qb) := fun re q => zg_eq (zg_ne (by decide) hM)
  have K38 : ∀ re c, ((h.set 38 (iA 36 re)).set 31 c)[38]? = some (iA 36 re) := fun re c => zg_ne (by decide) (zg_eq a38)
  have KK : ∀ re c j, j ≠ 31 → j ≠ 38 → ((h.set 38 (iA 36 re)).set 31 c)[j]? = h[j]? := fun re c j h1 h2 => zg_ne (Ne.symm h1) (zg_ne (Ne.symm h2) rfl)
  have K37 : ∀ re c, ((h.set 38 (iA 36 re)).set 31 c)[37]? = some (iA 60 te) := fun re c => (KK re c 37 (by decide) (by decide)).trans hT
  have KL : ∀ re c, ((h.set 38 (iA 36 re)).set 31 c).length = h.length := fun re c => by rw [zs_len, zs_len]
  have QO : ∀ re q, MP h O ((h.set 38 (iA 36 re)).set 31 (mC (oF O) (oSz O) (oLen O) q qb)) := fun re q => ⟨(a.scr (by decide) re).num q qb, frM.set2 (by decide) (by decide), KL re _⟩
  have L : ∀ (m i : Nat) (P : PS) (nd : Int32) (re : Nat → Int32), i + m = oLen O → pOK P → relP P nd re → prs (oT O) (oLen O) 0 pIni = prs (oT O) m i P → WW l g mM_floor (zrm (d + 2) 0 0) (fun _ => True) (zQQ g (PIh (rFloor O) (MP h (nFloor O))) (h.length + 0) 0 0) 23 [(0, some (.ref 31)), (1, some (.int (nI i)))] [] ((h.set 38 (iA 36 re)).set 31 (mC (oF O) (oSz O) (oLen O) (pA P nd) qb)) 0 0 := by
    intro m
    induction m with
    | zero =>
      intro i P nd re hi hP hr hq
      have hi : i = oLen O := by omega
      subst hi
      have hs6 : P.2.2.1 ≤ 6 := hP.2.2.1
      have hR6 : P.1 ≤ 6 := hP.1
      have g0 := c_M_cells (l := l) (g := g) (d := d) (K31 re (pA P nd))
      have p1 : (pA P nd).1 = nI P.1 := rfl
      have p3 : (pA P nd).2.2.1 = nI P.2.2.1 := rfl
      have p4 : (pA P nd).2.2.2 = nd := rfl
      have hnd : nd = -9 ↔ P.2.2.2.2 = none := by
        obtain ⟨R, w, s, kd, dk⟩ := P
        have r2 : dkR (R, w, s, kd, dk) nd dk := hr.2
        show nd = -9 ↔ dk = none
        cases dk with
        | none => exact ⟨fun _ => rfl, fun _ => r2⟩
        | some dc =>
          obtain ⟨r, c, q1, q2, q3⟩ := r2
          have := inP_lt hP q1
          constructor
          · intro q
            rw [q3] at q
            exact absurd q (nI_m9 (by omega))
          · intro q; cases q
      have hq0 : prs (oT O) (oLen O) 0 pIni = if P.2.2.1 = 0 ∧ 0 < P.1 ∧ P.2.2.2.2 ≠ none then .inr P else .inl (oLen O) := hq
      by_cases hw : P.2.2.1 = 0 ∧ 0 < P.1 ∧ P.2.2.2.2 ≠ none
      · rw [if_pos hw] at hq0
        have eR : rFloor O = nI (fN (pFl P)) := by unfold rFloor; rw [hq0]
        have eO : nFloor O = oMk (pFl P) (bgS (pFl P) (oS O)) (oT O) 0 (oU O) 0 (oI' O) (fun _ => false) := by unfold nFloor; rw [hq0]
        obtain ⟨dc, hdk⟩ : ∃ dc, P.2.2.2.2 = some dc := by cases hx : P.2.2.2.2 with | none => exact absurd hx hw.2.2 | some c => exact ⟨c, rfl⟩
        have T := mfl_tail (l := l) (g := g) (d := d) (h := (h.set 38 (iA 36 re)).set 31 (mC (oF O) (oSz O) (oLen O) (pA P nd) qb)) (PQ := PIh (rFloor O) (MP h (nFloor O))) hP hr hw.1 hw.2.1 hdk (K31 re _) ((KK re _ 32 (by decide) (by decide)).trans hS) ((KK re _ 34 (by decide) (by decide)).trans i34) (K38 re _) (oS O) (fun h' f' q1 q2 q3 q4 q5 => ⟨by rw [eR], by
          have q6 : ∀ j, j ≠ 31 → j ≠ 32 → j ≠ 34 → j ≠ 38 → h'[j]? = h[j]? := fun j a1 a2 a3 a4 => (q4 j a1 a2 a3).trans (KK re _ j a1 a4)
          rw [eO]
          refine ⟨⟨⟨_, _, f', q1, q2⟩, ⟨upa, (q6 33 (by decide) (by decide) (by decide) (by decide)).trans u33, fun r hr => absurd hr (Nat.not_lt_zero _)⟩, ⟨fun _ => 0, ke, q3, (q6 35 (by decide) (by decide) (by decide) (by decide)).trans i35, fun i _ => ⟨rfl, fun q => absurd q Bool.false_ne_true⟩⟩, ⟨te, (q6 37 (by decide) (by decide) (by decide) (by decide)).trans hT, fun i hi => absurd hi (Nat.not_lt_zero _)⟩, ⟨sp, re, np, fa, ho, tg, ro, (q6 36 (by decide) (by decide) (by decide) (by decide)).trans a36, (q4 38 (by decide) (by decide) (by decide)).trans (K38 re _), (q6 39 (by decide) (by decide) (by decide) (by decide)).trans a39, (q6 40 (by decide) (by decide) (by decide) (by decide)).trans a40, (q6 41 (by decide) (by decide) (by decide) (by decide)).trans a41, (q6 42 (by decide) (by decide) (by decide) (by decide)).trans a42, (q6 43 (by decide) (by decide) (by decide) (by decide)).trans a43⟩⟩, fun j hj => q6 j (by omega) (by omega) (by omega) (by omega), by rw [q5, KL]⟩⟩)
        rw [KL] at T
        refine zw_iload_n dM_floor_23 rfl ?_
        refine zw_aload_n dM_floor_24 rfl ?_
        refine zw_get dM_floor_25 zf_M_71 (K31 re (pA P nd)) rfl ?_
        refine zw_icmp_ge 66 dM_floor_28 (by decide) (fun c_28 => ?_) (fun c_28 => ?_)
        · refine zw_aload_n dM_floor_66 rfl ?_
          refine zw_get dM_floor_67 zf_M_74 (K31 re (pA P nd)) rfl ?_
          refine zw_if_gt 89 dM_floor_70 (by decide) (fun c_70 => ?_) (fun c_70 => ?_)
          · rw [p3, hw.1] at c_70
            exact absurd c_70 (by decide)
          · refine zw_aload_n dM_floor_73 rfl ?_
            refine zw_get dM_floor_74 zf_M_77 (K31 re (pA P nd)) rfl ?_
            refine zw_if_eq 89 dM_floor_77 (by decide) (fun c_77 => ?_) (fun c_77 => ?_)
            · rw [p1] at c_77
              exact absurd c_77 (nI_ne0 hw.2.1 (by omega))
            · refine zw_aload_n dM_floor_80 rfl ?_
              refine zw_get dM_floor_81 zf_M_87 (K31 re (pA P nd)) rfl ?_
              refine zw_bipush (v := (-9)) dM_floor_84 (by decide) ?_
              refine zw_icmp_ne 97 dM_floor_86 (by decide) (fun c_86 => ?_) (fun c_86 => ?_)
              · exact zw_lk T ⟨rfl, trivial⟩
              · rw [p4] at c_86
                exact absurd (hnd.mp c_86) hw.2.2
        · exact absurd (Int32.le_refl _) c_28
      · rw [if_neg hw] at hq0
        have eR : rFloor O = -10 - nI (oLen O) := by unfold rFloor; rw [hq0]
        have eO : nFloor O = O := by unfold nFloor; rw [hq0]
        rw [eR, eO]
        refine zw_iload_n dM_floor_23 rfl ?_
        refine zw_aload_n dM_floor_24 rfl ?_
        refine zw_get dM_floor_25 zf_M_71 (K31 re (pA P nd)) rfl ?_
        refine zw_icmp_ge 66 dM_floor_28 (by decide) (fun c_28 => ?_) (fun c_28 => ?_)
        · refine zw_aload_n dM_floor_66 rfl ?_
          refine zw_get dM_floor_67 zf_M_74 (K31 re (pA P nd)) rfl ?_
          refine zw_if_gt 89 dM_floor_70 (by decide) (fun c_70 => ?_) (fun c_70 => ?_)
          · refine zw_bipush (v := (-10)) dM_floor_89 (by decide) ?_
            refine zw_aload_n dM_floor_91 rfl ?_
            refine zw_get dM_floor_92 zf_M_71 (K31 re (pA P nd)) rfl ?_
            refine zw_isub dM_floor_95 ?_
            exact zw_iret dM_floor_96 rfl rfl (by rw [KL]; rfl) ⟨rfl, QO re _⟩
          · refine zw_aload_n dM_floor_73 rfl ?_
            refine zw_get dM_floor_74 zf_M_77 (K31 re (pA P nd)) rfl ?_
            refine zw_if_eq 89 dM_floor_77 (by decide) (fun c_77 => ?_) (fun c_77 => ?_)
            · refine zw_bipush (v := (-10)) dM_floor_89 (by decide) ?_
              refine zw_aload_n dM_floor_91 rfl ?_
              refine zw_get dM_floor_92 zf_M_71 (K31 re (pA P nd)) rfl ?_
              refine zw_isub dM_floor_95 ?_
              exact zw_iret dM_floor_96 rfl rfl (by rw [KL]; rfl) ⟨rfl, QO re _⟩
            · refine zw_aload_n dM_floor_80 rfl ?_
              refine zw_get dM_floor_81 zf_M_87 (K31 re (pA P nd)) rfl ?_
              refine zw_bipush (v := (-9)) dM_floor_84 (by decide) ?_
              refine zw_icmp_ne 97 dM_floor_86 (by decide) (fun c_86 => ?_) (fun c_86 => ?_)
              · rw [p3] at c_70
                rw [p1] at c_77
                rw [p4] at c_86
                have g1 : P.2.2.1 = 0 := by
                  rcases Nat.eq_zero_or_pos P.2.2.1 with q | q
                  · exact q
                  · exact absurd ((nI_ltI (a := 0) (by omega) (by omega)).mpr q) c_70
                have g2 : 0 < P.1 := by
                  rcases Nat.eq_zero_or_pos P.1 with q | q
                  · exact absurd (by rw [q]; rfl) c_77
                  · exact q
                exact absurd ⟨g1, g2, fun q => c_86 (hnd.mpr q)⟩ hw
              · refine zw_bipush (v := (-10)) dM_floor_89 (by decide) ?_
                refine zw_aload_n dM_floor_91 rfl ?_
                refine zw_get dM_floor_92 zf_M_71 (K31 re (pA P nd)) rfl ?_
                refine zw_isub dM_floor_95 ?_
                exact zw_iret dM_floor_96 rfl rfl (by rw [KL]; rfl) ⟨rfl, QO re _⟩
        · exact absurd (Int32.le_refl _) c_28
    | succ m ih =>
      intro i P nd re hi hP hr hq
      have ecl : (nI i).toNatClampNeg = i := nI_clamp (by omega)
      have eT : te i = oT O i := ht i (by omega)
      have hq0 : prs (oT O) (oLen O) 0 pIni = if oT O i = 32 then prs (oT O) m (i + 1) P else match takL P (oT O i) with | none => .inl i | some P' => prs (oT O) m (i + 1) P' := hq
      have ct := c_M_takes (l := l) (g := g) (d := d) hP (x := oT O i) (K31 re (pA P nd)) (K38 re _) hr
      by_cases hx : oT O i = 32
      · rw [if_pos hx] at hq0
        have I := ih (i + 1) P nd re (by omega) hP hr hq0
        refine zw_iload_n dM_floor_23 rfl ?_
        refine zw_aload_n dM_floor_24 rfl ?_
        refine zw_get dM_floor_25 zf_M_71 (by first | exact K31 re (pA P nd) | exact K37 re _) rfl ?_
        refine zw_icmp_ge 66 dM_floor_28 (by decide) (fun c_28 => ?_) (fun c_28 => ?_)
        · exact absurd ((nI_leI (by omega) (by omega)).mp c_28) (by omega)
        · refine zw_aload_n dM_floor_31 rfl ?_
          refine zw_get dM_floor_32 zf_M_33 (by first | exact K31 re (pA P nd) | exact K37 re _) rfl ?_
          refine zw_iload_n dM_floor_35 rfl ?_
          refine zw_iald dM_floor_36 (by first | exact K31 re (pA P nd) | exact K37 re _) (vp_in_nI (show i < 60 by omega) (by decide)) ?_
          rw [ecl, eT]
          refine zw_bipush (v := 32) dM_floor_37 (by decide) ?_
          refine zw_icmp_eq 60 dM_floor_39 (by decide) (fun c_39 => ?_) (fun c_39 => ?_)
          · refine zw_incN dM_floor_60 rfl (by decide) rfl ?_
            refine zw_goto 23 dM_floor_63 (by decide) ?_
            exact zw_lk I ⟨rfl, rfl, trivial⟩
          · exact absurd hx c_39
      · rw [if_neg hx] at hq0
        cases hk : takL P (oT O i) with
        | none =>
          rw [hk] at hq0 ct
          dsimp only at hq0
          have eR : rFloor O = -10 - nI i := by unfold rFloor; rw [hq0]
          have eO : nFloor O = O := by unfold nFloor; rw [hq0]
          rw [eR, eO]
          refine zw_iload_n dM_floor_23 rfl ?_
          refine zw_aload_n dM_floor_24 rfl ?_
          refine zw_get dM_floor_25 zf_M_71 (by first | exact K31 re (pA P nd) | exact K37 re _) rfl ?_
          refine zw_icmp_ge 66 dM_floor_28 (by decide) (fun c_28 => ?_) (fun c_28 => ?_)
          · exact absurd ((nI_leI (by omega) (by omega)).mp c_28) (by omega)
          · refine zw_aload_n dM_floor_31 rfl ?_
            refine zw_get dM_floor_32 zf_M_33 (by first | exact K31 re (pA P nd) | exact K37 re _) rfl ?_
            refine zw_iload_n dM_floor_35 rfl ?_
            refine zw_iald dM_floor_36 (by first | exact K31 re (pA P nd) | exact K37 re _) (vp_in_nI (show i < 60 by omega) (by decide)) ?_
            rw [ecl, eT]
            refine zw_bipush (v := 32) dM_floor_37 (by decide) ?_
            refine zw_icmp_eq 60 dM_floor_39 (by decide) (fun c_39 => ?_) (fun c_39 => ?_)
            · exact absurd c_39 hx
            · refine zw_aload_n dM_floor_42 rfl ?_
              refine zw_aload_n dM_floor_43 rfl ?_
              refine zw_get dM_floor_44 zf_M_33 (by first | exact K31 re (pA P nd) | exact K37 re _) rfl ?_
              refine zw_iload_n dM_floor_47 rfl ?_
              refine zw_iald dM_floor_48 (by first | exact K31 re (pA P nd) | exact K37 re _) (vp_in_nI (show i < 60 by omega) (by decide)) ?_
              rw [ecl, eT]
              refine zx_V1I dM_floor_49 zm_M_takes zk_M_90 (by first | exact K31 re (pA P nd) | exact K37 re _) rfl (ct) zRR (Nat.le_of_ble_eq_true rfl) ⟨Nat.le_of_ble_eq_true rfl, Nat.le_of_ble_eq_true rfl⟩ ?_
              intro h' hh'
              have hh2 : h' = (h.set 38 (iA 36 re)).set 31 (mC (oF O) (oSz O) (oLen O) (pA P nd) qb) := hh'
              subst hh2
              refine zw_if_ne 60 dM_floor_52 (by decide) (fun c_52 => ?_) (fun c_52 => ?_)
              · exact absurd rfl c_52
              · refine zw_bipush (v := (-10)) dM_floor_55 (by decide) ?_
                refine zw_iload_n dM_floor_57 rfl ?_
                refine zw_isub dM_floor_58 ?_
                exact zw_iret dM_floor_59 rfl rfl (by rw [KL]; rfl) ⟨rfl, QO re _⟩
        | some P' =>
          rw [hk] at hq0 ct
          dsimp only at hq0
          have hP' := takL_ok hP hk
          refine zw_iload_n dM_floor_23 rfl ?_
          refine zw_aload_n dM_floor_24 rfl ?_
          refine zw_get dM_floor_25 zf_M_71 (by first | exact K31 re (pA P nd) | exact K37 re _) rfl ?_
          refine zw_icmp_ge 66 dM_floor_28 (by decide) (fun c_28 => ?_) (fun c_28 => ?_)
          · exact absurd ((nI_leI (by omega) (by omega)).mp c_28) (by omega)
          · refine zw_aload_n dM_floor_31 rfl ?_
            refine zw_get dM_floor_32 zf_M_33 (by first | exact K31 re (pA P nd) | exact K37 re _) rfl ?_
            refine zw_iload_n dM_floor_35 rfl ?_
            refine zw_iald dM_floor_36 (by first | exact K31 re (pA P nd) | exact K37 re _) (vp_in_nI (show i < 60 by omega) (by decide)) ?_
            rw [ecl, eT]
            refine zw_bipush (v := 32) dM_floor_37 (by decide) ?_
            refine zw_icmp_eq 60 dM_floor_39 (by decide) (fun c_39 => ?_) (fun c_39 => ?_)
            · exact absurd c_39 hx
            · refine zw_aload_n dM_floor_42 rfl ?_
              refine zw_aload_n dM_floor_43 rfl ?_
              refine zw_get dM_floor_44 zf_M_33 (by first | exact K31 re (pA P nd) | exact K37 re _) rfl ?_
              refine zw_iload_n dM_floor_47 rfl ?_
              refine zw_iald dM_floor_48 (by first | exact K31 re (pA P nd) | exact K37 re _) (vp_in_nI (show i < 60 by omega) (by decide)) ?_
              rw [ecl, eT]
              refine zx_V1I dM_floor_49 zm_M_takes zk_M_90 (by first | exact K31 re (pA P nd) | exact K37 re _) rfl (ct) zRR (Nat.le_of_ble_eq_true rfl) ⟨Nat.le_of_ble_eq_true rfl, Nat.le_of_ble_eq_true rfl⟩ ?_
              intro h' hh'
              obtain ⟨nd', re', hr', hh2⟩ : ∃ nd' re', relP P' nd' re' ∧ h' = (((h.set 38 (iA 36 re)).set 31 (mC (oF O) (oSz O) (oLen O) (pA P nd) qb)).set 38 (iA 36 re')).set 31 (mC (oF O) (oSz O) (oLen O) (pA P' nd') qb) := hh'
              have hh3 : h' = (h.set 38 (iA 36 re')).set 31 (mC (oF O) (oSz O) (oLen O) (pA P' nd') qb) := by
                rw [hh2, zs_comm (h.set 38 (iA 36 re)) (k := 31) (j := 38) _ _ (by decide), zs_set, zs_set]
              subst hh3
              have I := ih (i + 1) P' nd' re' (by omega) hP' hr' hq0
              refine zw_if_ne 60 dM_floor_52 (by decide) (fun c_52 => ?_) (fun c_52 => ?_)
              · refine zw_incN dM_floor_60 rfl (by decide) rfl ?_
                refine zw_goto 23 dM_floor_63 (by decide) ?_
                exact zw_lk I ⟨rfl, rfl, trivial⟩
              · exact absurd c_52 (show ¬ (1 : Int32) = 0 by decide)
  have L0 := L (oLen O) 0 pIni (-9) re0 (by omega) pIni_ok (rel_ini re0) rfl
  rw [zs_self a38] at L0
  obtain ⟨b1, b2, b3, b4⟩ := qa
  have hM31 : ∀ q, (h.set 31 (mC (oF O) (oSz O) (oLen O) q qb))[31]? = some (mC (oF O) (oSz O) (oLen O) q qb) := fun q => zg_eq hM
  have z1 : ∀ q q', (h.set 31 (mC (oF O) (oSz O) (oLen O) q qb)).set 31 (mC (oF O) (oSz O) (oLen O) q' qb) = h.set 31 (mC (oF O) (oSz O) (oLen O) q' qb) := fun q q' => zs_set _ _ _ _
  refine run_of (by decide) (Nat.le_of_ble_eq_true rfl) ?_
  refine zw_aload_n dM_floor_0 rfl ?_
  refine zw_iconst (v := 0) dM_floor_1 (by decide) ?_
  refine zw_puti dM_floor_2 zf_M_77 hM (Nat.le_of_ble_eq_true rfl) ?_
  refine zw_h (show _ = h.set 31 (mC (oF O) (oSz O) (oLen O) (0, b2, b3, b4) qb) from rfl) ?_
  refine zw_aload_n dM_floor_5 rfl ?_
  refine zw_iconst (v := 0) dM_floor_6 (by decide) ?_
  refine zw_puti dM_floor_7 zf_M_80 (hM31 (0, b2, b3, b4)) (Nat.le_of_ble_eq_true rfl) ?_
  refine zw_h (show _ = (h.set 31 (mC (oF O) (oSz O) (oLen O) (0, b2, b3, b4) qb)).set 31 (mC (oF O) (oSz O) (oLen O) (0, 0, b3, b4) qb) from rfl) ?_
  refine zw_h (z1 _ _) ?_
  refine zw_aload_n dM_floor_10 rfl ?_
  refine zw_iconst (v := 0) dM_floor_11 (by decide) ?_
  refine zw_puti dM_floor_12 zf_M_74 (hM31 (0, 0, b3, b4)) (Nat.le_of_ble_eq_true rfl) ?_
  refine zw_h (show _ = (h.set 31 (mC (oF O) (oSz O) (oLen O) (0, 0, b3, b4) qb)).set 31 (mC (oF O) (oSz O) (oLen O) (0, 0, 0, b4) qb) from rfl) ?_
  refine zw_h (z1 _ _) ?_
  refine zw_aload_n dM_floor_15 rfl ?_
  refine zw_bipush (v := (-9)) dM_floor_16 (by decide) ?_
  refine zw_puti dM_floor_18 zf_M_87 (hM31 (0, 0, 0, b4)) (Nat.le_of_ble_eq_true rfl) ?_
  refine zw_h (show _ = (h.set 31 (mC (oF O) (oSz O) (oLen O) (0, 0, 0, b4) qb)).set 31 (mC (oF O) (oSz O) (oLen O) (0, 0, 0, -9) qb) from rfl) ?_
  refine zw_h (z1 _ _) ?_
  refine zw_iconst (v := 0) dM_floor_21 (by decide) ?_
  refine zw_istore_n dM_floor_22 (by decide) rfl ?_
  exact zw_lk L0 ⟨rfl, rfl, trivial⟩
end C74
