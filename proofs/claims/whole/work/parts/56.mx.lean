/-! ===== the reference holds the same ===== -/
def MXu (h : zH) (F : Fl) (U : Nat → Sit) (sz : Nat) : Prop := ∃ pa : Nat → Int32, h[33]? = some (iA 684 pa) ∧ ∀ r, r < sz → ∃ z, ∀ j, j < 114 → pa (114 * r + j) = ms F (U (sz - 1 - r)) z j
def bA (f : Nat → Int32) : zC := .inl (2, 2, .inl f)
def MXi (h : zH) (F : Fl) (I : Nat → Sit) (kp : Nat → Bool) : Prop := ∃ ik ke : Nat → Int32, h[34]? = some (bA ik) ∧ h[35]? = some (iA 228 ke) ∧ ∀ i, i < 2 → ik i = (if kp i = true then 1 else 0) ∧ (kp i = true → ∃ z, ∀ j, j < 114 → ke (114 * i + j) = ms F (I i) z j)
def MXt (h : zH) (T : Nat → Int32) (len : Nat) : Prop := ∃ te : Nat → Int32, h[37]? = some (iA 60 te) ∧ ∀ i, i < len → te i = T i
def MXz (h : zH) : Prop := ∃ sp re np fa ho tg ro : Nat → Int32, h[36]? = some (iA 114 sp) ∧ h[38]? = some (iA 36 re) ∧ h[39]? = some (iA 36 np) ∧ h[40]? = some (iA 36 fa) ∧ h[41]? = some (iA 36 ho) ∧ h[42]? = some (iA 36 tg) ∧ h[43]? = some (iA 36 ro)
def MXa (h : zH) (F : Fl) (S : Sit) (un le : Nat) : Prop := ∃ (qa qb : I4) (z : Nat → Int32), h[31]? = some (mC F un le qa qb) ∧ h[32]? = some (sC F S z)
def MX (h : zH) (O : Om) : Prop := MXa h (oF O) (oS O) (oSz O) (oLen O) ∧ MXu h (oF O) (oU O) (oSz O) ∧ MXi h (oF O) (oI' O) (oKp O) ∧ MXt h (oT O) (oLen O) ∧ MXz h
theorem MXu.keep {h h' : zH} {F : Fl} {U : Nat → Sit} {sz : Nat} (e : h'[33]? = h[33]?) (a : MXu h F U sz) : MXu h' F U sz := by
  obtain ⟨pa, a1, a2⟩ := a
  exact ⟨pa, e.trans a1, a2⟩
theorem MXi.keep {h h' : zH} {F : Fl} {I : Nat → Sit} {kp : Nat → Bool} (e : h'[34]? = h[34]?) (e2 : h'[35]? = h[35]?) (a : MXi h F I kp) : MXi h' F I kp := by
  obtain ⟨ik, ke, a1, a2, a3⟩ := a
  exact ⟨ik, ke, e.trans a1, e2.trans a2, a3⟩
theorem MXt.keep {h h' : zH} {T : Nat → Int32} {len : Nat} (e : h'[37]? = h[37]?) (a : MXt h T len) : MXt h' T len := by
  obtain ⟨te, a1, a2⟩ := a
  exact ⟨te, e.trans a1, a2⟩
theorem MXz.keep {h h' : zH} (e : ∀ j, 36 ≤ j → j ≠ 37 → h'[j]? = h[j]?) (a : MXz h) : MXz h' := by
  obtain ⟨sp, re, np, fa, ho, tg, ro, a1, a2, a3, a4, a5, a6, a7⟩ := a
  exact ⟨sp, re, np, fa, ho, tg, ro, (e _ (by decide) (by decide)).trans a1, (e _ (by decide) (by decide)).trans a2, (e _ (by decide) (by decide)).trans a3, (e _ (by decide) (by decide)).trans a4, (e _ (by decide) (by decide)).trans a5, (e _ (by decide) (by decide)).trans a6, (e _ (by decide) (by decide)).trans a7⟩
theorem MXa.keep {h h' : zH} {F : Fl} {S : Sit} {un le : Nat} (e : h'[31]? = h[31]?) (e2 : h'[32]? = h[32]?) (a : MXa h F S un le) : MXa h' F S un le := by
  obtain ⟨qa, qb, z, a1, a2⟩ := a
  exact ⟨qa, qb, z, e.trans a1, e2.trans a2⟩
theorem MX.keep {h h' : zH} {O : Om} (e : ∀ j, 31 ≤ j → h'[j]? = h[j]?) (a : MX h O) : MX h' O :=
  ⟨a.1.keep (e _ (by decide)) (e _ (by decide)), a.2.1.keep (e _ (by decide)), a.2.2.1.keep (e _ (by decide)) (e _ (by decide)), a.2.2.2.1.keep (e _ (by decide)), a.2.2.2.2.keep (fun j hj _ => e j (by omega))⟩
theorem MXz.set {h : zH} {j : Nat} {f : Nat → Int32} (hj : 38 ≤ j) (a : MXz h) : MXz (h.set j (iA 36 f)) := by
  obtain ⟨sp, re, np, fa, ho, tg, ro, a1, a2, a3, a4, a5, a6, a7⟩ := a
  have K : ∀ (i : Nat) (c : Nat → Int32), h[i]? = some (iA 36 c) → ∃ c', (h.set j (iA 36 f))[i]? = some (iA 36 c') := by
    intro i c hc
    by_cases e : j = i
    · subst e; exact ⟨f, zg_eq hc⟩
    · exact ⟨c, zg_ne e hc⟩
  obtain ⟨re', b2⟩ := K _ _ a2
  obtain ⟨np', b3⟩ := K _ _ a3
  obtain ⟨fa', b4⟩ := K _ _ a4
  obtain ⟨ho', b5⟩ := K _ _ a5
  obtain ⟨tg', b6⟩ := K _ _ a6
  obtain ⟨ro', b7⟩ := K _ _ a7
  exact ⟨sp, re', np', fa', ho', tg', ro', zg_ne (by omega) a1, b2, b3, b4, b5, b6, b7⟩
def frM (h h' : zH) : Prop := ∀ j, j < 31 → h'[j]? = h[j]?
theorem frM.rf (h : zH) : frM h h := fun _ _ => rfl
theorem frM.tr {h h1 h2 : zH} (a : frM h h1) (b : frM h1 h2) : frM h h2 := fun j hj => (b j hj).trans (a j hj)
theorem frM.set {h : zH} {k : Nat} {c : zC} (hk : 31 ≤ k) : frM h (h.set k c) := fun j hj => zg_ne (by omega) rfl
theorem frM.set2 {h : zH} {k k2 : Nat} {c c2 : zC} (hk : 31 ≤ k) (hk2 : 31 ≤ k2) : frM h ((h.set k c).set k2 c2) := (frM.set hk).tr (frM.set hk2)
def MP (h : zH) (O : Om) : zH → Prop := fun h' => MX h' O ∧ frM h h' ∧ h'.length = h.length
theorem MP.rf {h : zH} {O : Om} (a : MX h O) : MP h O h := ⟨a, frM.rf h, rfl⟩
theorem MP.tr {h h1 : zH} {O O' : Om} (a : frM h h1 ∧ h1.length = h.length) {h2 : zH} (b : MP h1 O' h2) : MP h O' h2 := ⟨b.1, a.1.tr b.2.1, b.2.2.trans a.2⟩
theorem run_rm {l : Launch} {g : zG} {M : zM} {d : Nat} {args : List Value} {h : zH} {r : Int32} {O : Om} (a : MX h O) (hr : Run l g M d 0 0 args h (PI r h)) : Run l g M d 0 0 args h (PIh r (MP h O)) := hr.mono (fun v h' ⟨e1, e2⟩ => ⟨e1, by rw [e2]; exact MP.rf a⟩)
/-- the robot changes -/
theorem MX.now {h : zH} {O : Om} (a : MX h O) (S' : Sit) (z : Nat → Int32) : MX (h.set 32 (sC (oF O) S' z)) (oSetS O S') := by
  obtain ⟨⟨qa, qb, z0, a1, a2⟩, b, c, e, f⟩ := a
  exact ⟨⟨qa, qb, z, zg_ne (by decide) a1, zg_eq a2⟩, b.keep (zg_ne (by decide) rfl), c.keep (zg_ne (by decide) rfl) (zg_ne (by decide) rfl), e.keep (zg_ne (by decide) rfl), f.keep (fun j h1 h2 => zg_ne (by omega) rfl)⟩
/-- a scratch row changes -/
theorem MX.scr {h : zH} {O : Om} (a : MX h O) {j : Nat} (hj : 38 ≤ j) (f : Nat → Int32) : MX (h.set j (iA 36 f)) O := by
  obtain ⟨⟨qa, qb, z0, a1, a2⟩, b, c, e, z⟩ := a
  exact ⟨⟨qa, qb, z0, zg_ne (by omega) a1, zg_ne (by omega) a2⟩, b.keep (zg_ne (by omega) rfl), c.keep (zg_ne (by omega) rfl) (zg_ne (by omega) rfl), e.keep (zg_ne (by omega) rfl), z.set hj⟩
/-- its own numbers change -/
theorem MX.num {h : zH} {O : Om} (a : MX h O) (qa qb : I4) : MX (h.set 31 (mC (oF O) (oSz O) (oLen O) qa qb)) O := by
  obtain ⟨⟨qa0, qb0, z0, a1, a2⟩, b, c, e, z⟩ := a
  exact ⟨⟨qa, qb, z0, zg_eq a1, zg_ne (by decide) a2⟩, b.keep (zg_ne (by decide) rfl), c.keep (zg_ne (by decide) rfl) (zg_ne (by decide) rfl), e.keep (zg_ne (by decide) rfl), z.keep (fun j h1 h2 => zg_ne (by omega) rfl)⟩
theorem MX.st {h h' : zH} {O : Om} (a : MX h O) {S' : Sit} {z : Nat → Int32} (s : stQ h (oF O) S' z h') : MP h (oSetS O S') h' := by
  obtain ⟨np, rfl⟩ := s
  exact ⟨(a.scr (by decide) np).now S' z, frM.set2 (by decide) (by decide), by rw [zs_len, zs_len]⟩
section C56
variable {l : Launch} {g : zG} {d : Nat} {h : zH} {O : Om}
theorem iAu {k N : Nat} {c : zC} {f f2 : Nat → Int32} (e : f = f2) : (h.set k c).set k (.inl (0, N, .inl f)) = h.set k (iA N f2) := by rw [zs_set, e]; rfl
theorem remB {F : Fl} {S : Sit} {z pa : Nat → Int32} {un le : Nat} {qa qb : I4} {c33 : zC} (hun : un ≤ 5) (hM : h[31]? = some (mC F un le qa qb)) (hS : h[32]? = some (sC F S z)) (hP : h[33]? = some (iA 684 pa)) {PQ : Option Value → zH → Prop} (hPQ : PQ none ((h.set 33 (iA 684 (fil pa (114 * un) 114 (ms F S z)))).set 31 (mC F (un + 1) le qa qb))) : WW l g mM_remembers (zrm d 0 0) (fun _ => True) (zQQ g PQ (h.length + 0) 0 0) 49 [(0, some (.ref 31))] [] h 0 0 := by
  have hM33 : ∀ c, (h.set 33 c)[31]? = some (mC F un le qa qb) := fun c => zg_ne (by decide) hM
  have hS33 : ∀ c, (h.set 33 c)[32]? = some (sC F S z) := fun c => zg_ne (by decide) hS
  have hP33 : ∀ c, (h.set 33 c)[33]? = some c := fun c => zg_eq hP
  have L : ∀ (m i : Nat), i + m = 114 → WW l g mM_remembers (zrm d 0 0) (fun _ => True) (zQQ g PQ (h.length + 0) 0 0) 51 [(0, some (.ref 31)), (1, some (.int (nI i)))] [] (h.set 33 (iA 684 (fil pa (114 * un) i (ms F S z)))) 0 0 := by
    intro m
    induction m with
    | zero =>
      intro i hi
      have hi : i = 114 := by omega
      subst hi
      have e1 : nI un + 1 = nI (un + 1) := nI_1 un
      refine zw_iload_n dM_remembers_51 rfl ?_
      refine zw_bipush (v := 114) dM_remembers_52 (by decide) ?_
      refine zw_icmp_ge 83 dM_remembers_54 (by decide) (fun c_54 => ?_) (fun c_54 => ?_)
      · refine zw_aload_n dM_remembers_83 rfl ?_
        refine zw_dup dM_remembers_84 rfl ?_
        refine zw_get dM_remembers_85 zf_M_64 (hM33 _) rfl ?_
        refine zw_iconst (v := 1) dM_remembers_88 (by decide) ?_
        refine zw_iadd dM_remembers_89 ?_
        rw [e1]
        refine zw_puti dM_remembers_90 zf_M_64 (hM33 _) (Nat.le_of_ble_eq_true rfl) ?_
        exact zw_vret dM_remembers_93 rfl (by rw [zs_len, zs_len]; rfl) hPQ
      · exact absurd (Int32.le_refl _) c_54
    | succ m ih =>
      intro i hi
      have ecl : (nI i).toNatClampNeg = i := nI_clamp (by omega)
      have e1 : (114 : Int32) * nI un + nI i = nI (114 * un + i) := by rw [show (114 : Int32) * nI un = nI (114 * un) from pk_mul 114 un, nI_add]
      have e2 : (nI (114 * un + i)).toNatClampNeg = 114 * un + i := nI_clamp (by omega)
      refine zw_iload_n dM_remembers_51 rfl ?_
      refine zw_bipush (v := 114) dM_remembers_52 (by decide) ?_
      refine zw_icmp_ge 83 dM_remembers_54 (by decide) (fun c_54 => ?_) (fun c_54 => ?_)
      · exact absurd ((nI_leI (a := 114) (by omega) (by omega)).mp c_54) (by omega)
      · refine zw_aload_n dM_remembers_57 rfl ?_
        refine zw_get dM_remembers_58 zf_M_20 (by first | exact hM33 _ | exact hS33 _ | exact hP33 _) rfl ?_
        refine zw_bipush (v := 114) dM_remembers_61 (by decide) ?_
        refine zw_aload_n dM_remembers_63 rfl ?_
        refine zw_get dM_remembers_64 zf_M_64 (by first | exact hM33 _ | exact hS33 _ | exact hP33 _) rfl ?_
        refine zw_imul dM_remembers_67 ?_
        refine zw_iload_n dM_remembers_68 rfl ?_
        refine zw_iadd dM_remembers_69 ?_
        rw [e1]
        refine zw_aload_n dM_remembers_70 rfl ?_
        refine zw_get dM_remembers_71 zf_M_16 (by first | exact hM33 _ | exact hS33 _ | exact hP33 _) rfl ?_
        refine zw_iload_n dM_remembers_74 rfl ?_
        refine zw_iald dM_remembers_75 (by first | exact hM33 _ | exact hS33 _ | exact hP33 _) (vp_in_nI (show i < 114 by omega) (by decide)) ?_
        rw [ecl]
        refine zw_iast dM_remembers_76 (by first | exact hM33 _ | exact hS33 _ | exact hP33 _) (vp_in_nI (show 114 * un + i < 684 by omega) (by decide)) ?_
        rw [e2]
        refine zw_h (iAu (fil_s _ _ _ _)) ?_
        refine zw_incN dM_remembers_77 rfl (by decide) rfl ?_
        refine zw_goto 51 dM_remembers_80 (by decide) ?_
        exact zw_lk (ih (i + 1) (by omega)) ⟨rfl, rfl, trivial⟩
  refine zw_iconst (v := 0) dM_remembers_49 (by decide) ?_
  refine zw_istore_n dM_remembers_50 (by decide) rfl ?_
  have L0 := L 114 0 (by omega)
  rw [fil_0, zs_self hP] at L0
  exact zw_lk L0 ⟨rfl, rfl, trivial⟩
theorem c_M_remembers (a : MX h O) (hsz : oSz O ≤ 6) : Run l g mM_remembers d 0 0 [.ref 31] h (PVh (MP h (oRem O))) := by
  obtain ⟨⟨qa, qb, z, hM, hS⟩, ⟨pa, hP, hr⟩, ai, at', az⟩ := id a
  refine run_of (by decide) (Nat.le_of_ble_eq_true rfl) ?_
  by_cases h6 : oSz O = 6
  · have hM33 : ∀ c, (h.set 33 c)[31]? = some (mC (oF O) (oSz O) (oLen O) qa qb) := fun c => zg_ne (by decide) hM
    have hS33 : ∀ c, (h.set 33 c)[32]? = some (sC (oF O) (oS O) z) := fun c => zg_ne (by decide) hS
    have hP33 : ∀ c, (h.set 33 c)[33]? = some c := fun c => zg_eq hP
    have L : ∀ (m i : Nat), i + m = 570 → WW l g mM_remembers (zrm d 0 0) (fun _ => True) (zQQ g (PVh (MP h (oRem O))) (h.length + 0) 0 0) 11 [(0, some (.ref 31)), (1, some (.int (nI i)))] [] (h.set 33 (iA 684 (fil pa 0 i (fun j => pa (j + 114))))) 0 0 := by
      intro m
      induction m with
      | zero =>
        intro i hi
        have hi : i = 570 := by omega
        subst hi
        have e1 : nI (oSz O) - 1 = nI 5 := by rw [h6]; decide
        obtain ⟨p1, hp1⟩ : ∃ p1, p1 = fil pa 0 570 (fun j => pa (j + 114)) := ⟨_, rfl⟩
        have hp2 : ∀ r, r < 5 → ∀ j, j < 114 → p1 (114 * r + j) = pa (114 * (r + 1) + j) := by
          intro r hr j hj
          rw [hp1, fil0 (by omega)]
          congr 1
          omega
        rw [← hp1]
        have B := remB (l := l) (g := g) (d := d) (h := (h.set 33 (iA 684 p1)).set 31 (mC (oF O) 5 (oLen O) qa qb)) (F := oF O) (S := oS O) (z := z) (pa := p1) (un := 5) (le := oLen O) (qa := qa) (qb := qb) (c33 := xC) (by decide) (zg_eq (hM33 _)) (zg_ne (by decide) (hS33 _)) (zg_ne (by decide) (hP33 _)) (PQ := PVh (MP h (oRem O))) ⟨rfl, ⟨⟨qa, qb, z, by rw [show oSz (oRem O) = 6 from by show min (oSz O + 1) 6 = 6; omega]; exact zg_eq (zg_ne (by decide) (zg_eq (hM33 _))), zg_ne (by decide) (zg_ne (by decide) (zg_ne (by decide) (hS33 _)))⟩, ⟨_, zg_ne (by decide) (zg_eq (zg_ne (by decide) (hP33 _))), fun r hr2 => by
          have hs : oSz (oRem O) = 6 := by show min (oSz O + 1) 6 = 6; omega
          rw [hs] at hr2
          by_cases r5 : r = 5
          · subst r5
            refine ⟨z, fun j hj => ?_⟩
            rw [fil_in hj, hs]
            rfl
          · obtain ⟨z1, hz1⟩ := hr (r + 1) (by omega)
            refine ⟨z1, fun j hj => ?_⟩
            rw [fil_out (by omega), hp2 r (by omega) j hj, hz1 j hj, hs]
            have e : 6 - 1 - r = (4 - r) + 1 := by omega
            rw [e, h6]
            have e2 : 6 - 1 - (r + 1) = 4 - r := by omega
            rw [e2]
            rfl⟩, ai.keep (by rfl) (by rfl) |>.keep (zg_ne (by decide) (zg_ne (by decide) (zg_ne (by decide) (zg_ne (by decide) rfl)))) (zg_ne (by decide) (zg_ne (by decide) (zg_ne (by decide) (zg_ne (by decide) rfl)))), at'.keep (zg_ne (by decide) (zg_ne (by decide) (zg_ne (by decide) (zg_ne (by decide) rfl)))), az.keep (fun j h1 h2 => zg_ne (by omega) (zg_ne (by omega) (zg_ne (by omega) (zg_ne (by omega) rfl))))⟩, ((frM.set (by decide)).tr (frM.set (by decide))).tr ((frM.set (by decide)).tr (frM.set (by decide))), by rw [zs_len, zs_len, zs_len, zs_len]⟩
        have B2 : WW l g mM_remembers (zrm d 0 0) (fun _ => True) (zQQ g (PVh (MP h (oRem O))) (h.length + 0) 0 0) 49 [(0, some (.ref 31))] [] ((h.set 33 (iA 684 p1)).set 31 (mC (oF O) 5 (oLen O) qa qb)) 0 0 := by
          rw [zs_len, zs_len] at B
          exact B
        refine zw_iload_n dM_remembers_11 rfl ?_
        refine zw_sipush (v := 570) dM_remembers_12 (by decide) ?_
        refine zw_icmp_ge 39 dM_remembers_15 (by decide) (fun c_15 => ?_) (fun c_15 => ?_)
        · refine zw_aload_n dM_remembers_39 rfl ?_
          refine zw_dup dM_remembers_40 rfl ?_
          refine zw_get dM_remembers_41 zf_M_64 (hM33 _) rfl ?_
          refine zw_iconst (v := 1) dM_remembers_44 (by decide) ?_
          refine zw_isub dM_remembers_45 ?_
          rw [e1]
          refine zw_puti dM_remembers_46 zf_M_64 (hM33 _) (Nat.le_of_ble_eq_true rfl) ?_
          exact zw_lk B2 ⟨rfl, trivial⟩
        · exact absurd (Int32.le_refl _) c_15
      | succ m ih =>
        intro i hi
        have ecl : (nI i).toNatClampNeg = i := nI_clamp (by omega)
        have e1 : nI i + 114 = nI (i + 114) := nI_add i 114
        have e2 : (nI (i + 114)).toNatClampNeg = i + 114 := nI_clamp (by omega)
        have e3 : fil pa 0 i (fun j => pa (j + 114)) (i + 114) = pa (i + 114) := fil_out (by omega)
        have e4 : upd (fil pa 0 i (fun j => pa (j + 114))) i (pa (i + 114)) = fil pa 0 (i + 1) (fun j => pa (j + 114)) := by
          have := fil_s pa 0 i (fun j => pa (j + 114))
          rw [Nat.zero_add] at this
          exact this
        refine zw_iload_n dM_remembers_11 rfl ?_
        refine zw_sipush (v := 570) dM_remembers_12 (by decide) ?_
        refine zw_icmp_ge 39 dM_remembers_15 (by decide) (fun c_15 => ?_) (fun c_15 => ?_)
        · exact absurd ((nI_leI (a := 570) (by omega) (by omega)).mp c_15) (by omega)
        · refine zw_aload_n dM_remembers_18 rfl ?_
          refine zw_get dM_remembers_19 zf_M_20 (by first | exact hM33 _ | exact hS33 _ | exact hP33 _) rfl ?_
          refine zw_iload_n dM_remembers_22 rfl ?_
          refine zw_aload_n dM_remembers_23 rfl ?_
          refine zw_get dM_remembers_24 zf_M_20 (by first | exact hM33 _ | exact hS33 _ | exact hP33 _) rfl ?_
          refine zw_iload_n dM_remembers_27 rfl ?_
          refine zw_bipush (v := 114) dM_remembers_28 (by decide) ?_
          refine zw_iadd dM_remembers_30 ?_
          rw [e1]
          refine zw_iald dM_remembers_31 (by first | exact hM33 _ | exact hS33 _ | exact hP33 _) (vp_in_nI (show i + 114 < 684 by omega) (by decide)) ?_
          rw [e2, e3]
          refine zw_iast dM_remembers_32 (by first | exact hM33 _ | exact hS33 _ | exact hP33 _) (vp_in_nI (show i < 684 by omega) (by decide)) ?_
          rw [ecl]
          refine zw_h (iAu e4) ?_
          refine zw_incN dM_remembers_33 rfl (by decide) rfl ?_
          refine zw_goto 11 dM_remembers_36 (by decide) ?_
          exact zw_lk (ih (i + 1) (by omega)) ⟨rfl, rfl, trivial⟩
    refine zw_aload_n dM_remembers_0 rfl ?_
    refine zw_get dM_remembers_1 zf_M_64 hM rfl ?_
    refine zw_bipush (v := 6) dM_remembers_4 (by decide) ?_
    refine zw_icmp_ne 49 dM_remembers_6 (by decide) (fun c_6 => ?_) (fun c_6 => ?_)
    · exact absurd (by rw [h6]; rfl) c_6
    · refine zw_iconst (v := 0) dM_remembers_9 (by decide) ?_
      refine zw_istore_n dM_remembers_10 (by decide) rfl ?_
      have L0 := L 570 0 (by omega)
      rw [fil_0, zs_self hP] at L0
      exact zw_lk L0 ⟨rfl, rfl, trivial⟩
  · have hs : oSz (oRem O) = oSz O + 1 := by show min (oSz O + 1) 6 = oSz O + 1; omega
    have B := remB (l := l) (g := g) (d := d) (h := h) (F := oF O) (S := oS O) (z := z) (pa := pa) (un := oSz O) (le := oLen O) (qa := qa) (qb := qb) (c33 := xC) (by omega) hM hS hP (PQ := PVh (MP h (oRem O))) ⟨rfl, ⟨⟨qa, qb, z, by rw [hs]; exact zg_eq (zg_ne (by decide) hM), zg_ne (by decide) (zg_ne (by decide) hS)⟩, ⟨_, zg_ne (by decide) (zg_eq hP), fun r hr2 => by
        rw [hs] at hr2
        by_cases r5 : r = oSz O
        · subst r5
          refine ⟨z, fun j hj => ?_⟩
          rw [fil_in hj, hs, show oSz O + 1 - 1 - oSz O = 0 by omega]
          rfl
        · obtain ⟨z1, hz1⟩ := hr r (by omega)
          refine ⟨z1, fun j hj => ?_⟩
          rw [fil_out (by omega), hz1 j hj, hs, show oSz O + 1 - 1 - r = (oSz O - 1 - r) + 1 by omega]
          rfl⟩, ai.keep (zg_ne (by decide) (zg_ne (by decide) rfl)) (zg_ne (by decide) (zg_ne (by decide) rfl)), at'.keep (zg_ne (by decide) (zg_ne (by decide) rfl)), az.keep (fun j h1 h2 => zg_ne (by omega) (zg_ne (by omega) rfl))⟩, frM.set2 (by decide) (by decide), by rw [zs_len, zs_len]⟩
    refine zw_aload_n dM_remembers_0 rfl ?_
    refine zw_get dM_remembers_1 zf_M_64 hM rfl ?_
    refine zw_bipush (v := 6) dM_remembers_4 (by decide) ?_
    refine zw_icmp_ne 49 dM_remembers_6 (by decide) (fun c_6 => ?_) (fun c_6 => ?_)
    · exact zw_lk B ⟨rfl, trivial⟩
    · exact absurd ((nI_eq (b := 6) (by omega) (by omega)).mp c_6) h6
end C56
