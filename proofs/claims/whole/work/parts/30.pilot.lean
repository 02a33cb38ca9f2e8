/-! ===== by itself ===== -/
def unk (F : Fl) (S : Sit) : Nat → Bool := fun c => ((decide (c < fN F) && !(fK F c == 3)) && !(kn1 S c)) && !(kn2 S c)
def ex (F : Fl) (K : Nat → Bool) (a : Option Nat) : Nat → Nat → Bool
  | 0 => lvl F K a 0
  | s + 1 => fun c => (arn F (lvl F K a s) c && K c) && !(lvl F K a s c)
def gts (F : Fl) (S : Sit) (s : Nat) : Nat → Bool := fun c => ex F (kn1 S) (some (sAt S)) s c && wth F (kn1 S) (some (fD F)) ((sCh S : Int) - s - 2) c
def tgs (F : Fl) (S : Sit) (s : Nat) : Nat → Bool := fun c => arn F (gts F S s) c && unk F S c
def tHas (F : Fl) (S : Sit) : Nat → Bool := fun s => (fst (tgs F S s) 36 0).isSome
def gat (F : Fl) (S : Sit) (s t : Nat) : Nat → Bool := fun c => gts F S s c && arn F (oneO (some t)) c
def tgt (F : Fl) (S : Sit) : Option (Nat × Nat × Nat × Nat) := match fst (tHas F S) 36 0 with
  | none => none
  | some s => match fst (tgs F S s) 36 0 with
    | none => none
    | some t => match fst (gat F S s t) 36 0 with
      | none => none
      | some gt => match dst F (kn1 S) (some gt) (fD F) with
        | none => none
        | some b => some (t, gt, s + 1, b + 1)
def pilC (t gt w b : Int32) : zC := .inr (4, [.int t, .int gt, .int w, .int b])
def pilH (o : Option (Nat × Nat × Nat × Nat)) (h : zH) : zH := match o with
  | none => h
  | some (t, gt, w, b) => h.set 9 (pilC (nI t) (nI gt) (nI w) (nI b))
theorem ex_lvl {F : Fl} {K : Nat → Bool} {a : Option Nat} : ∀ {s c : Nat}, ex F K a s c = true → lvl F K a s c = true := by
  intro s c h
  cases s with
  | zero => exact h
  | succ s =>
    simp only [ex, Bool.and_eq_true] at h
    simp only [lvl, h.1.1, h.1.2, Bool.and_self, Bool.or_true]
theorem ex_sub {F : Fl} {K : Nat → Bool} {a : Option Nat} (hK : sub F K) (s : Nat) : sub F (ex F K a s) := fun c h => lvl_sub hK s c (ex_lvl h)
theorem gts_sub {F : Fl} {S : Sit} (hK : sub F (kn1 S)) (s : Nat) : sub F (gts F S s) := by
  intro c h
  simp only [gts, Bool.and_eq_true] at h
  exact ex_sub hK s c h.1
theorem ex_dead {F : Fl} {K : Nat → Bool} {a : Option Nat} (hF : fOK F) (hK : sub F K) {s : Nat} (h : mset (ex F K a s) = 0) : ∀ j, s ≤ j → ∀ c, ex F K a j c = false := by
  have h0 : ∀ c, ex F K a s c = false := by
    intro c
    cases hq : ex F K a s c with
    | false => rfl
    | true => rw [(m_eq0 _).mp h c (sub36 hF (ex_sub hK s) c hq)] at hq; cases hq
  cases s with
  | zero =>
    have hz : ∀ j, lvl F K a j = fun _ => false := by
      intro j
      induction j with
      | zero => funext c; exact h0 c
      | succ j ih =>
        funext c
        have e1 : lvl F K a (j + 1) c = (lvl F K a j c || (arn F (lvl F K a j) c && K c)) := rfl
        rw [e1, ih]
        have : arn F (fun _ => false) c = false := by
          cases hq : arn F (fun _ => false) c with
          | false => rfl
          | true => obtain ⟨_, b, _, h3⟩ := arn_adj.mp hq; cases h3
        simp [this]
    intro j _ c
    cases hq : ex F K a j c with
    | false => rfl
    | true => have := ex_lvl hq; rw [hz j] at this; cases this
  | succ s =>
    have e : lvl F K a (s + 1) = lvl F K a s := by
      funext c
      have := h0 c
      have e1 : lvl F K a (s + 1) c = (lvl F K a s c || (arn F (lvl F K a s) c && K c)) := rfl
      rw [e1]
      simp only [ex] at this
      cases h1 : lvl F K a s c with
      | true => rfl
      | false => rw [h1] at this; simp only [Bool.not_false, Bool.and_true] at this; rw [this]; rfl
    intro j hj c
    obtain ⟨i, rfl⟩ : ∃ i, j = s + 1 + i := ⟨j - (s + 1), by omega⟩
    cases hq : ex F K a (s + 1 + i) c with
    | false => rfl
    | true =>
      exfalso
      rw [show s + 1 + i = (s + i) + 1 by omega] at hq
      have h1 := ex_lvl hq
      rw [show s + i + 1 = s + (i + 1) by omega, lvl_stay e] at h1
      simp only [ex, Bool.and_eq_true, Bool.not_eq_true'] at hq
      rw [lvl_stay e] at hq
      rw [h1] at hq
      cases hq.2
theorem has_dead {F : Fl} {S : Sit} (hF : fOK F) (hK : sub F (kn1 S)) {s : Nat} (h : mset (ex F (kn1 S) (some (sAt S)) s) = 0) : ∀ j, s ≤ j → tHas F S j = false := by
  intro j hj
  have h1 := ex_dead hF hK h j hj
  have : fst (tgs F S j) 36 0 = none := by
    refine fst_none.mpr (fun c _ _ => ?_)
    cases hq : tgs F S j c with
    | false => rfl
    | true =>
      simp only [tgs, Bool.and_eq_true] at hq
      obtain ⟨_, b, _, h3⟩ := arn_adj.mp hq.1
      simp only [gts, h1 b, Bool.false_and] at h3
      cases h3
  simp [tHas, this]
theorem m_ex {F : Fl} {K : Nat → Bool} {a : Option Nat} (s : Nat) : (mset (arn F (lvl F K a s)) &&& mset K) &&& (mset (lvl F K a s) ^^^ (-1)) = mset (ex F K a (s + 1)) := by rw [m_and, m_andn]; rfl
theorem m_exl {F : Fl} {K : Nat → Bool} {a : Option Nat} (s : Nat) : mset (lvl F K a s) ||| mset (ex F K a (s + 1)) = mset (lvl F K a (s + 1)) := by
  rw [m_or]
  apply mset_congr
  intro i _
  show (lvl F K a s i || ((arn F (lvl F K a s) i && K i) && !(lvl F K a s i))) = (lvl F K a s i || (arn F (lvl F K a s) i && K i))
  cases lvl F K a s i <;> simp
theorem i_sub1 {y : Int32} (h : -1000 ≤ y.toInt) : (y - 1).toInt = y.toInt - 1 := by
  have hy := Int32.toInt_lt y
  rw [Int32.toInt_sub, show (1 : Int32).toInt = 1 from by decide]
  exact Int.bmod_eq_of_le (by omega) (by omega)
theorem home_in {F : Fl} {S : Sit} (hF : fOK F) (hK : sub F (kn1 S)) {s c : Nat} (h : gts F S s c = true) : ∃ b, dst F (kn1 S) (some c) (fD F) = some b ∧ (b : Int) ≤ (sCh S : Int) - s - 2 := by
  simp only [gts, Bool.and_eq_true] at h
  have h2 := h.2
  unfold wth at h2
  split at h2
  · cases h2
  case isFalse hs =>
    have hn := fN_le hF
    have hpos := fN_pos hF
    have h3 := (lvl_symm hF hK _ _ _).mp h2
    rcases Nat.lt_or_ge (min ((sCh S : Int) - s - 2).toNat 36) 36 with q | q
    · obtain ⟨m, hm, e⟩ := dst_of q h3
      exact ⟨m, e, by omega⟩
    · have e36 : min ((sCh S : Int) - s - 2).toNat 36 = 36 := by omega
      rw [e36, lvl_sat hF hK 36 (by omega)] at h3
      obtain ⟨m, hm, e⟩ := dst_of (by omega) h3
      exact ⟨m, e, by omega⟩
section C30
variable {l : Launch} {g : zG} {d : Nat} {h : zH} {F : Fl} {S : Sit} {k : Nat}
theorem c_P_findsTarget {p0 p1 p2 p3 : Int32} (hk9 : k ≠ 9 ∧ k + 1 ≠ 9) (hF : fOK F) (hG : h[4]? = some (gC F)) (hS : h[k]? = some (sitC k S)) (hK : sub F (kn1 S)) (hat : sAt S < fN F) (hch : sCh S ≤ 99) (hPi : h[9]? = some (pilC p0 p1 p2 p3)) : Run l g mP_findsTarget (d + 4) 0 0 [.ref 9, .ref k] h (PI (if (tgt F S).isSome = true then 1 else 0) (pilH (tgt F S) h)) := by
  refine run_of (by decide) (Nat.le_of_ble_eq_true rfl) ?_
  have hn := fN_le hF
  have hd36 : fD F < 36 := by have := hF.2.2.1; omega
  have hdO : oOK (some (fD F)) := oOK_some hd36
  have haO : oOK (some (sAt S)) := oOK_some (by omega)
  have T : ∀ (s t : Nat), s < 36 → fst (tHas F S) 36 0 = some s → fst (tgs F S s) 36 0 = some t → ∀ (ls : zL), zsub [(0, some (.ref 9)), (1, some (.ref k)), (2, some (.ref 4)), (9, some (.int (nI s))), (11, some (.long (mset (gts F S s)))), (13, some (.long (mset (tgs F S s))))] ls → WW l g mP_findsTarget (zrm (d + 4) 0 0) (fun _ => True) (zQQ g (PI (if (tgt F S).isSome = true then 1 else 0) (pilH (tgt F S) h)) (h.length + 0) 0 0) 121 ls [] h 0 0 := by
    intro s t hs36 hfs hft ls hls
    obtain ⟨-, ht36, htg, -⟩ := fst_some.mp hft
    have ht36 : t < 36 := by omega
    have htO : oOK (some t) := oOK_some ht36
    simp only [tgs, Bool.and_eq_true] at htg
    obtain ⟨htn, b0, hb1, hb2⟩ := arn_adj.mp htg.1
    have hgat : gat F S s t b0 = true := by
      simp only [gat, hb2, Bool.true_and]
      exact arn_adj.mpr ⟨gts_sub hK s b0 hb2, t, (hb1.symm hF htn).2, by simp [oneO]⟩
    have key3 : mset (gts F S s) &&& mset (arn F (oneO (some t))) = mset (gat F S s t) := by rw [m_and]; rfl
    cases hg : fst (gat F S s t) 36 0 with
    | none =>
      have := fst_none.mp hg b0 (by omega) (by have := gts_sub hK s b0 hb2; omega)
      rw [hgat] at this; cases this
    | some gt =>
      obtain ⟨-, hg36, hgg, -⟩ := fst_some.mp hg
      have hgg1 : gts F S s gt = true := by simp only [gat, Bool.and_eq_true] at hgg; exact hgg.1
      obtain ⟨b, hb, -⟩ := home_in hF hK hgg1
      have e : tgt F S = some (t, gt, s + 1, b + 1) := by
        unfold tgt
        rw [hfs]; dsimp only
        rw [hft]; dsimp only
        rw [hg]; dsimp only
        rw [hb]
      have ch := fun (h' : zH) (hG' : h'[4]? = some (gC F)) (hS' : h'[k]? = some (sitC k S)) => c_S_homeOf (l := l) (g := g) (d := d + 1) hF hG' hS' hK (c := gt) (by omega)
      rw [hb] at ch
      rw [e]
      refine zw_lk ?_ hls
      refine zw_aload_n dP_findsTarget_121 rfl ?_
      refine zw_lload dP_findsTarget_122 rfl ?_
      refine zc_S1I dP_findsTarget_124 zm_F_lowestOf zk_P_100 c_F_lowestOf ?_ zRR (Nat.le_of_ble_eq_true rfl) ⟨Nat.le_of_ble_eq_true rfl, Nat.le_of_ble_eq_true rfl⟩
      rw [hft, show oI (some t) = nI t from rfl]
      refine zw_puti dP_findsTarget_127 zf_P_56 hPi (Nat.le_of_ble_eq_true rfl) ?_
      refine zw_aload_n dP_findsTarget_130 rfl ?_
      refine zw_lload dP_findsTarget_131 rfl ?_
      refine zw_aload_n dP_findsTarget_133 rfl ?_
      refine zw_aload_n dP_findsTarget_134 rfl ?_
      refine zw_get dP_findsTarget_135 zf_P_56 (by first | exact zg_eq hPi | exact zg_ne (by omega) hG | exact zg_ne (Ne.symm hk9.1) hS) rfl ?_
      refine zc_S1L dP_findsTarget_138 zm_F_only zk_P_88 (c_F_only htO) ?_ zRR (Nat.le_of_ble_eq_true rfl) ⟨Nat.le_of_ble_eq_true rfl, Nat.le_of_ble_eq_true rfl⟩
      refine zc_V1L dP_findsTarget_141 zm_G_around zk_P_96 (by first | exact zg_eq hPi | exact zg_ne (by omega) hG | exact zg_ne (Ne.symm hk9.1) hS) rfl (c_G_around hF (zg_ne (by omega) hG) (one_sub htn)) ?_ zRR (Nat.le_of_ble_eq_true rfl) ⟨Nat.le_of_ble_eq_true rfl, Nat.le_of_ble_eq_true rfl⟩
      refine zw_land dP_findsTarget_144 ?_
      rw [key3]
      refine zc_S1I dP_findsTarget_145 zm_F_lowestOf zk_P_100 c_F_lowestOf ?_ zRR (Nat.le_of_ble_eq_true rfl) ⟨Nat.le_of_ble_eq_true rfl, Nat.le_of_ble_eq_true rfl⟩
      rw [hg, show oI (some gt) = nI gt from rfl]
      refine zw_puti dP_findsTarget_148 zf_P_53 (by first | exact zg_eq hPi | exact zg_ne (by omega) hG | exact zg_ne (Ne.symm hk9.1) hS) (Nat.le_of_ble_eq_true rfl) ?_
      refine zw_h (zs_set _ _ _ _) ?_
      refine zw_aload_n dP_findsTarget_151 rfl ?_
      refine zw_iload dP_findsTarget_152 rfl ?_
      refine zw_iconst (v := 1) dP_findsTarget_154 (by decide) ?_
      refine zw_iadd dP_findsTarget_155 ?_
      rw [nI_1]
      refine zw_puti dP_findsTarget_156 zf_P_104 (by first | exact zg_eq hPi | exact zg_ne (by omega) hG | exact zg_ne (Ne.symm hk9.1) hS) (Nat.le_of_ble_eq_true rfl) ?_
      refine zw_h (zs_set _ _ _ _) ?_
      refine zw_aload_n dP_findsTarget_159 rfl ?_
      refine zw_aload_n dP_findsTarget_160 rfl ?_
      refine zw_aload_n dP_findsTarget_161 rfl ?_
      refine zw_get dP_findsTarget_162 zf_P_53 (by first | exact zg_eq hPi | exact zg_ne (by omega) hG | exact zg_ne (Ne.symm hk9.1) hS) rfl ?_
      refine zc_V1I dP_findsTarget_165 zm_S_homeOf zk_P_107 (by first | exact zg_eq hPi | exact zg_ne (by omega) hG | exact zg_ne (Ne.symm hk9.1) hS) rfl (ch _ (zg_ne (by omega) hG) (zg_ne (Ne.symm hk9.1) hS)) ?_ zRR (Nat.le_of_ble_eq_true rfl) ⟨Nat.le_of_ble_eq_true rfl, Nat.le_of_ble_eq_true rfl⟩
      rw [show dI (some b) = nI b from rfl]
      refine zw_iconst (v := 1) dP_findsTarget_168 (by decide) ?_
      refine zw_iadd dP_findsTarget_169 ?_
      rw [nI_1]
      refine zw_puti dP_findsTarget_170 zf_P_110 (by first | exact zg_eq hPi | exact zg_ne (by omega) hG | exact zg_ne (Ne.symm hk9.1) hS) (Nat.le_of_ble_eq_true rfl) ?_
      refine zw_h (zs_set _ _ _ _) ?_
      refine zw_iconst (v := 1) dP_findsTarget_173 (by decide) ?_
      exact zw_iret dP_findsTarget_174 rfl rfl (by simp) ⟨rfl, rfl⟩
  have L : ∀ (m s : Nat), s + m = 36 → fst (tHas F S) m s = fst (tHas F S) 36 0 → WW l g mP_findsTarget (zrm (d + 4) 0 0) (fun _ => True) (zQQ g (PI (if (tgt F S).isSome = true then 1 else 0) (pilH (tgt F S) h)) (h.length + 0) 0 0) 58 [(0, some (.ref 9)), (1, some (.ref k)), (2, some (.ref 4)), (3, some (.long (mset (unk F S)))), (5, some (.long (mset (lvl F (kn1 S) (some (sAt S)) s)))), (7, some (.long (mset (ex F (kn1 S) (some (sAt S)) s)))), (9, some (.int (nI s)))] [] h 0 0 := by
    intro m
    induction m with
    | zero =>
      intro s hsm hfs
      have hs : s = 36 := by omega
      subst hs
      have e : tgt F S = none := by unfold tgt; rw [← hfs]; rfl
      refine zw_iload dP_findsTarget_58 rfl ?_
      refine zw_bipush (v := 36) dP_findsTarget_60 (by decide) ?_
      refine zw_icmp_ge 208 dP_findsTarget_62 (by decide) (fun c_62 => ?_) (fun c_62 => ?_)
      · refine zw_iconst (v := 0) dP_findsTarget_208 (by decide) ?_
        exact zw_iret dP_findsTarget_209 rfl rfl rfl ⟨by rw [e]; rfl, by rw [e]; rfl⟩
      · exact absurd (by decide) c_62
    | succ m ih =>
      intro s hsm hfs
      have hmh : (nI (sCh S) - (nI s + 1) - 1).toInt = (sCh S : Int) - s - 2 := by
        rw [nI_1, i_sub1 (by rw [pk_sub_toInt (by omega) (by omega)]; omega), pk_sub_toInt (by omega) (by omega)]
        omega
      have cw := c_G_within (l := l) (g := g) (d := d + 2) hF hG hK hdO (s := nI (sCh S) - (nI s + 1) - 1)
      rw [hmh] at cw
      generalize hmhe : nI (sCh S) - (nI s + 1) - 1 = mh at cw
      have hgs := gts_sub hK s
      have key1 : mset (ex F (kn1 S) (some (sAt S)) s) &&& mset (wth F (kn1 S) (some (fD F)) ((sCh S : Int) - s - 2)) = mset (gts F S s) := by rw [m_and]; rfl
      have key2 : mset (arn F (gts F S s)) &&& mset (unk F S) = mset (tgs F S s) := by rw [m_and]; rfl
      refine zw_iload dP_findsTarget_58 rfl ?_
      refine zw_bipush (v := 36) dP_findsTarget_60 (by decide) ?_
      refine zw_icmp_ge 208 dP_findsTarget_62 (by decide) (fun c_62 => ?_) (fun c_62 => ?_)
      · exact absurd ((nI_leI (a := 36) (b := s) (by omega) (by omega)).mp c_62) (by omega)
      · refine zw_lload dP_findsTarget_65 rfl ?_
        refine zw_lconst (v := 0) dP_findsTarget_67 (by decide) ?_
        refine zw_lcmp dP_findsTarget_68 ?_
        refine zw_if_eq 208 dP_findsTarget_69 (by decide) (fun c_69 => ?_) (fun c_69 => ?_)
        · refine zw_iconst (v := 0) dP_findsTarget_208 (by decide) ?_
          have hdead := has_dead hF hK (lgc_eq _ _ c_69)
          have e : tgt F S = none := by
            have : fst (tHas F S) 36 0 = none := by
              rw [← hfs]
              exact fst_none.mpr (fun j hj _ => hdead j hj)
            unfold tgt; rw [this]
          exact zw_iret dP_findsTarget_209 rfl rfl rfl ⟨by rw [e]; rfl, by rw [e]; rfl⟩
        · refine zw_aload_n dP_findsTarget_72 rfl ?_
          refine zw_get dP_findsTarget_73 zf_P_24 (by first | exact hS | exact hG) rfl ?_
          refine zw_iload dP_findsTarget_76 rfl ?_
          refine zw_iconst (v := 1) dP_findsTarget_78 (by decide) ?_
          refine zw_iadd dP_findsTarget_79 ?_
          refine zw_isub dP_findsTarget_80 ?_
          refine zw_iconst (v := 1) dP_findsTarget_81 (by decide) ?_
          refine zw_isub dP_findsTarget_82 ?_
          rw [hmhe]
          refine zw_istore dP_findsTarget_83 (by decide) rfl ?_
          refine zw_lload dP_findsTarget_85 rfl ?_
          refine zw_aload_n dP_findsTarget_87 rfl ?_
          refine zw_iload dP_findsTarget_88 rfl ?_
          refine zw_aload_n dP_findsTarget_90 rfl ?_
          refine zw_get dP_findsTarget_91 zf_P_19 (by first | exact hS | exact hG) rfl ?_
          refine zw_aload_n dP_findsTarget_94 rfl ?_
          refine zw_get dP_findsTarget_95 zf_P_69 (by first | exact hS | exact hG) rfl ?_
          refine zc_V3L dP_findsTarget_98 zm_G_within zk_P_92 (by first | exact hS | exact hG) rfl cw ?_ zRR (Nat.le_of_ble_eq_true rfl) ⟨Nat.le_of_ble_eq_true rfl, Nat.le_of_ble_eq_true rfl⟩
          refine zw_land dP_findsTarget_101 ?_
          rw [key1]
          refine zw_lstore dP_findsTarget_102 (by decide) rfl ?_
          refine zw_aload_n dP_findsTarget_104 rfl ?_
          refine zw_lload dP_findsTarget_105 rfl ?_
          refine zc_V1L dP_findsTarget_107 zm_G_around zk_P_96 (by first | exact hS | exact hG) rfl (c_G_around hF hG hgs) ?_ zRR (Nat.le_of_ble_eq_true rfl) ⟨Nat.le_of_ble_eq_true rfl, Nat.le_of_ble_eq_true rfl⟩
          refine zw_lload_n dP_findsTarget_110 rfl ?_
          refine zw_land dP_findsTarget_111 ?_
          rw [key2]
          refine zw_lstore dP_findsTarget_112 (by decide) rfl ?_
          refine zw_lload dP_findsTarget_114 rfl ?_
          refine zw_lconst (v := 0) dP_findsTarget_116 (by decide) ?_
          refine zw_lcmp dP_findsTarget_117 ?_
          refine zw_if_eq 175 dP_findsTarget_118 (by decide) (fun c_118 => ?_) (fun c_118 => ?_)
          · refine zw_aload_n dP_findsTarget_175 rfl ?_
            refine zw_lload dP_findsTarget_176 rfl ?_
            refine zc_V1L dP_findsTarget_178 zm_G_around zk_P_96 (by first | exact hS | exact hG) rfl (c_G_around hF hG (lvl_sub hK s)) ?_ zRR (Nat.le_of_ble_eq_true rfl) ⟨Nat.le_of_ble_eq_true rfl, Nat.le_of_ble_eq_true rfl⟩
            refine zw_aload_n dP_findsTarget_181 rfl ?_
            refine zw_get dP_findsTarget_182 zf_P_69 (by first | exact hS | exact hG) rfl ?_
            refine zw_land dP_findsTarget_185 ?_
            refine zw_lload dP_findsTarget_186 rfl ?_
            refine zw_ldc2 dP_findsTarget_188 zcl_P_83 ?_
            refine zw_lxor dP_findsTarget_191 ?_
            refine zw_land dP_findsTarget_192 ?_
            rw [m_ex]
            refine zw_lstore dP_findsTarget_193 (by decide) rfl ?_
            refine zw_lload dP_findsTarget_195 rfl ?_
            refine zw_lload dP_findsTarget_197 rfl ?_
            refine zw_lor dP_findsTarget_199 ?_
            rw [m_exl]
            refine zw_lstore dP_findsTarget_200 (by decide) rfl ?_
            refine zw_incN dP_findsTarget_202 rfl (by decide) rfl ?_
            refine zw_goto 58 dP_findsTarget_205 (by decide) ?_
            have hno : tHas F S s = false := by
              have : fst (tgs F S s) 36 0 = none := fst_none.mpr (fun c _ hc => (m_eq0 _).mp (lgc_eq _ _ c_118) c (by omega))
              simp [tHas, this]
            exact zw_lk (ih (s + 1) (by omega) (by rw [← hfs, fst_f hno])) ⟨rfl, rfl, rfl, rfl, rfl, rfl, rfl, trivial⟩
          · have hne := lgc_ne _ _ c_118
            cases hh : fst (tgs F S s) 36 0 with
            | none => exact absurd (fst_no0 hh) hne
            | some t =>
              exact T s t (by omega) (by rw [← hfs]; exact fst_t (by simp [tHas, hh])) hh _ ⟨rfl, rfl, rfl, rfl, rfl, rfl, trivial⟩
  have eu : ((mset (gAll F) &&& (mset (gK F 3) ^^^ (-1))) &&& (mset (kn1 S) ^^^ (-1))) &&& (mset (kn2 S) ^^^ (-1)) = mset (unk F S) := by
    rw [m_andn, m_andn, m_andn]
    apply mset_congr
    intro c _
    simp only [gAll, gK, unk]
    by_cases hc : c < fN F <;> simp [hc]
  refine zw_aload_n dP_findsTarget_0 rfl ?_
  refine zw_get dP_findsTarget_1 zf_P_15 (by first | exact hS | exact hG) rfl ?_
  refine zw_astore_n dP_findsTarget_4 (by decide) rfl ?_
  refine zw_aload_n dP_findsTarget_5 rfl ?_
  refine zw_get dP_findsTarget_6 zf_P_77 (by first | exact hS | exact hG) rfl ?_
  refine zw_aload_n dP_findsTarget_9 rfl ?_
  refine zw_get dP_findsTarget_10 zf_P_80 (by first | exact hS | exact hG) rfl ?_
  refine zw_ldc2 dP_findsTarget_13 zcl_P_83 ?_
  refine zw_lxor dP_findsTarget_16 ?_
  refine zw_land dP_findsTarget_17 ?_
  refine zw_aload_n dP_findsTarget_18 rfl ?_
  refine zw_get dP_findsTarget_19 zf_P_69 (by first | exact hS | exact hG) rfl ?_
  refine zw_ldc2 dP_findsTarget_22 zcl_P_83 ?_
  refine zw_lxor dP_findsTarget_25 ?_
  refine zw_land dP_findsTarget_26 ?_
  refine zw_aload_n dP_findsTarget_27 rfl ?_
  refine zw_get dP_findsTarget_28 zf_P_85 (by first | exact hS | exact hG) rfl ?_
  refine zw_ldc2 dP_findsTarget_31 zcl_P_83 ?_
  refine zw_lxor dP_findsTarget_34 ?_
  refine zw_land dP_findsTarget_35 ?_
  rw [eu]
  refine zw_lstore_n dP_findsTarget_36 (by decide) rfl ?_
  refine zw_aload_n dP_findsTarget_37 rfl ?_
  refine zw_get dP_findsTarget_38 zf_P_9 (by first | exact hS | exact hG) rfl ?_
  refine zc_S1L dP_findsTarget_41 zm_F_only zk_P_88 (c_F_only haO) ?_ zRR (Nat.le_of_ble_eq_true rfl) ⟨Nat.le_of_ble_eq_true rfl, Nat.le_of_ble_eq_true rfl⟩
  refine zw_aload_n dP_findsTarget_44 rfl ?_
  refine zw_get dP_findsTarget_45 zf_P_69 (by first | exact hS | exact hG) rfl ?_
  refine zw_land dP_findsTarget_48 ?_
  rw [m_first (F := F)]
  refine zw_lstore dP_findsTarget_49 (by decide) rfl ?_
  refine zw_lload dP_findsTarget_51 rfl ?_
  refine zw_lstore dP_findsTarget_53 (by decide) rfl ?_
  refine zw_iconst (v := 0) dP_findsTarget_55 (by decide) ?_
  refine zw_istore dP_findsTarget_56 (by decide) rfl ?_
  exact zw_lk (L 36 0 rfl rfl) ⟨rfl, rfl, rfl, rfl, rfl, rfl, rfl, trivial⟩
end C30
