/-! ===== the reference: undone, kept, brought back, scanned ===== -/
section C60
variable {l : Launch} {g : zG} {d : Nat} {h : zH} {O : Om}
theorem fil_0s (f : Nat → Int32) (n : Nat) (v : Nat → Int32) : upd (fil f 0 n v) n (v n) = fil f 0 (n + 1) v := by
  have := fil_s f 0 n v
  rw [Nat.zero_add] at this
  exact this
theorem c_M_undo (a : MX h O) (ok : oOK' O) : Run l g mM_undo d 0 0 [.ref 31] h (PIh (rUndo O) (MP h (nUndo O))) := by
  obtain ⟨⟨qa, qb, z, hM, hS⟩, ⟨pa, hP, hr⟩, ai, at', az⟩ := id a
  have hsz := ok.2.2.2.2.1
  unfold rUndo nUndo
  refine run_of (by decide) (Nat.le_of_ble_eq_true rfl) ?_
  by_cases h0 : oSz O = 0
  · rw [if_pos h0, if_pos h0]
    refine zw_aload_n dM_undo_0 rfl ?_
    refine zw_get dM_undo_1 zf_M_64 hM rfl ?_
    refine zw_if_ne 10 dM_undo_4 (by decide) (fun c_4 => ?_) (fun c_4 => ?_)
    · exact absurd (by rw [h0]; rfl) c_4
    · refine zw_bipush (v := (-2)) dM_undo_7 (by decide) ?_
      exact zw_iret dM_undo_9 rfl rfl rfl ⟨rfl, MP.rf a⟩
  · rw [if_neg h0, if_neg h0]
    have hn : ¬ nI (oSz O) = 0 := nI_ne0 (by omega) (by omega)
    have e1 : nI (oSz O) - 1 = nI (oSz O - 1) := pk_sub (b := 1) (by omega)
    obtain ⟨z1, hz1⟩ := hr (oSz O - 1) (by omega)
    obtain ⟨un, hun⟩ : ∃ un, un = oSz O - 1 := ⟨_, rfl⟩
    rw [show oSz O - 1 - (oSz O - 1) = 0 by omega] at hz1
    rw [← hun] at e1 hz1 ⊢
    obtain ⟨hh, hhh⟩ : ∃ hh, hh = h.set 31 (mC (oF O) un (oLen O) qa qb) := ⟨_, rfl⟩
    have hM1 : hh[31]? = some (mC (oF O) un (oLen O) qa qb) := by rw [hhh]; exact zg_eq hM
    have hS1 : hh[32]? = some (sC (oF O) (oS O) z) := by rw [hhh]; exact zg_ne (by decide) hS
    have hP1 : hh[33]? = some (iA 684 pa) := by rw [hhh]; exact zg_ne (by decide) hP
    have hM32 : ∀ c, (hh.set 32 c)[31]? = some (mC (oF O) un (oLen O) qa qb) := fun c => zg_ne (by decide) hM1
    have hS32 : ∀ c, (hh.set 32 c)[32]? = some c := fun c => zg_eq hS1
    have hP32 : ∀ c, (hh.set 32 c)[33]? = some (iA 684 pa) := fun c => zg_ne (by decide) hP1
    have hlen : hh.length = h.length := by rw [hhh, zs_len]
    have Q : MP h (oUnd O) (hh.set 32 (sC (oF O) (oU O 0) z1)) := ⟨⟨⟨qa, qb, z1, by have := hM32 (sC (oF O) (oU O 0) z1); rw [hun] at this; exact this, hS32 _⟩, ⟨pa, hP32 _, fun r hr2 => by
        have e : oSz (oUnd O) = oSz O - 1 := rfl
        rw [e] at hr2
        obtain ⟨z2, hz2⟩ := hr r (by omega)
        refine ⟨z2, fun j hj => ?_⟩
        rw [hz2 j hj, e, show oSz O - 1 - r = (oSz O - 1 - 1 - r) + 1 by omega]
        rfl⟩, ai.keep (by rw [hhh]; exact zg_ne (by decide) (zg_ne (by decide) rfl)) (by rw [hhh]; exact zg_ne (by decide) (zg_ne (by decide) rfl)), at'.keep (by rw [hhh]; exact zg_ne (by decide) (zg_ne (by decide) rfl)), az.keep (fun j h1 h2 => by rw [hhh]; exact zg_ne (by omega) (zg_ne (by omega) rfl))⟩, by rw [hhh]; exact frM.set2 (by decide) (by decide), by rw [zs_len, hlen]⟩
    have L : ∀ (m i : Nat), i + m = 114 → WW l g mM_undo (zrm d 0 0) (fun _ => True) (zQQ g (PIh (nI un) (MP h (oUnd O))) (h.length + 0) 0 0) 22 [(0, some (.ref 31)), (1, some (.int (nI i)))] [] (hh.set 32 (iA 114 (fil (ms (oF O) (oS O) z) 0 i (fun j => pa (114 * un + j))))) 0 0 := by
      intro m
      induction m with
      | zero =>
        intro i hi
        have hi : i = 114 := by omega
        subst hi
        refine zw_exti (ms (oF O) (oU O 0) z1) (hS32 _) (fun j hj => by rw [fil0 hj]; exact hz1 j hj) ?_
        refine zw_h (iAu rfl) ?_
        refine zw_iload_n dM_undo_22 rfl ?_
        refine zw_bipush (v := 114) dM_undo_23 (by decide) ?_
        refine zw_icmp_ge 54 dM_undo_25 (by decide) (fun c_25 => ?_) (fun c_25 => ?_)
        · refine zw_aload_n dM_undo_54 rfl ?_
          refine zw_get dM_undo_55 zf_M_64 (hM32 _) rfl ?_
          exact zw_iret dM_undo_58 rfl rfl (zset_len1 _ _ _ hlen) ⟨rfl, Q⟩
        · exact absurd (Int32.le_refl _) c_25
      | succ m ih =>
        intro i hi
        have ecl : (nI i).toNatClampNeg = i := nI_clamp (by omega)
        have e3 : (114 : Int32) * nI un + nI i = nI (114 * un + i) := by rw [show (114 : Int32) * nI un = nI (114 * un) from pk_mul 114 un, nI_add]
        have e2 : (nI (114 * un + i)).toNatClampNeg = 114 * un + i := nI_clamp (by omega)
        refine zw_iload_n dM_undo_22 rfl ?_
        refine zw_bipush (v := 114) dM_undo_23 (by decide) ?_
        refine zw_icmp_ge 54 dM_undo_25 (by decide) (fun c_25 => ?_) (fun c_25 => ?_)
        · exact absurd ((nI_leI (a := 114) (by omega) (by omega)).mp c_25) (by omega)
        · refine zw_aload_n dM_undo_28 rfl ?_
          refine zw_get dM_undo_29 zf_M_16 (by first | exact hM32 _ | exact hS32 _ | exact hP32 _) rfl ?_
          refine zw_iload_n dM_undo_32 rfl ?_
          refine zw_aload_n dM_undo_33 rfl ?_
          refine zw_get dM_undo_34 zf_M_20 (by first | exact hM32 _ | exact hS32 _ | exact hP32 _) rfl ?_
          refine zw_bipush (v := 114) dM_undo_37 (by decide) ?_
          refine zw_aload_n dM_undo_39 rfl ?_
          refine zw_get dM_undo_40 zf_M_64 (by first | exact hM32 _ | exact hS32 _ | exact hP32 _) rfl ?_
          refine zw_imul dM_undo_43 ?_
          refine zw_iload_n dM_undo_44 rfl ?_
          refine zw_iadd dM_undo_45 ?_
          rw [e3]
          refine zw_iald dM_undo_46 (by first | exact hM32 _ | exact hS32 _ | exact hP32 _) (vp_in_nI (show 114 * un + i < 684 by omega) (by decide)) ?_
          rw [e2]
          refine zw_iast dM_undo_47 (by first | exact hM32 _ | exact hS32 _ | exact hP32 _) (vp_in_nI (show i < 114 by omega) (by decide)) ?_
          rw [ecl]
          refine zw_h (iAu (fil_0s _ _ (fun j => pa (114 * un + j)))) ?_
          refine zw_incN dM_undo_48 rfl (by decide) rfl ?_
          refine zw_goto 22 dM_undo_51 (by decide) ?_
          exact zw_lk (ih (i + 1) (by omega)) ⟨rfl, rfl, trivial⟩
    refine zw_aload_n dM_undo_0 rfl ?_
    refine zw_get dM_undo_1 zf_M_64 hM rfl ?_
    refine zw_if_ne 10 dM_undo_4 (by decide) (fun c_4 => ?_) (fun c_4 => ?_)
    · refine zw_aload_n dM_undo_10 rfl ?_
      refine zw_dup dM_undo_11 rfl ?_
      refine zw_get dM_undo_12 zf_M_64 hM rfl ?_
      refine zw_iconst (v := 1) dM_undo_15 (by decide) ?_
      refine zw_isub dM_undo_16 ?_
      rw [e1]
      refine zw_puti dM_undo_17 zf_M_64 hM (Nat.le_of_ble_eq_true rfl) ?_
      refine zw_h (show _ = hh from hhh.symm) ?_
      refine zw_iconst (v := 0) dM_undo_20 (by decide) ?_
      refine zw_istore_n dM_undo_21 (by decide) rfl ?_
      have L0 := L 114 0 (by omega)
      rw [fil_0, show hh.set 32 (iA 114 (ms (oF O) (oS O) z)) = hh from zs_self hS1] at L0
      exact zw_lk L0 ⟨rfl, rfl, trivial⟩
    · exact absurd c_4 hn
theorem c_M_keep (a : MX h O) (ok : oOK' O) {x : Int32} : Run l g mM_keep (d + 1) 0 0 [.ref 31, .int x] h (PIh (rKeep O x) (MP h (nKeepX O x))) := by
  obtain ⟨⟨qa, qb, z, hM, hS⟩, au, ⟨ik, ke, i1, i2, i3⟩, at', az⟩ := id a
  have ci := c_M_inB (l := l) (g := g) (d := d) (h := h) (x := x) (a := 0) (b := 1) (by decide) (by decide)
  unfold rKeep nKeepX
  refine run_of (by decide) (Nat.le_of_ble_eq_true rfl) ?_
  cases hb : btw x 0 1 with
  | none =>
    rw [hb] at ci
    refine zw_iload_n dM_keep_0 rfl ?_
    refine zw_iconst (v := 0) dM_keep_1 (by decide) ?_
    refine zw_iconst (v := 1) dM_keep_2 (by decide) ?_
    refine zc_S3I dM_keep_3 zm_M_in zk_M_67 ci ?_ zRR (Nat.le_of_ble_eq_true rfl) ⟨Nat.le_of_ble_eq_true rfl, Nat.le_of_ble_eq_true rfl⟩
    refine zw_if_ne 11 dM_keep_6 (by decide) (fun c_6 => ?_) (fun c_6 => ?_)
    · exact absurd rfl c_6
    · refine zw_iconst (v := (-1)) dM_keep_9 (by decide) ?_
      exact zw_iret dM_keep_10 rfl rfl rfl ⟨rfl, MP.rf a⟩
  | some w =>
    rw [hb] at ci
    obtain ⟨-, hw, rfl⟩ := (btw_some (by decide)).mp hb
    dsimp only
    have ewc : (nI w).toNatClampNeg = w := nI_clamp (by omega)
    have hM35 : ∀ c, (h.set 35 c)[31]? = some (mC (oF O) (oSz O) (oLen O) qa qb) := fun c => zg_ne (by decide) hM
    have hS35 : ∀ c, (h.set 35 c)[32]? = some (sC (oF O) (oS O) z) := fun c => zg_ne (by decide) hS
    have hK35 : ∀ c, (h.set 35 c)[35]? = some c := fun c => zg_eq i2
    have hI35 : ∀ c, (h.set 35 c)[34]? = some (bA ik) := fun c => zg_ne (by decide) i1
    obtain ⟨ke2, hke2⟩ : ∃ ke2, ke2 = fil ke (114 * w) 114 (ms (oF O) (oS O) z) := ⟨_, rfl⟩
    have Q : MP h (nKeep O w) ((h.set 35 (iA 228 ke2)).set 34 (bA (upd ik w (vp_nar .boolean 1)))) := ⟨⟨⟨qa, qb, z, zg_ne (by decide) (hM35 _), zg_ne (by decide) (hS35 _)⟩, au.keep (zg_ne (by decide) (zg_ne (by decide) rfl)), ⟨_, ke2, zg_eq (hI35 _), zg_ne (by decide) (hK35 _), fun i hi => by
        by_cases q : i = w
        · subst q
          refine ⟨by rw [upd_eq]; show (1 : Int32) = if (if i = i then true else oKp O i) = true then 1 else 0; simp, fun _ => ⟨z, fun j hj => ?_⟩⟩
          rw [hke2, fil_in hj]
          show _ = ms (oF O) (if i = i then oS O else oI' O i) z j
          rw [if_pos rfl]
        · obtain ⟨g1, g2⟩ := i3 i hi
          refine ⟨by rw [upd_ne _ _ q, g1]; show _ = if (if i = w then true else oKp O i) = true then 1 else 0; rw [if_neg q], fun hk => ?_⟩
          have hk2 : oKp O i = true := by
            have : (if i = w then true else oKp O i) = true := hk
            rw [if_neg q] at this
            exact this
          obtain ⟨z2, hz2⟩ := g2 hk2
          refine ⟨z2, fun j hj => ?_⟩
          rw [hke2, fil_out (by omega), hz2 j hj]
          show _ = ms (oF O) (if i = w then oS O else oI' O i) z2 j
          rw [if_neg q]⟩, at'.keep (zg_ne (by decide) (zg_ne (by decide) rfl)), az.keep (fun j h1 h2 => zg_ne (by omega) (zg_ne (by omega) rfl))⟩, frM.set2 (by decide) (by decide), by rw [zs_len, zs_len]⟩
    have L : ∀ (m i : Nat), i + m = 114 → WW l g mM_keep (zrm (d + 1) 0 0) (fun _ => True) (zQQ g (PIh (nI (sAt (oS O))) (MP h (nKeep O w))) (h.length + 0) 0 0) 13 [(0, some (.ref 31)), (1, some (.int (nI w))), (2, some (.int (nI i)))] [] (h.set 35 (iA 228 (fil ke (114 * w) i (ms (oF O) (oS O) z)))) 0 0 := by
      intro m
      induction m with
      | zero =>
        intro i hi
        have hi : i = 114 := by omega
        subst hi
        rw [← hke2]
        refine zw_iload_n dM_keep_13 rfl ?_
        refine zw_bipush (v := 114) dM_keep_14 (by decide) ?_
        refine zw_icmp_ge 42 dM_keep_16 (by decide) (fun c_16 => ?_) (fun c_16 => ?_)
        · refine zw_aload_n dM_keep_42 rfl ?_
          refine zw_get dM_keep_43 zf_M_23 (by first | exact hM35 _ | exact hS35 _ | exact hK35 _ | exact hI35 _ | exact zg_ne (by decide) (hM35 _) | exact zg_ne (by decide) (hS35 _)) rfl ?_
          refine zw_iload_n dM_keep_46 rfl ?_
          refine zw_iconst (v := 1) dM_keep_47 (by decide) ?_
          refine zw_zast dM_keep_48 (by first | exact hM35 _ | exact hS35 _ | exact hK35 _ | exact hI35 _ | exact zg_ne (by decide) (hM35 _) | exact zg_ne (by decide) (hS35 _)) (vp_in_nI (show w < 2 by omega) (by decide)) ?_
          rw [ewc]
          refine zw_aload_n dM_keep_49 rfl ?_
          refine zw_get dM_keep_50 zf_M_16 (by first | exact hM35 _ | exact hS35 _ | exact hK35 _ | exact hI35 _ | exact zg_ne (by decide) (hM35 _) | exact zg_ne (by decide) (hS35 _)) rfl ?_
          refine zw_bipush (v := 108) dM_keep_53 (by decide) ?_
          refine zw_iald dM_keep_55 (by first | exact hM35 _ | exact hS35 _ | exact hK35 _ | exact hI35 _ | exact zg_ne (by decide) (hM35 _) | exact zg_ne (by decide) (hS35 _)) v108 ?_
          rw [e108, ms_108]
          exact zw_iret dM_keep_56 rfl rfl (by rw [zs_len, zs_len]; rfl) ⟨rfl, Q⟩
        · exact absurd (Int32.le_refl _) c_16
      | succ m ih =>
        intro i hi
        have ecl : (nI i).toNatClampNeg = i := nI_clamp (by omega)
        have e1 : (114 : Int32) * nI w + nI i = nI (114 * w + i) := by rw [show (114 : Int32) * nI w = nI (114 * w) from pk_mul 114 w, nI_add]
        have e2 : (nI (114 * w + i)).toNatClampNeg = 114 * w + i := nI_clamp (by omega)
        refine zw_iload_n dM_keep_13 rfl ?_
        refine zw_bipush (v := 114) dM_keep_14 (by decide) ?_
        refine zw_icmp_ge 42 dM_keep_16 (by decide) (fun c_16 => ?_) (fun c_16 => ?_)
        · exact absurd ((nI_leI (a := 114) (by omega) (by omega)).mp c_16) (by omega)
        · refine zw_aload_n dM_keep_19 rfl ?_
          refine zw_get dM_keep_20 zf_M_27 (by first | exact hM35 _ | exact hS35 _ | exact hK35 _) rfl ?_
          refine zw_bipush (v := 114) dM_keep_23 (by decide) ?_
          refine zw_iload_n dM_keep_25 rfl ?_
          refine zw_imul dM_keep_26 ?_
          refine zw_iload_n dM_keep_27 rfl ?_
          refine zw_iadd dM_keep_28 ?_
          rw [e1]
          refine zw_aload_n dM_keep_29 rfl ?_
          refine zw_get dM_keep_30 zf_M_16 (by first | exact hM35 _ | exact hS35 _ | exact hK35 _) rfl ?_
          refine zw_iload_n dM_keep_33 rfl ?_
          refine zw_iald dM_keep_34 (by first | exact hM35 _ | exact hS35 _ | exact hK35 _) (vp_in_nI (show i < 114 by omega) (by decide)) ?_
          rw [ecl]
          refine zw_iast dM_keep_35 (by first | exact hM35 _ | exact hS35 _ | exact hK35 _) (vp_in_nI (show 114 * w + i < 228 by omega) (by decide)) ?_
          rw [e2]
          refine zw_h (iAu (fil_s _ _ _ _)) ?_
          refine zw_incN dM_keep_36 rfl (by decide) rfl ?_
          refine zw_goto 13 dM_keep_39 (by decide) ?_
          exact zw_lk (ih (i + 1) (by omega)) ⟨rfl, rfl, rfl, trivial⟩
    refine zw_iload_n dM_keep_0 rfl ?_
    refine zw_iconst (v := 0) dM_keep_1 (by decide) ?_
    refine zw_iconst (v := 1) dM_keep_2 (by decide) ?_
    refine zc_S3I dM_keep_3 zm_M_in zk_M_67 ci ?_ zRR (Nat.le_of_ble_eq_true rfl) ⟨Nat.le_of_ble_eq_true rfl, Nat.le_of_ble_eq_true rfl⟩
    refine zw_if_ne 11 dM_keep_6 (by decide) (fun c_6 => ?_) (fun c_6 => ?_)
    · refine zw_iconst (v := 0) dM_keep_11 (by decide) ?_
      refine zw_istore_n dM_keep_12 (by decide) rfl ?_
      have L0 := L 114 0 (by omega)
      rw [fil_0, zs_self i2] at L0
      exact zw_lk L0 ⟨rfl, rfl, rfl, trivial⟩
    · exact absurd c_6 (show ¬ (1 : Int32) = 0 by decide)
theorem c_M_back (a : MX h O) (ok : oOK' O) {x : Int32} : Run l g mM_back (d + 1) 0 0 [.ref 31, .int x] h (PIh (rBack O x) (MP h (nBackX O x))) := by
  obtain ⟨⟨qa, qb, z, hM, hS⟩, ⟨pa, hP, hr⟩, ⟨ik, ke, i1, i2, i3⟩, at', az⟩ := id a
  have ci := c_M_inB (l := l) (g := g) (d := d) (h := h) (x := x) (a := 0) (b := 1) (by decide) (by decide)
  unfold rBack nBackX
  refine run_of (by decide) (Nat.le_of_ble_eq_true rfl) ?_
  cases hb : btw x 0 1 with
  | none =>
    rw [hb] at ci
    refine zw_iload_n dM_back_0 rfl ?_
    refine zw_iconst (v := 0) dM_back_1 (by decide) ?_
    refine zw_iconst (v := 1) dM_back_2 (by decide) ?_
    refine zc_S3I dM_back_3 zm_M_in zk_M_67 ci ?_ zRR (Nat.le_of_ble_eq_true rfl) ⟨Nat.le_of_ble_eq_true rfl, Nat.le_of_ble_eq_true rfl⟩
    refine zw_if_ne 11 dM_back_6 (by decide) (fun c_6 => ?_) (fun c_6 => ?_)
    · exact absurd rfl c_6
    · refine zw_iconst (v := (-1)) dM_back_9 (by decide) ?_
      exact zw_iret dM_back_10 rfl rfl rfl ⟨rfl, MP.rf a⟩
  | some w =>
    rw [hb] at ci
    obtain ⟨-, hw, rfl⟩ := (btw_some (by decide)).mp hb
    dsimp only
    have ewc : (nI w).toNatClampNeg = w := nI_clamp (by omega)
    obtain ⟨g1, g2⟩ := i3 w (by omega)
    cases hk : oKp O w with
    | false =>
      rw [hk] at g1
      rw [if_neg (by decide), if_neg (by decide)]
      refine zw_iload_n dM_back_0 rfl ?_
      refine zw_iconst (v := 0) dM_back_1 (by decide) ?_
      refine zw_iconst (v := 1) dM_back_2 (by decide) ?_
      refine zc_S3I dM_back_3 zm_M_in zk_M_67 ci ?_ zRR (Nat.le_of_ble_eq_true rfl) ⟨Nat.le_of_ble_eq_true rfl, Nat.le_of_ble_eq_true rfl⟩
      refine zw_if_ne 11 dM_back_6 (by decide) (fun c_6 => ?_) (fun c_6 => ?_)
      · refine zw_aload_n dM_back_11 rfl ?_
        refine zw_get dM_back_12 zf_M_23 (by first | exact hM | exact i1) rfl ?_
        refine zw_iload_n dM_back_15 rfl ?_
        refine zw_zald dM_back_16 (by first | exact hM | exact i1) (vp_in_nI (show w < 2 by omega) (by decide)) ?_
        rw [ewc, g1]
        refine zw_if_ne 23 dM_back_17 (by decide) (fun c_17 => ?_) (fun c_17 => ?_)
        · exact absurd rfl c_17
        · refine zw_bipush (v := (-2)) dM_back_20 (by decide) ?_
          exact zw_iret dM_back_22 rfl rfl rfl ⟨rfl, MP.rf a⟩
      · exact absurd c_6 (show ¬ (1 : Int32) = 0 by decide)
    | true =>
      rw [hk] at g1
      rw [if_pos rfl, if_pos rfl]
      obtain ⟨z1, hz1⟩ := g2 hk
      have hM32 : ∀ c, (h.set 32 c)[31]? = some (mC (oF O) (oSz O) (oLen O) qa qb) := fun c => zg_ne (by decide) hM
      have hS32 : ∀ c, (h.set 32 c)[32]? = some c := fun c => zg_eq hS
      have hK32 : ∀ c, (h.set 32 c)[35]? = some (iA 228 ke) := fun c => zg_ne (by decide) i2
      have Q : MP h (nBack O w) ((h.set 32 (sC (oF O) (oI' O w) z1)).set 31 (mC (oF O) 0 (oLen O) qa qb)) := ⟨⟨⟨qa, qb, z1, zg_eq (hM32 _), zg_ne (by decide) (hS32 _)⟩, ⟨pa, zg_ne (by decide) (zg_ne (by decide) hP), fun r hr2 => absurd hr2 (Nat.not_lt_zero _)⟩, ⟨ik, ke, zg_ne (by decide) (zg_ne (by decide) i1), zg_ne (by decide) (hK32 _), i3⟩, at'.keep (zg_ne (by decide) (zg_ne (by decide) rfl)), az.keep (fun j h1 h2 => zg_ne (by omega) (zg_ne (by omega) rfl))⟩, frM.set2 (by decide) (by decide), by rw [zs_len, zs_len]⟩
      have L : ∀ (m i : Nat), i + m = 114 → WW l g mM_back (zrm (d + 1) 0 0) (fun _ => True) (zQQ g (PIh (nI (sAt (oI' O w))) (MP h (nBack O w))) (h.length + 0) 0 0) 25 [(0, some (.ref 31)), (1, some (.int (nI w))), (2, some (.int (nI i)))] [] (h.set 32 (iA 114 (fil (ms (oF O) (oS O) z) 0 i (fun j => ke (114 * w + j))))) 0 0 := by
        intro m
        induction m with
        | zero =>
          intro i hi
          have hi : i = 114 := by omega
          subst hi
          refine zw_exti (ms (oF O) (oI' O w) z1) (hS32 _) (fun j hj => by rw [fil0 hj]; exact hz1 j hj) ?_
          refine zw_h (iAu rfl) ?_
          refine zw_iload_n dM_back_25 rfl ?_
          refine zw_bipush (v := 114) dM_back_26 (by decide) ?_
          refine zw_icmp_ge 54 dM_back_28 (by decide) (fun c_28 => ?_) (fun c_28 => ?_)
          · refine zw_aload_n dM_back_54 rfl ?_
            refine zw_iconst (v := 0) dM_back_55 (by decide) ?_
            refine zw_puti dM_back_56 zf_M_64 (by first | exact hM32 _ | exact zg_eq (hM32 _) | exact zg_ne (by decide) (hS32 _)) (Nat.le_of_ble_eq_true rfl) ?_
            refine zw_aload_n dM_back_59 rfl ?_
            refine zw_get dM_back_60 zf_M_16 (by first | exact hM32 _ | exact zg_eq (hM32 _) | exact zg_ne (by decide) (hS32 _)) rfl ?_
            refine zw_bipush (v := 108) dM_back_63 (by decide) ?_
            refine zw_iald dM_back_65 (by first | exact hM32 _ | exact zg_eq (hM32 _) | exact zg_ne (by decide) (hS32 _)) v108 ?_
            rw [e108, ms_108]
            exact zw_iret dM_back_66 rfl rfl (by rw [zs_len, zs_len]; rfl) ⟨rfl, Q⟩
          · exact absurd (Int32.le_refl _) c_28
        | succ m ih =>
          intro i hi
          have ecl : (nI i).toNatClampNeg = i := nI_clamp (by omega)
          have e3 : (114 : Int32) * nI w + nI i = nI (114 * w + i) := by rw [show (114 : Int32) * nI w = nI (114 * w) from pk_mul 114 w, nI_add]
          have e2 : (nI (114 * w + i)).toNatClampNeg = 114 * w + i := nI_clamp (by omega)
          refine zw_iload_n dM_back_25 rfl ?_
          refine zw_bipush (v := 114) dM_back_26 (by decide) ?_
          refine zw_icmp_ge 54 dM_back_28 (by decide) (fun c_28 => ?_) (fun c_28 => ?_)
          · exact absurd ((nI_leI (a := 114) (by omega) (by omega)).mp c_28) (by omega)
          · refine zw_aload_n dM_back_31 rfl ?_
            refine zw_get dM_back_32 zf_M_16 (by first | exact hM32 _ | exact hS32 _ | exact hK32 _) rfl ?_
            refine zw_iload_n dM_back_35 rfl ?_
            refine zw_aload_n dM_back_36 rfl ?_
            refine zw_get dM_back_37 zf_M_27 (by first | exact hM32 _ | exact hS32 _ | exact hK32 _) rfl ?_
            refine zw_bipush (v := 114) dM_back_40 (by decide) ?_
            refine zw_iload_n dM_back_42 rfl ?_
            refine zw_imul dM_back_43 ?_
            refine zw_iload_n dM_back_44 rfl ?_
            refine zw_iadd dM_back_45 ?_
            rw [e3]
            refine zw_iald dM_back_46 (by first | exact hM32 _ | exact hS32 _ | exact hK32 _) (vp_in_nI (show 114 * w + i < 228 by omega) (by decide)) ?_
            rw [e2]
            refine zw_iast dM_back_47 (by first | exact hM32 _ | exact hS32 _ | exact hK32 _) (vp_in_nI (show i < 114 by omega) (by decide)) ?_
            rw [ecl]
            refine zw_h (iAu (fil_0s _ _ (fun j => ke (114 * w + j)))) ?_
            refine zw_incN dM_back_48 rfl (by decide) rfl ?_
            refine zw_goto 25 dM_back_51 (by decide) ?_
            exact zw_lk (ih (i + 1) (by omega)) ⟨rfl, rfl, rfl, trivial⟩
      refine zw_iload_n dM_back_0 rfl ?_
      refine zw_iconst (v := 0) dM_back_1 (by decide) ?_
      refine zw_iconst (v := 1) dM_back_2 (by decide) ?_
      refine zc_S3I dM_back_3 zm_M_in zk_M_67 ci ?_ zRR (Nat.le_of_ble_eq_true rfl) ⟨Nat.le_of_ble_eq_true rfl, Nat.le_of_ble_eq_true rfl⟩
      refine zw_if_ne 11 dM_back_6 (by decide) (fun c_6 => ?_) (fun c_6 => ?_)
      · refine zw_aload_n dM_back_11 rfl ?_
        refine zw_get dM_back_12 zf_M_23 (by first | exact hM | exact i1) rfl ?_
        refine zw_iload_n dM_back_15 rfl ?_
        refine zw_zald dM_back_16 (by first | exact hM | exact i1) (vp_in_nI (show w < 2 by omega) (by decide)) ?_
        rw [ewc, g1]
        refine zw_if_ne 23 dM_back_17 (by decide) (fun c_17 => ?_) (fun c_17 => ?_)
        · refine zw_iconst (v := 0) dM_back_23 (by decide) ?_
          refine zw_istore_n dM_back_24 (by decide) rfl ?_
          have L0 := L 114 0 (by omega)
          rw [fil_0, show h.set 32 (iA 114 (ms (oF O) (oS O) z)) = h from zs_self hS] at L0
          exact zw_lk L0 ⟨rfl, rfl, rfl, trivial⟩
        · exact absurd c_17 (show ¬ (1 : Int32) = 0 by decide)
      · exact absurd c_6 (show ¬ (1 : Int32) = 0 by decide)
/-! scans -/
def dg (x q : Nat) : Nat := match q with
  | 0 => x / 3 / 3 / 3 % 3
  | 1 => x / 3 / 3 % 3
  | 2 => x / 3 % 3
  | _ => x % 3
theorem d3 {x : Nat} (hx : x < 100) : nI x / 3 = nI (x / 3) ∧ nI x - nI x / 3 * 3 = nI (x % 3) := ⟨pk_div (d := 3) (by omega) (by decide) (by decide), pk_rem (d := 3) (by omega) (by decide) (by decide)⟩
theorem n3 : ¬ (3 : Int32) = 0 := by decide
theorem c_M_part {x q : Nat} (hx : x < 100) (hq : q < 4) : Run l g mM_part d 0 0 [.int (nI x), .int (nI q)] h (PI (nI (dg x q)) h) := by
  obtain ⟨a1, a2⟩ := d3 hx
  obtain ⟨b1, b2⟩ := d3 (x := x / 3) (by omega)
  obtain ⟨c1, c2⟩ := d3 (x := x / 3 / 3) (by omega)
  obtain ⟨g1, g2⟩ := d3 (x := x / 3 / 3 / 3) (by omega)
  refine run_of (by decide) (Nat.le_of_ble_eq_true rfl) ?_
  have E : ∀ y, y < 100 → ∀ r, nI (y % 3) = r → WW l g mM_part (zrm d 0 0) (fun _ => True) (zQQ g (PI r h) (h.length + 0) 0 0) 4 [(2, some (.int (nI y))), (3, some (.int (nI 3)))] [] h 0 0 := by
    intro y hy r hr
    obtain ⟨-, y2⟩ := d3 hy
    subst hr
    refine zw_iload_n dM_part_4 rfl ?_
    refine zw_iconst (v := 3) dM_part_5 (by decide) ?_
    refine zw_icmp_ge 19 dM_part_6 (by decide) (fun c_6 => ?_) (fun c_6 => ?_)
    · refine zw_iload_n dM_part_19 rfl ?_
      refine zw_iconst (v := 3) dM_part_20 (by decide) ?_
      refine zw_irem dM_part_21 n3 ?_
      rw [y2]
      exact zw_iret dM_part_22 rfl rfl rfl ⟨rfl, rfl⟩
    · exact absurd (Int32.le_refl _) c_6
  have T : ∀ y k r, y < 100 → k < 3 → WW l g mM_part (zrm d 0 0) (fun _ => True) (zQQ g (PI r h) (h.length + 0) 0 0) 4 [(2, some (.int (nI (y / 3)))), (3, some (.int (nI (k + 1))))] [] h 0 0 → WW l g mM_part (zrm d 0 0) (fun _ => True) (zQQ g (PI r h) (h.length + 0) 0 0) 4 [(2, some (.int (nI y))), (3, some (.int (nI k)))] [] h 0 0 := by
    intro y k r hy hk W
    obtain ⟨y1, -⟩ := d3 hy
    refine zw_iload_n dM_part_4 rfl ?_
    refine zw_iconst (v := 3) dM_part_5 (by decide) ?_
    refine zw_icmp_ge 19 dM_part_6 (by decide) (fun c_6 => ?_) (fun c_6 => ?_)
    · exact absurd ((nI_leI (a := 3) (by omega) (by omega)).mp c_6) (by omega)
    · refine zw_iload_n dM_part_9 rfl ?_
      refine zw_iconst (v := 3) dM_part_10 (by decide) ?_
      refine zw_idiv dM_part_11 n3 ?_
      rw [y1]
      refine zw_istore_n dM_part_12 (by decide) rfl ?_
      refine zw_incN dM_part_13 rfl (by decide) rfl ?_
      refine zw_goto 4 dM_part_16 (by decide) ?_
      exact zw_lk W ⟨rfl, rfl, trivial⟩
  have A : WW l g mM_part (zrm d 0 0) (fun _ => True) (zQQ g (PI (nI (dg x q)) h) (h.length + 0) 0 0) 4 [(2, some (.int (nI x))), (3, some (.int (nI q)))] [] h 0 0 := by
    rcases (show q = 0 ∨ q = 1 ∨ q = 2 ∨ q = 3 by omega) with rfl | rfl | rfl | rfl
    · exact T _ _ _ (by omega) (by omega) (T _ _ _ (by omega) (by omega) (T _ _ _ (by omega) (by omega) (E _ (by omega) _ rfl)))
    · exact T _ _ _ (by omega) (by omega) (T _ _ _ (by omega) (by omega) (E _ (by omega) _ rfl))
    · exact T _ _ _ (by omega) (by omega) (E _ (by omega) _ rfl)
    · exact E _ (by omega) _ rfl
  refine zw_iload_n dM_part_0 rfl ?_
  refine zw_istore_n dM_part_1 (by decide) rfl ?_
  refine zw_iload_n dM_part_2 rfl ?_
  refine zw_istore_n dM_part_3 (by decide) rfl ?_
  exact zw_lk A ⟨rfl, rfl, trivial⟩
/-- whether a place can have told this scan, by the first quarters -/
def cSc (F : Fl) (S : Sit) (sc c hd : Nat) : Nat → Bool
  | 0 => true
  | q + 1 => cSc F S sc c hd q && canBe F S (dg sc q) (nb F c ((hd + q) % 4))
theorem dg_lt (x q : Nat) : dg x q < 3 := by unfold dg; split <;> omega
theorem c_M_canScan {F : Fl} {S : Sit} {z : Nat → Int32} {un le : Nat} {qa qb : I4} (hF : fOK F) (ok : sOK F S) (hM : h[31]? = some (mC F un le qa qb)) (hS : h[32]? = some (sC F S z)) {c hd sc : Nat} (hc : c < fN F) (hhd : hd < 4) (hsc : sc < 100) : Run l g mM_canScan (d + 2) 0 0 [.ref 31, .int (nI c), .int (nI hd), .int (nI sc)] h (PI (if cSc F S sc c hd 4 = true then 1 else 0) h) := by
  have h36 := fN_le hF
  refine run_of (by decide) (Nat.le_of_ble_eq_true rfl) ?_
  have L : ∀ (m q : Nat), q + m = 4 → WW l g mM_canScan (zrm (d + 2) 0 0) (fun _ => True) (zQQ g (PI (if cSc F S sc c hd 4 = true then 1 else 0) h) (h.length + 0) 0 0) 6 [(0, some (.ref 31)), (1, some (.int (nI c))), (2, some (.int (nI hd))), (3, some (.int (nI sc))), (4, some (.int (if cSc F S sc c hd q = true then 1 else 0))), (5, some (.int (nI q)))] [] h 0 0 := by
    intro m
    induction m with
    | zero =>
      intro q hq
      have hq : q = 4 := by omega
      subst hq
      refine zw_iload dM_canScan_6 rfl ?_
      refine zw_iconst (v := 4) dM_canScan_8 (by decide) ?_
      refine zw_icmp_ge 54 dM_canScan_9 (by decide) (fun c_9 => ?_) (fun c_9 => ?_)
      · refine zw_iload dM_canScan_54 rfl ?_
        exact zw_iret dM_canScan_56 rfl (by split <;> rfl) rfl ⟨rfl, rfl⟩
      · exact absurd (Int32.le_refl _) c_9
    | succ m ih =>
      intro q hq
      have hq4 : q < 4 := by omega
      have hm : (hd + q) % 4 < 4 := Nat.mod_lt _ (by decide)
      have e4 : nI hd + nI q - (nI hd + nI q) / 4 * 4 = nI ((hd + q) % 4) := by rw [nI_add]; exact pk_rem (d := 4) (by omega) (by decide) (by decide)
      have cb := c_M_beside (l := l) (g := g) (d := d) hF hM hc hm
      have cp := c_M_part (l := l) (g := g) (d := d + 1) (h := h) hsc hq4
      have cn := c_M_canBe (l := l) (g := g) (d := d) hF ok.kn hM hS (o := nb F c ((hd + q) % 4)) (fun b e => (nb_spec hF hc hm e).1) (dg_lt sc q)
      have es : cSc F S sc c hd (q + 1) = (cSc F S sc c hd q && canBe F S (dg sc q) (nb F c ((hd + q) % 4))) := rfl
      have I := ih (q + 1) (by omega)
      cases h1 : cSc F S sc c hd q with
      | false =>
        rw [h1, Bool.false_and] at es
        rw [es] at I
        refine zw_iload dM_canScan_6 rfl ?_
        refine zw_iconst (v := 4) dM_canScan_8 (by decide) ?_
        refine zw_icmp_ge 54 dM_canScan_9 (by decide) (fun c_9 => ?_) (fun c_9 => ?_)
        · exact absurd ((nI_leI (a := 4) (by omega) (by omega)).mp c_9) (by omega)
        · refine zw_iload dM_canScan_12 rfl ?_
          refine zw_if_eq 45 dM_canScan_14 (by decide) (fun c_14 => ?_) (fun c_14 => ?_)
          · refine zw_iconst (v := 0) dM_canScan_45 (by decide) ?_
            refine zw_istore dM_canScan_46 (by decide) rfl ?_
            refine zw_incN dM_canScan_48 rfl (by decide) rfl ?_
            refine zw_goto 6 dM_canScan_51 (by decide) ?_
            exact zw_lk I ⟨rfl, rfl, rfl, rfl, rfl, rfl, trivial⟩
          · exact absurd rfl c_14
      | true =>
        rw [h1, Bool.true_and] at es
        rw [es] at I
        cases h2 : canBe F S (dg sc q) (nb F c ((hd + q) % 4)) with
        | false =>
          rw [h2] at I cn
          refine zw_iload dM_canScan_6 rfl ?_
          refine zw_iconst (v := 4) dM_canScan_8 (by decide) ?_
          refine zw_icmp_ge 54 dM_canScan_9 (by decide) (fun c_9 => ?_) (fun c_9 => ?_)
          · exact absurd ((nI_leI (a := 4) (by omega) (by omega)).mp c_9) (by omega)
          · refine zw_iload dM_canScan_12 rfl ?_
            refine zw_if_eq 45 dM_canScan_14 (by decide) (fun c_14 => ?_) (fun c_14 => ?_)
            · exact absurd c_14 (show ¬ (1 : Int32) = 0 by decide)
            · refine zw_aload_n dM_canScan_17 rfl ?_
              refine zw_aload_n dM_canScan_18 rfl ?_
              refine zw_iload_n dM_canScan_19 rfl ?_
              refine zw_iload_n dM_canScan_20 rfl ?_
              refine zw_iload dM_canScan_21 rfl ?_
              refine zw_iadd dM_canScan_23 ?_
              refine zw_iconst (v := 4) dM_canScan_24 (by decide) ?_
              refine zw_irem dM_canScan_25 n4 ?_
              rw [e4]
              refine zc_V2I dM_canScan_26 zm_M_beside zk_M_109 hM rfl cb ?_ zRR (Nat.le_of_ble_eq_true rfl) ⟨Nat.le_of_ble_eq_true rfl, Nat.le_of_ble_eq_true rfl⟩
              refine zw_iload_n dM_canScan_29 rfl ?_
              refine zw_iload dM_canScan_30 rfl ?_
              refine zc_S2I dM_canScan_32 zm_M_part zk_M_133 cp ?_ zRR (Nat.le_of_ble_eq_true rfl) ⟨Nat.le_of_ble_eq_true rfl, Nat.le_of_ble_eq_true rfl⟩
              refine zc_V2I dM_canScan_35 zm_M_canBe zk_M_113 hM rfl cn ?_ zRR (Nat.le_of_ble_eq_true rfl) ⟨Nat.le_of_ble_eq_true rfl, Nat.le_of_ble_eq_true rfl⟩
              refine zw_if_eq 45 dM_canScan_38 (by decide) (fun c_38 => ?_) (fun c_38 => ?_)
              · refine zw_iconst (v := 0) dM_canScan_45 (by decide) ?_
                refine zw_istore dM_canScan_46 (by decide) rfl ?_
                refine zw_incN dM_canScan_48 rfl (by decide) rfl ?_
                refine zw_goto 6 dM_canScan_51 (by decide) ?_
                exact zw_lk I ⟨rfl, rfl, rfl, rfl, rfl, rfl, trivial⟩
              · exact absurd rfl c_38
        | true =>
          rw [h2] at I cn
          refine zw_iload dM_canScan_6 rfl ?_
          refine zw_iconst (v := 4) dM_canScan_8 (by decide) ?_
          refine zw_icmp_ge 54 dM_canScan_9 (by decide) (fun c_9 => ?_) (fun c_9 => ?_)
          · exact absurd ((nI_leI (a := 4) (by omega) (by omega)).mp c_9) (by omega)
          · refine zw_iload dM_canScan_12 rfl ?_
            refine zw_if_eq 45 dM_canScan_14 (by decide) (fun c_14 => ?_) (fun c_14 => ?_)
            · exact absurd c_14 (show ¬ (1 : Int32) = 0 by decide)
            · refine zw_aload_n dM_canScan_17 rfl ?_
              refine zw_aload_n dM_canScan_18 rfl ?_
              refine zw_iload_n dM_canScan_19 rfl ?_
              refine zw_iload_n dM_canScan_20 rfl ?_
              refine zw_iload dM_canScan_21 rfl ?_
              refine zw_iadd dM_canScan_23 ?_
              refine zw_iconst (v := 4) dM_canScan_24 (by decide) ?_
              refine zw_irem dM_canScan_25 n4 ?_
              rw [e4]
              refine zc_V2I dM_canScan_26 zm_M_beside zk_M_109 hM rfl cb ?_ zRR (Nat.le_of_ble_eq_true rfl) ⟨Nat.le_of_ble_eq_true rfl, Nat.le_of_ble_eq_true rfl⟩
              refine zw_iload_n dM_canScan_29 rfl ?_
              refine zw_iload dM_canScan_30 rfl ?_
              refine zc_S2I dM_canScan_32 zm_M_part zk_M_133 cp ?_ zRR (Nat.le_of_ble_eq_true rfl) ⟨Nat.le_of_ble_eq_true rfl, Nat.le_of_ble_eq_true rfl⟩
              refine zc_V2I dM_canScan_35 zm_M_canBe zk_M_113 hM rfl cn ?_ zRR (Nat.le_of_ble_eq_true rfl) ⟨Nat.le_of_ble_eq_true rfl, Nat.le_of_ble_eq_true rfl⟩
              refine zw_if_eq 45 dM_canScan_38 (by decide) (fun c_38 => ?_) (fun c_38 => ?_)
              · exact absurd c_38 (show ¬ (1 : Int32) = 0 by decide)
              · refine zw_iconst (v := 1) dM_canScan_41 (by decide) ?_
                refine zw_goto 46 dM_canScan_42 (by decide) ?_
                refine zw_istore dM_canScan_46 (by decide) rfl ?_
                refine zw_incN dM_canScan_48 rfl (by decide) rfl ?_
                refine zw_goto 6 dM_canScan_51 (by decide) ?_
                exact zw_lk I ⟨rfl, rfl, rfl, rfl, rfl, rfl, trivial⟩
  refine zw_iconst (v := 1) dM_canScan_0 (by decide) ?_
  refine zw_istore dM_canScan_1 (by decide) rfl ?_
  refine zw_iconst (v := 0) dM_canScan_3 (by decide) ?_
  refine zw_istore dM_canScan_4 (by decide) rfl ?_
  exact zw_lk (L 4 0 (by omega)) ⟨rfl, rfl, rfl, rfl, rfl, rfl, trivial⟩
end C60
