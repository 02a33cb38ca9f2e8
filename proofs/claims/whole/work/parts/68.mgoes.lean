/-! ===== the reference goes on by itself ===== -/
theorem ok_setS {O : Om} (ok : oOK' O) {S' : Sit} (h : sOK (oF O) S') : oOK' (oSetS O S') := ⟨ok.1, h, ok.2.2.1, ok.2.2.2.1, ok.2.2.2.2.1, ok.2.2.2.2.2⟩
theorem ok_rem {O : Om} (ok : oOK' O) : oOK' (oRem O) := by
  refine ⟨ok.1, ok.2.1, fun j hj => ?_, ok.2.2.2.1, ?_, ok.2.2.2.2.2⟩
  · have hj2 : j < min (oSz O + 1) 6 := hj
    cases j with
    | zero => exact ok.2.1
    | succ j => exact ok.2.2.1 j (by omega)
  · show min (oSz O + 1) 6 ≤ 6
    omega
theorem ok_nSt {O : Om} (ok : oOK' O) {S' : Sit} (h : sOK (oF O) S') : oOK' (nSt O S') := ok_setS (ok_rem ok) h
def whenM (F : Fl) : Nat → Nat → Sit → Option Nat
  | 0, _, _ => none
  | m + 1, n, S => if thr F S = true then some n else whenM F m (n + 1) (act F S).2
theorem whenM_stuck {F : Fl} {S : Sit} (h1 : thr F S = false) (h2 : (act F S).1 = 0) : ∀ m n, whenM F m n S = none := by
  intro m
  induction m with
  | zero => intro n; rfl
  | succ m ih =>
    intro n
    show (if thr F S = true then some n else whenM F m (n + 1) (act F S).2) = none
    rw [if_neg (by rw [h1]; decide), act_0 h2]
    exact ih _
theorem whenM_eq {F : Fl} : ∀ (m n : Nat) (S : Sit), whenM F m n S = whenN F m n S := by
  intro m
  induction m with
  | zero => intro n S; rfl
  | succ m ih =>
    intro n S
    show (if thr F S = true then some n else whenM F m (n + 1) (act F S).2) = (if thr F S = true then some n else if (act F S).1 = 0 then none else whenN F m (n + 1) (act F S).2)
    cases h1 : thr F S with
    | true => rfl
    | false =>
      rw [if_neg (by decide), if_neg (by decide)]
      by_cases h2 : (act F S).1 = 0
      · rw [if_pos h2, act_0 h2]
        exact whenM_stuck h1 h2 _ _
      · rw [if_neg h2]
        exact ih _ _
section C68
variable {l : Launch} {g : zG} {d : Nat} {h : zH} {O : Om}
theorem c_M_goes (a : MX h O) (ok : oOK' O) {x : Int32} : Run l g mM_goes (d + 6) 0 0 [.ref 31, .int x] h (PIh (rGoes O x) (MP h (nGoes O x))) := by
  obtain ⟨⟨qa, qb, z, hM, hS⟩, -⟩ := id a
  have hF := ok.1
  have hsz := ok.2.2.2.2.1
  have sok := ok.2.1
  have ci := c_M_inB (l := l) (g := g) (d := d + 5) (h := h) (x := x) (a := 1) (b := 60) (by decide) (by decide)
  have r111 := ms_111 (oF O) (oS O) z
  unfold rGoes nGoes
  refine run_of (by decide) (Nat.le_of_ble_eq_true rfl) ?_
  cases hb : btw x 1 60 with
  | none =>
    rw [hb] at ci
    refine zw_iload_n dM_goes_0 rfl ?_
    refine zw_iconst (v := 1) dM_goes_1 (by decide) ?_
    refine zw_bipush (v := 60) dM_goes_2 (by decide) ?_
    refine zc_S3I dM_goes_4 zm_M_in zk_M_67 ci ?_ zRR (Nat.le_of_ble_eq_true rfl) ⟨Nat.le_of_ble_eq_true rfl, Nat.le_of_ble_eq_true rfl⟩
    refine zw_if_ne 12 dM_goes_7 (by decide) (fun c_7 => ?_) (fun c_7 => ?_)
    · exact absurd rfl c_7
    · refine zw_iconst (v := (-1)) dM_goes_10 (by decide) ?_
      exact zw_iret dM_goes_11 rfl rfl rfl ⟨rfl, MP.rf a⟩
  | some n =>
    rw [hb] at ci
    obtain ⟨hn1, hn60, rfl⟩ := (btw_some (by decide)).mp hb
    dsimp only
    cases hl : sLost (oS O) with
    | true =>
      rw [if_pos rfl, if_pos rfl]
      rw [hl] at r111
      refine zw_iload_n dM_goes_0 rfl ?_
      refine zw_iconst (v := 1) dM_goes_1 (by decide) ?_
      refine zw_bipush (v := 60) dM_goes_2 (by decide) ?_
      refine zc_S3I dM_goes_4 zm_M_in zk_M_67 ci ?_ zRR (Nat.le_of_ble_eq_true rfl) ⟨Nat.le_of_ble_eq_true rfl, Nat.le_of_ble_eq_true rfl⟩
      refine zw_if_ne 12 dM_goes_7 (by decide) (fun c_7 => ?_) (fun c_7 => ?_)
      · refine zw_aload_n dM_goes_12 rfl ?_
        refine zw_get dM_goes_13 zf_M_16 (by first | exact hM | exact hS) rfl ?_
        refine zw_bipush (v := 111) dM_goes_16 (by decide) ?_
        refine zw_iald dM_goes_18 (by first | exact hM | exact hS) v111 ?_
        rw [e111, r111]
        refine zw_iconst (v := 1) dM_goes_19 (by decide) ?_
        refine zw_icmp_ne 26 dM_goes_20 (by decide) (fun c_20 => ?_) (fun c_20 => ?_)
        · exact absurd rfl c_20
        · refine zw_bipush (v := (-2)) dM_goes_23 (by decide) ?_
          exact zw_iret dM_goes_25 rfl rfl rfl ⟨rfl, MP.rf a⟩
      · exact absurd c_7 (show ¬ (1 : Int32) = 0 by decide)
    | false =>
      rw [if_neg (by decide), if_neg (by decide)]
      rw [hl] at r111
      obtain ⟨r, hr⟩ : ∃ r, r = (goesN (oF O) n (oS O)).1 := ⟨_, rfl⟩
      obtain ⟨OF, hOF⟩ : ∃ OF, OF = nSt O (goesN (oF O) n (oS O)).2 := ⟨_, rfl⟩
      rw [← hr, ← hOF]
      have L : ∀ (m k st : Nat) (h' : zH) (O' : Om), k + m = n → MX h' O' → oOK' O' → sLost (oS O') = false → frM h h' ∧ h'.length = h.length → st + (goesN (oF O') m (oS O')).1 = r → oSetS O' (goesN (oF O') m (oS O')).2 = OF → WW l g mM_goes (zrm (d + 6) 0 0) (fun _ => True) (zQQ g (PIh (nI r) (MP h OF)) (h.length + 0) 0 0) 34 [(0, some (.ref 31)), (1, some (.int (nI n))), (2, some (.int (nI st))), (3, some (.int (nI k)))] [] h' 0 0 := by
        intro m
        induction m with
        | zero =>
          intro k st h' O' hk a' ok' hl' hf e1 e2
          have hk : k = n := by omega
          subst hk
          have e1' : st = r := e1
          have e2' : O' = OF := e2
          rw [← e1', ← e2']
          have hl2 : h'.length = h.length + 0 := hf.2
          refine zw_iload_n dM_goes_34 rfl ?_
          refine zw_iload_n dM_goes_35 rfl ?_
          refine zw_icmp_ge 60 dM_goes_36 (by decide) (fun c_36 => ?_) (fun c_36 => ?_)
          · refine zw_iload_n dM_goes_60 rfl ?_
            exact zw_iret dM_goes_61 rfl rfl hl2 ⟨rfl, a', hf.1, hf.2⟩
          · exact absurd (Int32.le_refl _) c_36
        | succ m ih =>
          intro k st h' O' hk a' ok' hl' hf e1 e2
          obtain ⟨⟨qa', qb', z', hM', hS'⟩, -⟩ := id a'
          have ca := c_M_acts (l := l) (g := g) (d := d) a' ok' hl'
          have okS : oOK' (oSetS O' (act (oF O') (oS O')).2) := ok_setS ok' (ok_act ok'.1 ok'.2.1)
          have hl2 : sLost (oS (oSetS O' (act (oF O') (oS O')).2)) = false := lost_act hl'
          have e1' : st + ((if (act (oF O') (oS O')).1 = 2 then 1 else 0) + (goesN (oF O') m (act (oF O') (oS O')).2).1) = r := e1
          have e2' : oSetS (oSetS O' (act (oF O') (oS O')).2) (goesN (oF O') m (act (oF O') (oS O')).2).2 = OF := e2
          have est : ∀ b : Nat, nI st + nI b = nI (st + b) := fun b => nI_add st b
          by_cases q : (act (oF O') (oS O')).1 = 2
          · rw [if_pos q] at ca e1'
            have e3 : nI st + 1 = nI (st + 1) := nI_1 st
            refine zw_iload_n dM_goes_34 rfl ?_
            refine zw_iload_n dM_goes_35 rfl ?_
            refine zw_icmp_ge 60 dM_goes_36 (by decide) (fun c_36 => ?_) (fun c_36 => ?_)
            · exact absurd ((nI_leI (by omega) (by omega)).mp c_36) (by omega)
            · refine zw_iload_n dM_goes_39 rfl ?_
              refine zw_aload_n dM_goes_40 rfl ?_
              refine zx_V0I dM_goes_41 zm_M_acts zk_M_168 hM' rfl ca zRR (Nat.le_of_ble_eq_true rfl) ⟨Nat.le_of_ble_eq_true rfl, Nat.le_of_ble_eq_true rfl⟩ ?_
              rintro h2 A
              refine zw_if_eq 51 dM_goes_44 (by decide) (fun c_44 => ?_) (fun c_44 => ?_)
              · exact absurd c_44 (by decide)
              · refine zw_iconst (v := 1) dM_goes_47 (by decide) ?_
                refine zw_goto 52 dM_goes_48 (by decide) ?_
                refine zw_iadd dM_goes_52 ?_
                rw [e3]
                refine zw_istore_n dM_goes_53 (by decide) rfl ?_
                refine zw_incN dM_goes_54 rfl (by decide) rfl ?_
                refine zw_goto 34 dM_goes_57 (by decide) ?_
                exact zw_lk (ih (k + 1) (st + 1) h2 _ (by omega) A.1.1 okS hl2 ⟨hf.1.tr A.1.2.1, A.1.2.2.trans hf.2⟩ (by rw [Nat.add_assoc]; exact e1') e2') ⟨rfl, rfl, rfl, rfl, trivial⟩
          · rw [if_neg q] at ca e1'
            have e3 : nI st + 0 = nI st := Int32.add_zero _
            refine zw_iload_n dM_goes_34 rfl ?_
            refine zw_iload_n dM_goes_35 rfl ?_
            refine zw_icmp_ge 60 dM_goes_36 (by decide) (fun c_36 => ?_) (fun c_36 => ?_)
            · exact absurd ((nI_leI (by omega) (by omega)).mp c_36) (by omega)
            · refine zw_iload_n dM_goes_39 rfl ?_
              refine zw_aload_n dM_goes_40 rfl ?_
              refine zx_V0I dM_goes_41 zm_M_acts zk_M_168 hM' rfl ca zRR (Nat.le_of_ble_eq_true rfl) ⟨Nat.le_of_ble_eq_true rfl, Nat.le_of_ble_eq_true rfl⟩ ?_
              rintro h2 A
              refine zw_if_eq 51 dM_goes_44 (by decide) (fun c_44 => ?_) (fun c_44 => ?_)
              · refine zw_iconst (v := 0) dM_goes_51 (by decide) ?_
                refine zw_iadd dM_goes_52 ?_
                rw [e3]
                refine zw_istore_n dM_goes_53 (by decide) rfl ?_
                refine zw_incN dM_goes_54 rfl (by decide) rfl ?_
                refine zw_goto 34 dM_goes_57 (by decide) ?_
                exact zw_lk (ih (k + 1) st h2 _ (by omega) A.1.1 okS hl2 ⟨hf.1.tr A.1.2.1, A.1.2.2.trans hf.2⟩ (by rw [Nat.zero_add] at e1'; exact e1') e2') ⟨rfl, rfl, rfl, rfl, trivial⟩
              · exact absurd rfl c_44
      refine zw_iload_n dM_goes_0 rfl ?_
      refine zw_iconst (v := 1) dM_goes_1 (by decide) ?_
      refine zw_bipush (v := 60) dM_goes_2 (by decide) ?_
      refine zc_S3I dM_goes_4 zm_M_in zk_M_67 ci ?_ zRR (Nat.le_of_ble_eq_true rfl) ⟨Nat.le_of_ble_eq_true rfl, Nat.le_of_ble_eq_true rfl⟩
      refine zw_if_ne 12 dM_goes_7 (by decide) (fun c_7 => ?_) (fun c_7 => ?_)
      · refine zw_aload_n dM_goes_12 rfl ?_
        refine zw_get dM_goes_13 zf_M_16 (by first | exact hM | exact hS) rfl ?_
        refine zw_bipush (v := 111) dM_goes_16 (by decide) ?_
        refine zw_iald dM_goes_18 (by first | exact hM | exact hS) v111 ?_
        rw [e111, r111]
        refine zw_iconst (v := 1) dM_goes_19 (by decide) ?_
        refine zw_icmp_ne 26 dM_goes_20 (by decide) (fun c_20 => ?_) (fun c_20 => ?_)
        · refine zw_aload_n dM_goes_26 rfl ?_
          refine zx_V0V dM_goes_27 zm_M_remembers zk_M_97 (by first | exact hM | exact hS) rfl (c_M_remembers a hsz) zRR (Nat.le_of_ble_eq_true rfl) ⟨Nat.le_of_ble_eq_true rfl, Nat.le_of_ble_eq_true rfl⟩ ?_
          rintro h1 ⟨a1, f1, n1⟩
          refine zw_iconst (v := 0) dM_goes_30 (by decide) ?_
          refine zw_istore_n dM_goes_31 (by decide) rfl ?_
          refine zw_iconst (v := 0) dM_goes_32 (by decide) ?_
          refine zw_istore_n dM_goes_33 (by decide) rfl ?_
          exact zw_lk (L n 0 0 h1 (oRem O) (by omega) a1 (ok_rem ok) hl ⟨f1, n1⟩ (by rw [hr, Nat.zero_add]; rfl) hOF.symm) ⟨rfl, rfl, rfl, rfl, trivial⟩
        · exact absurd c_20 (by decide)
      · exact absurd c_7 (show ¬ (1 : Int32) = 0 by decide)
theorem MX.spare {h : zH} {O : Om} (a : MX h O) (f : Nat → Int32) : MX (h.set 36 (iA 114 f)) O := by
  obtain ⟨⟨qa, qb, z0, a1, a2⟩, b, c, e, sp, re, np, fa, ho, tg, ro, b1, b2, b3, b4, b5, b6, b7⟩ := a
  exact ⟨⟨qa, qb, z0, zg_ne (by omega) a1, zg_ne (by omega) a2⟩, b.keep (zg_ne (by omega) rfl), c.keep (zg_ne (by omega) rfl) (zg_ne (by omega) rfl), e.keep (zg_ne (by omega) rfl), f, re, np, fa, ho, tg, ro, zg_eq b1, zg_ne (by decide) b2, zg_ne (by decide) b3, zg_ne (by decide) b4, zg_ne (by decide) b5, zg_ne (by decide) b6, zg_ne (by decide) b7⟩
theorem c_M_when (a : MX h O) (ok : oOK' O) : Run l g mM_when (d + 6) 0 0 [.ref 31] h (PIh (rWhen O) (MP h O)) := by
  obtain ⟨⟨qa, qb, z, hM, hS⟩, -, -, -, ⟨sp, -, -, -, -, -, -, h36', -⟩⟩ := id a
  have hF := ok.1
  have r111 := ms_111 (oF O) (oS O) z
  unfold rWhen
  refine run_of (by decide) (Nat.le_of_ble_eq_true rfl) ?_
  cases hl : sLost (oS O) with
  | true =>
    rw [if_pos rfl]
    rw [hl] at r111
    refine zw_aload_n dM_when_0 rfl ?_
    refine zw_get dM_when_1 zf_M_16 (by first | exact hM | exact hS) rfl ?_
    refine zw_bipush (v := 111) dM_when_4 (by decide) ?_
    refine zw_iald dM_when_6 (by first | exact hM | exact hS) v111 ?_
    rw [e111, r111]
    refine zw_iconst (v := 1) dM_when_7 (by decide) ?_
    refine zw_icmp_ne 14 dM_when_8 (by decide) (fun c_8 => ?_) (fun c_8 => ?_)
    · exact absurd rfl c_8
    · refine zw_bipush (v := (-9)) dM_when_11 (by decide) ?_
      exact zw_iret dM_when_13 rfl rfl rfl ⟨rfl, MP.rf a⟩
  | false =>
    rw [if_neg (by decide)]
    rw [hl] at r111
    rw [← whenM_eq]
    obtain ⟨PQ, hPQ⟩ : ∃ PQ : Int32 → Option Value → zH → Prop, ∀ r, PQ r = PIh r (MP h O) := ⟨_, fun _ => rfl⟩
    have EX : ∀ (n : Nat) (h' : zH) (O' : Om) (r : Int32), n ≤ 401 → MX h' O' → (∃ S', O' = oSetS O S') → frM h h' ∧ h'.length = h.length → h'[36]? = some (iA 114 (ms (oF O) (oS O) z)) → r = (if 400 < n then -9 else nI n) → WW l g mM_when (zrm (d + 6) 0 0) (fun _ => True) (zQQ g (PIh r (MP h O)) (h.length + 0) 0 0) 67 [(0, some (.ref 31)), (1, some (.int (nI n)))] [] h' 0 0 := by
      intro n h' O' r hn a' hO' hf hsp hr
      obtain ⟨S', rfl⟩ := hO'
      obtain ⟨⟨qa', qb', z', hM', hS'⟩, -⟩ := id a'
      have hM32 : ∀ c, (h'.set 32 c)[31]? = _ := fun c => zg_ne (by decide) hM'
      have hS32 : ∀ c, (h'.set 32 c)[32]? = some c := fun c => zg_eq hS'
      have hP32 : ∀ c, (h'.set 32 c)[36]? = some (iA 114 (ms (oF O) (oS O) z)) := fun c => zg_ne (by decide) hsp
      have hlen : ∀ c, (h'.set 32 c).length = h.length + 0 := fun c => by rw [zs_len, hf.2]; rfl
      have Q : MP h O (h'.set 32 (sC (oF O) (oS O) z)) := ⟨a'.now (oS O) z, hf.1.tr (frM.set (by decide)), by rw [zs_len, hf.2]⟩
      have L : ∀ (m i : Nat), i + m = 114 → WW l g mM_when (zrm (d + 6) 0 0) (fun _ => True) (zQQ g (PIh r (MP h O)) (h.length + 0) 0 0) 69 [(0, some (.ref 31)), (1, some (.int (nI n))), (2, some (.int (nI i)))] [] (h'.set 32 (iA 114 (fil (ms (oF O) S' z') 0 i (ms (oF O) (oS O) z)))) 0 0 := by
        intro m
        induction m with
        | zero =>
          intro i hi
          have hi : i = 114 := by omega
          subst hi
          refine zw_exti (ms (oF O) (oS O) z) (hS32 _) (fun j hj => by rw [fil0 hj]) ?_
          refine zw_h (iAu rfl) ?_
          by_cases h4 : 400 < n
          · rw [if_pos h4] at hr
            subst hr
            refine zw_iload_n dM_when_69 rfl ?_
            refine zw_bipush (v := 114) dM_when_70 (by decide) ?_
            refine zw_icmp_ge 93 dM_when_72 (by decide) (fun c_72 => ?_) (fun c_72 => ?_)
            · refine zw_iload_n dM_when_93 rfl ?_
              refine zw_sipush (v := 400) dM_when_94 (by decide) ?_
              refine zw_icmp_le 105 dM_when_97 (by decide) (fun c_97 => ?_) (fun c_97 => ?_)
              · exact absurd ((nI_leI (b := 400) (by omega) (by omega)).mp c_97) (by omega)
              · refine zw_bipush (v := (-9)) dM_when_100 (by decide) ?_
                refine zw_goto 106 dM_when_102 (by decide) ?_
                exact zw_iret dM_when_106 rfl rfl (hlen _) ⟨rfl, Q⟩
            · exact absurd (Int32.le_refl _) c_72
          · rw [if_neg h4] at hr
            subst hr
            refine zw_iload_n dM_when_69 rfl ?_
            refine zw_bipush (v := 114) dM_when_70 (by decide) ?_
            refine zw_icmp_ge 93 dM_when_72 (by decide) (fun c_72 => ?_) (fun c_72 => ?_)
            · refine zw_iload_n dM_when_93 rfl ?_
              refine zw_sipush (v := 400) dM_when_94 (by decide) ?_
              refine zw_icmp_le 105 dM_when_97 (by decide) (fun c_97 => ?_) (fun c_97 => ?_)
              · refine zw_iload_n dM_when_105 rfl ?_
                exact zw_iret dM_when_106 rfl rfl (hlen _) ⟨rfl, Q⟩
              · exact absurd ((nI_leI (b := 400) (by omega) (by omega)).mpr (by omega)) c_97
            · exact absurd (Int32.le_refl _) c_72
        | succ m ih =>
          intro i hi
          have ecl : (nI i).toNatClampNeg = i := nI_clamp (by omega)
          refine zw_iload_n dM_when_69 rfl ?_
          refine zw_bipush (v := 114) dM_when_70 (by decide) ?_
          refine zw_icmp_ge 93 dM_when_72 (by decide) (fun c_72 => ?_) (fun c_72 => ?_)
          · exact absurd ((nI_leI (a := 114) (by omega) (by omega)).mp c_72) (by omega)
          · refine zw_aload_n dM_when_75 rfl ?_
            refine zw_get dM_when_76 zf_M_16 (by first | exact hM32 _ | exact hS32 _ | exact hP32 _) rfl ?_
            refine zw_iload_n dM_when_79 rfl ?_
            refine zw_aload_n dM_when_80 rfl ?_
            refine zw_get dM_when_81 zf_M_30 (by first | exact hM32 _ | exact hS32 _ | exact hP32 _) rfl ?_
            refine zw_iload_n dM_when_84 rfl ?_
            refine zw_iald dM_when_85 (by first | exact hM32 _ | exact hS32 _ | exact hP32 _) (vp_in_nI (show i < 114 by omega) (by decide)) ?_
            rw [ecl]
            refine zw_iast dM_when_86 (by first | exact hM32 _ | exact hS32 _ | exact hP32 _) (vp_in_nI (show i < 114 by omega) (by decide)) ?_
            rw [ecl]
            refine zw_h (iAu (fil_0s _ _ _)) ?_
            refine zw_incN dM_when_87 rfl (by decide) rfl ?_
            refine zw_goto 69 dM_when_90 (by decide) ?_
            exact zw_lk (ih (i + 1) (by omega)) ⟨rfl, rfl, rfl, trivial⟩
      refine zw_iconst (v := 0) dM_when_67 (by decide) ?_
      refine zw_istore_n dM_when_68 (by decide) rfl ?_
      have L0 := L 114 0 (by omega)
      rw [fil_0, show h'.set 32 (iA 114 (ms (oF O) S' z')) = h' from zs_self hS'] at L0
      exact zw_lk L0 ⟨rfl, rfl, rfl, trivial⟩
    have LP : ∀ (m n : Nat) (h' : zH) (S' : Sit), n + m = 401 → MX h' (oSetS O S') → sOK (oF O) S' → sLost S' = false → frM h h' ∧ h'.length = h.length → h'[36]? = some (iA 114 (ms (oF O) (oS O) z)) → WW l g mM_when (zrm (d + 6) 0 0) (fun _ => True) (zQQ g (PIh (dI (whenM (oF O) m n S')) (MP h O)) (h.length + 0) 0 0) 42 [(0, some (.ref 31)), (1, some (.int (nI n)))] [] h' 0 0 := by
      intro m
      induction m with
      | zero =>
        intro n h' S' hn a' ok' hl' hf hsp
        have hn : n = 401 := by omega
        subst hn
        have E := EX 401 h' _ (dI (whenM (oF O) 0 401 S')) (by omega) a' ⟨S', rfl⟩ hf hsp rfl
        refine zw_iload_n dM_when_42 rfl ?_
        refine zw_sipush (v := 400) dM_when_43 (by decide) ?_
        refine zw_icmp_gt 67 dM_when_46 (by decide) (fun c_46 => ?_) (fun c_46 => ?_)
        · exact zw_lk E ⟨rfl, rfl, trivial⟩
        · exact absurd (show (400 : Int32) < nI 401 by decide) c_46
      | succ m ih =>
        intro n h' S' hn a' ok' hl' hf hsp
        obtain ⟨⟨qa', qb', z', hM', hS'⟩, -⟩ := id a'
        have okO : oOK' (oSetS O S') := ok_setS ok ok'
        have cd := c_M_isAllDone (l := l) (g := g) (d := d + 1) a' okO hl'
        have cd2 : Run l g mM_isAllDone (d + 1 + 4) 0 0 [.ref 31] h' (PIh (if thr (oF O) S' = true then 1 else 0) (aQ h' (oSetS O S'))) := cd
        have ew : whenM (oF O) (m + 1) n S' = if thr (oF O) S' = true then some n else whenM (oF O) m (n + 1) (act (oF O) S').2 := rfl
        rw [ew]
        cases ht : thr (oF O) S' with
        | true =>
          rw [ht] at cd2
          rw [if_pos rfl]
          refine zw_iload_n dM_when_42 rfl ?_
          refine zw_sipush (v := 400) dM_when_43 (by decide) ?_
          refine zw_icmp_gt 67 dM_when_46 (by decide) (fun c_46 => ?_) (fun c_46 => ?_)
          · exact absurd ((nI_ltI (a := 400) (by omega) (by omega)).mp c_46) (by omega)
          · refine zw_aload_n dM_when_49 rfl ?_
            refine zx_V0I dM_when_50 zm_M_isAllDone zk_M_187 hM' rfl cd2 zRR (Nat.le_of_ble_eq_true rfl) ⟨Nat.le_of_ble_eq_true rfl, Nat.le_of_ble_eq_true rfl⟩ ?_
            rintro h2 A
            refine zw_if_ne 67 dM_when_53 (by decide) (fun c_53 => ?_) (fun c_53 => ?_)
            · exact zw_lk (EX n h2 _ (dI (some n)) (by omega) A.1.1 ⟨S', rfl⟩ ⟨hf.1.tr A.1.2.1, A.1.2.2.trans hf.2⟩ (A.2.trans hsp) (by rw [if_neg (by omega)]; rfl)) ⟨rfl, rfl, trivial⟩
            · exact absurd c_53 (by decide)
        | false =>
          rw [ht] at cd2
          rw [if_neg (by decide)]
          refine zw_iload_n dM_when_42 rfl ?_
          refine zw_sipush (v := 400) dM_when_43 (by decide) ?_
          refine zw_icmp_gt 67 dM_when_46 (by decide) (fun c_46 => ?_) (fun c_46 => ?_)
          · exact absurd ((nI_ltI (a := 400) (by omega) (by omega)).mp c_46) (by omega)
          · refine zw_aload_n dM_when_49 rfl ?_
            refine zx_V0I dM_when_50 zm_M_isAllDone zk_M_187 (by first | exact hM' | exact hM2) rfl cd2 zRR (Nat.le_of_ble_eq_true rfl) ⟨Nat.le_of_ble_eq_true rfl, Nat.le_of_ble_eq_true rfl⟩ ?_
            rintro h2 A
            obtain ⟨⟨qa2, qb2, z2, hM2, hS2⟩, -⟩ := id A.1.1
            have ca := c_M_acts (l := l) (g := g) (d := d) A.1.1 okO hl'
            refine zw_if_ne 67 dM_when_53 (by decide) (fun c_53 => ?_) (fun c_53 => ?_)
            · exact absurd rfl c_53
            · refine zw_aload_n dM_when_56 rfl ?_
              refine zx_V0I dM_when_57 zm_M_acts zk_M_168 (by first | exact hM' | exact hM2) rfl ca zRR (Nat.le_of_ble_eq_true rfl) ⟨Nat.le_of_ble_eq_true rfl, Nat.le_of_ble_eq_true rfl⟩ ?_
              rintro h3 B
              refine zw_pop dM_when_60 rfl ?_
              refine zw_incN dM_when_61 rfl (by decide) rfl ?_
              refine zw_goto 42 dM_when_64 (by decide) ?_
              exact zw_lk (ih (n + 1) h3 (act (oF O) S').2 (by omega) B.1.1 (ok_act hF ok') (lost_act hl') ⟨(hf.1.tr A.1.2.1).tr B.1.2.1, (B.1.2.2.trans A.1.2.2).trans hf.2⟩ (B.2.trans (A.2.trans hsp))) ⟨rfl, rfl, trivial⟩
    have hM36 : ∀ c, (h.set 36 c)[31]? = some (mC (oF O) (oSz O) (oLen O) qa qb) := fun c => zg_ne (by decide) hM
    have hS36 : ∀ c, (h.set 36 c)[32]? = some (sC (oF O) (oS O) z) := fun c => zg_ne (by decide) hS
    have hP36 : ∀ c, (h.set 36 c)[36]? = some c := fun c => zg_eq h36'
    have LC : ∀ (m i : Nat), i + m = 114 → WW l g mM_when (zrm (d + 6) 0 0) (fun _ => True) (zQQ g (PIh (dI (whenM (oF O) 401 0 (oS O))) (MP h O)) (h.length + 0) 0 0) 16 [(0, some (.ref 31)), (1, some (.int (nI i)))] [] (h.set 36 (iA 114 (fil sp 0 i (ms (oF O) (oS O) z)))) 0 0 := by
      intro m
      induction m with
      | zero =>
        intro i hi
        have hi : i = 114 := by omega
        subst hi
        refine zw_exti (ms (oF O) (oS O) z) (hP36 _) (fun j hj => by rw [fil0 hj]) ?_
        refine zw_h (iAu rfl) ?_
        have P := LP 401 0 (h.set 36 (iA 114 (ms (oF O) (oS O) z))) (oS O) (by omega) (a.spare _) ok.2.1 hl ⟨frM.set (by decide), zs_len _ _ _⟩ (hP36 _)
        refine zw_iload_n dM_when_16 rfl ?_
        refine zw_bipush (v := 114) dM_when_17 (by decide) ?_
        refine zw_icmp_ge 40 dM_when_19 (by decide) (fun c_19 => ?_) (fun c_19 => ?_)
        · refine zw_iconst (v := 0) dM_when_40 (by decide) ?_
          refine zw_istore_n dM_when_41 (by decide) rfl ?_
          exact zw_lk P ⟨rfl, rfl, trivial⟩
        · exact absurd (Int32.le_refl _) c_19
      | succ m ih =>
        intro i hi
        have ecl : (nI i).toNatClampNeg = i := nI_clamp (by omega)
        refine zw_iload_n dM_when_16 rfl ?_
        refine zw_bipush (v := 114) dM_when_17 (by decide) ?_
        refine zw_icmp_ge 40 dM_when_19 (by decide) (fun c_19 => ?_) (fun c_19 => ?_)
        · exact absurd ((nI_leI (a := 114) (by omega) (by omega)).mp c_19) (by omega)
        · refine zw_aload_n dM_when_22 rfl ?_
          refine zw_get dM_when_23 zf_M_30 (by first | exact hM36 _ | exact hS36 _ | exact hP36 _) rfl ?_
          refine zw_iload_n dM_when_26 rfl ?_
          refine zw_aload_n dM_when_27 rfl ?_
          refine zw_get dM_when_28 zf_M_16 (by first | exact hM36 _ | exact hS36 _ | exact hP36 _) rfl ?_
          refine zw_iload_n dM_when_31 rfl ?_
          refine zw_iald dM_when_32 (by first | exact hM36 _ | exact hS36 _ | exact hP36 _) (vp_in_nI (show i < 114 by omega) (by decide)) ?_
          rw [ecl]
          refine zw_iast dM_when_33 (by first | exact hM36 _ | exact hS36 _ | exact hP36 _) (vp_in_nI (show i < 114 by omega) (by decide)) ?_
          rw [ecl]
          refine zw_h (iAu (fil_0s _ _ _)) ?_
          refine zw_incN dM_when_34 rfl (by decide) rfl ?_
          refine zw_goto 16 dM_when_37 (by decide) ?_
          exact zw_lk (ih (i + 1) (by omega)) ⟨rfl, rfl, trivial⟩
    refine zw_aload_n dM_when_0 rfl ?_
    refine zw_get dM_when_1 zf_M_16 (by first | exact hM | exact hS) rfl ?_
    refine zw_bipush (v := 111) dM_when_4 (by decide) ?_
    refine zw_iald dM_when_6 (by first | exact hM | exact hS) v111 ?_
    rw [e111, r111]
    refine zw_iconst (v := 1) dM_when_7 (by decide) ?_
    refine zw_icmp_ne 14 dM_when_8 (by decide) (fun c_8 => ?_) (fun c_8 => ?_)
    · refine zw_iconst (v := 0) dM_when_14 (by decide) ?_
      refine zw_istore_n dM_when_15 (by decide) rfl ?_
      have L0 := LC 114 0 (by omega)
      rw [fil_0, zs_self h36'] at L0
      exact zw_lk L0 ⟨rfl, rfl, trivial⟩
    · exact absurd c_8 (by decide)
end C68
