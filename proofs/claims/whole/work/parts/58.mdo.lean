/-! ===== the reference: what is done ===== -/
theorem ms_pow (F : Fl) (S : Sit) (z : Nat → Int32) (b r : Nat) : upd (upd (ms F S z) 112 (nI b)) 113 (nI r) = ms F (setPow S b r) z := by
  funext j
  by_cases e : j = 113
  · subst e; rw [upd_eq]; rfl
  · rw [upd_ne _ _ e]
    by_cases e2 : j = 112
    · subst e2; rw [upd_eq]; rfl
    · rw [upd_ne _ _ e2]; simp only [ms, if_neg e, if_neg e2]; rfl
theorem ms_mv {F : Fl} (hF : fOK F) (S : Sit) (z : Nat → Int32) {c : Nat} (hc : c < fN F) (h4 : fK F c = 4) : upd (ms F S z) c (if sShut S c = true then 4 else 5) = ms F (setShut S (fun i => sShut S i ^^ oneO (some c) i)) z := by
  have h36 := fN_le hF
  funext j
  by_cases e : j = c
  · subst e
    rw [upd_eq, ms_k hF hc]
    have e1 : oneO (some j) j = true := by simp [oneO]
    have e2 : kdn F (setShut S (fun i => sShut S i ^^ oneO (some j) i)) j = if sShut S j = true then 4 else 5 := by
      show (if fK F j = 4 ∧ (sShut S j ^^ oneO (some j) j) = true then 5 else fK F j) = _
      rw [e1, h4]
      cases sShut S j <;> simp
    rw [e2]
    split <;> rfl
  · rw [upd_ne _ _ e]
    have e1 : oneO (some c) j = false := by simp [oneO]; omega
    simp only [ms]
    by_cases h1 : j < 36
    · have e2 : kdn F (setShut S (fun i => sShut S i ^^ oneO (some c) i)) j = kdn F S j := by
        show (if fK F j = 4 ∧ (sShut S j ^^ oneO (some c) j) = true then 5 else fK F j) = _
        rw [e1, Bool.xor_false]; rfl
      simp only [h1, if_true, e2]
    · simp only [h1, if_false]; rfl
section C58
variable {l : Launch} {g : zG} {d : Nat} {h : zH} {O : Om}
theorem sC_un {h : zH} {k : Nat} {F : Fl} {S' : Sit} {z : Nat → Int32} : h.set k (iA 114 (ms F S' z)) = h.set k (sC F S' z) := rfl
theorem zset_len1 (h : zH) (k : Nat) (c : zC) {n : Nat} (e : h.length = n) : (h.set k c).length = n + 0 := by rw [zs_len, e]; rfl
theorem c_M_powers (a : MX h O) (ok : oOK' O) {x y : Int32} : Run l g mM_powers (d + 2) 0 0 [.ref 31, .int x, .int y] h (PIh (rPow O x y) (MP h (nPowX O x y))) := by
  obtain ⟨⟨qa, qb, z, hM, hS⟩, -⟩ := id a
  have hsz := ok.2.2.2.2.1
  have sok := ok.2.1
  have ci := c_M_inB (l := l) (g := g) (d := d + 1) (h := h) (x := x) (a := 1) (b := 99) (by decide) (by decide)
  have cj := c_M_inB (l := l) (g := g) (d := d + 1) (h := h) (x := y) (a := 1) (b := 20) (by decide) (by decide)
  unfold rPow nPowX
  refine run_of (by decide) (Nat.le_of_ble_eq_true rfl) ?_
  cases hb : btw x 1 99 with
  | none =>
    rw [hb] at ci
    refine zw_iload_n dM_powers_0 rfl ?_
    refine zw_iconst (v := 1) dM_powers_1 (by decide) ?_
    refine zw_bipush (v := 99) dM_powers_2 (by decide) ?_
    refine zc_S3I dM_powers_4 zm_M_in zk_M_67 ci ?_ zRR (Nat.le_of_ble_eq_true rfl) ⟨Nat.le_of_ble_eq_true rfl, Nat.le_of_ble_eq_true rfl⟩
    refine zw_if_eq 20 dM_powers_7 (by decide) (fun c_7 => ?_) (fun c_7 => ?_)
    · refine zw_iconst (v := (-1)) dM_powers_20 (by decide) ?_
      exact zw_iret dM_powers_21 rfl rfl rfl ⟨rfl, MP.rf a⟩
    · exact absurd rfl c_7
  | some b =>
    rw [hb] at ci
    obtain ⟨hb1, hb9, rfl⟩ := (btw_some (by decide)).mp hb
    cases hr : btw y 1 20 with
    | none =>
      rw [hr] at cj
      refine zw_iload_n dM_powers_0 rfl ?_
      refine zw_iconst (v := 1) dM_powers_1 (by decide) ?_
      refine zw_bipush (v := 99) dM_powers_2 (by decide) ?_
      refine zc_S3I dM_powers_4 zm_M_in zk_M_67 ci ?_ zRR (Nat.le_of_ble_eq_true rfl) ⟨Nat.le_of_ble_eq_true rfl, Nat.le_of_ble_eq_true rfl⟩
      refine zw_if_eq 20 dM_powers_7 (by decide) (fun c_7 => ?_) (fun c_7 => ?_)
      · exact absurd c_7 (show ¬ (1 : Int32) = 0 by decide)
      · refine zw_iload_n dM_powers_10 rfl ?_
        refine zw_iconst (v := 1) dM_powers_11 (by decide) ?_
        refine zw_bipush (v := 20) dM_powers_12 (by decide) ?_
        refine zc_S3I dM_powers_14 zm_M_in zk_M_67 cj ?_ zRR (Nat.le_of_ble_eq_true rfl) ⟨Nat.le_of_ble_eq_true rfl, Nat.le_of_ble_eq_true rfl⟩
        refine zw_if_ne 22 dM_powers_17 (by decide) (fun c_17 => ?_) (fun c_17 => ?_)
        · exact absurd rfl c_17
        · refine zw_iconst (v := (-1)) dM_powers_20 (by decide) ?_
          exact zw_iret dM_powers_21 rfl rfl rfl ⟨rfl, MP.rf a⟩
    | some r =>
      rw [hr] at cj
      obtain ⟨hr1, hr9, rfl⟩ := (btw_some (by decide)).mp hr
      dsimp only
      have eb : nI (sBrim (oS O)) = nI b ↔ b = sBrim (oS O) := by rw [nI_eq (by have := sok.brim; omega) (by omega)]; exact eq_comm
      have er : nI (sRate (oS O)) = nI r ↔ r = sRate (oS O) := by rw [nI_eq (by have := sok.rate; omega) (by omega)]; exact eq_comm
      have hch := sok.ch
      have hbr := sok.brim
      have DO : ¬ (b = sBrim (oS O) ∧ r = sRate (oS O)) → WW l g mM_powers (zrm (d + 2) 0 0) (fun _ => True) (zQQ g (PIh (nI (min (sCh (oS O)) b)) (MP h (nPow O b r))) (h.length + 0) 0 0) 47 [(0, some (.ref 31)), (1, some (.int (nI b))), (2, some (.int (nI r)))] [] h 0 0 := by
        intro hne
        have e110b : ∀ z, ms (oF O) (setPow (oS O) b r) z 110 = nI (sCh (oS O)) := fun _ => rfl
        by_cases hle : sCh (oS O) ≤ b
        · have em : min (sCh (oS O)) b = sCh (oS O) := by omega
          have ele : nI (sCh (oS O)) ≤ nI b := (nI_leI (by omega) (by omega)).mpr hle
          rw [em]
          refine zw_aload_n dM_powers_47 rfl ?_
          refine zx_V0V dM_powers_48 zm_M_remembers zk_M_97 (by first | exact hM | exact hM1 | exact hS1 | exact hM32 _ | exact hS32 _) rfl (c_M_remembers a hsz) zRR (Nat.le_of_ble_eq_true rfl) ⟨Nat.le_of_ble_eq_true rfl, Nat.le_of_ble_eq_true rfl⟩ ?_
          rintro h1 ⟨a1, f1, n1⟩
          obtain ⟨⟨qa1, qb1, z1, hM1, hS1⟩, -⟩ := id a1
          have hM32 : ∀ c, (h1.set 32 c)[31]? = _ := fun c => zg_ne (by decide) hM1
          have hS32 : ∀ c, (h1.set 32 c)[32]? = some c := fun c => zg_eq hS1
          have Q : MP h (nPow O b r) (h1.set 32 (sC (oF O) (setCh (setPow (oS O) b r) (sCh (oS O))) z1)) := ⟨by have := a1.now (setCh (setPow (oS O) b r) (sCh (oS O))) z1; unfold nPow; rw [em]; exact this, f1.tr (frM.set (by decide)), by rw [zs_len, n1]⟩
          refine zw_aload_n dM_powers_51 rfl ?_
          refine zw_get dM_powers_52 zf_M_16 (by first | exact hM | exact hM1 | exact hS1 | exact hM32 _ | exact hS32 _) rfl ?_
          refine zw_bipush (v := 112) dM_powers_55 (by decide) ?_
          refine zw_iload_n dM_powers_57 rfl ?_
          refine zw_iast dM_powers_58 (by first | exact hM | exact hM1 | exact hS1 | exact hM32 _ | exact hS32 _) v112 ?_
          rw [e112]
          refine zw_aload_n dM_powers_59 rfl ?_
          refine zw_get dM_powers_60 zf_M_16 (by first | exact hM | exact hM1 | exact hS1 | exact hM32 _ | exact hS32 _) rfl ?_
          refine zw_bipush (v := 113) dM_powers_63 (by decide) ?_
          refine zw_iload_n dM_powers_65 rfl ?_
          refine zw_iast dM_powers_66 (by first | exact hM | exact hM1 | exact hS1 | exact hM32 _ | exact hS32 _) v113 ?_
          rw [e113]
          refine zw_h (sC_up (ms_pow (oF O) (oS O) z1 b r)) ?_
          refine zw_aload_n dM_powers_67 rfl ?_
          refine zw_get dM_powers_68 zf_M_16 (by first | exact hM | exact hM1 | exact hS1 | exact hM32 _ | exact hS32 _) rfl ?_
          refine zw_bipush (v := 110) dM_powers_71 (by decide) ?_
          refine zw_aload_n dM_powers_73 rfl ?_
          refine zw_get dM_powers_74 zf_M_16 (by first | exact hM | exact hM1 | exact hS1 | exact hM32 _ | exact hS32 _) rfl ?_
          refine zw_bipush (v := 110) dM_powers_77 (by decide) ?_
          refine zw_iald dM_powers_79 (by first | exact hM | exact hM1 | exact hS1 | exact hM32 _ | exact hS32 _) v110 ?_
          rw [e110, e110b]
          refine zw_iload_n dM_powers_80 rfl ?_
          refine zw_icmp_le 88 dM_powers_81 (by decide) (fun c_81 => ?_) (fun c_81 => ?_)
          · refine zw_aload_n dM_powers_88 rfl ?_
            refine zw_get dM_powers_89 zf_M_16 (by first | exact hM | exact hM1 | exact hS1 | exact hM32 _ | exact hS32 _) rfl ?_
            refine zw_bipush (v := 110) dM_powers_92 (by decide) ?_
            refine zw_iald dM_powers_94 (by first | exact hM | exact hM1 | exact hS1 | exact hM32 _ | exact hS32 _) v110 ?_
            rw [e110, e110b]
            refine zw_iast dM_powers_95 (by first | exact hM | exact hM1 | exact hS1 | exact hM32 _ | exact hS32 _) v110 ?_
            rw [e110]
            refine zw_h (sC_up (ms_h2 (oF O) (setPow (oS O) b r) z1 (sCh (oS O)))) ?_
            refine zw_aload_n dM_powers_96 rfl ?_
            refine zw_get dM_powers_97 zf_M_16 (by first | exact hM | exact hM1 | exact hS1 | exact hM32 _ | exact hS32 _) rfl ?_
            refine zw_bipush (v := 110) dM_powers_100 (by decide) ?_
            refine zw_iald dM_powers_102 (by first | exact hM | exact hM1 | exact hS1 | exact hM32 _ | exact hS32 _) v110 ?_
            rw [e110, ms_110]
            exact zw_iret dM_powers_103 rfl rfl (zset_len1 _ _ _ n1) ⟨rfl, Q⟩
          · exact absurd ele c_81
        · have em : min (sCh (oS O)) b = b := by omega
          have ele : ¬ nI (sCh (oS O)) ≤ nI b := fun q => hle ((nI_leI (by omega) (by omega)).mp q)
          rw [em]
          refine zw_aload_n dM_powers_47 rfl ?_
          refine zx_V0V dM_powers_48 zm_M_remembers zk_M_97 (by first | exact hM | exact hM1 | exact hS1 | exact hM32 _ | exact hS32 _) rfl (c_M_remembers a hsz) zRR (Nat.le_of_ble_eq_true rfl) ⟨Nat.le_of_ble_eq_true rfl, Nat.le_of_ble_eq_true rfl⟩ ?_
          rintro h1 ⟨a1, f1, n1⟩
          obtain ⟨⟨qa1, qb1, z1, hM1, hS1⟩, -⟩ := id a1
          have hM32 : ∀ c, (h1.set 32 c)[31]? = _ := fun c => zg_ne (by decide) hM1
          have hS32 : ∀ c, (h1.set 32 c)[32]? = some c := fun c => zg_eq hS1
          have Q : MP h (nPow O b r) (h1.set 32 (sC (oF O) (setCh (setPow (oS O) b r) b) z1)) := ⟨by have := a1.now (setCh (setPow (oS O) b r) b) z1; unfold nPow; rw [em]; exact this, f1.tr (frM.set (by decide)), by rw [zs_len, n1]⟩
          refine zw_aload_n dM_powers_51 rfl ?_
          refine zw_get dM_powers_52 zf_M_16 (by first | exact hM | exact hM1 | exact hS1 | exact hM32 _ | exact hS32 _) rfl ?_
          refine zw_bipush (v := 112) dM_powers_55 (by decide) ?_
          refine zw_iload_n dM_powers_57 rfl ?_
          refine zw_iast dM_powers_58 (by first | exact hM | exact hM1 | exact hS1 | exact hM32 _ | exact hS32 _) v112 ?_
          rw [e112]
          refine zw_aload_n dM_powers_59 rfl ?_
          refine zw_get dM_powers_60 zf_M_16 (by first | exact hM | exact hM1 | exact hS1 | exact hM32 _ | exact hS32 _) rfl ?_
          refine zw_bipush (v := 113) dM_powers_63 (by decide) ?_
          refine zw_iload_n dM_powers_65 rfl ?_
          refine zw_iast dM_powers_66 (by first | exact hM | exact hM1 | exact hS1 | exact hM32 _ | exact hS32 _) v113 ?_
          rw [e113]
          refine zw_h (sC_up (ms_pow (oF O) (oS O) z1 b r)) ?_
          refine zw_aload_n dM_powers_67 rfl ?_
          refine zw_get dM_powers_68 zf_M_16 (by first | exact hM | exact hM1 | exact hS1 | exact hM32 _ | exact hS32 _) rfl ?_
          refine zw_bipush (v := 110) dM_powers_71 (by decide) ?_
          refine zw_aload_n dM_powers_73 rfl ?_
          refine zw_get dM_powers_74 zf_M_16 (by first | exact hM | exact hM1 | exact hS1 | exact hM32 _ | exact hS32 _) rfl ?_
          refine zw_bipush (v := 110) dM_powers_77 (by decide) ?_
          refine zw_iald dM_powers_79 (by first | exact hM | exact hM1 | exact hS1 | exact hM32 _ | exact hS32 _) v110 ?_
          rw [e110, e110b]
          refine zw_iload_n dM_powers_80 rfl ?_
          refine zw_icmp_le 88 dM_powers_81 (by decide) (fun c_81 => ?_) (fun c_81 => ?_)
          · exact absurd c_81 ele
          · refine zw_iload_n dM_powers_84 rfl ?_
            refine zw_goto 95 dM_powers_85 (by decide) ?_
            refine zw_iast dM_powers_95 (by first | exact hM | exact hM1 | exact hS1 | exact hM32 _ | exact hS32 _) v110 ?_
            rw [e110]
            refine zw_h (sC_up (ms_h2 (oF O) (setPow (oS O) b r) z1 b)) ?_
            refine zw_aload_n dM_powers_96 rfl ?_
            refine zw_get dM_powers_97 zf_M_16 (by first | exact hM | exact hM1 | exact hS1 | exact hM32 _ | exact hS32 _) rfl ?_
            refine zw_bipush (v := 110) dM_powers_100 (by decide) ?_
            refine zw_iald dM_powers_102 (by first | exact hM | exact hM1 | exact hS1 | exact hM32 _ | exact hS32 _) v110 ?_
            rw [e110, ms_110]
            exact zw_iret dM_powers_103 rfl rfl (zset_len1 _ _ _ n1) ⟨rfl, Q⟩
      by_cases hsame : b = sBrim (oS O) ∧ r = sRate (oS O)
      · rw [if_pos hsame, if_pos hsame]
        refine zw_iload_n dM_powers_0 rfl ?_
        refine zw_iconst (v := 1) dM_powers_1 (by decide) ?_
        refine zw_bipush (v := 99) dM_powers_2 (by decide) ?_
        refine zc_S3I dM_powers_4 zm_M_in zk_M_67 ci ?_ zRR (Nat.le_of_ble_eq_true rfl) ⟨Nat.le_of_ble_eq_true rfl, Nat.le_of_ble_eq_true rfl⟩
        refine zw_if_eq 20 dM_powers_7 (by decide) (fun c_7 => ?_) (fun c_7 => ?_)
        · exact absurd c_7 (show ¬ (1 : Int32) = 0 by decide)
        · refine zw_iload_n dM_powers_10 rfl ?_
          refine zw_iconst (v := 1) dM_powers_11 (by decide) ?_
          refine zw_bipush (v := 20) dM_powers_12 (by decide) ?_
          refine zc_S3I dM_powers_14 zm_M_in zk_M_67 cj ?_ zRR (Nat.le_of_ble_eq_true rfl) ⟨Nat.le_of_ble_eq_true rfl, Nat.le_of_ble_eq_true rfl⟩
          refine zw_if_ne 22 dM_powers_17 (by decide) (fun c_17 => ?_) (fun c_17 => ?_)
          · refine zw_aload_n dM_powers_22 rfl ?_
            refine zw_get dM_powers_23 zf_M_16 (by first | exact hM | exact hS) rfl ?_
            refine zw_bipush (v := 112) dM_powers_26 (by decide) ?_
            refine zw_iald dM_powers_28 (by first | exact hM | exact hS) v112 ?_
            rw [e112, ms_112]
            refine zw_iload_n dM_powers_29 rfl ?_
            refine zw_icmp_ne 47 dM_powers_30 (by decide) (fun c_30 => ?_) (fun c_30 => ?_)
            · exact absurd (eb.mpr hsame.1) c_30
            · refine zw_aload_n dM_powers_33 rfl ?_
              refine zw_get dM_powers_34 zf_M_16 (by first | exact hM | exact hS) rfl ?_
              refine zw_bipush (v := 113) dM_powers_37 (by decide) ?_
              refine zw_iald dM_powers_39 (by first | exact hM | exact hS) v113 ?_
              rw [e113, ms_113]
              refine zw_iload_n dM_powers_40 rfl ?_
              refine zw_icmp_ne 47 dM_powers_41 (by decide) (fun c_41 => ?_) (fun c_41 => ?_)
              · exact absurd (er.mpr hsame.2) c_41
              · refine zw_bipush (v := (-2)) dM_powers_44 (by decide) ?_
                exact zw_iret dM_powers_46 rfl rfl rfl ⟨rfl, MP.rf a⟩
          · exact absurd c_17 (show ¬ (1 : Int32) = 0 by decide)
      · rw [if_neg hsame, if_neg hsame]
        have D := DO hsame
        refine zw_iload_n dM_powers_0 rfl ?_
        refine zw_iconst (v := 1) dM_powers_1 (by decide) ?_
        refine zw_bipush (v := 99) dM_powers_2 (by decide) ?_
        refine zc_S3I dM_powers_4 zm_M_in zk_M_67 ci ?_ zRR (Nat.le_of_ble_eq_true rfl) ⟨Nat.le_of_ble_eq_true rfl, Nat.le_of_ble_eq_true rfl⟩
        refine zw_if_eq 20 dM_powers_7 (by decide) (fun c_7 => ?_) (fun c_7 => ?_)
        · exact absurd c_7 (show ¬ (1 : Int32) = 0 by decide)
        · refine zw_iload_n dM_powers_10 rfl ?_
          refine zw_iconst (v := 1) dM_powers_11 (by decide) ?_
          refine zw_bipush (v := 20) dM_powers_12 (by decide) ?_
          refine zc_S3I dM_powers_14 zm_M_in zk_M_67 cj ?_ zRR (Nat.le_of_ble_eq_true rfl) ⟨Nat.le_of_ble_eq_true rfl, Nat.le_of_ble_eq_true rfl⟩
          refine zw_if_ne 22 dM_powers_17 (by decide) (fun c_17 => ?_) (fun c_17 => ?_)
          · refine zw_aload_n dM_powers_22 rfl ?_
            refine zw_get dM_powers_23 zf_M_16 (by first | exact hM | exact hS) rfl ?_
            refine zw_bipush (v := 112) dM_powers_26 (by decide) ?_
            refine zw_iald dM_powers_28 (by first | exact hM | exact hS) v112 ?_
            rw [e112, ms_112]
            refine zw_iload_n dM_powers_29 rfl ?_
            refine zw_icmp_ne 47 dM_powers_30 (by decide) (fun c_30 => ?_) (fun c_30 => ?_)
            · exact zw_lk D ⟨rfl, rfl, rfl, trivial⟩
            · refine zw_aload_n dM_powers_33 rfl ?_
              refine zw_get dM_powers_34 zf_M_16 (by first | exact hM | exact hS) rfl ?_
              refine zw_bipush (v := 113) dM_powers_37 (by decide) ?_
              refine zw_iald dM_powers_39 (by first | exact hM | exact hS) v113 ?_
              rw [e113, ms_113]
              refine zw_iload_n dM_powers_40 rfl ?_
              refine zw_icmp_ne 47 dM_powers_41 (by decide) (fun c_41 => ?_) (fun c_41 => ?_)
              · exact zw_lk D ⟨rfl, rfl, rfl, trivial⟩
              · exact absurd ⟨eb.mp c_30, er.mp c_41⟩ hsame
          · exact absurd c_17 (show ¬ (1 : Int32) = 0 by decide)
theorem c_M_moves (a : MX h O) (ok : oOK' O) {x : Int32} : Run l g mM_moves (d + 2) 0 0 [.ref 31, .int x] h (PIh (rMov O x) (MP h (nMovX O x))) := by
  obtain ⟨⟨qa, qb, z, hM, hS⟩, -⟩ := id a
  have hF := ok.1
  have hsz := ok.2.2.2.2.1
  have sok := ok.2.1
  have h36 := fN_le hF
  have ch := c_M_isCell (l := l) (g := g) (d := d) hF hM (x := x)
  unfold rMov nMovX
  refine run_of (by decide) (Nat.le_of_ble_eq_true rfl) ?_
  cases hc : cel (oF O) x with
  | none =>
    rw [hc] at ch
    refine zw_aload_n dM_moves_0 rfl ?_
    refine zw_iload_n dM_moves_1 rfl ?_
    refine zc_V1I dM_moves_2 zm_M_isCell zk_M_94 hM rfl ch ?_ zRR (Nat.le_of_ble_eq_true rfl) ⟨Nat.le_of_ble_eq_true rfl, Nat.le_of_ble_eq_true rfl⟩
    refine zw_if_eq 16 dM_moves_5 (by decide) (fun c_5 => ?_) (fun c_5 => ?_)
    · refine zw_iconst (v := (-1)) dM_moves_16 (by decide) ?_
      exact zw_iret dM_moves_17 rfl rfl rfl ⟨rfl, MP.rf a⟩
    · exact absurd rfl c_5
  | some c =>
    obtain ⟨hcn, rfl⟩ := (cel_some hF).mp hc
    rw [hc] at ch
    have cd := c_M_isDoor (l := l) (g := g) (d := d + 1) (S := oS O) (z := z) hF hM hS hcn
    have hcl := clk hF hcn
    have hat := sok.at
    dsimp only
    by_cases h4 : fK (oF O) c = 4
    · rw [if_pos h4, if_pos h4]
      rw [if_pos h4] at cd
      by_cases hce : c = sAt (oS O)
      · rw [if_pos hce, if_pos hce]
        refine zw_aload_n dM_moves_0 rfl ?_
        refine zw_iload_n dM_moves_1 rfl ?_
        refine zc_V1I dM_moves_2 zm_M_isCell zk_M_94 (by first | exact hM | exact hS) rfl ch ?_ zRR (Nat.le_of_ble_eq_true rfl) ⟨Nat.le_of_ble_eq_true rfl, Nat.le_of_ble_eq_true rfl⟩
        refine zw_if_eq 16 dM_moves_5 (by decide) (fun c_5 => ?_) (fun c_5 => ?_)
        · exact absurd c_5 (show ¬ (1 : Int32) = 0 by decide)
        · refine zw_aload_n dM_moves_8 rfl ?_
          refine zw_iload_n dM_moves_9 rfl ?_
          refine zc_V1I dM_moves_10 zm_M_isDoor zk_M_100 (by first | exact hM | exact hS) rfl cd ?_ zRR (Nat.le_of_ble_eq_true rfl) ⟨Nat.le_of_ble_eq_true rfl, Nat.le_of_ble_eq_true rfl⟩
          refine zw_if_ne 18 dM_moves_13 (by decide) (fun c_13 => ?_) (fun c_13 => ?_)
          · refine zw_aload_n dM_moves_18 rfl ?_
            refine zw_get dM_moves_19 zf_M_16 (by first | exact hM | exact hS) rfl ?_
            refine zw_bipush (v := 108) dM_moves_22 (by decide) ?_
            refine zw_iald dM_moves_24 (by first | exact hM | exact hS) v108 ?_
            rw [e108, ms_108]
            refine zw_iload_n dM_moves_25 rfl ?_
            refine zw_icmp_ne 32 dM_moves_26 (by decide) (fun c_26 => ?_) (fun c_26 => ?_)
            · exact absurd (by rw [hce]) c_26
            · refine zw_bipush (v := (-2)) dM_moves_29 (by decide) ?_
              exact zw_iret dM_moves_31 rfl rfl rfl ⟨rfl, MP.rf a⟩
          · exact absurd c_13 (show ¬ (1 : Int32) = 0 by decide)
      · rw [if_neg hce, if_neg hce]
        have hne : ¬ nI (sAt (oS O)) = nI c := fun q => hce ((nI_eq (by omega) (by omega)).mp q).symm
        obtain ⟨S', hS'⟩ : ∃ S', S' = setShut (oS O) (fun i => sShut (oS O) i ^^ oneO (some c) i) := ⟨_, rfl⟩
        cases hsh : sShut (oS O) c with
        | true =>
          have ek : ∀ z, ms (oF O) (oS O) z c = 5 := fun z => by rw [ms_k hF hcn]; unfold kdn; rw [if_pos ⟨h4, hsh⟩]; rfl
          have em : ∀ z, upd (ms (oF O) (oS O) z) c 4 = ms (oF O) S' z := fun z => by have := ms_mv hF (oS O) z hcn h4; rw [hsh] at this; rw [hS']; exact this
          have ek2 : ∀ z, ms (oF O) S' z c = 4 := fun z => by rw [← em, upd_eq]
          refine zw_aload_n dM_moves_0 rfl ?_
          refine zw_iload_n dM_moves_1 rfl ?_
          refine zc_V1I dM_moves_2 zm_M_isCell zk_M_94 (by first | exact hM | exact hS | exact hM1 | exact hS1 | exact hM32 _ | exact hS32 _) rfl ch ?_ zRR (Nat.le_of_ble_eq_true rfl) ⟨Nat.le_of_ble_eq_true rfl, Nat.le_of_ble_eq_true rfl⟩
          refine zw_if_eq 16 dM_moves_5 (by decide) (fun c_5 => ?_) (fun c_5 => ?_)
          · exact absurd c_5 (show ¬ (1 : Int32) = 0 by decide)
          · refine zw_aload_n dM_moves_8 rfl ?_
            refine zw_iload_n dM_moves_9 rfl ?_
            refine zc_V1I dM_moves_10 zm_M_isDoor zk_M_100 (by first | exact hM | exact hS | exact hM1 | exact hS1 | exact hM32 _ | exact hS32 _) rfl cd ?_ zRR (Nat.le_of_ble_eq_true rfl) ⟨Nat.le_of_ble_eq_true rfl, Nat.le_of_ble_eq_true rfl⟩
            refine zw_if_ne 18 dM_moves_13 (by decide) (fun c_13 => ?_) (fun c_13 => ?_)
            · refine zw_aload_n dM_moves_18 rfl ?_
              refine zw_get dM_moves_19 zf_M_16 (by first | exact hM | exact hS | exact hM1 | exact hS1 | exact hM32 _ | exact hS32 _) rfl ?_
              refine zw_bipush (v := 108) dM_moves_22 (by decide) ?_
              refine zw_iald dM_moves_24 (by first | exact hM | exact hS | exact hM1 | exact hS1 | exact hM32 _ | exact hS32 _) v108 ?_
              rw [e108, ms_108]
              refine zw_iload_n dM_moves_25 rfl ?_
              refine zw_icmp_ne 32 dM_moves_26 (by decide) (fun c_26 => ?_) (fun c_26 => ?_)
              · refine zw_aload_n dM_moves_32 rfl ?_
                refine zx_V0V dM_moves_33 zm_M_remembers zk_M_97 (by first | exact hM | exact hS | exact hM1 | exact hS1 | exact hM32 _ | exact hS32 _) rfl (c_M_remembers a hsz) zRR (Nat.le_of_ble_eq_true rfl) ⟨Nat.le_of_ble_eq_true rfl, Nat.le_of_ble_eq_true rfl⟩ ?_
                rintro h1 ⟨a1, f1, n1⟩
                obtain ⟨⟨qa1, qb1, z1, hM1, hS1⟩, -⟩ := id a1
                have hM32 : ∀ c, (h1.set 32 c)[31]? = _ := fun c => zg_ne (by decide) hM1
                have hS32 : ∀ c, (h1.set 32 c)[32]? = some c := fun c => zg_eq hS1
                have Q : MP h (nMov O c) (h1.set 32 (sC (oF O) S' z1)) := ⟨by have := a1.now S' z1; rw [hS'] at this ⊢; exact this, f1.tr (frM.set (by decide)), by rw [zs_len, n1]⟩
                have ekz := ek z1
                have ekz2 := ek2 z1
                refine zw_aload_n dM_moves_36 rfl ?_
                refine zw_get dM_moves_37 zf_M_16 (by first | exact hM | exact hS | exact hM1 | exact hS1 | exact hM32 _ | exact hS32 _) rfl ?_
                refine zw_iload_n dM_moves_40 rfl ?_
                refine zw_aload_n dM_moves_41 rfl ?_
                refine zw_get dM_moves_42 zf_M_16 (by first | exact hM | exact hS | exact hM1 | exact hS1 | exact hM32 _ | exact hS32 _) rfl ?_
                refine zw_iload_n dM_moves_45 rfl ?_
                refine zw_iald dM_moves_46 (by first | exact hM | exact hS | exact hM1 | exact hS1 | exact hM32 _ | exact hS32 _) (vk hF hcn) ?_
                rw [hcl]
                refine zw_st (st2 := [.int 5, .int (nI c), .ref 32]) (by rw [← ekz]; rfl) ?_
                refine zw_iconst (v := 4) dM_moves_47 (by decide) ?_
                refine zw_icmp_ne 55 dM_moves_48 (by decide) (fun c_48 => ?_) (fun c_48 => ?_)
                · refine zw_iconst (v := 4) dM_moves_55 (by decide) ?_
                  refine zw_iast dM_moves_56 (by first | exact hM | exact hS | exact hM1 | exact hS1 | exact hM32 _ | exact hS32 _) (vk hF hcn) ?_
                  rw [hcl]
                  refine zw_h (sC_u1 (em z1)) ?_
                  refine zw_aload_n dM_moves_57 rfl ?_
                  refine zw_get dM_moves_58 zf_M_16 (by first | exact hM | exact hS | exact hM1 | exact hS1 | exact hM32 _ | exact hS32 _) rfl ?_
                  refine zw_iload_n dM_moves_61 rfl ?_
                  refine zw_iald dM_moves_62 (by first | exact hM | exact hS | exact hM1 | exact hS1 | exact hM32 _ | exact hS32 _) (vk hF hcn) ?_
                  rw [hcl]
                  refine zw_st (st2 := [.int 4]) (by rw [← ekz2]) ?_
                  refine zw_iconst (v := 4) dM_moves_63 (by decide) ?_
                  refine zw_icmp_ne 71 dM_moves_64 (by decide) (fun c_64 => ?_) (fun c_64 => ?_)
                  · exact absurd rfl c_64
                  · refine zw_iconst (v := 1) dM_moves_67 (by decide) ?_
                    refine zw_goto 72 dM_moves_68 (by decide) ?_
                    exact zw_iret dM_moves_72 rfl rfl (zset_len1 _ _ _ n1) ⟨rfl, Q⟩
                · exact absurd c_48 (by decide)
              · exact absurd c_26 hne
            · exact absurd c_13 (show ¬ (1 : Int32) = 0 by decide)
        | false =>
          have ek : ∀ z, ms (oF O) (oS O) z c = 4 := fun z => by rw [ms_k hF hcn]; unfold kdn; rw [if_neg (fun q => by rw [hsh] at q; cases q.2), h4]; rfl
          have em : ∀ z, upd (ms (oF O) (oS O) z) c 5 = ms (oF O) S' z := fun z => by have := ms_mv hF (oS O) z hcn h4; rw [hsh] at this; rw [hS']; exact this
          have ek2 : ∀ z, ms (oF O) S' z c = 5 := fun z => by rw [← em, upd_eq]
          refine zw_aload_n dM_moves_0 rfl ?_
          refine zw_iload_n dM_moves_1 rfl ?_
          refine zc_V1I dM_moves_2 zm_M_isCell zk_M_94 (by first | exact hM | exact hS | exact hM1 | exact hS1 | exact hM32 _ | exact hS32 _) rfl ch ?_ zRR (Nat.le_of_ble_eq_true rfl) ⟨Nat.le_of_ble_eq_true rfl, Nat.le_of_ble_eq_true rfl⟩
          refine zw_if_eq 16 dM_moves_5 (by decide) (fun c_5 => ?_) (fun c_5 => ?_)
          · exact absurd c_5 (show ¬ (1 : Int32) = 0 by decide)
          · refine zw_aload_n dM_moves_8 rfl ?_
            refine zw_iload_n dM_moves_9 rfl ?_
            refine zc_V1I dM_moves_10 zm_M_isDoor zk_M_100 (by first | exact hM | exact hS | exact hM1 | exact hS1 | exact hM32 _ | exact hS32 _) rfl cd ?_ zRR (Nat.le_of_ble_eq_true rfl) ⟨Nat.le_of_ble_eq_true rfl, Nat.le_of_ble_eq_true rfl⟩
            refine zw_if_ne 18 dM_moves_13 (by decide) (fun c_13 => ?_) (fun c_13 => ?_)
            · refine zw_aload_n dM_moves_18 rfl ?_
              refine zw_get dM_moves_19 zf_M_16 (by first | exact hM | exact hS | exact hM1 | exact hS1 | exact hM32 _ | exact hS32 _) rfl ?_
              refine zw_bipush (v := 108) dM_moves_22 (by decide) ?_
              refine zw_iald dM_moves_24 (by first | exact hM | exact hS | exact hM1 | exact hS1 | exact hM32 _ | exact hS32 _) v108 ?_
              rw [e108, ms_108]
              refine zw_iload_n dM_moves_25 rfl ?_
              refine zw_icmp_ne 32 dM_moves_26 (by decide) (fun c_26 => ?_) (fun c_26 => ?_)
              · refine zw_aload_n dM_moves_32 rfl ?_
                refine zx_V0V dM_moves_33 zm_M_remembers zk_M_97 (by first | exact hM | exact hS | exact hM1 | exact hS1 | exact hM32 _ | exact hS32 _) rfl (c_M_remembers a hsz) zRR (Nat.le_of_ble_eq_true rfl) ⟨Nat.le_of_ble_eq_true rfl, Nat.le_of_ble_eq_true rfl⟩ ?_
                rintro h1 ⟨a1, f1, n1⟩
                obtain ⟨⟨qa1, qb1, z1, hM1, hS1⟩, -⟩ := id a1
                have hM32 : ∀ c, (h1.set 32 c)[31]? = _ := fun c => zg_ne (by decide) hM1
                have hS32 : ∀ c, (h1.set 32 c)[32]? = some c := fun c => zg_eq hS1
                have Q : MP h (nMov O c) (h1.set 32 (sC (oF O) S' z1)) := ⟨by have := a1.now S' z1; rw [hS'] at this ⊢; exact this, f1.tr (frM.set (by decide)), by rw [zs_len, n1]⟩
                have ekz := ek z1
                have ekz2 := ek2 z1
                refine zw_aload_n dM_moves_36 rfl ?_
                refine zw_get dM_moves_37 zf_M_16 (by first | exact hM | exact hS | exact hM1 | exact hS1 | exact hM32 _ | exact hS32 _) rfl ?_
                refine zw_iload_n dM_moves_40 rfl ?_
                refine zw_aload_n dM_moves_41 rfl ?_
                refine zw_get dM_moves_42 zf_M_16 (by first | exact hM | exact hS | exact hM1 | exact hS1 | exact hM32 _ | exact hS32 _) rfl ?_
                refine zw_iload_n dM_moves_45 rfl ?_
                refine zw_iald dM_moves_46 (by first | exact hM | exact hS | exact hM1 | exact hS1 | exact hM32 _ | exact hS32 _) (vk hF hcn) ?_
                rw [hcl]
                refine zw_st (st2 := [.int 4, .int (nI c), .ref 32]) (by rw [← ekz]; rfl) ?_
                refine zw_iconst (v := 4) dM_moves_47 (by decide) ?_
                refine zw_icmp_ne 55 dM_moves_48 (by decide) (fun c_48 => ?_) (fun c_48 => ?_)
                · exact absurd rfl c_48
                · refine zw_iconst (v := 5) dM_moves_51 (by decide) ?_
                  refine zw_goto 56 dM_moves_52 (by decide) ?_
                  refine zw_iast dM_moves_56 (by first | exact hM | exact hS | exact hM1 | exact hS1 | exact hM32 _ | exact hS32 _) (vk hF hcn) ?_
                  rw [hcl]
                  refine zw_h (sC_u1 (em z1)) ?_
                  refine zw_aload_n dM_moves_57 rfl ?_
                  refine zw_get dM_moves_58 zf_M_16 (by first | exact hM | exact hS | exact hM1 | exact hS1 | exact hM32 _ | exact hS32 _) rfl ?_
                  refine zw_iload_n dM_moves_61 rfl ?_
                  refine zw_iald dM_moves_62 (by first | exact hM | exact hS | exact hM1 | exact hS1 | exact hM32 _ | exact hS32 _) (vk hF hcn) ?_
                  rw [hcl]
                  refine zw_st (st2 := [.int 5]) (by rw [← ekz2]) ?_
                  refine zw_iconst (v := 4) dM_moves_63 (by decide) ?_
                  refine zw_icmp_ne 71 dM_moves_64 (by decide) (fun c_64 => ?_) (fun c_64 => ?_)
                  · refine zw_iconst (v := 0) dM_moves_71 (by decide) ?_
                    exact zw_iret dM_moves_72 rfl rfl (zset_len1 _ _ _ n1) ⟨rfl, Q⟩
                  · exact absurd c_64 (by decide)
              · exact absurd c_26 hne
            · exact absurd c_13 (show ¬ (1 : Int32) = 0 by decide)
    · rw [if_neg h4, if_neg h4]
      rw [if_neg h4] at cd
      refine zw_aload_n dM_moves_0 rfl ?_
      refine zw_iload_n dM_moves_1 rfl ?_
      refine zc_V1I dM_moves_2 zm_M_isCell zk_M_94 (by first | exact hM | exact hS) rfl ch ?_ zRR (Nat.le_of_ble_eq_true rfl) ⟨Nat.le_of_ble_eq_true rfl, Nat.le_of_ble_eq_true rfl⟩
      refine zw_if_eq 16 dM_moves_5 (by decide) (fun c_5 => ?_) (fun c_5 => ?_)
      · exact absurd c_5 (show ¬ (1 : Int32) = 0 by decide)
      · refine zw_aload_n dM_moves_8 rfl ?_
        refine zw_iload_n dM_moves_9 rfl ?_
        refine zc_V1I dM_moves_10 zm_M_isDoor zk_M_100 (by first | exact hM | exact hS) rfl cd ?_ zRR (Nat.le_of_ble_eq_true rfl) ⟨Nat.le_of_ble_eq_true rfl, Nat.le_of_ble_eq_true rfl⟩
        refine zw_if_ne 18 dM_moves_13 (by decide) (fun c_13 => ?_) (fun c_13 => ?_)
        · exact absurd rfl c_13
        · refine zw_iconst (v := (-1)) dM_moves_16 (by decide) ?_
          exact zw_iret dM_moves_17 rfl rfl rfl ⟨rfl, MP.rf a⟩
theorem c_M_steps (a : MX h O) (ok : oOK' O) : Run l g mM_steps (d + 5) 0 0 [.ref 31] h (PIh (rSteps O) (MP h (nSteps O))) := by
  obtain ⟨⟨qa, qb, z, hM, hS⟩, -⟩ := id a
  have hsz := ok.2.2.2.2.1
  have sok := ok.2.1
  have hch := sok.ch
  have hbr := sok.brim
  unfold rSteps nSteps
  refine run_of (by decide) (Nat.le_of_ble_eq_true rfl) ?_
  by_cases h0 : sCh (oS O) = 0
  · rw [if_pos h0, if_pos h0]
    refine zw_aload_n dM_steps_0 rfl ?_
    refine zw_get dM_steps_1 zf_M_16 (by first | exact hM | exact hS) rfl ?_
    refine zw_bipush (v := 110) dM_steps_4 (by decide) ?_
    refine zw_iald dM_steps_6 (by first | exact hM | exact hS) v110 ?_
    rw [e110, ms_110]
    refine zw_if_ne 13 dM_steps_7 (by decide) (fun c_7 => ?_) (fun c_7 => ?_)
    · exact absurd (by rw [h0]; rfl) c_7
    · refine zw_bipush (v := (-2)) dM_steps_10 (by decide) ?_
      exact zw_iret dM_steps_12 rfl rfl rfl ⟨rfl, MP.rf a⟩
  · rw [if_neg h0, if_neg h0]
    have hn : ¬ nI (sCh (oS O)) = 0 := nI_ne0 (by omega) (by omega)
    refine zw_aload_n dM_steps_0 rfl ?_
    refine zw_get dM_steps_1 zf_M_16 (by first | exact hM | exact hS | exact hM1 | exact hS1) rfl ?_
    refine zw_bipush (v := 110) dM_steps_4 (by decide) ?_
    refine zw_iald dM_steps_6 (by first | exact hM | exact hS | exact hM1 | exact hS1) v110 ?_
    rw [e110, ms_110]
    refine zw_if_ne 13 dM_steps_7 (by decide) (fun c_7 => ?_) (fun c_7 => ?_)
    · refine zw_aload_n dM_steps_13 rfl ?_
      refine zx_V0V dM_steps_14 zm_M_remembers zk_M_97 (by first | exact hM | exact hS | exact hM1 | exact hS1) rfl (c_M_remembers (d := d + 4) a hsz) zRR (Nat.le_of_ble_eq_true rfl) ⟨Nat.le_of_ble_eq_true rfl, Nat.le_of_ble_eq_true rfl⟩ ?_
      rintro h1 ⟨a1, f1, n1⟩
      obtain ⟨⟨qa1, qb1, z1, hM1, hS1⟩, -, -, -, ⟨-, -, np, -, -, -, -, -, -, hN1, -⟩⟩ := id a1
      refine zw_aload_n dM_steps_17 rfl ?_
      refine zw_aload_n dM_steps_18 rfl ?_
      refine zw_get dM_steps_19 zf_M_16 (by first | exact hM | exact hS | exact hM1 | exact hS1) rfl ?_
      refine zw_bipush (v := 109) dM_steps_22 (by decide) ?_
      refine zw_iald dM_steps_24 (by first | exact hM | exact hS | exact hM1 | exact hS1) v109 ?_
      rw [e109, ms_109]
      refine zx_V1I dM_steps_25 zm_M_stepTo zk_M_130 (by first | exact hM | exact hS | exact hM1 | exact hS1) rfl (c_M_stepTo ok.1 sok (by omega) hM1 hS1 hN1 sok.hd) zRR (Nat.le_of_ble_eq_true rfl) ⟨Nat.le_of_ble_eq_true rfl, Nat.le_of_ble_eq_true rfl⟩ ?_
      rintro h2 s2
      have Q := MP.tr (O := O) ⟨f1, n1⟩ (a1.st s2)
      have n2 : h2.length = h.length + 0 := Q.2.2
      exact zw_iret dM_steps_28 rfl rfl n2 ⟨rfl, Q⟩
    · exact absurd c_7 hn
end C58
