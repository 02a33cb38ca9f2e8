/-! ===== the reference begins anew ===== -/
def bgR (F : Fl) (f : Nat → Int32) (n : Nat) : Nat → Int32 := fun j =>
  if 36 ≤ j ∧ j < 36 + n then (if j - 36 = fD F then 1 else 0) else if 72 ≤ j ∧ j < 72 + n then 0 else f j
theorem bgR_0 (F : Fl) (f : Nat → Int32) : bgR F f 0 = f := by
  funext j
  simp only [bgR]
  rw [if_neg (by omega), if_neg (by omega)]
theorem bgR_s (F : Fl) (f : Nat → Int32) {n : Nat} (hn : n < 36) {v : Int32} (hv : v = if n = fD F then 1 else 0) : upd (upd (bgR F f n) (36 + n) v) (72 + n) 0 = bgR F f (n + 1) := by
  funext j
  by_cases e1 : j = 72 + n
  · subst e1
    rw [upd_eq]
    simp only [bgR]
    rw [if_neg (by omega), if_pos (by omega)]
  · rw [upd_ne _ _ e1]
    by_cases e2 : j = 36 + n
    · subst e2
      rw [upd_eq, hv]
      simp only [bgR]
      rw [if_pos (show 36 ≤ 36 + n ∧ 36 + n < 36 + (n + 1) by omega), show 36 + n - 36 = n by omega]
    · rw [upd_ne _ _ e2]
      simp only [bgR]
      by_cases q1 : 36 ≤ j ∧ j < 36 + n
      · rw [if_pos q1, if_pos (show 36 ≤ j ∧ j < 36 + (n + 1) by omega)]
      · rw [if_neg q1, if_neg (show ¬ (36 ≤ j ∧ j < 36 + (n + 1)) by omega)]
        by_cases q2 : 72 ≤ j ∧ j < 72 + n
        · rw [if_pos q2, if_pos (by omega)]
        · rw [if_neg q2, if_neg (by omega)]
theorem bg_ms {F : Fl} (hF : fOK F) {f : Nat → Int32} (hk : ∀ i, i < fN F → f i = nI (fK F i)) (S : Sit) : upd (upd (upd (upd (upd (upd (bgR F f (fN F)) 108 (nI (fD F))) 109 0) 112 40) 113 5) 110 40) 111 0 = ms F (bgS F S) f := by
  have h36 := fN_le hF
  funext j
  by_cases e1 : j = 111
  · subst e1; rw [upd_eq, ms_111]; rfl
  rw [upd_ne _ _ e1]
  by_cases e2 : j = 110
  · subst e2; rw [upd_eq, ms_110]; rfl
  rw [upd_ne _ _ e2]
  by_cases e3 : j = 113
  · subst e3; rw [upd_eq, ms_113]; rfl
  rw [upd_ne _ _ e3]
  by_cases e4 : j = 112
  · subst e4; rw [upd_eq, ms_112]; rfl
  rw [upd_ne _ _ e4]
  by_cases e5 : j = 109
  · subst e5; rw [upd_eq, ms_109]; rfl
  rw [upd_ne _ _ e5]
  by_cases e6 : j = 108
  · subst e6; rw [upd_eq, ms_108]; rfl
  rw [upd_ne _ _ e6]
  by_cases g1 : j < 36
  · have e : bgR F f (fN F) j = f j := by
      simp only [bgR]
      rw [if_neg (by omega), if_neg (by omega)]
    rw [e]
    by_cases g2 : j < fN F
    · rw [ms_k hF g2, hk j g2]
      congr 1
      unfold kdn
      rw [if_neg (fun q => Bool.false_ne_true q.2)]
    · simp only [ms]
      rw [if_pos g1, if_neg g2]
  · by_cases g2 : j < 72
    · by_cases g3 : j - 36 < fN F
      · obtain ⟨i, rfl⟩ : ∃ i, j = 36 + i := ⟨j - 36, by omega⟩
        have hi : i < fN F := by omega
        rw [ms_n hF hi]
        simp only [bgR]
        rw [if_pos (by omega), show 36 + i - 36 = i by omega]
        show (if i = fD F then (1 : Int32) else 0) = nI (if i = fD F then 1 else 0)
        split <;> rfl
      · simp only [bgR, ms]
        rw [if_neg (by omega), if_neg (by omega), if_neg g1, if_pos g2, if_neg g3]
    · by_cases g4 : j < 108
      · by_cases g3 : j - 72 < fN F
        · obtain ⟨i, rfl⟩ : ∃ i, j = 72 + i := ⟨j - 72, by omega⟩
          have hi : i < fN F := by omega
          rw [ms_p hF hi]
          simp only [bgR]
          rw [if_neg (by omega), if_pos (by omega)]
          rfl
        · simp only [bgR, ms]
          rw [if_neg (by omega), if_neg (by omega), if_neg g1, if_neg g2, if_pos g4, if_neg g3]
      · simp only [bgR, ms]
        rw [if_neg (by omega), if_neg (by omega), if_neg g1, if_neg g2, if_neg g4, if_neg e6, if_neg e5, if_neg e2, if_neg e1, if_neg e4, if_neg e3]
section C73
variable {l : Launch} {g : zG} {d : Nat} {h : zH} {F : Fl} {un le : Nat} {qa qb : I4}
theorem c_M_begins (hF : fOK F) {f ik : Nat → Int32} (hM : h[31]? = some (mC F un le qa qb)) (hS : h[32]? = some (iA 114 f)) (hK : h[34]? = some (bA ik)) (hk : ∀ i, i < fN F → f i = nI (fK F i)) (S : Sit) : Run l g mM_begins (d + 1) 0 0 [.ref 31] h (PV (((h.set 32 (sC F (bgS F S) f)).set 31 (mC F 0 le qa qb)).set 34 (bA (fun _ => 0)))) := by
  have h36 := fN_le hF
  have hD := hF.2.2.1
  have hM32 : ∀ c, (h.set 32 c)[31]? = some (mC F un le qa qb) := fun c => zg_ne (by decide) hM
  have hS32 : ∀ c, (h.set 32 c)[32]? = some c := fun c => zg_eq hS
  obtain ⟨h1, hh1⟩ : ∃ h1, h1 = (h.set 32 (sC F (bgS F S) f)).set 31 (mC F 0 le qa qb) := ⟨_, rfl⟩
  have h1M : h1[31]? = some (mC F 0 le qa qb) := by rw [hh1]; exact zg_eq (hM32 _)
  have h1K : h1[34]? = some (bA ik) := by rw [hh1]; exact zg_ne (by decide) (zg_ne (by decide) hK)
  have h1l : h1.length = h.length := by rw [hh1, zs_len, zs_len]
  rw [← hh1]
  have h1M34 : ∀ c, (h1.set 34 c)[31]? = some (mC F 0 le qa qb) := fun c => zg_ne (by decide) h1M
  have h1K34 : ∀ c, (h1.set 34 c)[34]? = some c := fun c => zg_eq h1K
  have z2 : (h1.set 34 (bA (upd ik 0 0))).set 34 (bA (upd (upd ik 0 0) 1 0)) = h1.set 34 (bA (upd (upd ik 0 0) 1 0)) := zs_set _ _ _ _
  have eB := bg_ms hF hk S
  refine run_of (by decide) (Nat.le_of_ble_eq_true rfl) ?_
  have L : ∀ (m i : Nat), i + m = fN F → WW l g mM_begins (zrm (d + 1) 0 0) (fun _ => True) (zQQ g (PV (h1.set 34 (bA (fun _ => 0)))) (h.length + 0) 0 0) 2 [(0, some (.ref 31)), (1, some (.int (nI i)))] [] (h.set 32 (iA 114 (bgR F f i))) 0 0 := by
    intro m
    induction m with
    | zero =>
      intro i hi
      have hi : i = fN F := by omega
      subst hi
      refine zw_iload_n dM_begins_2 rfl ?_
      refine zw_aload_n dM_begins_3 rfl ?_
      refine zc_V0I dM_begins_4 zm_M_cells zk_M_57 (hM32 _) rfl (c_M_cells (hM32 _)) ?_ zRR (Nat.le_of_ble_eq_true rfl) ⟨Nat.le_of_ble_eq_true rfl, Nat.le_of_ble_eq_true rfl⟩
      refine zw_icmp_ge 48 dM_begins_7 (by decide) (fun c_7 => ?_) (fun c_7 => ?_)
      · refine zw_aload_n dM_begins_48 rfl ?_
        refine zw_get dM_begins_49 zf_M_16 (hM32 _) rfl ?_
        refine zw_bipush (v := 108) dM_begins_52 (by decide) ?_
        refine zw_aload_n dM_begins_54 rfl ?_
        refine zw_get dM_begins_55 zf_M_61 (hM32 _) rfl ?_
        refine zw_iast dM_begins_58 (hS32 _) v108 ?_
        rw [e108]
        refine zw_h (iAs _ _ _ _ _) ?_
        refine zw_aload_n dM_begins_59 rfl ?_
        refine zw_get dM_begins_60 zf_M_16 (hM32 _) rfl ?_
        refine zw_bipush (v := 109) dM_begins_63 (by decide) ?_
        refine zw_iconst (v := 0) dM_begins_65 (by decide) ?_
        refine zw_iast dM_begins_66 (hS32 _) v109 ?_
        rw [e109]
        refine zw_h (iAs _ _ _ _ _) ?_
        refine zw_aload_n dM_begins_67 rfl ?_
        refine zw_get dM_begins_68 zf_M_16 (hM32 _) rfl ?_
        refine zw_bipush (v := 112) dM_begins_71 (by decide) ?_
        refine zw_bipush (v := 40) dM_begins_73 (by decide) ?_
        refine zw_iast dM_begins_75 (hS32 _) v112 ?_
        rw [e112]
        refine zw_h (iAs _ _ _ _ _) ?_
        refine zw_aload_n dM_begins_76 rfl ?_
        refine zw_get dM_begins_77 zf_M_16 (hM32 _) rfl ?_
        refine zw_bipush (v := 113) dM_begins_80 (by decide) ?_
        refine zw_iconst (v := 5) dM_begins_82 (by decide) ?_
        refine zw_iast dM_begins_83 (hS32 _) v113 ?_
        rw [e113]
        refine zw_h (iAs _ _ _ _ _) ?_
        refine zw_aload_n dM_begins_84 rfl ?_
        refine zw_get dM_begins_85 zf_M_16 (hM32 _) rfl ?_
        refine zw_bipush (v := 110) dM_begins_88 (by decide) ?_
        refine zw_bipush (v := 40) dM_begins_90 (by decide) ?_
        refine zw_iast dM_begins_92 (hS32 _) v110 ?_
        rw [e110]
        refine zw_h (iAs _ _ _ _ _) ?_
        refine zw_aload_n dM_begins_93 rfl ?_
        refine zw_get dM_begins_94 zf_M_16 (hM32 _) rfl ?_
        refine zw_bipush (v := 111) dM_begins_97 (by decide) ?_
        refine zw_iconst (v := 0) dM_begins_99 (by decide) ?_
        refine zw_iast dM_begins_100 (hS32 _) v111 ?_
        rw [e111]
        refine zw_h (sC_up eB) ?_
        refine zw_aload_n dM_begins_101 rfl ?_
        refine zw_iconst (v := 0) dM_begins_102 (by decide) ?_
        refine zw_puti dM_begins_103 zf_M_64 (hM32 _) (Nat.le_of_ble_eq_true rfl) ?_
        refine zw_h (show _ = h1 from hh1.symm) ?_
        refine zw_aload_n dM_begins_106 rfl ?_
        refine zw_get dM_begins_107 zf_M_23 h1M rfl ?_
        refine zw_iconst (v := 0) dM_begins_110 (by decide) ?_
        refine zw_iconst (v := 0) dM_begins_111 (by decide) ?_
        refine zw_zast dM_begins_112 h1K (vp_in_nI (n := 0) (by decide) (by decide)) ?_
        refine zw_h (show _ = h1.set 34 (bA (upd ik 0 0)) from rfl) ?_
        refine zw_aload_n dM_begins_113 rfl ?_
        refine zw_get dM_begins_114 zf_M_23 (h1M34 _) rfl ?_
        refine zw_iconst (v := 1) dM_begins_117 (by decide) ?_
        refine zw_iconst (v := 0) dM_begins_118 (by decide) ?_
        refine zw_zast dM_begins_119 (h1K34 _) (vp_in_nI (n := 1) (by decide) (by decide)) ?_
        refine zw_h (show _ = (h1.set 34 (bA (upd ik 0 0))).set 34 (bA (upd (upd ik 0 0) 1 0)) from rfl) ?_
        refine zw_h z2 ?_
        refine zw_exti (fun _ => 0) (h1K34 _) (fun j hj => ?_) ?_
        · have hj2 : j = 0 ∨ j = 1 := by omega
          rcases hj2 with rfl | rfl
          · rfl
          · rfl
        refine zw_h (show _ = h1.set 34 (bA (fun _ => 0)) from zs_set _ _ _ _) ?_
        exact zw_vret dM_begins_120 rfl (by rw [zs_len, h1l]; rfl) ⟨rfl, rfl⟩
      · exact absurd (Int32.le_refl _) c_7
    | succ m ih =>
      intro i hi
      obtain ⟨v1, v2, v3⟩ := vP hF (show i < fN F by omega)
      obtain ⟨w1, w2, w3⟩ := vK hF (show i < fN F by omega)
      by_cases ei : i = fD F
      · have eU := bgR_s F f (n := i) (by omega) (v := 1) (by rw [if_pos ei])
        refine zw_iload_n dM_begins_2 rfl ?_
        refine zw_aload_n dM_begins_3 rfl ?_
        refine zc_V0I dM_begins_4 zm_M_cells zk_M_57 (by first | exact hM32 _ | exact hS32 _) rfl (c_M_cells (hM32 _)) ?_ zRR (Nat.le_of_ble_eq_true rfl) ⟨Nat.le_of_ble_eq_true rfl, Nat.le_of_ble_eq_true rfl⟩
        refine zw_icmp_ge 48 dM_begins_7 (by decide) (fun c_7 => ?_) (fun c_7 => ?_)
        · exact absurd ((nI_leI (by omega) (by omega)).mp c_7) (by omega)
        · refine zw_aload_n dM_begins_10 rfl ?_
          refine zw_get dM_begins_11 zf_M_16 (by first | exact hM32 _ | exact hS32 _) rfl ?_
          refine zw_bipush (v := 36) dM_begins_14 (by decide) ?_
          refine zw_iload_n dM_begins_16 rfl ?_
          refine zw_iadd dM_begins_17 ?_
          rw [w1]
          refine zw_iload_n dM_begins_18 rfl ?_
          refine zw_aload_n dM_begins_19 rfl ?_
          refine zw_get dM_begins_20 zf_M_61 (by first | exact hM32 _ | exact hS32 _) rfl ?_
          refine zw_icmp_ne 30 dM_begins_23 (by decide) (fun c_23 => ?_) (fun c_23 => ?_)
          · exact absurd (by rw [ei]) c_23
          · refine zw_iconst (v := 1) dM_begins_26 (by decide) ?_
            refine zw_goto 31 dM_begins_27 (by decide) ?_
            refine zw_iast dM_begins_31 (by first | exact hM32 _ | exact hS32 _) w2 ?_
            rw [w3]
            refine zw_h (iAs _ _ _ _ _) ?_
            refine zw_aload_n dM_begins_32 rfl ?_
            refine zw_get dM_begins_33 zf_M_16 (by first | exact hM32 _ | exact hS32 _) rfl ?_
            refine zw_bipush (v := 72) dM_begins_36 (by decide) ?_
            refine zw_iload_n dM_begins_38 rfl ?_
            refine zw_iadd dM_begins_39 ?_
            rw [v1]
            refine zw_iconst (v := 0) dM_begins_40 (by decide) ?_
            refine zw_iast dM_begins_41 (by first | exact hM32 _ | exact hS32 _) v2 ?_
            rw [v3]
            refine zw_h (iAu eU) ?_
            refine zw_incN dM_begins_42 rfl (by decide) rfl ?_
            refine zw_goto 2 dM_begins_45 (by decide) ?_
            exact zw_lk (ih (i + 1) (by omega)) ⟨rfl, rfl, trivial⟩
      · have eU := bgR_s F f (n := i) (by omega) (v := 0) (by rw [if_neg ei])
        refine zw_iload_n dM_begins_2 rfl ?_
        refine zw_aload_n dM_begins_3 rfl ?_
        refine zc_V0I dM_begins_4 zm_M_cells zk_M_57 (by first | exact hM32 _ | exact hS32 _) rfl (c_M_cells (hM32 _)) ?_ zRR (Nat.le_of_ble_eq_true rfl) ⟨Nat.le_of_ble_eq_true rfl, Nat.le_of_ble_eq_true rfl⟩
        refine zw_icmp_ge 48 dM_begins_7 (by decide) (fun c_7 => ?_) (fun c_7 => ?_)
        · exact absurd ((nI_leI (by omega) (by omega)).mp c_7) (by omega)
        · refine zw_aload_n dM_begins_10 rfl ?_
          refine zw_get dM_begins_11 zf_M_16 (by first | exact hM32 _ | exact hS32 _) rfl ?_
          refine zw_bipush (v := 36) dM_begins_14 (by decide) ?_
          refine zw_iload_n dM_begins_16 rfl ?_
          refine zw_iadd dM_begins_17 ?_
          rw [w1]
          refine zw_iload_n dM_begins_18 rfl ?_
          refine zw_aload_n dM_begins_19 rfl ?_
          refine zw_get dM_begins_20 zf_M_61 (by first | exact hM32 _ | exact hS32 _) rfl ?_
          refine zw_icmp_ne 30 dM_begins_23 (by decide) (fun c_23 => ?_) (fun c_23 => ?_)
          · refine zw_iconst (v := 0) dM_begins_30 (by decide) ?_
            refine zw_iast dM_begins_31 (by first | exact hM32 _ | exact hS32 _) w2 ?_
            rw [w3]
            refine zw_h (iAs _ _ _ _ _) ?_
            refine zw_aload_n dM_begins_32 rfl ?_
            refine zw_get dM_begins_33 zf_M_16 (by first | exact hM32 _ | exact hS32 _) rfl ?_
            refine zw_bipush (v := 72) dM_begins_36 (by decide) ?_
            refine zw_iload_n dM_begins_38 rfl ?_
            refine zw_iadd dM_begins_39 ?_
            rw [v1]
            refine zw_iconst (v := 0) dM_begins_40 (by decide) ?_
            refine zw_iast dM_begins_41 (by first | exact hM32 _ | exact hS32 _) v2 ?_
            rw [v3]
            refine zw_h (iAu eU) ?_
            refine zw_incN dM_begins_42 rfl (by decide) rfl ?_
            refine zw_goto 2 dM_begins_45 (by decide) ?_
            exact zw_lk (ih (i + 1) (by omega)) ⟨rfl, rfl, trivial⟩
          · exact absurd ((nI_eq (by omega) (by omega)).mp c_23) ei
  refine zw_iconst (v := 0) dM_begins_0 (by decide) ?_
  refine zw_istore_n dM_begins_1 (by decide) rfl ?_
  refine zw_lk (ls2 := [(0, some (.ref 31)), (1, some (.int (nI 0)))]) ?_ ⟨rfl, rfl, trivial⟩
  have L0 := L (fN F) 0 (by omega)
  rw [bgR_0, zs_self hS] at L0
  exact L0
end C73
