section C41
variable {l : Launch} {g : zG} {d : Nat} {h : zH}
theorem c_G_size2 {a b : Nat} {fs : List Value} (hG : h[4]? = some (.inr (2, .int (nI a) :: .int (nI b) :: fs))) : Run l g mG_size d 0 0 [.ref 4] h (PI (nI (a * b)) h) := by
  refine run_of (by decide) (Nat.le_of_ble_eq_true rfl) ?_
  refine zw_aload_n dG_size_0 rfl ?_
  refine zw_get dG_size_1 zf_G_15 hG rfl ?_
  refine zw_aload_n dG_size_4 rfl ?_
  refine zw_get dG_size_5 zf_G_21 hG rfl ?_
  refine zw_imul dG_size_8 ?_
  exact zw_iret dG_size_9 rfl rfl rfl ⟨by rw [pk_mul], rfl⟩
theorem m_allN : ∀ n, n < 37 → (1 : Int64) <<< ((nI n).toInt64 &&& 63) - 1 = mset (fun i => decide (i < n)) := by decide +kernel
theorem c_G_cellsOfKind {len : Nat} {P : PS} (hc : pCell P ≤ 36) {kf : Nat → Int32} (t1 : h[1]? = some (psC len P)) (t3 : h[3]? = some (kdA kf)) (hkf : kdR P kf) (hk7 : ∀ i, i < pCell P → P.2.2.2.1 i < 7) {k : Nat} (hk : k < 7) : Run l g mG_cellsOfKind (d + 1) 0 0 [.ref 1, .int (nI k)] h (PL (mset (fun i => decide (i < pCell P) && (P.2.2.2.1 i == k))) h) := by
  obtain ⟨mk, hmk⟩ : ∃ mk : Nat → Int64, ∀ i, mk i = mset (fun j => decide (j < i) && (P.2.2.2.1 j == k)) := ⟨_, fun _ => rfl⟩
  rw [← hmk (pCell P)]
  refine run_of (by decide) (Nat.le_of_ble_eq_true rfl) ?_
  have L : ∀ (m i : Nat), i + m = pCell P → WW l g mG_cellsOfKind (zrm (d + 1) 0 0) (fun _ => True) (zQQ g (PL (mk (pCell P)) h) (h.length + 0) 0 0) 5 [(0, some (.ref 1)), (1, some (.int (nI k))), (2, some (.long (mk i))), (4, some (.int (nI i)))] [] h 0 0 := by
    intro m
    induction m with
    | zero =>
      intro i him
      have hi : i = pCell P := by omega
      subst hi
      refine zw_iload dG_cellsOfKind_5 rfl ?_
      refine zw_aload_n dG_cellsOfKind_7 rfl ?_
      refine zw_get dG_cellsOfKind_8 zf_G_60 t1 rfl ?_
      refine zw_icmp_ge 46 dG_cellsOfKind_11 (by decide) (fun c_11 => ?_) (fun c_11 => ?_)
      · refine zw_lload_n dG_cellsOfKind_46 rfl ?_
        exact zw_lret dG_cellsOfKind_47 rfl rfl ⟨rfl, rfl⟩
      · exact absurd (Int32.le_refl _) c_11
    | succ m ih =>
      intro i him
      have ecl : (nI i).toNatClampNeg = i := nI_clamp (by omega)
      have hki : kf i = nI (P.2.2.2.1 i) := hkf i (by omega)
      have h7 := hk7 i (by omega)
      have e1 : P.2.2.2.1 i = k → mk i ||| mset (oneO (some i)) = mk (i + 1) := by
        intro e
        rw [hmk, hmk]
        rw [m_or, oneO_some]
        apply mset_congr
        intro j _
        simp only [one]
        by_cases q : j = i
        · subst q; simp [e]
        · have q2 : (j == i) = false := by simpa using q
          have q3 : (j < i + 1) ↔ j < i := by omega
          simp [q2, q3]
      have e2 : ¬ P.2.2.2.1 i = k → mk i = mk (i + 1) := by
        intro e
        rw [hmk, hmk]
        apply mset_congr
        intro j _
        by_cases q : j = i
        · subst q
          have : (P.2.2.2.1 j == k) = false := by simpa using e
          simp [this]
        · have q3 : (j < i + 1) ↔ j < i := by omega
          simp [q3]
      refine zw_iload dG_cellsOfKind_5 rfl ?_
      refine zw_aload_n dG_cellsOfKind_7 rfl ?_
      refine zw_get dG_cellsOfKind_8 zf_G_60 (by first | exact t1 | exact t3) rfl ?_
      refine zw_icmp_ge 46 dG_cellsOfKind_11 (by decide) (fun c_11 => ?_) (fun c_11 => ?_)
      · exact absurd ((nI_leI (by omega) (by omega)).mp c_11) (by omega)
      · refine zw_iload dG_cellsOfKind_14 rfl ?_
        refine zw_bipush (v := 36) dG_cellsOfKind_16 (by decide) ?_
        refine zw_icmp_ge 46 dG_cellsOfKind_18 (by decide) (fun c_18 => ?_) (fun c_18 => ?_)
        · exact absurd ((nI_leI (a := 36) (by omega) (by omega)).mp c_18) (by omega)
        · refine zw_aload_n dG_cellsOfKind_21 rfl ?_
          refine zw_get dG_cellsOfKind_22 zf_G_63 (by first | exact t1 | exact t3) rfl ?_
          refine zw_iload dG_cellsOfKind_25 rfl ?_
          refine zw_iald dG_cellsOfKind_27 (by first | exact t1 | exact t3) (vp_in_nI (show i < 36 by omega) (by decide)) ?_
          rw [ecl, hki]
          refine zw_iload_n dG_cellsOfKind_28 rfl ?_
          refine zw_icmp_ne 40 dG_cellsOfKind_29 (by decide) (fun c_29 => ?_) (fun c_29 => ?_)
          · refine zw_incN dG_cellsOfKind_40 rfl (by decide) rfl ?_
            refine zw_goto 5 dG_cellsOfKind_43 (by decide) ?_
            first
              | (have e3 := e2 (fun q => c_29 (by rw [q]))
                 refine zw_lk (ih (i + 1) (by omega)) ⟨rfl, rfl, by rw [← e3]; rfl, rfl, trivial⟩)
              | exact zw_lk (ih (i + 1) (by omega)) ⟨rfl, rfl, rfl, rfl, trivial⟩
          · refine zw_lload_n dG_cellsOfKind_32 rfl ?_
            refine zw_iload dG_cellsOfKind_33 rfl ?_
            refine zc_S1L dG_cellsOfKind_35 zm_F_only zk_G_53 (c_F_only (a := some i) (oOK_some (by omega))) ?_ zRR (Nat.le_of_ble_eq_true rfl) ⟨Nat.le_of_ble_eq_true rfl, Nat.le_of_ble_eq_true rfl⟩
            refine zw_lor dG_cellsOfKind_38 ?_
            rw [e1 ((nI_eq (by omega) (by omega)).mp (Classical.byContradiction fun q => q c_29))]
            refine zw_lstore_n dG_cellsOfKind_39 (by decide) rfl ?_
            refine zw_incN dG_cellsOfKind_40 rfl (by decide) rfl ?_
            refine zw_goto 5 dG_cellsOfKind_43 (by decide) ?_
            first
              | (have e3 := e2 (fun q => c_29 (by rw [q]))
                 refine zw_lk (ih (i + 1) (by omega)) ⟨rfl, rfl, by rw [← e3]; rfl, rfl, trivial⟩)
              | exact zw_lk (ih (i + 1) (by omega)) ⟨rfl, rfl, rfl, rfl, trivial⟩
  refine zw_lconst (v := 0) dG_cellsOfKind_0 (by decide) ?_
  refine zw_lstore_n dG_cellsOfKind_1 (by decide) rfl ?_
  refine zw_iconst (v := 0) dG_cellsOfKind_2 (by decide) ?_
  refine zw_istore dG_cellsOfKind_3 (by decide) rfl ?_
  rw [show (0 : Int64) = mk 0 from by rw [hmk, m_0]; apply mset_congr; intro i _; simp]
  exact zw_lk (L (pCell P) 0 (by omega)) ⟨rfl, rfl, rfl, rfl, trivial⟩
theorem lm_chk : (List.range 7).all (fun W => (List.range 7).all (fun r => (List.range 36).all (fun i => !(decide (0 < W)) || (((decide (i < r * W) && (i % W == 0)) || (i == r * W)) == (decide (i < (r + 1) * W) && (i % W == 0)))))) = true := by decide +kernel
theorem lm_all {W r i : Nat} (hW : W < 7) (h0 : 0 < W) (hr : r < 7) (hi : i < 36) : ((decide (i < r * W) && (i % W == 0)) || (i == r * W)) = (decide (i < (r + 1) * W) && (i % W == 0)) := by
  have h1 := List.all_eq_true.mp (List.all_eq_true.mp (List.all_eq_true.mp lm_chk W (List.mem_range.mpr hW)) r (List.mem_range.mpr hr)) i (List.mem_range.mpr hi)
  simpa [h0] using h1
theorem rm_chk : (List.range 7).all (fun W => (List.range 7).all (fun H => !(decide (0 < W)) || ((mset (fun i => decide (i < H * W) && (i % W == 0)) <<< ((nI (W - 1)).toInt64 &&& 63)) == mset (fun i => decide (i < W * H) && (i % W == W - 1))))) = true := by decide +kernel
theorem rm_all {W H : Nat} (hW : W < 7) (h0 : 0 < W) (hH : H < 7) : mset (fun i => decide (i < H * W) && (i % W == 0)) <<< ((nI (W - 1)).toInt64 &&& 63) = mset (fun i => decide (i < W * H) && (i % W == W - 1)) := by
  have h1 := List.all_eq_true.mp (List.all_eq_true.mp rm_chk W (List.mem_range.mpr hW)) H (List.mem_range.mpr hH)
  simpa [h0] using h1
def gcF (a b c : Int32) (d0 d1 d2 d3 d4 d5 d6 : Int64) : zC := .inr (2, [.int a, .int b, .int c, .long d0, .long d1, .long d2, .long d3, .long d4, .long d5, .long d6])
theorem c_G_layOut {len : Nat} {P : PS} (hP : pOK P) (h0 : P.2.2.1 = 0) (hr : 0 < P.1) {dkc : Nat} (hdk : P.2.2.2.2 = some dkc) {kf : Nat → Int32} (t1 : h[1]? = some (psC len P)) (t3 : h[3]? = some (kdA kf)) (hkf : kdR P kf) {a b c : Int32} {d0 d1 d2 d3 d4 d5 d6 : Int64} (h4 : h[4]? = some (gcF a b c d0 d1 d2 d3 d4 d5 d6)) : Run l g mG_layOut (d + 2) 0 0 [.ref 4, .ref 1] h (PV (h.set 4 (gC (pFl P)))) := by
  have hpO := hP
  obtain ⟨r, w, s, kd, dk⟩ := P
  obtain ⟨p1, p2, p3, p4, p5, p6, p7, p8⟩ := hP
  dsimp only at *
  subst h0
  subst hdk
  obtain ⟨hw, -⟩ := p5 hr
  have en : r * w + 0 = w * r := by rw [Nat.mul_comm]; rfl
  have ecl : pCell (r, w, 0, kd, some dkc) = w * r := en
  have hn36 : w * r ≤ 36 := Nat.mul_le_mul p2 p1
  have t1' : h[1]? = some (txC (nI len) (nI (r * w + 0)) (nI w) (nI r) (nI 0) (oI (some dkc))) := t1
  have hk7 : ∀ i, i < w * r → kd i < 7 := fun i hi => by have := (p7 i (by rw [ecl]; exact hi)).1; omega
  have ck := fun (k : Nat) (hk : k < 7) (h' : zH) (v1 : h'[1]? = some (psC len (r, w, 0, kd, some dkc))) (v3 : h'[3]? = some (kdA kf)) => c_G_cellsOfKind (l := l) (g := g) (d := d) (h := h') (P := (r, w, 0, kd, some dkc)) (by rw [ecl]; exact hn36) v1 v3 hkf (by rw [ecl]; exact hk7) hk
  rw [ecl] at ck
  dsimp only at ck
  have hall := m_allN (w * r) (by omega)
  have eF : gC (pFl (r, w, 0, kd, some dkc)) = gcF (nI w) (nI r) (nI dkc) (mset (fun i => decide (i < w * r))) (mset (fun i => decide (i < w * r) && (kd i == 0))) (mset (fun i => decide (i < w * r) && (kd i == 2))) (mset (fun i => decide (i < w * r) && (kd i == 3))) (mset (fun i => decide (i < w * r) && (kd i == 4))) (mset (fun i => decide (i < w * r) && (i % w == 0))) (mset (fun i => decide (i < w * r) && (i % w == w - 1))) := rfl
  have ew1 : nI w - 1 = nI (w - 1) := pk_sub (b := 1) hw
  have hrm := rm_all (W := w) (H := r) (by omega) hw (by omega)
  have hlm : ∀ q, q < 7 → mset (fun i => decide (i < q * w) && (i % w == 0)) ||| mset (oneO (some (q * w))) = mset (fun i => decide (i < (q + 1) * w) && (i % w == 0)) := by
    intro q hq
    rw [m_or, oneO_some]
    apply mset_congr
    intro i hi
    exact lm_all (by omega) hw hq hi
  have hlw : mset (fun i => decide (i < r * w) && (i % w == 0)) = mset (fun i => decide (i < w * r) && (i % w == 0)) := by rw [Nat.mul_comm]
  have hl0 : (0 : Int64) = mset (fun i => decide (i < 0 * w) && (i % w == 0)) := by
    rw [m_0]
    apply mset_congr
    intro i _
    simp
  rw [eF]
  generalize mset (fun i => decide (i < w * r)) = mA at hall
  generalize hm0 : mset (fun i => decide (i < w * r) && (kd i == 0)) = m0
  generalize hm2 : mset (fun i => decide (i < w * r) && (kd i == 2)) = m2
  generalize hm3 : mset (fun i => decide (i < w * r) && (kd i == 3)) = m3
  generalize hm4 : mset (fun i => decide (i < w * r) && (kd i == 4)) = m4
  have ck0 := ck 0 (by decide)
  have ck2 := ck 2 (by decide)
  have ck3 := ck 3 (by decide)
  have ck4 := ck 4 (by decide)
  rw [hm0] at ck0
  rw [hm2] at ck2
  rw [hm3] at ck3
  rw [hm4] at ck4
  generalize mset (fun i => decide (i < w * r) && (i % w == w - 1)) = mR at hrm
  generalize hLd : (fun q => mset (fun i => decide (i < q * w) && (i % w == 0))) = ml
  have hLq : ∀ q, mset (fun i => decide (i < q * w) && (i % w == 0)) = ml q := fun q => by rw [← hLd]
  rw [← hlw]
  rw [hLq r] at hrm ⊢
  rw [hLq 0] at hl0
  have hlm2 : ∀ q, q < 7 → ml q ||| mset (oneO (some (q * w))) = ml (q + 1) := fun q hq => by rw [← hLq, ← hLq]; exact hlm q hq
  refine run_of (by decide) (Nat.le_of_ble_eq_true rfl) ?_
  have L : ∀ (m q : Nat), q + m = r → WW l g mG_layOut (zrm (d + 2) 0 0) (fun _ => True) (zQQ g (PV (h.set 4 (gcF (nI w) (nI r) (nI dkc) mA m0 m2 m3 m4 (ml r) mR))) (h.length + 0) 0 0) 79 [(0, some (.ref 4)), (1, some (.ref 1)), (2, some (.int (nI q)))] [] (h.set 4 (gcF (nI w) (nI r) (nI dkc) mA m0 m2 m3 m4 (ml q) d6)) 0 0 := by
    intro m
    induction m with
    | zero =>
      intro q hqm
      have hq : q = r := by omega
      subst hq
      have v4 : (h.set 4 (gcF (nI w) (nI q) (nI dkc) mA m0 m2 m3 m4 (ml q) d6))[4]? = some (gcF (nI w) (nI q) (nI dkc) mA m0 m2 m3 m4 (ml q) d6) := zg_eq h4
      refine zw_iload_n dG_layOut_79 rfl ?_
      refine zw_aload_n dG_layOut_80 rfl ?_
      refine zw_get dG_layOut_81 zf_G_21 v4 rfl ?_
      refine zw_icmp_ge 111 dG_layOut_84 (by decide) (fun c_84 => ?_) (fun c_84 => ?_)
      · refine zw_aload_n dG_layOut_111 rfl ?_
        refine zw_aload_n dG_layOut_112 rfl ?_
        refine zw_get dG_layOut_113 zf_G_50 v4 rfl ?_
        refine zw_aload_n dG_layOut_116 rfl ?_
        refine zw_get dG_layOut_117 zf_G_15 v4 rfl ?_
        refine zw_iconst (v := 1) dG_layOut_120 (by decide) ?_
        refine zw_isub dG_layOut_121 ?_
        rw [ew1]
        refine zw_lshl dG_layOut_122 ?_
        rw [hrm]
        refine zw_putl dG_layOut_123 zf_G_57 v4 (Nat.le_of_ble_eq_true rfl) ?_
        refine zw_h (h2 := h.set 4 (gcF (nI w) (nI q) (nI dkc) mA m0 m2 m3 m4 (ml q) mR)) (zs_set _ _ _ _) ?_
        exact zw_vret dG_layOut_126 rfl (by simp) ⟨rfl, rfl⟩
      · exact absurd (Int32.le_refl _) c_84
    | succ m ih =>
      intro q hqm
      have v4 : (h.set 4 (gcF (nI w) (nI r) (nI dkc) mA m0 m2 m3 m4 (ml q) d6))[4]? = some (gcF (nI w) (nI r) (nI dkc) mA m0 m2 m3 m4 (ml q) d6) := zg_eq h4
      have hqw : q * w < 36 := by
        have : q * w ≤ 5 * 6 := Nat.mul_le_mul (by omega) p2
        omega
      refine zw_iload_n dG_layOut_79 rfl ?_
      refine zw_aload_n dG_layOut_80 rfl ?_
      refine zw_get dG_layOut_81 zf_G_21 v4 rfl ?_
      refine zw_icmp_ge 111 dG_layOut_84 (by decide) (fun c_84 => ?_) (fun c_84 => ?_)
      · exact absurd ((nI_leI (by omega) (by omega)).mp c_84) (by omega)
      · refine zw_aload_n dG_layOut_87 rfl ?_
        refine zw_dup dG_layOut_88 rfl ?_
        refine zw_get dG_layOut_89 zf_G_50 v4 rfl ?_
        refine zw_iload_n dG_layOut_92 rfl ?_
        refine zw_aload_n dG_layOut_93 rfl ?_
        refine zw_get dG_layOut_94 zf_G_15 v4 rfl ?_
        refine zw_imul dG_layOut_97 ?_
        rw [pk_mul]
        refine zc_S1L dG_layOut_98 zm_F_only zk_G_53 (c_F_only (a := some (q * w)) (oOK_some hqw)) ?_ zRR (Nat.le_of_ble_eq_true rfl) ⟨Nat.le_of_ble_eq_true rfl, Nat.le_of_ble_eq_true rfl⟩
        refine zw_lor dG_layOut_101 ?_
        rw [hlm2 q (by omega)]
        refine zw_putl dG_layOut_102 zf_G_50 v4 (Nat.le_of_ble_eq_true rfl) ?_
        refine zw_h (h2 := h.set 4 (gcF (nI w) (nI r) (nI dkc) mA m0 m2 m3 m4 (ml (q + 1)) d6)) (zs_set _ _ _ _) ?_
        refine zw_incN dG_layOut_105 rfl (by decide) rfl ?_
        refine zw_goto 79 dG_layOut_108 (by decide) ?_
        exact zw_lk (ih (q + 1) (by omega)) ⟨rfl, rfl, rfl, trivial⟩
  refine zw_aload_n dG_layOut_0 rfl ?_
  refine zw_aload_n dG_layOut_1 rfl ?_
  refine zw_get dG_layOut_2 zf_G_9 t1' rfl ?_
  refine zw_puti dG_layOut_5 zf_G_15 h4 (Nat.le_of_ble_eq_true rfl) ?_
  refine zw_aload_n dG_layOut_8 rfl ?_
  refine zw_aload_n dG_layOut_9 rfl ?_
  refine zw_get dG_layOut_10 zf_G_18 (by first | exact zg_eq h4 | exact zg_ne (by decide) t1') rfl ?_
  refine zw_puti dG_layOut_13 zf_G_21 (by first | exact zg_eq h4 | exact zg_ne (by decide) t1') (Nat.le_of_ble_eq_true rfl) ?_
  refine zw_h (zs_set _ _ _ _) ?_
  refine zw_aload_n dG_layOut_16 rfl ?_
  refine zw_aload_n dG_layOut_17 rfl ?_
  refine zw_get dG_layOut_18 zf_G_22 (by first | exact zg_eq h4 | exact zg_ne (by decide) t1') rfl ?_
  refine zw_puti dG_layOut_21 zf_G_25 (by first | exact zg_eq h4 | exact zg_ne (by decide) t1') (Nat.le_of_ble_eq_true rfl) ?_
  refine zw_h (zs_set _ _ _ _) ?_
  refine zw_aload_n dG_layOut_24 rfl ?_
  refine zw_lconst (v := 1) dG_layOut_25 (by decide) ?_
  refine zw_aload_n dG_layOut_26 rfl ?_
  refine zc_V0I dG_layOut_27 zm_G_size zk_G_26 (by first | exact zg_eq h4 | exact zg_ne (by decide) t1') rfl (c_G_size2 (zg_eq h4)) ?_ zRR (Nat.le_of_ble_eq_true rfl) ⟨Nat.le_of_ble_eq_true rfl, Nat.le_of_ble_eq_true rfl⟩
  refine zw_lshl dG_layOut_30 ?_
  refine zw_lconst (v := 1) dG_layOut_31 (by decide) ?_
  refine zw_lsub dG_layOut_32 ?_
  rw [hall]
  refine zw_putl dG_layOut_33 zf_G_30 (by first | exact zg_eq h4 | exact zg_ne (by decide) t1') (Nat.le_of_ble_eq_true rfl) ?_
  refine zw_h (zs_set _ _ _ _) ?_
  refine zw_aload_n dG_layOut_36 rfl ?_
  refine zw_aload_n dG_layOut_37 rfl ?_
  refine zw_iconst (v := 0) dG_layOut_38 (by decide) ?_
  refine zc_S2L dG_layOut_39 zm_G_cellsOfKind zk_G_34 (ck0 _ (zg_ne (by decide) t1) (zg_ne (by decide) t3)) ?_ zRR (Nat.le_of_ble_eq_true rfl) ⟨Nat.le_of_ble_eq_true rfl, Nat.le_of_ble_eq_true rfl⟩
  refine zw_putl dG_layOut_42 zf_G_38 (by first | exact zg_eq h4 | exact zg_ne (by decide) t1') (Nat.le_of_ble_eq_true rfl) ?_
  refine zw_h (zs_set _ _ _ _) ?_
  refine zw_aload_n dG_layOut_45 rfl ?_
  refine zw_aload_n dG_layOut_46 rfl ?_
  refine zw_iconst (v := 2) dG_layOut_47 (by decide) ?_
  refine zc_S2L dG_layOut_48 zm_G_cellsOfKind zk_G_34 (ck2 _ (zg_ne (by decide) t1) (zg_ne (by decide) t3)) ?_ zRR (Nat.le_of_ble_eq_true rfl) ⟨Nat.le_of_ble_eq_true rfl, Nat.le_of_ble_eq_true rfl⟩
  refine zw_putl dG_layOut_51 zf_G_41 (by first | exact zg_eq h4 | exact zg_ne (by decide) t1') (Nat.le_of_ble_eq_true rfl) ?_
  refine zw_h (zs_set _ _ _ _) ?_
  refine zw_aload_n dG_layOut_54 rfl ?_
  refine zw_aload_n dG_layOut_55 rfl ?_
  refine zw_iconst (v := 3) dG_layOut_56 (by decide) ?_
  refine zc_S2L dG_layOut_57 zm_G_cellsOfKind zk_G_34 (ck3 _ (zg_ne (by decide) t1) (zg_ne (by decide) t3)) ?_ zRR (Nat.le_of_ble_eq_true rfl) ⟨Nat.le_of_ble_eq_true rfl, Nat.le_of_ble_eq_true rfl⟩
  refine zw_putl dG_layOut_60 zf_G_44 (by first | exact zg_eq h4 | exact zg_ne (by decide) t1') (Nat.le_of_ble_eq_true rfl) ?_
  refine zw_h (zs_set _ _ _ _) ?_
  refine zw_aload_n dG_layOut_63 rfl ?_
  refine zw_aload_n dG_layOut_64 rfl ?_
  refine zw_iconst (v := 4) dG_layOut_65 (by decide) ?_
  refine zc_S2L dG_layOut_66 zm_G_cellsOfKind zk_G_34 (ck4 _ (zg_ne (by decide) t1) (zg_ne (by decide) t3)) ?_ zRR (Nat.le_of_ble_eq_true rfl) ⟨Nat.le_of_ble_eq_true rfl, Nat.le_of_ble_eq_true rfl⟩
  refine zw_putl dG_layOut_69 zf_G_47 (by first | exact zg_eq h4 | exact zg_ne (by decide) t1') (Nat.le_of_ble_eq_true rfl) ?_
  refine zw_h (zs_set _ _ _ _) ?_
  refine zw_aload_n dG_layOut_72 rfl ?_
  refine zw_lconst (v := 0) dG_layOut_73 (by decide) ?_
  rw [hl0]
  refine zw_putl dG_layOut_74 zf_G_50 (by first | exact zg_eq h4 | exact zg_ne (by decide) t1') (Nat.le_of_ble_eq_true rfl) ?_
  refine zw_h (zs_set _ _ _ _) ?_
  refine zw_iconst (v := 0) dG_layOut_77 (by decide) ?_
  refine zw_istore_n dG_layOut_78 (by decide) rfl ?_
  exact zw_lk (L r 0 (by omega)) ⟨rfl, rfl, rfl, trivial⟩
theorem c_A_empty {f : Nat → Int32} (i1 : h[24]? = some albC) (i3 : h[26]? = some (kptC f)) : Run l g mA_empty d 0 0 [.ref 24] h (PV (h.set 26 (kptC (fun _ => 0)))) := by
  refine run_of (by decide) (Nat.le_of_ble_eq_true rfl) ?_
  refine zw_iconst (v := 0) dA_empty_0 (by decide) ?_
  refine zw_istore_n dA_empty_1 (by decide) rfl ?_
  refine zw_iload_n dA_empty_2 rfl ?_
  refine zw_iconst (v := 2) dA_empty_3 (by decide) ?_
  refine zw_icmp_ge 20 dA_empty_4 (by decide) (fun c_4 => absurd c_4 (by decide)) (fun _ => ?_)
  refine zw_aload_n dA_empty_7 rfl ?_
  refine zw_get dA_empty_8 zf_A_17 i1 rfl ?_
  refine zw_iload_n dA_empty_11 rfl ?_
  refine zw_iconst (v := 0) dA_empty_12 (by decide) ?_
  refine zw_zast dA_empty_13 i3 (vp_in_nI (n := 0) (by decide) (by decide)) ?_
  refine zw_incN (j := 0) dA_empty_14 rfl (by decide) rfl ?_
  refine zw_goto 2 dA_empty_17 (by decide) ?_
  refine zw_iload_n dA_empty_2 rfl ?_
  refine zw_iconst (v := 2) dA_empty_3 (by decide) ?_
  refine zw_icmp_ge 20 dA_empty_4 (by decide) (fun c_4 => absurd c_4 (by decide)) (fun _ => ?_)
  refine zw_aload_n dA_empty_7 rfl ?_
  refine zw_get dA_empty_8 zf_A_17 (zg_ne (by decide) i1) rfl ?_
  refine zw_iload_n dA_empty_11 rfl ?_
  refine zw_iconst (v := 0) dA_empty_12 (by decide) ?_
  refine zw_zast dA_empty_13 (zg_eq i3) (vp_in_nI (n := 1) (by decide) (by decide)) ?_
  refine zw_incN (j := 1) dA_empty_14 rfl (by decide) rfl ?_
  refine zw_goto 2 dA_empty_17 (by decide) ?_
  refine zw_iload_n dA_empty_2 rfl ?_
  refine zw_iconst (v := 2) dA_empty_3 (by decide) ?_
  refine zw_icmp_ge 20 dA_empty_4 (by decide) (fun _ => ?_) (fun c_4 => absurd (by decide) c_4)
  refine zw_exti (fun _ => 0) (zg_eq (zg_eq i3)) (fun j hj => ?_) ?_
  · rcases (show j = 0 ∨ j = 1 by omega) with rfl | rfl <;> rfl
  refine zw_h (h2 := h.set 26 (kptC (fun _ => 0))) (by rw [zs_set, zs_set]; rfl) ?_
  exact zw_vret dA_empty_20 rfl (by simp) ⟨rfl, rfl⟩
/-! the whole text is read -/
def nFloor (O : Om) : Om := match prs (oT O) (oLen O) 0 pIni with
  | .inl _ => O
  | .inr P => oMk (pFl P) (bgS (pFl P) (oS O)) (oT O) 0 (oU O) 0 (oI' O) (fun _ => false)
def rRead (O : Om) : Int32 := ffI (prs (oT O) (oLen O) 0 pIni)
theorem c_F_readText {O : Om} (h1 : h[0]? = some xC) (hlen : oLen O ≤ 60) (h2 : CXt h (oT O) (oLen O)) {a b c : Int32} {d0 d1 d2 d3 d4 d5 d6 : Int64} (h4g : h[4]? = some (gcF a b c d0 d1 d2 d3 d4 d5 d6)) (hnG : ∀ f, prs (oT O) (oLen O) 0 pIni = .inl f → h[4]? = some (gC (oF O))) (h5 : h[5]? = some (sitC 5 (oS O))) (h6 : h[5 + 1]? = some (plC (oS O))) (h7 : CXf h) (h8 : CXp h) (h9 : CXu h (oU O) (oSz O)) (h10 : CXi h (oI' O) (oKp O)) : Run l g mF_readText (d + 3) 0 0 [.ref 0] h (PIh (rRead O) (CQ h (nFloor O))) := by
  obtain ⟨tc, tw, tht, tsg, tdk, lf, kf0, t1, t2, t3, t4⟩ := h2
  have cf := c_T_findFault (l := l) (g := g) (d := d) hlen t1 t2 t3 t4
  unfold rRead nFloor
  cases hq : prs (oT O) (oLen O) 0 pIni with
  | inl f =>
    rw [hq] at cf
    have hfl := prs_le hq
    have h3 := hnG f hq
    refine run_of (by decide) (Nat.le_of_ble_eq_true rfl) ?_
    refine zw_aload_n dF_readText_0 rfl ?_
    refine zw_get dF_readText_1 zf_F_12 (by first | exact h1 | exact t1) rfl ?_
    refine zx_V0I dF_readText_4 zm_T_findFault zk_F_235 (by first | exact h1 | exact t1) rfl (cf) zRR (Nat.le_of_ble_eq_true rfl) ⟨Nat.le_of_ble_eq_true rfl, Nat.le_of_ble_eq_true rfl⟩ ?_
    rintro h' ⟨P, kf, rfl, -⟩
    refine zw_istore_n dF_readText_7 (by decide) rfl ?_
    refine zw_iload_n dF_readText_8 rfl ?_
    refine zw_iconst (v := (-1)) dF_readText_9 (by decide) ?_
    refine zw_icmp_eq 15 dF_readText_10 (by decide) (fun c_10 => ?_) (fun c_10 => ?_)
    · have q : (nI f).toInt = (-1 : Int32).toInt := by rw [show nI f = -1 from c_10]
      rw [nI_toInt (by omega), show (-1 : Int32).toInt = -1 from by decide] at q
      omega
    · have K : ∀ j, j ≠ 1 → j ≠ 3 → ((h.set 3 (kdA kf)).set 1 (psC (oLen O) P))[j]? = h[j]? := fun j q1 q2 => zg_ne (Ne.symm q1) (zg_ne (Ne.symm q2) rfl)
      have E : CX ((h.set 3 (kdA kf)).set 1 (psC (oLen O) P)) O := ⟨(K _ (by omega) (by omega)).trans h1, ⟨_, _, _, _, _, lf, kf, zg_eq (c := txC (nI (oLen O)) tc tw tht tsg tdk) (zg_ne (by decide) t1), (K _ (by omega) (by omega)).trans t2, zg_ne (by decide) (zg_eq t3), t4⟩, (K _ (by omega) (by omega)).trans h3, (K _ (by omega) (by omega)).trans h5, (K _ (by omega) (by omega)).trans h6, h7.keep (fun j _ _ => K j (by omega) (by omega)), h8.keep (K _ (by omega) (by omega)), h9.keep (fun j _ _ => K j (by omega) (by omega)), h10.keep (fun j _ _ => K j (by omega) (by omega))⟩
      refine zw_iload_n dF_readText_13 rfl ?_
      exact zw_iret dF_readText_14 rfl rfl (by simp) ⟨rfl, E, (frC.set (by decide)).tr (frC.set (by decide)), by simp⟩
  | inr P =>
    rw [hq] at cf
    obtain ⟨hP, hs0, hr0, hd0⟩ := prs_ok pIni_ok hq
    have hF := pFl_ok hP hs0 hr0 hd0
    obtain ⟨dkc, hdk⟩ : ∃ dkc, P.2.2.2.2 = some dkc := by cases hx : P.2.2.2.2 with | none => exact absurd hx hd0 | some c => exact ⟨c, rfl⟩
    obtain ⟨lt, P', hlt, u2, u3, u4, u5⟩ := h9
    obtain ⟨i1, i2, ⟨f, i3, i3'⟩, i4⟩ := h10
    refine run_of (by decide) (Nat.le_of_ble_eq_true rfl) ?_
    refine zw_aload_n dF_readText_0 rfl ?_
    refine zw_get dF_readText_1 zf_F_12 (by first | exact h1 | exact t1) rfl ?_
    refine zx_V0I dF_readText_4 zm_T_findFault zk_F_235 (by first | exact h1 | exact t1) rfl (cf) zRR (Nat.le_of_ble_eq_true rfl) ⟨Nat.le_of_ble_eq_true rfl, Nat.le_of_ble_eq_true rfl⟩ ?_
    rintro h' ⟨P1, kf, rfl, hP1⟩
    obtain ⟨rfl, hkf⟩ := hP1 P rfl
    have K1 : ∀ j, j ≠ 1 → j ≠ 3 → ((h.set 3 (kdA kf)).set 1 (psC (oLen O) P1))[j]? = h[j]? := fun j q1 q2 => zg_ne (Ne.symm q1) (zg_ne (Ne.symm q2) rfl)
    have v1 : ((h.set 3 (kdA kf)).set 1 (psC (oLen O) P1))[1]? = some (psC (oLen O) P1) := zg_eq (c := txC (nI (oLen O)) tc tw tht tsg tdk) (zg_ne (by decide) t1)
    have v3 : ((h.set 3 (kdA kf)).set 1 (psC (oLen O) P1))[3]? = some (kdA kf) := zg_ne (by decide) (zg_eq t3)
    have v4 := (K1 4 (by decide) (by decide)).trans h4g
    generalize hgA : (h.set 3 (kdA kf)).set 1 (psC (oLen O) P1) = hA at K1 v1 v3 v4
    have lA : hA.length = h.length := by rw [← hgA]; simp
    have fA : frC h hA := by rw [← hgA]; exact (frC.set (by decide)).tr (frC.set (by decide))
    have K2 : ∀ j, j ≠ 4 → (hA.set 4 (gC (pFl P1)))[j]? = hA[j]? := fun j q => zg_ne (Ne.symm q) rfl
    have g4 : (hA.set 4 (gC (pFl P1)))[4]? = some (gC (pFl P1)) := zg_eq v4
    have g5 : (hA.set 4 (gC (pFl P1)))[5]? = some (sitC 5 (oS O)) := (K2 _ (by omega)).trans ((K1 _ (by omega) (by omega)).trans h5)
    have g6 : (hA.set 4 (gC (pFl P1)))[5 + 1]? = some (plC (oS O)) := (K2 _ (by omega)).trans ((K1 _ (by omega) (by omega)).trans h6)
    generalize hgB : hs2 5 (bgS (pFl P1) (oS O)) (hA.set 4 (gC (pFl P1))) = hB
    have K3 : ∀ j, j ≠ 5 → j ≠ 6 → j ≠ 4 → j ≠ 1 → j ≠ 3 → hB[j]? = h[j]? := fun j q1 q2 q3 q4 q5 => by rw [← hgB]; exact (hs2_ne (Ne.symm q1) (Ne.symm q2) rfl).trans ((K2 j q3).trans (K1 j q4 q5))
    have w5 : hB[5]? = some (sitC 5 (bgS (pFl P1) (oS O))) := by rw [← hgB]; exact hs2_k g5
    have w6 : hB[5 + 1]? = some (plC (bgS (pFl P1) (oS O))) := by rw [← hgB]; exact hs2_p g6
    have w4 : hB[4]? = some (gC (pFl P1)) := by rw [← hgB]; exact hs2_ne (by decide) (by decide) g4
    have w1 : hB[1]? = some (psC (oLen O) P1) := by rw [← hgB]; exact hs2_ne (by decide) (by decide) ((K2 _ (by omega)).trans v1)
    have w3 : hB[3]? = some (kdA kf) := by rw [← hgB]; exact hs2_ne (by decide) (by decide) ((K2 _ (by omega)).trans v3)
    have lB : hB.length = h.length := by rw [← hgB, hs2_len]; simp [lA]
    have fB : frC h hB := by rw [← hgB]; exact (fA.tr (frC.set (by decide))).tr (frC.hs2 (by decide))
    have w0 : hB[0]? = some xC := (K3 _ (by omega) (by omega) (by omega) (by omega) (by omega)).trans h1
    have w10 : hB[10]? = some (hisC lt (oSz O)) := (K3 _ (by omega) (by omega) (by omega) (by omega) (by omega)).trans u2
    have w24 : hB[24]? = some albC := (K3 _ (by omega) (by omega) (by omega) (by omega) (by omega)).trans i1
    have w26 : hB[26]? = some (kptC f) := (K3 _ (by omega) (by omega) (by omega) (by omega) (by omega)).trans i3
    generalize hgC : ((hB.set 10 (hisC lt 0)).set 26 (kptC (fun _ => 0))).set 1 (txC (nI 0) (nI (pCell P1)) (nI P1.2.1) (nI P1.1) (nI P1.2.2.1) (oI P1.2.2.2.2)) = hC
    have K4 : ∀ j, j ≠ 10 → j ≠ 26 → j ≠ 1 → hC[j]? = hB[j]? := fun j q1 q2 q3 => by rw [← hgC]; exact zg_ne (Ne.symm q3) (zg_ne (Ne.symm q2) (zg_ne (Ne.symm q1) rfl))
    have lC : hC.length = h.length := by rw [← hgC]; simp [lB]
    have fC : frC h hC := by rw [← hgC]; exact ((fB.tr (frC.set (by decide))).tr (frC.set (by decide))).tr (frC.set (by decide))
    have K5 : ∀ j, j ≠ 10 → j ≠ 26 → j ≠ 1 → j ≠ 5 → j ≠ 6 → j ≠ 4 → j ≠ 3 → hC[j]? = h[j]? := fun j q1 q2 q3 q4 q5 q6 q7 => (K4 j q1 q2 q3).trans (K3 j q4 q5 q6 q3 q7)
    have E : CX hC (oMk (pFl P1) (bgS (pFl P1) (oS O)) (oT O) 0 (oU O) 0 (oI' O) (fun _ => false)) := by
      refine ⟨(K5 _ (by omega) (by omega) (by omega) (by omega) (by omega) (by omega) (by omega)).trans h1, ⟨_, _, _, _, _, lf, kf, (by rw [← hgC]; exact zg_eq (c := psC (oLen O) P1) (zg_ne (by decide) (zg_ne (by decide) w1))), (K5 _ (by omega) (by omega) (by omega) (by omega) (by omega) (by omega) (by omega)).trans t2, (K4 _ (by omega) (by omega) (by omega)).trans w3, fun i hi => absurd hi (Nat.not_lt_zero _)⟩, (K4 _ (by omega) (by omega) (by omega)).trans w4, (K4 _ (by omega) (by omega) (by omega)).trans w5, (K4 _ (by omega) (by omega) (by omega)).trans w6, h7.keep (fun j _ _ => K5 j (by omega) (by omega) (by omega) (by omega) (by omega) (by omega) (by omega)), h8.keep (K5 _ (by omega) (by omega) (by omega) (by omega) (by omega) (by omega) (by omega)), ⟨lt, P', hlt, (by rw [← hgC]; exact zg_ne (by decide) (zg_ne (by decide) (zg_eq w10))), (K5 _ (by omega) (by omega) (by omega) (by omega) (by omega) (by omega) (by omega)).trans u3, fun i hi => ⟨(K5 _ (by omega) (by omega) (by omega) (by omega) (by omega) (by omega) (by omega)).trans (u4 i hi).1, (K5 _ (by omega) (by omega) (by omega) (by omega) (by omega) (by omega) (by omega)).trans (u4 i hi).2⟩, fun j hj => absurd hj (Nat.not_lt_zero _)⟩, (K5 _ (by omega) (by omega) (by omega) (by omega) (by omega) (by omega) (by omega)).trans i1, (K5 _ (by omega) (by omega) (by omega) (by omega) (by omega) (by omega) (by omega)).trans i2, ⟨fun _ => 0, (by rw [← hgC]; exact zg_ne (by decide) (zg_eq (c := kptC f) (zg_ne (by decide) w26))), fun i _ => rfl⟩, fun i hi => ?_⟩
      obtain ⟨Q, q1, q2, -⟩ := i4 i hi
      exact ⟨Q, (K5 _ (by omega) (by omega) (by omega) (by omega) (by omega) (by omega) (by omega)).trans q1, (K5 _ (by omega) (by omega) (by omega) (by omega) (by omega) (by omega) (by omega)).trans q2, fun q => by cases q⟩
    refine zw_istore_n dF_readText_7 (by decide) rfl ?_
    refine zw_iload_n dF_readText_8 rfl ?_
    refine zw_iconst (v := (-1)) dF_readText_9 (by decide) ?_
    refine zw_icmp_eq 15 dF_readText_10 (by decide) (fun c_10 => ?_) (fun c_10 => ?_)
    · refine zw_aload_n dF_readText_15 rfl ?_
      refine zw_get dF_readText_16 zf_F_19 (by exact (K1 0 (by decide) (by decide)).trans h1) rfl ?_
      refine zw_aload_n dF_readText_19 rfl ?_
      refine zw_get dF_readText_20 zf_F_12 (by exact (K1 0 (by decide) (by decide)).trans h1) rfl ?_
      refine zc_V1V dF_readText_23 zm_G_layOut zk_F_238 v4 rfl (c_G_layOut hP hs0 hr0 hdk v1 v3 hkf v4) ?_ zRR (Nat.le_of_ble_eq_true rfl) ⟨Nat.le_of_ble_eq_true rfl, Nat.le_of_ble_eq_true rfl⟩
      refine zw_aload_n dF_readText_26 rfl ?_
      refine zw_get dF_readText_27 zf_F_28 (by exact (K2 0 (by decide)).trans ((K1 0 (by decide) (by decide)).trans h1)) rfl ?_
      refine zc_V0V dF_readText_30 zm_S_begin zk_F_242 g5 rfl (c_S_begin (F := pFl P1) (by decide) hF g4 g5 g6) ?_ zRR (Nat.le_of_ble_eq_true rfl) ⟨Nat.le_of_ble_eq_true rfl, Nat.le_of_ble_eq_true rfl⟩
      rw [hgB]
      refine zw_aload_n dF_readText_33 rfl ?_
      refine zw_get dF_readText_34 zf_F_45 w0 rfl ?_
      refine zw_iconst (v := 0) dF_readText_37 (by decide) ?_
      refine zw_puti dF_readText_38 zf_F_147 w10 (Nat.le_of_ble_eq_true rfl) ?_
      refine zw_h (h2 := hB.set 10 (hisC lt 0)) rfl ?_
      refine zw_aload_n dF_readText_41 rfl ?_
      refine zw_get dF_readText_42 zf_F_52 (by exact zg_ne (by decide) w0) rfl ?_
      refine zc_V0V dF_readText_45 zm_A_empty zk_F_245 (by exact zg_ne (by decide) w24) rfl (c_A_empty (zg_ne (by decide) w24) (zg_ne (by decide) w26)) ?_ zRR (Nat.le_of_ble_eq_true rfl) ⟨Nat.le_of_ble_eq_true rfl, Nat.le_of_ble_eq_true rfl⟩
      refine zw_aload_n dF_readText_48 rfl ?_
      refine zw_get dF_readText_49 zf_F_12 (by exact zg_ne (by decide) (zg_ne (by decide) w0)) rfl ?_
      refine zw_iconst (v := 0) dF_readText_52 (by decide) ?_
      refine zw_puti dF_readText_53 zf_F_64 (by exact zg_ne (by decide) (zg_ne (by decide) w1)) (Nat.le_of_ble_eq_true rfl) ?_
      refine zw_h (h2 := hC) (by rw [← hgC]; rfl) ?_
      refine zw_iconst (v := (-1)) dF_readText_56 (by decide) ?_
      exact zw_iret dF_readText_57 rfl rfl (by rw [lC]; rfl) ⟨rfl, E, fC, lC⟩
    · exact absurd rfl c_10
def rFloor (O : Om) : Int32 := match prs (oT O) (oLen O) 0 pIni with | .inl f => -10 - nI f | .inr P => nI (fN (pFl P))
theorem c_F_floor {O : Om} (a : CX h O) (ok : oOK' O) : Run l g mF_floor (d + 4) 0 0 [.ref 0] h (PIh (rFloor O) (CQ h (nFloor O))) := by
  obtain ⟨h1, h2, h3, h4, h5, h6, h7, h8, h9⟩ := id a
  have cr := c_F_readText (l := l) (g := g) (d := d) h1 ok.2.2.2.2.2 h2 h3 (fun _ _ => h3) h4 h5 h6 h7 h8 h9
  unfold rRead at cr
  unfold rFloor
  have hn : ∀ P, prs (oT O) (oLen O) 0 pIni = .inr P → oF (nFloor O) = pFl P := fun P e => by unfold nFloor; rw [e]; rfl
  cases hq : prs (oT O) (oLen O) 0 pIni with
  | inl f =>
    rw [hq] at cr
    have hfl := prs_le hq
    have hlen := ok.2.2.2.2.2
    refine run_of (by decide) (Nat.le_of_ble_eq_true rfl) ?_
    refine zw_aload_n dF_floor_0 rfl ?_
    refine zx_V0I dF_floor_1 zm_F_readText zk_F_60 h1 rfl (cr) zRR (Nat.le_of_ble_eq_true rfl) ⟨Nat.le_of_ble_eq_true rfl, Nat.le_of_ble_eq_true rfl⟩ ?_
    rintro h' ⟨ca, hf, hl⟩
    refine zw_istore_n dF_floor_4 (by decide) rfl ?_
    refine zw_iload_n dF_floor_5 rfl ?_
    refine zw_iconst (v := (-1)) dF_floor_6 (by decide) ?_
    refine zw_icmp_ne 20 dF_floor_7 (by decide) (fun c_7 => ?_) (fun c_7 => ?_)
    · refine zw_bipush (v := (-10)) dF_floor_20 (by decide) ?_
      refine zw_iload_n dF_floor_22 rfl ?_
      refine zw_isub dF_floor_23 ?_
      exact zw_iret dF_floor_24 rfl rfl (by rw [hl]; rfl) ⟨rfl, ca, hf, hl⟩
    · have q : (nI f).toInt = (-1 : Int32).toInt := by rw [show nI f = -1 from c_7]
      rw [nI_toInt (by omega), show (-1 : Int32).toInt = -1 from by decide] at q
      omega
  | inr P =>
    rw [hq] at cr
    have eF := hn P hq
    obtain ⟨hP, hs0, hr0, hd0⟩ := prs_ok pIni_ok hq
    have hF := pFl_ok hP hs0 hr0 hd0
    refine run_of (by decide) (Nat.le_of_ble_eq_true rfl) ?_
    refine zw_aload_n dF_floor_0 rfl ?_
    refine zx_V0I dF_floor_1 zm_F_readText zk_F_60 h1 rfl (cr) zRR (Nat.le_of_ble_eq_true rfl) ⟨Nat.le_of_ble_eq_true rfl, Nat.le_of_ble_eq_true rfl⟩ ?_
    rintro h' ⟨ca, hf, hl⟩
    have g3 : h'[4]? = some (gC (pFl P)) := by rw [← eF]; exact ca.2.2.1
    refine zw_istore_n dF_floor_4 (by decide) rfl ?_
    refine zw_iload_n dF_floor_5 rfl ?_
    refine zw_iconst (v := (-1)) dF_floor_6 (by decide) ?_
    refine zw_icmp_ne 20 dF_floor_7 (by decide) (fun c_7 => ?_) (fun c_7 => ?_)
    · exact absurd rfl c_7
    · refine zw_aload_n dF_floor_10 rfl ?_
      refine zw_get dF_floor_11 zf_F_19 (by first | exact ca.1 | exact g3) rfl ?_
      refine zc_V0I dF_floor_14 zm_G_size zk_F_68 (by first | exact ca.1 | exact g3) rfl (c_G_size hF g3) ?_ zRR (Nat.le_of_ble_eq_true rfl) ⟨Nat.le_of_ble_eq_true rfl, Nat.le_of_ble_eq_true rfl⟩
      refine zw_goto 24 dF_floor_17 (by decide) ?_
      exact zw_iret dF_floor_24 rfl rfl (by rw [hl]; rfl) ⟨rfl, ca, hf, hl⟩
end C41
