/-! ===== the reference: what is asked, what is simply done ===== -/
section C57
variable {l : Launch} {g : zG} {d : Nat} {h : zH} {O : Om}
theorem c_M_cell (a : MX h O) (ok : oOK' O) {x : Int32} : Run l g mM_cell (d + 2) 0 0 [.ref 31, .int x] h (PIh (rCell O x) (MP h O)) := by
  refine run_rm a ?_
  obtain ⟨⟨qa, qb, z, hM, hS⟩, -⟩ := id a
  have hF := ok.1
  have ch := c_M_isCell (l := l) (g := g) (d := d) hF hM (x := x)
  unfold rCell
  refine run_of (by decide) (Nat.le_of_ble_eq_true rfl) ?_
  cases hc : cel (oF O) x with
  | none =>
    rw [hc] at ch
    refine zw_aload_n dM_cell_0 rfl ?_
    refine zw_iload_n dM_cell_1 rfl ?_
    refine zc_V1I dM_cell_2 zm_M_isCell zk_M_94 hM rfl ch ?_ zRR (Nat.le_of_ble_eq_true rfl) ⟨Nat.le_of_ble_eq_true rfl, Nat.le_of_ble_eq_true rfl⟩
    refine zw_if_eq 17 dM_cell_5 (by decide) (fun c_5 => ?_) (fun c_5 => ?_)
    · refine zw_iconst (v := (-1)) dM_cell_17 (by decide) ?_
      exact zw_iret dM_cell_18 rfl rfl rfl ⟨rfl, rfl⟩
    · exact absurd rfl c_5
  | some c =>
    obtain ⟨hcn, rfl⟩ := (cel_some hF).mp hc
    rw [hc] at ch
    have ek := ms_k (S := oS O) (z := z) hF hcn
    have hcl := clk hF hcn
    refine zw_aload_n dM_cell_0 rfl ?_
    refine zw_iload_n dM_cell_1 rfl ?_
    refine zc_V1I dM_cell_2 zm_M_isCell zk_M_94 (by first | exact hM | exact hS) rfl ch ?_ zRR (Nat.le_of_ble_eq_true rfl) ⟨Nat.le_of_ble_eq_true rfl, Nat.le_of_ble_eq_true rfl⟩
    refine zw_if_eq 17 dM_cell_5 (by decide) (fun c_5 => ?_) (fun c_5 => ?_)
    · exact absurd c_5 (show ¬ (1 : Int32) = 0 by decide)
    · refine zw_aload_n dM_cell_8 rfl ?_
      refine zw_get dM_cell_9 zf_M_16 (by first | exact hM | exact hS) rfl ?_
      refine zw_iload_n dM_cell_12 rfl ?_
      refine zw_iald dM_cell_13 (by first | exact hM | exact hS) (vk hF hcn) ?_
      rw [hcl, ek]
      refine zw_goto 18 dM_cell_14 (by decide) ?_
      exact zw_iret dM_cell_18 rfl rfl rfl ⟨rfl, rfl⟩
theorem c_M_knows (a : MX h O) (ok : oOK' O) {x : Int32} : Run l g mM_knows (d + 2) 0 0 [.ref 31, .int x] h (PIh (rKnows O x) (MP h O)) := by
  refine run_rm a ?_
  obtain ⟨⟨qa, qb, z, hM, hS⟩, -⟩ := id a
  have hF := ok.1
  have ch := c_M_isCell (l := l) (g := g) (d := d) hF hM (x := x)
  unfold rKnows
  refine run_of (by decide) (Nat.le_of_ble_eq_true rfl) ?_
  cases hc : cel (oF O) x with
  | none =>
    rw [hc] at ch
    refine zw_aload_n dM_knows_0 rfl ?_
    refine zw_iload_n dM_knows_1 rfl ?_
    refine zc_V1I dM_knows_2 zm_M_isCell zk_M_94 hM rfl ch ?_ zRR (Nat.le_of_ble_eq_true rfl) ⟨Nat.le_of_ble_eq_true rfl, Nat.le_of_ble_eq_true rfl⟩
    refine zw_if_eq 20 dM_knows_5 (by decide) (fun c_5 => ?_) (fun c_5 => ?_)
    · refine zw_iconst (v := (-1)) dM_knows_20 (by decide) ?_
      exact zw_iret dM_knows_21 rfl rfl rfl ⟨rfl, rfl⟩
    · exact absurd rfl c_5
  | some c =>
    obtain ⟨hcn, rfl⟩ := (cel_some hF).mp hc
    rw [hc] at ch
    have ek := ms_n (S := oS O) (z := z) hF hcn
    obtain ⟨v1, v2, v3⟩ := vK hF hcn
    refine zw_aload_n dM_knows_0 rfl ?_
    refine zw_iload_n dM_knows_1 rfl ?_
    refine zc_V1I dM_knows_2 zm_M_isCell zk_M_94 (by first | exact hM | exact hS) rfl ch ?_ zRR (Nat.le_of_ble_eq_true rfl) ⟨Nat.le_of_ble_eq_true rfl, Nat.le_of_ble_eq_true rfl⟩
    refine zw_if_eq 20 dM_knows_5 (by decide) (fun c_5 => ?_) (fun c_5 => ?_)
    · exact absurd c_5 (show ¬ (1 : Int32) = 0 by decide)
    · refine zw_aload_n dM_knows_8 rfl ?_
      refine zw_get dM_knows_9 zf_M_16 (by first | exact hM | exact hS) rfl ?_
      refine zw_bipush (v := 36) dM_knows_12 (by decide) ?_
      refine zw_iload_n dM_knows_14 rfl ?_
      refine zw_iadd dM_knows_15 ?_
      rw [v1]
      refine zw_iald dM_knows_16 (by first | exact hM | exact hS) v2 ?_
      rw [v3, ek]
      refine zw_goto 21 dM_knows_17 (by decide) ?_
      exact zw_iret dM_knows_21 rfl rfl rfl ⟨rfl, rfl⟩
theorem c_M_manyKnown {F : Fl} {S : Sit} {z : Nat → Int32} {un le : Nat} {qa qb : I4} (hF : fOK F) (ok : sOK F S) (hM : h[31]? = some (mC F un le qa qb)) (hS : h[32]? = some (sC F S z)) {w : Nat} (hw : w < 3) (hw0 : 0 < w) : Run l g mM_manyKnown (d + 1) 0 0 [.ref 31, .int (nI w)] h (PI (nI (cnt (fun i => sKn S i == w) 36)) h) := by
  have h36 := fN_le hF
  have e36 : cnt (fun i => sKn S i == w) 36 = cnt (fun i => sKn S i == w) (fN F) := cnt_more h36 (fun i h1 h2 => by
    have h0 : sKn S i = 0 := Classical.byContradiction fun q => absurd (ok.knn i q) (by omega)
    rw [h0]; simp; omega)
  rw [e36]
  refine run_of (by decide) (Nat.le_of_ble_eq_true rfl) ?_
  have L : ∀ (m i : Nat), i + m = fN F → WW l g mM_manyKnown (zrm (d + 1) 0 0) (fun _ => True) (zQQ g (PI (nI (cnt (fun i => sKn S i == w) (fN F))) h) (h.length + 0) 0 0) 4 [(0, some (.ref 31)), (1, some (.int (nI w))), (2, some (.int (nI (cnt (fun i => sKn S i == w) i)))), (3, some (.int (nI i)))] [] h 0 0 := by
    intro m
    induction m with
    | zero =>
      intro i hi
      have hi : i = fN F := by omega
      subst hi
      refine zw_iload_n dM_manyKnown_4 rfl ?_
      refine zw_aload_n dM_manyKnown_5 rfl ?_
      refine zc_V0I dM_manyKnown_6 zm_M_cells zk_M_57 hM rfl (c_M_cells hM) ?_ zRR (Nat.le_of_ble_eq_true rfl) ⟨Nat.le_of_ble_eq_true rfl, Nat.le_of_ble_eq_true rfl⟩
      refine zw_icmp_ge 39 dM_manyKnown_9 (by decide) (fun c_9 => ?_) (fun c_9 => ?_)
      · refine zw_iload_n dM_manyKnown_39 rfl ?_
        exact zw_iret dM_manyKnown_40 rfl rfl rfl ⟨rfl, rfl⟩
      · exact absurd (Int32.le_refl _) c_9
    | succ m ih =>
      intro i hi
      have hin : i < fN F := by omega
      have ek := ms_n (S := S) (z := z) hF hin
      obtain ⟨v1, v2, v3⟩ := vK hF hin
      have hk2 := ok.kn i
      have en : nI (sKn S i) = nI w ↔ sKn S i = w := nI_eq (by omega) (by omega)
      have ec : nI (cnt (fun i => sKn S i == w) i) + (if sKn S i = w then 1 else 0) = nI (cnt (fun i => sKn S i == w) (i + 1)) := by
        show _ = nI (cnt (fun i => sKn S i == w) i + (if (sKn S i == w) = true then 1 else 0))
        rw [← nI_add]
        by_cases q : sKn S i = w
        · simp [q]; rfl
        · simp [q]; rfl
      refine zw_iload_n dM_manyKnown_4 rfl ?_
      refine zw_aload_n dM_manyKnown_5 rfl ?_
      refine zc_V0I dM_manyKnown_6 zm_M_cells zk_M_57 (by first | exact hM | exact hS) rfl (c_M_cells hM) ?_ zRR (Nat.le_of_ble_eq_true rfl) ⟨Nat.le_of_ble_eq_true rfl, Nat.le_of_ble_eq_true rfl⟩
      refine zw_icmp_ge 39 dM_manyKnown_9 (by decide) (fun c_9 => ?_) (fun c_9 => ?_)
      · exact absurd ((nI_leI (by omega) (by omega)).mp c_9) (by omega)
      · refine zw_iload_n dM_manyKnown_12 rfl ?_
        refine zw_aload_n dM_manyKnown_13 rfl ?_
        refine zw_get dM_manyKnown_14 zf_M_16 (by first | exact hM | exact hS) rfl ?_
        refine zw_bipush (v := 36) dM_manyKnown_17 (by decide) ?_
        refine zw_iload_n dM_manyKnown_19 rfl ?_
        refine zw_iadd dM_manyKnown_20 ?_
        rw [v1]
        refine zw_iald dM_manyKnown_21 (by first | exact hM | exact hS) v2 ?_
        rw [v3, ek]
        refine zw_iload_n dM_manyKnown_22 rfl ?_
        refine zw_icmp_ne 30 dM_manyKnown_23 (by decide) (fun c_23 => ?_) (fun c_23 => ?_)
        · refine zw_iconst (v := 0) dM_manyKnown_30 (by decide) ?_
          first
            | rw [if_pos (en.mp c_23)] at ec
            | rw [if_neg (fun q => c_23 (en.mpr q))] at ec
          refine zw_iadd dM_manyKnown_31 ?_
          rw [ec]
          refine zw_istore_n dM_manyKnown_32 (by decide) rfl ?_
          refine zw_incN dM_manyKnown_33 rfl (by decide) rfl ?_
          refine zw_goto 4 dM_manyKnown_36 (by decide) ?_
          exact zw_lk (ih (i + 1) (by omega)) ⟨rfl, rfl, rfl, rfl, trivial⟩
        · refine zw_iconst (v := 1) dM_manyKnown_26 (by decide) ?_
          refine zw_goto 31 dM_manyKnown_27 (by decide) ?_
          first
            | rw [if_pos (en.mp c_23)] at ec
            | rw [if_neg (fun q => c_23 (en.mpr q))] at ec
          refine zw_iadd dM_manyKnown_31 ?_
          rw [ec]
          refine zw_istore_n dM_manyKnown_32 (by decide) rfl ?_
          refine zw_incN dM_manyKnown_33 rfl (by decide) rfl ?_
          refine zw_goto 4 dM_manyKnown_36 (by decide) ?_
          exact zw_lk (ih (i + 1) (by omega)) ⟨rfl, rfl, rfl, rfl, trivial⟩
  refine zw_iconst (v := 0) dM_manyKnown_0 (by decide) ?_
  refine zw_istore_n dM_manyKnown_1 (by decide) rfl ?_
  refine zw_iconst (v := 0) dM_manyKnown_2 (by decide) ?_
  refine zw_istore_n dM_manyKnown_3 (by decide) rfl ?_
  exact zw_lk (L (fN F) 0 (by omega)) ⟨rfl, rfl, rfl, rfl, trivial⟩
theorem c_M_robot (a : MX h O) (ok : oOK' O) {x : Int32} : Run l g mM_robot (d + 2) 0 0 [.ref 31, .int x] h (PIh (rRobot O x) (MP h O)) := by
  refine run_rm a ?_
  obtain ⟨⟨qa, qb, z, hM, hS⟩, -⟩ := id a
  have hF := ok.1
  have ci := c_M_inB (l := l) (g := g) (d := d + 1) (h := h) (x := x) (a := 0) (b := 5) (by decide) (by decide)
  unfold rRobot
  refine run_of (by decide) (Nat.le_of_ble_eq_true rfl) ?_
  cases hb : btw x 0 5 with
  | none =>
    rw [hb] at ci
    refine zw_iload_n dM_robot_0 rfl ?_
    refine zw_iconst (v := 0) dM_robot_1 (by decide) ?_
    refine zw_iconst (v := 5) dM_robot_2 (by decide) ?_
    refine zc_S3I dM_robot_3 zm_M_in zk_M_67 ci ?_ zRR (Nat.le_of_ble_eq_true rfl) ⟨Nat.le_of_ble_eq_true rfl, Nat.le_of_ble_eq_true rfl⟩
    refine zw_if_ne 11 dM_robot_6 (by decide) (fun c_6 => ?_) (fun c_6 => ?_)
    · exact absurd rfl c_6
    · refine zw_iconst (v := (-1)) dM_robot_9 (by decide) ?_
      exact zw_iret dM_robot_10 rfl rfl rfl ⟨rfl, rfl⟩
  | some w =>
    obtain ⟨-, h5, rfl⟩ := (btw_some (by decide)).mp hb
    rw [hb] at ci
    rcases (show w = 0 ∨ w = 1 ∨ w = 2 ∨ w = 3 ∨ w = 4 ∨ w = 5 by omega) with rfl | rfl | rfl | rfl | rfl | rfl
    · refine zw_iload_n dM_robot_0 rfl ?_
      refine zw_iconst (v := 0) dM_robot_1 (by decide) ?_
      refine zw_iconst (v := 5) dM_robot_2 (by decide) ?_
      refine zc_S3I dM_robot_3 zm_M_in zk_M_67 ci ?_ zRR (Nat.le_of_ble_eq_true rfl) ⟨Nat.le_of_ble_eq_true rfl, Nat.le_of_ble_eq_true rfl⟩
      refine zw_if_ne 11 dM_robot_6 (by decide) (fun c_6 => ?_) (fun c_6 => ?_)
      · refine zw_iload_n dM_robot_11 rfl ?_
        refine zw_iconst (v := 4) dM_robot_12 (by decide) ?_
        refine zw_icmp_ge 28 dM_robot_13 (by decide) (fun c_13 => ?_) (fun c_13 => ?_)
        · exact absurd c_13 (show ¬ (4 : Int32) ≤ nI 0 by decide)
        · refine zw_aload_n dM_robot_16 rfl ?_
          refine zw_get dM_robot_17 zf_M_16 (by first | exact hM | exact hS) rfl ?_
          refine zw_bipush (v := 108) dM_robot_20 (by decide) ?_
          refine zw_iload_n dM_robot_22 rfl ?_
          refine zw_iadd dM_robot_23 ?_
          refine zw_iald dM_robot_24 (by first | exact hM | exact hS) (vp_in_nI (show 108 + 0 < 114 by decide) (by decide)) ?_
          rw [show (108 + nI 0).toNatClampNeg = 108 from by decide, ms_108]
          refine zw_goto 35 dM_robot_25 (by decide) ?_
          exact zw_iret dM_robot_35 rfl rfl rfl ⟨rfl, rfl⟩
      · exact absurd c_6 (show ¬ (1 : Int32) = 0 by decide)
    · refine zw_iload_n dM_robot_0 rfl ?_
      refine zw_iconst (v := 0) dM_robot_1 (by decide) ?_
      refine zw_iconst (v := 5) dM_robot_2 (by decide) ?_
      refine zc_S3I dM_robot_3 zm_M_in zk_M_67 ci ?_ zRR (Nat.le_of_ble_eq_true rfl) ⟨Nat.le_of_ble_eq_true rfl, Nat.le_of_ble_eq_true rfl⟩
      refine zw_if_ne 11 dM_robot_6 (by decide) (fun c_6 => ?_) (fun c_6 => ?_)
      · refine zw_iload_n dM_robot_11 rfl ?_
        refine zw_iconst (v := 4) dM_robot_12 (by decide) ?_
        refine zw_icmp_ge 28 dM_robot_13 (by decide) (fun c_13 => ?_) (fun c_13 => ?_)
        · exact absurd c_13 (show ¬ (4 : Int32) ≤ nI 1 by decide)
        · refine zw_aload_n dM_robot_16 rfl ?_
          refine zw_get dM_robot_17 zf_M_16 (by first | exact hM | exact hS) rfl ?_
          refine zw_bipush (v := 108) dM_robot_20 (by decide) ?_
          refine zw_iload_n dM_robot_22 rfl ?_
          refine zw_iadd dM_robot_23 ?_
          refine zw_iald dM_robot_24 (by first | exact hM | exact hS) (vp_in_nI (show 108 + 1 < 114 by decide) (by decide)) ?_
          rw [show (108 + nI 1).toNatClampNeg = 109 from by decide, ms_109]
          refine zw_goto 35 dM_robot_25 (by decide) ?_
          exact zw_iret dM_robot_35 rfl rfl rfl ⟨rfl, rfl⟩
      · exact absurd c_6 (show ¬ (1 : Int32) = 0 by decide)
    · refine zw_iload_n dM_robot_0 rfl ?_
      refine zw_iconst (v := 0) dM_robot_1 (by decide) ?_
      refine zw_iconst (v := 5) dM_robot_2 (by decide) ?_
      refine zc_S3I dM_robot_3 zm_M_in zk_M_67 ci ?_ zRR (Nat.le_of_ble_eq_true rfl) ⟨Nat.le_of_ble_eq_true rfl, Nat.le_of_ble_eq_true rfl⟩
      refine zw_if_ne 11 dM_robot_6 (by decide) (fun c_6 => ?_) (fun c_6 => ?_)
      · refine zw_iload_n dM_robot_11 rfl ?_
        refine zw_iconst (v := 4) dM_robot_12 (by decide) ?_
        refine zw_icmp_ge 28 dM_robot_13 (by decide) (fun c_13 => ?_) (fun c_13 => ?_)
        · exact absurd c_13 (show ¬ (4 : Int32) ≤ nI 2 by decide)
        · refine zw_aload_n dM_robot_16 rfl ?_
          refine zw_get dM_robot_17 zf_M_16 (by first | exact hM | exact hS) rfl ?_
          refine zw_bipush (v := 108) dM_robot_20 (by decide) ?_
          refine zw_iload_n dM_robot_22 rfl ?_
          refine zw_iadd dM_robot_23 ?_
          refine zw_iald dM_robot_24 (by first | exact hM | exact hS) (vp_in_nI (show 108 + 2 < 114 by decide) (by decide)) ?_
          rw [show (108 + nI 2).toNatClampNeg = 110 from by decide, ms_110]
          refine zw_goto 35 dM_robot_25 (by decide) ?_
          exact zw_iret dM_robot_35 rfl rfl rfl ⟨rfl, rfl⟩
      · exact absurd c_6 (show ¬ (1 : Int32) = 0 by decide)
    · refine zw_iload_n dM_robot_0 rfl ?_
      refine zw_iconst (v := 0) dM_robot_1 (by decide) ?_
      refine zw_iconst (v := 5) dM_robot_2 (by decide) ?_
      refine zc_S3I dM_robot_3 zm_M_in zk_M_67 ci ?_ zRR (Nat.le_of_ble_eq_true rfl) ⟨Nat.le_of_ble_eq_true rfl, Nat.le_of_ble_eq_true rfl⟩
      refine zw_if_ne 11 dM_robot_6 (by decide) (fun c_6 => ?_) (fun c_6 => ?_)
      · refine zw_iload_n dM_robot_11 rfl ?_
        refine zw_iconst (v := 4) dM_robot_12 (by decide) ?_
        refine zw_icmp_ge 28 dM_robot_13 (by decide) (fun c_13 => ?_) (fun c_13 => ?_)
        · exact absurd c_13 (show ¬ (4 : Int32) ≤ nI 3 by decide)
        · refine zw_aload_n dM_robot_16 rfl ?_
          refine zw_get dM_robot_17 zf_M_16 (by first | exact hM | exact hS) rfl ?_
          refine zw_bipush (v := 108) dM_robot_20 (by decide) ?_
          refine zw_iload_n dM_robot_22 rfl ?_
          refine zw_iadd dM_robot_23 ?_
          refine zw_iald dM_robot_24 (by first | exact hM | exact hS) (vp_in_nI (show 108 + 3 < 114 by decide) (by decide)) ?_
          rw [show (108 + nI 3).toNatClampNeg = 111 from by decide, ms_111]
          refine zw_goto 35 dM_robot_25 (by decide) ?_
          exact zw_iret dM_robot_35 rfl rfl rfl ⟨rfl, rfl⟩
      · exact absurd c_6 (show ¬ (1 : Int32) = 0 by decide)
    · refine zw_iload_n dM_robot_0 rfl ?_
      refine zw_iconst (v := 0) dM_robot_1 (by decide) ?_
      refine zw_iconst (v := 5) dM_robot_2 (by decide) ?_
      refine zc_S3I dM_robot_3 zm_M_in zk_M_67 ci ?_ zRR (Nat.le_of_ble_eq_true rfl) ⟨Nat.le_of_ble_eq_true rfl, Nat.le_of_ble_eq_true rfl⟩
      refine zw_if_ne 11 dM_robot_6 (by decide) (fun c_6 => ?_) (fun c_6 => ?_)
      · refine zw_iload_n dM_robot_11 rfl ?_
        refine zw_iconst (v := 4) dM_robot_12 (by decide) ?_
        refine zw_icmp_ge 28 dM_robot_13 (by decide) (fun c_13 => ?_) (fun c_13 => ?_)
        · refine zw_aload_n dM_robot_28 rfl ?_
          refine zw_iload_n dM_robot_29 rfl ?_
          refine zw_iconst (v := 3) dM_robot_30 (by decide) ?_
          refine zw_isub dM_robot_31 ?_
          rw [show nI 4 - 3 = nI 1 from by decide]
          refine zc_V1I dM_robot_32 zm_M_manyKnown zk_M_172 (by first | exact hM | exact hS) rfl (c_M_manyKnown hF ok.2.1 hM hS (by decide) (by decide)) ?_ zRR (Nat.le_of_ble_eq_true rfl) ⟨Nat.le_of_ble_eq_true rfl, Nat.le_of_ble_eq_true rfl⟩
          exact zw_iret dM_robot_35 rfl rfl rfl ⟨rfl, rfl⟩
        · exact absurd (show (4 : Int32) ≤ nI 4 by decide) c_13
      · exact absurd c_6 (show ¬ (1 : Int32) = 0 by decide)
    · refine zw_iload_n dM_robot_0 rfl ?_
      refine zw_iconst (v := 0) dM_robot_1 (by decide) ?_
      refine zw_iconst (v := 5) dM_robot_2 (by decide) ?_
      refine zc_S3I dM_robot_3 zm_M_in zk_M_67 ci ?_ zRR (Nat.le_of_ble_eq_true rfl) ⟨Nat.le_of_ble_eq_true rfl, Nat.le_of_ble_eq_true rfl⟩
      refine zw_if_ne 11 dM_robot_6 (by decide) (fun c_6 => ?_) (fun c_6 => ?_)
      · refine zw_iload_n dM_robot_11 rfl ?_
        refine zw_iconst (v := 4) dM_robot_12 (by decide) ?_
        refine zw_icmp_ge 28 dM_robot_13 (by decide) (fun c_13 => ?_) (fun c_13 => ?_)
        · refine zw_aload_n dM_robot_28 rfl ?_
          refine zw_iload_n dM_robot_29 rfl ?_
          refine zw_iconst (v := 3) dM_robot_30 (by decide) ?_
          refine zw_isub dM_robot_31 ?_
          rw [show nI 5 - 3 = nI 2 from by decide]
          refine zc_V1I dM_robot_32 zm_M_manyKnown zk_M_172 (by first | exact hM | exact hS) rfl (c_M_manyKnown hF ok.2.1 hM hS (by decide) (by decide)) ?_ zRR (Nat.le_of_ble_eq_true rfl) ⟨Nat.le_of_ble_eq_true rfl, Nat.le_of_ble_eq_true rfl⟩
          exact zw_iret dM_robot_35 rfl rfl rfl ⟨rfl, rfl⟩
        · exact absurd (show (4 : Int32) ≤ nI 5 by decide) c_13
      · exact absurd c_6 (show ¬ (1 : Int32) = 0 by decide)
theorem c_M_count (a : MX h O) (ok : oOK' O) {x : Int32} : Run l g mM_count d 0 0 [.ref 31, .int x] h (PIh (rCount O x) (MP h O)) := by
  refine run_rm a ?_
  obtain ⟨⟨qa, qb, z, hM, hS⟩, -⟩ := id a
  unfold rCount
  refine run_of (by decide) (Nat.le_of_ble_eq_true rfl) ?_
  cases hb : btw x 0 6 with
  | none =>
    have h1 := sw_out (by decide) hb
    refine zw_iload_n dM_count_0 rfl ?_
    refine zw_tabOut 85 dM_count_1 h1 (by decide) ?_
    refine zw_iconst (v := (-1)) dM_count_85 (by decide) ?_
    exact zw_iret dM_count_86 rfl rfl rfl ⟨rfl, rfl⟩
  | some w =>
    obtain ⟨-, h5, rfl⟩ := (btw_some (by decide)).mp hb
    rcases (show w = 0 ∨ w = 1 ∨ w = 2 ∨ w = 3 ∨ w = 4 ∨ w = 5 ∨ w = 6 by omega) with rfl | rfl | rfl | rfl | rfl | rfl | rfl
    · refine zw_iload_n dM_count_0 rfl ?_
      refine zw_tabIn 44 dM_count_1 (show ¬ (nI 0).toInt < 0 by decide) (show ¬ 6 < (nI 0).toInt by decide) (off := 43) (by decide) (by decide) ?_
      refine zw_aload_n dM_count_44 rfl ?_
      refine zw_get dM_count_45 zf_M_7 (by first | exact hM | exact hS) rfl ?_
      exact zw_iret dM_count_48 rfl rfl rfl ⟨rfl, rfl⟩
    · refine zw_iload_n dM_count_0 rfl ?_
      refine zw_tabIn 49 dM_count_1 (show ¬ (nI 1).toInt < 0 by decide) (show ¬ 6 < (nI 1).toInt by decide) (off := 48) (by decide) (by decide) ?_
      refine zw_aload_n dM_count_49 rfl ?_
      refine zw_get dM_count_50 zf_M_13 (by first | exact hM | exact hS) rfl ?_
      exact zw_iret dM_count_53 rfl rfl rfl ⟨rfl, rfl⟩
    · refine zw_iload_n dM_count_0 rfl ?_
      refine zw_tabIn 54 dM_count_1 (show ¬ (nI 2).toInt < 0 by decide) (show ¬ 6 < (nI 2).toInt by decide) (off := 53) (by decide) (by decide) ?_
      refine zw_aload_n dM_count_54 rfl ?_
      refine zw_get dM_count_55 zf_M_61 (by first | exact hM | exact hS) rfl ?_
      exact zw_iret dM_count_58 rfl rfl rfl ⟨rfl, rfl⟩
    · refine zw_iload_n dM_count_0 rfl ?_
      refine zw_tabIn 59 dM_count_1 (show ¬ (nI 3).toInt < 0 by decide) (show ¬ 6 < (nI 3).toInt by decide) (off := 58) (by decide) (by decide) ?_
      refine zw_aload_n dM_count_59 rfl ?_
      refine zw_get dM_count_60 zf_M_16 (by first | exact hM | exact hS) rfl ?_
      refine zw_bipush (v := 112) dM_count_63 (by decide) ?_
      refine zw_iald dM_count_65 (by first | exact hM | exact hS) v112 ?_
      rw [e112, ms_112]
      exact zw_iret dM_count_66 rfl rfl rfl ⟨rfl, rfl⟩
    · refine zw_iload_n dM_count_0 rfl ?_
      refine zw_tabIn 67 dM_count_1 (show ¬ (nI 4).toInt < 0 by decide) (show ¬ 6 < (nI 4).toInt by decide) (off := 66) (by decide) (by decide) ?_
      refine zw_aload_n dM_count_67 rfl ?_
      refine zw_get dM_count_68 zf_M_16 (by first | exact hM | exact hS) rfl ?_
      refine zw_bipush (v := 113) dM_count_71 (by decide) ?_
      refine zw_iald dM_count_73 (by first | exact hM | exact hS) v113 ?_
      rw [e113, ms_113]
      exact zw_iret dM_count_74 rfl rfl rfl ⟨rfl, rfl⟩
    · refine zw_iload_n dM_count_0 rfl ?_
      refine zw_tabIn 75 dM_count_1 (show ¬ (nI 5).toInt < 0 by decide) (show ¬ 6 < (nI 5).toInt by decide) (off := 74) (by decide) (by decide) ?_
      refine zw_aload_n dM_count_75 rfl ?_
      refine zw_get dM_count_76 zf_M_71 (by first | exact hM | exact hS) rfl ?_
      exact zw_iret dM_count_79 rfl rfl rfl ⟨rfl, rfl⟩
    · refine zw_iload_n dM_count_0 rfl ?_
      refine zw_tabIn 80 dM_count_1 (show ¬ (nI 6).toInt < 0 by decide) (show ¬ 6 < (nI 6).toInt by decide) (off := 79) (by decide) (by decide) ?_
      refine zw_aload_n dM_count_80 rfl ?_
      refine zw_get dM_count_81 zf_M_64 (by first | exact hM | exact hS) rfl ?_
      exact zw_iret dM_count_84 rfl rfl rfl ⟨rfl, rfl⟩
theorem MX.txt {h h' : zH} {O : Om} (a : MX h O) {T : Nat → Int32} {n : Nat} {te : Nat → Int32} {qa qb : I4} {z : Nat → Int32} (h1 : h'[31]? = some (mC (oF O) (oSz O) n qa qb)) (h2 : h'[32]? = some (sC (oF O) (oS O) z)) (h3 : h'[37]? = some (iA 60 te)) (ht : ∀ i, i < n → te i = T i) (K : ∀ j, 33 ≤ j → j ≠ 37 → h'[j]? = h[j]?) : MX h' (nLen O T n) := by
  obtain ⟨-, b, c, -, z2⟩ := a
  exact ⟨⟨qa, qb, z, h1, h2⟩, b.keep (K _ (by decide) (by decide)), c.keep (K _ (by decide) (by decide)) (K _ (by decide) (by decide)), ⟨te, h3, ht⟩, z2.keep (fun j h1 h2 => K j (by omega) h2)⟩
theorem c_M_clear (a : MX h O) : Run l g mM_clear d 0 0 [.ref 31] h (PIh (rClear O) (MP h (nLen O (oT O) 0))) := by
  obtain ⟨⟨qa, qb, z, hM, hS⟩, -, -, ⟨te, t1, t2⟩, -⟩ := id a
  refine run_of (by decide) (Nat.le_of_ble_eq_true rfl) ?_
  refine zw_aload_n dM_clear_0 rfl ?_
  refine zw_get dM_clear_1 zf_M_71 hM rfl ?_
  refine zw_istore_n dM_clear_4 (by decide) rfl ?_
  refine zw_aload_n dM_clear_5 rfl ?_
  refine zw_iconst (v := 0) dM_clear_6 (by decide) ?_
  refine zw_puti dM_clear_7 zf_M_71 hM (Nat.le_of_ble_eq_true rfl) ?_
  refine zw_iload_n dM_clear_10 rfl ?_
  exact zw_iret dM_clear_11 rfl rfl (by rw [zs_len]; rfl) ⟨rfl, a.txt (qa := qa) (qb := qb) (te := te) (zg_eq hM) (zg_ne (by decide) hS) (zg_ne (by decide) t1) (fun i hi => absurd hi (Nat.not_lt_zero _)) (fun j h1 _ => zg_ne (by omega) rfl), frM.set (by decide), zs_len _ _ _⟩
theorem c_M_type (a : MX h O) (ok : oOK' O) {x : Int32} : Run l g mM_type (d + 1) 0 0 [.ref 31, .int x] h (PIh (rType O x) (MP h (nType O x))) := by
  obtain ⟨⟨qa, qb, z, hM, hS⟩, -, -, ⟨te, t1, t2⟩, -⟩ := id a
  have hlen := ok.2.2.2.2.2
  have ci := c_M_inB (l := l) (g := g) (d := d) (h := h) (x := x) (a := 0) (b := 255) (by decide) (by decide)
  unfold rType nType
  refine run_of (by decide) (Nat.le_of_ble_eq_true rfl) ?_
  cases hb : btw x 0 255 with
  | none =>
    rw [hb] at ci
    refine zw_iload_n dM_type_0 rfl ?_
    refine zw_iconst (v := 0) dM_type_1 (by decide) ?_
    refine zw_sipush (v := 255) dM_type_2 (by decide) ?_
    refine zc_S3I dM_type_5 zm_M_in zk_M_67 ci ?_ zRR (Nat.le_of_ble_eq_true rfl) ⟨Nat.le_of_ble_eq_true rfl, Nat.le_of_ble_eq_true rfl⟩
    refine zw_if_ne 13 dM_type_8 (by decide) (fun c_8 => ?_) (fun c_8 => ?_)
    · exact absurd rfl c_8
    · refine zw_iconst (v := (-1)) dM_type_11 (by decide) ?_
      exact zw_iret dM_type_12 rfl rfl rfl ⟨rfl, MP.rf a⟩
  | some w =>
    rw [hb] at ci
    dsimp only
    by_cases h60 : oLen O = 60
    · rw [if_pos h60, if_pos h60]
      refine zw_iload_n dM_type_0 rfl ?_
      refine zw_iconst (v := 0) dM_type_1 (by decide) ?_
      refine zw_sipush (v := 255) dM_type_2 (by decide) ?_
      refine zc_S3I dM_type_5 zm_M_in zk_M_67 ci ?_ zRR (Nat.le_of_ble_eq_true rfl) ⟨Nat.le_of_ble_eq_true rfl, Nat.le_of_ble_eq_true rfl⟩
      refine zw_if_ne 13 dM_type_8 (by decide) (fun c_8 => ?_) (fun c_8 => ?_)
      · refine zw_aload_n dM_type_13 rfl ?_
        refine zw_get dM_type_14 zf_M_71 hM rfl ?_
        refine zw_bipush (v := 60) dM_type_17 (by decide) ?_
        refine zw_icmp_ne 25 dM_type_19 (by decide) (fun c_19 => ?_) (fun c_19 => ?_)
        · exact absurd (by rw [h60]; rfl) c_19
        · refine zw_bipush (v := (-3)) dM_type_22 (by decide) ?_
          exact zw_iret dM_type_24 rfl rfl rfl ⟨rfl, MP.rf a⟩
      · exact absurd c_8 (show ¬ (1 : Int32) = 0 by decide)
    · rw [if_neg h60, if_neg h60]
      have hn : ¬ nI (oLen O) = 60 := fun q => h60 ((nI_eq (b := 60) (by omega) (by omega)).mp q)
      have e1 : nI (oLen O) + 1 = nI (oLen O + 1) := nI_1 _
      have ecl : (nI (oLen O)).toNatClampNeg = oLen O := nI_clamp (by omega)
      have hM37 : ∀ c, (h.set 37 c)[31]? = some (mC (oF O) (oSz O) (oLen O) qa qb) := fun c => zg_ne (by decide) hM
      have Q : MP h (nLen O (upd (oT O) (oLen O) x) (oLen O + 1)) ((h.set 37 (iA 60 (upd te (oLen O) x))).set 31 (mC (oF O) (oSz O) (oLen O + 1) qa qb)) :=
        ⟨a.txt (qa := qa) (qb := qb) (z := z) (te := upd te (oLen O) x) (zg_eq (hM37 _)) (zg_ne (by decide) (zg_ne (by decide) hS)) (zg_ne (by decide) (zg_eq t1)) (fun i hi => by
          by_cases q : i = oLen O
          · subst q; rw [upd_eq, upd_eq]
          · rw [upd_ne _ _ q, upd_ne _ _ q]; exact t2 i (by omega)) (fun j h1 h2 => zg_ne (by omega) (zg_ne (by omega) rfl)), frM.set2 (by decide) (by decide), by rw [zs_len, zs_len]⟩
      refine zw_iload_n dM_type_0 rfl ?_
      refine zw_iconst (v := 0) dM_type_1 (by decide) ?_
      refine zw_sipush (v := 255) dM_type_2 (by decide) ?_
      refine zc_S3I dM_type_5 zm_M_in zk_M_67 ci ?_ zRR (Nat.le_of_ble_eq_true rfl) ⟨Nat.le_of_ble_eq_true rfl, Nat.le_of_ble_eq_true rfl⟩
      refine zw_if_ne 13 dM_type_8 (by decide) (fun c_8 => ?_) (fun c_8 => ?_)
      · refine zw_aload_n dM_type_13 rfl ?_
        refine zw_get dM_type_14 zf_M_71 (by first | exact hM | exact t1 | exact hM37 _ | exact zg_eq (hM37 _)) rfl ?_
        refine zw_bipush (v := 60) dM_type_17 (by decide) ?_
        refine zw_icmp_ne 25 dM_type_19 (by decide) (fun c_19 => ?_) (fun c_19 => ?_)
        · refine zw_aload_n dM_type_25 rfl ?_
          refine zw_get dM_type_26 zf_M_33 (by first | exact hM | exact t1 | exact hM37 _ | exact zg_eq (hM37 _)) rfl ?_
          refine zw_aload_n dM_type_29 rfl ?_
          refine zw_get dM_type_30 zf_M_71 (by first | exact hM | exact t1 | exact hM37 _ | exact zg_eq (hM37 _)) rfl ?_
          refine zw_iload_n dM_type_33 rfl ?_
          refine zw_iast dM_type_34 (by first | exact hM | exact t1 | exact hM37 _ | exact zg_eq (hM37 _)) (vp_in_nI (show oLen O < 60 by omega) (by decide)) ?_
          rw [ecl]
          refine zw_aload_n dM_type_35 rfl ?_
          refine zw_dup dM_type_36 rfl ?_
          refine zw_get dM_type_37 zf_M_71 (by first | exact hM | exact t1 | exact hM37 _ | exact zg_eq (hM37 _)) rfl ?_
          refine zw_iconst (v := 1) dM_type_40 (by decide) ?_
          refine zw_iadd dM_type_41 ?_
          rw [e1]
          refine zw_puti dM_type_42 zf_M_71 (by first | exact hM | exact t1 | exact hM37 _ | exact zg_eq (hM37 _)) (Nat.le_of_ble_eq_true rfl) ?_
          refine zw_aload_n dM_type_45 rfl ?_
          refine zw_get dM_type_46 zf_M_71 (by first | exact hM | exact t1 | exact hM37 _ | exact zg_eq (hM37 _)) rfl ?_
          exact zw_iret dM_type_49 rfl rfl (by rw [zs_len, zs_len]; rfl) ⟨rfl, Q⟩
        · exact absurd c_19 hn
      · exact absurd c_8 (show ¬ (1 : Int32) = 0 by decide)
end C57
