/-! ===== the reference: cells ===== -/
theorem nI_m1 {a : Nat} (h : 0 < a) : nI a + -1 = nI (a - 1) := by
  obtain ⟨b, rfl⟩ : ∃ b, a = b + 1 := ⟨a - 1, by omega⟩
  rw [nI_succ, Int32.add_assoc]
  show nI b + (1 + -1) = nI b
  rw [show (1 : Int32) + -1 = 0 from by decide, Int32.add_zero]
theorem nbx {W H c : Nat} (h0 : 0 < W) (hc : c < W * H) : W * (c / W) + c % W = c ∧ c % W < W ∧ c / W < H := ⟨Nat.div_add_mod c W, Nat.mod_lt _ h0, Nat.div_lt_of_lt_mul hc⟩
theorem nb_0 (F : Fl) (c : Nat) : nb F c 0 = if fW F ≤ c then some (c - fW F) else none := rfl
theorem nb_1 (F : Fl) (c : Nat) : nb F c 1 = if c % fW F + 1 < fW F then some (c + 1) else none := rfl
theorem nb_2 (F : Fl) (c : Nat) : nb F c 2 = if c + fW F < fW F * fH F then some (c + fW F) else none := rfl
theorem nb_3 (F : Fl) (c : Nat) : nb F c 3 = if 0 < c % fW F then some (c - 1) else none := rfl
section C51
variable {l : Launch} {g : zG} {d : Nat} {h : zH} {F : Fl} {S : Sit} {z : Nat → Int32} {un le : Nat} {qa qb : I4}
theorem inP {x lo hi : Int32} (p : lo ≤ x ∧ x ≤ hi) : Run l g mM_in d 0 0 [.int x, .int lo, .int hi] h (PI 1 h) := by
  have h0 := c_M_in (l := l) (g := g) (d := d) (h := h) (x := x) (lo := lo) (hi := hi)
  rw [if_pos p] at h0; exact h0
theorem inN {x lo hi : Int32} (p : ¬ (lo ≤ x ∧ x ≤ hi)) : Run l g mM_in d 0 0 [.int x, .int lo, .int hi] h (PI 0 h) := by
  have h0 := c_M_in (l := l) (g := g) (d := d) (h := h) (x := x) (lo := lo) (hi := hi)
  rw [if_neg p] at h0; exact h0
/-- whether a number lies from 0 to n - 1 -/
theorem in0 {n : Nat} (hn : n < 2 ^ 31) (h1 : 0 < n) (x : Int32) : (0 ≤ x ∧ x ≤ nI n - 1) ↔ (0 ≤ x.toInt ∧ x.toInt < n) := by
  have q1 : (0 : Int32) ≤ x ↔ (0 : Int) ≤ x.toInt := i_le (c := 0) (by decide) x
  have q2 : x ≤ nI n - 1 ↔ x.toInt ≤ ((n - 1 : Nat) : Int) := by rw [show nI n - 1 = nI (n - 1) from pk_sub (b := 1) h1, i_len (by omega)]
  rw [q1, q2]
  omega
theorem in0n {n : Nat} (hn : n < 2 ^ 31) (h1 : 0 < n) {a : Nat} (ha : a < 2 ^ 31) : (0 ≤ nI a ∧ nI a ≤ nI n - 1) ↔ a < n := by
  rw [in0 hn h1, nI_toInt ha]; omega
theorem in0m {n : Nat} (hn : n < 2 ^ 31) (h1 : 0 < n) : ¬ ((0 : Int32) ≤ -1 ∧ (-1 : Int32) ≤ nI n - 1) := by
  rw [in0 hn h1]
  rintro ⟨q, -⟩
  exact absurd q (by decide)
theorem c_M_beside (hF : fOK F) (hM : h[31]? = some (mC F un le qa qb)) {c hand : Nat} (hc : c < fN F) (hh : hand < 4) : Run l g mM_beside (d + 1) 0 0 [.ref 31, .int (nI c), .int (nI hand)] h (PI (dI (nb F c hand)) h) := by
  have h36 := fN_le hF
  obtain ⟨⟨w0, w6⟩, ⟨g0, g6⟩, -⟩ := id hF
  obtain ⟨e1, e2, e3⟩ := nbx (W := fW F) (H := fH F) w0 hc
  have hW0 : ¬ nI (fW F) = 0 := nI_ne0 (by omega) (by omega)
  have er : nI c - nI c / nI (fW F) * nI (fW F) = nI (c % fW F) := pk_rem (by omega) (by omega) (by omega)
  have ed : nI c / nI (fW F) = nI (c / fW F) := pk_div (by omega) (by omega) (by omega)
  have xs : ∀ a : Nat, a < 100 → (a < fW F → Run l g mM_in d 0 0 [.int (nI a), .int 0, .int (nI (fW F) - 1)] h (PI 1 h)) ∧ (¬ a < fW F → Run l g mM_in d 0 0 [.int (nI a), .int 0, .int (nI (fW F) - 1)] h (PI 0 h)) :=
    fun a ha => ⟨fun q => inP ((in0n (by omega) (by omega) (by omega)).mpr q), fun q => inN (fun q2 => absurd ((in0n (by omega) (by omega) (by omega)).mp q2) q)⟩
  have ys : ∀ a : Nat, a < 100 → (a < fH F → Run l g mM_in d 0 0 [.int (nI a), .int 0, .int (nI (fH F) - 1)] h (PI 1 h)) ∧ (¬ a < fH F → Run l g mM_in d 0 0 [.int (nI a), .int 0, .int (nI (fH F) - 1)] h (PI 0 h)) :=
    fun a ha => ⟨fun q => inP ((in0n (by omega) (by omega) (by omega)).mpr q), fun q => inN (fun q2 => absurd ((in0n (by omega) (by omega) (by omega)).mp q2) q)⟩
  have xm : Run l g mM_in d 0 0 [.int (-1), .int 0, .int (nI (fW F) - 1)] h (PI 0 h) := inN (in0m (by omega) (by omega))
  have ym : Run l g mM_in d 0 0 [.int (-1), .int 0, .int (nI (fH F) - 1)] h (PI 0 h) := inN (in0m (by omega) (by omega))
  have xc := (xs (c % fW F) (by omega)).1 e2
  have yc := (ys (c / fW F) (by omega)).1 e3
  refine run_of (by decide) (Nat.le_of_ble_eq_true rfl) ?_
  rcases (show hand = 0 ∨ hand = 1 ∨ hand = 2 ∨ hand = 3 by omega) with rfl | rfl | rfl | rfl
  · by_cases q : fW F ≤ c
    · have q0 : 0 < c / fW F := Nat.div_pos q (by omega)
      have q1 : fW F ≤ fW F * (c / fW F) := Nat.le_mul_of_pos_right _ q0
      have e : fW F * (c / fW F - 1) + c % fW F = c - fW F := by rw [Nat.mul_sub, Nat.mul_one]; omega
      have en : nb F c 0 = some (c - fW F) := by rw [nb_0, if_pos q]
      rw [en]
      refine zw_iload_n dM_beside_0 rfl ?_
      refine zw_aload_n dM_beside_1 rfl ?_
      refine zw_get dM_beside_2 zf_M_7 hM rfl ?_
      refine zw_irem dM_beside_5 hW0 ?_
      rw [er]
      refine zw_iload_n dM_beside_6 rfl ?_
      refine zw_iconst (v := 1) dM_beside_7 (by decide) ?_
      refine zw_icmp_ne 15 dM_beside_8 (by decide) (fun c_8 => ?_) (fun c_8 => ?_)
      · refine zw_iload_n dM_beside_15 rfl ?_
        refine zw_iconst (v := 3) dM_beside_16 (by decide) ?_
        refine zw_icmp_ne 24 dM_beside_17 (by decide) (fun c_17 => ?_) (fun c_17 => ?_)
        · refine zw_iconst (v := 0) dM_beside_24 (by decide) ?_
          refine zw_iadd dM_beside_25 ?_
          rw [Int32.add_zero]
          refine zw_istore_n dM_beside_26 (by decide) rfl ?_
          refine zw_iload_n dM_beside_27 rfl ?_
          refine zw_aload_n dM_beside_28 rfl ?_
          refine zw_get dM_beside_29 zf_M_7 hM rfl ?_
          refine zw_idiv dM_beside_32 hW0 ?_
          rw [ed]
          refine zw_iload_n dM_beside_33 rfl ?_
          refine zw_iconst (v := 2) dM_beside_34 (by decide) ?_
          refine zw_icmp_ne 42 dM_beside_35 (by decide) (fun c_35 => ?_) (fun c_35 => ?_)
          · refine zw_iload_n dM_beside_42 rfl ?_
            refine zw_if_ne 50 dM_beside_43 (by decide) (fun c_43 => ?_) (fun c_43 => ?_)
            · exact absurd rfl c_43
            · refine zw_iconst (v := (-1)) dM_beside_46 (by decide) ?_
              refine zw_goto 51 dM_beside_47 (by decide) ?_
              refine zw_iadd dM_beside_51 ?_
              rw [nI_m1 q0]
              refine zw_istore dM_beside_52 (by decide) rfl ?_
              refine zw_iload_n dM_beside_54 rfl ?_
              refine zw_iconst (v := 0) dM_beside_55 (by decide) ?_
              refine zw_aload_n dM_beside_56 rfl ?_
              refine zw_get dM_beside_57 zf_M_7 hM rfl ?_
              refine zw_iconst (v := 1) dM_beside_60 (by decide) ?_
              refine zw_isub dM_beside_61 ?_
              refine zc_S3I dM_beside_62 zm_M_in zk_M_67 xc ?_ zRR (Nat.le_of_ble_eq_true rfl) ⟨Nat.le_of_ble_eq_true rfl, Nat.le_of_ble_eq_true rfl⟩
              refine zw_if_eq 95 dM_beside_65 (by decide) (fun c_65 => ?_) (fun c_65 => ?_)
              · exact absurd c_65 (by decide)
              · refine zw_iload dM_beside_68 rfl ?_
                refine zw_iconst (v := 0) dM_beside_70 (by decide) ?_
                refine zw_aload_n dM_beside_71 rfl ?_
                refine zw_get dM_beside_72 zf_M_13 hM rfl ?_
                refine zw_iconst (v := 1) dM_beside_75 (by decide) ?_
                refine zw_isub dM_beside_76 ?_
                refine zc_S3I dM_beside_77 zm_M_in zk_M_67 ((ys (c / fW F - 1) (by omega)).1 (by omega)) ?_ zRR (Nat.le_of_ble_eq_true rfl) ⟨Nat.le_of_ble_eq_true rfl, Nat.le_of_ble_eq_true rfl⟩
                refine zw_if_eq 95 dM_beside_80 (by decide) (fun c_80 => ?_) (fun c_80 => ?_)
                · exact absurd c_80 (by decide)
                · refine zw_aload_n dM_beside_83 rfl ?_
                  refine zw_get dM_beside_84 zf_M_7 hM rfl ?_
                  refine zw_iload dM_beside_87 rfl ?_
                  refine zw_imul dM_beside_89 ?_
                  refine zw_iload_n dM_beside_90 rfl ?_
                  refine zw_iadd dM_beside_91 ?_
                  refine zw_goto 97 dM_beside_92 (by decide) ?_
                  exact zw_iret dM_beside_97 rfl rfl rfl ⟨by rw [pk_mul, nI_add, e]; rfl, rfl⟩
          · exact absurd c_35 (by decide)
        · exact absurd c_17 (by decide)
      · exact absurd c_8 (by decide)
    · have q0 : c / fW F = 0 := Nat.div_eq_of_lt (by omega)
      have en : nb F c 0 = none := by rw [nb_0, if_neg q]
      rw [en]
      refine zw_iload_n dM_beside_0 rfl ?_
      refine zw_aload_n dM_beside_1 rfl ?_
      refine zw_get dM_beside_2 zf_M_7 hM rfl ?_
      refine zw_irem dM_beside_5 hW0 ?_
      rw [er]
      refine zw_iload_n dM_beside_6 rfl ?_
      refine zw_iconst (v := 1) dM_beside_7 (by decide) ?_
      refine zw_icmp_ne 15 dM_beside_8 (by decide) (fun c_8 => ?_) (fun c_8 => ?_)
      · refine zw_iload_n dM_beside_15 rfl ?_
        refine zw_iconst (v := 3) dM_beside_16 (by decide) ?_
        refine zw_icmp_ne 24 dM_beside_17 (by decide) (fun c_17 => ?_) (fun c_17 => ?_)
        · refine zw_iconst (v := 0) dM_beside_24 (by decide) ?_
          refine zw_iadd dM_beside_25 ?_
          rw [Int32.add_zero]
          refine zw_istore_n dM_beside_26 (by decide) rfl ?_
          refine zw_iload_n dM_beside_27 rfl ?_
          refine zw_aload_n dM_beside_28 rfl ?_
          refine zw_get dM_beside_29 zf_M_7 hM rfl ?_
          refine zw_idiv dM_beside_32 hW0 ?_
          rw [ed]
          refine zw_iload_n dM_beside_33 rfl ?_
          refine zw_iconst (v := 2) dM_beside_34 (by decide) ?_
          refine zw_icmp_ne 42 dM_beside_35 (by decide) (fun c_35 => ?_) (fun c_35 => ?_)
          · refine zw_iload_n dM_beside_42 rfl ?_
            refine zw_if_ne 50 dM_beside_43 (by decide) (fun c_43 => ?_) (fun c_43 => ?_)
            · exact absurd rfl c_43
            · refine zw_iconst (v := (-1)) dM_beside_46 (by decide) ?_
              refine zw_goto 51 dM_beside_47 (by decide) ?_
              refine zw_iadd dM_beside_51 ?_
              rw [q0, show nI 0 + -1 = -1 from by decide]
              refine zw_istore dM_beside_52 (by decide) rfl ?_
              refine zw_iload_n dM_beside_54 rfl ?_
              refine zw_iconst (v := 0) dM_beside_55 (by decide) ?_
              refine zw_aload_n dM_beside_56 rfl ?_
              refine zw_get dM_beside_57 zf_M_7 hM rfl ?_
              refine zw_iconst (v := 1) dM_beside_60 (by decide) ?_
              refine zw_isub dM_beside_61 ?_
              refine zc_S3I dM_beside_62 zm_M_in zk_M_67 xc ?_ zRR (Nat.le_of_ble_eq_true rfl) ⟨Nat.le_of_ble_eq_true rfl, Nat.le_of_ble_eq_true rfl⟩
              refine zw_if_eq 95 dM_beside_65 (by decide) (fun c_65 => ?_) (fun c_65 => ?_)
              · exact absurd c_65 (by decide)
              · refine zw_iload dM_beside_68 rfl ?_
                refine zw_iconst (v := 0) dM_beside_70 (by decide) ?_
                refine zw_aload_n dM_beside_71 rfl ?_
                refine zw_get dM_beside_72 zf_M_13 hM rfl ?_
                refine zw_iconst (v := 1) dM_beside_75 (by decide) ?_
                refine zw_isub dM_beside_76 ?_
                refine zc_S3I dM_beside_77 zm_M_in zk_M_67 ym ?_ zRR (Nat.le_of_ble_eq_true rfl) ⟨Nat.le_of_ble_eq_true rfl, Nat.le_of_ble_eq_true rfl⟩
                refine zw_if_eq 95 dM_beside_80 (by decide) (fun c_80 => ?_) (fun c_80 => ?_)
                · refine zw_bipush (v := (-9)) dM_beside_95 (by decide) ?_
                  exact zw_iret dM_beside_97 rfl rfl rfl ⟨rfl, rfl⟩
                · exact absurd rfl c_80
          · exact absurd c_35 (by decide)
        · exact absurd c_17 (by decide)
      · exact absurd c_8 (by decide)
  · by_cases q : c % fW F + 1 < fW F
    · have e : fW F * (c / fW F) + (c % fW F + 1) = c + 1 := by omega
      have en : nb F c 1 = some (c + 1) := by rw [nb_1, if_pos q]
      rw [en]
      refine zw_iload_n dM_beside_0 rfl ?_
      refine zw_aload_n dM_beside_1 rfl ?_
      refine zw_get dM_beside_2 zf_M_7 hM rfl ?_
      refine zw_irem dM_beside_5 hW0 ?_
      rw [er]
      refine zw_iload_n dM_beside_6 rfl ?_
      refine zw_iconst (v := 1) dM_beside_7 (by decide) ?_
      refine zw_icmp_ne 15 dM_beside_8 (by decide) (fun c_8 => ?_) (fun c_8 => ?_)
      · exact absurd rfl c_8
      · refine zw_iconst (v := 1) dM_beside_11 (by decide) ?_
        refine zw_goto 25 dM_beside_12 (by decide) ?_
        refine zw_iadd dM_beside_25 ?_
        rw [nI_1]
        refine zw_istore_n dM_beside_26 (by decide) rfl ?_
        refine zw_iload_n dM_beside_27 rfl ?_
        refine zw_aload_n dM_beside_28 rfl ?_
        refine zw_get dM_beside_29 zf_M_7 hM rfl ?_
        refine zw_idiv dM_beside_32 hW0 ?_
        rw [ed]
        refine zw_iload_n dM_beside_33 rfl ?_
        refine zw_iconst (v := 2) dM_beside_34 (by decide) ?_
        refine zw_icmp_ne 42 dM_beside_35 (by decide) (fun c_35 => ?_) (fun c_35 => ?_)
        · refine zw_iload_n dM_beside_42 rfl ?_
          refine zw_if_ne 50 dM_beside_43 (by decide) (fun c_43 => ?_) (fun c_43 => ?_)
          · refine zw_iconst (v := 0) dM_beside_50 (by decide) ?_
            refine zw_iadd dM_beside_51 ?_
            rw [Int32.add_zero]
            refine zw_istore dM_beside_52 (by decide) rfl ?_
            refine zw_iload_n dM_beside_54 rfl ?_
            refine zw_iconst (v := 0) dM_beside_55 (by decide) ?_
            refine zw_aload_n dM_beside_56 rfl ?_
            refine zw_get dM_beside_57 zf_M_7 hM rfl ?_
            refine zw_iconst (v := 1) dM_beside_60 (by decide) ?_
            refine zw_isub dM_beside_61 ?_
            refine zc_S3I dM_beside_62 zm_M_in zk_M_67 ((xs (c % fW F + 1) (by omega)).1 q) ?_ zRR (Nat.le_of_ble_eq_true rfl) ⟨Nat.le_of_ble_eq_true rfl, Nat.le_of_ble_eq_true rfl⟩
            refine zw_if_eq 95 dM_beside_65 (by decide) (fun c_65 => ?_) (fun c_65 => ?_)
            · exact absurd c_65 (by decide)
            · refine zw_iload dM_beside_68 rfl ?_
              refine zw_iconst (v := 0) dM_beside_70 (by decide) ?_
              refine zw_aload_n dM_beside_71 rfl ?_
              refine zw_get dM_beside_72 zf_M_13 hM rfl ?_
              refine zw_iconst (v := 1) dM_beside_75 (by decide) ?_
              refine zw_isub dM_beside_76 ?_
              refine zc_S3I dM_beside_77 zm_M_in zk_M_67 yc ?_ zRR (Nat.le_of_ble_eq_true rfl) ⟨Nat.le_of_ble_eq_true rfl, Nat.le_of_ble_eq_true rfl⟩
              refine zw_if_eq 95 dM_beside_80 (by decide) (fun c_80 => ?_) (fun c_80 => ?_)
              · exact absurd c_80 (by decide)
              · refine zw_aload_n dM_beside_83 rfl ?_
                refine zw_get dM_beside_84 zf_M_7 hM rfl ?_
                refine zw_iload dM_beside_87 rfl ?_
                refine zw_imul dM_beside_89 ?_
                refine zw_iload_n dM_beside_90 rfl ?_
                refine zw_iadd dM_beside_91 ?_
                refine zw_goto 97 dM_beside_92 (by decide) ?_
                exact zw_iret dM_beside_97 rfl rfl rfl ⟨by rw [pk_mul, nI_add, e]; rfl, rfl⟩
          · exact absurd c_43 (by decide)
        · exact absurd c_35 (by decide)
    · have en : nb F c 1 = none := by rw [nb_1, if_neg q]
      rw [en]
      refine zw_iload_n dM_beside_0 rfl ?_
      refine zw_aload_n dM_beside_1 rfl ?_
      refine zw_get dM_beside_2 zf_M_7 hM rfl ?_
      refine zw_irem dM_beside_5 hW0 ?_
      rw [er]
      refine zw_iload_n dM_beside_6 rfl ?_
      refine zw_iconst (v := 1) dM_beside_7 (by decide) ?_
      refine zw_icmp_ne 15 dM_beside_8 (by decide) (fun c_8 => ?_) (fun c_8 => ?_)
      · exact absurd rfl c_8
      · refine zw_iconst (v := 1) dM_beside_11 (by decide) ?_
        refine zw_goto 25 dM_beside_12 (by decide) ?_
        refine zw_iadd dM_beside_25 ?_
        rw [nI_1]
        refine zw_istore_n dM_beside_26 (by decide) rfl ?_
        refine zw_iload_n dM_beside_27 rfl ?_
        refine zw_aload_n dM_beside_28 rfl ?_
        refine zw_get dM_beside_29 zf_M_7 hM rfl ?_
        refine zw_idiv dM_beside_32 hW0 ?_
        rw [ed]
        refine zw_iload_n dM_beside_33 rfl ?_
        refine zw_iconst (v := 2) dM_beside_34 (by decide) ?_
        refine zw_icmp_ne 42 dM_beside_35 (by decide) (fun c_35 => ?_) (fun c_35 => ?_)
        · refine zw_iload_n dM_beside_42 rfl ?_
          refine zw_if_ne 50 dM_beside_43 (by decide) (fun c_43 => ?_) (fun c_43 => ?_)
          · refine zw_iconst (v := 0) dM_beside_50 (by decide) ?_
            refine zw_iadd dM_beside_51 ?_
            rw [Int32.add_zero]
            refine zw_istore dM_beside_52 (by decide) rfl ?_
            refine zw_iload_n dM_beside_54 rfl ?_
            refine zw_iconst (v := 0) dM_beside_55 (by decide) ?_
            refine zw_aload_n dM_beside_56 rfl ?_
            refine zw_get dM_beside_57 zf_M_7 hM rfl ?_
            refine zw_iconst (v := 1) dM_beside_60 (by decide) ?_
            refine zw_isub dM_beside_61 ?_
            refine zc_S3I dM_beside_62 zm_M_in zk_M_67 ((xs (c % fW F + 1) (by omega)).2 q) ?_ zRR (Nat.le_of_ble_eq_true rfl) ⟨Nat.le_of_ble_eq_true rfl, Nat.le_of_ble_eq_true rfl⟩
            refine zw_if_eq 95 dM_beside_65 (by decide) (fun c_65 => ?_) (fun c_65 => ?_)
            · refine zw_bipush (v := (-9)) dM_beside_95 (by decide) ?_
              exact zw_iret dM_beside_97 rfl rfl rfl ⟨rfl, rfl⟩
            · exact absurd rfl c_65
          · exact absurd c_43 (by decide)
        · exact absurd c_35 (by decide)
  · have hm : fW F * (c / fW F + 1) = fW F * (c / fW F) + fW F := by rw [Nat.mul_add, Nat.mul_one]
    by_cases q : c / fW F + 1 < fH F
    · have e : fW F * (c / fW F + 1) + c % fW F = c + fW F := by omega
      have q2 : c + fW F < fW F * fH F := by
        have h1 : fW F * (c / fW F + 1 + 1) ≤ fW F * fH F := Nat.mul_le_mul_left _ q
        have h2 : fW F * (c / fW F + 1 + 1) = fW F * (c / fW F + 1) + fW F := by rw [Nat.mul_add _ (c / fW F + 1) 1, Nat.mul_one]
        have h3 : c + fW F < fW F * fH F := by omega
        exact h3
      have en : nb F c 2 = some (c + fW F) := by rw [nb_2, if_pos q2]
      rw [en]
      refine zw_iload_n dM_beside_0 rfl ?_
      refine zw_aload_n dM_beside_1 rfl ?_
      refine zw_get dM_beside_2 zf_M_7 hM rfl ?_
      refine zw_irem dM_beside_5 hW0 ?_
      rw [er]
      refine zw_iload_n dM_beside_6 rfl ?_
      refine zw_iconst (v := 1) dM_beside_7 (by decide) ?_
      refine zw_icmp_ne 15 dM_beside_8 (by decide) (fun c_8 => ?_) (fun c_8 => ?_)
      · refine zw_iload_n dM_beside_15 rfl ?_
        refine zw_iconst (v := 3) dM_beside_16 (by decide) ?_
        refine zw_icmp_ne 24 dM_beside_17 (by decide) (fun c_17 => ?_) (fun c_17 => ?_)
        · refine zw_iconst (v := 0) dM_beside_24 (by decide) ?_
          refine zw_iadd dM_beside_25 ?_
          rw [Int32.add_zero]
          refine zw_istore_n dM_beside_26 (by decide) rfl ?_
          refine zw_iload_n dM_beside_27 rfl ?_
          refine zw_aload_n dM_beside_28 rfl ?_
          refine zw_get dM_beside_29 zf_M_7 hM rfl ?_
          refine zw_idiv dM_beside_32 hW0 ?_
          rw [ed]
          refine zw_iload_n dM_beside_33 rfl ?_
          refine zw_iconst (v := 2) dM_beside_34 (by decide) ?_
          refine zw_icmp_ne 42 dM_beside_35 (by decide) (fun c_35 => ?_) (fun c_35 => ?_)
          · exact absurd rfl c_35
          · refine zw_iconst (v := 1) dM_beside_38 (by decide) ?_
            refine zw_goto 51 dM_beside_39 (by decide) ?_
            refine zw_iadd dM_beside_51 ?_
            rw [nI_1]
            refine zw_istore dM_beside_52 (by decide) rfl ?_
            refine zw_iload_n dM_beside_54 rfl ?_
            refine zw_iconst (v := 0) dM_beside_55 (by decide) ?_
            refine zw_aload_n dM_beside_56 rfl ?_
            refine zw_get dM_beside_57 zf_M_7 hM rfl ?_
            refine zw_iconst (v := 1) dM_beside_60 (by decide) ?_
            refine zw_isub dM_beside_61 ?_
            refine zc_S3I dM_beside_62 zm_M_in zk_M_67 xc ?_ zRR (Nat.le_of_ble_eq_true rfl) ⟨Nat.le_of_ble_eq_true rfl, Nat.le_of_ble_eq_true rfl⟩
            refine zw_if_eq 95 dM_beside_65 (by decide) (fun c_65 => ?_) (fun c_65 => ?_)
            · exact absurd c_65 (by decide)
            · refine zw_iload dM_beside_68 rfl ?_
              refine zw_iconst (v := 0) dM_beside_70 (by decide) ?_
              refine zw_aload_n dM_beside_71 rfl ?_
              refine zw_get dM_beside_72 zf_M_13 hM rfl ?_
              refine zw_iconst (v := 1) dM_beside_75 (by decide) ?_
              refine zw_isub dM_beside_76 ?_
              refine zc_S3I dM_beside_77 zm_M_in zk_M_67 ((ys (c / fW F + 1) (by omega)).1 q) ?_ zRR (Nat.le_of_ble_eq_true rfl) ⟨Nat.le_of_ble_eq_true rfl, Nat.le_of_ble_eq_true rfl⟩
              refine zw_if_eq 95 dM_beside_80 (by decide) (fun c_80 => ?_) (fun c_80 => ?_)
              · exact absurd c_80 (by decide)
              · refine zw_aload_n dM_beside_83 rfl ?_
                refine zw_get dM_beside_84 zf_M_7 hM rfl ?_
                refine zw_iload dM_beside_87 rfl ?_
                refine zw_imul dM_beside_89 ?_
                refine zw_iload_n dM_beside_90 rfl ?_
                refine zw_iadd dM_beside_91 ?_
                refine zw_goto 97 dM_beside_92 (by decide) ?_
                exact zw_iret dM_beside_97 rfl rfl rfl ⟨by rw [pk_mul, nI_add, e]; rfl, rfl⟩
        · exact absurd c_17 (by decide)
      · exact absurd c_8 (by decide)
    · have q2 : ¬ c + fW F < fW F * fH F := by
        intro h3
        have h4 : c + fW F < fW F * fH F := h3
        have h1 : fW F * fH F ≤ fW F * (c / fW F + 1) := Nat.mul_le_mul_left _ (by omega)
        omega
      have en : nb F c 2 = none := by rw [nb_2, if_neg q2]
      rw [en]
      refine zw_iload_n dM_beside_0 rfl ?_
      refine zw_aload_n dM_beside_1 rfl ?_
      refine zw_get dM_beside_2 zf_M_7 hM rfl ?_
      refine zw_irem dM_beside_5 hW0 ?_
      rw [er]
      refine zw_iload_n dM_beside_6 rfl ?_
      refine zw_iconst (v := 1) dM_beside_7 (by decide) ?_
      refine zw_icmp_ne 15 dM_beside_8 (by decide) (fun c_8 => ?_) (fun c_8 => ?_)
      · refine zw_iload_n dM_beside_15 rfl ?_
        refine zw_iconst (v := 3) dM_beside_16 (by decide) ?_
        refine zw_icmp_ne 24 dM_beside_17 (by decide) (fun c_17 => ?_) (fun c_17 => ?_)
        · refine zw_iconst (v := 0) dM_beside_24 (by decide) ?_
          refine zw_iadd dM_beside_25 ?_
          rw [Int32.add_zero]
          refine zw_istore_n dM_beside_26 (by decide) rfl ?_
          refine zw_iload_n dM_beside_27 rfl ?_
          refine zw_aload_n dM_beside_28 rfl ?_
          refine zw_get dM_beside_29 zf_M_7 hM rfl ?_
          refine zw_idiv dM_beside_32 hW0 ?_
          rw [ed]
          refine zw_iload_n dM_beside_33 rfl ?_
          refine zw_iconst (v := 2) dM_beside_34 (by decide) ?_
          refine zw_icmp_ne 42 dM_beside_35 (by decide) (fun c_35 => ?_) (fun c_35 => ?_)
          · exact absurd rfl c_35
          · refine zw_iconst (v := 1) dM_beside_38 (by decide) ?_
            refine zw_goto 51 dM_beside_39 (by decide) ?_
            refine zw_iadd dM_beside_51 ?_
            rw [nI_1]
            refine zw_istore dM_beside_52 (by decide) rfl ?_
            refine zw_iload_n dM_beside_54 rfl ?_
            refine zw_iconst (v := 0) dM_beside_55 (by decide) ?_
            refine zw_aload_n dM_beside_56 rfl ?_
            refine zw_get dM_beside_57 zf_M_7 hM rfl ?_
            refine zw_iconst (v := 1) dM_beside_60 (by decide) ?_
            refine zw_isub dM_beside_61 ?_
            refine zc_S3I dM_beside_62 zm_M_in zk_M_67 xc ?_ zRR (Nat.le_of_ble_eq_true rfl) ⟨Nat.le_of_ble_eq_true rfl, Nat.le_of_ble_eq_true rfl⟩
            refine zw_if_eq 95 dM_beside_65 (by decide) (fun c_65 => ?_) (fun c_65 => ?_)
            · exact absurd c_65 (by decide)
            · refine zw_iload dM_beside_68 rfl ?_
              refine zw_iconst (v := 0) dM_beside_70 (by decide) ?_
              refine zw_aload_n dM_beside_71 rfl ?_
              refine zw_get dM_beside_72 zf_M_13 hM rfl ?_
              refine zw_iconst (v := 1) dM_beside_75 (by decide) ?_
              refine zw_isub dM_beside_76 ?_
              refine zc_S3I dM_beside_77 zm_M_in zk_M_67 ((ys (c / fW F + 1) (by omega)).2 q) ?_ zRR (Nat.le_of_ble_eq_true rfl) ⟨Nat.le_of_ble_eq_true rfl, Nat.le_of_ble_eq_true rfl⟩
              refine zw_if_eq 95 dM_beside_80 (by decide) (fun c_80 => ?_) (fun c_80 => ?_)
              · refine zw_bipush (v := (-9)) dM_beside_95 (by decide) ?_
                exact zw_iret dM_beside_97 rfl rfl rfl ⟨rfl, rfl⟩
              · exact absurd rfl c_80
        · exact absurd c_17 (by decide)
      · exact absurd c_8 (by decide)
  · by_cases q : 0 < c % fW F
    · have e : fW F * (c / fW F) + (c % fW F - 1) = c - 1 := by omega
      have en : nb F c 3 = some (c - 1) := by rw [nb_3, if_pos q]
      rw [en]
      refine zw_iload_n dM_beside_0 rfl ?_
      refine zw_aload_n dM_beside_1 rfl ?_
      refine zw_get dM_beside_2 zf_M_7 hM rfl ?_
      refine zw_irem dM_beside_5 hW0 ?_
      rw [er]
      refine zw_iload_n dM_beside_6 rfl ?_
      refine zw_iconst (v := 1) dM_beside_7 (by decide) ?_
      refine zw_icmp_ne 15 dM_beside_8 (by decide) (fun c_8 => ?_) (fun c_8 => ?_)
      · refine zw_iload_n dM_beside_15 rfl ?_
        refine zw_iconst (v := 3) dM_beside_16 (by decide) ?_
        refine zw_icmp_ne 24 dM_beside_17 (by decide) (fun c_17 => ?_) (fun c_17 => ?_)
        · exact absurd rfl c_17
        · refine zw_iconst (v := (-1)) dM_beside_20 (by decide) ?_
          refine zw_goto 25 dM_beside_21 (by decide) ?_
          refine zw_iadd dM_beside_25 ?_
          rw [nI_m1 q]
          refine zw_istore_n dM_beside_26 (by decide) rfl ?_
          refine zw_iload_n dM_beside_27 rfl ?_
          refine zw_aload_n dM_beside_28 rfl ?_
          refine zw_get dM_beside_29 zf_M_7 hM rfl ?_
          refine zw_idiv dM_beside_32 hW0 ?_
          rw [ed]
          refine zw_iload_n dM_beside_33 rfl ?_
          refine zw_iconst (v := 2) dM_beside_34 (by decide) ?_
          refine zw_icmp_ne 42 dM_beside_35 (by decide) (fun c_35 => ?_) (fun c_35 => ?_)
          · refine zw_iload_n dM_beside_42 rfl ?_
            refine zw_if_ne 50 dM_beside_43 (by decide) (fun c_43 => ?_) (fun c_43 => ?_)
            · refine zw_iconst (v := 0) dM_beside_50 (by decide) ?_
              refine zw_iadd dM_beside_51 ?_
              rw [Int32.add_zero]
              refine zw_istore dM_beside_52 (by decide) rfl ?_
              refine zw_iload_n dM_beside_54 rfl ?_
              refine zw_iconst (v := 0) dM_beside_55 (by decide) ?_
              refine zw_aload_n dM_beside_56 rfl ?_
              refine zw_get dM_beside_57 zf_M_7 hM rfl ?_
              refine zw_iconst (v := 1) dM_beside_60 (by decide) ?_
              refine zw_isub dM_beside_61 ?_
              refine zc_S3I dM_beside_62 zm_M_in zk_M_67 ((xs (c % fW F - 1) (by omega)).1 (by omega)) ?_ zRR (Nat.le_of_ble_eq_true rfl) ⟨Nat.le_of_ble_eq_true rfl, Nat.le_of_ble_eq_true rfl⟩
              refine zw_if_eq 95 dM_beside_65 (by decide) (fun c_65 => ?_) (fun c_65 => ?_)
              · exact absurd c_65 (by decide)
              · refine zw_iload dM_beside_68 rfl ?_
                refine zw_iconst (v := 0) dM_beside_70 (by decide) ?_
                refine zw_aload_n dM_beside_71 rfl ?_
                refine zw_get dM_beside_72 zf_M_13 hM rfl ?_
                refine zw_iconst (v := 1) dM_beside_75 (by decide) ?_
                refine zw_isub dM_beside_76 ?_
                refine zc_S3I dM_beside_77 zm_M_in zk_M_67 yc ?_ zRR (Nat.le_of_ble_eq_true rfl) ⟨Nat.le_of_ble_eq_true rfl, Nat.le_of_ble_eq_true rfl⟩
                refine zw_if_eq 95 dM_beside_80 (by decide) (fun c_80 => ?_) (fun c_80 => ?_)
                · exact absurd c_80 (by decide)
                · refine zw_aload_n dM_beside_83 rfl ?_
                  refine zw_get dM_beside_84 zf_M_7 hM rfl ?_
                  refine zw_iload dM_beside_87 rfl ?_
                  refine zw_imul dM_beside_89 ?_
                  refine zw_iload_n dM_beside_90 rfl ?_
                  refine zw_iadd dM_beside_91 ?_
                  refine zw_goto 97 dM_beside_92 (by decide) ?_
                  exact zw_iret dM_beside_97 rfl rfl rfl ⟨by rw [pk_mul, nI_add, e]; rfl, rfl⟩
            · exact absurd c_43 (by decide)
          · exact absurd c_35 (by decide)
      · exact absurd c_8 (by decide)
    · have q0 : c % fW F = 0 := by omega
      have en : nb F c 3 = none := by rw [nb_3, if_neg q]
      rw [en]
      refine zw_iload_n dM_beside_0 rfl ?_
      refine zw_aload_n dM_beside_1 rfl ?_
      refine zw_get dM_beside_2 zf_M_7 hM rfl ?_
      refine zw_irem dM_beside_5 hW0 ?_
      rw [er]
      refine zw_iload_n dM_beside_6 rfl ?_
      refine zw_iconst (v := 1) dM_beside_7 (by decide) ?_
      refine zw_icmp_ne 15 dM_beside_8 (by decide) (fun c_8 => ?_) (fun c_8 => ?_)
      · refine zw_iload_n dM_beside_15 rfl ?_
        refine zw_iconst (v := 3) dM_beside_16 (by decide) ?_
        refine zw_icmp_ne 24 dM_beside_17 (by decide) (fun c_17 => ?_) (fun c_17 => ?_)
        · exact absurd rfl c_17
        · refine zw_iconst (v := (-1)) dM_beside_20 (by decide) ?_
          refine zw_goto 25 dM_beside_21 (by decide) ?_
          refine zw_iadd dM_beside_25 ?_
          rw [q0, show nI 0 + -1 = -1 from by decide]
          refine zw_istore_n dM_beside_26 (by decide) rfl ?_
          refine zw_iload_n dM_beside_27 rfl ?_
          refine zw_aload_n dM_beside_28 rfl ?_
          refine zw_get dM_beside_29 zf_M_7 hM rfl ?_
          refine zw_idiv dM_beside_32 hW0 ?_
          rw [ed]
          refine zw_iload_n dM_beside_33 rfl ?_
          refine zw_iconst (v := 2) dM_beside_34 (by decide) ?_
          refine zw_icmp_ne 42 dM_beside_35 (by decide) (fun c_35 => ?_) (fun c_35 => ?_)
          · refine zw_iload_n dM_beside_42 rfl ?_
            refine zw_if_ne 50 dM_beside_43 (by decide) (fun c_43 => ?_) (fun c_43 => ?_)
            · refine zw_iconst (v := 0) dM_beside_50 (by decide) ?_
              refine zw_iadd dM_beside_51 ?_
              rw [Int32.add_zero]
              refine zw_istore dM_beside_52 (by decide) rfl ?_
              refine zw_iload_n dM_beside_54 rfl ?_
              refine zw_iconst (v := 0) dM_beside_55 (by decide) ?_
              refine zw_aload_n dM_beside_56 rfl ?_
              refine zw_get dM_beside_57 zf_M_7 hM rfl ?_
              refine zw_iconst (v := 1) dM_beside_60 (by decide) ?_
              refine zw_isub dM_beside_61 ?_
              refine zc_S3I dM_beside_62 zm_M_in zk_M_67 xm ?_ zRR (Nat.le_of_ble_eq_true rfl) ⟨Nat.le_of_ble_eq_true rfl, Nat.le_of_ble_eq_true rfl⟩
              refine zw_if_eq 95 dM_beside_65 (by decide) (fun c_65 => ?_) (fun c_65 => ?_)
              · refine zw_bipush (v := (-9)) dM_beside_95 (by decide) ?_
                exact zw_iret dM_beside_97 rfl rfl rfl ⟨rfl, rfl⟩
              · exact absurd rfl c_65
            · exact absurd c_43 (by decide)
          · exact absurd c_35 (by decide)
      · exact absurd c_8 (by decide)
/-! kinds -/
theorem kdn_lt (hF : fOK F) {c : Nat} (hc : c < fN F) : kdn F S c < 7 := by
  have := (hF.2.2.2 c hc).1
  unfold kdn
  split <;> omega
theorem kdn_free (hF : fOK F) (hs : ∀ i, sShut S i = true → i < fN F ∧ fK F i = 4) {c : Nat} (hc : c < fN F) : (kdn F S c = 0 ∨ kdn F S c = 6 ∨ kdn F S c = 4) ↔ fre F S c = true := by
  have h1 := (hF.2.2.2 c hc).1
  unfold kdn
  cases hq : sShut S c with
  | true =>
    have h4 := (hs c hq).2
    simp [fre, hq, h4]
  | false =>
    simp [fre, hq, hc]
    omega
theorem kdn_door (hF : fOK F) {c : Nat} (hc : c < fN F) : (kdn F S c = 4 ∨ kdn F S c = 5) ↔ fK F c = 4 := by
  have h1 := (hF.2.2.2 c hc).1
  unfold kdn
  split <;> omega
theorem kdn_3 (hF : fOK F) {c : Nat} (hc : c < fN F) : kdn F S c = 3 ↔ fK F c = 3 := by
  unfold kdn
  split <;> omega
theorem kdn_2 (hF : fOK F) {c : Nat} (hc : c < fN F) : kdn F S c = 2 ↔ fK F c = 2 := by
  unfold kdn
  split <;> omega
theorem kdn_room (hF : fOK F) {c : Nat} (hc : c < fN F) : (kdn F S c = 0 ∨ kdn F S c = 6) ↔ rof F c = true := by
  have h1 := hF.2.2.2 c hc
  have e : rof F c = true ↔ (fK F c = 0 ∨ c = fD F) := by
    simp only [rof, gK, oneO, hc, decide_true, Bool.true_and, Bool.or_eq_true, beq_iff_eq]
    constructor
    · rintro (q | q)
      · exact Or.inl q
      · exact Or.inr (by injection q with q; exact q.symm)
    · rintro (q | q)
      · exact Or.inl q
      · exact Or.inr (by rw [q])
  rw [e]
  unfold kdn
  split <;> omega
theorem vk (hF : fOK F) {c : Nat} (hc : c < fN F) : vp_in (nI c) 114 := by
  have := fN_le hF
  exact vp_in_nI (by omega) (by decide)
theorem vA {b c : Nat} (h1 : b + c < 114) : vp_in (nI (b + c)) 114 := vp_in_nI h1 (by decide)
theorem clk (hF : fOK F) {c : Nat} (hc : c < fN F) : (nI c).toNatClampNeg = c := by
  have := fN_le hF
  exact nI_clamp (by omega)
theorem c_M_isFree (hF : fOK F) (hs : ∀ i, sShut S i = true → i < fN F ∧ fK F i = 4) (hM : h[31]? = some (mC F un le qa qb)) (hS : h[32]? = some (sC F S z)) {c : Nat} (hc : c < fN F) : Run l g mM_isFree d 0 0 [.ref 31, .int (nI c)] h (PI (if fre F S c = true then 1 else 0) h) := by
  have ev := (kdn_free hF hs hc)
  have hlt := kdn_lt (S := S) hF hc
  have ek := ms_k (S := S) (z := z) hF hc
  have hcl := clk hF hc
  refine run_of (by decide) (Nat.le_of_ble_eq_true rfl) ?_
  refine zw_aload_n dM_isFree_0 rfl ?_
  refine zw_get dM_isFree_1 zf_M_16 (by first | exact hM | exact hS) rfl ?_
  refine zw_iload_n dM_isFree_4 rfl ?_
  refine zw_iald dM_isFree_5 (by first | exact hM | exact hS) (vk hF hc) ?_
  rw [hcl, ek]
  refine zw_if_eq 30 dM_isFree_6 (by decide) (fun c_6 => ?_) (fun c_6 => ?_)
  · refine zw_iconst (v := 1) dM_isFree_30 (by decide) ?_
    refine zw_goto 35 dM_isFree_31 (by decide) ?_
    exact zw_iret dM_isFree_35 rfl rfl rfl ⟨by
  first
    | (rw [if_pos (ev.mp (Or.inl ((nI_eq (b := 0) (by omega) (by omega)).mp c_6)))])
    | (rw [if_pos (ev.mp (Or.inr (Or.inl ((nI_eq (b := 6) (by omega) (by omega)).mp c_17))))])
    | (rw [if_pos (ev.mp (Or.inr (Or.inr ((nI_eq (b := 4) (by omega) (by omega)).mp c_27))))])
    | (rw [if_pos (ev.mp (Or.inr (Or.inr ((nI_eq (b := 4) (by omega) (by omega)).mp (Classical.byContradiction c_27)))))])
    | (rw [if_neg (fun q => by
        rcases ev.mpr q with q | q | q
        · exact c_6 (by rw [q]; rfl)
        · exact c_17 (by rw [q]; rfl)
        · exact c_27 (by rw [q]; rfl))]), rfl⟩
  · refine zw_aload_n dM_isFree_9 rfl ?_
    refine zw_get dM_isFree_10 zf_M_16 (by first | exact hM | exact hS) rfl ?_
    refine zw_iload_n dM_isFree_13 rfl ?_
    refine zw_iald dM_isFree_14 (by first | exact hM | exact hS) (vk hF hc) ?_
    rw [hcl, ek]
    refine zw_bipush (v := 6) dM_isFree_15 (by decide) ?_
    refine zw_icmp_eq 30 dM_isFree_17 (by decide) (fun c_17 => ?_) (fun c_17 => ?_)
    · refine zw_iconst (v := 1) dM_isFree_30 (by decide) ?_
      refine zw_goto 35 dM_isFree_31 (by decide) ?_
      exact zw_iret dM_isFree_35 rfl rfl rfl ⟨by
  first
    | (rw [if_pos (ev.mp (Or.inl ((nI_eq (b := 0) (by omega) (by omega)).mp c_6)))])
    | (rw [if_pos (ev.mp (Or.inr (Or.inl ((nI_eq (b := 6) (by omega) (by omega)).mp c_17))))])
    | (rw [if_pos (ev.mp (Or.inr (Or.inr ((nI_eq (b := 4) (by omega) (by omega)).mp c_27))))])
    | (rw [if_pos (ev.mp (Or.inr (Or.inr ((nI_eq (b := 4) (by omega) (by omega)).mp (Classical.byContradiction c_27)))))])
    | (rw [if_neg (fun q => by
        rcases ev.mpr q with q | q | q
        · exact c_6 (by rw [q]; rfl)
        · exact c_17 (by rw [q]; rfl)
        · exact c_27 (by rw [q]; rfl))]), rfl⟩
    · refine zw_aload_n dM_isFree_20 rfl ?_
      refine zw_get dM_isFree_21 zf_M_16 (by first | exact hM | exact hS) rfl ?_
      refine zw_iload_n dM_isFree_24 rfl ?_
      refine zw_iald dM_isFree_25 (by first | exact hM | exact hS) (vk hF hc) ?_
      rw [hcl, ek]
      refine zw_iconst (v := 4) dM_isFree_26 (by decide) ?_
      refine zw_icmp_ne 34 dM_isFree_27 (by decide) (fun c_27 => ?_) (fun c_27 => ?_)
      · refine zw_iconst (v := 0) dM_isFree_34 (by decide) ?_
        exact zw_iret dM_isFree_35 rfl rfl rfl ⟨by
  first
    | (rw [if_pos (ev.mp (Or.inl ((nI_eq (b := 0) (by omega) (by omega)).mp c_6)))])
    | (rw [if_pos (ev.mp (Or.inr (Or.inl ((nI_eq (b := 6) (by omega) (by omega)).mp c_17))))])
    | (rw [if_pos (ev.mp (Or.inr (Or.inr ((nI_eq (b := 4) (by omega) (by omega)).mp c_27))))])
    | (rw [if_pos (ev.mp (Or.inr (Or.inr ((nI_eq (b := 4) (by omega) (by omega)).mp (Classical.byContradiction c_27)))))])
    | (rw [if_neg (fun q => by
        rcases ev.mpr q with q | q | q
        · exact c_6 (by rw [q]; rfl)
        · exact c_17 (by rw [q]; rfl)
        · exact c_27 (by rw [q]; rfl))]), rfl⟩
      · refine zw_iconst (v := 1) dM_isFree_30 (by decide) ?_
        refine zw_goto 35 dM_isFree_31 (by decide) ?_
        exact zw_iret dM_isFree_35 rfl rfl rfl ⟨by
  first
    | (rw [if_pos (ev.mp (Or.inl ((nI_eq (b := 0) (by omega) (by omega)).mp c_6)))])
    | (rw [if_pos (ev.mp (Or.inr (Or.inl ((nI_eq (b := 6) (by omega) (by omega)).mp c_17))))])
    | (rw [if_pos (ev.mp (Or.inr (Or.inr ((nI_eq (b := 4) (by omega) (by omega)).mp c_27))))])
    | (rw [if_pos (ev.mp (Or.inr (Or.inr ((nI_eq (b := 4) (by omega) (by omega)).mp (Classical.byContradiction c_27)))))])
    | (rw [if_neg (fun q => by
        rcases ev.mpr q with q | q | q
        · exact c_6 (by rw [q]; rfl)
        · exact c_17 (by rw [q]; rfl)
        · exact c_27 (by rw [q]; rfl))]), rfl⟩
theorem c_M_isDoor (hF : fOK F) (hM : h[31]? = some (mC F un le qa qb)) (hS : h[32]? = some (sC F S z)) {c : Nat} (hc : c < fN F) : Run l g mM_isDoor d 0 0 [.ref 31, .int (nI c)] h (PI (if fK F c = 4 then 1 else 0) h) := by
  have ev := (kdn_door (S := S) hF hc)
  have hlt := kdn_lt (S := S) hF hc
  have ek := ms_k (S := S) (z := z) hF hc
  have hcl := clk hF hc
  refine run_of (by decide) (Nat.le_of_ble_eq_true rfl) ?_
  refine zw_aload_n dM_isDoor_0 rfl ?_
  refine zw_get dM_isDoor_1 zf_M_16 (by first | exact hM | exact hS) rfl ?_
  refine zw_iload_n dM_isDoor_4 rfl ?_
  refine zw_iald dM_isDoor_5 (by first | exact hM | exact hS) (vk hF hc) ?_
  rw [hcl, ek]
  refine zw_iconst (v := 4) dM_isDoor_6 (by decide) ?_
  refine zw_icmp_eq 20 dM_isDoor_7 (by decide) (fun c_7 => ?_) (fun c_7 => ?_)
  · refine zw_iconst (v := 1) dM_isDoor_20 (by decide) ?_
    refine zw_goto 25 dM_isDoor_21 (by decide) ?_
    exact zw_iret dM_isDoor_25 rfl rfl rfl ⟨by
  first
    | (rw [if_pos (ev.mp (Or.inl ((nI_eq (b := 4) (by omega) (by omega)).mp c_7)))])
    | (rw [if_pos (ev.mp (Or.inr ((nI_eq (b := 5) (by omega) (by omega)).mp c_17)))])
    | (rw [if_neg (fun q => by
        rcases ev.mpr q with q | q
        · exact c_7 (by rw [q]; rfl)
        · exact c_17 (by rw [q]; rfl))]), rfl⟩
  · refine zw_aload_n dM_isDoor_10 rfl ?_
    refine zw_get dM_isDoor_11 zf_M_16 (by first | exact hM | exact hS) rfl ?_
    refine zw_iload_n dM_isDoor_14 rfl ?_
    refine zw_iald dM_isDoor_15 (by first | exact hM | exact hS) (vk hF hc) ?_
    rw [hcl, ek]
    refine zw_iconst (v := 5) dM_isDoor_16 (by decide) ?_
    refine zw_icmp_ne 24 dM_isDoor_17 (by decide) (fun c_17 => ?_) (fun c_17 => ?_)
    · refine zw_iconst (v := 0) dM_isDoor_24 (by decide) ?_
      exact zw_iret dM_isDoor_25 rfl rfl rfl ⟨by
  first
    | (rw [if_pos (ev.mp (Or.inl ((nI_eq (b := 4) (by omega) (by omega)).mp c_7)))])
    | (rw [if_pos (ev.mp (Or.inr ((nI_eq (b := 5) (by omega) (by omega)).mp c_17)))])
    | (rw [if_neg (fun q => by
        rcases ev.mpr q with q | q
        · exact c_7 (by rw [q]; rfl)
        · exact c_17 (by rw [q]; rfl))]), rfl⟩
    · refine zw_iconst (v := 1) dM_isDoor_20 (by decide) ?_
      refine zw_goto 25 dM_isDoor_21 (by decide) ?_
      exact zw_iret dM_isDoor_25 rfl rfl rfl ⟨by
  first
    | (rw [if_pos (ev.mp (Or.inl ((nI_eq (b := 4) (by omega) (by omega)).mp c_7)))])
    | (rw [if_pos (ev.mp (Or.inr ((nI_eq (b := 5) (by omega) (by omega)).mp c_17)))])
    | (rw [if_neg (fun q => by
        rcases ev.mpr q with q | q
        · exact c_7 (by rw [q]; rfl)
        · exact c_17 (by rw [q]; rfl))]), rfl⟩
theorem c_M_isOfRoom (hF : fOK F) (hM : h[31]? = some (mC F un le qa qb)) (hS : h[32]? = some (sC F S z)) {c : Nat} (hc : c < fN F) : Run l g mM_isOfRoom d 0 0 [.ref 31, .int (nI c)] h (PI (if rof F c = true then 1 else 0) h) := by
  have ev := (kdn_room (S := S) hF hc)
  have hlt := kdn_lt (S := S) hF hc
  have ek := ms_k (S := S) (z := z) hF hc
  have hcl := clk hF hc
  refine run_of (by decide) (Nat.le_of_ble_eq_true rfl) ?_
  refine zw_aload_n dM_isOfRoom_0 rfl ?_
  refine zw_get dM_isOfRoom_1 zf_M_16 (by first | exact hM | exact hS) rfl ?_
  refine zw_iload_n dM_isOfRoom_4 rfl ?_
  refine zw_iald dM_isOfRoom_5 (by first | exact hM | exact hS) (vk hF hc) ?_
  rw [hcl, ek]
  refine zw_if_eq 20 dM_isOfRoom_6 (by decide) (fun c_6 => ?_) (fun c_6 => ?_)
  · refine zw_iconst (v := 1) dM_isOfRoom_20 (by decide) ?_
    refine zw_goto 25 dM_isOfRoom_21 (by decide) ?_
    exact zw_iret dM_isOfRoom_25 rfl rfl rfl ⟨by
  first
    | (rw [if_pos (ev.mp (Or.inl ((nI_eq (b := 0) (by omega) (by omega)).mp c_6)))])
    | (rw [if_pos (ev.mp (Or.inr ((nI_eq (b := 6) (by omega) (by omega)).mp c_17)))])
    | (rw [if_neg (fun q => by
        rcases ev.mpr q with q | q
        · exact c_6 (by rw [q]; rfl)
        · exact c_17 (by rw [q]; rfl))]), rfl⟩
  · refine zw_aload_n dM_isOfRoom_9 rfl ?_
    refine zw_get dM_isOfRoom_10 zf_M_16 (by first | exact hM | exact hS) rfl ?_
    refine zw_iload_n dM_isOfRoom_13 rfl ?_
    refine zw_iald dM_isOfRoom_14 (by first | exact hM | exact hS) (vk hF hc) ?_
    rw [hcl, ek]
    refine zw_bipush (v := 6) dM_isOfRoom_15 (by decide) ?_
    refine zw_icmp_ne 24 dM_isOfRoom_17 (by decide) (fun c_17 => ?_) (fun c_17 => ?_)
    · refine zw_iconst (v := 0) dM_isOfRoom_24 (by decide) ?_
      exact zw_iret dM_isOfRoom_25 rfl rfl rfl ⟨by
  first
    | (rw [if_pos (ev.mp (Or.inl ((nI_eq (b := 0) (by omega) (by omega)).mp c_6)))])
    | (rw [if_pos (ev.mp (Or.inr ((nI_eq (b := 6) (by omega) (by omega)).mp c_17)))])
    | (rw [if_neg (fun q => by
        rcases ev.mpr q with q | q
        · exact c_6 (by rw [q]; rfl)
        · exact c_17 (by rw [q]; rfl))]), rfl⟩
    · refine zw_iconst (v := 1) dM_isOfRoom_20 (by decide) ?_
      refine zw_goto 25 dM_isOfRoom_21 (by decide) ?_
      exact zw_iret dM_isOfRoom_25 rfl rfl rfl ⟨by
  first
    | (rw [if_pos (ev.mp (Or.inl ((nI_eq (b := 0) (by omega) (by omega)).mp c_6)))])
    | (rw [if_pos (ev.mp (Or.inr ((nI_eq (b := 6) (by omega) (by omega)).mp c_17)))])
    | (rw [if_neg (fun q => by
        rcases ev.mpr q with q | q
        · exact c_6 (by rw [q]; rfl)
        · exact c_17 (by rw [q]; rfl))]), rfl⟩
end C51
