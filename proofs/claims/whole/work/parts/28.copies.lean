section C28
variable {l : Launch} {g : zG} {d : Nat} {h : zH} {F : Fl} {S S2 : Sit} {k k2 : Nat}
def ppl (pl : Nat → Nat → Bool) : Nat → Bool := fun e => pl (e / 4) (e % 4)
def nthP (pl : Nat → Nat → Bool) (j : Nat) : Option Nat := fst (fun e => ppl pl e && cnt (ppl pl) e == j) 144 0
def plK (S : Sit) (j : Nat) : Option Nat := if sLost S = true then nthP (sPl S) j else if j = 0 then some (4 * sAt S + sHd S) else none
theorem sh2 : ((2 : Int32) &&& 31).toBitVec.smod 32 = 2 := by decide
theorem c_S_placeAt (hS : h[k]? = some (sitC k S)) (hp : h[k + 1]? = some (plC S)) {j : Nat} (hj : j < 2 ^ 31) : Run l g mS_placeAt (d + 2) 0 0 [.ref k, .int (nI j)] h (PI (dI (plK S j)) h) := by
  refine run_of (by decide) (Nat.le_of_ble_eq_true rfl) ?_
  by_cases hl : sLost S = true
  · have efin : plK S j = nthP (sPl S) j := by unfold plK; rw [if_pos hl]
    rw [efin]
    have L : ∀ (m e : Nat), e + m = 144 → fst (fun e => ppl (sPl S) e && cnt (ppl (sPl S)) e == j) m e = nthP (sPl S) j → WW l g mS_placeAt (zrm (d + 2) 0 0) (fun _ => True) (zQQ g (PI (dI (nthP (sPl S) j)) h) (h.length + 0) 0 0) 32 [(0, some (.ref k)), (1, some (.int (nI j))), (2, some (.int (nI (cnt (ppl (sPl S)) e)))), (3, some (.int (nI e)))] [] h 0 0 := by
      intro m
      induction m with
      | zero =>
        intro e hem hfs
        have he : e = 144 := by omega
        subst he
        refine zw_iload_n dS_placeAt_32 rfl ?_
        refine zw_sipush (v := 144) dS_placeAt_33 (by decide) ?_
        refine zw_icmp_ge 72 dS_placeAt_36 (by decide) (fun c_36 => ?_) (fun c_36 => ?_)
        · refine zw_bipush (v := (-9)) dS_placeAt_72 (by decide) ?_
          exact zw_iret dS_placeAt_74 rfl rfl rfl ⟨by rw [← hfs]; rfl, rfl⟩
        · exact absurd (by decide) c_36
      | succ m ih =>
        intro e hem hfs
        have he4 : e % 4 < 4 := Nat.mod_lt _ (by decide)
        have hed : e / 4 < 36 := by omega
        have hcl := cnt_le (ppl (sPl S)) e
        have ho : oOK (some (e / 4)) := oOK_some hed
        have e1 : nI e &&& 3 = nI (e % 4) := pk_andN (m := 3) (by omega) 2 (by decide)
        have e2 : nI e >>> ((2 : Int32) &&& 31) = oI (some (e / 4)) := pk_shrN (by omega) _ 2 (by decide)
        have hpe : ppl (sPl S) e = sPl S (e / 4) (e % 4) := rfl
        generalize hq4 : e % 4 = r at he4 e1 hpe
        generalize hq5 : e / 4 = c at hed ho e2 hpe
        refine zw_iload_n dS_placeAt_32 rfl ?_
        refine zw_sipush (v := 144) dS_placeAt_33 (by decide) ?_
        refine zw_icmp_ge 72 dS_placeAt_36 (by decide) (fun c_36 => ?_) (fun c_36 => ?_)
        · exact absurd ((nI_leI (a := 144) (b := e) (by omega) (by omega)).mp c_36) (by omega)
        · refine zw_aload_n dS_placeAt_39 rfl ?_
          refine zw_get dS_placeAt_40 zf_S_9 (by first | exact hS | exact hp) rfl ?_
          refine zw_iload_n dS_placeAt_43 rfl ?_
          refine zw_iconst (v := 3) dS_placeAt_44 (by decide) ?_
          refine zw_iand dS_placeAt_45 ?_
          rw [e1]
          refine zw_lald dS_placeAt_46 (by first | exact hS | exact hp) (nI4 he4) ?_
          rw [cl4 he4]
          refine zw_iload_n dS_placeAt_47 rfl ?_
          refine zw_iconst (v := 2) dS_placeAt_48 (by decide) ?_
          refine zw_ishr dS_placeAt_49 ?_
          rw [e2]
          refine zc_S2I dS_placeAt_50 zm_F_holds zk_S_72 (c_F_holds ho) ?_ zRR (Nat.le_of_ble_eq_true rfl) ⟨Nat.le_of_ble_eq_true rfl, Nat.le_of_ble_eq_true rfl⟩
          refine zw_if_eq 66 dS_placeAt_53 (by decide) (fun c_53 => ?_) (fun c_53 => ?_)
          · refine zw_incN dS_placeAt_66 rfl (by decide) rfl ?_
            refine zw_goto 32 dS_placeAt_69 (by decide) ?_
            have hb : ppl (sPl S) e = false := by rw [hpe]; exact hb0 c_53
            have hc1 : cnt (ppl (sPl S)) (e + 1) = cnt (ppl (sPl S)) e := by simp [cnt, hb]
            refine zw_lk (ih (e + 1) (by omega) ?_) ⟨rfl, rfl, by rw [hc1]; rfl, rfl, trivial⟩
            rw [← hfs, fst_f]
            simp [hb]
          · have hb : ppl (sPl S) e = true := by rw [hpe]; exact hb1 c_53
            refine zw_iload_n dS_placeAt_56 rfl ?_
            refine zw_iload_n dS_placeAt_57 rfl ?_
            refine zw_icmp_ne 63 dS_placeAt_58 (by decide) (fun c_58 => ?_) (fun c_58 => ?_)
            · refine zw_incN dS_placeAt_63 rfl (by decide) rfl ?_
              refine zw_incN dS_placeAt_66 rfl (by decide) rfl ?_
              refine zw_goto 32 dS_placeAt_69 (by decide) ?_
              have hne : cnt (ppl (sPl S)) e ≠ j := fun q => c_58 (by rw [q])
              have hc1 : cnt (ppl (sPl S)) (e + 1) = cnt (ppl (sPl S)) e + 1 := by simp [cnt, hb]
              refine zw_lk (ih (e + 1) (by omega) ?_) ⟨rfl, rfl, by rw [hc1]; rfl, rfl, trivial⟩
              rw [← hfs, fst_f]
              simp [hb, hne]
            · refine zw_iload_n dS_placeAt_61 rfl ?_
              exact zw_iret dS_placeAt_62 rfl rfl rfl ⟨by rw [← hfs, fst_t (by rw [hb, Bool.true_and, beq_iff_eq]; exact Classical.byContradiction fun q => q ((nI_eq (by omega) hj).mp c_58))]; rfl, rfl⟩
    refine zw_aload_n dS_placeAt_0 rfl ?_
    refine zw_get dS_placeAt_1 zf_S_54 hS rfl ?_
    refine zw_if_ne 28 dS_placeAt_4 (by decide) (fun c_4 => ?_) (fun c_4 => ?_)
    · refine zw_iconst (v := 0) dS_placeAt_28 (by decide) ?_
      refine zw_istore_n dS_placeAt_29 (by decide) rfl ?_
      refine zw_iconst (v := 0) dS_placeAt_30 (by decide) ?_
      refine zw_istore_n dS_placeAt_31 (by decide) rfl ?_
      exact zw_lk (L 144 0 rfl rfl) ⟨rfl, rfl, rfl, rfl, trivial⟩
    · exact absurd hl (by rw [lost0 c_4]; decide)
  · have efin : plK S j = if j = 0 then some (4 * sAt S + sHd S) else none := by unfold plK; rw [if_neg hl]
    rw [efin]
    refine zw_aload_n dS_placeAt_0 rfl ?_
    refine zw_get dS_placeAt_1 zf_S_54 hS rfl ?_
    refine zw_if_ne 28 dS_placeAt_4 (by decide) (fun c_4 => ?_) (fun c_4 => ?_)
    · exact absurd (lost1 c_4) hl
    · refine zw_iload_n dS_placeAt_7 rfl ?_
      refine zw_if_ne 25 dS_placeAt_8 (by decide) (fun c_8 => ?_) (fun c_8 => ?_)
      · refine zw_bipush (v := (-9)) dS_placeAt_25 (by decide) ?_
        exact zw_iret dS_placeAt_27 rfl rfl rfl ⟨by first | (rw [if_pos ((nI_eq (b := 0) hj (by decide)).mp c_8)]; rfl) | (rw [if_neg (fun q => c_8 (by rw [q]; rfl))]; rfl), rfl⟩
      · refine zw_iconst (v := 4) dS_placeAt_11 (by decide) ?_
        refine zw_aload_n dS_placeAt_12 rfl ?_
        refine zw_get dS_placeAt_13 zf_S_35 hS rfl ?_
        refine zw_imul dS_placeAt_16 ?_
        rw [show (4 : Int32) = nI 4 from rfl, pk_mul]
        refine zw_aload_n dS_placeAt_17 rfl ?_
        refine zw_get dS_placeAt_18 zf_S_38 hS rfl ?_
        refine zw_iadd dS_placeAt_21 ?_
        rw [nI_add]
        refine zw_goto 27 dS_placeAt_22 (by decide) ?_
        exact zw_iret dS_placeAt_27 rfl rfl rfl ⟨by first | (rw [if_pos ((nI_eq (b := 0) hj (by decide)).mp c_8)]; rfl) | (rw [if_neg (fun q => c_8 (by rw [q]; rfl))]; rfl), rfl⟩
def bgS (F : Fl) (S : Sit) : Sit := (fun _ => false, 40, 5, fD F, 0, 40, fun i => if i = fD F then 1 else 0, false, sPl S)
theorem bg_1 (F : Fl) (S : Sit) : mset (oneO (some (fD F))) = mset (kn1 (bgS F S)) := by
  rw [oneO_some]
  apply mset_congr
  intro i _
  show (i == fD F) = ((if i = fD F then 1 else 0) == 1)
  by_cases e : i = fD F <;> simp [e]
theorem bg_2 (F : Fl) (S : Sit) : (0 : Int64) = mset (kn2 (bgS F S)) := by
  rw [m_0]
  apply mset_congr
  intro i _
  show false = ((if i = fD F then 1 else 0) == 2)
  by_cases e : i = fD F <;> simp [e]
theorem c_S_begin (hk4 : k ≠ 4) (hF : fOK F) (hG : h[4]? = some (gC F)) (hS : h[k]? = some (sitC k S)) (hp : h[k + 1]? = some (plC S)) : Run l g mS_begin (d + 1) 0 0 [.ref k] h (PV (hs2 k (bgS F S) h)) := by
  refine run_of (by decide) (Nat.le_of_ble_eq_true rfl) ?_
  have hd36 : oOK (some (fD F)) := oOK_some (by have := fN_le hF; have := hF.2.2.1; omega)
  refine zw_aload_n dS_begin_0 rfl ?_
  refine zw_lconst (v := 0) dS_begin_1 (by decide) ?_
  rw [m_0]
  refine zw_putl dS_begin_2 zf_S_19 (by first | exact hS | exact zg_eq hS | exact zg_ne hk4 hG) (Nat.le_of_ble_eq_true rfl) ?_
  refine zw_aload_n dS_begin_5 rfl ?_
  refine zw_bipush (v := 40) dS_begin_6 (by decide) ?_
  refine zw_puti dS_begin_8 zf_S_23 (by first | exact hS | exact zg_eq hS | exact zg_ne hk4 hG) (Nat.le_of_ble_eq_true rfl) ?_
  refine zw_h (zs_set _ _ _ _) ?_
  refine zw_aload_n dS_begin_11 rfl ?_
  refine zw_iconst (v := 5) dS_begin_12 (by decide) ?_
  refine zw_puti dS_begin_13 zf_S_27 (by first | exact hS | exact zg_eq hS | exact zg_ne hk4 hG) (Nat.le_of_ble_eq_true rfl) ?_
  refine zw_h (zs_set _ _ _ _) ?_
  refine zw_aload_n dS_begin_16 rfl ?_
  refine zw_aload_n dS_begin_17 rfl ?_
  refine zw_get dS_begin_18 zf_S_15 (by first | exact hS | exact zg_eq hS | exact zg_ne hk4 hG) rfl ?_
  refine zw_get dS_begin_21 zf_S_30 (by first | exact hS | exact zg_eq hS | exact zg_ne hk4 hG) rfl ?_
  refine zw_puti dS_begin_24 zf_S_35 (by first | exact hS | exact zg_eq hS | exact zg_ne hk4 hG) (Nat.le_of_ble_eq_true rfl) ?_
  refine zw_h (zs_set _ _ _ _) ?_
  refine zw_aload_n dS_begin_27 rfl ?_
  refine zw_iconst (v := 0) dS_begin_28 (by decide) ?_
  refine zw_puti dS_begin_29 zf_S_38 (by first | exact hS | exact zg_eq hS | exact zg_ne hk4 hG) (Nat.le_of_ble_eq_true rfl) ?_
  refine zw_h (zs_set _ _ _ _) ?_
  refine zw_aload_n dS_begin_32 rfl ?_
  refine zw_bipush (v := 40) dS_begin_33 (by decide) ?_
  refine zw_puti dS_begin_35 zf_S_41 (by first | exact hS | exact zg_eq hS | exact zg_ne hk4 hG) (Nat.le_of_ble_eq_true rfl) ?_
  refine zw_h (zs_set _ _ _ _) ?_
  refine zw_aload_n dS_begin_38 rfl ?_
  refine zw_aload_n dS_begin_39 rfl ?_
  refine zw_get dS_begin_40 zf_S_15 (by first | exact hS | exact zg_eq hS | exact zg_ne hk4 hG) rfl ?_
  refine zw_get dS_begin_43 zf_S_30 (by first | exact hS | exact zg_eq hS | exact zg_ne hk4 hG) rfl ?_
  refine zc_S1L dS_begin_46 zm_F_only zk_S_44 (c_F_only hd36) ?_ zRR (Nat.le_of_ble_eq_true rfl) ⟨Nat.le_of_ble_eq_true rfl, Nat.le_of_ble_eq_true rfl⟩
  rw [bg_1 F S]
  refine zw_putl dS_begin_49 zf_S_48 (by first | exact hS | exact zg_eq hS | exact zg_ne hk4 hG) (Nat.le_of_ble_eq_true rfl) ?_
  refine zw_h (zs_set _ _ _ _) ?_
  refine zw_aload_n dS_begin_52 rfl ?_
  refine zw_lconst (v := 0) dS_begin_53 (by decide) ?_
  rw [bg_2 F S]
  refine zw_putl dS_begin_54 zf_S_51 (by first | exact hS | exact zg_eq hS | exact zg_ne hk4 hG) (Nat.le_of_ble_eq_true rfl) ?_
  refine zw_h (zs_set _ _ _ _) ?_
  refine zw_aload_n dS_begin_57 rfl ?_
  refine zw_iconst (v := 0) dS_begin_58 (by decide) ?_
  refine zw_put dS_begin_59 zf_S_54 (by first | exact hS | exact zg_eq hS | exact zg_ne hk4 hG) rfl rfl (Nat.le_of_ble_eq_true rfl) ?_
  refine zw_h (zs_set _ _ _ _) ?_
  refine zw_h (h2 := hs2 k (bgS F S) h) (hs2_sit (S := S) (S' := bgS F S) rfl rfl hp) ?_
  exact zw_vret dS_begin_62 rfl (by rw [hs2_len]; rfl) ⟨rfl, rfl⟩
theorem cpy4 (f f2 : Nat → Int64) : ∀ j, j < 4 → va_cpy f f2 (0 : Int32).toNatClampNeg (0 : Int32).toNatClampNeg (4 : Int32).toNatClampNeg j = f j := by
  intro j hj
  have e0 : (0 : Int32).toNatClampNeg = 0 := by decide
  have e4 : (4 : Int32).toNatClampNeg = 4 := by decide
  rw [e0, e4]
  simp [va_cpy, hj]
theorem zac_R : 1 ≤ (zrm (d + 1) 0 0).frames ∧ (([] : List Value).map Value.category).sum + (nativeFrameWords "java/lang/System" "arraycopy" 5 + 11) ≤ (zrm (d + 1) 0 0).locals := by
  refine ⟨Nat.succ_le_succ (Nat.zero_le _), ?_⟩
  have : nativeFrameWords "java/lang/System" "arraycopy" 5 + 11 ≤ 38 := by decide
  show 0 + (nativeFrameWords "java/lang/System" "arraycopy" 5 + 11) ≤ 38 * (d + 1)
  omega
theorem c_S_copyFrom (hS : h[k]? = some (sitC k S)) (hp : h[k + 1]? = some (plC S)) (hS2 : h[k2]? = some (sitC k2 S2)) (hp2 : h[k2 + 1]? = some (plC S2)) (n1 : k ≠ k2) (n2 : k ≠ k2 + 1) : Run l g mS_copyFrom (d + 1) 0 0 [.ref k, .ref k2] h (PV (hs2 k S2 h)) := by
  refine run_of (by decide) (Nat.le_of_ble_eq_true rfl) ?_
  refine zw_aload_n dS_copyFrom_0 rfl ?_
  refine zw_aload_n dS_copyFrom_1 rfl ?_
  refine zw_get dS_copyFrom_2 zf_S_19 (by first | exact hS | exact hS2 | exact zg_eq hS | exact zg_ne n1 hS2) rfl ?_
  refine zw_putl dS_copyFrom_5 zf_S_19 (by first | exact hS | exact hS2 | exact zg_eq hS | exact zg_ne n1 hS2) (Nat.le_of_ble_eq_true rfl) ?_
  refine zw_aload_n dS_copyFrom_8 rfl ?_
  refine zw_aload_n dS_copyFrom_9 rfl ?_
  refine zw_get dS_copyFrom_10 zf_S_23 (by first | exact hS | exact hS2 | exact zg_eq hS | exact zg_ne n1 hS2) rfl ?_
  refine zw_puti dS_copyFrom_13 zf_S_23 (by first | exact hS | exact hS2 | exact zg_eq hS | exact zg_ne n1 hS2) (Nat.le_of_ble_eq_true rfl) ?_
  refine zw_h (zs_set _ _ _ _) ?_
  refine zw_aload_n dS_copyFrom_16 rfl ?_
  refine zw_aload_n dS_copyFrom_17 rfl ?_
  refine zw_get dS_copyFrom_18 zf_S_27 (by first | exact hS | exact hS2 | exact zg_eq hS | exact zg_ne n1 hS2) rfl ?_
  refine zw_puti dS_copyFrom_21 zf_S_27 (by first | exact hS | exact hS2 | exact zg_eq hS | exact zg_ne n1 hS2) (Nat.le_of_ble_eq_true rfl) ?_
  refine zw_h (zs_set _ _ _ _) ?_
  refine zw_aload_n dS_copyFrom_24 rfl ?_
  refine zw_aload_n dS_copyFrom_25 rfl ?_
  refine zw_get dS_copyFrom_26 zf_S_35 (by first | exact hS | exact hS2 | exact zg_eq hS | exact zg_ne n1 hS2) rfl ?_
  refine zw_puti dS_copyFrom_29 zf_S_35 (by first | exact hS | exact hS2 | exact zg_eq hS | exact zg_ne n1 hS2) (Nat.le_of_ble_eq_true rfl) ?_
  refine zw_h (zs_set _ _ _ _) ?_
  refine zw_aload_n dS_copyFrom_32 rfl ?_
  refine zw_aload_n dS_copyFrom_33 rfl ?_
  refine zw_get dS_copyFrom_34 zf_S_38 (by first | exact hS | exact hS2 | exact zg_eq hS | exact zg_ne n1 hS2) rfl ?_
  refine zw_puti dS_copyFrom_37 zf_S_38 (by first | exact hS | exact hS2 | exact zg_eq hS | exact zg_ne n1 hS2) (Nat.le_of_ble_eq_true rfl) ?_
  refine zw_h (zs_set _ _ _ _) ?_
  refine zw_aload_n dS_copyFrom_40 rfl ?_
  refine zw_aload_n dS_copyFrom_41 rfl ?_
  refine zw_get dS_copyFrom_42 zf_S_41 (by first | exact hS | exact hS2 | exact zg_eq hS | exact zg_ne n1 hS2) rfl ?_
  refine zw_puti dS_copyFrom_45 zf_S_41 (by first | exact hS | exact hS2 | exact zg_eq hS | exact zg_ne n1 hS2) (Nat.le_of_ble_eq_true rfl) ?_
  refine zw_h (zs_set _ _ _ _) ?_
  refine zw_aload_n dS_copyFrom_48 rfl ?_
  refine zw_aload_n dS_copyFrom_49 rfl ?_
  refine zw_get dS_copyFrom_50 zf_S_48 (by first | exact hS | exact hS2 | exact zg_eq hS | exact zg_ne n1 hS2) rfl ?_
  refine zw_putl dS_copyFrom_53 zf_S_48 (by first | exact hS | exact hS2 | exact zg_eq hS | exact zg_ne n1 hS2) (Nat.le_of_ble_eq_true rfl) ?_
  refine zw_h (zs_set _ _ _ _) ?_
  refine zw_aload_n dS_copyFrom_56 rfl ?_
  refine zw_aload_n dS_copyFrom_57 rfl ?_
  refine zw_get dS_copyFrom_58 zf_S_51 (by first | exact hS | exact hS2 | exact zg_eq hS | exact zg_ne n1 hS2) rfl ?_
  refine zw_putl dS_copyFrom_61 zf_S_51 (by first | exact hS | exact hS2 | exact zg_eq hS | exact zg_ne n1 hS2) (Nat.le_of_ble_eq_true rfl) ?_
  refine zw_h (zs_set _ _ _ _) ?_
  refine zw_aload_n dS_copyFrom_64 rfl ?_
  refine zw_aload_n dS_copyFrom_65 rfl ?_
  refine zw_get dS_copyFrom_66 zf_S_54 (by first | exact hS | exact hS2 | exact zg_eq hS | exact zg_ne n1 hS2) rfl ?_
  refine zw_put dS_copyFrom_69 zf_S_54 (by first | exact hS | exact hS2 | exact zg_eq hS | exact zg_ne n1 hS2) (by cases sLost S2 <;> rfl) (by cases sLost S2 <;> rfl) (Nat.le_of_ble_eq_true rfl) ?_
  refine zw_h (zs_set _ _ _ _) ?_
  refine zw_aload_n dS_copyFrom_72 rfl ?_
  refine zw_get dS_copyFrom_73 zf_S_9 (by first | exact hS | exact hS2 | exact zg_eq hS | exact zg_ne n1 hS2) rfl ?_
  refine zw_iconst (v := 0) dS_copyFrom_76 (by decide) ?_
  refine zw_aload_n dS_copyFrom_77 rfl ?_
  refine zw_get dS_copyFrom_78 zf_S_9 (by first | exact hS | exact hS2 | exact zg_eq hS | exact zg_ne n1 hS2) rfl ?_
  refine zw_iconst (v := 0) dS_copyFrom_81 (by decide) ?_
  refine zw_iconst (v := 4) dS_copyFrom_82 (by decide) ?_
  refine zw_copyl dS_copyFrom_83 zk_S_58 zac_n zac_s zac_i (zg_ne n2 hp2) (zg_ne (by omega) hp) (by decide) (by decide) (by decide) (by decide) (by decide) zac_R ?_
  refine zw_extl (fun j => mset (fun c => sPl S2 c j)) (zg_eq (zg_ne (by omega) hp)) (cpy4 _ _) ?_
  refine zw_h (h2 := hs2 k S2 h) (zs_set _ _ _ _) ?_
  exact zw_vret dS_copyFrom_86 rfl (by rw [hs2_len]; rfl) ⟨rfl, rfl⟩
end C28
