section C27
variable {l : Launch} {g : zG} {d : Nat} {h : zH} {F : Fl} {S : Sit} {k : Nat}
theorem told_pl (F : Fl) (S : Sit) (pl : Nat → Nat → Bool) (o : Option Nat) : told F (setPl S pl) o = told F S o := by cases o <;> rfl
theorem turnP_0 (pl : Nat → Nat → Bool) : ∀ c j, j < 4 → turnP 0 pl c j = pl c j := by
  intro c j hj
  unfold turnP
  rw [show (j + 4 - 0) % 4 = j by omega]
theorem turnP_s (pl : Nat → Nat → Bool) {i : Nat} (hi : i < 3) : ∀ c j, j < 4 → turnP 1 (turnP i pl) c j = turnP (i + 1) pl c j := by
  intro c j hj
  unfold turnP
  rw [show ((j + 4 - 1) % 4 + 4 - i) % 4 = (j + 4 - (i + 1)) % 4 by omega]
theorem setPl_setPl (S : Sit) (a b : Nat → Nat → Bool) : setPl (setPl S a) b = setPl S b := rfl
theorem sPl_setPl (S : Sit) (a : Nat → Nat → Bool) : sPl (setPl S a) = a := rfl
theorem setPl_self (S : Sit) : setPl S (sPl S) = S := rfl
theorem sHd_setHd (S : Sit) (a : Nat) : sPl (setHd S a) = sPl S := rfl
theorem sLost_setPl (S : Sit) (a : Nat → Nat → Bool) : sLost (setPl S a) = sLost S := rfl
theorem sLost_setHd (S : Sit) (a : Nat) : sLost (setHd S a) = sLost S := rfl
/-- places count for the four headings alone -/
theorem zw_plx {M : zM} {R : Room} {Z : State → Prop} {QQ : List Frame → Array Value → State → State → Prop} {pc : Nat} {ls : zL} {st : List Value} {kc nc : Nat} (P : Nat → Nat → Bool) (hS : h[k]? = some (sitC k S)) (hp : h[k + 1]? = some (plC S)) (he : ∀ c j, j < 4 → sPl S c j = P c j) (kk : WW l g M R Z QQ pc ls st (hs2 k (setPl S P) h) kc nc) : WW l g M R Z QQ pc ls st h kc nc := by
  refine zw_extl (fun j => mset (fun c => P c j)) hp (fun j hj => by rw [show (fun c => sPl S c j) = (fun c => P c j) from funext fun c => he c j hj]) ?_
  exact zw_h (hs2_pl (S := S) (S' := setPl S P) rfl rfl hS) kk
theorem c_S_turn (hS : h[k]? = some (sitC k S)) (hp : h[k + 1]? = some (plC S)) {q : Nat} (hq : q < 4) (hh : sHd S < 4) : Run l g mS_turn (d + 3) 0 0 [.ref k, .int (nI q)] h (PV (hs2 k (turnS S q) h)) := by
  refine run_of (by decide) (Nat.le_of_ble_eq_true rfl) ?_
  have efin0 : ∀ hn, (sHd S + q) % 4 = hn → turnS S q = if sLost S = true then found (setPl (setHd S hn) (turnP q (sPl S))) else setHd S hn := fun hn e => by unfold turnS; rw [e]
  have ct := c_F_turned (l := l) (g := g) (d := d + 2) (h := h) hh hq
  generalize (sHd S + q) % 4 = hn at efin0 ct
  have efin := efin0 hn rfl
  have hhS : (hs2 k (setHd S hn) h)[k]? = some (sitC k (setHd S hn)) := hs2_k hS
  have hhp : (hs2 k (setHd S hn) h)[k + 1]? = some (plC (setHd S hn)) := hs2_p hp
  by_cases hl : sLost S = true
  · rw [if_pos hl] at efin
    rw [efin]
    have L : ∀ (m i : Nat) (P : Nat → Nat → Bool), (∀ c j, j < 4 → P c j = turnP i (sPl S) c j) → i + m = q → WW l g mS_turn (zrm (d + 3) 0 0) (fun _ => True) (zQQ g (PV (hs2 k (found (setPl (setHd S hn) (turnP q (sPl S)))) h)) (h.length + 0) 0 0) 21 [(0, some (.ref k)), (1, some (.int (nI q))), (2, some (.int (nI i)))] [] (hs2 k (setPl (setHd S hn) P) h) 0 0 := by
      intro m
      induction m with
      | zero =>
        intro i P hP him
        have hi : i = q := by omega
        subst hi
        refine zw_plx (turnP i (sPl S)) (hs2_k hS) (hs2_p hp) hP ?_
        rw [hs2_hs2, setPl_setPl]
        generalize turnP i (sPl S) = Q
        have hS1 : (hs2 k (setPl (setHd S hn) Q) h)[k]? = some (sitC k (setPl (setHd S hn) Q)) := hs2_k hS
        have hp1 : (hs2 k (setPl (setHd S hn) Q) h)[k + 1]? = some (plC (setPl (setHd S hn) Q)) := hs2_p hp
        refine zw_iload_n dS_turn_21 rfl ?_
        refine zw_iload_n dS_turn_22 rfl ?_
        refine zw_icmp_ge 41 dS_turn_23 (by decide) (fun c_23 => ?_) (fun c_23 => ?_)
        · refine zw_aload_n dS_turn_41 rfl ?_
          refine zc_V0V dS_turn_42 zm_S_beFoundIfSure zk_S_112 hS1 rfl (c_S_beFoundIfSure hS1 hp1) ?_ zRR (Nat.le_of_ble_eq_true rfl) ⟨Nat.le_of_ble_eq_true rfl, Nat.le_of_ble_eq_true rfl⟩
          exact zw_vret dS_turn_45 rfl (by rw [hs2_len, hs2_len]; rfl) ⟨rfl, hs2_hs2 _ _ _ _⟩
        · exact absurd (Int32.le_refl _) c_23
      | succ m ih =>
        intro i P hP him
        have hS1 : (hs2 k (setPl (setHd S hn) P) h)[k]? = some (sitC k (setPl (setHd S hn) P)) := hs2_k hS
        have hp1 : (hs2 k (setPl (setHd S hn) P) h)[k + 1]? = some (plC (setPl (setHd S hn) P)) := hs2_p hp
        have ct1 := c_S_turnPlaces (l := l) (g := g) (d := d + 2) hS1 hp1
        rw [hs2_hs2, setPl_setPl, sPl_setPl] at ct1
        have hP1 : ∀ c j, j < 4 → turnP 1 P c j = turnP (i + 1) (sPl S) c j := fun c j hj => by
          rw [← turnP_s (sPl S) (by omega) c j hj]
          unfold turnP
          exact hP c _ (Nat.mod_lt _ (by decide))
        generalize turnP 1 P = P1 at ct1 hP1
        refine zw_iload_n dS_turn_21 rfl ?_
        refine zw_iload_n dS_turn_22 rfl ?_
        refine zw_icmp_ge 41 dS_turn_23 (by decide) (fun c_23 => ?_) (fun c_23 => ?_)
        · exact absurd ((nI_leI (by omega) (by omega)).mp c_23) (by omega)
        · refine zw_iload_n dS_turn_26 rfl ?_
          refine zw_iconst (v := 4) dS_turn_27 (by decide) ?_
          refine zw_icmp_ge 41 dS_turn_28 (by decide) (fun c_28 => ?_) (fun c_28 => ?_)
          · exact absurd ((nI_leI (a := 4) (b := i) (by omega) (by omega)).mp c_28) (by omega)
          · refine zw_aload_n dS_turn_31 rfl ?_
            refine zc_V0V dS_turn_32 zm_S_turnPlaces zk_S_109 hS1 rfl ct1 ?_ zRR (Nat.le_of_ble_eq_true rfl) ⟨Nat.le_of_ble_eq_true rfl, Nat.le_of_ble_eq_true rfl⟩
            refine zw_incN dS_turn_35 rfl (by decide) rfl ?_
            refine zw_goto 21 dS_turn_38 (by decide) ?_
            exact zw_lk (ih (i + 1) P1 hP1 (by omega)) ⟨rfl, rfl, rfl, trivial⟩
    refine zw_aload_n dS_turn_0 rfl ?_
    refine zw_aload_n dS_turn_1 rfl ?_
    refine zw_get dS_turn_2 zf_S_38 hS rfl ?_
    refine zw_iload_n dS_turn_5 rfl ?_
    refine zc_S2I dS_turn_6 zm_F_turned zk_S_106 ct ?_ zRR (Nat.le_of_ble_eq_true rfl) ⟨Nat.le_of_ble_eq_true rfl, Nat.le_of_ble_eq_true rfl⟩
    refine zw_puti dS_turn_9 zf_S_38 hS (Nat.le_of_ble_eq_true rfl) ?_
    refine zw_h (h2 := hs2 k (setHd S hn) h) (hs2_sit (S := S) rfl rfl hp) ?_
    refine zw_aload_n dS_turn_12 rfl ?_
    refine zw_get dS_turn_13 zf_S_54 hhS rfl ?_
    refine zw_if_eq 45 dS_turn_16 (by decide) (fun c_16 => ?_) (fun c_16 => ?_)
    · exact absurd hl (by rw [show sLost S = false from lost0 c_16]; decide)
    · refine zw_iconst (v := 0) dS_turn_19 (by decide) ?_
      refine zw_istore_n dS_turn_20 (by decide) rfl ?_
      refine zw_h (h2 := hs2 k (setPl (setHd S hn) (sPl S)) h) rfl ?_
      exact zw_lk (L q 0 (sPl S) (fun c j hj => (turnP_0 (sPl S) c j hj).symm) (by omega)) ⟨rfl, rfl, rfl, trivial⟩
  · rw [if_neg hl] at efin
    rw [efin]
    refine zw_aload_n dS_turn_0 rfl ?_
    refine zw_aload_n dS_turn_1 rfl ?_
    refine zw_get dS_turn_2 zf_S_38 hS rfl ?_
    refine zw_iload_n dS_turn_5 rfl ?_
    refine zc_S2I dS_turn_6 zm_F_turned zk_S_106 ct ?_ zRR (Nat.le_of_ble_eq_true rfl) ⟨Nat.le_of_ble_eq_true rfl, Nat.le_of_ble_eq_true rfl⟩
    refine zw_puti dS_turn_9 zf_S_38 hS (Nat.le_of_ble_eq_true rfl) ?_
    refine zw_h (h2 := hs2 k (setHd S hn) h) (hs2_sit (S := S) rfl rfl hp) ?_
    refine zw_aload_n dS_turn_12 rfl ?_
    refine zw_get dS_turn_13 zf_S_54 hhS rfl ?_
    refine zw_if_eq 45 dS_turn_16 (by decide) (fun c_16 => ?_) (fun c_16 => ?_)
    · exact zw_vret dS_turn_45 rfl (by rw [hs2_len]; rfl) ⟨rfl, rfl⟩
    · exact absurd (lost1 c_16) hl
def sAcc (F : Fl) (S : Sit) : Nat → Nat
  | 0 => 0
  | i + 1 => sAcc F S i * 3 + scanT F S i
def kPs (F : Fl) (S : Sit) : Nat → Nat → Nat → Bool
  | 0 => sPl S
  | i + 1 => keepP F S (scanT F S i) i (kPs F S i)
theorem scanT_lt (F : Fl) (S : Sit) (q : Nat) : scanT F S q < 3 := by
  unfold scanT
  cases nb F (sAt S) ((sHd S + q) % 4) with
  | none => exact (by decide : 1 < 3)
  | some c => simp only [told]; split; decide; split <;> decide
theorem sAcc_4 (F : Fl) (S : Sit) : sAcc F S 4 = scanO F S := by simp [sAcc, scanO]
theorem sAcc_lt (F : Fl) (S : Sit) : ∀ i, i ≤ 4 → sAcc F S i ≤ 80 := by
  have h0 := scanT_lt F S 0; have h1 := scanT_lt F S 1; have h2 := scanT_lt F S 2; have h3 := scanT_lt F S 3
  intro i hi
  rcases (show i = 0 ∨ i = 1 ∨ i = 2 ∨ i = 3 ∨ i = 4 by omega) with rfl | rfl | rfl | rfl | rfl <;> simp only [sAcc] <;> omega
theorem c_S_scanAround (hk4 : k ≠ 4 ∧ k + 1 ≠ 4) (hF : fOK F) (hG : h[4]? = some (gC F)) (hS : h[k]? = some (sitC k S)) (hp : h[k + 1]? = some (plC S)) (hh : sHd S < 4) (hat : sAt S < fN F) : Run l g mS_scanAround (d + 3) 0 0 [.ref k] h (PI (nI (scanO F S)) (hs2 k (scanS F S) h)) := by
  refine run_of (by decide) (Nat.le_of_ble_eq_true rfl) ?_
  cases hl : sLost S with
  | false =>
    have efin : hs2 k (scanS F S) h = h := by unfold scanS; rw [hl]; exact hs2_self hS hp
    have L : ∀ (m i : Nat), i + m = 4 → WW l g mS_scanAround (zrm (d + 3) 0 0) (fun _ => True) (zQQ g (PI (nI (scanO F S)) (hs2 k (scanS F S) h)) (h.length + 0) 0 0) 4 [(0, some (.ref k)), (1, some (.int (nI (sAcc F S i)))), (2, some (.int (nI i)))] [] h 0 0 := by
      intro m
      induction m with
      | zero =>
        intro i him
        have hi : i = 4 := by omega
        subst hi
        refine zw_iload_n dS_scanAround_4 rfl ?_
        refine zw_iconst (v := 4) dS_scanAround_5 (by decide) ?_
        refine zw_icmp_ge 58 dS_scanAround_6 (by decide) (fun c_6 => ?_) (fun c_6 => ?_)
        · refine zw_aload_n dS_scanAround_58 rfl ?_
          refine zw_get dS_scanAround_59 zf_S_54 hS rfl ?_
          refine zw_if_eq 69 dS_scanAround_62 (by decide) (fun c_62 => ?_) (fun c_62 => ?_)
          · refine zw_iload_n dS_scanAround_69 rfl ?_
            exact zw_iret dS_scanAround_70 rfl rfl rfl ⟨by rw [sAcc_4], efin.symm⟩
          · exact absurd (show (if sLost S = true then (1 : Int32) else 0) = 0 by rw [hl]; rfl) c_62
        · exact absurd (by decide) c_6
      | succ m ih =>
        intro i him
        have hi : i < 4 := by omega
        have hm : (sHd S + i) % 4 < 4 := Nat.mod_lt _ (by decide)
        obtain ⟨hnb, hnO⟩ := nb_ok hF hat hm
        refine zw_iload_n dS_scanAround_4 rfl ?_
        refine zw_iconst (v := 4) dS_scanAround_5 (by decide) ?_
        refine zw_icmp_ge 58 dS_scanAround_6 (by decide) (fun c_6 => ?_) (fun c_6 => ?_)
        · exact absurd ((nI_leI (a := 4) (b := i) (by omega) (by omega)).mp c_6) (by omega)
        · refine zw_aload_n dS_scanAround_9 rfl ?_
          refine zw_aload_n dS_scanAround_10 rfl ?_
          refine zw_get dS_scanAround_11 zf_S_15 (by first | exact hS | exact hG) rfl ?_
          refine zw_aload_n dS_scanAround_14 rfl ?_
          refine zw_get dS_scanAround_15 zf_S_35 (by first | exact hS | exact hG) rfl ?_
          refine zw_aload_n dS_scanAround_18 rfl ?_
          refine zw_get dS_scanAround_19 zf_S_38 (by first | exact hS | exact hG) rfl ?_
          refine zw_iload_n dS_scanAround_22 rfl ?_
          refine zc_S2I dS_scanAround_23 zm_F_turned zk_S_106 (c_F_turned hh hi) ?_ zRR (Nat.le_of_ble_eq_true rfl) ⟨Nat.le_of_ble_eq_true rfl, Nat.le_of_ble_eq_true rfl⟩
          refine zc_V2I dS_scanAround_26 zm_G_cellBeside zk_S_86 (by first | exact hS | exact hG) rfl (c_G_cellBeside hF hG hat hm) ?_ zRR (Nat.le_of_ble_eq_true rfl) ⟨Nat.le_of_ble_eq_true rfl, Nat.le_of_ble_eq_true rfl⟩
          refine zc_V1I dS_scanAround_29 zm_S_seenAt zk_S_115 (by first | exact hS | exact hG) rfl (c_S_seenAt hF hG hS hnO hnb) ?_ zRR (Nat.le_of_ble_eq_true rfl) ⟨Nat.le_of_ble_eq_true rfl, Nat.le_of_ble_eq_true rfl⟩
          refine zw_istore_n dS_scanAround_32 (by decide) rfl ?_
          refine zw_iload_n dS_scanAround_33 rfl ?_
          refine zw_iconst (v := 3) dS_scanAround_34 (by decide) ?_
          refine zw_imul dS_scanAround_35 ?_
          rw [show (3 : Int32) = nI 3 from rfl, pk_mul]
          refine zw_iload_n dS_scanAround_36 rfl ?_
          refine zw_iadd dS_scanAround_37 ?_
          rw [nI_add, show told F S (nb F (sAt S) ((sHd S + i) % 4)) = scanT F S i from rfl, show sAcc F S i * 3 + scanT F S i = sAcc F S (i + 1) from rfl]
          refine zw_istore_n dS_scanAround_38 (by decide) rfl ?_
          refine zw_aload_n dS_scanAround_39 rfl ?_
          refine zw_get dS_scanAround_40 zf_S_54 (by first | exact hS | exact hG) rfl ?_
          refine zw_if_eq 52 dS_scanAround_43 (by decide) (fun c_43 => ?_) (fun c_43 => ?_)
          · refine zw_incN dS_scanAround_52 rfl (by decide) rfl ?_
            refine zw_goto 4 dS_scanAround_55 (by decide) ?_
            exact zw_lk (ih (i + 1) (by omega)) ⟨rfl, rfl, rfl, trivial⟩
          · exact absurd (show (if sLost S = true then (1 : Int32) else 0) = 0 by rw [hl]; rfl) c_43
    refine zw_iconst (v := 0) dS_scanAround_0 (by decide) ?_
    refine zw_istore_n dS_scanAround_1 (by decide) rfl ?_
    refine zw_iconst (v := 0) dS_scanAround_2 (by decide) ?_
    refine zw_istore_n dS_scanAround_3 (by decide) rfl ?_
    exact zw_lk (L 4 0 rfl) ⟨rfl, rfl, rfl, trivial⟩
  | true =>
    have L : ∀ (m i : Nat), i + m = 4 → WW l g mS_scanAround (zrm (d + 3) 0 0) (fun _ => True) (zQQ g (PI (nI (scanO F S)) (hs2 k (scanS F S) h)) (h.length + 0) 0 0) 4 [(0, some (.ref k)), (1, some (.int (nI (sAcc F S i)))), (2, some (.int (nI i)))] [] (hs2 k (setPl S (kPs F S i)) h) 0 0 := by
      intro m
      induction m with
      | zero =>
        intro i him
        have hi : i = 4 := by omega
        subst hi
        have hS1 : (hs2 k (setPl S (kPs F S 4)) h)[k]? = some (sitC k (setPl S (kPs F S 4))) := hs2_k hS
        have hp1 : (hs2 k (setPl S (kPs F S 4)) h)[k + 1]? = some (plC (setPl S (kPs F S 4))) := hs2_p hp
        refine zw_iload_n dS_scanAround_4 rfl ?_
        refine zw_iconst (v := 4) dS_scanAround_5 (by decide) ?_
        refine zw_icmp_ge 58 dS_scanAround_6 (by decide) (fun c_6 => ?_) (fun c_6 => ?_)
        · refine zw_aload_n dS_scanAround_58 rfl ?_
          refine zw_get dS_scanAround_59 zf_S_54 hS1 rfl ?_
          refine zw_if_eq 69 dS_scanAround_62 (by decide) (fun c_62 => ?_) (fun c_62 => ?_)
          · exact absurd (lost0 c_62) (by show ¬ sLost S = false; rw [hl]; decide)
          · refine zw_aload_n dS_scanAround_65 rfl ?_
            refine zc_V0V dS_scanAround_66 zm_S_beFoundIfSure zk_S_112 hS1 rfl (c_S_beFoundIfSure hS1 hp1) ?_ zRR (Nat.le_of_ble_eq_true rfl) ⟨Nat.le_of_ble_eq_true rfl, Nat.le_of_ble_eq_true rfl⟩
            refine zw_iload_n dS_scanAround_69 rfl ?_
            exact zw_iret dS_scanAround_70 rfl rfl (by rw [hs2_len, hs2_len]; rfl) ⟨by rw [sAcc_4], by unfold scanS; rw [if_pos hl, hs2_hs2]; rfl⟩
        · exact absurd (by decide) c_6
      | succ m ih =>
        intro i him
        have hi : i < 4 := by omega
        have hm : (sHd S + i) % 4 < 4 := Nat.mod_lt _ (by decide)
        obtain ⟨hnb, hnO⟩ := nb_ok hF hat hm
        have hS1 : (hs2 k (setPl S (kPs F S i)) h)[k]? = some (sitC k (setPl S (kPs F S i))) := hs2_k hS
        have hp1 : (hs2 k (setPl S (kPs F S i)) h)[k + 1]? = some (plC (setPl S (kPs F S i))) := hs2_p hp
        have hG1 : (hs2 k (setPl S (kPs F S i)) h)[4]? = some (gC F) := hs2_ne hk4.1 hk4.2 hG
        refine zw_iload_n dS_scanAround_4 rfl ?_
        refine zw_iconst (v := 4) dS_scanAround_5 (by decide) ?_
        refine zw_icmp_ge 58 dS_scanAround_6 (by decide) (fun c_6 => ?_) (fun c_6 => ?_)
        · exact absurd ((nI_leI (a := 4) (b := i) (by omega) (by omega)).mp c_6) (by omega)
        · refine zw_aload_n dS_scanAround_9 rfl ?_
          refine zw_aload_n dS_scanAround_10 rfl ?_
          refine zw_get dS_scanAround_11 zf_S_15 (by first | exact hS1 | exact hG1) rfl ?_
          refine zw_aload_n dS_scanAround_14 rfl ?_
          refine zw_get dS_scanAround_15 zf_S_35 (by first | exact hS1 | exact hG1) rfl ?_
          refine zw_aload_n dS_scanAround_18 rfl ?_
          refine zw_get dS_scanAround_19 zf_S_38 (by first | exact hS1 | exact hG1) rfl ?_
          refine zw_iload_n dS_scanAround_22 rfl ?_
          refine zc_S2I dS_scanAround_23 zm_F_turned zk_S_106 (c_F_turned (a := sHd S) hh hi) ?_ zRR (Nat.le_of_ble_eq_true rfl) ⟨Nat.le_of_ble_eq_true rfl, Nat.le_of_ble_eq_true rfl⟩
          refine zc_V2I dS_scanAround_26 zm_G_cellBeside zk_S_86 (by first | exact hS1 | exact hG1) rfl (c_G_cellBeside (c := sAt S) hF hG1 hat hm) ?_ zRR (Nat.le_of_ble_eq_true rfl) ⟨Nat.le_of_ble_eq_true rfl, Nat.le_of_ble_eq_true rfl⟩
          refine zc_V1I dS_scanAround_29 zm_S_seenAt zk_S_115 (by first | exact hS1 | exact hG1) rfl (c_S_seenAt hF hG1 hS1 hnO hnb) ?_ zRR (Nat.le_of_ble_eq_true rfl) ⟨Nat.le_of_ble_eq_true rfl, Nat.le_of_ble_eq_true rfl⟩
          rw [told_pl, show told F S (nb F (sAt S) ((sHd S + i) % 4)) = scanT F S i from rfl]
          refine zw_istore_n dS_scanAround_32 (by decide) rfl ?_
          refine zw_iload_n dS_scanAround_33 rfl ?_
          refine zw_iconst (v := 3) dS_scanAround_34 (by decide) ?_
          refine zw_imul dS_scanAround_35 ?_
          rw [show (3 : Int32) = nI 3 from rfl, pk_mul]
          refine zw_iload_n dS_scanAround_36 rfl ?_
          refine zw_iadd dS_scanAround_37 ?_
          rw [nI_add, show sAcc F S i * 3 + scanT F S i = sAcc F S (i + 1) from rfl]
          refine zw_istore_n dS_scanAround_38 (by decide) rfl ?_
          refine zw_aload_n dS_scanAround_39 rfl ?_
          refine zw_get dS_scanAround_40 zf_S_54 (by first | exact hS1 | exact hG1) rfl ?_
          refine zw_if_eq 52 dS_scanAround_43 (by decide) (fun c_43 => ?_) (fun c_43 => ?_)
          · exact absurd (lost0 c_43) (by show ¬ sLost S = false; rw [hl]; decide)
          · refine zw_aload_n dS_scanAround_46 rfl ?_
            refine zw_iload_n dS_scanAround_47 rfl ?_
            refine zw_iload_n dS_scanAround_48 rfl ?_
            refine zc_V2V dS_scanAround_49 zm_S_keepPlacesThatSee zk_S_118 (by first | exact hS1 | exact hG1) rfl (c_S_keepPlacesThatSee hk4 hF hG1 hS1 hp1 (scanT_lt F S i) hi) ?_ zRR (Nat.le_of_ble_eq_true rfl) ⟨Nat.le_of_ble_eq_true rfl, Nat.le_of_ble_eq_true rfl⟩
            refine zw_h (h2 := hs2 k (setPl S (kPs F S (i + 1))) h) (hs2_hs2 _ _ _ _) ?_
            refine zw_incN dS_scanAround_52 rfl (by decide) rfl ?_
            refine zw_goto 4 dS_scanAround_55 (by decide) ?_
            exact zw_lk (ih (i + 1) (by omega)) ⟨rfl, rfl, rfl, trivial⟩
    have e0 : h = hs2 k (setPl S (kPs F S 0)) h := by
      rw [show setPl S (kPs F S 0) = S from rfl, hs2_self hS hp]
    refine zw_iconst (v := 0) dS_scanAround_0 (by decide) ?_
    refine zw_istore_n dS_scanAround_1 (by decide) rfl ?_
    refine zw_iconst (v := 0) dS_scanAround_2 (by decide) ?_
    refine zw_istore_n dS_scanAround_3 (by decide) rfl ?_
    refine zw_h e0 ?_
    exact zw_lk (L 4 0 rfl) ⟨rfl, rfl, rfl, trivial⟩
theorem c_S_carryTo (hk4 : k ≠ 4 ∧ k + 1 ≠ 4) (hF : fOK F) (hG : h[4]? = some (gC F)) (hS : h[k]? = some (sitC k S)) (hp : h[k + 1]? = some (plC S)) {c hd : Nat} : Run l g mS_carryTo (d + 3) 0 0 [.ref k, .int (nI c), .int (nI hd)] h (PI (nI (many (carP F S))) (hs2 k (carS F S c hd) h)) := by
  refine run_of (by decide) (Nat.le_of_ble_eq_true rfl) ?_
  generalize hS1e : setLost (setHd (setAt' S c) hd) true = S1
  have hSa : (hs2 k (setAt' S c) h)[k]? = some (sitC k (setAt' S c)) := hs2_k hS
  have hpa : (hs2 k (setAt' S c) h)[k + 1]? = some (plC (setAt' S c)) := hs2_p hp
  have hSb : (hs2 k (setHd (setAt' S c) hd) h)[k]? = some (sitC k (setHd (setAt' S c) hd)) := hs2_k hS
  have hpb : (hs2 k (setHd (setAt' S c) hd) h)[k + 1]? = some (plC (setHd (setAt' S c) hd)) := hs2_p hp
  have hSc : (hs2 k S1 h)[k]? = some (sitC k S1) := hs2_k hS
  have hpc : (hs2 k S1 h)[k + 1]? = some (plC S1) := hs2_p hp
  have hGc : (hs2 k S1 h)[4]? = some (gC F) := hs2_ne hk4.1 hk4.2 hG
  have hpl : setPl S1 (carP F S) = carS0 F S c hd := by rw [← hS1e]; rfl
  have hmay : mayS F S1 0 = fun x => carP F S x 0 := by rw [← hS1e]; rfl
  have L : ∀ (m i : Nat), i + m = 4 → WW l g mS_carryTo (zrm (d + 3) 0 0) (fun _ => True) (zQQ g (PI (nI (many (carP F S))) (hs2 k (carS F S c hd) h)) (h.length + 0) 0 0) 17 [(0, some (.ref k)), (1, some (.int (nI c))), (2, some (.int (nI hd))), (3, some (.int (nI i)))] [] ((hs2 k S1 h).set (k + 1) (.inl (1, 4, .inr (.inl (mixP (sPl S1) (carP F S) i))))) 0 0 := by
    intro m
    induction m with
    | zero =>
      intro i him
      have hi : i = 4 := by omega
      subst hi
      have hS2 : (hs2 k (carS0 F S c hd) h)[k]? = some (sitC k (carS0 F S c hd)) := hs2_k hS
      have hp2 : (hs2 k (carS0 F S c hd) h)[k + 1]? = some (plC (carS0 F S c hd)) := hs2_p hp
      refine zw_extl (fun j => mset (fun x => carP F S x j)) (zg_eq hpc) (mixP_4 _ _) ?_
      refine zw_h (h2 := hs2 k (carS0 F S c hd) h) ((zs_set _ _ _ _).trans (by rw [← hpl]; exact (hs2_pl (S := S1) (S' := setPl S1 (carP F S)) rfl rfl hSc).trans (hs2_hs2 _ _ _ _))) ?_
      refine zw_iload_n dS_carryTo_17 rfl ?_
      refine zw_iconst (v := 4) dS_carryTo_18 (by decide) ?_
      refine zw_icmp_ge 39 dS_carryTo_19 (by decide) (fun c_19 => ?_) (fun c_19 => ?_)
      · refine zw_aload_n dS_carryTo_39 rfl ?_
        refine zc_V0I dS_carryTo_40 zm_S_placeCount zk_S_124 hS2 rfl (c_S_placeCount hS2 hp2) ?_ zRR (Nat.le_of_ble_eq_true rfl) ⟨Nat.le_of_ble_eq_true rfl, Nat.le_of_ble_eq_true rfl⟩
        rw [show (if sLost (carS0 F S c hd) = true then nI (many (sPl (carS0 F S c hd))) else 1) = nI (many (carP F S)) from rfl]
        refine zw_istore_n dS_carryTo_43 (by decide) rfl ?_
        refine zw_aload_n dS_carryTo_44 rfl ?_
        refine zc_V0V dS_carryTo_45 zm_S_beFoundIfSure zk_S_112 hS2 rfl (c_S_beFoundIfSure hS2 hp2) ?_ zRR (Nat.le_of_ble_eq_true rfl) ⟨Nat.le_of_ble_eq_true rfl, Nat.le_of_ble_eq_true rfl⟩
        refine zw_iload_n dS_carryTo_48 rfl ?_
        exact zw_iret dS_carryTo_49 rfl rfl (by rw [hs2_len, hs2_len]; rfl) ⟨rfl, by rw [hs2_hs2]; rfl⟩
      · exact absurd (by decide) c_19
    | succ m ih =>
      intro i him
      have hi : i < 4 := by omega
      have hS2 : ((hs2 k S1 h).set (k + 1) (.inl (1, 4, .inr (.inl (mixP (sPl S1) (carP F S) i)))))[k]? = some (sitC k S1) := zg_ne (by omega) hSc
      have hG2 : ((hs2 k S1 h).set (k + 1) (.inl (1, 4, .inr (.inl (mixP (sPl S1) (carP F S) i)))))[4]? = some (gC F) := zg_ne hk4.2 hGc
      have hp2 : ((hs2 k S1 h).set (k + 1) (.inl (1, 4, .inr (.inl (mixP (sPl S1) (carP F S) i)))))[k + 1]? = some (.inl (1, 4, .inr (.inl (mixP (sPl S1) (carP F S) i)))) := zg_eq hpc
      refine zw_iload_n dS_carryTo_17 rfl ?_
      refine zw_iconst (v := 4) dS_carryTo_18 (by decide) ?_
      refine zw_icmp_ge 39 dS_carryTo_19 (by decide) (fun c_19 => ?_) (fun c_19 => ?_)
      · exact absurd ((nI_leI (a := 4) (b := i) (by omega) (by omega)).mp c_19) (by omega)
      · refine zw_aload_n dS_carryTo_22 rfl ?_
        refine zw_get dS_carryTo_23 zf_S_9 (by first | exact hS2 | exact hp2) rfl ?_
        refine zw_iload_n dS_carryTo_26 rfl ?_
        refine zw_aload_n dS_carryTo_27 rfl ?_
        refine zw_iconst (v := 0) dS_carryTo_28 (by decide) ?_
        refine zc_V1L dS_carryTo_29 zm_S_cellsThatMayShow zk_S_121 (by first | exact hS2 | exact hp2) rfl (c_S_cellsThatMayShow (t := 0) hF hG2 hS2 (by decide)) ?_ zRR (Nat.le_of_ble_eq_true rfl) ⟨Nat.le_of_ble_eq_true rfl, Nat.le_of_ble_eq_true rfl⟩
        refine zw_last dS_carryTo_32 (by first | exact hS2 | exact hp2) (nI4 hi) ?_
        refine zw_h (h2 := (hs2 k S1 h).set (k + 1) (.inl (1, 4, .inr (.inl (mixP (sPl S1) (carP F S) (i + 1)))))) ?_ ?_
        · rw [zs_set, cl4 hi, hmay, show (fun x => carP F S x 0) = (fun x => carP F S x i) from rfl, mixP_up]
        refine zw_incN dS_carryTo_33 rfl (by decide) rfl ?_
        refine zw_goto 17 dS_carryTo_36 (by decide) ?_
        exact zw_lk (ih (i + 1) (by omega)) ⟨rfl, rfl, rfl, rfl, trivial⟩
  have e0 : hs2 k S1 h = (hs2 k S1 h).set (k + 1) (.inl (1, 4, .inr (.inl (mixP (sPl S1) (carP F S) 0)))) := by
    rw [mixP_0]; exact (zs_self hpc).symm
  refine zw_aload_n dS_carryTo_0 rfl ?_
  refine zw_iload_n dS_carryTo_1 rfl ?_
  refine zw_puti dS_carryTo_2 zf_S_35 hS (Nat.le_of_ble_eq_true rfl) ?_
  refine zw_h (h2 := hs2 k (setAt' S c) h) (hs2_sit (S := S) rfl rfl hp) ?_
  refine zw_aload_n dS_carryTo_5 rfl ?_
  refine zw_iload_n dS_carryTo_6 rfl ?_
  refine zw_puti dS_carryTo_7 zf_S_38 hSa (Nat.le_of_ble_eq_true rfl) ?_
  refine zw_h (h2 := hs2 k (setHd (setAt' S c) hd) h) ((hs2_sit (S := setAt' S c) (S' := setHd (setAt' S c) hd) rfl rfl hpa).trans (hs2_hs2 _ _ _ _)) ?_
  refine zw_aload_n dS_carryTo_10 rfl ?_
  refine zw_iconst (v := 1) dS_carryTo_11 (by decide) ?_
  refine zw_put dS_carryTo_12 zf_S_54 hSb rfl rfl (Nat.le_of_ble_eq_true rfl) ?_
  refine zw_h (h2 := hs2 k S1 h) (by rw [← hS1e]; exact (hs2_sit (S := setHd (setAt' S c) hd) (S' := setLost (setHd (setAt' S c) hd) true) rfl rfl hpb).trans (hs2_hs2 _ _ _ _)) ?_
  refine zw_iconst (v := 0) dS_carryTo_15 (by decide) ?_
  refine zw_istore_n dS_carryTo_16 (by decide) rfl ?_
  refine zw_h e0 ?_
  exact zw_lk (L 4 0 rfl) ⟨rfl, rfl, rfl, rfl, trivial⟩
end C27
