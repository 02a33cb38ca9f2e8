/-! ===== the reference: the target, the hands ===== -/
def ctg (F : Fl) (S : Sit) : TG := if sLost S = true then none else tgt F S
def ltQ (h : zH) (F : Fl) (S : Sit) (un le : Nat) (qa : I4) : zH → Prop := fun h' => ∃ (qb' : I4) (ho fa : Nat → Int32), bR (ctg F S) qb' ∧ h' = ((h.set 41 (iA 36 ho)).set 40 (iA 36 fa)).set 31 (mC F un le qa qb') ∧ (∀ i, i < fN F → ho i = dI (hom F S i)) ∧ (∀ i, i < fN F → fa i = dI (far F S i))
section C66
variable {l : Launch} {g : zG} {d : Nat} {h : zH} {F : Fl} {S : Sit} {z : Nat → Int32} {un le : Nat} {qa qb : I4}
theorem unk_iff (ok : sOK F S) {c : Nat} (hc : c < fN F) : unk F S c = true ↔ (¬ fK F c = 3 ∧ sKn S c = 0) := by
  have := ok.kn c
  simp only [unk, kn1, kn2, hc, decide_true, Bool.true_and, Bool.and_eq_true, Bool.not_eq_true', beq_eq_false_iff_ne]
  constructor
  · rintro ⟨⟨h1, h2⟩, h3⟩; exact ⟨h1, by omega⟩
  · rintro ⟨h1, h2⟩; exact ⟨⟨h1, by omega⟩, by omega⟩
theorem c_M_laysK {q : Nat} (hq1 : q ≠ 31) (hq2 : q ≠ 32) {f : Nat → Int32} (hF : fOK F) (ok : sOK F S) (hM : h[31]? = some (mC F un le qa qb)) (hS : h[32]? = some (sC F S z)) (hT : h[q]? = some (iA 36 f)) {a : Nat} (ha : a < fN F) : Run l g mM_lays (d + 2) 0 0 [.ref 31, .int (nI a), .int 1, .ref q] h (PV (h.set q (iA 36 (fil f 0 (fN F) (fun c => dI (dst F (kn1 S) (some a) c)))))) := by
  have := c_M_lays (l := l) (g := g) (d := d) hq1 hq2 hF ok hM hS hT true ha (fun e => by cases e)
  exact this
theorem c_M_laysTarget {f40 f41 : Nat → Int32} (hF : fOK F) (ok : sOK F S) (hM : h[31]? = some (mC F un le qa qb)) (hS : h[32]? = some (sC F S z)) (h40 : h[40]? = some (iA 36 f40)) (h41 : h[41]? = some (iA 36 f41)) : Run l g mM_laysTarget (d + 3) 0 0 [.ref 31] h (PVh (ltQ h F S un le qa)) := by
  have h36 := fN_le hF
  have hK := ok.k1
  obtain ⟨ho, hho⟩ : ∃ ho, ho = fil f41 0 (fN F) (fun c => dI (dst F (kn1 S) (some (fD F)) c)) := ⟨_, rfl⟩
  obtain ⟨fa, hfa⟩ : ∃ fa, fa = fil f40 0 (fN F) (fun c => dI (dst F (kn1 S) (some (sAt S)) c)) := ⟨_, rfl⟩
  have eho : ∀ i, i < fN F → ho i = dI (hom F S i) := fun i hi => by rw [hho, fil0 hi]; rfl
  have efa : ∀ i, i < fN F → fa i = dI (far F S i) := fun i hi => by rw [hfa, fil0 hi]; rfl
  have cl1 := c_M_laysK (l := l) (g := g) (d := d) (q := 41) (by decide) (by decide) hF ok hM hS h41 hF.2.2.1
  rw [← hho] at cl1
  have cl2 := c_M_laysK (l := l) (g := g) (d := d) (h := h.set 41 (iA 36 ho)) (q := 40) (un := un) (le := le) (qa := qa) (qb := qb) (z := z) (by decide) (by decide) hF ok (zg_ne (by decide) hM) (zg_ne (by decide) hS) (zg_ne (by decide) h40) ok.at
  rw [← hfa] at cl2
  obtain ⟨h2, hh2⟩ : ∃ h2, h2 = (h.set 41 (iA 36 ho)).set 40 (iA 36 fa) := ⟨_, rfl⟩
  rw [← hh2] at cl2
  have k31 : h2[31]? = some (mC F un le qa qb) := by rw [hh2]; exact zg_ne (by decide) (zg_ne (by decide) hM)
  have k32 : h2[32]? = some (sC F S z) := by rw [hh2]; exact zg_ne (by decide) (zg_ne (by decide) hS)
  have k40 : h2[40]? = some (iA 36 fa) := by rw [hh2]; exact zg_eq (zg_ne (by decide) h40)
  have k41 : h2[41]? = some (iA 36 ho) := by rw [hh2]; exact zg_ne (by decide) (zg_eq h41)
  have hM1 : ∀ q, (h2.set 31 (mC F un le qa q))[31]? = some (mC F un le qa q) := fun q => zg_eq k31
  have hS1 : ∀ c, (h2.set 31 c)[32]? = some (sC F S z) := fun c => zg_ne (by decide) k32
  have hA1 : ∀ c, (h2.set 31 c)[40]? = some (iA 36 fa) := fun c => zg_ne (by decide) k40
  have hH1 : ∀ c, (h2.set 31 c)[41]? = some (iA 36 ho) := fun c => zg_ne (by decide) k41
  have hlen : ∀ c, (h2.set 31 c).length = h.length + 0 := fun c => by rw [zs_len, hh2, zs_len, zs_len]; rfl
  have FIN : ∀ q, bR (ctg F S) q → ltQ h F S un le qa (h2.set 31 (mC F un le qa q)) := fun q hq => ⟨q, ho, fa, hq, by rw [hh2], eho, efa⟩
  obtain ⟨R, hR⟩ : ∃ R, R = bC F S (fN F) 0 none := ⟨_, rfl⟩
  have hRt : R = tgt F S := by rw [hR]; exact bC_tgt hF hK
  have L : sLost S = false → ∀ (m c : Nat) (cu : TG) (q : I4), c + m = fN F → TGB cu → bR cu q → bC F S m c cu = R → WW l g mM_laysTarget (zrm (d + 3) 0 0) (fun _ => True) (zQQ g (PVh (ltQ h F S un le qa)) (h.length + 0) 0 0) 37 [(0, some (.ref 31)), (1, some (.int (nI c)))] [] (h2.set 31 (mC F un le qa q)) 0 0 := by
    intro hl
    have r111 : ms F S z 111 = 0 := by rw [ms_111, hl]; rfl
    intro m
    induction m with
    | zero =>
      intro c cu q hc hB hb hE
      have hc : c = fN F := by omega
      subst hc
      have hb2 : bR (ctg F S) q := by
        unfold ctg
        rw [if_neg (by rw [hl]; decide), ← hRt, ← hE]
        exact hb
      refine zw_iload_n dM_laysTarget_37 rfl ?_
      refine zw_aload_n dM_laysTarget_38 rfl ?_
      refine zc_V0I dM_laysTarget_39 zm_M_cells zk_M_57 (hM1 _) rfl (c_M_cells (hM1 _)) ?_ zRR (Nat.le_of_ble_eq_true rfl) ⟨Nat.le_of_ble_eq_true rfl, Nat.le_of_ble_eq_true rfl⟩
      refine zw_icmp_ge 88 dM_laysTarget_42 (by decide) (fun c_42 => ?_) (fun c_42 => ?_)
      · exact zw_vret dM_laysTarget_88 rfl (hlen _) ⟨rfl, FIN q hb2⟩
      · exact absurd (Int32.le_refl _) c_42
    | succ m ih =>
      intro c cu q hc hB hb hE
      have hcn : c < fN F := by omega
      have hE' : bC F S m (c + 1) (if unk F S c = true then bG F S c (fN F) 0 cu else cu) = R := hE
      have ekc := clk hF hcn
      have ek := ms_k (S := S) (z := z) hF hcn
      have en := ms_n (S := S) (z := z) hF hcn
      obtain ⟨v1, v2, v3⟩ := vK hF hcn
      have hlt := kdn_lt (S := S) hF hcn
      have hk2 := ok.kn c
      have n3 : nI (kdn F S c) = 3 ↔ fK F c = 3 := by rw [← kdn_3 (S := S) hF hcn]; exact nI_eq (b := 3) (by omega) (by omega)
      have n0 : nI (sKn S c) = 0 ↔ sKn S c = 0 := nI_eq (b := 0) (by omega) (by omega)
      have ui := unk_iff ok hcn
      by_cases hu : unk F S c = true
      · obtain ⟨u1, u2⟩ := ui.mp hu
        rw [if_pos hu] at hE'
        refine zw_iload_n dM_laysTarget_37 rfl ?_
        refine zw_aload_n dM_laysTarget_38 rfl ?_
        refine zc_V0I dM_laysTarget_39 zm_M_cells zk_M_57 (by first | exact hM1 _ | exact hS1 _) rfl (c_M_cells (hM1 _)) ?_ zRR (Nat.le_of_ble_eq_true rfl) ⟨Nat.le_of_ble_eq_true rfl, Nat.le_of_ble_eq_true rfl⟩
        refine zw_icmp_ge 88 dM_laysTarget_42 (by decide) (fun c_42 => ?_) (fun c_42 => ?_)
        · exact absurd ((nI_leI (by omega) (by omega)).mp c_42) (by omega)
        · refine zw_aload_n dM_laysTarget_45 rfl ?_
          refine zw_get dM_laysTarget_46 zf_M_16 (by first | exact hM1 _ | exact hS1 _) rfl ?_
          refine zw_bipush (v := 111) dM_laysTarget_49 (by decide) ?_
          refine zw_iald dM_laysTarget_51 (by first | exact hM1 _ | exact hS1 _) v111 ?_
          rw [e111, r111]
          refine zw_if_ne 88 dM_laysTarget_52 (by decide) (fun c_52 => ?_) (fun c_52 => ?_)
          · exact absurd rfl c_52
          · refine zw_aload_n dM_laysTarget_55 rfl ?_
            refine zw_get dM_laysTarget_56 zf_M_16 (by first | exact hM1 _ | exact hS1 _) rfl ?_
            refine zw_iload_n dM_laysTarget_59 rfl ?_
            refine zw_iald dM_laysTarget_60 (by first | exact hM1 _ | exact hS1 _) (vk hF hcn) ?_
            rw [ekc, ek]
            refine zw_iconst (v := 3) dM_laysTarget_61 (by decide) ?_
            refine zw_icmp_eq 82 dM_laysTarget_62 (by decide) (fun c_62 => ?_) (fun c_62 => ?_)
            · exact absurd (n3.mp c_62) u1
            · refine zw_aload_n dM_laysTarget_65 rfl ?_
              refine zw_get dM_laysTarget_66 zf_M_16 (by first | exact hM1 _ | exact hS1 _) rfl ?_
              refine zw_bipush (v := 36) dM_laysTarget_69 (by decide) ?_
              refine zw_iload_n dM_laysTarget_71 rfl ?_
              refine zw_iadd dM_laysTarget_72 ?_
              rw [v1]
              refine zw_iald dM_laysTarget_73 (by first | exact hM1 _ | exact hS1 _) v2 ?_
              rw [v3, en]
              refine zw_if_ne 82 dM_laysTarget_74 (by decide) (fun c_74 => ?_) (fun c_74 => ?_)
              · exact absurd (n0.mpr u2) c_74
              · refine zw_aload_n dM_laysTarget_77 rfl ?_
                refine zw_iload_n dM_laysTarget_78 rfl ?_
                refine zx_V1V dM_laysTarget_79 zm_M_looksFor zk_M_146 (by first | exact hM1 _ | exact hS1 _) rfl (c_M_looksFor hF ok (hM1 q) (hS1 _) (hA1 _) (hH1 _) efa eho hcn hB hb) zRR (Nat.le_of_ble_eq_true rfl) ⟨Nat.le_of_ble_eq_true rfl, Nat.le_of_ble_eq_true rfl⟩ ?_
                rintro h' ⟨q2, hb2, rfl⟩
                refine zw_h (zs_set _ _ _ _) ?_
                refine zw_incN dM_laysTarget_82 rfl (by decide) rfl ?_
                refine zw_goto 37 dM_laysTarget_85 (by decide) ?_
                exact zw_lk (ih (c + 1) _ q2 (by omega) (TGB_G hF hcn _ _ cu (by omega) hB) hb2 hE') ⟨rfl, rfl, trivial⟩
      · rw [if_neg hu] at hE'
        refine zw_iload_n dM_laysTarget_37 rfl ?_
        refine zw_aload_n dM_laysTarget_38 rfl ?_
        refine zc_V0I dM_laysTarget_39 zm_M_cells zk_M_57 (by first | exact hM1 _ | exact hS1 _) rfl (c_M_cells (hM1 _)) ?_ zRR (Nat.le_of_ble_eq_true rfl) ⟨Nat.le_of_ble_eq_true rfl, Nat.le_of_ble_eq_true rfl⟩
        refine zw_icmp_ge 88 dM_laysTarget_42 (by decide) (fun c_42 => ?_) (fun c_42 => ?_)
        · exact absurd ((nI_leI (by omega) (by omega)).mp c_42) (by omega)
        · refine zw_aload_n dM_laysTarget_45 rfl ?_
          refine zw_get dM_laysTarget_46 zf_M_16 (by first | exact hM1 _ | exact hS1 _) rfl ?_
          refine zw_bipush (v := 111) dM_laysTarget_49 (by decide) ?_
          refine zw_iald dM_laysTarget_51 (by first | exact hM1 _ | exact hS1 _) v111 ?_
          rw [e111, r111]
          refine zw_if_ne 88 dM_laysTarget_52 (by decide) (fun c_52 => ?_) (fun c_52 => ?_)
          · exact absurd rfl c_52
          · refine zw_aload_n dM_laysTarget_55 rfl ?_
            refine zw_get dM_laysTarget_56 zf_M_16 (by first | exact hM1 _ | exact hS1 _) rfl ?_
            refine zw_iload_n dM_laysTarget_59 rfl ?_
            refine zw_iald dM_laysTarget_60 (by first | exact hM1 _ | exact hS1 _) (vk hF hcn) ?_
            rw [ekc, ek]
            refine zw_iconst (v := 3) dM_laysTarget_61 (by decide) ?_
            refine zw_icmp_eq 82 dM_laysTarget_62 (by decide) (fun c_62 => ?_) (fun c_62 => ?_)
            · refine zw_incN dM_laysTarget_82 rfl (by decide) rfl ?_
              refine zw_goto 37 dM_laysTarget_85 (by decide) ?_
              exact zw_lk (ih (c + 1) cu q (by omega) hB hb hE') ⟨rfl, rfl, trivial⟩
            · refine zw_aload_n dM_laysTarget_65 rfl ?_
              refine zw_get dM_laysTarget_66 zf_M_16 (by first | exact hM1 _ | exact hS1 _) rfl ?_
              refine zw_bipush (v := 36) dM_laysTarget_69 (by decide) ?_
              refine zw_iload_n dM_laysTarget_71 rfl ?_
              refine zw_iadd dM_laysTarget_72 ?_
              rw [v1]
              refine zw_iald dM_laysTarget_73 (by first | exact hM1 _ | exact hS1 _) v2 ?_
              rw [v3, en]
              refine zw_if_ne 82 dM_laysTarget_74 (by decide) (fun c_74 => ?_) (fun c_74 => ?_)
              · refine zw_incN dM_laysTarget_82 rfl (by decide) rfl ?_
                refine zw_goto 37 dM_laysTarget_85 (by decide) ?_
                exact zw_lk (ih (c + 1) cu q (by omega) hB hb hE') ⟨rfl, rfl, trivial⟩
              · exact absurd (ui.mpr ⟨fun q => c_62 (n3.mpr q), n0.mp c_74⟩) hu
  refine run_of (by decide) (Nat.le_of_ble_eq_true rfl) ?_
  cases hl : sLost S with
  | false =>
    have LL := L hl (fN F) 0 none (-9, qb.2.1, qb.2.2.1, qb.2.2.2) (by omega) (fun t g w b e => by cases e) rfl hR.symm
    refine zw_aload_n dM_laysTarget_0 rfl ?_
    refine zw_aload_n dM_laysTarget_1 rfl ?_
    refine zw_get dM_laysTarget_2 zf_M_61 (by first | exact hM | exact hS | exact k31 | exact zg_ne (by decide) hM | exact zg_ne (by decide) hS) rfl ?_
    refine zw_iconst (v := 1) dM_laysTarget_5 (by decide) ?_
    refine zw_aload_n dM_laysTarget_6 rfl ?_
    refine zw_get dM_laysTarget_7 zf_M_45 (by first | exact hM | exact hS | exact k31 | exact zg_ne (by decide) hM | exact zg_ne (by decide) hS) rfl ?_
    refine zc_V3V dM_laysTarget_10 zm_M_lays zk_M_139 (by first | exact hM | exact hS | exact k31 | exact zg_ne (by decide) hM | exact zg_ne (by decide) hS) rfl cl1 ?_ zRR (Nat.le_of_ble_eq_true rfl) ⟨Nat.le_of_ble_eq_true rfl, Nat.le_of_ble_eq_true rfl⟩
    refine zw_aload_n dM_laysTarget_13 rfl ?_
    refine zw_aload_n dM_laysTarget_14 rfl ?_
    refine zw_get dM_laysTarget_15 zf_M_16 (by first | exact hM | exact hS | exact k31 | exact zg_ne (by decide) hM | exact zg_ne (by decide) hS) rfl ?_
    refine zw_bipush (v := 108) dM_laysTarget_18 (by decide) ?_
    refine zw_iald dM_laysTarget_20 (by first | exact hM | exact hS | exact k31 | exact zg_ne (by decide) hM | exact zg_ne (by decide) hS) v108 ?_
    rw [e108, ms_108]
    refine zw_iconst (v := 1) dM_laysTarget_21 (by decide) ?_
    refine zw_aload_n dM_laysTarget_22 rfl ?_
    refine zw_get dM_laysTarget_23 zf_M_42 (by first | exact hM | exact hS | exact k31 | exact zg_ne (by decide) hM | exact zg_ne (by decide) hS) rfl ?_
    refine zc_V3V dM_laysTarget_26 zm_M_lays zk_M_139 (by first | exact hM | exact hS | exact k31 | exact zg_ne (by decide) hM | exact zg_ne (by decide) hS) rfl cl2 ?_ zRR (Nat.le_of_ble_eq_true rfl) ⟨Nat.le_of_ble_eq_true rfl, Nat.le_of_ble_eq_true rfl⟩
    refine zw_aload_n dM_laysTarget_29 rfl ?_
    refine zw_bipush (v := (-9)) dM_laysTarget_30 (by decide) ?_
    refine zw_puti dM_laysTarget_32 zf_M_143 (by first | exact hM | exact hS | exact k31 | exact zg_ne (by decide) hM | exact zg_ne (by decide) hS) (Nat.le_of_ble_eq_true rfl) ?_
    refine zw_iconst (v := 0) dM_laysTarget_35 (by decide) ?_
    refine zw_istore_n dM_laysTarget_36 (by decide) rfl ?_
    exact zw_lk LL ⟨rfl, rfl, trivial⟩
  | true =>
    have r111 : ms F S z 111 = 1 := by rw [ms_111, hl]; rfl
    have hb2 : bR (ctg F S) (-9, qb.2.1, qb.2.2.1, qb.2.2.2) := by unfold ctg; rw [if_pos hl]; rfl
    have h0 := fN_pos hF
    have Q := FIN _ hb2
    refine zw_aload_n dM_laysTarget_0 rfl ?_
    refine zw_aload_n dM_laysTarget_1 rfl ?_
    refine zw_get dM_laysTarget_2 zf_M_61 (by first | exact hM | exact hS | exact k31 | exact hM1 (-9, qb.2.1, qb.2.2.1, qb.2.2.2) | exact hS1 _ | exact zg_ne (by decide) hM | exact zg_ne (by decide) hS) rfl ?_
    refine zw_iconst (v := 1) dM_laysTarget_5 (by decide) ?_
    refine zw_aload_n dM_laysTarget_6 rfl ?_
    refine zw_get dM_laysTarget_7 zf_M_45 (by first | exact hM | exact hS | exact k31 | exact hM1 (-9, qb.2.1, qb.2.2.1, qb.2.2.2) | exact hS1 _ | exact zg_ne (by decide) hM | exact zg_ne (by decide) hS) rfl ?_
    refine zc_V3V dM_laysTarget_10 zm_M_lays zk_M_139 (by first | exact hM | exact hS | exact k31 | exact hM1 (-9, qb.2.1, qb.2.2.1, qb.2.2.2) | exact hS1 _ | exact zg_ne (by decide) hM | exact zg_ne (by decide) hS) rfl cl1 ?_ zRR (Nat.le_of_ble_eq_true rfl) ⟨Nat.le_of_ble_eq_true rfl, Nat.le_of_ble_eq_true rfl⟩
    refine zw_aload_n dM_laysTarget_13 rfl ?_
    refine zw_aload_n dM_laysTarget_14 rfl ?_
    refine zw_get dM_laysTarget_15 zf_M_16 (by first | exact hM | exact hS | exact k31 | exact hM1 (-9, qb.2.1, qb.2.2.1, qb.2.2.2) | exact hS1 _ | exact zg_ne (by decide) hM | exact zg_ne (by decide) hS) rfl ?_
    refine zw_bipush (v := 108) dM_laysTarget_18 (by decide) ?_
    refine zw_iald dM_laysTarget_20 (by first | exact hM | exact hS | exact k31 | exact hM1 (-9, qb.2.1, qb.2.2.1, qb.2.2.2) | exact hS1 _ | exact zg_ne (by decide) hM | exact zg_ne (by decide) hS) v108 ?_
    rw [e108, ms_108]
    refine zw_iconst (v := 1) dM_laysTarget_21 (by decide) ?_
    refine zw_aload_n dM_laysTarget_22 rfl ?_
    refine zw_get dM_laysTarget_23 zf_M_42 (by first | exact hM | exact hS | exact k31 | exact hM1 (-9, qb.2.1, qb.2.2.1, qb.2.2.2) | exact hS1 _ | exact zg_ne (by decide) hM | exact zg_ne (by decide) hS) rfl ?_
    refine zc_V3V dM_laysTarget_26 zm_M_lays zk_M_139 (by first | exact hM | exact hS | exact k31 | exact hM1 (-9, qb.2.1, qb.2.2.1, qb.2.2.2) | exact hS1 _ | exact zg_ne (by decide) hM | exact zg_ne (by decide) hS) rfl cl2 ?_ zRR (Nat.le_of_ble_eq_true rfl) ⟨Nat.le_of_ble_eq_true rfl, Nat.le_of_ble_eq_true rfl⟩
    refine zw_aload_n dM_laysTarget_29 rfl ?_
    refine zw_bipush (v := (-9)) dM_laysTarget_30 (by decide) ?_
    refine zw_puti dM_laysTarget_32 zf_M_143 (by first | exact hM | exact hS | exact k31 | exact hM1 (-9, qb.2.1, qb.2.2.1, qb.2.2.2) | exact hS1 _ | exact zg_ne (by decide) hM | exact zg_ne (by decide) hS) (Nat.le_of_ble_eq_true rfl) ?_
    refine zw_iconst (v := 0) dM_laysTarget_35 (by decide) ?_
    refine zw_istore_n dM_laysTarget_36 (by decide) rfl ?_
    refine zw_iload_n dM_laysTarget_37 rfl ?_
    refine zw_aload_n dM_laysTarget_38 rfl ?_
    refine zc_V0I dM_laysTarget_39 zm_M_cells zk_M_57 (by first | exact hM | exact hS | exact k31 | exact hM1 (-9, qb.2.1, qb.2.2.1, qb.2.2.2) | exact hS1 _ | exact zg_ne (by decide) hM | exact zg_ne (by decide) hS) rfl (c_M_cells (hM1 (-9, qb.2.1, qb.2.2.1, qb.2.2.2))) ?_ zRR (Nat.le_of_ble_eq_true rfl) ⟨Nat.le_of_ble_eq_true rfl, Nat.le_of_ble_eq_true rfl⟩
    refine zw_icmp_ge 88 dM_laysTarget_42 (by decide) (fun c_42 => ?_) (fun c_42 => ?_)
    · exact absurd ((nI_leI (b := 0) (by omega) (by omega)).mp c_42) (by omega)
    · refine zw_aload_n dM_laysTarget_45 rfl ?_
      refine zw_get dM_laysTarget_46 zf_M_16 (by first | exact hM | exact hS | exact k31 | exact hM1 (-9, qb.2.1, qb.2.2.1, qb.2.2.2) | exact hS1 _ | exact zg_ne (by decide) hM | exact zg_ne (by decide) hS) rfl ?_
      refine zw_bipush (v := 111) dM_laysTarget_49 (by decide) ?_
      refine zw_iald dM_laysTarget_51 (by first | exact hM | exact hS | exact k31 | exact hM1 (-9, qb.2.1, qb.2.2.1, qb.2.2.2) | exact hS1 _ | exact zg_ne (by decide) hM | exact zg_ne (by decide) hS) v111 ?_
      rw [e111, r111]
      refine zw_if_ne 88 dM_laysTarget_52 (by decide) (fun c_52 => ?_) (fun c_52 => ?_)
      · exact zw_vret dM_laysTarget_88 rfl (hlen _) ⟨rfl, Q⟩
      · exact absurd c_52 (by decide)
theorem c_M_handOn (hF : fOK F) (ok : sOK F S) (hM : h[31]? = some (mC F un le qa qb)) (hS : h[32]? = some (sC F S z)) {t r : Nat} (ht : t < 36) (hr : hOn F (sAt S) t = some r) : Run l g mM_handOn (d + 2) 0 0 [.ref 31, .int (nI t)] h (PI (nI r) h) := by
  have h36 := fN_le hF
  have hat := ok.at
  refine run_of (by decide) (Nat.le_of_ble_eq_true rfl) ?_
  have L : ∀ (m hd : Nat), hd + m = 4 → fst (fun hd => nb F (sAt S) hd == some t) m hd = some r → WW l g mM_handOn (zrm (d + 2) 0 0) (fun _ => True) (zQQ g (PI (nI r) h) (h.length + 0) 0 0) 2 [(0, some (.ref 31)), (1, some (.int (nI t))), (2, some (.int (nI hd)))] [] h 0 0 := by
    intro m
    induction m with
    | zero => intro hd _ e; cases e
    | succ m ih =>
      intro hd hhd e
      have hh : hd < 4 := by omega
      have cb := c_M_beside (l := l) (g := g) (d := d) hF hM hat hh
      have hnb : ∀ v, nb F (sAt S) hd = some v → v ≤ 36 := fun v e => by have := (nb_spec hF hat hh e).1; omega
      have en := dI_n (n := t) hnb (by omega)
      by_cases h2 : nb F (sAt S) hd = some t
      · rw [fst_t (by simpa using h2)] at e
        injection e with e
        subst e
        refine zw_aload_n dM_handOn_2 rfl ?_
        refine zw_aload_n dM_handOn_3 rfl ?_
        refine zw_get dM_handOn_4 zf_M_16 (by first | exact hM | exact hS) rfl ?_
        refine zw_bipush (v := 108) dM_handOn_7 (by decide) ?_
        refine zw_iald dM_handOn_9 (by first | exact hM | exact hS) v108 ?_
        rw [e108, ms_108]
        refine zw_iload_n dM_handOn_10 rfl ?_
        refine zc_V2I dM_handOn_11 zm_M_beside zk_M_109 (by first | exact hM | exact hS) rfl cb ?_ zRR (Nat.le_of_ble_eq_true rfl) ⟨Nat.le_of_ble_eq_true rfl, Nat.le_of_ble_eq_true rfl⟩
        refine zw_iload_n dM_handOn_14 rfl ?_
        refine zw_icmp_eq 24 dM_handOn_15 (by decide) (fun c_15 => ?_) (fun c_15 => ?_)
        · refine zw_iload_n dM_handOn_24 rfl ?_
          exact zw_iret dM_handOn_25 rfl rfl rfl ⟨rfl, rfl⟩
        · exact absurd (en.mpr h2) c_15
      · rw [fst_f (by simpa using h2)] at e
        refine zw_aload_n dM_handOn_2 rfl ?_
        refine zw_aload_n dM_handOn_3 rfl ?_
        refine zw_get dM_handOn_4 zf_M_16 (by first | exact hM | exact hS) rfl ?_
        refine zw_bipush (v := 108) dM_handOn_7 (by decide) ?_
        refine zw_iald dM_handOn_9 (by first | exact hM | exact hS) v108 ?_
        rw [e108, ms_108]
        refine zw_iload_n dM_handOn_10 rfl ?_
        refine zc_V2I dM_handOn_11 zm_M_beside zk_M_109 (by first | exact hM | exact hS) rfl cb ?_ zRR (Nat.le_of_ble_eq_true rfl) ⟨Nat.le_of_ble_eq_true rfl, Nat.le_of_ble_eq_true rfl⟩
        refine zw_iload_n dM_handOn_14 rfl ?_
        refine zw_icmp_eq 24 dM_handOn_15 (by decide) (fun c_15 => ?_) (fun c_15 => ?_)
        · exact absurd (en.mp c_15) h2
        · refine zw_incN dM_handOn_18 rfl (by decide) rfl ?_
          refine zw_goto 2 dM_handOn_21 (by decide) ?_
          exact zw_lk (ih (hd + 1) (by omega) e) ⟨rfl, rfl, rfl, trivial⟩
  refine zw_iconst (v := 0) dM_handOn_0 (by decide) ?_
  refine zw_istore_n dM_handOn_1 (by decide) rfl ?_
  exact zw_lk (L 4 0 (by omega) hr) ⟨rfl, rfl, rfl, trivial⟩
/-- the first hand on which a cell lies that has so much in a row -/
def hRow (F : Fl) (a : Nat) (t : TT) (m : Nat) : Nat → Bool := fun hd => match nb F a hd with | none => false | some b => t b == some m
theorem c_M_handTo {q : Nat} {f : Nat → Int32} {t : TT} (hF : fOK F) (ok : sOK F S) (hM : h[31]? = some (mC F un le qa qb)) (hS : h[32]? = some (sC F S z)) (hT : h[q]? = some (iA 36 f)) (hf : ∀ i, i < fN F → f i = dI (t i)) (hB : TB t) {mm r : Nat} (hm : mm < 36) (hr : fst (hRow F (sAt S) t mm) 4 0 = some r) : Run l g mM_handTo (d + 2) 0 0 [.ref 31, .ref q, .int (nI mm)] h (PI (nI r) h) := by
  have h36 := fN_le hF
  have hat := ok.at
  refine run_of (by decide) (Nat.le_of_ble_eq_true rfl) ?_
  have L : ∀ (m hd : Nat), hd + m = 4 → fst (hRow F (sAt S) t mm) m hd = some r → WW l g mM_handTo (zrm (d + 2) 0 0) (fun _ => True) (zQQ g (PI (nI r) h) (h.length + 0) 0 0) 2 [(0, some (.ref 31)), (1, some (.ref q)), (2, some (.int (nI mm))), (3, some (.int (nI hd)))] [] h 0 0 := by
    intro m
    induction m with
    | zero => intro hd _ e; cases e
    | succ m ih =>
      intro hd hhd e
      have hh : hd < 4 := by omega
      have cb := c_M_beside (l := l) (g := g) (d := d) hF hM hat hh
      cases hb : nb F (sAt S) hd with
      | none =>
        rw [fst_f (by unfold hRow; rw [hb])] at e
        rw [hb] at cb
        refine zw_aload_n dM_handTo_2 rfl ?_
        refine zw_aload_n dM_handTo_3 rfl ?_
        refine zw_get dM_handTo_4 zf_M_16 (by first | exact hM | exact hS) rfl ?_
        refine zw_bipush (v := 108) dM_handTo_7 (by decide) ?_
        refine zw_iald dM_handTo_9 (by first | exact hM | exact hS) v108 ?_
        rw [e108, ms_108]
        refine zw_iload_n dM_handTo_10 rfl ?_
        refine zc_V2I dM_handTo_11 zm_M_beside zk_M_109 (by first | exact hM | exact hS) rfl cb ?_ zRR (Nat.le_of_ble_eq_true rfl) ⟨Nat.le_of_ble_eq_true rfl, Nat.le_of_ble_eq_true rfl⟩
        refine zw_bipush (v := (-9)) dM_handTo_14 (by decide) ?_
        refine zw_icmp_eq 37 dM_handTo_16 (by decide) (fun c_16 => ?_) (fun c_16 => ?_)
        · refine zw_incN dM_handTo_37 rfl (by decide) rfl ?_
          refine zw_goto 2 dM_handTo_40 (by decide) ?_
          exact zw_lk (ih (hd + 1) (by omega) e) ⟨rfl, rfl, rfl, rfl, trivial⟩
        · exact absurd rfl c_16
      | some b =>
        have hbn := (nb_spec hF hat hh hb).1
        rw [hb] at cb
        have cb2 : Run l g mM_beside (d + 1) 0 0 [.ref 31, .int (nI (sAt S)), .int (nI hd)] h (PI (nI b) h) := cb
        have e9 : ¬ nI b = -9 := nI_m9 (by omega)
        have ebc : (nI b).toNatClampNeg = b := nI_clamp (by omega)
        have efb := hf b hbn
        have en := dI_n (n := mm) (hB b) (by omega)
        by_cases h2 : t b = some mm
        · rw [fst_t (by unfold hRow; rw [hb]; simpa using h2)] at e
          injection e with e
          subst e
          refine zw_aload_n dM_handTo_2 rfl ?_
          refine zw_aload_n dM_handTo_3 rfl ?_
          refine zw_get dM_handTo_4 zf_M_16 (by first | exact hM | exact hS | exact hT) rfl ?_
          refine zw_bipush (v := 108) dM_handTo_7 (by decide) ?_
          refine zw_iald dM_handTo_9 (by first | exact hM | exact hS | exact hT) v108 ?_
          rw [e108, ms_108]
          refine zw_iload_n dM_handTo_10 rfl ?_
          refine zc_V2I dM_handTo_11 zm_M_beside zk_M_109 (by first | exact hM | exact hS | exact hT) rfl cb2 ?_ zRR (Nat.le_of_ble_eq_true rfl) ⟨Nat.le_of_ble_eq_true rfl, Nat.le_of_ble_eq_true rfl⟩
          refine zw_bipush (v := (-9)) dM_handTo_14 (by decide) ?_
          refine zw_icmp_eq 37 dM_handTo_16 (by decide) (fun c_16 => ?_) (fun c_16 => ?_)
          · exact absurd c_16 e9
          · refine zw_aload_n dM_handTo_19 rfl ?_
            refine zw_aload_n dM_handTo_20 rfl ?_
            refine zw_aload_n dM_handTo_21 rfl ?_
            refine zw_get dM_handTo_22 zf_M_16 (by first | exact hM | exact hS | exact hT) rfl ?_
            refine zw_bipush (v := 108) dM_handTo_25 (by decide) ?_
            refine zw_iald dM_handTo_27 (by first | exact hM | exact hS | exact hT) v108 ?_
            rw [e108, ms_108]
            refine zw_iload_n dM_handTo_28 rfl ?_
            refine zc_V2I dM_handTo_29 zm_M_beside zk_M_109 (by first | exact hM | exact hS | exact hT) rfl cb2 ?_ zRR (Nat.le_of_ble_eq_true rfl) ⟨Nat.le_of_ble_eq_true rfl, Nat.le_of_ble_eq_true rfl⟩
            refine zw_iald dM_handTo_32 (by first | exact hM | exact hS | exact hT) (vp_in_nI (show b < 36 by omega) (by decide)) ?_
            rw [ebc, efb]
            refine zw_iload_n dM_handTo_33 rfl ?_
            refine zw_icmp_eq 43 dM_handTo_34 (by decide) (fun c_34 => ?_) (fun c_34 => ?_)
            · refine zw_iload_n dM_handTo_43 rfl ?_
              exact zw_iret dM_handTo_44 rfl rfl rfl ⟨rfl, rfl⟩
            · exact absurd (en.mpr h2) c_34
        · rw [fst_f (by unfold hRow; rw [hb]; simpa using h2)] at e
          refine zw_aload_n dM_handTo_2 rfl ?_
          refine zw_aload_n dM_handTo_3 rfl ?_
          refine zw_get dM_handTo_4 zf_M_16 (by first | exact hM | exact hS | exact hT) rfl ?_
          refine zw_bipush (v := 108) dM_handTo_7 (by decide) ?_
          refine zw_iald dM_handTo_9 (by first | exact hM | exact hS | exact hT) v108 ?_
          rw [e108, ms_108]
          refine zw_iload_n dM_handTo_10 rfl ?_
          refine zc_V2I dM_handTo_11 zm_M_beside zk_M_109 (by first | exact hM | exact hS | exact hT) rfl cb2 ?_ zRR (Nat.le_of_ble_eq_true rfl) ⟨Nat.le_of_ble_eq_true rfl, Nat.le_of_ble_eq_true rfl⟩
          refine zw_bipush (v := (-9)) dM_handTo_14 (by decide) ?_
          refine zw_icmp_eq 37 dM_handTo_16 (by decide) (fun c_16 => ?_) (fun c_16 => ?_)
          · exact absurd c_16 e9
          · refine zw_aload_n dM_handTo_19 rfl ?_
            refine zw_aload_n dM_handTo_20 rfl ?_
            refine zw_aload_n dM_handTo_21 rfl ?_
            refine zw_get dM_handTo_22 zf_M_16 (by first | exact hM | exact hS | exact hT) rfl ?_
            refine zw_bipush (v := 108) dM_handTo_25 (by decide) ?_
            refine zw_iald dM_handTo_27 (by first | exact hM | exact hS | exact hT) v108 ?_
            rw [e108, ms_108]
            refine zw_iload_n dM_handTo_28 rfl ?_
            refine zc_V2I dM_handTo_29 zm_M_beside zk_M_109 (by first | exact hM | exact hS | exact hT) rfl cb2 ?_ zRR (Nat.le_of_ble_eq_true rfl) ⟨Nat.le_of_ble_eq_true rfl, Nat.le_of_ble_eq_true rfl⟩
            refine zw_iald dM_handTo_32 (by first | exact hM | exact hS | exact hT) (vp_in_nI (show b < 36 by omega) (by decide)) ?_
            rw [ebc, efb]
            refine zw_iload_n dM_handTo_33 rfl ?_
            refine zw_icmp_eq 43 dM_handTo_34 (by decide) (fun c_34 => ?_) (fun c_34 => ?_)
            · exact absurd (en.mp c_34) h2
            · refine zw_incN dM_handTo_37 rfl (by decide) rfl ?_
              refine zw_goto 2 dM_handTo_40 (by decide) ?_
              exact zw_lk (ih (hd + 1) (by omega) e) ⟨rfl, rfl, rfl, rfl, trivial⟩
  refine zw_iconst (v := 0) dM_handTo_0 (by decide) ?_
  refine zw_istore_n dM_handTo_1 (by decide) rfl ?_
  exact zw_lk (L 4 0 (by omega) hr) ⟨rfl, rfl, rfl, rfl, trivial⟩
/-- there is a hand that leads nearer -/
theorem near_ex (hF : fOK F) {K : Nat → Bool} (hK : sub F K) {a goal m : Nat} (ha : a < fN F) (h : dst F K (some a) goal = some (m + 1)) : ∃ r, r < 4 ∧ hNr F K a goal = some r ∧ fst (hRow F a (fun c => dst F K (some goal) c) m) 4 0 = some r := by
  obtain ⟨h1, h2, h3⟩ := dst_some.mp h
  have e : ∀ hd, hd < 4 → nearB F K a goal (m + 1) hd = hRow F a (fun c => dst F K (some goal) c) m hd := by
    intro hd hh
    show (dst F K (nb F a hd) goal == some m) = (match nb F a hd with | none => false | some b => dst F K (some goal) b == some m)
    cases hb : nb F a hd with
    | none =>
      dsimp only
      have : dst F K none goal = none := by
        refine dst_none.mpr (fun j _ => ?_)
        have z : ∀ k c, lvl F K none k c = false := by
          intro k
          induction k with
          | zero => intro c; simp [lvl, oneO]
          | succ k ih =>
            intro c
            cases q : lvl F K none (k + 1) c with
            | false => rfl
            | true =>
              rcases lvl_s.mp q with q | ⟨-, -, b, -, q⟩
              · rw [ih] at q; cases q
              · rw [ih] at q; cases q
        exact z j goal
      rw [this]; rfl
    | some b =>
      dsimp only
      rw [dst_symm hF hK]
  have hex : ∃ hd, hd < 4 ∧ nearB F K a goal (m + 1) hd = true := by
    rcases (lvl_front hF hK m a goal).mp h2 with q | ⟨hKa, b, ⟨hd, hh, hb⟩, hl⟩
    · rw [h3 m (by omega)] at q; cases q
    · obtain ⟨m', hm, hd'⟩ := dst_of (show m < 36 by omega) hl
      have : m' = m := by
        rcases Nat.lt_or_ge m' m with q | q
        · have q2 := (lvl_front hF hK m' a goal).mpr (Or.inr ⟨hKa, b, ⟨hd, hh, hb⟩, (dst_some.mp hd').2.1⟩)
          rw [h3 (m' + 1) (by omega)] at q2
          cases q2
        · omega
      subst this
      refine ⟨hd, hh, ?_⟩
      show (dst F K (nb F a hd) goal == some m') = true
      rw [hb, hd']; simp
  cases hf : fst (nearB F K a goal (m + 1)) 4 0 with
  | none =>
    obtain ⟨hd, hh, q⟩ := hex
    rw [fst_none.mp hf hd (by omega) (by omega)] at q
    cases q
  | some r =>
    obtain ⟨q1, q2, q3, q4⟩ := fst_some.mp hf
    refine ⟨r, by omega, ?_, fst_some.mpr ⟨q1, q2, by rw [← e r (by omega)]; exact q3, fun j h1 h2 => by rw [← e j (by omega)]; exact q4 j h1 h2⟩⟩
    unfold hNr
    rw [h]
    exact hf
end C66
