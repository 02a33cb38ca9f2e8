/-! ===== the reference: place, reach, lanes ===== -/
def mxk (t : TT) : Nat → Nat
  | 0 => 0
  | k + 1 => match t k with | none => mxk t k | some v => if v ≤ mxk t k then mxk t k else v
theorem mxk_le {t : TT} {M : Nat} : ∀ {k : Nat}, (∀ c, c < k → ∀ v, t c = some v → v ≤ M) → mxk t k ≤ M := by
  intro k
  induction k with
  | zero => intro _; exact Nat.zero_le _
  | succ k ih =>
    intro h
    have i := ih (fun c hc => h c (by omega))
    show (match t k with | none => mxk t k | some v => if v ≤ mxk t k then mxk t k else v) ≤ M
    cases e : t k with
    | none => exact i
    | some v =>
      have := h k (by omega) v e
      dsimp only
      split <;> omega
theorem mxk_ge {t : TT} {c v : Nat} (e : t c = some v) : ∀ {k : Nat}, c < k → v ≤ mxk t k := by
  intro k
  induction k with
  | zero => intro h; omega
  | succ k ih =>
    intro h
    show v ≤ (match t k with | none => mxk t k | some v => if v ≤ mxk t k then mxk t k else v)
    by_cases q : c = k
    · subst q
      rw [e]
      dsimp only
      split <;> omega
    · have := ih (by omega)
      cases e2 : t k with
      | none => exact this
      | some w =>
        dsimp only
        split <;> omega
theorem mst_spec {F : Fl} {K : Nat → Bool} {a : Nat} (hF : fOK F) (hK : sub F K) (ha : a < fN F) (hKa : K a = true) : (∀ c v, dst F K (some a) c = some v → v ≤ mst F K (some a)) ∧ ∃ c, c < fN F ∧ dst F K (some a) c = some (mst F K (some a)) := by
  have h36 := fN_le hF
  have qiff : ∀ s, (List.range 36).all (fun i => lvl F K (some a) (s + 1) i == lvl F K (some a) s i) = true ↔ lvl F K (some a) (s + 1) = lvl F K (some a) s := by
    intro s
    rw [List.all_eq_true]
    constructor
    · intro h
      funext i
      by_cases hi : i < 36
      · simpa using h i (List.mem_range.mpr hi)
      · cases q1 : lvl F K (some a) (s + 1) i with
        | true => exact absurd (sub36 hF (lvl_sub hK _) i q1) hi
        | false =>
          cases q2 : lvl F K (some a) s i with
          | true => exact absurd (sub36 hF (lvl_sub hK _) i q2) hi
          | false => rfl
    · intro h i _
      rw [h]; simp
  cases hf : fst (fun s => (List.range 36).all (fun i => lvl F K (some a) (s + 1) i == lvl F K (some a) s i)) 36 0 with
  | none =>
    have h1 := fst_none.mp hf 35 (by omega) (by omega)
    have e : lvl F K (some a) (35 + 1) = lvl F K (some a) 35 := by
      rw [lvl_sat hF hK (35 + 1) (by omega), lvl_sat hF hK 35 (by omega)]
    rw [(qiff 35).mpr e] at h1
    cases h1
  | some s0 =>
    obtain ⟨-, h2, h3, h4⟩ := fst_some.mp hf
    have hm : mst F K (some a) = s0 := by unfold mst; rw [hf]; rfl
    rw [hm]
    have e0 := (qiff s0).mp h3
    constructor
    · intro c v hv
      obtain ⟨q1, q2, q3⟩ := dst_some.mp hv
      rcases Nat.lt_or_ge s0 v with g | g
      · have := lvl_stay e0 (v - s0)
        rw [show s0 + (v - s0) = v by omega] at this
        rw [this, q3 s0 g] at q2
        cases q2
      · exact g
    · cases s0 with
      | zero => exact ⟨a, ha, dst_some.mpr ⟨by decide, lvl_0.mpr ⟨rfl, hKa⟩, fun j hj => absurd hj (Nat.not_lt_zero _)⟩⟩
      | succ s =>
        have h5 := h4 s (by omega) (by omega)
        have h6 : ¬ lvl F K (some a) (s + 1) = lvl F K (some a) s := fun e => by rw [(qiff s).mpr e] at h5; cases h5
        have : ∃ i, lvl F K (some a) (s + 1) i = true ∧ lvl F K (some a) s i = false := by
          apply Classical.byContradiction
          intro hn
          apply h6
          funext i
          cases q1 : lvl F K (some a) s i with
          | true => exact lvl_up q1
          | false =>
            cases q2 : lvl F K (some a) (s + 1) i with
            | false => rfl
            | true => exact absurd ⟨i, q2, q1⟩ hn
        obtain ⟨i, q1, q2⟩ := this
        refine ⟨i, lvl_sub hK _ i q1, dst_some.mpr ⟨by omega, q1, fun j hj => ?_⟩⟩
        cases q3 : lvl F K (some a) j i with
        | false => rfl
        | true =>
          have := lvl_mono q3 s (by omega)
          rw [q2] at this
          cases this
theorem cnt_dst {F : Fl} {K : Nat → Bool} {a : Nat} (hF : fOK F) (hK : sub F K) : cnt (lvl F K (some a) 36) 36 = cnt (fun c => (dst F K (some a) c).isSome) (fN F) := by
  have h36 := fN_le hF
  have e : lvl F K (some a) 36 = lvl F K (some a) 35 := by rw [lvl_sat hF hK 36 (by omega), lvl_sat hF hK 35 (by omega)]
  have e2 : ∀ c, lvl F K (some a) 36 c = (dst F K (some a) c).isSome := by
    intro c
    rw [e]
    cases q : lvl F K (some a) 35 c with
    | true =>
      obtain ⟨m, -, hm⟩ := dst_of (show 35 < 36 by decide) q
      rw [hm]; rfl
    | false =>
      rw [dst_none.mpr (fun j hj => by
        cases q2 : lvl F K (some a) j c with
        | false => rfl
        | true =>
          have := lvl_mono q2 35 (by omega)
          rw [q] at this
          cases this)]
      rfl
  rw [cnt_congr (q := fun c => (dst F K (some a) c).isSome) (fun i _ => e2 i)]
  refine cnt_more h36 (fun i h1 _ => ?_)
  rw [← e2]
  cases q : lvl F K (some a) 36 i with
  | false => rfl
  | true => exact absurd (lvl_sub hK _ i q) (by omega)
section C69
variable {l : Launch} {g : zG} {d : Nat} {h : zH} {O : Om}
theorem c_M_reach (a : MX h O) (ok : oOK' O) {x : Int32} : Run l g mM_reach (d + 3) 0 0 [.ref 31, .int x] h (PIh (rReach O x) (MP h O)) := by
  obtain ⟨⟨qa, qb, z, hM, hS⟩, -, -, -, ⟨-, -, -, fa0, -, -, -, -, -, -, h40, -⟩⟩ := id a
  have hF := ok.1
  have h36 := fN_le hF
  have sok := ok.2.1
  have ci := c_M_inB (l := l) (g := g) (d := d + 2) (h := h) (x := x) (a := 0) (b := 1) (by decide) (by decide)
  unfold rReach
  refine run_of (by decide) (Nat.le_of_ble_eq_true rfl) ?_
  cases hb : btw x 0 1 with
  | none =>
    rw [hb] at ci
    refine zw_iload_n dM_reach_0 rfl ?_
    refine zw_iconst (v := 0) dM_reach_1 (by decide) ?_
    refine zw_iconst (v := 1) dM_reach_2 (by decide) ?_
    refine zc_S3I dM_reach_3 zm_M_in zk_M_67 ci ?_ zRR (Nat.le_of_ble_eq_true rfl) ⟨Nat.le_of_ble_eq_true rfl, Nat.le_of_ble_eq_true rfl⟩
    refine zw_if_ne 11 dM_reach_6 (by decide) (fun c_6 => ?_) (fun c_6 => ?_)
    · exact absurd rfl c_6
    · refine zw_iconst (v := (-1)) dM_reach_9 (by decide) ?_
      exact zw_iret dM_reach_10 rfl rfl rfl ⟨rfl, MP.rf a⟩
  | some w =>
    rw [hb] at ci
    obtain ⟨-, hw, rfl⟩ := (btw_some (by decide)).mp hb
    dsimp only
    have hfd : fre (oF O) (oS O) (fD (oF O)) = true := by
      have h6 := ((hF.2.2.2 _ hF.2.2.1).2).mpr rfl
      have hs : sShut (oS O) (fD (oF O)) = false := by
        cases q : sShut (oS O) (fD (oF O)) with
        | false => rfl
        | true => have := (sok.shut _ q).2; omega
      simp [fre, hF.2.2.1, h6, hs]
    have hKs : sub (oF O) (fre (oF O) (oS O)) := fre_sub _ _
    have cl := c_M_lays (l := l) (g := g) (d := d) (q := 40) (by decide) (by decide) hF sok hM hS h40 false hF.2.2.1 (fun _ => hfd)
    obtain ⟨t, ht⟩ : ∃ t : TT, t = fun c => dst (oF O) (fre (oF O) (oS O)) (some (fD (oF O))) c := ⟨_, rfl⟩
    obtain ⟨f2, hf2⟩ : ∃ f2, f2 = fil fa0 0 (fN (oF O)) (fun c => dI (t c)) := ⟨_, rfl⟩
    have cl2 : Run l g mM_lays (d + 2) 0 0 [.ref 31, .int (nI (fD (oF O))), .int 0, .ref 40] h (PV (h.set 40 (iA 36 f2))) := by rw [hf2, ht]; exact cl
    have ef : ∀ i, i < fN (oF O) → f2 i = dI (t i) := fun i hi => by rw [hf2, fil0 hi]
    have tb : ∀ c v, t c = some v → v < 36 := fun c v e => by rw [ht] at e; exact dst_lt e
    obtain ⟨s1, s2, s3, s4⟩ := mst_spec hF hKs hF.2.2.1 hfd
    have em : mxk t (fN (oF O)) = mst (oF O) (fre (oF O) (oS O)) (some (fD (oF O))) := by
      apply Nat.le_antisymm
      · exact mxk_le (fun c _ v e => s1 c v (by rw [ht] at e; exact e))
      · exact mxk_ge (by rw [ht]; exact s4) s3
    have ecn : cnt (fun c => (t c).isSome) (fN (oF O)) = cnt (lvl (oF O) (fre (oF O) (oS O)) (some (fD (oF O))) 36) 36 := by rw [cnt_dst hF hKs, ht]
    rw [← em, ← ecn]
    have mlt : ∀ k, mxk t k ≤ 36 := fun k => mxk_le (fun c _ v e => by have := tb c v e; omega)
    have hM40 : ∀ c, (h.set 40 c)[31]? = some (mC (oF O) (oSz O) (oLen O) qa qb) := fun c => zg_ne (by decide) hM
    have hT40 : ∀ c, (h.set 40 c)[40]? = some c := fun c => zg_eq h40
    have Q : MP h O (h.set 40 (iA 36 f2)) := (a.sc (by decide) f2).1
    have L : ∀ (m k : Nat), k + m = fN (oF O) → WW l g mM_reach (zrm (d + 3) 0 0) (fun _ => True) (zQQ g (PIh (if w = 0 then nI (cnt (fun c => (t c).isSome) (fN (oF O))) else nI (2 * mxk t (fN (oF O)))) (MP h O)) (h.length + 0) 0 0) 31 [(0, some (.ref 31)), (1, some (.int (nI w))), (2, some (.int (nI (cnt (fun c => (t c).isSome) k)))), (3, some (.int (nI (mxk t k)))), (4, some (.int (nI k)))] [] (h.set 40 (iA 36 f2)) 0 0 := by
      intro m
      induction m with
      | zero =>
        intro k hk
        have hk : k = fN (oF O) := by omega
        subst hk
        have e2 : (2 : Int32) * nI (mxk t (fN (oF O))) = nI (2 * mxk t (fN (oF O))) := pk_mul 2 _
        rcases (show w = 0 ∨ w = 1 by omega) with rfl | rfl
        · refine zw_iload dM_reach_31 rfl ?_
          refine zw_aload_n dM_reach_33 rfl ?_
          refine zc_V0I dM_reach_34 zm_M_cells zk_M_57 (hM40 _) rfl (c_M_cells (hM40 _)) ?_ zRR (Nat.le_of_ble_eq_true rfl) ⟨Nat.le_of_ble_eq_true rfl, Nat.le_of_ble_eq_true rfl⟩
          refine zw_icmp_ge 89 dM_reach_37 (by decide) (fun c_37 => ?_) (fun c_37 => ?_)
          · refine zw_iload_n dM_reach_89 rfl ?_
            refine zw_if_ne 97 dM_reach_90 (by decide) (fun c_90 => ?_) (fun c_90 => ?_)
            · exact absurd rfl c_90
            · refine zw_iload_n dM_reach_93 rfl ?_
              refine zw_goto 100 dM_reach_94 (by decide) ?_
              exact zw_iret dM_reach_100 rfl rfl (by rw [zs_len]; rfl) ⟨rfl, Q⟩
          · exact absurd (Int32.le_refl _) c_37
        · refine zw_iload dM_reach_31 rfl ?_
          refine zw_aload_n dM_reach_33 rfl ?_
          refine zc_V0I dM_reach_34 zm_M_cells zk_M_57 (hM40 _) rfl (c_M_cells (hM40 _)) ?_ zRR (Nat.le_of_ble_eq_true rfl) ⟨Nat.le_of_ble_eq_true rfl, Nat.le_of_ble_eq_true rfl⟩
          refine zw_icmp_ge 89 dM_reach_37 (by decide) (fun c_37 => ?_) (fun c_37 => ?_)
          · refine zw_iload_n dM_reach_89 rfl ?_
            refine zw_if_ne 97 dM_reach_90 (by decide) (fun c_90 => ?_) (fun c_90 => ?_)
            · refine zw_iconst (v := 2) dM_reach_97 (by decide) ?_
              refine zw_iload_n dM_reach_98 rfl ?_
              refine zw_imul dM_reach_99 ?_
              rw [e2]
              exact zw_iret dM_reach_100 rfl rfl (by rw [zs_len]; rfl) ⟨rfl, Q⟩
            · exact absurd c_90 (by decide)
          · exact absurd (Int32.le_refl _) c_37
      | succ m ih =>
        intro k hk
        have hkn : k < fN (oF O) := by omega
        have ekc : (nI k).toNatClampNeg = k := nI_clamp (by omega)
        have hin : vp_in (nI k) 36 := vp_in_nI (by omega) (by decide)
        have efk := ef k hkn
        have I := ih (k + 1) (by omega)
        have ec1 : cnt (fun c => (t c).isSome) (k + 1) = cnt (fun c => (t c).isSome) k + (if (t k).isSome = true then 1 else 0) := rfl
        have em1 : mxk t (k + 1) = match t k with | none => mxk t k | some v => if v ≤ mxk t k then mxk t k else v := rfl
        rw [ec1, em1] at I
        have ml := mlt k
        cases htk : t k with
        | none =>
          rw [htk] at I efk
          have e0 : nI (cnt (fun c => (t c).isSome) k) + 0 = nI (cnt (fun c => (t c).isSome) k) := Int32.add_zero _
          have ele : (-9 : Int32) ≤ nI (mxk t k) := by
            have h9 : (-9 : Int32).toInt = -9 := by decide
            rw [Int32.le_iff_toInt_le, nI_toInt (by omega), h9]
            omega
          refine zw_iload dM_reach_31 rfl ?_
          refine zw_aload_n dM_reach_33 rfl ?_
          refine zc_V0I dM_reach_34 zm_M_cells zk_M_57 (by first | exact hM40 _ | exact hT40 _) rfl (c_M_cells (hM40 _)) ?_ zRR (Nat.le_of_ble_eq_true rfl) ⟨Nat.le_of_ble_eq_true rfl, Nat.le_of_ble_eq_true rfl⟩
          refine zw_icmp_ge 89 dM_reach_37 (by decide) (fun c_37 => ?_) (fun c_37 => ?_)
          · exact absurd ((nI_leI (by omega) (by omega)).mp c_37) (by omega)
          · refine zw_iload_n dM_reach_40 rfl ?_
            refine zw_aload_n dM_reach_41 rfl ?_
            refine zw_get dM_reach_42 zf_M_42 (by first | exact hM40 _ | exact hT40 _) rfl ?_
            refine zw_iload dM_reach_45 rfl ?_
            refine zw_iald dM_reach_47 (by first | exact hM40 _ | exact hT40 _) hin ?_
            rw [ekc, efk]
            refine zw_bipush (v := (-9)) dM_reach_48 (by decide) ?_
            refine zw_icmp_ne 57 dM_reach_50 (by decide) (fun c_50 => ?_) (fun c_50 => ?_)
            · exact absurd rfl c_50
            · refine zw_iconst (v := 0) dM_reach_53 (by decide) ?_
              refine zw_goto 58 dM_reach_54 (by decide) ?_
              refine zw_iadd dM_reach_58 ?_
              rw [e0]
              refine zw_istore_n dM_reach_59 (by decide) rfl ?_
              refine zw_aload_n dM_reach_60 rfl ?_
              refine zw_get dM_reach_61 zf_M_42 (by first | exact hM40 _ | exact hT40 _) rfl ?_
              refine zw_iload dM_reach_64 rfl ?_
              refine zw_iald dM_reach_66 (by first | exact hM40 _ | exact hT40 _) hin ?_
              rw [ekc, efk]
              refine zw_iload_n dM_reach_67 rfl ?_
              refine zw_icmp_le 81 dM_reach_68 (by decide) (fun c_68 => ?_) (fun c_68 => ?_)
              · refine zw_iload_n dM_reach_81 rfl ?_
                refine zw_istore_n dM_reach_82 (by decide) rfl ?_
                refine zw_incN dM_reach_83 rfl (by decide) rfl ?_
                refine zw_goto 31 dM_reach_86 (by decide) ?_
                exact zw_lk I ⟨rfl, rfl, rfl, rfl, rfl, trivial⟩
              · exact absurd ele c_68
        | some v =>
          rw [htk] at I efk
          have vlt := tb k v htk
          have efk2 : f2 k = nI v := efk
          have e9 : ¬ nI v = -9 := nI_m9 (by omega)
          have e1 : nI (cnt (fun c => (t c).isSome) k) + 1 = nI (cnt (fun c => (t c).isSome) k + 1) := nI_1 _
          by_cases hle : v ≤ mxk t k
          · dsimp only at I
            rw [if_pos hle] at I
            refine zw_iload dM_reach_31 rfl ?_
            refine zw_aload_n dM_reach_33 rfl ?_
            refine zc_V0I dM_reach_34 zm_M_cells zk_M_57 (by first | exact hM40 _ | exact hT40 _) rfl (c_M_cells (hM40 _)) ?_ zRR (Nat.le_of_ble_eq_true rfl) ⟨Nat.le_of_ble_eq_true rfl, Nat.le_of_ble_eq_true rfl⟩
            refine zw_icmp_ge 89 dM_reach_37 (by decide) (fun c_37 => ?_) (fun c_37 => ?_)
            · exact absurd ((nI_leI (by omega) (by omega)).mp c_37) (by omega)
            · refine zw_iload_n dM_reach_40 rfl ?_
              refine zw_aload_n dM_reach_41 rfl ?_
              refine zw_get dM_reach_42 zf_M_42 (by first | exact hM40 _ | exact hT40 _) rfl ?_
              refine zw_iload dM_reach_45 rfl ?_
              refine zw_iald dM_reach_47 (by first | exact hM40 _ | exact hT40 _) hin ?_
              rw [ekc, efk2]
              refine zw_bipush (v := (-9)) dM_reach_48 (by decide) ?_
              refine zw_icmp_ne 57 dM_reach_50 (by decide) (fun c_50 => ?_) (fun c_50 => ?_)
              · refine zw_iconst (v := 1) dM_reach_57 (by decide) ?_
                refine zw_iadd dM_reach_58 ?_
                rw [e1]
                refine zw_istore_n dM_reach_59 (by decide) rfl ?_
                refine zw_aload_n dM_reach_60 rfl ?_
                refine zw_get dM_reach_61 zf_M_42 (by first | exact hM40 _ | exact hT40 _) rfl ?_
                refine zw_iload dM_reach_64 rfl ?_
                refine zw_iald dM_reach_66 (by first | exact hM40 _ | exact hT40 _) hin ?_
                rw [ekc, efk2]
                refine zw_iload_n dM_reach_67 rfl ?_
                refine zw_icmp_le 81 dM_reach_68 (by decide) (fun c_68 => ?_) (fun c_68 => ?_)
                · refine zw_iload_n dM_reach_81 rfl ?_
                  refine zw_istore_n dM_reach_82 (by decide) rfl ?_
                  refine zw_incN dM_reach_83 rfl (by decide) rfl ?_
                  refine zw_goto 31 dM_reach_86 (by decide) ?_
                  exact zw_lk I ⟨rfl, rfl, rfl, rfl, rfl, trivial⟩
                · exact absurd ((nI_leI (by omega) (by omega)).mpr hle) c_68
              · exact absurd c_50 e9
          · dsimp only at I
            rw [if_neg hle] at I
            refine zw_iload dM_reach_31 rfl ?_
            refine zw_aload_n dM_reach_33 rfl ?_
            refine zc_V0I dM_reach_34 zm_M_cells zk_M_57 (by first | exact hM40 _ | exact hT40 _) rfl (c_M_cells (hM40 _)) ?_ zRR (Nat.le_of_ble_eq_true rfl) ⟨Nat.le_of_ble_eq_true rfl, Nat.le_of_ble_eq_true rfl⟩
            refine zw_icmp_ge 89 dM_reach_37 (by decide) (fun c_37 => ?_) (fun c_37 => ?_)
            · exact absurd ((nI_leI (by omega) (by omega)).mp c_37) (by omega)
            · refine zw_iload_n dM_reach_40 rfl ?_
              refine zw_aload_n dM_reach_41 rfl ?_
              refine zw_get dM_reach_42 zf_M_42 (by first | exact hM40 _ | exact hT40 _) rfl ?_
              refine zw_iload dM_reach_45 rfl ?_
              refine zw_iald dM_reach_47 (by first | exact hM40 _ | exact hT40 _) hin ?_
              rw [ekc, efk2]
              refine zw_bipush (v := (-9)) dM_reach_48 (by decide) ?_
              refine zw_icmp_ne 57 dM_reach_50 (by decide) (fun c_50 => ?_) (fun c_50 => ?_)
              · refine zw_iconst (v := 1) dM_reach_57 (by decide) ?_
                refine zw_iadd dM_reach_58 ?_
                rw [e1]
                refine zw_istore_n dM_reach_59 (by decide) rfl ?_
                refine zw_aload_n dM_reach_60 rfl ?_
                refine zw_get dM_reach_61 zf_M_42 (by first | exact hM40 _ | exact hT40 _) rfl ?_
                refine zw_iload dM_reach_64 rfl ?_
                refine zw_iald dM_reach_66 (by first | exact hM40 _ | exact hT40 _) hin ?_
                rw [ekc, efk2]
                refine zw_iload_n dM_reach_67 rfl ?_
                refine zw_icmp_le 81 dM_reach_68 (by decide) (fun c_68 => ?_) (fun c_68 => ?_)
                · exact absurd ((nI_leI (by omega) (by omega)).mp c_68) hle
                · refine zw_aload_n dM_reach_71 rfl ?_
                  refine zw_get dM_reach_72 zf_M_42 (by first | exact hM40 _ | exact hT40 _) rfl ?_
                  refine zw_iload dM_reach_75 rfl ?_
                  refine zw_iald dM_reach_77 (by first | exact hM40 _ | exact hT40 _) hin ?_
                  rw [ekc, efk2]
                  refine zw_goto 82 dM_reach_78 (by decide) ?_
                  refine zw_istore_n dM_reach_82 (by decide) rfl ?_
                  refine zw_incN dM_reach_83 rfl (by decide) rfl ?_
                  refine zw_goto 31 dM_reach_86 (by decide) ?_
                  exact zw_lk I ⟨rfl, rfl, rfl, rfl, rfl, trivial⟩
              · exact absurd c_50 e9
    refine zw_iload_n dM_reach_0 rfl ?_
    refine zw_iconst (v := 0) dM_reach_1 (by decide) ?_
    refine zw_iconst (v := 1) dM_reach_2 (by decide) ?_
    refine zc_S3I dM_reach_3 zm_M_in zk_M_67 ci ?_ zRR (Nat.le_of_ble_eq_true rfl) ⟨Nat.le_of_ble_eq_true rfl, Nat.le_of_ble_eq_true rfl⟩
    refine zw_if_ne 11 dM_reach_6 (by decide) (fun c_6 => ?_) (fun c_6 => ?_)
    · refine zw_aload_n dM_reach_11 rfl ?_
      refine zw_aload_n dM_reach_12 rfl ?_
      refine zw_get dM_reach_13 zf_M_61 (by first | exact hM | exact hM40 _) rfl ?_
      refine zw_iconst (v := 0) dM_reach_16 (by decide) ?_
      refine zw_aload_n dM_reach_17 rfl ?_
      refine zw_get dM_reach_18 zf_M_42 (by first | exact hM | exact hM40 _) rfl ?_
      refine zc_V3V dM_reach_21 zm_M_lays zk_M_139 (by first | exact hM | exact hM40 _) rfl cl2 ?_ zRR (Nat.le_of_ble_eq_true rfl) ⟨Nat.le_of_ble_eq_true rfl, Nat.le_of_ble_eq_true rfl⟩
      refine zw_iconst (v := 0) dM_reach_24 (by decide) ?_
      refine zw_istore_n dM_reach_25 (by decide) rfl ?_
      refine zw_iconst (v := 0) dM_reach_26 (by decide) ?_
      refine zw_istore_n dM_reach_27 (by decide) rfl ?_
      refine zw_iconst (v := 0) dM_reach_28 (by decide) ?_
      refine zw_istore dM_reach_29 (by decide) rfl ?_
      exact zw_lk (L (fN (oF O)) 0 (by omega)) ⟨rfl, rfl, rfl, rfl, rfl, trivial⟩
    · exact absurd c_6 (show ¬ (1 : Int32) = 0 by decide)
theorem c_M_place (a : MX h O) (ok : oOK' O) {x : Int32} : Run l g mM_place (d + 2) 0 0 [.ref 31, .int x] h (PIh (rPlace O x) (MP h O)) := by
  refine run_rm a ?_
  obtain ⟨⟨qa, qb, z, hM, hS⟩, -⟩ := id a
  have hF := ok.1
  have h36 := fN_le hF
  have sok := ok.2.1
  have hat := sok.at
  have hhd := sok.hd
  have r111 := ms_111 (oF O) (oS O) z
  have e4 : (4 : Int32) * nI (fN (oF O)) = nI (4 * fN (oF O)) := pk_mul 4 (fN (oF O))
  unfold rPlace
  refine run_of (by decide) (Nat.le_of_ble_eq_true rfl) ?_
  by_cases hx1 : x < -1
  · rw [if_pos hx1]
    refine zw_iload_n dM_place_0 rfl ?_
    refine zw_iconst (v := (-1)) dM_place_1 (by decide) ?_
    refine zw_icmp_ge 7 dM_place_2 (by decide) (fun c_2 => ?_) (fun c_2 => ?_)
    · exact absurd hx1 (Int32.not_lt.mpr c_2)
    · refine zw_iconst (v := (-1)) dM_place_5 (by decide) ?_
      exact zw_iret dM_place_6 rfl rfl rfl ⟨rfl, rfl⟩
  · rw [if_neg hx1]
    have hx1' : (-1 : Int32) ≤ x := Int32.not_lt.mp hx1
    by_cases hx2 : x = -1
    · subst hx2
      rw [if_pos rfl]
      cases hl : sLost (oS O) with
      | true =>
        rw [hl] at r111
        rw [if_pos rfl]
        have cm := c_M_manyPlaces (l := l) (g := g) (d := d) hF hM hS
        rw [cnt_lpl hF sok hl] at cm
        refine zw_iload_n dM_place_0 rfl ?_
        refine zw_iconst (v := (-1)) dM_place_1 (by decide) ?_
        refine zw_icmp_ge 7 dM_place_2 (by decide) (fun c_2 => ?_) (fun c_2 => ?_)
        · refine zw_aload_n dM_place_7 rfl ?_
          refine zw_get dM_place_8 zf_M_16 (by first | exact hM | exact hS) rfl ?_
          refine zw_bipush (v := 111) dM_place_11 (by decide) ?_
          refine zw_iald dM_place_13 (by first | exact hM | exact hS) v111 ?_
          rw [e111, r111]
          refine zw_if_ne 53 dM_place_14 (by decide) (fun c_14 => ?_) (fun c_14 => ?_)
          · refine zw_iload_n dM_place_53 rfl ?_
            refine zw_iconst (v := (-1)) dM_place_54 (by decide) ?_
            refine zw_icmp_ne 63 dM_place_55 (by decide) (fun c_55 => ?_) (fun c_55 => ?_)
            · exact absurd rfl c_55
            · refine zw_aload_n dM_place_58 rfl ?_
              refine zc_V0I dM_place_59 zm_M_manyPlaces zk_M_106 (by first | exact hM | exact hS) rfl cm ?_ zRR (Nat.le_of_ble_eq_true rfl) ⟨Nat.le_of_ble_eq_true rfl, Nat.le_of_ble_eq_true rfl⟩
              exact zw_iret dM_place_62 rfl rfl rfl ⟨rfl, rfl⟩
          · exact absurd c_14 (by decide)
        · exact absurd hx1' c_2
      | false =>
        rw [hl] at r111
        rw [if_neg (by decide)]
        refine zw_iload_n dM_place_0 rfl ?_
        refine zw_iconst (v := (-1)) dM_place_1 (by decide) ?_
        refine zw_icmp_ge 7 dM_place_2 (by decide) (fun c_2 => ?_) (fun c_2 => ?_)
        · refine zw_aload_n dM_place_7 rfl ?_
          refine zw_get dM_place_8 zf_M_16 (by first | exact hM | exact hS) rfl ?_
          refine zw_bipush (v := 111) dM_place_11 (by decide) ?_
          refine zw_iald dM_place_13 (by first | exact hM | exact hS) v111 ?_
          rw [e111, r111]
          refine zw_if_ne 53 dM_place_14 (by decide) (fun c_14 => ?_) (fun c_14 => ?_)
          · exact absurd rfl c_14
          · refine zw_iload_n dM_place_17 rfl ?_
            refine zw_iconst (v := (-1)) dM_place_18 (by decide) ?_
            refine zw_icmp_ne 26 dM_place_19 (by decide) (fun c_19 => ?_) (fun c_19 => ?_)
            · exact absurd rfl c_19
            · refine zw_iconst (v := 1) dM_place_22 (by decide) ?_
              refine zw_goto 52 dM_place_23 (by decide) ?_
              exact zw_iret dM_place_52 rfl rfl rfl ⟨rfl, rfl⟩
        · exact absurd hx1' c_2
    · rw [if_neg hx2]
      obtain ⟨j, hj, rfl⟩ := nonneg_of hx1 hx2
      rw [nI_clamp hj]
      cases hl : sLost (oS O) with
      | false =>
        rw [hl] at r111
        unfold plK
        rw [if_neg (by rw [hl]; decide)]
        by_cases hj0 : j = 0
        · subst hj0
          rw [if_pos rfl]
          have e5 : (4 : Int32) * nI (sAt (oS O)) + nI (sHd (oS O)) = nI (4 * sAt (oS O) + sHd (oS O)) := by rw [show (4 : Int32) * nI (sAt (oS O)) = nI (4 * sAt (oS O)) from pk_mul 4 _, nI_add]
          refine zw_iload_n dM_place_0 rfl ?_
          refine zw_iconst (v := (-1)) dM_place_1 (by decide) ?_
          refine zw_icmp_ge 7 dM_place_2 (by decide) (fun c_2 => ?_) (fun c_2 => ?_)
          · refine zw_aload_n dM_place_7 rfl ?_
            refine zw_get dM_place_8 zf_M_16 (by first | exact hM | exact hS) rfl ?_
            refine zw_bipush (v := 111) dM_place_11 (by decide) ?_
            refine zw_iald dM_place_13 (by first | exact hM | exact hS) v111 ?_
            rw [e111, r111]
            refine zw_if_ne 53 dM_place_14 (by decide) (fun c_14 => ?_) (fun c_14 => ?_)
            · exact absurd rfl c_14
            · refine zw_iload_n dM_place_17 rfl ?_
              refine zw_iconst (v := (-1)) dM_place_18 (by decide) ?_
              refine zw_icmp_ne 26 dM_place_19 (by decide) (fun c_19 => ?_) (fun c_19 => ?_)
              · refine zw_iload_n dM_place_26 rfl ?_
                refine zw_if_ne 50 dM_place_27 (by decide) (fun c_27 => ?_) (fun c_27 => ?_)
                · exact absurd rfl c_27
                · refine zw_iconst (v := 4) dM_place_30 (by decide) ?_
                  refine zw_aload_n dM_place_31 rfl ?_
                  refine zw_get dM_place_32 zf_M_16 (by first | exact hM | exact hS) rfl ?_
                  refine zw_bipush (v := 108) dM_place_35 (by decide) ?_
                  refine zw_iald dM_place_37 (by first | exact hM | exact hS) v108 ?_
                  rw [e108, ms_108]
                  refine zw_imul dM_place_38 ?_
                  refine zw_aload_n dM_place_39 rfl ?_
                  refine zw_get dM_place_40 zf_M_16 (by first | exact hM | exact hS) rfl ?_
                  refine zw_bipush (v := 109) dM_place_43 (by decide) ?_
                  refine zw_iald dM_place_45 (by first | exact hM | exact hS) v109 ?_
                  rw [e109, ms_109]
                  refine zw_iadd dM_place_46 ?_
                  rw [e5]
                  refine zw_goto 52 dM_place_47 (by decide) ?_
                  exact zw_iret dM_place_52 rfl rfl rfl ⟨rfl, rfl⟩
              · exact absurd c_19 hx2
          · exact absurd hx1' c_2
        · rw [if_neg hj0]
          have hjn : ¬ nI j = 0 := nI_ne0 (by omega) hj
          refine zw_iload_n dM_place_0 rfl ?_
          refine zw_iconst (v := (-1)) dM_place_1 (by decide) ?_
          refine zw_icmp_ge 7 dM_place_2 (by decide) (fun c_2 => ?_) (fun c_2 => ?_)
          · refine zw_aload_n dM_place_7 rfl ?_
            refine zw_get dM_place_8 zf_M_16 (by first | exact hM | exact hS) rfl ?_
            refine zw_bipush (v := 111) dM_place_11 (by decide) ?_
            refine zw_iald dM_place_13 (by first | exact hM | exact hS) v111 ?_
            rw [e111, r111]
            refine zw_if_ne 53 dM_place_14 (by decide) (fun c_14 => ?_) (fun c_14 => ?_)
            · exact absurd rfl c_14
            · refine zw_iload_n dM_place_17 rfl ?_
              refine zw_iconst (v := (-1)) dM_place_18 (by decide) ?_
              refine zw_icmp_ne 26 dM_place_19 (by decide) (fun c_19 => ?_) (fun c_19 => ?_)
              · refine zw_iload_n dM_place_26 rfl ?_
                refine zw_if_ne 50 dM_place_27 (by decide) (fun c_27 => ?_) (fun c_27 => ?_)
                · refine zw_bipush (v := (-9)) dM_place_50 (by decide) ?_
                  exact zw_iret dM_place_52 rfl rfl rfl ⟨rfl, rfl⟩
                · exact absurd c_27 hjn
              · exact absurd c_19 hx2
          · exact absurd hx1' c_2
      | true =>
        rw [hl] at r111
        have epk : plK (oS O) j = nthP (sPl (oS O)) j := by unfold plK; rw [if_pos hl]
        rw [epk]
        have elp : ∀ e, lpl (oS O) e = ppl (sPl (oS O)) e := fun e => by unfold lpl; rw [hl]; rfl
        have hno : ∀ e, 4 * fN (oF O) ≤ e → ppl (sPl (oS O)) e = false := by
          intro e he
          cases q : ppl (sPl (oS O)) e with
          | false => rfl
          | true =>
            have := sok.pl hl (e / 4) (e % 4) (Nat.mod_lt _ (by decide)) q
            omega
        have L : ∀ (m e : Nat), e + m = 4 * fN (oF O) → cnt (ppl (sPl (oS O))) e ≤ j → (∀ i, i < e → (ppl (sPl (oS O)) i && cnt (ppl (sPl (oS O))) i == j) = false) → WW l g mM_place (zrm (d + 2) 0 0) (fun _ => True) (zQQ g (PI (dI (nthP (sPl (oS O)) j)) h) (h.length + 0) 0 0) 67 [(0, some (.ref 31)), (2, some (.int (nI (j - cnt (ppl (sPl (oS O))) e)))), (3, some (.int (nI e)))] [] h 0 0 := by
          intro m
          induction m with
          | zero =>
            intro e he hc hp
            have he : e = 4 * fN (oF O) := by omega
            subst he
            have en : nthP (sPl (oS O)) j = none := fst_none.mpr (fun i _ _ => by
              rcases Nat.lt_or_ge i (4 * fN (oF O)) with q | q
              · exact hp i q
              · rw [hno i q]; rfl)
            rw [en]
            refine zw_iload_n dM_place_67 rfl ?_
            refine zw_iconst (v := 4) dM_place_68 (by decide) ?_
            refine zw_aload_n dM_place_69 rfl ?_
            refine zc_V0I dM_place_70 zm_M_cells zk_M_57 hM rfl (c_M_cells hM) ?_ zRR (Nat.le_of_ble_eq_true rfl) ⟨Nat.le_of_ble_eq_true rfl, Nat.le_of_ble_eq_true rfl⟩
            refine zw_imul dM_place_73 ?_
            rw [e4]
            refine zw_icmp_ge 113 dM_place_74 (by decide) (fun c_74 => ?_) (fun c_74 => ?_)
            · refine zw_bipush (v := (-9)) dM_place_113 (by decide) ?_
              exact zw_iret dM_place_115 rfl rfl rfl ⟨rfl, rfl⟩
            · exact absurd (Int32.le_refl _) c_74
          | succ m ih =>
            intro e he hc hp
            have hce : e / 4 < fN (oF O) := by omega
            obtain ⟨q1, q2⟩ := k4 (k := e) (by omega)
            obtain ⟨v1, v2, v3⟩ := vP hF hce
            have ep := ms_p (S := oS O) (z := z) hF hce
            have eg := plN_get (oS O) e
            rw [elp] at eg
            have ecs : cnt (ppl (sPl (oS O))) (e + 1) = cnt (ppl (sPl (oS O))) e + (if ppl (sPl (oS O)) e = true then 1 else 0) := rfl
            cases hpe : ppl (sPl (oS O)) e with
            | false =>
              rw [hpe] at eg ecs
              have ecs' : cnt (ppl (sPl (oS O))) (e + 1) = cnt (ppl (sPl (oS O))) e := ecs
              have I := ih (e + 1) (by omega) (by rw [ecs']; exact hc) (fun i hi => by
                by_cases q : i = e
                · subst q; rw [hpe]; rfl
                · exact hp i (by omega))
              rw [ecs'] at I
              refine zw_iload_n dM_place_67 rfl ?_
              refine zw_iconst (v := 4) dM_place_68 (by decide) ?_
              refine zw_aload_n dM_place_69 rfl ?_
              refine zc_V0I dM_place_70 zm_M_cells zk_M_57 (by first | exact hM | exact hS) rfl (c_M_cells hM) ?_ zRR (Nat.le_of_ble_eq_true rfl) ⟨Nat.le_of_ble_eq_true rfl, Nat.le_of_ble_eq_true rfl⟩
              refine zw_imul dM_place_73 ?_
              rw [e4]
              refine zw_icmp_ge 113 dM_place_74 (by decide) (fun c_74 => ?_) (fun c_74 => ?_)
              · exact absurd ((nI_leI (by omega) (by omega)).mp c_74) (by omega)
              · refine zw_aload_n dM_place_77 rfl ?_
                refine zw_get dM_place_78 zf_M_16 (by first | exact hM | exact hS) rfl ?_
                refine zw_bipush (v := 72) dM_place_81 (by decide) ?_
                refine zw_iload_n dM_place_83 rfl ?_
                refine zw_iconst (v := 4) dM_place_84 (by decide) ?_
                refine zw_idiv dM_place_85 n4 ?_
                rw [q1]
                refine zw_iadd dM_place_86 ?_
                rw [v1]
                refine zw_iald dM_place_87 (by first | exact hM | exact hS) v2 ?_
                rw [v3, ep]
                refine zw_iload_n dM_place_88 rfl ?_
                refine zw_iconst (v := 4) dM_place_89 (by decide) ?_
                refine zw_irem dM_place_90 n4 ?_
                rw [q2]
                refine zw_ishr dM_place_91 ?_
                refine zw_iconst (v := 1) dM_place_92 (by decide) ?_
                refine zw_iand dM_place_93 ?_
                rw [eg]
                refine zw_iconst (v := 1) dM_place_94 (by decide) ?_
                refine zw_icmp_ne 107 dM_place_95 (by decide) (fun c_95 => ?_) (fun c_95 => ?_)
                · refine zw_incN dM_place_107 rfl (by decide) rfl ?_
                  refine zw_goto 67 dM_place_110 (by decide) ?_
                  exact zw_lk I ⟨rfl, rfl, rfl, trivial⟩
                · exact absurd c_95 (by decide)
            | true =>
              rw [hpe] at eg ecs
              have ecs' : cnt (ppl (sPl (oS O))) (e + 1) = cnt (ppl (sPl (oS O))) e + 1 := ecs
              by_cases hz : cnt (ppl (sPl (oS O))) e = j
              · have en : nthP (sPl (oS O)) j = some e := fst_some.mpr ⟨by omega, by omega, by rw [hpe, hz]; simp, fun i _ hi => hp i hi⟩
                rw [en]
                have e0 : nI (j - cnt (ppl (sPl (oS O))) e) = 0 := by rw [hz, Nat.sub_self]; rfl
                refine zw_iload_n dM_place_67 rfl ?_
                refine zw_iconst (v := 4) dM_place_68 (by decide) ?_
                refine zw_aload_n dM_place_69 rfl ?_
                refine zc_V0I dM_place_70 zm_M_cells zk_M_57 (by first | exact hM | exact hS) rfl (c_M_cells hM) ?_ zRR (Nat.le_of_ble_eq_true rfl) ⟨Nat.le_of_ble_eq_true rfl, Nat.le_of_ble_eq_true rfl⟩
                refine zw_imul dM_place_73 ?_
                rw [e4]
                refine zw_icmp_ge 113 dM_place_74 (by decide) (fun c_74 => ?_) (fun c_74 => ?_)
                · exact absurd ((nI_leI (by omega) (by omega)).mp c_74) (by omega)
                · refine zw_aload_n dM_place_77 rfl ?_
                  refine zw_get dM_place_78 zf_M_16 (by first | exact hM | exact hS) rfl ?_
                  refine zw_bipush (v := 72) dM_place_81 (by decide) ?_
                  refine zw_iload_n dM_place_83 rfl ?_
                  refine zw_iconst (v := 4) dM_place_84 (by decide) ?_
                  refine zw_idiv dM_place_85 n4 ?_
                  rw [q1]
                  refine zw_iadd dM_place_86 ?_
                  rw [v1]
                  refine zw_iald dM_place_87 (by first | exact hM | exact hS) v2 ?_
                  rw [v3, ep]
                  refine zw_iload_n dM_place_88 rfl ?_
                  refine zw_iconst (v := 4) dM_place_89 (by decide) ?_
                  refine zw_irem dM_place_90 n4 ?_
                  rw [q2]
                  refine zw_ishr dM_place_91 ?_
                  refine zw_iconst (v := 1) dM_place_92 (by decide) ?_
                  refine zw_iand dM_place_93 ?_
                  rw [eg]
                  refine zw_iconst (v := 1) dM_place_94 (by decide) ?_
                  refine zw_icmp_ne 107 dM_place_95 (by decide) (fun c_95 => ?_) (fun c_95 => ?_)
                  · exact absurd rfl c_95
                  · refine zw_iload_n dM_place_98 rfl ?_
                    refine zw_if_ne 104 dM_place_99 (by decide) (fun c_99 => ?_) (fun c_99 => ?_)
                    · exact absurd e0 c_99
                    · refine zw_iload_n dM_place_102 rfl ?_
                      exact zw_iret dM_place_103 rfl rfl rfl ⟨rfl, rfl⟩
              · have I := ih (e + 1) (by omega) (by omega) (fun i hi => by
                  by_cases q : i = e
                  · subst q; rw [hpe]; simpa using hz
                  · exact hp i (by omega))
                have e0 : ¬ nI (j - cnt (ppl (sPl (oS O))) e) = 0 := nI_ne0 (by omega) (by omega)
                have e1 : nI (j - cnt (ppl (sPl (oS O))) e) + Int32.ofInt (-1) = nI (j - cnt (ppl (sPl (oS O))) (e + 1)) := by
                  rw [ecs', show j - (cnt (ppl (sPl (oS O))) e + 1) = j - cnt (ppl (sPl (oS O))) e - 1 by omega]
                  exact nI_m1 (by omega)
                rw [← e1] at I
                refine zw_iload_n dM_place_67 rfl ?_
                refine zw_iconst (v := 4) dM_place_68 (by decide) ?_
                refine zw_aload_n dM_place_69 rfl ?_
                refine zc_V0I dM_place_70 zm_M_cells zk_M_57 (by first | exact hM | exact hS) rfl (c_M_cells hM) ?_ zRR (Nat.le_of_ble_eq_true rfl) ⟨Nat.le_of_ble_eq_true rfl, Nat.le_of_ble_eq_true rfl⟩
                refine zw_imul dM_place_73 ?_
                rw [e4]
                refine zw_icmp_ge 113 dM_place_74 (by decide) (fun c_74 => ?_) (fun c_74 => ?_)
                · exact absurd ((nI_leI (by omega) (by omega)).mp c_74) (by omega)
                · refine zw_aload_n dM_place_77 rfl ?_
                  refine zw_get dM_place_78 zf_M_16 (by first | exact hM | exact hS) rfl ?_
                  refine zw_bipush (v := 72) dM_place_81 (by decide) ?_
                  refine zw_iload_n dM_place_83 rfl ?_
                  refine zw_iconst (v := 4) dM_place_84 (by decide) ?_
                  refine zw_idiv dM_place_85 n4 ?_
                  rw [q1]
                  refine zw_iadd dM_place_86 ?_
                  rw [v1]
                  refine zw_iald dM_place_87 (by first | exact hM | exact hS) v2 ?_
                  rw [v3, ep]
                  refine zw_iload_n dM_place_88 rfl ?_
                  refine zw_iconst (v := 4) dM_place_89 (by decide) ?_
                  refine zw_irem dM_place_90 n4 ?_
                  rw [q2]
                  refine zw_ishr dM_place_91 ?_
                  refine zw_iconst (v := 1) dM_place_92 (by decide) ?_
                  refine zw_iand dM_place_93 ?_
                  rw [eg]
                  refine zw_iconst (v := 1) dM_place_94 (by decide) ?_
                  refine zw_icmp_ne 107 dM_place_95 (by decide) (fun c_95 => ?_) (fun c_95 => ?_)
                  · exact absurd rfl c_95
                  · refine zw_iload_n dM_place_98 rfl ?_
                    refine zw_if_ne 104 dM_place_99 (by decide) (fun c_99 => ?_) (fun c_99 => ?_)
                    · refine zw_iinc dM_place_104 rfl rfl (by decide) rfl ?_
                      refine zw_incN dM_place_107 rfl (by decide) rfl ?_
                      refine zw_goto 67 dM_place_110 (by decide) ?_
                      exact zw_lk I ⟨rfl, rfl, rfl, trivial⟩
                    · exact absurd c_99 e0
        refine zw_iload_n dM_place_0 rfl ?_
        refine zw_iconst (v := (-1)) dM_place_1 (by decide) ?_
        refine zw_icmp_ge 7 dM_place_2 (by decide) (fun c_2 => ?_) (fun c_2 => ?_)
        · refine zw_aload_n dM_place_7 rfl ?_
          refine zw_get dM_place_8 zf_M_16 (by first | exact hM | exact hS) rfl ?_
          refine zw_bipush (v := 111) dM_place_11 (by decide) ?_
          refine zw_iald dM_place_13 (by first | exact hM | exact hS) v111 ?_
          rw [e111, r111]
          refine zw_if_ne 53 dM_place_14 (by decide) (fun c_14 => ?_) (fun c_14 => ?_)
          · refine zw_iload_n dM_place_53 rfl ?_
            refine zw_iconst (v := (-1)) dM_place_54 (by decide) ?_
            refine zw_icmp_ne 63 dM_place_55 (by decide) (fun c_55 => ?_) (fun c_55 => ?_)
            · refine zw_iload_n dM_place_63 rfl ?_
              refine zw_istore_n dM_place_64 (by decide) rfl ?_
              refine zw_iconst (v := 0) dM_place_65 (by decide) ?_
              refine zw_istore_n dM_place_66 (by decide) rfl ?_
              exact zw_lk (L (4 * fN (oF O)) 0 (by omega) (Nat.zero_le _) (fun i hi => absurd hi (Nat.not_lt_zero _))) ⟨rfl, rfl, rfl, trivial⟩
            · exact absurd c_55 hx2
          · exact absurd c_14 (by decide)
        · exact absurd hx1' c_2
end C69
