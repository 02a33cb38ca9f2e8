/-! ===== the reference lays ways ===== -/
def TB (t : TT) : Prop := ∀ c v, t c = some v → v ≤ 36
theorem TB_st {F : Fl} {K : Nat → Bool} {n k hd : Nat} {t : TT} (hn : n < 36) (h : TB t) : TB (stH F K n k hd t) := by
  unfold stH
  split
  · split
    · exact h
    · split
      · intro c v hv
        dsimp only at hv
        split at hv
        · injection hv with hv; omega
        · exact h c v hv
      · exact h
  · exact h
theorem TB_H {F : Fl} {K : Nat → Bool} {n k : Nat} (hn : n < 36) : ∀ (m hd : Nat) (t : TT), TB t → TB (lH F K n k m hd t) := by
  intro m
  induction m with
  | zero => intro hd t h; exact h
  | succ m ih => intro hd t h; exact ih _ _ (TB_st hn h)
theorem TB_K {F : Fl} {K : Nat → Bool} {n : Nat} (hn : n < 36) : ∀ (m k : Nat) (t : TT), TB t → TB (lK F K n m k t) := by
  intro m
  induction m with
  | zero => intro k t h; exact h
  | succ m ih => intro k t h; exact ih _ _ (TB_H hn 4 0 t h)
theorem lH_no {F : Fl} {K : Nat → Bool} {n k : Nat} {t : TT} (h : ¬ t k = some n) : ∀ m hd, lH F K n k m hd t = t := by
  intro m
  induction m with
  | zero => intro hd; rfl
  | succ m ih =>
    intro hd
    show lH F K n k m (hd + 1) (stH F K n k hd t) = t
    have e : stH F K n k hd t = t := by unfold stH; rw [if_neg h]
    rw [e]
    exact ih _
theorem dI_n {o : Option Nat} {n : Nat} (hb : ∀ v, o = some v → v ≤ 36) (hn : n < 1000) : dI o = nI n ↔ o = some n := by
  cases o with
  | none =>
    constructor
    · intro h
      exact absurd h.symm (nI_m9 (by omega))
    · intro h; cases h
  | some v =>
    have := hb v rfl
    constructor
    · intro h
      have h2 : nI v = nI n := h
      rw [(nI_eq (by omega) (by omega)).mp h2]
    · intro h; injection h with h; rw [h]; rfl
theorem dI_9 {o : Option Nat} (hb : ∀ v, o = some v → v ≤ 36) : dI o = -9 ↔ o = none := by
  cases o with
  | none => exact ⟨fun _ => rfl, fun _ => rfl⟩
  | some v =>
    have := hb v rfl
    constructor
    · intro h
      exact absurd h (nI_m9 (by omega))
    · intro h; cases h
def kOf (F : Fl) (S : Sit) (kn : Bool) : Nat → Bool := if kn = true then kn1 S else fre F S
theorem kOf_sub {F : Fl} {S : Sit} (ok : sOK F S) (kn : Bool) : sub F (kOf F S kn) := by
  cases kn with
  | true => exact ok.k1
  | false => exact fre_sub F S
theorem lvl_off {F : Fl} {K : Nat → Bool} {a : Nat} (h : K a = false) : ∀ k c, lvl F K (some a) k c = false := by
  intro k
  induction k with
  | zero =>
    intro c
    cases q : lvl F K (some a) 0 c with
    | false => rfl
    | true =>
      obtain ⟨rfl, q2⟩ := lvl_0.mp q
      rw [h] at q2; cases q2
  | succ k ih =>
    intro c
    cases q : lvl F K (some a) (k + 1) c with
    | false => rfl
    | true =>
      rcases lvl_s.mp q with q | ⟨-, -, b, -, q⟩
      · rw [ih] at q; cases q
      · rw [ih] at q; cases q
section C63
variable {l : Launch} {g : zG} {d : Nat} {h : zH} {F : Fl} {S : Sit} {z : Nat → Int32} {un le : Nat} {qa qb : I4}
theorem c_M_lays {q : Nat} (hq1 : q ≠ 31) (hq2 : q ≠ 32) {f : Nat → Int32} (hF : fOK F) (ok : sOK F S) (hM : h[31]? = some (mC F un le qa qb)) (hS : h[32]? = some (sC F S z)) (hT : h[q]? = some (iA 36 f)) (kn : Bool) {a : Nat} (ha : a < fN F) (hfa : kn = false → fre F S a = true) : Run l g mM_lays (d + 2) 0 0 [.ref 31, .int (nI a), .int (if kn = true then 1 else 0), .ref q] h (PV (h.set q (iA 36 (fil f 0 (fN F) (fun c => dI (dst F (kOf F S kn) (some a) c)))))) := by
  have h36 := fN_le hF
  have hMq : ∀ c, (h.set q c)[31]? = some (mC F un le qa qb) := fun c => zg_ne hq1 hM
  have hSq : ∀ c, (h.set q c)[32]? = some (sC F S z) := fun c => zg_ne hq2 hS
  have hTq : ∀ c, (h.set q c)[q]? = some c := fun c => zg_eq hT
  obtain ⟨K, hK⟩ : ∃ K, K = kOf F S kn := ⟨_, rfl⟩
  have hKs : sub F K := by rw [hK]; exact kOf_sub ok kn
  rw [← hK]
  obtain ⟨PQ, hPQ⟩ : ∃ PQ, PQ = PV (h.set q (iA 36 (fil f 0 (fN F) (fun c => dI (dst F K (some a) c))))) := ⟨_, rfl⟩
  rw [← hPQ]
  obtain ⟨kv, hkv⟩ : ∃ kv : Int32, kv = if kn = true then 1 else 0 := ⟨_, rfl⟩
  rw [← hkv]
  obtain ⟨tA, htA⟩ : ∃ tA : TT → Nat → Int32, ∀ t, tA t = fil f 0 (fN F) (fun c => dI (t c)) := ⟨_, fun _ => rfl⟩
  have tAc : ∀ (t : TT) (c : Nat), c < fN F → tA t c = dI (t c) := fun t c hc => by rw [htA, fil0 hc]
  have cMc : ∀ (d : Nat) (c : zC), Run l g mM_cells d 0 0 [.ref 31] (h.set q c) (PI (nI (fN F)) (h.set q c)) := fun d c => c_M_cells (hMq c)
  -- one hand
  have LH : ∀ (n k : Nat), n < fN F → k < fN F → ∀ (m hd : Nat) (t : TT), hd + m = 4 → TB t →
      WW l g mM_lays (zrm (d + 2) 0 0) (fun _ => True) (zQQ g PQ (h.length + 0) 0 0) 170 [(0, some (.ref 31)), (2, some (.int kv)), (3, some (.ref q)), (4, some (.int (nI n))), (5, some (.int (nI k)))] [] (h.set q (iA 36 (tA (lH F K n k m hd t)))) 0 0 →
      WW l g mM_lays (zrm (d + 2) 0 0) (fun _ => True) (zQQ g PQ (h.length + 0) 0 0) 73 [(0, some (.ref 31)), (2, some (.int kv)), (3, some (.ref q)), (4, some (.int (nI n))), (5, some (.int (nI k))), (6, some (.int (nI hd)))] [] (h.set q (iA 36 (tA t))) 0 0 := by
    intro n k hn hk m
    induction m with
    | zero =>
      intro hd t hhd hB C
      have hhd : hd = 4 := by omega
      subst hhd
      refine zw_iload dM_lays_73 rfl ?_
      refine zw_iconst (v := 4) dM_lays_75 (by decide) ?_
      refine zw_icmp_ge 170 dM_lays_76 (by decide) (fun c_76 => ?_) (fun c_76 => ?_)
      · exact zw_lk C ⟨rfl, rfl, rfl, rfl, rfl, trivial⟩
      · exact absurd (Int32.le_refl _) c_76
    | succ m ih =>
      intro hd t hhd hB C
      have hh : hd < 4 := by omega
      have ekc : (nI k).toNatClampNeg = k := nI_clamp (by omega)
      have etk := tAc t k hk
      have hin : vp_in (nI k) 36 := vp_in_nI (by omega) (by decide)
      by_cases ht : t k = some n
      · have ed : dI (t k) = nI n := (dI_n (hB k) (by omega)).mpr ht
        have hnb : ∀ c, nb F k hd = some c → c < fN F := fun c e => (nb_spec hF hk hh e).1
        have cb := fun (c : zC) => c_M_beside (l := l) (g := g) (d := d) hF (hMq c) hk hh
        have C' : WW l g mM_lays (zrm (d + 2) 0 0) (fun _ => True) (zQQ g PQ (h.length + 0) 0 0) 170 [(0, some (.ref 31)), (2, some (.int kv)), (3, some (.ref q)), (4, some (.int (nI n))), (5, some (.int (nI k)))] [] (h.set q (iA 36 (tA (lH F K n k m (hd + 1) (stH F K n k hd t))))) 0 0 := C
        have I := ih (hd + 1) (stH F K n k hd t) (by omega) (TB_st (by omega) hB) C'
        cases hb : nb F k hd with
        | none =>
          have es : stH F K n k hd t = t := by unfold stH; rw [if_pos ht, hb]
          rw [es] at I
          rw [hb] at cb
          refine zw_iload dM_lays_73 rfl ?_
          refine zw_iconst (v := 4) dM_lays_75 (by decide) ?_
          refine zw_icmp_ge 170 dM_lays_76 (by decide) (fun c_76 => ?_) (fun c_76 => ?_)
          · exact absurd ((nI_leI (a := 4) (by omega) (by omega)).mp c_76) (by omega)
          · refine zw_aload_n dM_lays_79 rfl ?_
            refine zw_iload dM_lays_80 rfl ?_
            refine zw_iald dM_lays_82 (by first | exact hMq _ | exact hSq _ | exact hTq _) hin ?_
            rw [ekc, etk]
            refine zw_iload dM_lays_83 rfl ?_
            refine zw_icmp_ne 170 dM_lays_85 (by decide) (fun c_85 => ?_) (fun c_85 => ?_)
            · exact absurd ed c_85
            · refine zw_aload_n dM_lays_88 rfl ?_
              refine zw_iload dM_lays_89 rfl ?_
              refine zw_iload dM_lays_91 rfl ?_
              refine zc_V2I dM_lays_93 zm_M_beside zk_M_109 (by first | exact hMq _ | exact hSq _ | exact hTq _) rfl (cb _) ?_ zRR (Nat.le_of_ble_eq_true rfl) ⟨Nat.le_of_ble_eq_true rfl, Nat.le_of_ble_eq_true rfl⟩
              refine zw_istore dM_lays_96 (by decide) rfl ?_
              refine zw_iload dM_lays_98 rfl ?_
              refine zw_bipush (v := (-9)) dM_lays_100 (by decide) ?_
              refine zw_icmp_eq 148 dM_lays_102 (by decide) (fun c_102 => ?_) (fun c_102 => ?_)
              · refine zw_iconst (v := 0) dM_lays_148 (by decide) ?_
                refine zw_istore dM_lays_149 (by decide) rfl ?_
                refine zw_iload dM_lays_151 rfl ?_
                refine zw_if_eq 164 dM_lays_153 (by decide) (fun c_153 => ?_) (fun c_153 => ?_)
                · refine zw_incN dM_lays_164 rfl (by decide) rfl ?_
                  refine zw_goto 73 dM_lays_167 (by decide) ?_
                  exact zw_lk I ⟨rfl, rfl, rfl, rfl, rfl, rfl, trivial⟩
                · exact absurd rfl c_153
              · exact absurd rfl c_102
        | some b =>
          have hbn := hnb b hb
          rw [hb] at cb
          have e9 : ¬ nI b = -9 := nI_m9 (by omega)
          have ebc : (nI b).toNatClampNeg = b := nI_clamp (by omega)
          have etb := tAc t b hbn
          have hinb : vp_in (nI b) 36 := vp_in_nI (by omega) (by decide)
          have i9 := dI_9 (hB b)
          have cb2 : ∀ c, Run l g mM_beside (d + 1) 0 0 [.ref 31, .int (nI k), .int (nI hd)] (h.set q c) (PI (nI b) (h.set q c)) := cb
          have en := ms_n (S := S) (z := z) hF hbn
          obtain ⟨v1, v2, v3⟩ := vK hF hbn
          have hk2 := ok.kn b
          have cf := fun (c : zC) => c_M_isFree (l := l) (g := g) (d := d + 1) hF ok.shut (hMq c) (hSq c) hbn
          have e1 : nI n + 1 = nI (n + 1) := nI_1 n
          by_cases h2 : t b = none ∧ K b = true
          · have es : stH F K n k hd t = fun c => if c = b then some (n + 1) else t c := by unfold stH; rw [if_pos ht, hb]; dsimp only; rw [if_pos h2]
            have eu : upd (tA t) b (nI (n + 1)) = tA (stH F K n k hd t) := by
              rw [htA, htA, es]
              refine fil_upd hbn ?_ (fun c hc hne => ?_)
              · show _ = dI (if b = b then some (n + 1) else t b); rw [if_pos rfl]; rfl
              · show dI (if c = b then some (n + 1) else t c) = _; rw [if_neg hne]
            cases hkn : kn with
            | true =>
              rw [hkn] at hkv hK
              rw [if_pos rfl] at hkv
              subst hkv
              have hkb : sKn S b = 1 := by have := h2.2; rw [hK] at this; have t2 : (sKn S b == 1) = true := this; simpa using t2
              have ek1 : nI (sKn S b) = 1 := by rw [hkb]; rfl
              refine zw_iload dM_lays_73 rfl ?_
              refine zw_iconst (v := 4) dM_lays_75 (by decide) ?_
              refine zw_icmp_ge 170 dM_lays_76 (by decide) (fun c_76 => ?_) (fun c_76 => ?_)
              · exact absurd ((nI_leI (a := 4) (by omega) (by omega)).mp c_76) (by omega)
              · refine zw_aload_n dM_lays_79 rfl ?_
                refine zw_iload dM_lays_80 rfl ?_
                refine zw_iald dM_lays_82 (by first | exact hMq _ | exact hSq _ | exact hTq _) hin ?_
                rw [ekc, etk]
                refine zw_iload dM_lays_83 rfl ?_
                refine zw_icmp_ne 170 dM_lays_85 (by decide) (fun c_85 => ?_) (fun c_85 => ?_)
                · exact absurd ed c_85
                · refine zw_aload_n dM_lays_88 rfl ?_
                  refine zw_iload dM_lays_89 rfl ?_
                  refine zw_iload dM_lays_91 rfl ?_
                  refine zc_V2I dM_lays_93 zm_M_beside zk_M_109 (by first | exact hMq _ | exact hSq _ | exact hTq _) rfl (cb2 _) ?_ zRR (Nat.le_of_ble_eq_true rfl) ⟨Nat.le_of_ble_eq_true rfl, Nat.le_of_ble_eq_true rfl⟩
                  refine zw_istore dM_lays_96 (by decide) rfl ?_
                  refine zw_iload dM_lays_98 rfl ?_
                  refine zw_bipush (v := (-9)) dM_lays_100 (by decide) ?_
                  refine zw_icmp_eq 148 dM_lays_102 (by decide) (fun c_102 => ?_) (fun c_102 => ?_)
                  · exact absurd c_102 e9
                  · refine zw_aload_n dM_lays_105 rfl ?_
                    refine zw_iload dM_lays_106 rfl ?_
                    refine zw_iald dM_lays_108 (by first | exact hMq _ | exact hSq _ | exact hTq _) hinb ?_
                    rw [ebc, etb]
                    refine zw_bipush (v := (-9)) dM_lays_109 (by decide) ?_
                    refine zw_icmp_ne 148 dM_lays_111 (by decide) (fun c_111 => ?_) (fun c_111 => ?_)
                    · exact absurd (i9.mpr h2.1) c_111
                    · refine zw_iload_n dM_lays_114 rfl ?_
                      refine zw_if_eq 135 dM_lays_115 (by decide) (fun c_115 => ?_) (fun c_115 => ?_)
                      · exact absurd c_115 (by decide)
                      · refine zw_aload_n dM_lays_118 rfl ?_
                        refine zw_get dM_lays_119 zf_M_16 (by first | exact hMq _ | exact hSq _ | exact hTq _) rfl ?_
                        refine zw_bipush (v := 36) dM_lays_122 (by decide) ?_
                        refine zw_iload dM_lays_124 rfl ?_
                        refine zw_iadd dM_lays_126 ?_
                        rw [v1]
                        refine zw_iald dM_lays_127 (by first | exact hMq _ | exact hSq _ | exact hTq _) v2 ?_
                        rw [v3, en]
                        refine zw_iconst (v := 1) dM_lays_128 (by decide) ?_
                        refine zw_icmp_ne 148 dM_lays_129 (by decide) (fun c_129 => ?_) (fun c_129 => ?_)
                        · exact absurd ek1 c_129
                        · refine zw_goto 144 dM_lays_132 (by decide) ?_
                          refine zw_iconst (v := 1) dM_lays_144 (by decide) ?_
                          refine zw_goto 149 dM_lays_145 (by decide) ?_
                          refine zw_istore dM_lays_149 (by decide) rfl ?_
                          refine zw_iload dM_lays_151 rfl ?_
                          refine zw_if_eq 164 dM_lays_153 (by decide) (fun c_153 => ?_) (fun c_153 => ?_)
                          · exact absurd c_153 (by decide)
                          · refine zw_aload_n dM_lays_156 rfl ?_
                            refine zw_iload dM_lays_157 rfl ?_
                            refine zw_iload dM_lays_159 rfl ?_
                            refine zw_iconst (v := 1) dM_lays_161 (by decide) ?_
                            refine zw_iadd dM_lays_162 ?_
                            rw [e1]
                            refine zw_iast dM_lays_163 (by first | exact hMq _ | exact hSq _ | exact hTq _) hinb ?_
                            rw [ebc]
                            refine zw_h (iAu eu) ?_
                            refine zw_incN dM_lays_164 rfl (by decide) rfl ?_
                            refine zw_goto 73 dM_lays_167 (by decide) ?_
                            exact zw_lk I ⟨rfl, rfl, rfl, rfl, rfl, rfl, trivial⟩
            | false =>
              rw [hkn] at hkv hK
              rw [if_neg (by decide)] at hkv
              subst hkv
              have hfb : fre F S b = true := by have := h2.2; rw [hK] at this; exact this
              rw [hfb] at cf
              refine zw_iload dM_lays_73 rfl ?_
              refine zw_iconst (v := 4) dM_lays_75 (by decide) ?_
              refine zw_icmp_ge 170 dM_lays_76 (by decide) (fun c_76 => ?_) (fun c_76 => ?_)
              · exact absurd ((nI_leI (a := 4) (by omega) (by omega)).mp c_76) (by omega)
              · refine zw_aload_n dM_lays_79 rfl ?_
                refine zw_iload dM_lays_80 rfl ?_
                refine zw_iald dM_lays_82 (by first | exact hMq _ | exact hSq _ | exact hTq _) hin ?_
                rw [ekc, etk]
                refine zw_iload dM_lays_83 rfl ?_
                refine zw_icmp_ne 170 dM_lays_85 (by decide) (fun c_85 => ?_) (fun c_85 => ?_)
                · exact absurd ed c_85
                · refine zw_aload_n dM_lays_88 rfl ?_
                  refine zw_iload dM_lays_89 rfl ?_
                  refine zw_iload dM_lays_91 rfl ?_
                  refine zc_V2I dM_lays_93 zm_M_beside zk_M_109 (by first | exact hMq _ | exact hSq _ | exact hTq _) rfl (cb2 _) ?_ zRR (Nat.le_of_ble_eq_true rfl) ⟨Nat.le_of_ble_eq_true rfl, Nat.le_of_ble_eq_true rfl⟩
                  refine zw_istore dM_lays_96 (by decide) rfl ?_
                  refine zw_iload dM_lays_98 rfl ?_
                  refine zw_bipush (v := (-9)) dM_lays_100 (by decide) ?_
                  refine zw_icmp_eq 148 dM_lays_102 (by decide) (fun c_102 => ?_) (fun c_102 => ?_)
                  · exact absurd c_102 e9
                  · refine zw_aload_n dM_lays_105 rfl ?_
                    refine zw_iload dM_lays_106 rfl ?_
                    refine zw_iald dM_lays_108 (by first | exact hMq _ | exact hSq _ | exact hTq _) hinb ?_
                    rw [ebc, etb]
                    refine zw_bipush (v := (-9)) dM_lays_109 (by decide) ?_
                    refine zw_icmp_ne 148 dM_lays_111 (by decide) (fun c_111 => ?_) (fun c_111 => ?_)
                    · exact absurd (i9.mpr h2.1) c_111
                    · refine zw_iload_n dM_lays_114 rfl ?_
                      refine zw_if_eq 135 dM_lays_115 (by decide) (fun c_115 => ?_) (fun c_115 => ?_)
                      · refine zw_aload_n dM_lays_135 rfl ?_
                        refine zw_iload dM_lays_136 rfl ?_
                        refine zc_V1I dM_lays_138 zm_M_isFree zk_M_103 (by first | exact hMq _ | exact hSq _ | exact hTq _) rfl (cf _) ?_ zRR (Nat.le_of_ble_eq_true rfl) ⟨Nat.le_of_ble_eq_true rfl, Nat.le_of_ble_eq_true rfl⟩
                        refine zw_if_eq 148 dM_lays_141 (by decide) (fun c_141 => ?_) (fun c_141 => ?_)
                        · exact absurd c_141 (show ¬ (1 : Int32) = 0 by decide)
                        · refine zw_iconst (v := 1) dM_lays_144 (by decide) ?_
                          refine zw_goto 149 dM_lays_145 (by decide) ?_
                          refine zw_istore dM_lays_149 (by decide) rfl ?_
                          refine zw_iload dM_lays_151 rfl ?_
                          refine zw_if_eq 164 dM_lays_153 (by decide) (fun c_153 => ?_) (fun c_153 => ?_)
                          · exact absurd c_153 (by decide)
                          · refine zw_aload_n dM_lays_156 rfl ?_
                            refine zw_iload dM_lays_157 rfl ?_
                            refine zw_iload dM_lays_159 rfl ?_
                            refine zw_iconst (v := 1) dM_lays_161 (by decide) ?_
                            refine zw_iadd dM_lays_162 ?_
                            rw [e1]
                            refine zw_iast dM_lays_163 (by first | exact hMq _ | exact hSq _ | exact hTq _) hinb ?_
                            rw [ebc]
                            refine zw_h (iAu eu) ?_
                            refine zw_incN dM_lays_164 rfl (by decide) rfl ?_
                            refine zw_goto 73 dM_lays_167 (by decide) ?_
                            exact zw_lk I ⟨rfl, rfl, rfl, rfl, rfl, rfl, trivial⟩
                      · exact absurd rfl c_115
          · have es : stH F K n k hd t = t := by unfold stH; rw [if_pos ht, hb]; dsimp only; rw [if_neg h2]
            rw [es] at I
            cases hkn : kn with
            | true =>
              rw [hkn] at hkv hK
              rw [if_pos rfl] at hkv
              subst hkv
              have ek1 : nI (sKn S b) = 1 → K b = true := fun e => by
                have := (nI_eq (b := 1) (by omega) (by omega)).mp e
                rw [hK]; show (sKn S b == 1) = true; simpa using this
              refine zw_iload dM_lays_73 rfl ?_
              refine zw_iconst (v := 4) dM_lays_75 (by decide) ?_
              refine zw_icmp_ge 170 dM_lays_76 (by decide) (fun c_76 => ?_) (fun c_76 => ?_)
              · exact absurd ((nI_leI (a := 4) (by omega) (by omega)).mp c_76) (by omega)
              · refine zw_aload_n dM_lays_79 rfl ?_
                refine zw_iload dM_lays_80 rfl ?_
                refine zw_iald dM_lays_82 (by first | exact hMq _ | exact hSq _ | exact hTq _) hin ?_
                rw [ekc, etk]
                refine zw_iload dM_lays_83 rfl ?_
                refine zw_icmp_ne 170 dM_lays_85 (by decide) (fun c_85 => ?_) (fun c_85 => ?_)
                · exact absurd ed c_85
                · refine zw_aload_n dM_lays_88 rfl ?_
                  refine zw_iload dM_lays_89 rfl ?_
                  refine zw_iload dM_lays_91 rfl ?_
                  refine zc_V2I dM_lays_93 zm_M_beside zk_M_109 (by first | exact hMq _ | exact hSq _ | exact hTq _) rfl (cb2 _) ?_ zRR (Nat.le_of_ble_eq_true rfl) ⟨Nat.le_of_ble_eq_true rfl, Nat.le_of_ble_eq_true rfl⟩
                  refine zw_istore dM_lays_96 (by decide) rfl ?_
                  refine zw_iload dM_lays_98 rfl ?_
                  refine zw_bipush (v := (-9)) dM_lays_100 (by decide) ?_
                  refine zw_icmp_eq 148 dM_lays_102 (by decide) (fun c_102 => ?_) (fun c_102 => ?_)
                  · exact absurd c_102 e9
                  · refine zw_aload_n dM_lays_105 rfl ?_
                    refine zw_iload dM_lays_106 rfl ?_
                    refine zw_iald dM_lays_108 (by first | exact hMq _ | exact hSq _ | exact hTq _) hinb ?_
                    rw [ebc, etb]
                    refine zw_bipush (v := (-9)) dM_lays_109 (by decide) ?_
                    refine zw_icmp_ne 148 dM_lays_111 (by decide) (fun c_111 => ?_) (fun c_111 => ?_)
                    · refine zw_iconst (v := 0) dM_lays_148 (by decide) ?_
                      refine zw_istore dM_lays_149 (by decide) rfl ?_
                      refine zw_iload dM_lays_151 rfl ?_
                      refine zw_if_eq 164 dM_lays_153 (by decide) (fun c_153 => ?_) (fun c_153 => ?_)
                      · refine zw_incN dM_lays_164 rfl (by decide) rfl ?_
                        refine zw_goto 73 dM_lays_167 (by decide) ?_
                        exact zw_lk I ⟨rfl, rfl, rfl, rfl, rfl, rfl, trivial⟩
                      · exact absurd rfl c_153
                    · refine zw_iload_n dM_lays_114 rfl ?_
                      refine zw_if_eq 135 dM_lays_115 (by decide) (fun c_115 => ?_) (fun c_115 => ?_)
                      · exact absurd c_115 (by decide)
                      · refine zw_aload_n dM_lays_118 rfl ?_
                        refine zw_get dM_lays_119 zf_M_16 (by first | exact hMq _ | exact hSq _ | exact hTq _) rfl ?_
                        refine zw_bipush (v := 36) dM_lays_122 (by decide) ?_
                        refine zw_iload dM_lays_124 rfl ?_
                        refine zw_iadd dM_lays_126 ?_
                        rw [v1]
                        refine zw_iald dM_lays_127 (by first | exact hMq _ | exact hSq _ | exact hTq _) v2 ?_
                        rw [v3, en]
                        refine zw_iconst (v := 1) dM_lays_128 (by decide) ?_
                        refine zw_icmp_ne 148 dM_lays_129 (by decide) (fun c_129 => ?_) (fun c_129 => ?_)
                        · refine zw_iconst (v := 0) dM_lays_148 (by decide) ?_
                          refine zw_istore dM_lays_149 (by decide) rfl ?_
                          refine zw_iload dM_lays_151 rfl ?_
                          refine zw_if_eq 164 dM_lays_153 (by decide) (fun c_153 => ?_) (fun c_153 => ?_)
                          · refine zw_incN dM_lays_164 rfl (by decide) rfl ?_
                            refine zw_goto 73 dM_lays_167 (by decide) ?_
                            exact zw_lk I ⟨rfl, rfl, rfl, rfl, rfl, rfl, trivial⟩
                          · exact absurd rfl c_153
                        · exact absurd ⟨i9.mp c_111, ek1 c_129⟩ h2
            | false =>
              rw [hkn] at hkv hK
              rw [if_neg (by decide)] at hkv
              subst hkv
              have ek1 : fre F S b = true → K b = true := fun e => by rw [hK]; exact e
              refine zw_iload dM_lays_73 rfl ?_
              refine zw_iconst (v := 4) dM_lays_75 (by decide) ?_
              refine zw_icmp_ge 170 dM_lays_76 (by decide) (fun c_76 => ?_) (fun c_76 => ?_)
              · exact absurd ((nI_leI (a := 4) (by omega) (by omega)).mp c_76) (by omega)
              · refine zw_aload_n dM_lays_79 rfl ?_
                refine zw_iload dM_lays_80 rfl ?_
                refine zw_iald dM_lays_82 (by first | exact hMq _ | exact hSq _ | exact hTq _) hin ?_
                rw [ekc, etk]
                refine zw_iload dM_lays_83 rfl ?_
                refine zw_icmp_ne 170 dM_lays_85 (by decide) (fun c_85 => ?_) (fun c_85 => ?_)
                · exact absurd ed c_85
                · refine zw_aload_n dM_lays_88 rfl ?_
                  refine zw_iload dM_lays_89 rfl ?_
                  refine zw_iload dM_lays_91 rfl ?_
                  refine zc_V2I dM_lays_93 zm_M_beside zk_M_109 (by first | exact hMq _ | exact hSq _ | exact hTq _) rfl (cb2 _) ?_ zRR (Nat.le_of_ble_eq_true rfl) ⟨Nat.le_of_ble_eq_true rfl, Nat.le_of_ble_eq_true rfl⟩
                  refine zw_istore dM_lays_96 (by decide) rfl ?_
                  refine zw_iload dM_lays_98 rfl ?_
                  refine zw_bipush (v := (-9)) dM_lays_100 (by decide) ?_
                  refine zw_icmp_eq 148 dM_lays_102 (by decide) (fun c_102 => ?_) (fun c_102 => ?_)
                  · exact absurd c_102 e9
                  · refine zw_aload_n dM_lays_105 rfl ?_
                    refine zw_iload dM_lays_106 rfl ?_
                    refine zw_iald dM_lays_108 (by first | exact hMq _ | exact hSq _ | exact hTq _) hinb ?_
                    rw [ebc, etb]
                    refine zw_bipush (v := (-9)) dM_lays_109 (by decide) ?_
                    refine zw_icmp_ne 148 dM_lays_111 (by decide) (fun c_111 => ?_) (fun c_111 => ?_)
                    · refine zw_iconst (v := 0) dM_lays_148 (by decide) ?_
                      refine zw_istore dM_lays_149 (by decide) rfl ?_
                      refine zw_iload dM_lays_151 rfl ?_
                      refine zw_if_eq 164 dM_lays_153 (by decide) (fun c_153 => ?_) (fun c_153 => ?_)
                      · refine zw_incN dM_lays_164 rfl (by decide) rfl ?_
                        refine zw_goto 73 dM_lays_167 (by decide) ?_
                        exact zw_lk I ⟨rfl, rfl, rfl, rfl, rfl, rfl, trivial⟩
                      · exact absurd rfl c_153
                    · refine zw_iload_n dM_lays_114 rfl ?_
                      refine zw_if_eq 135 dM_lays_115 (by decide) (fun c_115 => ?_) (fun c_115 => ?_)
                      · refine zw_aload_n dM_lays_135 rfl ?_
                        refine zw_iload dM_lays_136 rfl ?_
                        refine zc_V1I dM_lays_138 zm_M_isFree zk_M_103 (by first | exact hMq _ | exact hSq _ | exact hTq _) rfl (cf _) ?_ zRR (Nat.le_of_ble_eq_true rfl) ⟨Nat.le_of_ble_eq_true rfl, Nat.le_of_ble_eq_true rfl⟩
                        refine zw_if_eq 148 dM_lays_141 (by decide) (fun c_141 => ?_) (fun c_141 => ?_)
                        · refine zw_iconst (v := 0) dM_lays_148 (by decide) ?_
                          refine zw_istore dM_lays_149 (by decide) rfl ?_
                          refine zw_iload dM_lays_151 rfl ?_
                          refine zw_if_eq 164 dM_lays_153 (by decide) (fun c_153 => ?_) (fun c_153 => ?_)
                          · refine zw_incN dM_lays_164 rfl (by decide) rfl ?_
                            refine zw_goto 73 dM_lays_167 (by decide) ?_
                            exact zw_lk I ⟨rfl, rfl, rfl, rfl, rfl, rfl, trivial⟩
                          · exact absurd rfl c_153
                        · exact absurd ⟨i9.mp c_111, ek1 (b11 c_141)⟩ h2
                      · exact absurd rfl c_115
      · rw [lH_no ht] at C
        have ed : ¬ dI (t k) = nI n := fun e => ht ((dI_n (hB k) (by omega)).mp e)
        refine zw_iload dM_lays_73 rfl ?_
        refine zw_iconst (v := 4) dM_lays_75 (by decide) ?_
        refine zw_icmp_ge 170 dM_lays_76 (by decide) (fun c_76 => ?_) (fun c_76 => ?_)
        · exact absurd ((nI_leI (a := 4) (by omega) (by omega)).mp c_76) (by omega)
        · refine zw_aload_n dM_lays_79 rfl ?_
          refine zw_iload dM_lays_80 rfl ?_
          refine zw_iald dM_lays_82 (by first | exact hMq _ | exact hSq _ | exact hTq _) hin ?_
          rw [ekc, etk]
          refine zw_iload dM_lays_83 rfl ?_
          refine zw_icmp_ne 170 dM_lays_85 (by decide) (fun c_85 => ?_) (fun c_85 => ?_)
          · exact zw_lk C ⟨rfl, rfl, rfl, rfl, rfl, trivial⟩
          · exact absurd c_85 ed
  have LK : ∀ (n : Nat), n < fN F → ∀ (m k : Nat) (t : TT), k + m = fN F → TB t →
      WW l g mM_lays (zrm (d + 2) 0 0) (fun _ => True) (zQQ g PQ (h.length + 0) 0 0) 176 [(0, some (.ref 31)), (2, some (.int kv)), (3, some (.ref q)), (4, some (.int (nI n)))] [] (h.set q (iA 36 (tA (lK F K n m k t)))) 0 0 →
      WW l g mM_lays (zrm (d + 2) 0 0) (fun _ => True) (zQQ g PQ (h.length + 0) 0 0) 61 [(0, some (.ref 31)), (2, some (.int kv)), (3, some (.ref q)), (4, some (.int (nI n))), (5, some (.int (nI k)))] [] (h.set q (iA 36 (tA t))) 0 0 := by
    intro n hn m
    induction m with
    | zero =>
      intro k t hk hB C
      have hk : k = fN F := by omega
      subst hk
      refine zw_iload dM_lays_61 rfl ?_
      refine zw_aload_n dM_lays_63 rfl ?_
      refine zc_V0I dM_lays_64 zm_M_cells zk_M_57 (hMq _) rfl (cMc _ _) ?_ zRR (Nat.le_of_ble_eq_true rfl) ⟨Nat.le_of_ble_eq_true rfl, Nat.le_of_ble_eq_true rfl⟩
      refine zw_icmp_ge 176 dM_lays_67 (by decide) (fun c_67 => ?_) (fun c_67 => ?_)
      · exact zw_lk C ⟨rfl, rfl, rfl, rfl, trivial⟩
      · exact absurd (Int32.le_refl _) c_67
    | succ m ih =>
      intro k t hk hB C
      have C' : WW l g mM_lays (zrm (d + 2) 0 0) (fun _ => True) (zQQ g PQ (h.length + 0) 0 0) 176 [(0, some (.ref 31)), (2, some (.int kv)), (3, some (.ref q)), (4, some (.int (nI n)))] [] (h.set q (iA 36 (tA (lK F K n m (k + 1) (lH F K n k 4 0 t))))) 0 0 := C
      have I := ih (k + 1) (lH F K n k 4 0 t) (by omega) (TB_H (by omega) 4 0 t hB) C'
      have C2 : WW l g mM_lays (zrm (d + 2) 0 0) (fun _ => True) (zQQ g PQ (h.length + 0) 0 0) 170 [(0, some (.ref 31)), (2, some (.int kv)), (3, some (.ref q)), (4, some (.int (nI n))), (5, some (.int (nI k)))] [] (h.set q (iA 36 (tA (lH F K n k 4 0 t)))) 0 0 := by
        refine zw_incN dM_lays_170 rfl (by decide) rfl ?_
        refine zw_goto 61 dM_lays_173 (by decide) ?_
        exact zw_lk I ⟨rfl, rfl, rfl, rfl, rfl, trivial⟩
      have H := LH n k hn (by omega) 4 0 t (by omega) hB C2
      refine zw_iload dM_lays_61 rfl ?_
      refine zw_aload_n dM_lays_63 rfl ?_
      refine zc_V0I dM_lays_64 zm_M_cells zk_M_57 (hMq _) rfl (cMc _ _) ?_ zRR (Nat.le_of_ble_eq_true rfl) ⟨Nat.le_of_ble_eq_true rfl, Nat.le_of_ble_eq_true rfl⟩
      refine zw_icmp_ge 176 dM_lays_67 (by decide) (fun c_67 => ?_) (fun c_67 => ?_)
      · exact absurd ((nI_leI (by omega) (by omega)).mp c_67) (by omega)
      · refine zw_iconst (v := 0) dM_lays_70 (by decide) ?_
        refine zw_istore dM_lays_71 (by decide) rfl ?_
        exact zw_lk H ⟨rfl, rfl, rfl, rfl, rfl, rfl, trivial⟩
  have LN : ∀ (m n : Nat) (t : TT), n + m = fN F → TB t → (∀ c, c < fN F → lNs F K m n t c = dst F K (some a) c) →
      WW l g mM_lays (zrm (d + 2) 0 0) (fun _ => True) (zQQ g PQ (h.length + 0) 0 0) 49 [(0, some (.ref 31)), (2, some (.int kv)), (3, some (.ref q)), (4, some (.int (nI n)))] [] (h.set q (iA 36 (tA t))) 0 0 := by
    intro m
    induction m with
    | zero =>
      intro n t hn hB hE
      have hn : n = fN F := by omega
      subst hn
      have e : tA t = fil f 0 (fN F) (fun c => dI (dst F K (some a) c)) := by
        rw [htA]
        refine fil_congr (fun c hc => ?_)
        show dI (dst F K (some a) c) = dI (t c)
        rw [← hE c hc]; rfl
      refine zw_iload dM_lays_49 rfl ?_
      refine zw_aload_n dM_lays_51 rfl ?_
      refine zc_V0I dM_lays_52 zm_M_cells zk_M_57 (hMq _) rfl (cMc _ _) ?_ zRR (Nat.le_of_ble_eq_true rfl) ⟨Nat.le_of_ble_eq_true rfl, Nat.le_of_ble_eq_true rfl⟩
      refine zw_icmp_ge 182 dM_lays_55 (by decide) (fun c_55 => ?_) (fun c_55 => ?_)
      · exact zw_vret dM_lays_182 rfl (by rw [zs_len]; rfl) (by rw [hPQ, e]; exact ⟨rfl, rfl⟩)
      · exact absurd (Int32.le_refl _) c_55
    | succ m ih =>
      intro n t hn hB hE
      have I := ih (n + 1) (lK F K n (fN F) 0 t) (by omega) (TB_K (by omega) _ _ t hB) hE
      have C2 : WW l g mM_lays (zrm (d + 2) 0 0) (fun _ => True) (zQQ g PQ (h.length + 0) 0 0) 176 [(0, some (.ref 31)), (2, some (.int kv)), (3, some (.ref q)), (4, some (.int (nI n)))] [] (h.set q (iA 36 (tA (lK F K n (fN F) 0 t)))) 0 0 := by
        refine zw_incN dM_lays_176 rfl (by decide) rfl ?_
        refine zw_goto 49 dM_lays_179 (by decide) ?_
        exact zw_lk I ⟨rfl, rfl, rfl, rfl, trivial⟩
      have H := LK n (by omega) (fN F) 0 t (by omega) hB C2
      refine zw_iload dM_lays_49 rfl ?_
      refine zw_aload_n dM_lays_51 rfl ?_
      refine zc_V0I dM_lays_52 zm_M_cells zk_M_57 (hMq _) rfl (cMc _ _) ?_ zRR (Nat.le_of_ble_eq_true rfl) ⟨Nat.le_of_ble_eq_true rfl, Nat.le_of_ble_eq_true rfl⟩
      refine zw_icmp_ge 182 dM_lays_55 (by decide) (fun c_55 => ?_) (fun c_55 => ?_)
      · exact absurd ((nI_leI (by omega) (by omega)).mp c_55) (by omega)
      · refine zw_iconst (v := 0) dM_lays_58 (by decide) ?_
        refine zw_istore dM_lays_59 (by decide) rfl ?_
        exact zw_lk H ⟨rfl, rfl, rfl, rfl, rfl, trivial⟩
  -- the row is cleared
  have eac : (nI a).toNatClampNeg = a := nI_clamp (by omega)
  have hina : vp_in (nI a) 36 := vp_in_nI (by omega) (by decide)
  have ena := ms_n (S := S) (z := z) hF ha
  obtain ⟨w1, w2, w3⟩ := vK hF ha
  have hka := ok.kn a
  have AF : WW l g mM_lays (zrm (d + 2) 0 0) (fun _ => True) (zQQ g PQ (h.length + 0) 0 0) 24 [(0, some (.ref 31)), (1, some (.int (nI a))), (2, some (.int kv)), (3, some (.ref q))] [] (h.set q (iA 36 (tA (fun _ => none)))) 0 0 := by
    have e0 : upd (tA (fun _ => none)) a 0 = tA (tt0 a) := by
      rw [htA, htA]
      refine fil_upd ha ?_ (fun c _ hne => ?_)
      · show (0 : Int32) = dI (if a = a then some 0 else none); rw [if_pos rfl]; rfl
      · show dI (if c = a then some 0 else none) = _; rw [if_neg hne]
    have B0 : TB (tt0 a) := by
      intro c v hv
      unfold tt0 at hv
      split at hv
      · injection hv with hv; omega
      · cases hv
    have GO : K a = true → WW l g mM_lays (zrm (d + 2) 0 0) (fun _ => True) (zQQ g PQ (h.length + 0) 0 0) 42 [(0, some (.ref 31)), (1, some (.int (nI a))), (2, some (.int kv)), (3, some (.ref q))] [] (h.set q (iA 36 (tA (fun _ => none)))) 0 0 := by
      intro hKa
      have G := LN (fN F) 0 (tt0 a) (by omega) B0 (lNs_dst hF hKs ha hKa)
      refine zw_aload_n dM_lays_42 rfl ?_
      refine zw_iload_n dM_lays_43 rfl ?_
      refine zw_iconst (v := 0) dM_lays_44 (by decide) ?_
      refine zw_iast dM_lays_45 (hTq _) hina ?_
      rw [eac]
      refine zw_h (iAu e0) ?_
      refine zw_iconst (v := 0) dM_lays_46 (by decide) ?_
      refine zw_istore dM_lays_47 (by decide) rfl ?_
      exact zw_lk G ⟨rfl, rfl, rfl, rfl, trivial⟩
    cases hkn : kn with
    | true =>
      rw [hkn] at hkv hK
      rw [if_pos rfl] at hkv
      subst hkv
      have eK : K a = (sKn S a == 1) := by rw [hK]; rfl
      cases hKa : K a with
      | true =>
        have e1 : nI (sKn S a) = 1 := by
          rw [hKa] at eK
          have : sKn S a = 1 := by simpa using eK.symm
          rw [this]; rfl
        refine zw_iload_n dM_lays_24 rfl ?_
        refine zw_if_eq 42 dM_lays_25 (by decide) (fun c_25 => ?_) (fun c_25 => ?_)
        · exact absurd c_25 (by decide)
        · refine zw_aload_n dM_lays_28 rfl ?_
          refine zw_get dM_lays_29 zf_M_16 (by first | exact hMq _ | exact hSq _) rfl ?_
          refine zw_bipush (v := 36) dM_lays_32 (by decide) ?_
          refine zw_iload_n dM_lays_34 rfl ?_
          refine zw_iadd dM_lays_35 ?_
          rw [w1]
          refine zw_iald dM_lays_36 (by first | exact hMq _ | exact hSq _) w2 ?_
          rw [w3, ena]
          refine zw_iconst (v := 1) dM_lays_37 (by decide) ?_
          refine zw_icmp_eq 42 dM_lays_38 (by decide) (fun c_38 => ?_) (fun c_38 => ?_)
          · exact zw_lk (GO hKa) ⟨rfl, rfl, rfl, rfl, trivial⟩
          · exact absurd e1 c_38
      | false =>
        have e1 : ¬ nI (sKn S a) = 1 := fun e => by
          rw [hKa] at eK
          have := (nI_eq (b := 1) (by omega) (by omega)).mp e
          rw [this] at eK
          cases eK
        have e2 : tA (fun _ => none) = fil f 0 (fN F) (fun c => dI (dst F K (some a) c)) := by
          rw [htA]
          refine fil_congr (fun c hc => ?_)
          show dI (dst F K (some a) c) = dI none
          rw [dst_none.mpr (fun j _ => lvl_off hKa j c)]
        refine zw_iload_n dM_lays_24 rfl ?_
        refine zw_if_eq 42 dM_lays_25 (by decide) (fun c_25 => ?_) (fun c_25 => ?_)
        · exact absurd c_25 (by decide)
        · refine zw_aload_n dM_lays_28 rfl ?_
          refine zw_get dM_lays_29 zf_M_16 (by first | exact hMq _ | exact hSq _) rfl ?_
          refine zw_bipush (v := 36) dM_lays_32 (by decide) ?_
          refine zw_iload_n dM_lays_34 rfl ?_
          refine zw_iadd dM_lays_35 ?_
          rw [w1]
          refine zw_iald dM_lays_36 (by first | exact hMq _ | exact hSq _) w2 ?_
          rw [w3, ena]
          refine zw_iconst (v := 1) dM_lays_37 (by decide) ?_
          refine zw_icmp_eq 42 dM_lays_38 (by decide) (fun c_38 => ?_) (fun c_38 => ?_)
          · exact absurd c_38 e1
          · exact zw_vret dM_lays_41 rfl (by rw [zs_len]; rfl) (by rw [hPQ, e2]; exact ⟨rfl, rfl⟩)
    | false =>
      have hKa : K a = true := by rw [hK, hkn]; exact hfa hkn
      have G := GO hKa
      rw [hkn, if_neg (by decide)] at hkv
      subst hkv
      refine zw_iload_n dM_lays_24 rfl ?_
      refine zw_if_eq 42 dM_lays_25 (by decide) (fun c_25 => ?_) (fun c_25 => ?_)
      · exact zw_lk G ⟨rfl, rfl, rfl, rfl, trivial⟩
      · exact absurd rfl c_25
  refine run_of (by decide) (Nat.le_of_ble_eq_true rfl) ?_
  have L1 : ∀ (m i : Nat), i + m = fN F → WW l g mM_lays (zrm (d + 2) 0 0) (fun _ => True) (zQQ g PQ (h.length + 0) 0 0) 3 [(0, some (.ref 31)), (1, some (.int (nI a))), (2, some (.int kv)), (3, some (.ref q)), (4, some (.int (nI i)))] [] (h.set q (iA 36 (fil f 0 i (fun _ => -9)))) 0 0 := by
    intro m
    induction m with
    | zero =>
      intro i hi
      have hi : i = fN F := by omega
      subst hi
      have e : fil f 0 (fN F) (fun _ => -9) = tA (fun _ => none) := by rw [htA]; rfl
      rw [e]
      refine zw_iload dM_lays_3 rfl ?_
      refine zw_aload_n dM_lays_5 rfl ?_
      refine zc_V0I dM_lays_6 zm_M_cells zk_M_57 (hMq _) rfl (cMc _ _) ?_ zRR (Nat.le_of_ble_eq_true rfl) ⟨Nat.le_of_ble_eq_true rfl, Nat.le_of_ble_eq_true rfl⟩
      refine zw_icmp_ge 24 dM_lays_9 (by decide) (fun c_9 => ?_) (fun c_9 => ?_)
      · exact zw_lk AF ⟨rfl, rfl, rfl, rfl, trivial⟩
      · exact absurd (Int32.le_refl _) c_9
    | succ m ih =>
      intro i hi
      have ecl : (nI i).toNatClampNeg = i := nI_clamp (by omega)
      refine zw_iload dM_lays_3 rfl ?_
      refine zw_aload_n dM_lays_5 rfl ?_
      refine zc_V0I dM_lays_6 zm_M_cells zk_M_57 (by first | exact hMq _ | exact hTq _) rfl (cMc _ _) ?_ zRR (Nat.le_of_ble_eq_true rfl) ⟨Nat.le_of_ble_eq_true rfl, Nat.le_of_ble_eq_true rfl⟩
      refine zw_icmp_ge 24 dM_lays_9 (by decide) (fun c_9 => ?_) (fun c_9 => ?_)
      · exact absurd ((nI_leI (by omega) (by omega)).mp c_9) (by omega)
      · refine zw_aload_n dM_lays_12 rfl ?_
        refine zw_iload dM_lays_13 rfl ?_
        refine zw_bipush (v := (-9)) dM_lays_15 (by decide) ?_
        refine zw_iast dM_lays_17 (by first | exact hMq _ | exact hTq _) (vp_in_nI (show i < 36 by omega) (by decide)) ?_
        rw [ecl]
        refine zw_h (iAu (fil_0s f i (fun _ => -9))) ?_
        refine zw_incN dM_lays_18 rfl (by decide) rfl ?_
        refine zw_goto 3 dM_lays_21 (by decide) ?_
        exact zw_lk (ih (i + 1) (by omega)) ⟨rfl, rfl, rfl, rfl, rfl, trivial⟩
  refine zw_iconst (v := 0) dM_lays_0 (by decide) ?_
  refine zw_istore dM_lays_1 (by decide) rfl ?_
  have L0 := L1 (fN F) 0 (by omega)
  rw [fil_0, zs_self hT] at L0
  exact zw_lk L0 ⟨rfl, rfl, rfl, rfl, rfl, trivial⟩
end C63
