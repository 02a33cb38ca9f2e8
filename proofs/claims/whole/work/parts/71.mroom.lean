/-! ===== the reference: rooms ===== -/
def lft (F : Fl) (t : TT) : Nat → Bool := fun c => rof F c && (t c).isNone
def cmp (F : Fl) (t : TT) (k : Nat) : Nat → Bool := lvl F (lft F t) (some k) 36
def rms (F : Fl) : Nat → Nat → TT → Nat → TT × Nat
  | 0, _, t, n => (t, n)
  | m + 1, i, t, n => if lft F t i = true then rms F m (i + 1) (fun c => if cmp F t i c = true then some n else t c) (n + 1) else rms F m (i + 1) t n
section C71a
variable {F : Fl} {t : TT}
theorem lft_sub (hF : fOK F) : sub F (lft F t) := fun c h => by
  simp only [lft, Bool.and_eq_true] at h
  exact rof_sub hF c h.1
theorem lft_next (k n : Nat) : (fun c => lft F t c && !(lvl F (lft F t) (some k) 36 c)) = lft F (fun c => if cmp F t k c = true then some n else t c) := by
  funext c
  show (lft F t c && !(cmp F t k c)) = (rof F c && (if cmp F t k c = true then some n else t c).isNone)
  cases cmp F t k c <;> simp [lft]
theorem rms_keep {c v : Nat} : ∀ (m i : Nat) (t : TT) (n : Nat), t c = some v → (rms F m i t n).1 c = some v := by
  intro m
  induction m with
  | zero => intro i t n h; exact h
  | succ m ih =>
    intro i t n h
    show (if lft F t i = true then rms F m (i + 1) (fun c => if cmp F t i c = true then some n else t c) (n + 1) else rms F m (i + 1) t n).1 c = some v
    split
    · refine ih _ _ _ ?_
      rw [if_neg]
      · exact h
      · intro q
        have := lvl_K _ _ q
        simp [lft, h] at this
    · exact ih _ _ _ h
theorem roomN_none : ∀ (m i : Nat) (t : TT) (n : Nat), roomN F none m i (lft F t) n = nI (rms F m i t n).2 := by
  intro m
  induction m with
  | zero => intro i t n; rfl
  | succ m ih =>
    intro i t n
    show (if lft F t i = true then (if holdsB (lvl F (lft F t) (some i) 36) none = true then nI n else roomN F none m (i + 1) (fun c => lft F t c && !(lvl F (lft F t) (some i) 36 c)) (n + 1)) else roomN F none m (i + 1) (lft F t) n) = nI (if lft F t i = true then rms F m (i + 1) (fun c => if cmp F t i c = true then some n else t c) (n + 1) else rms F m (i + 1) t n).2
    split
    · rw [if_neg (by simp [holdsB]), lft_next i n]
      exact ih _ _ _
    · exact ih _ _ _
theorem roomN_some {c : Nat} : ∀ (m i : Nat) (t : TT) (n : Nat), t c = none → roomN F (some c) m i (lft F t) n = dI ((rms F m i t n).1 c) := by
  intro m
  induction m with
  | zero =>
    intro i t n h
    show (if (some c) = none then nI n else -9) = dI (t c)
    rw [h, if_neg (by simp)]; rfl
  | succ m ih =>
    intro i t n h
    show (if lft F t i = true then (if holdsB (lvl F (lft F t) (some i) 36) (some c) = true then nI n else roomN F (some c) m (i + 1) (fun c => lft F t c && !(lvl F (lft F t) (some i) 36 c)) (n + 1)) else roomN F (some c) m (i + 1) (lft F t) n) = dI ((if lft F t i = true then rms F m (i + 1) (fun c => if cmp F t i c = true then some n else t c) (n + 1) else rms F m (i + 1) t n).1 c)
    by_cases h1 : lft F t i = true
    · rw [if_pos h1, if_pos h1, lft_next i n]
      have e : holdsB (lvl F (lft F t) (some i) 36) (some c) = cmp F t i c := rfl
      rw [e]
      cases hc : cmp F t i c with
      | true =>
        rw [if_pos rfl, rms_keep (v := n) m (i + 1) (fun c => if cmp F t i c = true then some n else t c) (n + 1) (by rw [hc]; rfl)]
        rfl
      | false =>
        rw [if_neg (by decide)]
        exact ih _ _ _ (by rw [hc, if_neg (by decide)]; exact h)
    · rw [if_neg h1, if_neg h1]
      exact ih _ _ _ h
theorem rms_past (hF : fOK F) : ∀ (m i : Nat) (t : TT) (n : Nat), fN F ≤ i → rms F m i t n = (t, n) := by
  intro m
  induction m with
  | zero => intro i t n _; rfl
  | succ m ih =>
    intro i t n hi
    show (if lft F t i = true then rms F m (i + 1) (fun c => if cmp F t i c = true then some n else t c) (n + 1) else rms F m (i + 1) t n) = (t, n)
    rw [if_neg (fun q => absurd (lft_sub hF i q) (by omega))]
    exact ih _ _ _ (by omega)
theorem rms_ext (hF : fOK F) : ∀ (m m' i : Nat) (t : TT) (n : Nat), fN F ≤ i + m → m ≤ m' → rms F m' i t n = rms F m i t n := by
  intro m
  induction m with
  | zero => intro m' i t n h _; exact rms_past hF _ _ _ _ (by omega)
  | succ m ih =>
    intro m' i t n h hm
    cases m' with
    | zero => omega
    | succ m' =>
      show (if lft F t i = true then rms F m' (i + 1) (fun c => if cmp F t i c = true then some n else t c) (n + 1) else rms F m' (i + 1) t n) = (if lft F t i = true then rms F m (i + 1) (fun c => if cmp F t i c = true then some n else t c) (n + 1) else rms F m (i + 1) t n)
      split
      · exact ih _ _ _ _ (by omega) (by omega)
      · exact ih _ _ _ _ (by omega) (by omega)
theorem lft_0 : lft F (fun _ => none) = rof F := by funext c; simp [lft]
theorem cnt_add {A : Nat → Bool} {b : Nat} (hb : A b = false) : ∀ {n : Nat}, b < n → cnt (fun c => A c || c == b) n = cnt A n + 1 := by
  intro n
  induction n with
  | zero => intro h; omega
  | succ n ih =>
    intro h
    show cnt (fun c => A c || c == b) n + (if (A n || n == b) = true then 1 else 0) = cnt A n + (if A n = true then 1 else 0) + 1
    by_cases q : b = n
    · subst q
      have e : cnt (fun c => A c || c == b) b = cnt A b := cnt_congr (fun i hi => by
        have : (i == b) = false := by simp; omega
        rw [this, Bool.or_false])
      rw [e, hb]; simp
    · have e : (n == b) = false := by simp; omega
      rw [e, Bool.or_false, ih (by omega)]
      omega
def GA (F : Fl) (t : TT) (k : Nat) (A : Nat → Bool) : Prop := A k = true ∧ ∀ c, A c = true → cmp F t k c = true
def clo (F : Fl) (t : TT) (A : Nat → Bool) (e : Nat) : Prop := ∀ e', e' < e → A (e' / 4) = true → ∀ b, nb F (e' / 4) (e' % 4) = some b → lft F t b = true → A b = true
theorem clo_cmp (hF : fOK F) {k : Nat} {A : Nat → Bool} (hG : GA F t k A) (hC : clo F t A (4 * fN F)) : ∀ c, cmp F t k c = true → A c = true := by
  have key : ∀ j c, lvl F (lft F t) (some k) j c = true → A c = true := by
    intro j
    induction j with
    | zero =>
      intro c h
      obtain ⟨rfl, -⟩ := lvl_0.mp h
      exact hG.1
    | succ j ih =>
      intro c h
      rcases lvl_s.mp h with h | ⟨h1, h2, b, h3, h4⟩
      · exact ih c h
      · obtain ⟨hb, hand, hh, hnb⟩ := Adj.symm hF h2 h3
        have e1 : (4 * b + hand) / 4 = b := by omega
        have e2 : (4 * b + hand) % 4 = hand := by omega
        exact hC (4 * b + hand) (by omega) (by rw [e1]; exact ih b h4) c (by rw [e1, e2]; exact hnb) h1
  exact fun c h => key 36 c h
theorem cmp_next (hF : fOK F) {k c b : Nat} (hc : cmp F t k c = true) (hb : lft F t b = true) (ha : Adj F c b) : cmp F t k b = true := by
  have hcn := lvl_sub (lft_sub hF) _ c hc
  have h36 := fN_le hF
  obtain ⟨hbn, hab⟩ := Adj.symm hF hcn ha
  have h1 : lvl F (lft F t) (some k) (36 + 1) b = true := lvl_s.mpr (Or.inr ⟨hb, hbn, c, hab, hc⟩)
  rw [lvl_sat hF (lft_sub hF) (36 + 1) (by omega), ← lvl_sat hF (lft_sub hF) 36 (by omega)] at h1
  exact h1
end C71a
section C71
variable {l : Launch} {g : zG} {d : Nat} {h : zH} {F : Fl} {S : Sit} {z : Nat → Int32} {un le : Nat} {qa qb : I4}
theorem c_M_laysRooms {ro : Nat → Int32} (hF : fOK F) (hM : h[31]? = some (mC F un le qa qb)) (hS : h[32]? = some (sC F S z)) (hT : h[43]? = some (iA 36 ro)) : Run l g mM_laysRooms (d + 2) 0 0 [.ref 31] h (PI (nI (rms F (fN F) 0 (fun _ => none) 0).2) (h.set 43 (iA 36 (fil ro 0 (fN F) (fun c => dI ((rms F (fN F) 0 (fun _ => none) 0).1 c)))))) := by
  have h36 := fN_le hF
  have hMq : ∀ c, (h.set 43 c)[31]? = some (mC F un le qa qb) := fun c => zg_ne (by decide) hM
  have hSq : ∀ c, (h.set 43 c)[32]? = some (sC F S z) := fun c => zg_ne (by decide) hS
  have hTq : ∀ c, (h.set 43 c)[43]? = some c := fun c => zg_eq hT
  have e4 : (4 : Int32) * nI (fN F) = nI (4 * fN F) := pk_mul 4 (fN F)
  obtain ⟨R, hR⟩ : ∃ R, R = rms F (fN F) 0 (fun _ => none) 0 := ⟨_, rfl⟩
  rw [← hR]
  obtain ⟨tA, htA⟩ : ∃ tA : TT → Nat → Int32, ∀ t, tA t = fil ro 0 (fN F) (fun c => dI (t c)) := ⟨_, fun _ => rfl⟩
  rw [← htA]
  have tAc : ∀ (t : TT) (c : Nat), c < fN F → tA t c = dI (t c) := fun t c hc => by rw [htA, fil0 hc]
  have cMc : ∀ (d : Nat) (c : zC), Run l g mM_cells d 0 0 [.ref 31] (h.set 43 c) (PI (nI (fN F)) (h.set 43 c)) := fun d c => c_M_cells (hMq c)
  -- a pass
  have LI : ∀ (n k : Nat) (t : TT) (A0 : Nat → Bool), n ≤ k → k < fN F → (∀ c v, t c = some v → v < n) →
      ∀ (m e : Nat) (A : Nat → Bool) (mo : Bool), e + m = 4 * fN F → GA F t k A → (mo = false → A = A0 ∧ clo F t A0 e) → (mo = true → cnt A0 36 < cnt A 36) →
      (∀ (A' : Nat → Bool) (mo' : Bool), GA F t k A' → (mo' = false → A' = A0 ∧ clo F t A0 (4 * fN F)) → (mo' = true → cnt A0 36 < cnt A' 36) →
        WW l g mM_laysRooms (zrm (d + 2) 0 0) (fun _ => True) (zQQ g (PI (nI R.2) (h.set 43 (iA 36 (tA R.1)))) (h.length + 0) 0 0) 155 [(0, some (.ref 31)), (1, some (.int (nI n))), (2, some (.int (nI k))), (3, some (.int (if mo' = true then 1 else 0)))] [] (h.set 43 (iA 36 (tA (fun c => if A' c = true then some n else t c)))) 0 0) →
      WW l g mM_laysRooms (zrm (d + 2) 0 0) (fun _ => True) (zQQ g (PI (nI R.2) (h.set 43 (iA 36 (tA R.1)))) (h.length + 0) 0 0) 73 [(0, some (.ref 31)), (1, some (.int (nI n))), (2, some (.int (nI k))), (3, some (.int (if mo = true then 1 else 0))), (4, some (.int (nI e)))] [] (h.set 43 (iA 36 (tA (fun c => if A c = true then some n else t c)))) 0 0 := by
    intro n k t A0 hnk hkn hv m
    induction m with
    | zero =>
      intro e A mo he hG h1 h2 C
      have he : e = 4 * fN F := by omega
      subst he
      have C1 := C A mo hG h1 h2
      refine zw_iload dM_laysRooms_73 rfl ?_
      refine zw_iconst (v := 4) dM_laysRooms_75 (by decide) ?_
      refine zw_aload_n dM_laysRooms_76 rfl ?_
      refine zc_V0I dM_laysRooms_77 zm_M_cells zk_M_57 (hMq _) rfl (cMc _ _) ?_ zRR (Nat.le_of_ble_eq_true rfl) ⟨Nat.le_of_ble_eq_true rfl, Nat.le_of_ble_eq_true rfl⟩
      refine zw_imul dM_laysRooms_80 ?_
      rw [e4]
      refine zw_icmp_ge 155 dM_laysRooms_81 (by decide) (fun c_81 => ?_) (fun c_81 => ?_)
      · exact zw_lk C1 ⟨rfl, rfl, rfl, rfl, trivial⟩
      · exact absurd (Int32.le_refl _) c_81
    | succ m ih =>
      intro e A mo he hG h1 h2 C
      have hc : e / 4 < fN F := by omega
      have hj : e % 4 < 4 := Nat.mod_lt _ (by decide)
      obtain ⟨q1, q2⟩ := k4 (k := e) (by omega)
      obtain ⟨tt, htt⟩ : ∃ tt : TT, tt = fun c => if A c = true then some n else t c := ⟨_, rfl⟩
      have ttb : ∀ c v, tt c = some v → v ≤ 36 := by
        intro c v e
        rw [htt] at e
        dsimp only at e
        split at e
        · injection e with e; omega
        · have := hv c v e; omega
      have ttn : ∀ c, tt c = some n ↔ A c = true := by
        intro c
        rw [htt]
        dsimp only
        constructor
        · intro e
          cases q : A c with
          | true => rfl
          | false =>
            rw [q, if_neg (by decide)] at e
            have := hv c n e
            omega
        · intro q; rw [if_pos q]
      have ttN : ∀ c, tt c = none ↔ (A c = false ∧ t c = none) := by
        intro c
        rw [htt]
        dsimp only
        cases q : A c with
        | true => simp
        | false => simp
      have eec : (nI (e / 4)).toNatClampNeg = e / 4 := nI_clamp (by omega)
      have ete := tAc tt (e / 4) hc
      have ein : vp_in (nI (e / 4)) 36 := vp_in_nI (by omega) (by decide)
      have en := dI_n (n := n) (ttb (e / 4)) (by omega)
      have cb := fun (c : zC) => c_M_beside (l := l) (g := g) (d := d) hF (hMq c) hc hj
      rw [← htt]
      -- nothing is added
      have SAME : (A (e / 4) = true → ∀ b, nb F (e / 4) (e % 4) = some b → lft F t b = true → A b = true) → WW l g mM_laysRooms (zrm (d + 2) 0 0) (fun _ => True) (zQQ g (PI (nI R.2) (h.set 43 (iA 36 (tA R.1)))) (h.length + 0) 0 0) 149 [(0, some (.ref 31)), (1, some (.int (nI n))), (2, some (.int (nI k))), (3, some (.int (if mo = true then 1 else 0))), (4, some (.int (nI e)))] [] (h.set 43 (iA 36 (tA tt))) 0 0 := by
        intro hno
        have I := ih (e + 1) A mo (by omega) hG (fun q => by
          obtain ⟨x1, x2⟩ := h1 q
          refine ⟨x1, fun e' he' ha b hb hl => ?_⟩
          by_cases q3 : e' = e
          · subst q3
            rw [← x1] at ha ⊢
            exact hno ha b hb hl
          · exact x2 e' (by omega) ha b hb hl) h2 C
        rw [← htt] at I
        refine zw_incN dM_laysRooms_149 rfl (by decide) rfl ?_
        refine zw_goto 73 dM_laysRooms_152 (by decide) ?_
        exact zw_lk I ⟨rfl, rfl, rfl, rfl, rfl, trivial⟩
      cases hA : A (e / 4) with
      | false =>
        have ne : ¬ dI (tt (e / 4)) = nI n := fun q => by have := (ttn _).mp (en.mp q); rw [hA] at this; cases this
        have S1 := SAME (fun q => by rw [hA] at q; cases q)
        refine zw_iload dM_laysRooms_73 rfl ?_
        refine zw_iconst (v := 4) dM_laysRooms_75 (by decide) ?_
        refine zw_aload_n dM_laysRooms_76 rfl ?_
        refine zc_V0I dM_laysRooms_77 zm_M_cells zk_M_57 (by first | exact hMq _ | exact hTq _) rfl (cMc _ _) ?_ zRR (Nat.le_of_ble_eq_true rfl) ⟨Nat.le_of_ble_eq_true rfl, Nat.le_of_ble_eq_true rfl⟩
        refine zw_imul dM_laysRooms_80 ?_
        rw [e4]
        refine zw_icmp_ge 155 dM_laysRooms_81 (by decide) (fun c_81 => ?_) (fun c_81 => ?_)
        · exact absurd ((nI_leI (by omega) (by omega)).mp c_81) (by omega)
        · refine zw_aload_n dM_laysRooms_84 rfl ?_
          refine zw_iload dM_laysRooms_85 rfl ?_
          refine zw_iconst (v := 4) dM_laysRooms_87 (by decide) ?_
          refine zw_idiv dM_laysRooms_88 n4 ?_
          rw [q1]
          refine zw_iload dM_laysRooms_89 rfl ?_
          refine zw_iconst (v := 4) dM_laysRooms_91 (by decide) ?_
          refine zw_irem dM_laysRooms_92 n4 ?_
          rw [q2]
          refine zc_V2I dM_laysRooms_93 zm_M_beside zk_M_109 (by first | exact hMq _ | exact hTq _) rfl (cb _) ?_ zRR (Nat.le_of_ble_eq_true rfl) ⟨Nat.le_of_ble_eq_true rfl, Nat.le_of_ble_eq_true rfl⟩
          refine zw_istore dM_laysRooms_96 (by decide) rfl ?_
          refine zw_aload_n dM_laysRooms_98 rfl ?_
          refine zw_get dM_laysRooms_99 zf_M_51 (by first | exact hMq _ | exact hTq _) rfl ?_
          refine zw_iload dM_laysRooms_102 rfl ?_
          refine zw_iconst (v := 4) dM_laysRooms_104 (by decide) ?_
          refine zw_idiv dM_laysRooms_105 n4 ?_
          rw [q1]
          refine zw_iald dM_laysRooms_106 (by first | exact hMq _ | exact hTq _) ein ?_
          rw [eec, ete]
          refine zw_iload_n dM_laysRooms_107 rfl ?_
          refine zw_icmp_ne 149 dM_laysRooms_108 (by decide) (fun c_108 => ?_) (fun c_108 => ?_)
          · exact zw_lk S1 ⟨rfl, rfl, rfl, rfl, rfl, trivial⟩
          · exact absurd c_108 ne
      | true =>
        have ye : dI (tt (e / 4)) = nI n := en.mpr ((ttn _).mpr hA)
        cases hb : nb F (e / 4) (e % 4) with
        | none =>
          rw [hb] at cb
          have S1 := SAME (fun _ b q => by rw [hb] at q; cases q)
          refine zw_iload dM_laysRooms_73 rfl ?_
          refine zw_iconst (v := 4) dM_laysRooms_75 (by decide) ?_
          refine zw_aload_n dM_laysRooms_76 rfl ?_
          refine zc_V0I dM_laysRooms_77 zm_M_cells zk_M_57 (by first | exact hMq _ | exact hTq _) rfl (cMc _ _) ?_ zRR (Nat.le_of_ble_eq_true rfl) ⟨Nat.le_of_ble_eq_true rfl, Nat.le_of_ble_eq_true rfl⟩
          refine zw_imul dM_laysRooms_80 ?_
          rw [e4]
          refine zw_icmp_ge 155 dM_laysRooms_81 (by decide) (fun c_81 => ?_) (fun c_81 => ?_)
          · exact absurd ((nI_leI (by omega) (by omega)).mp c_81) (by omega)
          · refine zw_aload_n dM_laysRooms_84 rfl ?_
            refine zw_iload dM_laysRooms_85 rfl ?_
            refine zw_iconst (v := 4) dM_laysRooms_87 (by decide) ?_
            refine zw_idiv dM_laysRooms_88 n4 ?_
            rw [q1]
            refine zw_iload dM_laysRooms_89 rfl ?_
            refine zw_iconst (v := 4) dM_laysRooms_91 (by decide) ?_
            refine zw_irem dM_laysRooms_92 n4 ?_
            rw [q2]
            refine zc_V2I dM_laysRooms_93 zm_M_beside zk_M_109 (by first | exact hMq _ | exact hTq _) rfl (cb _) ?_ zRR (Nat.le_of_ble_eq_true rfl) ⟨Nat.le_of_ble_eq_true rfl, Nat.le_of_ble_eq_true rfl⟩
            refine zw_istore dM_laysRooms_96 (by decide) rfl ?_
            refine zw_aload_n dM_laysRooms_98 rfl ?_
            refine zw_get dM_laysRooms_99 zf_M_51 (by first | exact hMq _ | exact hTq _) rfl ?_
            refine zw_iload dM_laysRooms_102 rfl ?_
            refine zw_iconst (v := 4) dM_laysRooms_104 (by decide) ?_
            refine zw_idiv dM_laysRooms_105 n4 ?_
            rw [q1]
            refine zw_iald dM_laysRooms_106 (by first | exact hMq _ | exact hTq _) ein ?_
            rw [eec, ete]
            refine zw_iload_n dM_laysRooms_107 rfl ?_
            refine zw_icmp_ne 149 dM_laysRooms_108 (by decide) (fun c_108 => ?_) (fun c_108 => ?_)
            · exact absurd ye c_108
            · refine zw_iload dM_laysRooms_111 rfl ?_
              refine zw_bipush (v := (-9)) dM_laysRooms_113 (by decide) ?_
              refine zw_icmp_eq 149 dM_laysRooms_115 (by decide) (fun c_115 => ?_) (fun c_115 => ?_)
              · exact zw_lk S1 ⟨rfl, rfl, rfl, rfl, rfl, trivial⟩
              · exact absurd rfl c_115
        | some b =>
          have hbn := (nb_spec hF hc hj hb).1
          rw [hb] at cb
          have cb2 : ∀ c, Run l g mM_beside (d + 1) 0 0 [.ref 31, .int (nI (e / 4)), .int (nI (e % 4))] (h.set 43 c) (PI (nI b) (h.set 43 c)) := cb
          have e9 : ¬ nI b = -9 := nI_m9 (by omega)
          have cr := fun (c : zC) => c_M_isOfRoom (l := l) (g := g) (d := d + 1) hF (hMq c) (hSq c) hbn
          have ebc : (nI b).toNatClampNeg = b := nI_clamp (by omega)
          have etb := tAc tt b hbn
          have einb : vp_in (nI b) 36 := vp_in_nI (by omega) (by decide)
          have i9 := dI_9 (ttb b)
          cases hro : rof F b with
          | false =>
            rw [hro] at cr
            have S1 := SAME (fun _ b2 q hl => by
              rw [hb] at q
              injection q with q
              subst q
              simp [lft, hro] at hl)
            refine zw_iload dM_laysRooms_73 rfl ?_
            refine zw_iconst (v := 4) dM_laysRooms_75 (by decide) ?_
            refine zw_aload_n dM_laysRooms_76 rfl ?_
            refine zc_V0I dM_laysRooms_77 zm_M_cells zk_M_57 (by first | exact hMq _ | exact hTq _) rfl (cMc _ _) ?_ zRR (Nat.le_of_ble_eq_true rfl) ⟨Nat.le_of_ble_eq_true rfl, Nat.le_of_ble_eq_true rfl⟩
            refine zw_imul dM_laysRooms_80 ?_
            rw [e4]
            refine zw_icmp_ge 155 dM_laysRooms_81 (by decide) (fun c_81 => ?_) (fun c_81 => ?_)
            · exact absurd ((nI_leI (by omega) (by omega)).mp c_81) (by omega)
            · refine zw_aload_n dM_laysRooms_84 rfl ?_
              refine zw_iload dM_laysRooms_85 rfl ?_
              refine zw_iconst (v := 4) dM_laysRooms_87 (by decide) ?_
              refine zw_idiv dM_laysRooms_88 n4 ?_
              rw [q1]
              refine zw_iload dM_laysRooms_89 rfl ?_
              refine zw_iconst (v := 4) dM_laysRooms_91 (by decide) ?_
              refine zw_irem dM_laysRooms_92 n4 ?_
              rw [q2]
              refine zc_V2I dM_laysRooms_93 zm_M_beside zk_M_109 (by first | exact hMq _ | exact hTq _) rfl (cb2 _) ?_ zRR (Nat.le_of_ble_eq_true rfl) ⟨Nat.le_of_ble_eq_true rfl, Nat.le_of_ble_eq_true rfl⟩
              refine zw_istore dM_laysRooms_96 (by decide) rfl ?_
              refine zw_aload_n dM_laysRooms_98 rfl ?_
              refine zw_get dM_laysRooms_99 zf_M_51 (by first | exact hMq _ | exact hTq _) rfl ?_
              refine zw_iload dM_laysRooms_102 rfl ?_
              refine zw_iconst (v := 4) dM_laysRooms_104 (by decide) ?_
              refine zw_idiv dM_laysRooms_105 n4 ?_
              rw [q1]
              refine zw_iald dM_laysRooms_106 (by first | exact hMq _ | exact hTq _) ein ?_
              rw [eec, ete]
              refine zw_iload_n dM_laysRooms_107 rfl ?_
              refine zw_icmp_ne 149 dM_laysRooms_108 (by decide) (fun c_108 => ?_) (fun c_108 => ?_)
              · exact absurd ye c_108
              · refine zw_iload dM_laysRooms_111 rfl ?_
                refine zw_bipush (v := (-9)) dM_laysRooms_113 (by decide) ?_
                refine zw_icmp_eq 149 dM_laysRooms_115 (by decide) (fun c_115 => ?_) (fun c_115 => ?_)
                · exact absurd c_115 e9
                · refine zw_aload_n dM_laysRooms_118 rfl ?_
                  refine zw_iload dM_laysRooms_119 rfl ?_
                  refine zc_V1I dM_laysRooms_121 zm_M_isOfRoom zk_M_181 (by first | exact hMq _ | exact hTq _) rfl (cr _) ?_ zRR (Nat.le_of_ble_eq_true rfl) ⟨Nat.le_of_ble_eq_true rfl, Nat.le_of_ble_eq_true rfl⟩
                  refine zw_if_eq 149 dM_laysRooms_124 (by decide) (fun c_124 => ?_) (fun c_124 => ?_)
                  · exact zw_lk S1 ⟨rfl, rfl, rfl, rfl, rfl, trivial⟩
                  · exact absurd rfl c_124
          | true =>
            rw [hro] at cr
            by_cases hnn : tt b = none
            · obtain ⟨hAb, htb⟩ := (ttN b).mp hnn
              have hlb : lft F t b = true := by simp [lft, hro, htb]
              have hG' : GA F t k (fun c => A c || c == b) := by
                refine ⟨by show (A k || k == b) = true; rw [hG.1]; rfl, fun c hc2 => ?_⟩
                have hc3 : (A c || c == b) = true := hc2
                rw [Bool.or_eq_true] at hc3
                rcases hc3 with q | q
                · exact hG.2 c q
                · have : c = b := by simpa using q
                  rw [this]
                  exact cmp_next hF (hG.2 _ hA) hlb ⟨e % 4, hj, hb⟩
              have hcnt : cnt (fun c => A c || c == b) 36 = cnt A 36 + 1 := cnt_add hAb (by omega)
              have I := ih (e + 1) (fun c => A c || c == b) true (by omega) hG' (fun q => by cases q) (fun _ => by
                rw [hcnt]
                cases q : mo with
                | true => have := h2 q; omega
                | false => rw [(h1 q).1]; omega) C
              have eu : upd (tA tt) b (nI n) = tA (fun c => if (A c || c == b) = true then some n else t c) := by
                rw [htA, htA]
                refine fil_upd hbn ?_ (fun c _ hne => ?_)
                · show nI n = dI (if (A b || b == b) = true then some n else t b)
                  rw [if_pos (by simp)]; rfl
                · show dI (if (A c || c == b) = true then some n else t c) = dI (tt c)
                  have q : (c == b) = false := by simpa using hne
                  rw [q, Bool.or_false, htt]
              refine zw_iload dM_laysRooms_73 rfl ?_
              refine zw_iconst (v := 4) dM_laysRooms_75 (by decide) ?_
              refine zw_aload_n dM_laysRooms_76 rfl ?_
              refine zc_V0I dM_laysRooms_77 zm_M_cells zk_M_57 (by first | exact hMq _ | exact hTq _) rfl (cMc _ _) ?_ zRR (Nat.le_of_ble_eq_true rfl) ⟨Nat.le_of_ble_eq_true rfl, Nat.le_of_ble_eq_true rfl⟩
              refine zw_imul dM_laysRooms_80 ?_
              rw [e4]
              refine zw_icmp_ge 155 dM_laysRooms_81 (by decide) (fun c_81 => ?_) (fun c_81 => ?_)
              · exact absurd ((nI_leI (by omega) (by omega)).mp c_81) (by omega)
              · refine zw_aload_n dM_laysRooms_84 rfl ?_
                refine zw_iload dM_laysRooms_85 rfl ?_
                refine zw_iconst (v := 4) dM_laysRooms_87 (by decide) ?_
                refine zw_idiv dM_laysRooms_88 n4 ?_
                rw [q1]
                refine zw_iload dM_laysRooms_89 rfl ?_
                refine zw_iconst (v := 4) dM_laysRooms_91 (by decide) ?_
                refine zw_irem dM_laysRooms_92 n4 ?_
                rw [q2]
                refine zc_V2I dM_laysRooms_93 zm_M_beside zk_M_109 (by first | exact hMq _ | exact hTq _) rfl (cb2 _) ?_ zRR (Nat.le_of_ble_eq_true rfl) ⟨Nat.le_of_ble_eq_true rfl, Nat.le_of_ble_eq_true rfl⟩
                refine zw_istore dM_laysRooms_96 (by decide) rfl ?_
                refine zw_aload_n dM_laysRooms_98 rfl ?_
                refine zw_get dM_laysRooms_99 zf_M_51 (by first | exact hMq _ | exact hTq _) rfl ?_
                refine zw_iload dM_laysRooms_102 rfl ?_
                refine zw_iconst (v := 4) dM_laysRooms_104 (by decide) ?_
                refine zw_idiv dM_laysRooms_105 n4 ?_
                rw [q1]
                refine zw_iald dM_laysRooms_106 (by first | exact hMq _ | exact hTq _) ein ?_
                rw [eec, ete]
                refine zw_iload_n dM_laysRooms_107 rfl ?_
                refine zw_icmp_ne 149 dM_laysRooms_108 (by decide) (fun c_108 => ?_) (fun c_108 => ?_)
                · exact absurd ye c_108
                · refine zw_iload dM_laysRooms_111 rfl ?_
                  refine zw_bipush (v := (-9)) dM_laysRooms_113 (by decide) ?_
                  refine zw_icmp_eq 149 dM_laysRooms_115 (by decide) (fun c_115 => ?_) (fun c_115 => ?_)
                  · exact absurd c_115 e9
                  · refine zw_aload_n dM_laysRooms_118 rfl ?_
                    refine zw_iload dM_laysRooms_119 rfl ?_
                    refine zc_V1I dM_laysRooms_121 zm_M_isOfRoom zk_M_181 (by first | exact hMq _ | exact hTq _) rfl (cr _) ?_ zRR (Nat.le_of_ble_eq_true rfl) ⟨Nat.le_of_ble_eq_true rfl, Nat.le_of_ble_eq_true rfl⟩
                    refine zw_if_eq 149 dM_laysRooms_124 (by decide) (fun c_124 => ?_) (fun c_124 => ?_)
                    · exact absurd c_124 (by decide)
                    · refine zw_aload_n dM_laysRooms_127 rfl ?_
                      refine zw_get dM_laysRooms_128 zf_M_51 (by first | exact hMq _ | exact hTq _) rfl ?_
                      refine zw_iload dM_laysRooms_131 rfl ?_
                      refine zw_iald dM_laysRooms_133 (by first | exact hMq _ | exact hTq _) einb ?_
                      rw [ebc, etb]
                      refine zw_bipush (v := (-9)) dM_laysRooms_134 (by decide) ?_
                      refine zw_icmp_ne 149 dM_laysRooms_136 (by decide) (fun c_136 => ?_) (fun c_136 => ?_)
                      · exact absurd (i9.mpr hnn) c_136
                      · refine zw_aload_n dM_laysRooms_139 rfl ?_
                        refine zw_get dM_laysRooms_140 zf_M_51 (by first | exact hMq _ | exact hTq _) rfl ?_
                        refine zw_iload dM_laysRooms_143 rfl ?_
                        refine zw_iload_n dM_laysRooms_145 rfl ?_
                        refine zw_iast dM_laysRooms_146 (by first | exact hMq _ | exact hTq _) einb ?_
                        rw [ebc]
                        refine zw_h (iAu eu) ?_
                        refine zw_iconst (v := 1) dM_laysRooms_147 (by decide) ?_
                        refine zw_istore_n dM_laysRooms_148 (by decide) rfl ?_
                        refine zw_incN dM_laysRooms_149 rfl (by decide) rfl ?_
                        refine zw_goto 73 dM_laysRooms_152 (by decide) ?_
                        exact zw_lk I ⟨rfl, rfl, rfl, rfl, rfl, trivial⟩
            · have S1 := SAME (fun _ b2 q hl => by
                rw [hb] at q
                injection q with q
                subst q
                cases q2 : A b with
                | true => rfl
                | false =>
                  refine absurd ((ttN b).mpr ⟨q2, ?_⟩) hnn
                  have hl2 : (rof F b && (t b).isNone) = true := hl
                  rw [Bool.and_eq_true] at hl2
                  exact Option.isNone_iff_eq_none.mp hl2.2)
              refine zw_iload dM_laysRooms_73 rfl ?_
              refine zw_iconst (v := 4) dM_laysRooms_75 (by decide) ?_
              refine zw_aload_n dM_laysRooms_76 rfl ?_
              refine zc_V0I dM_laysRooms_77 zm_M_cells zk_M_57 (by first | exact hMq _ | exact hTq _) rfl (cMc _ _) ?_ zRR (Nat.le_of_ble_eq_true rfl) ⟨Nat.le_of_ble_eq_true rfl, Nat.le_of_ble_eq_true rfl⟩
              refine zw_imul dM_laysRooms_80 ?_
              rw [e4]
              refine zw_icmp_ge 155 dM_laysRooms_81 (by decide) (fun c_81 => ?_) (fun c_81 => ?_)
              · exact absurd ((nI_leI (by omega) (by omega)).mp c_81) (by omega)
              · refine zw_aload_n dM_laysRooms_84 rfl ?_
                refine zw_iload dM_laysRooms_85 rfl ?_
                refine zw_iconst (v := 4) dM_laysRooms_87 (by decide) ?_
                refine zw_idiv dM_laysRooms_88 n4 ?_
                rw [q1]
                refine zw_iload dM_laysRooms_89 rfl ?_
                refine zw_iconst (v := 4) dM_laysRooms_91 (by decide) ?_
                refine zw_irem dM_laysRooms_92 n4 ?_
                rw [q2]
                refine zc_V2I dM_laysRooms_93 zm_M_beside zk_M_109 (by first | exact hMq _ | exact hTq _) rfl (cb2 _) ?_ zRR (Nat.le_of_ble_eq_true rfl) ⟨Nat.le_of_ble_eq_true rfl, Nat.le_of_ble_eq_true rfl⟩
                refine zw_istore dM_laysRooms_96 (by decide) rfl ?_
                refine zw_aload_n dM_laysRooms_98 rfl ?_
                refine zw_get dM_laysRooms_99 zf_M_51 (by first | exact hMq _ | exact hTq _) rfl ?_
                refine zw_iload dM_laysRooms_102 rfl ?_
                refine zw_iconst (v := 4) dM_laysRooms_104 (by decide) ?_
                refine zw_idiv dM_laysRooms_105 n4 ?_
                rw [q1]
                refine zw_iald dM_laysRooms_106 (by first | exact hMq _ | exact hTq _) ein ?_
                rw [eec, ete]
                refine zw_iload_n dM_laysRooms_107 rfl ?_
                refine zw_icmp_ne 149 dM_laysRooms_108 (by decide) (fun c_108 => ?_) (fun c_108 => ?_)
                · exact absurd ye c_108
                · refine zw_iload dM_laysRooms_111 rfl ?_
                  refine zw_bipush (v := (-9)) dM_laysRooms_113 (by decide) ?_
                  refine zw_icmp_eq 149 dM_laysRooms_115 (by decide) (fun c_115 => ?_) (fun c_115 => ?_)
                  · exact absurd c_115 e9
                  · refine zw_aload_n dM_laysRooms_118 rfl ?_
                    refine zw_iload dM_laysRooms_119 rfl ?_
                    refine zc_V1I dM_laysRooms_121 zm_M_isOfRoom zk_M_181 (by first | exact hMq _ | exact hTq _) rfl (cr _) ?_ zRR (Nat.le_of_ble_eq_true rfl) ⟨Nat.le_of_ble_eq_true rfl, Nat.le_of_ble_eq_true rfl⟩
                    refine zw_if_eq 149 dM_laysRooms_124 (by decide) (fun c_124 => ?_) (fun c_124 => ?_)
                    · exact absurd c_124 (by decide)
                    · refine zw_aload_n dM_laysRooms_127 rfl ?_
                      refine zw_get dM_laysRooms_128 zf_M_51 (by first | exact hMq _ | exact hTq _) rfl ?_
                      refine zw_iload dM_laysRooms_131 rfl ?_
                      refine zw_iald dM_laysRooms_133 (by first | exact hMq _ | exact hTq _) einb ?_
                      rw [ebc, etb]
                      refine zw_bipush (v := (-9)) dM_laysRooms_134 (by decide) ?_
                      refine zw_icmp_ne 149 dM_laysRooms_136 (by decide) (fun c_136 => ?_) (fun c_136 => ?_)
                      · exact zw_lk S1 ⟨rfl, rfl, rfl, rfl, rfl, trivial⟩
                      · exact absurd (i9.mp c_136) hnn
  -- passes until nothing more
  have LO : ∀ (n k : Nat) (t : TT), n ≤ k → k < fN F → (∀ c v, t c = some v → v < n) →
      ∀ (fu : Nat) (A : Nat → Bool), 36 - cnt A 36 ≤ fu → GA F t k A →
      WW l g mM_laysRooms (zrm (d + 2) 0 0) (fun _ => True) (zQQ g (PI (nI R.2) (h.set 43 (iA 36 (tA R.1)))) (h.length + 0) 0 0) 158 [(0, some (.ref 31)), (1, some (.int (nI n))), (2, some (.int (nI k)))] [] (h.set 43 (iA 36 (tA (fun c => if cmp F t k c = true then some n else t c)))) 0 0 →
      WW l g mM_laysRooms (zrm (d + 2) 0 0) (fun _ => True) (zQQ g (PI (nI R.2) (h.set 43 (iA 36 (tA R.1)))) (h.length + 0) 0 0) 64 [(0, some (.ref 31)), (1, some (.int (nI n))), (2, some (.int (nI k))), (3, some (.int 1))] [] (h.set 43 (iA 36 (tA (fun c => if A c = true then some n else t c)))) 0 0 := by
    intro n k t hnk hkn hv fu
    induction fu with
    | zero =>
      intro A hfu hG C
      have P := LI n k t A hnk hkn hv (4 * fN F) 0 A false (by omega) hG (fun _ => ⟨rfl, fun e' he' => absurd he' (Nat.not_lt_zero _)⟩) (fun q => by cases q) (fun A' mo' hG' h1' h2' => by
        have hmo : mo' = false := by
          cases q : mo' with
          | false => rfl
          | true => have := h2' q; have := cnt_le A' 36; omega
        obtain ⟨rfl, hcl⟩ := h1' hmo
        have eA : (fun c => if A' c = true then some n else t c) = fun c => if cmp F t k c = true then some n else t c := by
          funext c
          cases q : A' c with
          | true => rw [hG'.2 c q]
          | false =>
            cases q2 : cmp F t k c with
            | false => rfl
            | true => have := clo_cmp hF hG' hcl c q2; rw [q] at this; cases this
        rw [eA, hmo]
        refine zw_goto 64 dM_laysRooms_155 (by decide) ?_
        refine zw_iload_n dM_laysRooms_64 rfl ?_
        refine zw_if_eq 158 dM_laysRooms_65 (by decide) (fun c_65 => ?_) (fun c_65 => ?_)
        · exact zw_lk C ⟨rfl, rfl, rfl, trivial⟩
        · exact absurd rfl c_65
        )
      refine zw_iload_n dM_laysRooms_64 rfl ?_
      refine zw_if_eq 158 dM_laysRooms_65 (by decide) (fun c_65 => ?_) (fun c_65 => ?_)
      · exact absurd c_65 (by decide)
      · refine zw_iconst (v := 0) dM_laysRooms_68 (by decide) ?_
        refine zw_istore_n dM_laysRooms_69 (by decide) rfl ?_
        refine zw_iconst (v := 0) dM_laysRooms_70 (by decide) ?_
        refine zw_istore dM_laysRooms_71 (by decide) rfl ?_
        exact zw_lk P ⟨rfl, rfl, rfl, rfl, rfl, trivial⟩
    | succ fu ih =>
      intro A hfu hG C
      have P := LI n k t A hnk hkn hv (4 * fN F) 0 A false (by omega) hG (fun _ => ⟨rfl, fun e' he' => absurd he' (Nat.not_lt_zero _)⟩) (fun q => by cases q) (fun A' mo' hG' h1' h2' => by
        cases hmo : mo' with
        | false =>
          obtain ⟨rfl, hcl⟩ := h1' hmo
          have eA : (fun c => if A' c = true then some n else t c) = fun c => if cmp F t k c = true then some n else t c := by
            funext c
            cases q : A' c with
            | true => rw [hG'.2 c q]
            | false =>
              cases q2 : cmp F t k c with
              | false => rfl
              | true => have := clo_cmp hF hG' hcl c q2; rw [q] at this; cases this
          rw [eA]
          refine zw_goto 64 dM_laysRooms_155 (by decide) ?_
          refine zw_iload_n dM_laysRooms_64 rfl ?_
          refine zw_if_eq 158 dM_laysRooms_65 (by decide) (fun c_65 => ?_) (fun c_65 => ?_)
          · exact zw_lk C ⟨rfl, rfl, rfl, trivial⟩
          · exact absurd rfl c_65
        | true =>
          have hlt := h2' hmo
          have I := ih A' (by omega) hG' C
          refine zw_goto 64 dM_laysRooms_155 (by decide) ?_
          exact zw_lk I ⟨rfl, rfl, rfl, rfl, trivial⟩)
      refine zw_iload_n dM_laysRooms_64 rfl ?_
      refine zw_if_eq 158 dM_laysRooms_65 (by decide) (fun c_65 => ?_) (fun c_65 => ?_)
      · exact absurd c_65 (by decide)
      · refine zw_iconst (v := 0) dM_laysRooms_68 (by decide) ?_
        refine zw_istore_n dM_laysRooms_69 (by decide) rfl ?_
        refine zw_iconst (v := 0) dM_laysRooms_70 (by decide) ?_
        refine zw_istore dM_laysRooms_71 (by decide) rfl ?_
        exact zw_lk P ⟨rfl, rfl, rfl, rfl, rfl, trivial⟩
  -- cell by cell
  have LC : ∀ (m k n : Nat) (t : TT), k + m = fN F → n ≤ k → (∀ c v, t c = some v → v < n) → rms F m k t n = R →
      WW l g mM_laysRooms (zrm (d + 2) 0 0) (fun _ => True) (zQQ g (PI (nI R.2) (h.set 43 (iA 36 (tA R.1)))) (h.length + 0) 0 0) 28 [(0, some (.ref 31)), (1, some (.int (nI n))), (2, some (.int (nI k)))] [] (h.set 43 (iA 36 (tA t))) 0 0 := by
    intro m
    induction m with
    | zero =>
      intro k n t hk hnk hv hE
      have hk : k = fN F := by omega
      subst hk
      have hE' : (t, n) = R := hE
      rw [← hE']
      refine zw_iload_n dM_laysRooms_28 rfl ?_
      refine zw_aload_n dM_laysRooms_29 rfl ?_
      refine zc_V0I dM_laysRooms_30 zm_M_cells zk_M_57 (hMq _) rfl (cMc _ _) ?_ zRR (Nat.le_of_ble_eq_true rfl) ⟨Nat.le_of_ble_eq_true rfl, Nat.le_of_ble_eq_true rfl⟩
      refine zw_icmp_ge 167 dM_laysRooms_33 (by decide) (fun c_33 => ?_) (fun c_33 => ?_)
      · refine zw_iload_n dM_laysRooms_167 rfl ?_
        exact zw_iret dM_laysRooms_168 rfl rfl (by rw [zs_len]; rfl) ⟨rfl, rfl⟩
      · exact absurd (Int32.le_refl _) c_33
    | succ m ih =>
      intro k n t hk hnk hv hE
      have hkn : k < fN F := by omega
      have hE' : (if lft F t k = true then rms F m (k + 1) (fun c => if cmp F t k c = true then some n else t c) (n + 1) else rms F m (k + 1) t n) = R := hE
      have cr := fun (c : zC) => c_M_isOfRoom (l := l) (g := g) (d := d + 1) hF (hMq c) (hSq c) hkn
      have ekc : (nI k).toNatClampNeg = k := nI_clamp (by omega)
      have etk := tAc t k hkn
      have ein : vp_in (nI k) 36 := vp_in_nI (by omega) (by decide)
      have i9 := dI_9 (o := t k) (fun v e => by have := hv k v e; omega)
      by_cases hl : lft F t k = true
      · have hl2 : rof F k = true ∧ t k = none := by
          have : (rof F k && (t k).isNone) = true := hl
          rw [Bool.and_eq_true] at this
          exact ⟨this.1, Option.isNone_iff_eq_none.mp this.2⟩
        rw [if_pos hl] at hE'
        have cr2 := cr
        rw [hl2.1] at cr2
        have I := ih (k + 1) (n + 1) (fun c => if cmp F t k c = true then some n else t c) (by omega) (by omega) (fun c v e => by
          split at e
          · injection e with e; omega
          · have := hv c v e; omega) hE'
        have C1 : WW l g mM_laysRooms (zrm (d + 2) 0 0) (fun _ => True) (zQQ g (PI (nI R.2) (h.set 43 (iA 36 (tA R.1)))) (h.length + 0) 0 0) 158 [(0, some (.ref 31)), (1, some (.int (nI n))), (2, some (.int (nI k)))] [] (h.set 43 (iA 36 (tA (fun c => if cmp F t k c = true then some n else t c)))) 0 0 := by
          refine zw_incN dM_laysRooms_158 rfl (by decide) rfl ?_
          refine zw_incN dM_laysRooms_161 rfl (by decide) rfl ?_
          refine zw_goto 28 dM_laysRooms_164 (by decide) ?_
          exact zw_lk I ⟨rfl, rfl, rfl, trivial⟩
        have hck : cmp F t k k = true := by
          have h0 : lvl F (lft F t) (some k) 0 k = true := lvl_0.mpr ⟨rfl, hl⟩
          exact lvl_mono h0 36 (by omega)
        have hG0 : GA F t k (one k) := ⟨by simp [one], fun c hc => by
          have : c = k := by simpa [one] using hc
          rw [this]; exact hck⟩
        have O1 := LO n k t hnk hkn hv 36 (one k) (by omega) hG0 C1
        have eu : upd (tA t) k (nI n) = tA (fun c => if one k c = true then some n else t c) := by
          rw [htA, htA]
          refine fil_upd hkn ?_ (fun c _ hne => ?_)
          · show nI n = dI (if one k k = true then some n else t k)
            rw [if_pos (by simp [one])]; rfl
          · show dI (if one k c = true then some n else t c) = dI (t c)
            rw [if_neg (by simpa [one] using hne)]
        refine zw_iload_n dM_laysRooms_28 rfl ?_
        refine zw_aload_n dM_laysRooms_29 rfl ?_
        refine zc_V0I dM_laysRooms_30 zm_M_cells zk_M_57 (by first | exact hMq _ | exact hTq _) rfl (cMc _ _) ?_ zRR (Nat.le_of_ble_eq_true rfl) ⟨Nat.le_of_ble_eq_true rfl, Nat.le_of_ble_eq_true rfl⟩
        refine zw_icmp_ge 167 dM_laysRooms_33 (by decide) (fun c_33 => ?_) (fun c_33 => ?_)
        · exact absurd ((nI_leI (by omega) (by omega)).mp c_33) (by omega)
        · refine zw_aload_n dM_laysRooms_36 rfl ?_
          refine zw_iload_n dM_laysRooms_37 rfl ?_
          refine zc_V1I dM_laysRooms_38 zm_M_isOfRoom zk_M_181 (by first | exact hMq _ | exact hTq _) rfl (cr2 _) ?_ zRR (Nat.le_of_ble_eq_true rfl) ⟨Nat.le_of_ble_eq_true rfl, Nat.le_of_ble_eq_true rfl⟩
          refine zw_if_eq 161 dM_laysRooms_41 (by decide) (fun c_41 => ?_) (fun c_41 => ?_)
          · exact absurd c_41 (by decide)
          · refine zw_aload_n dM_laysRooms_44 rfl ?_
            refine zw_get dM_laysRooms_45 zf_M_51 (by first | exact hMq _ | exact hTq _) rfl ?_
            refine zw_iload_n dM_laysRooms_48 rfl ?_
            refine zw_iald dM_laysRooms_49 (by first | exact hMq _ | exact hTq _) ein ?_
            rw [ekc, etk]
            refine zw_bipush (v := (-9)) dM_laysRooms_50 (by decide) ?_
            refine zw_icmp_ne 161 dM_laysRooms_52 (by decide) (fun c_52 => ?_) (fun c_52 => ?_)
            · exact absurd (i9.mpr hl2.2) c_52
            · refine zw_aload_n dM_laysRooms_55 rfl ?_
              refine zw_get dM_laysRooms_56 zf_M_51 (by first | exact hMq _ | exact hTq _) rfl ?_
              refine zw_iload_n dM_laysRooms_59 rfl ?_
              refine zw_iload_n dM_laysRooms_60 rfl ?_
              refine zw_iast dM_laysRooms_61 (by first | exact hMq _ | exact hTq _) ein ?_
              rw [ekc]
              refine zw_h (iAu eu) ?_
              refine zw_iconst (v := 1) dM_laysRooms_62 (by decide) ?_
              refine zw_istore_n dM_laysRooms_63 (by decide) rfl ?_
              exact zw_lk O1 ⟨rfl, rfl, rfl, rfl, trivial⟩
      · rw [if_neg hl] at hE'
        have I := ih (k + 1) n t (by omega) (by omega) hv hE'
        cases hro : rof F k with
        | false =>
          rw [hro] at cr
          refine zw_iload_n dM_laysRooms_28 rfl ?_
          refine zw_aload_n dM_laysRooms_29 rfl ?_
          refine zc_V0I dM_laysRooms_30 zm_M_cells zk_M_57 (by first | exact hMq _ | exact hTq _) rfl (cMc _ _) ?_ zRR (Nat.le_of_ble_eq_true rfl) ⟨Nat.le_of_ble_eq_true rfl, Nat.le_of_ble_eq_true rfl⟩
          refine zw_icmp_ge 167 dM_laysRooms_33 (by decide) (fun c_33 => ?_) (fun c_33 => ?_)
          · exact absurd ((nI_leI (by omega) (by omega)).mp c_33) (by omega)
          · refine zw_aload_n dM_laysRooms_36 rfl ?_
            refine zw_iload_n dM_laysRooms_37 rfl ?_
            refine zc_V1I dM_laysRooms_38 zm_M_isOfRoom zk_M_181 (by first | exact hMq _ | exact hTq _) rfl (cr _) ?_ zRR (Nat.le_of_ble_eq_true rfl) ⟨Nat.le_of_ble_eq_true rfl, Nat.le_of_ble_eq_true rfl⟩
            refine zw_if_eq 161 dM_laysRooms_41 (by decide) (fun c_41 => ?_) (fun c_41 => ?_)
            · refine zw_incN dM_laysRooms_161 rfl (by decide) rfl ?_
              refine zw_goto 28 dM_laysRooms_164 (by decide) ?_
              exact zw_lk I ⟨rfl, rfl, rfl, trivial⟩
            · exact absurd rfl c_41
        | true =>
          rw [hro] at cr
          have hnn : ¬ t k = none := fun q => hl (by simp [lft, hro, q])
          refine zw_iload_n dM_laysRooms_28 rfl ?_
          refine zw_aload_n dM_laysRooms_29 rfl ?_
          refine zc_V0I dM_laysRooms_30 zm_M_cells zk_M_57 (by first | exact hMq _ | exact hTq _) rfl (cMc _ _) ?_ zRR (Nat.le_of_ble_eq_true rfl) ⟨Nat.le_of_ble_eq_true rfl, Nat.le_of_ble_eq_true rfl⟩
          refine zw_icmp_ge 167 dM_laysRooms_33 (by decide) (fun c_33 => ?_) (fun c_33 => ?_)
          · exact absurd ((nI_leI (by omega) (by omega)).mp c_33) (by omega)
          · refine zw_aload_n dM_laysRooms_36 rfl ?_
            refine zw_iload_n dM_laysRooms_37 rfl ?_
            refine zc_V1I dM_laysRooms_38 zm_M_isOfRoom zk_M_181 (by first | exact hMq _ | exact hTq _) rfl (cr _) ?_ zRR (Nat.le_of_ble_eq_true rfl) ⟨Nat.le_of_ble_eq_true rfl, Nat.le_of_ble_eq_true rfl⟩
            refine zw_if_eq 161 dM_laysRooms_41 (by decide) (fun c_41 => ?_) (fun c_41 => ?_)
            · exact absurd c_41 (by decide)
            · refine zw_aload_n dM_laysRooms_44 rfl ?_
              refine zw_get dM_laysRooms_45 zf_M_51 (by first | exact hMq _ | exact hTq _) rfl ?_
              refine zw_iload_n dM_laysRooms_48 rfl ?_
              refine zw_iald dM_laysRooms_49 (by first | exact hMq _ | exact hTq _) ein ?_
              rw [ekc, etk]
              refine zw_bipush (v := (-9)) dM_laysRooms_50 (by decide) ?_
              refine zw_icmp_ne 161 dM_laysRooms_52 (by decide) (fun c_52 => ?_) (fun c_52 => ?_)
              · refine zw_incN dM_laysRooms_161 rfl (by decide) rfl ?_
                refine zw_goto 28 dM_laysRooms_164 (by decide) ?_
                exact zw_lk I ⟨rfl, rfl, rfl, trivial⟩
              · exact absurd (i9.mp c_52) hnn
  refine run_of (by decide) (Nat.le_of_ble_eq_true rfl) ?_
  have L1 : ∀ (m i : Nat), i + m = fN F → WW l g mM_laysRooms (zrm (d + 2) 0 0) (fun _ => True) (zQQ g (PI (nI R.2) (h.set 43 (iA 36 (tA R.1)))) (h.length + 0) 0 0) 2 [(0, some (.ref 31)), (1, some (.int (nI i)))] [] (h.set 43 (iA 36 (fil ro 0 i (fun _ => -9)))) 0 0 := by
    intro m
    induction m with
    | zero =>
      intro i hi
      have hi : i = fN F := by omega
      subst hi
      have e : fil ro 0 (fN F) (fun _ => -9) = tA (fun _ => none) := by rw [htA]; rfl
      rw [e]
      have C := LC (fN F) 0 0 (fun _ => none) (by omega) (by omega) (fun c v e => by cases e) hR.symm
      refine zw_iload_n dM_laysRooms_2 rfl ?_
      refine zw_aload_n dM_laysRooms_3 rfl ?_
      refine zc_V0I dM_laysRooms_4 zm_M_cells zk_M_57 (hMq _) rfl (cMc _ _) ?_ zRR (Nat.le_of_ble_eq_true rfl) ⟨Nat.le_of_ble_eq_true rfl, Nat.le_of_ble_eq_true rfl⟩
      refine zw_icmp_ge 24 dM_laysRooms_7 (by decide) (fun c_7 => ?_) (fun c_7 => ?_)
      · refine zw_iconst (v := 0) dM_laysRooms_24 (by decide) ?_
        refine zw_istore_n dM_laysRooms_25 (by decide) rfl ?_
        refine zw_iconst (v := 0) dM_laysRooms_26 (by decide) ?_
        refine zw_istore_n dM_laysRooms_27 (by decide) rfl ?_
        exact zw_lk C ⟨rfl, rfl, rfl, trivial⟩
      · exact absurd (Int32.le_refl _) c_7
    | succ m ih =>
      intro i hi
      have ecl : (nI i).toNatClampNeg = i := nI_clamp (by omega)
      refine zw_iload_n dM_laysRooms_2 rfl ?_
      refine zw_aload_n dM_laysRooms_3 rfl ?_
      refine zc_V0I dM_laysRooms_4 zm_M_cells zk_M_57 (by first | exact hMq _ | exact hTq _) rfl (cMc _ _) ?_ zRR (Nat.le_of_ble_eq_true rfl) ⟨Nat.le_of_ble_eq_true rfl, Nat.le_of_ble_eq_true rfl⟩
      refine zw_icmp_ge 24 dM_laysRooms_7 (by decide) (fun c_7 => ?_) (fun c_7 => ?_)
      · exact absurd ((nI_leI (by omega) (by omega)).mp c_7) (by omega)
      · refine zw_aload_n dM_laysRooms_10 rfl ?_
        refine zw_get dM_laysRooms_11 zf_M_51 (by first | exact hMq _ | exact hTq _) rfl ?_
        refine zw_iload_n dM_laysRooms_14 rfl ?_
        refine zw_bipush (v := (-9)) dM_laysRooms_15 (by decide) ?_
        refine zw_iast dM_laysRooms_17 (by first | exact hMq _ | exact hTq _) (vp_in_nI (show i < 36 by omega) (by decide)) ?_
        rw [ecl]
        refine zw_h (iAu (fil_0s ro i (fun _ => -9))) ?_
        refine zw_incN dM_laysRooms_18 rfl (by decide) rfl ?_
        refine zw_goto 2 dM_laysRooms_21 (by decide) ?_
        exact zw_lk (ih (i + 1) (by omega)) ⟨rfl, rfl, trivial⟩
  refine zw_iconst (v := 0) dM_laysRooms_0 (by decide) ?_
  refine zw_istore_n dM_laysRooms_1 (by decide) rfl ?_
  have L0 := L1 (fN F) 0 (by omega)
  rw [fil_0, zs_self hT] at L0
  exact zw_lk L0 ⟨rfl, rfl, trivial⟩
theorem c_M_room {O : Om} (a : MX h O) (ok : oOK' O) {x : Int32} : Run l g mM_room (d + 3) 0 0 [.ref 31, .int x] h (PIh (rRoom O x) (MP h O)) := by
  obtain ⟨⟨qa, qb, z, hM, hS⟩, -, -, -, ⟨-, -, -, -, -, -, ro, -, -, -, -, -, -, h43⟩⟩ := id a
  have hF := ok.1
  have h36 := fN_le hF
  have ch := c_M_isCell (l := l) (g := g) (d := d + 1) hF hM (x := x)
  have cl := c_M_laysRooms (l := l) (g := g) (d := d) (S := oS O) (z := z) hF hM hS h43
  obtain ⟨R, hR⟩ : ∃ R, R = rms (oF O) (fN (oF O)) 0 (fun _ => none) 0 := ⟨_, rfl⟩
  have hR36 : rms (oF O) 36 0 (fun _ => none) 0 = R := by rw [hR]; exact rms_ext hF _ _ _ _ _ (by omega) h36
  rw [← hR] at cl
  obtain ⟨f2, hf2⟩ : ∃ f2, f2 = fil ro 0 (fN (oF O)) (fun c => dI (R.1 c)) := ⟨_, rfl⟩
  rw [← hf2] at cl
  have Q : MP h O (h.set 43 (iA 36 f2)) := (a.sc (by decide) f2).1
  unfold rRoom
  refine run_of (by decide) (Nat.le_of_ble_eq_true rfl) ?_
  by_cases hx : x = -1
  · subst hx
    rw [if_pos rfl, ← lft_0, roomN_none, hR36]
    refine zw_iload_n dM_room_0 rfl ?_
    refine zw_iconst (v := (-1)) dM_room_1 (by decide) ?_
    refine zw_icmp_eq 15 dM_room_2 (by decide) (fun c_2 => ?_) (fun c_2 => ?_)
    · refine zw_aload_n dM_room_15 rfl ?_
      refine zc_V0I dM_room_16 zm_M_laysRooms zk_M_184 hM rfl cl ?_ zRR (Nat.le_of_ble_eq_true rfl) ⟨Nat.le_of_ble_eq_true rfl, Nat.le_of_ble_eq_true rfl⟩
      refine zw_istore_n dM_room_19 (by decide) rfl ?_
      refine zw_iload_n dM_room_20 rfl ?_
      refine zw_iconst (v := (-1)) dM_room_21 (by decide) ?_
      refine zw_icmp_ne 29 dM_room_22 (by decide) (fun c_22 => ?_) (fun c_22 => ?_)
      · exact absurd rfl c_22
      · refine zw_iload_n dM_room_25 rfl ?_
        refine zw_goto 35 dM_room_26 (by decide) ?_
        exact zw_iret dM_room_35 rfl rfl (by rw [zs_len]; rfl) ⟨rfl, Q⟩
    · exact absurd rfl c_2
  · rw [if_neg hx]
    cases hc : cel (oF O) x with
    | none =>
      rw [hc] at ch
      refine zw_iload_n dM_room_0 rfl ?_
      refine zw_iconst (v := (-1)) dM_room_1 (by decide) ?_
      refine zw_icmp_eq 15 dM_room_2 (by decide) (fun c_2 => ?_) (fun c_2 => ?_)
      · exact absurd c_2 hx
      · refine zw_aload_n dM_room_5 rfl ?_
        refine zw_iload_n dM_room_6 rfl ?_
        refine zc_V1I dM_room_7 zm_M_isCell zk_M_94 hM rfl ch ?_ zRR (Nat.le_of_ble_eq_true rfl) ⟨Nat.le_of_ble_eq_true rfl, Nat.le_of_ble_eq_true rfl⟩
        refine zw_if_ne 15 dM_room_10 (by decide) (fun c_10 => ?_) (fun c_10 => ?_)
        · exact absurd rfl c_10
        · refine zw_iconst (v := (-1)) dM_room_13 (by decide) ?_
          exact zw_iret dM_room_14 rfl rfl rfl ⟨rfl, MP.rf a⟩
    | some c =>
      obtain ⟨hcn, rfl⟩ := (cel_some hF).mp hc
      rw [hc] at ch
      dsimp only
      rw [← lft_0, roomN_some 36 0 (fun _ => none) 0 rfl, hR36]
      have ecl := clk hF hcn
      have ef : f2 c = dI (R.1 c) := by rw [hf2, fil0 hcn]
      refine zw_iload_n dM_room_0 rfl ?_
      refine zw_iconst (v := (-1)) dM_room_1 (by decide) ?_
      refine zw_icmp_eq 15 dM_room_2 (by decide) (fun c_2 => ?_) (fun c_2 => ?_)
      · exact absurd c_2 hx
      · refine zw_aload_n dM_room_5 rfl ?_
        refine zw_iload_n dM_room_6 rfl ?_
        refine zc_V1I dM_room_7 zm_M_isCell zk_M_94 (by first | exact hM | exact zg_ne (by decide) hM | exact zg_eq h43) rfl ch ?_ zRR (Nat.le_of_ble_eq_true rfl) ⟨Nat.le_of_ble_eq_true rfl, Nat.le_of_ble_eq_true rfl⟩
        refine zw_if_ne 15 dM_room_10 (by decide) (fun c_10 => ?_) (fun c_10 => ?_)
        · refine zw_aload_n dM_room_15 rfl ?_
          refine zc_V0I dM_room_16 zm_M_laysRooms zk_M_184 (by first | exact hM | exact zg_ne (by decide) hM | exact zg_eq h43) rfl cl ?_ zRR (Nat.le_of_ble_eq_true rfl) ⟨Nat.le_of_ble_eq_true rfl, Nat.le_of_ble_eq_true rfl⟩
          refine zw_istore_n dM_room_19 (by decide) rfl ?_
          refine zw_iload_n dM_room_20 rfl ?_
          refine zw_iconst (v := (-1)) dM_room_21 (by decide) ?_
          refine zw_icmp_ne 29 dM_room_22 (by decide) (fun c_22 => ?_) (fun c_22 => ?_)
          · refine zw_aload_n dM_room_29 rfl ?_
            refine zw_get dM_room_30 zf_M_51 (by first | exact hM | exact zg_ne (by decide) hM | exact zg_eq h43) rfl ?_
            refine zw_iload_n dM_room_33 rfl ?_
            refine zw_iald dM_room_34 (by first | exact hM | exact zg_ne (by decide) hM | exact zg_eq h43) (vp_in_nI (show c < 36 by omega) (by decide)) ?_
            rw [ecl, ef]
            exact zw_iret dM_room_35 rfl rfl (by rw [zs_len]; rfl) ⟨rfl, Q⟩
          · exact absurd c_22 hx
        · exact absurd c_10 (show ¬ (1 : Int32) = 0 by decide)
end C71
