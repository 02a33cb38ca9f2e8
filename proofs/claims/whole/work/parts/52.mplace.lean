/-! ===== the reference: places ===== -/
theorem nI_m9 {c : Nat} (h : c < 2 ^ 31) : ¬ nI c = -9 := by
  intro q
  have q2 := congrArg Int32.toInt q
  rw [nI_toInt h] at q2
  have q3 : (-9 : Int32).toInt = -9 := by decide
  omega
def pb4 (a b c e : Bool) : Nat := (if a = true then 1 else 0) + (if b = true then 2 else 0) + (if c = true then 4 else 0) + (if e = true then 8 else 0)
theorem pb_4 (f : Nat → Bool) : pb f = pb4 (f 0) (f 1) (f 2) (f 3) := rfl
theorem pb4_lt : ∀ a b c e : Bool, pb4 a b c e < 16 := by decide +kernel
theorem pb_lt (f : Nat → Bool) : pb f < 16 := pb4_lt _ _ _ _
theorem pb_congr {f g : Nat → Bool} (h : ∀ j, j < 4 → f j = g j) : pb f = pb g := by
  rw [pb_4, pb_4, h 0 (by decide), h 1 (by decide), h 2 (by decide), h 3 (by decide)]
theorem pbg : ∀ a b c e : Bool, ((nI (pb4 a b c e) >>> (nI 0 &&& 31)) &&& 1 = if a = true then 1 else 0) ∧ ((nI (pb4 a b c e) >>> (nI 1 &&& 31)) &&& 1 = if b = true then 1 else 0) ∧ ((nI (pb4 a b c e) >>> (nI 2 &&& 31)) &&& 1 = if c = true then 1 else 0) ∧ ((nI (pb4 a b c e) >>> (nI 3 &&& 31)) &&& 1 = if e = true then 1 else 0) := by decide +kernel
theorem pb_get (f : Nat → Bool) {j : Nat} (hj : j < 4) : (nI (pb f) >>> (nI j &&& 31)) &&& 1 = if f j = true then 1 else 0 := by
  rw [pb_4]
  have h := pbg (f 0) (f 1) (f 2) (f 3)
  rcases (show j = 0 ∨ j = 1 ∨ j = 2 ∨ j = 3 by omega) with rfl | rfl | rfl | rfl
  · exact h.1
  · exact h.2.1
  · exact h.2.2.1
  · exact h.2.2.2
theorem pbo : ∀ a b c e : Bool, (nI (pb4 a b c e) ||| ((1 : Int32) <<< (nI 0 &&& 31)) = nI (pb4 true b c e)) ∧ (nI (pb4 a b c e) ||| ((1 : Int32) <<< (nI 1 &&& 31)) = nI (pb4 a true c e)) ∧ (nI (pb4 a b c e) ||| ((1 : Int32) <<< (nI 2 &&& 31)) = nI (pb4 a b true e)) ∧ (nI (pb4 a b c e) ||| ((1 : Int32) <<< (nI 3 &&& 31)) = nI (pb4 a b c true)) := by decide +kernel
theorem pb_or (f g : Nat → Bool) {j : Nat} (hj : j < 4) (h1 : g j = true) (h2 : ∀ i, i < 4 → i ≠ j → g i = f i) : nI (pb f) ||| ((1 : Int32) <<< (nI j &&& 31)) = nI (pb g) := by
  rw [pb_4, pb_4]
  have h := pbo (f 0) (f 1) (f 2) (f 3)
  rcases (show j = 0 ∨ j = 1 ∨ j = 2 ∨ j = 3 by omega) with rfl | rfl | rfl | rfl
  · rw [h.1, h1, h2 1 (by decide) (by decide), h2 2 (by decide) (by decide), h2 3 (by decide) (by decide)]
  · rw [h.2.1, h1, h2 0 (by decide) (by decide), h2 2 (by decide) (by decide), h2 3 (by decide) (by decide)]
  · rw [h.2.2.1, h1, h2 0 (by decide) (by decide), h2 1 (by decide) (by decide), h2 3 (by decide) (by decide)]
  · rw [h.2.2.2, h1, h2 0 (by decide) (by decide), h2 1 (by decide) (by decide), h2 2 (by decide) (by decide)]
theorem pbc : ∀ a b c e : Bool, (nI (pb4 a b c e) &&& (((1 : Int32) <<< (nI 0 &&& 31)) ^^^ (-1)) = nI (pb4 false b c e)) ∧ (nI (pb4 a b c e) &&& (((1 : Int32) <<< (nI 1 &&& 31)) ^^^ (-1)) = nI (pb4 a false c e)) ∧ (nI (pb4 a b c e) &&& (((1 : Int32) <<< (nI 2 &&& 31)) ^^^ (-1)) = nI (pb4 a b false e)) ∧ (nI (pb4 a b c e) &&& (((1 : Int32) <<< (nI 3 &&& 31)) ^^^ (-1)) = nI (pb4 a b c false)) := by decide +kernel
theorem pb_cl (f g : Nat → Bool) {j : Nat} (hj : j < 4) (h1 : g j = false) (h2 : ∀ i, i < 4 → i ≠ j → g i = f i) : nI (pb f) &&& (((1 : Int32) <<< (nI j &&& 31)) ^^^ (-1)) = nI (pb g) := by
  rw [pb_4, pb_4]
  have h := pbc (f 0) (f 1) (f 2) (f 3)
  rcases (show j = 0 ∨ j = 1 ∨ j = 2 ∨ j = 3 by omega) with rfl | rfl | rfl | rfl
  · rw [h.1, h1, h2 1 (by decide) (by decide), h2 2 (by decide) (by decide), h2 3 (by decide) (by decide)]
  · rw [h.2.1, h1, h2 0 (by decide) (by decide), h2 2 (by decide) (by decide), h2 3 (by decide) (by decide)]
  · rw [h.2.2.1, h1, h2 0 (by decide) (by decide), h2 1 (by decide) (by decide), h2 3 (by decide) (by decide)]
  · rw [h.2.2.2, h1, h2 0 (by decide) (by decide), h2 1 (by decide) (by decide), h2 2 (by decide) (by decide)]
def rotI (x : Int32) (q : Int32) : Int32 := ((x <<< (q &&& 31)) &&& 15) ||| ((x <<< (q &&& 31)) >>> ((4 : Int32) &&& 31))
theorem pbr : ∀ a b c e : Bool, (rotI (nI (pb4 a b c e)) (nI 1) = nI (pb4 e a b c)) ∧ (rotI (nI (pb4 a b c e)) (nI 2) = nI (pb4 c e a b)) ∧ (rotI (nI (pb4 a b c e)) (nI 3) = nI (pb4 b c e a)) := by decide +kernel
theorem pb_rot (f : Nat → Bool) {q : Nat} (h1 : 1 ≤ q) (h3 : q ≤ 3) : rotI (nI (pb f)) (nI q) = nI (pb (fun h => f ((h + 4 - q) % 4))) := by
  rw [pb_4, pb_4]
  have h := pbr (f 0) (f 1) (f 2) (f 3)
  rcases (show q = 1 ∨ q = 2 ∨ q = 3 by omega) with rfl | rfl | rfl
  · exact h.1
  · exact h.2.1
  · exact h.2.2
theorem plN_lt (S : Sit) (c : Nat) : plN S c < 16 := by
  unfold plN
  split
  · exact pb_lt _
  · decide
def lpl (S : Sit) : Nat → Bool := fun e => sLost S && ppl (sPl S) e
theorem plN_get (S : Sit) (e : Nat) : (nI (plN S (e / 4)) >>> (nI (e % 4) &&& 31)) &&& 1 = if lpl S e = true then 1 else 0 := by
  unfold plN lpl
  cases sLost S with
  | true => simp only [if_true, Bool.true_and]; exact pb_get _ (Nat.mod_lt _ (by decide))
  | false =>
    simp only [Bool.false_and, Bool.false_eq_true, if_false]
    have := pb_get (fun _ => false) (j := e % 4) (Nat.mod_lt _ (by decide))
    exact this
/-- how many, either way -/
theorem cnt_ppl (pl : Nat → Nat → Bool) : ∀ n, cnt (ppl pl) (4 * n) = cnt (fun c => pl c 0) n + cnt (fun c => pl c 1) n + cnt (fun c => pl c 2) n + cnt (fun c => pl c 3) n := by
  intro n
  induction n with
  | zero => rfl
  | succ n ih =>
    have e : ∀ j, j < 4 → ppl pl (4 * n + j) = pl n j := by
      intro j hj
      show pl ((4 * n + j) / 4) ((4 * n + j) % 4) = pl n j
      rw [show (4 * n + j) / 4 = n by omega, show (4 * n + j) % 4 = j by omega]
    rw [show 4 * (n + 1) = 4 * n + 1 + 1 + 1 + 1 by omega]
    simp only [cnt]
    rw [ih, show ppl pl (4 * n) = pl n 0 from e 0 (by decide), e 1 (by decide), show ppl pl (4 * n + 1 + 1) = pl n 2 from e 2 (by decide), show ppl pl (4 * n + 1 + 1 + 1) = pl n 3 from e 3 (by decide)]
    omega
theorem many_cnt {F : Fl} (hF : fOK F) {pl : Nat → Nat → Bool} (hp : ∀ c j, j < 4 → pl c j = true → c < fN F) : cnt (ppl pl) (4 * fN F) = many pl := by
  have h36 := fN_le hF
  have hz : ∀ j, j < 4 → ∀ i, fN F ≤ i → i < 36 → pl i j = false := by
    intro j hj i h1 h2
    cases hq : pl i j with
    | false => rfl
    | true => exact absurd (hp i j hj hq) (by omega)
  rw [cnt_ppl]
  unfold many
  rw [cnt_more (p := fun c => pl c 0) h36 (hz 0 (by decide)), cnt_more (p := fun c => pl c 1) h36 (hz 1 (by decide)), cnt_more (p := fun c => pl c 2) h36 (hz 2 (by decide)), cnt_more (p := fun c => pl c 3) h36 (hz 3 (by decide))]
theorem piE {a b : Int32} (e : a = b) : (some (.int a) : Option Value) = some (.int b) := by rw [e]
section C52
variable {l : Launch} {g : zG} {d : Nat} {h : zH} {F : Fl} {S : Sit} {z : Nat → Int32} {un le : Nat} {qa qb : I4}
theorem b10 {b : Bool} (c : (if b = true then (1 : Int32) else 0) = 0) : b = false := by cases b with | true => exact absurd c (by decide) | false => rfl
theorem b11 {b : Bool} (c : ¬ (if b = true then (1 : Int32) else 0) = 0) : b = true := by cases b with | true => rfl | false => exact absurd rfl c
theorem d10 {p : Prop} [Decidable p] (c : (if p then (1 : Int32) else 0) = 0) : ¬ p := fun q => by rw [if_pos q] at c; exact absurd c (by decide)
theorem d11 {p : Prop} [Decidable p] (c : ¬ (if p then (1 : Int32) else 0) = 0) : p := Classical.byContradiction fun q => by rw [if_neg q] at c; exact c rfl
theorem c_M_toldOf (hF : fOK F) (hs : ∀ i, sShut S i = true → i < fN F ∧ fK F i = 4) (hM : h[31]? = some (mC F un le qa qb)) (hS : h[32]? = some (sC F S z)) {o : Option Nat} (ho : ∀ c, o = some c → c < fN F) : Run l g mM_toldOf (d + 1) 0 0 [.ref 31, .int (dI o)] h (PI (nI (told F S o)) h) := by
  have h36 := fN_le hF
  refine run_of (by decide) (Nat.le_of_ble_eq_true rfl) ?_
  cases o with
  | none =>
    refine zw_iload_n dM_toldOf_0 rfl ?_
    refine zw_bipush (v := (-9)) dM_toldOf_1 (by decide) ?_
    refine zw_icmp_ne 10 dM_toldOf_3 (by decide) (fun c_3 => ?_) (fun c_3 => ?_)
    · exact absurd rfl c_3
    · refine zw_iconst (v := 1) dM_toldOf_6 (by decide) ?_
      refine zw_goto 37 dM_toldOf_7 (by decide) ?_
      exact zw_iret dM_toldOf_37 rfl rfl rfl ⟨rfl, rfl⟩
  | some c =>
    have hc := ho c rfl
    have ek := ms_k (S := S) (z := z) hF hc
    have hcl := clk hF hc
    have hlt := kdn_lt (S := S) hF hc
    have e3 := kdn_3 (S := S) hF hc
    refine zw_h rfl ?_
    have e9 : ¬ nI c = -9 := nI_m9 (by omega)
    show WW l g mM_toldOf _ _ _ 0 [(0, some (.ref 31)), (1, some (.int (nI c)))] [] h 0 0
    refine zw_iload_n dM_toldOf_0 rfl ?_
    refine zw_bipush (v := (-9)) dM_toldOf_1 (by decide) ?_
    refine zw_icmp_ne 10 dM_toldOf_3 (by decide) (fun c_3 => ?_) (fun c_3 => ?_)
    · refine zw_aload_n dM_toldOf_10 rfl ?_
      refine zw_get dM_toldOf_11 zf_M_16 (by first | exact hM | exact hS) rfl ?_
      refine zw_iload_n dM_toldOf_14 rfl ?_
      refine zw_iald dM_toldOf_15 (by first | exact hM | exact hS) (vk hF hc) ?_
      rw [hcl, ek]
      refine zw_iconst (v := 3) dM_toldOf_16 (by decide) ?_
      refine zw_icmp_ne 24 dM_toldOf_17 (by decide) (fun c_17 => ?_) (fun c_17 => ?_)
      · refine zw_aload_n dM_toldOf_24 rfl ?_
        refine zw_iload_n dM_toldOf_25 rfl ?_
        refine zc_V1I dM_toldOf_26 zm_M_isFree zk_M_103 (by first | exact hM | exact hS) rfl (c_M_isFree hF hs hM hS hc) ?_ zRR (Nat.le_of_ble_eq_true rfl) ⟨Nat.le_of_ble_eq_true rfl, Nat.le_of_ble_eq_true rfl⟩
        refine zw_if_eq 36 dM_toldOf_29 (by decide) (fun c_29 => ?_) (fun c_29 => ?_)
        · refine zw_iconst (v := 1) dM_toldOf_36 (by decide) ?_
          exact zw_iret dM_toldOf_37 rfl rfl rfl ⟨piE (by
  show (_ : Int32) = nI (if fK F c = 3 then 2 else if fre F S c = true then 0 else 1)
  try (have q3 : fK F c = 3 := e3.mp ((nI_eq (b := 3) (by omega) (by omega)).mp c_17))
  try (have q3 : ¬ fK F c = 3 := fun q => c_17 (by rw [e3.mpr q]; rfl))
  try (have q4 := b10 c_29)
  try (have q4 := b11 c_29)
  first
    | (rw [if_pos q3]; rfl)
    | (rw [if_neg q3, q4]; rfl)), rfl⟩
        · refine zw_iconst (v := 0) dM_toldOf_32 (by decide) ?_
          refine zw_goto 37 dM_toldOf_33 (by decide) ?_
          exact zw_iret dM_toldOf_37 rfl rfl rfl ⟨piE (by
  show (_ : Int32) = nI (if fK F c = 3 then 2 else if fre F S c = true then 0 else 1)
  try (have q3 : fK F c = 3 := e3.mp ((nI_eq (b := 3) (by omega) (by omega)).mp c_17))
  try (have q3 : ¬ fK F c = 3 := fun q => c_17 (by rw [e3.mpr q]; rfl))
  try (have q4 := b10 c_29)
  try (have q4 := b11 c_29)
  first
    | (rw [if_pos q3]; rfl)
    | (rw [if_neg q3, q4]; rfl)), rfl⟩
      · refine zw_iconst (v := 2) dM_toldOf_20 (by decide) ?_
        refine zw_goto 37 dM_toldOf_21 (by decide) ?_
        exact zw_iret dM_toldOf_37 rfl rfl rfl ⟨piE (by
  show (_ : Int32) = nI (if fK F c = 3 then 2 else if fre F S c = true then 0 else 1)
  try (have q3 : fK F c = 3 := e3.mp ((nI_eq (b := 3) (by omega) (by omega)).mp c_17))
  try (have q3 : ¬ fK F c = 3 := fun q => c_17 (by rw [e3.mpr q]; rfl))
  try (have q4 := b10 c_29)
  try (have q4 := b11 c_29)
  first
    | (rw [if_pos q3]; rfl)
    | (rw [if_neg q3, q4]; rfl)), rfl⟩
    · exact absurd c_3 e9
theorem vK {c : Nat} (hF : fOK F) (hc : c < fN F) : (36 : Int32) + nI c = nI (36 + c) ∧ vp_in (nI (36 + c)) 114 ∧ (nI (36 + c)).toNatClampNeg = 36 + c := by
  have := fN_le hF
  exact ⟨nI_add 36 c, vp_in_nI (by omega) (by decide), nI_clamp (by omega)⟩
theorem vP {c : Nat} (hF : fOK F) (hc : c < fN F) : (72 : Int32) + nI c = nI (72 + c) ∧ vp_in (nI (72 + c)) 114 ∧ (nI (72 + c)).toNatClampNeg = 72 + c := by
  have := fN_le hF
  exact ⟨nI_add 72 c, vp_in_nI (by omega) (by decide), nI_clamp (by omega)⟩
theorem c_M_canBe (hF : fOK F) (hk : ∀ i, sKn S i ≤ 2) (hM : h[31]? = some (mC F un le qa qb)) (hS : h[32]? = some (sC F S z)) {o : Option Nat} (ho : ∀ c, o = some c → c < fN F) {t : Nat} (ht : t < 3) : Run l g mM_canBe (d + 1) 0 0 [.ref 31, .int (dI o), .int (nI t)] h (PI (if canBe F S t o = true then 1 else 0) h) := by
  have h36 := fN_le hF
  refine run_of (by decide) (Nat.le_of_ble_eq_true rfl) ?_
  cases o with
  | none =>
    have e1 : nI t = 1 ↔ t = 1 := nI_eq (b := 1) (by omega) (by omega)
    refine zw_iload_n dM_canBe_0 rfl ?_
    refine zw_bipush (v := (-9)) dM_canBe_1 (by decide) ?_
    refine zw_icmp_ne 17 dM_canBe_3 (by decide) (fun c_3 => ?_) (fun c_3 => ?_)
    · exact absurd rfl c_3
    · refine zw_iload_n dM_canBe_6 rfl ?_
      refine zw_iconst (v := 1) dM_canBe_7 (by decide) ?_
      refine zw_icmp_ne 15 dM_canBe_8 (by decide) (fun c_8 => ?_) (fun c_8 => ?_)
      · refine zw_iconst (v := 0) dM_canBe_15 (by decide) ?_
        exact zw_iret dM_canBe_16 rfl rfl rfl ⟨piE (by
  show (_ : Int32) = if (t == 1) = true then 1 else 0
  first
    | (rw [if_neg (fun q => c_8 (e1.mpr (by simpa using q)))])
    | (rw [if_pos (by simpa using e1.mp c_8)])), rfl⟩
      · refine zw_iconst (v := 1) dM_canBe_11 (by decide) ?_
        refine zw_goto 16 dM_canBe_12 (by decide) ?_
        exact zw_iret dM_canBe_16 rfl rfl rfl ⟨piE (by
  show (_ : Int32) = if (t == 1) = true then 1 else 0
  first
    | (rw [if_neg (fun q => c_8 (e1.mpr (by simpa using q)))])
    | (rw [if_pos (by simpa using e1.mp c_8)])), rfl⟩
  | some c =>
    have hc := ho c rfl
    have ek := ms_k (S := S) (z := z) hF hc
    have en := ms_n (S := S) (z := z) hF hc
    obtain ⟨v1, v2, v3⟩ := vK hF hc
    have hcl := clk hF hc
    have hlt := kdn_lt (S := S) hF hc
    have e3 := kdn_3 (S := S) hF hc
    have hk2 := hk c
    have e9 : ¬ nI c = -9 := nI_m9 (by omega)
    have n3 : nI (kdn F S c) = 3 ↔ fK F c = 3 := by rw [← e3]; exact nI_eq (b := 3) (by omega) (by omega)
    have n2 : nI t = 2 ↔ t = 2 := nI_eq (b := 2) (by omega) (by omega)
    have n0 : nI t = 0 ↔ t = 0 := nI_eq (b := 0) (by omega) (by omega)
    have k0 : nI (sKn S c) = 0 ↔ sKn S c = 0 := nI_eq (b := 0) (by omega) (by omega)
    have k1 : nI (sKn S c) = 2 - 1 ↔ sKn S c = 1 := nI_eq (b := 1) (by omega) (by omega)
    have k2 : nI (sKn S c) = 2 - 0 ↔ sKn S c = 2 := nI_eq (b := 2) (by omega) (by omega)
    have ecb : canBe F S t (some c) = if t = 2 then fK F c == 3 else (!(fK F c == 3)) && (fK F c == 4 || !(sKn S c == (if t = 0 then 2 else 1))) := rfl
    show WW l g mM_canBe _ _ _ 0 [(0, some (.ref 31)), (1, some (.int (nI c))), (2, some (.int (nI t)))] [] h 0 0
    rw [ecb]
    refine zw_iload_n dM_canBe_0 rfl ?_
    refine zw_bipush (v := (-9)) dM_canBe_1 (by decide) ?_
    refine zw_icmp_ne 17 dM_canBe_3 (by decide) (fun c_3 => ?_) (fun c_3 => ?_)
    · refine zw_aload_n dM_canBe_17 rfl ?_
      refine zw_get dM_canBe_18 zf_M_16 (by first | exact hM | exact hS) rfl ?_
      refine zw_iload_n dM_canBe_21 rfl ?_
      refine zw_iald dM_canBe_22 (by first | exact hM | exact hS) (vk hF hc) ?_
      rw [hcl, ek]
      refine zw_iconst (v := 3) dM_canBe_23 (by decide) ?_
      refine zw_icmp_eq 32 dM_canBe_24 (by decide) (fun c_24 => ?_) (fun c_24 => ?_)
      · refine zw_aload_n dM_canBe_32 rfl ?_
        refine zw_get dM_canBe_33 zf_M_16 (by first | exact hM | exact hS) rfl ?_
        refine zw_iload_n dM_canBe_36 rfl ?_
        refine zw_iald dM_canBe_37 (by first | exact hM | exact hS) (vk hF hc) ?_
        rw [hcl, ek]
        refine zw_iconst (v := 3) dM_canBe_38 (by decide) ?_
        refine zw_icmp_ne 51 dM_canBe_39 (by decide) (fun c_39 => ?_) (fun c_39 => ?_)
        · refine zw_iconst (v := 0) dM_canBe_51 (by decide) ?_
          exact zw_iret dM_canBe_52 rfl rfl rfl ⟨piE (by
  clear e3 ek en v1 v2 v3 hcl ho hS hM
  try simp only [ne_eq, n3, Decidable.not_not] at c_24
  all_goals try simp only [ne_eq, n2, Decidable.not_not] at c_29
  all_goals try simp only [ne_eq, n3, Decidable.not_not] at c_39
  all_goals try simp only [ne_eq, n2, Decidable.not_not] at c_44
  all_goals try simp only [k0] at c_70
  all_goals try simp only [ne_eq, n0, Decidable.not_not] at c_84
  all_goals try simp only [ne_eq, k1, k2, Decidable.not_not] at c_93
  all_goals try (have q4 := d10 c_58)
  all_goals try (have q4 := d11 c_58)
  all_goals clear n3 n2 n0 k0 k1 k2 c_3 e9
  all_goals try clear c_58
  all_goals clear hk hlt hF hc h36 ecb
  all_goals (rcases (show sKn S c = 0 ∨ sKn S c = 1 ∨ sKn S c = 2 by omega) with k | k | k <;> rcases (show t = 0 ∨ t = 1 ∨ t = 2 by omega) with rfl | rfl | rfl <;> simp_all)), rfl⟩
        · refine zw_iload_n dM_canBe_42 rfl ?_
          refine zw_iconst (v := 2) dM_canBe_43 (by decide) ?_
          refine zw_icmp_ne 51 dM_canBe_44 (by decide) (fun c_44 => ?_) (fun c_44 => ?_)
          · refine zw_iconst (v := 0) dM_canBe_51 (by decide) ?_
            exact zw_iret dM_canBe_52 rfl rfl rfl ⟨piE (by
  clear e3 ek en v1 v2 v3 hcl ho hS hM
  try simp only [ne_eq, n3, Decidable.not_not] at c_24
  all_goals try simp only [ne_eq, n2, Decidable.not_not] at c_29
  all_goals try simp only [ne_eq, n3, Decidable.not_not] at c_39
  all_goals try simp only [ne_eq, n2, Decidable.not_not] at c_44
  all_goals try simp only [k0] at c_70
  all_goals try simp only [ne_eq, n0, Decidable.not_not] at c_84
  all_goals try simp only [ne_eq, k1, k2, Decidable.not_not] at c_93
  all_goals try (have q4 := d10 c_58)
  all_goals try (have q4 := d11 c_58)
  all_goals clear n3 n2 n0 k0 k1 k2 c_3 e9
  all_goals try clear c_58
  all_goals clear hk hlt hF hc h36 ecb
  all_goals (rcases (show sKn S c = 0 ∨ sKn S c = 1 ∨ sKn S c = 2 by omega) with k | k | k <;> rcases (show t = 0 ∨ t = 1 ∨ t = 2 by omega) with rfl | rfl | rfl <;> simp_all)), rfl⟩
          · refine zw_iconst (v := 1) dM_canBe_47 (by decide) ?_
            refine zw_goto 52 dM_canBe_48 (by decide) ?_
            exact zw_iret dM_canBe_52 rfl rfl rfl ⟨piE (by
  clear e3 ek en v1 v2 v3 hcl ho hS hM
  try simp only [ne_eq, n3, Decidable.not_not] at c_24
  all_goals try simp only [ne_eq, n2, Decidable.not_not] at c_29
  all_goals try simp only [ne_eq, n3, Decidable.not_not] at c_39
  all_goals try simp only [ne_eq, n2, Decidable.not_not] at c_44
  all_goals try simp only [k0] at c_70
  all_goals try simp only [ne_eq, n0, Decidable.not_not] at c_84
  all_goals try simp only [ne_eq, k1, k2, Decidable.not_not] at c_93
  all_goals try (have q4 := d10 c_58)
  all_goals try (have q4 := d11 c_58)
  all_goals clear n3 n2 n0 k0 k1 k2 c_3 e9
  all_goals try clear c_58
  all_goals clear hk hlt hF hc h36 ecb
  all_goals (rcases (show sKn S c = 0 ∨ sKn S c = 1 ∨ sKn S c = 2 by omega) with k | k | k <;> rcases (show t = 0 ∨ t = 1 ∨ t = 2 by omega) with rfl | rfl | rfl <;> simp_all)), rfl⟩
      · refine zw_iload_n dM_canBe_27 rfl ?_
        refine zw_iconst (v := 2) dM_canBe_28 (by decide) ?_
        refine zw_icmp_ne 53 dM_canBe_29 (by decide) (fun c_29 => ?_) (fun c_29 => ?_)
        · refine zw_aload_n dM_canBe_53 rfl ?_
          refine zw_iload_n dM_canBe_54 rfl ?_
          refine zc_V1I dM_canBe_55 zm_M_isDoor zk_M_100 (by first | exact hM | exact hS) rfl (c_M_isDoor hF hM hS hc) ?_ zRR (Nat.le_of_ble_eq_true rfl) ⟨Nat.le_of_ble_eq_true rfl, Nat.le_of_ble_eq_true rfl⟩
          refine zw_if_ne 96 dM_canBe_58 (by decide) (fun c_58 => ?_) (fun c_58 => ?_)
          · refine zw_iconst (v := 1) dM_canBe_96 (by decide) ?_
            refine zw_goto 101 dM_canBe_97 (by decide) ?_
            exact zw_iret dM_canBe_101 rfl rfl rfl ⟨piE (by
  clear e3 ek en v1 v2 v3 hcl ho hS hM
  try simp only [ne_eq, n3, Decidable.not_not] at c_24
  all_goals try simp only [ne_eq, n2, Decidable.not_not] at c_29
  all_goals try simp only [ne_eq, n3, Decidable.not_not] at c_39
  all_goals try simp only [ne_eq, n2, Decidable.not_not] at c_44
  all_goals try simp only [k0] at c_70
  all_goals try simp only [ne_eq, n0, Decidable.not_not] at c_84
  all_goals try simp only [ne_eq, k1, k2, Decidable.not_not] at c_93
  all_goals try (have q4 := d10 c_58)
  all_goals try (have q4 := d11 c_58)
  all_goals clear n3 n2 n0 k0 k1 k2 c_3 e9
  all_goals try clear c_58
  all_goals clear hk hlt hF hc h36 ecb
  all_goals (rcases (show sKn S c = 0 ∨ sKn S c = 1 ∨ sKn S c = 2 by omega) with k | k | k <;> rcases (show t = 0 ∨ t = 1 ∨ t = 2 by omega) with rfl | rfl | rfl <;> simp_all)), rfl⟩
          · refine zw_aload_n dM_canBe_61 rfl ?_
            refine zw_get dM_canBe_62 zf_M_16 (by first | exact hM | exact hS) rfl ?_
            refine zw_bipush (v := 36) dM_canBe_65 (by decide) ?_
            refine zw_iload_n dM_canBe_67 rfl ?_
            refine zw_iadd dM_canBe_68 ?_
            rw [v1]
            refine zw_iald dM_canBe_69 (by first | exact hM | exact hS) v2 ?_
            rw [v3, en]
            refine zw_if_eq 96 dM_canBe_70 (by decide) (fun c_70 => ?_) (fun c_70 => ?_)
            · refine zw_iconst (v := 1) dM_canBe_96 (by decide) ?_
              refine zw_goto 101 dM_canBe_97 (by decide) ?_
              exact zw_iret dM_canBe_101 rfl rfl rfl ⟨piE (by
  clear e3 ek en v1 v2 v3 hcl ho hS hM
  try simp only [ne_eq, n3, Decidable.not_not] at c_24
  all_goals try simp only [ne_eq, n2, Decidable.not_not] at c_29
  all_goals try simp only [ne_eq, n3, Decidable.not_not] at c_39
  all_goals try simp only [ne_eq, n2, Decidable.not_not] at c_44
  all_goals try simp only [k0] at c_70
  all_goals try simp only [ne_eq, n0, Decidable.not_not] at c_84
  all_goals try simp only [ne_eq, k1, k2, Decidable.not_not] at c_93
  all_goals try (have q4 := d10 c_58)
  all_goals try (have q4 := d11 c_58)
  all_goals clear n3 n2 n0 k0 k1 k2 c_3 e9
  all_goals try clear c_58
  all_goals clear hk hlt hF hc h36 ecb
  all_goals (rcases (show sKn S c = 0 ∨ sKn S c = 1 ∨ sKn S c = 2 by omega) with k | k | k <;> rcases (show t = 0 ∨ t = 1 ∨ t = 2 by omega) with rfl | rfl | rfl <;> simp_all)), rfl⟩
            · refine zw_aload_n dM_canBe_73 rfl ?_
              refine zw_get dM_canBe_74 zf_M_16 (by first | exact hM | exact hS) rfl ?_
              refine zw_bipush (v := 36) dM_canBe_77 (by decide) ?_
              refine zw_iload_n dM_canBe_79 rfl ?_
              refine zw_iadd dM_canBe_80 ?_
              rw [v1]
              refine zw_iald dM_canBe_81 (by first | exact hM | exact hS) v2 ?_
              rw [v3, en]
              refine zw_iconst (v := 2) dM_canBe_82 (by decide) ?_
              refine zw_iload_n dM_canBe_83 rfl ?_
              refine zw_if_ne 91 dM_canBe_84 (by decide) (fun c_84 => ?_) (fun c_84 => ?_)
              · refine zw_iconst (v := 0) dM_canBe_91 (by decide) ?_
                refine zw_isub dM_canBe_92 ?_
                refine zw_icmp_ne 100 dM_canBe_93 (by decide) (fun c_93 => ?_) (fun c_93 => ?_)
                · refine zw_iconst (v := 0) dM_canBe_100 (by decide) ?_
                  exact zw_iret dM_canBe_101 rfl rfl rfl ⟨piE (by
  clear e3 ek en v1 v2 v3 hcl ho hS hM
  try simp only [ne_eq, n3, Decidable.not_not] at c_24
  all_goals try simp only [ne_eq, n2, Decidable.not_not] at c_29
  all_goals try simp only [ne_eq, n3, Decidable.not_not] at c_39
  all_goals try simp only [ne_eq, n2, Decidable.not_not] at c_44
  all_goals try simp only [k0] at c_70
  all_goals try simp only [ne_eq, n0, Decidable.not_not] at c_84
  all_goals try simp only [ne_eq, k1, k2, Decidable.not_not] at c_93
  all_goals try (have q4 := d10 c_58)
  all_goals try (have q4 := d11 c_58)
  all_goals clear n3 n2 n0 k0 k1 k2 c_3 e9
  all_goals try clear c_58
  all_goals clear hk hlt hF hc h36 ecb
  all_goals (rcases (show sKn S c = 0 ∨ sKn S c = 1 ∨ sKn S c = 2 by omega) with k | k | k <;> rcases (show t = 0 ∨ t = 1 ∨ t = 2 by omega) with rfl | rfl | rfl <;> simp_all)), rfl⟩
                · refine zw_iconst (v := 1) dM_canBe_96 (by decide) ?_
                  refine zw_goto 101 dM_canBe_97 (by decide) ?_
                  exact zw_iret dM_canBe_101 rfl rfl rfl ⟨piE (by
  clear e3 ek en v1 v2 v3 hcl ho hS hM
  try simp only [ne_eq, n3, Decidable.not_not] at c_24
  all_goals try simp only [ne_eq, n2, Decidable.not_not] at c_29
  all_goals try simp only [ne_eq, n3, Decidable.not_not] at c_39
  all_goals try simp only [ne_eq, n2, Decidable.not_not] at c_44
  all_goals try simp only [k0] at c_70
  all_goals try simp only [ne_eq, n0, Decidable.not_not] at c_84
  all_goals try simp only [ne_eq, k1, k2, Decidable.not_not] at c_93
  all_goals try (have q4 := d10 c_58)
  all_goals try (have q4 := d11 c_58)
  all_goals clear n3 n2 n0 k0 k1 k2 c_3 e9
  all_goals try clear c_58
  all_goals clear hk hlt hF hc h36 ecb
  all_goals (rcases (show sKn S c = 0 ∨ sKn S c = 1 ∨ sKn S c = 2 by omega) with k | k | k <;> rcases (show t = 0 ∨ t = 1 ∨ t = 2 by omega) with rfl | rfl | rfl <;> simp_all)), rfl⟩
              · refine zw_iconst (v := 1) dM_canBe_87 (by decide) ?_
                refine zw_goto 92 dM_canBe_88 (by decide) ?_
                refine zw_isub dM_canBe_92 ?_
                refine zw_icmp_ne 100 dM_canBe_93 (by decide) (fun c_93 => ?_) (fun c_93 => ?_)
                · refine zw_iconst (v := 0) dM_canBe_100 (by decide) ?_
                  exact zw_iret dM_canBe_101 rfl rfl rfl ⟨piE (by
  clear e3 ek en v1 v2 v3 hcl ho hS hM
  try simp only [ne_eq, n3, Decidable.not_not] at c_24
  all_goals try simp only [ne_eq, n2, Decidable.not_not] at c_29
  all_goals try simp only [ne_eq, n3, Decidable.not_not] at c_39
  all_goals try simp only [ne_eq, n2, Decidable.not_not] at c_44
  all_goals try simp only [k0] at c_70
  all_goals try simp only [ne_eq, n0, Decidable.not_not] at c_84
  all_goals try simp only [ne_eq, k1, k2, Decidable.not_not] at c_93
  all_goals try (have q4 := d10 c_58)
  all_goals try (have q4 := d11 c_58)
  all_goals clear n3 n2 n0 k0 k1 k2 c_3 e9
  all_goals try clear c_58
  all_goals clear hk hlt hF hc h36 ecb
  all_goals (rcases (show sKn S c = 0 ∨ sKn S c = 1 ∨ sKn S c = 2 by omega) with k | k | k <;> rcases (show t = 0 ∨ t = 1 ∨ t = 2 by omega) with rfl | rfl | rfl <;> simp_all)), rfl⟩
                · refine zw_iconst (v := 1) dM_canBe_96 (by decide) ?_
                  refine zw_goto 101 dM_canBe_97 (by decide) ?_
                  exact zw_iret dM_canBe_101 rfl rfl rfl ⟨piE (by
  clear e3 ek en v1 v2 v3 hcl ho hS hM
  try simp only [ne_eq, n3, Decidable.not_not] at c_24
  all_goals try simp only [ne_eq, n2, Decidable.not_not] at c_29
  all_goals try simp only [ne_eq, n3, Decidable.not_not] at c_39
  all_goals try simp only [ne_eq, n2, Decidable.not_not] at c_44
  all_goals try simp only [k0] at c_70
  all_goals try simp only [ne_eq, n0, Decidable.not_not] at c_84
  all_goals try simp only [ne_eq, k1, k2, Decidable.not_not] at c_93
  all_goals try (have q4 := d10 c_58)
  all_goals try (have q4 := d11 c_58)
  all_goals clear n3 n2 n0 k0 k1 k2 c_3 e9
  all_goals try clear c_58
  all_goals clear hk hlt hF hc h36 ecb
  all_goals (rcases (show sKn S c = 0 ∨ sKn S c = 1 ∨ sKn S c = 2 by omega) with k | k | k <;> rcases (show t = 0 ∨ t = 1 ∨ t = 2 by omega) with rfl | rfl | rfl <;> simp_all)), rfl⟩
        · refine zw_aload_n dM_canBe_32 rfl ?_
          refine zw_get dM_canBe_33 zf_M_16 (by first | exact hM | exact hS) rfl ?_
          refine zw_iload_n dM_canBe_36 rfl ?_
          refine zw_iald dM_canBe_37 (by first | exact hM | exact hS) (vk hF hc) ?_
          rw [hcl, ek]
          refine zw_iconst (v := 3) dM_canBe_38 (by decide) ?_
          refine zw_icmp_ne 51 dM_canBe_39 (by decide) (fun c_39 => ?_) (fun c_39 => ?_)
          · refine zw_iconst (v := 0) dM_canBe_51 (by decide) ?_
            exact zw_iret dM_canBe_52 rfl rfl rfl ⟨piE (by
  clear e3 ek en v1 v2 v3 hcl ho hS hM
  try simp only [ne_eq, n3, Decidable.not_not] at c_24
  all_goals try simp only [ne_eq, n2, Decidable.not_not] at c_29
  all_goals try simp only [ne_eq, n3, Decidable.not_not] at c_39
  all_goals try simp only [ne_eq, n2, Decidable.not_not] at c_44
  all_goals try simp only [k0] at c_70
  all_goals try simp only [ne_eq, n0, Decidable.not_not] at c_84
  all_goals try simp only [ne_eq, k1, k2, Decidable.not_not] at c_93
  all_goals try (have q4 := d10 c_58)
  all_goals try (have q4 := d11 c_58)
  all_goals clear n3 n2 n0 k0 k1 k2 c_3 e9
  all_goals try clear c_58
  all_goals clear hk hlt hF hc h36 ecb
  all_goals (rcases (show sKn S c = 0 ∨ sKn S c = 1 ∨ sKn S c = 2 by omega) with k | k | k <;> rcases (show t = 0 ∨ t = 1 ∨ t = 2 by omega) with rfl | rfl | rfl <;> simp_all)), rfl⟩
          · refine zw_iload_n dM_canBe_42 rfl ?_
            refine zw_iconst (v := 2) dM_canBe_43 (by decide) ?_
            refine zw_icmp_ne 51 dM_canBe_44 (by decide) (fun c_44 => ?_) (fun c_44 => ?_)
            · refine zw_iconst (v := 0) dM_canBe_51 (by decide) ?_
              exact zw_iret dM_canBe_52 rfl rfl rfl ⟨piE (by
  clear e3 ek en v1 v2 v3 hcl ho hS hM
  try simp only [ne_eq, n3, Decidable.not_not] at c_24
  all_goals try simp only [ne_eq, n2, Decidable.not_not] at c_29
  all_goals try simp only [ne_eq, n3, Decidable.not_not] at c_39
  all_goals try simp only [ne_eq, n2, Decidable.not_not] at c_44
  all_goals try simp only [k0] at c_70
  all_goals try simp only [ne_eq, n0, Decidable.not_not] at c_84
  all_goals try simp only [ne_eq, k1, k2, Decidable.not_not] at c_93
  all_goals try (have q4 := d10 c_58)
  all_goals try (have q4 := d11 c_58)
  all_goals clear n3 n2 n0 k0 k1 k2 c_3 e9
  all_goals try clear c_58
  all_goals clear hk hlt hF hc h36 ecb
  all_goals (rcases (show sKn S c = 0 ∨ sKn S c = 1 ∨ sKn S c = 2 by omega) with k | k | k <;> rcases (show t = 0 ∨ t = 1 ∨ t = 2 by omega) with rfl | rfl | rfl <;> simp_all)), rfl⟩
            · refine zw_iconst (v := 1) dM_canBe_47 (by decide) ?_
              refine zw_goto 52 dM_canBe_48 (by decide) ?_
              exact zw_iret dM_canBe_52 rfl rfl rfl ⟨piE (by
  clear e3 ek en v1 v2 v3 hcl ho hS hM
  try simp only [ne_eq, n3, Decidable.not_not] at c_24
  all_goals try simp only [ne_eq, n2, Decidable.not_not] at c_29
  all_goals try simp only [ne_eq, n3, Decidable.not_not] at c_39
  all_goals try simp only [ne_eq, n2, Decidable.not_not] at c_44
  all_goals try simp only [k0] at c_70
  all_goals try simp only [ne_eq, n0, Decidable.not_not] at c_84
  all_goals try simp only [ne_eq, k1, k2, Decidable.not_not] at c_93
  all_goals try (have q4 := d10 c_58)
  all_goals try (have q4 := d11 c_58)
  all_goals clear n3 n2 n0 k0 k1 k2 c_3 e9
  all_goals try clear c_58
  all_goals clear hk hlt hF hc h36 ecb
  all_goals (rcases (show sKn S c = 0 ∨ sKn S c = 1 ∨ sKn S c = 2 by omega) with k | k | k <;> rcases (show t = 0 ∨ t = 1 ∨ t = 2 by omega) with rfl | rfl | rfl <;> simp_all)), rfl⟩
    · exact absurd c_3 e9
end C52
