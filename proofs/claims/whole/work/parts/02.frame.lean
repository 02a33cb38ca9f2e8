/-! ===== the abstract machine: heap cells by their places, its steps proved once over the kit's rows ===== -/
abbrev zC : Type := (Nat × vp_A) ⊕ (Nat × List Value)
abbrev zH : Type := List zC
abbrev zL : Type := List (Nat × Option Value)
abbrev zM : Type := MethodName × ByteArray × Nat × Option FieldType
abbrev zG : Type := Nat × (Nat → ClassId) × va_G
/-- a value of the abstract machine as the machine has it: cell k lies at b + k; retAddr a stands for the cell at a itself -/
def zv (b : Nat) : Value → Value
  | .ref k => .ref (b + k)
  | .retAddr a => .ref a
  | v => v
theorem zv_cat (b : Nat) (v : Value) : (zv b v).category = v.category := by cases v <;> rfl
def zAr (b : Nat) : vp_A → vp_A
  | (n, .inr (.inr (.inr (.inr f)))) => (n, .inr (.inr (.inr (.inr (fun j => (f j).map (b + ·))))))
  | a => a
def zE (b : Nat) (ca : Nat → ClassId) : zC → va_E
  | .inl (t, a) => .inl (ca t, zAr b a)
  | .inr (c, fs) => .inr (c, fs.map (zv b))
def zW (b : Nat) (ca : Nat → ClassId) (h : zH) : va_W := h.mapIdx (fun k c => (b + k, zE b ca c))
theorem zW_get {b : Nat} {ca : Nat → ClassId} {h : zH} {k : Nat} {c : zC} (hk : h[k]? = some c) : (zW b ca h)[k]? = some (b + k, zE b ca c) := by
  simp [zW, hk]
theorem zW_len {b : Nat} {ca : Nat → ClassId} {h : zH} : (zW b ca h).length = h.length := by simp [zW]
theorem zW_set {b : Nat} {ca : Nat → ClassId} {h : zH} {k : Nat} {c : zC} : (zW b ca h).set k (b + k, zE b ca c) = zW b ca (h.set k c) := by
  apply List.ext_getElem?
  intro i
  simp only [zW, List.getElem?_set, List.getElem?_mapIdx, List.length_mapIdx]
  by_cases hi : k = i
  · subst hi
    by_cases hl : k < h.length <;> simp [hl]
  · simp [hi]
theorem zW_app {b : Nat} {ca : Nat → ClassId} {h : zH} {c : zC} : zW b ca h ++ [(b + h.length, zE b ca c)] = zW b ca (h ++ [c]) := by
  simp [zW, List.mapIdx_append]
theorem zW_D {b : Nat} {ca : Nat → ClassId} {h : zH} : va_D (fun q => b ≤ q) (zW b ca h) := by
  refine ⟨fun i j p q hp hq e => ?_, fun k q hq => ?_⟩
  · simp only [zW, List.getElem?_mapIdx, Option.map_eq_some_iff] at hp hq
    obtain ⟨_, -, rfl⟩ := hp
    obtain ⟨_, -, rfl⟩ := hq
    exact Nat.add_left_cancel e
  · simp only [zW, List.getElem?_mapIdx, Option.map_eq_some_iff] at hq
    obtain ⟨_, -, rfl⟩ := hq
    exact Nat.le_add_right _ _
/-- the array classes: of ints, longs, booleans, situations -/
def ztys (g : zG) : List (ClassId × FieldType) := [(g.2.1 0, .int), (g.2.1 1, .long), (g.2.1 2, .boolean), (g.2.1 3, .object "SweptFloors$Situation")]
def zN (U : State) : Prop := (∀ w ∈ znest, va_Nw w U) ∧ va_AO "SweptFloors$Situation" U
theorem zN.warm {s U : State} (hW : s.WarmedH U.vm) (h : zN s) : zN U := by
  refine ⟨?_, va_AO.moved hW.alike h.2⟩
  intro w hw
  have h0 := h.1 w hw
  have hn := (List.mem_filter.mp hw).2
  cases w <;> first | exact va_Nw.warmF hW h0 | exact va_Nw.warmM hW h0 | cases hn
theorem zN.same {u U : State} (e : u.vm = U.vm) (h : zN u) : zN U := by
  refine ⟨?_, va_AO.moved (by rw [e]; exact Vm.Alike.refl U.vm) h.2⟩
  intro w hw
  have h0 := h.1 w hw
  have hn := (List.mem_filter.mp hw).2
  cases w <;> first | exact va_Nw.same rfl e h0 | cases hn
def zK (g : zG) (U : State) : Prop := va_K g.2.2 zcl (ztys g) U ∧ zN U
/-- what a method begins with -/
def zB (g : zG) (h : zH) (U : State) : Prop := U.heap.size = g.1 + h.length ∧ va_P g.2.2 zcl (zW g.1 g.2.1 h) U.heap ∧ zK g U
/-- what it ends with -/
def zQ (g : zG) (post : Option Value → zH → Prop) (n1 : Nat) : Array Value → State → Outcome → State → Prop := fun _ st oc t =>
  (∃ (v : Option Value) (h' : zH), oc = .returned (v.map (zv g.1)) ∧ post v h' ∧ h'.length = n1 ∧ va_P g.2.2 zcl (zW g.1 g.2.1 h') t.heap) ∧ va_F (fun q => g.1 ≤ q) st t
def zrm (d mc ms : Nat) : Room := { frames := d, cells := mc, slots := ms, locals := 38 * d }
/-- a method's contract: from the heap h with these arguments it returns, with 'post' of its answer and of the heap behind it -/
def Run (l : Launch) (g : zG) (M : zM) (d mc ms : Nat) (args : List Value) (h : zH) (post : Option Value → zH → Prop) : Prop :=
  Met l M.1 (.code M.1 M.2.1 M.2.2.1 M.2.2.2 :: zgw) (zrm d mc ms) (va_Pc (args.map (zv g.1)) (zB g h)) (zQ g post (h.length + mc)) mc ms (fun q => g.1 ≤ q)
def zfind : Nat → zL → Option Value
  | _, [] => none
  | i, (j, o) :: r => bif i == j then o else zfind i r
def zLs (b nL : Nat) (lsA : Array Slot) (ls : zL) : Prop := lv_has lsA nL [] ∧ ∀ (i : Nat) (v : Value), zfind i ls = some v → lsA[i]? = some (.val (zv b v))
def zX (g : zG) (M : zM) (Z : State → Prop) (p : Program) (s : State) (m : MethodId) (args : Array Value) (meth : Method) (c : Code) : Prop :=
  p.tables.exec = Jvm.exec ∧ c.code = M.2.1 ∧ meth.sig.returnType = M.2.2.2 ∧ c.maxLocals = M.2.2.1 ∧ s.vm.findClass M.1.cls = some m.cls ∧ (∀ w ∈ zgw, w.before args s = true) ∧ meth.locks = false ∧ meth.name = M.1.name ∧ Z s ∧ zK g s ∧ g.1 ≤ s.heap.size
/-- the abstract machine at pc, with locals ls, stack st, heap h, comes to QQ -/
def WW (l : Launch) (g : zG) (M : zM) (R : Room) (Z : State → Prop) (QQ : List Frame → Array Value → State → State → Prop) (pc : Nat) (ls : zL) (st : List Value) (h : zH) (k n : Nat) : Prop :=
  ∀ (p : Program) (e : Env) (s : State) (m : MethodId) (args : Array Value) (below : List Frame) (meth : Method) (c : Code) (H : Heap) (locs : List Loc) (lsA : Array Slot),
    zX g M Z p s m args meth c → s.heap.size + k = g.1 + h.length → va_P g.2.2 zcl (zW g.1 g.2.1 h) H → va_S (fun q => g.1 ≤ q) s.heap H locs → zLs g.1 M.2.2.1 lsA ls →
    W p l e R s m args below meth c H locs k n (QQ below args s) (F0 m pc lsA (st.map (zv g.1)))
def zQQ (g : zG) (post : Option Value → zH → Prop) (n1 mc ms : Nat) : List Frame → Array Value → State → State → Prop := fun below args s => MQ below (zQ g post n1) args s mc ms (fun q => g.1 ≤ q)
/-! locals -/
theorem zfind_cons_eq (i : Nat) (o : Option Value) (r : zL) : zfind i ((i, o) :: r) = o := by simp [zfind]
theorem zfind_cons_ne {i j : Nat} (o : Option Value) (r : zL) (h : i ≠ j) : zfind i ((j, o) :: r) = zfind i r := by
  have e : (i == j) = false := by simpa using h
  simp [zfind, e]
theorem zfind_mem {i : Nat} {v : Value} : ∀ {ls : zL}, zfind i ls = some v → ∃ q ∈ ls, q.1 = i := by
  intro ls
  induction ls with
  | nil => intro h; simp [zfind] at h
  | cons a r ih =>
    intro h
    obtain ⟨j, o⟩ := a
    by_cases e : i = j
    · exact ⟨(j, o), List.mem_cons_self, e.symm⟩
    · rw [zfind_cons_ne o r e] at h
      obtain ⟨q, h1, h2⟩ := ih h
      exact ⟨q, List.mem_cons_of_mem _ h1, h2⟩
def zl (b : Nat) (ls : zL) : List (Nat × Value) := ls.filterMap (fun q => (zfind q.1 ls).map (fun v => (q.1, zv b v)))
theorem zl_mem {b : Nat} {ls : zL} {i : Nat} {v : Value} (h : zfind i ls = some v) : (i, zv b v) ∈ zl b ls := by
  obtain ⟨q, h1, h2⟩ := zfind_mem h
  exact List.mem_filterMap.mpr ⟨q, h1, by rw [h2, h]; rfl⟩
theorem zLs.has {b nL : Nat} {lsA : Array Slot} {ls : zL} (h : zLs b nL lsA ls) : lv_has lsA nL (zl b ls) := by
  refine ⟨h.1.1, h.1.2.1, fun q hq => ?_⟩
  obtain ⟨r, -, h2⟩ := List.mem_filterMap.mp hq
  obtain ⟨v, h3, rfl⟩ := Option.map_eq_some_iff.mp h2
  exact h.2 _ _ h3
def zok (i : Nat) (ls : zL) : Bool := match i with
  | 0 => true
  | j + 1 => match zfind j ls with
    | some v => v.category == 1
    | none => true
theorem zok_ne {i j : Nat} {ls : zL} {v : Value} (h : zok i ls = true) (hj : zfind j ls = some v) (e : j + 1 = i) : v.category = 1 := by
  subst e
  simpa [zok, hj] using h
theorem zLs.put1 {b nL i : Nat} {lsA : Array Slot} {ls : zL} {v : Value} (hk : zok i ls = true) (h : lv_has lsA nL ((i, zv b v) :: (zl b ls).filter (fun q => !(q.1 == i) && !(q.1 + 1 == i && q.2.category == 2)))) : zLs b nL lsA ((i, some v) :: ls) := by
  refine ⟨⟨h.1, h.2.1, fun q hq => by cases hq⟩, fun j w hj => ?_⟩
  by_cases e : j = i
  · subst e
    rw [zfind_cons_eq] at hj
    cases hj
    exact h.2.2 _ List.mem_cons_self
  · rw [zfind_cons_ne _ _ e] at hj
    refine h.2.2 (j, zv b w) (List.mem_cons_of_mem _ (List.mem_filter.mpr ⟨zl_mem hj, ?_⟩))
    by_cases e2 : j + 1 = i
    · have := zok_ne hk hj e2
      simp [e, zv_cat, this]
    · simp [e, e2]
theorem zLs.put2 {b nL i : Nat} {lsA : Array Slot} {ls : zL} {v : Value} (hk : zok i ls = true) (h : lv_has lsA nL ((i, zv b v) :: (zl b ls).filter (fun q => !(q.1 == i) && (!(q.1 == i + 1) && !(q.1 + 1 == i && q.2.category == 2))))) : zLs b nL lsA ((i, some v) :: (i + 1, none) :: ls) := by
  refine ⟨⟨h.1, h.2.1, fun q hq => by cases hq⟩, fun j w hj => ?_⟩
  by_cases e : j = i
  · subst e
    rw [zfind_cons_eq] at hj
    cases hj
    exact h.2.2 _ List.mem_cons_self
  · rw [zfind_cons_ne _ _ e] at hj
    by_cases e1 : j = i + 1
    · subst e1
      rw [zfind_cons_eq] at hj
      cases hj
    · rw [zfind_cons_ne _ _ e1] at hj
      refine h.2.2 (j, zv b w) (List.mem_cons_of_mem _ (List.mem_filter.mpr ⟨zl_mem hj, ?_⟩))
      by_cases e2 : j + 1 = i
      · have := zok_ne hk hj e2
        simp [e, e1, zv_cat, this]
      · simp [e, e1, e2]
/-- fewer locals, in another order -/
def zsub : zL → zL → Prop
  | [], _ => True
  | (i, o) :: r, ls => zfind i ls = o ∧ zsub r ls
theorem zsub_find {ls : zL} : ∀ {r : zL}, zsub r ls → ∀ {i : Nat} {v : Value}, zfind i r = some v → zfind i ls = some v := by
  intro r
  induction r with
  | nil => intro _ i v h; simp [zfind] at h
  | cons a r ih =>
    intro hs i v h
    obtain ⟨j, o⟩ := a
    by_cases e : i = j
    · subst e
      rw [zfind_cons_eq] at h
      exact hs.1.trans h
    · rw [zfind_cons_ne _ _ e] at h
      exact ih hs.2 h
def zargs : Nat → List Value → zL
  | _, [] => []
  | i, v :: vs => (i, some v) :: zargs (if v.category = 2 then i + 2 else i + 1) vs
theorem zargs_find {b : Nat} : ∀ {vs : List Value} {i j : Nat} {v : Value}, zfind j (zargs i vs) = some v → (j, zv b v) ∈ lv_args i (vs.map (zv b)) := by
  intro vs
  induction vs with
  | nil => intro i j v h; simp [zargs, zfind] at h
  | cons a r ih =>
    intro i j v h
    by_cases e : j = i
    · subst e
      rw [zargs, zfind_cons_eq] at h
      cases h
      exact List.mem_cons_self
    · rw [zargs, zfind_cons_ne _ _ e] at h
      refine List.mem_cons_of_mem _ ?_
      show (j, zv b v) ∈ lv_args (if (zv b a).category = 2 then i + 2 else i + 1) (r.map (zv b))
      rw [zv_cat]
      exact ih h

section ZW
variable {l : Launch} {g : zG} {M : zM} {R : Room} {Z : State → Prop} {QQ : List Frame → Array Value → State → State → Prop} {pc : Nat} {ls : zL} {st : List Value} {h : zH} {k n : Nat}
theorem zw_iconst {a : Int} {v : Int32} (hd : decode M.2.1 pc = .ok (.iconst a, 1)) (hv : Int32.ofInt a = v) (kk : WW l g M R Z QQ (pc + 1) ls (.int v :: st) h k n) : WW l g M R Z QQ pc ls st h k n := by
  intro p e s m args below meth c H locs lsA X hz hP hS hL
  exact lv_iconst X.1 X.2.1 hd hv (kk p e s m args below meth c H locs lsA X hz hP hS hL)
theorem zw_bipush {a : Int} {v : Int32} (hd : decode M.2.1 pc = .ok (.bipush a, 2)) (hv : (Int8.ofInt a).toInt32 = v) (kk : WW l g M R Z QQ (pc + 2) ls (.int v :: st) h k n) : WW l g M R Z QQ pc ls st h k n := by
  intro p e s m args below meth c H locs lsA X hz hP hS hL
  exact lv_bipush X.1 X.2.1 hd hv (kk p e s m args below meth c H locs lsA X hz hP hS hL)
theorem zw_sipush {a : Int} {v : Int32} (hd : decode M.2.1 pc = .ok (.sipush a, 3)) (hv : (Int16.ofInt a).toInt32 = v) (kk : WW l g M R Z QQ (pc + 3) ls (.int v :: st) h k n) : WW l g M R Z QQ pc ls st h k n := by
  intro p e s m args below meth c H locs lsA X hz hP hS hL
  exact lv_sipush X.1 X.2.1 hd hv (kk p e s m args below meth c H locs lsA X hz hP hS hL)
theorem zw_lconst {a : Fin 2} {v : Int64} (hd : decode M.2.1 pc = .ok (.lconst a, 1)) (hv : Int64.ofNat (a : Nat) = v) (kk : WW l g M R Z QQ (pc + 1) ls (.long v :: st) h k n) : WW l g M R Z QQ pc ls st h k n := by
  intro p e s m args below meth c H locs lsA X hz hP hS hL
  exact lv_lconst X.1 X.2.1 hd hv (kk p e s m args below meth c H locs lsA X hz hP hS hL)
theorem zw_null  (hd : decode M.2.1 pc = .ok (.aconst_null, 1))  (kk : WW l g M R Z QQ (pc + 1) ls (.null :: st) h k n) : WW l g M R Z QQ pc ls st h k n := by
  intro p e s m args below meth c H locs lsA X hz hP hS hL
  exact lv_null X.1 X.2.1 hd (kk p e s m args below meth c H locs lsA X hz hP hS hL)
theorem zw_ldc2 {idx : Nat} {v : Int64} (hd : decode M.2.1 pc = .ok (.ldc2_w idx, 3)) (hc : Cond.constantLong M.1.cls idx v ∈ zgw) (kk : WW l g M R Z QQ (pc + 3) ls (.long v :: st) h k n) : WW l g M R Z QQ pc ls st h k n := by
  intro p e s m args below meth c H locs lsA X hz hP hS hL
  exact lv_ldc2 X.1 X.2.1 X.2.2.2.2.1 (X.2.2.2.2.2.1 _ hc) hd (kk p e s m args below meth c H locs lsA X hz hP hS hL)
theorem zw_iload_n {a : Fin 4} {x : Int32} (hd : decode M.2.1 pc = .ok (.iload_n a, 1)) (hf : zfind (a : Nat) ls = some (.int x)) (kk : WW l g M R Z QQ (pc + 1) ls (.int x :: st) h k n) : WW l g M R Z QQ pc ls st h k n := by
  intro p e s m args below meth c H locs lsA X hz hP hS hL
  exact lv_iload_n X.1 X.2.1 hd rfl (hL.2 _ _ hf) (kk p e s m args below meth c H locs lsA X hz hP hS hL)
theorem zw_iload {i : Nat} {x : Int32} (hd : decode M.2.1 pc = .ok (.iload i, 2)) (hf : zfind i ls = some (.int x)) (kk : WW l g M R Z QQ (pc + 2) ls (.int x :: st) h k n) : WW l g M R Z QQ pc ls st h k n := by
  intro p e s m args below meth c H locs lsA X hz hP hS hL
  exact lv_iload X.1 X.2.1 hd (hL.2 _ _ hf) (kk p e s m args below meth c H locs lsA X hz hP hS hL)
theorem zw_lload_n {a : Fin 4} {x : Int64} (hd : decode M.2.1 pc = .ok (.lload_n a, 1)) (hf : zfind (a : Nat) ls = some (.long x)) (kk : WW l g M R Z QQ (pc + 1) ls (.long x :: st) h k n) : WW l g M R Z QQ pc ls st h k n := by
  intro p e s m args below meth c H locs lsA X hz hP hS hL
  exact lv_lload_n X.1 X.2.1 hd rfl (hL.2 _ _ hf) (kk p e s m args below meth c H locs lsA X hz hP hS hL)
theorem zw_lload {i : Nat} {x : Int64} (hd : decode M.2.1 pc = .ok (.lload i, 2)) (hf : zfind i ls = some (.long x)) (kk : WW l g M R Z QQ (pc + 2) ls (.long x :: st) h k n) : WW l g M R Z QQ pc ls st h k n := by
  intro p e s m args below meth c H locs lsA X hz hP hS hL
  exact lv_lload X.1 X.2.1 hd (hL.2 _ _ hf) (kk p e s m args below meth c H locs lsA X hz hP hS hL)
theorem zw_aload_n {a : Fin 4} {x : Nat} (hd : decode M.2.1 pc = .ok (.aload_n a, 1)) (hf : zfind (a : Nat) ls = some (.ref x)) (kk : WW l g M R Z QQ (pc + 1) ls (.ref x :: st) h k n) : WW l g M R Z QQ pc ls st h k n := by
  intro p e s m args below meth c H locs lsA X hz hP hS hL
  exact lv_aload_n X.1 X.2.1 hd rfl (hL.2 _ _ hf) (kk p e s m args below meth c H locs lsA X hz hP hS hL)
theorem zw_aload {i : Nat} {x : Nat} (hd : decode M.2.1 pc = .ok (.aload i, 2)) (hf : zfind i ls = some (.ref x)) (kk : WW l g M R Z QQ (pc + 2) ls (.ref x :: st) h k n) : WW l g M R Z QQ pc ls st h k n := by
  intro p e s m args below meth c H locs lsA X hz hP hS hL
  exact lv_aload X.1 X.2.1 hd (hL.2 _ _ hf) (kk p e s m args below meth c H locs lsA X hz hP hS hL)
theorem zw_aloadS_n {a : Fin 4} {x : Nat} (hd : decode M.2.1 pc = .ok (.aload_n a, 1)) (hf : zfind (a : Nat) ls = some (.retAddr x)) (kk : WW l g M R Z QQ (pc + 1) ls (.retAddr x :: st) h k n) : WW l g M R Z QQ pc ls st h k n := by
  intro p e s m args below meth c H locs lsA X hz hP hS hL
  exact lv_aload_n X.1 X.2.1 hd rfl (hL.2 _ _ hf) (kk p e s m args below meth c H locs lsA X hz hP hS hL)
theorem zw_istore_n {a : Fin 4} {x : Int32} (hd : decode M.2.1 pc = .ok (.istore_n a, 1)) (hn : (a : Nat) < M.2.2.1) (hk : zok (a : Nat) ls = true) (kk : WW l g M R Z QQ (pc + 1) (((a : Nat), some (.int x)) :: ls) st h k n) : WW l g M R Z QQ pc ls (.int x :: st) h k n := by
  intro p e s m args below meth c H locs lsA X hz hP hS hL
  refine lv_istore_n X.1 X.2.1 hd rfl hL.has hn rfl (fun ls2 hl2 => ?_)
  exact kk p e s m args below meth c H locs ls2 X hz hP hS (zLs.put1 (v := .int x) hk hl2)
theorem zw_istore {i : Nat} {x : Int32} (hd : decode M.2.1 pc = .ok (.istore i, 2)) (hn : i < M.2.2.1) (hk : zok i ls = true) (kk : WW l g M R Z QQ (pc + 2) ((i, some (.int x)) :: ls) st h k n) : WW l g M R Z QQ pc ls (.int x :: st) h k n := by
  intro p e s m args below meth c H locs lsA X hz hP hS hL
  refine lv_istore X.1 X.2.1 hd hL.has hn rfl (fun ls2 hl2 => ?_)
  exact kk p e s m args below meth c H locs ls2 X hz hP hS (zLs.put1 (v := .int x) hk hl2)
theorem zw_lstore_n {a : Fin 4} {x : Int64} (hd : decode M.2.1 pc = .ok (.lstore_n a, 1)) (hn : (a : Nat) + 1 < M.2.2.1) (hk : zok (a : Nat) ls = true) (kk : WW l g M R Z QQ (pc + 1) (((a : Nat), some (.long x)) :: ((a : Nat) + 1, none) :: ls) st h k n) : WW l g M R Z QQ pc ls (.long x :: st) h k n := by
  intro p e s m args below meth c H locs lsA X hz hP hS hL
  refine lv_lstore_n X.1 X.2.1 hd rfl hL.has hn rfl (fun ls2 hl2 => ?_)
  exact kk p e s m args below meth c H locs ls2 X hz hP hS (zLs.put2 (v := .long x) hk hl2)
theorem zw_lstore {i : Nat} {x : Int64} (hd : decode M.2.1 pc = .ok (.lstore i, 2)) (hn : i + 1 < M.2.2.1) (hk : zok i ls = true) (kk : WW l g M R Z QQ (pc + 2) ((i, some (.long x)) :: (i + 1, none) :: ls) st h k n) : WW l g M R Z QQ pc ls (.long x :: st) h k n := by
  intro p e s m args below meth c H locs lsA X hz hP hS hL
  refine lv_lstore X.1 X.2.1 hd hL.has hn rfl (fun ls2 hl2 => ?_)
  exact kk p e s m args below meth c H locs ls2 X hz hP hS (zLs.put2 (v := .long x) hk hl2)
theorem zw_astore_n {a : Fin 4} {x : Nat} (hd : decode M.2.1 pc = .ok (.astore_n a, 1)) (hn : (a : Nat) < M.2.2.1) (hk : zok (a : Nat) ls = true) (kk : WW l g M R Z QQ (pc + 1) (((a : Nat), some (.ref x)) :: ls) st h k n) : WW l g M R Z QQ pc ls (.ref x :: st) h k n := by
  intro p e s m args below meth c H locs lsA X hz hP hS hL
  refine lv_astore_n X.1 X.2.1 hd rfl hL.has hn rfl (fun ls2 hl2 => ?_)
  exact kk p e s m args below meth c H locs ls2 X hz hP hS (zLs.put1 (v := .ref x) hk hl2)
theorem zw_astore {i : Nat} {x : Nat} (hd : decode M.2.1 pc = .ok (.astore i, 2)) (hn : i < M.2.2.1) (hk : zok i ls = true) (kk : WW l g M R Z QQ (pc + 2) ((i, some (.ref x)) :: ls) st h k n) : WW l g M R Z QQ pc ls (.ref x :: st) h k n := by
  intro p e s m args below meth c H locs lsA X hz hP hS hL
  refine lv_astore X.1 X.2.1 hd hL.has hn rfl (fun ls2 hl2 => ?_)
  exact kk p e s m args below meth c H locs ls2 X hz hP hS (zLs.put1 (v := .ref x) hk hl2)
theorem zw_iinc {i : Nat} {a : Int} {x v : Int32} (hd : decode M.2.1 pc = .ok (.iinc i a, 3)) (hf : zfind i ls = some (.int x)) (hv : x + Int32.ofInt a = v) (hn : i < M.2.2.1) (hk : zok i ls = true) (kk : WW l g M R Z QQ (pc + 3) ((i, some (.int v)) :: ls) st h k n) : WW l g M R Z QQ pc ls st h k n := by
  intro p e s m args below meth c H locs lsA X hz hP hS hL
  obtain ⟨j, hj⟩ := List.getElem?_of_mem (zl_mem (b := g.1) hf)
  refine lv_iinc X.1 X.2.1 hd hL.has (k := j) hj hv hn rfl (fun ls2 hl2 => ?_)
  exact kk p e s m args below meth c H locs ls2 X hz hP hS (zLs.put1 (v := .int v) hk hl2)
theorem zw_iinc1 {i : Nat} {x : Int32} (hd : decode M.2.1 pc = .ok (.iinc i 1, 3)) (hf : zfind i ls = some (.int x)) (hn : i < M.2.2.1) (hk : zok i ls = true) (kk : WW l g M R Z QQ (pc + 3) ((i, some (.int (x + 1))) :: ls) st h k n) : WW l g M R Z QQ pc ls st h k n := zw_iinc hd hf rfl hn hk kk
theorem zw_ls {ls2 : zL} (hs : zsub ls2 ls) (kk : WW l g M R Z QQ pc ls2 st h k n) : WW l g M R Z QQ pc ls st h k n := by
  intro p e s m args below meth c H locs lsA X hz hP hS hL
  exact kk p e s m args below meth c H locs lsA X hz hP hS ⟨hL.1, fun i v hi => hL.2 i v (zsub_find hs hi)⟩
theorem zw_iadd {x y : Int32} (hd : decode M.2.1 pc = .ok (.iadd, 1))  (kk : WW l g M R Z QQ (pc + 1) ls (.int (x + y) :: st) h k n) : WW l g M R Z QQ pc ls (.int y :: .int x :: st) h k n := by
  intro p e s m args below meth c H locs lsA X hz hP hS hL
  exact lv_iadd X.1 X.2.1 hd (kk p e s m args below meth c H locs lsA X hz hP hS hL)
theorem zw_isub {x y : Int32} (hd : decode M.2.1 pc = .ok (.isub, 1))  (kk : WW l g M R Z QQ (pc + 1) ls (.int (x - y) :: st) h k n) : WW l g M R Z QQ pc ls (.int y :: .int x :: st) h k n := by
  intro p e s m args below meth c H locs lsA X hz hP hS hL
  exact lv_isub X.1 X.2.1 hd (kk p e s m args below meth c H locs lsA X hz hP hS hL)
theorem zw_imul {x y : Int32} (hd : decode M.2.1 pc = .ok (.imul, 1))  (kk : WW l g M R Z QQ (pc + 1) ls (.int (x * y) :: st) h k n) : WW l g M R Z QQ pc ls (.int y :: .int x :: st) h k n := by
  intro p e s m args below meth c H locs lsA X hz hP hS hL
  exact lv_imul X.1 X.2.1 hd (kk p e s m args below meth c H locs lsA X hz hP hS hL)
theorem zw_iand {x y : Int32} (hd : decode M.2.1 pc = .ok (.iand, 1))  (kk : WW l g M R Z QQ (pc + 1) ls (.int (x &&& y) :: st) h k n) : WW l g M R Z QQ pc ls (.int y :: .int x :: st) h k n := by
  intro p e s m args below meth c H locs lsA X hz hP hS hL
  exact lv_iand X.1 X.2.1 hd (kk p e s m args below meth c H locs lsA X hz hP hS hL)
theorem zw_ior {x y : Int32} (hd : decode M.2.1 pc = .ok (.ior, 1))  (kk : WW l g M R Z QQ (pc + 1) ls (.int (x ||| y) :: st) h k n) : WW l g M R Z QQ pc ls (.int y :: .int x :: st) h k n := by
  intro p e s m args below meth c H locs lsA X hz hP hS hL
  exact lv_ior X.1 X.2.1 hd (kk p e s m args below meth c H locs lsA X hz hP hS hL)
theorem zw_ixor {x y : Int32} (hd : decode M.2.1 pc = .ok (.ixor, 1))  (kk : WW l g M R Z QQ (pc + 1) ls (.int (x ^^^ y) :: st) h k n) : WW l g M R Z QQ pc ls (.int y :: .int x :: st) h k n := by
  intro p e s m args below meth c H locs lsA X hz hP hS hL
  exact lv_ixor X.1 X.2.1 hd (kk p e s m args below meth c H locs lsA X hz hP hS hL)
theorem zw_ishl {x y : Int32} (hd : decode M.2.1 pc = .ok (.ishl, 1))  (kk : WW l g M R Z QQ (pc + 1) ls (.int (x <<< (y &&& 31)) :: st) h k n) : WW l g M R Z QQ pc ls (.int y :: .int x :: st) h k n := by
  intro p e s m args below meth c H locs lsA X hz hP hS hL
  exact lv_ishl X.1 X.2.1 hd (kk p e s m args below meth c H locs lsA X hz hP hS hL)
theorem zw_ishr {x y : Int32} (hd : decode M.2.1 pc = .ok (.ishr, 1))  (kk : WW l g M R Z QQ (pc + 1) ls (.int (x >>> (y &&& 31)) :: st) h k n) : WW l g M R Z QQ pc ls (.int y :: .int x :: st) h k n := by
  intro p e s m args below meth c H locs lsA X hz hP hS hL
  exact lv_ishr X.1 X.2.1 hd (kk p e s m args below meth c H locs lsA X hz hP hS hL)
theorem zw_ladd {x y : Int64} (hd : decode M.2.1 pc = .ok (.ladd, 1))  (kk : WW l g M R Z QQ (pc + 1) ls (.long (x + y) :: st) h k n) : WW l g M R Z QQ pc ls (.long y :: .long x :: st) h k n := by
  intro p e s m args below meth c H locs lsA X hz hP hS hL
  exact lv_ladd X.1 X.2.1 hd (kk p e s m args below meth c H locs lsA X hz hP hS hL)
theorem zw_lsub {x y : Int64} (hd : decode M.2.1 pc = .ok (.lsub, 1))  (kk : WW l g M R Z QQ (pc + 1) ls (.long (x - y) :: st) h k n) : WW l g M R Z QQ pc ls (.long y :: .long x :: st) h k n := by
  intro p e s m args below meth c H locs lsA X hz hP hS hL
  exact lv_lsub X.1 X.2.1 hd (kk p e s m args below meth c H locs lsA X hz hP hS hL)
theorem zw_land {x y : Int64} (hd : decode M.2.1 pc = .ok (.land, 1))  (kk : WW l g M R Z QQ (pc + 1) ls (.long (x &&& y) :: st) h k n) : WW l g M R Z QQ pc ls (.long y :: .long x :: st) h k n := by
  intro p e s m args below meth c H locs lsA X hz hP hS hL
  exact lv_land X.1 X.2.1 hd (kk p e s m args below meth c H locs lsA X hz hP hS hL)
theorem zw_lor {x y : Int64} (hd : decode M.2.1 pc = .ok (.lor, 1))  (kk : WW l g M R Z QQ (pc + 1) ls (.long (x ||| y) :: st) h k n) : WW l g M R Z QQ pc ls (.long y :: .long x :: st) h k n := by
  intro p e s m args below meth c H locs lsA X hz hP hS hL
  exact lv_lor X.1 X.2.1 hd (kk p e s m args below meth c H locs lsA X hz hP hS hL)
theorem zw_lxor {x y : Int64} (hd : decode M.2.1 pc = .ok (.lxor, 1))  (kk : WW l g M R Z QQ (pc + 1) ls (.long (x ^^^ y) :: st) h k n) : WW l g M R Z QQ pc ls (.long y :: .long x :: st) h k n := by
  intro p e s m args below meth c H locs lsA X hz hP hS hL
  exact lv_lxor X.1 X.2.1 hd (kk p e s m args below meth c H locs lsA X hz hP hS hL)
theorem zw_idiv {x y : Int32} (hd : decode M.2.1 pc = .ok (.idiv, 1)) (hne : ¬ y = 0) (kk : WW l g M R Z QQ (pc + 1) ls (.int (x / y) :: st) h k n) : WW l g M R Z QQ pc ls (.int y :: .int x :: st) h k n := by
  intro p e s m args below meth c H locs lsA X hz hP hS hL
  exact lv_idiv X.1 X.2.1 hd hne (kk p e s m args below meth c H locs lsA X hz hP hS hL)
theorem zw_irem {x y : Int32} (hd : decode M.2.1 pc = .ok (.irem, 1)) (hne : ¬ y = 0) (kk : WW l g M R Z QQ (pc + 1) ls (.int (x - x / y * y) :: st) h k n) : WW l g M R Z QQ pc ls (.int y :: .int x :: st) h k n := by
  intro p e s m args below meth c H locs lsA X hz hP hS hL
  exact lv_irem X.1 X.2.1 hd hne (kk p e s m args below meth c H locs lsA X hz hP hS hL)
theorem zw_lneg {x : Int64} (hd : decode M.2.1 pc = .ok (.lneg, 1))  (kk : WW l g M R Z QQ (pc + 1) ls (.long (-x) :: st) h k n) : WW l g M R Z QQ pc ls (.long x :: st) h k n := by
  intro p e s m args below meth c H locs lsA X hz hP hS hL
  exact lv_lneg X.1 X.2.1 hd (kk p e s m args below meth c H locs lsA X hz hP hS hL)
theorem zw_l2i {x : Int64} (hd : decode M.2.1 pc = .ok (.l2i, 1))  (kk : WW l g M R Z QQ (pc + 1) ls (.int x.toInt32 :: st) h k n) : WW l g M R Z QQ pc ls (.long x :: st) h k n := by
  intro p e s m args below meth c H locs lsA X hz hP hS hL
  exact lv_l2i X.1 X.2.1 hd rfl (kk p e s m args below meth c H locs lsA X hz hP hS hL)
theorem zw_lushr {x : Int64} {y : Int32} (hd : decode M.2.1 pc = .ok (.lushr, 1))  (kk : WW l g M R Z QQ (pc + 1) ls (.long (x.toUInt64 >>> (y.toInt64.toUInt64 &&& Int64.toUInt64 63)).toInt64 :: st) h k n) : WW l g M R Z QQ pc ls (.int y :: .long x :: st) h k n := by
  intro p e s m args below meth c H locs lsA X hz hP hS hL
  exact lv_lushr X.1 X.2.1 hd rfl (kk p e s m args below meth c H locs lsA X hz hP hS hL)
theorem zw_lshl {x : Int64} {y : Int32} (hd : decode M.2.1 pc = .ok (.lshl, 1))  (kk : WW l g M R Z QQ (pc + 1) ls (.long (x <<< (y.toInt64 &&& 63)) :: st) h k n) : WW l g M R Z QQ pc ls (.int y :: .long x :: st) h k n := by
  intro p e s m args below meth c H locs lsA X hz hP hS hL
  exact lv_lshl X.1 X.2.1 hd rfl (kk p e s m args below meth c H locs lsA X hz hP hS hL)
theorem zw_lcmp {x y : Int64} (hd : decode M.2.1 pc = .ok (.lcmp, 1))  (kk : WW l g M R Z QQ (pc + 1) ls (.int (lg_cmp x y) :: st) h k n) : WW l g M R Z QQ pc ls (.long y :: .long x :: st) h k n := by
  intro p e s m args below meth c H locs lsA X hz hP hS hL
  exact W.lcmp X.1 X.2.1 hd (kk p e s m args below meth c H locs lsA X hz hP hS hL)
theorem zw_dup {v : Value} (hd : decode M.2.1 pc = .ok (.dup, 1)) (hc : v.category = 1) (kk : WW l g M R Z QQ (pc + 1) ls (v :: v :: st) h k n) : WW l g M R Z QQ pc ls (v :: st) h k n := by
  intro p e s m args below meth c H locs lsA X hz hP hS hL
  exact lv_dup X.1 X.2.1 hd (by rw [zv_cat]; exact hc) (kk p e s m args below meth c H locs lsA X hz hP hS hL)
theorem zw_pop {v : Value} (hd : decode M.2.1 pc = .ok (.pop, 1)) (hc : v.category = 1) (kk : WW l g M R Z QQ (pc + 1) ls st h k n) : WW l g M R Z QQ pc ls (v :: st) h k n := by
  intro p e s m args below meth c H locs lsA X hz hP hS hL
  exact lv_pop X.1 X.2.1 hd (by rw [zv_cat]; exact hc) (kk p e s m args below meth c H locs lsA X hz hP hS hL)
theorem zw_dup2 {v w : Value} (hd : decode M.2.1 pc = .ok (.dup2, 1)) (hc : v.category = 1) (hc2 : w.category = 1) (kk : WW l g M R Z QQ (pc + 1) ls (v :: w :: v :: w :: st) h k n) : WW l g M R Z QQ pc ls (v :: w :: st) h k n := by
  intro p e s m args below meth c H locs lsA X hz hP hS hL
  exact lv_dup2_11 X.1 X.2.1 hd (by rw [zv_cat]; exact hc) (by rw [zv_cat]; exact hc2) (kk p e s m args below meth c H locs lsA X hz hP hS hL)
theorem zw_if_eq {x : Int32} {off : Int} (tgt : Nat) (hd : decode M.2.1 pc = .ok (.ifCond .eq off, 3)) (ht : (pc : Int) + off = (tgt : Int)) (kt : (x = 0) → WW l g M R Z QQ tgt ls st h k n) (kf : (¬ x = 0) → WW l g M R Z QQ (pc + 3) ls st h k n) : WW l g M R Z QQ pc ls (.int x :: st) h k n := by
  intro p e s m args below meth c H locs lsA X hz hP hS hL
  exact lv_if_eq X.1 X.2.1 hd ht (fun q => kt q p e s m args below meth c H locs lsA X hz hP hS hL) (fun q => kf q p e s m args below meth c H locs lsA X hz hP hS hL)
theorem zw_icmp_eq {x y : Int32} {off : Int} (tgt : Nat) (hd : decode M.2.1 pc = .ok (.if_icmp .eq off, 3)) (ht : (pc : Int) + off = (tgt : Int)) (kt : (x = y) → WW l g M R Z QQ tgt ls st h k n) (kf : (¬ x = y) → WW l g M R Z QQ (pc + 3) ls st h k n) : WW l g M R Z QQ pc ls (.int y :: .int x :: st) h k n := by
  intro p e s m args below meth c H locs lsA X hz hP hS hL
  exact lv_icmp_eq X.1 X.2.1 hd ht (fun q => kt q p e s m args below meth c H locs lsA X hz hP hS hL) (fun q => kf q p e s m args below meth c H locs lsA X hz hP hS hL)
theorem zw_if_ne {x : Int32} {off : Int} (tgt : Nat) (hd : decode M.2.1 pc = .ok (.ifCond .ne off, 3)) (ht : (pc : Int) + off = (tgt : Int)) (kt : (x ≠ 0) → WW l g M R Z QQ tgt ls st h k n) (kf : (x = 0) → WW l g M R Z QQ (pc + 3) ls st h k n) : WW l g M R Z QQ pc ls (.int x :: st) h k n := by
  intro p e s m args below meth c H locs lsA X hz hP hS hL
  exact lv_if_ne X.1 X.2.1 hd ht (fun q => kt q p e s m args below meth c H locs lsA X hz hP hS hL) (fun q => kf q p e s m args below meth c H locs lsA X hz hP hS hL)
theorem zw_icmp_ne {x y : Int32} {off : Int} (tgt : Nat) (hd : decode M.2.1 pc = .ok (.if_icmp .ne off, 3)) (ht : (pc : Int) + off = (tgt : Int)) (kt : (x ≠ y) → WW l g M R Z QQ tgt ls st h k n) (kf : (x = y) → WW l g M R Z QQ (pc + 3) ls st h k n) : WW l g M R Z QQ pc ls (.int y :: .int x :: st) h k n := by
  intro p e s m args below meth c H locs lsA X hz hP hS hL
  exact lv_icmp_ne X.1 X.2.1 hd ht (fun q => kt q p e s m args below meth c H locs lsA X hz hP hS hL) (fun q => kf q p e s m args below meth c H locs lsA X hz hP hS hL)
theorem zw_if_lt {x : Int32} {off : Int} (tgt : Nat) (hd : decode M.2.1 pc = .ok (.ifCond .lt off, 3)) (ht : (pc : Int) + off = (tgt : Int)) (kt : (x < 0) → WW l g M R Z QQ tgt ls st h k n) (kf : (¬ x < 0) → WW l g M R Z QQ (pc + 3) ls st h k n) : WW l g M R Z QQ pc ls (.int x :: st) h k n := by
  intro p e s m args below meth c H locs lsA X hz hP hS hL
  exact lv_if_lt X.1 X.2.1 hd ht (fun q => kt q p e s m args below meth c H locs lsA X hz hP hS hL) (fun q => kf q p e s m args below meth c H locs lsA X hz hP hS hL)
theorem zw_icmp_lt {x y : Int32} {off : Int} (tgt : Nat) (hd : decode M.2.1 pc = .ok (.if_icmp .lt off, 3)) (ht : (pc : Int) + off = (tgt : Int)) (kt : (x < y) → WW l g M R Z QQ tgt ls st h k n) (kf : (¬ x < y) → WW l g M R Z QQ (pc + 3) ls st h k n) : WW l g M R Z QQ pc ls (.int y :: .int x :: st) h k n := by
  intro p e s m args below meth c H locs lsA X hz hP hS hL
  exact lv_icmp_lt X.1 X.2.1 hd ht (fun q => kt q p e s m args below meth c H locs lsA X hz hP hS hL) (fun q => kf q p e s m args below meth c H locs lsA X hz hP hS hL)
theorem zw_if_ge {x : Int32} {off : Int} (tgt : Nat) (hd : decode M.2.1 pc = .ok (.ifCond .ge off, 3)) (ht : (pc : Int) + off = (tgt : Int)) (kt : (0 ≤ x) → WW l g M R Z QQ tgt ls st h k n) (kf : (¬ 0 ≤ x) → WW l g M R Z QQ (pc + 3) ls st h k n) : WW l g M R Z QQ pc ls (.int x :: st) h k n := by
  intro p e s m args below meth c H locs lsA X hz hP hS hL
  exact lv_if_ge X.1 X.2.1 hd ht (fun q => kt q p e s m args below meth c H locs lsA X hz hP hS hL) (fun q => kf q p e s m args below meth c H locs lsA X hz hP hS hL)
theorem zw_icmp_ge {x y : Int32} {off : Int} (tgt : Nat) (hd : decode M.2.1 pc = .ok (.if_icmp .ge off, 3)) (ht : (pc : Int) + off = (tgt : Int)) (kt : (y ≤ x) → WW l g M R Z QQ tgt ls st h k n) (kf : (¬ y ≤ x) → WW l g M R Z QQ (pc + 3) ls st h k n) : WW l g M R Z QQ pc ls (.int y :: .int x :: st) h k n := by
  intro p e s m args below meth c H locs lsA X hz hP hS hL
  exact lv_icmp_ge X.1 X.2.1 hd ht (fun q => kt q p e s m args below meth c H locs lsA X hz hP hS hL) (fun q => kf q p e s m args below meth c H locs lsA X hz hP hS hL)
theorem zw_if_gt {x : Int32} {off : Int} (tgt : Nat) (hd : decode M.2.1 pc = .ok (.ifCond .gt off, 3)) (ht : (pc : Int) + off = (tgt : Int)) (kt : (0 < x) → WW l g M R Z QQ tgt ls st h k n) (kf : (¬ 0 < x) → WW l g M R Z QQ (pc + 3) ls st h k n) : WW l g M R Z QQ pc ls (.int x :: st) h k n := by
  intro p e s m args below meth c H locs lsA X hz hP hS hL
  exact lv_if_gt X.1 X.2.1 hd ht (fun q => kt q p e s m args below meth c H locs lsA X hz hP hS hL) (fun q => kf q p e s m args below meth c H locs lsA X hz hP hS hL)
theorem zw_icmp_gt {x y : Int32} {off : Int} (tgt : Nat) (hd : decode M.2.1 pc = .ok (.if_icmp .gt off, 3)) (ht : (pc : Int) + off = (tgt : Int)) (kt : (y < x) → WW l g M R Z QQ tgt ls st h k n) (kf : (¬ y < x) → WW l g M R Z QQ (pc + 3) ls st h k n) : WW l g M R Z QQ pc ls (.int y :: .int x :: st) h k n := by
  intro p e s m args below meth c H locs lsA X hz hP hS hL
  exact lv_icmp_gt X.1 X.2.1 hd ht (fun q => kt q p e s m args below meth c H locs lsA X hz hP hS hL) (fun q => kf q p e s m args below meth c H locs lsA X hz hP hS hL)
theorem zw_if_le {x : Int32} {off : Int} (tgt : Nat) (hd : decode M.2.1 pc = .ok (.ifCond .le off, 3)) (ht : (pc : Int) + off = (tgt : Int)) (kt : (x ≤ 0) → WW l g M R Z QQ tgt ls st h k n) (kf : (¬ x ≤ 0) → WW l g M R Z QQ (pc + 3) ls st h k n) : WW l g M R Z QQ pc ls (.int x :: st) h k n := by
  intro p e s m args below meth c H locs lsA X hz hP hS hL
  exact lv_if_le X.1 X.2.1 hd ht (fun q => kt q p e s m args below meth c H locs lsA X hz hP hS hL) (fun q => kf q p e s m args below meth c H locs lsA X hz hP hS hL)
theorem zw_icmp_le {x y : Int32} {off : Int} (tgt : Nat) (hd : decode M.2.1 pc = .ok (.if_icmp .le off, 3)) (ht : (pc : Int) + off = (tgt : Int)) (kt : (x ≤ y) → WW l g M R Z QQ tgt ls st h k n) (kf : (¬ x ≤ y) → WW l g M R Z QQ (pc + 3) ls st h k n) : WW l g M R Z QQ pc ls (.int y :: .int x :: st) h k n := by
  intro p e s m args below meth c H locs lsA X hz hP hS hL
  exact lv_icmp_le X.1 X.2.1 hd ht (fun q => kt q p e s m args below meth c H locs lsA X hz hP hS hL) (fun q => kf q p e s m args below meth c H locs lsA X hz hP hS hL)
theorem zw_goto {off : Int} (tgt : Nat) (hd : decode M.2.1 pc = .ok (.goto off, 3)) (ht : (pc : Int) + off = (tgt : Int)) (kk : WW l g M R Z QQ tgt ls st h k n) : WW l g M R Z QQ pc ls st h k n := by
  intro p e s m args below meth c H locs lsA X hz hP hS hL
  exact lv_goto X.1 X.2.1 hd ht (kk p e s m args below meth c H locs lsA X hz hP hS hL)
theorem zw_ifnonnull {x : Nat} {off : Int} (tgt : Nat) (hd : decode M.2.1 pc = .ok (.ifnonnull off, 3)) (ht : (pc : Int) + off = (tgt : Int)) (kk : WW l g M R Z QQ tgt ls st h k n) : WW l g M R Z QQ pc ls (.ref x :: st) h k n := by
  intro p e s m args below meth c H locs lsA X hz hP hS hL
  exact lv_ifnonnull X.1 X.2.1 hd ht (kk p e s m args below meth c H locs lsA X hz hP hS hL)
theorem zw_ifnull {x : Nat} {off : Int} (hd : decode M.2.1 pc = .ok (.ifnull off, 3)) (kk : WW l g M R Z QQ (pc + 3) ls st h k n) : WW l g M R Z QQ pc ls (.ref x :: st) h k n := by
  intro p e s m args below meth c H locs lsA X hz hP hS hL
  exact lv_ifnull X.1 X.2.1 hd (kk p e s m args below meth c H locs lsA X hz hP hS hL)
theorem zw_tabOut {dflt lo hi : Int} {offs : Array Int} {len : Nat} {x : Int32} (tgt : Nat) (hd : decode M.2.1 pc = .ok (.tableswitch dflt lo hi offs, len)) (h1 : x.toInt < lo ∨ hi < x.toInt) (ht : (pc : Int) + dflt = (tgt : Int)) (kk : WW l g M R Z QQ tgt ls st h k n) : WW l g M R Z QQ pc ls (.int x :: st) h k n := by
  intro p e s m args below meth c H locs lsA X hz hP hS hL
  exact lv_tableOut X.1 X.2.1 hd h1 ht (kk p e s m args below meth c H locs lsA X hz hP hS hL)
theorem zw_tabIn {dflt lo hi : Int} {offs : Array Int} {len : Nat} {x : Int32} {off : Int} (tgt : Nat) (hd : decode M.2.1 pc = .ok (.tableswitch dflt lo hi offs, len)) (h1 : ¬ x.toInt < lo) (h2 : ¬ hi < x.toInt) (ho : offs[(x.toInt - lo).toNat]? = some off) (ht : (pc : Int) + off = (tgt : Int)) (kk : WW l g M R Z QQ tgt ls st h k n) : WW l g M R Z QQ pc ls (.int x :: st) h k n := by
  intro p e s m args below meth c H locs lsA X hz hP hS hL
  exact lv_tableIn X.1 X.2.1 hd h1 h2 ho ht (kk p e s m args below meth c H locs lsA X hz hP hS hL)
theorem zw_look {dflt : Int} {ps : Array (Int × Int)} {len : Nat} {x : Int32} {off : Int} (tgt : Nat) (hd : decode M.2.1 pc = .ok (.lookupswitch dflt ps, len)) (hp : (ps.toList.zip (ps.toList.drop 1)).all (fun (a, next) => a.1 < next.1) = true) (ho : Op.lookupswitch.offset ps.toList dflt x.toInt = off) (ht : (pc : Int) + off = (tgt : Int)) (kk : WW l g M R Z QQ tgt ls st h k n) : WW l g M R Z QQ pc ls (.int x :: st) h k n := by
  intro p e s m args below meth c H locs lsA X hz hP hS hL
  exact lv_lookup X.1 X.2.1 hd hp ho ht (kk p e s m args below meth c H locs lsA X hz hP hS hL)
/-- a field that an instruction names: entry idx of the class own's pool is field a of class number ci -/
def zfl (own : String) (idx ci a : Nat) (fin : Bool) (ty : FieldType) : Prop := ∃ (C : String) (T : u_T) (N : Nat) (Y : Nat → FieldType), zcl[ci]? = some (C, T, N) ∧ a < N ∧ (∀ w ∈ u_ws C T N, w ∈ zgw) ∧ (∀ k, k < N → parseFieldDescriptor (T k).2.2.1 = some (Y k)) ∧ (∀ a, a < N → ∀ b, b < N → a ≠ b → (T a).2.1 ≠ (T b).2.1) ∧ (T a).1 = C ∧ (T a).2.2.2 = fin ∧ Y a = ty ∧
  (Cond.fieldLink own idx C (T a).2.1 (T a).2.2.1 ∈ zgw ∨ Cond.fieldLinkNest own idx C (T a).2.1 (T a).2.2.1 "SweptFloors" ∈ znest)
theorem zw_get {idx ci a q : Nat} {fin : Bool} {ty : FieldType} {v : Value} {fs : List Value} (hd : decode M.2.1 pc = .ok (.getfield idx, 3)) (hl : zfl M.1.cls idx ci a fin ty) (hq : h[q]? = some (.inr (ci, fs))) (hv : fs[a]? = some v) (kk : WW l g M R Z QQ (pc + 3) ls (v :: st) h k n) : WW l g M R Z QQ pc ls (.ref q :: st) h k n := by
  intro p e s m args below meth c H locs lsA X hz hP hS hL
  obtain ⟨C, T, N, Y, h1, h2, h3, h4, h5, h6, h7, h8, h9⟩ := hl
  have hv2 : (fs.map (zv g.1))[a]? = some (zv g.1 v) := by rw [List.getElem?_map, hv]; rfl
  have hsame : ∀ x, s.fieldFound? (T a).1 (T a).2.1 (T a).2.2.1 = some x → s.fieldFound? C (T a).2.1 (T a).2.2.1 = some x := by rw [h6]; exact fun _ h => h
  rcases h9 with h9 | h9
  · exact va_get X.1 X.2.1 X.2.2.2.2.2.1 h3 X.2.2.2.2.1 X.2.2.2.2.2.2.2.2.2.1.1 hP q (zW_get hq) h1 a h2 (X.2.2.2.2.2.1 _ h9) hsame hv2 hd (kk p e s m args below meth c H locs lsA X hz hP hS hL)
  · exact va_getN X.1 X.2.1 X.2.2.2.2.2.1 h3 X.2.2.2.2.1 X.2.2.2.2.2.2.2.2.2.1.1 hP q (zW_get hq) h1 a h2 (va_Nw.use rfl (X.2.2.2.2.2.2.2.2.2.1.2.1 _ h9)) hsame hv2 hd (kk p e s m args below meth c H locs lsA X hz hP hS hL)
theorem zw_put {idx ci a q : Nat} {ty : FieldType} {v : Value} {fs : List Value} (hd : decode M.2.1 pc = .ok (.putfield idx, 3)) (hl : zfl M.1.cls idx ci a false ty) (hq : h[q]? = some (.inr (ci, fs))) (hn : narrow ty (zv g.1 v) = zv g.1 v) (hfit : fits ty (zv g.1 v) = true) (hlen : a < fs.length) (kk : WW l g M R Z QQ (pc + 3) ls st (h.set q (.inr (ci, fs.set a v))) k n) : WW l g M R Z QQ pc ls (v :: .ref q :: st) h k n := by
  intro p e s m args below meth c H locs lsA X hz hP hS hL
  obtain ⟨C, T, N, Y, h1, h2, h3, h4, h5, h6, h7, h8, h9⟩ := hl
  have hsame : ∀ x, s.fieldFound? (T a).1 (T a).2.1 (T a).2.2.1 = some x → s.fieldFound? C (T a).2.1 (T a).2.2.1 = some x := by rw [h6]; exact fun _ h => h
  have hset : (g.1 + q, Sum.inr (ci, (fs.map (zv g.1)).set a (zv g.1 v))) = (g.1 + q, zE g.1 g.2.1 (.inr (ci, fs.set a v))) := by simp [zE, List.map_set]
  have hty : parseFieldDescriptor (T a).2.2.1 = some ty := by rw [h4 a h2, h8]
  rcases h9 with h9 | h9
  · refine va_put X.1 X.2.1 X.2.2.2.2.2.1 h3 Y h4 h5 X.2.2.2.2.1 X.2.2.2.2.2.2.2.2.2.1.1 hP zW_D hS q (zW_get hq) h1 a h2 (X.2.2.2.2.2.1 _ h9) hsame h7 hty hn hfit (by simpa using hlen) hd (fun H1 locs1 hP1 hD1 hS1 => ?_)
    rw [hset, zW_set] at hP1
    exact kk p e s m args below meth c H1 locs1 lsA X (by rw [List.length_set]; exact hz) hP1 hS1 hL
  · refine va_putN X.1 X.2.1 X.2.2.2.2.2.1 h3 Y h4 h5 X.2.2.2.2.1 X.2.2.2.2.2.2.2.2.2.1.1 hP zW_D hS q (zW_get hq) h1 a h2 (va_Nw.use rfl (X.2.2.2.2.2.2.2.2.2.1.2.1 _ h9)) hsame h7 hty hn hfit (by simpa using hlen) hd (fun H1 locs1 hP1 hD1 hS1 => ?_)
    rw [hset, zW_set] at hP1
    exact kk p e s m args below meth c H1 locs1 lsA X (by rw [List.length_set]; exact hz) hP1 hS1 hL
theorem zw_puti {idx ci a q : Nat} {x : Int32} {fs : List Value} (hd : decode M.2.1 pc = .ok (.putfield idx, 3)) (hl : zfl M.1.cls idx ci a false .int) (hq : h[q]? = some (.inr (ci, fs))) (hlen : a < fs.length) (kk : WW l g M R Z QQ (pc + 3) ls st (h.set q (.inr (ci, fs.set a (.int x)))) k n) : WW l g M R Z QQ pc ls (.int x :: .ref q :: st) h k n := zw_put hd hl hq rfl rfl hlen kk
theorem zw_putl {idx ci a q : Nat} {x : Int64} {fs : List Value} (hd : decode M.2.1 pc = .ok (.putfield idx, 3)) (hl : zfl M.1.cls idx ci a false .long) (hq : h[q]? = some (.inr (ci, fs))) (hlen : a < fs.length) (kk : WW l g M R Z QQ (pc + 3) ls st (h.set q (.inr (ci, fs.set a (.long x)))) k n) : WW l g M R Z QQ pc ls (.long x :: .ref q :: st) h k n := zw_put hd hl hq rfl rfl hlen kk
/-- a final field of the own class, in its constructor -/
def zflF (own : String) (idx ci a : Nat) (ty : FieldType) : Prop := ∃ (T : u_T) (N : Nat) (Y : Nat → FieldType), zcl[ci]? = some (own, T, N) ∧ a < N ∧ (∀ w ∈ u_ws own T N, w ∈ zgw) ∧ (∀ k, k < N → parseFieldDescriptor (T k).2.2.1 = some (Y k)) ∧ (∀ a, a < N → ∀ b, b < N → a ≠ b → (T a).2.1 ≠ (T b).2.1) ∧ (T a).1 = own ∧ (T a).2.2.2 = true ∧ Y a = ty ∧ Cond.fieldLink own idx own (T a).2.1 (T a).2.2.1 ∈ zgw
theorem zw_putF {idx ci a q : Nat} {ty : FieldType} {v : Value} {fs : List Value} (hd : decode M.2.1 pc = .ok (.putfield idx, 3)) (hl : zflF M.1.cls idx ci a ty) (hin : M.1.name = "<init>") (hq : h[q]? = some (.inr (ci, fs))) (hn : narrow ty (zv g.1 v) = zv g.1 v) (hfit : fits ty (zv g.1 v) = true) (hlen : a < fs.length) (kk : WW l g M R Z QQ (pc + 3) ls st (h.set q (.inr (ci, fs.set a v))) k n) : WW l g M R Z QQ pc ls (v :: .ref q :: st) h k n := by
  intro p e s m args below meth c H locs lsA X hz hP hS hL
  obtain ⟨T, N, Y, h1, h2, h3, h4, h5, h6, h7, h8, h9⟩ := hl
  have hsame : ∀ x, s.fieldFound? (T a).1 (T a).2.1 (T a).2.2.1 = some x → s.fieldFound? M.1.cls (T a).2.1 (T a).2.2.1 = some x := by rw [h6]; exact fun _ h => h
  have hset : (g.1 + q, Sum.inr (ci, (fs.map (zv g.1)).set a (zv g.1 v))) = (g.1 + q, zE g.1 g.2.1 (.inr (ci, fs.set a v))) := by simp [zE, List.map_set]
  have hty : parseFieldDescriptor (T a).2.2.1 = some ty := by rw [h4 a h2, h8]
  refine va_putF X.1 X.2.1 X.2.2.2.2.2.1 h3 Y h4 h5 X.2.2.2.2.1 X.2.2.2.2.2.2.2.2.2.1.1 hP zW_D hS q (zW_get hq) h1 a h2 (X.2.2.2.2.2.1 _ h9) hsame h7 (X.2.2.2.2.2.2.2.1.trans hin) h6 hty hn hfit (by simpa using hlen) hd (fun H1 locs1 hP1 hD1 hS1 => ?_)
  rw [hset, zW_set] at hP1
  exact kk p e s m args below meth c H1 locs1 lsA X (by rw [List.length_set]; exact hz) hP1 hS1 hL
theorem zw_iald {q N : Nat} {f : Nat → Int32} {x : Int32} (hd : decode M.2.1 pc = .ok (.iaload, 1)) (hq : h[q]? = some (.inl (0, N, .inl f))) (hin : vp_in x N) (kk : WW l g M R Z QQ (pc + 1) ls (.int (f x.toNatClampNeg) :: st) h k n) : WW l g M R Z QQ pc ls (.int x :: .ref q :: st) h k n := by
  intro p e s m args below meth c H locs lsA X hz hP hS hL
  exact va_iald X.1 X.2.1 X.2.2.2.2.2.2.2.2.2.1.1 hP q 0 (zW_get hq) rfl hin hd (kk p e s m args below meth c H locs lsA X hz hP hS hL)
theorem zw_zald {q N : Nat} {f : Nat → Int32} {x : Int32} (hd : decode M.2.1 pc = .ok (.baload, 1)) (hq : h[q]? = some (.inl (2, N, .inl f))) (hin : vp_in x N) (kk : WW l g M R Z QQ (pc + 1) ls (.int (f x.toNatClampNeg) :: st) h k n) : WW l g M R Z QQ pc ls (.int x :: .ref q :: st) h k n := by
  intro p e s m args below meth c H locs lsA X hz hP hS hL
  exact va_zald X.1 X.2.1 X.2.2.2.2.2.2.2.2.2.1.1 hP q 2 (zW_get hq) rfl hin hd (kk p e s m args below meth c H locs lsA X hz hP hS hL)
theorem zw_lald {q N : Nat} {f : Nat → Int64} {x : Int32} (hd : decode M.2.1 pc = .ok (.laload, 1)) (hq : h[q]? = some (.inl (1, N, .inr (.inl f)))) (hin : vp_in x N) (kk : WW l g M R Z QQ (pc + 1) ls (.long (f x.toNatClampNeg) :: st) h k n) : WW l g M R Z QQ pc ls (.int x :: .ref q :: st) h k n := by
  intro p e s m args below meth c H locs lsA X hz hP hS hL
  exact va_lald X.1 X.2.1 X.2.2.2.2.2.2.2.2.2.1.1 hP q 1 (zW_get hq) rfl hin hd (kk p e s m args below meth c H locs lsA X hz hP hS hL)
theorem zw_iast {q N : Nat} {f : Nat → Int32} {x : Int32} {y : Int32} (hd : decode M.2.1 pc = .ok (.iastore, 1)) (hq : h[q]? = some (.inl (0, N, .inl f))) (hin : vp_in x N) (kk : WW l g M R Z QQ (pc + 1) ls st (h.set q (.inl (0, N, .inl (upd f x.toNatClampNeg y)))) k n) : WW l g M R Z QQ pc ls (.int y :: .int x :: .ref q :: st) h k n := by
  intro p e s m args below meth c H locs lsA X hz hP hS hL
  refine va_iast X.1 X.2.1 X.2.2.2.2.2.2.2.2.2.1.1 hP zW_D hS q 0 (zW_get hq) rfl hin hd (fun H1 locs1 hP1 hD1 hS1 => ?_)
  have hP2 : va_P g.2.2 zcl ((zW g.1 g.2.1 h).set q (g.1 + q, zE g.1 g.2.1 (.inl (0, N, .inl (upd f x.toNatClampNeg y))))) H1 := hP1
  rw [zW_set] at hP2
  exact kk p e s m args below meth c H1 locs1 lsA X (by rw [List.length_set]; exact hz) hP2 hS1 hL
theorem zw_zast {q N : Nat} {f : Nat → Int32} {x : Int32} {y : Int32} (hd : decode M.2.1 pc = .ok (.bastore, 1)) (hq : h[q]? = some (.inl (2, N, .inl f))) (hin : vp_in x N) (kk : WW l g M R Z QQ (pc + 1) ls st (h.set q (.inl (2, N, .inl (upd f x.toNatClampNeg (vp_nar .boolean y))))) k n) : WW l g M R Z QQ pc ls (.int y :: .int x :: .ref q :: st) h k n := by
  intro p e s m args below meth c H locs lsA X hz hP hS hL
  refine va_zast X.1 X.2.1 X.2.2.2.2.2.2.2.2.2.1.1 hP zW_D hS q 2 (zW_get hq) rfl hin hd (fun H1 locs1 hP1 hD1 hS1 => ?_)
  have hP2 : va_P g.2.2 zcl ((zW g.1 g.2.1 h).set q (g.1 + q, zE g.1 g.2.1 (.inl (2, N, .inl (upd f x.toNatClampNeg (vp_nar .boolean y)))))) H1 := hP1
  rw [zW_set] at hP2
  exact kk p e s m args below meth c H1 locs1 lsA X (by rw [List.length_set]; exact hz) hP2 hS1 hL
theorem zw_last {q N : Nat} {f : Nat → Int64} {x : Int32} {y : Int64} (hd : decode M.2.1 pc = .ok (.lastore, 1)) (hq : h[q]? = some (.inl (1, N, .inr (.inl f)))) (hin : vp_in x N) (kk : WW l g M R Z QQ (pc + 1) ls st (h.set q (.inl (1, N, .inr (.inl (vp_updL f x.toNatClampNeg y))))) k n) : WW l g M R Z QQ pc ls (.long y :: .int x :: .ref q :: st) h k n := by
  intro p e s m args below meth c H locs lsA X hz hP hS hL
  refine va_last X.1 X.2.1 X.2.2.2.2.2.2.2.2.2.1.1 hP zW_D hS q 1 (zW_get hq) rfl hin hd (fun H1 locs1 hP1 hD1 hS1 => ?_)
  have hP2 : va_P g.2.2 zcl ((zW g.1 g.2.1 h).set q (g.1 + q, zE g.1 g.2.1 (.inl (1, N, .inr (.inl (vp_updL f x.toNatClampNeg y)))))) H1 := hP1
  rw [zW_set] at hP2
  exact kk p e s m args below meth c H1 locs1 lsA X (by rw [List.length_set]; exact hz) hP2 hS1 hL
theorem zw_aald {q N r : Nat} {f : Nat → Option Nat} {x : Int32} (hd : decode M.2.1 pc = .ok (.aaload, 1)) (hq : h[q]? = some (.inl (3, N, .inr (.inr (.inr (.inr f)))))) (hin : vp_in x N) (hr : f x.toNatClampNeg = some r) (kk : WW l g M R Z QQ (pc + 1) ls (.ref r :: st) h k n) : WW l g M R Z QQ pc ls (.int x :: .ref q :: st) h k n := by
  intro p e s m args below meth c H locs lsA X hz hP hS hL
  refine va_aldq X.1 X.2.1 X.2.2.2.2.2.2.2.2.2.1.1 hP q 3 (zW_get hq) rfl hin hd ?_
  have e1 : va_rf ((f x.toNatClampNeg).map (g.1 + ·)) = zv g.1 (.ref r) := by rw [hr]; rfl
  rw [e1]
  exact (kk p e s m args below meth c H locs lsA X hz hP hS hL)
theorem zw_aast {q N r : Nat} {f : Nat → Option Nat} {x : Int32} {fs : List Value} (hd : decode M.2.1 pc = .ok (.aastore, 1)) (hq : h[q]? = some (.inl (3, N, .inr (.inr (.inr (.inr f)))))) (hr : h[r]? = some (.inr (3, fs))) (hin : vp_in x N) (kk : WW l g M R Z QQ (pc + 1) ls st (h.set q (.inl (3, N, .inr (.inr (.inr (.inr (va_up f x.toNatClampNeg (some r)))))))) k n) : WW l g M R Z QQ pc ls (.ref r :: .int x :: .ref q :: st) h k n := by
  intro p e s m args below meth c H locs lsA X hz hP hS hL
  refine va_astq X.1 X.2.1 X.2.2.2.2.2.2.2.2.2.1.1 hP zW_D hS q 3 r 3 (zW_get hq) (r := (zR_S, zT_S, 11)) rfl (zW_get hr) rfl hin hd (fun H1 locs1 hP1 hD1 hS1 => ?_)
  have e1 : (fun j => (va_up f x.toNatClampNeg (some r) j).map (g.1 + ·)) = va_up (fun j => (f j).map (g.1 + ·)) x.toNatClampNeg (some (g.1 + r)) := by
    funext j
    by_cases hj : j = x.toNatClampNeg <;> simp [va_up, hj]
  have hP2 : va_P g.2.2 zcl ((zW g.1 g.2.1 h).set q (g.1 + q, zE g.1 g.2.1 (.inl (3, N, .inr (.inr (.inr (.inr (va_up f x.toNatClampNeg (some r))))))))) H1 := by
    show va_P g.2.2 zcl ((zW g.1 g.2.1 h).set q (g.1 + q, .inl (g.2.1 3, N, .inr (.inr (.inr (.inr (fun j => (va_up f x.toNatClampNeg (some r) j).map (g.1 + ·)))))))) H1
    rw [e1]
    exact hP1
  rw [zW_set] at hP2
  exact kk p e s m args below meth c H1 locs1 lsA X (by rw [List.length_set]; exact hz) hP2 hS1 hL
/-- the script: an int array at the cell a, outside the world -/
def zS (g : zG) (a L : Nat) (xs : Nat → Int32) : State → Prop := fun s => va_X a L xs s s.heap ∧ a < g.1
theorem zw_sld {a L : Nat} {xs : Nat → Int32} {x : Int32} (hZ : ∀ s, Z s → zS g a L xs s) (hd : decode M.2.1 pc = .ok (.iaload, 1)) (hin : vp_in x L) (kk : WW l g M R Z QQ (pc + 1) ls (.int (xs x.toNatClampNeg) :: st) h k n) : WW l g M R Z QQ pc ls (.int x :: .retAddr a :: st) h k n := by
  intro p e s m args below meth c H locs lsA X hz hP hS hL
  obtain ⟨z1, z2⟩ := hZ s X.2.2.2.2.2.2.2.2.1
  exact va_sld X.1 X.2.1 z1 (Nat.lt_of_lt_of_le z2 X.2.2.2.2.2.2.2.2.2.2) (Nat.not_le.mpr z2) hS hin hd (kk p e s m args below meth c H locs lsA X hz hP hS hL)
theorem zw_slen {a L : Nat} {xs : Nat → Int32} (hZ : ∀ s, Z s → zS g a L xs s) (hd : decode M.2.1 pc = .ok (.arraylength, 1)) (kk : WW l g M R Z QQ (pc + 1) ls (.int (Int32.ofNat L) :: st) h k n) : WW l g M R Z QQ pc ls (.retAddr a :: st) h k n := by
  intro p e s m args below meth c H locs lsA X hz hP hS hL
  obtain ⟨z1, z2⟩ := hZ s X.2.2.2.2.2.2.2.2.1
  exact va_slen X.1 X.2.1 z1 (Nat.lt_of_lt_of_le z2 X.2.2.2.2.2.2.2.2.2.2) (Nat.not_le.mpr z2) hS hd (kk p e s m args below meth c H locs lsA X hz hP hS hL)
end ZW
section ZR
variable {l : Launch} {g : zG} {M : zM} {R : Room} {Z : State → Prop} {post : Option Value → zH → Prop} {n1 : Nat} {pc : Nat} {ls : zL} {st : List Value} {h : zH} {k n : Nat}
theorem zw_iret {x : Int32} (hd : decode M.2.1 pc = .ok (.ireturn, 1)) {ty : FieldType} (hr : M.2.2.2 = some ty) (hn : narrow ty (.int x) = .int x) (hlen : h.length = n1) (hp : post (some (.int x)) h) : WW l g M R Z (zQQ g post n1 k n) pc ls [.int x] h k n := by
  intro p e s m args below meth c H locs lsA X hz hP hS hL
  have hq : ∀ t : State, t.heap = H → s.WarmedH t.vm → zQ g post n1 args s (.returned (some (.int x))) t := fun t ht hW => ⟨⟨(some (.int x)), h, rfl, hp, hlen, by rw [ht]; exact hP⟩, hS.F ht⟩
  exact W.zret X.1 X.2.1 (X.2.2.1.trans hr) hn hq hS.2.2 hd X.2.2.2.2.2.2.1
theorem zw_lret {x : Int64} (hd : decode M.2.1 pc = .ok (.lreturn, 1)) (hr : M.2.2.2 = some .long) (hlen : h.length = n1) (hp : post (some (.long x)) h) : WW l g M R Z (zQQ g post n1 k n) pc ls [.long x] h k n := by
  intro p e s m args below meth c H locs lsA X hz hP hS hL
  have hq : ∀ t : State, t.heap = H → s.WarmedH t.vm → zQ g post n1 args s (.returned (some (.long x))) t := fun t ht hW => ⟨⟨(some (.long x)), h, rfl, hp, hlen, by rw [ht]; exact hP⟩, hS.F ht⟩
  exact W.lret X.1 X.2.1 (X.2.2.1.trans hr) hq hS.2.2 hd X.2.2.2.2.2.2.1
theorem zw_vret  (hd : decode M.2.1 pc = .ok (.return_, 1)) (hr : M.2.2.2 = none) (hlen : h.length = n1) (hp : post none h) : WW l g M R Z (zQQ g post n1 k n) pc ls [] h k n := by
  intro p e s m args below meth c H locs lsA X hz hP hS hL
  have hq : ∀ t : State, t.heap = H → s.WarmedH t.vm → zQ g post n1 args s (.returned (none)) t := fun t ht hW => ⟨⟨none, h, rfl, hp, hlen, by rw [ht]; exact hP⟩, hS.F ht⟩
  exact W.vret X.1 X.2.1 (X.2.2.1.trans hr) hq hS.2.2 hd X.2.2.2.2.2.2.1
theorem zw_aret {x : Nat} (hd : decode M.2.1 pc = .ok (.areturn, 1)) {cn : String} (hr : M.2.2.2 = some (.object cn)) (hlen : h.length = n1) (hp : post (some (.ref x)) h) : WW l g M R Z (zQQ g post n1 k n) pc ls [.ref x] h k n := by
  intro p e s m args below meth c H locs lsA X hz hP hS hL
  have hq : ∀ t : State, t.heap = H → s.WarmedH t.vm → zQ g post n1 args s (.returned (some (.ref (g.1 + x)))) t := fun t ht hW => ⟨⟨(some (.ref x)), h, rfl, hp, hlen, by rw [ht]; exact hP⟩, hS.F ht⟩
  exact W.aret X.1 X.2.1 (X.2.2.1.trans hr) (Or.inl ⟨_, rfl⟩) (Or.inr ⟨_, rfl⟩) hq hS.2.2 hd X.2.2.2.2.2.2.1
theorem zw_widen {QQ : List Frame → Array Value → State → State → Prop} {n2 : Nat} (h2 : n ≤ n2) (kk : WW l g M R Z QQ pc ls st h k n2) : WW l g M R Z QQ pc ls st h k n := by
  intro p e s m args below meth c H locs lsA X hz hP hS hL
  exact W.widen (Nat.le_refl _) h2 (kk p e s m args below meth c H locs lsA X hz hP hS hL)
theorem zsl_len (b : Nat) (vs : List Value) : (lg_sl (vs.map (zv b))).length = (lg_sl vs).length := by
  induction vs with
  | nil => rfl
  | cons a r ih =>
    simp only [lg_sl, List.map_cons, List.flatMap_cons, List.length_append] at ih ⊢
    rw [ih, zv_cat]
    split <;> rfl
/-- a contract out of the walk of its body -/
theorem run_of {d mc ms : Nat} {args : List Value} (hy : plainName M.1.cls = true) (hl : (lg_sl args).length ≤ M.2.2.1) (kk : WW l g M (zrm d mc ms) (fun _ => True) (zQQ g post (h.length + mc) mc ms) 0 (zargs 0 args) [] h 0 0) : Run l g M d mc ms args h post := by
  refine Met.ofW (cc := M.2.1) (maxL := M.2.2.1) (ret := M.2.2.2) hy rfl ?_
  intro p e s m args' below meth c s₁ B hml hv
  obtain ⟨rfl, hsz, hP, hK⟩ := hv
  have hts := atoms_spec (ws := .code M.1 M.2.1 M.2.2.1 M.2.2.2 :: zgw) B.pre
  rw [lg_entry_eq]
  have hl0 := lv_entry (args.map (zv g.1)) (n := M.2.2.1) (by rw [zsl_len]; exact hl)
  exact kk p e s m _ below meth c s.heap [] _ ⟨B.exec, B.bytes, B.returns, hml, findClass_of_methodNamed B.named, fun w hw => hts w (List.mem_cons_of_mem _ hw), B.notSynchronized, (name_of_methodNamed B.named B.method).1, trivial, hK, by rw [hsz]; exact Nat.le_add_right _ _⟩ hsz hP va_S.rf ⟨⟨hl0.1, hl0.2.1, fun q hq => by cases hq⟩, fun i v hi => hl0.2.2 (i, zv g.1 v) (zargs_find hi)⟩
theorem Run.mono {d mc ms : Nat} {args : List Value} {post2 : Option Value → zH → Prop} (hr : Run l g M d mc ms args h post) (hp : ∀ v h', post v h' → post2 v h') : Run l g M d mc ms args h post2 := by
  intro p e ha hc hk s m a below hf hpre hP hK
  obtain ⟨t, o, h1, h2, h3, ⟨⟨v, h', e1, e2, e3, e4⟩, hF⟩, hL⟩ := hr p e ha hc hk s m a below hf hpre hP hK
  exact ⟨t, o, h1, h2, h3, ⟨⟨v, h', e1, hp v h' e2, e3, e4⟩, hF⟩, hL⟩
end ZR
/-! calls -/
def zmd (M : zM) (n : Nat) : Prop := Cond.code M.1 M.2.1 M.2.2.1 M.2.2.2 ∈ zgw ∧ Cond.initialized M.1.cls ∈ zgw ∧ (M.1.cls ≠ "java/lang/invoke/MethodHandle" ∧ M.1.cls ≠ "java/lang/invoke/VarHandle" ∧ (parseMethodDescriptor M.1.desc).map (fun d => d.parameters.length) = some n) ∧ M.2.2.1 ≤ 19
def zmV (M : zM) (n : Nat) : Prop := zmd M n ∧ Cond.instanceMethod M.1 ∈ zgw ∧ Cond.selects M.1.cls M.1 M.1 ∈ zgw
def zmS (M : zM) (n : Nat) : Prop := zmd M n ∧ Cond.static M.1 ∈ zgw
def zmI (M : zM) (n : Nat) : Prop := zmd M n ∧ Cond.instanceMethod M.1 ∈ zgw ∧ M.1.name = "<init>" ∧ M.2.2.2 = none
def zlk (own : String) (idx : Nat) (y : MethodName) : Prop := Cond.methodLink own idx y ∈ zgw ∨ Cond.methodLinkNest own idx y "SweptFloors" ∈ znest
theorem zgood {w : Cond} (h : w ∈ zgw) : GoodIn zgw (w :: zgw) := by
  intro x hx
  have hm : x ∈ zgw := by
    rcases List.mem_cons.mp hx with e | e
    · rw [e]; exact h
    · exact e
  exact ⟨hm, good_of_word (List.mem_filter.mp hm).2⟩
section ZC
variable {l : Launch} {g : zG} {M : zM} {R : Room} {Z : State → Prop} {QQ : List Frame → Array Value → State → State → Prop} {pc : Nat} {ls : zL} {st : List Value} {h : zH} {k n : Nat}
theorem zsize {p : Program} {e : Env} {s : State} {m : MethodId} {args : Array Value} {below : List Frame} {meth : Method} {c : Code} {T : State} {H : Heap} {locs : List Loc} (X : zX g M Z p s m args meth c) (hz : s.heap.size + k = g.1 + h.length) (hP : va_P g.2.2 zcl (zW g.1 g.2.1 h) H) (hS : va_S (fun q => g.1 ≤ q) s.heap H locs) (hT : T.heap = H) (X0 : Stand p l e R s m args below meth c T locs k n) : H.size = g.1 + h.length := by
  have hu : T.heap.size ≤ s.heap.size + k := X0.same.2.2.1
  rw [hT] at hu
  have hlo : g.1 + h.length ≤ H.size := by
    cases hh : h.length with
    | zero => exact Nat.le_trans X.2.2.2.2.2.2.2.2.2.2 hS.1
    | succ j =>
      have hj : j < h.length := by omega
      have h1 := (hP j _ (zW_get (List.getElem?_eq_getElem hj))).lt
      exact h1
  omega
theorem zB_blind (As : List Value) : FrameBlind (va_Pc (As.map (zv g.1)) (zB g h)) := fun a U f mk q => ⟨q.1, q.2.1, q.2.2.1, va_K.moved (u := U) (U := U.calling f mk a) (Vm.Alike.refl U.vm) q.2.2.2.1, zN.same (u := U) (U := U.calling f mk a) rfl q.2.2.2.2⟩
theorem zB_pre {p : Program} {s : State} {m : MethodId} {args : Array Value} {meth : Method} {c : Code} {H : Heap} (As : List Value) (X : zX g M Z p s m args meth c) (hsz : H.size = g.1 + h.length) (hP : va_P g.2.2 zcl (zW g.1 g.2.1 h) H) : ∀ U : State, U.heap = H → s.WarmedH U.vm → va_Pc (As.map (zv g.1)) (zB g h) (As.map (zv g.1)).toArray U :=
  fun U hU hW => ⟨rfl, by rw [hU]; exact hsz, by rw [hU]; exact hP, va_K.moved hW.alike X.2.2.2.2.2.2.2.2.2.1.1, zN.warm hW X.2.2.2.2.2.2.2.2.2.1.2⟩
theorem zcall {p : Program} {e : Env} {s : State} {m : MethodId} {args : Array Value} {below : List Frame} {meth : Method} {c : Code} {H : Heap} {locs : List Loc} {lsA : Array Slot} {T : State} {mc ms : Nat} {post : Option Value → zH → Prop} {a : Array Value} {st0 : List Value}
    (X : zX g M Z p s m args meth c) (hz : s.heap.size + k = g.1 + h.length) (hS : va_S (fun q => g.1 ≤ q) s.heap H locs) (hL : zLs g.1 M.2.2.1 lsA ls) (hT : T.heap = H) (X0 : Stand p l e R s m args below meth c T locs k n)
    (hr : va_Run p l e R s m args below meth c H locs k n mc ms (F0 m pc lsA st0) (st.map (zv g.1)) (zQ g post (h.length + mc) a) (fun q => g.1 ≤ q))
    (kk : ∀ v h', post v h' → WW l g M R Z QQ (pc + 3) ls (v.toList ++ st) h' (k + mc) (n + ms)) : ∃ t, Steps p.tables e below (T.setTop (F0 m pc lsA st0)) t ∧ QQ below args s t := by
  obtain ⟨v, st₀, t, T', L, h0, X', hL', e1, e2, ⟨⟨v1, h', hv, hp, hlen, hP'⟩, hF⟩, hst⟩ := hr T hT X0
  have hv' : v = v1.map (zv g.1) := by injection hv
  subst hv'
  have hz1 := hF.1
  have hk1 := hF.2
  rw [h0] at hz1 hk1
  have hS' : va_S (fun q => g.1 ≤ q) s.heap T'.heap (locs ++ L) := ⟨Nat.le_trans hS.1 (by rw [e1]; exact hz1), fun q h1 h2 => by rw [e1, hk1 q (Nat.lt_of_lt_of_le h1 hS.1) h2]; exact hS.2.1 q h1 h2, fun q hq => by
      rcases List.mem_append.mp hq with h | h
      · exact hS.2.2 q h
      · exact hL' q h⟩
  have K := kk v1 h' hp p e s m args below meth c T'.heap (locs ++ L) lsA X (by rw [hlen]; omega) (by rw [e1]; exact hP') hS' hL
  obtain ⟨t2, a1, b1⟩ := K T' rfl X'
  refine ⟨t2, hst t2 ?_, b1⟩
  have e3 : (v1.map (zv g.1)).toList ++ st.map (zv g.1) = (v1.toList ++ st).map (zv g.1) := by cases v1 <;> simp
  show Steps p.tables e below (T'.setTop (F0 m (pc + 3) lsA ((v1.map (zv g.1)).toList ++ st.map (zv g.1)))) t2
  rw [e3]
  exact a1
theorem zst_room (hc : (st.map Value.category).sum ≤ 8) : ((st.map (zv g.1)).map fun v => v.category).sum ≤ 8 := by
  have e : (st.map (zv g.1)).map (fun v => v.category) = st.map Value.category := by
    rw [List.map_map]
    exact List.map_congr_left (fun v _ => zv_cat g.1 v)
  rw [e]
  exact hc
theorem zw_callV {M' : zM} {idx d mc ms q ci : Nat} {fs : List Value} {T' : u_T} {N' : Nat} {post : Option Value → zH → Prop} (As : List Value) (hd : decode M.2.1 pc = .ok (.invokevirtual idx, 3)) (hm : zmV M' As.length) (hk : zlk M.1.cls idx M'.1) (hR : d + 1 ≤ R.frames ∧ 38 * d + 38 ≤ R.locals) (hq : h[q]? = some (.inr (ci, fs))) (hc : zcl[ci]? = some (M'.1.cls, T', N')) (hf : k + mc ≤ R.cells ∧ n + ms ≤ R.slots) (hst : (st.map Value.category).sum ≤ 8)
    (hrun : Run l g M' d mc ms (.ref q :: As) h post) (kk : ∀ v h', post v h' → WW l g M R Z QQ (pc + 3) ls (v.toList ++ st) h' (k + mc) (n + ms)) : WW l g M R Z QQ pc ls (As.reverse ++ .ref q :: st) h k n := by
  intro p e s m args below meth c H locs lsA X hz hP hS hL T hT X0
  have hsz := zsize X hz hP hS hT X0
  have hst0 : (As.reverse ++ .ref q :: st).map (zv g.1) = (As.map (zv g.1)).reverse ++ .ref (g.1 + q) :: st.map (zv g.1) := by simp [zv]
  obtain ⟨⟨m1, m2, m3, m4⟩, m5, m6⟩ := hm
  have hrm : (zrm d mc ms).frames + 1 ≤ R.frames ∧ 8 + (M'.2.2.1 + 11) + (zrm d mc ms).locals ≤ R.locals := ⟨hR.1, by have := hR.2; show 8 + (M'.2.2.1 + 11) + 38 * d ≤ R.locals; omega⟩
  have hts := X.2.2.2.2.2.1
  have hp : PreV s H M'.1.cls (g.1 + q) (va_Pc ((.ref q :: As).map (zv g.1)) (zB g h)) (As.map (zv g.1)) := ⟨zB_blind _, va_recv X.2.2.2.2.2.2.2.2.2.1.1 hP hc (zW_get hq), zB_pre _ X hsz hP⟩
  refine zcall (st0 := (As.reverse ++ .ref q :: st).map (zv g.1)) X hz hS hL hT X0 (mc := mc) (ms := ms) (post := post) (a := (Value.ref (g.1 + q) :: As.map (zv g.1)).toArray) ?_ kk
  rcases hk with hk | hk
  · exact va_runV (n := As.length) (C := M'.1.cls) (Ts := zgw) (rm := zrm d mc ms) ⟨X.1, X.2.1, X.2.2.2.1, X.2.2.2.2.1, hts⟩ hrun ⟨callB_of As.length hts (zgood m1) rfl rfl rfl (hts _ m2) (hts _ hk) m3 hrm, hts _ m5, hts _ m6⟩ hp rfl (by simp) hL.1.1 hst0 (lv_room (zst_room hst)) hd hf
  · exact va_runVN (n := As.length) (C := M'.1.cls) (Ts := zgw) (rm := zrm d mc ms) ⟨X.1, X.2.1, X.2.2.2.1, X.2.2.2.2.1, hts⟩ hrun ⟨va_cnB As.length hts (zgood m1) rfl rfl rfl (X.2.2.2.2.2.2.2.2.2.1.2.1 _ hk) (hts _ m2) m3 hrm, hts _ m5, hts _ m6⟩ hp rfl (by simp) hL.1.1 hst0 (lv_room (zst_room hst)) hd hf
theorem zw_callS {M' : zM} {idx d mc ms : Nat} {post : Option Value → zH → Prop} (As : List Value) (hd : decode M.2.1 pc = .ok (.invokestatic idx, 3)) (hm : zmS M' As.length) (hk : zlk M.1.cls idx M'.1) (hR : d + 1 ≤ R.frames ∧ 38 * d + 38 ≤ R.locals) (hf : k + mc ≤ R.cells ∧ n + ms ≤ R.slots) (hst : (st.map Value.category).sum ≤ 8)
    (hrun : Run l g M' d mc ms As h post) (kk : ∀ v h', post v h' → WW l g M R Z QQ (pc + 3) ls (v.toList ++ st) h' (k + mc) (n + ms)) : WW l g M R Z QQ pc ls (As.reverse ++ st) h k n := by
  intro p e s m args below meth c H locs lsA X hz hP hS hL T hT X0
  have hsz := zsize X hz hP hS hT X0
  have hst0 : (As.reverse ++ st).map (zv g.1) = (As.map (zv g.1)).reverse ++ st.map (zv g.1) := by simp
  obtain ⟨⟨m1, m2, m3, m4⟩, m5⟩ := hm
  have hrm : (zrm d mc ms).frames + 1 ≤ R.frames ∧ 8 + (M'.2.2.1 + 11) + (zrm d mc ms).locals ≤ R.locals := ⟨hR.1, by have := hR.2; show 8 + (M'.2.2.1 + 11) + 38 * d ≤ R.locals; omega⟩
  have hts := X.2.2.2.2.2.1
  have hp : PreS s H (va_Pc (As.map (zv g.1)) (zB g h)) (As.map (zv g.1)) := ⟨zB_blind _, zB_pre _ X hsz hP⟩
  refine zcall (st0 := (As.reverse ++ st).map (zv g.1)) X hz hS hL hT X0 (mc := mc) (ms := ms) (post := post) (a := (As.map (zv g.1)).toArray) ?_ kk
  rcases hk with hk | hk
  · exact va_runS (n := As.length) (Ts := zgw) (rm := zrm d mc ms) ⟨X.1, X.2.1, X.2.2.2.1, X.2.2.2.2.1, hts⟩ hrun ⟨callB_of As.length hts (zgood m1) rfl rfl rfl (hts _ m2) (hts _ hk) m3 hrm, hts _ m5⟩ hp rfl (by simp) hL.1.1 hst0 (lv_room (zst_room hst)) hd hf
  · exact va_runSN (n := As.length) (Ts := zgw) (rm := zrm d mc ms) ⟨X.1, X.2.1, X.2.2.2.1, X.2.2.2.2.1, hts⟩ hrun ⟨va_cnB As.length hts (zgood m1) rfl rfl rfl (X.2.2.2.2.2.2.2.2.2.1.2.1 _ hk) (hts _ m2) m3 hrm, hts _ m5, trivial⟩ hp rfl (by simp) hL.1.1 hst0 (lv_room (zst_room hst)) hd hf
theorem zw_callI {M' : zM} {idx d mc ms q : Nat} {post : Option Value → zH → Prop} (As : List Value) (hd : decode M.2.1 pc = .ok (.invokespecial idx, 3)) (hm : zmI M' As.length) (hk : zlk M.1.cls idx M'.1) (hR : d + 1 ≤ R.frames ∧ 38 * d + 38 ≤ R.locals) (hf : k + mc ≤ R.cells ∧ n + ms ≤ R.slots) (hst : (st.map Value.category).sum ≤ 8)
    (hrun : Run l g M' d mc ms (.ref q :: As) h post) (kk : ∀ v h', post v h' → WW l g M R Z QQ (pc + 3) ls (v.toList ++ st) h' (k + mc) (n + ms)) : WW l g M R Z QQ pc ls (As.reverse ++ .ref q :: st) h k n := by
  intro p e s m args below meth c H locs lsA X hz hP hS hL T hT X0
  have hsz := zsize X hz hP hS hT X0
  have hst0 : (As.reverse ++ .ref q :: st).map (zv g.1) = (As.map (zv g.1)).reverse ++ .ref (g.1 + q) :: st.map (zv g.1) := by simp [zv]
  obtain ⟨⟨m1, m2, m3, m4⟩, m5, m6, m7⟩ := hm
  have hrm : (zrm d mc ms).frames + 1 ≤ R.frames ∧ 8 + (M'.2.2.1 + 11) + (zrm d mc ms).locals ≤ R.locals := ⟨hR.1, by have := hR.2; show 8 + (M'.2.2.1 + 11) + 38 * d ≤ R.locals; omega⟩
  have hts := X.2.2.2.2.2.1
  have hp : PreS s H (va_Pc ((.ref q :: As).map (zv g.1)) (zB g h)) (.ref (g.1 + q) :: As.map (zv g.1)) := ⟨zB_blind _, zB_pre (.ref q :: As) X hsz hP⟩
  refine zcall (st0 := (As.reverse ++ .ref q :: st).map (zv g.1)) X hz hS hL hT X0 (mc := mc) (ms := ms) (post := post) (a := (Value.ref (g.1 + q) :: As.map (zv g.1)).toArray) ?_ kk
  unfold Run at hrun
  rw [m7] at hrun m1
  rcases hk with hk | hk
  · exact va_runI (n := As.length) (Ts := zgw) (rm := zrm d mc ms) ⟨X.1, X.2.1, X.2.2.2.1, X.2.2.2.2.1, hts⟩ hrun ⟨callB_of As.length hts (zgood m1) rfl rfl rfl (hts _ m2) (hts _ hk) m3 hrm, m6, hts _ m5⟩ hp rfl (by simp) hL.1.1 hst0 (lv_room (zst_room hst)) hd hf
  · exact va_runIN (n := As.length) (Ts := zgw) (rm := zrm d mc ms) ⟨X.1, X.2.1, X.2.2.2.1, X.2.2.2.2.1, hts⟩ hrun ⟨va_cnB As.length hts (zgood m1) rfl rfl rfl (X.2.2.2.2.2.2.2.2.2.1.2.1 _ hk) (hts _ m2) m3 hrm, m6, hts _ m5⟩ hp rfl (by simp) hL.1.1 hst0 (lv_room (zst_room hst)) hd hf
theorem zw_objInit {idx q : Nat} (hd : decode M.2.1 pc = .ok (.invokespecial idx, 3)) (hl : Cond.methodLink M.1.cls idx Lib.objectInit ∈ zgw) (hi : Cond.instanceMethod Lib.objectInit ∈ zgw) (hc : Cond.code Lib.objectInit ⟨#[0xb1]⟩ 1 none ∈ zgw) (hR : 1 ≤ R.frames ∧ 38 ≤ R.locals) (hst : (st.map Value.category).sum ≤ 8) (kk : WW l g M R Z QQ (pc + 3) ls st h k n) : WW l g M R Z QQ pc ls (.ref q :: st) h k n := by
  intro p e s m args below meth c H locs lsA X hz hP hS hL
  have hts := X.2.2.2.2.2.1
  have h8 := lv_room (m := m) (pc := pc) (ls := lsA) (rest := (Value.ref q :: st).map (zv g.1)) (zst_room (g := g) hst)
  exact W.objInit X.1 X.2.1 X.2.2.2.2.1 (hts _ hl) (hts _ hi) (hts _ hc) rfl (hL.1.1.trans X.2.2.2.1.symm) rfl hd hR.1 (by have := hR.2; omega) (kk p e s m args below meth c H locs lsA X hz hP hS hL)
/-! new cells -/
theorem zfresh {p : Program} {e : Env} {s : State} {m : MethodId} {args : Array Value} {below : List Frame} {meth : Method} {c : Code} {T : State} {H1 : Heap} {locs : List Loc} {n2 q : Nat} {E : va_E} (X : zX g M Z p s m args meth c) (hz : s.heap.size + k = g.1 + h.length) (hP : va_P g.2.2 zcl (zW g.1 g.2.1 h ++ [(q, E)]) H1) (hD : va_D (fun q => g.1 ≤ q) (zW g.1 g.2.1 h ++ [(q, E)])) (hT : T.heap = H1) (X0 : Stand p l e R s m args below meth c T locs (k + 1) n2) : q = g.1 + h.length := by
  have hu : T.heap.size ≤ s.heap.size + (k + 1) := X0.same.2.2.1
  rw [hT] at hu
  have hat : (zW g.1 g.2.1 h ++ [(q, E)])[h.length]? = some (q, E) := by
    rw [List.getElem?_append_right (by rw [zW_len]; exact Nat.le_refl _), zW_len, Nat.sub_self]; rfl
  have hlt : q < H1.size := (hP _ _ hat).lt
  have hge : g.1 ≤ q := hD.2 _ _ hat
  rcases Nat.lt_or_ge (q - g.1) h.length with hh | hh
  · exfalso
    have h1 : (zW g.1 g.2.1 h ++ [(q, E)])[q - g.1]? = some (g.1 + (q - g.1), zE g.1 g.2.1 h[q - g.1]) := by
      rw [List.getElem?_append_left (by rw [zW_len]; exact hh)]
      exact zW_get (List.getElem?_eq_getElem hh)
    have := hD.1 _ _ _ _ h1 hat (by show g.1 + (q - g.1) = q; omega)
    omega
  · omega
theorem zw_new {idx ci N : Nat} {fs : List Value} {C : String} {T' : u_T} {Y : Nat → FieldType} (hd : decode M.2.1 pc = .ok (.new idx, 3)) (hc : zcl[ci]? = some (C, T', N)) (hi : ∀ w ∈ u_ws C T' N, w ∈ zgw) (hy : ∀ k, k < N → parseFieldDescriptor (T' k).2.2.1 = some (Y k)) (hl : Cond.classLink M.1.cls idx C ∈ zgw) (hin : Cond.instantiable C N ∈ zgw) (hini : Cond.initialized C ∈ zgw) (hfs : ∀ j, j < N → defaultValue (Y j) = vp_V fs j) (hfz : fs.map (zv g.1) = fs) (hf : k + 1 ≤ R.cells ∧ n + N ≤ R.slots)
    (kk : WW l g M R Z QQ (pc + 3) ls (.ref h.length :: st) (h ++ [.inr (ci, fs)]) (k + 1) (n + N)) : WW l g M R Z QQ pc ls st h k n := by
  intro p e s m args below meth c H locs lsA X hz hP hS hL
  have hts := X.2.2.2.2.2.1
  refine va_new X.1 X.2.1 hts hi Y hy X.2.2.2.2.1 (hts _ hl) (hts _ hin) (hts _ hini) X.2.2.2.2.2.2.2.2.2.1.1 hP zW_D hS (fun q hq => Nat.le_trans X.2.2.2.2.2.2.2.2.2.2 hq) hc hfs hf.1 hf.2 hd (fun q H1 hP1 hD1 hS1 => ?_)
  intro T hT X0
  have hq := zfresh X hz hP1 hD1 hT X0
  subst hq
  have hP2 : va_P g.2.2 zcl (zW g.1 g.2.1 h ++ [(g.1 + h.length, zE g.1 g.2.1 (.inr (ci, fs)))]) H1 := by
    show va_P g.2.2 zcl (zW g.1 g.2.1 h ++ [(g.1 + h.length, .inr (ci, fs.map (zv g.1)))]) H1
    rw [hfz]; exact hP1
  rw [zW_app] at hP2
  exact kk p e s m args below meth c H1 locs lsA X (by simp; omega) hP2 hS1 hL T hT X0
theorem zRA {s : State} {c1 c2 : ClassId} {ty : FieldType} (h1 : va_RA s c1 ty) (h2 : va_RA s c2 ty) : c1 = c2 := by
  cases ty with
  | object C =>
    obtain ⟨_, _, -, -, -, a⟩ := h1
    obtain ⟨_, _, -, -, -, b⟩ := h2
    exact Option.some.inj (a.symm.trans b)
  | _ => exact Option.some.inj (Eq.trans (Eq.symm h1) h2)

theorem zw_newi {x : Int32} {N : Nat} (hd : decode M.2.1 pc = .ok (.newarray .int, 2)) (ha : Cond.arrayClass (newarray.typeOf .int) ∈ zgw) (h0 : ¬ x < 0) (hN : x.toNatClampNeg = N) (hb : N * 8 ≤ 536870912) (hf : k + 1 ≤ R.cells ∧ n + N ≤ R.slots) (kk : WW l g M R Z QQ (pc + 2) ls (.ref h.length :: st) (h ++ [.inl (0, N, .inl (fun _ => 0))]) (k + 1) (n + N)) : WW l g M R Z QQ pc ls (.int x :: st) h k n := by
  intro p e s m args below meth c H locs lsA X hz hP hS hL
  have hts := X.2.2.2.2.2.1
  refine va_newa (atype := .int) (ty := .int) (a0 := (N, .inl (fun _ => 0))) X.1 X.2.1 (hts _ ha) rfl X.2.2.2.2.2.2.2.2.2.1.1 hP zW_D hS (fun q hq => Nat.le_trans X.2.2.2.2.2.2.2.2.2.2 hq) (fun cA => rfl) h0 hN (by show N * componentBytes .int ≤ 536870912; simp [componentBytes]; omega) hf.1 hf.2 hd (fun q cA H1 hK1 hP1 hD1 hS1 => ?_)
  have hcA : cA = g.2.1 0 := zRA (hK1.2 4 (cA, .int) rfl).2 (hK1.2 0 (g.2.1 0, .int) rfl).2
  subst hcA
  intro T hT X0
  have hq := zfresh X hz hP1 hD1 hT X0
  subst hq
  have hP2 : va_P g.2.2 zcl (zW g.1 g.2.1 h ++ [(g.1 + h.length, zE g.1 g.2.1 (.inl (0, N, .inl (fun _ => 0))))]) H1 := hP1
  rw [zW_app] at hP2
  exact kk p e s m args below meth c H1 locs lsA X (by simp; omega) hP2 hS1 hL T hT X0
theorem zw_newl {x : Int32} {N : Nat} (hd : decode M.2.1 pc = .ok (.newarray .long, 2)) (ha : Cond.arrayClass (newarray.typeOf .long) ∈ zgw) (h0 : ¬ x < 0) (hN : x.toNatClampNeg = N) (hb : N * 8 ≤ 536870912) (hf : k + 1 ≤ R.cells ∧ n + N ≤ R.slots) (kk : WW l g M R Z QQ (pc + 2) ls (.ref h.length :: st) (h ++ [.inl (1, N, .inr (.inl (fun _ => 0)))]) (k + 1) (n + N)) : WW l g M R Z QQ pc ls (.int x :: st) h k n := by
  intro p e s m args below meth c H locs lsA X hz hP hS hL
  have hts := X.2.2.2.2.2.1
  refine va_newa (atype := .long) (ty := .long) (a0 := (N, .inr (.inl (fun _ => 0)))) X.1 X.2.1 (hts _ ha) rfl X.2.2.2.2.2.2.2.2.2.1.1 hP zW_D hS (fun q hq => Nat.le_trans X.2.2.2.2.2.2.2.2.2.2 hq) (fun cA => rfl) h0 hN (by show N * componentBytes .long ≤ 536870912; simp [componentBytes]; omega) hf.1 hf.2 hd (fun q cA H1 hK1 hP1 hD1 hS1 => ?_)
  have hcA : cA = g.2.1 1 := zRA (hK1.2 4 (cA, .long) rfl).2 (hK1.2 1 (g.2.1 1, .long) rfl).2
  subst hcA
  intro T hT X0
  have hq := zfresh X hz hP1 hD1 hT X0
  subst hq
  have hP2 : va_P g.2.2 zcl (zW g.1 g.2.1 h ++ [(g.1 + h.length, zE g.1 g.2.1 (.inl (1, N, .inr (.inl (fun _ => 0)))))]) H1 := hP1
  rw [zW_app] at hP2
  exact kk p e s m args below meth c H1 locs lsA X (by simp; omega) hP2 hS1 hL T hT X0
theorem zw_newz {x : Int32} {N : Nat} (hd : decode M.2.1 pc = .ok (.newarray .boolean, 2)) (ha : Cond.arrayClass (newarray.typeOf .boolean) ∈ zgw) (h0 : ¬ x < 0) (hN : x.toNatClampNeg = N) (hb : N * 8 ≤ 536870912) (hf : k + 1 ≤ R.cells ∧ n + N ≤ R.slots) (kk : WW l g M R Z QQ (pc + 2) ls (.ref h.length :: st) (h ++ [.inl (2, N, .inl (fun _ => 0))]) (k + 1) (n + N)) : WW l g M R Z QQ pc ls (.int x :: st) h k n := by
  intro p e s m args below meth c H locs lsA X hz hP hS hL
  have hts := X.2.2.2.2.2.1
  refine va_newa (atype := .boolean) (ty := .boolean) (a0 := (N, .inl (fun _ => 0))) X.1 X.2.1 (hts _ ha) rfl X.2.2.2.2.2.2.2.2.2.1.1 hP zW_D hS (fun q hq => Nat.le_trans X.2.2.2.2.2.2.2.2.2.2 hq) (fun cA => rfl) h0 hN (by show N * componentBytes .boolean ≤ 536870912; simp [componentBytes]; omega) hf.1 hf.2 hd (fun q cA H1 hK1 hP1 hD1 hS1 => ?_)
  have hcA : cA = g.2.1 2 := zRA (hK1.2 4 (cA, .boolean) rfl).2 (hK1.2 2 (g.2.1 2, .boolean) rfl).2
  subst hcA
  intro T hT X0
  have hq := zfresh X hz hP1 hD1 hT X0
  subst hq
  have hP2 : va_P g.2.2 zcl (zW g.1 g.2.1 h ++ [(g.1 + h.length, zE g.1 g.2.1 (.inl (2, N, .inl (fun _ => 0))))]) H1 := hP1
  rw [zW_app] at hP2
  exact kk p e s m args below meth c H1 locs lsA X (by simp; omega) hP2 hS1 hL T hT X0
theorem zw_newq {idx : Nat} {x : Int32} {N : Nat} (hd : decode M.2.1 pc = .ok (.anewarray idx, 3)) (hl : Cond.classLink M.1.cls idx "SweptFloors$Situation" ∈ zgw) (h0 : ¬ x < 0) (hN : x.toNatClampNeg = N) (hb : N * 8 ≤ 536870912) (hf : k + 1 ≤ R.cells ∧ n + N ≤ R.slots) (kk : WW l g M R Z QQ (pc + 3) ls (.ref h.length :: st) (h ++ [.inl (3, N, .inr (.inr (.inr (.inr (fun _ => none)))))]) (k + 1) (n + N)) : WW l g M R Z QQ pc ls (.int x :: st) h k n := by
  intro p e s m args below meth c H locs lsA X hz hP hS hL
  have hts := X.2.2.2.2.2.1
  refine va_newq X.1 X.2.1 X.2.2.2.2.1 (hts _ hl) X.2.2.2.2.2.2.2.2.2.1.2.2 X.2.2.2.2.2.2.2.2.2.1.1 hP zW_D hS (fun q hq => Nat.le_trans X.2.2.2.2.2.2.2.2.2.2 hq) h0 hN (by omega) hf.1 hf.2 hd (fun q cA H1 hK1 hP1 hD1 hS1 => ?_)
  have hcA : cA = g.2.1 3 := zRA (hK1.2 4 (cA, .object "SweptFloors$Situation") rfl).2 (hK1.2 3 (g.2.1 3, .object "SweptFloors$Situation") rfl).2
  subst hcA
  intro T hT X0
  have hq := zfresh X hz hP1 hD1 hT X0
  subst hq
  have hP2 : va_P g.2.2 zcl (zW g.1 g.2.1 h ++ [(g.1 + h.length, zE g.1 g.2.1 (.inl (3, N, .inr (.inr (.inr (.inr (fun _ => none)))))))]) H1 := hP1
  rw [zW_app] at hP2
  exact kk p e s m args below meth c H1 locs lsA X (by simp; omega) hP2 hS1 hL T hT X0
theorem zw_copyl {idx q0 q1 n0 n1 : Nat} {f f2 : Nat → Int64} (hd : decode M.2.1 pc = .ok (.invokestatic idx, 3)) (hl : Cond.methodLink M.1.cls idx arraycopyName ∈ zgw) (hna : Cond.native arraycopyName ∈ zgw) (hsc : Cond.static arraycopyName ∈ zgw) (hini : Cond.initialized "java/lang/System" ∈ zgw) (h0 : h[q0]? = some (.inl (1, n0, .inr (.inl f)))) (h1 : h[q1]? = some (.inl (1, n1, .inr (.inl f2)))) {sp dp len : Int32} (g1 : ¬ sp < 0) (g2 : ¬ dp < 0) (g3 : ¬ len < 0) (g4 : sp.toNatClampNeg + len.toNatClampNeg ≤ n0) (g5 : dp.toNatClampNeg + len.toNatClampNeg ≤ n1) (hR : 1 ≤ R.frames ∧ (st.map Value.category).sum + (nativeFrameWords "java/lang/System" "arraycopy" 5 + 11) ≤ R.locals)
    (kk : WW l g M R Z QQ (pc + 3) ls st (h.set q1 (.inl (1, n1, .inr (.inl (va_cpy f f2 sp.toNatClampNeg dp.toNatClampNeg len.toNatClampNeg))))) k n) : WW l g M R Z QQ pc ls (.int len :: .int dp :: .ref q1 :: .int sp :: .ref q0 :: st) h k n := by
  intro p e s m args below meth c H locs lsA X hz hP hS hL
  have hts := X.2.2.2.2.2.1
  have hroom : ((st.map (zv g.1)).map fun v => v.category).sum + (nativeFrameWords "java/lang/System" "arraycopy" 5 + 11) ≤ R.locals := by
    have e : (st.map (zv g.1)).map (fun v => v.category) = st.map Value.category := by
      rw [List.map_map]
      exact List.map_congr_left (fun v _ => zv_cat g.1 v)
    rw [e]; exact hR.2
  refine va_copyl X.1 X.2.1 (X.2.2.2.1.trans hL.1.1.symm) X.2.2.2.2.1 (hts _ hl) (hts _ hna) (hts _ hsc) (hts _ hini) X.2.2.2.2.2.2.2.2.2.1.1 hP zW_D hS q0 q1 1 1 (zW_get h0) (zW_get h1) rfl rfl rfl g1 g2 g3 g4 g5 (fun i _ => rfl) hR.1 hroom hd (fun H1 locs1 hP1 hD1 hS1 => ?_)
  have hP2 : va_P g.2.2 zcl ((zW g.1 g.2.1 h).set q1 (g.1 + q1, zE g.1 g.2.1 (.inl (1, n1, .inr (.inl (va_cpy f f2 sp.toNatClampNeg dp.toNatClampNeg len.toNatClampNeg)))))) H1 := hP1
  rw [zW_set] at hP2
  exact kk p e s m args below meth c H1 locs1 lsA X (by rw [List.length_set]; exact hz) hP2 hS1 hL
end ZC
def PI (r : Int32) (h1 : zH) : Option Value → zH → Prop := fun v h' => v = some (.int r) ∧ h' = h1
def PL (r : Int64) (h1 : zH) : Option Value → zH → Prop := fun v h' => v = some (.long r) ∧ h' = h1
def PV (h1 : zH) : Option Value → zH → Prop := fun v h' => v = none ∧ h' = h1
theorem zRR {d mc ms : Nat} : d + 1 ≤ (zrm (d + 1) mc ms).frames ∧ 38 * d + 38 ≤ (zrm (d + 1) mc ms).locals := ⟨Nat.le_refl _, Nat.le_refl _⟩

section ZF
variable {l : Launch} {g : zG} {M : zM} {R : Room} {Z : State → Prop} {QQ : List Frame → Array Value → State → State → Prop} {pc : Nat} {ls : zL} {st : List Value} {h h1 : zH} {k n : Nat} {M' : zM} {idx d q ci : Nat} {fs : List Value} {T' : u_T} {N' : Nat} {post : Option Value → zH → Prop}
theorem zc_V0I {r : Int32} (hd : decode M.2.1 pc = .ok (.invokevirtual idx, 3)) (hm : zmV M' 0) (hk : zlk M.1.cls idx M'.1) (hq : h[q]? = some (.inr (ci, fs))) (hc : zcl[ci]? = some (M'.1.cls, T', N')) (hrun : Run l g M' d 0 0 [.ref q] h (PI r h1)) (kk : WW l g M R Z QQ (pc + 3) ls (.int r :: st) h1 k n) (hR : d + 1 ≤ R.frames ∧ 38 * d + 38 ≤ R.locals) (hst : (st.map Value.category).sum ≤ 8) (hf : k ≤ R.cells ∧ n ≤ R.slots) : WW l g M R Z QQ pc ls (.ref q :: st) h k n := zw_callV [] hd hm hk hR hq hc hf hst hrun (fun v h2 ⟨e1, e2⟩ => by subst e1; subst e2; exact kk)
theorem zc_V0L {r : Int64} (hd : decode M.2.1 pc = .ok (.invokevirtual idx, 3)) (hm : zmV M' 0) (hk : zlk M.1.cls idx M'.1) (hq : h[q]? = some (.inr (ci, fs))) (hc : zcl[ci]? = some (M'.1.cls, T', N')) (hrun : Run l g M' d 0 0 [.ref q] h (PL r h1)) (kk : WW l g M R Z QQ (pc + 3) ls (.long r :: st) h1 k n) (hR : d + 1 ≤ R.frames ∧ 38 * d + 38 ≤ R.locals) (hst : (st.map Value.category).sum ≤ 8) (hf : k ≤ R.cells ∧ n ≤ R.slots) : WW l g M R Z QQ pc ls (.ref q :: st) h k n := zw_callV [] hd hm hk hR hq hc hf hst hrun (fun v h2 ⟨e1, e2⟩ => by subst e1; subst e2; exact kk)
theorem zc_V0V (hd : decode M.2.1 pc = .ok (.invokevirtual idx, 3)) (hm : zmV M' 0) (hk : zlk M.1.cls idx M'.1) (hq : h[q]? = some (.inr (ci, fs))) (hc : zcl[ci]? = some (M'.1.cls, T', N')) (hrun : Run l g M' d 0 0 [.ref q] h (PV h1)) (kk : WW l g M R Z QQ (pc + 3) ls st h1 k n) (hR : d + 1 ≤ R.frames ∧ 38 * d + 38 ≤ R.locals) (hst : (st.map Value.category).sum ≤ 8) (hf : k ≤ R.cells ∧ n ≤ R.slots) : WW l g M R Z QQ pc ls (.ref q :: st) h k n := zw_callV [] hd hm hk hR hq hc hf hst hrun (fun v h2 ⟨e1, e2⟩ => by subst e1; subst e2; exact kk)
theorem zg_V0 {mc ms : Nat} (hd : decode M.2.1 pc = .ok (.invokevirtual idx, 3)) (hm : zmV M' 0) (hk : zlk M.1.cls idx M'.1) (hq : h[q]? = some (.inr (ci, fs))) (hc : zcl[ci]? = some (M'.1.cls, T', N')) (hrun : Run l g M' d mc ms [.ref q] h post) (hR : d + 1 ≤ R.frames ∧ 38 * d + 38 ≤ R.locals) (hst : (st.map Value.category).sum ≤ 8) (hf : k + mc ≤ R.cells ∧ n + ms ≤ R.slots) (kk : ∀ v h', post v h' → WW l g M R Z QQ (pc + 3) ls (v.toList ++ st) h' (k + mc) (n + ms)) : WW l g M R Z QQ pc ls (.ref q :: st) h k n := zw_callV [] hd hm hk hR hq hc hf hst hrun kk
theorem zc_V1I {a1 : Value} {r : Int32} (hd : decode M.2.1 pc = .ok (.invokevirtual idx, 3)) (hm : zmV M' 1) (hk : zlk M.1.cls idx M'.1) (hq : h[q]? = some (.inr (ci, fs))) (hc : zcl[ci]? = some (M'.1.cls, T', N')) (hrun : Run l g M' d 0 0 [.ref q, a1] h (PI r h1)) (kk : WW l g M R Z QQ (pc + 3) ls (.int r :: st) h1 k n) (hR : d + 1 ≤ R.frames ∧ 38 * d + 38 ≤ R.locals) (hst : (st.map Value.category).sum ≤ 8) (hf : k ≤ R.cells ∧ n ≤ R.slots) : WW l g M R Z QQ pc ls (a1 :: .ref q :: st) h k n := zw_callV [a1] hd hm hk hR hq hc hf hst hrun (fun v h2 ⟨e1, e2⟩ => by subst e1; subst e2; exact kk)
theorem zc_V1L {a1 : Value} {r : Int64} (hd : decode M.2.1 pc = .ok (.invokevirtual idx, 3)) (hm : zmV M' 1) (hk : zlk M.1.cls idx M'.1) (hq : h[q]? = some (.inr (ci, fs))) (hc : zcl[ci]? = some (M'.1.cls, T', N')) (hrun : Run l g M' d 0 0 [.ref q, a1] h (PL r h1)) (kk : WW l g M R Z QQ (pc + 3) ls (.long r :: st) h1 k n) (hR : d + 1 ≤ R.frames ∧ 38 * d + 38 ≤ R.locals) (hst : (st.map Value.category).sum ≤ 8) (hf : k ≤ R.cells ∧ n ≤ R.slots) : WW l g M R Z QQ pc ls (a1 :: .ref q :: st) h k n := zw_callV [a1] hd hm hk hR hq hc hf hst hrun (fun v h2 ⟨e1, e2⟩ => by subst e1; subst e2; exact kk)
theorem zc_V1V {a1 : Value} (hd : decode M.2.1 pc = .ok (.invokevirtual idx, 3)) (hm : zmV M' 1) (hk : zlk M.1.cls idx M'.1) (hq : h[q]? = some (.inr (ci, fs))) (hc : zcl[ci]? = some (M'.1.cls, T', N')) (hrun : Run l g M' d 0 0 [.ref q, a1] h (PV h1)) (kk : WW l g M R Z QQ (pc + 3) ls st h1 k n) (hR : d + 1 ≤ R.frames ∧ 38 * d + 38 ≤ R.locals) (hst : (st.map Value.category).sum ≤ 8) (hf : k ≤ R.cells ∧ n ≤ R.slots) : WW l g M R Z QQ pc ls (a1 :: .ref q :: st) h k n := zw_callV [a1] hd hm hk hR hq hc hf hst hrun (fun v h2 ⟨e1, e2⟩ => by subst e1; subst e2; exact kk)
theorem zg_V1 {a1 : Value} {mc ms : Nat} (hd : decode M.2.1 pc = .ok (.invokevirtual idx, 3)) (hm : zmV M' 1) (hk : zlk M.1.cls idx M'.1) (hq : h[q]? = some (.inr (ci, fs))) (hc : zcl[ci]? = some (M'.1.cls, T', N')) (hrun : Run l g M' d mc ms [.ref q, a1] h post) (hR : d + 1 ≤ R.frames ∧ 38 * d + 38 ≤ R.locals) (hst : (st.map Value.category).sum ≤ 8) (hf : k + mc ≤ R.cells ∧ n + ms ≤ R.slots) (kk : ∀ v h', post v h' → WW l g M R Z QQ (pc + 3) ls (v.toList ++ st) h' (k + mc) (n + ms)) : WW l g M R Z QQ pc ls (a1 :: .ref q :: st) h k n := zw_callV [a1] hd hm hk hR hq hc hf hst hrun kk
theorem zc_V2I {a1 a2 : Value} {r : Int32} (hd : decode M.2.1 pc = .ok (.invokevirtual idx, 3)) (hm : zmV M' 2) (hk : zlk M.1.cls idx M'.1) (hq : h[q]? = some (.inr (ci, fs))) (hc : zcl[ci]? = some (M'.1.cls, T', N')) (hrun : Run l g M' d 0 0 [.ref q, a1, a2] h (PI r h1)) (kk : WW l g M R Z QQ (pc + 3) ls (.int r :: st) h1 k n) (hR : d + 1 ≤ R.frames ∧ 38 * d + 38 ≤ R.locals) (hst : (st.map Value.category).sum ≤ 8) (hf : k ≤ R.cells ∧ n ≤ R.slots) : WW l g M R Z QQ pc ls (a2 :: a1 :: .ref q :: st) h k n := zw_callV [a1, a2] hd hm hk hR hq hc hf hst hrun (fun v h2 ⟨e1, e2⟩ => by subst e1; subst e2; exact kk)
theorem zc_V2L {a1 a2 : Value} {r : Int64} (hd : decode M.2.1 pc = .ok (.invokevirtual idx, 3)) (hm : zmV M' 2) (hk : zlk M.1.cls idx M'.1) (hq : h[q]? = some (.inr (ci, fs))) (hc : zcl[ci]? = some (M'.1.cls, T', N')) (hrun : Run l g M' d 0 0 [.ref q, a1, a2] h (PL r h1)) (kk : WW l g M R Z QQ (pc + 3) ls (.long r :: st) h1 k n) (hR : d + 1 ≤ R.frames ∧ 38 * d + 38 ≤ R.locals) (hst : (st.map Value.category).sum ≤ 8) (hf : k ≤ R.cells ∧ n ≤ R.slots) : WW l g M R Z QQ pc ls (a2 :: a1 :: .ref q :: st) h k n := zw_callV [a1, a2] hd hm hk hR hq hc hf hst hrun (fun v h2 ⟨e1, e2⟩ => by subst e1; subst e2; exact kk)
theorem zc_V2V {a1 a2 : Value} (hd : decode M.2.1 pc = .ok (.invokevirtual idx, 3)) (hm : zmV M' 2) (hk : zlk M.1.cls idx M'.1) (hq : h[q]? = some (.inr (ci, fs))) (hc : zcl[ci]? = some (M'.1.cls, T', N')) (hrun : Run l g M' d 0 0 [.ref q, a1, a2] h (PV h1)) (kk : WW l g M R Z QQ (pc + 3) ls st h1 k n) (hR : d + 1 ≤ R.frames ∧ 38 * d + 38 ≤ R.locals) (hst : (st.map Value.category).sum ≤ 8) (hf : k ≤ R.cells ∧ n ≤ R.slots) : WW l g M R Z QQ pc ls (a2 :: a1 :: .ref q :: st) h k n := zw_callV [a1, a2] hd hm hk hR hq hc hf hst hrun (fun v h2 ⟨e1, e2⟩ => by subst e1; subst e2; exact kk)
theorem zg_V2 {a1 a2 : Value} {mc ms : Nat} (hd : decode M.2.1 pc = .ok (.invokevirtual idx, 3)) (hm : zmV M' 2) (hk : zlk M.1.cls idx M'.1) (hq : h[q]? = some (.inr (ci, fs))) (hc : zcl[ci]? = some (M'.1.cls, T', N')) (hrun : Run l g M' d mc ms [.ref q, a1, a2] h post) (hR : d + 1 ≤ R.frames ∧ 38 * d + 38 ≤ R.locals) (hst : (st.map Value.category).sum ≤ 8) (hf : k + mc ≤ R.cells ∧ n + ms ≤ R.slots) (kk : ∀ v h', post v h' → WW l g M R Z QQ (pc + 3) ls (v.toList ++ st) h' (k + mc) (n + ms)) : WW l g M R Z QQ pc ls (a2 :: a1 :: .ref q :: st) h k n := zw_callV [a1, a2] hd hm hk hR hq hc hf hst hrun kk
theorem zc_V3I {a1 a2 a3 : Value} {r : Int32} (hd : decode M.2.1 pc = .ok (.invokevirtual idx, 3)) (hm : zmV M' 3) (hk : zlk M.1.cls idx M'.1) (hq : h[q]? = some (.inr (ci, fs))) (hc : zcl[ci]? = some (M'.1.cls, T', N')) (hrun : Run l g M' d 0 0 [.ref q, a1, a2, a3] h (PI r h1)) (kk : WW l g M R Z QQ (pc + 3) ls (.int r :: st) h1 k n) (hR : d + 1 ≤ R.frames ∧ 38 * d + 38 ≤ R.locals) (hst : (st.map Value.category).sum ≤ 8) (hf : k ≤ R.cells ∧ n ≤ R.slots) : WW l g M R Z QQ pc ls (a3 :: a2 :: a1 :: .ref q :: st) h k n := zw_callV [a1, a2, a3] hd hm hk hR hq hc hf hst hrun (fun v h2 ⟨e1, e2⟩ => by subst e1; subst e2; exact kk)
theorem zc_V3L {a1 a2 a3 : Value} {r : Int64} (hd : decode M.2.1 pc = .ok (.invokevirtual idx, 3)) (hm : zmV M' 3) (hk : zlk M.1.cls idx M'.1) (hq : h[q]? = some (.inr (ci, fs))) (hc : zcl[ci]? = some (M'.1.cls, T', N')) (hrun : Run l g M' d 0 0 [.ref q, a1, a2, a3] h (PL r h1)) (kk : WW l g M R Z QQ (pc + 3) ls (.long r :: st) h1 k n) (hR : d + 1 ≤ R.frames ∧ 38 * d + 38 ≤ R.locals) (hst : (st.map Value.category).sum ≤ 8) (hf : k ≤ R.cells ∧ n ≤ R.slots) : WW l g M R Z QQ pc ls (a3 :: a2 :: a1 :: .ref q :: st) h k n := zw_callV [a1, a2, a3] hd hm hk hR hq hc hf hst hrun (fun v h2 ⟨e1, e2⟩ => by subst e1; subst e2; exact kk)
theorem zc_V3V {a1 a2 a3 : Value} (hd : decode M.2.1 pc = .ok (.invokevirtual idx, 3)) (hm : zmV M' 3) (hk : zlk M.1.cls idx M'.1) (hq : h[q]? = some (.inr (ci, fs))) (hc : zcl[ci]? = some (M'.1.cls, T', N')) (hrun : Run l g M' d 0 0 [.ref q, a1, a2, a3] h (PV h1)) (kk : WW l g M R Z QQ (pc + 3) ls st h1 k n) (hR : d + 1 ≤ R.frames ∧ 38 * d + 38 ≤ R.locals) (hst : (st.map Value.category).sum ≤ 8) (hf : k ≤ R.cells ∧ n ≤ R.slots) : WW l g M R Z QQ pc ls (a3 :: a2 :: a1 :: .ref q :: st) h k n := zw_callV [a1, a2, a3] hd hm hk hR hq hc hf hst hrun (fun v h2 ⟨e1, e2⟩ => by subst e1; subst e2; exact kk)
theorem zg_V3 {a1 a2 a3 : Value} {mc ms : Nat} (hd : decode M.2.1 pc = .ok (.invokevirtual idx, 3)) (hm : zmV M' 3) (hk : zlk M.1.cls idx M'.1) (hq : h[q]? = some (.inr (ci, fs))) (hc : zcl[ci]? = some (M'.1.cls, T', N')) (hrun : Run l g M' d mc ms [.ref q, a1, a2, a3] h post) (hR : d + 1 ≤ R.frames ∧ 38 * d + 38 ≤ R.locals) (hst : (st.map Value.category).sum ≤ 8) (hf : k + mc ≤ R.cells ∧ n + ms ≤ R.slots) (kk : ∀ v h', post v h' → WW l g M R Z QQ (pc + 3) ls (v.toList ++ st) h' (k + mc) (n + ms)) : WW l g M R Z QQ pc ls (a3 :: a2 :: a1 :: .ref q :: st) h k n := zw_callV [a1, a2, a3] hd hm hk hR hq hc hf hst hrun kk
theorem zc_S1I {a1 : Value} {r : Int32} (hd : decode M.2.1 pc = .ok (.invokestatic idx, 3)) (hm : zmS M' 1) (hk : zlk M.1.cls idx M'.1) (hrun : Run l g M' d 0 0 [a1] h (PI r h1)) (kk : WW l g M R Z QQ (pc + 3) ls (.int r :: st) h1 k n) (hR : d + 1 ≤ R.frames ∧ 38 * d + 38 ≤ R.locals) (hst : (st.map Value.category).sum ≤ 8) (hf : k ≤ R.cells ∧ n ≤ R.slots) : WW l g M R Z QQ pc ls (a1 :: st) h k n := zw_callS [a1] hd hm hk hR hf hst hrun (fun v h2 ⟨e1, e2⟩ => by subst e1; subst e2; exact kk)
theorem zc_S1L {a1 : Value} {r : Int64} (hd : decode M.2.1 pc = .ok (.invokestatic idx, 3)) (hm : zmS M' 1) (hk : zlk M.1.cls idx M'.1) (hrun : Run l g M' d 0 0 [a1] h (PL r h1)) (kk : WW l g M R Z QQ (pc + 3) ls (.long r :: st) h1 k n) (hR : d + 1 ≤ R.frames ∧ 38 * d + 38 ≤ R.locals) (hst : (st.map Value.category).sum ≤ 8) (hf : k ≤ R.cells ∧ n ≤ R.slots) : WW l g M R Z QQ pc ls (a1 :: st) h k n := zw_callS [a1] hd hm hk hR hf hst hrun (fun v h2 ⟨e1, e2⟩ => by subst e1; subst e2; exact kk)
theorem zc_S1V {a1 : Value} (hd : decode M.2.1 pc = .ok (.invokestatic idx, 3)) (hm : zmS M' 1) (hk : zlk M.1.cls idx M'.1) (hrun : Run l g M' d 0 0 [a1] h (PV h1)) (kk : WW l g M R Z QQ (pc + 3) ls st h1 k n) (hR : d + 1 ≤ R.frames ∧ 38 * d + 38 ≤ R.locals) (hst : (st.map Value.category).sum ≤ 8) (hf : k ≤ R.cells ∧ n ≤ R.slots) : WW l g M R Z QQ pc ls (a1 :: st) h k n := zw_callS [a1] hd hm hk hR hf hst hrun (fun v h2 ⟨e1, e2⟩ => by subst e1; subst e2; exact kk)
theorem zg_S1 {a1 : Value} {mc ms : Nat} (hd : decode M.2.1 pc = .ok (.invokestatic idx, 3)) (hm : zmS M' 1) (hk : zlk M.1.cls idx M'.1) (hrun : Run l g M' d mc ms [a1] h post) (hR : d + 1 ≤ R.frames ∧ 38 * d + 38 ≤ R.locals) (hst : (st.map Value.category).sum ≤ 8) (hf : k + mc ≤ R.cells ∧ n + ms ≤ R.slots) (kk : ∀ v h', post v h' → WW l g M R Z QQ (pc + 3) ls (v.toList ++ st) h' (k + mc) (n + ms)) : WW l g M R Z QQ pc ls (a1 :: st) h k n := zw_callS [a1] hd hm hk hR hf hst hrun kk
theorem zc_S2I {a1 a2 : Value} {r : Int32} (hd : decode M.2.1 pc = .ok (.invokestatic idx, 3)) (hm : zmS M' 2) (hk : zlk M.1.cls idx M'.1) (hrun : Run l g M' d 0 0 [a1, a2] h (PI r h1)) (kk : WW l g M R Z QQ (pc + 3) ls (.int r :: st) h1 k n) (hR : d + 1 ≤ R.frames ∧ 38 * d + 38 ≤ R.locals) (hst : (st.map Value.category).sum ≤ 8) (hf : k ≤ R.cells ∧ n ≤ R.slots) : WW l g M R Z QQ pc ls (a2 :: a1 :: st) h k n := zw_callS [a1, a2] hd hm hk hR hf hst hrun (fun v h2 ⟨e1, e2⟩ => by subst e1; subst e2; exact kk)
theorem zc_S2L {a1 a2 : Value} {r : Int64} (hd : decode M.2.1 pc = .ok (.invokestatic idx, 3)) (hm : zmS M' 2) (hk : zlk M.1.cls idx M'.1) (hrun : Run l g M' d 0 0 [a1, a2] h (PL r h1)) (kk : WW l g M R Z QQ (pc + 3) ls (.long r :: st) h1 k n) (hR : d + 1 ≤ R.frames ∧ 38 * d + 38 ≤ R.locals) (hst : (st.map Value.category).sum ≤ 8) (hf : k ≤ R.cells ∧ n ≤ R.slots) : WW l g M R Z QQ pc ls (a2 :: a1 :: st) h k n := zw_callS [a1, a2] hd hm hk hR hf hst hrun (fun v h2 ⟨e1, e2⟩ => by subst e1; subst e2; exact kk)
theorem zc_S2V {a1 a2 : Value} (hd : decode M.2.1 pc = .ok (.invokestatic idx, 3)) (hm : zmS M' 2) (hk : zlk M.1.cls idx M'.1) (hrun : Run l g M' d 0 0 [a1, a2] h (PV h1)) (kk : WW l g M R Z QQ (pc + 3) ls st h1 k n) (hR : d + 1 ≤ R.frames ∧ 38 * d + 38 ≤ R.locals) (hst : (st.map Value.category).sum ≤ 8) (hf : k ≤ R.cells ∧ n ≤ R.slots) : WW l g M R Z QQ pc ls (a2 :: a1 :: st) h k n := zw_callS [a1, a2] hd hm hk hR hf hst hrun (fun v h2 ⟨e1, e2⟩ => by subst e1; subst e2; exact kk)
theorem zg_S2 {a1 a2 : Value} {mc ms : Nat} (hd : decode M.2.1 pc = .ok (.invokestatic idx, 3)) (hm : zmS M' 2) (hk : zlk M.1.cls idx M'.1) (hrun : Run l g M' d mc ms [a1, a2] h post) (hR : d + 1 ≤ R.frames ∧ 38 * d + 38 ≤ R.locals) (hst : (st.map Value.category).sum ≤ 8) (hf : k + mc ≤ R.cells ∧ n + ms ≤ R.slots) (kk : ∀ v h', post v h' → WW l g M R Z QQ (pc + 3) ls (v.toList ++ st) h' (k + mc) (n + ms)) : WW l g M R Z QQ pc ls (a2 :: a1 :: st) h k n := zw_callS [a1, a2] hd hm hk hR hf hst hrun kk
theorem zc_S3I {a1 a2 a3 : Value} {r : Int32} (hd : decode M.2.1 pc = .ok (.invokestatic idx, 3)) (hm : zmS M' 3) (hk : zlk M.1.cls idx M'.1) (hrun : Run l g M' d 0 0 [a1, a2, a3] h (PI r h1)) (kk : WW l g M R Z QQ (pc + 3) ls (.int r :: st) h1 k n) (hR : d + 1 ≤ R.frames ∧ 38 * d + 38 ≤ R.locals) (hst : (st.map Value.category).sum ≤ 8) (hf : k ≤ R.cells ∧ n ≤ R.slots) : WW l g M R Z QQ pc ls (a3 :: a2 :: a1 :: st) h k n := zw_callS [a1, a2, a3] hd hm hk hR hf hst hrun (fun v h2 ⟨e1, e2⟩ => by subst e1; subst e2; exact kk)
theorem zc_S3L {a1 a2 a3 : Value} {r : Int64} (hd : decode M.2.1 pc = .ok (.invokestatic idx, 3)) (hm : zmS M' 3) (hk : zlk M.1.cls idx M'.1) (hrun : Run l g M' d 0 0 [a1, a2, a3] h (PL r h1)) (kk : WW l g M R Z QQ (pc + 3) ls (.long r :: st) h1 k n) (hR : d + 1 ≤ R.frames ∧ 38 * d + 38 ≤ R.locals) (hst : (st.map Value.category).sum ≤ 8) (hf : k ≤ R.cells ∧ n ≤ R.slots) : WW l g M R Z QQ pc ls (a3 :: a2 :: a1 :: st) h k n := zw_callS [a1, a2, a3] hd hm hk hR hf hst hrun (fun v h2 ⟨e1, e2⟩ => by subst e1; subst e2; exact kk)
theorem zc_S3V {a1 a2 a3 : Value} (hd : decode M.2.1 pc = .ok (.invokestatic idx, 3)) (hm : zmS M' 3) (hk : zlk M.1.cls idx M'.1) (hrun : Run l g M' d 0 0 [a1, a2, a3] h (PV h1)) (kk : WW l g M R Z QQ (pc + 3) ls st h1 k n) (hR : d + 1 ≤ R.frames ∧ 38 * d + 38 ≤ R.locals) (hst : (st.map Value.category).sum ≤ 8) (hf : k ≤ R.cells ∧ n ≤ R.slots) : WW l g M R Z QQ pc ls (a3 :: a2 :: a1 :: st) h k n := zw_callS [a1, a2, a3] hd hm hk hR hf hst hrun (fun v h2 ⟨e1, e2⟩ => by subst e1; subst e2; exact kk)
theorem zg_S3 {a1 a2 a3 : Value} {mc ms : Nat} (hd : decode M.2.1 pc = .ok (.invokestatic idx, 3)) (hm : zmS M' 3) (hk : zlk M.1.cls idx M'.1) (hrun : Run l g M' d mc ms [a1, a2, a3] h post) (hR : d + 1 ≤ R.frames ∧ 38 * d + 38 ≤ R.locals) (hst : (st.map Value.category).sum ≤ 8) (hf : k + mc ≤ R.cells ∧ n + ms ≤ R.slots) (kk : ∀ v h', post v h' → WW l g M R Z QQ (pc + 3) ls (v.toList ++ st) h' (k + mc) (n + ms)) : WW l g M R Z QQ pc ls (a3 :: a2 :: a1 :: st) h k n := zw_callS [a1, a2, a3] hd hm hk hR hf hst hrun kk
theorem zc_I0V (hd : decode M.2.1 pc = .ok (.invokespecial idx, 3)) (hm : zmI M' 0) (hk : zlk M.1.cls idx M'.1) (hrun : Run l g M' d 0 0 [.ref q] h (PV h1)) (kk : WW l g M R Z QQ (pc + 3) ls st h1 k n) (hR : d + 1 ≤ R.frames ∧ 38 * d + 38 ≤ R.locals) (hst : (st.map Value.category).sum ≤ 8) (hf : k ≤ R.cells ∧ n ≤ R.slots) : WW l g M R Z QQ pc ls (.ref q :: st) h k n := zw_callI [] hd hm hk hR hf hst hrun (fun v h2 ⟨e1, e2⟩ => by subst e1; subst e2; exact kk)
theorem zg_I0 {mc ms : Nat} (hd : decode M.2.1 pc = .ok (.invokespecial idx, 3)) (hm : zmI M' 0) (hk : zlk M.1.cls idx M'.1) (hrun : Run l g M' d mc ms [.ref q] h post) (hR : d + 1 ≤ R.frames ∧ 38 * d + 38 ≤ R.locals) (hst : (st.map Value.category).sum ≤ 8) (hf : k + mc ≤ R.cells ∧ n + ms ≤ R.slots) (kk : ∀ v h', post v h' → WW l g M R Z QQ (pc + 3) ls (v.toList ++ st) h' (k + mc) (n + ms)) : WW l g M R Z QQ pc ls (.ref q :: st) h k n := zw_callI [] hd hm hk hR hf hst hrun kk
theorem zc_I1V {a1 : Value} (hd : decode M.2.1 pc = .ok (.invokespecial idx, 3)) (hm : zmI M' 1) (hk : zlk M.1.cls idx M'.1) (hrun : Run l g M' d 0 0 [.ref q, a1] h (PV h1)) (kk : WW l g M R Z QQ (pc + 3) ls st h1 k n) (hR : d + 1 ≤ R.frames ∧ 38 * d + 38 ≤ R.locals) (hst : (st.map Value.category).sum ≤ 8) (hf : k ≤ R.cells ∧ n ≤ R.slots) : WW l g M R Z QQ pc ls (a1 :: .ref q :: st) h k n := zw_callI [a1] hd hm hk hR hf hst hrun (fun v h2 ⟨e1, e2⟩ => by subst e1; subst e2; exact kk)
theorem zg_I1 {a1 : Value} {mc ms : Nat} (hd : decode M.2.1 pc = .ok (.invokespecial idx, 3)) (hm : zmI M' 1) (hk : zlk M.1.cls idx M'.1) (hrun : Run l g M' d mc ms [.ref q, a1] h post) (hR : d + 1 ≤ R.frames ∧ 38 * d + 38 ≤ R.locals) (hst : (st.map Value.category).sum ≤ 8) (hf : k + mc ≤ R.cells ∧ n + ms ≤ R.slots) (kk : ∀ v h', post v h' → WW l g M R Z QQ (pc + 3) ls (v.toList ++ st) h' (k + mc) (n + ms)) : WW l g M R Z QQ pc ls (a1 :: .ref q :: st) h k n := zw_callI [a1] hd hm hk hR hf hst hrun kk
theorem zc_I2V {a1 a2 : Value} (hd : decode M.2.1 pc = .ok (.invokespecial idx, 3)) (hm : zmI M' 2) (hk : zlk M.1.cls idx M'.1) (hrun : Run l g M' d 0 0 [.ref q, a1, a2] h (PV h1)) (kk : WW l g M R Z QQ (pc + 3) ls st h1 k n) (hR : d + 1 ≤ R.frames ∧ 38 * d + 38 ≤ R.locals) (hst : (st.map Value.category).sum ≤ 8) (hf : k ≤ R.cells ∧ n ≤ R.slots) : WW l g M R Z QQ pc ls (a2 :: a1 :: .ref q :: st) h k n := zw_callI [a1, a2] hd hm hk hR hf hst hrun (fun v h2 ⟨e1, e2⟩ => by subst e1; subst e2; exact kk)
theorem zg_I2 {a1 a2 : Value} {mc ms : Nat} (hd : decode M.2.1 pc = .ok (.invokespecial idx, 3)) (hm : zmI M' 2) (hk : zlk M.1.cls idx M'.1) (hrun : Run l g M' d mc ms [.ref q, a1, a2] h post) (hR : d + 1 ≤ R.frames ∧ 38 * d + 38 ≤ R.locals) (hst : (st.map Value.category).sum ≤ 8) (hf : k + mc ≤ R.cells ∧ n + ms ≤ R.slots) (kk : ∀ v h', post v h' → WW l g M R Z QQ (pc + 3) ls (v.toList ++ st) h' (k + mc) (n + ms)) : WW l g M R Z QQ pc ls (a2 :: a1 :: .ref q :: st) h k n := zw_callI [a1, a2] hd hm hk hR hf hst hrun kk
theorem zc_I3V {a1 a2 a3 : Value} (hd : decode M.2.1 pc = .ok (.invokespecial idx, 3)) (hm : zmI M' 3) (hk : zlk M.1.cls idx M'.1) (hrun : Run l g M' d 0 0 [.ref q, a1, a2, a3] h (PV h1)) (kk : WW l g M R Z QQ (pc + 3) ls st h1 k n) (hR : d + 1 ≤ R.frames ∧ 38 * d + 38 ≤ R.locals) (hst : (st.map Value.category).sum ≤ 8) (hf : k ≤ R.cells ∧ n ≤ R.slots) : WW l g M R Z QQ pc ls (a3 :: a2 :: a1 :: .ref q :: st) h k n := zw_callI [a1, a2, a3] hd hm hk hR hf hst hrun (fun v h2 ⟨e1, e2⟩ => by subst e1; subst e2; exact kk)
theorem zg_I3 {a1 a2 a3 : Value} {mc ms : Nat} (hd : decode M.2.1 pc = .ok (.invokespecial idx, 3)) (hm : zmI M' 3) (hk : zlk M.1.cls idx M'.1) (hrun : Run l g M' d mc ms [.ref q, a1, a2, a3] h post) (hR : d + 1 ≤ R.frames ∧ 38 * d + 38 ≤ R.locals) (hst : (st.map Value.category).sum ≤ 8) (hf : k + mc ≤ R.cells ∧ n + ms ≤ R.slots) (kk : ∀ v h', post v h' → WW l g M R Z QQ (pc + 3) ls (v.toList ++ st) h' (k + mc) (n + ms)) : WW l g M R Z QQ pc ls (a3 :: a2 :: a1 :: .ref q :: st) h k n := zw_callI [a1, a2, a3] hd hm hk hR hf hst hrun kk
end ZF
