theorem zmm_H_35 : Cond.methodLink "SweptFloors$History" 35 Lib.Math.min.name ∈ zgw := zgw_p 345 (by decide +kernel) (by decide +kernel)
theorem zmm_F_91 : Cond.methodLink "SweptFloors" 91 Lib.Math.min.name ∈ zgw := zgw_p 348 (by decide +kernel) (by decide +kernel)
theorem zmm_P_33 : Cond.methodLink "SweptFloors$Pilot" 33 Lib.Math.min.name ∈ zgw := zgw_p 467 (by decide +kernel) (by decide +kernel)
theorem zmm_s : Cond.static Lib.Math.min.name ∈ zgw := zgw_p 346 (by decide +kernel) (by decide +kernel)
theorem zmm_i : Cond.initialized "java/lang/Math" ∈ zgw := zgw_p 10 (by decide +kernel) (by decide +kernel)
theorem zmm_c : Cond.code Lib.Math.min.name Lib.Math.min.code 2 (some .int) ∈ zgw := zgw_p 347 (by decide +kernel) (by decide +kernel)
section ZO
variable {l : Launch} {g : zG} {M : zM} {R : Room} {Z : State → Prop} {QQ : List Frame → Array Value → State → State → Prop} {pc : Nat} {ls : zL} {st : List Value} {h : zH} {k n : Nat}
theorem zw_mmin {idx : Nat} {x y : Int32} (hd : decode M.2.1 pc = .ok (.invokestatic idx, 3)) (hl : Cond.methodLink M.1.cls idx Lib.Math.min.name ∈ zgw) (hR : 1 ≤ R.frames ∧ 38 ≤ R.locals) (hst : (st.map Value.category).sum ≤ 8) (hf : k ≤ R.cells ∧ n ≤ R.slots) (kk : WW l g M R Z QQ (pc + 3) ls (.int (if y < x then y else x) :: st) h k n) : WW l g M R Z QQ pc ls (.int y :: .int x :: st) h k n := by
  intro p e s m args below meth c H locs lsA X hz hP hS hL
  have hts := X.2.2.2.2.2.1
  have h8 := zst_room (g := g) hst
  exact va_mmin X.1 X.2.1 (X.2.2.2.1.trans hL.1.1.symm) X.2.2.2.2.1 (hts _ hl) (hts _ zmm_s) (hts _ zmm_i) (hts _ zmm_c) hR.1 (by have := hR.2; omega) hf.1 hf.2 hd (kk p e s m args below meth c H locs lsA X hz hP hS hL)
theorem arrV_ext {cA : ClassId} {N : Nat} {f f2 : Nat → Value} (he : ∀ j, j < N → f j = f2 j) : arrV cA N f = arrV cA N f2 := by
  have e : (fun j : Fin N => f j.val) = (fun j : Fin N => f2 j.val) := funext fun j => he j.val j.isLt
  simp only [arrV]
  rw [e]
theorem zP_swap {D : va_G} {b : Nat} {ca : Nat → ClassId} {H : Heap} {q : Nat} {c c2 : zC} (hq : h[q]? = some c) (he : va_at D zcl (b + q, zE b ca c) H → va_at D zcl (b + q, zE b ca c2) H) (hP : va_P D zcl (zW b ca h) H) : va_P D zcl (zW b ca (h.set q c2)) H := by
  intro i x hx
  by_cases e : q = i
  · subst e
    have hl : q < h.length := (List.getElem?_eq_some_iff.mp hq).1
    have h1 : (h.set q c2)[q]? = some c2 := by simp [hl]
    rw [zW_get h1] at hx
    cases hx
    exact he (hP q _ (zW_get hq))
  · have h1 : (h.set q c2)[i]? = h[i]? := by simp [List.getElem?_set, e]
    have h2 : (zW b ca (h.set q c2))[i]? = (zW b ca h)[i]? := by
      simp only [zW, List.getElem?_mapIdx, h1]
    rw [h2] at hx
    exact hP i x hx
/-- an array's contents count up to its length -/
theorem zw_exti {q t N : Nat} {f : Nat → Int32} (f2 : Nat → Int32) (hq : h[q]? = some (.inl (t, N, .inl f))) (he : ∀ j, j < N → f j = f2 j) (kk : WW l g M R Z QQ pc ls st (h.set q (.inl (t, N, .inl f2))) k n) : WW l g M R Z QQ pc ls st h k n := by
  intro p e s m args below meth c H locs lsA X hz hP hS hL
  refine kk p e s m args below meth c H locs lsA X (by rw [List.length_set]; exact hz) (zP_swap hq (fun ha => ?_) hP) hS hL
  have ha' : H[g.1 + q]? = some (arrV (g.2.1 t) N (fun j => .int (f j))) := ha
  show H[g.1 + q]? = some (arrV (g.2.1 t) N (fun j => .int (f2 j)))
  rw [ha', arrV_ext (fun j hj => by rw [he j hj])]
theorem zw_extl {q t N : Nat} {f : Nat → Int64} (f2 : Nat → Int64) (hq : h[q]? = some (.inl (t, N, .inr (.inl f)))) (he : ∀ j, j < N → f j = f2 j) (kk : WW l g M R Z QQ pc ls st (h.set q (.inl (t, N, .inr (.inl f2)))) k n) : WW l g M R Z QQ pc ls st h k n := by
  intro p e s m args below meth c H locs lsA X hz hP hS hL
  refine kk p e s m args below meth c H locs lsA X (by rw [List.length_set]; exact hz) (zP_swap hq (fun ha => ?_) hP) hS hL
  have ha' : H[g.1 + q]? = some (arrV (g.2.1 t) N (fun j => .long (f j))) := ha
  show H[g.1 + q]? = some (arrV (g.2.1 t) N (fun j => .long (f2 j)))
  rw [ha', arrV_ext (fun j hj => by rw [he j hj])]
theorem zw_h {h2 : zH} (e : h = h2) (kk : WW l g M R Z QQ pc ls st h2 k n) : WW l g M R Z QQ pc ls st h k n := by rw [e]; exact kk
theorem zw_st {st2 : List Value} (e : st = st2) (kk : WW l g M R Z QQ pc ls st2 h k n) : WW l g M R Z QQ pc ls st h k n := by rw [e]; exact kk
theorem zw_incN {i j : Nat} (hd : decode M.2.1 pc = .ok (.iinc i 1, 3)) (hf : zfind i ls = some (.int (nI j))) (hn : i < M.2.2.1) (hk : zok i ls = true) (kk : WW l g M R Z QQ (pc + 3) ((i, some (.int (nI (j + 1)))) :: ls) st h k n) : WW l g M R Z QQ pc ls st h k n := zw_iinc hd hf (nI_1 j) hn hk kk
theorem zw_lk {ls2 : zL} (kk : WW l g M R Z QQ pc ls2 st h k n) (hs : zsub ls2 ls) : WW l g M R Z QQ pc ls st h k n := zw_ls hs kk
end ZO
/-! cells of the heap -/
theorem zg_eq {h : zH} {k : Nat} {c c2 : zC} (hk : h[k]? = some c) : (h.set k c2)[k]? = some c2 := by
  have hl : k < h.length := (List.getElem?_eq_some_iff.mp hk).1
  simp [hl]
theorem zg_ne {h : zH} {k j : Nat} {c2 : zC} {x : Option zC} (hne : k ≠ j) (hj : h[j]? = x) : (h.set k c2)[j]? = x := by
  rw [List.getElem?_set, if_neg hne]; exact hj
theorem zs_self {h : zH} {k : Nat} {c : zC} (hk : h[k]? = some c) : h.set k c = h := by
  apply List.ext_getElem?
  intro i
  by_cases e : k = i
  · subst e; rw [zg_eq hk, hk]
  · rw [zg_ne e rfl]
theorem zs_set (h : zH) (k : Nat) (c c2 : zC) : (h.set k c).set k c2 = h.set k c2 := by simp
theorem zs_comm (h : zH) {k j : Nat} (c c2 : zC) (hne : k ≠ j) : (h.set k c).set j c2 = (h.set j c2).set k c := List.set_comm _ _ hne
theorem zs_len (h : zH) (k : Nat) (c : zC) : (h.set k c).length = h.length := by simp

