/-! ===== the law's cases ===== -/
def LI (h : zH) (O : Om) : Prop := CX h O ∧ MX h O ∧ oOK' O ∧ h.length = 44
def lls (b i : Nat) : zL := [(0, some (.retAddr b)), (1, some (.ref 0)), (2, some (.ref 31)), (3, some (.int (nI i)))]
section C80
variable {l : Launch} {g : zG} {b L i : Nat} {xs : Nat → Int32} {QQ : List Frame → Array Value → State → State → Prop} {h : zH} {O : Om}
theorem lw_c0 (hi : i + 3 ≤ L) (hL : L ≤ 1536) (I : LI h O) (kk : ∀ h' O', LI h' O' → WW l g mL_law room_1 (zS g b L xs) QQ 666 (lls b i) [] h' 44 1733) : WW l g mL_law room_1 (zS g b L xs) QQ 144 (lls b i) [] h 44 1733 := by
  obtain ⟨a, m, ok, hl⟩ := I
  have hZ : ∀ s, zS g b L xs s → zS g b L xs s := fun _ q => q
  have e1 : nI i + 1 = nI (i + 1) := nI_add i 1
  have c1 : (nI (i + 1)).toNatClampNeg = i + 1 := nI_clamp (by omega)
  have v1 : vp_in (nI (i + 1)) L := vp_in_nI (by omega) (by omega)
  refine zw_aload_n dL_law_144 rfl ?_
  refine zw_aloadS_n dL_law_145 rfl ?_
  refine zw_iload_n dL_law_146 rfl ?_
  refine zw_iconst (v := 1) dL_law_147 (by decide) ?_
  refine zw_iadd dL_law_148 ?_
  rw [e1]
  refine zw_sld hZ dL_law_149 v1 ?_
  rw [c1]
  refine zx_V1I dL_law_150 zm_F_type zk_L_13 a.1 rfl (c_F_type (l := l) (g := g) (d := 0) a ok (x := xs (i + 1))) ⟨Nat.le_of_ble_eq_true rfl, Nat.le_of_ble_eq_true rfl⟩ (Nat.le_of_ble_eq_true rfl) ⟨Nat.le_of_ble_eq_true rfl, Nat.le_of_ble_eq_true rfl⟩ ?_
  rintro h1 ⟨a1, f1, l1⟩
  have m1 : MX h1 O := m.keep f1
  obtain ⟨qa, qb, z, hM, hS⟩ := id m1.1
  refine zw_aload_n dL_law_153 rfl ?_
  refine zw_aloadS_n dL_law_154 rfl ?_
  refine zw_iload_n dL_law_155 rfl ?_
  refine zw_iconst (v := 1) dL_law_156 (by decide) ?_
  refine zw_iadd dL_law_157 ?_
  rw [e1]
  refine zw_sld hZ dL_law_158 v1 ?_
  rw [c1]
  refine zx_V1I dL_law_159 zm_M_type zk_L_17 hM rfl (c_M_type (l := l) (g := g) (d := 0) m1 ok (x := xs (i + 1))) ⟨Nat.le_of_ble_eq_true rfl, Nat.le_of_ble_eq_true rfl⟩ (Nat.le_of_ble_eq_true rfl) ⟨Nat.le_of_ble_eq_true rfl, Nat.le_of_ble_eq_true rfl⟩ ?_
  rintro h2 ⟨m2, f2, l2⟩
  refine zw_icmp_eq 666 dL_law_162 (by decide) (fun c_162 => ?_) (fun c_162 => ?_)
  · exact kk h2 _ ⟨a1.keep f2, m2, ok_type ok _, by rw [l2, l1]; exact hl⟩
  · exact absurd rfl c_162
theorem lw_c1 (hi : i + 3 ≤ L) (hL : L ≤ 1536) (I : LI h O) (kk : ∀ h' O', LI h' O' → WW l g mL_law room_1 (zS g b L xs) QQ 666 (lls b i) [] h' 44 1733) : WW l g mL_law room_1 (zS g b L xs) QQ 167 (lls b i) [] h 44 1733 := by
  obtain ⟨a, m, ok, hl⟩ := I
  refine zw_aload_n dL_law_167 rfl ?_
  refine zx_V0I dL_law_168 zm_F_clear zk_L_18 a.1 rfl (c_F_clear (l := l) (g := g) (d := 0) a) ⟨Nat.le_of_ble_eq_true rfl, Nat.le_of_ble_eq_true rfl⟩ (Nat.le_of_ble_eq_true rfl) ⟨Nat.le_of_ble_eq_true rfl, Nat.le_of_ble_eq_true rfl⟩ ?_
  rintro h1 ⟨a1, f1, l1⟩
  have m1 : MX h1 O := m.keep f1
  obtain ⟨qa, qb, z, hM, hS⟩ := id m1.1
  refine zw_aload_n dL_law_171 rfl ?_
  refine zx_V0I dL_law_172 zm_M_clear zk_L_22 hM rfl (c_M_clear (l := l) (g := g) (d := 0) m1) ⟨Nat.le_of_ble_eq_true rfl, Nat.le_of_ble_eq_true rfl⟩ (Nat.le_of_ble_eq_true rfl) ⟨Nat.le_of_ble_eq_true rfl, Nat.le_of_ble_eq_true rfl⟩ ?_
  rintro h2 ⟨m2, f2, l2⟩
  refine zw_icmp_eq 666 dL_law_175 (by decide) (fun c_175 => ?_) (fun c_175 => ?_)
  · exact kk h2 _ ⟨a1.keep f2, m2, ok_len ok (Nat.zero_le _), by rw [l2, l1]; exact hl⟩
  · exact absurd rfl c_175
theorem lw_c2 (hi : i + 3 ≤ L) (hL : L ≤ 1536) (I : LI h O) (kk : ∀ h' O', LI h' O' → WW l g mL_law room_1 (zS g b L xs) QQ 666 (lls b i) [] h' 44 1733) : WW l g mL_law room_1 (zS g b L xs) QQ 180 (lls b i) [] h 44 1733 := by
  obtain ⟨a, m, ok, hl⟩ := I
  refine zw_aload_n dL_law_180 rfl ?_
  refine zx_V0I dL_law_181 zm_F_floor zk_L_23 a.1 rfl (c_F_floor (l := l) (g := g) (d := 0) a ok) ⟨Nat.le_of_ble_eq_true rfl, Nat.le_of_ble_eq_true rfl⟩ (Nat.le_of_ble_eq_true rfl) ⟨Nat.le_of_ble_eq_true rfl, Nat.le_of_ble_eq_true rfl⟩ ?_
  rintro h1 ⟨a1, f1, l1⟩
  have m1 : MX h1 O := m.keep f1
  obtain ⟨qa, qb, z, hM, hS⟩ := id m1.1
  refine zw_aload_n dL_law_184 rfl ?_
  refine zx_V0I dL_law_185 zm_M_floor zk_L_26 hM rfl (c_M_floor (l := l) (g := g) (d := 0) m1 ok) ⟨Nat.le_of_ble_eq_true rfl, Nat.le_of_ble_eq_true rfl⟩ (Nat.le_of_ble_eq_true rfl) ⟨Nat.le_of_ble_eq_true rfl, Nat.le_of_ble_eq_true rfl⟩ ?_
  rintro h2 ⟨m2, f2, l2⟩
  refine zw_icmp_eq 666 dL_law_188 (by decide) (fun c_188 => ?_) (fun c_188 => ?_)
  · exact kk h2 _ ⟨a1.keep f2, m2, ok_floor ok, by rw [l2, l1]; exact hl⟩
  · exact absurd rfl c_188
theorem lw_c3 (hi : i + 3 ≤ L) (hL : L ≤ 1536) (I : LI h O) (kk : ∀ h' O', LI h' O' → WW l g mL_law room_1 (zS g b L xs) QQ 666 (lls b i) [] h' 44 1733) : WW l g mL_law room_1 (zS g b L xs) QQ 193 (lls b i) [] h 44 1733 := by
  obtain ⟨a, m, ok, hl⟩ := I
  have hZ : ∀ s, zS g b L xs s → zS g b L xs s := fun _ q => q
  have e1 : nI i + 1 = nI (i + 1) := nI_add i 1
  have c1 : (nI (i + 1)).toNatClampNeg = i + 1 := nI_clamp (by omega)
  have v1 : vp_in (nI (i + 1)) L := vp_in_nI (by omega) (by omega)
  refine zw_aload_n dL_law_193 rfl ?_
  refine zw_aloadS_n dL_law_194 rfl ?_
  refine zw_iload_n dL_law_195 rfl ?_
  refine zw_iconst (v := 1) dL_law_196 (by decide) ?_
  refine zw_iadd dL_law_197 ?_
  rw [e1]
  refine zw_sld hZ dL_law_198 v1 ?_
  rw [c1]
  refine zx_V1I dL_law_199 zm_F_cell zk_L_27 a.1 rfl (c_F_cell (l := l) (g := g) (d := 0) a ok (x := xs (i + 1))) ⟨Nat.le_of_ble_eq_true rfl, Nat.le_of_ble_eq_true rfl⟩ (Nat.le_of_ble_eq_true rfl) ⟨Nat.le_of_ble_eq_true rfl, Nat.le_of_ble_eq_true rfl⟩ ?_
  rintro h1 ⟨a1, f1, l1⟩
  have m1 : MX h1 O := m.keep f1
  obtain ⟨qa, qb, z, hM, hS⟩ := id m1.1
  refine zw_aload_n dL_law_202 rfl ?_
  refine zw_aloadS_n dL_law_203 rfl ?_
  refine zw_iload_n dL_law_204 rfl ?_
  refine zw_iconst (v := 1) dL_law_205 (by decide) ?_
  refine zw_iadd dL_law_206 ?_
  rw [e1]
  refine zw_sld hZ dL_law_207 v1 ?_
  rw [c1]
  refine zx_V1I dL_law_208 zm_M_cell zk_L_30 hM rfl (c_M_cell (l := l) (g := g) (d := 0) m1 ok (x := xs (i + 1))) ⟨Nat.le_of_ble_eq_true rfl, Nat.le_of_ble_eq_true rfl⟩ (Nat.le_of_ble_eq_true rfl) ⟨Nat.le_of_ble_eq_true rfl, Nat.le_of_ble_eq_true rfl⟩ ?_
  rintro h2 ⟨m2, f2, l2⟩
  refine zw_icmp_eq 666 dL_law_211 (by decide) (fun c_211 => ?_) (fun c_211 => ?_)
  · exact kk h2 _ ⟨a1.keep f2, m2, ok, by rw [l2, l1]; exact hl⟩
  · exact absurd rfl c_211
theorem lw_c4 (hi : i + 3 ≤ L) (hL : L ≤ 1536) (I : LI h O) (kk : ∀ h' O', LI h' O' → WW l g mL_law room_1 (zS g b L xs) QQ 666 (lls b i) [] h' 44 1733) : WW l g mL_law room_1 (zS g b L xs) QQ 216 (lls b i) [] h 44 1733 := by
  obtain ⟨a, m, ok, hl⟩ := I
  have hZ : ∀ s, zS g b L xs s → zS g b L xs s := fun _ q => q
  have e1 : nI i + 1 = nI (i + 1) := nI_add i 1
  have c1 : (nI (i + 1)).toNatClampNeg = i + 1 := nI_clamp (by omega)
  have v1 : vp_in (nI (i + 1)) L := vp_in_nI (by omega) (by omega)
  have e2 : nI i + 2 = nI (i + 2) := nI_add i 2
  have c2 : (nI (i + 2)).toNatClampNeg = i + 2 := nI_clamp (by omega)
  have v2 : vp_in (nI (i + 2)) L := vp_in_nI (by omega) (by omega)
  refine zw_aload_n dL_law_216 rfl ?_
  refine zw_aloadS_n dL_law_217 rfl ?_
  refine zw_iload_n dL_law_218 rfl ?_
  refine zw_iconst (v := 1) dL_law_219 (by decide) ?_
  refine zw_iadd dL_law_220 ?_
  rw [e1]
  refine zw_sld hZ dL_law_221 v1 ?_
  rw [c1]
  refine zw_aloadS_n dL_law_222 rfl ?_
  refine zw_iload_n dL_law_223 rfl ?_
  refine zw_iconst (v := 2) dL_law_224 (by decide) ?_
  refine zw_iadd dL_law_225 ?_
  rw [e2]
  refine zw_sld hZ dL_law_226 v2 ?_
  rw [c2]
  refine zx_V2I dL_law_227 zm_F_powers zk_L_31 a.1 rfl (c_F_powers (l := l) (g := g) (d := 0) a ok (x := xs (i + 1)) (y := xs (i + 2))) ⟨Nat.le_of_ble_eq_true rfl, Nat.le_of_ble_eq_true rfl⟩ (Nat.le_of_ble_eq_true rfl) ⟨Nat.le_of_ble_eq_true rfl, Nat.le_of_ble_eq_true rfl⟩ ?_
  rintro h1 ⟨a1, f1, l1⟩
  have m1 : MX h1 O := m.keep f1
  obtain ⟨qa, qb, z, hM, hS⟩ := id m1.1
  refine zw_aload_n dL_law_230 rfl ?_
  refine zw_aloadS_n dL_law_231 rfl ?_
  refine zw_iload_n dL_law_232 rfl ?_
  refine zw_iconst (v := 1) dL_law_233 (by decide) ?_
  refine zw_iadd dL_law_234 ?_
  rw [e1]
  refine zw_sld hZ dL_law_235 v1 ?_
  rw [c1]
  refine zw_aloadS_n dL_law_236 rfl ?_
  refine zw_iload_n dL_law_237 rfl ?_
  refine zw_iconst (v := 2) dL_law_238 (by decide) ?_
  refine zw_iadd dL_law_239 ?_
  rw [e2]
  refine zw_sld hZ dL_law_240 v2 ?_
  rw [c2]
  refine zx_V2I dL_law_241 zm_M_powers zk_L_35 hM rfl (c_M_powers (l := l) (g := g) (d := 0) m1 ok (x := xs (i + 1)) (y := xs (i + 2))) ⟨Nat.le_of_ble_eq_true rfl, Nat.le_of_ble_eq_true rfl⟩ (Nat.le_of_ble_eq_true rfl) ⟨Nat.le_of_ble_eq_true rfl, Nat.le_of_ble_eq_true rfl⟩ ?_
  rintro h2 ⟨m2, f2, l2⟩
  refine zw_icmp_eq 666 dL_law_244 (by decide) (fun c_244 => ?_) (fun c_244 => ?_)
  · exact kk h2 _ ⟨a1.keep f2, m2, ok_pow ok _ _, by rw [l2, l1]; exact hl⟩
  · exact absurd rfl c_244
theorem lw_c5 (hi : i + 3 ≤ L) (hL : L ≤ 1536) (I : LI h O) (kk : ∀ h' O', LI h' O' → WW l g mL_law room_1 (zS g b L xs) QQ 666 (lls b i) [] h' 44 1733) : WW l g mL_law room_1 (zS g b L xs) QQ 249 (lls b i) [] h 44 1733 := by
  obtain ⟨a, m, ok, hl⟩ := I
  have hZ : ∀ s, zS g b L xs s → zS g b L xs s := fun _ q => q
  have e1 : nI i + 1 = nI (i + 1) := nI_add i 1
  have c1 : (nI (i + 1)).toNatClampNeg = i + 1 := nI_clamp (by omega)
  have v1 : vp_in (nI (i + 1)) L := vp_in_nI (by omega) (by omega)
  refine zw_aload_n dL_law_249 rfl ?_
  refine zw_aloadS_n dL_law_250 rfl ?_
  refine zw_iload_n dL_law_251 rfl ?_
  refine zw_iconst (v := 1) dL_law_252 (by decide) ?_
  refine zw_iadd dL_law_253 ?_
  rw [e1]
  refine zw_sld hZ dL_law_254 v1 ?_
  rw [c1]
  refine zx_V1I dL_law_255 zm_F_moves zk_L_36 a.1 rfl (c_F_moves (l := l) (g := g) (d := 0) a ok (x := xs (i + 1))) ⟨Nat.le_of_ble_eq_true rfl, Nat.le_of_ble_eq_true rfl⟩ (Nat.le_of_ble_eq_true rfl) ⟨Nat.le_of_ble_eq_true rfl, Nat.le_of_ble_eq_true rfl⟩ ?_
  rintro h1 ⟨a1, f1, l1⟩
  have m1 : MX h1 O := m.keep f1
  obtain ⟨qa, qb, z, hM, hS⟩ := id m1.1
  refine zw_aload_n dL_law_258 rfl ?_
  refine zw_aloadS_n dL_law_259 rfl ?_
  refine zw_iload_n dL_law_260 rfl ?_
  refine zw_iconst (v := 1) dL_law_261 (by decide) ?_
  refine zw_iadd dL_law_262 ?_
  rw [e1]
  refine zw_sld hZ dL_law_263 v1 ?_
  rw [c1]
  refine zx_V1I dL_law_264 zm_M_moves zk_L_39 hM rfl (c_M_moves (l := l) (g := g) (d := 0) m1 ok (x := xs (i + 1))) ⟨Nat.le_of_ble_eq_true rfl, Nat.le_of_ble_eq_true rfl⟩ (Nat.le_of_ble_eq_true rfl) ⟨Nat.le_of_ble_eq_true rfl, Nat.le_of_ble_eq_true rfl⟩ ?_
  rintro h2 ⟨m2, f2, l2⟩
  refine zw_icmp_eq 666 dL_law_267 (by decide) (fun c_267 => ?_) (fun c_267 => ?_)
  · exact kk h2 _ ⟨a1.keep f2, m2, ok_mov ok _, by rw [l2, l1]; exact hl⟩
  · exact absurd rfl c_267
theorem lw_c6 (hi : i + 3 ≤ L) (hL : L ≤ 1536) (I : LI h O) (kk : ∀ h' O', LI h' O' → WW l g mL_law room_1 (zS g b L xs) QQ 666 (lls b i) [] h' 44 1733) : WW l g mL_law room_1 (zS g b L xs) QQ 272 (lls b i) [] h 44 1733 := by
  obtain ⟨a, m, ok, hl⟩ := I
  refine zw_aload_n dL_law_272 rfl ?_
  refine zx_V0I dL_law_273 zm_F_steps zk_L_40 a.1 rfl (c_F_steps (l := l) (g := g) (d := 0) a ok) ⟨Nat.le_of_ble_eq_true rfl, Nat.le_of_ble_eq_true rfl⟩ (Nat.le_of_ble_eq_true rfl) ⟨Nat.le_of_ble_eq_true rfl, Nat.le_of_ble_eq_true rfl⟩ ?_
  rintro h1 ⟨a1, f1, l1⟩
  have m1 : MX h1 O := m.keep f1
  obtain ⟨qa, qb, z, hM, hS⟩ := id m1.1
  refine zw_aload_n dL_law_276 rfl ?_
  refine zx_V0I dL_law_277 zm_M_steps zk_L_43 hM rfl (c_M_steps (l := l) (g := g) (d := 0) m1 ok) ⟨Nat.le_of_ble_eq_true rfl, Nat.le_of_ble_eq_true rfl⟩ (Nat.le_of_ble_eq_true rfl) ⟨Nat.le_of_ble_eq_true rfl, Nat.le_of_ble_eq_true rfl⟩ ?_
  rintro h2 ⟨m2, f2, l2⟩
  refine zw_icmp_eq 666 dL_law_280 (by decide) (fun c_280 => ?_) (fun c_280 => ?_)
  · exact kk h2 _ ⟨a1.keep f2, m2, ok_steps ok, by rw [l2, l1]; exact hl⟩
  · exact absurd rfl c_280
theorem lw_c7 (hi : i + 3 ≤ L) (hL : L ≤ 1536) (I : LI h O) (kk : ∀ h' O', LI h' O' → WW l g mL_law room_1 (zS g b L xs) QQ 666 (lls b i) [] h' 44 1733) : WW l g mL_law room_1 (zS g b L xs) QQ 285 (lls b i) [] h 44 1733 := by
  obtain ⟨a, m, ok, hl⟩ := I
  have hZ : ∀ s, zS g b L xs s → zS g b L xs s := fun _ q => q
  have e1 : nI i + 1 = nI (i + 1) := nI_add i 1
  have c1 : (nI (i + 1)).toNatClampNeg = i + 1 := nI_clamp (by omega)
  have v1 : vp_in (nI (i + 1)) L := vp_in_nI (by omega) (by omega)
  refine zw_aload_n dL_law_285 rfl ?_
  refine zw_aloadS_n dL_law_286 rfl ?_
  refine zw_iload_n dL_law_287 rfl ?_
  refine zw_iconst (v := 1) dL_law_288 (by decide) ?_
  refine zw_iadd dL_law_289 ?_
  rw [e1]
  refine zw_sld hZ dL_law_290 v1 ?_
  rw [c1]
  refine zx_V1I dL_law_291 zm_F_rotates zk_L_44 a.1 rfl (c_F_rotates (l := l) (g := g) (d := 0) a ok (x := xs (i + 1))) ⟨Nat.le_of_ble_eq_true rfl, Nat.le_of_ble_eq_true rfl⟩ (Nat.le_of_ble_eq_true rfl) ⟨Nat.le_of_ble_eq_true rfl, Nat.le_of_ble_eq_true rfl⟩ ?_
  rintro h1 ⟨a1, f1, l1⟩
  have m1 : MX h1 O := m.keep f1
  obtain ⟨qa, qb, z, hM, hS⟩ := id m1.1
  refine zw_aload_n dL_law_294 rfl ?_
  refine zw_aloadS_n dL_law_295 rfl ?_
  refine zw_iload_n dL_law_296 rfl ?_
  refine zw_iconst (v := 1) dL_law_297 (by decide) ?_
  refine zw_iadd dL_law_298 ?_
  rw [e1]
  refine zw_sld hZ dL_law_299 v1 ?_
  rw [c1]
  refine zx_V1I dL_law_300 zm_M_rotates zk_L_47 hM rfl (c_M_rotates (l := l) (g := g) (d := 0) m1 ok (x := xs (i + 1))) ⟨Nat.le_of_ble_eq_true rfl, Nat.le_of_ble_eq_true rfl⟩ (Nat.le_of_ble_eq_true rfl) ⟨Nat.le_of_ble_eq_true rfl, Nat.le_of_ble_eq_true rfl⟩ ?_
  rintro h2 ⟨m2, f2, l2⟩
  refine zw_icmp_eq 666 dL_law_303 (by decide) (fun c_303 => ?_) (fun c_303 => ?_)
  · exact kk h2 _ ⟨a1.keep f2, m2, ok_rot ok _, by rw [l2, l1]; exact hl⟩
  · exact absurd rfl c_303
theorem lw_c8 (hi : i + 3 ≤ L) (hL : L ≤ 1536) (I : LI h O) (kk : ∀ h' O', LI h' O' → WW l g mL_law room_1 (zS g b L xs) QQ 666 (lls b i) [] h' 44 1733) : WW l g mL_law room_1 (zS g b L xs) QQ 308 (lls b i) [] h 44 1733 := by
  obtain ⟨a, m, ok, hl⟩ := I
  refine zw_aload_n dL_law_308 rfl ?_
  refine zx_V0I dL_law_309 zm_F_scans zk_L_48 a.1 rfl (c_F_scans (l := l) (g := g) (d := 0) a ok) ⟨Nat.le_of_ble_eq_true rfl, Nat.le_of_ble_eq_true rfl⟩ (Nat.le_of_ble_eq_true rfl) ⟨Nat.le_of_ble_eq_true rfl, Nat.le_of_ble_eq_true rfl⟩ ?_
  rintro h1 ⟨a1, f1, l1⟩
  have m1 : MX h1 O := m.keep f1
  obtain ⟨qa, qb, z, hM, hS⟩ := id m1.1
  refine zw_aload_n dL_law_312 rfl ?_
  refine zx_V0I dL_law_313 zm_M_scans zk_L_51 hM rfl (c_M_scans (l := l) (g := g) (d := 0) m1 ok) ⟨Nat.le_of_ble_eq_true rfl, Nat.le_of_ble_eq_true rfl⟩ (Nat.le_of_ble_eq_true rfl) ⟨Nat.le_of_ble_eq_true rfl, Nat.le_of_ble_eq_true rfl⟩ ?_
  rintro h2 ⟨m2, f2, l2⟩
  refine zw_icmp_eq 666 dL_law_316 (by decide) (fun c_316 => ?_) (fun c_316 => ?_)
  · exact kk h2 _ ⟨a1.keep f2, m2, ok_scans ok, by rw [l2, l1]; exact hl⟩
  · exact absurd rfl c_316
theorem lw_c9 (hi : i + 3 ≤ L) (hL : L ≤ 1536) (I : LI h O) (kk : ∀ h' O', LI h' O' → WW l g mL_law room_1 (zS g b L xs) QQ 666 (lls b i) [] h' 44 1733) : WW l g mL_law room_1 (zS g b L xs) QQ 321 (lls b i) [] h 44 1733 := by
  obtain ⟨a, m, ok, hl⟩ := I
  have hZ : ∀ s, zS g b L xs s → zS g b L xs s := fun _ q => q
  have e1 : nI i + 1 = nI (i + 1) := nI_add i 1
  have c1 : (nI (i + 1)).toNatClampNeg = i + 1 := nI_clamp (by omega)
  have v1 : vp_in (nI (i + 1)) L := vp_in_nI (by omega) (by omega)
  have e2 : nI i + 2 = nI (i + 2) := nI_add i 2
  have c2 : (nI (i + 2)).toNatClampNeg = i + 2 := nI_clamp (by omega)
  have v2 : vp_in (nI (i + 2)) L := vp_in_nI (by omega) (by omega)
  refine zw_aload_n dL_law_321 rfl ?_
  refine zw_aloadS_n dL_law_322 rfl ?_
  refine zw_iload_n dL_law_323 rfl ?_
  refine zw_iconst (v := 1) dL_law_324 (by decide) ?_
  refine zw_iadd dL_law_325 ?_
  rw [e1]
  refine zw_sld hZ dL_law_326 v1 ?_
  rw [c1]
  refine zw_aloadS_n dL_law_327 rfl ?_
  refine zw_iload_n dL_law_328 rfl ?_
  refine zw_iconst (v := 2) dL_law_329 (by decide) ?_
  refine zw_iadd dL_law_330 ?_
  rw [e2]
  refine zw_sld hZ dL_law_331 v2 ?_
  rw [c2]
  refine zx_V2I dL_law_332 zm_F_carries zk_L_52 a.1 rfl (c_F_carries (l := l) (g := g) (d := 0) a ok (x := xs (i + 1)) (y := xs (i + 2))) ⟨Nat.le_of_ble_eq_true rfl, Nat.le_of_ble_eq_true rfl⟩ (Nat.le_of_ble_eq_true rfl) ⟨Nat.le_of_ble_eq_true rfl, Nat.le_of_ble_eq_true rfl⟩ ?_
  rintro h1 ⟨a1, f1, l1⟩
  have m1 : MX h1 O := m.keep f1
  obtain ⟨qa, qb, z, hM, hS⟩ := id m1.1
  refine zw_aload_n dL_law_335 rfl ?_
  refine zw_aloadS_n dL_law_336 rfl ?_
  refine zw_iload_n dL_law_337 rfl ?_
  refine zw_iconst (v := 1) dL_law_338 (by decide) ?_
  refine zw_iadd dL_law_339 ?_
  rw [e1]
  refine zw_sld hZ dL_law_340 v1 ?_
  rw [c1]
  refine zw_aloadS_n dL_law_341 rfl ?_
  refine zw_iload_n dL_law_342 rfl ?_
  refine zw_iconst (v := 2) dL_law_343 (by decide) ?_
  refine zw_iadd dL_law_344 ?_
  rw [e2]
  refine zw_sld hZ dL_law_345 v2 ?_
  rw [c2]
  refine zx_V2I dL_law_346 zm_M_carries zk_L_55 hM rfl (c_M_carries (l := l) (g := g) (d := 0) m1 ok (x := xs (i + 1)) (y := xs (i + 2))) ⟨Nat.le_of_ble_eq_true rfl, Nat.le_of_ble_eq_true rfl⟩ (Nat.le_of_ble_eq_true rfl) ⟨Nat.le_of_ble_eq_true rfl, Nat.le_of_ble_eq_true rfl⟩ ?_
  rintro h2 ⟨m2, f2, l2⟩
  refine zw_icmp_eq 666 dL_law_349 (by decide) (fun c_349 => ?_) (fun c_349 => ?_)
  · exact kk h2 _ ⟨a1.keep f2, m2, ok_carX ok _ _, by rw [l2, l1]; exact hl⟩
  · exact absurd rfl c_349
theorem lw_c10 (hi : i + 3 ≤ L) (hL : L ≤ 1536) (I : LI h O) (kk : ∀ h' O', LI h' O' → WW l g mL_law room_1 (zS g b L xs) QQ 666 (lls b i) [] h' 44 1733) : WW l g mL_law room_1 (zS g b L xs) QQ 354 (lls b i) [] h 44 1733 := by
  obtain ⟨a, m, ok, hl⟩ := I
  have hZ : ∀ s, zS g b L xs s → zS g b L xs s := fun _ q => q
  have e1 : nI i + 1 = nI (i + 1) := nI_add i 1
  have c1 : (nI (i + 1)).toNatClampNeg = i + 1 := nI_clamp (by omega)
  have v1 : vp_in (nI (i + 1)) L := vp_in_nI (by omega) (by omega)
  refine zw_aload_n dL_law_354 rfl ?_
  refine zw_aloadS_n dL_law_355 rfl ?_
  refine zw_iload_n dL_law_356 rfl ?_
  refine zw_iconst (v := 1) dL_law_357 (by decide) ?_
  refine zw_iadd dL_law_358 ?_
  rw [e1]
  refine zw_sld hZ dL_law_359 v1 ?_
  rw [c1]
  refine zx_V1I dL_law_360 zm_F_goes zk_L_56 a.1 rfl (c_F_goes (l := l) (g := g) (d := 0) a ok (x := xs (i + 1))) ⟨Nat.le_of_ble_eq_true rfl, Nat.le_of_ble_eq_true rfl⟩ (Nat.le_of_ble_eq_true rfl) ⟨Nat.le_of_ble_eq_true rfl, Nat.le_of_ble_eq_true rfl⟩ ?_
  rintro h1 ⟨a1, f1, l1⟩
  have m1 : MX h1 O := m.keep f1
  obtain ⟨qa, qb, z, hM, hS⟩ := id m1.1
  refine zw_aload_n dL_law_363 rfl ?_
  refine zw_aloadS_n dL_law_364 rfl ?_
  refine zw_iload_n dL_law_365 rfl ?_
  refine zw_iconst (v := 1) dL_law_366 (by decide) ?_
  refine zw_iadd dL_law_367 ?_
  rw [e1]
  refine zw_sld hZ dL_law_368 v1 ?_
  rw [c1]
  refine zx_V1I dL_law_369 zm_M_goes zk_L_59 hM rfl (c_M_goes (l := l) (g := g) (d := 0) m1 ok (x := xs (i + 1))) ⟨Nat.le_of_ble_eq_true rfl, Nat.le_of_ble_eq_true rfl⟩ (Nat.le_of_ble_eq_true rfl) ⟨Nat.le_of_ble_eq_true rfl, Nat.le_of_ble_eq_true rfl⟩ ?_
  rintro h2 ⟨m2, f2, l2⟩
  refine zw_icmp_eq 666 dL_law_372 (by decide) (fun c_372 => ?_) (fun c_372 => ?_)
  · exact kk h2 _ ⟨a1.keep f2, m2, ok_goes ok _, by rw [l2, l1]; exact hl⟩
  · exact absurd rfl c_372
theorem lw_c11 (hi : i + 3 ≤ L) (hL : L ≤ 1536) (I : LI h O) (kk : ∀ h' O', LI h' O' → WW l g mL_law room_1 (zS g b L xs) QQ 666 (lls b i) [] h' 44 1733) : WW l g mL_law room_1 (zS g b L xs) QQ 377 (lls b i) [] h 44 1733 := by
  obtain ⟨a, m, ok, hl⟩ := I
  refine zw_aload_n dL_law_377 rfl ?_
  refine zx_V0I dL_law_378 zm_F_undo zk_L_60 a.1 rfl (c_F_undo (l := l) (g := g) (d := 0) a ok) ⟨Nat.le_of_ble_eq_true rfl, Nat.le_of_ble_eq_true rfl⟩ (Nat.le_of_ble_eq_true rfl) ⟨Nat.le_of_ble_eq_true rfl, Nat.le_of_ble_eq_true rfl⟩ ?_
  rintro h1 ⟨a1, f1, l1⟩
  have m1 : MX h1 O := m.keep f1
  obtain ⟨qa, qb, z, hM, hS⟩ := id m1.1
  refine zw_aload_n dL_law_381 rfl ?_
  refine zx_V0I dL_law_382 zm_M_undo zk_L_63 hM rfl (c_M_undo (l := l) (g := g) (d := 0) m1 ok) ⟨Nat.le_of_ble_eq_true rfl, Nat.le_of_ble_eq_true rfl⟩ (Nat.le_of_ble_eq_true rfl) ⟨Nat.le_of_ble_eq_true rfl, Nat.le_of_ble_eq_true rfl⟩ ?_
  rintro h2 ⟨m2, f2, l2⟩
  refine zw_icmp_eq 666 dL_law_385 (by decide) (fun c_385 => ?_) (fun c_385 => ?_)
  · exact kk h2 _ ⟨a1.keep f2, m2, ok_undo ok, by rw [l2, l1]; exact hl⟩
  · exact absurd rfl c_385
theorem lw_c12 (hi : i + 3 ≤ L) (hL : L ≤ 1536) (I : LI h O) (kk : ∀ h' O', LI h' O' → WW l g mL_law room_1 (zS g b L xs) QQ 666 (lls b i) [] h' 44 1733) : WW l g mL_law room_1 (zS g b L xs) QQ 390 (lls b i) [] h 44 1733 := by
  obtain ⟨a, m, ok, hl⟩ := I
  have hZ : ∀ s, zS g b L xs s → zS g b L xs s := fun _ q => q
  have e1 : nI i + 1 = nI (i + 1) := nI_add i 1
  have c1 : (nI (i + 1)).toNatClampNeg = i + 1 := nI_clamp (by omega)
  have v1 : vp_in (nI (i + 1)) L := vp_in_nI (by omega) (by omega)
  refine zw_aload_n dL_law_390 rfl ?_
  refine zw_aloadS_n dL_law_391 rfl ?_
  refine zw_iload_n dL_law_392 rfl ?_
  refine zw_iconst (v := 1) dL_law_393 (by decide) ?_
  refine zw_iadd dL_law_394 ?_
  rw [e1]
  refine zw_sld hZ dL_law_395 v1 ?_
  rw [c1]
  refine zx_V1I dL_law_396 zm_F_robot zk_L_64 a.1 rfl (c_F_robot (l := l) (g := g) (d := 0) a ok (x := xs (i + 1))) ⟨Nat.le_of_ble_eq_true rfl, Nat.le_of_ble_eq_true rfl⟩ (Nat.le_of_ble_eq_true rfl) ⟨Nat.le_of_ble_eq_true rfl, Nat.le_of_ble_eq_true rfl⟩ ?_
  rintro h1 ⟨a1, f1, l1⟩
  have m1 : MX h1 O := m.keep f1
  obtain ⟨qa, qb, z, hM, hS⟩ := id m1.1
  refine zw_aload_n dL_law_399 rfl ?_
  refine zw_aloadS_n dL_law_400 rfl ?_
  refine zw_iload_n dL_law_401 rfl ?_
  refine zw_iconst (v := 1) dL_law_402 (by decide) ?_
  refine zw_iadd dL_law_403 ?_
  rw [e1]
  refine zw_sld hZ dL_law_404 v1 ?_
  rw [c1]
  refine zx_V1I dL_law_405 zm_M_robot zk_L_67 hM rfl (c_M_robot (l := l) (g := g) (d := 0) m1 ok (x := xs (i + 1))) ⟨Nat.le_of_ble_eq_true rfl, Nat.le_of_ble_eq_true rfl⟩ (Nat.le_of_ble_eq_true rfl) ⟨Nat.le_of_ble_eq_true rfl, Nat.le_of_ble_eq_true rfl⟩ ?_
  rintro h2 ⟨m2, f2, l2⟩
  refine zw_icmp_eq 666 dL_law_408 (by decide) (fun c_408 => ?_) (fun c_408 => ?_)
  · exact kk h2 _ ⟨a1.keep f2, m2, ok, by rw [l2, l1]; exact hl⟩
  · exact absurd rfl c_408
theorem lw_c13 (hi : i + 3 ≤ L) (hL : L ≤ 1536) (I : LI h O) (kk : ∀ h' O', LI h' O' → WW l g mL_law room_1 (zS g b L xs) QQ 666 (lls b i) [] h' 44 1733) : WW l g mL_law room_1 (zS g b L xs) QQ 413 (lls b i) [] h 44 1733 := by
  obtain ⟨a, m, ok, hl⟩ := I
  have hZ : ∀ s, zS g b L xs s → zS g b L xs s := fun _ q => q
  have e1 : nI i + 1 = nI (i + 1) := nI_add i 1
  have c1 : (nI (i + 1)).toNatClampNeg = i + 1 := nI_clamp (by omega)
  have v1 : vp_in (nI (i + 1)) L := vp_in_nI (by omega) (by omega)
  refine zw_aload_n dL_law_413 rfl ?_
  refine zw_aloadS_n dL_law_414 rfl ?_
  refine zw_iload_n dL_law_415 rfl ?_
  refine zw_iconst (v := 1) dL_law_416 (by decide) ?_
  refine zw_iadd dL_law_417 ?_
  rw [e1]
  refine zw_sld hZ dL_law_418 v1 ?_
  rw [c1]
  refine zx_V1I dL_law_419 zm_F_knows zk_L_68 a.1 rfl (c_F_knows (l := l) (g := g) (d := 0) a ok (x := xs (i + 1))) ⟨Nat.le_of_ble_eq_true rfl, Nat.le_of_ble_eq_true rfl⟩ (Nat.le_of_ble_eq_true rfl) ⟨Nat.le_of_ble_eq_true rfl, Nat.le_of_ble_eq_true rfl⟩ ?_
  rintro h1 ⟨a1, f1, l1⟩
  have m1 : MX h1 O := m.keep f1
  obtain ⟨qa, qb, z, hM, hS⟩ := id m1.1
  refine zw_aload_n dL_law_422 rfl ?_
  refine zw_aloadS_n dL_law_423 rfl ?_
  refine zw_iload_n dL_law_424 rfl ?_
  refine zw_iconst (v := 1) dL_law_425 (by decide) ?_
  refine zw_iadd dL_law_426 ?_
  rw [e1]
  refine zw_sld hZ dL_law_427 v1 ?_
  rw [c1]
  refine zx_V1I dL_law_428 zm_M_knows zk_L_71 hM rfl (c_M_knows (l := l) (g := g) (d := 0) m1 ok (x := xs (i + 1))) ⟨Nat.le_of_ble_eq_true rfl, Nat.le_of_ble_eq_true rfl⟩ (Nat.le_of_ble_eq_true rfl) ⟨Nat.le_of_ble_eq_true rfl, Nat.le_of_ble_eq_true rfl⟩ ?_
  rintro h2 ⟨m2, f2, l2⟩
  refine zw_icmp_eq 666 dL_law_431 (by decide) (fun c_431 => ?_) (fun c_431 => ?_)
  · exact kk h2 _ ⟨a1.keep f2, m2, ok, by rw [l2, l1]; exact hl⟩
  · exact absurd rfl c_431
theorem lw_c14 (hi : i + 3 ≤ L) (hL : L ≤ 1536) (I : LI h O) (kk : ∀ h' O', LI h' O' → WW l g mL_law room_1 (zS g b L xs) QQ 666 (lls b i) [] h' 44 1733) : WW l g mL_law room_1 (zS g b L xs) QQ 436 (lls b i) [] h 44 1733 := by
  obtain ⟨a, m, ok, hl⟩ := I
  have hZ : ∀ s, zS g b L xs s → zS g b L xs s := fun _ q => q
  have e1 : nI i + 1 = nI (i + 1) := nI_add i 1
  have c1 : (nI (i + 1)).toNatClampNeg = i + 1 := nI_clamp (by omega)
  have v1 : vp_in (nI (i + 1)) L := vp_in_nI (by omega) (by omega)
  refine zw_aload_n dL_law_436 rfl ?_
  refine zw_aloadS_n dL_law_437 rfl ?_
  refine zw_iload_n dL_law_438 rfl ?_
  refine zw_iconst (v := 1) dL_law_439 (by decide) ?_
  refine zw_iadd dL_law_440 ?_
  rw [e1]
  refine zw_sld hZ dL_law_441 v1 ?_
  rw [c1]
  refine zx_V1I dL_law_442 zm_F_home zk_L_72 a.1 rfl (c_F_home (l := l) (g := g) (d := 0) a ok (x := xs (i + 1))) ⟨Nat.le_of_ble_eq_true rfl, Nat.le_of_ble_eq_true rfl⟩ (Nat.le_of_ble_eq_true rfl) ⟨Nat.le_of_ble_eq_true rfl, Nat.le_of_ble_eq_true rfl⟩ ?_
  rintro h1 ⟨a1, f1, l1⟩
  have m1 : MX h1 O := m.keep f1
  obtain ⟨qa, qb, z, hM, hS⟩ := id m1.1
  refine zw_aload_n dL_law_445 rfl ?_
  refine zw_aloadS_n dL_law_446 rfl ?_
  refine zw_iload_n dL_law_447 rfl ?_
  refine zw_iconst (v := 1) dL_law_448 (by decide) ?_
  refine zw_iadd dL_law_449 ?_
  rw [e1]
  refine zw_sld hZ dL_law_450 v1 ?_
  rw [c1]
  refine zx_V1I dL_law_451 zm_M_home zk_L_75 hM rfl (c_M_home (l := l) (g := g) (d := 0) m1 ok (x := xs (i + 1))) ⟨Nat.le_of_ble_eq_true rfl, Nat.le_of_ble_eq_true rfl⟩ (Nat.le_of_ble_eq_true rfl) ⟨Nat.le_of_ble_eq_true rfl, Nat.le_of_ble_eq_true rfl⟩ ?_
  rintro h2 ⟨m2, f2, l2⟩
  refine zw_icmp_eq 666 dL_law_454 (by decide) (fun c_454 => ?_) (fun c_454 => ?_)
  · exact kk h2 _ ⟨a1.keep f2, m2, ok, by rw [l2, l1]; exact hl⟩
  · exact absurd rfl c_454
theorem lw_c15 (hi : i + 3 ≤ L) (hL : L ≤ 1536) (I : LI h O) (kk : ∀ h' O', LI h' O' → WW l g mL_law room_1 (zS g b L xs) QQ 666 (lls b i) [] h' 44 1733) : WW l g mL_law room_1 (zS g b L xs) QQ 459 (lls b i) [] h 44 1733 := by
  obtain ⟨a, m, ok, hl⟩ := I
  have hZ : ∀ s, zS g b L xs s → zS g b L xs s := fun _ q => q
  have e1 : nI i + 1 = nI (i + 1) := nI_add i 1
  have c1 : (nI (i + 1)).toNatClampNeg = i + 1 := nI_clamp (by omega)
  have v1 : vp_in (nI (i + 1)) L := vp_in_nI (by omega) (by omega)
  refine zw_aload_n dL_law_459 rfl ?_
  refine zw_aloadS_n dL_law_460 rfl ?_
  refine zw_iload_n dL_law_461 rfl ?_
  refine zw_iconst (v := 1) dL_law_462 (by decide) ?_
  refine zw_iadd dL_law_463 ?_
  rw [e1]
  refine zw_sld hZ dL_law_464 v1 ?_
  rw [c1]
  refine zx_V1I dL_law_465 zm_F_target zk_L_76 a.1 rfl (c_F_target (l := l) (g := g) (d := 0) a ok (x := xs (i + 1))) ⟨Nat.le_of_ble_eq_true rfl, Nat.le_of_ble_eq_true rfl⟩ (Nat.le_of_ble_eq_true rfl) ⟨Nat.le_of_ble_eq_true rfl, Nat.le_of_ble_eq_true rfl⟩ ?_
  rintro h1 ⟨a1, f1, l1⟩
  have m1 : MX h1 O := m.keep f1
  obtain ⟨qa, qb, z, hM, hS⟩ := id m1.1
  refine zw_aload_n dL_law_468 rfl ?_
  refine zw_aloadS_n dL_law_469 rfl ?_
  refine zw_iload_n dL_law_470 rfl ?_
  refine zw_iconst (v := 1) dL_law_471 (by decide) ?_
  refine zw_iadd dL_law_472 ?_
  rw [e1]
  refine zw_sld hZ dL_law_473 v1 ?_
  rw [c1]
  refine zx_V1I dL_law_474 zm_M_target zk_L_79 hM rfl (c_M_target (l := l) (g := g) (d := 0) m1 ok (x := xs (i + 1))) ⟨Nat.le_of_ble_eq_true rfl, Nat.le_of_ble_eq_true rfl⟩ (Nat.le_of_ble_eq_true rfl) ⟨Nat.le_of_ble_eq_true rfl, Nat.le_of_ble_eq_true rfl⟩ ?_
  rintro h2 ⟨m2, f2, l2⟩
  refine zw_icmp_eq 666 dL_law_477 (by decide) (fun c_477 => ?_) (fun c_477 => ?_)
  · exact kk h2 _ ⟨a1.keep f2, m2, ok, by rw [l2, l1]; exact hl⟩
  · exact absurd rfl c_477
theorem lw_c16 (hi : i + 3 ≤ L) (hL : L ≤ 1536) (I : LI h O) (kk : ∀ h' O', LI h' O' → WW l g mL_law room_1 (zS g b L xs) QQ 666 (lls b i) [] h' 44 1733) : WW l g mL_law room_1 (zS g b L xs) QQ 482 (lls b i) [] h 44 1733 := by
  obtain ⟨a, m, ok, hl⟩ := I
  have hZ : ∀ s, zS g b L xs s → zS g b L xs s := fun _ q => q
  have e1 : nI i + 1 = nI (i + 1) := nI_add i 1
  have c1 : (nI (i + 1)).toNatClampNeg = i + 1 := nI_clamp (by omega)
  have v1 : vp_in (nI (i + 1)) L := vp_in_nI (by omega) (by omega)
  refine zw_aload_n dL_law_482 rfl ?_
  refine zw_aloadS_n dL_law_483 rfl ?_
  refine zw_iload_n dL_law_484 rfl ?_
  refine zw_iconst (v := 1) dL_law_485 (by decide) ?_
  refine zw_iadd dL_law_486 ?_
  rw [e1]
  refine zw_sld hZ dL_law_487 v1 ?_
  rw [c1]
  refine zx_V1I dL_law_488 zm_F_place zk_L_80 a.1 rfl (c_F_place (l := l) (g := g) (d := 0) a ok (x := xs (i + 1))) ⟨Nat.le_of_ble_eq_true rfl, Nat.le_of_ble_eq_true rfl⟩ (Nat.le_of_ble_eq_true rfl) ⟨Nat.le_of_ble_eq_true rfl, Nat.le_of_ble_eq_true rfl⟩ ?_
  rintro h1 ⟨a1, f1, l1⟩
  have m1 : MX h1 O := m.keep f1
  obtain ⟨qa, qb, z, hM, hS⟩ := id m1.1
  refine zw_aload_n dL_law_491 rfl ?_
  refine zw_aloadS_n dL_law_492 rfl ?_
  refine zw_iload_n dL_law_493 rfl ?_
  refine zw_iconst (v := 1) dL_law_494 (by decide) ?_
  refine zw_iadd dL_law_495 ?_
  rw [e1]
  refine zw_sld hZ dL_law_496 v1 ?_
  rw [c1]
  refine zx_V1I dL_law_497 zm_M_place zk_L_83 hM rfl (c_M_place (l := l) (g := g) (d := 0) m1 ok (x := xs (i + 1))) ⟨Nat.le_of_ble_eq_true rfl, Nat.le_of_ble_eq_true rfl⟩ (Nat.le_of_ble_eq_true rfl) ⟨Nat.le_of_ble_eq_true rfl, Nat.le_of_ble_eq_true rfl⟩ ?_
  rintro h2 ⟨m2, f2, l2⟩
  refine zw_icmp_eq 666 dL_law_500 (by decide) (fun c_500 => ?_) (fun c_500 => ?_)
  · exact kk h2 _ ⟨a1.keep f2, m2, ok, by rw [l2, l1]; exact hl⟩
  · exact absurd rfl c_500
theorem lw_c17 (hi : i + 3 ≤ L) (hL : L ≤ 1536) (I : LI h O) (kk : ∀ h' O', LI h' O' → WW l g mL_law room_1 (zS g b L xs) QQ 666 (lls b i) [] h' 44 1733) : WW l g mL_law room_1 (zS g b L xs) QQ 505 (lls b i) [] h 44 1733 := by
  obtain ⟨a, m, ok, hl⟩ := I
  have hZ : ∀ s, zS g b L xs s → zS g b L xs s := fun _ q => q
  have e1 : nI i + 1 = nI (i + 1) := nI_add i 1
  have c1 : (nI (i + 1)).toNatClampNeg = i + 1 := nI_clamp (by omega)
  have v1 : vp_in (nI (i + 1)) L := vp_in_nI (by omega) (by omega)
  have e2 : nI i + 2 = nI (i + 2) := nI_add i 2
  have c2 : (nI (i + 2)).toNatClampNeg = i + 2 := nI_clamp (by omega)
  have v2 : vp_in (nI (i + 2)) L := vp_in_nI (by omega) (by omega)
  refine zw_aload_n dL_law_505 rfl ?_
  refine zw_aloadS_n dL_law_506 rfl ?_
  refine zw_iload_n dL_law_507 rfl ?_
  refine zw_iconst (v := 1) dL_law_508 (by decide) ?_
  refine zw_iadd dL_law_509 ?_
  rw [e1]
  refine zw_sld hZ dL_law_510 v1 ?_
  rw [c1]
  refine zw_aloadS_n dL_law_511 rfl ?_
  refine zw_iload_n dL_law_512 rfl ?_
  refine zw_iconst (v := 2) dL_law_513 (by decide) ?_
  refine zw_iadd dL_law_514 ?_
  rw [e2]
  refine zw_sld hZ dL_law_515 v2 ?_
  rw [c2]
  refine zx_V2I dL_law_516 zm_F_lane zk_L_84 a.1 rfl (c_F_lane (l := l) (g := g) (d := 0) a ok (x := xs (i + 1)) (y := xs (i + 2))) ⟨Nat.le_of_ble_eq_true rfl, Nat.le_of_ble_eq_true rfl⟩ (Nat.le_of_ble_eq_true rfl) ⟨Nat.le_of_ble_eq_true rfl, Nat.le_of_ble_eq_true rfl⟩ ?_
  rintro h1 ⟨a1, f1, l1⟩
  have m1 : MX h1 O := m.keep f1
  obtain ⟨qa, qb, z, hM, hS⟩ := id m1.1
  refine zw_aload_n dL_law_519 rfl ?_
  refine zw_aloadS_n dL_law_520 rfl ?_
  refine zw_iload_n dL_law_521 rfl ?_
  refine zw_iconst (v := 1) dL_law_522 (by decide) ?_
  refine zw_iadd dL_law_523 ?_
  rw [e1]
  refine zw_sld hZ dL_law_524 v1 ?_
  rw [c1]
  refine zw_aloadS_n dL_law_525 rfl ?_
  refine zw_iload_n dL_law_526 rfl ?_
  refine zw_iconst (v := 2) dL_law_527 (by decide) ?_
  refine zw_iadd dL_law_528 ?_
  rw [e2]
  refine zw_sld hZ dL_law_529 v2 ?_
  rw [c2]
  refine zx_V2I dL_law_530 zm_M_lane zk_L_87 hM rfl (c_M_lane (l := l) (g := g) (d := 0) m1 ok (x := xs (i + 1)) (y := xs (i + 2))) ⟨Nat.le_of_ble_eq_true rfl, Nat.le_of_ble_eq_true rfl⟩ (Nat.le_of_ble_eq_true rfl) ⟨Nat.le_of_ble_eq_true rfl, Nat.le_of_ble_eq_true rfl⟩ ?_
  rintro h2 ⟨m2, f2, l2⟩
  refine zw_icmp_eq 666 dL_law_533 (by decide) (fun c_533 => ?_) (fun c_533 => ?_)
  · exact kk h2 _ ⟨a1.keep f2, m2, ok, by rw [l2, l1]; exact hl⟩
  · exact absurd rfl c_533
theorem lw_c18 (hi : i + 3 ≤ L) (hL : L ≤ 1536) (I : LI h O) (kk : ∀ h' O', LI h' O' → WW l g mL_law room_1 (zS g b L xs) QQ 666 (lls b i) [] h' 44 1733) : WW l g mL_law room_1 (zS g b L xs) QQ 538 (lls b i) [] h 44 1733 := by
  obtain ⟨a, m, ok, hl⟩ := I
  have hZ : ∀ s, zS g b L xs s → zS g b L xs s := fun _ q => q
  have e1 : nI i + 1 = nI (i + 1) := nI_add i 1
  have c1 : (nI (i + 1)).toNatClampNeg = i + 1 := nI_clamp (by omega)
  have v1 : vp_in (nI (i + 1)) L := vp_in_nI (by omega) (by omega)
  refine zw_aload_n dL_law_538 rfl ?_
  refine zw_aloadS_n dL_law_539 rfl ?_
  refine zw_iload_n dL_law_540 rfl ?_
  refine zw_iconst (v := 1) dL_law_541 (by decide) ?_
  refine zw_iadd dL_law_542 ?_
  rw [e1]
  refine zw_sld hZ dL_law_543 v1 ?_
  rw [c1]
  refine zx_V1I dL_law_544 zm_F_room zk_L_88 a.1 rfl (c_F_room (l := l) (g := g) (d := 0) a ok (x := xs (i + 1))) ⟨Nat.le_of_ble_eq_true rfl, Nat.le_of_ble_eq_true rfl⟩ (Nat.le_of_ble_eq_true rfl) ⟨Nat.le_of_ble_eq_true rfl, Nat.le_of_ble_eq_true rfl⟩ ?_
  rintro h1 ⟨a1, f1, l1⟩
  have m1 : MX h1 O := m.keep f1
  obtain ⟨qa, qb, z, hM, hS⟩ := id m1.1
  refine zw_aload_n dL_law_547 rfl ?_
  refine zw_aloadS_n dL_law_548 rfl ?_
  refine zw_iload_n dL_law_549 rfl ?_
  refine zw_iconst (v := 1) dL_law_550 (by decide) ?_
  refine zw_iadd dL_law_551 ?_
  rw [e1]
  refine zw_sld hZ dL_law_552 v1 ?_
  rw [c1]
  refine zx_V1I dL_law_553 zm_M_room zk_L_91 hM rfl (c_M_room (l := l) (g := g) (d := 0) m1 ok (x := xs (i + 1))) ⟨Nat.le_of_ble_eq_true rfl, Nat.le_of_ble_eq_true rfl⟩ (Nat.le_of_ble_eq_true rfl) ⟨Nat.le_of_ble_eq_true rfl, Nat.le_of_ble_eq_true rfl⟩ ?_
  rintro h2 ⟨m2, f2, l2⟩
  refine zw_icmp_eq 666 dL_law_556 (by decide) (fun c_556 => ?_) (fun c_556 => ?_)
  · exact kk h2 _ ⟨a1.keep f2, m2, ok, by rw [l2, l1]; exact hl⟩
  · exact absurd rfl c_556
theorem lw_c19 (hi : i + 3 ≤ L) (hL : L ≤ 1536) (I : LI h O) (kk : ∀ h' O', LI h' O' → WW l g mL_law room_1 (zS g b L xs) QQ 666 (lls b i) [] h' 44 1733) : WW l g mL_law room_1 (zS g b L xs) QQ 561 (lls b i) [] h 44 1733 := by
  obtain ⟨a, m, ok, hl⟩ := I
  have hZ : ∀ s, zS g b L xs s → zS g b L xs s := fun _ q => q
  have e1 : nI i + 1 = nI (i + 1) := nI_add i 1
  have c1 : (nI (i + 1)).toNatClampNeg = i + 1 := nI_clamp (by omega)
  have v1 : vp_in (nI (i + 1)) L := vp_in_nI (by omega) (by omega)
  refine zw_aload_n dL_law_561 rfl ?_
  refine zw_aloadS_n dL_law_562 rfl ?_
  refine zw_iload_n dL_law_563 rfl ?_
  refine zw_iconst (v := 1) dL_law_564 (by decide) ?_
  refine zw_iadd dL_law_565 ?_
  rw [e1]
  refine zw_sld hZ dL_law_566 v1 ?_
  rw [c1]
  refine zx_V1I dL_law_567 zm_F_reach zk_L_92 a.1 rfl (c_F_reach (l := l) (g := g) (d := 0) a ok (x := xs (i + 1))) ⟨Nat.le_of_ble_eq_true rfl, Nat.le_of_ble_eq_true rfl⟩ (Nat.le_of_ble_eq_true rfl) ⟨Nat.le_of_ble_eq_true rfl, Nat.le_of_ble_eq_true rfl⟩ ?_
  rintro h1 ⟨a1, f1, l1⟩
  have m1 : MX h1 O := m.keep f1
  obtain ⟨qa, qb, z, hM, hS⟩ := id m1.1
  refine zw_aload_n dL_law_570 rfl ?_
  refine zw_aloadS_n dL_law_571 rfl ?_
  refine zw_iload_n dL_law_572 rfl ?_
  refine zw_iconst (v := 1) dL_law_573 (by decide) ?_
  refine zw_iadd dL_law_574 ?_
  rw [e1]
  refine zw_sld hZ dL_law_575 v1 ?_
  rw [c1]
  refine zx_V1I dL_law_576 zm_M_reach zk_L_95 hM rfl (c_M_reach (l := l) (g := g) (d := 0) m1 ok (x := xs (i + 1))) ⟨Nat.le_of_ble_eq_true rfl, Nat.le_of_ble_eq_true rfl⟩ (Nat.le_of_ble_eq_true rfl) ⟨Nat.le_of_ble_eq_true rfl, Nat.le_of_ble_eq_true rfl⟩ ?_
  rintro h2 ⟨m2, f2, l2⟩
  refine zw_icmp_eq 666 dL_law_579 (by decide) (fun c_579 => ?_) (fun c_579 => ?_)
  · exact kk h2 _ ⟨a1.keep f2, m2, ok, by rw [l2, l1]; exact hl⟩
  · exact absurd rfl c_579
theorem lw_c20 (hi : i + 3 ≤ L) (hL : L ≤ 1536) (I : LI h O) (kk : ∀ h' O', LI h' O' → WW l g mL_law room_1 (zS g b L xs) QQ 666 (lls b i) [] h' 44 1733) : WW l g mL_law room_1 (zS g b L xs) QQ 584 (lls b i) [] h 44 1733 := by
  obtain ⟨a, m, ok, hl⟩ := I
  refine zw_aload_n dL_law_584 rfl ?_
  refine zx_V0I dL_law_585 zm_F_when zk_L_96 a.1 rfl (c_F_when (l := l) (g := g) (d := 0) a ok) ⟨Nat.le_of_ble_eq_true rfl, Nat.le_of_ble_eq_true rfl⟩ (Nat.le_of_ble_eq_true rfl) ⟨Nat.le_of_ble_eq_true rfl, Nat.le_of_ble_eq_true rfl⟩ ?_
  rintro h1 ⟨a1, f1, l1⟩
  have m1 : MX h1 O := m.keep f1
  obtain ⟨qa, qb, z, hM, hS⟩ := id m1.1
  refine zw_aload_n dL_law_588 rfl ?_
  refine zx_V0I dL_law_589 zm_M_when zk_L_99 hM rfl (c_M_when (l := l) (g := g) (d := 0) m1 ok) ⟨Nat.le_of_ble_eq_true rfl, Nat.le_of_ble_eq_true rfl⟩ (Nat.le_of_ble_eq_true rfl) ⟨Nat.le_of_ble_eq_true rfl, Nat.le_of_ble_eq_true rfl⟩ ?_
  rintro h2 ⟨m2, f2, l2⟩
  refine zw_icmp_eq 666 dL_law_592 (by decide) (fun c_592 => ?_) (fun c_592 => ?_)
  · exact kk h2 _ ⟨a1.keep f2, m2, ok, by rw [l2, l1]; exact hl⟩
  · exact absurd rfl c_592
theorem lw_c21 (hi : i + 3 ≤ L) (hL : L ≤ 1536) (I : LI h O) (kk : ∀ h' O', LI h' O' → WW l g mL_law room_1 (zS g b L xs) QQ 666 (lls b i) [] h' 44 1733) : WW l g mL_law room_1 (zS g b L xs) QQ 597 (lls b i) [] h 44 1733 := by
  obtain ⟨a, m, ok, hl⟩ := I
  have hZ : ∀ s, zS g b L xs s → zS g b L xs s := fun _ q => q
  have e1 : nI i + 1 = nI (i + 1) := nI_add i 1
  have c1 : (nI (i + 1)).toNatClampNeg = i + 1 := nI_clamp (by omega)
  have v1 : vp_in (nI (i + 1)) L := vp_in_nI (by omega) (by omega)
  refine zw_aload_n dL_law_597 rfl ?_
  refine zw_aloadS_n dL_law_598 rfl ?_
  refine zw_iload_n dL_law_599 rfl ?_
  refine zw_iconst (v := 1) dL_law_600 (by decide) ?_
  refine zw_iadd dL_law_601 ?_
  rw [e1]
  refine zw_sld hZ dL_law_602 v1 ?_
  rw [c1]
  refine zx_V1I dL_law_603 zm_F_keep zk_L_100 a.1 rfl (c_F_keep (l := l) (g := g) (d := 0) a ok (x := xs (i + 1))) ⟨Nat.le_of_ble_eq_true rfl, Nat.le_of_ble_eq_true rfl⟩ (Nat.le_of_ble_eq_true rfl) ⟨Nat.le_of_ble_eq_true rfl, Nat.le_of_ble_eq_true rfl⟩ ?_
  rintro h1 ⟨a1, f1, l1⟩
  have m1 : MX h1 O := m.keep f1
  obtain ⟨qa, qb, z, hM, hS⟩ := id m1.1
  refine zw_aload_n dL_law_606 rfl ?_
  refine zw_aloadS_n dL_law_607 rfl ?_
  refine zw_iload_n dL_law_608 rfl ?_
  refine zw_iconst (v := 1) dL_law_609 (by decide) ?_
  refine zw_iadd dL_law_610 ?_
  rw [e1]
  refine zw_sld hZ dL_law_611 v1 ?_
  rw [c1]
  refine zx_V1I dL_law_612 zm_M_keep zk_L_103 hM rfl (c_M_keep (l := l) (g := g) (d := 0) m1 ok (x := xs (i + 1))) ⟨Nat.le_of_ble_eq_true rfl, Nat.le_of_ble_eq_true rfl⟩ (Nat.le_of_ble_eq_true rfl) ⟨Nat.le_of_ble_eq_true rfl, Nat.le_of_ble_eq_true rfl⟩ ?_
  rintro h2 ⟨m2, f2, l2⟩
  refine zw_icmp_eq 666 dL_law_615 (by decide) (fun c_615 => ?_) (fun c_615 => ?_)
  · exact kk h2 _ ⟨a1.keep f2, m2, ok_keep ok _, by rw [l2, l1]; exact hl⟩
  · exact absurd rfl c_615
theorem lw_c22 (hi : i + 3 ≤ L) (hL : L ≤ 1536) (I : LI h O) (kk : ∀ h' O', LI h' O' → WW l g mL_law room_1 (zS g b L xs) QQ 666 (lls b i) [] h' 44 1733) : WW l g mL_law room_1 (zS g b L xs) QQ 620 (lls b i) [] h 44 1733 := by
  obtain ⟨a, m, ok, hl⟩ := I
  have hZ : ∀ s, zS g b L xs s → zS g b L xs s := fun _ q => q
  have e1 : nI i + 1 = nI (i + 1) := nI_add i 1
  have c1 : (nI (i + 1)).toNatClampNeg = i + 1 := nI_clamp (by omega)
  have v1 : vp_in (nI (i + 1)) L := vp_in_nI (by omega) (by omega)
  refine zw_aload_n dL_law_620 rfl ?_
  refine zw_aloadS_n dL_law_621 rfl ?_
  refine zw_iload_n dL_law_622 rfl ?_
  refine zw_iconst (v := 1) dL_law_623 (by decide) ?_
  refine zw_iadd dL_law_624 ?_
  rw [e1]
  refine zw_sld hZ dL_law_625 v1 ?_
  rw [c1]
  refine zx_V1I dL_law_626 zm_F_back zk_L_104 a.1 rfl (c_F_back (l := l) (g := g) (d := 0) a ok (x := xs (i + 1))) ⟨Nat.le_of_ble_eq_true rfl, Nat.le_of_ble_eq_true rfl⟩ (Nat.le_of_ble_eq_true rfl) ⟨Nat.le_of_ble_eq_true rfl, Nat.le_of_ble_eq_true rfl⟩ ?_
  rintro h1 ⟨a1, f1, l1⟩
  have m1 : MX h1 O := m.keep f1
  obtain ⟨qa, qb, z, hM, hS⟩ := id m1.1
  refine zw_aload_n dL_law_629 rfl ?_
  refine zw_aloadS_n dL_law_630 rfl ?_
  refine zw_iload_n dL_law_631 rfl ?_
  refine zw_iconst (v := 1) dL_law_632 (by decide) ?_
  refine zw_iadd dL_law_633 ?_
  rw [e1]
  refine zw_sld hZ dL_law_634 v1 ?_
  rw [c1]
  refine zx_V1I dL_law_635 zm_M_back zk_L_107 hM rfl (c_M_back (l := l) (g := g) (d := 0) m1 ok (x := xs (i + 1))) ⟨Nat.le_of_ble_eq_true rfl, Nat.le_of_ble_eq_true rfl⟩ (Nat.le_of_ble_eq_true rfl) ⟨Nat.le_of_ble_eq_true rfl, Nat.le_of_ble_eq_true rfl⟩ ?_
  rintro h2 ⟨m2, f2, l2⟩
  refine zw_icmp_eq 666 dL_law_638 (by decide) (fun c_638 => ?_) (fun c_638 => ?_)
  · exact kk h2 _ ⟨a1.keep f2, m2, ok_back ok _, by rw [l2, l1]; exact hl⟩
  · exact absurd rfl c_638
theorem lw_c23 (hi : i + 3 ≤ L) (hL : L ≤ 1536) (I : LI h O) (kk : ∀ h' O', LI h' O' → WW l g mL_law room_1 (zS g b L xs) QQ 666 (lls b i) [] h' 44 1733) : WW l g mL_law room_1 (zS g b L xs) QQ 643 (lls b i) [] h 44 1733 := by
  obtain ⟨a, m, ok, hl⟩ := I
  have hZ : ∀ s, zS g b L xs s → zS g b L xs s := fun _ q => q
  have e1 : nI i + 1 = nI (i + 1) := nI_add i 1
  have c1 : (nI (i + 1)).toNatClampNeg = i + 1 := nI_clamp (by omega)
  have v1 : vp_in (nI (i + 1)) L := vp_in_nI (by omega) (by omega)
  refine zw_aload_n dL_law_643 rfl ?_
  refine zw_aloadS_n dL_law_644 rfl ?_
  refine zw_iload_n dL_law_645 rfl ?_
  refine zw_iconst (v := 1) dL_law_646 (by decide) ?_
  refine zw_iadd dL_law_647 ?_
  rw [e1]
  refine zw_sld hZ dL_law_648 v1 ?_
  rw [c1]
  refine zx_V1I dL_law_649 zm_F_count zk_L_108 a.1 rfl (c_F_count (l := l) (g := g) (d := 0) a ok (x := xs (i + 1))) ⟨Nat.le_of_ble_eq_true rfl, Nat.le_of_ble_eq_true rfl⟩ (Nat.le_of_ble_eq_true rfl) ⟨Nat.le_of_ble_eq_true rfl, Nat.le_of_ble_eq_true rfl⟩ ?_
  rintro h1 ⟨a1, f1, l1⟩
  have m1 : MX h1 O := m.keep f1
  obtain ⟨qa, qb, z, hM, hS⟩ := id m1.1
  refine zw_aload_n dL_law_652 rfl ?_
  refine zw_aloadS_n dL_law_653 rfl ?_
  refine zw_iload_n dL_law_654 rfl ?_
  refine zw_iconst (v := 1) dL_law_655 (by decide) ?_
  refine zw_iadd dL_law_656 ?_
  rw [e1]
  refine zw_sld hZ dL_law_657 v1 ?_
  rw [c1]
  refine zx_V1I dL_law_658 zm_M_count zk_L_111 hM rfl (c_M_count (l := l) (g := g) (d := 0) m1 ok (x := xs (i + 1))) ⟨Nat.le_of_ble_eq_true rfl, Nat.le_of_ble_eq_true rfl⟩ (Nat.le_of_ble_eq_true rfl) ⟨Nat.le_of_ble_eq_true rfl, Nat.le_of_ble_eq_true rfl⟩ ?_
  rintro h2 ⟨m2, f2, l2⟩
  refine zw_icmp_eq 666 dL_law_661 (by decide) (fun c_661 => ?_) (fun c_661 => ?_)
  · exact kk h2 _ ⟨a1.keep f2, m2, ok, by rw [l2, l1]; exact hl⟩
  · exact absurd rfl c_661
theorem lw_loop (hL : L ≤ 1536) (hEnd : ∀ (ls : zL) (h : zH), h.length = 44 → WW l g mL_law room_1 (zS g b L xs) QQ 672 ls [] h 44 1733) : ∀ (m i : Nat) (h : zH) (O : Om), L ≤ i + m → i ≤ 1536 → LI h O → WW l g mL_law room_1 (zS g b L xs) QQ 18 (lls b i) [] h 44 1733 := by
  have hZ : ∀ s, zS g b L xs s → zS g b L xs s := fun _ q => q
  have STOP : ∀ (i : Nat) (h : zH) (O : Om), ¬ i + 3 ≤ L → i ≤ 1536 → LI h O → WW l g mL_law room_1 (zS g b L xs) QQ 18 (lls b i) [] h 44 1733 := by
    intro i h O hn hi I
    refine zw_iload_n dL_law_18 rfl ?_
    refine zw_aloadS_n dL_law_19 rfl ?_
    refine zw_slen hZ dL_law_20 ?_
    refine zw_iconst (v := 3) dL_law_21 (by decide) ?_
    refine zw_isub dL_law_22 ?_
    refine zw_icmp_gt 672 dL_law_23 (by decide) (fun c_23 => ?_) (fun c_23 => ?_)
    · exact hEnd _ _ I.2.2.2
    · refine absurd ?_ c_23
      rw [Int32.lt_iff_toInt_lt]
      have q1 : (Int32.ofNat L - 3).toInt = (L : Int) - 3 := pk_sub_toInt (a := L) (b := 3) (by omega) (by decide)
      rw [q1, nI_toInt (by omega)]
      omega
  intro m
  induction m with
  | zero =>
    intro i h O hm hi I
    exact STOP i h O (by omega) hi I
  | succ m ih =>
    intro i h O hm hi I
    by_cases hn : i + 3 ≤ L
    · have kk : ∀ h' O', LI h' O' → WW l g mL_law room_1 (zS g b L xs) QQ 666 (lls b i) [] h' 44 1733 := by
        intro h' O' I'
        refine zw_iinc (v := nI (i + 3)) dL_law_666 rfl (by rw [show Int32.ofInt 3 = nI 3 from by decide, nI_add]) (by decide) rfl ?_
        refine zw_goto 18 dL_law_669 (by decide) ?_
        exact zw_lk (ih (i + 3) h' O' (by omega) (by omega) I') ⟨rfl, rfl, rfl, rfl, trivial⟩
      have ecl : (nI i).toNatClampNeg = i := nI_clamp (by omega)
      have v0 : vp_in (nI i) L := vp_in_nI (by omega) (by omega)
      obtain ⟨c, hc, ec⟩ := pk_andE (xs i) (m := 31) 5 (by decide)
      refine zw_iload_n dL_law_18 rfl ?_
      refine zw_aloadS_n dL_law_19 rfl ?_
      refine zw_slen hZ dL_law_20 ?_
      refine zw_iconst (v := 3) dL_law_21 (by decide) ?_
      refine zw_isub dL_law_22 ?_
      refine zw_icmp_gt 672 dL_law_23 (by decide) (fun c_23 => ?_) (fun c_23 => ?_)
      · rw [Int32.lt_iff_toInt_lt] at c_23
        have q1 : (Int32.ofNat L - 3).toInt = (L : Int) - 3 := pk_sub_toInt (a := L) (b := 3) (by omega) (by decide)
        rw [q1, nI_toInt (by omega)] at c_23
        omega
      · refine zw_aloadS_n dL_law_26 rfl ?_
        refine zw_iload_n dL_law_27 rfl ?_
        refine zw_sld hZ dL_law_28 v0 ?_
        rw [ecl]
        refine zw_bipush (v := 31) dL_law_29 (by decide) ?_
        refine zw_iand dL_law_31 ?_
        rw [ec]
        by_cases q0 : c = 0
        · subst q0
          exact zw_tabIn (off := 112) 144 dL_law_32 (by decide) (by decide) (by decide) (by decide) (lw_c0 hn hL I kk)
        by_cases q1 : c = 1
        · subst q1
          exact zw_tabIn (off := 135) 167 dL_law_32 (by decide) (by decide) (by decide) (by decide) (lw_c1 hn hL I kk)
        by_cases q2 : c = 2
        · subst q2
          exact zw_tabIn (off := 148) 180 dL_law_32 (by decide) (by decide) (by decide) (by decide) (lw_c2 hn hL I kk)
        by_cases q3 : c = 3
        · subst q3
          exact zw_tabIn (off := 161) 193 dL_law_32 (by decide) (by decide) (by decide) (by decide) (lw_c3 hn hL I kk)
        by_cases q4 : c = 4
        · subst q4
          exact zw_tabIn (off := 184) 216 dL_law_32 (by decide) (by decide) (by decide) (by decide) (lw_c4 hn hL I kk)
        by_cases q5 : c = 5
        · subst q5
          exact zw_tabIn (off := 217) 249 dL_law_32 (by decide) (by decide) (by decide) (by decide) (lw_c5 hn hL I kk)
        by_cases q6 : c = 6
        · subst q6
          exact zw_tabIn (off := 240) 272 dL_law_32 (by decide) (by decide) (by decide) (by decide) (lw_c6 hn hL I kk)
        by_cases q7 : c = 7
        · subst q7
          exact zw_tabIn (off := 253) 285 dL_law_32 (by decide) (by decide) (by decide) (by decide) (lw_c7 hn hL I kk)
        by_cases q8 : c = 8
        · subst q8
          exact zw_tabIn (off := 276) 308 dL_law_32 (by decide) (by decide) (by decide) (by decide) (lw_c8 hn hL I kk)
        by_cases q9 : c = 9
        · subst q9
          exact zw_tabIn (off := 289) 321 dL_law_32 (by decide) (by decide) (by decide) (by decide) (lw_c9 hn hL I kk)
        by_cases q10 : c = 10
        · subst q10
          exact zw_tabIn (off := 322) 354 dL_law_32 (by decide) (by decide) (by decide) (by decide) (lw_c10 hn hL I kk)
        by_cases q11 : c = 11
        · subst q11
          exact zw_tabIn (off := 345) 377 dL_law_32 (by decide) (by decide) (by decide) (by decide) (lw_c11 hn hL I kk)
        by_cases q12 : c = 12
        · subst q12
          exact zw_tabIn (off := 358) 390 dL_law_32 (by decide) (by decide) (by decide) (by decide) (lw_c12 hn hL I kk)
        by_cases q13 : c = 13
        · subst q13
          exact zw_tabIn (off := 381) 413 dL_law_32 (by decide) (by decide) (by decide) (by decide) (lw_c13 hn hL I kk)
        by_cases q14 : c = 14
        · subst q14
          exact zw_tabIn (off := 404) 436 dL_law_32 (by decide) (by decide) (by decide) (by decide) (lw_c14 hn hL I kk)
        by_cases q15 : c = 15
        · subst q15
          exact zw_tabIn (off := 427) 459 dL_law_32 (by decide) (by decide) (by decide) (by decide) (lw_c15 hn hL I kk)
        by_cases q16 : c = 16
        · subst q16
          exact zw_tabIn (off := 450) 482 dL_law_32 (by decide) (by decide) (by decide) (by decide) (lw_c16 hn hL I kk)
        by_cases q17 : c = 17
        · subst q17
          exact zw_tabIn (off := 473) 505 dL_law_32 (by decide) (by decide) (by decide) (by decide) (lw_c17 hn hL I kk)
        by_cases q18 : c = 18
        · subst q18
          exact zw_tabIn (off := 506) 538 dL_law_32 (by decide) (by decide) (by decide) (by decide) (lw_c18 hn hL I kk)
        by_cases q19 : c = 19
        · subst q19
          exact zw_tabIn (off := 529) 561 dL_law_32 (by decide) (by decide) (by decide) (by decide) (lw_c19 hn hL I kk)
        by_cases q20 : c = 20
        · subst q20
          exact zw_tabIn (off := 552) 584 dL_law_32 (by decide) (by decide) (by decide) (by decide) (lw_c20 hn hL I kk)
        by_cases q21 : c = 21
        · subst q21
          exact zw_tabIn (off := 565) 597 dL_law_32 (by decide) (by decide) (by decide) (by decide) (lw_c21 hn hL I kk)
        by_cases q22 : c = 22
        · subst q22
          exact zw_tabIn (off := 588) 620 dL_law_32 (by decide) (by decide) (by decide) (by decide) (lw_c22 hn hL I kk)
        by_cases q23 : c = 23
        · subst q23
          exact zw_tabIn (off := 611) 643 dL_law_32 (by decide) (by decide) (by decide) (by decide) (lw_c23 hn hL I kk)
        exact zw_tabOut 666 dL_law_32 (Or.inr (by rw [nI_toInt (by omega)]; omega)) (by decide) (kk h O I)
    · exact STOP i h O hn hi I
theorem lw_begin (hL : L ≤ 1536) (hEnd : ∀ (ls : zL) (h : zH), h.length = 44 → WW l g mL_law room_1 (zS g b L xs) QQ 672 ls [] h 44 1733) : WW l g mL_law room_1 (zS g b L xs) QQ 0 [(0, some (.retAddr b))] [] [] 0 0 := by
  refine zw_new (ci := 0) (fs := n0_F) dL_law_0 rfl zi_F zy_F zcK_L_7 zin_F zii_F znf_F rfl ⟨Nat.le_of_ble_eq_true rfl, Nat.le_of_ble_eq_true rfl⟩ ?_
  refine zw_h (h2 := [.inr (0, n0_F)]) rfl ?_
  refine zw_st (st2 := [.ref 0]) rfl ?_
  refine zw_dup dL_law_3 rfl ?_
  refine zg_I0 dL_law_4 zm_F_init zk_L_9 (c_F_init (l := l) (g := g) (d := 0)) ⟨Nat.le_of_ble_eq_true rfl, Nat.le_of_ble_eq_true rfl⟩ (Nat.le_of_ble_eq_true rfl) ⟨Nat.le_of_ble_eq_true rfl, Nat.le_of_ble_eq_true rfl⟩ ?_
  rintro v h1 ⟨rfl, a, hl⟩
  have s1 : (h1 ++ [.inr (7, n0_M)])[31]? = some (.inr (7, n0_M)) := ap_ge (j := 0) hl
  have s2 : List.length (α := zC) (h1 ++ [.inr (7, n0_M)]) = 32 := by simp [hl]
  refine zw_astore_n dL_law_7 (by decide) rfl ?_
  refine zw_new (ci := 7) (fs := n0_M) dL_law_8 rfl zi_M zy_M zcK_L_10 zin_M zii_M znf_M rfl ⟨Nat.le_of_ble_eq_true rfl, Nat.le_of_ble_eq_true rfl⟩ ?_
  rw [hl]
  refine zw_dup dL_law_11 rfl ?_
  refine zg_I0 dL_law_12 zm_M_init zk_L_12 (c_M_init (l := l) (g := g) (d := 0) s1 s2) ⟨Nat.le_of_ble_eq_true rfl, Nat.le_of_ble_eq_true rfl⟩ (Nat.le_of_ble_eq_true rfl) ⟨Nat.le_of_ble_eq_true rfl, Nat.le_of_ble_eq_true rfl⟩ ?_
  rintro v h2 ⟨rfl, m, f, l2⟩
  have I : LI h2 O01 := ⟨a.keep (fun j hj => (f j hj).trans (ap_lt (by omega))), m, O01_ok, l2⟩
  refine zw_astore_n dL_law_15 (by decide) rfl ?_
  refine zw_iconst (v := 0) dL_law_16 (by decide) ?_
  refine zw_istore_n dL_law_17 (by decide) rfl ?_
  exact zw_kn (k2 := 44) (n2 := 1733) rfl rfl (zw_lk (lw_loop hL hEnd L 0 h2 O01 (by omega) (by omega) I) ⟨rfl, rfl, rfl, rfl, trivial⟩)
end C80
