section TSLAW
variable {p : Program} {l : Launch} {e : Env} {s : State} {m : MethodId} {below : List Frame} {meth : Method} {c : Code} {b L : Nat} {xs : Nat → Int32} {D : va_G} {cL cA cI cZ : ClassId} {o sA : Nat} {w a : Nat → Nat} {h pa ba ou : Nat} {f : Nat → Nat → Int64} {th : Int32} {P B : Nat → Int32} {g : Nat → Int64} {V : Nat → Int} {H : Heap} {locs : List Loc} {ls : Array Slot} {n : Nat}

set_option maxHeartbeats 8000000 in
set_option maxRecDepth 100000 in
theorem law_add (hl0 : l.stackTraces = false) (hL : L ≤ 4608) (C0 : lw_At p s m meth c b L xs) (hK : va_K D vwCl (ts_ty cL cA cI cZ) s) (hKL : ts_KL (fun q : Nat => s.heap.size ≤ q) s) (hn : 9 * n + 9 ≤ L) (hT : ts_TS f V) (hM : ts_MS P B V) (hB : ts_bn n V) (hP : va_P D vwCl (ts_lw cL cA cI cZ o sA w a h pa ba ou f th P B g) H) (hD : va_D (fun q : Nat => s.heap.size ≤ q) (ts_lw cL cA cI cZ o sA w a h pa ba ou f th P B g)) (hS : va_S (fun q : Nat => s.heap.size ≤ q) s.heap H locs) (hl : lv_has ls 8 [(4, .int (nI (9 * n))), (0, .ref b), (1, .ref o), (2, .ref h), (3, .ref ou)])
    (kk : ∀ (f' : Nat → Nat → Int64) (th' : Int32) (P' B' : Nat → Int32) (g' : Nat → Int64) (V' : Nat → Int) (H : Heap) (locs : List Loc) (ls : Array Slot), ts_TS f' V' → ts_MS P' B' V' → ts_bn (n + 1) V' → va_P D vwCl (ts_lw cL cA cI cZ o sA w a h pa ba ou f' th' P' B' g') H → va_D (fun q : Nat => s.heap.size ≤ q) (ts_lw cL cA cI cZ o sA w a h pa ba ou f' th' P' B' g') → va_S (fun q : Nat => s.heap.size ≤ q) s.heap H locs → lv_has ls 8 [(4, .int (nI (9 * n))), (0, .ref b), (1, .ref o), (2, .ref h), (3, .ref ou)] → W p l e room_1 s m #[Value.ref b] below meth c H locs (28 + (n + 1)) (4637 + 6 * (n + 1)) (lw_Z below #[Value.ref b] s) (F0 m 883 ls [])) :
    W p l e room_1 s m #[Value.ref b] below meth c H locs (28 + n) (4637 + 6 * n) (lw_Z below #[Value.ref b] s) (F0 m 136 ls []) := by
  obtain ⟨hx, hb, hr, hml, hown, hts, hX, hbl, hlocks, hgv⟩ := C0
  have hown : s.vm.findClass R_L = some m.cls := hown
  have hA : ∀ q : Nat, s.heap.size ≤ q → (fun q : Nat => s.heap.size ≤ q) q := fun _ h => h
  have hbA : ¬ (fun q : Nat => s.heap.size ≤ q) b := Nat.not_le.mpr hbl
  have hcap : 28 + n + 1 ≤ room_1.cells ∧ 4637 + 6 * n + 6 ≤ room_1.slots := ⟨by show 28 + n + 1 ≤ 601024; omega, by show 4637 + 6 * n + 6 ≤ 7293033; omega⟩
  have hn5 : n ≤ 512 := by omega
  refine lv_aload_n hx hb d_L_law_136 rfl (lv_at hl 2 rfl) ?_
  refine lv_aload_n hx hb d_L_law_137 rfl (lv_at hl 1 rfl) ?_
  refine lv_iload hx hb d_L_law_138 (lv_at hl 0 rfl) ?_
  refine lv_iconst (v := 1) hx hb d_L_law_140 (by decide) ?_
  refine lv_iadd hx hb d_L_law_141 ?_
  refine lv_topi (fun z1 e_z1 => ?_)
  obtain rfl : z1 = (nI (9 * n + 1)) := e_z1.trans (nI_add (9 * n) 1)
  refine va_sld hx hb hX hbl hbA hS (vp_in_nI (by omega) (by omega)) d_L_law_142 ?_
  refine lv_topi (fun z2 e_z2 => ?_)
  obtain rfl : z2 = (xs (9 * n + 1)) := e_z2.trans (by rw [nI_clamp (n := 9 * n + 1) (by omega)])
  refine lv_aload_n hx hb d_L_law_143 rfl (lv_at hl 1 rfl) ?_
  refine lv_iload hx hb d_L_law_144 (lv_at hl 0 rfl) ?_
  refine lv_iconst (v := 2) hx hb d_L_law_146 (by decide) ?_
  refine lv_iadd hx hb d_L_law_147 ?_
  refine lv_topi (fun z3 e_z3 => ?_)
  obtain rfl : z3 = (nI (9 * n + 2)) := e_z3.trans (nI_add (9 * n) 2)
  refine va_sld hx hb hX hbl hbA hS (vp_in_nI (by omega) (by omega)) d_L_law_148 ?_
  refine lv_topi (fun z4 e_z4 => ?_)
  obtain rfl : z4 = (xs (9 * n + 2)) := e_z4.trans (by rw [nI_clamp (n := 9 * n + 2) (by omega)])
  refine lv_i2l hx hb d_L_law_149 rfl ?_
  refine lv_bipush (v := 32) hx hb d_L_law_150 (by decide) ?_
  refine lv_lshl hx hb d_L_law_152 rfl ?_
  refine lv_topl (fun z5 e_z5 => ?_)
  refine lv_aload_n hx hb d_L_law_153 rfl (lv_at hl 1 rfl) ?_
  refine lv_iload hx hb d_L_law_154 (lv_at hl 0 rfl) ?_
  refine lv_iconst (v := 3) hx hb d_L_law_156 (by decide) ?_
  refine lv_iadd hx hb d_L_law_157 ?_
  refine lv_topi (fun z6 e_z6 => ?_)
  obtain rfl : z6 = (nI (9 * n + 3)) := e_z6.trans (nI_add (9 * n) 3)
  refine va_sld hx hb hX hbl hbA hS (vp_in_nI (by omega) (by omega)) d_L_law_158 ?_
  refine lv_topi (fun z7 e_z7 => ?_)
  obtain rfl : z7 = (xs (9 * n + 3)) := e_z7.trans (by rw [nI_clamp (n := 9 * n + 3) (by omega)])
  refine lv_i2l hx hb d_L_law_159 rfl ?_
  refine lv_ldc2 (v := 4294967295) hx hb hown (hts (.constantLong R_L 70 4294967295) (by decide +kernel)) d_L_law_160 ?_
  refine lv_land hx hb d_L_law_163 ?_
  refine lv_topl (fun z8 e_z8 => ?_)
  refine lv_lor hx hb d_L_law_164 ?_
  refine lv_topl (fun z9 e_z9 => ?_)
  obtain rfl : z9 = (ts_lg (xs (9 * n + 2)) (xs (9 * n + 3))) := e_z9.trans (by rw [e_z8, e_z5]; rfl)
  refine lv_aload_n hx hb d_L_law_165 rfl (lv_at hl 1 rfl) ?_
  refine lv_iload hx hb d_L_law_166 (lv_at hl 0 rfl) ?_
  refine lv_iconst (v := 4) hx hb d_L_law_168 (by decide) ?_
  refine lv_iadd hx hb d_L_law_169 ?_
  refine lv_topi (fun z10 e_z10 => ?_)
  obtain rfl : z10 = (nI (9 * n + 4)) := e_z10.trans (nI_add (9 * n) 4)
  refine va_sld hx hb hX hbl hbA hS (vp_in_nI (by omega) (by omega)) d_L_law_170 ?_
  refine lv_topi (fun z11 e_z11 => ?_)
  obtain rfl : z11 = (xs (9 * n + 4)) := e_z11.trans (by rw [nI_clamp (n := 9 * n + 4) (by omega)])
  refine lv_i2l hx hb d_L_law_171 rfl ?_
  refine lv_bipush (v := 32) hx hb d_L_law_172 (by decide) ?_
  refine lv_lshl hx hb d_L_law_174 rfl ?_
  refine lv_topl (fun z12 e_z12 => ?_)
  refine lv_aload_n hx hb d_L_law_175 rfl (lv_at hl 1 rfl) ?_
  refine lv_iload hx hb d_L_law_176 (lv_at hl 0 rfl) ?_
  refine lv_iconst (v := 5) hx hb d_L_law_178 (by decide) ?_
  refine lv_iadd hx hb d_L_law_179 ?_
  refine lv_topi (fun z13 e_z13 => ?_)
  obtain rfl : z13 = (nI (9 * n + 5)) := e_z13.trans (nI_add (9 * n) 5)
  refine va_sld hx hb hX hbl hbA hS (vp_in_nI (by omega) (by omega)) d_L_law_180 ?_
  refine lv_topi (fun z14 e_z14 => ?_)
  obtain rfl : z14 = (xs (9 * n + 5)) := e_z14.trans (by rw [nI_clamp (n := 9 * n + 5) (by omega)])
  refine lv_i2l hx hb d_L_law_181 rfl ?_
  refine lv_ldc2 (v := 4294967295) hx hb hown (hts (.constantLong R_L 70 4294967295) (by decide +kernel)) d_L_law_182 ?_
  refine lv_land hx hb d_L_law_185 ?_
  refine lv_topl (fun z15 e_z15 => ?_)
  refine lv_lor hx hb d_L_law_186 ?_
  refine lv_topl (fun z16 e_z16 => ?_)
  obtain rfl : z16 = (ts_lg (xs (9 * n + 4)) (xs (9 * n + 5))) := e_z16.trans (by rw [e_z15, e_z12]; rfl)
  refine lv_aload_n hx hb d_L_law_187 rfl (lv_at hl 1 rfl) ?_
  refine lv_iload hx hb d_L_law_188 (lv_at hl 0 rfl) ?_
  refine lv_bipush (v := 6) hx hb d_L_law_190 (by decide) ?_
  refine lv_iadd hx hb d_L_law_192 ?_
  refine lv_topi (fun z17 e_z17 => ?_)
  obtain rfl : z17 = (nI (9 * n + 6)) := e_z17.trans (nI_add (9 * n) 6)
  refine va_sld hx hb hX hbl hbA hS (vp_in_nI (by omega) (by omega)) d_L_law_193 ?_
  refine lv_topi (fun z18 e_z18 => ?_)
  obtain rfl : z18 = (xs (9 * n + 6)) := e_z18.trans (by rw [nI_clamp (n := 9 * n + 6) (by omega)])
  refine lv_i2l hx hb d_L_law_194 rfl ?_
  refine lv_bipush (v := 32) hx hb d_L_law_195 (by decide) ?_
  refine lv_lshl hx hb d_L_law_197 rfl ?_
  refine lv_topl (fun z19 e_z19 => ?_)
  refine lv_aload_n hx hb d_L_law_198 rfl (lv_at hl 1 rfl) ?_
  refine lv_iload hx hb d_L_law_199 (lv_at hl 0 rfl) ?_
  refine lv_bipush (v := 7) hx hb d_L_law_201 (by decide) ?_
  refine lv_iadd hx hb d_L_law_203 ?_
  refine lv_topi (fun z20 e_z20 => ?_)
  obtain rfl : z20 = (nI (9 * n + 7)) := e_z20.trans (nI_add (9 * n) 7)
  refine va_sld hx hb hX hbl hbA hS (vp_in_nI (by omega) (by omega)) d_L_law_204 ?_
  refine lv_topi (fun z21 e_z21 => ?_)
  obtain rfl : z21 = (xs (9 * n + 7)) := e_z21.trans (by rw [nI_clamp (n := 9 * n + 7) (by omega)])
  refine lv_i2l hx hb d_L_law_205 rfl ?_
  refine lv_ldc2 (v := 4294967295) hx hb hown (hts (.constantLong R_L 70 4294967295) (by decide +kernel)) d_L_law_206 ?_
  refine lv_land hx hb d_L_law_209 ?_
  refine lv_topl (fun z22 e_z22 => ?_)
  refine lv_lor hx hb d_L_law_210 ?_
  refine lv_topl (fun z23 e_z23 => ?_)
  obtain rfl : z23 = (ts_lg (xs (9 * n + 6)) (xs (9 * n + 7))) := e_z23.trans (by rw [e_z22, e_z19]; rfl)
  refine lv_aload_n hx hb d_L_law_211 rfl (lv_at hl 1 rfl) ?_
  refine lv_iload hx hb d_L_law_212 (lv_at hl 0 rfl) ?_
  refine lv_bipush (v := 8) hx hb d_L_law_214 (by decide) ?_
  refine lv_iadd hx hb d_L_law_216 ?_
  refine lv_topi (fun z24 e_z24 => ?_)
  obtain rfl : z24 = (nI (9 * n + 8)) := e_z24.trans (nI_add (9 * n) 8)
  refine va_sld hx hb hX hbl hbA hS (vp_in_nI (by omega) (by omega)) d_L_law_217 ?_
  refine lv_topi (fun z25 e_z25 => ?_)
  obtain rfl : z25 = (xs (9 * n + 8)) := e_z25.trans (by rw [nI_clamp (n := 9 * n + 8) (by omega)])
  refine ts_callH (rest := []) ⟨hx, hb, hml, hown, hts⟩ (c_L_add l hl0 D cL cA cI cZ o sA w a f (xs (9 * n + 1)) (ts_lg (xs (9 * n + 2)) (xs (9 * n + 3))) (ts_lg (xs (9 * n + 4)) (xs (9 * n + 5))) (ts_lg (xs (9 * n + 6)) (xs (9 * n + 7))) (xs (9 * n + 8)) V hT (hB.l hn5) _) (vx_cwSW 6 hts g_law_L_add rfl rfl rfl (by decide +kernel) ⟨Nat.le_of_ble_eq_true rfl, Nat.le_of_ble_eq_true rfl⟩) hK hKL hP hD hS hA hl.1 rfl rfl (Nat.le_of_ble_eq_true rfl) d_L_law_218 hcap (fun v f1 H locs hw hP hD hS => ?_)
  obtain ⟨k, rfl, hw⟩ := hw
  have hP : va_P D vwCl (ts_lw cL cA cI cZ o sA w a h pa ba ou f1 th P B g) H := hP
  have hD : va_D (fun q : Nat => s.heap.size ≤ q) (ts_lw cL cA cI cZ o sA w a h pa ba ou f1 th P B g) := hD
  show W _ _ _ _ _ _ _ _ _ _ _ _ _ _ _ (F0 m 221 ls [.int k])
  refine lv_istore (lv' := [(5, .int k), (4, .int (nI (9 * n))), (0, .ref b), (1, .ref o), (2, .ref h), (3, .ref ou)]) hx hb d_L_law_221 hl (by decide) rfl (fun ls hl => ?_)
  refine lv_aload_n hx hb d_L_law_223 rfl (lv_at hl 4 rfl) ?_
  refine lv_aload_n hx hb d_L_law_224 rfl (lv_at hl 2 rfl) ?_
  refine lv_iload hx hb d_L_law_225 (lv_at hl 1 rfl) ?_
  refine lv_iconst (v := 1) hx hb d_L_law_227 (by decide) ?_
  refine lv_iadd hx hb d_L_law_228 ?_
  refine lv_topi (fun z26 e_z26 => ?_)
  obtain rfl : z26 = (nI (9 * n + 1)) := e_z26.trans (nI_add (9 * n) 1)
  refine va_sld hx hb hX hbl hbA hS (vp_in_nI (by omega) (by omega)) d_L_law_229 ?_
  refine lv_topi (fun z27 e_z27 => ?_)
  obtain rfl : z27 = (xs (9 * n + 1)) := e_z27.trans (by rw [nI_clamp (n := 9 * n + 1) (by omega)])
  refine lv_aload_n hx hb d_L_law_230 rfl (lv_at hl 2 rfl) ?_
  refine lv_iload hx hb d_L_law_231 (lv_at hl 1 rfl) ?_
  refine lv_iconst (v := 2) hx hb d_L_law_233 (by decide) ?_
  refine lv_iadd hx hb d_L_law_234 ?_
  refine lv_topi (fun z28 e_z28 => ?_)
  obtain rfl : z28 = (nI (9 * n + 2)) := e_z28.trans (nI_add (9 * n) 2)
  refine va_sld hx hb hX hbl hbA hS (vp_in_nI (by omega) (by omega)) d_L_law_235 ?_
  refine lv_topi (fun z29 e_z29 => ?_)
  obtain rfl : z29 = (xs (9 * n + 2)) := e_z29.trans (by rw [nI_clamp (n := 9 * n + 2) (by omega)])
  refine lv_i2l hx hb d_L_law_236 rfl ?_
  refine lv_bipush (v := 32) hx hb d_L_law_237 (by decide) ?_
  refine lv_lshl hx hb d_L_law_239 rfl ?_
  refine lv_topl (fun z30 e_z30 => ?_)
  refine lv_aload_n hx hb d_L_law_240 rfl (lv_at hl 2 rfl) ?_
  refine lv_iload hx hb d_L_law_241 (lv_at hl 1 rfl) ?_
  refine lv_iconst (v := 3) hx hb d_L_law_243 (by decide) ?_
  refine lv_iadd hx hb d_L_law_244 ?_
  refine lv_topi (fun z31 e_z31 => ?_)
  obtain rfl : z31 = (nI (9 * n + 3)) := e_z31.trans (nI_add (9 * n) 3)
  refine va_sld hx hb hX hbl hbA hS (vp_in_nI (by omega) (by omega)) d_L_law_245 ?_
  refine lv_topi (fun z32 e_z32 => ?_)
  obtain rfl : z32 = (xs (9 * n + 3)) := e_z32.trans (by rw [nI_clamp (n := 9 * n + 3) (by omega)])
  refine lv_i2l hx hb d_L_law_246 rfl ?_
  refine lv_ldc2 (v := 4294967295) hx hb hown (hts (.constantLong R_L 70 4294967295) (by decide +kernel)) d_L_law_247 ?_
  refine lv_land hx hb d_L_law_250 ?_
  refine lv_topl (fun z33 e_z33 => ?_)
  refine lv_lor hx hb d_L_law_251 ?_
  refine lv_topl (fun z34 e_z34 => ?_)
  obtain rfl : z34 = (ts_lg (xs (9 * n + 2)) (xs (9 * n + 3))) := e_z34.trans (by rw [e_z33, e_z30]; rfl)
  refine lv_aload_n hx hb d_L_law_252 rfl (lv_at hl 2 rfl) ?_
  refine lv_iload hx hb d_L_law_253 (lv_at hl 1 rfl) ?_
  refine lv_iconst (v := 4) hx hb d_L_law_255 (by decide) ?_
  refine lv_iadd hx hb d_L_law_256 ?_
  refine lv_topi (fun z35 e_z35 => ?_)
  obtain rfl : z35 = (nI (9 * n + 4)) := e_z35.trans (nI_add (9 * n) 4)
  refine va_sld hx hb hX hbl hbA hS (vp_in_nI (by omega) (by omega)) d_L_law_257 ?_
  refine lv_topi (fun z36 e_z36 => ?_)
  obtain rfl : z36 = (xs (9 * n + 4)) := e_z36.trans (by rw [nI_clamp (n := 9 * n + 4) (by omega)])
  refine lv_i2l hx hb d_L_law_258 rfl ?_
  refine lv_bipush (v := 32) hx hb d_L_law_259 (by decide) ?_
  refine lv_lshl hx hb d_L_law_261 rfl ?_
  refine lv_topl (fun z37 e_z37 => ?_)
  refine lv_aload_n hx hb d_L_law_262 rfl (lv_at hl 2 rfl) ?_
  refine lv_iload hx hb d_L_law_263 (lv_at hl 1 rfl) ?_
  refine lv_iconst (v := 5) hx hb d_L_law_265 (by decide) ?_
  refine lv_iadd hx hb d_L_law_266 ?_
  refine lv_topi (fun z38 e_z38 => ?_)
  obtain rfl : z38 = (nI (9 * n + 5)) := e_z38.trans (nI_add (9 * n) 5)
  refine va_sld hx hb hX hbl hbA hS (vp_in_nI (by omega) (by omega)) d_L_law_267 ?_
  refine lv_topi (fun z39 e_z39 => ?_)
  obtain rfl : z39 = (xs (9 * n + 5)) := e_z39.trans (by rw [nI_clamp (n := 9 * n + 5) (by omega)])
  refine lv_i2l hx hb d_L_law_268 rfl ?_
  refine lv_ldc2 (v := 4294967295) hx hb hown (hts (.constantLong R_L 70 4294967295) (by decide +kernel)) d_L_law_269 ?_
  refine lv_land hx hb d_L_law_272 ?_
  refine lv_topl (fun z40 e_z40 => ?_)
  refine lv_lor hx hb d_L_law_273 ?_
  refine lv_topl (fun z41 e_z41 => ?_)
  obtain rfl : z41 = (ts_lg (xs (9 * n + 4)) (xs (9 * n + 5))) := e_z41.trans (by rw [e_z40, e_z37]; rfl)
  refine lv_aload_n hx hb d_L_law_274 rfl (lv_at hl 2 rfl) ?_
  refine lv_iload hx hb d_L_law_275 (lv_at hl 1 rfl) ?_
  refine lv_bipush (v := 6) hx hb d_L_law_277 (by decide) ?_
  refine lv_iadd hx hb d_L_law_279 ?_
  refine lv_topi (fun z42 e_z42 => ?_)
  obtain rfl : z42 = (nI (9 * n + 6)) := e_z42.trans (nI_add (9 * n) 6)
  refine va_sld hx hb hX hbl hbA hS (vp_in_nI (by omega) (by omega)) d_L_law_280 ?_
  refine lv_topi (fun z43 e_z43 => ?_)
  obtain rfl : z43 = (xs (9 * n + 6)) := e_z43.trans (by rw [nI_clamp (n := 9 * n + 6) (by omega)])
  refine lv_i2l hx hb d_L_law_281 rfl ?_
  refine lv_bipush (v := 32) hx hb d_L_law_282 (by decide) ?_
  refine lv_lshl hx hb d_L_law_284 rfl ?_
  refine lv_topl (fun z44 e_z44 => ?_)
  refine lv_aload_n hx hb d_L_law_285 rfl (lv_at hl 2 rfl) ?_
  refine lv_iload hx hb d_L_law_286 (lv_at hl 1 rfl) ?_
  refine lv_bipush (v := 7) hx hb d_L_law_288 (by decide) ?_
  refine lv_iadd hx hb d_L_law_290 ?_
  refine lv_topi (fun z45 e_z45 => ?_)
  obtain rfl : z45 = (nI (9 * n + 7)) := e_z45.trans (nI_add (9 * n) 7)
  refine va_sld hx hb hX hbl hbA hS (vp_in_nI (by omega) (by omega)) d_L_law_291 ?_
  refine lv_topi (fun z46 e_z46 => ?_)
  obtain rfl : z46 = (xs (9 * n + 7)) := e_z46.trans (by rw [nI_clamp (n := 9 * n + 7) (by omega)])
  refine lv_i2l hx hb d_L_law_292 rfl ?_
  refine lv_ldc2 (v := 4294967295) hx hb hown (hts (.constantLong R_L 70 4294967295) (by decide +kernel)) d_L_law_293 ?_
  refine lv_land hx hb d_L_law_296 ?_
  refine lv_topl (fun z47 e_z47 => ?_)
  refine lv_lor hx hb d_L_law_297 ?_
  refine lv_topl (fun z48 e_z48 => ?_)
  obtain rfl : z48 = (ts_lg (xs (9 * n + 6)) (xs (9 * n + 7))) := e_z48.trans (by rw [e_z47, e_z44]; rfl)
  refine lv_aload_n hx hb d_L_law_298 rfl (lv_at hl 2 rfl) ?_
  refine lv_iload hx hb d_L_law_299 (lv_at hl 1 rfl) ?_
  refine lv_bipush (v := 8) hx hb d_L_law_301 (by decide) ?_
  refine lv_iadd hx hb d_L_law_303 ?_
  refine lv_topi (fun z49 e_z49 => ?_)
  obtain rfl : z49 = (nI (9 * n + 8)) := e_z49.trans (nI_add (9 * n) 8)
  refine va_sld hx hb hX hbl hbA hS (vp_in_nI (by omega) (by omega)) d_L_law_304 ?_
  refine lv_topi (fun z50 e_z50 => ?_)
  obtain rfl : z50 = (xs (9 * n + 8)) := e_z50.trans (by rw [nI_clamp (n := 9 * n + 8) (by omega)])
  refine ts_callMo (rest := []) (gt := fun (u : Int32 × (Nat → Int32) × (Nat → Int32)) => u.1) (gP := fun (u : Int32 × (Nat → Int32) × (Nat → Int32)) => u.2.1) (gB := fun (u : Int32 × (Nat → Int32) × (Nat → Int32)) => u.2.2) ⟨hx, hb, hml, hown, hts⟩ (c_M_add l D cL cA cI cZ h pa ba th P B V hM (xs (9 * n + 1)) (ts_lg (xs (9 * n + 2)) (xs (9 * n + 3))) (ts_lg (xs (9 * n + 4)) (xs (9 * n + 5))) (ts_lg (xs (9 * n + 6)) (xs (9 * n + 7))) (xs (9 * n + 8)) (hB.l00 hn5) _) (cwV 5 hts g_law_M_add rfl rfl rfl (by decide +kernel) ⟨Nat.le_of_ble_eq_true rfl, Nat.le_of_ble_eq_true rfl⟩) hK hP hD hS hA hl.1 rfl rfl (Nat.le_of_ble_eq_true rfl) d_L_law_305 hcap (fun v um H locs hm hP hD hS => ?_)
  obtain ⟨rfl, hm⟩ := hm
  have hP : va_P D vwCl (ts_lw cL cA cI cZ o sA w a h pa ba ou f1 um.1 um.2.1 um.2.2 g) H := hP
  have hD : va_D (fun q : Nat => s.heap.size ≤ q) (ts_lw cL cA cI cZ o sA w a h pa ba ou f1 um.1 um.2.1 um.2.2 g) := hD
  show W _ _ _ _ _ _ _ _ _ _ _ _ _ _ _ (F0 m 308 ls [])
  have hj := ts_jA hw hm
  have hth : um.1 = k := by rcases hj with ⟨r, -, -, e1, e2, -⟩ | ⟨e1, -⟩ <;> first | rw [e1, e2] | exact e1
  refine lv_aload_n hx hb d_L_law_308 rfl (lv_at hl 4 rfl) ?_
  refine ts_callMo (rest := []) (gt := fun (_ : Unit) => um.1) (gP := fun (_ : Unit) => um.2.1) (gB := fun (_ : Unit) => um.2.2) ⟨hx, hb, hml, hown, hts⟩ (c_M_thrown l D cL cA cI cZ h pa ba um.1 um.2.1 um.2.2 _) (cwV 0 hts g_law_M_thrown rfl rfl rfl (by decide +kernel) ⟨Nat.le_of_ble_eq_true rfl, Nat.le_of_ble_eq_true rfl⟩) hK hP hD hS hA hl.1 rfl rfl (Nat.le_of_ble_eq_true rfl) d_L_law_309 hcap (fun v _u H locs hm hP hD hS => ?_)
  obtain rfl := hm
  have hP : va_P D vwCl (ts_lw cL cA cI cZ o sA w a h pa ba ou f1 um.1 um.2.1 um.2.2 g) H := hP
  have hD : va_D (fun q : Nat => s.heap.size ≤ q) (ts_lw cL cA cI cZ o sA w a h pa ba ou f1 um.1 um.2.1 um.2.2 g) := hD
  show W _ _ _ _ _ _ _ _ _ _ _ _ _ _ _ (F0 m 312 ls [.int um.1])
  refine lv_iload hx hb d_L_law_312 (lv_at hl 0 rfl) ?_
  refine lv_icmp_eq (tgt := 319) hx hb d_L_law_314 (by decide) (fun c51 => ?_) (fun c51 => ?_)
  · rcases hj with ⟨r, hr8, hg9, -, -, hT1, hM1⟩ | ⟨-, hT1, hM1⟩
    · refine lv_goto (tgt := 883) hx hb d_L_law_319 (by decide) ?_
      refine W.widen (k := 28 + (n + 1)) (n := 4637 + 6 * (n + 1)) (by omega) (by omega) ?_
      exact kk (f1) (um.1) (um.2.1) (um.2.2) (g) (va_up V r (V r + ts_pr (ts_lg (xs (9 * n + 2)) (xs (9 * n + 3))) (ts_lg (xs (9 * n + 4)) (xs (9 * n + 5))) (ts_lg (xs (9 * n + 6)) (xs (9 * n + 7))) (xs (9 * n + 8)))) _ _ ls hT1 hM1 (hB.add hr8 (ts_pr_abs hg9)) hP hD hS (lv_sub hl [1, 2, 3, 4, 5] rfl)
    · refine lv_goto (tgt := 883) hx hb d_L_law_319 (by decide) ?_
      refine W.widen (k := 28 + (n + 1)) (n := 4637 + 6 * (n + 1)) (by omega) (by omega) ?_
      exact kk (f1) (um.1) (um.2.1) (um.2.2) (g) V _ _ ls hT1 hM1 hB.s hP hD hS (lv_sub hl [1, 2, 3, 4, 5] rfl)
  · exact absurd (hth) c51

end TSLAW
