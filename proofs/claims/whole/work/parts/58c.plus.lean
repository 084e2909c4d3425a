section TSLAW
variable {p : Program} {l : Launch} {e : Env} {s : State} {m : MethodId} {below : List Frame} {meth : Method} {c : Code} {b L : Nat} {xs : Nat → Int32} {D : va_G} {cL cA cI cZ : ClassId} {o sA : Nat} {w a : Nat → Nat} {h pa ba ou : Nat} {f : Nat → Nat → Int64} {th : Int32} {P B : Nat → Int32} {g : Nat → Int64} {V : Nat → Int} {H : Heap} {locs : List Loc} {ls : Array Slot} {n : Nat}

set_option maxHeartbeats 8000000 in
set_option maxRecDepth 100000 in
theorem law_plus (hl0 : l.stackTraces = false) (hL : L ≤ 4608) (C0 : lw_At p s m meth c b L xs) (hK : va_K D vwCl (ts_ty cL cA cI cZ) s) (hKL : ts_KL (fun q : Nat => s.heap.size ≤ q) s) (hn : 9 * n + 9 ≤ L) (hT : ts_TS f V) (hM : ts_MS P B V) (hB : ts_bn n V) (hP : va_P D vwCl (ts_lw cL cA cI cZ o sA w a h pa ba ou f th P B g) H) (hD : va_D (fun q : Nat => s.heap.size ≤ q) (ts_lw cL cA cI cZ o sA w a h pa ba ou f th P B g)) (hS : va_S (fun q : Nat => s.heap.size ≤ q) s.heap H locs) (hl : lv_has ls 8 [(4, .int (nI (9 * n))), (0, .ref b), (1, .ref o), (2, .ref h), (3, .ref ou)])
    (kk : ∀ (f' : Nat → Nat → Int64) (th' : Int32) (P' B' : Nat → Int32) (g' : Nat → Int64) (V' : Nat → Int) (H : Heap) (locs : List Loc) (ls : Array Slot), ts_TS f' V' → ts_MS P' B' V' → ts_bn (n + 1) V' → va_P D vwCl (ts_lw cL cA cI cZ o sA w a h pa ba ou f' th' P' B' g') H → va_D (fun q : Nat => s.heap.size ≤ q) (ts_lw cL cA cI cZ o sA w a h pa ba ou f' th' P' B' g') → va_S (fun q : Nat => s.heap.size ≤ q) s.heap H locs → lv_has ls 8 [(4, .int (nI (9 * n))), (0, .ref b), (1, .ref o), (2, .ref h), (3, .ref ou)] → W p l e room_1 s m #[Value.ref b] below meth c H locs (28 + (n + 1)) (4637 + 6 * (n + 1)) (lw_Z below #[Value.ref b] s) (F0 m 883 ls [])) :
    W p l e room_1 s m #[Value.ref b] below meth c H locs (28 + n) (4637 + 6 * n) (lw_Z below #[Value.ref b] s) (F0 m 322 ls []) := by
  obtain ⟨hx, hb, hr, hml, hown, hts, hX, hbl, hlocks, hgv⟩ := C0
  have hown : s.vm.findClass R_L = some m.cls := hown
  have hA : ∀ q : Nat, s.heap.size ≤ q → (fun q : Nat => s.heap.size ≤ q) q := fun _ h => h
  have hbA : ¬ (fun q : Nat => s.heap.size ≤ q) b := Nat.not_le.mpr hbl
  have hcap : 28 + n + 1 ≤ room_1.cells ∧ 4637 + 6 * n + 6 ≤ room_1.slots := ⟨by show 28 + n + 1 ≤ 601024; omega, by show 4637 + 6 * n + 6 ≤ 7293033; omega⟩
  have hn5 : n ≤ 512 := by omega
  refine lv_aload_n hx hb d_L_law_322 rfl (lv_at hl 2 rfl) ?_
  refine lv_aload_n hx hb d_L_law_323 rfl (lv_at hl 1 rfl) ?_
  refine lv_iload hx hb d_L_law_324 (lv_at hl 0 rfl) ?_
  refine lv_iconst (v := 1) hx hb d_L_law_326 (by decide) ?_
  refine lv_iadd hx hb d_L_law_327 ?_
  refine lv_topi (fun z1 e_z1 => ?_)
  obtain rfl : z1 = (nI (9 * n + 1)) := e_z1.trans (nI_add (9 * n) 1)
  refine va_sld hx hb hX hbl hbA hS (vp_in_nI (by omega) (by omega)) d_L_law_328 ?_
  refine lv_topi (fun z2 e_z2 => ?_)
  obtain rfl : z2 = (xs (9 * n + 1)) := e_z2.trans (by rw [nI_clamp (n := 9 * n + 1) (by omega)])
  refine lv_aload_n hx hb d_L_law_329 rfl (lv_at hl 1 rfl) ?_
  refine lv_iload hx hb d_L_law_330 (lv_at hl 0 rfl) ?_
  refine lv_iconst (v := 2) hx hb d_L_law_332 (by decide) ?_
  refine lv_iadd hx hb d_L_law_333 ?_
  refine lv_topi (fun z3 e_z3 => ?_)
  obtain rfl : z3 = (nI (9 * n + 2)) := e_z3.trans (nI_add (9 * n) 2)
  refine va_sld hx hb hX hbl hbA hS (vp_in_nI (by omega) (by omega)) d_L_law_334 ?_
  refine lv_topi (fun z4 e_z4 => ?_)
  obtain rfl : z4 = (xs (9 * n + 2)) := e_z4.trans (by rw [nI_clamp (n := 9 * n + 2) (by omega)])
  refine lv_aload_n hx hb d_L_law_335 rfl (lv_at hl 1 rfl) ?_
  refine lv_iload hx hb d_L_law_336 (lv_at hl 0 rfl) ?_
  refine lv_iconst (v := 3) hx hb d_L_law_338 (by decide) ?_
  refine lv_iadd hx hb d_L_law_339 ?_
  refine lv_topi (fun z5 e_z5 => ?_)
  obtain rfl : z5 = (nI (9 * n + 3)) := e_z5.trans (nI_add (9 * n) 3)
  refine va_sld hx hb hX hbl hbA hS (vp_in_nI (by omega) (by omega)) d_L_law_340 ?_
  refine lv_topi (fun z6 e_z6 => ?_)
  obtain rfl : z6 = (xs (9 * n + 3)) := e_z6.trans (by rw [nI_clamp (n := 9 * n + 3) (by omega)])
  refine ts_callH (rest := []) ⟨hx, hb, hml, hown, hts⟩ (c_L_plus l hl0 D cL cA cI cZ o sA w a f (xs (9 * n + 1)) (xs (9 * n + 2)) (xs (9 * n + 3)) V hT (hB.l hn5) _) (vx_cwSW 4 hts g_law_L_plus rfl rfl rfl (by decide +kernel) ⟨Nat.le_of_ble_eq_true rfl, Nat.le_of_ble_eq_true rfl⟩) hK hKL hP hD hS hA hl.1 rfl rfl (Nat.le_of_ble_eq_true rfl) d_L_law_341 hcap (fun v f1 H locs hw hP hD hS => ?_)
  obtain ⟨k, rfl, hw⟩ := hw
  have hP : va_P D vwCl (ts_lw cL cA cI cZ o sA w a h pa ba ou f1 th P B g) H := hP
  have hD : va_D (fun q : Nat => s.heap.size ≤ q) (ts_lw cL cA cI cZ o sA w a h pa ba ou f1 th P B g) := hD
  show W _ _ _ _ _ _ _ _ _ _ _ _ _ _ _ (F0 m 344 ls [.int k])
  refine lv_istore (lv' := [(5, .int k), (4, .int (nI (9 * n))), (0, .ref b), (1, .ref o), (2, .ref h), (3, .ref ou)]) hx hb d_L_law_344 hl (by decide) rfl (fun ls hl => ?_)
  refine lv_aload_n hx hb d_L_law_346 rfl (lv_at hl 4 rfl) ?_
  refine lv_aload_n hx hb d_L_law_347 rfl (lv_at hl 2 rfl) ?_
  refine lv_iload hx hb d_L_law_348 (lv_at hl 1 rfl) ?_
  refine lv_iconst (v := 1) hx hb d_L_law_350 (by decide) ?_
  refine lv_iadd hx hb d_L_law_351 ?_
  refine lv_topi (fun z7 e_z7 => ?_)
  obtain rfl : z7 = (nI (9 * n + 1)) := e_z7.trans (nI_add (9 * n) 1)
  refine va_sld hx hb hX hbl hbA hS (vp_in_nI (by omega) (by omega)) d_L_law_352 ?_
  refine lv_topi (fun z8 e_z8 => ?_)
  obtain rfl : z8 = (xs (9 * n + 1)) := e_z8.trans (by rw [nI_clamp (n := 9 * n + 1) (by omega)])
  refine lv_aload_n hx hb d_L_law_353 rfl (lv_at hl 2 rfl) ?_
  refine lv_iload hx hb d_L_law_354 (lv_at hl 1 rfl) ?_
  refine lv_iconst (v := 2) hx hb d_L_law_356 (by decide) ?_
  refine lv_iadd hx hb d_L_law_357 ?_
  refine lv_topi (fun z9 e_z9 => ?_)
  obtain rfl : z9 = (nI (9 * n + 2)) := e_z9.trans (nI_add (9 * n) 2)
  refine va_sld hx hb hX hbl hbA hS (vp_in_nI (by omega) (by omega)) d_L_law_358 ?_
  refine lv_topi (fun z10 e_z10 => ?_)
  obtain rfl : z10 = (xs (9 * n + 2)) := e_z10.trans (by rw [nI_clamp (n := 9 * n + 2) (by omega)])
  refine lv_aload_n hx hb d_L_law_359 rfl (lv_at hl 2 rfl) ?_
  refine lv_iload hx hb d_L_law_360 (lv_at hl 1 rfl) ?_
  refine lv_iconst (v := 3) hx hb d_L_law_362 (by decide) ?_
  refine lv_iadd hx hb d_L_law_363 ?_
  refine lv_topi (fun z11 e_z11 => ?_)
  obtain rfl : z11 = (nI (9 * n + 3)) := e_z11.trans (nI_add (9 * n) 3)
  refine va_sld hx hb hX hbl hbA hS (vp_in_nI (by omega) (by omega)) d_L_law_364 ?_
  refine lv_topi (fun z12 e_z12 => ?_)
  obtain rfl : z12 = (xs (9 * n + 3)) := e_z12.trans (by rw [nI_clamp (n := 9 * n + 3) (by omega)])
  refine ts_callMo (rest := []) (gt := fun (u : Int32 × (Nat → Int32) × (Nat → Int32)) => u.1) (gP := fun (u : Int32 × (Nat → Int32) × (Nat → Int32)) => u.2.1) (gB := fun (u : Int32 × (Nat → Int32) × (Nat → Int32)) => u.2.2) ⟨hx, hb, hml, hown, hts⟩ (c_M_plus l D cL cA cI cZ h pa ba th P B V hM (xs (9 * n + 1)) (xs (9 * n + 2)) (xs (9 * n + 3)) (hB.l80 hn5) _) (cwV 3 hts g_law_M_plus rfl rfl rfl (by decide +kernel) ⟨Nat.le_of_ble_eq_true rfl, Nat.le_of_ble_eq_true rfl⟩) hK hP hD hS hA hl.1 rfl rfl (Nat.le_of_ble_eq_true rfl) d_L_law_365 hcap (fun v um H locs hm hP hD hS => ?_)
  obtain ⟨rfl, hm⟩ := hm
  have hP : va_P D vwCl (ts_lw cL cA cI cZ o sA w a h pa ba ou f1 um.1 um.2.1 um.2.2 g) H := hP
  have hD : va_D (fun q : Nat => s.heap.size ≤ q) (ts_lw cL cA cI cZ o sA w a h pa ba ou f1 um.1 um.2.1 um.2.2 g) := hD
  show W _ _ _ _ _ _ _ _ _ _ _ _ _ _ _ (F0 m 368 ls [])
  have hj := ts_jP hw hm
  have hth : um.1 = k := by rcases hj with ⟨r, q, -, e1, e2, -⟩ | ⟨e1, -⟩ <;> first | rw [e1, e2] | exact e1
  refine lv_aload_n hx hb d_L_law_368 rfl (lv_at hl 4 rfl) ?_
  refine ts_callMo (rest := []) (gt := fun (_ : Unit) => um.1) (gP := fun (_ : Unit) => um.2.1) (gB := fun (_ : Unit) => um.2.2) ⟨hx, hb, hml, hown, hts⟩ (c_M_thrown l D cL cA cI cZ h pa ba um.1 um.2.1 um.2.2 _) (cwV 0 hts g_law_M_thrown rfl rfl rfl (by decide +kernel) ⟨Nat.le_of_ble_eq_true rfl, Nat.le_of_ble_eq_true rfl⟩) hK hP hD hS hA hl.1 rfl rfl (Nat.le_of_ble_eq_true rfl) d_L_law_369 hcap (fun v _u H locs hm hP hD hS => ?_)
  obtain rfl := hm
  have hP : va_P D vwCl (ts_lw cL cA cI cZ o sA w a h pa ba ou f1 um.1 um.2.1 um.2.2 g) H := hP
  have hD : va_D (fun q : Nat => s.heap.size ≤ q) (ts_lw cL cA cI cZ o sA w a h pa ba ou f1 um.1 um.2.1 um.2.2 g) := hD
  show W _ _ _ _ _ _ _ _ _ _ _ _ _ _ _ (F0 m 372 ls [.int um.1])
  refine lv_iload hx hb d_L_law_372 (lv_at hl 0 rfl) ?_
  refine lv_icmp_eq (tgt := 379) hx hb d_L_law_374 (by decide) (fun c13 => ?_) (fun c13 => ?_)
  · rcases hj with ⟨r, q, hlim, -, -, hT1, hM1⟩ | ⟨-, hT1, hM1⟩
    · refine lv_goto (tgt := 883) hx hb d_L_law_379 (by decide) ?_
      refine W.widen (k := 28 + (n + 1)) (n := 4637 + 6 * (n + 1)) (by omega) (by omega) ?_
      exact kk (f1) (um.1) (um.2.1) (um.2.2) (g) (va_up V r (V r + Int32.toInt (xs (9 * n + 3)) * V q)) _ _ ls hT1 hM1 (hB.small hlim) hP hD hS (lv_sub hl [1, 2, 3, 4, 5] rfl)
    · refine lv_goto (tgt := 883) hx hb d_L_law_379 (by decide) ?_
      refine W.widen (k := 28 + (n + 1)) (n := 4637 + 6 * (n + 1)) (by omega) (by omega) ?_
      exact kk (f1) (um.1) (um.2.1) (um.2.2) (g) V _ _ ls hT1 hM1 hB.s hP hD hS (lv_sub hl [1, 2, 3, 4, 5] rfl)
  · exact absurd (hth) c13

end TSLAW
