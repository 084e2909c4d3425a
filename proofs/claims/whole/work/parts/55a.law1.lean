abbrev ts_rmL : Room := { frames := 9, cells := 1, slots := 6, locals := 340 }
set_option maxHeartbeats 4000000 in
set_option maxRecDepth 100000 in
theorem c_L_clear (l : Launch) (hl0 : l.stackTraces = false) (D : va_G) (cL cA cI cZ : ClassId) (o sA : Nat) (w a : Nat → Nat) (f : Nat → Nat → Int64) (x : Int32) (V : Nat → Int) (hV : ts_TS f V) (hbd : ∀ r, r < 8 → (V r).natAbs < 2 ^ 6373) (sz : Nat) : Met l y_L_clear w_L_clear ts_rmL (va_Pc [.ref o, .int x] (fun U => ts_A D vwCl (ts_ty cL cA cI cZ) (ts_w cL cA o sA w a f) sz U ∧ ts_KL (va_A (ts_w cL cA o sA w a f) sz) U)) (ts_Q (fun (v : Option Value) (u : Nat → Nat → Int64) => ∃ k : Int32, v = some (.int k) ∧ ((∃ r, r < 8 ∧ x = nI r ∧ k = 0 ∧ ts_TS u (va_up V r 0)) ∨ (ts_bad x ∧ k = 1 ∧ ts_TS u V))) (fun u => ts_B D vwCl (ts_ty cL cA cI cZ) (va_A (ts_w cL cA o sA w a f) sz) (ts_w cL cA o sA w a u)) (va_A (ts_w cL cA o sA w a f) sz)) 1 6 (va_A (ts_w cL cA o sA w a f) sz) := by
  refine ts_metW (cc := b_L_clear) (maxL := 3) (ret := (some .int)) (by decide) rfl (Nat.le_of_ble_eq_true rfl) ?_
  intro p e s m below meth c hx hb hr hml hown hts hlocks htab A hA hAe hKL hK hP hD hS hsz ls hl
  have hKX := hKL.1
  have hown : s.vm.findClass R_L = some m.cls := hown
  have hl : lv_has ls 3 [(0, .ref o), (1, .int x)] := hl
  have hP : va_P D vwCl (ts_w cL cA o sA w a f) s.heap := hP
  have hD : va_D A (ts_w cL cA o sA w a f) := hD
  rcases ts_bad_or x with ⟨r, hr8, rfl⟩ | hbad
  · have hl : lv_has ls 3 [(0, .ref o), (1, .int (nI r))] := hl
    refine lv_aload_n hx hb d_L_clear_0 rfl (lv_at hl 0 rfl) ?_
    refine lv_iload_n hx hb d_L_clear_1 rfl (lv_at hl 1 rfl) ?_
    refine ts_callTT (rest := []) (g := fun u => u) ⟨hx, hb, hml, hown, hts⟩ (c_T_clear l D cL cA cI cZ o sA w a f r hr8 _) (cwV 1 hts g_L_clear_T_clear rfl rfl rfl (by decide +kernel) ⟨Nat.le_of_ble_eq_true rfl, Nat.le_of_ble_eq_true rfl⟩) hK hP hD hS hA hl.1 rfl rfl (Nat.le_of_ble_eq_true rfl) d_L_clear_2 ⟨Nat.le_of_ble_eq_true rfl, Nat.le_of_ble_eq_true rfl⟩ (fun v fa H locs hw hP hD hS => ?_)
    obtain ⟨rfl, h1, h2⟩ := hw
    show W _ _ _ _ _ _ _ _ _ _ _ _ _ _ _ (F0 m 5 ls [])
    refine lv_goto (tgt := 11) hx hb d_L_clear_5 (by decide) ?_
    refine lv_iconst (v := 0) hx hb d_L_clear_11 (by decide) ?_
    refine W.widen (k := 1) (n := 6) (Nat.le_of_ble_eq_true rfl) (Nat.le_of_ble_eq_true rfl) ?_
    exact W.iret (v := 0) hx hb hr (fun t ht hW => ts_ret (u := fa) hP hD hK hS ⟨_, rfl, Or.inl ⟨r, hr8, rfl, rfl, hV.set (fun i _ hi => h1 i hi) h2⟩⟩ ht hW) hS.2.2 d_L_clear_12
  · refine lv_aload_n hx hb d_L_clear_0 rfl (lv_at hl 0 rfl) ?_
    refine lv_iload_n hx hb d_L_clear_1 rfl (lv_at hl 1 rfl) ?_
    refine ts_callXT (rest := []) (g := fun _ => f) ⟨hx, hb, hml, hown, hts⟩ (cx_T_clear l hl0 D cL cA cI cZ o sA w a f x hbad _) (cwV 1 hts g_L_clear_xT_clear rfl rfl rfl (by decide +kernel) ⟨Nat.le_of_ble_eq_true rfl, Nat.le_of_ble_eq_true rfl⟩) hK hKX hP hD hS hA hl.1 rfl rfl (Nat.le_of_ble_eq_true rfl) d_L_clear_2 ⟨Nat.le_of_ble_eq_true rfl, Nat.le_of_ble_eq_true rfl⟩ (fun ce q9 _u H locs hpx hP hD hS hce hcv hcl => ?_)
    refine vx_catch (own := R_L) (name := ts_IO) (E := ts_IO) hown [] ⟨0, 5, 8, 13⟩ [] (by rw [htab]; rfl) (fun z hz => absurd hz List.not_mem_nil) (by decide) (by decide) (hts (.classLink R_L 13 ts_IO) (by decide +kernel)) (ts_castX hKX.2).1 hce hcv hcl ?_
    show W _ _ _ _ _ _ _ _ _ _ _ _ _ _ _ (F0 m 8 ls [.ref q9])
    refine lv_astore_n (lv' := [(2, .ref q9), (0, .ref o), (1, .int x)]) hx hb d_L_clear_8 rfl hl (by decide) rfl (fun ls hl => ?_)
    refine lv_iconst (v := 1) hx hb d_L_clear_9 (by decide) ?_
    refine W.widen (k := 1) (n := 6) (Nat.le_of_ble_eq_true rfl) (Nat.le_of_ble_eq_true rfl) ?_
    exact W.iret (v := 1) hx hb hr (fun t ht hW => ts_ret (u := f) hP hD hK hS ⟨_, rfl, Or.inr ⟨hbad, rfl, hV⟩⟩ ht hW) hS.2.2 d_L_clear_10

set_option maxHeartbeats 4000000 in
set_option maxRecDepth 100000 in
theorem c_L_add (l : Launch) (hl0 : l.stackTraces = false) (D : va_G) (cL cA cI cZ : ClassId) (o sA : Nat) (w a : Nat → Nat) (f : Nat → Nat → Int64) (k : Int32) (x y z : Int64) (t : Int32) (V : Nat → Int) (hV : ts_TS f V) (hbd : ∀ r, r < 8 → (V r).natAbs < 2 ^ 6373) (sz : Nat) : Met l y_L_add w_L_add ts_rmL (va_Pc [.ref o, .int k, .long x, .long y, .long z, .int t] (fun U => ts_A D vwCl (ts_ty cL cA cI cZ) (ts_w cL cA o sA w a f) sz U ∧ ts_KL (va_A (ts_w cL cA o sA w a f) sz) U)) (ts_Q (fun (v : Option Value) (u : Nat → Nat → Int64) => ∃ q : Int32, v = some (.int q) ∧ ((∃ r, r < 8 ∧ k = nI r ∧ ts_gd x y z t ∧ q = 0 ∧ ts_TS u (va_up V r (V r + ts_pr x y z t))) ∨ (ts_bad k ∧ q = 1 ∧ ts_TS u V) ∨ ((∃ r, r < 8 ∧ k = nI r) ∧ ¬ ts_gd x y z t ∧ q = 2 ∧ ts_TS u V))) (fun u => ts_B D vwCl (ts_ty cL cA cI cZ) (va_A (ts_w cL cA o sA w a f) sz) (ts_w cL cA o sA w a u)) (va_A (ts_w cL cA o sA w a f) sz)) 1 6 (va_A (ts_w cL cA o sA w a f) sz) := by
  refine ts_metW (cc := b_L_add) (maxL := 10) (ret := (some .int)) (by decide) rfl (Nat.le_of_ble_eq_true rfl) ?_
  intro p e s m below meth c hx hb hr hml hown hts hlocks htab A hA hAe hKL hK hP hD hS hsz ls hl
  have hKX := hKL.1
  have hown : s.vm.findClass R_L = some m.cls := hown
  have hl : lv_has ls 10 [(0, .ref o), (1, .int k), (2, .long x), (4, .long y), (6, .long z), (8, .int t)] := hl
  have hP : va_P D vwCl (ts_w cL cA o sA w a f) s.heap := hP
  have hD : va_D A (ts_w cL cA o sA w a f) := hD
  rcases ts_bad_or k with ⟨r, hr8, rfl⟩ | hbad
  · have hl : lv_has ls 10 [(0, .ref o), (1, .int (nI r)), (2, .long x), (4, .long y), (6, .long z), (8, .int t)] := hl
    by_cases hgd : ts_gd x y z t
    · have hpa := ts_pr_abs hgd
      have hkk := ts_bKa (hbd r hr8) hpa
      have hgd9 := hgd
      obtain ⟨hx9, hy9, hz9, ht9⟩ := hgd9
      refine lv_aload_n hx hb d_L_add_0 rfl (lv_at hl 0 rfl) ?_
      refine lv_iload_n hx hb d_L_add_1 rfl (lv_at hl 1 rfl) ?_
      refine lv_lload_n hx hb d_L_add_2 rfl (lv_at hl 2 rfl) ?_
      refine lv_lload hx hb d_L_add_3 (lv_at hl 3 rfl) ?_
      refine lv_lload hx hb d_L_add_5 (lv_at hl 4 rfl) ?_
      refine lv_iload hx hb d_L_add_7 (lv_at hl 5 rfl) ?_
      refine ts_callTT (rest := []) (g := fun u => u) ⟨hx, hb, hml, hown, hts⟩ (c_T_add l D cL cA cI cZ o sA w a f r (V r) x y z t hr8 (hV r hr8) hx9 hy9 hz9 ht9 (by omega) (by omega) _) (cwV 5 hts g_L_add_T_add rfl rfl rfl (by decide +kernel) ⟨Nat.le_of_ble_eq_true rfl, Nat.le_of_ble_eq_true rfl⟩) hK hP hD hS hA hl.1 rfl rfl (Nat.le_of_ble_eq_true rfl) d_L_add_9 ⟨Nat.le_of_ble_eq_true rfl, Nat.le_of_ble_eq_true rfl⟩ (fun v fa H locs hw hP hD hS => ?_)
      obtain ⟨rfl, h1, h2⟩ := hw
      show W _ _ _ _ _ _ _ _ _ _ _ _ _ _ _ (F0 m 12 ls [])
      refine lv_goto (tgt := 23) hx hb d_L_add_12 (by decide) ?_
      refine lv_iconst (v := 0) hx hb d_L_add_23 (by decide) ?_
      refine W.widen (k := 1) (n := 6) (Nat.le_of_ble_eq_true rfl) (Nat.le_of_ble_eq_true rfl) ?_
      exact W.iret (v := 0) hx hb hr (fun t ht hW => ts_ret (u := fa) hP hD hK hS ⟨_, rfl, Or.inl ⟨r, hr8, rfl, hgd, rfl, hV.set (fun i hi hir => h1 i hir (by omega)) h2⟩⟩ ht hW) hS.2.2 d_L_add_24
    · refine lv_aload_n hx hb d_L_add_0 rfl (lv_at hl 0 rfl) ?_
      refine lv_iload_n hx hb d_L_add_1 rfl (lv_at hl 1 rfl) ?_
      refine lv_lload_n hx hb d_L_add_2 rfl (lv_at hl 2 rfl) ?_
      refine lv_lload hx hb d_L_add_3 (lv_at hl 3 rfl) ?_
      refine lv_lload hx hb d_L_add_5 (lv_at hl 4 rfl) ?_
      refine lv_iload hx hb d_L_add_7 (lv_at hl 5 rfl) ?_
      refine ts_callXT (rest := []) (g := fun _ => f) ⟨hx, hb, hml, hown, hts⟩ (cx_T_addA l hl0 D cL cA cI cZ o sA w a f r x y z t hr8 hgd _) (cwV 5 hts g_L_add_xT_addA rfl rfl rfl (by decide +kernel) ⟨Nat.le_of_ble_eq_true rfl, Nat.le_of_ble_eq_true rfl⟩) hK hKX hP hD hS hA hl.1 rfl rfl (Nat.le_of_ble_eq_true rfl) d_L_add_9 ⟨Nat.le_of_ble_eq_true rfl, Nat.le_of_ble_eq_true rfl⟩ (fun ce q9 _u H locs hpx hP hD hS hce hcv hcl => ?_)
      refine vx_catch (own := R_L) (name := ts_IA) (E := ts_IA) hown [⟨0, 12, 15, 13⟩] ⟨0, 12, 19, 19⟩ [] (by rw [htab]; rfl) (List.forall_mem_cons.mpr ⟨Or.inr ⟨by decide, ts_IO, hts (.classLink R_L 13 ts_IO) (by decide +kernel), hKL.2.1⟩, fun z hz => absurd hz List.not_mem_nil⟩) (by decide) (by decide) (hts (.classLink R_L 19 ts_IA) (by decide +kernel)) (ts_castX hKX.2).2.1 hce hcv hcl ?_
      show W _ _ _ _ _ _ _ _ _ _ _ _ _ _ _ (F0 m 19 ls [.ref q9])
      refine lv_astore (lv' := [(9, .ref q9), (0, .ref o), (1, .int (nI r)), (2, .long x), (4, .long y), (6, .long z), (8, .int t)]) hx hb d_L_add_19 hl (by decide) rfl (fun ls hl => ?_)
      refine lv_iconst (v := 2) hx hb d_L_add_21 (by decide) ?_
      refine W.widen (k := 1) (n := 6) (Nat.le_of_ble_eq_true rfl) (Nat.le_of_ble_eq_true rfl) ?_
      exact W.iret (v := 2) hx hb hr (fun t ht hW => ts_ret (u := f) hP hD hK hS ⟨_, rfl, Or.inr (Or.inr ⟨⟨r, hr8, rfl⟩, hgd, rfl, hV⟩)⟩ ht hW) hS.2.2 d_L_add_22
  · refine lv_aload_n hx hb d_L_add_0 rfl (lv_at hl 0 rfl) ?_
    refine lv_iload_n hx hb d_L_add_1 rfl (lv_at hl 1 rfl) ?_
    refine lv_lload_n hx hb d_L_add_2 rfl (lv_at hl 2 rfl) ?_
    refine lv_lload hx hb d_L_add_3 (lv_at hl 3 rfl) ?_
    refine lv_lload hx hb d_L_add_5 (lv_at hl 4 rfl) ?_
    refine lv_iload hx hb d_L_add_7 (lv_at hl 5 rfl) ?_
    refine ts_callXT (rest := []) (g := fun _ => f) ⟨hx, hb, hml, hown, hts⟩ (cx_T_add l hl0 D cL cA cI cZ o sA w a f k x y z t hbad _) (cwV 5 hts g_L_add_xT_add rfl rfl rfl (by decide +kernel) ⟨Nat.le_of_ble_eq_true rfl, Nat.le_of_ble_eq_true rfl⟩) hK hKX hP hD hS hA hl.1 rfl rfl (Nat.le_of_ble_eq_true rfl) d_L_add_9 ⟨Nat.le_of_ble_eq_true rfl, Nat.le_of_ble_eq_true rfl⟩ (fun ce q9 _u H locs hpx hP hD hS hce hcv hcl => ?_)
    refine vx_catch (own := R_L) (name := ts_IO) (E := ts_IO) hown [] ⟨0, 12, 15, 13⟩ [⟨0, 12, 19, 19⟩] (by rw [htab]; rfl) (fun z hz => absurd hz List.not_mem_nil) (by decide) (by decide) (hts (.classLink R_L 13 ts_IO) (by decide +kernel)) (ts_castX hKX.2).1 hce hcv hcl ?_
    show W _ _ _ _ _ _ _ _ _ _ _ _ _ _ _ (F0 m 15 ls [.ref q9])
    refine lv_astore (lv' := [(9, .ref q9), (0, .ref o), (1, .int k), (2, .long x), (4, .long y), (6, .long z), (8, .int t)]) hx hb d_L_add_15 hl (by decide) rfl (fun ls hl => ?_)
    refine lv_iconst (v := 1) hx hb d_L_add_17 (by decide) ?_
    refine W.widen (k := 1) (n := 6) (Nat.le_of_ble_eq_true rfl) (Nat.le_of_ble_eq_true rfl) ?_
    exact W.iret (v := 1) hx hb hr (fun t ht hW => ts_ret (u := f) hP hD hK hS ⟨_, rfl, Or.inr (Or.inl ⟨hbad, rfl, hV⟩)⟩ ht hW) hS.2.2 d_L_add_18

set_option maxHeartbeats 4000000 in
set_option maxRecDepth 100000 in
theorem c_L_plus (l : Launch) (hl0 : l.stackTraces = false) (D : va_G) (cL cA cI cZ : ClassId) (o sA : Nat) (w a : Nat → Nat) (f : Nat → Nat → Int64) (x y t : Int32) (V : Nat → Int) (hV : ts_TS f V) (hbd : ∀ r, r < 8 → (V r).natAbs < 2 ^ 6373) (sz : Nat) : Met l y_L_plus w_L_plus ts_rmL (va_Pc [.ref o, .int x, .int y, .int t] (fun U => ts_A D vwCl (ts_ty cL cA cI cZ) (ts_w cL cA o sA w a f) sz U ∧ ts_KL (va_A (ts_w cL cA o sA w a f) sz) U)) (ts_Q (fun (v : Option Value) (u : Nat → Nat → Int64) => ∃ k : Int32, v = some (.int k) ∧ ((∃ r q, r < 8 ∧ q < 8 ∧ x = nI r ∧ y = nI q ∧ (-1000000 ≤ t.toInt ∧ t.toInt ≤ 1000000) ∧ (((V r + t.toInt * V q).natAbs < 2 ^ 6372 ∧ k = 0 ∧ ts_TS u (va_up V r (V r + t.toInt * V q))) ∨ (¬ (V r + t.toInt * V q).natAbs < 2 ^ 6372 ∧ k = 3 ∧ ts_TS u V))) ∨ ((ts_bad x ∨ ts_bad y) ∧ k = 1 ∧ ts_TS u V) ∨ ((∃ r, r < 8 ∧ x = nI r) ∧ (∃ q, q < 8 ∧ y = nI q) ∧ ¬ (-1000000 ≤ t.toInt ∧ t.toInt ≤ 1000000) ∧ k = 2 ∧ ts_TS u V))) (fun u => ts_B D vwCl (ts_ty cL cA cI cZ) (va_A (ts_w cL cA o sA w a f) sz) (ts_w cL cA o sA w a u)) (va_A (ts_w cL cA o sA w a f) sz)) 1 6 (va_A (ts_w cL cA o sA w a f) sz) := by
  refine ts_metW (cc := b_L_plus) (maxL := 5) (ret := (some .int)) (by decide) rfl (Nat.le_of_ble_eq_true rfl) ?_
  intro p e s m below meth c hx hb hr hml hown hts hlocks htab A hA hAe hKL hK hP hD hS hsz ls hl
  have hKX := hKL.1
  have hown : s.vm.findClass R_L = some m.cls := hown
  have hl : lv_has ls 5 [(0, .ref o), (1, .int x), (2, .int y), (3, .int t)] := hl
  have hP : va_P D vwCl (ts_w cL cA o sA w a f) s.heap := hP
  have hD : va_D A (ts_w cL cA o sA w a f) := hD
  rcases ts_bad_or x with ⟨r, hr8, rfl⟩ | hbad
  · have hl : lv_has ls 5 [(0, .ref o), (1, .int (nI r)), (2, .int y), (3, .int t)] := hl
    rcases ts_bad_or y with ⟨q, hq8, rfl⟩ | hbad
    · have hl : lv_has ls 5 [(0, .ref o), (1, .int (nI r)), (2, .int (nI q)), (3, .int t)] := hl
      by_cases htt : -1000000 ≤ t.toInt ∧ t.toInt ≤ 1000000
      · by_cases hlim : (V r + t.toInt * V q).natAbs < 2 ^ 6372
        · refine lv_aload_n hx hb d_L_plus_0 rfl (lv_at hl 0 rfl) ?_
          refine lv_iload_n hx hb d_L_plus_1 rfl (lv_at hl 1 rfl) ?_
          refine lv_iload_n hx hb d_L_plus_2 rfl (lv_at hl 2 rfl) ?_
          refine lv_iload_n hx hb d_L_plus_3 rfl (lv_at hl 3 rfl) ?_
          refine ts_callTT (rest := []) (g := fun u => u) ⟨hx, hb, hml, hown, hts⟩ (c_T_plus l D cL cA cI cZ o sA w a f r q (V r) (V q) t hr8 hq8 (hV r hr8) (hV q hq8) htt hlim _) (cwV 3 hts g_L_plus_T_plus rfl rfl rfl (by decide +kernel) ⟨Nat.le_of_ble_eq_true rfl, Nat.le_of_ble_eq_true rfl⟩) hK hP hD hS hA hl.1 rfl rfl (Nat.le_of_ble_eq_true rfl) d_L_plus_4 ⟨Nat.le_of_ble_eq_true rfl, Nat.le_of_ble_eq_true rfl⟩ (fun v fa H locs hw hP hD hS => ?_)
          obtain ⟨rfl, h1, h2⟩ := hw
          show W _ _ _ _ _ _ _ _ _ _ _ _ _ _ _ (F0 m 7 ls [])
          refine lv_goto (tgt := 22) hx hb d_L_plus_7 (by decide) ?_
          refine lv_iconst (v := 0) hx hb d_L_plus_22 (by decide) ?_
          refine W.widen (k := 1) (n := 6) (Nat.le_of_ble_eq_true rfl) (Nat.le_of_ble_eq_true rfl) ?_
          exact W.iret (v := 0) hx hb hr (fun t ht hW => ts_ret (u := fa) hP hD hK hS ⟨_, rfl, Or.inl ⟨r, q, hr8, hq8, rfl, rfl, htt, Or.inl ⟨hlim, rfl, hV.set (fun i hi hir => h1 i hir (by omega) (by omega)) h2⟩⟩⟩ ht hW) hS.2.2 d_L_plus_23
        · have hkk : (V r + t.toInt * V q).natAbs < ts_K := by
            have h1 := ts_bKp (hbd r hr8) (hbd q hq8) (n := t.toInt.natAbs) (by omega)
            rw [← Int.natAbs_mul] at h1
            exact Nat.lt_of_le_of_lt (Int.natAbs_add_le _ _) h1
          refine lv_aload_n hx hb d_L_plus_0 rfl (lv_at hl 0 rfl) ?_
          refine lv_iload_n hx hb d_L_plus_1 rfl (lv_at hl 1 rfl) ?_
          refine lv_iload_n hx hb d_L_plus_2 rfl (lv_at hl 2 rfl) ?_
          refine lv_iload_n hx hb d_L_plus_3 rfl (lv_at hl 3 rfl) ?_
          refine ts_callXT (rest := []) (g := fun u => u) ⟨hx, hb, hml, hown, hts⟩ (cx_T_plusS l hl0 D cL cA cI cZ o sA w a f r q (V r) (V q) t hr8 hq8 (hV r hr8) (hV q hq8) htt hlim hkk _) (cwV 3 hts g_L_plus_xT_plusS rfl rfl rfl (by decide +kernel) ⟨Nat.le_of_ble_eq_true rfl, Nat.le_of_ble_eq_true rfl⟩) hK hKX hP hD hS hA hl.1 rfl rfl (Nat.le_of_ble_eq_true rfl) d_L_plus_4 ⟨Nat.le_of_ble_eq_true rfl, Nat.le_of_ble_eq_true rfl⟩ (fun ce q9 fa H locs hpx hP hD hS hce hcv hcl => ?_)
          refine vx_catch (own := R_L) (name := ts_IS) (E := ts_IS) hown [⟨0, 7, 10, 13⟩, ⟨0, 7, 14, 19⟩] ⟨0, 7, 18, 25⟩ [] (by rw [htab]; rfl) (List.forall_mem_cons.mpr ⟨Or.inr ⟨by decide, ts_IO, hts (.classLink R_L 13 ts_IO) (by decide +kernel), hKL.2.2.1⟩, List.forall_mem_cons.mpr ⟨Or.inr ⟨by decide, ts_IA, hts (.classLink R_L 19 ts_IA) (by decide +kernel), hKL.2.2.2⟩, fun z hz => absurd hz List.not_mem_nil⟩⟩) (by decide) (by decide) (hts (.classLink R_L 25 ts_IS) (by decide +kernel)) (ts_castX hKX.2).2.2 hce hcv hcl ?_
          show W _ _ _ _ _ _ _ _ _ _ _ _ _ _ _ (F0 m 18 ls [.ref q9])
          refine lv_astore (lv' := [(4, .ref q9), (0, .ref o), (1, .int (nI r)), (2, .int (nI q)), (3, .int t)]) hx hb d_L_plus_18 hl (by decide) rfl (fun ls hl => ?_)
          refine lv_iconst (v := 3) hx hb d_L_plus_20 (by decide) ?_
          refine W.widen (k := 1) (n := 6) (Nat.le_of_ble_eq_true rfl) (Nat.le_of_ble_eq_true rfl) ?_
          exact W.iret (v := 3) hx hb hr (fun t ht hW => ts_ret (u := fa) hP hD hK hS ⟨_, rfl, Or.inl ⟨r, q, hr8, hq8, rfl, rfl, htt, Or.inr ⟨hlim, rfl, hV.keep (fun i hi => hpx i (by omega) (by omega))⟩⟩⟩ ht hW) hS.2.2 d_L_plus_21
      · refine lv_aload_n hx hb d_L_plus_0 rfl (lv_at hl 0 rfl) ?_
        refine lv_iload_n hx hb d_L_plus_1 rfl (lv_at hl 1 rfl) ?_
        refine lv_iload_n hx hb d_L_plus_2 rfl (lv_at hl 2 rfl) ?_
        refine lv_iload_n hx hb d_L_plus_3 rfl (lv_at hl 3 rfl) ?_
        refine ts_callXT (rest := []) (g := fun _ => f) ⟨hx, hb, hml, hown, hts⟩ (cx_T_plusA l hl0 D cL cA cI cZ o sA w a f r q t hr8 hq8 htt _) (cwV 3 hts g_L_plus_xT_plusA rfl rfl rfl (by decide +kernel) ⟨Nat.le_of_ble_eq_true rfl, Nat.le_of_ble_eq_true rfl⟩) hK hKX hP hD hS hA hl.1 rfl rfl (Nat.le_of_ble_eq_true rfl) d_L_plus_4 ⟨Nat.le_of_ble_eq_true rfl, Nat.le_of_ble_eq_true rfl⟩ (fun ce q9 _u H locs hpx hP hD hS hce hcv hcl => ?_)
        refine vx_catch (own := R_L) (name := ts_IA) (E := ts_IA) hown [⟨0, 7, 10, 13⟩] ⟨0, 7, 14, 19⟩ [⟨0, 7, 18, 25⟩] (by rw [htab]; rfl) (List.forall_mem_cons.mpr ⟨Or.inr ⟨by decide, ts_IO, hts (.classLink R_L 13 ts_IO) (by decide +kernel), hKL.2.1⟩, fun z hz => absurd hz List.not_mem_nil⟩) (by decide) (by decide) (hts (.classLink R_L 19 ts_IA) (by decide +kernel)) (ts_castX hKX.2).2.1 hce hcv hcl ?_
        show W _ _ _ _ _ _ _ _ _ _ _ _ _ _ _ (F0 m 14 ls [.ref q9])
        refine lv_astore (lv' := [(4, .ref q9), (0, .ref o), (1, .int (nI r)), (2, .int (nI q)), (3, .int t)]) hx hb d_L_plus_14 hl (by decide) rfl (fun ls hl => ?_)
        refine lv_iconst (v := 2) hx hb d_L_plus_16 (by decide) ?_
        refine W.widen (k := 1) (n := 6) (Nat.le_of_ble_eq_true rfl) (Nat.le_of_ble_eq_true rfl) ?_
        exact W.iret (v := 2) hx hb hr (fun t ht hW => ts_ret (u := f) hP hD hK hS ⟨_, rfl, Or.inr (Or.inr ⟨⟨r, hr8, rfl⟩, ⟨q, hq8, rfl⟩, htt, rfl, hV⟩)⟩ ht hW) hS.2.2 d_L_plus_17
    · refine lv_aload_n hx hb d_L_plus_0 rfl (lv_at hl 0 rfl) ?_
      refine lv_iload_n hx hb d_L_plus_1 rfl (lv_at hl 1 rfl) ?_
      refine lv_iload_n hx hb d_L_plus_2 rfl (lv_at hl 2 rfl) ?_
      refine lv_iload_n hx hb d_L_plus_3 rfl (lv_at hl 3 rfl) ?_
      refine ts_callXT (rest := []) (g := fun _ => f) ⟨hx, hb, hml, hown, hts⟩ (cx_T_plus l hl0 D cL cA cI cZ o sA w a f (nI r) y t (Or.inr ⟨⟨r, hr8, rfl⟩, hbad⟩) _) (cwV 3 hts g_L_plus_xT_plus rfl rfl rfl (by decide +kernel) ⟨Nat.le_of_ble_eq_true rfl, Nat.le_of_ble_eq_true rfl⟩) hK hKX hP hD hS hA hl.1 rfl rfl (Nat.le_of_ble_eq_true rfl) d_L_plus_4 ⟨Nat.le_of_ble_eq_true rfl, Nat.le_of_ble_eq_true rfl⟩ (fun ce q9 _u H locs hpx hP hD hS hce hcv hcl => ?_)
      refine vx_catch (own := R_L) (name := ts_IO) (E := ts_IO) hown [] ⟨0, 7, 10, 13⟩ [⟨0, 7, 14, 19⟩, ⟨0, 7, 18, 25⟩] (by rw [htab]; rfl) (fun z hz => absurd hz List.not_mem_nil) (by decide) (by decide) (hts (.classLink R_L 13 ts_IO) (by decide +kernel)) (ts_castX hKX.2).1 hce hcv hcl ?_
      show W _ _ _ _ _ _ _ _ _ _ _ _ _ _ _ (F0 m 10 ls [.ref q9])
      refine lv_astore (lv' := [(4, .ref q9), (0, .ref o), (1, .int (nI r)), (2, .int y), (3, .int t)]) hx hb d_L_plus_10 hl (by decide) rfl (fun ls hl => ?_)
      refine lv_iconst (v := 1) hx hb d_L_plus_12 (by decide) ?_
      refine W.widen (k := 1) (n := 6) (Nat.le_of_ble_eq_true rfl) (Nat.le_of_ble_eq_true rfl) ?_
      exact W.iret (v := 1) hx hb hr (fun t ht hW => ts_ret (u := f) hP hD hK hS ⟨_, rfl, Or.inr (Or.inl ⟨Or.inr hbad, rfl, hV⟩)⟩ ht hW) hS.2.2 d_L_plus_13
  · refine lv_aload_n hx hb d_L_plus_0 rfl (lv_at hl 0 rfl) ?_
    refine lv_iload_n hx hb d_L_plus_1 rfl (lv_at hl 1 rfl) ?_
    refine lv_iload_n hx hb d_L_plus_2 rfl (lv_at hl 2 rfl) ?_
    refine lv_iload_n hx hb d_L_plus_3 rfl (lv_at hl 3 rfl) ?_
    refine ts_callXT (rest := []) (g := fun _ => f) ⟨hx, hb, hml, hown, hts⟩ (cx_T_plus l hl0 D cL cA cI cZ o sA w a f x y t (Or.inl hbad) _) (cwV 3 hts g_L_plus_xT_plus rfl rfl rfl (by decide +kernel) ⟨Nat.le_of_ble_eq_true rfl, Nat.le_of_ble_eq_true rfl⟩) hK hKX hP hD hS hA hl.1 rfl rfl (Nat.le_of_ble_eq_true rfl) d_L_plus_4 ⟨Nat.le_of_ble_eq_true rfl, Nat.le_of_ble_eq_true rfl⟩ (fun ce q9 _u H locs hpx hP hD hS hce hcv hcl => ?_)
    refine vx_catch (own := R_L) (name := ts_IO) (E := ts_IO) hown [] ⟨0, 7, 10, 13⟩ [⟨0, 7, 14, 19⟩, ⟨0, 7, 18, 25⟩] (by rw [htab]; rfl) (fun z hz => absurd hz List.not_mem_nil) (by decide) (by decide) (hts (.classLink R_L 13 ts_IO) (by decide +kernel)) (ts_castX hKX.2).1 hce hcv hcl ?_
    show W _ _ _ _ _ _ _ _ _ _ _ _ _ _ _ (F0 m 10 ls [.ref q9])
    refine lv_astore (lv' := [(4, .ref q9), (0, .ref o), (1, .int x), (2, .int y), (3, .int t)]) hx hb d_L_plus_10 hl (by decide) rfl (fun ls hl => ?_)
    refine lv_iconst (v := 1) hx hb d_L_plus_12 (by decide) ?_
    refine W.widen (k := 1) (n := 6) (Nat.le_of_ble_eq_true rfl) (Nat.le_of_ble_eq_true rfl) ?_
    exact W.iret (v := 1) hx hb hr (fun t ht hW => ts_ret (u := f) hP hD hK hS ⟨_, rfl, Or.inr (Or.inl ⟨Or.inl hbad, rfl, hV⟩)⟩ ht hW) hS.2.2 d_L_plus_13

