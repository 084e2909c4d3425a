set_option maxHeartbeats 4000000 in
set_option maxRecDepth 100000 in
theorem c_L_top (l : Launch) (hl0 : l.stackTraces = false) (D : va_G) (cL cA cI cZ : ClassId) (o sA : Nat) (w a : Nat → Nat) (f : Nat → Nat → Int64) (ou : Nat) (g : Nat → Int64) (x : Int32) (V : Nat → Int) (hV : ts_TS f V) (hbd : ∀ r, r < 8 → (V r).natAbs < 2 ^ 6373) (sz : Nat) : Met l y_L_top w_L_top ts_rmL (va_Pc [.ref o, .int x, .ref ou] (fun U => ts_A D vwCl (ts_ty cL cA cI cZ) (ts_w cL cA o sA w a f ++ [(ou, .inl (cL, 1, .inr (.inl g)))]) sz U ∧ ts_KL (va_A (ts_w cL cA o sA w a f ++ [(ou, .inl (cL, 1, .inr (.inl g)))]) sz) U)) (ts_Q (fun (v : Option Value) (u : (Nat → Nat → Int64) × (Nat → Int64)) => ∃ k : Int32, v = some (.int k) ∧ ((∃ r, r < 8 ∧ x = nI r ∧ k = 0 ∧ ∃ z : Int32, u.2 0 = Int32.toInt64 z ∧ ts_tp (V r).natAbs z) ∨ (ts_bad x ∧ k = 1)) ∧ ts_TS u.1 V) (fun u => ts_B D vwCl (ts_ty cL cA cI cZ) (va_A (ts_w cL cA o sA w a f ++ [(ou, .inl (cL, 1, .inr (.inl g)))]) sz) (ts_w cL cA o sA w a u.1 ++ [(ou, .inl (cL, 1, .inr (.inl u.2)))])) (va_A (ts_w cL cA o sA w a f ++ [(ou, .inl (cL, 1, .inr (.inl g)))]) sz)) 1 6 (va_A (ts_w cL cA o sA w a f ++ [(ou, .inl (cL, 1, .inr (.inl g)))]) sz) := by
  refine ts_metW (cc := b_L_top) (maxL := 4) (ret := (some .int)) (by decide) rfl (Nat.le_of_ble_eq_true rfl) ?_
  intro p e s m below meth c hx hb hr hml hown hts hlocks htab A hA hAe hKL hK hP hD hS hsz ls hl
  have hKX := hKL.1
  have hown : s.vm.findClass R_L = some m.cls := hown
  have hl : lv_has ls 4 [(0, .ref o), (1, .int x), (2, .ref ou)] := hl
  have hP : va_P D vwCl (ts_w cL cA o sA w a f ++ [(ou, .inl (cL, 1, .inr (.inl g)))]) s.heap := hP
  have hD : va_D A (ts_w cL cA o sA w a f ++ [(ou, .inl (cL, 1, .inr (.inl g)))]) := hD
  rcases ts_bad_or x with ⟨r, hr8, rfl⟩ | hbad
  · have hl : lv_has ls 4 [(0, .ref o), (1, .int (nI r)), (2, .ref ou)] := hl
    refine lv_aload_n hx hb d_L_top_0 rfl (lv_at hl 2 rfl) ?_
    refine lv_iconst (v := (nI 0)) hx hb d_L_top_1 (by decide) ?_
    refine lv_aload_n hx hb d_L_top_2 rfl (lv_at hl 0 rfl) ?_
    refine lv_iload_n hx hb d_L_top_3 rfl (lv_at hl 1 rfl) ?_
    refine ts_callTZ (z := [(ou, .inl (cL, 1, .inr (.inl g)))]) (rest := [.int (nI 0), .ref ou]) (g := fun u => u) ⟨hx, hb, hml, hown, hts⟩ (c_T_top l D cL cA cI cZ o sA w a f r (V r) hr8 (hV r hr8) (ts_bK (hbd r hr8)) _) (cwV 1 hts g_L_top_T_top rfl rfl rfl (by decide +kernel) ⟨Nat.le_of_ble_eq_true rfl, Nat.le_of_ble_eq_true rfl⟩) hK hP hD hS hA hl.1 rfl rfl (Nat.le_of_ble_eq_true rfl) d_L_top_4 ⟨Nat.le_of_ble_eq_true rfl, Nat.le_of_ble_eq_true rfl⟩ (fun v fa H locs hw hP hD hS => ?_)
    obtain ⟨⟨z, rfl, hz⟩, hw1⟩ := hw
    show W _ _ _ _ _ _ _ _ _ _ _ _ _ _ _ (F0 m 7 ls [.int z, .int (nI 0), .ref ou])
    refine lv_i2l hx hb d_L_top_7 rfl ?_
    refine va_last (D := D) hx hb hK hP hD hS 24 0 rfl rfl (vp_in_nI (by decide) (by decide)) d_L_top_8 (fun H locs hP hD hS => ?_)
    rw [nI_clamp (n := 0) (by decide)] at hP hD
    have hP : va_P D vwCl (ts_w cL cA o sA w a fa ++ [(ou, .inl (cL, 1, .inr (.inl (vp_updL g 0 (Int32.toInt64 z)))))]) H := hP
    have hD : va_D A (ts_w cL cA o sA w a fa ++ [(ou, .inl (cL, 1, .inr (.inl (vp_updL g 0 (Int32.toInt64 z)))))]) := hD
    refine lv_goto (tgt := 15) hx hb d_L_top_9 (by decide) ?_
    refine lv_iconst (v := 0) hx hb d_L_top_15 (by decide) ?_
    refine W.widen (k := 1) (n := 6) (Nat.le_of_ble_eq_true rfl) (Nat.le_of_ble_eq_true rfl) ?_
    exact W.iret (v := 0) hx hb hr (fun t ht hW => ts_ret (u := (fa, vp_updL g 0 (Int32.toInt64 z))) hP hD hK hS ⟨_, rfl, Or.inl ⟨r, hr8, rfl, rfl, ⟨z, (show vp_updL g 0 (Int32.toInt64 z) 0 = (Int32.toInt64 z) from pk_uLs), hz⟩⟩, hV.keep (fun i hi => hw1 i (by omega))⟩ ht hW) hS.2.2 d_L_top_16
  · refine lv_aload_n hx hb d_L_top_0 rfl (lv_at hl 2 rfl) ?_
    refine lv_iconst (v := (nI 0)) hx hb d_L_top_1 (by decide) ?_
    refine lv_aload_n hx hb d_L_top_2 rfl (lv_at hl 0 rfl) ?_
    refine lv_iload_n hx hb d_L_top_3 rfl (lv_at hl 1 rfl) ?_
    refine ts_callXZ (z := [(ou, .inl (cL, 1, .inr (.inl g)))]) (rest := [.int (nI 0), .ref ou]) (g := fun _ => f) ⟨hx, hb, hml, hown, hts⟩ (cx_T_top l hl0 D cL cA cI cZ o sA w a f x hbad _) (cwV 1 hts g_L_top_xT_top rfl rfl rfl (by decide +kernel) ⟨Nat.le_of_ble_eq_true rfl, Nat.le_of_ble_eq_true rfl⟩) hK hKX hP hD hS hA hl.1 rfl rfl (Nat.le_of_ble_eq_true rfl) d_L_top_4 ⟨Nat.le_of_ble_eq_true rfl, Nat.le_of_ble_eq_true rfl⟩ (fun ce q9 _u H locs hpx hP hD hS hce hcv hcl => ?_)
    refine vx_catch (own := R_L) (name := ts_IO) (E := ts_IO) hown [] ⟨0, 9, 12, 13⟩ [] (by rw [htab]; rfl) (fun z hz => absurd hz List.not_mem_nil) (by decide) (by decide) (hts (.classLink R_L 13 ts_IO) (by decide +kernel)) (ts_castX hKX.2).1 hce hcv hcl ?_
    show W _ _ _ _ _ _ _ _ _ _ _ _ _ _ _ (F0 m 12 ls [.ref q9])
    refine lv_astore_n (lv' := [(3, .ref q9), (0, .ref o), (1, .int x), (2, .ref ou)]) hx hb d_L_top_12 rfl hl (by decide) rfl (fun ls hl => ?_)
    refine lv_iconst (v := 1) hx hb d_L_top_13 (by decide) ?_
    refine W.widen (k := 1) (n := 6) (Nat.le_of_ble_eq_true rfl) (Nat.le_of_ble_eq_true rfl) ?_
    exact W.iret (v := 1) hx hb hr (fun t ht hW => ts_ret (u := (f, g)) hP hD hK hS ⟨_, rfl, Or.inr ⟨hbad, rfl⟩, hV⟩ ht hW) hS.2.2 d_L_top_14

set_option maxHeartbeats 4000000 in
set_option maxRecDepth 100000 in
theorem c_L_bottom (l : Launch) (hl0 : l.stackTraces = false) (D : va_G) (cL cA cI cZ : ClassId) (o sA : Nat) (w a : Nat → Nat) (f : Nat → Nat → Int64) (ou : Nat) (g : Nat → Int64) (x : Int32) (V : Nat → Int) (hV : ts_TS f V) (hbd : ∀ r, r < 8 → (V r).natAbs < 2 ^ 6373) (sz : Nat) : Met l y_L_bottom w_L_bottom ts_rmL (va_Pc [.ref o, .int x, .ref ou] (fun U => ts_A D vwCl (ts_ty cL cA cI cZ) (ts_w cL cA o sA w a f ++ [(ou, .inl (cL, 1, .inr (.inl g)))]) sz U ∧ ts_KL (va_A (ts_w cL cA o sA w a f ++ [(ou, .inl (cL, 1, .inr (.inl g)))]) sz) U)) (ts_Q (fun (v : Option Value) (u : (Nat → Nat → Int64) × (Nat → Int64)) => ∃ k : Int32, v = some (.int k) ∧ ((∃ r, r < 8 ∧ x = nI r ∧ k = 0 ∧ ∃ z : Int32, u.2 0 = Int32.toInt64 z ∧ ts_bt (V r).natAbs z) ∨ (ts_bad x ∧ k = 1)) ∧ ts_TS u.1 V) (fun u => ts_B D vwCl (ts_ty cL cA cI cZ) (va_A (ts_w cL cA o sA w a f ++ [(ou, .inl (cL, 1, .inr (.inl g)))]) sz) (ts_w cL cA o sA w a u.1 ++ [(ou, .inl (cL, 1, .inr (.inl u.2)))])) (va_A (ts_w cL cA o sA w a f ++ [(ou, .inl (cL, 1, .inr (.inl g)))]) sz)) 1 6 (va_A (ts_w cL cA o sA w a f ++ [(ou, .inl (cL, 1, .inr (.inl g)))]) sz) := by
  refine ts_metW (cc := b_L_bottom) (maxL := 4) (ret := (some .int)) (by decide) rfl (Nat.le_of_ble_eq_true rfl) ?_
  intro p e s m below meth c hx hb hr hml hown hts hlocks htab A hA hAe hKL hK hP hD hS hsz ls hl
  have hKX := hKL.1
  have hown : s.vm.findClass R_L = some m.cls := hown
  have hl : lv_has ls 4 [(0, .ref o), (1, .int x), (2, .ref ou)] := hl
  have hP : va_P D vwCl (ts_w cL cA o sA w a f ++ [(ou, .inl (cL, 1, .inr (.inl g)))]) s.heap := hP
  have hD : va_D A (ts_w cL cA o sA w a f ++ [(ou, .inl (cL, 1, .inr (.inl g)))]) := hD
  rcases ts_bad_or x with ⟨r, hr8, rfl⟩ | hbad
  · have hl : lv_has ls 4 [(0, .ref o), (1, .int (nI r)), (2, .ref ou)] := hl
    refine lv_aload_n hx hb d_L_bottom_0 rfl (lv_at hl 2 rfl) ?_
    refine lv_iconst (v := (nI 0)) hx hb d_L_bottom_1 (by decide) ?_
    refine lv_aload_n hx hb d_L_bottom_2 rfl (lv_at hl 0 rfl) ?_
    refine lv_iload_n hx hb d_L_bottom_3 rfl (lv_at hl 1 rfl) ?_
    refine ts_callTZ (z := [(ou, .inl (cL, 1, .inr (.inl g)))]) (rest := [.int (nI 0), .ref ou]) (g := fun u => u) ⟨hx, hb, hml, hown, hts⟩ (c_T_bottom l D cL cA cI cZ o sA w a f r (V r) hr8 (hV r hr8) (ts_bK (hbd r hr8)) _) (cwV 1 hts g_L_bottom_T_bottom rfl rfl rfl (by decide +kernel) ⟨Nat.le_of_ble_eq_true rfl, Nat.le_of_ble_eq_true rfl⟩) hK hP hD hS hA hl.1 rfl rfl (Nat.le_of_ble_eq_true rfl) d_L_bottom_4 ⟨Nat.le_of_ble_eq_true rfl, Nat.le_of_ble_eq_true rfl⟩ (fun v fa H locs hw hP hD hS => ?_)
    obtain ⟨⟨z, rfl, hz⟩, hw1⟩ := hw
    show W _ _ _ _ _ _ _ _ _ _ _ _ _ _ _ (F0 m 7 ls [.int z, .int (nI 0), .ref ou])
    refine lv_i2l hx hb d_L_bottom_7 rfl ?_
    refine va_last (D := D) hx hb hK hP hD hS 24 0 rfl rfl (vp_in_nI (by decide) (by decide)) d_L_bottom_8 (fun H locs hP hD hS => ?_)
    rw [nI_clamp (n := 0) (by decide)] at hP hD
    have hP : va_P D vwCl (ts_w cL cA o sA w a fa ++ [(ou, .inl (cL, 1, .inr (.inl (vp_updL g 0 (Int32.toInt64 z)))))]) H := hP
    have hD : va_D A (ts_w cL cA o sA w a fa ++ [(ou, .inl (cL, 1, .inr (.inl (vp_updL g 0 (Int32.toInt64 z)))))]) := hD
    refine lv_goto (tgt := 15) hx hb d_L_bottom_9 (by decide) ?_
    refine lv_iconst (v := 0) hx hb d_L_bottom_15 (by decide) ?_
    refine W.widen (k := 1) (n := 6) (Nat.le_of_ble_eq_true rfl) (Nat.le_of_ble_eq_true rfl) ?_
    exact W.iret (v := 0) hx hb hr (fun t ht hW => ts_ret (u := (fa, vp_updL g 0 (Int32.toInt64 z))) hP hD hK hS ⟨_, rfl, Or.inl ⟨r, hr8, rfl, rfl, ⟨z, (show vp_updL g 0 (Int32.toInt64 z) 0 = (Int32.toInt64 z) from pk_uLs), hz⟩⟩, hV.keep (fun i hi => hw1 i (by omega))⟩ ht hW) hS.2.2 d_L_bottom_16
  · refine lv_aload_n hx hb d_L_bottom_0 rfl (lv_at hl 2 rfl) ?_
    refine lv_iconst (v := (nI 0)) hx hb d_L_bottom_1 (by decide) ?_
    refine lv_aload_n hx hb d_L_bottom_2 rfl (lv_at hl 0 rfl) ?_
    refine lv_iload_n hx hb d_L_bottom_3 rfl (lv_at hl 1 rfl) ?_
    refine ts_callXZ (z := [(ou, .inl (cL, 1, .inr (.inl g)))]) (rest := [.int (nI 0), .ref ou]) (g := fun _ => f) ⟨hx, hb, hml, hown, hts⟩ (cx_T_bottom l hl0 D cL cA cI cZ o sA w a f x hbad _) (cwV 1 hts g_L_bottom_xT_bottom rfl rfl rfl (by decide +kernel) ⟨Nat.le_of_ble_eq_true rfl, Nat.le_of_ble_eq_true rfl⟩) hK hKX hP hD hS hA hl.1 rfl rfl (Nat.le_of_ble_eq_true rfl) d_L_bottom_4 ⟨Nat.le_of_ble_eq_true rfl, Nat.le_of_ble_eq_true rfl⟩ (fun ce q9 _u H locs hpx hP hD hS hce hcv hcl => ?_)
    refine vx_catch (own := R_L) (name := ts_IO) (E := ts_IO) hown [] ⟨0, 9, 12, 13⟩ [] (by rw [htab]; rfl) (fun z hz => absurd hz List.not_mem_nil) (by decide) (by decide) (hts (.classLink R_L 13 ts_IO) (by decide +kernel)) (ts_castX hKX.2).1 hce hcv hcl ?_
    show W _ _ _ _ _ _ _ _ _ _ _ _ _ _ _ (F0 m 12 ls [.ref q9])
    refine lv_astore_n (lv' := [(3, .ref q9), (0, .ref o), (1, .int x), (2, .ref ou)]) hx hb d_L_bottom_12 rfl hl (by decide) rfl (fun ls hl => ?_)
    refine lv_iconst (v := 1) hx hb d_L_bottom_13 (by decide) ?_
    refine W.widen (k := 1) (n := 6) (Nat.le_of_ble_eq_true rfl) (Nat.le_of_ble_eq_true rfl) ?_
    exact W.iret (v := 1) hx hb hr (fun t ht hW => ts_ret (u := (f, g)) hP hD hK hS ⟨_, rfl, Or.inr ⟨hbad, rfl⟩, hV⟩ ht hW) hS.2.2 d_L_bottom_14

set_option maxHeartbeats 4000000 in
set_option maxRecDepth 100000 in
theorem c_L_bit (l : Launch) (hl0 : l.stackTraces = false) (D : va_G) (cL cA cI cZ : ClassId) (o sA : Nat) (w a : Nat → Nat) (f : Nat → Nat → Int64) (ou : Nat) (g : Nat → Int64) (x y : Int32) (V : Nat → Int) (hV : ts_TS f V) (hbd : ∀ r, r < 8 → (V r).natAbs < 2 ^ 6373) (sz : Nat) : Met l y_L_bit w_L_bit ts_rmL (va_Pc [.ref o, .int x, .int y, .ref ou] (fun U => ts_A D vwCl (ts_ty cL cA cI cZ) (ts_w cL cA o sA w a f ++ [(ou, .inl (cL, 1, .inr (.inl g)))]) sz U ∧ ts_KL (va_A (ts_w cL cA o sA w a f ++ [(ou, .inl (cL, 1, .inr (.inl g)))]) sz) U)) (ts_Q (fun (v : Option Value) (u : (Nat → Nat → Int64) × (Nat → Int64)) => ∃ k : Int32, v = some (.int k) ∧ ((∃ r, r < 8 ∧ x = nI r ∧ k = 0 ∧ u.2 0 = if ts_ib (V r).natAbs (y.toInt + 3222) = true then 1 else 0) ∨ (ts_bad x ∧ k = 1)) ∧ ts_TS u.1 V) (fun u => ts_B D vwCl (ts_ty cL cA cI cZ) (va_A (ts_w cL cA o sA w a f ++ [(ou, .inl (cL, 1, .inr (.inl g)))]) sz) (ts_w cL cA o sA w a u.1 ++ [(ou, .inl (cL, 1, .inr (.inl u.2)))])) (va_A (ts_w cL cA o sA w a f ++ [(ou, .inl (cL, 1, .inr (.inl g)))]) sz)) 1 6 (va_A (ts_w cL cA o sA w a f ++ [(ou, .inl (cL, 1, .inr (.inl g)))]) sz) := by
  refine ts_metW (cc := b_L_bit) (maxL := 5) (ret := (some .int)) (by decide) rfl (Nat.le_of_ble_eq_true rfl) ?_
  intro p e s m below meth c hx hb hr hml hown hts hlocks htab A hA hAe hKL hK hP hD hS hsz ls hl
  have hKX := hKL.1
  have hown : s.vm.findClass R_L = some m.cls := hown
  have hl : lv_has ls 5 [(0, .ref o), (1, .int x), (2, .int y), (3, .ref ou)] := hl
  have hP : va_P D vwCl (ts_w cL cA o sA w a f ++ [(ou, .inl (cL, 1, .inr (.inl g)))]) s.heap := hP
  have hD : va_D A (ts_w cL cA o sA w a f ++ [(ou, .inl (cL, 1, .inr (.inl g)))]) := hD
  rcases ts_bad_or x with ⟨r, hr8, rfl⟩ | hbad
  · have hl : lv_has ls 5 [(0, .ref o), (1, .int (nI r)), (2, .int y), (3, .ref ou)] := hl
    refine lv_aload_n hx hb d_L_bit_0 rfl (lv_at hl 3 rfl) ?_
    refine lv_iconst (v := (nI 0)) hx hb d_L_bit_1 (by decide) ?_
    refine lv_aload_n hx hb d_L_bit_2 rfl (lv_at hl 0 rfl) ?_
    refine lv_iload_n hx hb d_L_bit_3 rfl (lv_at hl 1 rfl) ?_
    refine lv_iload_n hx hb d_L_bit_4 rfl (lv_at hl 2 rfl) ?_
    refine ts_callTZ (z := [(ou, .inl (cL, 1, .inr (.inl g)))]) (rest := [.int (nI 0), .ref ou]) (g := fun u => u) ⟨hx, hb, hml, hown, hts⟩ (c_T_bit l D cL cA cI cZ o sA w a f r (V r) hr8 (hV r hr8) (ts_bK (hbd r hr8)) y _) (cwV 2 hts g_L_bit_T_bit rfl rfl rfl (by decide +kernel) ⟨Nat.le_of_ble_eq_true rfl, Nat.le_of_ble_eq_true rfl⟩) hK hP hD hS hA hl.1 rfl rfl (Nat.le_of_ble_eq_true rfl) d_L_bit_5 ⟨Nat.le_of_ble_eq_true rfl, Nat.le_of_ble_eq_true rfl⟩ (fun v fa H locs hw hP hD hS => ?_)
    obtain ⟨rfl, hw1⟩ := hw
    show W _ _ _ _ _ _ _ _ _ _ _ _ _ _ _ (F0 m 8 ls [.int (if ts_ib (V r).natAbs (y.toInt + 3222) = true then 1 else 0), .int (nI 0), .ref ou])
    refine lv_if_eq (tgt := 15) hx hb d_L_bit_8 (by decide) (fun c1 => ?_) (fun c1 => ?_)
    · have h0 : ¬ ts_ib (V r).natAbs (y.toInt + 3222) = true := fun z => by rw [if_pos z] at c1; exact absurd c1 (by decide +kernel)
      refine lv_lconst (v := 0) hx hb d_L_bit_15 (by decide) ?_
      refine va_last (D := D) hx hb hK hP hD hS 24 0 rfl rfl (vp_in_nI (by decide) (by decide)) d_L_bit_16 (fun H locs hP hD hS => ?_)
      rw [nI_clamp (n := 0) (by decide)] at hP hD
      have hP : va_P D vwCl (ts_w cL cA o sA w a fa ++ [(ou, .inl (cL, 1, .inr (.inl (vp_updL g 0 0))))]) H := hP
      have hD : va_D A (ts_w cL cA o sA w a fa ++ [(ou, .inl (cL, 1, .inr (.inl (vp_updL g 0 0))))]) := hD
      refine lv_goto (tgt := 24) hx hb d_L_bit_17 (by decide) ?_
      refine lv_iconst (v := 0) hx hb d_L_bit_24 (by decide) ?_
      refine W.widen (k := 1) (n := 6) (Nat.le_of_ble_eq_true rfl) (Nat.le_of_ble_eq_true rfl) ?_
      exact W.iret (v := 0) hx hb hr (fun t ht hW => ts_ret (u := (fa, vp_updL g 0 0)) hP hD hK hS ⟨_, rfl, Or.inl ⟨r, hr8, rfl, rfl, ((show vp_updL g 0 0 0 = 0 from pk_uLs).trans (by rw [if_neg h0]))⟩, hV.keep (fun i hi => hw1 i (by omega))⟩ ht hW) hS.2.2 d_L_bit_25
    · have h0 : ts_ib (V r).natAbs (y.toInt + 3222) = true := by
        by_cases z : ts_ib (V r).natAbs (y.toInt + 3222) = true
        · exact z
        · rw [if_neg z] at c1; exact absurd rfl c1
      refine lv_lconst (v := 1) hx hb d_L_bit_11 (by decide) ?_
      refine lv_goto (tgt := 16) hx hb d_L_bit_12 (by decide) ?_
      refine va_last (D := D) hx hb hK hP hD hS 24 0 rfl rfl (vp_in_nI (by decide) (by decide)) d_L_bit_16 (fun H locs hP hD hS => ?_)
      rw [nI_clamp (n := 0) (by decide)] at hP hD
      have hP : va_P D vwCl (ts_w cL cA o sA w a fa ++ [(ou, .inl (cL, 1, .inr (.inl (vp_updL g 0 1))))]) H := hP
      have hD : va_D A (ts_w cL cA o sA w a fa ++ [(ou, .inl (cL, 1, .inr (.inl (vp_updL g 0 1))))]) := hD
      refine lv_goto (tgt := 24) hx hb d_L_bit_17 (by decide) ?_
      refine lv_iconst (v := 0) hx hb d_L_bit_24 (by decide) ?_
      refine W.widen (k := 1) (n := 6) (Nat.le_of_ble_eq_true rfl) (Nat.le_of_ble_eq_true rfl) ?_
      exact W.iret (v := 0) hx hb hr (fun t ht hW => ts_ret (u := (fa, vp_updL g 0 1)) hP hD hK hS ⟨_, rfl, Or.inl ⟨r, hr8, rfl, rfl, ((show vp_updL g 0 1 0 = 1 from pk_uLs).trans (by rw [if_pos h0]))⟩, hV.keep (fun i hi => hw1 i (by omega))⟩ ht hW) hS.2.2 d_L_bit_25
  · refine lv_aload_n hx hb d_L_bit_0 rfl (lv_at hl 3 rfl) ?_
    refine lv_iconst (v := (nI 0)) hx hb d_L_bit_1 (by decide) ?_
    refine lv_aload_n hx hb d_L_bit_2 rfl (lv_at hl 0 rfl) ?_
    refine lv_iload_n hx hb d_L_bit_3 rfl (lv_at hl 1 rfl) ?_
    refine lv_iload_n hx hb d_L_bit_4 rfl (lv_at hl 2 rfl) ?_
    refine ts_callXZ (z := [(ou, .inl (cL, 1, .inr (.inl g)))]) (rest := [.int (nI 0), .ref ou]) (g := fun _ => f) ⟨hx, hb, hml, hown, hts⟩ (cx_T_bit l hl0 D cL cA cI cZ o sA w a f x y hbad _) (cwV 2 hts g_L_bit_xT_bit rfl rfl rfl (by decide +kernel) ⟨Nat.le_of_ble_eq_true rfl, Nat.le_of_ble_eq_true rfl⟩) hK hKX hP hD hS hA hl.1 rfl rfl (Nat.le_of_ble_eq_true rfl) d_L_bit_5 ⟨Nat.le_of_ble_eq_true rfl, Nat.le_of_ble_eq_true rfl⟩ (fun ce q9 _u H locs hpx hP hD hS hce hcv hcl => ?_)
    refine vx_catch (own := R_L) (name := ts_IO) (E := ts_IO) hown [] ⟨0, 17, 20, 13⟩ [] (by rw [htab]; rfl) (fun z hz => absurd hz List.not_mem_nil) (by decide) (by decide) (hts (.classLink R_L 13 ts_IO) (by decide +kernel)) (ts_castX hKX.2).1 hce hcv hcl ?_
    show W _ _ _ _ _ _ _ _ _ _ _ _ _ _ _ (F0 m 20 ls [.ref q9])
    refine lv_astore (lv' := [(4, .ref q9), (0, .ref o), (1, .int x), (2, .int y), (3, .ref ou)]) hx hb d_L_bit_20 hl (by decide) rfl (fun ls hl => ?_)
    refine lv_iconst (v := 1) hx hb d_L_bit_22 (by decide) ?_
    refine W.widen (k := 1) (n := 6) (Nat.le_of_ble_eq_true rfl) (Nat.le_of_ble_eq_true rfl) ?_
    exact W.iret (v := 1) hx hb hr (fun t ht hW => ts_ret (u := (f, g)) hP hD hK hS ⟨_, rfl, Or.inr ⟨hbad, rfl⟩, hV⟩ ht hW) hS.2.2 d_L_bit_23

set_option maxHeartbeats 4000000 in
set_option maxRecDepth 100000 in
theorem c_L_word (l : Launch) (hl0 : l.stackTraces = false) (D : va_G) (cL cA cI cZ : ClassId) (o sA : Nat) (w a : Nat → Nat) (f : Nat → Nat → Int64) (ou : Nat) (g : Nat → Int64) (x y : Int32) (V : Nat → Int) (hV : ts_TS f V) (hbd : ∀ r, r < 8 → (V r).natAbs < 2 ^ 6373) (sz : Nat) : Met l y_L_word w_L_word ts_rmL (va_Pc [.ref o, .int x, .int y, .ref ou] (fun U => ts_A D vwCl (ts_ty cL cA cI cZ) (ts_w cL cA o sA w a f ++ [(ou, .inl (cL, 1, .inr (.inl g)))]) sz U ∧ ts_KL (va_A (ts_w cL cA o sA w a f ++ [(ou, .inl (cL, 1, .inr (.inl g)))]) sz) U)) (ts_Q (fun (v : Option Value) (u : (Nat → Nat → Int64) × (Nat → Int64)) => ∃ k : Int32, v = some (.int k) ∧ ((∃ r, r < 8 ∧ x = nI r ∧ k = 0 ∧ ts_Wd (V r).natAbs (y.toInt + 3222) (u.2 0)) ∨ (ts_bad x ∧ k = 1)) ∧ ts_TS u.1 V) (fun u => ts_B D vwCl (ts_ty cL cA cI cZ) (va_A (ts_w cL cA o sA w a f ++ [(ou, .inl (cL, 1, .inr (.inl g)))]) sz) (ts_w cL cA o sA w a u.1 ++ [(ou, .inl (cL, 1, .inr (.inl u.2)))])) (va_A (ts_w cL cA o sA w a f ++ [(ou, .inl (cL, 1, .inr (.inl g)))]) sz)) 1 6 (va_A (ts_w cL cA o sA w a f ++ [(ou, .inl (cL, 1, .inr (.inl g)))]) sz) := by
  refine ts_metW (cc := b_L_word) (maxL := 5) (ret := (some .int)) (by decide) rfl (Nat.le_of_ble_eq_true rfl) ?_
  intro p e s m below meth c hx hb hr hml hown hts hlocks htab A hA hAe hKL hK hP hD hS hsz ls hl
  have hKX := hKL.1
  have hown : s.vm.findClass R_L = some m.cls := hown
  have hl : lv_has ls 5 [(0, .ref o), (1, .int x), (2, .int y), (3, .ref ou)] := hl
  have hP : va_P D vwCl (ts_w cL cA o sA w a f ++ [(ou, .inl (cL, 1, .inr (.inl g)))]) s.heap := hP
  have hD : va_D A (ts_w cL cA o sA w a f ++ [(ou, .inl (cL, 1, .inr (.inl g)))]) := hD
  rcases ts_bad_or x with ⟨r, hr8, rfl⟩ | hbad
  · have hl : lv_has ls 5 [(0, .ref o), (1, .int (nI r)), (2, .int y), (3, .ref ou)] := hl
    refine lv_aload_n hx hb d_L_word_0 rfl (lv_at hl 3 rfl) ?_
    refine lv_iconst (v := (nI 0)) hx hb d_L_word_1 (by decide) ?_
    refine lv_aload_n hx hb d_L_word_2 rfl (lv_at hl 0 rfl) ?_
    refine lv_iload_n hx hb d_L_word_3 rfl (lv_at hl 1 rfl) ?_
    refine lv_iload_n hx hb d_L_word_4 rfl (lv_at hl 2 rfl) ?_
    refine ts_callTZ (z := [(ou, .inl (cL, 1, .inr (.inl g)))]) (rest := [.int (nI 0), .ref ou]) (g := fun u => u) ⟨hx, hb, hml, hown, hts⟩ (c_T_word l D cL cA cI cZ o sA w a f r (V r) hr8 (hV r hr8) (ts_bK (hbd r hr8)) y _) (cwV 2 hts g_L_word_T_word rfl rfl rfl (by decide +kernel) ⟨Nat.le_of_ble_eq_true rfl, Nat.le_of_ble_eq_true rfl⟩) hK hP hD hS hA hl.1 rfl rfl (Nat.le_of_ble_eq_true rfl) d_L_word_5 ⟨Nat.le_of_ble_eq_true rfl, Nat.le_of_ble_eq_true rfl⟩ (fun v fa H locs hw hP hD hS => ?_)
    obtain ⟨⟨z, rfl, hz⟩, hw1⟩ := hw
    show W _ _ _ _ _ _ _ _ _ _ _ _ _ _ _ (F0 m 8 ls [.long z, .int (nI 0), .ref ou])
    refine va_last (D := D) hx hb hK hP hD hS 24 0 rfl rfl (vp_in_nI (by decide) (by decide)) d_L_word_8 (fun H locs hP hD hS => ?_)
    rw [nI_clamp (n := 0) (by decide)] at hP hD
    have hP : va_P D vwCl (ts_w cL cA o sA w a fa ++ [(ou, .inl (cL, 1, .inr (.inl (vp_updL g 0 z))))]) H := hP
    have hD : va_D A (ts_w cL cA o sA w a fa ++ [(ou, .inl (cL, 1, .inr (.inl (vp_updL g 0 z))))]) := hD
    refine lv_goto (tgt := 16) hx hb d_L_word_9 (by decide) ?_
    refine lv_iconst (v := 0) hx hb d_L_word_16 (by decide) ?_
    refine W.widen (k := 1) (n := 6) (Nat.le_of_ble_eq_true rfl) (Nat.le_of_ble_eq_true rfl) ?_
    exact W.iret (v := 0) hx hb hr (fun t ht hW => ts_ret (u := (fa, vp_updL g 0 z)) hP hD hK hS ⟨_, rfl, Or.inl ⟨r, hr8, rfl, rfl, (by show ts_Wd _ _ (vp_updL g 0 z 0); rw [pk_uLs]; exact hz)⟩, hV.keep (fun i hi => hw1 i (by omega))⟩ ht hW) hS.2.2 d_L_word_17
  · refine lv_aload_n hx hb d_L_word_0 rfl (lv_at hl 3 rfl) ?_
    refine lv_iconst (v := (nI 0)) hx hb d_L_word_1 (by decide) ?_
    refine lv_aload_n hx hb d_L_word_2 rfl (lv_at hl 0 rfl) ?_
    refine lv_iload_n hx hb d_L_word_3 rfl (lv_at hl 1 rfl) ?_
    refine lv_iload_n hx hb d_L_word_4 rfl (lv_at hl 2 rfl) ?_
    refine ts_callXZ (z := [(ou, .inl (cL, 1, .inr (.inl g)))]) (rest := [.int (nI 0), .ref ou]) (g := fun _ => f) ⟨hx, hb, hml, hown, hts⟩ (cx_T_word l hl0 D cL cA cI cZ o sA w a f x y hbad _) (cwV 2 hts g_L_word_xT_word rfl rfl rfl (by decide +kernel) ⟨Nat.le_of_ble_eq_true rfl, Nat.le_of_ble_eq_true rfl⟩) hK hKX hP hD hS hA hl.1 rfl rfl (Nat.le_of_ble_eq_true rfl) d_L_word_5 ⟨Nat.le_of_ble_eq_true rfl, Nat.le_of_ble_eq_true rfl⟩ (fun ce q9 _u H locs hpx hP hD hS hce hcv hcl => ?_)
    refine vx_catch (own := R_L) (name := ts_IO) (E := ts_IO) hown [] ⟨0, 9, 12, 13⟩ [] (by rw [htab]; rfl) (fun z hz => absurd hz List.not_mem_nil) (by decide) (by decide) (hts (.classLink R_L 13 ts_IO) (by decide +kernel)) (ts_castX hKX.2).1 hce hcv hcl ?_
    show W _ _ _ _ _ _ _ _ _ _ _ _ _ _ _ (F0 m 12 ls [.ref q9])
    refine lv_astore (lv' := [(4, .ref q9), (0, .ref o), (1, .int x), (2, .int y), (3, .ref ou)]) hx hb d_L_word_12 hl (by decide) rfl (fun ls hl => ?_)
    refine lv_iconst (v := 1) hx hb d_L_word_14 (by decide) ?_
    refine W.widen (k := 1) (n := 6) (Nat.le_of_ble_eq_true rfl) (Nat.le_of_ble_eq_true rfl) ?_
    exact W.iret (v := 1) hx hb hr (fun t ht hW => ts_ret (u := (f, g)) hP hD hK hS ⟨_, rfl, Or.inr ⟨hbad, rfl⟩, hV⟩ ht hW) hS.2.2 d_L_word_15

