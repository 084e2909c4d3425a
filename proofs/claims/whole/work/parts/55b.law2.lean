set_option maxHeartbeats 4000000 in
set_option maxRecDepth 100000 in
theorem c_L_sign (l : Launch) (hl0 : l.stackTraces = false) (D : va_G) (cL cA cI cZ : ClassId) (o sA : Nat) (w a : Nat → Nat) (f : Nat → Nat → Int64) (ou : Nat) (g : Nat → Int64) (x : Int32) (V : Nat → Int) (hV : ts_TS f V) (hbd : ∀ r, r < 8 → (V r).natAbs < 2 ^ 6373) (sz : Nat) : Met l y_L_sign w_L_sign ts_rmL (va_Pc [.ref o, .int x, .ref ou] (fun U => ts_A D vwCl (ts_ty cL cA cI cZ) (ts_w cL cA o sA w a f ++ [(ou, .inl (cL, 1, .inr (.inl g)))]) sz U ∧ ts_KL (va_A (ts_w cL cA o sA w a f ++ [(ou, .inl (cL, 1, .inr (.inl g)))]) sz) U)) (ts_Q (fun (v : Option Value) (u : (Nat → Nat → Int64) × (Nat → Int64)) => ∃ k : Int32, v = some (.int k) ∧ ((∃ r, r < 8 ∧ x = nI r ∧ k = 0 ∧ u.2 0 = Int32.toInt64 (ts_sg (V r))) ∨ (ts_bad x ∧ k = 1)) ∧ ts_TS u.1 V) (fun u => ts_B D vwCl (ts_ty cL cA cI cZ) (va_A (ts_w cL cA o sA w a f ++ [(ou, .inl (cL, 1, .inr (.inl g)))]) sz) (ts_w cL cA o sA w a u.1 ++ [(ou, .inl (cL, 1, .inr (.inl u.2)))])) (va_A (ts_w cL cA o sA w a f ++ [(ou, .inl (cL, 1, .inr (.inl g)))]) sz)) 1 6 (va_A (ts_w cL cA o sA w a f ++ [(ou, .inl (cL, 1, .inr (.inl g)))]) sz) := by
  refine ts_metW (cc := b_L_sign) (maxL := 4) (ret := (some .int)) (by decide) rfl (Nat.le_of_ble_eq_true rfl) ?_
  intro p e s m below meth c hx hb hr hml hown hts hlocks htab A hA hAe hKL hK hP hD hS hsz ls hl
  have hKX := hKL.1
  have hown : s.vm.findClass R_L = some m.cls := hown
  have hl : lv_has ls 4 [(0, .ref o), (1, .int x), (2, .ref ou)] := hl
  have hP : va_P D vwCl (ts_w cL cA o sA w a f ++ [(ou, .inl (cL, 1, .inr (.inl g)))]) s.heap := hP
  have hD : va_D A (ts_w cL cA o sA w a f ++ [(ou, .inl (cL, 1, .inr (.inl g)))]) := hD
  rcases ts_bad_or x with ⟨r, hr8, rfl⟩ | hbad
  · have hl : lv_has ls 4 [(0, .ref o), (1, .int (nI r)), (2, .ref ou)] := hl
    refine lv_aload_n hx hb d_L_sign_0 rfl (lv_at hl 2 rfl) ?_
    refine lv_iconst (v := (nI 0)) hx hb d_L_sign_1 (by decide) ?_
    refine lv_aload_n hx hb d_L_sign_2 rfl (lv_at hl 0 rfl) ?_
    refine lv_iload_n hx hb d_L_sign_3 rfl (lv_at hl 1 rfl) ?_
    refine ts_callTZ (z := [(ou, .inl (cL, 1, .inr (.inl g)))]) (rest := [.int (nI 0), .ref ou]) (g := fun _ => f) ⟨hx, hb, hml, hown, hts⟩ (c_T_sign l D cL cA cI cZ o sA w a f r (V r) hr8 (hV r hr8) _) (cwV 1 hts g_L_sign_T_sign rfl rfl rfl (by decide +kernel) ⟨Nat.le_of_ble_eq_true rfl, Nat.le_of_ble_eq_true rfl⟩) hK hP hD hS hA hl.1 rfl rfl (Nat.le_of_ble_eq_true rfl) d_L_sign_4 ⟨Nat.le_of_ble_eq_true rfl, Nat.le_of_ble_eq_true rfl⟩ (fun v _u H locs hw hP hD hS => ?_)
    obtain rfl := hw
    show W _ _ _ _ _ _ _ _ _ _ _ _ _ _ _ (F0 m 7 ls [.int (ts_sg (V r)), .int (nI 0), .ref ou])
    refine lv_i2l hx hb d_L_sign_7 rfl ?_
    refine va_last (D := D) hx hb hK hP hD hS 24 0 rfl rfl (vp_in_nI (by decide) (by decide)) d_L_sign_8 (fun H locs hP hD hS => ?_)
    rw [nI_clamp (n := 0) (by decide)] at hP hD
    have hP : va_P D vwCl (ts_w cL cA o sA w a f ++ [(ou, .inl (cL, 1, .inr (.inl (vp_updL g 0 (Int32.toInt64 (ts_sg (V r)))))))]) H := hP
    have hD : va_D A (ts_w cL cA o sA w a f ++ [(ou, .inl (cL, 1, .inr (.inl (vp_updL g 0 (Int32.toInt64 (ts_sg (V r)))))))]) := hD
    refine lv_goto (tgt := 15) hx hb d_L_sign_9 (by decide) ?_
    refine lv_iconst (v := 0) hx hb d_L_sign_15 (by decide) ?_
    refine W.widen (k := 1) (n := 6) (Nat.le_of_ble_eq_true rfl) (Nat.le_of_ble_eq_true rfl) ?_
    exact W.iret (v := 0) hx hb hr (fun t ht hW => ts_ret (u := (f, vp_updL g 0 (Int32.toInt64 (ts_sg (V r))))) hP hD hK hS ⟨_, rfl, Or.inl ⟨r, hr8, rfl, rfl, (show vp_updL g 0 (Int32.toInt64 (ts_sg (V r))) 0 = (Int32.toInt64 (ts_sg (V r))) from pk_uLs)⟩, hV.keep (fun _ _ => rfl)⟩ ht hW) hS.2.2 d_L_sign_16
  · refine lv_aload_n hx hb d_L_sign_0 rfl (lv_at hl 2 rfl) ?_
    refine lv_iconst (v := (nI 0)) hx hb d_L_sign_1 (by decide) ?_
    refine lv_aload_n hx hb d_L_sign_2 rfl (lv_at hl 0 rfl) ?_
    refine lv_iload_n hx hb d_L_sign_3 rfl (lv_at hl 1 rfl) ?_
    refine ts_callXZ (z := [(ou, .inl (cL, 1, .inr (.inl g)))]) (rest := [.int (nI 0), .ref ou]) (g := fun _ => f) ⟨hx, hb, hml, hown, hts⟩ (cx_T_sign l hl0 D cL cA cI cZ o sA w a f x hbad _) (cwV 1 hts g_L_sign_xT_sign rfl rfl rfl (by decide +kernel) ⟨Nat.le_of_ble_eq_true rfl, Nat.le_of_ble_eq_true rfl⟩) hK hKX hP hD hS hA hl.1 rfl rfl (Nat.le_of_ble_eq_true rfl) d_L_sign_4 ⟨Nat.le_of_ble_eq_true rfl, Nat.le_of_ble_eq_true rfl⟩ (fun ce q9 _u H locs hpx hP hD hS hce hcv hcl => ?_)
    refine vx_catch (own := R_L) (name := ts_IO) (E := ts_IO) hown [] ⟨0, 9, 12, 13⟩ [] (by rw [htab]; rfl) (fun z hz => absurd hz List.not_mem_nil) (by decide) (by decide) (hts (.classLink R_L 13 ts_IO) (by decide +kernel)) (ts_castX hKX.2).1 hce hcv hcl ?_
    show W _ _ _ _ _ _ _ _ _ _ _ _ _ _ _ (F0 m 12 ls [.ref q9])
    refine lv_astore_n (lv' := [(3, .ref q9), (0, .ref o), (1, .int x), (2, .ref ou)]) hx hb d_L_sign_12 rfl hl (by decide) rfl (fun ls hl => ?_)
    refine lv_iconst (v := 1) hx hb d_L_sign_13 (by decide) ?_
    refine W.widen (k := 1) (n := 6) (Nat.le_of_ble_eq_true rfl) (Nat.le_of_ble_eq_true rfl) ?_
    exact W.iret (v := 1) hx hb hr (fun t ht hW => ts_ret (u := (f, g)) hP hD hK hS ⟨_, rfl, Or.inr ⟨hbad, rfl⟩, hV⟩ ht hW) hS.2.2 d_L_sign_14

set_option maxHeartbeats 4000000 in
set_option maxRecDepth 100000 in
theorem c_L_compare (l : Launch) (hl0 : l.stackTraces = false) (D : va_G) (cL cA cI cZ : ClassId) (o sA : Nat) (w a : Nat → Nat) (f : Nat → Nat → Int64) (ou : Nat) (g : Nat → Int64) (x y : Int32) (V : Nat → Int) (hV : ts_TS f V) (hbd : ∀ r, r < 8 → (V r).natAbs < 2 ^ 6373) (sz : Nat) : Met l y_L_compare w_L_compare ts_rmL (va_Pc [.ref o, .int x, .int y, .ref ou] (fun U => ts_A D vwCl (ts_ty cL cA cI cZ) (ts_w cL cA o sA w a f ++ [(ou, .inl (cL, 1, .inr (.inl g)))]) sz U ∧ ts_KL (va_A (ts_w cL cA o sA w a f ++ [(ou, .inl (cL, 1, .inr (.inl g)))]) sz) U)) (ts_Q (fun (v : Option Value) (u : (Nat → Nat → Int64) × (Nat → Int64)) => ∃ k : Int32, v = some (.int k) ∧ ((∃ r q, r < 8 ∧ q < 8 ∧ x = nI r ∧ y = nI q ∧ k = 0 ∧ u.2 0 = Int32.toInt64 (ts_sg (V r + -1 * V q))) ∨ ((ts_bad x ∨ ts_bad y) ∧ k = 1)) ∧ ts_TS u.1 V) (fun u => ts_B D vwCl (ts_ty cL cA cI cZ) (va_A (ts_w cL cA o sA w a f ++ [(ou, .inl (cL, 1, .inr (.inl g)))]) sz) (ts_w cL cA o sA w a u.1 ++ [(ou, .inl (cL, 1, .inr (.inl u.2)))])) (va_A (ts_w cL cA o sA w a f ++ [(ou, .inl (cL, 1, .inr (.inl g)))]) sz)) 1 6 (va_A (ts_w cL cA o sA w a f ++ [(ou, .inl (cL, 1, .inr (.inl g)))]) sz) := by
  refine ts_metW (cc := b_L_compare) (maxL := 5) (ret := (some .int)) (by decide) rfl (Nat.le_of_ble_eq_true rfl) ?_
  intro p e s m below meth c hx hb hr hml hown hts hlocks htab A hA hAe hKL hK hP hD hS hsz ls hl
  have hKX := hKL.1
  have hown : s.vm.findClass R_L = some m.cls := hown
  have hl : lv_has ls 5 [(0, .ref o), (1, .int x), (2, .int y), (3, .ref ou)] := hl
  have hP : va_P D vwCl (ts_w cL cA o sA w a f ++ [(ou, .inl (cL, 1, .inr (.inl g)))]) s.heap := hP
  have hD : va_D A (ts_w cL cA o sA w a f ++ [(ou, .inl (cL, 1, .inr (.inl g)))]) := hD
  rcases ts_bad_or x with ⟨r, hr8, rfl⟩ | hbad
  · have hl : lv_has ls 5 [(0, .ref o), (1, .int (nI r)), (2, .int y), (3, .ref ou)] := hl
    rcases ts_bad_or y with ⟨q, hq8, rfl⟩ | hbad
    · have hl : lv_has ls 5 [(0, .ref o), (1, .int (nI r)), (2, .int (nI q)), (3, .ref ou)] := hl
      have hk2 := ts_bK2 (hbd r hr8) (hbd q hq8)
      refine lv_aload_n hx hb d_L_compare_0 rfl (lv_at hl 3 rfl) ?_
      refine lv_iconst (v := (nI 0)) hx hb d_L_compare_1 (by decide) ?_
      refine lv_aload_n hx hb d_L_compare_2 rfl (lv_at hl 0 rfl) ?_
      refine lv_iload_n hx hb d_L_compare_3 rfl (lv_at hl 1 rfl) ?_
      refine lv_iload_n hx hb d_L_compare_4 rfl (lv_at hl 2 rfl) ?_
      refine ts_callTZ (z := [(ou, .inl (cL, 1, .inr (.inl g)))]) (rest := [.int (nI 0), .ref ou]) (g := fun u => u) ⟨hx, hb, hml, hown, hts⟩ (c_T_compare l D cL cA cI cZ o sA w a f r q (V r) (V q) hr8 hq8 (hV r hr8) (hV q hq8) (by omega) (by omega) _) (cwV 2 hts g_L_compare_T_compare rfl rfl rfl (by decide +kernel) ⟨Nat.le_of_ble_eq_true rfl, Nat.le_of_ble_eq_true rfl⟩) hK hP hD hS hA hl.1 rfl rfl (Nat.le_of_ble_eq_true rfl) d_L_compare_5 ⟨Nat.le_of_ble_eq_true rfl, Nat.le_of_ble_eq_true rfl⟩ (fun v fa H locs hw hP hD hS => ?_)
      obtain ⟨rfl, hw1⟩ := hw
      show W _ _ _ _ _ _ _ _ _ _ _ _ _ _ _ (F0 m 8 ls [.int (ts_sg (V r + -1 * V q)), .int (nI 0), .ref ou])
      refine lv_i2l hx hb d_L_compare_8 rfl ?_
      refine va_last (D := D) hx hb hK hP hD hS 24 0 rfl rfl (vp_in_nI (by decide) (by decide)) d_L_compare_9 (fun H locs hP hD hS => ?_)
      rw [nI_clamp (n := 0) (by decide)] at hP hD
      have hP : va_P D vwCl (ts_w cL cA o sA w a fa ++ [(ou, .inl (cL, 1, .inr (.inl (vp_updL g 0 (Int32.toInt64 (ts_sg (V r + -1 * V q)))))))]) H := hP
      have hD : va_D A (ts_w cL cA o sA w a fa ++ [(ou, .inl (cL, 1, .inr (.inl (vp_updL g 0 (Int32.toInt64 (ts_sg (V r + -1 * V q)))))))]) := hD
      refine lv_goto (tgt := 17) hx hb d_L_compare_10 (by decide) ?_
      refine lv_iconst (v := 0) hx hb d_L_compare_17 (by decide) ?_
      refine W.widen (k := 1) (n := 6) (Nat.le_of_ble_eq_true rfl) (Nat.le_of_ble_eq_true rfl) ?_
      exact W.iret (v := 0) hx hb hr (fun t ht hW => ts_ret (u := (fa, vp_updL g 0 (Int32.toInt64 (ts_sg (V r + -1 * V q))))) hP hD hK hS ⟨_, rfl, Or.inl ⟨r, q, hr8, hq8, rfl, rfl, rfl, (show vp_updL g 0 (Int32.toInt64 (ts_sg (V r + -1 * V q))) 0 = (Int32.toInt64 (ts_sg (V r + -1 * V q))) from pk_uLs)⟩, hV.keep (fun i hi => hw1 i (by omega))⟩ ht hW) hS.2.2 d_L_compare_18
    · refine lv_aload_n hx hb d_L_compare_0 rfl (lv_at hl 3 rfl) ?_
      refine lv_iconst (v := (nI 0)) hx hb d_L_compare_1 (by decide) ?_
      refine lv_aload_n hx hb d_L_compare_2 rfl (lv_at hl 0 rfl) ?_
      refine lv_iload_n hx hb d_L_compare_3 rfl (lv_at hl 1 rfl) ?_
      refine lv_iload_n hx hb d_L_compare_4 rfl (lv_at hl 2 rfl) ?_
      refine ts_callXZ (z := [(ou, .inl (cL, 1, .inr (.inl g)))]) (rest := [.int (nI 0), .ref ou]) (g := fun _ => f) ⟨hx, hb, hml, hown, hts⟩ (cx_T_compare l hl0 D cL cA cI cZ o sA w a f (nI r) y (Or.inr ⟨⟨r, hr8, rfl⟩, hbad⟩) _) (cwV 2 hts g_L_compare_xT_compare rfl rfl rfl (by decide +kernel) ⟨Nat.le_of_ble_eq_true rfl, Nat.le_of_ble_eq_true rfl⟩) hK hKX hP hD hS hA hl.1 rfl rfl (Nat.le_of_ble_eq_true rfl) d_L_compare_5 ⟨Nat.le_of_ble_eq_true rfl, Nat.le_of_ble_eq_true rfl⟩ (fun ce q9 _u H locs hpx hP hD hS hce hcv hcl => ?_)
      refine vx_catch (own := R_L) (name := ts_IO) (E := ts_IO) hown [] ⟨0, 10, 13, 13⟩ [] (by rw [htab]; rfl) (fun z hz => absurd hz List.not_mem_nil) (by decide) (by decide) (hts (.classLink R_L 13 ts_IO) (by decide +kernel)) (ts_castX hKX.2).1 hce hcv hcl ?_
      show W _ _ _ _ _ _ _ _ _ _ _ _ _ _ _ (F0 m 13 ls [.ref q9])
      refine lv_astore (lv' := [(4, .ref q9), (0, .ref o), (1, .int (nI r)), (2, .int y), (3, .ref ou)]) hx hb d_L_compare_13 hl (by decide) rfl (fun ls hl => ?_)
      refine lv_iconst (v := 1) hx hb d_L_compare_15 (by decide) ?_
      refine W.widen (k := 1) (n := 6) (Nat.le_of_ble_eq_true rfl) (Nat.le_of_ble_eq_true rfl) ?_
      exact W.iret (v := 1) hx hb hr (fun t ht hW => ts_ret (u := (f, g)) hP hD hK hS ⟨_, rfl, Or.inr ⟨Or.inr hbad, rfl⟩, hV⟩ ht hW) hS.2.2 d_L_compare_16
  · refine lv_aload_n hx hb d_L_compare_0 rfl (lv_at hl 3 rfl) ?_
    refine lv_iconst (v := (nI 0)) hx hb d_L_compare_1 (by decide) ?_
    refine lv_aload_n hx hb d_L_compare_2 rfl (lv_at hl 0 rfl) ?_
    refine lv_iload_n hx hb d_L_compare_3 rfl (lv_at hl 1 rfl) ?_
    refine lv_iload_n hx hb d_L_compare_4 rfl (lv_at hl 2 rfl) ?_
    refine ts_callXZ (z := [(ou, .inl (cL, 1, .inr (.inl g)))]) (rest := [.int (nI 0), .ref ou]) (g := fun _ => f) ⟨hx, hb, hml, hown, hts⟩ (cx_T_compare l hl0 D cL cA cI cZ o sA w a f x y (Or.inl hbad) _) (cwV 2 hts g_L_compare_xT_compare rfl rfl rfl (by decide +kernel) ⟨Nat.le_of_ble_eq_true rfl, Nat.le_of_ble_eq_true rfl⟩) hK hKX hP hD hS hA hl.1 rfl rfl (Nat.le_of_ble_eq_true rfl) d_L_compare_5 ⟨Nat.le_of_ble_eq_true rfl, Nat.le_of_ble_eq_true rfl⟩ (fun ce q9 _u H locs hpx hP hD hS hce hcv hcl => ?_)
    refine vx_catch (own := R_L) (name := ts_IO) (E := ts_IO) hown [] ⟨0, 10, 13, 13⟩ [] (by rw [htab]; rfl) (fun z hz => absurd hz List.not_mem_nil) (by decide) (by decide) (hts (.classLink R_L 13 ts_IO) (by decide +kernel)) (ts_castX hKX.2).1 hce hcv hcl ?_
    show W _ _ _ _ _ _ _ _ _ _ _ _ _ _ _ (F0 m 13 ls [.ref q9])
    refine lv_astore (lv' := [(4, .ref q9), (0, .ref o), (1, .int x), (2, .int y), (3, .ref ou)]) hx hb d_L_compare_13 hl (by decide) rfl (fun ls hl => ?_)
    refine lv_iconst (v := 1) hx hb d_L_compare_15 (by decide) ?_
    refine W.widen (k := 1) (n := 6) (Nat.le_of_ble_eq_true rfl) (Nat.le_of_ble_eq_true rfl) ?_
    exact W.iret (v := 1) hx hb hr (fun t ht hW => ts_ret (u := (f, g)) hP hD hK hS ⟨_, rfl, Or.inr ⟨Or.inl hbad, rfl⟩, hV⟩ ht hW) hS.2.2 d_L_compare_16

set_option maxHeartbeats 4000000 in
set_option maxRecDepth 100000 in
theorem c_L_compareSizes (l : Launch) (hl0 : l.stackTraces = false) (D : va_G) (cL cA cI cZ : ClassId) (o sA : Nat) (w a : Nat → Nat) (f : Nat → Nat → Int64) (ou : Nat) (g : Nat → Int64) (x y : Int32) (V : Nat → Int) (hV : ts_TS f V) (hbd : ∀ r, r < 8 → (V r).natAbs < 2 ^ 6373) (sz : Nat) : Met l y_L_compareSizes w_L_compareSizes ts_rmL (va_Pc [.ref o, .int x, .int y, .ref ou] (fun U => ts_A D vwCl (ts_ty cL cA cI cZ) (ts_w cL cA o sA w a f ++ [(ou, .inl (cL, 1, .inr (.inl g)))]) sz U ∧ ts_KL (va_A (ts_w cL cA o sA w a f ++ [(ou, .inl (cL, 1, .inr (.inl g)))]) sz) U)) (ts_Q (fun (v : Option Value) (u : (Nat → Nat → Int64) × (Nat → Int64)) => ∃ k : Int32, v = some (.int k) ∧ ((∃ r q, r < 8 ∧ q < 8 ∧ x = nI r ∧ y = nI q ∧ k = 0 ∧ u.2 0 = Int32.toInt64 (ts_sg (((V r).natAbs : Int) - ((V q).natAbs : Int)))) ∨ ((ts_bad x ∨ ts_bad y) ∧ k = 1)) ∧ ts_TS u.1 V) (fun u => ts_B D vwCl (ts_ty cL cA cI cZ) (va_A (ts_w cL cA o sA w a f ++ [(ou, .inl (cL, 1, .inr (.inl g)))]) sz) (ts_w cL cA o sA w a u.1 ++ [(ou, .inl (cL, 1, .inr (.inl u.2)))])) (va_A (ts_w cL cA o sA w a f ++ [(ou, .inl (cL, 1, .inr (.inl g)))]) sz)) 1 6 (va_A (ts_w cL cA o sA w a f ++ [(ou, .inl (cL, 1, .inr (.inl g)))]) sz) := by
  refine ts_metW (cc := b_L_compareSizes) (maxL := 5) (ret := (some .int)) (by decide) rfl (Nat.le_of_ble_eq_true rfl) ?_
  intro p e s m below meth c hx hb hr hml hown hts hlocks htab A hA hAe hKL hK hP hD hS hsz ls hl
  have hKX := hKL.1
  have hown : s.vm.findClass R_L = some m.cls := hown
  have hl : lv_has ls 5 [(0, .ref o), (1, .int x), (2, .int y), (3, .ref ou)] := hl
  have hP : va_P D vwCl (ts_w cL cA o sA w a f ++ [(ou, .inl (cL, 1, .inr (.inl g)))]) s.heap := hP
  have hD : va_D A (ts_w cL cA o sA w a f ++ [(ou, .inl (cL, 1, .inr (.inl g)))]) := hD
  rcases ts_bad_or x with ⟨r, hr8, rfl⟩ | hbad
  · have hl : lv_has ls 5 [(0, .ref o), (1, .int (nI r)), (2, .int y), (3, .ref ou)] := hl
    rcases ts_bad_or y with ⟨q, hq8, rfl⟩ | hbad
    · have hl : lv_has ls 5 [(0, .ref o), (1, .int (nI r)), (2, .int (nI q)), (3, .ref ou)] := hl
      have hk2 := ts_bK2 (hbd r hr8) (hbd q hq8)
      refine lv_aload_n hx hb d_L_compareSizes_0 rfl (lv_at hl 3 rfl) ?_
      refine lv_iconst (v := (nI 0)) hx hb d_L_compareSizes_1 (by decide) ?_
      refine lv_aload_n hx hb d_L_compareSizes_2 rfl (lv_at hl 0 rfl) ?_
      refine lv_iload_n hx hb d_L_compareSizes_3 rfl (lv_at hl 1 rfl) ?_
      refine lv_iload_n hx hb d_L_compareSizes_4 rfl (lv_at hl 2 rfl) ?_
      refine ts_callTZ (z := [(ou, .inl (cL, 1, .inr (.inl g)))]) (rest := [.int (nI 0), .ref ou]) (g := fun u => u) ⟨hx, hb, hml, hown, hts⟩ (c_T_compareSizes l D cL cA cI cZ o sA w a f r q (V r) (V q) hr8 hq8 (hV r hr8) (hV q hq8) (ts_bK (hbd r hr8)) (ts_bK (hbd q hq8)) _) (cwV 2 hts g_L_compareSizes_T_compareSizes rfl rfl rfl (by decide +kernel) ⟨Nat.le_of_ble_eq_true rfl, Nat.le_of_ble_eq_true rfl⟩) hK hP hD hS hA hl.1 rfl rfl (Nat.le_of_ble_eq_true rfl) d_L_compareSizes_5 ⟨Nat.le_of_ble_eq_true rfl, Nat.le_of_ble_eq_true rfl⟩ (fun v fa H locs hw hP hD hS => ?_)
      obtain ⟨rfl, hw1⟩ := hw
      show W _ _ _ _ _ _ _ _ _ _ _ _ _ _ _ (F0 m 8 ls [.int (ts_sg (((V r).natAbs : Int) - ((V q).natAbs : Int))), .int (nI 0), .ref ou])
      refine lv_i2l hx hb d_L_compareSizes_8 rfl ?_
      refine va_last (D := D) hx hb hK hP hD hS 24 0 rfl rfl (vp_in_nI (by decide) (by decide)) d_L_compareSizes_9 (fun H locs hP hD hS => ?_)
      rw [nI_clamp (n := 0) (by decide)] at hP hD
      have hP : va_P D vwCl (ts_w cL cA o sA w a fa ++ [(ou, .inl (cL, 1, .inr (.inl (vp_updL g 0 (Int32.toInt64 (ts_sg (((V r).natAbs : Int) - ((V q).natAbs : Int))))))))]) H := hP
      have hD : va_D A (ts_w cL cA o sA w a fa ++ [(ou, .inl (cL, 1, .inr (.inl (vp_updL g 0 (Int32.toInt64 (ts_sg (((V r).natAbs : Int) - ((V q).natAbs : Int))))))))]) := hD
      refine lv_goto (tgt := 17) hx hb d_L_compareSizes_10 (by decide) ?_
      refine lv_iconst (v := 0) hx hb d_L_compareSizes_17 (by decide) ?_
      refine W.widen (k := 1) (n := 6) (Nat.le_of_ble_eq_true rfl) (Nat.le_of_ble_eq_true rfl) ?_
      exact W.iret (v := 0) hx hb hr (fun t ht hW => ts_ret (u := (fa, vp_updL g 0 (Int32.toInt64 (ts_sg (((V r).natAbs : Int) - ((V q).natAbs : Int)))))) hP hD hK hS ⟨_, rfl, Or.inl ⟨r, q, hr8, hq8, rfl, rfl, rfl, (show vp_updL g 0 (Int32.toInt64 (ts_sg (((V r).natAbs : Int) - ((V q).natAbs : Int)))) 0 = (Int32.toInt64 (ts_sg (((V r).natAbs : Int) - ((V q).natAbs : Int)))) from pk_uLs)⟩, hV.keep (fun i hi => hw1 i (by omega))⟩ ht hW) hS.2.2 d_L_compareSizes_18
    · refine lv_aload_n hx hb d_L_compareSizes_0 rfl (lv_at hl 3 rfl) ?_
      refine lv_iconst (v := (nI 0)) hx hb d_L_compareSizes_1 (by decide) ?_
      refine lv_aload_n hx hb d_L_compareSizes_2 rfl (lv_at hl 0 rfl) ?_
      refine lv_iload_n hx hb d_L_compareSizes_3 rfl (lv_at hl 1 rfl) ?_
      refine lv_iload_n hx hb d_L_compareSizes_4 rfl (lv_at hl 2 rfl) ?_
      refine ts_callXZ (z := [(ou, .inl (cL, 1, .inr (.inl g)))]) (rest := [.int (nI 0), .ref ou]) (g := fun _ => f) ⟨hx, hb, hml, hown, hts⟩ (cx_T_compareSizes l hl0 D cL cA cI cZ o sA w a f (nI r) y (Or.inr ⟨⟨r, hr8, rfl⟩, hbad⟩) _) (cwV 2 hts g_L_compareSizes_xT_compareSizes rfl rfl rfl (by decide +kernel) ⟨Nat.le_of_ble_eq_true rfl, Nat.le_of_ble_eq_true rfl⟩) hK hKX hP hD hS hA hl.1 rfl rfl (Nat.le_of_ble_eq_true rfl) d_L_compareSizes_5 ⟨Nat.le_of_ble_eq_true rfl, Nat.le_of_ble_eq_true rfl⟩ (fun ce q9 _u H locs hpx hP hD hS hce hcv hcl => ?_)
      refine vx_catch (own := R_L) (name := ts_IO) (E := ts_IO) hown [] ⟨0, 10, 13, 13⟩ [] (by rw [htab]; rfl) (fun z hz => absurd hz List.not_mem_nil) (by decide) (by decide) (hts (.classLink R_L 13 ts_IO) (by decide +kernel)) (ts_castX hKX.2).1 hce hcv hcl ?_
      show W _ _ _ _ _ _ _ _ _ _ _ _ _ _ _ (F0 m 13 ls [.ref q9])
      refine lv_astore (lv' := [(4, .ref q9), (0, .ref o), (1, .int (nI r)), (2, .int y), (3, .ref ou)]) hx hb d_L_compareSizes_13 hl (by decide) rfl (fun ls hl => ?_)
      refine lv_iconst (v := 1) hx hb d_L_compareSizes_15 (by decide) ?_
      refine W.widen (k := 1) (n := 6) (Nat.le_of_ble_eq_true rfl) (Nat.le_of_ble_eq_true rfl) ?_
      exact W.iret (v := 1) hx hb hr (fun t ht hW => ts_ret (u := (f, g)) hP hD hK hS ⟨_, rfl, Or.inr ⟨Or.inr hbad, rfl⟩, hV⟩ ht hW) hS.2.2 d_L_compareSizes_16
  · refine lv_aload_n hx hb d_L_compareSizes_0 rfl (lv_at hl 3 rfl) ?_
    refine lv_iconst (v := (nI 0)) hx hb d_L_compareSizes_1 (by decide) ?_
    refine lv_aload_n hx hb d_L_compareSizes_2 rfl (lv_at hl 0 rfl) ?_
    refine lv_iload_n hx hb d_L_compareSizes_3 rfl (lv_at hl 1 rfl) ?_
    refine lv_iload_n hx hb d_L_compareSizes_4 rfl (lv_at hl 2 rfl) ?_
    refine ts_callXZ (z := [(ou, .inl (cL, 1, .inr (.inl g)))]) (rest := [.int (nI 0), .ref ou]) (g := fun _ => f) ⟨hx, hb, hml, hown, hts⟩ (cx_T_compareSizes l hl0 D cL cA cI cZ o sA w a f x y (Or.inl hbad) _) (cwV 2 hts g_L_compareSizes_xT_compareSizes rfl rfl rfl (by decide +kernel) ⟨Nat.le_of_ble_eq_true rfl, Nat.le_of_ble_eq_true rfl⟩) hK hKX hP hD hS hA hl.1 rfl rfl (Nat.le_of_ble_eq_true rfl) d_L_compareSizes_5 ⟨Nat.le_of_ble_eq_true rfl, Nat.le_of_ble_eq_true rfl⟩ (fun ce q9 _u H locs hpx hP hD hS hce hcv hcl => ?_)
    refine vx_catch (own := R_L) (name := ts_IO) (E := ts_IO) hown [] ⟨0, 10, 13, 13⟩ [] (by rw [htab]; rfl) (fun z hz => absurd hz List.not_mem_nil) (by decide) (by decide) (hts (.classLink R_L 13 ts_IO) (by decide +kernel)) (ts_castX hKX.2).1 hce hcv hcl ?_
    show W _ _ _ _ _ _ _ _ _ _ _ _ _ _ _ (F0 m 13 ls [.ref q9])
    refine lv_astore (lv' := [(4, .ref q9), (0, .ref o), (1, .int x), (2, .int y), (3, .ref ou)]) hx hb d_L_compareSizes_13 hl (by decide) rfl (fun ls hl => ?_)
    refine lv_iconst (v := 1) hx hb d_L_compareSizes_15 (by decide) ?_
    refine W.widen (k := 1) (n := 6) (Nat.le_of_ble_eq_true rfl) (Nat.le_of_ble_eq_true rfl) ?_
    exact W.iret (v := 1) hx hb hr (fun t ht hW => ts_ret (u := (f, g)) hP hD hK hS ⟨_, rfl, Or.inr ⟨Or.inl hbad, rfl⟩, hV⟩ ht hW) hS.2.2 d_L_compareSizes_16

set_option maxHeartbeats 4000000 in
set_option maxRecDepth 100000 in
theorem c_L_nearest (l : Launch) (hl0 : l.stackTraces = false) (D : va_G) (cL cA cI cZ : ClassId) (o sA : Nat) (w a : Nat → Nat) (f : Nat → Nat → Int64) (ou : Nat) (g : Nat → Int64) (x : Int32) (V : Nat → Int) (hV : ts_TS f V) (hbd : ∀ r, r < 8 → (V r).natAbs < 2 ^ 6373) (sz : Nat) : Met l y_L_nearest w_L_nearest ts_rmL (va_Pc [.ref o, .int x, .ref ou] (fun U => ts_A D vwCl (ts_ty cL cA cI cZ) (ts_w cL cA o sA w a f ++ [(ou, .inl (cL, 1, .inr (.inl g)))]) sz U ∧ ts_KL (va_A (ts_w cL cA o sA w a f ++ [(ou, .inl (cL, 1, .inr (.inl g)))]) sz) U)) (ts_Q (fun (v : Option Value) (u : (Nat → Nat → Int64) × (Nat → Int64)) => ∃ k : Int32, v = some (.int k) ∧ ((∃ r, r < 8 ∧ x = nI r ∧ k = 0 ∧ u.2 0 = ts_near (V r)) ∨ (ts_bad x ∧ k = 1)) ∧ ts_TS u.1 V) (fun u => ts_B D vwCl (ts_ty cL cA cI cZ) (va_A (ts_w cL cA o sA w a f ++ [(ou, .inl (cL, 1, .inr (.inl g)))]) sz) (ts_w cL cA o sA w a u.1 ++ [(ou, .inl (cL, 1, .inr (.inl u.2)))])) (va_A (ts_w cL cA o sA w a f ++ [(ou, .inl (cL, 1, .inr (.inl g)))]) sz)) 1 6 (va_A (ts_w cL cA o sA w a f ++ [(ou, .inl (cL, 1, .inr (.inl g)))]) sz) := by
  refine ts_metW (cc := b_L_nearest) (maxL := 4) (ret := (some .int)) (by decide) rfl (Nat.le_of_ble_eq_true rfl) ?_
  intro p e s m below meth c hx hb hr hml hown hts hlocks htab A hA hAe hKL hK hP hD hS hsz ls hl
  have hKX := hKL.1
  have hown : s.vm.findClass R_L = some m.cls := hown
  have hl : lv_has ls 4 [(0, .ref o), (1, .int x), (2, .ref ou)] := hl
  have hP : va_P D vwCl (ts_w cL cA o sA w a f ++ [(ou, .inl (cL, 1, .inr (.inl g)))]) s.heap := hP
  have hD : va_D A (ts_w cL cA o sA w a f ++ [(ou, .inl (cL, 1, .inr (.inl g)))]) := hD
  rcases ts_bad_or x with ⟨r, hr8, rfl⟩ | hbad
  · have hl : lv_has ls 4 [(0, .ref o), (1, .int (nI r)), (2, .ref ou)] := hl
    refine lv_aload_n hx hb d_L_nearest_0 rfl (lv_at hl 2 rfl) ?_
    refine lv_iconst (v := (nI 0)) hx hb d_L_nearest_1 (by decide) ?_
    refine lv_aload_n hx hb d_L_nearest_2 rfl (lv_at hl 0 rfl) ?_
    refine lv_iload_n hx hb d_L_nearest_3 rfl (lv_at hl 1 rfl) ?_
    refine ts_callTZ (z := [(ou, .inl (cL, 1, .inr (.inl g)))]) (rest := [.int (nI 0), .ref ou]) (g := fun u => u) ⟨hx, hb, hml, hown, hts⟩ (c_T_nearest l D cL cA cI cZ o sA w a f r (V r) hr8 (hV r hr8) (ts_bK (hbd r hr8)) _) (cwV 1 hts g_L_nearest_T_nearest rfl rfl rfl (by decide +kernel) ⟨Nat.le_of_ble_eq_true rfl, Nat.le_of_ble_eq_true rfl⟩) hK hP hD hS hA hl.1 rfl rfl (Nat.le_of_ble_eq_true rfl) d_L_nearest_4 ⟨Nat.le_of_ble_eq_true rfl, Nat.le_of_ble_eq_true rfl⟩ (fun v fa H locs hw hP hD hS => ?_)
    obtain ⟨rfl, hw1⟩ := hw
    show W _ _ _ _ _ _ _ _ _ _ _ _ _ _ _ (F0 m 7 ls [.long (ts_near (V r)), .int (nI 0), .ref ou])
    refine va_last (D := D) hx hb hK hP hD hS 24 0 rfl rfl (vp_in_nI (by decide) (by decide)) d_L_nearest_7 (fun H locs hP hD hS => ?_)
    rw [nI_clamp (n := 0) (by decide)] at hP hD
    have hP : va_P D vwCl (ts_w cL cA o sA w a fa ++ [(ou, .inl (cL, 1, .inr (.inl (vp_updL g 0 (ts_near (V r))))))]) H := hP
    have hD : va_D A (ts_w cL cA o sA w a fa ++ [(ou, .inl (cL, 1, .inr (.inl (vp_updL g 0 (ts_near (V r))))))]) := hD
    refine lv_goto (tgt := 14) hx hb d_L_nearest_8 (by decide) ?_
    refine lv_iconst (v := 0) hx hb d_L_nearest_14 (by decide) ?_
    refine W.widen (k := 1) (n := 6) (Nat.le_of_ble_eq_true rfl) (Nat.le_of_ble_eq_true rfl) ?_
    exact W.iret (v := 0) hx hb hr (fun t ht hW => ts_ret (u := (fa, vp_updL g 0 (ts_near (V r)))) hP hD hK hS ⟨_, rfl, Or.inl ⟨r, hr8, rfl, rfl, (show vp_updL g 0 (ts_near (V r)) 0 = (ts_near (V r)) from pk_uLs)⟩, hV.keep (fun i hi => hw1 i (by omega))⟩ ht hW) hS.2.2 d_L_nearest_15
  · refine lv_aload_n hx hb d_L_nearest_0 rfl (lv_at hl 2 rfl) ?_
    refine lv_iconst (v := (nI 0)) hx hb d_L_nearest_1 (by decide) ?_
    refine lv_aload_n hx hb d_L_nearest_2 rfl (lv_at hl 0 rfl) ?_
    refine lv_iload_n hx hb d_L_nearest_3 rfl (lv_at hl 1 rfl) ?_
    refine ts_callXZ (z := [(ou, .inl (cL, 1, .inr (.inl g)))]) (rest := [.int (nI 0), .ref ou]) (g := fun _ => f) ⟨hx, hb, hml, hown, hts⟩ (cx_T_nearest l hl0 D cL cA cI cZ o sA w a f x hbad _) (cwV 1 hts g_L_nearest_xT_nearest rfl rfl rfl (by decide +kernel) ⟨Nat.le_of_ble_eq_true rfl, Nat.le_of_ble_eq_true rfl⟩) hK hKX hP hD hS hA hl.1 rfl rfl (Nat.le_of_ble_eq_true rfl) d_L_nearest_4 ⟨Nat.le_of_ble_eq_true rfl, Nat.le_of_ble_eq_true rfl⟩ (fun ce q9 _u H locs hpx hP hD hS hce hcv hcl => ?_)
    refine vx_catch (own := R_L) (name := ts_IO) (E := ts_IO) hown [] ⟨0, 8, 11, 13⟩ [] (by rw [htab]; rfl) (fun z hz => absurd hz List.not_mem_nil) (by decide) (by decide) (hts (.classLink R_L 13 ts_IO) (by decide +kernel)) (ts_castX hKX.2).1 hce hcv hcl ?_
    show W _ _ _ _ _ _ _ _ _ _ _ _ _ _ _ (F0 m 11 ls [.ref q9])
    refine lv_astore_n (lv' := [(3, .ref q9), (0, .ref o), (1, .int x), (2, .ref ou)]) hx hb d_L_nearest_11 rfl hl (by decide) rfl (fun ls hl => ?_)
    refine lv_iconst (v := 1) hx hb d_L_nearest_12 (by decide) ?_
    refine W.widen (k := 1) (n := 6) (Nat.le_of_ble_eq_true rfl) (Nat.le_of_ble_eq_true rfl) ?_
    exact W.iret (v := 1) hx hb hr (fun t ht hW => ts_ret (u := (f, g)) hP hD hK hS ⟨_, rfl, Or.inr ⟨hbad, rfl⟩, hV⟩ ht hW) hS.2.2 d_L_nearest_13

