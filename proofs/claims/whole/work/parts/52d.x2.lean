set_option maxHeartbeats 4000000 in
set_option maxRecDepth 100000 in
theorem cx_T_compare (l : Launch) (hl0 : l.stackTraces = false) (D : va_G) (cL cA cI cZ : ClassId) (o sA : Nat) (w a : Nat → Nat) (f : Nat → Nat → Int64) (x y : Int32) (hbad : ts_bad x ∨ ((∃ r, r < 8 ∧ x = nI r) ∧ ts_bad y)) (sz : Nat) : vx_Met l y_T_compare wx_T_compare ({ frames := 7, cells := 1, slots := 6, locals := 130 }) (va_Pc [.ref o, .int x, .int y] (fun U => ts_A D vwCl (ts_ty cL cA cI cZ) (ts_w cL cA o sA w a f) sz U ∧ ts_KX (va_A (ts_w cL cA o sA w a f) sz) U)) (fun _ _ _ _ => False) (ts_X ts_IO (fun (u : Unit) => True) (fun u => ts_B D vwCl (ts_ty cL cA cI cZ) (va_A (ts_w cL cA o sA w a f) sz) ((ts_w cL cA o sA w a f))) (va_A (ts_w cL cA o sA w a f) sz)) 1 6 (va_A (ts_w cL cA o sA w a f) sz) := by
  refine ts_metX (cc := b_T_compare) (maxL := 5) (ret := (some .int)) (by decide) rfl (Nat.le_of_ble_eq_true rfl) ?_
  intro p e s m below meth c hx hb hr hml hown hts hlocks hE A hA hAe hKX hK hP hD hS hsz ls hl
  have hown : s.vm.findClass R_T = some m.cls := hown
  have hl : lv_has ls 5 [(0, .ref o), (1, .int x), (2, .int y)] := hl
  have hP : va_P D vwCl (ts_w cL cA o sA w a f) s.heap := hP
  have hD : va_D A (ts_w cL cA o sA w a f) := hD
  rcases hbad with hbad | ⟨⟨r, hr8, rfl⟩, hbad⟩
  · refine lv_aload_n hx hb d_T_compare_0 rfl (lv_at hl 0 rfl) ?_
    refine lv_iload_n hx hb d_T_compare_1 rfl (lv_at hl 1 rfl) ?_
    refine ts_callXT (rest := []) (g := fun _ => f) ⟨hx, hb, hml, hown, hts⟩ (cx_T_sumAt l hl0 D cL cA cI cZ o sA w a f x hbad _) (cwV 1 hts g_xT_compare_xT_sumAt rfl rfl rfl (by decide +kernel) ⟨Nat.le_of_ble_eq_true rfl, Nat.le_of_ble_eq_true rfl⟩) hK hKX hP hD hS hA hl.1 rfl rfl (Nat.le_of_ble_eq_true rfl) d_T_compare_2 ⟨Nat.le_of_ble_eq_true rfl, Nat.le_of_ble_eq_true rfl⟩ (fun ce q9 u H locs hpx hP hD hS hce hcv hcl => ?_)
    exact ts_outX (u := ()) hE hlocks hce hcv hcl hK hP hD hS trivial (Nat.le_of_ble_eq_true rfl) (Nat.le_of_ble_eq_true rfl)
  · have hl : lv_has ls 5 [(0, .ref o), (1, .int (nI r)), (2, .int y)] := hl
    refine lv_aload_n hx hb d_T_compare_0 rfl (lv_at hl 0 rfl) ?_
    refine lv_iload_n hx hb d_T_compare_1 rfl (lv_at hl 1 rfl) ?_
    refine ts_callTT (rest := []) (g := fun _ => f) ⟨hx, hb, hml, hown, hts⟩ (c_T_sumAt l D cL cA cI cZ o sA w a f r hr8 _) (cwV 1 hts g_xT_compare_T_sumAt rfl rfl rfl (by decide +kernel) ⟨Nat.le_of_ble_eq_true rfl, Nat.le_of_ble_eq_true rfl⟩) hK hP hD hS hA hl.1 rfl rfl (Nat.le_of_ble_eq_true rfl) d_T_compare_2 ⟨Nat.zero_le _, Nat.zero_le _⟩ (fun v u H locs hw hP hD hS => ?_)
    obtain rfl := hw
    show W _ _ _ _ _ _ _ _ _ _ _ _ _ _ _ (F0 m 5 ls [.ref (w r)])
    refine lv_astore_n (lv' := [(3, .ref (w r)), (0, .ref o), (1, .int (nI r)), (2, .int y)]) hx hb d_T_compare_5 rfl hl (by decide) rfl (fun ls hl => ?_)
    refine lv_aload_n hx hb d_T_compare_6 rfl (lv_at hl 1 rfl) ?_
    refine lv_iload_n hx hb d_T_compare_7 rfl (lv_at hl 3 rfl) ?_
    refine ts_callXT (rest := []) (g := fun _ => f) ⟨hx, hb, hml, hown, hts⟩ (cx_T_sumAt l hl0 D cL cA cI cZ o sA w a f y hbad _) (cwV 1 hts g_xT_compare_xT_sumAt rfl rfl rfl (by decide +kernel) ⟨Nat.le_of_ble_eq_true rfl, Nat.le_of_ble_eq_true rfl⟩) hK hKX hP hD hS hA hl.1 rfl rfl (Nat.le_of_ble_eq_true rfl) d_T_compare_8 ⟨Nat.le_of_ble_eq_true rfl, Nat.le_of_ble_eq_true rfl⟩ (fun ce q9 u H locs hpx hP hD hS hce hcv hcl => ?_)
    exact ts_outX (u := ()) hE hlocks hce hcv hcl hK hP hD hS trivial (Nat.le_of_ble_eq_true rfl) (Nat.le_of_ble_eq_true rfl)

set_option maxHeartbeats 4000000 in
set_option maxRecDepth 100000 in
theorem cx_T_compareSizes (l : Launch) (hl0 : l.stackTraces = false) (D : va_G) (cL cA cI cZ : ClassId) (o sA : Nat) (w a : Nat → Nat) (f : Nat → Nat → Int64) (x y : Int32) (hbad : ts_bad x ∨ ((∃ r, r < 8 ∧ x = nI r) ∧ ts_bad y)) (sz : Nat) : vx_Met l y_T_compareSizes wx_T_compareSizes ({ frames := 7, cells := 1, slots := 6, locals := 130 }) (va_Pc [.ref o, .int x, .int y] (fun U => ts_A D vwCl (ts_ty cL cA cI cZ) (ts_w cL cA o sA w a f) sz U ∧ ts_KX (va_A (ts_w cL cA o sA w a f) sz) U)) (fun _ _ _ _ => False) (ts_X ts_IO (fun (u : Unit) => True) (fun u => ts_B D vwCl (ts_ty cL cA cI cZ) (va_A (ts_w cL cA o sA w a f) sz) ((ts_w cL cA o sA w a f))) (va_A (ts_w cL cA o sA w a f) sz)) 1 6 (va_A (ts_w cL cA o sA w a f) sz) := by
  refine ts_metX (cc := b_T_compareSizes) (maxL := 6) (ret := (some .int)) (by decide) rfl (Nat.le_of_ble_eq_true rfl) ?_
  intro p e s m below meth c hx hb hr hml hown hts hlocks hE A hA hAe hKX hK hP hD hS hsz ls hl
  have hown : s.vm.findClass R_T = some m.cls := hown
  have hl : lv_has ls 6 [(0, .ref o), (1, .int x), (2, .int y)] := hl
  have hP : va_P D vwCl (ts_w cL cA o sA w a f) s.heap := hP
  have hD : va_D A (ts_w cL cA o sA w a f) := hD
  rcases hbad with hbad | ⟨⟨r, hr8, rfl⟩, hbad⟩
  · refine lv_aload_n hx hb d_T_compareSizes_0 rfl (lv_at hl 0 rfl) ?_
    refine lv_iload_n hx hb d_T_compareSizes_1 rfl (lv_at hl 1 rfl) ?_
    refine ts_callXT (rest := []) (g := fun _ => f) ⟨hx, hb, hml, hown, hts⟩ (cx_T_sumAt l hl0 D cL cA cI cZ o sA w a f x hbad _) (cwV 1 hts g_xT_compareSizes_xT_sumAt rfl rfl rfl (by decide +kernel) ⟨Nat.le_of_ble_eq_true rfl, Nat.le_of_ble_eq_true rfl⟩) hK hKX hP hD hS hA hl.1 rfl rfl (Nat.le_of_ble_eq_true rfl) d_T_compareSizes_2 ⟨Nat.le_of_ble_eq_true rfl, Nat.le_of_ble_eq_true rfl⟩ (fun ce q9 u H locs hpx hP hD hS hce hcv hcl => ?_)
    exact ts_outX (u := ()) hE hlocks hce hcv hcl hK hP hD hS trivial (Nat.le_of_ble_eq_true rfl) (Nat.le_of_ble_eq_true rfl)
  · have hl : lv_has ls 6 [(0, .ref o), (1, .int (nI r)), (2, .int y)] := hl
    refine lv_aload_n hx hb d_T_compareSizes_0 rfl (lv_at hl 0 rfl) ?_
    refine lv_iload_n hx hb d_T_compareSizes_1 rfl (lv_at hl 1 rfl) ?_
    refine ts_callTT (rest := []) (g := fun _ => f) ⟨hx, hb, hml, hown, hts⟩ (c_T_sumAt l D cL cA cI cZ o sA w a f r hr8 _) (cwV 1 hts g_xT_compareSizes_T_sumAt rfl rfl rfl (by decide +kernel) ⟨Nat.le_of_ble_eq_true rfl, Nat.le_of_ble_eq_true rfl⟩) hK hP hD hS hA hl.1 rfl rfl (Nat.le_of_ble_eq_true rfl) d_T_compareSizes_2 ⟨Nat.zero_le _, Nat.zero_le _⟩ (fun v u H locs hw hP hD hS => ?_)
    obtain rfl := hw
    show W _ _ _ _ _ _ _ _ _ _ _ _ _ _ _ (F0 m 5 ls [.ref (w r)])
    refine lv_astore_n (lv' := [(3, .ref (w r)), (0, .ref o), (1, .int (nI r)), (2, .int y)]) hx hb d_T_compareSizes_5 rfl hl (by decide) rfl (fun ls hl => ?_)
    refine lv_aload_n hx hb d_T_compareSizes_6 rfl (lv_at hl 1 rfl) ?_
    refine lv_iload_n hx hb d_T_compareSizes_7 rfl (lv_at hl 3 rfl) ?_
    refine ts_callXT (rest := []) (g := fun _ => f) ⟨hx, hb, hml, hown, hts⟩ (cx_T_sumAt l hl0 D cL cA cI cZ o sA w a f y hbad _) (cwV 1 hts g_xT_compareSizes_xT_sumAt rfl rfl rfl (by decide +kernel) ⟨Nat.le_of_ble_eq_true rfl, Nat.le_of_ble_eq_true rfl⟩) hK hKX hP hD hS hA hl.1 rfl rfl (Nat.le_of_ble_eq_true rfl) d_T_compareSizes_8 ⟨Nat.le_of_ble_eq_true rfl, Nat.le_of_ble_eq_true rfl⟩ (fun ce q9 u H locs hpx hP hD hS hce hcv hcl => ?_)
    exact ts_outX (u := ()) hE hlocks hce hcv hcl hK hP hD hS trivial (Nat.le_of_ble_eq_true rfl) (Nat.le_of_ble_eq_true rfl)

set_option maxHeartbeats 4000000 in
set_option maxRecDepth 100000 in
theorem cx_T_plus (l : Launch) (hl0 : l.stackTraces = false) (D : va_G) (cL cA cI cZ : ClassId) (o sA : Nat) (w a : Nat → Nat) (f : Nat → Nat → Int64) (x y : Int32) (t : Int32) (hbad : ts_bad x ∨ ((∃ r, r < 8 ∧ x = nI r) ∧ ts_bad y)) (sz : Nat) : vx_Met l y_T_plus wx_T_plus ({ frames := 7, cells := 1, slots := 6, locals := 130 }) (va_Pc [.ref o, .int x, .int y, .int t] (fun U => ts_A D vwCl (ts_ty cL cA cI cZ) (ts_w cL cA o sA w a f) sz U ∧ ts_KX (va_A (ts_w cL cA o sA w a f) sz) U)) (fun _ _ _ _ => False) (ts_X ts_IO (fun (u : Unit) => True) (fun u => ts_B D vwCl (ts_ty cL cA cI cZ) (va_A (ts_w cL cA o sA w a f) sz) ((ts_w cL cA o sA w a f))) (va_A (ts_w cL cA o sA w a f) sz)) 1 6 (va_A (ts_w cL cA o sA w a f) sz) := by
  refine ts_metX (cc := b_T_plus) (maxL := 6) (ret := none) (by decide) rfl (Nat.le_of_ble_eq_true rfl) ?_
  intro p e s m below meth c hx hb hr hml hown hts hlocks hE A hA hAe hKX hK hP hD hS hsz ls hl
  have hown : s.vm.findClass R_T = some m.cls := hown
  have hl : lv_has ls 6 [(0, .ref o), (1, .int x), (2, .int y), (3, .int t)] := hl
  have hP : va_P D vwCl (ts_w cL cA o sA w a f) s.heap := hP
  have hD : va_D A (ts_w cL cA o sA w a f) := hD
  rcases hbad with hbad | ⟨⟨r, hr8, rfl⟩, hbad⟩
  · refine lv_aload_n hx hb d_T_plus_0 rfl (lv_at hl 0 rfl) ?_
    refine lv_iload_n hx hb d_T_plus_1 rfl (lv_at hl 1 rfl) ?_
    refine ts_callXT (rest := []) (g := fun _ => f) ⟨hx, hb, hml, hown, hts⟩ (cx_T_sumAt l hl0 D cL cA cI cZ o sA w a f x hbad _) (cwV 1 hts g_xT_plus_xT_sumAt rfl rfl rfl (by decide +kernel) ⟨Nat.le_of_ble_eq_true rfl, Nat.le_of_ble_eq_true rfl⟩) hK hKX hP hD hS hA hl.1 rfl rfl (Nat.le_of_ble_eq_true rfl) d_T_plus_2 ⟨Nat.le_of_ble_eq_true rfl, Nat.le_of_ble_eq_true rfl⟩ (fun ce q9 u H locs hpx hP hD hS hce hcv hcl => ?_)
    exact ts_outX (u := ()) hE hlocks hce hcv hcl hK hP hD hS trivial (Nat.le_of_ble_eq_true rfl) (Nat.le_of_ble_eq_true rfl)
  · have hl : lv_has ls 6 [(0, .ref o), (1, .int (nI r)), (2, .int y), (3, .int t)] := hl
    refine lv_aload_n hx hb d_T_plus_0 rfl (lv_at hl 0 rfl) ?_
    refine lv_iload_n hx hb d_T_plus_1 rfl (lv_at hl 1 rfl) ?_
    refine ts_callTT (rest := []) (g := fun _ => f) ⟨hx, hb, hml, hown, hts⟩ (c_T_sumAt l D cL cA cI cZ o sA w a f r hr8 _) (cwV 1 hts g_xT_plus_T_sumAt rfl rfl rfl (by decide +kernel) ⟨Nat.le_of_ble_eq_true rfl, Nat.le_of_ble_eq_true rfl⟩) hK hP hD hS hA hl.1 rfl rfl (Nat.le_of_ble_eq_true rfl) d_T_plus_2 ⟨Nat.zero_le _, Nat.zero_le _⟩ (fun v u H locs hw hP hD hS => ?_)
    obtain rfl := hw
    show W _ _ _ _ _ _ _ _ _ _ _ _ _ _ _ (F0 m 5 ls [.ref (w r)])
    refine lv_astore (lv' := [(4, .ref (w r)), (0, .ref o), (1, .int (nI r)), (2, .int y), (3, .int t)]) hx hb d_T_plus_5 hl (by decide) rfl (fun ls hl => ?_)
    refine lv_aload_n hx hb d_T_plus_7 rfl (lv_at hl 1 rfl) ?_
    refine lv_iload_n hx hb d_T_plus_8 rfl (lv_at hl 3 rfl) ?_
    refine ts_callXT (rest := []) (g := fun _ => f) ⟨hx, hb, hml, hown, hts⟩ (cx_T_sumAt l hl0 D cL cA cI cZ o sA w a f y hbad _) (cwV 1 hts g_xT_plus_xT_sumAt rfl rfl rfl (by decide +kernel) ⟨Nat.le_of_ble_eq_true rfl, Nat.le_of_ble_eq_true rfl⟩) hK hKX hP hD hS hA hl.1 rfl rfl (Nat.le_of_ble_eq_true rfl) d_T_plus_9 ⟨Nat.le_of_ble_eq_true rfl, Nat.le_of_ble_eq_true rfl⟩ (fun ce q9 u H locs hpx hP hD hS hce hcv hcl => ?_)
    exact ts_outX (u := ()) hE hlocks hce hcv hcl hK hP hD hS trivial (Nat.le_of_ble_eq_true rfl) (Nat.le_of_ble_eq_true rfl)

set_option maxHeartbeats 4000000 in
set_option maxRecDepth 100000 in
theorem cx_T_addA (l : Launch) (hl0 : l.stackTraces = false) (D : va_G) (cL cA cI cZ : ClassId) (o sA : Nat) (w a : Nat → Nat) (f : Nat → Nat → Int64) (r : Nat) (x y z : Int64) (t : Int32) (hr8 : r < 8) (hbad : ¬ ts_gd x y z t) (sz : Nat) : vx_Met l y_T_add wx_T_addA ({ frames := 7, cells := 1, slots := 6, locals := 130 }) (va_Pc [.ref o, .int (nI r), .long x, .long y, .long z, .int t] (fun U => ts_A D vwCl (ts_ty cL cA cI cZ) (ts_w cL cA o sA w a f) sz U ∧ ts_KX (va_A (ts_w cL cA o sA w a f) sz) U)) (fun _ _ _ _ => False) (ts_X ts_IA (fun (u : Unit) => True) (fun u => ts_B D vwCl (ts_ty cL cA cI cZ) (va_A (ts_w cL cA o sA w a f) sz) ((ts_w cL cA o sA w a f))) (va_A (ts_w cL cA o sA w a f) sz)) 1 6 (va_A (ts_w cL cA o sA w a f) sz) := by
  refine ts_metX (cc := b_T_add) (maxL := 11) (ret := none) (by decide) rfl (Nat.le_of_ble_eq_true rfl) ?_
  intro p e s m below meth c hx hb hr hml hown hts hlocks hE A hA hAe hKX hK hP hD hS hsz ls hl
  have hown : s.vm.findClass R_T = some m.cls := hown
  have hl : lv_has ls 11 [(0, .ref o), (1, .int (nI r)), (2, .long x), (4, .long y), (6, .long z), (8, .int t)] := hl
  have hP : va_P D vwCl (ts_w cL cA o sA w a f) s.heap := hP
  have hD : va_D A (ts_w cL cA o sA w a f) := hD
  refine lv_aload_n hx hb d_T_add_0 rfl (lv_at hl 0 rfl) ?_
  refine lv_iload_n hx hb d_T_add_1 rfl (lv_at hl 1 rfl) ?_
  refine ts_callTT (rest := []) (g := fun _ => f) ⟨hx, hb, hml, hown, hts⟩ (c_T_sumAt l D cL cA cI cZ o sA w a f r hr8 _) (cwV 1 hts g_xT_addA_T_sumAt rfl rfl rfl (by decide +kernel) ⟨Nat.le_of_ble_eq_true rfl, Nat.le_of_ble_eq_true rfl⟩) hK hP hD hS hA hl.1 rfl rfl (Nat.le_of_ble_eq_true rfl) d_T_add_2 ⟨Nat.zero_le _, Nat.zero_le _⟩ (fun v u H locs hw hP hD hS => ?_)
  obtain rfl := hw
  show W _ _ _ _ _ _ _ _ _ _ _ _ _ _ _ (F0 m 5 ls [.ref (w r)])
  refine lv_astore (lv' := [(9, .ref (w r)), (0, .ref o), (1, .int (nI r)), (2, .long x), (4, .long y), (6, .long z), (8, .int t)]) hx hb d_T_add_5 hl (by decide) rfl (fun ls hl => ?_)
  refine lv_lload_n hx hb d_T_add_7 rfl (lv_at hl 3 rfl) ?_
  by_cases hx7 : ts_e x = 2047
  · refine ts_callXS (rest := []) ⟨hx, hb, hml, hown, hts⟩ (cx_T_refuseUnlessFinite l hl0 D cL cA cI cZ x hx7 _) (va_cwS 1 hts g_xT_addA_xT_refuseUnlessFinite rfl rfl rfl (by decide +kernel) ⟨Nat.le_of_ble_eq_true rfl, Nat.le_of_ble_eq_true rfl⟩) hK hKX hP hD hS hA hl.1 [] (by decide) rfl (fun u => rfl) rfl rfl (Nat.le_of_ble_eq_true rfl) d_T_add_8 ⟨Nat.le_of_ble_eq_true rfl, Nat.le_of_ble_eq_true rfl⟩ (fun ce q9 u H locs hpx hP hD hS hce hcv hcl => ?_)
    have hP : va_P D vwCl (ts_w cL cA o sA w a f) H := hP
    have hD : va_D A (ts_w cL cA o sA w a f) := hD
    exact ts_outX (u := ()) hE hlocks hce hcv hcl hK hP hD hS trivial (Nat.le_of_ble_eq_true rfl) (Nat.le_of_ble_eq_true rfl)
  · refine ts_callS (rest := []) ⟨hx, hb, hml, hown, hts⟩ (c_T_refuseUnlessFinite l D cL cA cI cZ x hx7 _) (va_cwS 1 hts g_xT_addA_T_refuseUnlessFinite rfl rfl rfl (by decide +kernel) ⟨Nat.le_of_ble_eq_true rfl, Nat.le_of_ble_eq_true rfl⟩) hK hP hD hS hA hl.1 [] (by decide) rfl (fun u => rfl) rfl rfl (Nat.le_of_ble_eq_true rfl) d_T_add_8 ⟨Nat.zero_le _, Nat.zero_le _⟩ (fun v u H locs hw hP hD hS => ?_)
    have hP : va_P D vwCl (ts_w cL cA o sA w a f) H := hP
    have hD : va_D A (ts_w cL cA o sA w a f) := hD
    obtain rfl := hw
    show W _ _ _ _ _ _ _ _ _ _ _ _ _ _ _ (F0 m 11 ls [])
    refine lv_lload hx hb d_T_add_11 (lv_at hl 4 rfl) ?_
    by_cases hy : ts_e y = 2047
    · refine ts_callXS (rest := []) ⟨hx, hb, hml, hown, hts⟩ (cx_T_refuseUnlessFinite l hl0 D cL cA cI cZ y hy _) (va_cwS 1 hts g_xT_addA_xT_refuseUnlessFinite rfl rfl rfl (by decide +kernel) ⟨Nat.le_of_ble_eq_true rfl, Nat.le_of_ble_eq_true rfl⟩) hK hKX hP hD hS hA hl.1 [] (by decide) rfl (fun u => rfl) rfl rfl (Nat.le_of_ble_eq_true rfl) d_T_add_13 ⟨Nat.le_of_ble_eq_true rfl, Nat.le_of_ble_eq_true rfl⟩ (fun ce q9 u H locs hpx hP hD hS hce hcv hcl => ?_)
      have hP : va_P D vwCl (ts_w cL cA o sA w a f) H := hP
      have hD : va_D A (ts_w cL cA o sA w a f) := hD
      exact ts_outX (u := ()) hE hlocks hce hcv hcl hK hP hD hS trivial (Nat.le_of_ble_eq_true rfl) (Nat.le_of_ble_eq_true rfl)
    · refine ts_callS (rest := []) ⟨hx, hb, hml, hown, hts⟩ (c_T_refuseUnlessFinite l D cL cA cI cZ y hy _) (va_cwS 1 hts g_xT_addA_T_refuseUnlessFinite rfl rfl rfl (by decide +kernel) ⟨Nat.le_of_ble_eq_true rfl, Nat.le_of_ble_eq_true rfl⟩) hK hP hD hS hA hl.1 [] (by decide) rfl (fun u => rfl) rfl rfl (Nat.le_of_ble_eq_true rfl) d_T_add_13 ⟨Nat.zero_le _, Nat.zero_le _⟩ (fun v u H locs hw hP hD hS => ?_)
      have hP : va_P D vwCl (ts_w cL cA o sA w a f) H := hP
      have hD : va_D A (ts_w cL cA o sA w a f) := hD
      obtain rfl := hw
      show W _ _ _ _ _ _ _ _ _ _ _ _ _ _ _ (F0 m 16 ls [])
      refine lv_lload hx hb d_T_add_16 (lv_at hl 5 rfl) ?_
      by_cases hz : ts_e z = 2047
      · refine ts_callXS (rest := []) ⟨hx, hb, hml, hown, hts⟩ (cx_T_refuseUnlessFinite l hl0 D cL cA cI cZ z hz _) (va_cwS 1 hts g_xT_addA_xT_refuseUnlessFinite rfl rfl rfl (by decide +kernel) ⟨Nat.le_of_ble_eq_true rfl, Nat.le_of_ble_eq_true rfl⟩) hK hKX hP hD hS hA hl.1 [] (by decide) rfl (fun u => rfl) rfl rfl (Nat.le_of_ble_eq_true rfl) d_T_add_18 ⟨Nat.le_of_ble_eq_true rfl, Nat.le_of_ble_eq_true rfl⟩ (fun ce q9 u H locs hpx hP hD hS hce hcv hcl => ?_)
        have hP : va_P D vwCl (ts_w cL cA o sA w a f) H := hP
        have hD : va_D A (ts_w cL cA o sA w a f) := hD
        exact ts_outX (u := ()) hE hlocks hce hcv hcl hK hP hD hS trivial (Nat.le_of_ble_eq_true rfl) (Nat.le_of_ble_eq_true rfl)
      · refine ts_callS (rest := []) ⟨hx, hb, hml, hown, hts⟩ (c_T_refuseUnlessFinite l D cL cA cI cZ z hz _) (va_cwS 1 hts g_xT_addA_T_refuseUnlessFinite rfl rfl rfl (by decide +kernel) ⟨Nat.le_of_ble_eq_true rfl, Nat.le_of_ble_eq_true rfl⟩) hK hP hD hS hA hl.1 [] (by decide) rfl (fun u => rfl) rfl rfl (Nat.le_of_ble_eq_true rfl) d_T_add_18 ⟨Nat.zero_le _, Nat.zero_le _⟩ (fun v u H locs hw hP hD hS => ?_)
        have hP : va_P D vwCl (ts_w cL cA o sA w a f) H := hP
        have hD : va_D A (ts_w cL cA o sA w a f) := hD
        obtain rfl := hw
        show W _ _ _ _ _ _ _ _ _ _ _ _ _ _ _ (F0 m 21 ls [])
        refine lv_iload hx hb d_T_add_21 (lv_at hl 6 rfl) ?_
        refine ts_callXS (rest := []) ⟨hx, hb, hml, hown, hts⟩ (cx_T_refuseUnlessInRange l hl0 D cL cA cI cZ t (fun q => hbad ⟨hx7, hy, hz, q⟩) _) (va_cwS 1 hts g_xT_addA_xT_refuseUnlessInRange rfl rfl rfl (by decide +kernel) ⟨Nat.le_of_ble_eq_true rfl, Nat.le_of_ble_eq_true rfl⟩) hK hKX hP hD hS hA hl.1 [] (by decide) rfl (fun u => rfl) rfl rfl (Nat.le_of_ble_eq_true rfl) d_T_add_23 ⟨Nat.le_of_ble_eq_true rfl, Nat.le_of_ble_eq_true rfl⟩ (fun ce q9 u H locs hpx hP hD hS hce hcv hcl => ?_)
        have hP : va_P D vwCl (ts_w cL cA o sA w a f) H := hP
        have hD : va_D A (ts_w cL cA o sA w a f) := hD
        exact ts_outX (u := ()) hE hlocks hce hcv hcl hK hP hD hS trivial (Nat.le_of_ble_eq_true rfl) (Nat.le_of_ble_eq_true rfl)

set_option maxHeartbeats 4000000 in
set_option maxRecDepth 100000 in
theorem cx_T_plusA (l : Launch) (hl0 : l.stackTraces = false) (D : va_G) (cL cA cI cZ : ClassId) (o sA : Nat) (w a : Nat → Nat) (f : Nat → Nat → Int64) (r q : Nat) (t : Int32) (hr8 : r < 8) (hq8 : q < 8) (hbad : ¬ (-1000000 ≤ t.toInt ∧ t.toInt ≤ 1000000)) (sz : Nat) : vx_Met l y_T_plus wx_T_plusA ({ frames := 7, cells := 1, slots := 6, locals := 130 }) (va_Pc [.ref o, .int (nI r), .int (nI q), .int t] (fun U => ts_A D vwCl (ts_ty cL cA cI cZ) (ts_w cL cA o sA w a f) sz U ∧ ts_KX (va_A (ts_w cL cA o sA w a f) sz) U)) (fun _ _ _ _ => False) (ts_X ts_IA (fun (u : Unit) => True) (fun u => ts_B D vwCl (ts_ty cL cA cI cZ) (va_A (ts_w cL cA o sA w a f) sz) ((ts_w cL cA o sA w a f))) (va_A (ts_w cL cA o sA w a f) sz)) 1 6 (va_A (ts_w cL cA o sA w a f) sz) := by
  refine ts_metX (cc := b_T_plus) (maxL := 6) (ret := none) (by decide) rfl (Nat.le_of_ble_eq_true rfl) ?_
  intro p e s m below meth c hx hb hr hml hown hts hlocks hE A hA hAe hKX hK hP hD hS hsz ls hl
  have hown : s.vm.findClass R_T = some m.cls := hown
  have hl : lv_has ls 6 [(0, .ref o), (1, .int (nI r)), (2, .int (nI q)), (3, .int t)] := hl
  have hP : va_P D vwCl (ts_w cL cA o sA w a f) s.heap := hP
  have hD : va_D A (ts_w cL cA o sA w a f) := hD
  refine lv_aload_n hx hb d_T_plus_0 rfl (lv_at hl 0 rfl) ?_
  refine lv_iload_n hx hb d_T_plus_1 rfl (lv_at hl 1 rfl) ?_
  refine ts_callTT (rest := []) (g := fun _ => f) ⟨hx, hb, hml, hown, hts⟩ (c_T_sumAt l D cL cA cI cZ o sA w a f r hr8 _) (cwV 1 hts g_xT_plusA_T_sumAt rfl rfl rfl (by decide +kernel) ⟨Nat.le_of_ble_eq_true rfl, Nat.le_of_ble_eq_true rfl⟩) hK hP hD hS hA hl.1 rfl rfl (Nat.le_of_ble_eq_true rfl) d_T_plus_2 ⟨Nat.zero_le _, Nat.zero_le _⟩ (fun v u H locs hw hP hD hS => ?_)
  obtain rfl := hw
  show W _ _ _ _ _ _ _ _ _ _ _ _ _ _ _ (F0 m 5 ls [.ref (w r)])
  refine lv_astore (lv' := [(4, .ref (w r)), (0, .ref o), (1, .int (nI r)), (2, .int (nI q)), (3, .int t)]) hx hb d_T_plus_5 hl (by decide) rfl (fun ls hl => ?_)
  refine lv_aload_n hx hb d_T_plus_7 rfl (lv_at hl 1 rfl) ?_
  refine lv_iload_n hx hb d_T_plus_8 rfl (lv_at hl 3 rfl) ?_
  refine ts_callTT (rest := []) (g := fun _ => f) ⟨hx, hb, hml, hown, hts⟩ (c_T_sumAt l D cL cA cI cZ o sA w a f q hq8 _) (cwV 1 hts g_xT_plusA_T_sumAt rfl rfl rfl (by decide +kernel) ⟨Nat.le_of_ble_eq_true rfl, Nat.le_of_ble_eq_true rfl⟩) hK hP hD hS hA hl.1 rfl rfl (Nat.le_of_ble_eq_true rfl) d_T_plus_9 ⟨Nat.zero_le _, Nat.zero_le _⟩ (fun v u H locs hw hP hD hS => ?_)
  obtain rfl := hw
  show W _ _ _ _ _ _ _ _ _ _ _ _ _ _ _ (F0 m 12 ls [.ref (w q)])
  refine lv_astore (lv' := [(5, .ref (w q)), (4, .ref (w r)), (0, .ref o), (1, .int (nI r)), (2, .int (nI q)), (3, .int t)]) hx hb d_T_plus_12 hl (by decide) rfl (fun ls hl => ?_)
  refine lv_iload_n hx hb d_T_plus_14 rfl (lv_at hl 5 rfl) ?_
  refine ts_callXS (rest := []) ⟨hx, hb, hml, hown, hts⟩ (cx_T_refuseUnlessInRange l hl0 D cL cA cI cZ t hbad _) (va_cwS 1 hts g_xT_plusA_xT_refuseUnlessInRange rfl rfl rfl (by decide +kernel) ⟨Nat.le_of_ble_eq_true rfl, Nat.le_of_ble_eq_true rfl⟩) hK hKX hP hD hS hA hl.1 [] (by decide) rfl (fun u => rfl) rfl rfl (Nat.le_of_ble_eq_true rfl) d_T_plus_15 ⟨Nat.le_of_ble_eq_true rfl, Nat.le_of_ble_eq_true rfl⟩ (fun ce q9 u H locs hpx hP hD hS hce hcv hcl => ?_)
  have hP : va_P D vwCl (ts_w cL cA o sA w a f) H := hP
  have hD : va_D A (ts_w cL cA o sA w a f) := hD
  exact ts_outX (u := ()) hE hlocks hce hcv hcl hK hP hD hS trivial (Nat.le_of_ble_eq_true rfl) (Nat.le_of_ble_eq_true rfl)

