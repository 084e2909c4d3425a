set_option maxHeartbeats 4000000 in
set_option maxRecDepth 100000 in
theorem cx_T_clear (l : Launch) (hl0 : l.stackTraces = false) (D : va_G) (cL cA cI cZ : ClassId) (o sA : Nat) (w a : Nat → Nat) (f : Nat → Nat → Int64) (x : Int32) (hbad : ts_bad x) (sz : Nat) : vx_Met l y_T_clear wx_T_clear ({ frames := 7, cells := 1, slots := 6, locals := 130 }) (va_Pc [.ref o, .int x] (fun U => ts_A D vwCl (ts_ty cL cA cI cZ) (ts_w cL cA o sA w a f) sz U ∧ ts_KX (va_A (ts_w cL cA o sA w a f) sz) U)) (fun _ _ _ _ => False) (ts_X ts_IO (fun (u : Unit) => True) (fun u => ts_B D vwCl (ts_ty cL cA cI cZ) (va_A (ts_w cL cA o sA w a f) sz) ((ts_w cL cA o sA w a f))) (va_A (ts_w cL cA o sA w a f) sz)) 1 6 (va_A (ts_w cL cA o sA w a f) sz) := by
  refine ts_metX (cc := b_T_clear) (maxL := 2) (ret := none) (by decide) rfl (Nat.le_of_ble_eq_true rfl) ?_
  intro p e s m below meth c hx hb hr hml hown hts hlocks hE A hA hAe hKX hK hP hD hS hsz ls hl
  have hown : s.vm.findClass R_T = some m.cls := hown
  have hl : lv_has ls 2 [(0, .ref o), (1, .int x)] := hl
  have hP : va_P D vwCl (ts_w cL cA o sA w a f) s.heap := hP
  have hD : va_D A (ts_w cL cA o sA w a f) := hD
  refine lv_aload_n hx hb d_T_clear_0 rfl (lv_at hl 0 rfl) ?_
  refine lv_iload_n hx hb d_T_clear_1 rfl (lv_at hl 1 rfl) ?_
  refine ts_callXT (rest := []) (g := fun _ => f) ⟨hx, hb, hml, hown, hts⟩ (cx_T_sumAt l hl0 D cL cA cI cZ o sA w a f x hbad _) (cwV 1 hts g_xT_clear_xT_sumAt rfl rfl rfl (by decide +kernel) ⟨Nat.le_of_ble_eq_true rfl, Nat.le_of_ble_eq_true rfl⟩) hK hKX hP hD hS hA hl.1 rfl rfl (Nat.le_of_ble_eq_true rfl) d_T_clear_2 ⟨Nat.le_of_ble_eq_true rfl, Nat.le_of_ble_eq_true rfl⟩ (fun ce q9 u H locs hpx hP hD hS hce hcv hcl => ?_)
  exact ts_outX (u := ()) hE hlocks hce hcv hcl hK hP hD hS trivial (Nat.le_of_ble_eq_true rfl) (Nat.le_of_ble_eq_true rfl)

set_option maxHeartbeats 4000000 in
set_option maxRecDepth 100000 in
theorem cx_T_sign (l : Launch) (hl0 : l.stackTraces = false) (D : va_G) (cL cA cI cZ : ClassId) (o sA : Nat) (w a : Nat → Nat) (f : Nat → Nat → Int64) (x : Int32) (hbad : ts_bad x) (sz : Nat) : vx_Met l y_T_sign wx_T_sign ({ frames := 7, cells := 1, slots := 6, locals := 130 }) (va_Pc [.ref o, .int x] (fun U => ts_A D vwCl (ts_ty cL cA cI cZ) (ts_w cL cA o sA w a f) sz U ∧ ts_KX (va_A (ts_w cL cA o sA w a f) sz) U)) (fun _ _ _ _ => False) (ts_X ts_IO (fun (u : Unit) => True) (fun u => ts_B D vwCl (ts_ty cL cA cI cZ) (va_A (ts_w cL cA o sA w a f) sz) ((ts_w cL cA o sA w a f))) (va_A (ts_w cL cA o sA w a f) sz)) 1 6 (va_A (ts_w cL cA o sA w a f) sz) := by
  refine ts_metX (cc := b_T_sign) (maxL := 2) (ret := (some .int)) (by decide) rfl (Nat.le_of_ble_eq_true rfl) ?_
  intro p e s m below meth c hx hb hr hml hown hts hlocks hE A hA hAe hKX hK hP hD hS hsz ls hl
  have hown : s.vm.findClass R_T = some m.cls := hown
  have hl : lv_has ls 2 [(0, .ref o), (1, .int x)] := hl
  have hP : va_P D vwCl (ts_w cL cA o sA w a f) s.heap := hP
  have hD : va_D A (ts_w cL cA o sA w a f) := hD
  refine lv_aload_n hx hb d_T_sign_0 rfl (lv_at hl 0 rfl) ?_
  refine lv_iload_n hx hb d_T_sign_1 rfl (lv_at hl 1 rfl) ?_
  refine ts_callXT (rest := []) (g := fun _ => f) ⟨hx, hb, hml, hown, hts⟩ (cx_T_sumAt l hl0 D cL cA cI cZ o sA w a f x hbad _) (cwV 1 hts g_xT_sign_xT_sumAt rfl rfl rfl (by decide +kernel) ⟨Nat.le_of_ble_eq_true rfl, Nat.le_of_ble_eq_true rfl⟩) hK hKX hP hD hS hA hl.1 rfl rfl (Nat.le_of_ble_eq_true rfl) d_T_sign_2 ⟨Nat.le_of_ble_eq_true rfl, Nat.le_of_ble_eq_true rfl⟩ (fun ce q9 u H locs hpx hP hD hS hce hcv hcl => ?_)
  exact ts_outX (u := ()) hE hlocks hce hcv hcl hK hP hD hS trivial (Nat.le_of_ble_eq_true rfl) (Nat.le_of_ble_eq_true rfl)

set_option maxHeartbeats 4000000 in
set_option maxRecDepth 100000 in
theorem cx_T_nearest (l : Launch) (hl0 : l.stackTraces = false) (D : va_G) (cL cA cI cZ : ClassId) (o sA : Nat) (w a : Nat → Nat) (f : Nat → Nat → Int64) (x : Int32) (hbad : ts_bad x) (sz : Nat) : vx_Met l y_T_nearest wx_T_nearest ({ frames := 7, cells := 1, slots := 6, locals := 130 }) (va_Pc [.ref o, .int x] (fun U => ts_A D vwCl (ts_ty cL cA cI cZ) (ts_w cL cA o sA w a f) sz U ∧ ts_KX (va_A (ts_w cL cA o sA w a f) sz) U)) (fun _ _ _ _ => False) (ts_X ts_IO (fun (u : Unit) => True) (fun u => ts_B D vwCl (ts_ty cL cA cI cZ) (va_A (ts_w cL cA o sA w a f) sz) ((ts_w cL cA o sA w a f))) (va_A (ts_w cL cA o sA w a f) sz)) 1 6 (va_A (ts_w cL cA o sA w a f) sz) := by
  refine ts_metX (cc := b_T_nearest) (maxL := 5) (ret := (some .long)) (by decide) rfl (Nat.le_of_ble_eq_true rfl) ?_
  intro p e s m below meth c hx hb hr hml hown hts hlocks hE A hA hAe hKX hK hP hD hS hsz ls hl
  have hown : s.vm.findClass R_T = some m.cls := hown
  have hl : lv_has ls 5 [(0, .ref o), (1, .int x)] := hl
  have hP : va_P D vwCl (ts_w cL cA o sA w a f) s.heap := hP
  have hD : va_D A (ts_w cL cA o sA w a f) := hD
  refine lv_aload_n hx hb d_T_nearest_0 rfl (lv_at hl 0 rfl) ?_
  refine lv_iload_n hx hb d_T_nearest_1 rfl (lv_at hl 1 rfl) ?_
  refine ts_callXT (rest := []) (g := fun _ => f) ⟨hx, hb, hml, hown, hts⟩ (cx_T_sumAt l hl0 D cL cA cI cZ o sA w a f x hbad _) (cwV 1 hts g_xT_nearest_xT_sumAt rfl rfl rfl (by decide +kernel) ⟨Nat.le_of_ble_eq_true rfl, Nat.le_of_ble_eq_true rfl⟩) hK hKX hP hD hS hA hl.1 rfl rfl (Nat.le_of_ble_eq_true rfl) d_T_nearest_2 ⟨Nat.le_of_ble_eq_true rfl, Nat.le_of_ble_eq_true rfl⟩ (fun ce q9 u H locs hpx hP hD hS hce hcv hcl => ?_)
  exact ts_outX (u := ()) hE hlocks hce hcv hcl hK hP hD hS trivial (Nat.le_of_ble_eq_true rfl) (Nat.le_of_ble_eq_true rfl)

set_option maxHeartbeats 4000000 in
set_option maxRecDepth 100000 in
theorem cx_T_add (l : Launch) (hl0 : l.stackTraces = false) (D : va_G) (cL cA cI cZ : ClassId) (o sA : Nat) (w a : Nat → Nat) (f : Nat → Nat → Int64) (x : Int32) (y z z2 : Int64) (t : Int32) (hbad : ts_bad x) (sz : Nat) : vx_Met l y_T_add wx_T_add ({ frames := 7, cells := 1, slots := 6, locals := 130 }) (va_Pc [.ref o, .int x, .long y, .long z, .long z2, .int t] (fun U => ts_A D vwCl (ts_ty cL cA cI cZ) (ts_w cL cA o sA w a f) sz U ∧ ts_KX (va_A (ts_w cL cA o sA w a f) sz) U)) (fun _ _ _ _ => False) (ts_X ts_IO (fun (u : Unit) => True) (fun u => ts_B D vwCl (ts_ty cL cA cI cZ) (va_A (ts_w cL cA o sA w a f) sz) ((ts_w cL cA o sA w a f))) (va_A (ts_w cL cA o sA w a f) sz)) 1 6 (va_A (ts_w cL cA o sA w a f) sz) := by
  refine ts_metX (cc := b_T_add) (maxL := 11) (ret := none) (by decide) rfl (Nat.le_of_ble_eq_true rfl) ?_
  intro p e s m below meth c hx hb hr hml hown hts hlocks hE A hA hAe hKX hK hP hD hS hsz ls hl
  have hown : s.vm.findClass R_T = some m.cls := hown
  have hl : lv_has ls 11 [(0, .ref o), (1, .int x), (2, .long y), (4, .long z), (6, .long z2), (8, .int t)] := hl
  have hP : va_P D vwCl (ts_w cL cA o sA w a f) s.heap := hP
  have hD : va_D A (ts_w cL cA o sA w a f) := hD
  refine lv_aload_n hx hb d_T_add_0 rfl (lv_at hl 0 rfl) ?_
  refine lv_iload_n hx hb d_T_add_1 rfl (lv_at hl 1 rfl) ?_
  refine ts_callXT (rest := []) (g := fun _ => f) ⟨hx, hb, hml, hown, hts⟩ (cx_T_sumAt l hl0 D cL cA cI cZ o sA w a f x hbad _) (cwV 1 hts g_xT_add_xT_sumAt rfl rfl rfl (by decide +kernel) ⟨Nat.le_of_ble_eq_true rfl, Nat.le_of_ble_eq_true rfl⟩) hK hKX hP hD hS hA hl.1 rfl rfl (Nat.le_of_ble_eq_true rfl) d_T_add_2 ⟨Nat.le_of_ble_eq_true rfl, Nat.le_of_ble_eq_true rfl⟩ (fun ce q9 u H locs hpx hP hD hS hce hcv hcl => ?_)
  exact ts_outX (u := ()) hE hlocks hce hcv hcl hK hP hD hS trivial (Nat.le_of_ble_eq_true rfl) (Nat.le_of_ble_eq_true rfl)

set_option maxHeartbeats 4000000 in
set_option maxRecDepth 100000 in
theorem cx_T_top (l : Launch) (hl0 : l.stackTraces = false) (D : va_G) (cL cA cI cZ : ClassId) (o sA : Nat) (w a : Nat → Nat) (f : Nat → Nat → Int64) (x : Int32) (hbad : ts_bad x) (sz : Nat) : vx_Met l y_T_top wx_T_top ({ frames := 7, cells := 1, slots := 6, locals := 130 }) (va_Pc [.ref o, .int x] (fun U => ts_A D vwCl (ts_ty cL cA cI cZ) (ts_w cL cA o sA w a f) sz U ∧ ts_KX (va_A (ts_w cL cA o sA w a f) sz) U)) (fun _ _ _ _ => False) (ts_X ts_IO (fun (u : Unit) => True) (fun u => ts_B D vwCl (ts_ty cL cA cI cZ) (va_A (ts_w cL cA o sA w a f) sz) ((ts_w cL cA o sA w a f))) (va_A (ts_w cL cA o sA w a f) sz)) 1 6 (va_A (ts_w cL cA o sA w a f) sz) := by
  refine ts_metX (cc := b_T_top) (maxL := 2) (ret := (some .int)) (by decide) rfl (Nat.le_of_ble_eq_true rfl) ?_
  intro p e s m below meth c hx hb hr hml hown hts hlocks hE A hA hAe hKX hK hP hD hS hsz ls hl
  have hown : s.vm.findClass R_T = some m.cls := hown
  have hl : lv_has ls 2 [(0, .ref o), (1, .int x)] := hl
  have hP : va_P D vwCl (ts_w cL cA o sA w a f) s.heap := hP
  have hD : va_D A (ts_w cL cA o sA w a f) := hD
  refine lv_aload_n hx hb d_T_top_0 rfl (lv_at hl 0 rfl) ?_
  refine lv_aload_n hx hb d_T_top_1 rfl (lv_at hl 0 rfl) ?_
  refine lv_iload_n hx hb d_T_top_2 rfl (lv_at hl 1 rfl) ?_
  refine ts_callXT (rest := [.ref o]) (g := fun _ => f) ⟨hx, hb, hml, hown, hts⟩ (cx_T_sumAt l hl0 D cL cA cI cZ o sA w a f x hbad _) (cwV 1 hts g_xT_top_xT_sumAt rfl rfl rfl (by decide +kernel) ⟨Nat.le_of_ble_eq_true rfl, Nat.le_of_ble_eq_true rfl⟩) hK hKX hP hD hS hA hl.1 rfl rfl (Nat.le_of_ble_eq_true rfl) d_T_top_3 ⟨Nat.le_of_ble_eq_true rfl, Nat.le_of_ble_eq_true rfl⟩ (fun ce q9 u H locs hpx hP hD hS hce hcv hcl => ?_)
  exact ts_outX (u := ()) hE hlocks hce hcv hcl hK hP hD hS trivial (Nat.le_of_ble_eq_true rfl) (Nat.le_of_ble_eq_true rfl)

set_option maxHeartbeats 4000000 in
set_option maxRecDepth 100000 in
theorem cx_T_bottom (l : Launch) (hl0 : l.stackTraces = false) (D : va_G) (cL cA cI cZ : ClassId) (o sA : Nat) (w a : Nat → Nat) (f : Nat → Nat → Int64) (x : Int32) (hbad : ts_bad x) (sz : Nat) : vx_Met l y_T_bottom wx_T_bottom ({ frames := 7, cells := 1, slots := 6, locals := 130 }) (va_Pc [.ref o, .int x] (fun U => ts_A D vwCl (ts_ty cL cA cI cZ) (ts_w cL cA o sA w a f) sz U ∧ ts_KX (va_A (ts_w cL cA o sA w a f) sz) U)) (fun _ _ _ _ => False) (ts_X ts_IO (fun (u : Unit) => True) (fun u => ts_B D vwCl (ts_ty cL cA cI cZ) (va_A (ts_w cL cA o sA w a f) sz) ((ts_w cL cA o sA w a f))) (va_A (ts_w cL cA o sA w a f) sz)) 1 6 (va_A (ts_w cL cA o sA w a f) sz) := by
  refine ts_metX (cc := b_T_bottom) (maxL := 2) (ret := (some .int)) (by decide) rfl (Nat.le_of_ble_eq_true rfl) ?_
  intro p e s m below meth c hx hb hr hml hown hts hlocks hE A hA hAe hKX hK hP hD hS hsz ls hl
  have hown : s.vm.findClass R_T = some m.cls := hown
  have hl : lv_has ls 2 [(0, .ref o), (1, .int x)] := hl
  have hP : va_P D vwCl (ts_w cL cA o sA w a f) s.heap := hP
  have hD : va_D A (ts_w cL cA o sA w a f) := hD
  refine lv_aload_n hx hb d_T_bottom_0 rfl (lv_at hl 0 rfl) ?_
  refine lv_aload_n hx hb d_T_bottom_1 rfl (lv_at hl 0 rfl) ?_
  refine lv_iload_n hx hb d_T_bottom_2 rfl (lv_at hl 1 rfl) ?_
  refine ts_callXT (rest := [.ref o]) (g := fun _ => f) ⟨hx, hb, hml, hown, hts⟩ (cx_T_sumAt l hl0 D cL cA cI cZ o sA w a f x hbad _) (cwV 1 hts g_xT_bottom_xT_sumAt rfl rfl rfl (by decide +kernel) ⟨Nat.le_of_ble_eq_true rfl, Nat.le_of_ble_eq_true rfl⟩) hK hKX hP hD hS hA hl.1 rfl rfl (Nat.le_of_ble_eq_true rfl) d_T_bottom_3 ⟨Nat.le_of_ble_eq_true rfl, Nat.le_of_ble_eq_true rfl⟩ (fun ce q9 u H locs hpx hP hD hS hce hcv hcl => ?_)
  exact ts_outX (u := ()) hE hlocks hce hcv hcl hK hP hD hS trivial (Nat.le_of_ble_eq_true rfl) (Nat.le_of_ble_eq_true rfl)

set_option maxHeartbeats 4000000 in
set_option maxRecDepth 100000 in
theorem cx_T_bit (l : Launch) (hl0 : l.stackTraces = false) (D : va_G) (cL cA cI cZ : ClassId) (o sA : Nat) (w a : Nat → Nat) (f : Nat → Nat → Int64) (x : Int32) (y : Int32) (hbad : ts_bad x) (sz : Nat) : vx_Met l y_T_bit wx_T_bit ({ frames := 7, cells := 1, slots := 6, locals := 130 }) (va_Pc [.ref o, .int x, .int y] (fun U => ts_A D vwCl (ts_ty cL cA cI cZ) (ts_w cL cA o sA w a f) sz U ∧ ts_KX (va_A (ts_w cL cA o sA w a f) sz) U)) (fun _ _ _ _ => False) (ts_X ts_IO (fun (u : Unit) => True) (fun u => ts_B D vwCl (ts_ty cL cA cI cZ) (va_A (ts_w cL cA o sA w a f) sz) ((ts_w cL cA o sA w a f))) (va_A (ts_w cL cA o sA w a f) sz)) 1 6 (va_A (ts_w cL cA o sA w a f) sz) := by
  refine ts_metX (cc := b_T_bit) (maxL := 3) (ret := (some .boolean)) (by decide) rfl (Nat.le_of_ble_eq_true rfl) ?_
  intro p e s m below meth c hx hb hr hml hown hts hlocks hE A hA hAe hKX hK hP hD hS hsz ls hl
  have hown : s.vm.findClass R_T = some m.cls := hown
  have hl : lv_has ls 3 [(0, .ref o), (1, .int x), (2, .int y)] := hl
  have hP : va_P D vwCl (ts_w cL cA o sA w a f) s.heap := hP
  have hD : va_D A (ts_w cL cA o sA w a f) := hD
  refine lv_aload_n hx hb d_T_bit_0 rfl (lv_at hl 0 rfl) ?_
  refine lv_aload_n hx hb d_T_bit_1 rfl (lv_at hl 0 rfl) ?_
  refine lv_iload_n hx hb d_T_bit_2 rfl (lv_at hl 1 rfl) ?_
  refine ts_callXT (rest := [.ref o]) (g := fun _ => f) ⟨hx, hb, hml, hown, hts⟩ (cx_T_sumAt l hl0 D cL cA cI cZ o sA w a f x hbad _) (cwV 1 hts g_xT_bit_xT_sumAt rfl rfl rfl (by decide +kernel) ⟨Nat.le_of_ble_eq_true rfl, Nat.le_of_ble_eq_true rfl⟩) hK hKX hP hD hS hA hl.1 rfl rfl (Nat.le_of_ble_eq_true rfl) d_T_bit_3 ⟨Nat.le_of_ble_eq_true rfl, Nat.le_of_ble_eq_true rfl⟩ (fun ce q9 u H locs hpx hP hD hS hce hcv hcl => ?_)
  exact ts_outX (u := ()) hE hlocks hce hcv hcl hK hP hD hS trivial (Nat.le_of_ble_eq_true rfl) (Nat.le_of_ble_eq_true rfl)

set_option maxHeartbeats 4000000 in
set_option maxRecDepth 100000 in
theorem cx_T_word (l : Launch) (hl0 : l.stackTraces = false) (D : va_G) (cL cA cI cZ : ClassId) (o sA : Nat) (w a : Nat → Nat) (f : Nat → Nat → Int64) (x : Int32) (y : Int32) (hbad : ts_bad x) (sz : Nat) : vx_Met l y_T_word wx_T_word ({ frames := 7, cells := 1, slots := 6, locals := 130 }) (va_Pc [.ref o, .int x, .int y] (fun U => ts_A D vwCl (ts_ty cL cA cI cZ) (ts_w cL cA o sA w a f) sz U ∧ ts_KX (va_A (ts_w cL cA o sA w a f) sz) U)) (fun _ _ _ _ => False) (ts_X ts_IO (fun (u : Unit) => True) (fun u => ts_B D vwCl (ts_ty cL cA cI cZ) (va_A (ts_w cL cA o sA w a f) sz) ((ts_w cL cA o sA w a f))) (va_A (ts_w cL cA o sA w a f) sz)) 1 6 (va_A (ts_w cL cA o sA w a f) sz) := by
  refine ts_metX (cc := b_T_word) (maxL := 3) (ret := (some .long)) (by decide) rfl (Nat.le_of_ble_eq_true rfl) ?_
  intro p e s m below meth c hx hb hr hml hown hts hlocks hE A hA hAe hKX hK hP hD hS hsz ls hl
  have hown : s.vm.findClass R_T = some m.cls := hown
  have hl : lv_has ls 3 [(0, .ref o), (1, .int x), (2, .int y)] := hl
  have hP : va_P D vwCl (ts_w cL cA o sA w a f) s.heap := hP
  have hD : va_D A (ts_w cL cA o sA w a f) := hD
  refine lv_aload_n hx hb d_T_word_0 rfl (lv_at hl 0 rfl) ?_
  refine lv_aload_n hx hb d_T_word_1 rfl (lv_at hl 0 rfl) ?_
  refine lv_iload_n hx hb d_T_word_2 rfl (lv_at hl 1 rfl) ?_
  refine ts_callXT (rest := [.ref o]) (g := fun _ => f) ⟨hx, hb, hml, hown, hts⟩ (cx_T_sumAt l hl0 D cL cA cI cZ o sA w a f x hbad _) (cwV 1 hts g_xT_word_xT_sumAt rfl rfl rfl (by decide +kernel) ⟨Nat.le_of_ble_eq_true rfl, Nat.le_of_ble_eq_true rfl⟩) hK hKX hP hD hS hA hl.1 rfl rfl (Nat.le_of_ble_eq_true rfl) d_T_word_3 ⟨Nat.le_of_ble_eq_true rfl, Nat.le_of_ble_eq_true rfl⟩ (fun ce q9 u H locs hpx hP hD hS hce hcv hcl => ?_)
  exact ts_outX (u := ()) hE hlocks hce hcv hcl hK hP hD hS trivial (Nat.le_of_ble_eq_true rfl) (Nat.le_of_ble_eq_true rfl)

