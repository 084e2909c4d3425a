set_option maxHeartbeats 4000000 in
set_option maxRecDepth 100000 in
theorem c_T_top (l : Launch) (D : va_G) (cL cA cI cZ : ClassId) (o sA : Nat) (w a : Nat → Nat) (f : Nat → Nat → Int64) (r : Nat) (x : Int) (hr8 : r < 8) (hR : ts_R (f r) x) (hxb : x.natAbs < ts_K) (sz : Nat) : Met l y_T_top w_T_top (ts_rm 7) (va_Pc [.ref o, .int (nI r)] (ts_A D vwCl (ts_ty cL cA cI cZ) (ts_w cL cA o sA w a f) sz)) (ts_Q (fun (v : Option Value) (u : Nat → Nat → Int64) => (∃ z : Int32, v = some (.int z) ∧ ts_tp x.natAbs z) ∧ ∀ i, i ≠ 10 → u i = f i) (fun u => ts_B D vwCl (ts_ty cL cA cI cZ) (va_A (ts_w cL cA o sA w a f) sz) (ts_w cL cA o sA w a u)) (va_A (ts_w cL cA o sA w a f) sz)) 0 0 (va_A (ts_w cL cA o sA w a f) sz) := by
  refine ts_met (cc := b_T_top) (maxL := 2) (ret := (some .int)) (by decide) rfl (Nat.le_of_ble_eq_true rfl) ?_
  intro p e s m below meth c hx hb hr hml hown hts hlocks hname A hA hAe hK hP hD hS hsz ls hl
  have hown : s.vm.findClass R_T = some m.cls := hown
  have hl : lv_has ls 2 [(0, .ref o), (1, .int (nI r))] := hl
  have hP : va_P D vwCl (ts_w cL cA o sA w a f) s.heap := hP
  have hD : va_D A (ts_w cL cA o sA w a f) := hD
  refine lv_aload_n hx hb d_T_top_0 rfl (lv_at hl 0 rfl) ?_
  refine lv_aload_n hx hb d_T_top_1 rfl (lv_at hl 0 rfl) ?_
  refine lv_iload_n hx hb d_T_top_2 rfl (lv_at hl 1 rfl) ?_
  refine ts_callTT (rest := [.ref o]) (g := fun _ => f) ⟨hx, hb, hml, hown, hts⟩ (c_T_sumAt l D cL cA cI cZ o sA w a f r hr8 _) (cwV 1 hts g_T_top_T_sumAt rfl rfl rfl (by decide +kernel) ⟨Nat.le_of_ble_eq_true rfl, Nat.le_of_ble_eq_true rfl⟩) hK hP hD hS hA hl.1 rfl rfl (Nat.le_of_ble_eq_true rfl) d_T_top_3 ⟨Nat.zero_le _, Nat.zero_le _⟩ (fun v u H locs hw hP hD hS => ?_)
  obtain rfl := hw
  show W _ _ _ _ _ _ _ _ _ _ _ _ _ _ _ (F0 m 6 ls [.ref (w r), .ref o])
  refine ts_callTT (rest := []) (g := fun u => u) ⟨hx, hb, hml, hown, hts⟩ (c_T_sizeOf l D cL cA cI cZ o sA w a f r x (by omega) hR hxb _) (cwV 1 hts g_T_top_T_sizeOf rfl rfl rfl (by decide +kernel) ⟨Nat.le_of_ble_eq_true rfl, Nat.le_of_ble_eq_true rfl⟩) hK hP hD hS hA hl.1 rfl rfl (Nat.le_of_ble_eq_true rfl) d_T_top_6 ⟨Nat.zero_le _, Nat.zero_le _⟩ (fun v fa H locs hw hP hD hS => ?_)
  obtain ⟨rfl, hw1, hw2⟩ := hw
  show W _ _ _ _ _ _ _ _ _ _ _ _ _ _ _ (F0 m 9 ls [.ref (w 10)])
  have hn := hw2.nat
  refine ts_callT1 (rest := []) (g := fun _ => fa 10) 10 (by decide) ⟨hx, hb, hml, hown, hts⟩ (c_W_highestPlace l D cL cA cI cZ (w 10) (a 10) (fa 10) hw2.1 _) (cwV 0 hts g_T_top_W_highestPlace rfl rfl rfl (by decide +kernel) ⟨Nat.le_of_ble_eq_true rfl, Nat.le_of_ble_eq_true rfl⟩) hK hP hD hS hA hl.1 rfl rfl (Nat.le_of_ble_eq_true rfl) d_T_top_9 ⟨Nat.zero_le _, Nat.zero_le _⟩ (fun v _u H locs hw hP hD hS => ?_)
  have hP : va_P D vwCl (ts_w cL cA o sA w a fa) H := by rw [ts_up_id] at hP; exact hP
  have hD : va_D A (ts_w cL cA o sA w a fa) := by rw [ts_up_id] at hD; exact hD
  obtain ⟨q, rfl, hq⟩ := hw
  show W _ _ _ _ _ _ _ _ _ _ _ _ _ _ _ (F0 m 12 ls [.int q])
  rw [hn] at hq
  refine ts_callS (rest := []) ⟨hx, hb, hml, hown, hts⟩ (c_T_powerAt l D cL cA cI cZ q _) (va_cwS 1 hts g_T_top_T_powerAt rfl rfl rfl (by decide +kernel) ⟨Nat.le_of_ble_eq_true rfl, Nat.le_of_ble_eq_true rfl⟩) hK hP hD hS hA hl.1 [] (by decide) rfl (fun u => rfl) rfl rfl (Nat.le_of_ble_eq_true rfl) d_T_top_12 ⟨Nat.zero_le _, Nat.zero_le _⟩ (fun v u H locs hw hP hD hS => ?_)
  have hP : va_P D vwCl (ts_w cL cA o sA w a fa) H := hP
  have hD : va_D A (ts_w cL cA o sA w a fa) := hD
  obtain rfl := hw
  show W _ _ _ _ _ _ _ _ _ _ _ _ _ _ _ (F0 m 15 ls [.int (if q = -100000 then -100000 else q - 3222)])
  exact W.iret (v := (if q = -100000 then -100000 else q - 3222)) hx hb hr (fun t ht hW => ts_ret (u := fa) hP hD hK hS ⟨⟨_, rfl, ts_hp_tp hq⟩, hw1⟩ ht hW) hS.2.2 d_T_top_15

set_option maxHeartbeats 4000000 in
set_option maxRecDepth 100000 in
theorem c_T_bottom (l : Launch) (D : va_G) (cL cA cI cZ : ClassId) (o sA : Nat) (w a : Nat → Nat) (f : Nat → Nat → Int64) (r : Nat) (x : Int) (hr8 : r < 8) (hR : ts_R (f r) x) (hxb : x.natAbs < ts_K) (sz : Nat) : Met l y_T_bottom w_T_bottom (ts_rm 7) (va_Pc [.ref o, .int (nI r)] (ts_A D vwCl (ts_ty cL cA cI cZ) (ts_w cL cA o sA w a f) sz)) (ts_Q (fun (v : Option Value) (u : Nat → Nat → Int64) => (∃ z : Int32, v = some (.int z) ∧ ts_bt x.natAbs z) ∧ ∀ i, i ≠ 10 → u i = f i) (fun u => ts_B D vwCl (ts_ty cL cA cI cZ) (va_A (ts_w cL cA o sA w a f) sz) (ts_w cL cA o sA w a u)) (va_A (ts_w cL cA o sA w a f) sz)) 0 0 (va_A (ts_w cL cA o sA w a f) sz) := by
  refine ts_met (cc := b_T_bottom) (maxL := 2) (ret := (some .int)) (by decide) rfl (Nat.le_of_ble_eq_true rfl) ?_
  intro p e s m below meth c hx hb hr hml hown hts hlocks hname A hA hAe hK hP hD hS hsz ls hl
  have hown : s.vm.findClass R_T = some m.cls := hown
  have hl : lv_has ls 2 [(0, .ref o), (1, .int (nI r))] := hl
  have hP : va_P D vwCl (ts_w cL cA o sA w a f) s.heap := hP
  have hD : va_D A (ts_w cL cA o sA w a f) := hD
  refine lv_aload_n hx hb d_T_bottom_0 rfl (lv_at hl 0 rfl) ?_
  refine lv_aload_n hx hb d_T_bottom_1 rfl (lv_at hl 0 rfl) ?_
  refine lv_iload_n hx hb d_T_bottom_2 rfl (lv_at hl 1 rfl) ?_
  refine ts_callTT (rest := [.ref o]) (g := fun _ => f) ⟨hx, hb, hml, hown, hts⟩ (c_T_sumAt l D cL cA cI cZ o sA w a f r hr8 _) (cwV 1 hts g_T_bottom_T_sumAt rfl rfl rfl (by decide +kernel) ⟨Nat.le_of_ble_eq_true rfl, Nat.le_of_ble_eq_true rfl⟩) hK hP hD hS hA hl.1 rfl rfl (Nat.le_of_ble_eq_true rfl) d_T_bottom_3 ⟨Nat.zero_le _, Nat.zero_le _⟩ (fun v u H locs hw hP hD hS => ?_)
  obtain rfl := hw
  show W _ _ _ _ _ _ _ _ _ _ _ _ _ _ _ (F0 m 6 ls [.ref (w r), .ref o])
  refine ts_callTT (rest := []) (g := fun u => u) ⟨hx, hb, hml, hown, hts⟩ (c_T_sizeOf l D cL cA cI cZ o sA w a f r x (by omega) hR hxb _) (cwV 1 hts g_T_bottom_T_sizeOf rfl rfl rfl (by decide +kernel) ⟨Nat.le_of_ble_eq_true rfl, Nat.le_of_ble_eq_true rfl⟩) hK hP hD hS hA hl.1 rfl rfl (Nat.le_of_ble_eq_true rfl) d_T_bottom_6 ⟨Nat.zero_le _, Nat.zero_le _⟩ (fun v fa H locs hw hP hD hS => ?_)
  obtain ⟨rfl, hw1, hw2⟩ := hw
  show W _ _ _ _ _ _ _ _ _ _ _ _ _ _ _ (F0 m 9 ls [.ref (w 10)])
  have hn := hw2.nat
  refine ts_callT1 (rest := []) (g := fun _ => fa 10) 10 (by decide) ⟨hx, hb, hml, hown, hts⟩ (c_W_lowestPlace l D cL cA cI cZ (w 10) (a 10) (fa 10) hw2.1 _) (cwV 0 hts g_T_bottom_W_lowestPlace rfl rfl rfl (by decide +kernel) ⟨Nat.le_of_ble_eq_true rfl, Nat.le_of_ble_eq_true rfl⟩) hK hP hD hS hA hl.1 rfl rfl (Nat.le_of_ble_eq_true rfl) d_T_bottom_9 ⟨Nat.zero_le _, Nat.zero_le _⟩ (fun v _u H locs hw hP hD hS => ?_)
  have hP : va_P D vwCl (ts_w cL cA o sA w a fa) H := by rw [ts_up_id] at hP; exact hP
  have hD : va_D A (ts_w cL cA o sA w a fa) := by rw [ts_up_id] at hD; exact hD
  obtain ⟨q, rfl, hq⟩ := hw
  show W _ _ _ _ _ _ _ _ _ _ _ _ _ _ _ (F0 m 12 ls [.int q])
  rw [hn] at hq
  refine ts_callS (rest := []) ⟨hx, hb, hml, hown, hts⟩ (c_T_powerAt l D cL cA cI cZ q _) (va_cwS 1 hts g_T_bottom_T_powerAt rfl rfl rfl (by decide +kernel) ⟨Nat.le_of_ble_eq_true rfl, Nat.le_of_ble_eq_true rfl⟩) hK hP hD hS hA hl.1 [] (by decide) rfl (fun u => rfl) rfl rfl (Nat.le_of_ble_eq_true rfl) d_T_bottom_12 ⟨Nat.zero_le _, Nat.zero_le _⟩ (fun v u H locs hw hP hD hS => ?_)
  have hP : va_P D vwCl (ts_w cL cA o sA w a fa) H := hP
  have hD : va_D A (ts_w cL cA o sA w a fa) := hD
  obtain rfl := hw
  show W _ _ _ _ _ _ _ _ _ _ _ _ _ _ _ (F0 m 15 ls [.int (if q = -100000 then -100000 else q - 3222)])
  exact W.iret (v := (if q = -100000 then -100000 else q - 3222)) hx hb hr (fun t ht hW => ts_ret (u := fa) hP hD hK hS ⟨⟨_, rfl, ts_lp_bt hq⟩, hw1⟩ ht hW) hS.2.2 d_T_bottom_15

