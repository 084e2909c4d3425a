set_option maxHeartbeats 4000000 in
set_option maxRecDepth 100000 in
theorem c_T_wordOfSize (l : Launch) (D : va_G) (cL cA cI cZ : ClassId) (o sA : Nat) (w a : Nat → Nat) (f : Nat → Nat → Int64) (r : Nat) (x : Int) (hr8 : r < 8) (hR : ts_R (f r) x) (hxb : x.natAbs < ts_K) (y : Int32) (sz : Nat) : Met l y_T_wordOfSize w_T_wordOfSize (ts_rm 6) (va_Pc [.ref o, .ref (w r), .int y] (ts_A D vwCl (ts_ty cL cA cI cZ) (ts_w cL cA o sA w a f) sz)) (ts_Q (fun (v : Option Value) (u : Nat → Nat → Int64) => (∃ z : Int64, v = some (.long z) ∧ ts_Wd x.natAbs (y.toInt + 3222) z) ∧ ∀ i, i ≠ 10 → u i = f i) (fun u => ts_B D vwCl (ts_ty cL cA cI cZ) (va_A (ts_w cL cA o sA w a f) sz) (ts_w cL cA o sA w a u)) (va_A (ts_w cL cA o sA w a f) sz)) 0 0 (va_A (ts_w cL cA o sA w a f) sz) := by
  refine ts_met (cc := b_T_wordOfSize) (maxL := 3) (ret := (some .long)) (by decide) rfl (Nat.le_of_ble_eq_true rfl) ?_
  intro p e s m below meth c hx hb hr hml hown hts hlocks hname A hA hAe hK hP hD hS hsz ls hl
  have hown : s.vm.findClass R_T = some m.cls := hown
  have hl : lv_has ls 3 [(0, .ref o), (1, .ref (w r)), (2, .int y)] := hl
  have hP : va_P D vwCl (ts_w cL cA o sA w a f) s.heap := hP
  have hD : va_D A (ts_w cL cA o sA w a f) := hD
  refine lv_aload_n hx hb d_T_wordOfSize_0 rfl (lv_at hl 0 rfl) ?_
  refine lv_aload_n hx hb d_T_wordOfSize_1 rfl (lv_at hl 1 rfl) ?_
  refine ts_callTT (rest := []) (g := fun u => u) ⟨hx, hb, hml, hown, hts⟩ (c_T_sizeOf l D cL cA cI cZ o sA w a f r x (by omega) hR hxb _) (cwV 1 hts g_T_wordOfSize_T_sizeOf rfl rfl rfl (by decide +kernel) ⟨Nat.le_of_ble_eq_true rfl, Nat.le_of_ble_eq_true rfl⟩) hK hP hD hS hA hl.1 rfl rfl (Nat.le_of_ble_eq_true rfl) d_T_wordOfSize_2 ⟨Nat.zero_le _, Nat.zero_le _⟩ (fun v fa H locs hw hP hD hS => ?_)
  obtain ⟨rfl, hw1, hw2⟩ := hw
  show W _ _ _ _ _ _ _ _ _ _ _ _ _ _ _ (F0 m 5 ls [.ref (w 10)])
  have hn := hw2.nat
  refine lv_iload_n hx hb d_T_wordOfSize_5 rfl (lv_at hl 2 rfl) ?_
  refine lv_i2l hx hb d_T_wordOfSize_6 rfl ?_
  refine lv_ldc2 (v := (-3222)) hx hb hown (hts (.constantLong R_T 128 (-3222)) (by decide +kernel)) d_T_wordOfSize_7 ?_
  refine lv_lsub hx hb d_T_wordOfSize_10 ?_
  refine lv_topl (fun z1 e_z1 => ?_)
  have b1 := Int32.le_toInt y
  have b2 := Int32.toInt_lt y
  have e3 : (-3222 : Int64).toInt = -3222 := by decide +kernel
  have hz : Int64.toInt z1 = y.toInt + 3222 := by rw [e_z1, ts_l_sub (by rw [e3, Int32.toInt_toInt64]; omega) (by rw [e3, Int32.toInt_toInt64]; omega), e3, Int32.toInt_toInt64]; omega
  refine ts_callT1 (rest := []) (g := fun _ => fa 10) 10 (by decide) ⟨hx, hb, hml, hown, hts⟩ (c_W_wordFrom l D cL cA cI cZ (w 10) (a 10) (fa 10) z1 hw2.1 (by rw [hz]; omega) (by rw [hz]; omega) _) (cwV 1 hts g_T_wordOfSize_W_wordFrom rfl rfl rfl (by decide +kernel) ⟨Nat.le_of_ble_eq_true rfl, Nat.le_of_ble_eq_true rfl⟩) hK hP hD hS hA hl.1 rfl rfl (Nat.le_of_ble_eq_true rfl) d_T_wordOfSize_11 ⟨Nat.zero_le _, Nat.zero_le _⟩ (fun v _u H locs hw hP hD hS => ?_)
  have hP : va_P D vwCl (ts_w cL cA o sA w a fa) H := by rw [ts_up_id] at hP; exact hP
  have hD : va_D A (ts_w cL cA o sA w a fa) := by rw [ts_up_id] at hD; exact hD
  obtain ⟨q, rfl, hq⟩ := hw
  show W _ _ _ _ _ _ _ _ _ _ _ _ _ _ _ (F0 m 14 ls [.long q])
  rw [hz, hn] at hq
  exact W.lret (v := q) hx hb hr (fun t ht hW => ts_ret (u := fa) hP hD hK hS ⟨⟨q, rfl, hq⟩, hw1⟩ ht hW) hS.2.2 d_T_wordOfSize_14

set_option maxHeartbeats 4000000 in
set_option maxRecDepth 100000 in
theorem c_T_word (l : Launch) (D : va_G) (cL cA cI cZ : ClassId) (o sA : Nat) (w a : Nat → Nat) (f : Nat → Nat → Int64) (r : Nat) (x : Int) (hr8 : r < 8) (hR : ts_R (f r) x) (hxb : x.natAbs < ts_K) (y : Int32) (sz : Nat) : Met l y_T_word w_T_word (ts_rm 7) (va_Pc [.ref o, .int (nI r), .int y] (ts_A D vwCl (ts_ty cL cA cI cZ) (ts_w cL cA o sA w a f) sz)) (ts_Q (fun (v : Option Value) (u : Nat → Nat → Int64) => (∃ z : Int64, v = some (.long z) ∧ ts_Wd x.natAbs (y.toInt + 3222) z) ∧ ∀ i, i ≠ 10 → u i = f i) (fun u => ts_B D vwCl (ts_ty cL cA cI cZ) (va_A (ts_w cL cA o sA w a f) sz) (ts_w cL cA o sA w a u)) (va_A (ts_w cL cA o sA w a f) sz)) 0 0 (va_A (ts_w cL cA o sA w a f) sz) := by
  refine ts_met (cc := b_T_word) (maxL := 3) (ret := (some .long)) (by decide) rfl (Nat.le_of_ble_eq_true rfl) ?_
  intro p e s m below meth c hx hb hr hml hown hts hlocks hname A hA hAe hK hP hD hS hsz ls hl
  have hown : s.vm.findClass R_T = some m.cls := hown
  have hl : lv_has ls 3 [(0, .ref o), (1, .int (nI r)), (2, .int y)] := hl
  have hP : va_P D vwCl (ts_w cL cA o sA w a f) s.heap := hP
  have hD : va_D A (ts_w cL cA o sA w a f) := hD
  refine lv_aload_n hx hb d_T_word_0 rfl (lv_at hl 0 rfl) ?_
  refine lv_aload_n hx hb d_T_word_1 rfl (lv_at hl 0 rfl) ?_
  refine lv_iload_n hx hb d_T_word_2 rfl (lv_at hl 1 rfl) ?_
  refine ts_callTT (rest := [.ref o]) (g := fun _ => f) ⟨hx, hb, hml, hown, hts⟩ (c_T_sumAt l D cL cA cI cZ o sA w a f r hr8 _) (cwV 1 hts g_T_word_T_sumAt rfl rfl rfl (by decide +kernel) ⟨Nat.le_of_ble_eq_true rfl, Nat.le_of_ble_eq_true rfl⟩) hK hP hD hS hA hl.1 rfl rfl (Nat.le_of_ble_eq_true rfl) d_T_word_3 ⟨Nat.zero_le _, Nat.zero_le _⟩ (fun v u H locs hw hP hD hS => ?_)
  obtain rfl := hw
  show W _ _ _ _ _ _ _ _ _ _ _ _ _ _ _ (F0 m 6 ls [.ref (w r), .ref o])
  refine lv_iload_n hx hb d_T_word_6 rfl (lv_at hl 2 rfl) ?_
  refine ts_callTT (rest := []) (g := fun u => u) ⟨hx, hb, hml, hown, hts⟩ (c_T_wordOfSize l D cL cA cI cZ o sA w a f r x hr8 hR hxb y _) (cwV 2 hts g_T_word_T_wordOfSize rfl rfl rfl (by decide +kernel) ⟨Nat.le_of_ble_eq_true rfl, Nat.le_of_ble_eq_true rfl⟩) hK hP hD hS hA hl.1 rfl rfl (Nat.le_of_ble_eq_true rfl) d_T_word_7 ⟨Nat.zero_le _, Nat.zero_le _⟩ (fun v fa H locs hw hP hD hS => ?_)
  obtain ⟨⟨q, rfl, hq⟩, hw1⟩ := hw
  show W _ _ _ _ _ _ _ _ _ _ _ _ _ _ _ (F0 m 10 ls [.long q])
  exact W.lret (v := q) hx hb hr (fun t ht hW => ts_ret (u := fa) hP hD hK hS ⟨⟨q, rfl, hq⟩, hw1⟩ ht hW) hS.2.2 d_T_word_10

set_option maxHeartbeats 4000000 in
set_option maxRecDepth 100000 in
theorem c_T_bit (l : Launch) (D : va_G) (cL cA cI cZ : ClassId) (o sA : Nat) (w a : Nat → Nat) (f : Nat → Nat → Int64) (r : Nat) (x : Int) (hr8 : r < 8) (hR : ts_R (f r) x) (hxb : x.natAbs < ts_K) (y : Int32) (sz : Nat) : Met l y_T_bit w_T_bit (ts_rm 7) (va_Pc [.ref o, .int (nI r), .int y] (ts_A D vwCl (ts_ty cL cA cI cZ) (ts_w cL cA o sA w a f) sz)) (ts_Q (fun (v : Option Value) (u : Nat → Nat → Int64) => v = some (.int (if ts_ib x.natAbs (y.toInt + 3222) = true then 1 else 0)) ∧ ∀ i, i ≠ 10 → u i = f i) (fun u => ts_B D vwCl (ts_ty cL cA cI cZ) (va_A (ts_w cL cA o sA w a f) sz) (ts_w cL cA o sA w a u)) (va_A (ts_w cL cA o sA w a f) sz)) 0 0 (va_A (ts_w cL cA o sA w a f) sz) := by
  refine ts_met (cc := b_T_bit) (maxL := 3) (ret := (some .boolean)) (by decide) rfl (Nat.le_of_ble_eq_true rfl) ?_
  intro p e s m below meth c hx hb hr hml hown hts hlocks hname A hA hAe hK hP hD hS hsz ls hl
  have hown : s.vm.findClass R_T = some m.cls := hown
  have hl : lv_has ls 3 [(0, .ref o), (1, .int (nI r)), (2, .int y)] := hl
  have hP : va_P D vwCl (ts_w cL cA o sA w a f) s.heap := hP
  have hD : va_D A (ts_w cL cA o sA w a f) := hD
  refine lv_aload_n hx hb d_T_bit_0 rfl (lv_at hl 0 rfl) ?_
  refine lv_aload_n hx hb d_T_bit_1 rfl (lv_at hl 0 rfl) ?_
  refine lv_iload_n hx hb d_T_bit_2 rfl (lv_at hl 1 rfl) ?_
  refine ts_callTT (rest := [.ref o]) (g := fun _ => f) ⟨hx, hb, hml, hown, hts⟩ (c_T_sumAt l D cL cA cI cZ o sA w a f r hr8 _) (cwV 1 hts g_T_bit_T_sumAt rfl rfl rfl (by decide +kernel) ⟨Nat.le_of_ble_eq_true rfl, Nat.le_of_ble_eq_true rfl⟩) hK hP hD hS hA hl.1 rfl rfl (Nat.le_of_ble_eq_true rfl) d_T_bit_3 ⟨Nat.zero_le _, Nat.zero_le _⟩ (fun v u H locs hw hP hD hS => ?_)
  obtain rfl := hw
  show W _ _ _ _ _ _ _ _ _ _ _ _ _ _ _ (F0 m 6 ls [.ref (w r), .ref o])
  refine lv_iload_n hx hb d_T_bit_6 rfl (lv_at hl 2 rfl) ?_
  refine ts_callTT (rest := []) (g := fun u => u) ⟨hx, hb, hml, hown, hts⟩ (c_T_wordOfSize l D cL cA cI cZ o sA w a f r x hr8 hR hxb y _) (cwV 2 hts g_T_bit_T_wordOfSize rfl rfl rfl (by decide +kernel) ⟨Nat.le_of_ble_eq_true rfl, Nat.le_of_ble_eq_true rfl⟩) hK hP hD hS hA hl.1 rfl rfl (Nat.le_of_ble_eq_true rfl) d_T_bit_7 ⟨Nat.zero_le _, Nat.zero_le _⟩ (fun v fa H locs hw hP hD hS => ?_)
  obtain ⟨⟨q, rfl, hq⟩, hw1⟩ := hw
  show W _ _ _ _ _ _ _ _ _ _ _ _ _ _ _ (F0 m 10 ls [.long q])
  have hlow := hq.low
  refine lv_lconst (v := 1) hx hb d_T_bit_10 (by decide) ?_
  refine lv_land hx hb d_T_bit_11 ?_
  refine lv_topl (fun z2 e_z2 => ?_)
  refine lv_lconst (v := 0) hx hb d_T_bit_12 (by decide) ?_
  refine W.lcmp hx hb d_T_bit_13 ?_
  refine lv_if_eq (tgt := 21) hx hb d_T_bit_14 (by decide) (fun c3 => ?_) (fun c3 => ?_)
  · have h0 := hlow.mp (by rw [← e_z2]; exact (lg_cmp_eq _ _).mp c3)
    refine lv_iconst (v := 0) hx hb d_T_bit_21 (by decide) ?_
    exact W.zret (v := 0) hx hb hr (by decide +kernel) (fun t ht hW => ts_ret (u := fa) hP hD hK hS ⟨by rw [h0]; rfl, hw1⟩ ht hW) hS.2.2 d_T_bit_22
  · have h1 : ts_ib x.natAbs (y.toInt + 3222) = true := by
      cases hc : ts_ib x.natAbs (y.toInt + 3222) with
      | true => rfl
      | false => exact absurd (by rw [e_z2, hlow.mpr hc]; decide +kernel) c3
    refine lv_iconst (v := 1) hx hb d_T_bit_17 (by decide) ?_
    refine lv_goto (tgt := 22) hx hb d_T_bit_18 (by decide) ?_
    exact W.zret (v := 1) hx hb hr (by decide +kernel) (fun t ht hW => ts_ret (u := fa) hP hD hK hS ⟨by rw [if_pos h1], hw1⟩ ht hW) hS.2.2 d_T_bit_22

