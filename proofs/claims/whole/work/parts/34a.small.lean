set_option maxHeartbeats 4000000 in
set_option maxRecDepth 100000 in
theorem c_T_exponentOf (l : Launch) (D : va_G) (cL cA cI cZ : ClassId) (x : Int64) (sz : Nat) : Met l y_T_exponentOf w_T_exponentOf (ts_rm 1) (va_Pc [.long x] (ts_A D vwCl (ts_ty cL cA cI cZ) [] sz)) (ts_Q (fun (v : Option Value) (u : Unit) => v = some (.int (nI (ts_e x)))) (fun u => ts_B D vwCl (ts_ty cL cA cI cZ) (va_A [] sz) (([] : va_W))) (va_A [] sz)) 0 0 (va_A [] sz) := by
  refine ts_met (cc := b_T_exponentOf) (maxL := 2) (ret := (some .int)) (by decide) rfl (Nat.le_of_ble_eq_true rfl) ?_
  intro p e s m below meth c hx hb hr hml hown hts hlocks hname A hA hAe hK hP hD hS hsz ls hl
  have hown : s.vm.findClass R_T = some m.cls := hown
  have hl : lv_has ls 2 [(0, .long x)] := hl
  have hP : va_P D vwCl [] s.heap := hP
  have hD : va_D A [] := hD
  refine lv_lload_n hx hb d_T_exponentOf_0 rfl (lv_at hl 0 rfl) ?_
  refine lv_bipush (v := 52) hx hb d_T_exponentOf_1 (by decide) ?_
  refine lv_lushr hx hb d_T_exponentOf_3 rfl ?_
  refine lv_topl (fun z1 e_z1 => ?_)
  refine lv_l2i hx hb d_T_exponentOf_4 rfl ?_
  refine lv_topi (fun z2 e_z2 => ?_)
  refine lv_sipush (v := 2047) hx hb d_T_exponentOf_5 (by decide) ?_
  refine lv_iand hx hb d_T_exponentOf_8 ?_
  refine lv_topi (fun z3 e_z3 => ?_)
  have hz : z3 = nI (ts_e x) := by
    subst e_z1 e_z2 e_z3
    exact ts_expC x
  exact W.iret (v := z3) hx hb hr (fun t ht hW => ts_ret (u := ()) hP hD hK hS (by rw [hz]) ht hW) hS.2.2 d_T_exponentOf_9

set_option maxHeartbeats 4000000 in
set_option maxRecDepth 100000 in
theorem c_T_significandOf (l : Launch) (D : va_G) (cL cA cI cZ : ClassId) (x : Int64) (sz : Nat) : Met l y_T_significandOf w_T_significandOf (ts_rm 2) (va_Pc [.long x] (ts_A D vwCl (ts_ty cL cA cI cZ) [] sz)) (ts_Q (fun (v : Option Value) (u : Unit) => ∃ r : Int64, v = some (.long r) ∧ uN r = ts_m x) (fun u => ts_B D vwCl (ts_ty cL cA cI cZ) (va_A [] sz) (([] : va_W))) (va_A [] sz)) 0 0 (va_A [] sz) := by
  refine ts_met (cc := b_T_significandOf) (maxL := 4) (ret := (some .long)) (by decide) rfl (Nat.le_of_ble_eq_true rfl) ?_
  intro p e s m below meth c hx hb hr hml hown hts hlocks hname A hA hAe hK hP hD hS hsz ls hl
  have hown : s.vm.findClass R_T = some m.cls := hown
  have hl : lv_has ls 4 [(0, .long x)] := hl
  have hP : va_P D vwCl [] s.heap := hP
  have hD : va_D A [] := hD
  refine lv_lload_n hx hb d_T_significandOf_0 rfl (lv_at hl 0 rfl) ?_
  refine lv_ldc2 (v := 4503599627370495) hx hb hown (hts (.constantLong R_T 117 4503599627370495) (by decide +kernel)) d_T_significandOf_1 ?_
  refine lv_land hx hb d_T_significandOf_4 ?_
  refine lv_topl (fun z4 e_z4 => ?_)
  refine lv_lstore_n (lv' := [(2, .long z4), (0, .long x)]) hx hb d_T_significandOf_5 rfl hl (by decide) rfl (fun ls hl => ?_)
  refine lv_lload_n hx hb d_T_significandOf_6 rfl (lv_at hl 1 rfl) ?_
  refine ts_callS (rest := []) ⟨hx, hb, hml, hown, hts⟩ (c_T_exponentOf l D cL cA cI cZ x _) (va_cwS 1 hts g_T_significandOf_T_exponentOf rfl rfl rfl (by decide +kernel) ⟨Nat.le_of_ble_eq_true rfl, Nat.le_of_ble_eq_true rfl⟩) hK hP hD hS hA hl.1 [] (by decide) rfl (fun u => rfl) rfl rfl (Nat.le_of_ble_eq_true rfl) d_T_significandOf_7 ⟨Nat.zero_le _, Nat.zero_le _⟩ (fun v _u H locs hw hP hD hS => ?_)
  have hP : va_P D vwCl [] H := hP
  have hD : va_D A [] := hD
  obtain rfl := hw
  show W _ _ _ _ _ _ _ _ _ _ _ _ _ _ _ (F0 m 10 ls [.int (nI (ts_e x))])
  have he := ts_e_lt x
  refine lv_if_ne (tgt := 17) hx hb d_T_significandOf_10 (by decide) (fun c5 => ?_) (fun c5 => ?_)
  · refine lv_lload_n hx hb d_T_significandOf_17 rfl (lv_at hl 0 rfl) ?_
    refine lv_ldc2 (v := 4503599627370496) hx hb hown (hts (.constantLong R_T 119 4503599627370496) (by decide +kernel)) d_T_significandOf_18 ?_
    refine lv_lor hx hb d_T_significandOf_21 ?_
    refine lv_topl (fun z6 e_z6 => ?_)
    exact W.lret (v := z6) hx hb hr (fun t ht hW => ts_ret (u := ()) hP hD hK hS ⟨_, rfl, by rw [e_z6, e_z4, ts_hid]; unfold ts_m; rw [if_neg (fun q => c5 (by rw [q]; rfl))]⟩ ht hW) hS.2.2 d_T_significandOf_22
  · refine lv_lload_n hx hb d_T_significandOf_13 rfl (lv_at hl 0 rfl) ?_
    refine lv_goto (tgt := 22) hx hb d_T_significandOf_14 (by decide) ?_
    exact W.lret (v := z4) hx hb hr (fun t ht hW => ts_ret (u := ()) hP hD hK hS ⟨_, rfl, by rw [e_z4, ts_frac]; unfold ts_m; rw [if_pos ((nI_eq (b := 0) (by omega) (by decide)).mp c5)]⟩ ht hW) hS.2.2 d_T_significandOf_22

set_option maxHeartbeats 4000000 in
set_option maxRecDepth 100000 in
theorem c_T_shiftOf (l : Launch) (D : va_G) (cL cA cI cZ : ClassId) (x : Int64) (sz : Nat) : Met l y_T_shiftOf w_T_shiftOf (ts_rm 2) (va_Pc [.long x] (ts_A D vwCl (ts_ty cL cA cI cZ) [] sz)) (ts_Q (fun (v : Option Value) (u : Unit) => v = some (.int (nI (ts_s x)))) (fun u => ts_B D vwCl (ts_ty cL cA cI cZ) (va_A [] sz) (([] : va_W))) (va_A [] sz)) 0 0 (va_A [] sz) := by
  refine ts_met (cc := b_T_shiftOf) (maxL := 2) (ret := (some .int)) (by decide) rfl (Nat.le_of_ble_eq_true rfl) ?_
  intro p e s m below meth c hx hb hr hml hown hts hlocks hname A hA hAe hK hP hD hS hsz ls hl
  have hown : s.vm.findClass R_T = some m.cls := hown
  have hl : lv_has ls 2 [(0, .long x)] := hl
  have hP : va_P D vwCl [] s.heap := hP
  have hD : va_D A [] := hD
  refine lv_lload_n hx hb d_T_shiftOf_0 rfl (lv_at hl 0 rfl) ?_
  refine ts_callS (rest := []) ⟨hx, hb, hml, hown, hts⟩ (c_T_exponentOf l D cL cA cI cZ x _) (va_cwS 1 hts g_T_shiftOf_T_exponentOf rfl rfl rfl (by decide +kernel) ⟨Nat.le_of_ble_eq_true rfl, Nat.le_of_ble_eq_true rfl⟩) hK hP hD hS hA hl.1 [] (by decide) rfl (fun u => rfl) rfl rfl (Nat.le_of_ble_eq_true rfl) d_T_shiftOf_1 ⟨Nat.zero_le _, Nat.zero_le _⟩ (fun v _u H locs hw hP hD hS => ?_)
  have hP : va_P D vwCl [] H := hP
  have hD : va_D A [] := hD
  obtain rfl := hw
  show W _ _ _ _ _ _ _ _ _ _ _ _ _ _ _ (F0 m 4 ls [.int (nI (ts_e x))])
  refine lv_iconst (v := 1) hx hb d_T_shiftOf_4 (by decide) ?_
  refine va_mmax hx hb (hml.trans hl.1.symm) hown (hts (.methodLink R_T 121 Lib.Math.max.name) (by decide +kernel)) (hts (.static Lib.Math.max.name) (by decide +kernel)) (hts (.initialized "java/lang/Math") (by decide +kernel)) (hts (.code Lib.Math.max.name Lib.Math.max.code 2 (some .int)) (by decide +kernel)) (Nat.le_of_ble_eq_true rfl) (Nat.le_of_ble_eq_true rfl) (Nat.zero_le _) (Nat.zero_le _) d_T_shiftOf_5 ?_
  refine lv_topi (fun z7 e_z7 => ?_)
  refine lv_iconst (v := 1) hx hb d_T_shiftOf_8 (by decide) ?_
  refine lv_isub hx hb d_T_shiftOf_9 ?_
  refine lv_topi (fun z8 e_z8 => ?_)
  have hz : z8 = nI (ts_s x) := by rw [e_z8, e_z7]; exact ts_shf x
  exact W.iret (v := z8) hx hb hr (fun t ht hW => ts_ret (u := ()) hP hD hK hS (by rw [hz]) ht hW) hS.2.2 d_T_shiftOf_10

set_option maxHeartbeats 4000000 in
set_option maxRecDepth 100000 in
theorem c_T_powerAt (l : Launch) (D : va_G) (cL cA cI cZ : ClassId) (x : Int32) (sz : Nat) : Met l y_T_powerAt w_T_powerAt (ts_rm 1) (va_Pc [.int x] (ts_A D vwCl (ts_ty cL cA cI cZ) [] sz)) (ts_Q (fun (v : Option Value) (u : Unit) => v = some (.int (if x = -100000 then -100000 else x - 3222))) (fun u => ts_B D vwCl (ts_ty cL cA cI cZ) (va_A [] sz) (([] : va_W))) (va_A [] sz)) 0 0 (va_A [] sz) := by
  refine ts_met (cc := b_T_powerAt) (maxL := 1) (ret := (some .int)) (by decide) rfl (Nat.le_of_ble_eq_true rfl) ?_
  intro p e s m below meth c hx hb hr hml hown hts hlocks hname A hA hAe hK hP hD hS hsz ls hl
  have hown : s.vm.findClass R_T = some m.cls := hown
  have hl : lv_has ls 1 [(0, .int x)] := hl
  have hP : va_P D vwCl [] s.heap := hP
  have hD : va_D A [] := hD
  refine lv_iload_n hx hb d_T_powerAt_0 rfl (lv_at hl 0 rfl) ?_
  refine lv_ldc (v := (-100000)) hx hb hown (hts (.constant R_T 127 (-100000)) (by decide +kernel)) d_T_powerAt_1 ?_
  refine lv_icmp_ne (tgt := 11) hx hb d_T_powerAt_3 (by decide) (fun c9 => ?_) (fun c9 => ?_)
  · refine lv_iload_n hx hb d_T_powerAt_11 rfl (lv_at hl 0 rfl) ?_
    refine lv_sipush (v := (-3222)) hx hb d_T_powerAt_12 (by decide) ?_
    refine lv_iadd hx hb d_T_powerAt_15 ?_
    refine lv_topi (fun z10 e_z10 => ?_)
    exact W.iret (v := z10) hx hb hr (fun t ht hW => ts_ret (u := ()) hP hD hK hS (by rw [if_neg c9, e_z10, Int32.sub_eq_add_neg]) ht hW) hS.2.2 d_T_powerAt_16
  · refine lv_ldc (v := (-100000)) hx hb hown (hts (.constant R_T 127 (-100000)) (by decide +kernel)) d_T_powerAt_6 ?_
    refine lv_goto (tgt := 16) hx hb d_T_powerAt_8 (by decide) ?_
    exact W.iret (v := (-100000)) hx hb hr (fun t ht hW => ts_ret (u := ()) hP hD hK hS (by rw [if_pos c9]) ht hW) hS.2.2 d_T_powerAt_16

set_option maxHeartbeats 4000000 in
set_option maxRecDepth 100000 in
theorem c_T_refuseUnlessFinite (l : Launch) (D : va_G) (cL cA cI cZ : ClassId) (x : Int64) (hx9 : ts_e x ≠ 2047) (sz : Nat) : Met l y_T_refuseUnlessFinite w_T_refuseUnlessFinite (ts_rm 2) (va_Pc [.long x] (ts_A D vwCl (ts_ty cL cA cI cZ) [] sz)) (ts_Q (fun (v : Option Value) (u : Unit) => v = none) (fun u => ts_B D vwCl (ts_ty cL cA cI cZ) (va_A [] sz) (([] : va_W))) (va_A [] sz)) 0 0 (va_A [] sz) := by
  refine ts_met (cc := b_T_refuseUnlessFinite) (maxL := 2) (ret := none) (by decide) rfl (Nat.le_of_ble_eq_true rfl) ?_
  intro p e s m below meth c hx hb hr hml hown hts hlocks hname A hA hAe hK hP hD hS hsz ls hl
  have hown : s.vm.findClass R_T = some m.cls := hown
  have hl : lv_has ls 2 [(0, .long x)] := hl
  have hP : va_P D vwCl [] s.heap := hP
  have hD : va_D A [] := hD
  refine lv_lload_n hx hb d_T_refuseUnlessFinite_0 rfl (lv_at hl 0 rfl) ?_
  refine ts_callS (rest := []) ⟨hx, hb, hml, hown, hts⟩ (c_T_exponentOf l D cL cA cI cZ x _) (va_cwS 1 hts g_T_refuseUnlessFinite_T_exponentOf rfl rfl rfl (by decide +kernel) ⟨Nat.le_of_ble_eq_true rfl, Nat.le_of_ble_eq_true rfl⟩) hK hP hD hS hA hl.1 [] (by decide) rfl (fun u => rfl) rfl rfl (Nat.le_of_ble_eq_true rfl) d_T_refuseUnlessFinite_1 ⟨Nat.zero_le _, Nat.zero_le _⟩ (fun v _u H locs hw hP hD hS => ?_)
  have hP : va_P D vwCl [] H := hP
  have hD : va_D A [] := hD
  obtain rfl := hw
  show W _ _ _ _ _ _ _ _ _ _ _ _ _ _ _ (F0 m 4 ls [.int (nI (ts_e x))])
  have he := ts_e_lt x
  refine lv_sipush (v := 2047) hx hb d_T_refuseUnlessFinite_4 (by decide) ?_
  refine lv_icmp_ne (tgt := 20) hx hb d_T_refuseUnlessFinite_7 (by decide) (fun c11 => ?_) (fun c11 => ?_)
  · exact W.vret hx hb hr (fun t ht hW => ts_ret (u := ()) hP hD hK hS rfl ht hW) hS.2.2 d_T_refuseUnlessFinite_20
  · exact absurd ((nI_eq (b := 2047) (by omega) (by decide)).mp c11) hx9

set_option maxHeartbeats 4000000 in
set_option maxRecDepth 100000 in
theorem c_T_refuseUnlessInRange (l : Launch) (D : va_G) (cL cA cI cZ : ClassId) (x : Int32) (hx9 : -1000000 ≤ x.toInt ∧ x.toInt ≤ 1000000) (sz : Nat) : Met l y_T_refuseUnlessInRange w_T_refuseUnlessInRange (ts_rm 1) (va_Pc [.int x] (ts_A D vwCl (ts_ty cL cA cI cZ) [] sz)) (ts_Q (fun (v : Option Value) (u : Unit) => v = none) (fun u => ts_B D vwCl (ts_ty cL cA cI cZ) (va_A [] sz) (([] : va_W))) (va_A [] sz)) 0 0 (va_A [] sz) := by
  refine ts_met (cc := b_T_refuseUnlessInRange) (maxL := 1) (ret := none) (by decide) rfl (Nat.le_of_ble_eq_true rfl) ?_
  intro p e s m below meth c hx hb hr hml hown hts hlocks hname A hA hAe hK hP hD hS hsz ls hl
  have hown : s.vm.findClass R_T = some m.cls := hown
  have hl : lv_has ls 1 [(0, .int x)] := hl
  have hP : va_P D vwCl [] s.heap := hP
  have hD : va_D A [] := hD
  have e1 : (-1000000 : Int32).toInt = -1000000 := by decide +kernel
  have e2 : (1000000 : Int32).toInt = 1000000 := by decide +kernel
  refine lv_iload_n hx hb d_T_refuseUnlessInRange_0 rfl (lv_at hl 0 rfl) ?_
  refine lv_ldc (v := (-1000000)) hx hb hown (hts (.constant R_T 113 (-1000000)) (by decide +kernel)) d_T_refuseUnlessInRange_1 ?_
  refine lv_icmp_lt (tgt := 12) hx hb d_T_refuseUnlessInRange_3 (by decide) (fun c12 => ?_) (fun c12 => ?_)
  · rw [Int32.lt_iff_toInt_lt, e1] at c12; exact absurd c12 (by omega)
  · refine lv_iload_n hx hb d_T_refuseUnlessInRange_6 rfl (lv_at hl 0 rfl) ?_
    refine lv_ldc (v := 1000000) hx hb hown (hts (.constant R_T 114 1000000) (by decide +kernel)) d_T_refuseUnlessInRange_7 ?_
    refine lv_icmp_le (tgt := 22) hx hb d_T_refuseUnlessInRange_9 (by decide) (fun c13 => ?_) (fun c13 => ?_)
    · exact W.vret hx hb hr (fun t ht hW => ts_ret (u := ()) hP hD hK hS rfl ht hW) hS.2.2 d_T_refuseUnlessInRange_22
    · rw [Int32.le_iff_toInt_le, e2] at c13; exact absurd hx9.2 c13

