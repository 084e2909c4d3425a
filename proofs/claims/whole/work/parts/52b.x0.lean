set_option maxHeartbeats 4000000 in
set_option maxRecDepth 100000 in
theorem cx_T_sumAt (l : Launch) (hl0 : l.stackTraces = false) (D : va_G) (cL cA cI cZ : ClassId) (o sA : Nat) (w a : Nat → Nat) (f : Nat → Nat → Int64) (x : Int32) (hbad : ts_bad x) (sz : Nat) : vx_Met l y_T_sumAt wx_T_sumAt ({ frames := 6, cells := 1, slots := 6, locals := 90 }) (va_Pc [.ref o, .int x] (fun U => ts_A D vwCl (ts_ty cL cA cI cZ) (ts_w cL cA o sA w a f) sz U ∧ ts_KX (va_A (ts_w cL cA o sA w a f) sz) U)) (fun _ _ _ _ => False) (ts_X ts_IO (fun (u : Unit) => True) (fun u => ts_B D vwCl (ts_ty cL cA cI cZ) (va_A (ts_w cL cA o sA w a f) sz) ((ts_w cL cA o sA w a f))) (va_A (ts_w cL cA o sA w a f) sz)) 1 6 (va_A (ts_w cL cA o sA w a f) sz) := by
  refine ts_metX (cc := b_T_sumAt) (maxL := 2) (ret := (some (.object "TripleSums$Whole"))) (by decide) rfl (Nat.le_of_ble_eq_true rfl) ?_
  intro p e s m below meth c hx hb hr hml hown hts hlocks hE A hA hAe hKX hK hP hD hS hsz ls hl
  have hown : s.vm.findClass R_T = some m.cls := hown
  have hl : lv_has ls 2 [(0, .ref o), (1, .int x)] := hl
  have hP : va_P D vwCl (ts_w cL cA o sA w a f) s.heap := hP
  have hD : va_D A (ts_w cL cA o sA w a f) := hD
  refine lv_iload_n hx hb d_T_sumAt_0 rfl (lv_at hl 1 rfl) ?_
  refine lv_if_lt (tgt := 10) hx hb d_T_sumAt_1 (by decide) (fun c1 => ?_) (fun c1 => ?_)
  · obtain ⟨sa, hsa⟩ := hKX.2.1.1
    exact vx_throwS (own := R_T) (cls := ts_IO) (text := "there is no such sum") (names := ts_RE) (ik := 100) (is := 102) (ic := 104) (A := A) hx hb hl0 hown (by decide +kernel) (by decide +kernel) (hts (.classLink R_T 100 ts_IO) (by decide +kernel)) (hts (.initialized ts_IO) (by decide +kernel)) hsa (ts_hatIO (fun w hw => hts w ((fun _ h => List.mem_cons_of_mem _ (List.mem_append_right _ h)) w hw)) hKX.2) (by decide +kernel) hKX.1.1 hKX.1.2 hS (hl.1.trans hml.symm) d_T_sumAt_10 d_T_sumAt_13 d_T_sumAt_14 d_T_sumAt_16 d_T_sumAt_19 (fun x hx => (hE x hx).elim) (by decide) (Nat.le_of_ble_eq_true rfl) (Nat.le_of_ble_eq_true rfl) (Nat.le_of_ble_eq_true rfl) hlocks (ts_thrown (u := ()) hK hP hD hS trivial) hS.2.2 (Nat.le_of_ble_eq_true rfl) (Nat.le_of_ble_eq_true rfl)
  · refine lv_iload_n hx hb d_T_sumAt_4 rfl (lv_at hl 1 rfl) ?_
    refine lv_bipush (v := 8) hx hb d_T_sumAt_5 (by decide) ?_
    refine lv_icmp_lt (tgt := 20) hx hb d_T_sumAt_7 (by decide) (fun c2 => ?_) (fun c2 => ?_)
    · exact (hbad.elim (fun z => c1 z) (fun z => absurd c2 (Int32.not_lt.mpr z))).elim
    · obtain ⟨sa, hsa⟩ := hKX.2.1.1
      exact vx_throwS (own := R_T) (cls := ts_IO) (text := "there is no such sum") (names := ts_RE) (ik := 100) (is := 102) (ic := 104) (A := A) hx hb hl0 hown (by decide +kernel) (by decide +kernel) (hts (.classLink R_T 100 ts_IO) (by decide +kernel)) (hts (.initialized ts_IO) (by decide +kernel)) hsa (ts_hatIO (fun w hw => hts w ((fun _ h => List.mem_cons_of_mem _ (List.mem_append_right _ h)) w hw)) hKX.2) (by decide +kernel) hKX.1.1 hKX.1.2 hS (hl.1.trans hml.symm) d_T_sumAt_10 d_T_sumAt_13 d_T_sumAt_14 d_T_sumAt_16 d_T_sumAt_19 (fun x hx => (hE x hx).elim) (by decide) (Nat.le_of_ble_eq_true rfl) (Nat.le_of_ble_eq_true rfl) (Nat.le_of_ble_eq_true rfl) hlocks (ts_thrown (u := ()) hK hP hD hS trivial) hS.2.2 (Nat.le_of_ble_eq_true rfl) (Nat.le_of_ble_eq_true rfl)

set_option maxHeartbeats 4000000 in
set_option maxRecDepth 100000 in
theorem cx_T_refuseUnlessFinite (l : Launch) (hl0 : l.stackTraces = false) (D : va_G) (cL cA cI cZ : ClassId) (x : Int64) (hx9 : ts_e x = 2047) (sz : Nat) : vx_Met l y_T_refuseUnlessFinite wx_T_refuseUnlessFinite ({ frames := 6, cells := 1, slots := 6, locals := 90 }) (va_Pc [.long x] (fun U => ts_A D vwCl (ts_ty cL cA cI cZ) ([] : va_W) sz U ∧ ts_KX (va_A ([] : va_W) sz) U)) (fun _ _ _ _ => False) (ts_X ts_IA (fun (u : Unit) => True) (fun u => ts_B D vwCl (ts_ty cL cA cI cZ) (va_A ([] : va_W) sz) (([] : va_W))) (va_A ([] : va_W) sz)) 1 6 (va_A ([] : va_W) sz) := by
  refine ts_metX (cc := b_T_refuseUnlessFinite) (maxL := 2) (ret := none) (by decide) rfl (Nat.le_of_ble_eq_true rfl) ?_
  intro p e s m below meth c hx hb hr hml hown hts hlocks hE A hA hAe hKX hK hP hD hS hsz ls hl
  have hown : s.vm.findClass R_T = some m.cls := hown
  have hl : lv_has ls 2 [(0, .long x)] := hl
  have hP : va_P D vwCl ([] : va_W) s.heap := hP
  have hD : va_D A ([] : va_W) := hD
  refine lv_lload_n hx hb d_T_refuseUnlessFinite_0 rfl (lv_at hl 0 rfl) ?_
  refine ts_callS (rest := []) ⟨hx, hb, hml, hown, hts⟩ (c_T_exponentOf l D cL cA cI cZ x _) (va_cwS 1 hts g_xT_refuseUnlessFinite_T_exponentOf rfl rfl rfl (by decide +kernel) ⟨Nat.le_of_ble_eq_true rfl, Nat.le_of_ble_eq_true rfl⟩) hK hP hD hS hA hl.1 [] (by decide) rfl (fun u => rfl) rfl rfl (Nat.le_of_ble_eq_true rfl) d_T_refuseUnlessFinite_1 ⟨Nat.zero_le _, Nat.zero_le _⟩ (fun v _u H locs hw hP hD hS => ?_)
  have hP : va_P D vwCl [] H := hP
  have hD : va_D A [] := hD
  obtain rfl := hw
  show W _ _ _ _ _ _ _ _ _ _ _ _ _ _ _ (F0 m 4 ls [.int (nI (ts_e x))])
  refine lv_sipush (v := 2047) hx hb d_T_refuseUnlessFinite_4 (by decide) ?_
  refine lv_icmp_ne (tgt := 20) hx hb d_T_refuseUnlessFinite_7 (by decide) (fun c3 => ?_) (fun c3 => ?_)
  · exact absurd (by rw [hx9]; decide +kernel) c3
  · obtain ⟨sa, hsa⟩ := hKX.2.1.2.1
    exact vx_throwS (own := R_T) (cls := ts_IA) (text := "the bits are no finite number") (names := ts_RE) (ik := 108) (is := 110) (ic := 112) (A := A) hx hb hl0 hown (by decide +kernel) (by decide +kernel) (hts (.classLink R_T 108 ts_IA) (by decide +kernel)) (hts (.initialized ts_IA) (by decide +kernel)) hsa (ts_hatIA (fun w hw => hts w ((fun _ h => List.mem_cons_of_mem _ (List.mem_append_right _ h)) w hw)) hKX.2) (by decide +kernel) hKX.1.1 hKX.1.2 hS (hl.1.trans hml.symm) d_T_refuseUnlessFinite_10 d_T_refuseUnlessFinite_13 d_T_refuseUnlessFinite_14 d_T_refuseUnlessFinite_16 d_T_refuseUnlessFinite_19 (fun x hx => (hE x hx).elim) (by decide) (Nat.le_of_ble_eq_true rfl) (Nat.le_of_ble_eq_true rfl) (Nat.le_of_ble_eq_true rfl) hlocks (ts_thrown (u := ()) hK hP hD hS trivial) hS.2.2 (Nat.le_of_ble_eq_true rfl) (Nat.le_of_ble_eq_true rfl)

set_option maxHeartbeats 4000000 in
set_option maxRecDepth 100000 in
theorem cx_T_refuseUnlessInRange (l : Launch) (hl0 : l.stackTraces = false) (D : va_G) (cL cA cI cZ : ClassId) (x : Int32) (hx9 : ¬ (-1000000 ≤ x.toInt ∧ x.toInt ≤ 1000000)) (sz : Nat) : vx_Met l y_T_refuseUnlessInRange wx_T_refuseUnlessInRange ({ frames := 6, cells := 1, slots := 6, locals := 90 }) (va_Pc [.int x] (fun U => ts_A D vwCl (ts_ty cL cA cI cZ) ([] : va_W) sz U ∧ ts_KX (va_A ([] : va_W) sz) U)) (fun _ _ _ _ => False) (ts_X ts_IA (fun (u : Unit) => True) (fun u => ts_B D vwCl (ts_ty cL cA cI cZ) (va_A ([] : va_W) sz) (([] : va_W))) (va_A ([] : va_W) sz)) 1 6 (va_A ([] : va_W) sz) := by
  refine ts_metX (cc := b_T_refuseUnlessInRange) (maxL := 1) (ret := none) (by decide) rfl (Nat.le_of_ble_eq_true rfl) ?_
  intro p e s m below meth c hx hb hr hml hown hts hlocks hE A hA hAe hKX hK hP hD hS hsz ls hl
  have hown : s.vm.findClass R_T = some m.cls := hown
  have hl : lv_has ls 1 [(0, .int x)] := hl
  have hP : va_P D vwCl ([] : va_W) s.heap := hP
  have hD : va_D A ([] : va_W) := hD
  have e1 : (-1000000 : Int32).toInt = -1000000 := by decide +kernel
  have e2 : (1000000 : Int32).toInt = 1000000 := by decide +kernel
  refine lv_iload_n hx hb d_T_refuseUnlessInRange_0 rfl (lv_at hl 0 rfl) ?_
  refine lv_ldc (v := (-1000000)) hx hb hown (hts (.constant R_T 113 (-1000000)) (by decide +kernel)) d_T_refuseUnlessInRange_1 ?_
  refine lv_icmp_lt (tgt := 12) hx hb d_T_refuseUnlessInRange_3 (by decide) (fun c4 => ?_) (fun c4 => ?_)
  · obtain ⟨sa, hsa⟩ := hKX.2.1.2.2.1
    exact vx_throwS (own := R_T) (cls := ts_IA) (text := "times is not -1000000 .. 1000000") (names := ts_RE) (ik := 108) (is := 115) (ic := 112) (A := A) hx hb hl0 hown (by decide +kernel) (by decide +kernel) (hts (.classLink R_T 108 ts_IA) (by decide +kernel)) (hts (.initialized ts_IA) (by decide +kernel)) hsa (ts_hatIA (fun w hw => hts w ((fun _ h => List.mem_cons_of_mem _ (List.mem_append_right _ h)) w hw)) hKX.2) (by decide +kernel) hKX.1.1 hKX.1.2 hS (hl.1.trans hml.symm) d_T_refuseUnlessInRange_12 d_T_refuseUnlessInRange_15 d_T_refuseUnlessInRange_16 d_T_refuseUnlessInRange_18 d_T_refuseUnlessInRange_21 (fun x hx => (hE x hx).elim) (by decide) (Nat.le_of_ble_eq_true rfl) (Nat.le_of_ble_eq_true rfl) (Nat.le_of_ble_eq_true rfl) hlocks (ts_thrown (u := ()) hK hP hD hS trivial) hS.2.2 (Nat.le_of_ble_eq_true rfl) (Nat.le_of_ble_eq_true rfl)
  · refine lv_iload_n hx hb d_T_refuseUnlessInRange_6 rfl (lv_at hl 0 rfl) ?_
    refine lv_ldc (v := 1000000) hx hb hown (hts (.constant R_T 114 1000000) (by decide +kernel)) d_T_refuseUnlessInRange_7 ?_
    refine lv_icmp_le (tgt := 22) hx hb d_T_refuseUnlessInRange_9 (by decide) (fun c5 => ?_) (fun c5 => ?_)
    · rw [Int32.lt_iff_toInt_lt, e1] at c4
      rw [Int32.le_iff_toInt_le, e2] at c5
      exact absurd ⟨by omega, by omega⟩ hx9
    · obtain ⟨sa, hsa⟩ := hKX.2.1.2.2.1
      exact vx_throwS (own := R_T) (cls := ts_IA) (text := "times is not -1000000 .. 1000000") (names := ts_RE) (ik := 108) (is := 115) (ic := 112) (A := A) hx hb hl0 hown (by decide +kernel) (by decide +kernel) (hts (.classLink R_T 108 ts_IA) (by decide +kernel)) (hts (.initialized ts_IA) (by decide +kernel)) hsa (ts_hatIA (fun w hw => hts w ((fun _ h => List.mem_cons_of_mem _ (List.mem_append_right _ h)) w hw)) hKX.2) (by decide +kernel) hKX.1.1 hKX.1.2 hS (hl.1.trans hml.symm) d_T_refuseUnlessInRange_12 d_T_refuseUnlessInRange_15 d_T_refuseUnlessInRange_16 d_T_refuseUnlessInRange_18 d_T_refuseUnlessInRange_21 (fun x hx => (hE x hx).elim) (by decide) (Nat.le_of_ble_eq_true rfl) (Nat.le_of_ble_eq_true rfl) (Nat.le_of_ble_eq_true rfl) hlocks (ts_thrown (u := ()) hK hP hD hS trivial) hS.2.2 (Nat.le_of_ble_eq_true rfl) (Nat.le_of_ble_eq_true rfl)

