set_option maxHeartbeats 4000000 in
set_option maxRecDepth 100000 in
theorem c_M_thrown (l : Launch) (D : va_G) (cL cA cI cZ : ClassId) (h pa ba : Nat) (th : Int32) (P B : Nat → Int32) (sz : Nat) : Met l y_M_thrown w_M_thrown (ts_rm 1) (va_Pc [.ref h] (ts_A D vwCl (ts_ty cL cA cI cZ) [(h, .inr (2, [.int th, .ref pa, .ref ba])), (pa, .inl (cI, 2400, .inl P)), (ba, .inl (cZ, 10, .inl B))] sz)) (ts_Q (fun (v : Option Value) (u : Unit) => v = some (.int th)) (fun u => ts_B D vwCl (ts_ty cL cA cI cZ) (va_A [(h, .inr (2, [.int th, .ref pa, .ref ba])), (pa, .inl (cI, 2400, .inl P)), (ba, .inl (cZ, 10, .inl B))] sz) ([(h, .inr (2, [.int th, .ref pa, .ref ba])), (pa, .inl (cI, 2400, .inl P)), (ba, .inl (cZ, 10, .inl B))])) (va_A [(h, .inr (2, [.int th, .ref pa, .ref ba])), (pa, .inl (cI, 2400, .inl P)), (ba, .inl (cZ, 10, .inl B))] sz)) 0 0 (va_A [(h, .inr (2, [.int th, .ref pa, .ref ba])), (pa, .inl (cI, 2400, .inl P)), (ba, .inl (cZ, 10, .inl B))] sz) := by
  refine ts_met (cc := b_M_thrown) (maxL := 1) (ret := (some .int)) (by decide) rfl (Nat.le_of_ble_eq_true rfl) ?_
  intro p e s m below meth c hx hb hr hml hown hts hlocks hname A hA hAe hK hP hD hS hsz ls hl
  have hown : s.vm.findClass R_M = some m.cls := hown
  have hl : lv_has ls 1 [(0, .ref h)] := hl
  have hP : va_P D vwCl [(h, .inr (2, [.int th, .ref pa, .ref ba])), (pa, .inl (cI, 2400, .inl P)), (ba, .inl (cZ, 10, .inl B))] s.heap := hP
  have hD : va_D A [(h, .inr (2, [.int th, .ref pa, .ref ba])), (pa, .inl (cI, 2400, .inl P)), (ba, .inl (cZ, 10, .inl B))] := hD
  refine lv_aload_n hx hb d_M_thrown_0 rfl (lv_at hl 0 rfl) ?_
  refine va_get (D := D) (ci := 2) (v := .int th) (C := R_M) (T := F_M) (N := 3) hx hb hts (by decide +kernel) hown hK hP 0 rfl rfl 0 (by decide) (hts (.fieldLink R_M 17 "TripleSumsModel" "thrown" "I") (by decide +kernel)) (fun _ h9 => h9) rfl d_M_thrown_1 ?_
  exact W.iret (v := th) hx hb hr (fun t ht hW => ts_ret (u := ()) hP hD hK hS rfl ht hW) hS.2.2 d_M_thrown_4

set_option maxHeartbeats 4000000 in
set_option maxRecDepth 100000 in
theorem c_M_goes (l : Launch) (D : va_G) (cL cA cI cZ : ClassId) (h pa ba : Nat) (th : Int32) (P B : Nat → Int32) (x y : Int32) (sz : Nat) : Met l y_M_goes w_M_goes (ts_rm 1) (va_Pc [.ref h, .int x, .int y] (ts_A D vwCl (ts_ty cL cA cI cZ) [(h, .inr (2, [.int th, .ref pa, .ref ba])), (pa, .inl (cI, 2400, .inl P)), (ba, .inl (cZ, 10, .inl B))] sz)) (ts_Q (fun (v : Option Value) (u : Int32) => (x = 0 ∧ u = 1 ∧ v = some (.int 0)) ∨ (¬ x = 0 ∧ y = 0 ∧ u = 2 ∧ v = some (.int 0)) ∨ (¬ x = 0 ∧ ¬ y = 0 ∧ u = 0 ∧ v = some (.int 1))) (fun u => ts_B D vwCl (ts_ty cL cA cI cZ) (va_A [(h, .inr (2, [.int th, .ref pa, .ref ba])), (pa, .inl (cI, 2400, .inl P)), (ba, .inl (cZ, 10, .inl B))] sz) ([(h, .inr (2, [.int u, .ref pa, .ref ba])), (pa, .inl (cI, 2400, .inl P)), (ba, .inl (cZ, 10, .inl B))])) (va_A [(h, .inr (2, [.int th, .ref pa, .ref ba])), (pa, .inl (cI, 2400, .inl P)), (ba, .inl (cZ, 10, .inl B))] sz)) 0 0 (va_A [(h, .inr (2, [.int th, .ref pa, .ref ba])), (pa, .inl (cI, 2400, .inl P)), (ba, .inl (cZ, 10, .inl B))] sz) := by
  refine ts_met (cc := b_M_goes) (maxL := 3) (ret := (some .boolean)) (by decide) rfl (Nat.le_of_ble_eq_true rfl) ?_
  intro p e s m below meth c hx hb hr hml hown hts hlocks hname A hA hAe hK hP hD hS hsz ls hl
  have hown : s.vm.findClass R_M = some m.cls := hown
  have hl : lv_has ls 3 [(0, .ref h), (1, .int x), (2, .int y)] := hl
  have hP : va_P D vwCl [(h, .inr (2, [.int th, .ref pa, .ref ba])), (pa, .inl (cI, 2400, .inl P)), (ba, .inl (cZ, 10, .inl B))] s.heap := hP
  have hD : va_D A [(h, .inr (2, [.int th, .ref pa, .ref ba])), (pa, .inl (cI, 2400, .inl P)), (ba, .inl (cZ, 10, .inl B))] := hD
  refine lv_aload_n hx hb d_M_goes_0 rfl (lv_at hl 0 rfl) ?_
  refine lv_iload_n hx hb d_M_goes_1 rfl (lv_at hl 1 rfl) ?_
  refine lv_if_ne (tgt := 9) hx hb d_M_goes_2 (by decide) (fun c1 => ?_) (fun c1 => ?_)
  · refine lv_iload_n hx hb d_M_goes_9 rfl (lv_at hl 2 rfl) ?_
    refine lv_if_ne (tgt := 17) hx hb d_M_goes_10 (by decide) (fun c3 => ?_) (fun c3 => ?_)
    · refine lv_iconst (v := 0) hx hb d_M_goes_17 (by decide) ?_
      refine va_put (D := D) (ci := 2) (v := .int 0) (ty := .int) (C := R_M) (T := F_M) (N := 3) hx hb hts (by decide +kernel) ft_M ft_M_ok n_M hown hK hP hD hS 0 rfl rfl 0 (by decide) (hts (.fieldLink R_M 17 "TripleSumsModel" "thrown" "I") (by decide +kernel)) (fun _ h9 => h9) rfl (by decide +kernel) rfl rfl (Nat.le_of_ble_eq_true rfl) d_M_goes_18 (fun H locs hP hD hS => ?_)
      have hP : va_P D vwCl [(h, .inr (2, [.int 0, .ref pa, .ref ba])), (pa, .inl (cI, 2400, .inl P)), (ba, .inl (cZ, 10, .inl B))] H := hP
      have hD : va_D A [(h, .inr (2, [.int 0, .ref pa, .ref ba])), (pa, .inl (cI, 2400, .inl P)), (ba, .inl (cZ, 10, .inl B))] := hD
      refine lv_aload_n hx hb d_M_goes_21 rfl (lv_at hl 0 rfl) ?_
      refine va_get (D := D) (ci := 2) (v := .int 0) (C := R_M) (T := F_M) (N := 3) hx hb hts (by decide +kernel) hown hK hP 0 rfl rfl 0 (by decide) (hts (.fieldLink R_M 17 "TripleSumsModel" "thrown" "I") (by decide +kernel)) (fun _ h9 => h9) rfl d_M_goes_22 ?_
      refine lv_if_ne (tgt := 32) hx hb d_M_goes_25 (by decide) (fun c4 => ?_) (fun c4 => ?_)
      · exact absurd rfl c4
      · refine lv_iconst (v := 1) hx hb d_M_goes_28 (by decide) ?_
        refine lv_goto (tgt := 33) hx hb d_M_goes_29 (by decide) ?_
        exact W.zret (v := 1) hx hb hr (by decide +kernel) (fun t ht hW => ts_ret (u := 0) hP hD hK hS (Or.inr (Or.inr ⟨c1, c3, rfl, rfl⟩)) ht hW) hS.2.2 d_M_goes_33
    · refine lv_iconst (v := 2) hx hb d_M_goes_13 (by decide) ?_
      refine lv_goto (tgt := 18) hx hb d_M_goes_14 (by decide) ?_
      refine va_put (D := D) (ci := 2) (v := .int 2) (ty := .int) (C := R_M) (T := F_M) (N := 3) hx hb hts (by decide +kernel) ft_M ft_M_ok n_M hown hK hP hD hS 0 rfl rfl 0 (by decide) (hts (.fieldLink R_M 17 "TripleSumsModel" "thrown" "I") (by decide +kernel)) (fun _ h9 => h9) rfl (by decide +kernel) rfl rfl (Nat.le_of_ble_eq_true rfl) d_M_goes_18 (fun H locs hP hD hS => ?_)
      have hP : va_P D vwCl [(h, .inr (2, [.int 2, .ref pa, .ref ba])), (pa, .inl (cI, 2400, .inl P)), (ba, .inl (cZ, 10, .inl B))] H := hP
      have hD : va_D A [(h, .inr (2, [.int 2, .ref pa, .ref ba])), (pa, .inl (cI, 2400, .inl P)), (ba, .inl (cZ, 10, .inl B))] := hD
      refine lv_aload_n hx hb d_M_goes_21 rfl (lv_at hl 0 rfl) ?_
      refine va_get (D := D) (ci := 2) (v := .int 2) (C := R_M) (T := F_M) (N := 3) hx hb hts (by decide +kernel) hown hK hP 0 rfl rfl 0 (by decide) (hts (.fieldLink R_M 17 "TripleSumsModel" "thrown" "I") (by decide +kernel)) (fun _ h9 => h9) rfl d_M_goes_22 ?_
      refine lv_if_ne (tgt := 32) hx hb d_M_goes_25 (by decide) (fun c5 => ?_) (fun c5 => ?_)
      · refine lv_iconst (v := 0) hx hb d_M_goes_32 (by decide) ?_
        exact W.zret (v := 0) hx hb hr (by decide +kernel) (fun t ht hW => ts_ret (u := 2) hP hD hK hS (Or.inr (Or.inl ⟨c1, c3, rfl, rfl⟩)) ht hW) hS.2.2 d_M_goes_33
      · exact absurd c5 (by decide +kernel)
  · refine lv_iconst (v := 1) hx hb d_M_goes_5 (by decide) ?_
    refine lv_goto (tgt := 18) hx hb d_M_goes_6 (by decide) ?_
    refine va_put (D := D) (ci := 2) (v := .int 1) (ty := .int) (C := R_M) (T := F_M) (N := 3) hx hb hts (by decide +kernel) ft_M ft_M_ok n_M hown hK hP hD hS 0 rfl rfl 0 (by decide) (hts (.fieldLink R_M 17 "TripleSumsModel" "thrown" "I") (by decide +kernel)) (fun _ h9 => h9) rfl (by decide +kernel) rfl rfl (Nat.le_of_ble_eq_true rfl) d_M_goes_18 (fun H locs hP hD hS => ?_)
    have hP : va_P D vwCl [(h, .inr (2, [.int 1, .ref pa, .ref ba])), (pa, .inl (cI, 2400, .inl P)), (ba, .inl (cZ, 10, .inl B))] H := hP
    have hD : va_D A [(h, .inr (2, [.int 1, .ref pa, .ref ba])), (pa, .inl (cI, 2400, .inl P)), (ba, .inl (cZ, 10, .inl B))] := hD
    refine lv_aload_n hx hb d_M_goes_21 rfl (lv_at hl 0 rfl) ?_
    refine va_get (D := D) (ci := 2) (v := .int 1) (C := R_M) (T := F_M) (N := 3) hx hb hts (by decide +kernel) hown hK hP 0 rfl rfl 0 (by decide) (hts (.fieldLink R_M 17 "TripleSumsModel" "thrown" "I") (by decide +kernel)) (fun _ h9 => h9) rfl d_M_goes_22 ?_
    refine lv_if_ne (tgt := 32) hx hb d_M_goes_25 (by decide) (fun c2 => ?_) (fun c2 => ?_)
    · refine lv_iconst (v := 0) hx hb d_M_goes_32 (by decide) ?_
      exact W.zret (v := 0) hx hb hr (by decide +kernel) (fun t ht hW => ts_ret (u := 1) hP hD hK hS (Or.inl ⟨c1, rfl, rfl⟩) ht hW) hS.2.2 d_M_goes_33
    · exact absurd c2 (by decide +kernel)

set_option maxHeartbeats 4000000 in
set_option maxRecDepth 100000 in
theorem c_M_isSum (l : Launch) (D : va_G) (cL cA cI cZ : ClassId) (x : Int32) (sz : Nat) : Met l y_M_isSum w_M_isSum (ts_rm 1) (va_Pc [.int x] (ts_A D vwCl (ts_ty cL cA cI cZ) [] sz)) (ts_Q (fun (v : Option Value) (u : Unit) => ((∃ r : Nat, r < 8 ∧ x = nI r) ∧ v = some (.int 1)) ∨ ((x < 0 ∨ (8 : Int32) ≤ x) ∧ v = some (.int 0))) (fun u => ts_B D vwCl (ts_ty cL cA cI cZ) (va_A [] sz) (([] : va_W))) (va_A [] sz)) 0 0 (va_A [] sz) := by
  refine ts_met (cc := b_M_isSum) (maxL := 1) (ret := (some .boolean)) (by decide) rfl (Nat.le_of_ble_eq_true rfl) ?_
  intro p e s m below meth c hx hb hr hml hown hts hlocks hname A hA hAe hK hP hD hS hsz ls hl
  have hown : s.vm.findClass R_M = some m.cls := hown
  have hl : lv_has ls 1 [(0, .int x)] := hl
  have hP : va_P D vwCl [] s.heap := hP
  have hD : va_D A [] := hD
  refine lv_iload_n hx hb d_M_isSum_0 rfl (lv_at hl 0 rfl) ?_
  refine lv_if_lt (tgt := 14) hx hb d_M_isSum_1 (by decide) (fun c6 => ?_) (fun c6 => ?_)
  · refine lv_iconst (v := 0) hx hb d_M_isSum_14 (by decide) ?_
    exact W.zret (v := 0) hx hb hr (by decide +kernel) (fun t ht hW => ts_ret (u := ()) hP hD hK hS (Or.inr ⟨Or.inl c6, rfl⟩) ht hW) hS.2.2 d_M_isSum_15
  · refine lv_iload_n hx hb d_M_isSum_4 rfl (lv_at hl 0 rfl) ?_
    refine lv_bipush (v := 8) hx hb d_M_isSum_5 (by decide) ?_
    refine lv_icmp_ge (tgt := 14) hx hb d_M_isSum_7 (by decide) (fun c7 => ?_) (fun c7 => ?_)
    · refine lv_iconst (v := 0) hx hb d_M_isSum_14 (by decide) ?_
      exact W.zret (v := 0) hx hb hr (by decide +kernel) (fun t ht hW => ts_ret (u := ()) hP hD hK hS (Or.inr ⟨Or.inr c7, rfl⟩) ht hW) hS.2.2 d_M_isSum_15
    · refine lv_iconst (v := 1) hx hb d_M_isSum_10 (by decide) ?_
      refine lv_goto (tgt := 15) hx hb d_M_isSum_11 (by decide) ?_
      exact W.zret (v := 1) hx hb hr (by decide +kernel) (fun t ht hW => ts_ret (u := ()) hP hD hK hS (Or.inl ⟨ts_is8 c6 c7, rfl⟩) ht hW) hS.2.2 d_M_isSum_15

set_option maxHeartbeats 4000000 in
set_option maxRecDepth 100000 in
theorem c_M_isTimes (l : Launch) (D : va_G) (cL cA cI cZ : ClassId) (x : Int32) (sz : Nat) : Met l y_M_isTimes w_M_isTimes (ts_rm 1) (va_Pc [.int x] (ts_A D vwCl (ts_ty cL cA cI cZ) [] sz)) (ts_Q (fun (v : Option Value) (u : Unit) => ((-1000000 ≤ x.toInt ∧ x.toInt ≤ 1000000) ∧ v = some (.int 1)) ∨ ((x < (-1000000) ∨ (1000000 : Int32) < x) ∧ v = some (.int 0))) (fun u => ts_B D vwCl (ts_ty cL cA cI cZ) (va_A [] sz) (([] : va_W))) (va_A [] sz)) 0 0 (va_A [] sz) := by
  refine ts_met (cc := b_M_isTimes) (maxL := 1) (ret := (some .boolean)) (by decide) rfl (Nat.le_of_ble_eq_true rfl) ?_
  intro p e s m below meth c hx hb hr hml hown hts hlocks hname A hA hAe hK hP hD hS hsz ls hl
  have hown : s.vm.findClass R_M = some m.cls := hown
  have hl : lv_has ls 1 [(0, .int x)] := hl
  have hP : va_P D vwCl [] s.heap := hP
  have hD : va_D A [] := hD
  refine lv_iload_n hx hb d_M_isTimes_0 rfl (lv_at hl 0 rfl) ?_
  refine lv_ldc (v := (-1000000)) hx hb hown (hts (.constant R_M 21 (-1000000)) (by decide +kernel)) d_M_isTimes_1 ?_
  refine lv_icmp_lt (tgt := 16) hx hb d_M_isTimes_3 (by decide) (fun c8 => ?_) (fun c8 => ?_)
  · refine lv_iconst (v := 0) hx hb d_M_isTimes_16 (by decide) ?_
    exact W.zret (v := 0) hx hb hr (by decide +kernel) (fun t ht hW => ts_ret (u := ()) hP hD hK hS (Or.inr ⟨Or.inl c8, rfl⟩) ht hW) hS.2.2 d_M_isTimes_17
  · refine lv_iload_n hx hb d_M_isTimes_6 rfl (lv_at hl 0 rfl) ?_
    refine lv_ldc (v := 1000000) hx hb hown (hts (.constant R_M 22 1000000) (by decide +kernel)) d_M_isTimes_7 ?_
    refine lv_icmp_gt (tgt := 16) hx hb d_M_isTimes_9 (by decide) (fun c9 => ?_) (fun c9 => ?_)
    · refine lv_iconst (v := 0) hx hb d_M_isTimes_16 (by decide) ?_
      exact W.zret (v := 0) hx hb hr (by decide +kernel) (fun t ht hW => ts_ret (u := ()) hP hD hK hS (Or.inr ⟨Or.inr c9, rfl⟩) ht hW) hS.2.2 d_M_isTimes_17
    · refine lv_iconst (v := 1) hx hb d_M_isTimes_12 (by decide) ?_
      refine lv_goto (tgt := 17) hx hb d_M_isTimes_13 (by decide) ?_
      exact W.zret (v := 1) hx hb hr (by decide +kernel) (fun t ht hW => ts_ret (u := ()) hP hD hK hS (Or.inl ⟨ts_isT c8 c9, rfl⟩) ht hW) hS.2.2 d_M_isTimes_17

set_option maxHeartbeats 4000000 in
set_option maxRecDepth 100000 in
theorem c_M_exponent (l : Launch) (D : va_G) (cL cA cI cZ : ClassId) (x : Int64) (sz : Nat) : Met l y_M_exponent w_M_exponent (ts_rm 1) (va_Pc [.long x] (ts_A D vwCl (ts_ty cL cA cI cZ) [] sz)) (ts_Q (fun (v : Option Value) (u : Unit) => v = some (.int (nI (ts_e x)))) (fun u => ts_B D vwCl (ts_ty cL cA cI cZ) (va_A [] sz) (([] : va_W))) (va_A [] sz)) 0 0 (va_A [] sz) := by
  refine ts_met (cc := b_M_exponent) (maxL := 2) (ret := (some .int)) (by decide) rfl (Nat.le_of_ble_eq_true rfl) ?_
  intro p e s m below meth c hx hb hr hml hown hts hlocks hname A hA hAe hK hP hD hS hsz ls hl
  have hown : s.vm.findClass R_M = some m.cls := hown
  have hl : lv_has ls 2 [(0, .long x)] := hl
  have hP : va_P D vwCl [] s.heap := hP
  have hD : va_D A [] := hD
  refine lv_lload_n hx hb d_M_exponent_0 rfl (lv_at hl 0 rfl) ?_
  refine lv_bipush (v := 52) hx hb d_M_exponent_1 (by decide) ?_
  refine lv_lushr hx hb d_M_exponent_3 rfl ?_
  refine lv_topl (fun z10 e_z10 => ?_)
  refine lv_ldc2 (v := 2047) hx hb hown (hts (.constantLong R_M 33 2047) (by decide +kernel)) d_M_exponent_4 ?_
  refine lv_land hx hb d_M_exponent_7 ?_
  refine lv_topl (fun z11 e_z11 => ?_)
  refine lv_l2i hx hb d_M_exponent_8 rfl ?_
  refine lv_topi (fun z12 e_z12 => ?_)
  have hz : z12 = nI (ts_e x) := by
    subst e_z10 e_z11 e_z12
    exact ts_expR x
  exact W.iret (v := z12) hx hb hr (fun t ht hW => ts_ret (u := ()) hP hD hK hS (by rw [hz]) ht hW) hS.2.2 d_M_exponent_9

