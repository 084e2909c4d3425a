set_option maxHeartbeats 4000000 in
set_option maxRecDepth 100000 in
theorem c_M_mantissa (l : Launch) (D : va_G) (cL cA cI cZ : ClassId) (x : Int64) (sz : Nat) : Met l y_M_mantissa w_M_mantissa (ts_rm 2) (va_Pc [.long x] (ts_A D vwCl (ts_ty cL cA cI cZ) [] sz)) (ts_Q (fun (v : Option Value) (u : Unit) => ∃ r : Int64, v = some (.long r) ∧ uN r = ts_m x) (fun u => ts_B D vwCl (ts_ty cL cA cI cZ) (va_A [] sz) (([] : va_W))) (va_A [] sz)) 0 0 (va_A [] sz) := by
  refine ts_met (cc := b_M_mantissa) (maxL := 4) (ret := (some .long)) (by decide) rfl (Nat.le_of_ble_eq_true rfl) ?_
  intro p e s m below meth c hx hb hr hml hown hts hlocks hname A hA hAe hK hP hD hS hsz ls hl
  have hown : s.vm.findClass R_M = some m.cls := hown
  have hl : lv_has ls 4 [(0, .long x)] := hl
  have hP : va_P D vwCl [] s.heap := hP
  have hD : va_D A [] := hD
  refine lv_lload_n hx hb d_M_mantissa_0 rfl (lv_at hl 0 rfl) ?_
  refine lv_ldc2 (v := 4503599627370495) hx hb hown (hts (.constantLong R_M 35 4503599627370495) (by decide +kernel)) d_M_mantissa_1 ?_
  refine lv_land hx hb d_M_mantissa_4 ?_
  refine lv_topl (fun z1 e_z1 => ?_)
  refine lv_lstore_n (lv' := [(2, .long z1), (0, .long x)]) hx hb d_M_mantissa_5 rfl hl (by decide) rfl (fun ls hl => ?_)
  refine lv_lload_n hx hb d_M_mantissa_6 rfl (lv_at hl 1 rfl) ?_
  refine ts_callS (rest := []) ⟨hx, hb, hml, hown, hts⟩ (c_M_exponent l D cL cA cI cZ x _) (va_cwS 1 hts g_M_mantissa_M_exponent rfl rfl rfl (by decide +kernel) ⟨Nat.le_of_ble_eq_true rfl, Nat.le_of_ble_eq_true rfl⟩) hK hP hD hS hA hl.1 [] (by decide) rfl (fun u => rfl) rfl rfl (Nat.le_of_ble_eq_true rfl) d_M_mantissa_7 ⟨Nat.zero_le _, Nat.zero_le _⟩ (fun v _u H locs hw hP hD hS => ?_)
  have hP : va_P D vwCl [] H := hP
  have hD : va_D A [] := hD
  obtain rfl := hw
  show W _ _ _ _ _ _ _ _ _ _ _ _ _ _ _ (F0 m 10 ls [.int (nI (ts_e x))])
  have he := ts_e_lt x
  refine lv_if_ne (tgt := 17) hx hb d_M_mantissa_10 (by decide) (fun c2 => ?_) (fun c2 => ?_)
  · refine lv_lload_n hx hb d_M_mantissa_17 rfl (lv_at hl 0 rfl) ?_
    refine lv_ldc2 (v := 4503599627370496) hx hb hown (hts (.constantLong R_M 41 4503599627370496) (by decide +kernel)) d_M_mantissa_18 ?_
    refine lv_lor hx hb d_M_mantissa_21 ?_
    refine lv_topl (fun z3 e_z3 => ?_)
    exact W.lret (v := z3) hx hb hr (fun t ht hW => ts_ret (u := ()) hP hD hK hS ⟨_, rfl, by rw [e_z3, e_z1, ts_hid]; unfold ts_m; rw [if_neg (fun q => c2 (by rw [q]; rfl))]⟩ ht hW) hS.2.2 d_M_mantissa_22
  · refine lv_lload_n hx hb d_M_mantissa_13 rfl (lv_at hl 0 rfl) ?_
    refine lv_goto (tgt := 22) hx hb d_M_mantissa_14 (by decide) ?_
    exact W.lret (v := z1) hx hb hr (fun t ht hW => ts_ret (u := ()) hP hD hK hS ⟨_, rfl, by rw [e_z1, ts_frac]; unfold ts_m; rw [if_pos ((nI_eq (b := 0) (by omega) (by decide)).mp c2)]⟩ ht hW) hS.2.2 d_M_mantissa_22

set_option maxHeartbeats 4000000 in
set_option maxRecDepth 100000 in
theorem c_M_power (l : Launch) (D : va_G) (cL cA cI cZ : ClassId) (x : Int64) (sz : Nat) : Met l y_M_power w_M_power (ts_rm 2) (va_Pc [.long x] (ts_A D vwCl (ts_ty cL cA cI cZ) [] sz)) (ts_Q (fun (v : Option Value) (u : Unit) => v = some (.int (nI (ts_s x) - 1074))) (fun u => ts_B D vwCl (ts_ty cL cA cI cZ) (va_A [] sz) (([] : va_W))) (va_A [] sz)) 0 0 (va_A [] sz) := by
  refine ts_met (cc := b_M_power) (maxL := 2) (ret := (some .int)) (by decide) rfl (Nat.le_of_ble_eq_true rfl) ?_
  intro p e s m below meth c hx hb hr hml hown hts hlocks hname A hA hAe hK hP hD hS hsz ls hl
  have hown : s.vm.findClass R_M = some m.cls := hown
  have hl : lv_has ls 2 [(0, .long x)] := hl
  have hP : va_P D vwCl [] s.heap := hP
  have hD : va_D A [] := hD
  refine lv_lload_n hx hb d_M_power_0 rfl (lv_at hl 0 rfl) ?_
  refine ts_callS (rest := []) ⟨hx, hb, hml, hown, hts⟩ (c_M_exponent l D cL cA cI cZ x _) (va_cwS 1 hts g_M_power_M_exponent rfl rfl rfl (by decide +kernel) ⟨Nat.le_of_ble_eq_true rfl, Nat.le_of_ble_eq_true rfl⟩) hK hP hD hS hA hl.1 [] (by decide) rfl (fun u => rfl) rfl rfl (Nat.le_of_ble_eq_true rfl) d_M_power_1 ⟨Nat.zero_le _, Nat.zero_le _⟩ (fun v _u H locs hw hP hD hS => ?_)
  have hP : va_P D vwCl [] H := hP
  have hD : va_D A [] := hD
  obtain rfl := hw
  show W _ _ _ _ _ _ _ _ _ _ _ _ _ _ _ (F0 m 4 ls [.int (nI (ts_e x))])
  have he := ts_e_lt x
  refine lv_if_ne (tgt := 13) hx hb d_M_power_4 (by decide) (fun c4 => ?_) (fun c4 => ?_)
  · have hne : ts_e x ≠ 0 := fun q => c4 (by rw [q]; rfl)
    refine lv_lload_n hx hb d_M_power_13 rfl (lv_at hl 0 rfl) ?_
    refine ts_callS (rest := []) ⟨hx, hb, hml, hown, hts⟩ (c_M_exponent l D cL cA cI cZ x _) (va_cwS 1 hts g_M_power_M_exponent rfl rfl rfl (by decide +kernel) ⟨Nat.le_of_ble_eq_true rfl, Nat.le_of_ble_eq_true rfl⟩) hK hP hD hS hA hl.1 [] (by decide) rfl (fun u => rfl) rfl rfl (Nat.le_of_ble_eq_true rfl) d_M_power_14 ⟨Nat.zero_le _, Nat.zero_le _⟩ (fun v _u H locs hw hP hD hS => ?_)
    have hP : va_P D vwCl [] H := hP
    have hD : va_D A [] := hD
    obtain rfl := hw
    show W _ _ _ _ _ _ _ _ _ _ _ _ _ _ _ (F0 m 17 ls [.int (nI (ts_e x))])
    refine lv_sipush (v := 1075) hx hb d_M_power_17 (by decide) ?_
    refine lv_isub hx hb d_M_power_20 ?_
    refine lv_topi (fun z5 e_z5 => ?_)
    exact W.iret (v := z5) hx hb hr (fun t ht hW => ts_ret (u := ()) hP hD hK hS (by rw [e_z5, ts_pw1 hne]) ht hW) hS.2.2 d_M_power_21
  · refine lv_sipush (v := (-1074)) hx hb d_M_power_7 (by decide) ?_
    refine lv_goto (tgt := 21) hx hb d_M_power_10 (by decide) ?_
    exact W.iret (v := (-1074)) hx hb hr (fun t ht hW => ts_ret (u := ()) hP hD hK hS (by rw [ts_pw0 ((nI_eq (b := 0) (by omega) (by decide)).mp c4)]) ht hW) hS.2.2 d_M_power_21

set_option maxHeartbeats 4000000 in
set_option maxRecDepth 100000 in
theorem c_M_has (l : Launch) (D : va_G) (cL cA cI cZ : ClassId) (h pa ba : Nat) (th : Int32) (P B : Nat → Int32) (r : Nat) (x : Int64) (hr9 : r < 10) (hp : ts_pk P) (hx1 : -8589934592 ≤ x.toInt) (hx2 : x.toInt ≤ 8589934592) (sz : Nat) : Met l y_M_has w_M_has (ts_rm 1) (va_Pc [.ref h, .int (nI r), .long x] (ts_A D vwCl (ts_ty cL cA cI cZ) [(h, .inr (2, [.int th, .ref pa, .ref ba])), (pa, .inl (cI, 2400, .inl P)), (ba, .inl (cZ, 10, .inl B))] sz)) (ts_Q (fun (v : Option Value) (u : Unit) => v = some (.int (if ts_ib (ts_r P r) (x.toInt + 3222) = true then 1 else 0))) (fun u => ts_B D vwCl (ts_ty cL cA cI cZ) (va_A [(h, .inr (2, [.int th, .ref pa, .ref ba])), (pa, .inl (cI, 2400, .inl P)), (ba, .inl (cZ, 10, .inl B))] sz) ([(h, .inr (2, [.int th, .ref pa, .ref ba])), (pa, .inl (cI, 2400, .inl P)), (ba, .inl (cZ, 10, .inl B))])) (va_A [(h, .inr (2, [.int th, .ref pa, .ref ba])), (pa, .inl (cI, 2400, .inl P)), (ba, .inl (cZ, 10, .inl B))] sz)) 0 0 (va_A [(h, .inr (2, [.int th, .ref pa, .ref ba])), (pa, .inl (cI, 2400, .inl P)), (ba, .inl (cZ, 10, .inl B))] sz) := by
  refine ts_met (cc := b_M_has) (maxL := 6) (ret := (some .boolean)) (by decide) rfl (Nat.le_of_ble_eq_true rfl) ?_
  intro p e s m below meth c hx hb hr hml hown hts hlocks hname A hA hAe hK hP hD hS hsz ls hl
  have hown : s.vm.findClass R_M = some m.cls := hown
  have hl : lv_has ls 6 [(0, .ref h), (1, .int (nI r)), (2, .long x)] := hl
  have hP : va_P D vwCl [(h, .inr (2, [.int th, .ref pa, .ref ba])), (pa, .inl (cI, 2400, .inl P)), (ba, .inl (cZ, 10, .inl B))] s.heap := hP
  have hD : va_D A [(h, .inr (2, [.int th, .ref pa, .ref ba])), (pa, .inl (cI, 2400, .inl P)), (ba, .inl (cZ, 10, .inl B))] := hD
  refine lv_lload_n hx hb d_M_has_0 rfl (lv_at hl 2 rfl) ?_
  refine lv_ldc2 (v := (-3222)) hx hb hown (hts (.constantLong R_M 85 (-3222)) (by decide +kernel)) d_M_has_1 ?_
  refine lv_lsub hx hb d_M_has_4 ?_
  refine lv_topl (fun z6 e_z6 => ?_)
  have e3 : (-3222 : Int64).toInt = -3222 := by decide +kernel
  have e1 : Int64.toInt z6 = x.toInt + 3222 := by rw [e_z6, ts_l_sub (by rw [e3]; omega) (by rw [e3]; omega), e3]; omega
  have e0 : (0 : Int64).toInt = 0 := by decide +kernel
  have e6 : (6720 : Int64).toInt = 6720 := by decide +kernel
  refine lv_lstore (lv' := [(4, .long z6), (0, .ref h), (1, .int (nI r)), (2, .long x)]) hx hb d_M_has_5 hl (by decide) rfl (fun ls hl => ?_)
  refine lv_lload hx hb d_M_has_7 (lv_at hl 0 rfl) ?_
  refine lv_lconst (v := 0) hx hb d_M_has_9 (by decide) ?_
  refine W.lcmp hx hb d_M_has_10 ?_
  refine lv_if_lt (tgt := 57) hx hb d_M_has_11 (by decide) (fun c7 => ?_) (fun c7 => ?_)
  · have hlt := (lg_cmp_lt z6 0).mp c7
    rw [Int64.lt_iff_toInt_lt, e0, e1] at hlt
    refine lv_iconst (v := 0) hx hb d_M_has_57 (by decide) ?_
    have hf : ts_ib (ts_r P r) (x.toInt + 3222) = false := ts_hasO hp hr9 (Or.inl hlt)
    exact W.zret (v := 0) hx hb hr (by decide +kernel) (fun t ht hW => ts_ret (u := ()) hP hD hK hS (by rw [hf]; rfl) ht hW) hS.2.2 d_M_has_58
  · have hge : ¬ z6 < 0 := fun q => c7 ((lg_cmp_lt z6 0).mpr q)
    rw [Int64.lt_iff_toInt_lt, e0, e1] at hge
    refine lv_lload hx hb d_M_has_14 (lv_at hl 0 rfl) ?_
    refine lv_ldc2 (v := 6720) hx hb hown (hts (.constantLong R_M 87 6720) (by decide +kernel)) d_M_has_16 ?_
    refine W.lcmp hx hb d_M_has_19 ?_
    refine lv_if_ge (tgt := 57) hx hb d_M_has_20 (by decide) (fun c8 => ?_) (fun c8 => ?_)
    · have hlt := (lg_cmp_ge z6 6720).mp c8
      rw [Int64.le_iff_toInt_le, e6, e1] at hlt
      refine lv_iconst (v := 0) hx hb d_M_has_57 (by decide) ?_
      have hf : ts_ib (ts_r P r) (x.toInt + 3222) = false := ts_hasO hp hr9 (Or.inr hlt)
      exact W.zret (v := 0) hx hb hr (by decide +kernel) (fun t ht hW => ts_ret (u := ()) hP hD hK hS (by rw [hf]; rfl) ht hW) hS.2.2 d_M_has_58
    · have hlt : ¬ (6720 : Int64) ≤ z6 := fun q => c8 ((lg_cmp_ge z6 6720).mpr q)
      rw [Int64.le_iff_toInt_le, e6, e1] at hlt
      obtain ⟨n, hn⟩ : ∃ n : Nat, x.toInt + 3222 = (n : Int) := ⟨(x.toInt + 3222).toNat, by omega⟩
      have hz : z6 = lN n := ts_lNof (by rw [e1, hn])
      have hn6 : n < 6720 := by omega
      refine lv_aload_n hx hb d_M_has_23 rfl (lv_at hl 1 rfl) ?_
      refine va_get (D := D) (ci := 2) (v := .ref pa) (C := R_M) (T := F_M) (N := 3) hx hb hts (by decide +kernel) hown hK hP 0 rfl rfl 1 (by decide) (hts (.fieldLink R_M 7 "TripleSumsModel" "parts" "[I") (by decide +kernel)) (fun _ h9 => h9) rfl d_M_has_24 ?_
      refine lv_sipush (v := 240) hx hb d_M_has_27 (by decide) ?_
      refine lv_iload_n hx hb d_M_has_30 rfl (lv_at hl 2 rfl) ?_
      refine lv_imul hx hb d_M_has_31 ?_
      refine lv_topi (fun z9 e_z9 => ?_)
      refine lv_lload hx hb d_M_has_32 (lv_at hl 0 rfl) ?_
      refine lv_l2i hx hb d_M_has_34 rfl ?_
      refine lv_topi (fun z10 e_z10 => ?_)
      obtain rfl : z10 = (nI n) := e_z10.trans (by rw [hz, lN_i])
      refine lv_bipush (v := 28) hx hb d_M_has_35 (by decide) ?_
      refine lv_idiv hx hb d_M_has_37 (by decide) ?_
      refine lv_topi (fun z11 e_z11 => ?_)
      obtain rfl : z11 = (nI (n / 28)) := e_z11.trans (pk_div (a := n) (d := 28) (by omega) (by decide) (by decide))
      refine lv_iadd hx hb d_M_has_38 ?_
      refine lv_topi (fun z12 e_z12 => ?_)
      obtain rfl : z12 = (nI (240 * r + n / 28)) := e_z12.trans (by rw [e_z9]; exact ts_ix r (n / 28))
      refine va_iald (D := D) hx hb hK hP 1 2 rfl rfl (vp_in_nI (by omega) (by decide)) d_M_has_39 ?_
      refine lv_topi (fun v13 e_v13 => ?_)
      rw [nI_clamp (n := 240 * r + n / 28) (by omega)] at e_v13
      have hv := hp (240 * r + n / 28) (by omega)
      rw [← e_v13] at hv
      refine lv_lload hx hb d_M_has_40 (lv_at hl 0 rfl) ?_
      refine lv_l2i hx hb d_M_has_42 rfl ?_
      refine lv_topi (fun z14 e_z14 => ?_)
      obtain rfl : z14 = (nI n) := e_z14.trans (by rw [hz, lN_i])
      refine lv_bipush (v := 28) hx hb d_M_has_43 (by decide) ?_
      refine lv_irem hx hb d_M_has_45 (by decide) ?_
      refine lv_topi (fun z15 e_z15 => ?_)
      obtain rfl : z15 = (nI (n % 28)) := e_z15.trans (pk_rem (a := n) (d := 28) (by omega) (by decide) (by decide))
      refine lv_ishr hx hb d_M_has_46 ?_
      refine lv_topi (fun z16 e_z16 => ?_)
      refine lv_iconst (v := 1) hx hb d_M_has_47 (by decide) ?_
      refine lv_iand hx hb d_M_has_48 ?_
      refine lv_topi (fun z17 e_z17 => ?_)
      refine lv_iconst (v := 1) hx hb d_M_has_49 (by decide) ?_
      have hb1 := ts_bit1 (k := n % 28) hv (by omega)
      rw [← e_z16, ← e_z17, e_v13, ← ts_has hp hr9 hn6, ← hn] at hb1
      refine lv_icmp_ne (tgt := 57) hx hb d_M_has_50 (by decide) (fun c18 => ?_) (fun c18 => ?_)
      · refine lv_iconst (v := 0) hx hb d_M_has_57 (by decide) ?_
        exact W.zret (v := 0) hx hb hr (by decide +kernel) (fun t ht hW => ts_ret (u := ()) hP hD hK hS (by rw [if_neg (fun q => c18 (hb1.mpr q))]) ht hW) hS.2.2 d_M_has_58
      · refine lv_iconst (v := 1) hx hb d_M_has_53 (by decide) ?_
        refine lv_goto (tgt := 58) hx hb d_M_has_54 (by decide) ?_
        exact W.zret (v := 1) hx hb hr (by decide +kernel) (fun t ht hW => ts_ret (u := ()) hP hD hK hS (by rw [if_pos (hb1.mp c18)]) ht hW) hS.2.2 d_M_has_58

