set_option maxHeartbeats 4000000 in
set_option maxRecDepth 100000 in
theorem c_J_nlz (l : Launch) (D : va_G) (cL cA cI cZ : ClassId) (x : Int64) (hx0 : uN x ≠ 0) (hx9 : uN x < 4294967296) (sz : Nat) : Met l y_J_numberOfLeadingZeros w_J_numberOfLeadingZeros (ts_rm 2) (va_Pc [.long x] (ts_A D vwCl (ts_ty cL cA cI cZ) [] sz)) (ts_Q (fun (v : Option Value) (u : Unit) => ∃ q : Nat, ts_Top (uN x) q ∧ q ≤ 31 ∧ v = some (.int (nI (63 - q)))) (fun u => ts_B D vwCl (ts_ty cL cA cI cZ) (va_A [] sz) (([] : va_W))) (va_A [] sz)) 0 0 (va_A [] sz) := by
  refine ts_met (cc := b_J_numberOfLeadingZeros) (maxL := 3) (ret := (some .int)) (by decide) rfl (Nat.le_of_ble_eq_true rfl) ?_
  intro p e s m below meth c hx hb hr hml hown hts hlocks hname A hA hAe hK hP hD hS hsz ls hl
  have hown : s.vm.findClass R_J = some m.cls := hown
  have hl : lv_has ls 3 [(0, .long x)] := hl
  have hP : va_P D vwCl [] s.heap := hP
  have hD : va_D A [] := hD
  refine lv_lload_n hx hb d_J_numberOfLeadingZeros_0 rfl (lv_at hl 0 rfl) ?_
  refine lv_bipush (v := 32) hx hb d_J_numberOfLeadingZeros_1 (by decide) ?_
  refine lv_lushr hx hb d_J_numberOfLeadingZeros_3 rfl ?_
  refine lv_topl (fun z1 e_z1 => ?_)
  refine lv_l2i hx hb d_J_numberOfLeadingZeros_4 rfl ?_
  refine lv_topi (fun z2 e_z2 => ?_)
  refine lv_istore_n (lv' := [(2, .int z2), (0, .long x)]) hx hb d_J_numberOfLeadingZeros_5 rfl hl (by decide) rfl (fun ls hl => ?_)
  refine lv_iload_n hx hb d_J_numberOfLeadingZeros_6 rfl (lv_at hl 0 rfl) ?_
  have h2 : z2 = 0 := by
    have q1 := uN_s32 x
    rw [e_z2, e_z1, ts_l2i (n := uN x / 4294967296) q1 (by omega)]
    rw [Nat.div_eq_of_lt hx9]; rfl
  refine lv_if_ne (tgt := 21) hx hb d_J_numberOfLeadingZeros_7 (by decide) (fun c3 => ?_) (fun c3 => ?_)
  · exact absurd h2 c3
  · refine lv_bipush (v := 32) hx hb d_J_numberOfLeadingZeros_10 (by decide) ?_
    refine lv_lload_n hx hb d_J_numberOfLeadingZeros_12 rfl (lv_at hl 1 rfl) ?_
    refine lv_l2i hx hb d_J_numberOfLeadingZeros_13 rfl ?_
    refine lv_topi (fun z4 e_z4 => ?_)
    obtain rfl : z4 = (nI (uN x)) := e_z4.trans (ts_l2iN x)
    refine ts_callS (rest := [.int 32]) ⟨hx, hb, hml, hown, hts⟩ (c_I_nlz l D cL cA cI cZ (uN x) (by omega) hx9 _) (va_cwS 1 hts g_J_numberOfLeadingZeros_I_numberOfLeadingZeros rfl rfl rfl (by decide +kernel) ⟨Nat.le_of_ble_eq_true rfl, Nat.le_of_ble_eq_true rfl⟩) hK hP hD hS hA hl.1 [] (by decide) rfl (fun u => rfl) rfl rfl (Nat.le_of_ble_eq_true rfl) d_J_numberOfLeadingZeros_14 ⟨Nat.zero_le _, Nat.zero_le _⟩ (fun v _u H locs hw hP hD hS => ?_)
    have hP : va_P D vwCl [] H := hP
    have hD : va_D A [] := hD
    obtain ⟨q, q1, q2, rfl⟩ := hw
    show W _ _ _ _ _ _ _ _ _ _ _ _ _ _ _ (F0 m 17 ls [.int (nI (31 - q)), .int 32])
    refine lv_iadd hx hb d_J_numberOfLeadingZeros_17 ?_
    refine lv_topi (fun z5 e_z5 => ?_)
    refine lv_goto (tgt := 25) hx hb d_J_numberOfLeadingZeros_18 (by decide) ?_
    have hz : z5 = nI (63 - q) := by rw [e_z5, show (32 : Int32) = nI 32 from rfl, nI_add]; congr 1; omega
    exact W.iret (v := z5) hx hb hr (fun t ht hW => ts_ret (u := ()) hP hD hK hS ⟨q, q1, q2, by rw [hz]⟩ ht hW) hS.2.2 d_J_numberOfLeadingZeros_25

set_option maxHeartbeats 4000000 in
set_option maxRecDepth 100000 in
theorem c_J_ntz (l : Launch) (D : va_G) (cL cA cI cZ : ClassId) (x : Int64) (hx0 : uN x ≠ 0) (hx9 : uN x < 4294967296) (sz : Nat) : Met l y_J_numberOfTrailingZeros w_J_numberOfTrailingZeros (ts_rm 2) (va_Pc [.long x] (ts_A D vwCl (ts_ty cL cA cI cZ) [] sz)) (ts_Q (fun (v : Option Value) (u : Unit) => ∃ q : Nat, ts_Bot (uN x) q ∧ q ≤ 31 ∧ v = some (.int (nI q))) (fun u => ts_B D vwCl (ts_ty cL cA cI cZ) (va_A [] sz) (([] : va_W))) (va_A [] sz)) 0 0 (va_A [] sz) := by
  refine ts_met (cc := b_J_numberOfTrailingZeros) (maxL := 3) (ret := (some .int)) (by decide) rfl (Nat.le_of_ble_eq_true rfl) ?_
  intro p e s m below meth c hx hb hr hml hown hts hlocks hname A hA hAe hK hP hD hS hsz ls hl
  have hown : s.vm.findClass R_J = some m.cls := hown
  have hl : lv_has ls 3 [(0, .long x)] := hl
  have hP : va_P D vwCl [] s.heap := hP
  have hD : va_D A [] := hD
  refine lv_lload_n hx hb d_J_numberOfTrailingZeros_0 rfl (lv_at hl 0 rfl) ?_
  refine lv_l2i hx hb d_J_numberOfTrailingZeros_1 rfl ?_
  refine lv_topi (fun z6 e_z6 => ?_)
  obtain rfl : z6 = (nI (uN x)) := e_z6.trans (ts_l2iN x)
  refine lv_istore_n (lv' := [(2, .int (nI (uN x))), (0, .long x)]) hx hb d_J_numberOfTrailingZeros_2 rfl hl (by decide) rfl (fun ls hl => ?_)
  refine lv_iload_n hx hb d_J_numberOfTrailingZeros_3 rfl (lv_at hl 0 rfl) ?_
  refine lv_if_ne (tgt := 21) hx hb d_J_numberOfTrailingZeros_4 (by decide) (fun c7 => ?_) (fun c7 => ?_)
  · refine lv_iload_n hx hb d_J_numberOfTrailingZeros_21 rfl (lv_at hl 0 rfl) ?_
    refine ts_callS (rest := []) ⟨hx, hb, hml, hown, hts⟩ (c_I_ntz l D cL cA cI cZ (uN x) (by omega) hx9 _) (va_cwS 1 hts g_J_numberOfTrailingZeros_I_numberOfTrailingZeros rfl rfl rfl (by decide +kernel) ⟨Nat.le_of_ble_eq_true rfl, Nat.le_of_ble_eq_true rfl⟩) hK hP hD hS hA hl.1 [] (by decide) rfl (fun u => rfl) rfl rfl (Nat.le_of_ble_eq_true rfl) d_J_numberOfTrailingZeros_22 ⟨Nat.zero_le _, Nat.zero_le _⟩ (fun v _u H locs hw hP hD hS => ?_)
    have hP : va_P D vwCl [] H := hP
    have hD : va_D A [] := hD
    obtain ⟨q, q1, q2, rfl⟩ := hw
    show W _ _ _ _ _ _ _ _ _ _ _ _ _ _ _ (F0 m 25 ls [.int (nI q)])
    exact W.iret (v := (nI q)) hx hb hr (fun t ht hW => ts_ret (u := ()) hP hD hK hS ⟨q, q1, q2, rfl⟩ ht hW) hS.2.2 d_J_numberOfTrailingZeros_25
  · exact absurd c7 (ts_nI0 (by omega) hx9)

