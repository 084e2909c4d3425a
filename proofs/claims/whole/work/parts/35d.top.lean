set_option maxHeartbeats 4000000 in
set_option maxRecDepth 100000 in
theorem c_M_top (l : Launch) (D : va_G) (cL cA cI cZ : ClassId) (h pa ba : Nat) (th : Int32) (P B : Nat → Int32) (V : Nat → Int) (hM : ts_MS P B V) (x : Int32) (sz : Nat) : Met l y_M_top w_M_top (ts_rm 2) (va_Pc [.ref h, .int x] (ts_A D vwCl (ts_ty cL cA cI cZ) [(h, .inr (2, [.int th, .ref pa, .ref ba])), (pa, .inl (cI, 2400, .inl P)), (ba, .inl (cZ, 10, .inl B))] sz)) (ts_Q (fun (v : Option Value) (u : Int32) => ∃ z : Int32, v = some (.int z) ∧ ((∃ r, r < 8 ∧ x = nI r ∧ u = 0 ∧ ts_tp (V r).natAbs z) ∨ (ts_bad x ∧ u = 1))) (fun u => ts_B D vwCl (ts_ty cL cA cI cZ) (va_A [(h, .inr (2, [.int th, .ref pa, .ref ba])), (pa, .inl (cI, 2400, .inl P)), (ba, .inl (cZ, 10, .inl B))] sz) ([(h, .inr (2, [.int u, .ref pa, .ref ba])), (pa, .inl (cI, 2400, .inl P)), (ba, .inl (cZ, 10, .inl B))])) (va_A [(h, .inr (2, [.int th, .ref pa, .ref ba])), (pa, .inl (cI, 2400, .inl P)), (ba, .inl (cZ, 10, .inl B))] sz)) 0 0 (va_A [(h, .inr (2, [.int th, .ref pa, .ref ba])), (pa, .inl (cI, 2400, .inl P)), (ba, .inl (cZ, 10, .inl B))] sz) := by
  refine ts_met (cc := b_M_top) (maxL := 2) (ret := (some .int)) (by decide) rfl (Nat.le_of_ble_eq_true rfl) ?_
  intro p e s m below meth c hx hb hr hml hown hts hlocks hname A hA hAe hK hP hD hS hsz ls hl
  have hown : s.vm.findClass R_M = some m.cls := hown
  have hl : lv_has ls 2 [(0, .ref h), (1, .int x)] := hl
  have hP : va_P D vwCl [(h, .inr (2, [.int th, .ref pa, .ref ba])), (pa, .inl (cI, 2400, .inl P)), (ba, .inl (cZ, 10, .inl B))] s.heap := hP
  have hD : va_D A [(h, .inr (2, [.int th, .ref pa, .ref ba])), (pa, .inl (cI, 2400, .inl P)), (ba, .inl (cZ, 10, .inl B))] := hD
  refine lv_aload_n hx hb d_M_top_0 rfl (lv_at hl 0 rfl) ?_
  refine lv_iload_n hx hb d_M_top_1 rfl (lv_at hl 1 rfl) ?_
  refine ts_callS (rest := [.ref h]) ⟨hx, hb, hml, hown, hts⟩ (c_M_isSum l D cL cA cI cZ x _) (va_cwS 1 hts g_M_top_M_isSum rfl rfl rfl (by decide +kernel) ⟨Nat.le_of_ble_eq_true rfl, Nat.le_of_ble_eq_true rfl⟩) hK hP hD hS hA hl.1 [] (by decide) rfl (fun u => rfl) rfl rfl (Nat.le_of_ble_eq_true rfl) d_M_top_2 ⟨Nat.zero_le _, Nat.zero_le _⟩ (fun v _u H locs hw hP hD hS => ?_)
  have hP : va_P D vwCl [(h, .inr (2, [.int th, .ref pa, .ref ba])), (pa, .inl (cI, 2400, .inl P)), (ba, .inl (cZ, 10, .inl B))] H := hP
  have hD : va_D A [(h, .inr (2, [.int th, .ref pa, .ref ba])), (pa, .inl (cI, 2400, .inl P)), (ba, .inl (cZ, 10, .inl B))] := hD
  rcases hw with ⟨⟨r, hr8, rfl⟩, rfl⟩ | ⟨hbad, rfl⟩
  · have hl : lv_has ls 2 [(0, .ref h), (1, .int (nI r))] := hl
    show W _ _ _ _ _ _ _ _ _ _ _ _ _ _ _ (F0 m 5 ls [.int 1, .ref h])
    refine lv_iconst (v := 1) hx hb d_M_top_5 (by decide) ?_
    refine ts_callV (rest := []) ⟨hx, hb, hml, hown, hts⟩ (c_M_goes l D cL cA cI cZ h pa ba th P B 1 1 _) (cwV 2 hts g_M_top_M_goes rfl rfl rfl (by decide +kernel) ⟨Nat.le_of_ble_eq_true rfl, Nat.le_of_ble_eq_true rfl⟩) hK hP hD hS hA hl.1 [0, 1, 2] (by decide) rfl (va_recv hK hP (ci := 2) (q0 := 0) rfl rfl) (fun u => rfl) rfl rfl (Nat.le_of_ble_eq_true rfl) d_M_top_6 ⟨Nat.zero_le _, Nat.zero_le _⟩ (fun v u1 H locs hw hP hD hS => ?_)
    have hP : va_P D vwCl [(h, .inr (2, [.int u1, .ref pa, .ref ba])), (pa, .inl (cI, 2400, .inl P)), (ba, .inl (cZ, 10, .inl B))] H := hP
    have hD : va_D A [(h, .inr (2, [.int u1, .ref pa, .ref ba])), (pa, .inl (cI, 2400, .inl P)), (ba, .inl (cZ, 10, .inl B))] := hD
    obtain ⟨rfl, rfl⟩ : u1 = 0 ∧ v = some (.int 1) := by rcases hw with ⟨h1, -⟩ | ⟨-, h1, -⟩ | ⟨-, -, h1, h2⟩ <;> first | exact ⟨h1, h2⟩ | exact absurd h1 (by decide +kernel)
    have hP : va_P D vwCl [(h, .inr (2, [.int 0, .ref pa, .ref ba])), (pa, .inl (cI, 2400, .inl P)), (ba, .inl (cZ, 10, .inl B))] H := hP
    have hD : va_D A [(h, .inr (2, [.int 0, .ref pa, .ref ba])), (pa, .inl (cI, 2400, .inl P)), (ba, .inl (cZ, 10, .inl B))] := hD
    show W _ _ _ _ _ _ _ _ _ _ _ _ _ _ _ (F0 m 9 ls [.int 1])
    refine lv_if_eq (tgt := 20) hx hb d_M_top_9 (by decide) (fun c2 => ?_) (fun c2 => ?_)
    · first | exact absurd c2 (by decide +kernel) | exact absurd rfl c2 | exact absurd (by decide +kernel) c2
    · refine lv_aload_n hx hb d_M_top_12 rfl (lv_at hl 0 rfl) ?_
      refine lv_iload_n hx hb d_M_top_13 rfl (lv_at hl 1 rfl) ?_
      refine ts_callV (rest := []) ⟨hx, hb, hml, hown, hts⟩ (c_M_highest l D cL cA cI cZ h pa ba 0 P B r (by omega) hM.1 _) (cwV 1 hts g_M_top_M_highest rfl rfl rfl (by decide +kernel) ⟨Nat.le_of_ble_eq_true rfl, Nat.le_of_ble_eq_true rfl⟩) hK hP hD hS hA hl.1 [0, 1, 2] (by decide) rfl (va_recv hK hP (ci := 2) (q0 := 0) rfl rfl) (fun u => rfl) rfl rfl (Nat.le_of_ble_eq_true rfl) d_M_top_14 ⟨Nat.zero_le _, Nat.zero_le _⟩ (fun v _u H locs hw hP hD hS => ?_)
      have hP : va_P D vwCl [(h, .inr (2, [.int 0, .ref pa, .ref ba])), (pa, .inl (cI, 2400, .inl P)), (ba, .inl (cZ, 10, .inl B))] H := hP
      have hD : va_D A [(h, .inr (2, [.int 0, .ref pa, .ref ba])), (pa, .inl (cI, 2400, .inl P)), (ba, .inl (cZ, 10, .inl B))] := hD
      obtain ⟨z, rfl, hz⟩ := hw
      show W _ _ _ _ _ _ _ _ _ _ _ _ _ _ _ (F0 m 17 ls [.int z])
      rw [hM.abs hr8] at hz
      refine lv_goto (tgt := 21) hx hb d_M_top_17 (by decide) ?_
      exact W.iret (v := z) hx hb hr (fun t ht hW => ts_ret (u := 0) hP hD hK hS ⟨_, rfl, Or.inl ⟨r, hr8, rfl, rfl, hz⟩⟩ ht hW) hS.2.2 d_M_top_21
  · show W _ _ _ _ _ _ _ _ _ _ _ _ _ _ _ (F0 m 5 ls [.int 0, .ref h])
    refine lv_iconst (v := 1) hx hb d_M_top_5 (by decide) ?_
    refine ts_callV (rest := []) ⟨hx, hb, hml, hown, hts⟩ (c_M_goes l D cL cA cI cZ h pa ba th P B 0 1 _) (cwV 2 hts g_M_top_M_goes rfl rfl rfl (by decide +kernel) ⟨Nat.le_of_ble_eq_true rfl, Nat.le_of_ble_eq_true rfl⟩) hK hP hD hS hA hl.1 [0, 1, 2] (by decide) rfl (va_recv hK hP (ci := 2) (q0 := 0) rfl rfl) (fun u => rfl) rfl rfl (Nat.le_of_ble_eq_true rfl) d_M_top_6 ⟨Nat.zero_le _, Nat.zero_le _⟩ (fun v u1 H locs hw hP hD hS => ?_)
    have hP : va_P D vwCl [(h, .inr (2, [.int u1, .ref pa, .ref ba])), (pa, .inl (cI, 2400, .inl P)), (ba, .inl (cZ, 10, .inl B))] H := hP
    have hD : va_D A [(h, .inr (2, [.int u1, .ref pa, .ref ba])), (pa, .inl (cI, 2400, .inl P)), (ba, .inl (cZ, 10, .inl B))] := hD
    obtain ⟨rfl, rfl⟩ : u1 = 1 ∧ v = some (.int 0) := by rcases hw with ⟨-, h1, h2⟩ | ⟨h1, -⟩ | ⟨h1, -⟩ <;> first | exact ⟨h1, h2⟩ | exact absurd rfl h1
    have hP : va_P D vwCl [(h, .inr (2, [.int 1, .ref pa, .ref ba])), (pa, .inl (cI, 2400, .inl P)), (ba, .inl (cZ, 10, .inl B))] H := hP
    have hD : va_D A [(h, .inr (2, [.int 1, .ref pa, .ref ba])), (pa, .inl (cI, 2400, .inl P)), (ba, .inl (cZ, 10, .inl B))] := hD
    show W _ _ _ _ _ _ _ _ _ _ _ _ _ _ _ (F0 m 9 ls [.int 0])
    refine lv_if_eq (tgt := 20) hx hb d_M_top_9 (by decide) (fun c1 => ?_) (fun c1 => ?_)
    · refine lv_iconst (v := 0) hx hb d_M_top_20 (by decide) ?_
      exact W.iret (v := 0) hx hb hr (fun t ht hW => ts_ret (u := 1) hP hD hK hS ⟨_, rfl, Or.inr ⟨hbad, rfl⟩⟩ ht hW) hS.2.2 d_M_top_21
    · first | exact absurd c1 (by decide +kernel) | exact absurd rfl c1 | exact absurd (by decide +kernel) c1

set_option maxHeartbeats 4000000 in
set_option maxRecDepth 100000 in
theorem c_M_bottom (l : Launch) (D : va_G) (cL cA cI cZ : ClassId) (h pa ba : Nat) (th : Int32) (P B : Nat → Int32) (V : Nat → Int) (hM : ts_MS P B V) (x : Int32) (sz : Nat) : Met l y_M_bottom w_M_bottom (ts_rm 2) (va_Pc [.ref h, .int x] (ts_A D vwCl (ts_ty cL cA cI cZ) [(h, .inr (2, [.int th, .ref pa, .ref ba])), (pa, .inl (cI, 2400, .inl P)), (ba, .inl (cZ, 10, .inl B))] sz)) (ts_Q (fun (v : Option Value) (u : Int32) => ∃ z : Int32, v = some (.int z) ∧ ((∃ r, r < 8 ∧ x = nI r ∧ u = 0 ∧ ts_bt (V r).natAbs z) ∨ (ts_bad x ∧ u = 1))) (fun u => ts_B D vwCl (ts_ty cL cA cI cZ) (va_A [(h, .inr (2, [.int th, .ref pa, .ref ba])), (pa, .inl (cI, 2400, .inl P)), (ba, .inl (cZ, 10, .inl B))] sz) ([(h, .inr (2, [.int u, .ref pa, .ref ba])), (pa, .inl (cI, 2400, .inl P)), (ba, .inl (cZ, 10, .inl B))])) (va_A [(h, .inr (2, [.int th, .ref pa, .ref ba])), (pa, .inl (cI, 2400, .inl P)), (ba, .inl (cZ, 10, .inl B))] sz)) 0 0 (va_A [(h, .inr (2, [.int th, .ref pa, .ref ba])), (pa, .inl (cI, 2400, .inl P)), (ba, .inl (cZ, 10, .inl B))] sz) := by
  refine ts_met (cc := b_M_bottom) (maxL := 2) (ret := (some .int)) (by decide) rfl (Nat.le_of_ble_eq_true rfl) ?_
  intro p e s m below meth c hx hb hr hml hown hts hlocks hname A hA hAe hK hP hD hS hsz ls hl
  have hown : s.vm.findClass R_M = some m.cls := hown
  have hl : lv_has ls 2 [(0, .ref h), (1, .int x)] := hl
  have hP : va_P D vwCl [(h, .inr (2, [.int th, .ref pa, .ref ba])), (pa, .inl (cI, 2400, .inl P)), (ba, .inl (cZ, 10, .inl B))] s.heap := hP
  have hD : va_D A [(h, .inr (2, [.int th, .ref pa, .ref ba])), (pa, .inl (cI, 2400, .inl P)), (ba, .inl (cZ, 10, .inl B))] := hD
  refine lv_aload_n hx hb d_M_bottom_0 rfl (lv_at hl 0 rfl) ?_
  refine lv_iload_n hx hb d_M_bottom_1 rfl (lv_at hl 1 rfl) ?_
  refine ts_callS (rest := [.ref h]) ⟨hx, hb, hml, hown, hts⟩ (c_M_isSum l D cL cA cI cZ x _) (va_cwS 1 hts g_M_bottom_M_isSum rfl rfl rfl (by decide +kernel) ⟨Nat.le_of_ble_eq_true rfl, Nat.le_of_ble_eq_true rfl⟩) hK hP hD hS hA hl.1 [] (by decide) rfl (fun u => rfl) rfl rfl (Nat.le_of_ble_eq_true rfl) d_M_bottom_2 ⟨Nat.zero_le _, Nat.zero_le _⟩ (fun v _u H locs hw hP hD hS => ?_)
  have hP : va_P D vwCl [(h, .inr (2, [.int th, .ref pa, .ref ba])), (pa, .inl (cI, 2400, .inl P)), (ba, .inl (cZ, 10, .inl B))] H := hP
  have hD : va_D A [(h, .inr (2, [.int th, .ref pa, .ref ba])), (pa, .inl (cI, 2400, .inl P)), (ba, .inl (cZ, 10, .inl B))] := hD
  rcases hw with ⟨⟨r, hr8, rfl⟩, rfl⟩ | ⟨hbad, rfl⟩
  · have hl : lv_has ls 2 [(0, .ref h), (1, .int (nI r))] := hl
    show W _ _ _ _ _ _ _ _ _ _ _ _ _ _ _ (F0 m 5 ls [.int 1, .ref h])
    refine lv_iconst (v := 1) hx hb d_M_bottom_5 (by decide) ?_
    refine ts_callV (rest := []) ⟨hx, hb, hml, hown, hts⟩ (c_M_goes l D cL cA cI cZ h pa ba th P B 1 1 _) (cwV 2 hts g_M_bottom_M_goes rfl rfl rfl (by decide +kernel) ⟨Nat.le_of_ble_eq_true rfl, Nat.le_of_ble_eq_true rfl⟩) hK hP hD hS hA hl.1 [0, 1, 2] (by decide) rfl (va_recv hK hP (ci := 2) (q0 := 0) rfl rfl) (fun u => rfl) rfl rfl (Nat.le_of_ble_eq_true rfl) d_M_bottom_6 ⟨Nat.zero_le _, Nat.zero_le _⟩ (fun v u1 H locs hw hP hD hS => ?_)
    have hP : va_P D vwCl [(h, .inr (2, [.int u1, .ref pa, .ref ba])), (pa, .inl (cI, 2400, .inl P)), (ba, .inl (cZ, 10, .inl B))] H := hP
    have hD : va_D A [(h, .inr (2, [.int u1, .ref pa, .ref ba])), (pa, .inl (cI, 2400, .inl P)), (ba, .inl (cZ, 10, .inl B))] := hD
    obtain ⟨rfl, rfl⟩ : u1 = 0 ∧ v = some (.int 1) := by rcases hw with ⟨h1, -⟩ | ⟨-, h1, -⟩ | ⟨-, -, h1, h2⟩ <;> first | exact ⟨h1, h2⟩ | exact absurd h1 (by decide +kernel)
    have hP : va_P D vwCl [(h, .inr (2, [.int 0, .ref pa, .ref ba])), (pa, .inl (cI, 2400, .inl P)), (ba, .inl (cZ, 10, .inl B))] H := hP
    have hD : va_D A [(h, .inr (2, [.int 0, .ref pa, .ref ba])), (pa, .inl (cI, 2400, .inl P)), (ba, .inl (cZ, 10, .inl B))] := hD
    show W _ _ _ _ _ _ _ _ _ _ _ _ _ _ _ (F0 m 9 ls [.int 1])
    refine lv_if_eq (tgt := 20) hx hb d_M_bottom_9 (by decide) (fun c4 => ?_) (fun c4 => ?_)
    · first | exact absurd c4 (by decide +kernel) | exact absurd rfl c4 | exact absurd (by decide +kernel) c4
    · refine lv_aload_n hx hb d_M_bottom_12 rfl (lv_at hl 0 rfl) ?_
      refine lv_iload_n hx hb d_M_bottom_13 rfl (lv_at hl 1 rfl) ?_
      refine ts_callV (rest := []) ⟨hx, hb, hml, hown, hts⟩ (c_M_lowest l D cL cA cI cZ h pa ba 0 P B r (by omega) hM.1 _) (cwV 1 hts g_M_bottom_M_lowest rfl rfl rfl (by decide +kernel) ⟨Nat.le_of_ble_eq_true rfl, Nat.le_of_ble_eq_true rfl⟩) hK hP hD hS hA hl.1 [0, 1, 2] (by decide) rfl (va_recv hK hP (ci := 2) (q0 := 0) rfl rfl) (fun u => rfl) rfl rfl (Nat.le_of_ble_eq_true rfl) d_M_bottom_14 ⟨Nat.zero_le _, Nat.zero_le _⟩ (fun v _u H locs hw hP hD hS => ?_)
      have hP : va_P D vwCl [(h, .inr (2, [.int 0, .ref pa, .ref ba])), (pa, .inl (cI, 2400, .inl P)), (ba, .inl (cZ, 10, .inl B))] H := hP
      have hD : va_D A [(h, .inr (2, [.int 0, .ref pa, .ref ba])), (pa, .inl (cI, 2400, .inl P)), (ba, .inl (cZ, 10, .inl B))] := hD
      obtain ⟨z, rfl, hz⟩ := hw
      show W _ _ _ _ _ _ _ _ _ _ _ _ _ _ _ (F0 m 17 ls [.int z])
      rw [hM.abs hr8] at hz
      refine lv_goto (tgt := 21) hx hb d_M_bottom_17 (by decide) ?_
      exact W.iret (v := z) hx hb hr (fun t ht hW => ts_ret (u := 0) hP hD hK hS ⟨_, rfl, Or.inl ⟨r, hr8, rfl, rfl, hz⟩⟩ ht hW) hS.2.2 d_M_bottom_21
  · show W _ _ _ _ _ _ _ _ _ _ _ _ _ _ _ (F0 m 5 ls [.int 0, .ref h])
    refine lv_iconst (v := 1) hx hb d_M_bottom_5 (by decide) ?_
    refine ts_callV (rest := []) ⟨hx, hb, hml, hown, hts⟩ (c_M_goes l D cL cA cI cZ h pa ba th P B 0 1 _) (cwV 2 hts g_M_bottom_M_goes rfl rfl rfl (by decide +kernel) ⟨Nat.le_of_ble_eq_true rfl, Nat.le_of_ble_eq_true rfl⟩) hK hP hD hS hA hl.1 [0, 1, 2] (by decide) rfl (va_recv hK hP (ci := 2) (q0 := 0) rfl rfl) (fun u => rfl) rfl rfl (Nat.le_of_ble_eq_true rfl) d_M_bottom_6 ⟨Nat.zero_le _, Nat.zero_le _⟩ (fun v u1 H locs hw hP hD hS => ?_)
    have hP : va_P D vwCl [(h, .inr (2, [.int u1, .ref pa, .ref ba])), (pa, .inl (cI, 2400, .inl P)), (ba, .inl (cZ, 10, .inl B))] H := hP
    have hD : va_D A [(h, .inr (2, [.int u1, .ref pa, .ref ba])), (pa, .inl (cI, 2400, .inl P)), (ba, .inl (cZ, 10, .inl B))] := hD
    obtain ⟨rfl, rfl⟩ : u1 = 1 ∧ v = some (.int 0) := by rcases hw with ⟨-, h1, h2⟩ | ⟨h1, -⟩ | ⟨h1, -⟩ <;> first | exact ⟨h1, h2⟩ | exact absurd rfl h1
    have hP : va_P D vwCl [(h, .inr (2, [.int 1, .ref pa, .ref ba])), (pa, .inl (cI, 2400, .inl P)), (ba, .inl (cZ, 10, .inl B))] H := hP
    have hD : va_D A [(h, .inr (2, [.int 1, .ref pa, .ref ba])), (pa, .inl (cI, 2400, .inl P)), (ba, .inl (cZ, 10, .inl B))] := hD
    show W _ _ _ _ _ _ _ _ _ _ _ _ _ _ _ (F0 m 9 ls [.int 0])
    refine lv_if_eq (tgt := 20) hx hb d_M_bottom_9 (by decide) (fun c3 => ?_) (fun c3 => ?_)
    · refine lv_iconst (v := 0) hx hb d_M_bottom_20 (by decide) ?_
      exact W.iret (v := 0) hx hb hr (fun t ht hW => ts_ret (u := 1) hP hD hK hS ⟨_, rfl, Or.inr ⟨hbad, rfl⟩⟩ ht hW) hS.2.2 d_M_bottom_21
    · first | exact absurd c3 (by decide +kernel) | exact absurd rfl c3 | exact absurd (by decide +kernel) c3

set_option maxHeartbeats 4000000 in
set_option maxRecDepth 100000 in
theorem c_M_bit (l : Launch) (D : va_G) (cL cA cI cZ : ClassId) (h pa ba : Nat) (th : Int32) (P B : Nat → Int32) (V : Nat → Int) (hM : ts_MS P B V) (x y : Int32) (sz : Nat) : Met l y_M_bit w_M_bit (ts_rm 2) (va_Pc [.ref h, .int x, .int y] (ts_A D vwCl (ts_ty cL cA cI cZ) [(h, .inr (2, [.int th, .ref pa, .ref ba])), (pa, .inl (cI, 2400, .inl P)), (ba, .inl (cZ, 10, .inl B))] sz)) (ts_Q (fun (v : Option Value) (u : Int32) => ∃ z : Int32, v = some (.int z) ∧ ((∃ r, r < 8 ∧ x = nI r ∧ u = 0 ∧ z = if ts_ib (V r).natAbs (y.toInt + 3222) = true then 1 else 0) ∨ (ts_bad x ∧ u = 1))) (fun u => ts_B D vwCl (ts_ty cL cA cI cZ) (va_A [(h, .inr (2, [.int th, .ref pa, .ref ba])), (pa, .inl (cI, 2400, .inl P)), (ba, .inl (cZ, 10, .inl B))] sz) ([(h, .inr (2, [.int u, .ref pa, .ref ba])), (pa, .inl (cI, 2400, .inl P)), (ba, .inl (cZ, 10, .inl B))])) (va_A [(h, .inr (2, [.int th, .ref pa, .ref ba])), (pa, .inl (cI, 2400, .inl P)), (ba, .inl (cZ, 10, .inl B))] sz)) 0 0 (va_A [(h, .inr (2, [.int th, .ref pa, .ref ba])), (pa, .inl (cI, 2400, .inl P)), (ba, .inl (cZ, 10, .inl B))] sz) := by
  refine ts_met (cc := b_M_bit) (maxL := 3) (ret := (some .boolean)) (by decide) rfl (Nat.le_of_ble_eq_true rfl) ?_
  intro p e s m below meth c hx hb hr hml hown hts hlocks hname A hA hAe hK hP hD hS hsz ls hl
  have hown : s.vm.findClass R_M = some m.cls := hown
  have hl : lv_has ls 3 [(0, .ref h), (1, .int x), (2, .int y)] := hl
  have hP : va_P D vwCl [(h, .inr (2, [.int th, .ref pa, .ref ba])), (pa, .inl (cI, 2400, .inl P)), (ba, .inl (cZ, 10, .inl B))] s.heap := hP
  have hD : va_D A [(h, .inr (2, [.int th, .ref pa, .ref ba])), (pa, .inl (cI, 2400, .inl P)), (ba, .inl (cZ, 10, .inl B))] := hD
  refine lv_aload_n hx hb d_M_bit_0 rfl (lv_at hl 0 rfl) ?_
  refine lv_iload_n hx hb d_M_bit_1 rfl (lv_at hl 1 rfl) ?_
  refine ts_callS (rest := [.ref h]) ⟨hx, hb, hml, hown, hts⟩ (c_M_isSum l D cL cA cI cZ x _) (va_cwS 1 hts g_M_bit_M_isSum rfl rfl rfl (by decide +kernel) ⟨Nat.le_of_ble_eq_true rfl, Nat.le_of_ble_eq_true rfl⟩) hK hP hD hS hA hl.1 [] (by decide) rfl (fun u => rfl) rfl rfl (Nat.le_of_ble_eq_true rfl) d_M_bit_2 ⟨Nat.zero_le _, Nat.zero_le _⟩ (fun v _u H locs hw hP hD hS => ?_)
  have hP : va_P D vwCl [(h, .inr (2, [.int th, .ref pa, .ref ba])), (pa, .inl (cI, 2400, .inl P)), (ba, .inl (cZ, 10, .inl B))] H := hP
  have hD : va_D A [(h, .inr (2, [.int th, .ref pa, .ref ba])), (pa, .inl (cI, 2400, .inl P)), (ba, .inl (cZ, 10, .inl B))] := hD
  rcases hw with ⟨⟨r, hr8, rfl⟩, rfl⟩ | ⟨hbad, rfl⟩
  · have hl : lv_has ls 3 [(0, .ref h), (1, .int (nI r)), (2, .int y)] := hl
    show W _ _ _ _ _ _ _ _ _ _ _ _ _ _ _ (F0 m 5 ls [.int 1, .ref h])
    refine lv_iconst (v := 1) hx hb d_M_bit_5 (by decide) ?_
    refine ts_callV (rest := []) ⟨hx, hb, hml, hown, hts⟩ (c_M_goes l D cL cA cI cZ h pa ba th P B 1 1 _) (cwV 2 hts g_M_bit_M_goes rfl rfl rfl (by decide +kernel) ⟨Nat.le_of_ble_eq_true rfl, Nat.le_of_ble_eq_true rfl⟩) hK hP hD hS hA hl.1 [0, 1, 2] (by decide) rfl (va_recv hK hP (ci := 2) (q0 := 0) rfl rfl) (fun u => rfl) rfl rfl (Nat.le_of_ble_eq_true rfl) d_M_bit_6 ⟨Nat.zero_le _, Nat.zero_le _⟩ (fun v u1 H locs hw hP hD hS => ?_)
    have hP : va_P D vwCl [(h, .inr (2, [.int u1, .ref pa, .ref ba])), (pa, .inl (cI, 2400, .inl P)), (ba, .inl (cZ, 10, .inl B))] H := hP
    have hD : va_D A [(h, .inr (2, [.int u1, .ref pa, .ref ba])), (pa, .inl (cI, 2400, .inl P)), (ba, .inl (cZ, 10, .inl B))] := hD
    obtain ⟨rfl, rfl⟩ : u1 = 0 ∧ v = some (.int 1) := by rcases hw with ⟨h1, -⟩ | ⟨-, h1, -⟩ | ⟨-, -, h1, h2⟩ <;> first | exact ⟨h1, h2⟩ | exact absurd h1 (by decide +kernel)
    have hP : va_P D vwCl [(h, .inr (2, [.int 0, .ref pa, .ref ba])), (pa, .inl (cI, 2400, .inl P)), (ba, .inl (cZ, 10, .inl B))] H := hP
    have hD : va_D A [(h, .inr (2, [.int 0, .ref pa, .ref ba])), (pa, .inl (cI, 2400, .inl P)), (ba, .inl (cZ, 10, .inl B))] := hD
    show W _ _ _ _ _ _ _ _ _ _ _ _ _ _ _ (F0 m 9 ls [.int 1])
    refine lv_if_eq (tgt := 26) hx hb d_M_bit_9 (by decide) (fun c6 => ?_) (fun c6 => ?_)
    · first | exact absurd c6 (by decide +kernel) | exact absurd rfl c6 | exact absurd (by decide +kernel) c6
    · refine lv_aload_n hx hb d_M_bit_12 rfl (lv_at hl 0 rfl) ?_
      refine lv_iload_n hx hb d_M_bit_13 rfl (lv_at hl 1 rfl) ?_
      refine lv_iload_n hx hb d_M_bit_14 rfl (lv_at hl 2 rfl) ?_
      refine lv_i2l hx hb d_M_bit_15 rfl ?_
      have hy1 := Int32.le_toInt y
      have hy2 := Int32.toInt_lt y
      have hy3 : (Int32.toInt64 y).toInt = y.toInt := Int32.toInt_toInt64 y
      refine ts_callV (rest := []) ⟨hx, hb, hml, hown, hts⟩ (c_M_has l D cL cA cI cZ h pa ba 0 P B r (Int32.toInt64 y) (by omega) hM.1 (by omega) (by omega) _) (cwV 2 hts g_M_bit_M_has rfl rfl rfl (by decide +kernel) ⟨Nat.le_of_ble_eq_true rfl, Nat.le_of_ble_eq_true rfl⟩) hK hP hD hS hA hl.1 [0, 1, 2] (by decide) rfl (va_recv hK hP (ci := 2) (q0 := 0) rfl rfl) (fun u => rfl) rfl rfl (Nat.le_of_ble_eq_true rfl) d_M_bit_16 ⟨Nat.zero_le _, Nat.zero_le _⟩ (fun v _u H locs hw hP hD hS => ?_)
      have hP : va_P D vwCl [(h, .inr (2, [.int 0, .ref pa, .ref ba])), (pa, .inl (cI, 2400, .inl P)), (ba, .inl (cZ, 10, .inl B))] H := hP
      have hD : va_D A [(h, .inr (2, [.int 0, .ref pa, .ref ba])), (pa, .inl (cI, 2400, .inl P)), (ba, .inl (cZ, 10, .inl B))] := hD
      obtain rfl := hw
      rw [hy3, hM.abs hr8]
      show W _ _ _ _ _ _ _ _ _ _ _ _ _ _ _ (F0 m 19 ls [.int (if ts_ib (V r).natAbs (y.toInt + 3222) = true then 1 else 0)])
      refine lv_if_eq (tgt := 26) hx hb d_M_bit_19 (by decide) (fun c7 => ?_) (fun c7 => ?_)
      · have h0 : ¬ ts_ib (V r).natAbs (y.toInt + 3222) = true := fun z => by rw [if_pos z] at c7; exact absurd c7 (by decide +kernel)
        refine lv_iconst (v := 0) hx hb d_M_bit_26 (by decide) ?_
        exact W.zret (v := 0) hx hb hr (by decide +kernel) (fun t ht hW => ts_ret (u := 0) hP hD hK hS ⟨_, rfl, Or.inl ⟨r, hr8, rfl, rfl, by rw [if_neg h0]⟩⟩ ht hW) hS.2.2 d_M_bit_27
      · have h0 : ts_ib (V r).natAbs (y.toInt + 3222) = true := by
          by_cases z : ts_ib (V r).natAbs (y.toInt + 3222) = true
          · exact z
          · rw [if_neg z] at c7; exact absurd rfl c7
        refine lv_iconst (v := 1) hx hb d_M_bit_22 (by decide) ?_
        refine lv_goto (tgt := 27) hx hb d_M_bit_23 (by decide) ?_
        exact W.zret (v := 1) hx hb hr (by decide +kernel) (fun t ht hW => ts_ret (u := 0) hP hD hK hS ⟨_, rfl, Or.inl ⟨r, hr8, rfl, rfl, by rw [if_pos h0]⟩⟩ ht hW) hS.2.2 d_M_bit_27
  · show W _ _ _ _ _ _ _ _ _ _ _ _ _ _ _ (F0 m 5 ls [.int 0, .ref h])
    refine lv_iconst (v := 1) hx hb d_M_bit_5 (by decide) ?_
    refine ts_callV (rest := []) ⟨hx, hb, hml, hown, hts⟩ (c_M_goes l D cL cA cI cZ h pa ba th P B 0 1 _) (cwV 2 hts g_M_bit_M_goes rfl rfl rfl (by decide +kernel) ⟨Nat.le_of_ble_eq_true rfl, Nat.le_of_ble_eq_true rfl⟩) hK hP hD hS hA hl.1 [0, 1, 2] (by decide) rfl (va_recv hK hP (ci := 2) (q0 := 0) rfl rfl) (fun u => rfl) rfl rfl (Nat.le_of_ble_eq_true rfl) d_M_bit_6 ⟨Nat.zero_le _, Nat.zero_le _⟩ (fun v u1 H locs hw hP hD hS => ?_)
    have hP : va_P D vwCl [(h, .inr (2, [.int u1, .ref pa, .ref ba])), (pa, .inl (cI, 2400, .inl P)), (ba, .inl (cZ, 10, .inl B))] H := hP
    have hD : va_D A [(h, .inr (2, [.int u1, .ref pa, .ref ba])), (pa, .inl (cI, 2400, .inl P)), (ba, .inl (cZ, 10, .inl B))] := hD
    obtain ⟨rfl, rfl⟩ : u1 = 1 ∧ v = some (.int 0) := by rcases hw with ⟨-, h1, h2⟩ | ⟨h1, -⟩ | ⟨h1, -⟩ <;> first | exact ⟨h1, h2⟩ | exact absurd rfl h1
    have hP : va_P D vwCl [(h, .inr (2, [.int 1, .ref pa, .ref ba])), (pa, .inl (cI, 2400, .inl P)), (ba, .inl (cZ, 10, .inl B))] H := hP
    have hD : va_D A [(h, .inr (2, [.int 1, .ref pa, .ref ba])), (pa, .inl (cI, 2400, .inl P)), (ba, .inl (cZ, 10, .inl B))] := hD
    show W _ _ _ _ _ _ _ _ _ _ _ _ _ _ _ (F0 m 9 ls [.int 0])
    refine lv_if_eq (tgt := 26) hx hb d_M_bit_9 (by decide) (fun c5 => ?_) (fun c5 => ?_)
    · refine lv_iconst (v := 0) hx hb d_M_bit_26 (by decide) ?_
      exact W.zret (v := 0) hx hb hr (by decide +kernel) (fun t ht hW => ts_ret (u := 1) hP hD hK hS ⟨_, rfl, Or.inr ⟨hbad, rfl⟩⟩ ht hW) hS.2.2 d_M_bit_27
    · first | exact absurd c5 (by decide +kernel) | exact absurd rfl c5 | exact absurd (by decide +kernel) c5

