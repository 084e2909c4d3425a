set_option maxHeartbeats 4000000 in
set_option maxRecDepth 100000 in
theorem c_M_clear (l : Launch) (D : va_G) (cL cA cI cZ : ClassId) (h pa ba : Nat) (th : Int32) (P B : Nat → Int32) (V : Nat → Int) (hM : ts_MS P B V) (x : Int32) (sz : Nat) : Met l y_M_clear w_M_clear (ts_rm 2) (va_Pc [.ref h, .int x] (ts_A D vwCl (ts_ty cL cA cI cZ) [(h, .inr (2, [.int th, .ref pa, .ref ba])), (pa, .inl (cI, 2400, .inl P)), (ba, .inl (cZ, 10, .inl B))] sz)) (ts_Q (fun (v : Option Value) (u : Int32 × (Nat → Int32) × (Nat → Int32)) => v = none ∧ ((∃ r, r < 8 ∧ x = nI r ∧ u.1 = 0 ∧ ts_MS u.2.1 u.2.2 (va_up V r 0)) ∨ (ts_bad x ∧ u.1 = 1 ∧ ts_MS u.2.1 u.2.2 V))) (fun u => ts_B D vwCl (ts_ty cL cA cI cZ) (va_A [(h, .inr (2, [.int th, .ref pa, .ref ba])), (pa, .inl (cI, 2400, .inl P)), (ba, .inl (cZ, 10, .inl B))] sz) ([(h, .inr (2, [.int u.1, .ref pa, .ref ba])), (pa, .inl (cI, 2400, .inl u.2.1)), (ba, .inl (cZ, 10, .inl u.2.2))])) (va_A [(h, .inr (2, [.int th, .ref pa, .ref ba])), (pa, .inl (cI, 2400, .inl P)), (ba, .inl (cZ, 10, .inl B))] sz)) 0 0 (va_A [(h, .inr (2, [.int th, .ref pa, .ref ba])), (pa, .inl (cI, 2400, .inl P)), (ba, .inl (cZ, 10, .inl B))] sz) := by
  refine ts_met (cc := b_M_clear) (maxL := 2) (ret := none) (by decide) rfl (Nat.le_of_ble_eq_true rfl) ?_
  intro p e s m below meth c hx hb hr hml hown hts hlocks hname A hA hAe hK hP hD hS hsz ls hl
  have hown : s.vm.findClass R_M = some m.cls := hown
  have hl : lv_has ls 2 [(0, .ref h), (1, .int x)] := hl
  have hP : va_P D vwCl [(h, .inr (2, [.int th, .ref pa, .ref ba])), (pa, .inl (cI, 2400, .inl P)), (ba, .inl (cZ, 10, .inl B))] s.heap := hP
  have hD : va_D A [(h, .inr (2, [.int th, .ref pa, .ref ba])), (pa, .inl (cI, 2400, .inl P)), (ba, .inl (cZ, 10, .inl B))] := hD
  refine lv_aload_n hx hb d_M_clear_0 rfl (lv_at hl 0 rfl) ?_
  refine lv_iload_n hx hb d_M_clear_1 rfl (lv_at hl 1 rfl) ?_
  refine ts_callS (rest := [.ref h]) ⟨hx, hb, hml, hown, hts⟩ (c_M_isSum l D cL cA cI cZ x _) (va_cwS 1 hts g_M_clear_M_isSum rfl rfl rfl (by decide +kernel) ⟨Nat.le_of_ble_eq_true rfl, Nat.le_of_ble_eq_true rfl⟩) hK hP hD hS hA hl.1 [] (by decide) rfl (fun u => rfl) rfl rfl (Nat.le_of_ble_eq_true rfl) d_M_clear_2 ⟨Nat.zero_le _, Nat.zero_le _⟩ (fun v _u H locs hw hP hD hS => ?_)
  have hP : va_P D vwCl [(h, .inr (2, [.int th, .ref pa, .ref ba])), (pa, .inl (cI, 2400, .inl P)), (ba, .inl (cZ, 10, .inl B))] H := hP
  have hD : va_D A [(h, .inr (2, [.int th, .ref pa, .ref ba])), (pa, .inl (cI, 2400, .inl P)), (ba, .inl (cZ, 10, .inl B))] := hD
  rcases hw with ⟨⟨r, hr8, rfl⟩, rfl⟩ | ⟨hbad, rfl⟩
  · have hl : lv_has ls 2 [(0, .ref h), (1, .int (nI r))] := hl
    show W _ _ _ _ _ _ _ _ _ _ _ _ _ _ _ (F0 m 5 ls [.int 1, .ref h])
    refine lv_iconst (v := 1) hx hb d_M_clear_5 (by decide) ?_
    refine ts_callV (rest := []) ⟨hx, hb, hml, hown, hts⟩ (c_M_goes l D cL cA cI cZ h pa ba th P B 1 1 _) (cwV 2 hts g_M_clear_M_goes rfl rfl rfl (by decide +kernel) ⟨Nat.le_of_ble_eq_true rfl, Nat.le_of_ble_eq_true rfl⟩) hK hP hD hS hA hl.1 [0, 1, 2] (by decide) rfl (va_recv hK hP (ci := 2) (q0 := 0) rfl rfl) (fun u => rfl) rfl rfl (Nat.le_of_ble_eq_true rfl) d_M_clear_6 ⟨Nat.zero_le _, Nat.zero_le _⟩ (fun v u1 H locs hw hP hD hS => ?_)
    have hP : va_P D vwCl [(h, .inr (2, [.int u1, .ref pa, .ref ba])), (pa, .inl (cI, 2400, .inl P)), (ba, .inl (cZ, 10, .inl B))] H := hP
    have hD : va_D A [(h, .inr (2, [.int u1, .ref pa, .ref ba])), (pa, .inl (cI, 2400, .inl P)), (ba, .inl (cZ, 10, .inl B))] := hD
    obtain ⟨rfl, rfl⟩ : u1 = 0 ∧ v = some (.int 1) := by rcases hw with ⟨h1, -⟩ | ⟨-, h1, -⟩ | ⟨-, -, h1, h2⟩ <;> first | exact ⟨h1, h2⟩ | exact absurd h1 (by decide +kernel)
    have hP : va_P D vwCl [(h, .inr (2, [.int 0, .ref pa, .ref ba])), (pa, .inl (cI, 2400, .inl P)), (ba, .inl (cZ, 10, .inl B))] H := hP
    have hD : va_D A [(h, .inr (2, [.int 0, .ref pa, .ref ba])), (pa, .inl (cI, 2400, .inl P)), (ba, .inl (cZ, 10, .inl B))] := hD
    show W _ _ _ _ _ _ _ _ _ _ _ _ _ _ _ (F0 m 9 ls [.int 1])
    refine lv_if_eq (tgt := 17) hx hb d_M_clear_9 (by decide) (fun c2 => ?_) (fun c2 => ?_)
    · first | exact absurd c2 (by decide +kernel) | exact absurd rfl c2 | exact absurd (by decide +kernel) c2
    · refine lv_aload_n hx hb d_M_clear_12 rfl (lv_at hl 0 rfl) ?_
      refine lv_iload_n hx hb d_M_clear_13 rfl (lv_at hl 1 rfl) ?_
      refine ts_callV (rest := []) ⟨hx, hb, hml, hown, hts⟩ (c_M_zero l D cL cA cI cZ h pa ba 0 P B r (by omega) hM.1 _) (cwV 1 hts g_M_clear_M_zero rfl rfl rfl (by decide +kernel) ⟨Nat.le_of_ble_eq_true rfl, Nat.le_of_ble_eq_true rfl⟩) hK hP hD hS hA hl.1 [0, 1, 2] (by decide) rfl (va_recv hK hP (ci := 2) (q0 := 0) rfl rfl) (fun u => rfl) rfl rfl (Nat.le_of_ble_eq_true rfl) d_M_clear_14 ⟨Nat.zero_le _, Nat.zero_le _⟩ (fun v u2 H locs hw hP hD hS => ?_)
      have hP : va_P D vwCl [(h, .inr (2, [.int 0, .ref pa, .ref ba])), (pa, .inl (cI, 2400, .inl u2)), (ba, .inl (cZ, 10, .inl (upd B r 0)))] H := hP
      have hD : va_D A [(h, .inr (2, [.int 0, .ref pa, .ref ba])), (pa, .inl (cI, 2400, .inl u2)), (ba, .inl (cZ, 10, .inl (upd B r 0)))] := hD
      obtain ⟨rfl, a1, a2, a3⟩ := hw
      show W _ _ _ _ _ _ _ _ _ _ _ _ _ _ _ (F0 m 17 ls [])
      exact W.vret hx hb hr (fun t ht hW => ts_ret (u := (0, u2, upd B r 0)) hP hD hK hS ⟨rfl, Or.inl ⟨r, hr8, rfl, rfl, hM.clear a1 a2 a3⟩⟩ ht hW) hS.2.2 d_M_clear_17
  · show W _ _ _ _ _ _ _ _ _ _ _ _ _ _ _ (F0 m 5 ls [.int 0, .ref h])
    refine lv_iconst (v := 1) hx hb d_M_clear_5 (by decide) ?_
    refine ts_callV (rest := []) ⟨hx, hb, hml, hown, hts⟩ (c_M_goes l D cL cA cI cZ h pa ba th P B 0 1 _) (cwV 2 hts g_M_clear_M_goes rfl rfl rfl (by decide +kernel) ⟨Nat.le_of_ble_eq_true rfl, Nat.le_of_ble_eq_true rfl⟩) hK hP hD hS hA hl.1 [0, 1, 2] (by decide) rfl (va_recv hK hP (ci := 2) (q0 := 0) rfl rfl) (fun u => rfl) rfl rfl (Nat.le_of_ble_eq_true rfl) d_M_clear_6 ⟨Nat.zero_le _, Nat.zero_le _⟩ (fun v u1 H locs hw hP hD hS => ?_)
    have hP : va_P D vwCl [(h, .inr (2, [.int u1, .ref pa, .ref ba])), (pa, .inl (cI, 2400, .inl P)), (ba, .inl (cZ, 10, .inl B))] H := hP
    have hD : va_D A [(h, .inr (2, [.int u1, .ref pa, .ref ba])), (pa, .inl (cI, 2400, .inl P)), (ba, .inl (cZ, 10, .inl B))] := hD
    obtain ⟨rfl, rfl⟩ : u1 = 1 ∧ v = some (.int 0) := by rcases hw with ⟨-, h1, h2⟩ | ⟨h1, -⟩ | ⟨h1, -⟩ <;> first | exact ⟨h1, h2⟩ | exact absurd rfl h1
    have hP : va_P D vwCl [(h, .inr (2, [.int 1, .ref pa, .ref ba])), (pa, .inl (cI, 2400, .inl P)), (ba, .inl (cZ, 10, .inl B))] H := hP
    have hD : va_D A [(h, .inr (2, [.int 1, .ref pa, .ref ba])), (pa, .inl (cI, 2400, .inl P)), (ba, .inl (cZ, 10, .inl B))] := hD
    show W _ _ _ _ _ _ _ _ _ _ _ _ _ _ _ (F0 m 9 ls [.int 0])
    refine lv_if_eq (tgt := 17) hx hb d_M_clear_9 (by decide) (fun c1 => ?_) (fun c1 => ?_)
    · exact W.vret hx hb hr (fun t ht hW => ts_ret (u := (1, P, B)) hP hD hK hS ⟨rfl, Or.inr ⟨hbad, rfl, hM⟩⟩ ht hW) hS.2.2 d_M_clear_17
    · first | exact absurd c1 (by decide +kernel) | exact absurd rfl c1 | exact absurd (by decide +kernel) c1

