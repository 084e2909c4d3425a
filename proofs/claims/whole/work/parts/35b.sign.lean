set_option maxHeartbeats 4000000 in
set_option maxRecDepth 100000 in
theorem c_M_sign (l : Launch) (D : va_G) (cL cA cI cZ : ClassId) (h pa ba : Nat) (th : Int32) (P B : Nat → Int32) (V : Nat → Int) (hM : ts_MS P B V) (x : Int32) (sz : Nat) : Met l y_M_sign w_M_sign (ts_rm 2) (va_Pc [.ref h, .int x] (ts_A D vwCl (ts_ty cL cA cI cZ) [(h, .inr (2, [.int th, .ref pa, .ref ba])), (pa, .inl (cI, 2400, .inl P)), (ba, .inl (cZ, 10, .inl B))] sz)) (ts_Q (fun (v : Option Value) (u : Int32) => ∃ z : Int32, v = some (.int z) ∧ ((∃ r, r < 8 ∧ x = nI r ∧ u = 0 ∧ z = ts_sg (V r)) ∨ (ts_bad x ∧ u = 1))) (fun u => ts_B D vwCl (ts_ty cL cA cI cZ) (va_A [(h, .inr (2, [.int th, .ref pa, .ref ba])), (pa, .inl (cI, 2400, .inl P)), (ba, .inl (cZ, 10, .inl B))] sz) ([(h, .inr (2, [.int u, .ref pa, .ref ba])), (pa, .inl (cI, 2400, .inl P)), (ba, .inl (cZ, 10, .inl B))])) (va_A [(h, .inr (2, [.int th, .ref pa, .ref ba])), (pa, .inl (cI, 2400, .inl P)), (ba, .inl (cZ, 10, .inl B))] sz)) 0 0 (va_A [(h, .inr (2, [.int th, .ref pa, .ref ba])), (pa, .inl (cI, 2400, .inl P)), (ba, .inl (cZ, 10, .inl B))] sz) := by
  refine ts_met (cc := b_M_sign) (maxL := 2) (ret := (some .int)) (by decide) rfl (Nat.le_of_ble_eq_true rfl) ?_
  intro p e s m below meth c hx hb hr hml hown hts hlocks hname A hA hAe hK hP hD hS hsz ls hl
  have hown : s.vm.findClass R_M = some m.cls := hown
  have hl : lv_has ls 2 [(0, .ref h), (1, .int x)] := hl
  have hP : va_P D vwCl [(h, .inr (2, [.int th, .ref pa, .ref ba])), (pa, .inl (cI, 2400, .inl P)), (ba, .inl (cZ, 10, .inl B))] s.heap := hP
  have hD : va_D A [(h, .inr (2, [.int th, .ref pa, .ref ba])), (pa, .inl (cI, 2400, .inl P)), (ba, .inl (cZ, 10, .inl B))] := hD
  refine lv_aload_n hx hb d_M_sign_0 rfl (lv_at hl 0 rfl) ?_
  refine lv_iload_n hx hb d_M_sign_1 rfl (lv_at hl 1 rfl) ?_
  refine ts_callS (rest := [.ref h]) ⟨hx, hb, hml, hown, hts⟩ (c_M_isSum l D cL cA cI cZ x _) (va_cwS 1 hts g_M_sign_M_isSum rfl rfl rfl (by decide +kernel) ⟨Nat.le_of_ble_eq_true rfl, Nat.le_of_ble_eq_true rfl⟩) hK hP hD hS hA hl.1 [] (by decide) rfl (fun u => rfl) rfl rfl (Nat.le_of_ble_eq_true rfl) d_M_sign_2 ⟨Nat.zero_le _, Nat.zero_le _⟩ (fun v _u H locs hw hP hD hS => ?_)
  have hP : va_P D vwCl [(h, .inr (2, [.int th, .ref pa, .ref ba])), (pa, .inl (cI, 2400, .inl P)), (ba, .inl (cZ, 10, .inl B))] H := hP
  have hD : va_D A [(h, .inr (2, [.int th, .ref pa, .ref ba])), (pa, .inl (cI, 2400, .inl P)), (ba, .inl (cZ, 10, .inl B))] := hD
  rcases hw with ⟨⟨r, hr8, rfl⟩, rfl⟩ | ⟨hbad, rfl⟩
  · have hl : lv_has ls 2 [(0, .ref h), (1, .int (nI r))] := hl
    show W _ _ _ _ _ _ _ _ _ _ _ _ _ _ _ (F0 m 5 ls [.int 1, .ref h])
    refine lv_iconst (v := 1) hx hb d_M_sign_5 (by decide) ?_
    refine ts_callV (rest := []) ⟨hx, hb, hml, hown, hts⟩ (c_M_goes l D cL cA cI cZ h pa ba th P B 1 1 _) (cwV 2 hts g_M_sign_M_goes rfl rfl rfl (by decide +kernel) ⟨Nat.le_of_ble_eq_true rfl, Nat.le_of_ble_eq_true rfl⟩) hK hP hD hS hA hl.1 [0, 1, 2] (by decide) rfl (va_recv hK hP (ci := 2) (q0 := 0) rfl rfl) (fun u => rfl) rfl rfl (Nat.le_of_ble_eq_true rfl) d_M_sign_6 ⟨Nat.zero_le _, Nat.zero_le _⟩ (fun v u1 H locs hw hP hD hS => ?_)
    have hP : va_P D vwCl [(h, .inr (2, [.int u1, .ref pa, .ref ba])), (pa, .inl (cI, 2400, .inl P)), (ba, .inl (cZ, 10, .inl B))] H := hP
    have hD : va_D A [(h, .inr (2, [.int u1, .ref pa, .ref ba])), (pa, .inl (cI, 2400, .inl P)), (ba, .inl (cZ, 10, .inl B))] := hD
    obtain ⟨rfl, rfl⟩ : u1 = 0 ∧ v = some (.int 1) := by rcases hw with ⟨h1, -⟩ | ⟨-, h1, -⟩ | ⟨-, -, h1, h2⟩ <;> first | exact ⟨h1, h2⟩ | exact absurd h1 (by decide +kernel)
    have hP : va_P D vwCl [(h, .inr (2, [.int 0, .ref pa, .ref ba])), (pa, .inl (cI, 2400, .inl P)), (ba, .inl (cZ, 10, .inl B))] H := hP
    have hD : va_D A [(h, .inr (2, [.int 0, .ref pa, .ref ba])), (pa, .inl (cI, 2400, .inl P)), (ba, .inl (cZ, 10, .inl B))] := hD
    show W _ _ _ _ _ _ _ _ _ _ _ _ _ _ _ (F0 m 9 ls [.int 1])
    refine lv_if_eq (tgt := 20) hx hb d_M_sign_9 (by decide) (fun c2 => ?_) (fun c2 => ?_)
    · first | exact absurd c2 (by decide +kernel) | exact absurd rfl c2 | exact absurd (by decide +kernel) c2
    · refine lv_aload_n hx hb d_M_sign_12 rfl (lv_at hl 0 rfl) ?_
      refine lv_iload_n hx hb d_M_sign_13 rfl (lv_at hl 1 rfl) ?_
      refine ts_callV (rest := []) ⟨hx, hb, hml, hown, hts⟩ (c_M_isZero l D cL cA cI cZ h pa ba 0 P B r (by omega) hM.1 _) (cwV 1 hts g_M_sign_M_isZero rfl rfl rfl (by decide +kernel) ⟨Nat.le_of_ble_eq_true rfl, Nat.le_of_ble_eq_true rfl⟩) hK hP hD hS hA hl.1 [0, 1, 2] (by decide) rfl (va_recv hK hP (ci := 2) (q0 := 0) rfl rfl) (fun u => rfl) rfl rfl (Nat.le_of_ble_eq_true rfl) d_M_sign_14 ⟨Nat.zero_le _, Nat.zero_le _⟩ (fun v _u H locs hw hP hD hS => ?_)
      have hP : va_P D vwCl [(h, .inr (2, [.int 0, .ref pa, .ref ba])), (pa, .inl (cI, 2400, .inl P)), (ba, .inl (cZ, 10, .inl B))] H := hP
      have hD : va_D A [(h, .inr (2, [.int 0, .ref pa, .ref ba])), (pa, .inl (cI, 2400, .inl P)), (ba, .inl (cZ, 10, .inl B))] := hD
      obtain ⟨bz, rfl, hzb⟩ := hw
      show W _ _ _ _ _ _ _ _ _ _ _ _ _ _ _ (F0 m 17 ls [.int bz])
      have hs := hM.sg hr8
      refine lv_if_eq (tgt := 24) hx hb d_M_sign_17 (by decide) (fun c3 => ?_) (fun c3 => ?_)
      · have hnz : ts_r P r ≠ 0 := by rcases hzb with ⟨h1, -⟩ | ⟨-, h1⟩ <;> first | exact h1 | exact absurd (h1.symm.trans c3) (by decide +kernel)
        refine lv_aload_n hx hb d_M_sign_24 rfl (lv_at hl 0 rfl) ?_
        refine va_get (D := D) (ci := 2) (v := .ref ba) (C := R_M) (T := F_M) (N := 3) hx hb hts (by decide +kernel) hown hK hP 0 rfl rfl 2 (by decide) (hts (.fieldLink R_M 13 "TripleSumsModel" "below" "[Z") (by decide +kernel)) (fun _ h9 => h9) rfl d_M_sign_25 ?_
        refine lv_iload_n hx hb d_M_sign_28 rfl (lv_at hl 1 rfl) ?_
        refine va_zald (D := D) hx hb hK hP 2 3 rfl rfl (vp_in_nI (by omega) (by decide)) d_M_sign_29 ?_
        refine lv_topi (fun v4 e_v4 => ?_)
        rw [nI_clamp (n := r) (by omega)] at e_v4
        refine lv_if_eq (tgt := 37) hx hb d_M_sign_30 (by decide) (fun c5 => ?_) (fun c5 => ?_)
        · refine lv_iconst (v := 1) hx hb d_M_sign_37 (by decide) ?_
          exact W.iret (v := 1) hx hb hr (fun t ht hW => ts_ret (u := 0) hP hD hK hS ⟨_, rfl, Or.inl ⟨r, hr8, rfl, rfl, (hs.2.1 hnz (by rw [← e_v4]; exact c5)).symm⟩⟩ ht hW) hS.2.2 d_M_sign_38
        · refine lv_iconst (v := (-1)) hx hb d_M_sign_33 (by decide) ?_
          refine lv_goto (tgt := 38) hx hb d_M_sign_34 (by decide) ?_
          exact W.iret (v := (-1)) hx hb hr (fun t ht hW => ts_ret (u := 0) hP hD hK hS ⟨_, rfl, Or.inl ⟨r, hr8, rfl, rfl, (hs.2.2 hnz (by rw [← e_v4]; exact c5)).symm⟩⟩ ht hW) hS.2.2 d_M_sign_38
      · have hz : ts_r P r = 0 := by rcases hzb with ⟨-, h1⟩ | ⟨h1, -⟩ <;> first | exact h1 | exact absurd h1 c3
        refine lv_iconst (v := 0) hx hb d_M_sign_20 (by decide) ?_
        refine lv_goto (tgt := 38) hx hb d_M_sign_21 (by decide) ?_
        exact W.iret (v := 0) hx hb hr (fun t ht hW => ts_ret (u := 0) hP hD hK hS ⟨_, rfl, Or.inl ⟨r, hr8, rfl, rfl, (hs.1 hz).symm⟩⟩ ht hW) hS.2.2 d_M_sign_38
  · show W _ _ _ _ _ _ _ _ _ _ _ _ _ _ _ (F0 m 5 ls [.int 0, .ref h])
    refine lv_iconst (v := 1) hx hb d_M_sign_5 (by decide) ?_
    refine ts_callV (rest := []) ⟨hx, hb, hml, hown, hts⟩ (c_M_goes l D cL cA cI cZ h pa ba th P B 0 1 _) (cwV 2 hts g_M_sign_M_goes rfl rfl rfl (by decide +kernel) ⟨Nat.le_of_ble_eq_true rfl, Nat.le_of_ble_eq_true rfl⟩) hK hP hD hS hA hl.1 [0, 1, 2] (by decide) rfl (va_recv hK hP (ci := 2) (q0 := 0) rfl rfl) (fun u => rfl) rfl rfl (Nat.le_of_ble_eq_true rfl) d_M_sign_6 ⟨Nat.zero_le _, Nat.zero_le _⟩ (fun v u1 H locs hw hP hD hS => ?_)
    have hP : va_P D vwCl [(h, .inr (2, [.int u1, .ref pa, .ref ba])), (pa, .inl (cI, 2400, .inl P)), (ba, .inl (cZ, 10, .inl B))] H := hP
    have hD : va_D A [(h, .inr (2, [.int u1, .ref pa, .ref ba])), (pa, .inl (cI, 2400, .inl P)), (ba, .inl (cZ, 10, .inl B))] := hD
    obtain ⟨rfl, rfl⟩ : u1 = 1 ∧ v = some (.int 0) := by rcases hw with ⟨-, h1, h2⟩ | ⟨h1, -⟩ | ⟨h1, -⟩ <;> first | exact ⟨h1, h2⟩ | exact absurd rfl h1
    have hP : va_P D vwCl [(h, .inr (2, [.int 1, .ref pa, .ref ba])), (pa, .inl (cI, 2400, .inl P)), (ba, .inl (cZ, 10, .inl B))] H := hP
    have hD : va_D A [(h, .inr (2, [.int 1, .ref pa, .ref ba])), (pa, .inl (cI, 2400, .inl P)), (ba, .inl (cZ, 10, .inl B))] := hD
    show W _ _ _ _ _ _ _ _ _ _ _ _ _ _ _ (F0 m 9 ls [.int 0])
    refine lv_if_eq (tgt := 20) hx hb d_M_sign_9 (by decide) (fun c1 => ?_) (fun c1 => ?_)
    · refine lv_iconst (v := 0) hx hb d_M_sign_20 (by decide) ?_
      refine lv_goto (tgt := 38) hx hb d_M_sign_21 (by decide) ?_
      exact W.iret (v := 0) hx hb hr (fun t ht hW => ts_ret (u := 1) hP hD hK hS ⟨_, rfl, Or.inr ⟨hbad, rfl⟩⟩ ht hW) hS.2.2 d_M_sign_38
    · first | exact absurd c1 (by decide +kernel) | exact absurd rfl c1 | exact absurd (by decide +kernel) c1

