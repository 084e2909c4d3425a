set_option maxHeartbeats 4000000 in
set_option maxRecDepth 100000 in
theorem c_M_compare (l : Launch) (D : va_G) (cL cA cI cZ : ClassId) (h pa ba : Nat) (th : Int32) (P B : Nat → Int32) (V : Nat → Int) (hM : ts_MS P B V) (x y : Int32) (sz : Nat) : Met l y_M_compare w_M_compare (ts_rm 2) (va_Pc [.ref h, .int x, .int y] (ts_A D vwCl (ts_ty cL cA cI cZ) [(h, .inr (2, [.int th, .ref pa, .ref ba])), (pa, .inl (cI, 2400, .inl P)), (ba, .inl (cZ, 10, .inl B))] sz)) (ts_Q (fun (v : Option Value) (u : Int32) => ∃ z : Int32, v = some (.int z) ∧ ((∃ r q, r < 8 ∧ q < 8 ∧ x = nI r ∧ y = nI q ∧ u = 0 ∧ z = ts_sg (V r + -1 * V q)) ∨ ((ts_bad x ∨ ts_bad y) ∧ u = 1))) (fun u => ts_B D vwCl (ts_ty cL cA cI cZ) (va_A [(h, .inr (2, [.int th, .ref pa, .ref ba])), (pa, .inl (cI, 2400, .inl P)), (ba, .inl (cZ, 10, .inl B))] sz) ([(h, .inr (2, [.int u, .ref pa, .ref ba])), (pa, .inl (cI, 2400, .inl P)), (ba, .inl (cZ, 10, .inl B))])) (va_A [(h, .inr (2, [.int th, .ref pa, .ref ba])), (pa, .inl (cI, 2400, .inl P)), (ba, .inl (cZ, 10, .inl B))] sz)) 0 0 (va_A [(h, .inr (2, [.int th, .ref pa, .ref ba])), (pa, .inl (cI, 2400, .inl P)), (ba, .inl (cZ, 10, .inl B))] sz) := by
  refine ts_met (cc := b_M_compare) (maxL := 3) (ret := (some .int)) (by decide) rfl (Nat.le_of_ble_eq_true rfl) ?_
  intro p e s m below meth c hx hb hr hml hown hts hlocks hname A hA hAe hK hP hD hS hsz ls hl
  have hown : s.vm.findClass R_M = some m.cls := hown
  have hl : lv_has ls 3 [(0, .ref h), (1, .int x), (2, .int y)] := hl
  have hP : va_P D vwCl [(h, .inr (2, [.int th, .ref pa, .ref ba])), (pa, .inl (cI, 2400, .inl P)), (ba, .inl (cZ, 10, .inl B))] s.heap := hP
  have hD : va_D A [(h, .inr (2, [.int th, .ref pa, .ref ba])), (pa, .inl (cI, 2400, .inl P)), (ba, .inl (cZ, 10, .inl B))] := hD
  refine lv_aload_n hx hb d_M_compare_0 rfl (lv_at hl 0 rfl) ?_
  refine lv_iload_n hx hb d_M_compare_1 rfl (lv_at hl 1 rfl) ?_
  refine ts_callS (rest := [.ref h]) ⟨hx, hb, hml, hown, hts⟩ (c_M_isSum l D cL cA cI cZ x _) (va_cwS 1 hts g_M_compare_M_isSum rfl rfl rfl (by decide +kernel) ⟨Nat.le_of_ble_eq_true rfl, Nat.le_of_ble_eq_true rfl⟩) hK hP hD hS hA hl.1 [] (by decide) rfl (fun u => rfl) rfl rfl (Nat.le_of_ble_eq_true rfl) d_M_compare_2 ⟨Nat.zero_le _, Nat.zero_le _⟩ (fun v _u H locs hw hP hD hS => ?_)
  have hP : va_P D vwCl [(h, .inr (2, [.int th, .ref pa, .ref ba])), (pa, .inl (cI, 2400, .inl P)), (ba, .inl (cZ, 10, .inl B))] H := hP
  have hD : va_D A [(h, .inr (2, [.int th, .ref pa, .ref ba])), (pa, .inl (cI, 2400, .inl P)), (ba, .inl (cZ, 10, .inl B))] := hD
  rcases hw with ⟨⟨r, hr8, rfl⟩, rfl⟩ | ⟨hbx, rfl⟩
  · have hl : lv_has ls 3 [(0, .ref h), (1, .int (nI r)), (2, .int y)] := hl
    show W _ _ _ _ _ _ _ _ _ _ _ _ _ _ _ (F0 m 5 ls [.int 1, .ref h])
    refine lv_if_eq (tgt := 19) hx hb d_M_compare_5 (by decide) (fun c2 => ?_) (fun c2 => ?_)
    · first | exact absurd c2 (by decide +kernel) | exact absurd rfl c2 | exact absurd (by decide +kernel) c2
    · refine lv_iload_n hx hb d_M_compare_8 rfl (lv_at hl 2 rfl) ?_
      refine ts_callS (rest := [.ref h]) ⟨hx, hb, hml, hown, hts⟩ (c_M_isSum l D cL cA cI cZ y _) (va_cwS 1 hts g_M_compare_M_isSum rfl rfl rfl (by decide +kernel) ⟨Nat.le_of_ble_eq_true rfl, Nat.le_of_ble_eq_true rfl⟩) hK hP hD hS hA hl.1 [] (by decide) rfl (fun u => rfl) rfl rfl (Nat.le_of_ble_eq_true rfl) d_M_compare_9 ⟨Nat.zero_le _, Nat.zero_le _⟩ (fun v _u H locs hw hP hD hS => ?_)
      have hP : va_P D vwCl [(h, .inr (2, [.int th, .ref pa, .ref ba])), (pa, .inl (cI, 2400, .inl P)), (ba, .inl (cZ, 10, .inl B))] H := hP
      have hD : va_D A [(h, .inr (2, [.int th, .ref pa, .ref ba])), (pa, .inl (cI, 2400, .inl P)), (ba, .inl (cZ, 10, .inl B))] := hD
      rcases hw with ⟨⟨q, hq8, rfl⟩, rfl⟩ | ⟨hby, rfl⟩
      · have hl : lv_has ls 3 [(0, .ref h), (1, .int (nI r)), (2, .int (nI q))] := hl
        show W _ _ _ _ _ _ _ _ _ _ _ _ _ _ _ (F0 m 12 ls [.int 1, .ref h])
        refine lv_if_eq (tgt := 19) hx hb d_M_compare_12 (by decide) (fun c4 => ?_) (fun c4 => ?_)
        · first | exact absurd c4 (by decide +kernel) | exact absurd rfl c4 | exact absurd (by decide +kernel) c4
        · refine lv_iconst (v := 1) hx hb d_M_compare_15 (by decide) ?_
          refine lv_goto (tgt := 20) hx hb d_M_compare_16 (by decide) ?_
          refine lv_iconst (v := 1) hx hb d_M_compare_20 (by decide) ?_
          refine ts_callV (rest := []) ⟨hx, hb, hml, hown, hts⟩ (c_M_goes l D cL cA cI cZ h pa ba th P B 1 1 _) (cwV 2 hts g_M_compare_M_goes rfl rfl rfl (by decide +kernel) ⟨Nat.le_of_ble_eq_true rfl, Nat.le_of_ble_eq_true rfl⟩) hK hP hD hS hA hl.1 [0, 1, 2] (by decide) rfl (va_recv hK hP (ci := 2) (q0 := 0) rfl rfl) (fun u => rfl) rfl rfl (Nat.le_of_ble_eq_true rfl) d_M_compare_21 ⟨Nat.zero_le _, Nat.zero_le _⟩ (fun v u1 H locs hw hP hD hS => ?_)
          have hP : va_P D vwCl [(h, .inr (2, [.int u1, .ref pa, .ref ba])), (pa, .inl (cI, 2400, .inl P)), (ba, .inl (cZ, 10, .inl B))] H := hP
          have hD : va_D A [(h, .inr (2, [.int u1, .ref pa, .ref ba])), (pa, .inl (cI, 2400, .inl P)), (ba, .inl (cZ, 10, .inl B))] := hD
          obtain ⟨rfl, rfl⟩ : u1 = 0 ∧ v = some (.int 1) := by rcases hw with ⟨h1, -⟩ | ⟨-, h1, -⟩ | ⟨-, -, h1, h2⟩ <;> first | exact ⟨h1, h2⟩ | exact absurd h1 (by decide +kernel)
          have hP : va_P D vwCl [(h, .inr (2, [.int 0, .ref pa, .ref ba])), (pa, .inl (cI, 2400, .inl P)), (ba, .inl (cZ, 10, .inl B))] H := hP
          have hD : va_D A [(h, .inr (2, [.int 0, .ref pa, .ref ba])), (pa, .inl (cI, 2400, .inl P)), (ba, .inl (cZ, 10, .inl B))] := hD
          show W _ _ _ _ _ _ _ _ _ _ _ _ _ _ _ (F0 m 24 ls [.int 1])
          refine lv_if_ne (tgt := 29) hx hb d_M_compare_24 (by decide) (fun c7 => ?_) (fun c7 => ?_)
          · have hc := hM.cmp hr8 hq8
            refine lv_aload_n hx hb d_M_compare_29 rfl (lv_at hl 0 rfl) ?_
            refine va_get (D := D) (ci := 2) (v := .ref ba) (C := R_M) (T := F_M) (N := 3) hx hb hts (by decide +kernel) hown hK hP 0 rfl rfl 2 (by decide) (hts (.fieldLink R_M 13 "TripleSumsModel" "below" "[Z") (by decide +kernel)) (fun _ h9 => h9) rfl d_M_compare_30 ?_
            refine lv_iload_n hx hb d_M_compare_33 rfl (lv_at hl 1 rfl) ?_
            refine va_zald (D := D) hx hb hK hP 2 3 rfl rfl (vp_in_nI (by omega) (by decide)) d_M_compare_34 ?_
            refine lv_topi (fun v8 e_v8 => ?_)
            rw [nI_clamp (n := r) (by omega)] at e_v8
            refine lv_aload_n hx hb d_M_compare_35 rfl (lv_at hl 0 rfl) ?_
            refine va_get (D := D) (ci := 2) (v := .ref ba) (C := R_M) (T := F_M) (N := 3) hx hb hts (by decide +kernel) hown hK hP 0 rfl rfl 2 (by decide) (hts (.fieldLink R_M 13 "TripleSumsModel" "below" "[Z") (by decide +kernel)) (fun _ h9 => h9) rfl d_M_compare_36 ?_
            refine lv_iload_n hx hb d_M_compare_39 rfl (lv_at hl 2 rfl) ?_
            refine va_zald (D := D) hx hb hK hP 2 3 rfl rfl (vp_in_nI (by omega) (by decide)) d_M_compare_40 ?_
            refine lv_topi (fun v9 e_v9 => ?_)
            rw [nI_clamp (n := q) (by omega)] at e_v9
            refine lv_icmp_eq (tgt := 59) hx hb d_M_compare_41 (by decide) (fun c10 => ?_) (fun c10 => ?_)
            · have he : B r = B q := by rw [← e_v8, ← e_v9]; exact c10
              refine lv_aload_n hx hb d_M_compare_59 rfl (lv_at hl 0 rfl) ?_
              refine va_get (D := D) (ci := 2) (v := .ref ba) (C := R_M) (T := F_M) (N := 3) hx hb hts (by decide +kernel) hown hK hP 0 rfl rfl 2 (by decide) (hts (.fieldLink R_M 13 "TripleSumsModel" "below" "[Z") (by decide +kernel)) (fun _ h9 => h9) rfl d_M_compare_60 ?_
              refine lv_iload_n hx hb d_M_compare_63 rfl (lv_at hl 1 rfl) ?_
              refine va_zald (D := D) hx hb hK hP 2 3 rfl rfl (vp_in_nI (by omega) (by decide)) d_M_compare_64 ?_
              refine lv_topi (fun v11 e_v11 => ?_)
              rw [nI_clamp (n := r) (by omega)] at e_v11
              refine lv_if_eq (tgt := 78) hx hb d_M_compare_65 (by decide) (fun c12 => ?_) (fun c12 => ?_)
              · refine lv_aload_n hx hb d_M_compare_78 rfl (lv_at hl 0 rfl) ?_
                refine lv_iload_n hx hb d_M_compare_79 rfl (lv_at hl 1 rfl) ?_
                refine lv_iload_n hx hb d_M_compare_80 rfl (lv_at hl 2 rfl) ?_
                refine ts_callV (rest := []) ⟨hx, hb, hml, hown, hts⟩ (c_M_sizes l D cL cA cI cZ h pa ba 0 P B r q (by omega) (by omega) hM.1 _) (cwV 2 hts g_M_compare_M_sizes rfl rfl rfl (by decide +kernel) ⟨Nat.le_of_ble_eq_true rfl, Nat.le_of_ble_eq_true rfl⟩) hK hP hD hS hA hl.1 [0, 1, 2] (by decide) rfl (va_recv hK hP (ci := 2) (q0 := 0) rfl rfl) (fun u => rfl) rfl rfl (Nat.le_of_ble_eq_true rfl) d_M_compare_81 ⟨Nat.zero_le _, Nat.zero_le _⟩ (fun v _u H locs hw hP hD hS => ?_)
                have hP : va_P D vwCl [(h, .inr (2, [.int 0, .ref pa, .ref ba])), (pa, .inl (cI, 2400, .inl P)), (ba, .inl (cZ, 10, .inl B))] H := hP
                have hD : va_D A [(h, .inr (2, [.int 0, .ref pa, .ref ba])), (pa, .inl (cI, 2400, .inl P)), (ba, .inl (cZ, 10, .inl B))] := hD
                obtain rfl := hw
                show W _ _ _ _ _ _ _ _ _ _ _ _ _ _ _ (F0 m 84 ls [.int (ts_cm (ts_r P r) (ts_r P q))])
                exact W.iret (v := (ts_cm (ts_r P r) (ts_r P q))) hx hb hr (fun t ht hW => ts_ret (u := 0) hP hD hK hS ⟨_, rfl, Or.inl ⟨r, q, hr8, hq8, rfl, rfl, rfl, (hc.2.2.1 he (by rw [← e_v11]; exact c12)).symm⟩⟩ ht hW) hS.2.2 d_M_compare_84
              · refine lv_aload_n hx hb d_M_compare_68 rfl (lv_at hl 0 rfl) ?_
                refine lv_iload_n hx hb d_M_compare_69 rfl (lv_at hl 1 rfl) ?_
                refine lv_iload_n hx hb d_M_compare_70 rfl (lv_at hl 2 rfl) ?_
                refine ts_callV (rest := []) ⟨hx, hb, hml, hown, hts⟩ (c_M_sizes l D cL cA cI cZ h pa ba 0 P B r q (by omega) (by omega) hM.1 _) (cwV 2 hts g_M_compare_M_sizes rfl rfl rfl (by decide +kernel) ⟨Nat.le_of_ble_eq_true rfl, Nat.le_of_ble_eq_true rfl⟩) hK hP hD hS hA hl.1 [0, 1, 2] (by decide) rfl (va_recv hK hP (ci := 2) (q0 := 0) rfl rfl) (fun u => rfl) rfl rfl (Nat.le_of_ble_eq_true rfl) d_M_compare_71 ⟨Nat.zero_le _, Nat.zero_le _⟩ (fun v _u H locs hw hP hD hS => ?_)
                have hP : va_P D vwCl [(h, .inr (2, [.int 0, .ref pa, .ref ba])), (pa, .inl (cI, 2400, .inl P)), (ba, .inl (cZ, 10, .inl B))] H := hP
                have hD : va_D A [(h, .inr (2, [.int 0, .ref pa, .ref ba])), (pa, .inl (cI, 2400, .inl P)), (ba, .inl (cZ, 10, .inl B))] := hD
                obtain rfl := hw
                show W _ _ _ _ _ _ _ _ _ _ _ _ _ _ _ (F0 m 74 ls [.int (ts_cm (ts_r P r) (ts_r P q))])
                refine lv_ineg hx hb d_M_compare_74 ?_
                refine lv_topi (fun z13 e_z13 => ?_)
                refine lv_goto (tgt := 84) hx hb d_M_compare_75 (by decide) ?_
                exact W.iret (v := z13) hx hb hr (fun t ht hW => ts_ret (u := 0) hP hD hK hS ⟨_, rfl, Or.inl ⟨r, q, hr8, hq8, rfl, rfl, rfl, by rw [e_z13]; exact (hc.2.2.2 he (by rw [← e_v11]; exact c12)).symm⟩⟩ ht hW) hS.2.2 d_M_compare_84
            · have he : ¬ B r = B q := by rw [← e_v8, ← e_v9]; exact c10
              refine lv_aload_n hx hb d_M_compare_44 rfl (lv_at hl 0 rfl) ?_
              refine va_get (D := D) (ci := 2) (v := .ref ba) (C := R_M) (T := F_M) (N := 3) hx hb hts (by decide +kernel) hown hK hP 0 rfl rfl 2 (by decide) (hts (.fieldLink R_M 13 "TripleSumsModel" "below" "[Z") (by decide +kernel)) (fun _ h9 => h9) rfl d_M_compare_45 ?_
              refine lv_iload_n hx hb d_M_compare_48 rfl (lv_at hl 1 rfl) ?_
              refine va_zald (D := D) hx hb hK hP 2 3 rfl rfl (vp_in_nI (by omega) (by decide)) d_M_compare_49 ?_
              refine lv_topi (fun v14 e_v14 => ?_)
              rw [nI_clamp (n := r) (by omega)] at e_v14
              refine lv_if_eq (tgt := 57) hx hb d_M_compare_50 (by decide) (fun c15 => ?_) (fun c15 => ?_)
              · refine lv_iconst (v := 1) hx hb d_M_compare_57 (by decide) ?_
                exact W.iret (v := 1) hx hb hr (fun t ht hW => ts_ret (u := 0) hP hD hK hS ⟨_, rfl, Or.inl ⟨r, q, hr8, hq8, rfl, rfl, rfl, (hc.1 he (by rw [← e_v14]; exact c15)).symm⟩⟩ ht hW) hS.2.2 d_M_compare_58
              · refine lv_iconst (v := (-1)) hx hb d_M_compare_53 (by decide) ?_
                refine lv_goto (tgt := 58) hx hb d_M_compare_54 (by decide) ?_
                exact W.iret (v := (-1)) hx hb hr (fun t ht hW => ts_ret (u := 0) hP hD hK hS ⟨_, rfl, Or.inl ⟨r, q, hr8, hq8, rfl, rfl, rfl, (hc.2.1 he (by rw [← e_v14]; exact c15)).symm⟩⟩ ht hW) hS.2.2 d_M_compare_58
          · first | exact absurd c7 (by decide +kernel) | exact absurd rfl c7 | exact absurd (by decide +kernel) c7
      · show W _ _ _ _ _ _ _ _ _ _ _ _ _ _ _ (F0 m 12 ls [.int 0, .ref h])
        refine lv_if_eq (tgt := 19) hx hb d_M_compare_12 (by decide) (fun c3 => ?_) (fun c3 => ?_)
        · refine lv_iconst (v := 0) hx hb d_M_compare_19 (by decide) ?_
          refine lv_iconst (v := 1) hx hb d_M_compare_20 (by decide) ?_
          refine ts_callV (rest := []) ⟨hx, hb, hml, hown, hts⟩ (c_M_goes l D cL cA cI cZ h pa ba th P B 0 1 _) (cwV 2 hts g_M_compare_M_goes rfl rfl rfl (by decide +kernel) ⟨Nat.le_of_ble_eq_true rfl, Nat.le_of_ble_eq_true rfl⟩) hK hP hD hS hA hl.1 [0, 1, 2] (by decide) rfl (va_recv hK hP (ci := 2) (q0 := 0) rfl rfl) (fun u => rfl) rfl rfl (Nat.le_of_ble_eq_true rfl) d_M_compare_21 ⟨Nat.zero_le _, Nat.zero_le _⟩ (fun v u1 H locs hw hP hD hS => ?_)
          have hP : va_P D vwCl [(h, .inr (2, [.int u1, .ref pa, .ref ba])), (pa, .inl (cI, 2400, .inl P)), (ba, .inl (cZ, 10, .inl B))] H := hP
          have hD : va_D A [(h, .inr (2, [.int u1, .ref pa, .ref ba])), (pa, .inl (cI, 2400, .inl P)), (ba, .inl (cZ, 10, .inl B))] := hD
          obtain ⟨rfl, rfl⟩ : u1 = 1 ∧ v = some (.int 0) := by rcases hw with ⟨-, h1, h2⟩ | ⟨h1, -⟩ | ⟨h1, -⟩ <;> first | exact ⟨h1, h2⟩ | exact absurd rfl h1
          have hP : va_P D vwCl [(h, .inr (2, [.int 1, .ref pa, .ref ba])), (pa, .inl (cI, 2400, .inl P)), (ba, .inl (cZ, 10, .inl B))] H := hP
          have hD : va_D A [(h, .inr (2, [.int 1, .ref pa, .ref ba])), (pa, .inl (cI, 2400, .inl P)), (ba, .inl (cZ, 10, .inl B))] := hD
          show W _ _ _ _ _ _ _ _ _ _ _ _ _ _ _ (F0 m 24 ls [.int 0])
          refine lv_if_ne (tgt := 29) hx hb d_M_compare_24 (by decide) (fun c6 => ?_) (fun c6 => ?_)
          · first | exact absurd c6 (by decide +kernel) | exact absurd rfl c6 | exact absurd (by decide +kernel) c6
          · refine lv_iconst (v := 0) hx hb d_M_compare_27 (by decide) ?_
            exact W.iret (v := 0) hx hb hr (fun t ht hW => ts_ret (u := 1) hP hD hK hS ⟨_, rfl, Or.inr ⟨Or.inr hby, rfl⟩⟩ ht hW) hS.2.2 d_M_compare_28
        · first | exact absurd c3 (by decide +kernel) | exact absurd rfl c3 | exact absurd (by decide +kernel) c3
  · show W _ _ _ _ _ _ _ _ _ _ _ _ _ _ _ (F0 m 5 ls [.int 0, .ref h])
    refine lv_if_eq (tgt := 19) hx hb d_M_compare_5 (by decide) (fun c1 => ?_) (fun c1 => ?_)
    · refine lv_iconst (v := 0) hx hb d_M_compare_19 (by decide) ?_
      refine lv_iconst (v := 1) hx hb d_M_compare_20 (by decide) ?_
      refine ts_callV (rest := []) ⟨hx, hb, hml, hown, hts⟩ (c_M_goes l D cL cA cI cZ h pa ba th P B 0 1 _) (cwV 2 hts g_M_compare_M_goes rfl rfl rfl (by decide +kernel) ⟨Nat.le_of_ble_eq_true rfl, Nat.le_of_ble_eq_true rfl⟩) hK hP hD hS hA hl.1 [0, 1, 2] (by decide) rfl (va_recv hK hP (ci := 2) (q0 := 0) rfl rfl) (fun u => rfl) rfl rfl (Nat.le_of_ble_eq_true rfl) d_M_compare_21 ⟨Nat.zero_le _, Nat.zero_le _⟩ (fun v u1 H locs hw hP hD hS => ?_)
      have hP : va_P D vwCl [(h, .inr (2, [.int u1, .ref pa, .ref ba])), (pa, .inl (cI, 2400, .inl P)), (ba, .inl (cZ, 10, .inl B))] H := hP
      have hD : va_D A [(h, .inr (2, [.int u1, .ref pa, .ref ba])), (pa, .inl (cI, 2400, .inl P)), (ba, .inl (cZ, 10, .inl B))] := hD
      obtain ⟨rfl, rfl⟩ : u1 = 1 ∧ v = some (.int 0) := by rcases hw with ⟨-, h1, h2⟩ | ⟨h1, -⟩ | ⟨h1, -⟩ <;> first | exact ⟨h1, h2⟩ | exact absurd rfl h1
      have hP : va_P D vwCl [(h, .inr (2, [.int 1, .ref pa, .ref ba])), (pa, .inl (cI, 2400, .inl P)), (ba, .inl (cZ, 10, .inl B))] H := hP
      have hD : va_D A [(h, .inr (2, [.int 1, .ref pa, .ref ba])), (pa, .inl (cI, 2400, .inl P)), (ba, .inl (cZ, 10, .inl B))] := hD
      show W _ _ _ _ _ _ _ _ _ _ _ _ _ _ _ (F0 m 24 ls [.int 0])
      refine lv_if_ne (tgt := 29) hx hb d_M_compare_24 (by decide) (fun c5 => ?_) (fun c5 => ?_)
      · first | exact absurd c5 (by decide +kernel) | exact absurd rfl c5 | exact absurd (by decide +kernel) c5
      · refine lv_iconst (v := 0) hx hb d_M_compare_27 (by decide) ?_
        exact W.iret (v := 0) hx hb hr (fun t ht hW => ts_ret (u := 1) hP hD hK hS ⟨_, rfl, Or.inr ⟨Or.inl hbx, rfl⟩⟩ ht hW) hS.2.2 d_M_compare_28
    · first | exact absurd c1 (by decide +kernel) | exact absurd rfl c1 | exact absurd (by decide +kernel) c1

set_option maxHeartbeats 4000000 in
set_option maxRecDepth 100000 in
theorem c_M_compareSizes (l : Launch) (D : va_G) (cL cA cI cZ : ClassId) (h pa ba : Nat) (th : Int32) (P B : Nat → Int32) (V : Nat → Int) (hM : ts_MS P B V) (x y : Int32) (sz : Nat) : Met l y_M_compareSizes w_M_compareSizes (ts_rm 2) (va_Pc [.ref h, .int x, .int y] (ts_A D vwCl (ts_ty cL cA cI cZ) [(h, .inr (2, [.int th, .ref pa, .ref ba])), (pa, .inl (cI, 2400, .inl P)), (ba, .inl (cZ, 10, .inl B))] sz)) (ts_Q (fun (v : Option Value) (u : Int32) => ∃ z : Int32, v = some (.int z) ∧ ((∃ r q, r < 8 ∧ q < 8 ∧ x = nI r ∧ y = nI q ∧ u = 0 ∧ z = ts_sg (((V r).natAbs : Int) - ((V q).natAbs : Int))) ∨ ((ts_bad x ∨ ts_bad y) ∧ u = 1))) (fun u => ts_B D vwCl (ts_ty cL cA cI cZ) (va_A [(h, .inr (2, [.int th, .ref pa, .ref ba])), (pa, .inl (cI, 2400, .inl P)), (ba, .inl (cZ, 10, .inl B))] sz) ([(h, .inr (2, [.int u, .ref pa, .ref ba])), (pa, .inl (cI, 2400, .inl P)), (ba, .inl (cZ, 10, .inl B))])) (va_A [(h, .inr (2, [.int th, .ref pa, .ref ba])), (pa, .inl (cI, 2400, .inl P)), (ba, .inl (cZ, 10, .inl B))] sz)) 0 0 (va_A [(h, .inr (2, [.int th, .ref pa, .ref ba])), (pa, .inl (cI, 2400, .inl P)), (ba, .inl (cZ, 10, .inl B))] sz) := by
  refine ts_met (cc := b_M_compareSizes) (maxL := 3) (ret := (some .int)) (by decide) rfl (Nat.le_of_ble_eq_true rfl) ?_
  intro p e s m below meth c hx hb hr hml hown hts hlocks hname A hA hAe hK hP hD hS hsz ls hl
  have hown : s.vm.findClass R_M = some m.cls := hown
  have hl : lv_has ls 3 [(0, .ref h), (1, .int x), (2, .int y)] := hl
  have hP : va_P D vwCl [(h, .inr (2, [.int th, .ref pa, .ref ba])), (pa, .inl (cI, 2400, .inl P)), (ba, .inl (cZ, 10, .inl B))] s.heap := hP
  have hD : va_D A [(h, .inr (2, [.int th, .ref pa, .ref ba])), (pa, .inl (cI, 2400, .inl P)), (ba, .inl (cZ, 10, .inl B))] := hD
  refine lv_aload_n hx hb d_M_compareSizes_0 rfl (lv_at hl 0 rfl) ?_
  refine lv_iload_n hx hb d_M_compareSizes_1 rfl (lv_at hl 1 rfl) ?_
  refine ts_callS (rest := [.ref h]) ⟨hx, hb, hml, hown, hts⟩ (c_M_isSum l D cL cA cI cZ x _) (va_cwS 1 hts g_M_compareSizes_M_isSum rfl rfl rfl (by decide +kernel) ⟨Nat.le_of_ble_eq_true rfl, Nat.le_of_ble_eq_true rfl⟩) hK hP hD hS hA hl.1 [] (by decide) rfl (fun u => rfl) rfl rfl (Nat.le_of_ble_eq_true rfl) d_M_compareSizes_2 ⟨Nat.zero_le _, Nat.zero_le _⟩ (fun v _u H locs hw hP hD hS => ?_)
  have hP : va_P D vwCl [(h, .inr (2, [.int th, .ref pa, .ref ba])), (pa, .inl (cI, 2400, .inl P)), (ba, .inl (cZ, 10, .inl B))] H := hP
  have hD : va_D A [(h, .inr (2, [.int th, .ref pa, .ref ba])), (pa, .inl (cI, 2400, .inl P)), (ba, .inl (cZ, 10, .inl B))] := hD
  rcases hw with ⟨⟨r, hr8, rfl⟩, rfl⟩ | ⟨hbx, rfl⟩
  · have hl : lv_has ls 3 [(0, .ref h), (1, .int (nI r)), (2, .int y)] := hl
    show W _ _ _ _ _ _ _ _ _ _ _ _ _ _ _ (F0 m 5 ls [.int 1, .ref h])
    refine lv_if_eq (tgt := 19) hx hb d_M_compareSizes_5 (by decide) (fun c17 => ?_) (fun c17 => ?_)
    · first | exact absurd c17 (by decide +kernel) | exact absurd rfl c17 | exact absurd (by decide +kernel) c17
    · refine lv_iload_n hx hb d_M_compareSizes_8 rfl (lv_at hl 2 rfl) ?_
      refine ts_callS (rest := [.ref h]) ⟨hx, hb, hml, hown, hts⟩ (c_M_isSum l D cL cA cI cZ y _) (va_cwS 1 hts g_M_compareSizes_M_isSum rfl rfl rfl (by decide +kernel) ⟨Nat.le_of_ble_eq_true rfl, Nat.le_of_ble_eq_true rfl⟩) hK hP hD hS hA hl.1 [] (by decide) rfl (fun u => rfl) rfl rfl (Nat.le_of_ble_eq_true rfl) d_M_compareSizes_9 ⟨Nat.zero_le _, Nat.zero_le _⟩ (fun v _u H locs hw hP hD hS => ?_)
      have hP : va_P D vwCl [(h, .inr (2, [.int th, .ref pa, .ref ba])), (pa, .inl (cI, 2400, .inl P)), (ba, .inl (cZ, 10, .inl B))] H := hP
      have hD : va_D A [(h, .inr (2, [.int th, .ref pa, .ref ba])), (pa, .inl (cI, 2400, .inl P)), (ba, .inl (cZ, 10, .inl B))] := hD
      rcases hw with ⟨⟨q, hq8, rfl⟩, rfl⟩ | ⟨hby, rfl⟩
      · have hl : lv_has ls 3 [(0, .ref h), (1, .int (nI r)), (2, .int (nI q))] := hl
        show W _ _ _ _ _ _ _ _ _ _ _ _ _ _ _ (F0 m 12 ls [.int 1, .ref h])
        refine lv_if_eq (tgt := 19) hx hb d_M_compareSizes_12 (by decide) (fun c19 => ?_) (fun c19 => ?_)
        · first | exact absurd c19 (by decide +kernel) | exact absurd rfl c19 | exact absurd (by decide +kernel) c19
        · refine lv_iconst (v := 1) hx hb d_M_compareSizes_15 (by decide) ?_
          refine lv_goto (tgt := 20) hx hb d_M_compareSizes_16 (by decide) ?_
          refine lv_iconst (v := 1) hx hb d_M_compareSizes_20 (by decide) ?_
          refine ts_callV (rest := []) ⟨hx, hb, hml, hown, hts⟩ (c_M_goes l D cL cA cI cZ h pa ba th P B 1 1 _) (cwV 2 hts g_M_compareSizes_M_goes rfl rfl rfl (by decide +kernel) ⟨Nat.le_of_ble_eq_true rfl, Nat.le_of_ble_eq_true rfl⟩) hK hP hD hS hA hl.1 [0, 1, 2] (by decide) rfl (va_recv hK hP (ci := 2) (q0 := 0) rfl rfl) (fun u => rfl) rfl rfl (Nat.le_of_ble_eq_true rfl) d_M_compareSizes_21 ⟨Nat.zero_le _, Nat.zero_le _⟩ (fun v u1 H locs hw hP hD hS => ?_)
          have hP : va_P D vwCl [(h, .inr (2, [.int u1, .ref pa, .ref ba])), (pa, .inl (cI, 2400, .inl P)), (ba, .inl (cZ, 10, .inl B))] H := hP
          have hD : va_D A [(h, .inr (2, [.int u1, .ref pa, .ref ba])), (pa, .inl (cI, 2400, .inl P)), (ba, .inl (cZ, 10, .inl B))] := hD
          obtain ⟨rfl, rfl⟩ : u1 = 0 ∧ v = some (.int 1) := by rcases hw with ⟨h1, -⟩ | ⟨-, h1, -⟩ | ⟨-, -, h1, h2⟩ <;> first | exact ⟨h1, h2⟩ | exact absurd h1 (by decide +kernel)
          have hP : va_P D vwCl [(h, .inr (2, [.int 0, .ref pa, .ref ba])), (pa, .inl (cI, 2400, .inl P)), (ba, .inl (cZ, 10, .inl B))] H := hP
          have hD : va_D A [(h, .inr (2, [.int 0, .ref pa, .ref ba])), (pa, .inl (cI, 2400, .inl P)), (ba, .inl (cZ, 10, .inl B))] := hD
          show W _ _ _ _ _ _ _ _ _ _ _ _ _ _ _ (F0 m 24 ls [.int 1])
          refine lv_if_eq (tgt := 36) hx hb d_M_compareSizes_24 (by decide) (fun c22 => ?_) (fun c22 => ?_)
          · first | exact absurd c22 (by decide +kernel) | exact absurd rfl c22 | exact absurd (by decide +kernel) c22
          · refine lv_aload_n hx hb d_M_compareSizes_27 rfl (lv_at hl 0 rfl) ?_
            refine lv_iload_n hx hb d_M_compareSizes_28 rfl (lv_at hl 1 rfl) ?_
            refine lv_iload_n hx hb d_M_compareSizes_29 rfl (lv_at hl 2 rfl) ?_
            refine ts_callV (rest := []) ⟨hx, hb, hml, hown, hts⟩ (c_M_sizes l D cL cA cI cZ h pa ba 0 P B r q (by omega) (by omega) hM.1 _) (cwV 2 hts g_M_compareSizes_M_sizes rfl rfl rfl (by decide +kernel) ⟨Nat.le_of_ble_eq_true rfl, Nat.le_of_ble_eq_true rfl⟩) hK hP hD hS hA hl.1 [0, 1, 2] (by decide) rfl (va_recv hK hP (ci := 2) (q0 := 0) rfl rfl) (fun u => rfl) rfl rfl (Nat.le_of_ble_eq_true rfl) d_M_compareSizes_30 ⟨Nat.zero_le _, Nat.zero_le _⟩ (fun v _u H locs hw hP hD hS => ?_)
            have hP : va_P D vwCl [(h, .inr (2, [.int 0, .ref pa, .ref ba])), (pa, .inl (cI, 2400, .inl P)), (ba, .inl (cZ, 10, .inl B))] H := hP
            have hD : va_D A [(h, .inr (2, [.int 0, .ref pa, .ref ba])), (pa, .inl (cI, 2400, .inl P)), (ba, .inl (cZ, 10, .inl B))] := hD
            obtain rfl := hw
            show W _ _ _ _ _ _ _ _ _ _ _ _ _ _ _ (F0 m 33 ls [.int (ts_cm (ts_r P r) (ts_r P q))])
            refine lv_goto (tgt := 37) hx hb d_M_compareSizes_33 (by decide) ?_
            exact W.iret (v := (ts_cm (ts_r P r) (ts_r P q))) hx hb hr (fun t ht hW => ts_ret (u := 0) hP hD hK hS ⟨_, rfl, Or.inl ⟨r, q, hr8, hq8, rfl, rfl, rfl, by rw [hM.abs hr8, hM.abs hq8, ts_cm_sg]⟩⟩ ht hW) hS.2.2 d_M_compareSizes_37
      · show W _ _ _ _ _ _ _ _ _ _ _ _ _ _ _ (F0 m 12 ls [.int 0, .ref h])
        refine lv_if_eq (tgt := 19) hx hb d_M_compareSizes_12 (by decide) (fun c18 => ?_) (fun c18 => ?_)
        · refine lv_iconst (v := 0) hx hb d_M_compareSizes_19 (by decide) ?_
          refine lv_iconst (v := 1) hx hb d_M_compareSizes_20 (by decide) ?_
          refine ts_callV (rest := []) ⟨hx, hb, hml, hown, hts⟩ (c_M_goes l D cL cA cI cZ h pa ba th P B 0 1 _) (cwV 2 hts g_M_compareSizes_M_goes rfl rfl rfl (by decide +kernel) ⟨Nat.le_of_ble_eq_true rfl, Nat.le_of_ble_eq_true rfl⟩) hK hP hD hS hA hl.1 [0, 1, 2] (by decide) rfl (va_recv hK hP (ci := 2) (q0 := 0) rfl rfl) (fun u => rfl) rfl rfl (Nat.le_of_ble_eq_true rfl) d_M_compareSizes_21 ⟨Nat.zero_le _, Nat.zero_le _⟩ (fun v u1 H locs hw hP hD hS => ?_)
          have hP : va_P D vwCl [(h, .inr (2, [.int u1, .ref pa, .ref ba])), (pa, .inl (cI, 2400, .inl P)), (ba, .inl (cZ, 10, .inl B))] H := hP
          have hD : va_D A [(h, .inr (2, [.int u1, .ref pa, .ref ba])), (pa, .inl (cI, 2400, .inl P)), (ba, .inl (cZ, 10, .inl B))] := hD
          obtain ⟨rfl, rfl⟩ : u1 = 1 ∧ v = some (.int 0) := by rcases hw with ⟨-, h1, h2⟩ | ⟨h1, -⟩ | ⟨h1, -⟩ <;> first | exact ⟨h1, h2⟩ | exact absurd rfl h1
          have hP : va_P D vwCl [(h, .inr (2, [.int 1, .ref pa, .ref ba])), (pa, .inl (cI, 2400, .inl P)), (ba, .inl (cZ, 10, .inl B))] H := hP
          have hD : va_D A [(h, .inr (2, [.int 1, .ref pa, .ref ba])), (pa, .inl (cI, 2400, .inl P)), (ba, .inl (cZ, 10, .inl B))] := hD
          show W _ _ _ _ _ _ _ _ _ _ _ _ _ _ _ (F0 m 24 ls [.int 0])
          refine lv_if_eq (tgt := 36) hx hb d_M_compareSizes_24 (by decide) (fun c21 => ?_) (fun c21 => ?_)
          · refine lv_iconst (v := 0) hx hb d_M_compareSizes_36 (by decide) ?_
            exact W.iret (v := 0) hx hb hr (fun t ht hW => ts_ret (u := 1) hP hD hK hS ⟨_, rfl, Or.inr ⟨Or.inr hby, rfl⟩⟩ ht hW) hS.2.2 d_M_compareSizes_37
          · first | exact absurd c21 (by decide +kernel) | exact absurd rfl c21 | exact absurd (by decide +kernel) c21
        · first | exact absurd c18 (by decide +kernel) | exact absurd rfl c18 | exact absurd (by decide +kernel) c18
  · show W _ _ _ _ _ _ _ _ _ _ _ _ _ _ _ (F0 m 5 ls [.int 0, .ref h])
    refine lv_if_eq (tgt := 19) hx hb d_M_compareSizes_5 (by decide) (fun c16 => ?_) (fun c16 => ?_)
    · refine lv_iconst (v := 0) hx hb d_M_compareSizes_19 (by decide) ?_
      refine lv_iconst (v := 1) hx hb d_M_compareSizes_20 (by decide) ?_
      refine ts_callV (rest := []) ⟨hx, hb, hml, hown, hts⟩ (c_M_goes l D cL cA cI cZ h pa ba th P B 0 1 _) (cwV 2 hts g_M_compareSizes_M_goes rfl rfl rfl (by decide +kernel) ⟨Nat.le_of_ble_eq_true rfl, Nat.le_of_ble_eq_true rfl⟩) hK hP hD hS hA hl.1 [0, 1, 2] (by decide) rfl (va_recv hK hP (ci := 2) (q0 := 0) rfl rfl) (fun u => rfl) rfl rfl (Nat.le_of_ble_eq_true rfl) d_M_compareSizes_21 ⟨Nat.zero_le _, Nat.zero_le _⟩ (fun v u1 H locs hw hP hD hS => ?_)
      have hP : va_P D vwCl [(h, .inr (2, [.int u1, .ref pa, .ref ba])), (pa, .inl (cI, 2400, .inl P)), (ba, .inl (cZ, 10, .inl B))] H := hP
      have hD : va_D A [(h, .inr (2, [.int u1, .ref pa, .ref ba])), (pa, .inl (cI, 2400, .inl P)), (ba, .inl (cZ, 10, .inl B))] := hD
      obtain ⟨rfl, rfl⟩ : u1 = 1 ∧ v = some (.int 0) := by rcases hw with ⟨-, h1, h2⟩ | ⟨h1, -⟩ | ⟨h1, -⟩ <;> first | exact ⟨h1, h2⟩ | exact absurd rfl h1
      have hP : va_P D vwCl [(h, .inr (2, [.int 1, .ref pa, .ref ba])), (pa, .inl (cI, 2400, .inl P)), (ba, .inl (cZ, 10, .inl B))] H := hP
      have hD : va_D A [(h, .inr (2, [.int 1, .ref pa, .ref ba])), (pa, .inl (cI, 2400, .inl P)), (ba, .inl (cZ, 10, .inl B))] := hD
      show W _ _ _ _ _ _ _ _ _ _ _ _ _ _ _ (F0 m 24 ls [.int 0])
      refine lv_if_eq (tgt := 36) hx hb d_M_compareSizes_24 (by decide) (fun c20 => ?_) (fun c20 => ?_)
      · refine lv_iconst (v := 0) hx hb d_M_compareSizes_36 (by decide) ?_
        exact W.iret (v := 0) hx hb hr (fun t ht hW => ts_ret (u := 1) hP hD hK hS ⟨_, rfl, Or.inr ⟨Or.inl hbx, rfl⟩⟩ ht hW) hS.2.2 d_M_compareSizes_37
      · first | exact absurd c20 (by decide +kernel) | exact absurd rfl c20 | exact absurd (by decide +kernel) c20
    · first | exact absurd c16 (by decide +kernel) | exact absurd rfl c16 | exact absurd (by decide +kernel) c16

