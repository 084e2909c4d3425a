set_option maxHeartbeats 4000000 in
set_option maxRecDepth 100000 in
theorem c_M_word (l : Launch) (D : va_G) (cL cA cI cZ : ClassId) (h pa ba : Nat) (th : Int32) (P B : Nat → Int32) (V : Nat → Int) (hM : ts_MS P B V) (x y : Int32) (sz : Nat) : Met l y_M_word w_M_word (ts_rm 2) (va_Pc [.ref h, .int x, .int y] (ts_A D vwCl (ts_ty cL cA cI cZ) [(h, .inr (2, [.int th, .ref pa, .ref ba])), (pa, .inl (cI, 2400, .inl P)), (ba, .inl (cZ, 10, .inl B))] sz)) (ts_Q (fun (v : Option Value) (u : Int32) => ∃ z : Int64, v = some (.long z) ∧ ((∃ r, r < 8 ∧ x = nI r ∧ u = 0 ∧ ts_Wd (V r).natAbs (y.toInt + 3222) z) ∨ (ts_bad x ∧ u = 1))) (fun u => ts_B D vwCl (ts_ty cL cA cI cZ) (va_A [(h, .inr (2, [.int th, .ref pa, .ref ba])), (pa, .inl (cI, 2400, .inl P)), (ba, .inl (cZ, 10, .inl B))] sz) ([(h, .inr (2, [.int u, .ref pa, .ref ba])), (pa, .inl (cI, 2400, .inl P)), (ba, .inl (cZ, 10, .inl B))])) (va_A [(h, .inr (2, [.int th, .ref pa, .ref ba])), (pa, .inl (cI, 2400, .inl P)), (ba, .inl (cZ, 10, .inl B))] sz)) 0 0 (va_A [(h, .inr (2, [.int th, .ref pa, .ref ba])), (pa, .inl (cI, 2400, .inl P)), (ba, .inl (cZ, 10, .inl B))] sz) := by
  refine ts_met (cc := b_M_word) (maxL := 6) (ret := (some .long)) (by decide) rfl (Nat.le_of_ble_eq_true rfl) ?_
  intro p e s m below meth c hx hb hr hml hown hts hlocks hname A hA hAe hK hP hD hS hsz ls hl
  have hown : s.vm.findClass R_M = some m.cls := hown
  have hl : lv_has ls 6 [(0, .ref h), (1, .int x), (2, .int y)] := hl
  have hP : va_P D vwCl [(h, .inr (2, [.int th, .ref pa, .ref ba])), (pa, .inl (cI, 2400, .inl P)), (ba, .inl (cZ, 10, .inl B))] s.heap := hP
  have hD : va_D A [(h, .inr (2, [.int th, .ref pa, .ref ba])), (pa, .inl (cI, 2400, .inl P)), (ba, .inl (cZ, 10, .inl B))] := hD
  refine lv_aload_n hx hb d_M_word_0 rfl (lv_at hl 0 rfl) ?_
  refine lv_iload_n hx hb d_M_word_1 rfl (lv_at hl 1 rfl) ?_
  refine ts_callS (rest := [.ref h]) ⟨hx, hb, hml, hown, hts⟩ (c_M_isSum l D cL cA cI cZ x _) (va_cwS 1 hts g_M_word_M_isSum rfl rfl rfl (by decide +kernel) ⟨Nat.le_of_ble_eq_true rfl, Nat.le_of_ble_eq_true rfl⟩) hK hP hD hS hA hl.1 [] (by decide) rfl (fun u => rfl) rfl rfl (Nat.le_of_ble_eq_true rfl) d_M_word_2 ⟨Nat.zero_le _, Nat.zero_le _⟩ (fun v _u H locs hw hP hD hS => ?_)
  have hP : va_P D vwCl [(h, .inr (2, [.int th, .ref pa, .ref ba])), (pa, .inl (cI, 2400, .inl P)), (ba, .inl (cZ, 10, .inl B))] H := hP
  have hD : va_D A [(h, .inr (2, [.int th, .ref pa, .ref ba])), (pa, .inl (cI, 2400, .inl P)), (ba, .inl (cZ, 10, .inl B))] := hD
  rcases hw with ⟨⟨r, hr8, rfl⟩, rfl⟩ | ⟨hbad, rfl⟩
  · have hl : lv_has ls 6 [(0, .ref h), (1, .int (nI r)), (2, .int y)] := hl
    show W _ _ _ _ _ _ _ _ _ _ _ _ _ _ _ (F0 m 5 ls [.int 1, .ref h])
    refine lv_iconst (v := 1) hx hb d_M_word_5 (by decide) ?_
    refine ts_callV (rest := []) ⟨hx, hb, hml, hown, hts⟩ (c_M_goes l D cL cA cI cZ h pa ba th P B 1 1 _) (cwV 2 hts g_M_word_M_goes rfl rfl rfl (by decide +kernel) ⟨Nat.le_of_ble_eq_true rfl, Nat.le_of_ble_eq_true rfl⟩) hK hP hD hS hA hl.1 [0, 1, 2] (by decide) rfl (va_recv hK hP (ci := 2) (q0 := 0) rfl rfl) (fun u => rfl) rfl rfl (Nat.le_of_ble_eq_true rfl) d_M_word_6 ⟨Nat.zero_le _, Nat.zero_le _⟩ (fun v u1 H locs hw hP hD hS => ?_)
    have hP : va_P D vwCl [(h, .inr (2, [.int u1, .ref pa, .ref ba])), (pa, .inl (cI, 2400, .inl P)), (ba, .inl (cZ, 10, .inl B))] H := hP
    have hD : va_D A [(h, .inr (2, [.int u1, .ref pa, .ref ba])), (pa, .inl (cI, 2400, .inl P)), (ba, .inl (cZ, 10, .inl B))] := hD
    obtain ⟨rfl, rfl⟩ : u1 = 0 ∧ v = some (.int 1) := by rcases hw with ⟨h1, -⟩ | ⟨-, h1, -⟩ | ⟨-, -, h1, h2⟩ <;> first | exact ⟨h1, h2⟩ | exact absurd h1 (by decide +kernel)
    have hP : va_P D vwCl [(h, .inr (2, [.int 0, .ref pa, .ref ba])), (pa, .inl (cI, 2400, .inl P)), (ba, .inl (cZ, 10, .inl B))] H := hP
    have hD : va_D A [(h, .inr (2, [.int 0, .ref pa, .ref ba])), (pa, .inl (cI, 2400, .inl P)), (ba, .inl (cZ, 10, .inl B))] := hD
    show W _ _ _ _ _ _ _ _ _ _ _ _ _ _ _ (F0 m 9 ls [.int 1])
    refine lv_if_ne (tgt := 14) hx hb d_M_word_9 (by decide) (fun c2 => ?_) (fun c2 => ?_)
    · refine lv_lconst (v := 0) hx hb d_M_word_14 (by decide) ?_
      refine lv_lstore_n (lv' := [(3, .long 0), (0, .ref h), (1, .int (nI r)), (2, .int y)]) hx hb d_M_word_15 rfl hl (by decide) rfl (fun ls hl => ?_)
      refine lv_bipush (v := ts_dn 63 0) hx hb d_M_word_16 (by decide) ?_
      refine lv_istore (lv' := [(5, .int (ts_dn 63 0)), (3, .long 0), (0, .ref h), (1, .int (nI r)), (2, .int y)]) hx hb d_M_word_18 hl (by decide) rfl (fun ls hl => ?_)
      have hab := hM.abs hr8
      have hy1 := Int32.le_toInt y
      have hy2 := Int32.toInt_lt y
      have hy3 : (Int32.toInt64 y).toInt = y.toInt := Int32.toInt_toInt64 y
      refine ts_lp (H0 := s.heap) (D := D) (cl := vwCl) (A := A) (nL := 6) 64 (fun (i : Nat) (q : Int64) => ts_WrI (ts_r P r) (y.toInt + 3222) i q) (fun (i : Nat) (q : Int64) => [(h, .inr (2, [.int 0, .ref pa, .ref ba])), (pa, .inl (cI, 2400, .inl P)), (ba, .inl (cZ, 10, .inl B))]) (fun (i : Nat) (q : Int64) => [(5, .int (ts_dn 63 i)), (3, .long q), (0, .ref h), (1, .int (nI r)), (2, .int y)]) 0 0 ?_ ?_ (by omega) (ts_WrI.zero) hP hD hS (lv_sub hl [0, 1, 2, 3, 4] rfl)
      · intro i q hi hI ih H locs hP hD hS ls hl
        have hl : lv_has ls 6 [(5, .int (ts_dn 63 i)), (3, .long q), (0, .ref h), (1, .int (nI r)), (2, .int y)] := hl
        have hP : va_P D vwCl [(h, .inr (2, [.int 0, .ref pa, .ref ba])), (pa, .inl (cI, 2400, .inl P)), (ba, .inl (cZ, 10, .inl B))] H := hP
        have hD : va_D A [(h, .inr (2, [.int 0, .ref pa, .ref ba])), (pa, .inl (cI, 2400, .inl P)), (ba, .inl (cZ, 10, .inl B))] := hD
        obtain ⟨j, hj⟩ : ∃ j : Nat, j = 63 - i := ⟨_, rfl⟩
        rw [ts_dn_le (show i ≤ 63 by omega), ← hj] at hl
        have hl : lv_has ls 6 [(5, .int (nI j)), (3, .long q), (0, .ref h), (1, .int (nI r)), (2, .int y)] := hl
        refine lv_iload hx hb d_M_word_20 (lv_at hl 0 rfl) ?_
        refine lv_if_lt (tgt := 55) hx hb d_M_word_22 (by decide) (fun c3 => ?_) (fun c3 => ?_)
        · exact absurd c3 (nI_pos (by omega))
        · refine lv_lload_n hx hb d_M_word_25 rfl (lv_at hl 1 rfl) ?_
          refine lv_iconst (v := 1) hx hb d_M_word_26 (by decide) ?_
          refine lv_lshl hx hb d_M_word_27 rfl ?_
          refine lv_topl (fun z4 e_z4 => ?_)
          refine lv_aload_n hx hb d_M_word_28 rfl (lv_at hl 2 rfl) ?_
          refine lv_iload_n hx hb d_M_word_29 rfl (lv_at hl 3 rfl) ?_
          refine lv_iload_n hx hb d_M_word_30 rfl (lv_at hl 4 rfl) ?_
          refine lv_i2l hx hb d_M_word_31 rfl ?_
          refine lv_iload hx hb d_M_word_32 (lv_at hl 0 rfl) ?_
          refine lv_i2l hx hb d_M_word_34 rfl ?_
          refine lv_ladd hx hb d_M_word_35 ?_
          refine lv_topl (fun z5 e_z5 => ?_)
          have hj3 : (Int32.toInt64 (nI j)).toInt = (j : Int) := by rw [Int32.toInt_toInt64, nI_toInt (by omega)]
          have hzp : Int64.toInt z5 = y.toInt + (j : Int) := by rw [e_z5, ts_l_add (by rw [hy3, hj3]; omega) (by rw [hy3, hj3]; omega), hy3, hj3]
          refine ts_callV (rest := [.long z4]) ⟨hx, hb, hml, hown, hts⟩ (c_M_has l D cL cA cI cZ h pa ba 0 P B r z5 (by omega) hM.1 (by omega) (by omega) _) (cwV 2 hts g_M_word_M_has rfl rfl rfl (by decide +kernel) ⟨Nat.le_of_ble_eq_true rfl, Nat.le_of_ble_eq_true rfl⟩) hK hP hD hS hA hl.1 [0, 1, 2] (by decide) rfl (va_recv hK hP (ci := 2) (q0 := 0) rfl rfl) (fun u => rfl) rfl rfl (Nat.le_of_ble_eq_true rfl) d_M_word_36 ⟨Nat.zero_le _, Nat.zero_le _⟩ (fun v _u H locs hw hP hD hS => ?_)
          have hP : va_P D vwCl [(h, .inr (2, [.int 0, .ref pa, .ref ba])), (pa, .inl (cI, 2400, .inl P)), (ba, .inl (cZ, 10, .inl B))] H := hP
          have hD : va_D A [(h, .inr (2, [.int 0, .ref pa, .ref ba])), (pa, .inl (cI, 2400, .inl P)), (ba, .inl (cZ, 10, .inl B))] := hD
          obtain rfl := hw
          show W _ _ _ _ _ _ _ _ _ _ _ _ _ _ _ (F0 m 39 ls [.int (if ts_ib (ts_r P r) (Int64.toInt z5 + 3222) = true then 1 else 0), .long z4])
          have hpos : y.toInt + 3222 + (63 - (i : Int)) = Int64.toInt z5 + 3222 := by omega
          refine lv_if_eq (tgt := 46) hx hb d_M_word_39 (by decide) (fun c6 => ?_) (fun c6 => ?_)
          · have h0 : ¬ ts_ib (ts_r P r) (Int64.toInt z5 + 3222) = true := fun z => by rw [if_pos z] at c6; exact absurd c6 (by decide +kernel)
            refine lv_lconst (v := 0) hx hb d_M_word_46 (by decide) ?_
            refine lv_lor hx hb d_M_word_47 ?_
            refine lv_topl (fun z7 e_z7 => ?_)
            refine lv_lstore_n (lv' := [(3, .long z7), (5, .int (nI j)), (0, .ref h), (1, .int (nI r)), (2, .int y)]) hx hb d_M_word_48 rfl hl (by decide) rfl (fun ls hl => ?_)
            refine lv_iinc (v := (ts_dn 63 (i + 1))) (lv' := [(5, .int (ts_dn 63 (i + 1))), (3, .long z7), (0, .ref h), (1, .int (nI r)), (2, .int y)]) hx hb d_M_word_49 hl (k := 1) rfl (by rw [← ts_dn_s, ts_dn_le (show i ≤ 63 by omega), hj]) (by decide) rfl (fun ls hl => ?_)
            refine lv_goto (tgt := 20) hx hb d_M_word_52 (by decide) ?_
            refine ih z7 ?_ _ _ hP hD hS ls (lv_sub hl [0, 1, 2, 3, 4] rfl)
            rw [e_z7, e_z4]
            exact ts_WrI.step hi hI (by rw [hpos, if_neg h0]; decide +kernel)
          · have h0 : ts_ib (ts_r P r) (Int64.toInt z5 + 3222) = true := by
              by_cases z : ts_ib (ts_r P r) (Int64.toInt z5 + 3222) = true
              · exact z
              · rw [if_neg z] at c6; exact absurd rfl c6
            refine lv_lconst (v := 1) hx hb d_M_word_42 (by decide) ?_
            refine lv_goto (tgt := 47) hx hb d_M_word_43 (by decide) ?_
            refine lv_lor hx hb d_M_word_47 ?_
            refine lv_topl (fun z8 e_z8 => ?_)
            refine lv_lstore_n (lv' := [(3, .long z8), (5, .int (nI j)), (0, .ref h), (1, .int (nI r)), (2, .int y)]) hx hb d_M_word_48 rfl hl (by decide) rfl (fun ls hl => ?_)
            refine lv_iinc (v := (ts_dn 63 (i + 1))) (lv' := [(5, .int (ts_dn 63 (i + 1))), (3, .long z8), (0, .ref h), (1, .int (nI r)), (2, .int y)]) hx hb d_M_word_49 hl (k := 1) rfl (by rw [← ts_dn_s, ts_dn_le (show i ≤ 63 by omega), hj]) (by decide) rfl (fun ls hl => ?_)
            refine lv_goto (tgt := 20) hx hb d_M_word_52 (by decide) ?_
            refine ih z8 ?_ _ _ hP hD hS ls (lv_sub hl [0, 1, 2, 3, 4] rfl)
            rw [e_z8, e_z4]
            exact ts_WrI.step hi hI (by rw [hpos, if_pos h0]; decide +kernel)
      · intro q hI H locs hP hD hS ls hl
        have hl : lv_has ls 6 [(5, .int (ts_dn 63 64)), (3, .long q), (0, .ref h), (1, .int (nI r)), (2, .int y)] := hl
        have hP : va_P D vwCl [(h, .inr (2, [.int 0, .ref pa, .ref ba])), (pa, .inl (cI, 2400, .inl P)), (ba, .inl (cZ, 10, .inl B))] H := hP
        have hD : va_D A [(h, .inr (2, [.int 0, .ref pa, .ref ba])), (pa, .inl (cI, 2400, .inl P)), (ba, .inl (cZ, 10, .inl B))] := hD
        refine lv_iload hx hb d_M_word_20 (lv_at hl 0 rfl) ?_
        refine lv_if_lt (tgt := 55) hx hb d_M_word_22 (by decide) (fun c9 => ?_) (fun c9 => ?_)
        · refine lv_lload_n hx hb d_M_word_55 rfl (lv_at hl 1 rfl) ?_
          exact W.lret (v := q) hx hb hr (fun t ht hW => ts_ret (u := 0) hP hD hK hS ⟨_, rfl, Or.inl ⟨r, hr8, rfl, rfl, by rw [← hab]; exact ts_WrI.done hI⟩⟩ ht hW) hS.2.2 d_M_word_56
        · exact absurd (ts_dn_end 63) c9
    · first | exact absurd c2 (by decide +kernel) | exact absurd rfl c2 | exact absurd (by decide +kernel) c2
  · show W _ _ _ _ _ _ _ _ _ _ _ _ _ _ _ (F0 m 5 ls [.int 0, .ref h])
    refine lv_iconst (v := 1) hx hb d_M_word_5 (by decide) ?_
    refine ts_callV (rest := []) ⟨hx, hb, hml, hown, hts⟩ (c_M_goes l D cL cA cI cZ h pa ba th P B 0 1 _) (cwV 2 hts g_M_word_M_goes rfl rfl rfl (by decide +kernel) ⟨Nat.le_of_ble_eq_true rfl, Nat.le_of_ble_eq_true rfl⟩) hK hP hD hS hA hl.1 [0, 1, 2] (by decide) rfl (va_recv hK hP (ci := 2) (q0 := 0) rfl rfl) (fun u => rfl) rfl rfl (Nat.le_of_ble_eq_true rfl) d_M_word_6 ⟨Nat.zero_le _, Nat.zero_le _⟩ (fun v u1 H locs hw hP hD hS => ?_)
    have hP : va_P D vwCl [(h, .inr (2, [.int u1, .ref pa, .ref ba])), (pa, .inl (cI, 2400, .inl P)), (ba, .inl (cZ, 10, .inl B))] H := hP
    have hD : va_D A [(h, .inr (2, [.int u1, .ref pa, .ref ba])), (pa, .inl (cI, 2400, .inl P)), (ba, .inl (cZ, 10, .inl B))] := hD
    obtain ⟨rfl, rfl⟩ : u1 = 1 ∧ v = some (.int 0) := by rcases hw with ⟨-, h1, h2⟩ | ⟨h1, -⟩ | ⟨h1, -⟩ <;> first | exact ⟨h1, h2⟩ | exact absurd rfl h1
    have hP : va_P D vwCl [(h, .inr (2, [.int 1, .ref pa, .ref ba])), (pa, .inl (cI, 2400, .inl P)), (ba, .inl (cZ, 10, .inl B))] H := hP
    have hD : va_D A [(h, .inr (2, [.int 1, .ref pa, .ref ba])), (pa, .inl (cI, 2400, .inl P)), (ba, .inl (cZ, 10, .inl B))] := hD
    show W _ _ _ _ _ _ _ _ _ _ _ _ _ _ _ (F0 m 9 ls [.int 0])
    refine lv_if_ne (tgt := 14) hx hb d_M_word_9 (by decide) (fun c1 => ?_) (fun c1 => ?_)
    · first | exact absurd c1 (by decide +kernel) | exact absurd rfl c1 | exact absurd (by decide +kernel) c1
    · refine lv_lconst (v := 0) hx hb d_M_word_12 (by decide) ?_
      exact W.lret (v := 0) hx hb hr (fun t ht hW => ts_ret (u := 1) hP hD hK hS ⟨_, rfl, Or.inr ⟨hbad, rfl⟩⟩ ht hW) hS.2.2 d_M_word_13

