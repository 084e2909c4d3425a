set_option maxHeartbeats 4000000 in
set_option maxRecDepth 100000 in
theorem c_M_plus (l : Launch) (D : va_G) (cL cA cI cZ : ClassId) (h pa ba : Nat) (th : Int32) (P B : Nat → Int32) (V : Nat → Int) (hM : ts_MS P B V) (x y t : Int32) (hbd : ∀ r, r < 8 → (V r).natAbs < 2 ^ 6380) (sz : Nat) : Met l y_M_plus w_M_plus (ts_rm 5) (va_Pc [.ref h, .int x, .int y, .int t] (ts_A D vwCl (ts_ty cL cA cI cZ) [(h, .inr (2, [.int th, .ref pa, .ref ba])), (pa, .inl (cI, 2400, .inl P)), (ba, .inl (cZ, 10, .inl B))] sz)) (ts_Q (fun (v : Option Value) (u : Int32 × (Nat → Int32) × (Nat → Int32)) => v = none ∧ ((∃ r q, r < 8 ∧ q < 8 ∧ x = nI r ∧ y = nI q ∧ (-1000000 ≤ t.toInt ∧ t.toInt ≤ 1000000) ∧ (((V r + t.toInt * V q).natAbs < 2 ^ 6372 ∧ u.1 = 0 ∧ ts_MS u.2.1 u.2.2 (va_up V r (V r + t.toInt * V q))) ∨ (¬ (V r + t.toInt * V q).natAbs < 2 ^ 6372 ∧ u.1 = 3 ∧ ts_MS u.2.1 u.2.2 V))) ∨ ((ts_bad x ∨ ts_bad y) ∧ u.1 = 1 ∧ ts_MS u.2.1 u.2.2 V) ∨ ((∃ r, r < 8 ∧ x = nI r) ∧ (∃ q, q < 8 ∧ y = nI q) ∧ ¬ (-1000000 ≤ t.toInt ∧ t.toInt ≤ 1000000) ∧ u.1 = 2 ∧ ts_MS u.2.1 u.2.2 V))) (fun u => ts_B D vwCl (ts_ty cL cA cI cZ) (va_A [(h, .inr (2, [.int th, .ref pa, .ref ba])), (pa, .inl (cI, 2400, .inl P)), (ba, .inl (cZ, 10, .inl B))] sz) ([(h, .inr (2, [.int u.1, .ref pa, .ref ba])), (pa, .inl (cI, 2400, .inl u.2.1)), (ba, .inl (cZ, 10, .inl u.2.2))])) (va_A [(h, .inr (2, [.int th, .ref pa, .ref ba])), (pa, .inl (cI, 2400, .inl P)), (ba, .inl (cZ, 10, .inl B))] sz)) 0 0 (va_A [(h, .inr (2, [.int th, .ref pa, .ref ba])), (pa, .inl (cI, 2400, .inl P)), (ba, .inl (cZ, 10, .inl B))] sz) := by
  refine ts_met (cc := b_M_plus) (maxL := 4) (ret := none) (by decide) rfl (Nat.le_of_ble_eq_true rfl) ?_
  intro p e s m below meth c hx hb hr hml hown hts hlocks hname A hA hAe hK hP hD hS hsz ls hl
  have hown : s.vm.findClass R_M = some m.cls := hown
  have hl : lv_has ls 4 [(0, .ref h), (1, .int x), (2, .int y), (3, .int t)] := hl
  have hP : va_P D vwCl [(h, .inr (2, [.int th, .ref pa, .ref ba])), (pa, .inl (cI, 2400, .inl P)), (ba, .inl (cZ, 10, .inl B))] s.heap := hP
  have hD : va_D A [(h, .inr (2, [.int th, .ref pa, .ref ba])), (pa, .inl (cI, 2400, .inl P)), (ba, .inl (cZ, 10, .inl B))] := hD
  refine lv_aload_n hx hb d_M_plus_0 rfl (lv_at hl 0 rfl) ?_
  refine lv_iload_n hx hb d_M_plus_1 rfl (lv_at hl 1 rfl) ?_
  refine ts_callS (rest := [.ref h]) ⟨hx, hb, hml, hown, hts⟩ (c_M_isSum l D cL cA cI cZ x _) (va_cwS 1 hts g_M_plus_M_isSum rfl rfl rfl (by decide +kernel) ⟨Nat.le_of_ble_eq_true rfl, Nat.le_of_ble_eq_true rfl⟩) hK hP hD hS hA hl.1 [] (by decide) rfl (fun u => rfl) rfl rfl (Nat.le_of_ble_eq_true rfl) d_M_plus_2 ⟨Nat.zero_le _, Nat.zero_le _⟩ (fun v _u H locs hw hP hD hS => ?_)
  have hP : va_P D vwCl [(h, .inr (2, [.int th, .ref pa, .ref ba])), (pa, .inl (cI, 2400, .inl P)), (ba, .inl (cZ, 10, .inl B))] H := hP
  have hD : va_D A [(h, .inr (2, [.int th, .ref pa, .ref ba])), (pa, .inl (cI, 2400, .inl P)), (ba, .inl (cZ, 10, .inl B))] := hD
  rcases hw with ⟨⟨r, hr8, rfl⟩, rfl⟩ | ⟨hbx, rfl⟩
  · have hl : lv_has ls 4 [(0, .ref h), (1, .int (nI r)), (2, .int y), (3, .int t)] := hl
    show W _ _ _ _ _ _ _ _ _ _ _ _ _ _ _ (F0 m 5 ls [.int 1, .ref h])
    refine lv_if_eq (tgt := 19) hx hb d_M_plus_5 (by decide) (fun c2 => ?_) (fun c2 => ?_)
    · first | exact absurd c2 (by decide +kernel) | exact absurd rfl c2 | exact absurd (by decide +kernel) c2
    · refine lv_iload_n hx hb d_M_plus_8 rfl (lv_at hl 2 rfl) ?_
      refine ts_callS (rest := [.ref h]) ⟨hx, hb, hml, hown, hts⟩ (c_M_isSum l D cL cA cI cZ y _) (va_cwS 1 hts g_M_plus_M_isSum rfl rfl rfl (by decide +kernel) ⟨Nat.le_of_ble_eq_true rfl, Nat.le_of_ble_eq_true rfl⟩) hK hP hD hS hA hl.1 [] (by decide) rfl (fun u => rfl) rfl rfl (Nat.le_of_ble_eq_true rfl) d_M_plus_9 ⟨Nat.zero_le _, Nat.zero_le _⟩ (fun v _u H locs hw hP hD hS => ?_)
      have hP : va_P D vwCl [(h, .inr (2, [.int th, .ref pa, .ref ba])), (pa, .inl (cI, 2400, .inl P)), (ba, .inl (cZ, 10, .inl B))] H := hP
      have hD : va_D A [(h, .inr (2, [.int th, .ref pa, .ref ba])), (pa, .inl (cI, 2400, .inl P)), (ba, .inl (cZ, 10, .inl B))] := hD
      rcases hw with ⟨⟨q, hq8, rfl⟩, rfl⟩ | ⟨hby, rfl⟩
      · have hl : lv_has ls 4 [(0, .ref h), (1, .int (nI r)), (2, .int (nI q)), (3, .int t)] := hl
        show W _ _ _ _ _ _ _ _ _ _ _ _ _ _ _ (F0 m 12 ls [.int 1, .ref h])
        refine lv_if_eq (tgt := 19) hx hb d_M_plus_12 (by decide) (fun c4 => ?_) (fun c4 => ?_)
        · first | exact absurd c4 (by decide +kernel) | exact absurd rfl c4 | exact absurd (by decide +kernel) c4
        · refine lv_iconst (v := 1) hx hb d_M_plus_15 (by decide) ?_
          refine lv_goto (tgt := 20) hx hb d_M_plus_16 (by decide) ?_
          refine lv_iload_n hx hb d_M_plus_20 rfl (lv_at hl 3 rfl) ?_
          refine ts_callS (rest := [.int 1, .ref h]) ⟨hx, hb, hml, hown, hts⟩ (c_M_isTimes l D cL cA cI cZ t _) (va_cwS 1 hts g_M_plus_M_isTimes rfl rfl rfl (by decide +kernel) ⟨Nat.le_of_ble_eq_true rfl, Nat.le_of_ble_eq_true rfl⟩) hK hP hD hS hA hl.1 [] (by decide) rfl (fun u => rfl) rfl rfl (Nat.le_of_ble_eq_true rfl) d_M_plus_21 ⟨Nat.zero_le _, Nat.zero_le _⟩ (fun v _u H locs hw hP hD hS => ?_)
          have hP : va_P D vwCl [(h, .inr (2, [.int th, .ref pa, .ref ba])), (pa, .inl (cI, 2400, .inl P)), (ba, .inl (cZ, 10, .inl B))] H := hP
          have hD : va_D A [(h, .inr (2, [.int th, .ref pa, .ref ba])), (pa, .inl (cI, 2400, .inl P)), (ba, .inl (cZ, 10, .inl B))] := hD
          rcases hw with ⟨htok, rfl⟩ | ⟨htbad, rfl⟩
          · show W _ _ _ _ _ _ _ _ _ _ _ _ _ _ _ (F0 m 24 ls [.int 1, .int 1, .ref h])
            refine ts_callV (rest := []) ⟨hx, hb, hml, hown, hts⟩ (c_M_goes l D cL cA cI cZ h pa ba th P B 1 1 _) (cwV 2 hts g_M_plus_M_goes rfl rfl rfl (by decide +kernel) ⟨Nat.le_of_ble_eq_true rfl, Nat.le_of_ble_eq_true rfl⟩) hK hP hD hS hA hl.1 [0, 1, 2] (by decide) rfl (va_recv hK hP (ci := 2) (q0 := 0) rfl rfl) (fun u => rfl) rfl rfl (Nat.le_of_ble_eq_true rfl) d_M_plus_24 ⟨Nat.zero_le _, Nat.zero_le _⟩ (fun v u1 H locs hw hP hD hS => ?_)
            have hP : va_P D vwCl [(h, .inr (2, [.int u1, .ref pa, .ref ba])), (pa, .inl (cI, 2400, .inl P)), (ba, .inl (cZ, 10, .inl B))] H := hP
            have hD : va_D A [(h, .inr (2, [.int u1, .ref pa, .ref ba])), (pa, .inl (cI, 2400, .inl P)), (ba, .inl (cZ, 10, .inl B))] := hD
            obtain ⟨rfl, rfl⟩ : u1 = 0 ∧ v = some (.int 1) := by rcases hw with ⟨h1, -⟩ | ⟨-, h1, -⟩ | ⟨-, -, h1, h2⟩ <;> first | exact ⟨h1, h2⟩ | exact absurd h1 (by decide +kernel)
            have hP : va_P D vwCl [(h, .inr (2, [.int 0, .ref pa, .ref ba])), (pa, .inl (cI, 2400, .inl P)), (ba, .inl (cZ, 10, .inl B))] H := hP
            have hD : va_D A [(h, .inr (2, [.int 0, .ref pa, .ref ba])), (pa, .inl (cI, 2400, .inl P)), (ba, .inl (cZ, 10, .inl B))] := hD
            show W _ _ _ _ _ _ _ _ _ _ _ _ _ _ _ (F0 m 27 ls [.int 1])
            refine lv_if_ne (tgt := 31) hx hb d_M_plus_27 (by decide) (fun c10 => ?_) (fun c10 => ?_)
            · have ha := ts_abs32 htok
              obtain ⟨n, hn⟩ : ∃ n : Nat, n = t.toInt.natAbs := ⟨_, rfl⟩
              rw [← hn] at ha
              have hfitq := ts_plN (hbd q hq8) ha.2.2.1
              refine lv_aload_n hx hb d_M_plus_31 rfl (lv_at hl 0 rfl) ?_
              refine lv_iload_n hx hb d_M_plus_32 rfl (lv_at hl 2 rfl) ?_
              refine lv_bipush (v := (nI 8)) hx hb d_M_plus_33 (by decide) ?_
              refine ts_callV (rest := []) ⟨hx, hb, hml, hown, hts⟩ (c_M_copy l D cL cA cI cZ h pa ba 0 P B q 8 (by omega) (by decide) (by omega) (hM.2.1 q (by omega)) hM.1 _) (cwV 2 hts g_M_plus_M_copy rfl rfl rfl (by decide +kernel) ⟨Nat.le_of_ble_eq_true rfl, Nat.le_of_ble_eq_true rfl⟩) hK hP hD hS hA hl.1 [0, 1, 2] (by decide) rfl (va_recv hK hP (ci := 2) (q0 := 0) rfl rfl) (fun u => rfl) rfl rfl (Nat.le_of_ble_eq_true rfl) d_M_plus_35 ⟨Nat.zero_le _, Nat.zero_le _⟩ (fun v u2 H locs hw hP hD hS => ?_)
              have hP : va_P D vwCl [(h, .inr (2, [.int 0, .ref pa, .ref ba])), (pa, .inl (cI, 2400, .inl u2)), (ba, .inl (cZ, 10, .inl (upd B 8 (B q))))] H := hP
              have hD : va_D A [(h, .inr (2, [.int 0, .ref pa, .ref ba])), (pa, .inl (cI, 2400, .inl u2)), (ba, .inl (cZ, 10, .inl (upd B 8 (B q))))] := hD
              obtain ⟨rfl, a1, a2, a3⟩ := hw
              show W _ _ _ _ _ _ _ _ _ _ _ _ _ _ _ (F0 m 38 ls [])
              refine lv_aload_n hx hb d_M_plus_38 rfl (lv_at hl 0 rfl) ?_
              refine lv_bipush (v := (nI 8)) hx hb d_M_plus_39 (by decide) ?_
              refine lv_iload_n hx hb d_M_plus_41 rfl (lv_at hl 3 rfl) ?_
              refine ts_cut 51 [.int (nI n), .int (nI 8), .ref h] (nL := 4) (fun (_ : Unit) => True) (fun (_ : Unit) => [(0, .ref h), (1, .int (nI r)), (2, .int (nI q)), (3, .int t)]) (fun _ ls _ hl => ?_) (fun kk => ?_)
              · have hl : lv_has ls 4 [(0, .ref h), (1, .int (nI r)), (2, .int (nI q)), (3, .int t)] := hl
                have hni : (nI n).toInt = (n : Int) := nI_toInt (by omega)
                have hnn : (nI n).toInt.toNat = n := by rw [hni]; rfl
                refine ts_callV (rest := []) ⟨hx, hb, hml, hown, hts⟩ (c_M_times l D cL cA cI cZ h pa ba 0 u2 (upd B 8 (B q)) 8 (nI n) (by decide) (by omega) a1 (by rw [hnn, a3, hM.abs hq8]; exact ts_mulN hfitq) _) (cwV 2 hts g_M_plus_M_times rfl rfl rfl (by decide +kernel) ⟨Nat.le_of_ble_eq_true rfl, Nat.le_of_ble_eq_true rfl⟩) hK hP hD hS hA hl.1 [0, 1, 2] (by decide) rfl (va_recv hK hP (ci := 2) (q0 := 0) rfl rfl) (fun u => rfl) rfl rfl (Nat.le_of_ble_eq_true rfl) d_M_plus_51 ⟨Nat.zero_le _, Nat.zero_le _⟩ (fun v u7 H locs hw hP hD hS => ?_)
                have hP : va_P D vwCl [(h, .inr (2, [.int 0, .ref pa, .ref ba])), (pa, .inl (cI, 2400, .inl u7)), (ba, .inl (cZ, 10, .inl (upd B 8 (B q))))] H := hP
                have hD : va_D A [(h, .inr (2, [.int 0, .ref pa, .ref ba])), (pa, .inl (cI, 2400, .inl u7)), (ba, .inl (cZ, 10, .inl (upd B 8 (B q))))] := hD
                obtain ⟨rfl, f1, f2, f3⟩ := hw
                show W _ _ _ _ _ _ _ _ _ _ _ _ _ _ _ (F0 m 54 ls [])
                rw [hnn, a3, hM.abs hq8] at f3
                have hB : ∀ r, r < 10 → upd B 8 (B q) r = 0 ∨ upd B 8 (B q) r = 1 := ts_B_upd hM.2.1 (hM.2.1 q (by omega))
                have hrow : ∀ j, j < 8 → ts_r u7 j = ts_r P j ∧ upd B 8 (B q) j = B j := fun j hj => ⟨by rw [f2.row (by omega), a2.row (by omega)], pk_un (by omega)⟩
                obtain ⟨B6, hB6⟩ : ∃ B6 : Nat → Int32, B6 = upd B 8 (B q) := ⟨_, rfl⟩
                rw [← hB6] at hP hD hB hrow
                have hP : va_P D vwCl [(h, .inr (2, [.int 0, .ref pa, .ref ba])), (pa, .inl (cI, 2400, .inl u7)), (ba, .inl (cZ, 10, .inl B6))] H := hP
                have hD : va_D A [(h, .inr (2, [.int 0, .ref pa, .ref ba])), (pa, .inl (cI, 2400, .inl u7)), (ba, .inl (cZ, 10, .inl B6))] := hD
                have h68 : B6 8 = B q := by rw [hB6, pk_us]
                obtain ⟨b9, hb9⟩ : ∃ b9 : Int32, b9 = ts_sb (decide (B q = 1)) (decide (t < 0)) (ts_r u7 8) := ⟨_, rfl⟩
                refine lv_aload_n hx hb d_M_plus_54 rfl (lv_at hl 0 rfl) ?_
                refine va_get (D := D) (ci := 2) (v := .ref ba) (C := R_M) (T := F_M) (N := 3) hx hb hts (by decide +kernel) hown hK hP 0 rfl rfl 2 (by decide) (hts (.fieldLink R_M 13 "TripleSumsModel" "below" "[Z") (by decide +kernel)) (fun _ h9 => h9) rfl d_M_plus_55 ?_
                refine lv_bipush (v := (nI 8)) hx hb d_M_plus_58 (by decide) ?_
                refine lv_aload_n hx hb d_M_plus_60 rfl (lv_at hl 0 rfl) ?_
                refine va_get (D := D) (ci := 2) (v := .ref ba) (C := R_M) (T := F_M) (N := 3) hx hb hts (by decide +kernel) hown hK hP 0 rfl rfl 2 (by decide) (hts (.fieldLink R_M 13 "TripleSumsModel" "below" "[Z") (by decide +kernel)) (fun _ h9 => h9) rfl d_M_plus_61 ?_
                refine lv_bipush (v := (nI 8)) hx hb d_M_plus_64 (by decide) ?_
                refine va_zald (D := D) hx hb hK hP 2 3 rfl rfl (vp_in_nI (by decide) (by decide)) d_M_plus_66 ?_
                refine lv_topi (fun v14 e_v14 => ?_)
                have hv : v14 = B q := by rw [e_v14, nI_clamp (n := 8) (by decide), h68]
                have hq01 := hM.2.1 q (by omega)
                refine ts_cutH 93 [.int b9, .int (nI 8), .ref ba] s.heap (D := D) (cl := vwCl) (A := A) (nL := 4) (fun (_ : Unit) => True) (fun (_ : Unit) => [(h, .inr (2, [.int 0, .ref pa, .ref ba])), (pa, .inl (cI, 2400, .inl u7)), (ba, .inl (cZ, 10, .inl B6))]) (fun (_ : Unit) => [(0, .ref h), (1, .int (nI r)), (2, .int (nI q)), (3, .int t)]) (fun _ H locs ls _ hP hD hS hl => ?_) (fun kk => ?_)
                · have hl : lv_has ls 4 [(0, .ref h), (1, .int (nI r)), (2, .int (nI q)), (3, .int t)] := hl
                  have hP : va_P D vwCl [(h, .inr (2, [.int 0, .ref pa, .ref ba])), (pa, .inl (cI, 2400, .inl u7)), (ba, .inl (cZ, 10, .inl B6))] H := hP
                  have hD : va_D A [(h, .inr (2, [.int 0, .ref pa, .ref ba])), (pa, .inl (cI, 2400, .inl u7)), (ba, .inl (cZ, 10, .inl B6))] := hD
                  refine va_zast (D := D) hx hb hK hP hD hS 2 3 rfl rfl (vp_in_nI (by decide) (by decide)) d_M_plus_93 (fun H locs hP hD hS => ?_)
                  have hP : va_P D vwCl [(h, .inr (2, [.int 0, .ref pa, .ref ba])), (pa, .inl (cI, 2400, .inl u7)), (ba, .inl (cZ, 10, .inl (upd B6 (Int32.toNatClampNeg (nI 8)) (vp_nar .boolean b9))))] H := hP
                  have hD : va_D A [(h, .inr (2, [.int 0, .ref pa, .ref ba])), (pa, .inl (cI, 2400, .inl u7)), (ba, .inl (cZ, 10, .inl (upd B6 (Int32.toNatClampNeg (nI 8)) (vp_nar .boolean b9))))] := hD
                  have hnb : vp_nar .boolean b9 = b9 := by rw [hb9]; rcases ts_sb01 (decide (B q = 1)) (decide (t < 0)) (ts_r u7 8) with z | z <;> rw [z] <;> decide +kernel
                  rw [hnb, nI_clamp (n := 8) (by decide)] at hP hD
                  obtain ⟨B7, hB7⟩ : ∃ B7 : Nat → Int32, B7 = upd B6 8 b9 := ⟨_, rfl⟩
                  rw [← hB7] at hP hD
                  have hP : va_P D vwCl [(h, .inr (2, [.int 0, .ref pa, .ref ba])), (pa, .inl (cI, 2400, .inl u7)), (ba, .inl (cZ, 10, .inl B7))] H := hP
                  have hD : va_D A [(h, .inr (2, [.int 0, .ref pa, .ref ba])), (pa, .inl (cI, 2400, .inl u7)), (ba, .inl (cZ, 10, .inl B7))] := hD
                  have h78 : B7 8 = b9 := by rw [hB7, pk_us]
                  have hrow : ∀ j, j < 8 → ts_r u7 j = ts_r P j ∧ B7 j = B j := fun j hj => ⟨(hrow j hj).1, by rw [hB7, pk_un (by omega)]; exact (hrow j hj).2⟩
                  have hB7s : ∀ r, r < 10 → B7 r = 0 ∨ B7 r = 1 := by rw [hB7]; exact ts_B_upd hB (by rw [hb9]; exact ts_sb01 _ _ _)
                  obtain ⟨k8, v8⟩ := ts_plV (P := u7) (B := B7) (x := V q) ha.2.2.2 (by rw [h78, hb9]) (by rw [f3, hn]) (by rw [decide_eq_true_eq]; exact (hM.neg hq8).symm)
                  refine lv_aload_n hx hb d_M_plus_94 rfl (lv_at hl 0 rfl) ?_
                  refine lv_iload_n hx hb d_M_plus_95 rfl (lv_at hl 1 rfl) ?_
                  refine lv_bipush (v := (nI 9)) hx hb d_M_plus_96 (by decide) ?_
                  refine ts_callV (rest := []) ⟨hx, hb, hml, hown, hts⟩ (c_M_copy l D cL cA cI cZ h pa ba 0 u7 B7 r 9 (by omega) (by decide) (by omega) (hB7s r (by omega)) f1 _) (cwV 2 hts g_M_plus_M_copy rfl rfl rfl (by decide +kernel) ⟨Nat.le_of_ble_eq_true rfl, Nat.le_of_ble_eq_true rfl⟩) hK hP hD hS hA hl.1 [0, 1, 2] (by decide) rfl (va_recv hK hP (ci := 2) (q0 := 0) rfl rfl) (fun u => rfl) rfl rfl (Nat.le_of_ble_eq_true rfl) d_M_plus_98 ⟨Nat.zero_le _, Nat.zero_le _⟩ (fun v u9 H locs hw hP hD hS => ?_)
                  have hP : va_P D vwCl [(h, .inr (2, [.int 0, .ref pa, .ref ba])), (pa, .inl (cI, 2400, .inl u9)), (ba, .inl (cZ, 10, .inl (upd B7 9 (B7 r))))] H := hP
                  have hD : va_D A [(h, .inr (2, [.int 0, .ref pa, .ref ba])), (pa, .inl (cI, 2400, .inl u9)), (ba, .inl (cZ, 10, .inl (upd B7 9 (B7 r))))] := hD
                  obtain ⟨rfl, g1, g2, g3⟩ := hw
                  show W _ _ _ _ _ _ _ _ _ _ _ _ _ _ _ (F0 m 101 ls [])
                  obtain ⟨B9, hB9⟩ : ∃ B9 : Nat → Int32, B9 = upd B7 9 (B7 r) := ⟨_, rfl⟩
                  rw [← hB9] at hP hD
                  have hP : va_P D vwCl [(h, .inr (2, [.int 0, .ref pa, .ref ba])), (pa, .inl (cI, 2400, .inl u9)), (ba, .inl (cZ, 10, .inl B9))] H := hP
                  have hD : va_D A [(h, .inr (2, [.int 0, .ref pa, .ref ba])), (pa, .inl (cI, 2400, .inl u9)), (ba, .inl (cZ, 10, .inl B9))] := hD
                  have hB9s : ∀ r, r < 10 → B9 r = 0 ∨ B9 r = 1 := by rw [hB9]; exact ts_B_upd hB7s (hB7s r (by omega))
                  have h99 : B9 9 = B7 r := by rw [hB9, pk_us]
                  have h98 : B9 8 = B7 8 := by rw [hB9, pk_un (by decide)]
                  have hrow : ∀ j, j < 8 → ts_r u9 j = ts_r P j ∧ B9 j = B j := fun j hj => ⟨(g2.row (by omega)).trans (hrow j hj).1, by rw [hB9, pk_un (by omega)]; exact (hrow j hj).2⟩
                  have r9 : ts_r u9 9 = ts_r P r := by rw [g3, ← g2.row (q := r) (by omega)]; exact (hrow r hr8).1
                  have b9r : B9 9 = B r := by rw [h99]; have z := (hrow r hr8).2; rw [hB9, pk_un (by omega)] at z; exact z
                  have k9 : ts_bk u9 B9 9 := by have z := (hM.2.2 r hr8).1; unfold ts_bk at z ⊢; rw [r9, b9r]; exact z
                  have v9 : ts_V u9 B9 9 = V r := by rw [← (hM.2.2 r hr8).2]; unfold ts_V; rw [r9, b9r]
                  have k8 : ts_bk u9 B9 8 := ts_bk_congr (g2.row (by decide)) h98 k8
                  have v8 : ts_V u9 B9 8 = t.toInt * V q := (ts_V_congr (g2.row (by decide)) h98).trans v8
                  have r8 : ts_r u9 8 = n * (V q).natAbs := (g2.row (by decide)).trans f3
                  refine lv_aload_n hx hb d_M_plus_101 rfl (lv_at hl 0 rfl) ?_
                  refine lv_bipush (v := (nI 9)) hx hb d_M_plus_102 (by decide) ?_
                  refine lv_bipush (v := (nI 8)) hx hb d_M_plus_104 (by decide) ?_
                  refine ts_callV (rest := []) ⟨hx, hb, hml, hown, hts⟩ (c_M_together l D cL cA cI cZ h pa ba 0 u9 B9 9 8 (by decide) (by decide) (by decide) k9 k8 g1 (by rw [r8, r9, hM.abs hr8]; exact ts_fit2 (ts_6380 (hbd r hr8)) hfitq) _) (cwV 2 hts g_M_plus_M_together rfl rfl rfl (by decide +kernel) ⟨Nat.le_of_ble_eq_true rfl, Nat.le_of_ble_eq_true rfl⟩) hK hP hD hS hA hl.1 [0, 1, 2] (by decide) rfl (va_recv hK hP (ci := 2) (q0 := 0) rfl rfl) (fun u => rfl) rfl rfl (Nat.le_of_ble_eq_true rfl) d_M_plus_106 ⟨Nat.zero_le _, Nat.zero_le _⟩ (fun v u8 H locs hw hP hD hS => ?_)
                  have hP : va_P D vwCl [(h, .inr (2, [.int 0, .ref pa, .ref ba])), (pa, .inl (cI, 2400, .inl u8.1)), (ba, .inl (cZ, 10, .inl (upd B9 9 u8.2)))] H := hP
                  have hD : va_D A [(h, .inr (2, [.int 0, .ref pa, .ref ba])), (pa, .inl (cI, 2400, .inl u8.1)), (ba, .inl (cZ, 10, .inl (upd B9 9 u8.2)))] := hD
                  obtain ⟨rfl, m1, m2, m3, m4⟩ := hw
                  show W _ _ _ _ _ _ _ _ _ _ _ _ _ _ _ (F0 m 109 ls [])
                  rw [v9, v8] at m3
                  have h9 : u8.2 = 0 ∨ u8.2 = 1 := by have z := m4.1; rw [pk_us] at z; exact z
                  obtain ⟨BX, hBX⟩ : ∃ BX : Nat → Int32, BX = upd B9 9 u8.2 := ⟨_, rfl⟩
                  rw [← hBX] at hP hD m3 m4
                  have hP : va_P D vwCl [(h, .inr (2, [.int 0, .ref pa, .ref ba])), (pa, .inl (cI, 2400, .inl u8.1)), (ba, .inl (cZ, 10, .inl BX))] H := hP
                  have hD : va_D A [(h, .inr (2, [.int 0, .ref pa, .ref ba])), (pa, .inl (cI, 2400, .inl u8.1)), (ba, .inl (cZ, 10, .inl BX))] := hD
                  have hBXs : ∀ r, r < 10 → BX r = 0 ∨ BX r = 1 := by rw [hBX]; exact ts_B_upd hB9s h9
                  have hrow : ∀ j, j < 8 → ts_r u8.1 j = ts_r P j ∧ BX j = B j := fun j hj => ⟨(m2.row (by omega)).trans (hrow j hj).1, by rw [hBX, pk_un (by omega)]; exact (hrow j hj).2⟩
                  have habs : ts_r u8.1 9 = (V r + t.toInt * V q).natAbs := by rw [← m3, ts_V_abs]
                  refine lv_aload_n hx hb d_M_plus_109 rfl (lv_at hl 0 rfl) ?_
                  refine lv_bipush (v := (nI 9)) hx hb d_M_plus_110 (by decide) ?_
                  refine ts_callV (rest := []) ⟨hx, hb, hml, hown, hts⟩ (c_M_highest l D cL cA cI cZ h pa ba 0 u8.1 BX 9 (by decide) m1 _) (cwV 1 hts g_M_plus_M_highest rfl rfl rfl (by decide +kernel) ⟨Nat.le_of_ble_eq_true rfl, Nat.le_of_ble_eq_true rfl⟩) hK hP hD hS hA hl.1 [0, 1, 2] (by decide) rfl (va_recv hK hP (ci := 2) (q0 := 0) rfl rfl) (fun u => rfl) rfl rfl (Nat.le_of_ble_eq_true rfl) d_M_plus_112 ⟨Nat.zero_le _, Nat.zero_le _⟩ (fun v _u H locs hw hP hD hS => ?_)
                  have hP : va_P D vwCl [(h, .inr (2, [.int 0, .ref pa, .ref ba])), (pa, .inl (cI, 2400, .inl u8.1)), (ba, .inl (cZ, 10, .inl BX))] H := hP
                  have hD : va_D A [(h, .inr (2, [.int 0, .ref pa, .ref ba])), (pa, .inl (cI, 2400, .inl u8.1)), (ba, .inl (cZ, 10, .inl BX))] := hD
                  obtain ⟨zt, rfl, hzt⟩ := hw
                  show W _ _ _ _ _ _ _ _ _ _ _ _ _ _ _ (F0 m 115 ls [.int zt])
                  have hlim := ts_tp_lim hzt (by rw [← ts_N6720]; exact ts_r_lt m1 (by decide))
                  rw [habs] at hlim
                  refine lv_sipush (v := 3150) hx hb d_M_plus_115 (by decide) ?_
                  refine lv_icmp_lt (tgt := 127) hx hb d_M_plus_118 (by decide) (fun c26 => ?_) (fun c26 => ?_)
                  · refine lv_aload_n hx hb d_M_plus_127 rfl (lv_at hl 0 rfl) ?_
                    refine lv_bipush (v := (nI 9)) hx hb d_M_plus_128 (by decide) ?_
                    refine lv_iload_n hx hb d_M_plus_130 rfl (lv_at hl 1 rfl) ?_
                    refine ts_callV (rest := []) ⟨hx, hb, hml, hown, hts⟩ (c_M_copy l D cL cA cI cZ h pa ba 0 u8.1 BX 9 r (by decide) (by omega) (by omega) (hBXs 9 (by decide)) m1 _) (cwV 2 hts g_M_plus_M_copy rfl rfl rfl (by decide +kernel) ⟨Nat.le_of_ble_eq_true rfl, Nat.le_of_ble_eq_true rfl⟩) hK hP hD hS hA hl.1 [0, 1, 2] (by decide) rfl (va_recv hK hP (ci := 2) (q0 := 0) rfl rfl) (fun u => rfl) rfl rfl (Nat.le_of_ble_eq_true rfl) d_M_plus_131 ⟨Nat.zero_le _, Nat.zero_le _⟩ (fun v uA H locs hw hP hD hS => ?_)
                    have hP : va_P D vwCl [(h, .inr (2, [.int 0, .ref pa, .ref ba])), (pa, .inl (cI, 2400, .inl uA)), (ba, .inl (cZ, 10, .inl (upd BX r (BX 9))))] H := hP
                    have hD : va_D A [(h, .inr (2, [.int 0, .ref pa, .ref ba])), (pa, .inl (cI, 2400, .inl uA)), (ba, .inl (cZ, 10, .inl (upd BX r (BX 9))))] := hD
                    obtain ⟨rfl, o1, o2, o3⟩ := hw
                    show W _ _ _ _ _ _ _ _ _ _ _ _ _ _ _ (F0 m 134 ls [])
                    have kr : ts_bk uA (upd BX r (BX 9)) r := by unfold ts_bk at m4 ⊢; rw [pk_us, o3]; exact m4
                    have vr : ts_V uA (upd BX r (BX 9)) r = V r + t.toInt * V q := by rw [← m3]; unfold ts_V; rw [pk_us, o3]
                    exact W.vret hx hb hr (fun t ht hW => ts_ret (u := (0, uA, upd BX r (BX 9))) hP hD hK hS ⟨rfl, Or.inl ⟨r, q, hr8, hq8, rfl, rfl, htok, Or.inl ⟨hlim.mp c26, rfl, hM.set o1 (ts_B_upd hBXs (hBXs 9 (by decide))) (fun j hj hjr => ⟨(o2.row hjr).trans (hrow j hj).1, (pk_un hjr).trans (hrow j hj).2⟩) kr vr⟩⟩⟩ ht hW) hS.2.2 d_M_plus_134
                  · refine lv_aload_n hx hb d_M_plus_121 rfl (lv_at hl 0 rfl) ?_
                    refine lv_iconst (v := 3) hx hb d_M_plus_122 (by decide) ?_
                    refine va_put (D := D) (ci := 2) (v := .int 3) (ty := .int) (C := R_M) (T := F_M) (N := 3) hx hb hts (by decide +kernel) ft_M ft_M_ok n_M hown hK hP hD hS 0 rfl rfl 0 (by decide) (hts (.fieldLink R_M 17 "TripleSumsModel" "thrown" "I") (by decide +kernel)) (fun _ h9 => h9) rfl (by decide +kernel) rfl rfl (Nat.le_of_ble_eq_true rfl) d_M_plus_123 (fun H locs hP hD hS => ?_)
                    have hP : va_P D vwCl [(h, .inr (2, [.int 3, .ref pa, .ref ba])), (pa, .inl (cI, 2400, .inl u8.1)), (ba, .inl (cZ, 10, .inl BX))] H := hP
                    have hD : va_D A [(h, .inr (2, [.int 3, .ref pa, .ref ba])), (pa, .inl (cI, 2400, .inl u8.1)), (ba, .inl (cZ, 10, .inl BX))] := hD
                    exact W.vret hx hb hr (fun t ht hW => ts_ret (u := (3, u8.1, BX)) hP hD hK hS ⟨rfl, Or.inl ⟨r, q, hr8, hq8, rfl, rfl, htok, Or.inr ⟨fun z => c26 (hlim.mpr z), rfl, hM.keep m1 hBXs hrow⟩⟩⟩ ht hW) hS.2.2 d_M_plus_126
                · refine lv_iload_n hx hb d_M_plus_67 rfl (lv_at hl 3 rfl) ?_
                  refine lv_if_ge (tgt := 75) hx hb d_M_plus_68 (by decide) (fun c15 => ?_) (fun c15 => ?_)
                  · have htn : ¬ t < 0 := Int32.not_lt.mpr c15
                    refine lv_iconst (v := 0) hx hb d_M_plus_75 (by decide) ?_
                    refine lv_icmp_eq (tgt := 92) hx hb d_M_plus_76 (by decide) (fun c16 => ?_) (fun c16 => ?_)
                    · have hb1 : B q = 0 := hv.symm.trans c16
                      have hpq : (decide (B q = 1) != decide (t < 0)) = false := by rw [hb1, decide_eq_false htn]; decide +kernel
                      refine lv_iconst (v := 0) hx hb d_M_plus_92 (by decide) ?_
                      refine lv_topi (fun z17 e_z17 => ?_)
                      obtain rfl : z17 = b9 := e_z17.trans (by rw [hb9]; unfold ts_sb; rw [if_neg (fun z => by rw [hpq] at z; exact absurd z.1 (by decide))])
                      exact kk () _ _ ls trivial hP hD hS (lv_sub hl [0, 1, 2, 3] rfl)
                    · have hb1 : B q = 1 := hq01.resolve_left (fun z => c16 (hv.trans z))
                      have hpq : (decide (B q = 1) != decide (t < 0)) = true := by rw [hb1, decide_eq_false htn]; decide +kernel
                      refine lv_aload_n hx hb d_M_plus_79 rfl (lv_at hl 0 rfl) ?_
                      refine lv_bipush (v := (nI 8)) hx hb d_M_plus_80 (by decide) ?_
                      refine ts_callV (rest := [.int (nI 8), .ref ba]) ⟨hx, hb, hml, hown, hts⟩ (c_M_isZero l D cL cA cI cZ h pa ba 0 u7 B6 8 (by decide) f1 _) (cwV 1 hts g_M_plus_M_isZero rfl rfl rfl (by decide +kernel) ⟨Nat.le_of_ble_eq_true rfl, Nat.le_of_ble_eq_true rfl⟩) hK hP hD hS hA hl.1 [0, 1, 2] (by decide) rfl (va_recv hK hP (ci := 2) (q0 := 0) rfl rfl) (fun u => rfl) rfl rfl (Nat.le_of_ble_eq_true rfl) d_M_plus_82 ⟨Nat.zero_le _, Nat.zero_le _⟩ (fun v _u H locs hw hP hD hS => ?_)
                      have hP : va_P D vwCl [(h, .inr (2, [.int 0, .ref pa, .ref ba])), (pa, .inl (cI, 2400, .inl u7)), (ba, .inl (cZ, 10, .inl B6))] H := hP
                      have hD : va_D A [(h, .inr (2, [.int 0, .ref pa, .ref ba])), (pa, .inl (cI, 2400, .inl u7)), (ba, .inl (cZ, 10, .inl B6))] := hD
                      obtain ⟨bz, rfl, hzb⟩ := hw
                      show W _ _ _ _ _ _ _ _ _ _ _ _ _ _ _ (F0 m 85 ls [.int bz, .int (nI 8), .ref ba])
                      refine lv_if_ne (tgt := 92) hx hb d_M_plus_85 (by decide) (fun c18 => ?_) (fun c18 => ?_)
                      · have hz0 : ts_r u7 8 = 0 := by rcases hzb with ⟨-, h1⟩ | ⟨h1, -⟩ <;> first | exact h1 | exact absurd h1 c18
                        refine lv_iconst (v := 0) hx hb d_M_plus_92 (by decide) ?_
                        refine lv_topi (fun z19 e_z19 => ?_)
                        obtain rfl : z19 = b9 := e_z19.trans (by rw [hb9]; unfold ts_sb; rw [if_neg (fun z => z.2 hz0)])
                        exact kk () _ _ ls trivial hP hD hS (lv_sub hl [0, 1, 2, 3] rfl)
                      · have hnz : ts_r u7 8 ≠ 0 := by rcases hzb with ⟨h1, -⟩ | ⟨-, h1⟩ <;> first | exact h1 | exact absurd (h1.symm.trans c18) (by decide +kernel)
                        refine lv_iconst (v := 1) hx hb d_M_plus_88 (by decide) ?_
                        refine lv_goto (tgt := 93) hx hb d_M_plus_89 (by decide) ?_
                        refine lv_topi (fun z20 e_z20 => ?_)
                        obtain rfl : z20 = b9 := e_z20.trans (by rw [hb9]; unfold ts_sb; rw [if_pos ⟨hpq, hnz⟩])
                        exact kk () _ _ ls trivial hP hD hS (lv_sub hl [0, 1, 2, 3] rfl)
                  · have htn : t < 0 := Int32.not_le.mp c15
                    refine lv_iconst (v := 1) hx hb d_M_plus_71 (by decide) ?_
                    refine lv_goto (tgt := 76) hx hb d_M_plus_72 (by decide) ?_
                    refine lv_icmp_eq (tgt := 92) hx hb d_M_plus_76 (by decide) (fun c21 => ?_) (fun c21 => ?_)
                    · have hb1 : B q = 1 := hv.symm.trans c21
                      have hpq : (decide (B q = 1) != decide (t < 0)) = false := by rw [hb1, decide_eq_true htn]; decide +kernel
                      refine lv_iconst (v := 0) hx hb d_M_plus_92 (by decide) ?_
                      refine lv_topi (fun z22 e_z22 => ?_)
                      obtain rfl : z22 = b9 := e_z22.trans (by rw [hb9]; unfold ts_sb; rw [if_neg (fun z => by rw [hpq] at z; exact absurd z.1 (by decide))])
                      exact kk () _ _ ls trivial hP hD hS (lv_sub hl [0, 1, 2, 3] rfl)
                    · have hb1 : B q = 0 := hq01.resolve_right (fun z => c21 (hv.trans z))
                      have hpq : (decide (B q = 1) != decide (t < 0)) = true := by rw [hb1, decide_eq_true htn]; decide +kernel
                      refine lv_aload_n hx hb d_M_plus_79 rfl (lv_at hl 0 rfl) ?_
                      refine lv_bipush (v := (nI 8)) hx hb d_M_plus_80 (by decide) ?_
                      refine ts_callV (rest := [.int (nI 8), .ref ba]) ⟨hx, hb, hml, hown, hts⟩ (c_M_isZero l D cL cA cI cZ h pa ba 0 u7 B6 8 (by decide) f1 _) (cwV 1 hts g_M_plus_M_isZero rfl rfl rfl (by decide +kernel) ⟨Nat.le_of_ble_eq_true rfl, Nat.le_of_ble_eq_true rfl⟩) hK hP hD hS hA hl.1 [0, 1, 2] (by decide) rfl (va_recv hK hP (ci := 2) (q0 := 0) rfl rfl) (fun u => rfl) rfl rfl (Nat.le_of_ble_eq_true rfl) d_M_plus_82 ⟨Nat.zero_le _, Nat.zero_le _⟩ (fun v _u H locs hw hP hD hS => ?_)
                      have hP : va_P D vwCl [(h, .inr (2, [.int 0, .ref pa, .ref ba])), (pa, .inl (cI, 2400, .inl u7)), (ba, .inl (cZ, 10, .inl B6))] H := hP
                      have hD : va_D A [(h, .inr (2, [.int 0, .ref pa, .ref ba])), (pa, .inl (cI, 2400, .inl u7)), (ba, .inl (cZ, 10, .inl B6))] := hD
                      obtain ⟨bz, rfl, hzb⟩ := hw
                      show W _ _ _ _ _ _ _ _ _ _ _ _ _ _ _ (F0 m 85 ls [.int bz, .int (nI 8), .ref ba])
                      refine lv_if_ne (tgt := 92) hx hb d_M_plus_85 (by decide) (fun c23 => ?_) (fun c23 => ?_)
                      · have hz0 : ts_r u7 8 = 0 := by rcases hzb with ⟨-, h1⟩ | ⟨h1, -⟩ <;> first | exact h1 | exact absurd h1 c23
                        refine lv_iconst (v := 0) hx hb d_M_plus_92 (by decide) ?_
                        refine lv_topi (fun z24 e_z24 => ?_)
                        obtain rfl : z24 = b9 := e_z24.trans (by rw [hb9]; unfold ts_sb; rw [if_neg (fun z => z.2 hz0)])
                        exact kk () _ _ ls trivial hP hD hS (lv_sub hl [0, 1, 2, 3] rfl)
                      · have hnz : ts_r u7 8 ≠ 0 := by rcases hzb with ⟨h1, -⟩ | ⟨-, h1⟩ <;> first | exact h1 | exact absurd (h1.symm.trans c23) (by decide +kernel)
                        refine lv_iconst (v := 1) hx hb d_M_plus_88 (by decide) ?_
                        refine lv_goto (tgt := 93) hx hb d_M_plus_89 (by decide) ?_
                        refine lv_topi (fun z25 e_z25 => ?_)
                        obtain rfl : z25 = b9 := e_z25.trans (by rw [hb9]; unfold ts_sb; rw [if_pos ⟨hpq, hnz⟩])
                        exact kk () _ _ ls trivial hP hD hS (lv_sub hl [0, 1, 2, 3] rfl)
              · refine lv_if_ge (tgt := 50) hx hb d_M_plus_42 (by decide) (fun c11 => ?_) (fun c11 => ?_)
                · refine lv_iload_n hx hb d_M_plus_50 rfl (lv_at hl 3 rfl) ?_
                  refine lv_topi (fun z12 e_z12 => ?_)
                  obtain rfl : z12 = (nI n) := e_z12.trans (ha.2.1 (Int32.not_lt.mpr c11))
                  exact kk () ls trivial (lv_sub hl [0, 1, 2, 3] rfl)
                · refine lv_iload_n hx hb d_M_plus_45 rfl (lv_at hl 3 rfl) ?_
                  refine lv_ineg hx hb d_M_plus_46 ?_
                  refine lv_topi (fun z13 e_z13 => ?_)
                  obtain rfl : z13 = (nI n) := e_z13.trans (ha.1 (Int32.not_le.mp c11))
                  refine lv_goto (tgt := 51) hx hb d_M_plus_47 (by decide) ?_
                  exact kk () ls trivial (lv_sub hl [0, 1, 2, 3] rfl)
            · first | exact absurd c10 (by decide +kernel) | exact absurd rfl c10 | exact absurd (by decide +kernel) c10
          · show W _ _ _ _ _ _ _ _ _ _ _ _ _ _ _ (F0 m 24 ls [.int 0, .int 1, .ref h])
            refine ts_callV (rest := []) ⟨hx, hb, hml, hown, hts⟩ (c_M_goes l D cL cA cI cZ h pa ba th P B 1 0 _) (cwV 2 hts g_M_plus_M_goes rfl rfl rfl (by decide +kernel) ⟨Nat.le_of_ble_eq_true rfl, Nat.le_of_ble_eq_true rfl⟩) hK hP hD hS hA hl.1 [0, 1, 2] (by decide) rfl (va_recv hK hP (ci := 2) (q0 := 0) rfl rfl) (fun u => rfl) rfl rfl (Nat.le_of_ble_eq_true rfl) d_M_plus_24 ⟨Nat.zero_le _, Nat.zero_le _⟩ (fun v u1 H locs hw hP hD hS => ?_)
            have hP : va_P D vwCl [(h, .inr (2, [.int u1, .ref pa, .ref ba])), (pa, .inl (cI, 2400, .inl P)), (ba, .inl (cZ, 10, .inl B))] H := hP
            have hD : va_D A [(h, .inr (2, [.int u1, .ref pa, .ref ba])), (pa, .inl (cI, 2400, .inl P)), (ba, .inl (cZ, 10, .inl B))] := hD
            obtain ⟨rfl, rfl⟩ : u1 = 2 ∧ v = some (.int 0) := by rcases hw with ⟨h1, -⟩ | ⟨-, -, h1, h2⟩ | ⟨-, h1, -⟩ <;> first | exact ⟨h1, h2⟩ | exact absurd rfl h1 | exact absurd h1 (by decide +kernel)
            have hP : va_P D vwCl [(h, .inr (2, [.int 2, .ref pa, .ref ba])), (pa, .inl (cI, 2400, .inl P)), (ba, .inl (cZ, 10, .inl B))] H := hP
            have hD : va_D A [(h, .inr (2, [.int 2, .ref pa, .ref ba])), (pa, .inl (cI, 2400, .inl P)), (ba, .inl (cZ, 10, .inl B))] := hD
            show W _ _ _ _ _ _ _ _ _ _ _ _ _ _ _ (F0 m 27 ls [.int 0])
            refine lv_if_ne (tgt := 31) hx hb d_M_plus_27 (by decide) (fun c9 => ?_) (fun c9 => ?_)
            · first | exact absurd c9 (by decide +kernel) | exact absurd rfl c9 | exact absurd (by decide +kernel) c9
            · exact W.vret hx hb hr (fun t ht hW => ts_ret (u := (2, P, B)) hP hD hK hS ⟨rfl, Or.inr (Or.inr ⟨⟨r, hr8, rfl⟩, ⟨q, hq8, rfl⟩, ts_tbad htbad, rfl, hM⟩)⟩ ht hW) hS.2.2 d_M_plus_30
      · show W _ _ _ _ _ _ _ _ _ _ _ _ _ _ _ (F0 m 12 ls [.int 0, .ref h])
        refine lv_if_eq (tgt := 19) hx hb d_M_plus_12 (by decide) (fun c3 => ?_) (fun c3 => ?_)
        · refine lv_iconst (v := 0) hx hb d_M_plus_19 (by decide) ?_
          refine lv_iload_n hx hb d_M_plus_20 rfl (lv_at hl 3 rfl) ?_
          refine ts_callS (rest := [.int 0, .ref h]) ⟨hx, hb, hml, hown, hts⟩ (c_M_isTimes l D cL cA cI cZ t _) (va_cwS 1 hts g_M_plus_M_isTimes rfl rfl rfl (by decide +kernel) ⟨Nat.le_of_ble_eq_true rfl, Nat.le_of_ble_eq_true rfl⟩) hK hP hD hS hA hl.1 [] (by decide) rfl (fun u => rfl) rfl rfl (Nat.le_of_ble_eq_true rfl) d_M_plus_21 ⟨Nat.zero_le _, Nat.zero_le _⟩ (fun v _u H locs hw hP hD hS => ?_)
          have hP : va_P D vwCl [(h, .inr (2, [.int th, .ref pa, .ref ba])), (pa, .inl (cI, 2400, .inl P)), (ba, .inl (cZ, 10, .inl B))] H := hP
          have hD : va_D A [(h, .inr (2, [.int th, .ref pa, .ref ba])), (pa, .inl (cI, 2400, .inl P)), (ba, .inl (cZ, 10, .inl B))] := hD
          rcases hw with ⟨htok, rfl⟩ | ⟨htbad, rfl⟩
          · show W _ _ _ _ _ _ _ _ _ _ _ _ _ _ _ (F0 m 24 ls [.int 1, .int 0, .ref h])
            refine ts_callV (rest := []) ⟨hx, hb, hml, hown, hts⟩ (c_M_goes l D cL cA cI cZ h pa ba th P B 0 1 _) (cwV 2 hts g_M_plus_M_goes rfl rfl rfl (by decide +kernel) ⟨Nat.le_of_ble_eq_true rfl, Nat.le_of_ble_eq_true rfl⟩) hK hP hD hS hA hl.1 [0, 1, 2] (by decide) rfl (va_recv hK hP (ci := 2) (q0 := 0) rfl rfl) (fun u => rfl) rfl rfl (Nat.le_of_ble_eq_true rfl) d_M_plus_24 ⟨Nat.zero_le _, Nat.zero_le _⟩ (fun v u1 H locs hw hP hD hS => ?_)
            have hP : va_P D vwCl [(h, .inr (2, [.int u1, .ref pa, .ref ba])), (pa, .inl (cI, 2400, .inl P)), (ba, .inl (cZ, 10, .inl B))] H := hP
            have hD : va_D A [(h, .inr (2, [.int u1, .ref pa, .ref ba])), (pa, .inl (cI, 2400, .inl P)), (ba, .inl (cZ, 10, .inl B))] := hD
            obtain ⟨rfl, rfl⟩ : u1 = 1 ∧ v = some (.int 0) := by rcases hw with ⟨-, h1, h2⟩ | ⟨h1, -⟩ | ⟨h1, -⟩ <;> first | exact ⟨h1, h2⟩ | exact absurd rfl h1
            have hP : va_P D vwCl [(h, .inr (2, [.int 1, .ref pa, .ref ba])), (pa, .inl (cI, 2400, .inl P)), (ba, .inl (cZ, 10, .inl B))] H := hP
            have hD : va_D A [(h, .inr (2, [.int 1, .ref pa, .ref ba])), (pa, .inl (cI, 2400, .inl P)), (ba, .inl (cZ, 10, .inl B))] := hD
            show W _ _ _ _ _ _ _ _ _ _ _ _ _ _ _ (F0 m 27 ls [.int 0])
            refine lv_if_ne (tgt := 31) hx hb d_M_plus_27 (by decide) (fun c7 => ?_) (fun c7 => ?_)
            · first | exact absurd c7 (by decide +kernel) | exact absurd rfl c7 | exact absurd (by decide +kernel) c7
            · exact W.vret hx hb hr (fun t ht hW => ts_ret (u := (1, P, B)) hP hD hK hS ⟨rfl, Or.inr (Or.inl ⟨Or.inr hby, rfl, hM⟩)⟩ ht hW) hS.2.2 d_M_plus_30
          · show W _ _ _ _ _ _ _ _ _ _ _ _ _ _ _ (F0 m 24 ls [.int 0, .int 0, .ref h])
            refine ts_callV (rest := []) ⟨hx, hb, hml, hown, hts⟩ (c_M_goes l D cL cA cI cZ h pa ba th P B 0 0 _) (cwV 2 hts g_M_plus_M_goes rfl rfl rfl (by decide +kernel) ⟨Nat.le_of_ble_eq_true rfl, Nat.le_of_ble_eq_true rfl⟩) hK hP hD hS hA hl.1 [0, 1, 2] (by decide) rfl (va_recv hK hP (ci := 2) (q0 := 0) rfl rfl) (fun u => rfl) rfl rfl (Nat.le_of_ble_eq_true rfl) d_M_plus_24 ⟨Nat.zero_le _, Nat.zero_le _⟩ (fun v u1 H locs hw hP hD hS => ?_)
            have hP : va_P D vwCl [(h, .inr (2, [.int u1, .ref pa, .ref ba])), (pa, .inl (cI, 2400, .inl P)), (ba, .inl (cZ, 10, .inl B))] H := hP
            have hD : va_D A [(h, .inr (2, [.int u1, .ref pa, .ref ba])), (pa, .inl (cI, 2400, .inl P)), (ba, .inl (cZ, 10, .inl B))] := hD
            obtain ⟨rfl, rfl⟩ : u1 = 1 ∧ v = some (.int 0) := by rcases hw with ⟨-, h1, h2⟩ | ⟨h1, -⟩ | ⟨h1, -⟩ <;> first | exact ⟨h1, h2⟩ | exact absurd rfl h1
            have hP : va_P D vwCl [(h, .inr (2, [.int 1, .ref pa, .ref ba])), (pa, .inl (cI, 2400, .inl P)), (ba, .inl (cZ, 10, .inl B))] H := hP
            have hD : va_D A [(h, .inr (2, [.int 1, .ref pa, .ref ba])), (pa, .inl (cI, 2400, .inl P)), (ba, .inl (cZ, 10, .inl B))] := hD
            show W _ _ _ _ _ _ _ _ _ _ _ _ _ _ _ (F0 m 27 ls [.int 0])
            refine lv_if_ne (tgt := 31) hx hb d_M_plus_27 (by decide) (fun c8 => ?_) (fun c8 => ?_)
            · first | exact absurd c8 (by decide +kernel) | exact absurd rfl c8 | exact absurd (by decide +kernel) c8
            · exact W.vret hx hb hr (fun t ht hW => ts_ret (u := (1, P, B)) hP hD hK hS ⟨rfl, Or.inr (Or.inl ⟨Or.inr hby, rfl, hM⟩)⟩ ht hW) hS.2.2 d_M_plus_30
        · first | exact absurd c3 (by decide +kernel) | exact absurd rfl c3 | exact absurd (by decide +kernel) c3
  · show W _ _ _ _ _ _ _ _ _ _ _ _ _ _ _ (F0 m 5 ls [.int 0, .ref h])
    refine lv_if_eq (tgt := 19) hx hb d_M_plus_5 (by decide) (fun c1 => ?_) (fun c1 => ?_)
    · refine lv_iconst (v := 0) hx hb d_M_plus_19 (by decide) ?_
      refine lv_iload_n hx hb d_M_plus_20 rfl (lv_at hl 3 rfl) ?_
      refine ts_callS (rest := [.int 0, .ref h]) ⟨hx, hb, hml, hown, hts⟩ (c_M_isTimes l D cL cA cI cZ t _) (va_cwS 1 hts g_M_plus_M_isTimes rfl rfl rfl (by decide +kernel) ⟨Nat.le_of_ble_eq_true rfl, Nat.le_of_ble_eq_true rfl⟩) hK hP hD hS hA hl.1 [] (by decide) rfl (fun u => rfl) rfl rfl (Nat.le_of_ble_eq_true rfl) d_M_plus_21 ⟨Nat.zero_le _, Nat.zero_le _⟩ (fun v _u H locs hw hP hD hS => ?_)
      have hP : va_P D vwCl [(h, .inr (2, [.int th, .ref pa, .ref ba])), (pa, .inl (cI, 2400, .inl P)), (ba, .inl (cZ, 10, .inl B))] H := hP
      have hD : va_D A [(h, .inr (2, [.int th, .ref pa, .ref ba])), (pa, .inl (cI, 2400, .inl P)), (ba, .inl (cZ, 10, .inl B))] := hD
      rcases hw with ⟨htok, rfl⟩ | ⟨htbad, rfl⟩
      · show W _ _ _ _ _ _ _ _ _ _ _ _ _ _ _ (F0 m 24 ls [.int 1, .int 0, .ref h])
        refine ts_callV (rest := []) ⟨hx, hb, hml, hown, hts⟩ (c_M_goes l D cL cA cI cZ h pa ba th P B 0 1 _) (cwV 2 hts g_M_plus_M_goes rfl rfl rfl (by decide +kernel) ⟨Nat.le_of_ble_eq_true rfl, Nat.le_of_ble_eq_true rfl⟩) hK hP hD hS hA hl.1 [0, 1, 2] (by decide) rfl (va_recv hK hP (ci := 2) (q0 := 0) rfl rfl) (fun u => rfl) rfl rfl (Nat.le_of_ble_eq_true rfl) d_M_plus_24 ⟨Nat.zero_le _, Nat.zero_le _⟩ (fun v u1 H locs hw hP hD hS => ?_)
        have hP : va_P D vwCl [(h, .inr (2, [.int u1, .ref pa, .ref ba])), (pa, .inl (cI, 2400, .inl P)), (ba, .inl (cZ, 10, .inl B))] H := hP
        have hD : va_D A [(h, .inr (2, [.int u1, .ref pa, .ref ba])), (pa, .inl (cI, 2400, .inl P)), (ba, .inl (cZ, 10, .inl B))] := hD
        obtain ⟨rfl, rfl⟩ : u1 = 1 ∧ v = some (.int 0) := by rcases hw with ⟨-, h1, h2⟩ | ⟨h1, -⟩ | ⟨h1, -⟩ <;> first | exact ⟨h1, h2⟩ | exact absurd rfl h1
        have hP : va_P D vwCl [(h, .inr (2, [.int 1, .ref pa, .ref ba])), (pa, .inl (cI, 2400, .inl P)), (ba, .inl (cZ, 10, .inl B))] H := hP
        have hD : va_D A [(h, .inr (2, [.int 1, .ref pa, .ref ba])), (pa, .inl (cI, 2400, .inl P)), (ba, .inl (cZ, 10, .inl B))] := hD
        show W _ _ _ _ _ _ _ _ _ _ _ _ _ _ _ (F0 m 27 ls [.int 0])
        refine lv_if_ne (tgt := 31) hx hb d_M_plus_27 (by decide) (fun c5 => ?_) (fun c5 => ?_)
        · first | exact absurd c5 (by decide +kernel) | exact absurd rfl c5 | exact absurd (by decide +kernel) c5
        · exact W.vret hx hb hr (fun t ht hW => ts_ret (u := (1, P, B)) hP hD hK hS ⟨rfl, Or.inr (Or.inl ⟨Or.inl hbx, rfl, hM⟩)⟩ ht hW) hS.2.2 d_M_plus_30
      · show W _ _ _ _ _ _ _ _ _ _ _ _ _ _ _ (F0 m 24 ls [.int 0, .int 0, .ref h])
        refine ts_callV (rest := []) ⟨hx, hb, hml, hown, hts⟩ (c_M_goes l D cL cA cI cZ h pa ba th P B 0 0 _) (cwV 2 hts g_M_plus_M_goes rfl rfl rfl (by decide +kernel) ⟨Nat.le_of_ble_eq_true rfl, Nat.le_of_ble_eq_true rfl⟩) hK hP hD hS hA hl.1 [0, 1, 2] (by decide) rfl (va_recv hK hP (ci := 2) (q0 := 0) rfl rfl) (fun u => rfl) rfl rfl (Nat.le_of_ble_eq_true rfl) d_M_plus_24 ⟨Nat.zero_le _, Nat.zero_le _⟩ (fun v u1 H locs hw hP hD hS => ?_)
        have hP : va_P D vwCl [(h, .inr (2, [.int u1, .ref pa, .ref ba])), (pa, .inl (cI, 2400, .inl P)), (ba, .inl (cZ, 10, .inl B))] H := hP
        have hD : va_D A [(h, .inr (2, [.int u1, .ref pa, .ref ba])), (pa, .inl (cI, 2400, .inl P)), (ba, .inl (cZ, 10, .inl B))] := hD
        obtain ⟨rfl, rfl⟩ : u1 = 1 ∧ v = some (.int 0) := by rcases hw with ⟨-, h1, h2⟩ | ⟨h1, -⟩ | ⟨h1, -⟩ <;> first | exact ⟨h1, h2⟩ | exact absurd rfl h1
        have hP : va_P D vwCl [(h, .inr (2, [.int 1, .ref pa, .ref ba])), (pa, .inl (cI, 2400, .inl P)), (ba, .inl (cZ, 10, .inl B))] H := hP
        have hD : va_D A [(h, .inr (2, [.int 1, .ref pa, .ref ba])), (pa, .inl (cI, 2400, .inl P)), (ba, .inl (cZ, 10, .inl B))] := hD
        show W _ _ _ _ _ _ _ _ _ _ _ _ _ _ _ (F0 m 27 ls [.int 0])
        refine lv_if_ne (tgt := 31) hx hb d_M_plus_27 (by decide) (fun c6 => ?_) (fun c6 => ?_)
        · first | exact absurd c6 (by decide +kernel) | exact absurd rfl c6 | exact absurd (by decide +kernel) c6
        · exact W.vret hx hb hr (fun t ht hW => ts_ret (u := (1, P, B)) hP hD hK hS ⟨rfl, Or.inr (Or.inl ⟨Or.inl hbx, rfl, hM⟩)⟩ ht hW) hS.2.2 d_M_plus_30
    · first | exact absurd c1 (by decide +kernel) | exact absurd rfl c1 | exact absurd (by decide +kernel) c1

