set_option maxHeartbeats 4000000 in
set_option maxRecDepth 100000 in
theorem c_M_nearest (l : Launch) (D : va_G) (cL cA cI cZ : ClassId) (h pa ba : Nat) (th : Int32) (P B : Nat → Int32) (V : Nat → Int) (hM : ts_MS P B V) (x : Int32) (sz : Nat) : Met l y_M_nearest w_M_nearest (ts_rm 2) (va_Pc [.ref h, .int x] (ts_A D vwCl (ts_ty cL cA cI cZ) [(h, .inr (2, [.int th, .ref pa, .ref ba])), (pa, .inl (cI, 2400, .inl P)), (ba, .inl (cZ, 10, .inl B))] sz)) (ts_Q (fun (v : Option Value) (u : Int32) => ∃ z : Int64, v = some (.long z) ∧ ((∃ r, r < 8 ∧ x = nI r ∧ u = 0 ∧ z = ts_near (V r)) ∨ (ts_bad x ∧ u = 1))) (fun u => ts_B D vwCl (ts_ty cL cA cI cZ) (va_A [(h, .inr (2, [.int th, .ref pa, .ref ba])), (pa, .inl (cI, 2400, .inl P)), (ba, .inl (cZ, 10, .inl B))] sz) ([(h, .inr (2, [.int u, .ref pa, .ref ba])), (pa, .inl (cI, 2400, .inl P)), (ba, .inl (cZ, 10, .inl B))])) (va_A [(h, .inr (2, [.int th, .ref pa, .ref ba])), (pa, .inl (cI, 2400, .inl P)), (ba, .inl (cZ, 10, .inl B))] sz)) 0 0 (va_A [(h, .inr (2, [.int th, .ref pa, .ref ba])), (pa, .inl (cI, 2400, .inl P)), (ba, .inl (cZ, 10, .inl B))] sz) := by
  refine ts_met (cc := b_M_nearest) (maxL := 12) (ret := (some .long)) (by decide) rfl (Nat.le_of_ble_eq_true rfl) ?_
  intro p e s m below meth c hx hb hr hml hown hts hlocks hname A hA hAe hK hP hD hS hsz ls hl
  have hown : s.vm.findClass R_M = some m.cls := hown
  have hl : lv_has ls 12 [(0, .ref h), (1, .int x)] := hl
  have hP : va_P D vwCl [(h, .inr (2, [.int th, .ref pa, .ref ba])), (pa, .inl (cI, 2400, .inl P)), (ba, .inl (cZ, 10, .inl B))] s.heap := hP
  have hD : va_D A [(h, .inr (2, [.int th, .ref pa, .ref ba])), (pa, .inl (cI, 2400, .inl P)), (ba, .inl (cZ, 10, .inl B))] := hD
  refine lv_aload_n hx hb d_M_nearest_0 rfl (lv_at hl 0 rfl) ?_
  refine lv_iload_n hx hb d_M_nearest_1 rfl (lv_at hl 1 rfl) ?_
  refine ts_callS (rest := [.ref h]) ⟨hx, hb, hml, hown, hts⟩ (c_M_isSum l D cL cA cI cZ x _) (va_cwS 1 hts g_M_nearest_M_isSum rfl rfl rfl (by decide +kernel) ⟨Nat.le_of_ble_eq_true rfl, Nat.le_of_ble_eq_true rfl⟩) hK hP hD hS hA hl.1 [] (by decide) rfl (fun u => rfl) rfl rfl (Nat.le_of_ble_eq_true rfl) d_M_nearest_2 ⟨Nat.zero_le _, Nat.zero_le _⟩ (fun v _u H locs hw hP hD hS => ?_)
  have hP : va_P D vwCl [(h, .inr (2, [.int th, .ref pa, .ref ba])), (pa, .inl (cI, 2400, .inl P)), (ba, .inl (cZ, 10, .inl B))] H := hP
  have hD : va_D A [(h, .inr (2, [.int th, .ref pa, .ref ba])), (pa, .inl (cI, 2400, .inl P)), (ba, .inl (cZ, 10, .inl B))] := hD
  rcases hw with ⟨⟨r, hr8, rfl⟩, rfl⟩ | ⟨hbad, rfl⟩
  · have hl : lv_has ls 12 [(0, .ref h), (1, .int (nI r))] := hl
    show W _ _ _ _ _ _ _ _ _ _ _ _ _ _ _ (F0 m 5 ls [.int 1, .ref h])
    refine lv_iconst (v := 1) hx hb d_M_nearest_5 (by decide) ?_
    refine ts_callV (rest := []) ⟨hx, hb, hml, hown, hts⟩ (c_M_goes l D cL cA cI cZ h pa ba th P B 1 1 _) (cwV 2 hts g_M_nearest_M_goes rfl rfl rfl (by decide +kernel) ⟨Nat.le_of_ble_eq_true rfl, Nat.le_of_ble_eq_true rfl⟩) hK hP hD hS hA hl.1 [0, 1, 2] (by decide) rfl (va_recv hK hP (ci := 2) (q0 := 0) rfl rfl) (fun u => rfl) rfl rfl (Nat.le_of_ble_eq_true rfl) d_M_nearest_6 ⟨Nat.zero_le _, Nat.zero_le _⟩ (fun v u1 H locs hw hP hD hS => ?_)
    have hP : va_P D vwCl [(h, .inr (2, [.int u1, .ref pa, .ref ba])), (pa, .inl (cI, 2400, .inl P)), (ba, .inl (cZ, 10, .inl B))] H := hP
    have hD : va_D A [(h, .inr (2, [.int u1, .ref pa, .ref ba])), (pa, .inl (cI, 2400, .inl P)), (ba, .inl (cZ, 10, .inl B))] := hD
    obtain ⟨rfl, rfl⟩ : u1 = 0 ∧ v = some (.int 1) := by rcases hw with ⟨h1, -⟩ | ⟨-, h1, -⟩ | ⟨-, -, h1, h2⟩ <;> first | exact ⟨h1, h2⟩ | exact absurd h1 (by decide +kernel)
    have hP : va_P D vwCl [(h, .inr (2, [.int 0, .ref pa, .ref ba])), (pa, .inl (cI, 2400, .inl P)), (ba, .inl (cZ, 10, .inl B))] H := hP
    have hD : va_D A [(h, .inr (2, [.int 0, .ref pa, .ref ba])), (pa, .inl (cI, 2400, .inl P)), (ba, .inl (cZ, 10, .inl B))] := hD
    show W _ _ _ _ _ _ _ _ _ _ _ _ _ _ _ (F0 m 9 ls [.int 1])
    refine lv_if_eq (tgt := 20) hx hb d_M_nearest_9 (by decide) (fun c2 => ?_) (fun c2 => ?_)
    · first | exact absurd c2 (by decide +kernel) | exact absurd rfl c2 | exact absurd (by decide +kernel) c2
    · refine lv_aload_n hx hb d_M_nearest_12 rfl (lv_at hl 0 rfl) ?_
      refine lv_iload_n hx hb d_M_nearest_13 rfl (lv_at hl 1 rfl) ?_
      refine ts_callV (rest := []) ⟨hx, hb, hml, hown, hts⟩ (c_M_isZero l D cL cA cI cZ h pa ba 0 P B r (by omega) hM.1 _) (cwV 1 hts g_M_nearest_M_isZero rfl rfl rfl (by decide +kernel) ⟨Nat.le_of_ble_eq_true rfl, Nat.le_of_ble_eq_true rfl⟩) hK hP hD hS hA hl.1 [0, 1, 2] (by decide) rfl (va_recv hK hP (ci := 2) (q0 := 0) rfl rfl) (fun u => rfl) rfl rfl (Nat.le_of_ble_eq_true rfl) d_M_nearest_14 ⟨Nat.zero_le _, Nat.zero_le _⟩ (fun v _u H locs hw hP hD hS => ?_)
      have hP : va_P D vwCl [(h, .inr (2, [.int 0, .ref pa, .ref ba])), (pa, .inl (cI, 2400, .inl P)), (ba, .inl (cZ, 10, .inl B))] H := hP
      have hD : va_D A [(h, .inr (2, [.int 0, .ref pa, .ref ba])), (pa, .inl (cI, 2400, .inl P)), (ba, .inl (cZ, 10, .inl B))] := hD
      obtain ⟨bz, rfl, hzb⟩ := hw
      show W _ _ _ _ _ _ _ _ _ _ _ _ _ _ _ (F0 m 17 ls [.int bz])
      have hab := hM.abs hr8
      refine lv_if_eq (tgt := 22) hx hb d_M_nearest_17 (by decide) (fun c3 => ?_) (fun c3 => ?_)
      · have hnz : ts_r P r ≠ 0 := by rcases hzb with ⟨h1, -⟩ | ⟨-, h1⟩ <;> first | exact h1 | exact absurd (h1.symm.trans c3) (by decide +kernel)
        refine lv_aload_n hx hb d_M_nearest_22 rfl (lv_at hl 0 rfl) ?_
        refine va_get (D := D) (ci := 2) (v := .ref ba) (C := R_M) (T := F_M) (N := 3) hx hb hts (by decide +kernel) hown hK hP 0 rfl rfl 2 (by decide) (hts (.fieldLink R_M 13 "TripleSumsModel" "below" "[Z") (by decide +kernel)) (fun _ h9 => h9) rfl d_M_nearest_23 ?_
        refine lv_iload_n hx hb d_M_nearest_26 rfl (lv_at hl 1 rfl) ?_
        refine va_zald (D := D) hx hb hK hP 2 3 rfl rfl (vp_in_nI (by omega) (by decide)) d_M_nearest_27 ?_
        refine lv_topi (fun v4 e_v4 => ?_)
        rw [nI_clamp (n := r) (by omega)] at e_v4
        refine ts_cut 39 [] (nL := 12) (fun (sg : Int64) => sg = if V r < 0 then (-9223372036854775808) else 0) (fun (sg : Int64) => [(2, .long sg), (0, .ref h), (1, .int (nI r))]) (fun sg ls hsg hl => ?_) (fun kk => ?_)
        · have hl : lv_has ls 12 [(2, .long sg), (0, .ref h), (1, .int (nI r))] := hl
          refine lv_aload_n hx hb d_M_nearest_39 rfl (lv_at hl 1 rfl) ?_
          refine lv_iload_n hx hb d_M_nearest_40 rfl (lv_at hl 2 rfl) ?_
          refine ts_callV (rest := []) ⟨hx, hb, hml, hown, hts⟩ (c_M_highest l D cL cA cI cZ h pa ba 0 P B r (by omega) hM.1 _) (cwV 1 hts g_M_nearest_M_highest rfl rfl rfl (by decide +kernel) ⟨Nat.le_of_ble_eq_true rfl, Nat.le_of_ble_eq_true rfl⟩) hK hP hD hS hA hl.1 [0, 1, 2] (by decide) rfl (va_recv hK hP (ci := 2) (q0 := 0) rfl rfl) (fun u => rfl) rfl rfl (Nat.le_of_ble_eq_true rfl) d_M_nearest_41 ⟨Nat.zero_le _, Nat.zero_le _⟩ (fun v _u H locs hw hP hD hS => ?_)
          have hP : va_P D vwCl [(h, .inr (2, [.int 0, .ref pa, .ref ba])), (pa, .inl (cI, 2400, .inl P)), (ba, .inl (cZ, 10, .inl B))] H := hP
          have hD : va_D A [(h, .inr (2, [.int 0, .ref pa, .ref ba])), (pa, .inl (cI, 2400, .inl P)), (ba, .inl (cZ, 10, .inl B))] := hD
          obtain ⟨zt, rfl, hzt⟩ := hw
          show W _ _ _ _ _ _ _ _ _ _ _ _ _ _ _ (F0 m 44 ls [.int zt])
          obtain ⟨p9, hp1, rfl⟩ : ∃ p9, ts_Top (ts_r P r) p9 ∧ zt = nI p9 - 3222 := by rcases hzt with ⟨h1, -⟩ | h1 <;> first | exact h1 | exact absurd h1 hnz
          have hp6 : p9 < 6720 := hp1.lt_of (by rw [← ts_N6720]; exact ts_r_lt hM.1 (by omega))
          have hlog := hp1.log
          show W _ _ _ _ _ _ _ _ _ _ _ _ _ _ _ (F0 m 44 ls [.int (nI p9 - 3222)])
          refine lv_istore (lv' := [(4, .int (nI p9 - 3222)), (2, .long sg), (0, .ref h), (1, .int (nI r))]) hx hb d_M_nearest_44 hl (by decide) rfl (fun ls hl => ?_)
          refine lv_iload hx hb d_M_nearest_46 (lv_at hl 0 rfl) ?_
          refine lv_sipush (v := 1023) hx hb d_M_nearest_48 (by decide) ?_
          refine lv_icmp_le (tgt := 60) hx hb d_M_nearest_51 (by decide) (fun c6 => ?_) (fun c6 => ?_)
          · have hsm : p9 ≤ 4245 := (ts_top1023 hp6).mp c6
            have hlg : (ts_r P r).log2 ≤ 4245 := by omega
            have hu1 := ts_un_ge (ts_r P r)
            have hu2 := ts_un_lt hlg
            have hlow := ts_lowR hp1 hp6
            obtain ⟨hM53, hup9⟩ := ts_un_top hp1
            obtain ⟨u9, hu9⟩ : ∃ u9, u9 = ts_un (ts_r P r) := ⟨_, rfl⟩
            rw [← hu9] at hu1 hu2 hlow hM53 hup9
            refine lv_iload hx hb d_M_nearest_60 (lv_at hl 0 rfl) ?_
            refine lv_bipush (v := 52) hx hb d_M_nearest_62 (by decide) ?_
            refine lv_isub hx hb d_M_nearest_64 ?_
            refine lv_topi (fun z8 e_z8 => ?_)
            refine lv_sipush (v := (-1074)) hx hb d_M_nearest_65 (by decide) ?_
            refine ts_cut 84 [] (nL := 12) (fun (_ : Unit) => True) (fun (_ : Unit) => [(5, .int (nI u9 - 3222)), (4, .int (nI p9 - 3222)), (2, .long sg), (0, .ref h), (1, .int (nI r))]) (fun _ ls _ hl => ?_) (fun kk => ?_)
            · have hl : lv_has ls 12 [(5, .int (nI u9 - 3222)), (4, .int (nI p9 - 3222)), (2, .long sg), (0, .ref h), (1, .int (nI r))] := hl
              refine lv_lconst (v := 0) hx hb d_M_nearest_84 (by decide) ?_
              refine lv_lstore (lv' := [(6, .long 0), (5, .int (nI u9 - 3222)), (4, .int (nI p9 - 3222)), (2, .long sg), (0, .ref h), (1, .int (nI r))]) hx hb d_M_nearest_85 hl (by decide) rfl (fun ls hl => ?_)
              refine lv_iload hx hb d_M_nearest_87 (lv_at hl 2 rfl) ?_
              refine lv_topi (fun z12 e_z12 => ?_)
              obtain rfl : z12 = (ts_dz p9 0) := e_z12.trans (ts_dz_0 p9)
              refine lv_istore (lv' := [(8, .int (ts_dz p9 0)), (6, .long 0), (5, .int (nI u9 - 3222)), (4, .int (nI p9 - 3222)), (2, .long sg), (0, .ref h), (1, .int (nI r))]) hx hb d_M_nearest_89 hl (by decide) rfl (fun ls hl => ?_)
              refine ts_lp (H0 := s.heap) (D := D) (cl := vwCl) (A := A) (nL := 12) (p9 + 1 - u9) (fun (i : Nat) (q : Int64) => ts_NrI (ts_r P r) p9 i q) (fun (i : Nat) (q : Int64) => [(h, .inr (2, [.int 0, .ref pa, .ref ba])), (pa, .inl (cI, 2400, .inl P)), (ba, .inl (cZ, 10, .inl B))]) (fun (i : Nat) (q : Int64) => [(8, .int (ts_dz p9 i)), (6, .long q), (5, .int (nI u9 - 3222)), (4, .int (nI p9 - 3222)), (2, .long sg), (0, .ref h), (1, .int (nI r))]) 0 0 ?_ ?_ (by omega) (ts_NrI.zero hp1) hP hD hS (lv_sub hl [0, 1, 2, 3, 4, 5, 6] rfl)
              · intro i q hi hI ih H locs hP hD hS ls hl
                have hl : lv_has ls 12 [(8, .int (ts_dz p9 i)), (6, .long q), (5, .int (nI u9 - 3222)), (4, .int (nI p9 - 3222)), (2, .long sg), (0, .ref h), (1, .int (nI r))] := hl
                have hP : va_P D vwCl [(h, .inr (2, [.int 0, .ref pa, .ref ba])), (pa, .inl (cI, 2400, .inl P)), (ba, .inl (cZ, 10, .inl B))] H := hP
                have hD : va_D A [(h, .inr (2, [.int 0, .ref pa, .ref ba])), (pa, .inl (cI, 2400, .inl P)), (ba, .inl (cZ, 10, .inl B))] := hD
                have hdz := ts_dz_i (p := p9) (i := i) hp6 (by omega)
                have hui := ts_top_i (p := u9) (by omega)
                refine lv_iload hx hb d_M_nearest_91 (lv_at hl 0 rfl) ?_
                refine lv_iload hx hb d_M_nearest_93 (lv_at hl 2 rfl) ?_
                refine lv_icmp_lt (tgt := 127) hx hb d_M_nearest_95 (by decide) (fun c13 => ?_) (fun c13 => ?_)
                · rw [Int32.lt_iff_toInt_lt, hdz, hui] at c13
                  exfalso; omega
                · refine lv_lload hx hb d_M_nearest_98 (lv_at hl 1 rfl) ?_
                  refine lv_iconst (v := 1) hx hb d_M_nearest_100 (by decide) ?_
                  refine lv_lshl hx hb d_M_nearest_101 rfl ?_
                  refine lv_topl (fun z14 e_z14 => ?_)
                  refine lv_aload_n hx hb d_M_nearest_102 rfl (lv_at hl 5 rfl) ?_
                  refine lv_iload_n hx hb d_M_nearest_103 rfl (lv_at hl 6 rfl) ?_
                  refine lv_iload hx hb d_M_nearest_104 (lv_at hl 0 rfl) ?_
                  refine lv_i2l hx hb d_M_nearest_106 rfl ?_
                  have hz3 : (Int32.toInt64 (ts_dz p9 i)).toInt = (p9 : Int) - 3222 - (i : Int) := by rw [Int32.toInt_toInt64, hdz]
                  refine ts_callV (rest := [.long z14]) ⟨hx, hb, hml, hown, hts⟩ (c_M_has l D cL cA cI cZ h pa ba 0 P B r (Int32.toInt64 (ts_dz p9 i)) (by omega) hM.1 (by omega) (by omega) _) (cwV 2 hts g_M_nearest_M_has rfl rfl rfl (by decide +kernel) ⟨Nat.le_of_ble_eq_true rfl, Nat.le_of_ble_eq_true rfl⟩) hK hP hD hS hA hl.1 [0, 1, 2] (by decide) rfl (va_recv hK hP (ci := 2) (q0 := 0) rfl rfl) (fun u => rfl) rfl rfl (Nat.le_of_ble_eq_true rfl) d_M_nearest_107 ⟨Nat.zero_le _, Nat.zero_le _⟩ (fun v _u H locs hw hP hD hS => ?_)
                  have hP : va_P D vwCl [(h, .inr (2, [.int 0, .ref pa, .ref ba])), (pa, .inl (cI, 2400, .inl P)), (ba, .inl (cZ, 10, .inl B))] H := hP
                  have hD : va_D A [(h, .inr (2, [.int 0, .ref pa, .ref ba])), (pa, .inl (cI, 2400, .inl P)), (ba, .inl (cZ, 10, .inl B))] := hD
                  obtain rfl := hw
                  show W _ _ _ _ _ _ _ _ _ _ _ _ _ _ _ (F0 m 110 ls [.int (if ts_ib (ts_r P r) ((Int32.toInt64 (ts_dz p9 i)).toInt + 3222) = true then 1 else 0), .long z14])
                  have hpos : ts_ib (ts_r P r) ((Int32.toInt64 (ts_dz p9 i)).toInt + 3222) = (ts_r P r).testBit (p9 - i) := by rw [hz3, show (p9 : Int) - 3222 - (i : Int) + 3222 = ((p9 - i : Nat) : Int) by omega, ts_ib_n]
                  rw [hpos]
                  show W _ _ _ _ _ _ _ _ _ _ _ _ _ _ _ (F0 m 110 ls [.int (if (ts_r P r).testBit (p9 - i) = true then 1 else 0), .long z14])
                  refine lv_if_eq (tgt := 117) hx hb d_M_nearest_110 (by decide) (fun c15 => ?_) (fun c15 => ?_)
                  · have h0 : ¬ (ts_r P r).testBit (p9 - i) = true := fun z => by rw [if_pos z] at c15; exact absurd c15 (by decide +kernel)
                    refine lv_lconst (v := 0) hx hb d_M_nearest_117 (by decide) ?_
                    refine lv_lor hx hb d_M_nearest_118 ?_
                    refine lv_topl (fun z16 e_z16 => ?_)
                    refine lv_lstore (lv' := [(6, .long z16), (8, .int (ts_dz p9 i)), (5, .int (nI u9 - 3222)), (4, .int (nI p9 - 3222)), (2, .long sg), (0, .ref h), (1, .int (nI r))]) hx hb d_M_nearest_119 hl (by decide) rfl (fun ls hl => ?_)
                    refine lv_iinc (v := (ts_dz p9 (i + 1))) (lv' := [(8, .int (ts_dz p9 (i + 1))), (6, .long z16), (5, .int (nI u9 - 3222)), (4, .int (nI p9 - 3222)), (2, .long sg), (0, .ref h), (1, .int (nI r))]) hx hb d_M_nearest_121 hl (k := 1) rfl (ts_dz_s (i := i) hp6 (by omega)) (by decide) rfl (fun ls hl => ?_)
                    refine lv_goto (tgt := 91) hx hb d_M_nearest_124 (by decide) ?_
                    refine ih z16 ?_ _ _ hP hD hS ls (lv_sub hl [0, 1, 2, 3, 4, 5, 6] rfl)
                    rw [e_z16, e_z14]
                    exact ts_NrI.step hp1 (by omega) (by omega) hI (by rw [if_neg h0]; decide +kernel)
                  · have h0 : (ts_r P r).testBit (p9 - i) = true := by
                      by_cases z : (ts_r P r).testBit (p9 - i) = true
                      · exact z
                      · rw [if_neg z] at c15; exact absurd rfl c15
                    refine lv_lconst (v := 1) hx hb d_M_nearest_113 (by decide) ?_
                    refine lv_goto (tgt := 118) hx hb d_M_nearest_114 (by decide) ?_
                    refine lv_lor hx hb d_M_nearest_118 ?_
                    refine lv_topl (fun z17 e_z17 => ?_)
                    refine lv_lstore (lv' := [(6, .long z17), (8, .int (ts_dz p9 i)), (5, .int (nI u9 - 3222)), (4, .int (nI p9 - 3222)), (2, .long sg), (0, .ref h), (1, .int (nI r))]) hx hb d_M_nearest_119 hl (by decide) rfl (fun ls hl => ?_)
                    refine lv_iinc (v := (ts_dz p9 (i + 1))) (lv' := [(8, .int (ts_dz p9 (i + 1))), (6, .long z17), (5, .int (nI u9 - 3222)), (4, .int (nI p9 - 3222)), (2, .long sg), (0, .ref h), (1, .int (nI r))]) hx hb d_M_nearest_121 hl (k := 1) rfl (ts_dz_s (i := i) hp6 (by omega)) (by decide) rfl (fun ls hl => ?_)
                    refine lv_goto (tgt := 91) hx hb d_M_nearest_124 (by decide) ?_
                    refine ih z17 ?_ _ _ hP hD hS ls (lv_sub hl [0, 1, 2, 3, 4, 5, 6] rfl)
                    rw [e_z17, e_z14]
                    exact ts_NrI.step hp1 (by omega) (by omega) hI (by rw [if_pos h0]; decide +kernel)
              · intro q hI H locs hP hD hS ls hl
                have hl : lv_has ls 12 [(8, .int (ts_dz p9 (p9 + 1 - u9))), (6, .long q), (5, .int (nI u9 - 3222)), (4, .int (nI p9 - 3222)), (2, .long sg), (0, .ref h), (1, .int (nI r))] := hl
                have hP : va_P D vwCl [(h, .inr (2, [.int 0, .ref pa, .ref ba])), (pa, .inl (cI, 2400, .inl P)), (ba, .inl (cZ, 10, .inl B))] H := hP
                have hD : va_D A [(h, .inr (2, [.int 0, .ref pa, .ref ba])), (pa, .inl (cI, 2400, .inl P)), (ba, .inl (cZ, 10, .inl B))] := hD
                have hdz := ts_dz_i (p := p9) (i := p9 + 1 - u9) hp6 (by omega)
                have hui := ts_top_i (p := u9) (by omega)
                have hk := ts_NrI.done hp1 hI
                refine lv_iload hx hb d_M_nearest_91 (lv_at hl 0 rfl) ?_
                refine lv_iload hx hb d_M_nearest_93 (lv_at hl 2 rfl) ?_
                refine lv_icmp_lt (tgt := 127) hx hb d_M_nearest_95 (by decide) (fun c18 => ?_) (fun c18 => ?_)
                · obtain ⟨N, hN⟩ : ∃ N, N = ts_r P r := ⟨_, rfl⟩
                  rw [← hN] at hk hlg hnz hp1 hu9 hab
                  have hkb := ts_keptb N
                  rw [← hu9] at hkb
                  refine lv_aload_n hx hb d_M_nearest_127 rfl (lv_at hl 5 rfl) ?_
                  refine lv_iload_n hx hb d_M_nearest_128 rfl (lv_at hl 6 rfl) ?_
                  refine lv_iload hx hb d_M_nearest_129 (lv_at hl 2 rfl) ?_
                  refine lv_i2l hx hb d_M_nearest_131 rfl ?_
                  refine lv_lconst (v := 1) hx hb d_M_nearest_132 (by decide) ?_
                  refine lv_lsub hx hb d_M_nearest_133 ?_
                  refine lv_topl (fun z19 e_z19 => ?_)
                  have hzl : Int64.toInt z19 + 3222 = ((u9 - 1 : Nat) : Int) := by rw [e_z19]; exact ts_halfR hu1 hu2
                  refine ts_callV (rest := []) ⟨hx, hb, hml, hown, hts⟩ (c_M_has l D cL cA cI cZ h pa ba 0 P B r z19 (by omega) hM.1 (by omega) (by omega) _) (cwV 2 hts g_M_nearest_M_has rfl rfl rfl (by decide +kernel) ⟨Nat.le_of_ble_eq_true rfl, Nat.le_of_ble_eq_true rfl⟩) hK hP hD hS hA hl.1 [0, 1, 2] (by decide) rfl (va_recv hK hP (ci := 2) (q0 := 0) rfl rfl) (fun u => rfl) rfl rfl (Nat.le_of_ble_eq_true rfl) d_M_nearest_134 ⟨Nat.zero_le _, Nat.zero_le _⟩ (fun v _u H locs hw hP hD hS => ?_)
                  have hP : va_P D vwCl [(h, .inr (2, [.int 0, .ref pa, .ref ba])), (pa, .inl (cI, 2400, .inl P)), (ba, .inl (cZ, 10, .inl B))] H := hP
                  have hD : va_D A [(h, .inr (2, [.int 0, .ref pa, .ref ba])), (pa, .inl (cI, 2400, .inl P)), (ba, .inl (cZ, 10, .inl B))] := hD
                  obtain rfl := hw
                  show W _ _ _ _ _ _ _ _ _ _ _ _ _ _ _ (F0 m 137 ls [.int (if ts_ib (ts_r P r) (Int64.toInt z19 + 3222) = true then 1 else 0)])
                  rw [hzl, ts_ib_n, ← hN]
                  obtain ⟨hv, hhv⟩ : ∃ hv : Int32, hv = if N.testBit (u9 - 1) = true then 1 else 0 := ⟨_, rfl⟩
                  rw [← hhv]
                  have hv1 : ¬ hv = 0 → N.testBit (u9 - 1) = true := fun z => by by_cases q : N.testBit (u9 - 1) = true <;> first | exact q | (rw [if_neg q] at hhv; exact absurd hhv z)
                  have hv0 : hv = 0 → N.testBit (u9 - 1) = false := fun z => by cases q : N.testBit (u9 - 1) with
                    | false => rfl
                    | true => rw [q, if_pos rfl] at hhv; exact absurd (hhv.symm.trans z) (by decide +kernel)
                  show W _ _ _ _ _ _ _ _ _ _ _ _ _ _ _ (F0 m 137 ls [.int hv])
                  refine lv_istore (lv' := [(8, .int hv), (6, .long q), (5, .int (nI u9 - 3222)), (4, .int (nI p9 - 3222)), (2, .long sg), (0, .ref h), (1, .int (nI r))]) hx hb d_M_nearest_137 hl (by decide) rfl (fun ls hl => ?_)
                  refine ts_cutH 163 [] s.heap (D := D) (cl := vwCl) (A := A) (nL := 12) (fun (mo : Int32) => (mo = 1 ∧ N.testBit (u9 - 1) = true ∧ N % 2 ^ (u9 - 1) ≠ 0) ∨ (mo = 0 ∧ ¬ (N.testBit (u9 - 1) = true ∧ N % 2 ^ (u9 - 1) ≠ 0))) (fun (_ : Int32) => [(h, .inr (2, [.int 0, .ref pa, .ref ba])), (pa, .inl (cI, 2400, .inl P)), (ba, .inl (cZ, 10, .inl B))]) (fun (mo : Int32) => [(9, .int mo), (8, .int hv), (6, .long q), (5, .int (nI u9 - 3222)), (2, .long sg), (0, .ref h), (1, .int (nI r))]) (fun mo H locs ls hmo hP hD hS hl => ?_) (fun kk => ?_)
                  · have hl : lv_has ls 12 [(9, .int mo), (8, .int hv), (6, .long q), (5, .int (nI u9 - 3222)), (2, .long sg), (0, .ref h), (1, .int (nI r))] := hl
                    have hP : va_P D vwCl [(h, .inr (2, [.int 0, .ref pa, .ref ba])), (pa, .inl (cI, 2400, .inl P)), (ba, .inl (cZ, 10, .inl B))] H := hP
                    have hD : va_D A [(h, .inr (2, [.int 0, .ref pa, .ref ba])), (pa, .inl (cI, 2400, .inl P)), (ba, .inl (cZ, 10, .inl B))] := hD
                    refine ts_cut 193 [] (nL := 12) (fun (m9 : Int64) => uN m9 = N / 2 ^ u9 + if ts_up N u9 = true then 1 else 0) (fun (m9 : Int64) => [(6, .long m9), (5, .int (nI u9 - 3222)), (2, .long sg), (0, .ref h), (1, .int (nI r))]) (fun m9 ls hm9 hl => ?_) (fun kk => ?_)
                    · have hl : lv_has ls 12 [(6, .long m9), (5, .int (nI u9 - 3222)), (2, .long sg), (0, .ref h), (1, .int (nI r))] := hl
                      rw [hu9] at hm9
                      refine lv_iload hx hb d_M_nearest_193 (lv_at hl 1 rfl) ?_
                      refine lv_sipush (v := (-1074)) hx hb d_M_nearest_195 (by decide) ?_
                      refine lv_icmp_ne (tgt := 206) hx hb d_M_nearest_198 (by decide) (fun c29 => ?_) (fun c29 => ?_)
                      · refine lv_iload hx hb d_M_nearest_206 (lv_at hl 1 rfl) ?_
                        refine lv_sipush (v := 1074) hx hb d_M_nearest_208 (by decide) ?_
                        refine lv_iadd hx hb d_M_nearest_211 ?_
                        refine lv_topi (fun z31 e_z31 => ?_)
                        obtain rfl : z31 = (nI u9 - 2148) := e_z31.trans (ts_lowA hu2)
                        refine lv_i2l hx hb d_M_nearest_212 rfl ?_
                        refine lv_bipush (v := 52) hx hb d_M_nearest_213 (by decide) ?_
                        refine lv_lshl hx hb d_M_nearest_215 rfl ?_
                        refine lv_topl (fun z32 e_z32 => ?_)
                        refine lv_lload hx hb d_M_nearest_216 (lv_at hl 0 rfl) ?_
                        refine lv_ladd hx hb d_M_nearest_218 ?_
                        refine lv_topl (fun z33 e_z33 => ?_)
                        have hbits : z33 = lN (ts_ns N) := by rw [e_z33, e_z32, hu9]; exact ts_nsC hlg hm9
                        refine lv_lstore (lv' := [(10, .long z33), (6, .long m9), (5, .int (nI u9 - 3222)), (2, .long sg), (0, .ref h), (1, .int (nI r))]) hx hb d_M_nearest_219 hl (by decide) rfl (fun ls hl => ?_)
                        refine lv_lload_n hx hb d_M_nearest_221 rfl (lv_at hl 3 rfl) ?_
                        refine lv_lload hx hb d_M_nearest_222 (lv_at hl 0 rfl) ?_
                        refine lv_lor hx hb d_M_nearest_224 ?_
                        refine lv_topl (fun z34 e_z34 => ?_)
                        exact W.lret (v := z34) hx hb hr (fun t ht hW => ts_ret (u := 0) hP hD hK hS ⟨_, rfl, Or.inl ⟨r, hr8, rfl, rfl, by rw [e_z34, hsg, hbits]; unfold ts_near; rw [← hab]⟩⟩ ht hW) hS.2.2 d_M_nearest_225
                      · have hu8 : ts_un N = 2148 := by rw [← hu9]; exact (ts_low0 hu2).mp c29
                        refine lv_lload hx hb d_M_nearest_201 (lv_at hl 0 rfl) ?_
                        refine lv_goto (tgt := 219) hx hb d_M_nearest_203 (by decide) ?_
                        have hbits : m9 = lN (ts_ns N) := ts_nsR hlg hu8 hm9
                        refine lv_lstore (lv' := [(10, .long m9), (6, .long m9), (5, .int (nI u9 - 3222)), (2, .long sg), (0, .ref h), (1, .int (nI r))]) hx hb d_M_nearest_219 hl (by decide) rfl (fun ls hl => ?_)
                        refine lv_lload_n hx hb d_M_nearest_221 rfl (lv_at hl 3 rfl) ?_
                        refine lv_lload hx hb d_M_nearest_222 (lv_at hl 0 rfl) ?_
                        refine lv_lor hx hb d_M_nearest_224 ?_
                        refine lv_topl (fun z30 e_z30 => ?_)
                        exact W.lret (v := z30) hx hb hr (fun t ht hW => ts_ret (u := 0) hP hD hK hS ⟨_, rfl, Or.inl ⟨r, hr8, rfl, rfl, by rw [e_z30, hsg, hbits]; unfold ts_near; rw [← hab]⟩⟩ ht hW) hS.2.2 d_M_nearest_225
                    · refine lv_iload hx hb d_M_nearest_163 (lv_at hl 1 rfl) ?_
                      refine lv_if_eq (tgt := 189) hx hb d_M_nearest_165 (by decide) (fun c23 => ?_) (fun c23 => ?_)
                      · refine lv_lload hx hb d_M_nearest_189 (lv_at hl 2 rfl) ?_
                        refine lv_lstore (lv' := [(6, .long q), (9, .int mo), (8, .int hv), (5, .int (nI u9 - 3222)), (2, .long sg), (0, .ref h), (1, .int (nI r))]) hx hb d_M_nearest_191 hl (by decide) rfl (fun ls hl => ?_)
                        have hup : ts_up N u9 = false := ts_upF (Or.inl (hv0 c23))
                        exact kk q ls (by rw [hk, hup]; rfl) (lv_sub hl [0, 3, 4, 5, 6] rfl)
                      · have hhalf := hv1 c23
                        refine lv_iload hx hb d_M_nearest_168 (lv_at hl 0 rfl) ?_
                        refine lv_if_ne (tgt := 182) hx hb d_M_nearest_170 (by decide) (fun c24 => ?_) (fun c24 => ?_)
                        · have hmore : N % 2 ^ (u9 - 1) ≠ 0 := by rcases hmo with ⟨-, -, h1⟩ | ⟨h1, -⟩ <;> first | exact h1 | exact absurd h1 c24
                          refine lv_lload hx hb d_M_nearest_182 (lv_at hl 2 rfl) ?_
                          refine lv_lconst (v := 1) hx hb d_M_nearest_184 (by decide) ?_
                          refine lv_ladd hx hb d_M_nearest_185 ?_
                          refine lv_topl (fun z25 e_z25 => ?_)
                          refine lv_goto (tgt := 191) hx hb d_M_nearest_186 (by decide) ?_
                          refine lv_lstore (lv' := [(6, .long z25), (9, .int mo), (8, .int hv), (5, .int (nI u9 - 3222)), (2, .long sg), (0, .ref h), (1, .int (nI r))]) hx hb d_M_nearest_191 hl (by decide) rfl (fun ls hl => ?_)
                          have hup : ts_up N u9 = true := ts_upT hhalf (Or.inr hmore)
                          have hval : uN z25 = N / 2 ^ u9 + 1 := by rw [e_z25, uN_add, hk, show uN 1 = 1 by decide +kernel]; omega
                          exact kk z25 ls (by rw [hval, if_pos hup]) (lv_sub hl [0, 3, 4, 5, 6] rfl)
                        · have hless : ¬ N % 2 ^ (u9 - 1) ≠ 0 := by rcases hmo with ⟨h1, -⟩ | ⟨-, h1⟩ <;> first | exact fun z => h1 ⟨hhalf, z⟩ | exact absurd (h1.symm.trans c24) (by decide +kernel)
                          refine lv_lload hx hb d_M_nearest_173 (lv_at hl 2 rfl) ?_
                          refine lv_lconst (v := 1) hx hb d_M_nearest_175 (by decide) ?_
                          refine lv_land hx hb d_M_nearest_176 ?_
                          refine lv_topl (fun z26 e_z26 => ?_)
                          refine lv_lconst (v := 1) hx hb d_M_nearest_177 (by decide) ?_
                          refine W.lcmp hx hb d_M_nearest_178 ?_
                          refine lv_if_ne (tgt := 189) hx hb d_M_nearest_179 (by decide) (fun c27 => ?_) (fun c27 => ?_)
                          · have hodd : ¬ N / 2 ^ u9 % 2 = 1 := fun z => c27 ((lg_cmp_eq _ _).mpr (by rw [e_z26]; exact ts_and1.mpr (by rw [hk]; exact z)))
                            refine lv_lload hx hb d_M_nearest_189 (lv_at hl 2 rfl) ?_
                            refine lv_lstore (lv' := [(6, .long q), (9, .int mo), (8, .int hv), (5, .int (nI u9 - 3222)), (2, .long sg), (0, .ref h), (1, .int (nI r))]) hx hb d_M_nearest_191 hl (by decide) rfl (fun ls hl => ?_)
                            have hup : ts_up N u9 = false := ts_upF (Or.inr ⟨hodd, hless⟩)
                            exact kk q ls (by rw [hk, hup]; rfl) (lv_sub hl [0, 3, 4, 5, 6] rfl)
                          · have hodd : N / 2 ^ u9 % 2 = 1 := by rw [← hk]; exact ts_and1.mp (by rw [← e_z26]; exact (lg_cmp_eq _ _).mp c27)
                            refine lv_lload hx hb d_M_nearest_182 (lv_at hl 2 rfl) ?_
                            refine lv_lconst (v := 1) hx hb d_M_nearest_184 (by decide) ?_
                            refine lv_ladd hx hb d_M_nearest_185 ?_
                            refine lv_topl (fun z28 e_z28 => ?_)
                            refine lv_goto (tgt := 191) hx hb d_M_nearest_186 (by decide) ?_
                            refine lv_lstore (lv' := [(6, .long z28), (9, .int mo), (8, .int hv), (5, .int (nI u9 - 3222)), (2, .long sg), (0, .ref h), (1, .int (nI r))]) hx hb d_M_nearest_191 hl (by decide) rfl (fun ls hl => ?_)
                            have hup : ts_up N u9 = true := ts_upT hhalf (Or.inl hodd)
                            have hval : uN z28 = N / 2 ^ u9 + 1 := by rw [e_z28, uN_add, hk, show uN 1 = 1 by decide +kernel]; omega
                            exact kk z28 ls (by rw [hval, if_pos hup]) (lv_sub hl [0, 3, 4, 5, 6] rfl)
                  · refine lv_iload hx hb d_M_nearest_139 (lv_at hl 0 rfl) ?_
                    refine lv_if_eq (tgt := 160) hx hb d_M_nearest_141 (by decide) (fun c20 => ?_) (fun c20 => ?_)
                    · refine lv_iconst (v := 0) hx hb d_M_nearest_160 (by decide) ?_
                      refine lv_istore (lv' := [(9, .int 0), (8, .int hv), (6, .long q), (5, .int (nI u9 - 3222)), (4, .int (nI p9 - 3222)), (2, .long sg), (0, .ref h), (1, .int (nI r))]) hx hb d_M_nearest_161 hl (by decide) rfl (fun ls hl => ?_)
                      exact kk 0 _ _ ls (Or.inr ⟨rfl, fun z => by rw [hv0 c20] at z; exact absurd z.1 (by decide)⟩) hP hD hS (lv_sub hl [0, 1, 2, 3, 5, 6, 7] rfl)
                    · have hhalf := hv1 c20
                      refine lv_aload_n hx hb d_M_nearest_144 rfl (lv_at hl 5 rfl) ?_
                      refine lv_iload_n hx hb d_M_nearest_145 rfl (lv_at hl 6 rfl) ?_
                      refine ts_callV (rest := []) ⟨hx, hb, hml, hown, hts⟩ (c_M_lowest l D cL cA cI cZ h pa ba 0 P B r (by omega) hM.1 _) (cwV 1 hts g_M_nearest_M_lowest rfl rfl rfl (by decide +kernel) ⟨Nat.le_of_ble_eq_true rfl, Nat.le_of_ble_eq_true rfl⟩) hK hP hD hS hA hl.1 [0, 1, 2] (by decide) rfl (va_recv hK hP (ci := 2) (q0 := 0) rfl rfl) (fun u => rfl) rfl rfl (Nat.le_of_ble_eq_true rfl) d_M_nearest_146 ⟨Nat.zero_le _, Nat.zero_le _⟩ (fun v _u H locs hw hP hD hS => ?_)
                      have hP : va_P D vwCl [(h, .inr (2, [.int 0, .ref pa, .ref ba])), (pa, .inl (cI, 2400, .inl P)), (ba, .inl (cZ, 10, .inl B))] H := hP
                      have hD : va_D A [(h, .inr (2, [.int 0, .ref pa, .ref ba])), (pa, .inl (cI, 2400, .inl P)), (ba, .inl (cZ, 10, .inl B))] := hD
                      obtain ⟨zb, rfl, hzb9⟩ := hw
                      show W _ _ _ _ _ _ _ _ _ _ _ _ _ _ _ (F0 m 149 ls [.int zb])
                      rw [← hN] at hzb9
                      obtain ⟨b9, hb1, rfl⟩ : ∃ b9, ts_Bot N b9 ∧ zb = nI b9 - 3222 := by rcases hzb9 with ⟨h1, -⟩ | h1 <;> first | exact h1 | exact absurd h1 hnz
                      have hb6 : b9 < 6720 := hb1.lt_of (by rw [← ts_N6720, hN]; exact ts_r_lt hM.1 (by omega))
                      show W _ _ _ _ _ _ _ _ _ _ _ _ _ _ _ (F0 m 149 ls [.int (nI b9 - 3222)])
                      refine lv_iload hx hb d_M_nearest_149 (lv_at hl 2 rfl) ?_
                      refine lv_iconst (v := 1) hx hb d_M_nearest_151 (by decide) ?_
                      refine lv_isub hx hb d_M_nearest_152 ?_
                      refine lv_topi (fun z21 e_z21 => ?_)
                      refine lv_icmp_ge (tgt := 160) hx hb d_M_nearest_153 (by decide) (fun c22 => ?_) (fun c22 => ?_)
                      · have hge : u9 - 1 ≤ b9 := (ts_moreR hu1 hu2 hb6).mp (by rw [← e_z21]; exact c22)
                        refine lv_iconst (v := 0) hx hb d_M_nearest_160 (by decide) ?_
                        refine lv_istore (lv' := [(9, .int 0), (8, .int hv), (6, .long q), (5, .int (nI u9 - 3222)), (4, .int (nI p9 - 3222)), (2, .long sg), (0, .ref h), (1, .int (nI r))]) hx hb d_M_nearest_161 hl (by decide) rfl (fun ls hl => ?_)
                        exact kk 0 _ _ ls (Or.inr ⟨rfl, fun z => absurd ((hb1.less (u := u9 - 1)).mpr z.2) (by omega)⟩) hP hD hS (lv_sub hl [0, 1, 2, 3, 5, 6, 7] rfl)
                      · have hlt : b9 < u9 - 1 := Nat.lt_of_not_le (fun z => c22 (by rw [e_z21]; exact (ts_moreR hu1 hu2 hb6).mpr z))
                        refine lv_iconst (v := 1) hx hb d_M_nearest_156 (by decide) ?_
                        refine lv_goto (tgt := 161) hx hb d_M_nearest_157 (by decide) ?_
                        refine lv_istore (lv' := [(9, .int 1), (8, .int hv), (6, .long q), (5, .int (nI u9 - 3222)), (4, .int (nI p9 - 3222)), (2, .long sg), (0, .ref h), (1, .int (nI r))]) hx hb d_M_nearest_161 hl (by decide) rfl (fun ls hl => ?_)
                        exact kk 1 _ _ ls (Or.inl ⟨rfl, hhalf, (hb1.less (u := u9 - 1)).mp hlt⟩) hP hD hS (lv_sub hl [0, 1, 2, 3, 5, 6, 7] rfl)
                · exact absurd (by rw [Int32.lt_iff_toInt_lt, hdz, hui]; omega) c18
            · refine lv_icmp_ge (tgt := 77) hx hb d_M_nearest_68 (by decide) (fun c9 => ?_) (fun c9 => ?_)
              · refine lv_iload hx hb d_M_nearest_77 (lv_at hl 0 rfl) ?_
                refine lv_bipush (v := 52) hx hb d_M_nearest_79 (by decide) ?_
                refine lv_isub hx hb d_M_nearest_81 ?_
                refine lv_topi (fun z10 e_z10 => ?_)
                obtain rfl : z10 = (nI u9 - 3222) := e_z10.trans (hlow.2 (by rw [← e_z8]; exact c9))
                refine lv_istore (lv' := [(5, .int (nI u9 - 3222)), (4, .int (nI p9 - 3222)), (2, .long sg), (0, .ref h), (1, .int (nI r))]) hx hb d_M_nearest_82 hl (by decide) rfl (fun ls hl => ?_)
                exact kk () ls trivial (lv_sub hl [0, 1, 2, 3, 4] rfl)
              · refine lv_sipush (v := (-1074)) hx hb d_M_nearest_71 (by decide) ?_
                refine lv_topi (fun z11 e_z11 => ?_)
                obtain rfl : z11 = (nI u9 - 3222) := e_z11.trans (hlow.1 (by rw [← e_z8]; exact c9))
                refine lv_goto (tgt := 82) hx hb d_M_nearest_74 (by decide) ?_
                refine lv_istore (lv' := [(5, .int (nI u9 - 3222)), (4, .int (nI p9 - 3222)), (2, .long sg), (0, .ref h), (1, .int (nI r))]) hx hb d_M_nearest_82 hl (by decide) rfl (fun ls hl => ?_)
                exact kk () ls trivial (lv_sub hl [0, 1, 2, 3, 4] rfl)
          · have hbig : 4245 < p9 := Nat.lt_of_not_le (fun z => c6 ((ts_top1023 hp6).mpr z))
            refine lv_lload_n hx hb d_M_nearest_54 rfl (lv_at hl 1 rfl) ?_
            refine lv_ldc2 (v := 9218868437227405312) hx hb hown (hts (.constantLong R_M 94 9218868437227405312) (by decide +kernel)) d_M_nearest_55 ?_
            refine lv_lor hx hb d_M_nearest_58 ?_
            refine lv_topl (fun z7 e_z7 => ?_)
            exact W.lret (v := z7) hx hb hr (fun t ht hW => ts_ret (u := 0) hP hD hK hS ⟨_, rfl, Or.inl ⟨r, hr8, rfl, rfl, by rw [e_z7, hsg]; unfold ts_near; rw [← hab, ts_ns_inf hnz (by omega)]; rfl⟩⟩ ht hW) hS.2.2 d_M_nearest_59
        · refine lv_if_eq (tgt := 37) hx hb d_M_nearest_28 (by decide) (fun c5 => ?_) (fun c5 => ?_)
          · have hge : ¬ V r < 0 := fun z => ts_n01 (((c5.symm.trans e_v4).trans ((hM.neg hr8).mp z)))
            refine lv_lconst (v := 0) hx hb d_M_nearest_37 (by decide) ?_
            refine lv_lstore_n (lv' := [(2, .long 0), (0, .ref h), (1, .int (nI r))]) hx hb d_M_nearest_38 rfl hl (by decide) rfl (fun ls hl => ?_)
            exact kk 0 ls (by rw [if_neg hge]) (lv_sub hl [0, 1, 2] rfl)
          · have hlt : V r < 0 := (hM.neg hr8).mpr ((hM.2.1 r (by omega)).resolve_left (fun z => c5 (by rw [e_v4]; exact z)))
            refine lv_ldc2 (v := (-9223372036854775808)) hx hb hown (hts (.constantLong R_M 92 (-9223372036854775808)) (by decide +kernel)) d_M_nearest_31 ?_
            refine lv_goto (tgt := 38) hx hb d_M_nearest_34 (by decide) ?_
            refine lv_lstore_n (lv' := [(2, .long (-9223372036854775808)), (0, .ref h), (1, .int (nI r))]) hx hb d_M_nearest_38 rfl hl (by decide) rfl (fun ls hl => ?_)
            exact kk (-9223372036854775808) ls (by rw [if_pos hlt]) (lv_sub hl [0, 1, 2] rfl)
      · have hz : ts_r P r = 0 := by rcases hzb with ⟨-, h1⟩ | ⟨h1, -⟩ <;> first | exact h1 | exact absurd h1 c3
        refine lv_lconst (v := 0) hx hb d_M_nearest_20 (by decide) ?_
        exact W.lret (v := 0) hx hb hr (fun t ht hW => ts_ret (u := 0) hP hD hK hS ⟨_, rfl, Or.inl ⟨r, hr8, rfl, rfl, by rw [show V r = 0 by omega, ts_near0]⟩⟩ ht hW) hS.2.2 d_M_nearest_21
  · show W _ _ _ _ _ _ _ _ _ _ _ _ _ _ _ (F0 m 5 ls [.int 0, .ref h])
    refine lv_iconst (v := 1) hx hb d_M_nearest_5 (by decide) ?_
    refine ts_callV (rest := []) ⟨hx, hb, hml, hown, hts⟩ (c_M_goes l D cL cA cI cZ h pa ba th P B 0 1 _) (cwV 2 hts g_M_nearest_M_goes rfl rfl rfl (by decide +kernel) ⟨Nat.le_of_ble_eq_true rfl, Nat.le_of_ble_eq_true rfl⟩) hK hP hD hS hA hl.1 [0, 1, 2] (by decide) rfl (va_recv hK hP (ci := 2) (q0 := 0) rfl rfl) (fun u => rfl) rfl rfl (Nat.le_of_ble_eq_true rfl) d_M_nearest_6 ⟨Nat.zero_le _, Nat.zero_le _⟩ (fun v u1 H locs hw hP hD hS => ?_)
    have hP : va_P D vwCl [(h, .inr (2, [.int u1, .ref pa, .ref ba])), (pa, .inl (cI, 2400, .inl P)), (ba, .inl (cZ, 10, .inl B))] H := hP
    have hD : va_D A [(h, .inr (2, [.int u1, .ref pa, .ref ba])), (pa, .inl (cI, 2400, .inl P)), (ba, .inl (cZ, 10, .inl B))] := hD
    obtain ⟨rfl, rfl⟩ : u1 = 1 ∧ v = some (.int 0) := by rcases hw with ⟨-, h1, h2⟩ | ⟨h1, -⟩ | ⟨h1, -⟩ <;> first | exact ⟨h1, h2⟩ | exact absurd rfl h1
    have hP : va_P D vwCl [(h, .inr (2, [.int 1, .ref pa, .ref ba])), (pa, .inl (cI, 2400, .inl P)), (ba, .inl (cZ, 10, .inl B))] H := hP
    have hD : va_D A [(h, .inr (2, [.int 1, .ref pa, .ref ba])), (pa, .inl (cI, 2400, .inl P)), (ba, .inl (cZ, 10, .inl B))] := hD
    show W _ _ _ _ _ _ _ _ _ _ _ _ _ _ _ (F0 m 9 ls [.int 0])
    refine lv_if_eq (tgt := 20) hx hb d_M_nearest_9 (by decide) (fun c1 => ?_) (fun c1 => ?_)
    · refine lv_lconst (v := 0) hx hb d_M_nearest_20 (by decide) ?_
      exact W.lret (v := 0) hx hb hr (fun t ht hW => ts_ret (u := 1) hP hD hK hS ⟨_, rfl, Or.inr ⟨hbad, rfl⟩⟩ ht hW) hS.2.2 d_M_nearest_21
    · first | exact absurd c1 (by decide +kernel) | exact absurd rfl c1 | exact absurd (by decide +kernel) c1

