set_option maxHeartbeats 4000000 in
set_option maxRecDepth 100000 in
theorem c_M_add (l : Launch) (D : va_G) (cL cA cI cZ : ClassId) (h pa ba : Nat) (th : Int32) (P B : Nat → Int32) (V : Nat → Int) (hM : ts_MS P B V) (k : Int32) (x y z : Int64) (t : Int32) (hbd : ∀ r, r < 8 → (V r).natAbs < 2 ^ 6400) (sz : Nat) : Met l y_M_add w_M_add (ts_rm 5) (va_Pc [.ref h, .int k, .long x, .long y, .long z, .int t] (ts_A D vwCl (ts_ty cL cA cI cZ) [(h, .inr (2, [.int th, .ref pa, .ref ba])), (pa, .inl (cI, 2400, .inl P)), (ba, .inl (cZ, 10, .inl B))] sz)) (ts_Q (fun (v : Option Value) (u : Int32 × (Nat → Int32) × (Nat → Int32)) => v = none ∧ ((∃ r, r < 8 ∧ k = nI r ∧ ts_gd x y z t ∧ u.1 = 0 ∧ ts_MS u.2.1 u.2.2 (va_up V r (V r + ts_pr x y z t))) ∨ (ts_bad k ∧ u.1 = 1 ∧ ts_MS u.2.1 u.2.2 V) ∨ ((∃ r, r < 8 ∧ k = nI r) ∧ ¬ ts_gd x y z t ∧ u.1 = 2 ∧ ts_MS u.2.1 u.2.2 V))) (fun u => ts_B D vwCl (ts_ty cL cA cI cZ) (va_A [(h, .inr (2, [.int th, .ref pa, .ref ba])), (pa, .inl (cI, 2400, .inl P)), (ba, .inl (cZ, 10, .inl B))] sz) ([(h, .inr (2, [.int u.1, .ref pa, .ref ba])), (pa, .inl (cI, 2400, .inl u.2.1)), (ba, .inl (cZ, 10, .inl u.2.2))])) (va_A [(h, .inr (2, [.int th, .ref pa, .ref ba])), (pa, .inl (cI, 2400, .inl P)), (ba, .inl (cZ, 10, .inl B))] sz)) 0 0 (va_A [(h, .inr (2, [.int th, .ref pa, .ref ba])), (pa, .inl (cI, 2400, .inl P)), (ba, .inl (cZ, 10, .inl B))] sz) := by
  refine ts_met (cc := b_M_add) (maxL := 10) (ret := none) (by decide) rfl (Nat.le_of_ble_eq_true rfl) ?_
  intro p e s m below meth c hx hb hr hml hown hts hlocks hname A hA hAe hK hP hD hS hsz ls hl
  have hown : s.vm.findClass R_M = some m.cls := hown
  have hl : lv_has ls 10 [(0, .ref h), (1, .int k), (2, .long x), (4, .long y), (6, .long z), (8, .int t)] := hl
  have hP : va_P D vwCl [(h, .inr (2, [.int th, .ref pa, .ref ba])), (pa, .inl (cI, 2400, .inl P)), (ba, .inl (cZ, 10, .inl B))] s.heap := hP
  have hD : va_D A [(h, .inr (2, [.int th, .ref pa, .ref ba])), (pa, .inl (cI, 2400, .inl P)), (ba, .inl (cZ, 10, .inl B))] := hD
  refine ts_cutH 47 [] s.heap (D := D) (cl := vwCl) (A := A) (nL := 10) (fun (q : Int32) => (q = 1 ∧ ts_gd x y z t) ∨ (q = 0 ∧ ¬ ts_gd x y z t)) (fun _ => [(h, .inr (2, [.int th, .ref pa, .ref ba])), (pa, .inl (cI, 2400, .inl P)), (ba, .inl (cZ, 10, .inl B))]) (fun (q : Int32) => [(9, .int q), (0, .ref h), (1, .int k), (2, .long x), (4, .long y), (6, .long z), (8, .int t)]) (fun q H locs ls hq hP hD hS hl => ?_) (fun kk => ?_)
  · have hl : lv_has ls 10 [(9, .int q), (0, .ref h), (1, .int k), (2, .long x), (4, .long y), (6, .long z), (8, .int t)] := hl
    have hP : va_P D vwCl [(h, .inr (2, [.int th, .ref pa, .ref ba])), (pa, .inl (cI, 2400, .inl P)), (ba, .inl (cZ, 10, .inl B))] H := hP
    have hD : va_D A [(h, .inr (2, [.int th, .ref pa, .ref ba])), (pa, .inl (cI, 2400, .inl P)), (ba, .inl (cZ, 10, .inl B))] := hD
    refine lv_aload_n hx hb d_M_add_47 rfl (lv_at hl 1 rfl) ?_
    refine lv_iload_n hx hb d_M_add_48 rfl (lv_at hl 2 rfl) ?_
    refine ts_callS (rest := [.ref h]) ⟨hx, hb, hml, hown, hts⟩ (c_M_isSum l D cL cA cI cZ k _) (va_cwS 1 hts g_M_add_M_isSum rfl rfl rfl (by decide +kernel) ⟨Nat.le_of_ble_eq_true rfl, Nat.le_of_ble_eq_true rfl⟩) hK hP hD hS hA hl.1 [] (by decide) rfl (fun u => rfl) rfl rfl (Nat.le_of_ble_eq_true rfl) d_M_add_49 ⟨Nat.zero_le _, Nat.zero_le _⟩ (fun v _u H locs hw hP hD hS => ?_)
    have hP : va_P D vwCl [(h, .inr (2, [.int th, .ref pa, .ref ba])), (pa, .inl (cI, 2400, .inl P)), (ba, .inl (cZ, 10, .inl B))] H := hP
    have hD : va_D A [(h, .inr (2, [.int th, .ref pa, .ref ba])), (pa, .inl (cI, 2400, .inl P)), (ba, .inl (cZ, 10, .inl B))] := hD
    rcases hw with ⟨⟨r, hr8, rfl⟩, rfl⟩ | ⟨hbad, rfl⟩
    · have hl : lv_has ls 10 [(9, .int q), (0, .ref h), (1, .int (nI r)), (2, .long x), (4, .long y), (6, .long z), (8, .int t)] := hl
      show W _ _ _ _ _ _ _ _ _ _ _ _ _ _ _ (F0 m 52 ls [.int 1, .ref h])
      rcases hq with ⟨rfl, hgd⟩ | ⟨rfl, hgd⟩
      · have hl : lv_has ls 10 [(9, .int 1), (0, .ref h), (1, .int (nI r)), (2, .long x), (4, .long y), (6, .long z), (8, .int t)] := hl
        refine lv_iload hx hb d_M_add_52 (lv_at hl 0 rfl) ?_
        refine ts_callV (rest := []) ⟨hx, hb, hml, hown, hts⟩ (c_M_goes l D cL cA cI cZ h pa ba th P B 1 1 _) (cwV 2 hts g_M_add_M_goes rfl rfl rfl (by decide +kernel) ⟨Nat.le_of_ble_eq_true rfl, Nat.le_of_ble_eq_true rfl⟩) hK hP hD hS hA hl.1 [0, 1, 2] (by decide) rfl (va_recv hK hP (ci := 2) (q0 := 0) rfl rfl) (fun u => rfl) rfl rfl (Nat.le_of_ble_eq_true rfl) d_M_add_54 ⟨Nat.zero_le _, Nat.zero_le _⟩ (fun v u1 H locs hw hP hD hS => ?_)
        have hP : va_P D vwCl [(h, .inr (2, [.int u1, .ref pa, .ref ba])), (pa, .inl (cI, 2400, .inl P)), (ba, .inl (cZ, 10, .inl B))] H := hP
        have hD : va_D A [(h, .inr (2, [.int u1, .ref pa, .ref ba])), (pa, .inl (cI, 2400, .inl P)), (ba, .inl (cZ, 10, .inl B))] := hD
        obtain ⟨rfl, rfl⟩ : u1 = 0 ∧ v = some (.int 1) := by rcases hw with ⟨h1, -⟩ | ⟨-, h1, -⟩ | ⟨-, -, h1, h2⟩ <;> first | exact ⟨h1, h2⟩ | exact absurd h1 (by decide +kernel)
        have hP : va_P D vwCl [(h, .inr (2, [.int 0, .ref pa, .ref ba])), (pa, .inl (cI, 2400, .inl P)), (ba, .inl (cZ, 10, .inl B))] H := hP
        have hD : va_D A [(h, .inr (2, [.int 0, .ref pa, .ref ba])), (pa, .inl (cI, 2400, .inl P)), (ba, .inl (cZ, 10, .inl B))] := hD
        show W _ _ _ _ _ _ _ _ _ _ _ _ _ _ _ (F0 m 57 ls [.int 1])
        refine lv_if_ne (tgt := 61) hx hb d_M_add_57 (by decide) (fun c8 => ?_) (fun c8 => ?_)
        · obtain ⟨hx9, hy9, hz9, ht⟩ := id hgd
          have ha := ts_abs32 ht
          obtain ⟨n, hn⟩ : ∃ n : Nat, n = t.toInt.natAbs := ⟨_, rfl⟩
          rw [← hn] at ha
          have hmx := ts_m_lt x
          have hmy := ts_m_lt y
          have hmz := ts_m_lt z
          have hsx := ts_s_le hx9
          have hsy := ts_s_le hy9
          have hsz9 := ts_s_le hz9
          have hbs := ts_bnds ha.2.2.1 hmx hmy hmz
          refine lv_aload_n hx hb d_M_add_61 rfl (lv_at hl 1 rfl) ?_
          refine lv_bipush (v := (nI 8)) hx hb d_M_add_62 (by decide) ?_
          refine ts_callV (rest := []) ⟨hx, hb, hml, hown, hts⟩ (c_M_zero l D cL cA cI cZ h pa ba 0 P B 8 (by decide) hM.1 _) (cwV 1 hts g_M_add_M_zero rfl rfl rfl (by decide +kernel) ⟨Nat.le_of_ble_eq_true rfl, Nat.le_of_ble_eq_true rfl⟩) hK hP hD hS hA hl.1 [0, 1, 2] (by decide) rfl (va_recv hK hP (ci := 2) (q0 := 0) rfl rfl) (fun u => rfl) rfl rfl (Nat.le_of_ble_eq_true rfl) d_M_add_64 ⟨Nat.zero_le _, Nat.zero_le _⟩ (fun v u2 H locs hw hP hD hS => ?_)
          have hP : va_P D vwCl [(h, .inr (2, [.int 0, .ref pa, .ref ba])), (pa, .inl (cI, 2400, .inl u2)), (ba, .inl (cZ, 10, .inl (upd B 8 0)))] H := hP
          have hD : va_D A [(h, .inr (2, [.int 0, .ref pa, .ref ba])), (pa, .inl (cI, 2400, .inl u2)), (ba, .inl (cZ, 10, .inl (upd B 8 0)))] := hD
          obtain ⟨rfl, a1, a2, a3⟩ := hw
          show W _ _ _ _ _ _ _ _ _ _ _ _ _ _ _ (F0 m 67 ls [])
          refine lv_aload_n hx hb d_M_add_67 rfl (lv_at hl 1 rfl) ?_
          refine va_get (D := D) (ci := 2) (v := .ref pa) (C := R_M) (T := F_M) (N := 3) hx hb hts (by decide +kernel) hown hK hP 0 rfl rfl 1 (by decide) (hts (.fieldLink R_M 7 "TripleSumsModel" "parts" "[I") (by decide +kernel)) (fun _ h9 => h9) rfl d_M_add_68 ?_
          refine lv_sipush (v := (nI 1920)) hx hb d_M_add_71 (by decide) ?_
          refine lv_iload hx hb d_M_add_74 (lv_at hl 6 rfl) ?_
          refine ts_cut 87 [.int (nI n), .int (nI 1920), .ref pa] (nL := 10) (fun (_ : Unit) => True) (fun (_ : Unit) => [(9, .int 1), (0, .ref h), (1, .int (nI r)), (2, .long x), (4, .long y), (6, .long z), (8, .int t)]) (fun _ ls _ hl => ?_) (fun kk => ?_)
          · have hl : lv_has ls 10 [(9, .int 1), (0, .ref h), (1, .int (nI r)), (2, .long x), (4, .long y), (6, .long z), (8, .int t)] := hl
            refine va_iast (D := D) hx hb hK hP hD hS 1 2 rfl rfl (vp_in_nI (by decide) (by decide)) d_M_add_87 (fun H locs hP hD hS => ?_)
            have hP : va_P D vwCl [(h, .inr (2, [.int 0, .ref pa, .ref ba])), (pa, .inl (cI, 2400, .inl (upd u2 (Int32.toNatClampNeg (nI 1920)) (nI n)))), (ba, .inl (cZ, 10, .inl (upd B 8 0)))] H := hP
            have hD : va_D A [(h, .inr (2, [.int 0, .ref pa, .ref ba])), (pa, .inl (cI, 2400, .inl (upd u2 (Int32.toNatClampNeg (nI 1920)) (nI n)))), (ba, .inl (cZ, 10, .inl (upd B 8 0)))] := hD
            rw [nI_clamp (n := 1920) (by decide)] at hP hD
            have hf := ts_first (r := 8) (n := n) a1 (by decide) a3 (by omega)
            obtain ⟨P3, hP3⟩ : ∃ P3 : Nat → Int32, P3 = upd u2 1920 (nI n) := ⟨_, rfl⟩
            obtain ⟨B3, hB3⟩ : ∃ B3 : Nat → Int32, B3 = upd B 8 0 := ⟨_, rfl⟩
            rw [show 240 * 8 = 1920 from rfl, ← hP3] at hf
            rw [← hP3, ← hB3] at hP hD
            obtain ⟨b1, b2, b3⟩ := hf
            have hP : va_P D vwCl [(h, .inr (2, [.int 0, .ref pa, .ref ba])), (pa, .inl (cI, 2400, .inl P3)), (ba, .inl (cZ, 10, .inl B3))] H := hP
            have hD : va_D A [(h, .inr (2, [.int 0, .ref pa, .ref ba])), (pa, .inl (cI, 2400, .inl P3)), (ba, .inl (cZ, 10, .inl B3))] := hD
            have hB : ∀ r, r < 10 → B3 r = 0 ∨ B3 r = 1 := by rw [hB3]; exact ts_B_upd hM.2.1 (Or.inl rfl)
            have hrow : ∀ q, q < 8 → ts_r P3 q = ts_r P q ∧ B3 q = B q := fun q hq => ⟨by rw [b3.row (by omega), a2.row (by omega)], by rw [hB3, pk_un (by omega)]⟩
            refine lv_aload_n hx hb d_M_add_88 rfl (lv_at hl 1 rfl) ?_
            refine lv_lload_n hx hb d_M_add_89 rfl (lv_at hl 3 rfl) ?_
            refine ts_callS (rest := [.ref h]) ⟨hx, hb, hml, hown, hts⟩ (c_M_mantissa l D cL cA cI cZ x _) (va_cwS 1 hts g_M_add_M_mantissa rfl rfl rfl (by decide +kernel) ⟨Nat.le_of_ble_eq_true rfl, Nat.le_of_ble_eq_true rfl⟩) hK hP hD hS hA hl.1 [] (by decide) rfl (fun u => rfl) rfl rfl (Nat.le_of_ble_eq_true rfl) d_M_add_90 ⟨Nat.zero_le _, Nat.zero_le _⟩ (fun v _u H locs hw hP hD hS => ?_)
            have hP : va_P D vwCl [(h, .inr (2, [.int 0, .ref pa, .ref ba])), (pa, .inl (cI, 2400, .inl P3)), (ba, .inl (cZ, 10, .inl B3))] H := hP
            have hD : va_D A [(h, .inr (2, [.int 0, .ref pa, .ref ba])), (pa, .inl (cI, 2400, .inl P3)), (ba, .inl (cZ, 10, .inl B3))] := hD
            obtain ⟨g, rfl, hg⟩ := hw
            show W _ _ _ _ _ _ _ _ _ _ _ _ _ _ _ (F0 m 93 ls [.long g, .ref h])
            refine ts_callV (rest := []) ⟨hx, hb, hml, hown, hts⟩ (c_M_timesLong l D cL cA cI cZ h pa ba 0 P3 B3 g (by rw [hg]; exact hmx) b1 hB (by rw [hg, b2]; exact hbs.1) _) (cwV 1 hts g_M_add_M_timesLong rfl rfl rfl (by decide +kernel) ⟨Nat.le_of_ble_eq_true rfl, Nat.le_of_ble_eq_true rfl⟩) hK hP hD hS hA hl.1 [0, 1, 2] (by decide) rfl (va_recv hK hP (ci := 2) (q0 := 0) rfl rfl) (fun u => rfl) rfl rfl (Nat.le_of_ble_eq_true rfl) d_M_add_93 ⟨Nat.zero_le _, Nat.zero_le _⟩ (fun v w0 H locs hw hP hD hS => ?_)
            have hP : va_P D vwCl [(h, .inr (2, [.int 0, .ref pa, .ref ba])), (pa, .inl (cI, 2400, .inl w0.1)), (ba, .inl (cZ, 10, .inl w0.2))] H := hP
            have hD : va_D A [(h, .inr (2, [.int 0, .ref pa, .ref ba])), (pa, .inl (cI, 2400, .inl w0.1)), (ba, .inl (cZ, 10, .inl w0.2))] := hD
            obtain ⟨rfl, p0, r0, e0, s0, t0⟩ := hw
            show W _ _ _ _ _ _ _ _ _ _ _ _ _ _ _ (F0 m 96 ls [])
            rw [hg, b2] at e0
            have hB : ∀ r, r < 10 → w0.2 r = 0 ∨ w0.2 r = 1 := ts_B10 hB (fun r hr => (r0 r hr).2) s0 t0
            have hrow : ∀ q, q < 8 → ts_r w0.1 q = ts_r P q ∧ w0.2 q = B q := fun q hq => ⟨(r0 q hq).1.trans (hrow q hq).1, (r0 q hq).2.trans (hrow q hq).2⟩
            refine lv_aload_n hx hb d_M_add_96 rfl (lv_at hl 1 rfl) ?_
            refine lv_lload hx hb d_M_add_97 (lv_at hl 4 rfl) ?_
            refine ts_callS (rest := [.ref h]) ⟨hx, hb, hml, hown, hts⟩ (c_M_mantissa l D cL cA cI cZ y _) (va_cwS 1 hts g_M_add_M_mantissa rfl rfl rfl (by decide +kernel) ⟨Nat.le_of_ble_eq_true rfl, Nat.le_of_ble_eq_true rfl⟩) hK hP hD hS hA hl.1 [] (by decide) rfl (fun u => rfl) rfl rfl (Nat.le_of_ble_eq_true rfl) d_M_add_99 ⟨Nat.zero_le _, Nat.zero_le _⟩ (fun v _u H locs hw hP hD hS => ?_)
            have hP : va_P D vwCl [(h, .inr (2, [.int 0, .ref pa, .ref ba])), (pa, .inl (cI, 2400, .inl w0.1)), (ba, .inl (cZ, 10, .inl w0.2))] H := hP
            have hD : va_D A [(h, .inr (2, [.int 0, .ref pa, .ref ba])), (pa, .inl (cI, 2400, .inl w0.1)), (ba, .inl (cZ, 10, .inl w0.2))] := hD
            obtain ⟨g, rfl, hg⟩ := hw
            show W _ _ _ _ _ _ _ _ _ _ _ _ _ _ _ (F0 m 102 ls [.long g, .ref h])
            refine ts_callV (rest := []) ⟨hx, hb, hml, hown, hts⟩ (c_M_timesLong l D cL cA cI cZ h pa ba 0 w0.1 w0.2 g (by rw [hg]; exact hmy) p0 hB (by rw [hg, e0]; exact hbs.2.1) _) (cwV 1 hts g_M_add_M_timesLong rfl rfl rfl (by decide +kernel) ⟨Nat.le_of_ble_eq_true rfl, Nat.le_of_ble_eq_true rfl⟩) hK hP hD hS hA hl.1 [0, 1, 2] (by decide) rfl (va_recv hK hP (ci := 2) (q0 := 0) rfl rfl) (fun u => rfl) rfl rfl (Nat.le_of_ble_eq_true rfl) d_M_add_102 ⟨Nat.zero_le _, Nat.zero_le _⟩ (fun v w1 H locs hw hP hD hS => ?_)
            have hP : va_P D vwCl [(h, .inr (2, [.int 0, .ref pa, .ref ba])), (pa, .inl (cI, 2400, .inl w1.1)), (ba, .inl (cZ, 10, .inl w1.2))] H := hP
            have hD : va_D A [(h, .inr (2, [.int 0, .ref pa, .ref ba])), (pa, .inl (cI, 2400, .inl w1.1)), (ba, .inl (cZ, 10, .inl w1.2))] := hD
            obtain ⟨rfl, p1, r1, e1, s1, t1⟩ := hw
            show W _ _ _ _ _ _ _ _ _ _ _ _ _ _ _ (F0 m 105 ls [])
            rw [hg, e0] at e1
            have hB : ∀ r, r < 10 → w1.2 r = 0 ∨ w1.2 r = 1 := ts_B10 hB (fun r hr => (r1 r hr).2) s1 t1
            have hrow : ∀ q, q < 8 → ts_r w1.1 q = ts_r P q ∧ w1.2 q = B q := fun q hq => ⟨(r1 q hq).1.trans (hrow q hq).1, (r1 q hq).2.trans (hrow q hq).2⟩
            refine lv_aload_n hx hb d_M_add_105 rfl (lv_at hl 1 rfl) ?_
            refine lv_lload hx hb d_M_add_106 (lv_at hl 5 rfl) ?_
            refine ts_callS (rest := [.ref h]) ⟨hx, hb, hml, hown, hts⟩ (c_M_mantissa l D cL cA cI cZ z _) (va_cwS 1 hts g_M_add_M_mantissa rfl rfl rfl (by decide +kernel) ⟨Nat.le_of_ble_eq_true rfl, Nat.le_of_ble_eq_true rfl⟩) hK hP hD hS hA hl.1 [] (by decide) rfl (fun u => rfl) rfl rfl (Nat.le_of_ble_eq_true rfl) d_M_add_108 ⟨Nat.zero_le _, Nat.zero_le _⟩ (fun v _u H locs hw hP hD hS => ?_)
            have hP : va_P D vwCl [(h, .inr (2, [.int 0, .ref pa, .ref ba])), (pa, .inl (cI, 2400, .inl w1.1)), (ba, .inl (cZ, 10, .inl w1.2))] H := hP
            have hD : va_D A [(h, .inr (2, [.int 0, .ref pa, .ref ba])), (pa, .inl (cI, 2400, .inl w1.1)), (ba, .inl (cZ, 10, .inl w1.2))] := hD
            obtain ⟨g, rfl, hg⟩ := hw
            show W _ _ _ _ _ _ _ _ _ _ _ _ _ _ _ (F0 m 111 ls [.long g, .ref h])
            refine ts_callV (rest := []) ⟨hx, hb, hml, hown, hts⟩ (c_M_timesLong l D cL cA cI cZ h pa ba 0 w1.1 w1.2 g (by rw [hg]; exact hmz) p1 hB (by rw [hg, e1]; exact hbs.2.2) _) (cwV 1 hts g_M_add_M_timesLong rfl rfl rfl (by decide +kernel) ⟨Nat.le_of_ble_eq_true rfl, Nat.le_of_ble_eq_true rfl⟩) hK hP hD hS hA hl.1 [0, 1, 2] (by decide) rfl (va_recv hK hP (ci := 2) (q0 := 0) rfl rfl) (fun u => rfl) rfl rfl (Nat.le_of_ble_eq_true rfl) d_M_add_111 ⟨Nat.zero_le _, Nat.zero_le _⟩ (fun v w2 H locs hw hP hD hS => ?_)
            have hP : va_P D vwCl [(h, .inr (2, [.int 0, .ref pa, .ref ba])), (pa, .inl (cI, 2400, .inl w2.1)), (ba, .inl (cZ, 10, .inl w2.2))] H := hP
            have hD : va_D A [(h, .inr (2, [.int 0, .ref pa, .ref ba])), (pa, .inl (cI, 2400, .inl w2.1)), (ba, .inl (cZ, 10, .inl w2.2))] := hD
            obtain ⟨rfl, p2, r2, e2, s2, t2⟩ := hw
            show W _ _ _ _ _ _ _ _ _ _ _ _ _ _ _ (F0 m 114 ls [])
            rw [hg, e1] at e2
            have hB : ∀ r, r < 10 → w2.2 r = 0 ∨ w2.2 r = 1 := ts_B10 hB (fun r hr => (r2 r hr).2) s2 t2
            have hrow : ∀ q, q < 8 → ts_r w2.1 q = ts_r P q ∧ w2.2 q = B q := fun q hq => ⟨(r2 q hq).1.trans (hrow q hq).1, (r2 q hq).2.trans (hrow q hq).2⟩
            refine lv_aload_n hx hb d_M_add_114 rfl (lv_at hl 1 rfl) ?_
            refine lv_bipush (v := (nI 8)) hx hb d_M_add_115 (by decide) ?_
            refine lv_lload_n hx hb d_M_add_117 rfl (lv_at hl 3 rfl) ?_
            refine ts_callS (rest := [.int (nI 8), .ref h]) ⟨hx, hb, hml, hown, hts⟩ (c_M_power l D cL cA cI cZ x _) (va_cwS 1 hts g_M_add_M_power rfl rfl rfl (by decide +kernel) ⟨Nat.le_of_ble_eq_true rfl, Nat.le_of_ble_eq_true rfl⟩) hK hP hD hS hA hl.1 [] (by decide) rfl (fun u => rfl) rfl rfl (Nat.le_of_ble_eq_true rfl) d_M_add_118 ⟨Nat.zero_le _, Nat.zero_le _⟩ (fun v _u H locs hw hP hD hS => ?_)
            have hP : va_P D vwCl [(h, .inr (2, [.int 0, .ref pa, .ref ba])), (pa, .inl (cI, 2400, .inl w2.1)), (ba, .inl (cZ, 10, .inl w2.2))] H := hP
            have hD : va_D A [(h, .inr (2, [.int 0, .ref pa, .ref ba])), (pa, .inl (cI, 2400, .inl w2.1)), (ba, .inl (cZ, 10, .inl w2.2))] := hD
            obtain rfl := hw
            show W _ _ _ _ _ _ _ _ _ _ _ _ _ _ _ (F0 m 121 ls [.int (nI (ts_s x) - 1074), .int (nI 8), .ref h])
            refine lv_lload hx hb d_M_add_121 (lv_at hl 4 rfl) ?_
            refine ts_callS (rest := [.int (nI (ts_s x) - 1074), .int (nI 8), .ref h]) ⟨hx, hb, hml, hown, hts⟩ (c_M_power l D cL cA cI cZ y _) (va_cwS 1 hts g_M_add_M_power rfl rfl rfl (by decide +kernel) ⟨Nat.le_of_ble_eq_true rfl, Nat.le_of_ble_eq_true rfl⟩) hK hP hD hS hA hl.1 [] (by decide) rfl (fun u => rfl) rfl rfl (Nat.le_of_ble_eq_true rfl) d_M_add_123 ⟨Nat.zero_le _, Nat.zero_le _⟩ (fun v _u H locs hw hP hD hS => ?_)
            have hP : va_P D vwCl [(h, .inr (2, [.int 0, .ref pa, .ref ba])), (pa, .inl (cI, 2400, .inl w2.1)), (ba, .inl (cZ, 10, .inl w2.2))] H := hP
            have hD : va_D A [(h, .inr (2, [.int 0, .ref pa, .ref ba])), (pa, .inl (cI, 2400, .inl w2.1)), (ba, .inl (cZ, 10, .inl w2.2))] := hD
            obtain rfl := hw
            show W _ _ _ _ _ _ _ _ _ _ _ _ _ _ _ (F0 m 126 ls [.int (nI (ts_s y) - 1074), .int (nI (ts_s x) - 1074), .int (nI 8), .ref h])
            refine lv_iadd hx hb d_M_add_126 ?_
            refine lv_topi (fun z12 e_z12 => ?_)
            refine lv_lload hx hb d_M_add_127 (lv_at hl 5 rfl) ?_
            refine ts_callS (rest := [.int z12, .int (nI 8), .ref h]) ⟨hx, hb, hml, hown, hts⟩ (c_M_power l D cL cA cI cZ z _) (va_cwS 1 hts g_M_add_M_power rfl rfl rfl (by decide +kernel) ⟨Nat.le_of_ble_eq_true rfl, Nat.le_of_ble_eq_true rfl⟩) hK hP hD hS hA hl.1 [] (by decide) rfl (fun u => rfl) rfl rfl (Nat.le_of_ble_eq_true rfl) d_M_add_129 ⟨Nat.zero_le _, Nat.zero_le _⟩ (fun v _u H locs hw hP hD hS => ?_)
            have hP : va_P D vwCl [(h, .inr (2, [.int 0, .ref pa, .ref ba])), (pa, .inl (cI, 2400, .inl w2.1)), (ba, .inl (cZ, 10, .inl w2.2))] H := hP
            have hD : va_D A [(h, .inr (2, [.int 0, .ref pa, .ref ba])), (pa, .inl (cI, 2400, .inl w2.1)), (ba, .inl (cZ, 10, .inl w2.2))] := hD
            obtain rfl := hw
            show W _ _ _ _ _ _ _ _ _ _ _ _ _ _ _ (F0 m 132 ls [.int (nI (ts_s z) - 1074), .int z12, .int (nI 8), .ref h])
            refine lv_iadd hx hb d_M_add_132 ?_
            refine lv_topi (fun z13 e_z13 => ?_)
            refine lv_sipush (v := (-3222)) hx hb d_M_add_133 (by decide) ?_
            refine lv_isub hx hb d_M_add_136 ?_
            refine lv_topi (fun z14 e_z14 => ?_)
            obtain rfl : z14 = (nI (ts_s x + ts_s y + ts_s z)) := e_z14.trans (by rw [e_z13, e_z12]; exact ts_pws hsx hsy hsz9)
            have hpn : n * ts_m x * ts_m y * ts_m z * 2 ^ (ts_s x + ts_s y + ts_s z) = n * ts_pn x y z := by unfold ts_pn; rw [Nat.mul_assoc n, Nat.mul_assoc n, Nat.mul_assoc n]
            have hfit := ts_addN hx9 hy9 hz9 ha.2.2.1
            refine ts_callV (rest := []) ⟨hx, hb, hml, hown, hts⟩ (c_M_shift l D cL cA cI cZ h pa ba 0 w2.1 w2.2 8 (ts_s x + ts_s y + ts_s z) (by decide) (by omega) p2 (by rw [e2, hpn]; exact ts_mulN hfit) _) (cwV 2 hts g_M_add_M_shift rfl rfl rfl (by decide +kernel) ⟨Nat.le_of_ble_eq_true rfl, Nat.le_of_ble_eq_true rfl⟩) hK hP hD hS hA hl.1 [0, 1, 2] (by decide) rfl (va_recv hK hP (ci := 2) (q0 := 0) rfl rfl) (fun u => rfl) rfl rfl (Nat.le_of_ble_eq_true rfl) d_M_add_137 ⟨Nat.zero_le _, Nat.zero_le _⟩ (fun v u7 H locs hw hP hD hS => ?_)
            have hP : va_P D vwCl [(h, .inr (2, [.int 0, .ref pa, .ref ba])), (pa, .inl (cI, 2400, .inl u7)), (ba, .inl (cZ, 10, .inl w2.2))] H := hP
            have hD : va_D A [(h, .inr (2, [.int 0, .ref pa, .ref ba])), (pa, .inl (cI, 2400, .inl u7)), (ba, .inl (cZ, 10, .inl w2.2))] := hD
            obtain ⟨rfl, f1, f2, f3⟩ := hw
            show W _ _ _ _ _ _ _ _ _ _ _ _ _ _ _ (F0 m 140 ls [])
            rw [e2, hpn] at f3
            have hrow : ∀ q, q < 8 → ts_r u7 q = ts_r P q ∧ w2.2 q = B q := fun q hq => ⟨(f2.row (by omega)).trans (hrow q hq).1, (hrow q hq).2⟩
            obtain ⟨b8, hb8⟩ : ∃ b8 : Int32, b8 = ts_sb (decide ((x ^^^ y ^^^ z) < 0)) (decide (t < 0)) 1 := ⟨_, rfl⟩
            refine lv_aload_n hx hb d_M_add_140 rfl (lv_at hl 1 rfl) ?_
            refine va_get (D := D) (ci := 2) (v := .ref ba) (C := R_M) (T := F_M) (N := 3) hx hb hts (by decide +kernel) hown hK hP 0 rfl rfl 2 (by decide) (hts (.fieldLink R_M 13 "TripleSumsModel" "below" "[Z") (by decide +kernel)) (fun _ h9 => h9) rfl d_M_add_141 ?_
            refine lv_bipush (v := (nI 8)) hx hb d_M_add_144 (by decide) ?_
            refine ts_cut 181 [.int b8, .int (nI 8), .ref ba] (nL := 10) (fun (_ : Unit) => True) (fun (_ : Unit) => [(9, .int 1), (0, .ref h), (1, .int (nI r)), (2, .long x), (4, .long y), (6, .long z), (8, .int t)]) (fun _ ls _ hl => ?_) (fun kk => ?_)
            · have hl : lv_has ls 10 [(9, .int 1), (0, .ref h), (1, .int (nI r)), (2, .long x), (4, .long y), (6, .long z), (8, .int t)] := hl
              refine va_zast (D := D) hx hb hK hP hD hS 2 3 rfl rfl (vp_in_nI (by decide) (by decide)) d_M_add_181 (fun H locs hP hD hS => ?_)
              have hP : va_P D vwCl [(h, .inr (2, [.int 0, .ref pa, .ref ba])), (pa, .inl (cI, 2400, .inl u7)), (ba, .inl (cZ, 10, .inl (upd w2.2 (Int32.toNatClampNeg (nI 8)) (vp_nar .boolean b8))))] H := hP
              have hD : va_D A [(h, .inr (2, [.int 0, .ref pa, .ref ba])), (pa, .inl (cI, 2400, .inl u7)), (ba, .inl (cZ, 10, .inl (upd w2.2 (Int32.toNatClampNeg (nI 8)) (vp_nar .boolean b8))))] := hD
              have hnb : vp_nar .boolean b8 = b8 := by rw [hb8]; rcases ts_sb01 (decide ((x ^^^ y ^^^ z) < 0)) (decide (t < 0)) 1 with q | q <;> rw [q] <;> decide +kernel
              rw [hnb, nI_clamp (n := 8) (by decide)] at hP hD
              have hP : va_P D vwCl [(h, .inr (2, [.int 0, .ref pa, .ref ba])), (pa, .inl (cI, 2400, .inl u7)), (ba, .inl (cZ, 10, .inl (upd w2.2 8 b8)))] H := hP
              have hD : va_D A [(h, .inr (2, [.int 0, .ref pa, .ref ba])), (pa, .inl (cI, 2400, .inl u7)), (ba, .inl (cZ, 10, .inl (upd w2.2 8 b8)))] := hD
              obtain ⟨b9, hb9⟩ : ∃ b9 : Int32, b9 = ts_sb (decide ((x ^^^ y ^^^ z) < 0)) (decide (t < 0)) (ts_r u7 8) := ⟨_, rfl⟩
              have hs1 := ts_sb_1 (n := ts_r u7 8) hb8
              rw [← hb9] at hs1
              refine lv_aload_n hx hb d_M_add_182 rfl (lv_at hl 1 rfl) ?_
              refine va_get (D := D) (ci := 2) (v := .ref ba) (C := R_M) (T := F_M) (N := 3) hx hb hts (by decide +kernel) hown hK hP 0 rfl rfl 2 (by decide) (hts (.fieldLink R_M 13 "TripleSumsModel" "below" "[Z") (by decide +kernel)) (fun _ h9 => h9) rfl d_M_add_183 ?_
              refine lv_bipush (v := (nI 8)) hx hb d_M_add_186 (by decide) ?_
              refine lv_aload_n hx hb d_M_add_188 rfl (lv_at hl 1 rfl) ?_
              refine va_get (D := D) (ci := 2) (v := .ref ba) (C := R_M) (T := F_M) (N := 3) hx hb hts (by decide +kernel) hown hK hP 0 rfl rfl 2 (by decide) (hts (.fieldLink R_M 13 "TripleSumsModel" "below" "[Z") (by decide +kernel)) (fun _ h9 => h9) rfl d_M_add_189 ?_
              refine lv_bipush (v := (nI 8)) hx hb d_M_add_192 (by decide) ?_
              refine va_zald (D := D) hx hb hK hP 2 3 rfl rfl (vp_in_nI (by decide) (by decide)) d_M_add_194 ?_
              refine lv_topi (fun v28 e_v28 => ?_)
              have hv : v28 = b8 := by rw [e_v28, nI_clamp (n := 8) (by decide), pk_us]
              refine ts_cutH 212 [.int b9, .int (nI 8), .ref ba] s.heap (D := D) (cl := vwCl) (A := A) (nL := 10) (fun (_ : Unit) => True) (fun (_ : Unit) => [(h, .inr (2, [.int 0, .ref pa, .ref ba])), (pa, .inl (cI, 2400, .inl u7)), (ba, .inl (cZ, 10, .inl (upd w2.2 8 b8)))]) (fun (_ : Unit) => [(9, .int 1), (0, .ref h), (1, .int (nI r)), (2, .long x), (4, .long y), (6, .long z), (8, .int t)]) (fun _ H locs ls _ hP hD hS hl => ?_) (fun kk => ?_)
              · have hl : lv_has ls 10 [(9, .int 1), (0, .ref h), (1, .int (nI r)), (2, .long x), (4, .long y), (6, .long z), (8, .int t)] := hl
                have hP : va_P D vwCl [(h, .inr (2, [.int 0, .ref pa, .ref ba])), (pa, .inl (cI, 2400, .inl u7)), (ba, .inl (cZ, 10, .inl (upd w2.2 8 b8)))] H := hP
                have hD : va_D A [(h, .inr (2, [.int 0, .ref pa, .ref ba])), (pa, .inl (cI, 2400, .inl u7)), (ba, .inl (cZ, 10, .inl (upd w2.2 8 b8)))] := hD
                refine va_zast (D := D) hx hb hK hP hD hS 2 3 rfl rfl (vp_in_nI (by decide) (by decide)) d_M_add_212 (fun H locs hP hD hS => ?_)
                have hP : va_P D vwCl [(h, .inr (2, [.int 0, .ref pa, .ref ba])), (pa, .inl (cI, 2400, .inl u7)), (ba, .inl (cZ, 10, .inl (upd (upd w2.2 8 b8) (Int32.toNatClampNeg (nI 8)) (vp_nar .boolean b9))))] H := hP
                have hD : va_D A [(h, .inr (2, [.int 0, .ref pa, .ref ba])), (pa, .inl (cI, 2400, .inl u7)), (ba, .inl (cZ, 10, .inl (upd (upd w2.2 8 b8) (Int32.toNatClampNeg (nI 8)) (vp_nar .boolean b9))))] := hD
                have hnb : vp_nar .boolean b9 = b9 := by rw [hb9]; rcases ts_sb01 (decide ((x ^^^ y ^^^ z) < 0)) (decide (t < 0)) (ts_r u7 8) with q | q <;> rw [q] <;> decide +kernel
                rw [hnb, nI_clamp (n := 8) (by decide)] at hP hD
                obtain ⟨B7, hB7⟩ : ∃ B7 : Nat → Int32, B7 = upd (upd w2.2 8 b8) 8 b9 := ⟨_, rfl⟩
                rw [← hB7] at hP hD
                have hP : va_P D vwCl [(h, .inr (2, [.int 0, .ref pa, .ref ba])), (pa, .inl (cI, 2400, .inl u7)), (ba, .inl (cZ, 10, .inl B7))] H := hP
                have hD : va_D A [(h, .inr (2, [.int 0, .ref pa, .ref ba])), (pa, .inl (cI, 2400, .inl u7)), (ba, .inl (cZ, 10, .inl B7))] := hD
                have h78 : B7 8 = b9 := by rw [hB7, pk_us]
                have hrow : ∀ q, q < 8 → ts_r u7 q = ts_r P q ∧ B7 q = B q := fun q hq => ⟨(hrow q hq).1, by rw [hB7, pk_un (by omega), pk_un (by omega)]; exact (hrow q hq).2⟩
                have hB7s : ∀ r, r < 10 → B7 r = 0 ∨ B7 r = 1 := by rw [hB7]; exact ts_B_upd (ts_B_upd hB (by rw [hb8]; exact ts_sb01 _ _ _)) (by rw [hb9]; exact ts_sb01 _ _ _)
                obtain ⟨k8, v8⟩ := ts_prV (P := u7) (B := B7) ha.2.2.2 (by rw [h78, hb9]) (by rw [f3, hn])
                have hkr : ts_bk u7 B7 r := ts_bk_congr (hrow r hr8).1 (hrow r hr8).2 (hM.2.2 r hr8).1
                have hvr : ts_V u7 B7 r = V r := (ts_V_congr (hrow r hr8).1 (hrow r hr8).2).trans (hM.2.2 r hr8).2
                refine lv_aload_n hx hb d_M_add_213 rfl (lv_at hl 1 rfl) ?_
                refine lv_iload_n hx hb d_M_add_214 rfl (lv_at hl 2 rfl) ?_
                refine lv_bipush (v := (nI 8)) hx hb d_M_add_215 (by decide) ?_
                refine ts_callV (rest := []) ⟨hx, hb, hml, hown, hts⟩ (c_M_together l D cL cA cI cZ h pa ba 0 u7 B7 r 8 (by omega) (by decide) (by omega) hkr k8 f1 (by rw [f3, (hrow r hr8).1, hM.abs hr8]; exact ts_fit2 (hbd r hr8) hfit) _) (cwV 2 hts g_M_add_M_together rfl rfl rfl (by decide +kernel) ⟨Nat.le_of_ble_eq_true rfl, Nat.le_of_ble_eq_true rfl⟩) hK hP hD hS hA hl.1 [0, 1, 2] (by decide) rfl (va_recv hK hP (ci := 2) (q0 := 0) rfl rfl) (fun u => rfl) rfl rfl (Nat.le_of_ble_eq_true rfl) d_M_add_217 ⟨Nat.zero_le _, Nat.zero_le _⟩ (fun v u8 H locs hw hP hD hS => ?_)
                have hP : va_P D vwCl [(h, .inr (2, [.int 0, .ref pa, .ref ba])), (pa, .inl (cI, 2400, .inl u8.1)), (ba, .inl (cZ, 10, .inl (upd B7 r u8.2)))] H := hP
                have hD : va_D A [(h, .inr (2, [.int 0, .ref pa, .ref ba])), (pa, .inl (cI, 2400, .inl u8.1)), (ba, .inl (cZ, 10, .inl (upd B7 r u8.2)))] := hD
                obtain ⟨rfl, g1, g2, g3, g4⟩ := hw
                show W _ _ _ _ _ _ _ _ _ _ _ _ _ _ _ (F0 m 220 ls [])
                have h9 : u8.2 = 0 ∨ u8.2 = 1 := by have q := g4.1; rw [pk_us] at q; exact q
                exact W.vret hx hb hr (fun t ht hW => ts_ret (u := (0, u8.1, upd B7 r u8.2)) hP hD hK hS ⟨rfl, Or.inl ⟨r, hr8, rfl, hgd, rfl, hM.set g1 (ts_B_upd hB7s h9) (fun q hq hqr => ⟨(g2.row hqr).trans (hrow q hq).1, (pk_un hqr).trans (hrow q hq).2⟩) g4 (g3.trans (by rw [hvr, v8]))⟩⟩ ht hW) hS.2.2 d_M_add_220
              · refine lv_if_eq (tgt := 211) hx hb d_M_add_195 (by decide) (fun c29 => ?_) (fun c29 => ?_)
                · refine lv_iconst (v := 0) hx hb d_M_add_211 (by decide) ?_
                  refine lv_topi (fun z30 e_z30 => ?_)
                  obtain rfl : z30 = b9 := e_z30.trans (hs1.1 (hv.symm.trans c29)).symm
                  exact kk () _ _ ls trivial hP hD hS (lv_sub hl [0, 1, 2, 3, 4, 5, 6] rfl)
                · refine lv_aload_n hx hb d_M_add_198 rfl (lv_at hl 1 rfl) ?_
                  refine lv_bipush (v := (nI 8)) hx hb d_M_add_199 (by decide) ?_
                  refine ts_callV (rest := [.int (nI 8), .ref ba]) ⟨hx, hb, hml, hown, hts⟩ (c_M_isZero l D cL cA cI cZ h pa ba 0 u7 (upd w2.2 8 b8) 8 (by decide) f1 _) (cwV 1 hts g_M_add_M_isZero rfl rfl rfl (by decide +kernel) ⟨Nat.le_of_ble_eq_true rfl, Nat.le_of_ble_eq_true rfl⟩) hK hP hD hS hA hl.1 [0, 1, 2] (by decide) rfl (va_recv hK hP (ci := 2) (q0 := 0) rfl rfl) (fun u => rfl) rfl rfl (Nat.le_of_ble_eq_true rfl) d_M_add_201 ⟨Nat.zero_le _, Nat.zero_le _⟩ (fun v _u H locs hw hP hD hS => ?_)
                  have hP : va_P D vwCl [(h, .inr (2, [.int 0, .ref pa, .ref ba])), (pa, .inl (cI, 2400, .inl u7)), (ba, .inl (cZ, 10, .inl (upd w2.2 8 b8)))] H := hP
                  have hD : va_D A [(h, .inr (2, [.int 0, .ref pa, .ref ba])), (pa, .inl (cI, 2400, .inl u7)), (ba, .inl (cZ, 10, .inl (upd w2.2 8 b8)))] := hD
                  obtain ⟨bz, rfl, hzb⟩ := hw
                  show W _ _ _ _ _ _ _ _ _ _ _ _ _ _ _ (F0 m 204 ls [.int bz, .int (nI 8), .ref ba])
                  refine lv_if_ne (tgt := 211) hx hb d_M_add_204 (by decide) (fun c31 => ?_) (fun c31 => ?_)
                  · have hz0 : ts_r u7 8 = 0 := by rcases hzb with ⟨-, h1⟩ | ⟨h1, -⟩ <;> first | exact h1 | exact absurd h1 c31
                    refine lv_iconst (v := 0) hx hb d_M_add_211 (by decide) ?_
                    refine lv_topi (fun z32 e_z32 => ?_)
                    obtain rfl : z32 = b9 := e_z32.trans (hs1.2.2 hz0).symm
                    exact kk () _ _ ls trivial hP hD hS (lv_sub hl [0, 1, 2, 3, 4, 5, 6] rfl)
                  · have hnz : ts_r u7 8 ≠ 0 := by rcases hzb with ⟨h1, -⟩ | ⟨-, h1⟩ <;> first | exact h1 | exact absurd (h1.symm.trans c31) (by decide +kernel)
                    refine lv_iconst (v := 1) hx hb d_M_add_207 (by decide) ?_
                    refine lv_goto (tgt := 212) hx hb d_M_add_208 (by decide) ?_
                    refine lv_topi (fun z33 e_z33 => ?_)
                    obtain rfl : z33 = b9 := e_z33.trans (hs1.2.1 (fun q => c29 (hv.trans q)) hnz).symm
                    exact kk () _ _ ls trivial hP hD hS (lv_sub hl [0, 1, 2, 3, 4, 5, 6] rfl)
            · refine lv_lload_n hx hb d_M_add_146 rfl (lv_at hl 3 rfl) ?_
              refine lv_lload hx hb d_M_add_147 (lv_at hl 4 rfl) ?_
              refine lv_lxor hx hb d_M_add_149 ?_
              refine lv_topl (fun z15 e_z15 => ?_)
              refine lv_lload hx hb d_M_add_150 (lv_at hl 5 rfl) ?_
              refine lv_lxor hx hb d_M_add_152 ?_
              refine lv_topl (fun z16 e_z16 => ?_)
              refine lv_lconst (v := 0) hx hb d_M_add_153 (by decide) ?_
              refine W.lcmp hx hb d_M_add_154 ?_
              refine lv_if_ge (tgt := 162) hx hb d_M_add_155 (by decide) (fun c17 => ?_) (fun c17 => ?_)
              · have hng : ¬ (x ^^^ y ^^^ z) < 0 := by rw [← e_z15, ← e_z16]; exact Int64.not_lt.mpr ((lg_cmp_ge _ _).mp c17)
                refine lv_iconst (v := 0) hx hb d_M_add_162 (by decide) ?_
                refine lv_iload hx hb d_M_add_163 (lv_at hl 6 rfl) ?_
                refine lv_if_ge (tgt := 172) hx hb d_M_add_165 (by decide) (fun c18 => ?_) (fun c18 => ?_)
                · have htn : ¬ t < 0 := Int32.not_lt.mpr c18
                  refine lv_iconst (v := 0) hx hb d_M_add_172 (by decide) ?_
                  refine lv_icmp_eq (tgt := 180) hx hb d_M_add_173 (by decide) (fun c19 => ?_) (fun c19 => ?_)
                  · refine lv_iconst (v := 0) hx hb d_M_add_180 (by decide) ?_
                    refine lv_topi (fun z20 e_z20 => ?_)
                    obtain rfl : z20 = b8 := e_z20.trans (by rw [hb8, decide_eq_false hng, decide_eq_false htn]; decide +kernel)
                    exact kk () ls trivial (lv_sub hl [0, 1, 2, 3, 4, 5, 6] rfl)
                  · first | exact absurd c19 (by decide +kernel) | exact absurd rfl c19 | exact absurd (by decide +kernel) c19
                · have htn : t < 0 := Int32.not_le.mp c18
                  refine lv_iconst (v := 1) hx hb d_M_add_168 (by decide) ?_
                  refine lv_goto (tgt := 173) hx hb d_M_add_169 (by decide) ?_
                  refine lv_icmp_eq (tgt := 180) hx hb d_M_add_173 (by decide) (fun c21 => ?_) (fun c21 => ?_)
                  · first | exact absurd c21 (by decide +kernel) | exact absurd rfl c21 | exact absurd (by decide +kernel) c21
                  · refine lv_iconst (v := 1) hx hb d_M_add_176 (by decide) ?_
                    refine lv_goto (tgt := 181) hx hb d_M_add_177 (by decide) ?_
                    refine lv_topi (fun z22 e_z22 => ?_)
                    obtain rfl : z22 = b8 := e_z22.trans (by rw [hb8, decide_eq_false hng, decide_eq_true htn]; decide +kernel)
                    exact kk () ls trivial (lv_sub hl [0, 1, 2, 3, 4, 5, 6] rfl)
              · have hng : (x ^^^ y ^^^ z) < 0 := by rw [← e_z15, ← e_z16]; exact Int64.not_le.mp (fun q => c17 ((lg_cmp_ge _ _).mpr q))
                refine lv_iconst (v := 1) hx hb d_M_add_158 (by decide) ?_
                refine lv_goto (tgt := 163) hx hb d_M_add_159 (by decide) ?_
                refine lv_iload hx hb d_M_add_163 (lv_at hl 6 rfl) ?_
                refine lv_if_ge (tgt := 172) hx hb d_M_add_165 (by decide) (fun c23 => ?_) (fun c23 => ?_)
                · have htn : ¬ t < 0 := Int32.not_lt.mpr c23
                  refine lv_iconst (v := 0) hx hb d_M_add_172 (by decide) ?_
                  refine lv_icmp_eq (tgt := 180) hx hb d_M_add_173 (by decide) (fun c24 => ?_) (fun c24 => ?_)
                  · first | exact absurd c24 (by decide +kernel) | exact absurd rfl c24 | exact absurd (by decide +kernel) c24
                  · refine lv_iconst (v := 1) hx hb d_M_add_176 (by decide) ?_
                    refine lv_goto (tgt := 181) hx hb d_M_add_177 (by decide) ?_
                    refine lv_topi (fun z25 e_z25 => ?_)
                    obtain rfl : z25 = b8 := e_z25.trans (by rw [hb8, decide_eq_true hng, decide_eq_false htn]; decide +kernel)
                    exact kk () ls trivial (lv_sub hl [0, 1, 2, 3, 4, 5, 6] rfl)
                · have htn : t < 0 := Int32.not_le.mp c23
                  refine lv_iconst (v := 1) hx hb d_M_add_168 (by decide) ?_
                  refine lv_goto (tgt := 173) hx hb d_M_add_169 (by decide) ?_
                  refine lv_icmp_eq (tgt := 180) hx hb d_M_add_173 (by decide) (fun c26 => ?_) (fun c26 => ?_)
                  · refine lv_iconst (v := 0) hx hb d_M_add_180 (by decide) ?_
                    refine lv_topi (fun z27 e_z27 => ?_)
                    obtain rfl : z27 = b8 := e_z27.trans (by rw [hb8, decide_eq_true hng, decide_eq_true htn]; decide +kernel)
                    exact kk () ls trivial (lv_sub hl [0, 1, 2, 3, 4, 5, 6] rfl)
                  · first | exact absurd c26 (by decide +kernel) | exact absurd rfl c26 | exact absurd (by decide +kernel) c26
          · refine lv_if_ge (tgt := 85) hx hb d_M_add_76 (by decide) (fun c9 => ?_) (fun c9 => ?_)
            · refine lv_iload hx hb d_M_add_85 (lv_at hl 6 rfl) ?_
              refine lv_topi (fun z10 e_z10 => ?_)
              obtain rfl : z10 = (nI n) := e_z10.trans (ha.2.1 (Int32.not_lt.mpr c9))
              exact kk () ls trivial (lv_sub hl [0, 1, 2, 3, 4, 5, 6] rfl)
            · refine lv_iload hx hb d_M_add_79 (lv_at hl 6 rfl) ?_
              refine lv_ineg hx hb d_M_add_81 ?_
              refine lv_topi (fun z11 e_z11 => ?_)
              obtain rfl : z11 = (nI n) := e_z11.trans (ha.1 (Int32.not_le.mp c9))
              refine lv_goto (tgt := 87) hx hb d_M_add_82 (by decide) ?_
              exact kk () ls trivial (lv_sub hl [0, 1, 2, 3, 4, 5, 6] rfl)
        · first | exact absurd c8 (by decide +kernel) | exact absurd rfl c8 | exact absurd (by decide +kernel) c8
      · have hl : lv_has ls 10 [(9, .int 0), (0, .ref h), (1, .int (nI r)), (2, .long x), (4, .long y), (6, .long z), (8, .int t)] := hl
        refine lv_iload hx hb d_M_add_52 (lv_at hl 0 rfl) ?_
        refine ts_callV (rest := []) ⟨hx, hb, hml, hown, hts⟩ (c_M_goes l D cL cA cI cZ h pa ba th P B 1 0 _) (cwV 2 hts g_M_add_M_goes rfl rfl rfl (by decide +kernel) ⟨Nat.le_of_ble_eq_true rfl, Nat.le_of_ble_eq_true rfl⟩) hK hP hD hS hA hl.1 [0, 1, 2] (by decide) rfl (va_recv hK hP (ci := 2) (q0 := 0) rfl rfl) (fun u => rfl) rfl rfl (Nat.le_of_ble_eq_true rfl) d_M_add_54 ⟨Nat.zero_le _, Nat.zero_le _⟩ (fun v u1 H locs hw hP hD hS => ?_)
        have hP : va_P D vwCl [(h, .inr (2, [.int u1, .ref pa, .ref ba])), (pa, .inl (cI, 2400, .inl P)), (ba, .inl (cZ, 10, .inl B))] H := hP
        have hD : va_D A [(h, .inr (2, [.int u1, .ref pa, .ref ba])), (pa, .inl (cI, 2400, .inl P)), (ba, .inl (cZ, 10, .inl B))] := hD
        obtain ⟨rfl, rfl⟩ : u1 = 2 ∧ v = some (.int 0) := by rcases hw with ⟨h1, -⟩ | ⟨-, -, h1, h2⟩ | ⟨-, h1, -⟩ <;> first | exact ⟨h1, h2⟩ | exact absurd rfl h1 | exact absurd h1 (by decide +kernel)
        have hP : va_P D vwCl [(h, .inr (2, [.int 2, .ref pa, .ref ba])), (pa, .inl (cI, 2400, .inl P)), (ba, .inl (cZ, 10, .inl B))] H := hP
        have hD : va_D A [(h, .inr (2, [.int 2, .ref pa, .ref ba])), (pa, .inl (cI, 2400, .inl P)), (ba, .inl (cZ, 10, .inl B))] := hD
        show W _ _ _ _ _ _ _ _ _ _ _ _ _ _ _ (F0 m 57 ls [.int 0])
        refine lv_if_ne (tgt := 61) hx hb d_M_add_57 (by decide) (fun c7 => ?_) (fun c7 => ?_)
        · first | exact absurd c7 (by decide +kernel) | exact absurd rfl c7 | exact absurd (by decide +kernel) c7
        · exact W.vret hx hb hr (fun t ht hW => ts_ret (u := (2, P, B)) hP hD hK hS ⟨rfl, Or.inr (Or.inr ⟨⟨r, hr8, rfl⟩, hgd, rfl, hM⟩)⟩ ht hW) hS.2.2 d_M_add_60
    · show W _ _ _ _ _ _ _ _ _ _ _ _ _ _ _ (F0 m 52 ls [.int 0, .ref h])
      refine lv_iload hx hb d_M_add_52 (lv_at hl 0 rfl) ?_
      refine ts_callV (rest := []) ⟨hx, hb, hml, hown, hts⟩ (c_M_goes l D cL cA cI cZ h pa ba th P B 0 q _) (cwV 2 hts g_M_add_M_goes rfl rfl rfl (by decide +kernel) ⟨Nat.le_of_ble_eq_true rfl, Nat.le_of_ble_eq_true rfl⟩) hK hP hD hS hA hl.1 [0, 1, 2] (by decide) rfl (va_recv hK hP (ci := 2) (q0 := 0) rfl rfl) (fun u => rfl) rfl rfl (Nat.le_of_ble_eq_true rfl) d_M_add_54 ⟨Nat.zero_le _, Nat.zero_le _⟩ (fun v u1 H locs hw hP hD hS => ?_)
      have hP : va_P D vwCl [(h, .inr (2, [.int u1, .ref pa, .ref ba])), (pa, .inl (cI, 2400, .inl P)), (ba, .inl (cZ, 10, .inl B))] H := hP
      have hD : va_D A [(h, .inr (2, [.int u1, .ref pa, .ref ba])), (pa, .inl (cI, 2400, .inl P)), (ba, .inl (cZ, 10, .inl B))] := hD
      obtain ⟨rfl, rfl⟩ : u1 = 1 ∧ v = some (.int 0) := by rcases hw with ⟨-, h1, h2⟩ | ⟨h1, -⟩ | ⟨h1, -⟩ <;> first | exact ⟨h1, h2⟩ | exact absurd rfl h1
      have hP : va_P D vwCl [(h, .inr (2, [.int 1, .ref pa, .ref ba])), (pa, .inl (cI, 2400, .inl P)), (ba, .inl (cZ, 10, .inl B))] H := hP
      have hD : va_D A [(h, .inr (2, [.int 1, .ref pa, .ref ba])), (pa, .inl (cI, 2400, .inl P)), (ba, .inl (cZ, 10, .inl B))] := hD
      show W _ _ _ _ _ _ _ _ _ _ _ _ _ _ _ (F0 m 57 ls [.int 0])
      refine lv_if_ne (tgt := 61) hx hb d_M_add_57 (by decide) (fun c6 => ?_) (fun c6 => ?_)
      · first | exact absurd c6 (by decide +kernel) | exact absurd rfl c6 | exact absurd (by decide +kernel) c6
      · exact W.vret hx hb hr (fun t ht hW => ts_ret (u := (1, P, B)) hP hD hK hS ⟨rfl, Or.inr (Or.inl ⟨hbad, rfl, hM⟩)⟩ ht hW) hS.2.2 d_M_add_60
  · refine lv_lload_n hx hb d_M_add_0 rfl (lv_at hl 2 rfl) ?_
    refine ts_callS (rest := []) ⟨hx, hb, hml, hown, hts⟩ (c_M_exponent l D cL cA cI cZ x _) (va_cwS 1 hts g_M_add_M_exponent rfl rfl rfl (by decide +kernel) ⟨Nat.le_of_ble_eq_true rfl, Nat.le_of_ble_eq_true rfl⟩) hK hP hD hS hA hl.1 [] (by decide) rfl (fun u => rfl) rfl rfl (Nat.le_of_ble_eq_true rfl) d_M_add_1 ⟨Nat.zero_le _, Nat.zero_le _⟩ (fun v _u H locs hw hP hD hS => ?_)
    have hP : va_P D vwCl [(h, .inr (2, [.int th, .ref pa, .ref ba])), (pa, .inl (cI, 2400, .inl P)), (ba, .inl (cZ, 10, .inl B))] H := hP
    have hD : va_D A [(h, .inr (2, [.int th, .ref pa, .ref ba])), (pa, .inl (cI, 2400, .inl P)), (ba, .inl (cZ, 10, .inl B))] := hD
    obtain rfl := hw
    show W _ _ _ _ _ _ _ _ _ _ _ _ _ _ _ (F0 m 4 ls [.int (nI (ts_e x))])
    have hex := ts_e_lt x
    refine lv_sipush (v := 2047) hx hb d_M_add_4 (by decide) ?_
    refine lv_icmp_ge (tgt := 44) hx hb d_M_add_7 (by decide) (fun c1 => ?_) (fun c1 => ?_)
    · have hge : 2047 ≤ ts_e x := (nI_leI (a := 2047) (by decide) (by omega)).mp c1
      refine lv_iconst (v := 0) hx hb d_M_add_44 (by decide) ?_
      refine lv_istore (lv' := [(9, .int 0), (0, .ref h), (1, .int k), (2, .long x), (4, .long y), (6, .long z), (8, .int t)]) hx hb d_M_add_45 hl (by decide) rfl (fun ls hl => ?_)
      exact kk 0 _ _ ls (Or.inr ⟨rfl, fun q => q.1 (by omega)⟩) hP hD hS (lv_sub hl [0, 1, 2, 3, 4, 5, 6] rfl)
    · have hnx : ts_e x ≠ 2047 := fun q => c1 (by rw [q]; decide +kernel)
      refine lv_lload hx hb d_M_add_10 (lv_at hl 3 rfl) ?_
      refine ts_callS (rest := []) ⟨hx, hb, hml, hown, hts⟩ (c_M_exponent l D cL cA cI cZ y _) (va_cwS 1 hts g_M_add_M_exponent rfl rfl rfl (by decide +kernel) ⟨Nat.le_of_ble_eq_true rfl, Nat.le_of_ble_eq_true rfl⟩) hK hP hD hS hA hl.1 [] (by decide) rfl (fun u => rfl) rfl rfl (Nat.le_of_ble_eq_true rfl) d_M_add_12 ⟨Nat.zero_le _, Nat.zero_le _⟩ (fun v _u H locs hw hP hD hS => ?_)
      have hP : va_P D vwCl [(h, .inr (2, [.int th, .ref pa, .ref ba])), (pa, .inl (cI, 2400, .inl P)), (ba, .inl (cZ, 10, .inl B))] H := hP
      have hD : va_D A [(h, .inr (2, [.int th, .ref pa, .ref ba])), (pa, .inl (cI, 2400, .inl P)), (ba, .inl (cZ, 10, .inl B))] := hD
      obtain rfl := hw
      show W _ _ _ _ _ _ _ _ _ _ _ _ _ _ _ (F0 m 15 ls [.int (nI (ts_e y))])
      have hey := ts_e_lt y
      refine lv_sipush (v := 2047) hx hb d_M_add_15 (by decide) ?_
      refine lv_icmp_ge (tgt := 44) hx hb d_M_add_18 (by decide) (fun c2 => ?_) (fun c2 => ?_)
      · have hge : 2047 ≤ ts_e y := (nI_leI (a := 2047) (by decide) (by omega)).mp c2
        refine lv_iconst (v := 0) hx hb d_M_add_44 (by decide) ?_
        refine lv_istore (lv' := [(9, .int 0), (0, .ref h), (1, .int k), (2, .long x), (4, .long y), (6, .long z), (8, .int t)]) hx hb d_M_add_45 hl (by decide) rfl (fun ls hl => ?_)
        exact kk 0 _ _ ls (Or.inr ⟨rfl, fun q => q.2.1 (by omega)⟩) hP hD hS (lv_sub hl [0, 1, 2, 3, 4, 5, 6] rfl)
      · have hny : ts_e y ≠ 2047 := fun q => c2 (by rw [q]; decide +kernel)
        refine lv_lload hx hb d_M_add_21 (lv_at hl 4 rfl) ?_
        refine ts_callS (rest := []) ⟨hx, hb, hml, hown, hts⟩ (c_M_exponent l D cL cA cI cZ z _) (va_cwS 1 hts g_M_add_M_exponent rfl rfl rfl (by decide +kernel) ⟨Nat.le_of_ble_eq_true rfl, Nat.le_of_ble_eq_true rfl⟩) hK hP hD hS hA hl.1 [] (by decide) rfl (fun u => rfl) rfl rfl (Nat.le_of_ble_eq_true rfl) d_M_add_23 ⟨Nat.zero_le _, Nat.zero_le _⟩ (fun v _u H locs hw hP hD hS => ?_)
        have hP : va_P D vwCl [(h, .inr (2, [.int th, .ref pa, .ref ba])), (pa, .inl (cI, 2400, .inl P)), (ba, .inl (cZ, 10, .inl B))] H := hP
        have hD : va_D A [(h, .inr (2, [.int th, .ref pa, .ref ba])), (pa, .inl (cI, 2400, .inl P)), (ba, .inl (cZ, 10, .inl B))] := hD
        obtain rfl := hw
        show W _ _ _ _ _ _ _ _ _ _ _ _ _ _ _ (F0 m 26 ls [.int (nI (ts_e z))])
        have hez := ts_e_lt z
        refine lv_sipush (v := 2047) hx hb d_M_add_26 (by decide) ?_
        refine lv_icmp_ge (tgt := 44) hx hb d_M_add_29 (by decide) (fun c3 => ?_) (fun c3 => ?_)
        · have hge : 2047 ≤ ts_e z := (nI_leI (a := 2047) (by decide) (by omega)).mp c3
          refine lv_iconst (v := 0) hx hb d_M_add_44 (by decide) ?_
          refine lv_istore (lv' := [(9, .int 0), (0, .ref h), (1, .int k), (2, .long x), (4, .long y), (6, .long z), (8, .int t)]) hx hb d_M_add_45 hl (by decide) rfl (fun ls hl => ?_)
          exact kk 0 _ _ ls (Or.inr ⟨rfl, fun q => q.2.2.1 (by omega)⟩) hP hD hS (lv_sub hl [0, 1, 2, 3, 4, 5, 6] rfl)
        · have hnz : ts_e z ≠ 2047 := fun q => c3 (by rw [q]; decide +kernel)
          refine lv_iload hx hb d_M_add_32 (lv_at hl 5 rfl) ?_
          refine ts_callS (rest := []) ⟨hx, hb, hml, hown, hts⟩ (c_M_isTimes l D cL cA cI cZ t _) (va_cwS 1 hts g_M_add_M_isTimes rfl rfl rfl (by decide +kernel) ⟨Nat.le_of_ble_eq_true rfl, Nat.le_of_ble_eq_true rfl⟩) hK hP hD hS hA hl.1 [] (by decide) rfl (fun u => rfl) rfl rfl (Nat.le_of_ble_eq_true rfl) d_M_add_34 ⟨Nat.zero_le _, Nat.zero_le _⟩ (fun v _u H locs hw hP hD hS => ?_)
          have hP : va_P D vwCl [(h, .inr (2, [.int th, .ref pa, .ref ba])), (pa, .inl (cI, 2400, .inl P)), (ba, .inl (cZ, 10, .inl B))] H := hP
          have hD : va_D A [(h, .inr (2, [.int th, .ref pa, .ref ba])), (pa, .inl (cI, 2400, .inl P)), (ba, .inl (cZ, 10, .inl B))] := hD
          rcases hw with ⟨htok, rfl⟩ | ⟨htbad, rfl⟩
          · show W _ _ _ _ _ _ _ _ _ _ _ _ _ _ _ (F0 m 37 ls [.int 1])
            refine lv_if_eq (tgt := 44) hx hb d_M_add_37 (by decide) (fun c5 => ?_) (fun c5 => ?_)
            · first | exact absurd c5 (by decide +kernel) | exact absurd rfl c5 | exact absurd (by decide +kernel) c5
            · refine lv_iconst (v := 1) hx hb d_M_add_40 (by decide) ?_
              refine lv_goto (tgt := 45) hx hb d_M_add_41 (by decide) ?_
              refine lv_istore (lv' := [(9, .int 1), (0, .ref h), (1, .int k), (2, .long x), (4, .long y), (6, .long z), (8, .int t)]) hx hb d_M_add_45 hl (by decide) rfl (fun ls hl => ?_)
              exact kk 1 _ _ ls (Or.inl ⟨rfl, hnx, hny, hnz, htok⟩) hP hD hS (lv_sub hl [0, 1, 2, 3, 4, 5, 6] rfl)
          · show W _ _ _ _ _ _ _ _ _ _ _ _ _ _ _ (F0 m 37 ls [.int 0])
            refine lv_if_eq (tgt := 44) hx hb d_M_add_37 (by decide) (fun c4 => ?_) (fun c4 => ?_)
            · refine lv_iconst (v := 0) hx hb d_M_add_44 (by decide) ?_
              refine lv_istore (lv' := [(9, .int 0), (0, .ref h), (1, .int k), (2, .long x), (4, .long y), (6, .long z), (8, .int t)]) hx hb d_M_add_45 hl (by decide) rfl (fun ls hl => ?_)
              exact kk 0 _ _ ls (Or.inr ⟨rfl, fun q => ts_tbad htbad q.2.2.2⟩) hP hD hS (lv_sub hl [0, 1, 2, 3, 4, 5, 6] rfl)
            · first | exact absurd c4 (by decide +kernel) | exact absurd rfl c4 | exact absurd (by decide +kernel) c4

