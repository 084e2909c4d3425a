set_option maxHeartbeats 4000000 in
set_option maxRecDepth 100000 in
theorem c_M_timesLong (l : Launch) (D : va_G) (cL cA cI cZ : ClassId) (h pa ba : Nat) (th : Int32) (P B : Nat → Int32) (x : Int64) (hx9 : uN x < 9007199254740992) (hp : ts_pk P) (hB : ∀ r, r < 10 → B r = 0 ∨ B r = 1) (hN : ts_r P 8 * uN x < ts_N) (sz : Nat) : Met l y_M_timesLong w_M_timesLong (ts_rm 4) (va_Pc [.ref h, .long x] (ts_A D vwCl (ts_ty cL cA cI cZ) [(h, .inr (2, [.int th, .ref pa, .ref ba])), (pa, .inl (cI, 2400, .inl P)), (ba, .inl (cZ, 10, .inl B))] sz)) (ts_Q (fun (v : Option Value) (u : (Nat → Int32) × (Nat → Int32)) => v = none ∧ ts_pk u.1 ∧ (∀ r, r < 8 → ts_r u.1 r = ts_r P r ∧ u.2 r = B r) ∧ ts_r u.1 8 = ts_r P 8 * uN x ∧ u.2 8 = B 8 ∧ (u.2 9 = 0 ∨ u.2 9 = 1)) (fun u => ts_B D vwCl (ts_ty cL cA cI cZ) (va_A [(h, .inr (2, [.int th, .ref pa, .ref ba])), (pa, .inl (cI, 2400, .inl P)), (ba, .inl (cZ, 10, .inl B))] sz) ([(h, .inr (2, [.int th, .ref pa, .ref ba])), (pa, .inl (cI, 2400, .inl u.1)), (ba, .inl (cZ, 10, .inl u.2))])) (va_A [(h, .inr (2, [.int th, .ref pa, .ref ba])), (pa, .inl (cI, 2400, .inl P)), (ba, .inl (cZ, 10, .inl B))] sz)) 0 0 (va_A [(h, .inr (2, [.int th, .ref pa, .ref ba])), (pa, .inl (cI, 2400, .inl P)), (ba, .inl (cZ, 10, .inl B))] sz) := by
  refine ts_met (cc := b_M_timesLong) (maxL := 4) (ret := none) (by decide) rfl (Nat.le_of_ble_eq_true rfl) ?_
  intro p e s m below meth c hx hb hr hml hown hts hlocks hname A hA hAe hK hP hD hS hsz ls hl
  have hown : s.vm.findClass R_M = some m.cls := hown
  have hl : lv_has ls 4 [(0, .ref h), (1, .long x)] := hl
  have hP : va_P D vwCl [(h, .inr (2, [.int th, .ref pa, .ref ba])), (pa, .inl (cI, 2400, .inl P)), (ba, .inl (cZ, 10, .inl B))] s.heap := hP
  have hD : va_D A [(h, .inr (2, [.int th, .ref pa, .ref ba])), (pa, .inl (cI, 2400, .inl P)), (ba, .inl (cZ, 10, .inl B))] := hD
  refine lv_aload_n hx hb d_M_timesLong_0 rfl (lv_at hl 0 rfl) ?_
  refine lv_bipush (v := (nI 8)) hx hb d_M_timesLong_1 (by decide) ?_
  refine lv_bipush (v := (nI 9)) hx hb d_M_timesLong_3 (by decide) ?_
  refine ts_callV (rest := []) ⟨hx, hb, hml, hown, hts⟩ (c_M_copy l D cL cA cI cZ h pa ba th P B 8 9 (by decide) (by decide) (by decide) (hB 8 (by decide)) hp _) (cwV 2 hts g_M_timesLong_M_copy rfl rfl rfl (by decide +kernel) ⟨Nat.le_of_ble_eq_true rfl, Nat.le_of_ble_eq_true rfl⟩) hK hP hD hS hA hl.1 [0, 1, 2] (by decide) rfl (va_recv hK hP (ci := 2) (q0 := 0) rfl rfl) (fun u => rfl) rfl rfl (Nat.le_of_ble_eq_true rfl) d_M_timesLong_5 ⟨Nat.zero_le _, Nat.zero_le _⟩ (fun v u1 H locs hw hP hD hS => ?_)
  have hP : va_P D vwCl [(h, .inr (2, [.int th, .ref pa, .ref ba])), (pa, .inl (cI, 2400, .inl u1)), (ba, .inl (cZ, 10, .inl (upd B 9 (B 8))))] H := hP
  have hD : va_D A [(h, .inr (2, [.int th, .ref pa, .ref ba])), (pa, .inl (cI, 2400, .inl u1)), (ba, .inl (cZ, 10, .inl (upd B 9 (B 8))))] := hD
  obtain ⟨rfl, a1, a2, a3⟩ := hw
  show W _ _ _ _ _ _ _ _ _ _ _ _ _ _ _ (F0 m 8 ls [])
  have a4 : ts_r u1 8 = ts_r P 8 := a2.row (by decide)
  refine lv_aload_n hx hb d_M_timesLong_8 rfl (lv_at hl 0 rfl) ?_
  refine lv_bipush (v := (nI 8)) hx hb d_M_timesLong_9 (by decide) ?_
  refine lv_lload_n hx hb d_M_timesLong_11 rfl (lv_at hl 1 rfl) ?_
  refine lv_ldc2 (v := 268435455) hx hb hown (hts (.constantLong R_M 23 268435455) (by decide +kernel)) d_M_timesLong_12 ?_
  refine lv_land hx hb d_M_timesLong_15 ?_
  refine lv_topl (fun z1 e_z1 => ?_)
  refine lv_l2i hx hb d_M_timesLong_16 rfl ?_
  refine lv_topi (fun z2 e_z2 => ?_)
  have hlo : 0 ≤ Int32.toInt z2 ∧ Int32.toInt z2 < 268435456 ∧ (Int32.toInt z2).toNat = uN x % 268435456 := by
    subst e_z1 e_z2
    have q1 := ts_lo28u x
    rw [ts_l2i q1 (by omega), nI_toInt (by omega)]; omega
  have hlm : uN x = 268435456 * (uN x / 268435456) + uN x % 268435456 := by omega
  have hNl : uN x % 268435456 * ts_r P 8 + 268435456 * (uN x / 268435456 * ts_r P 8) = ts_r P 8 * uN x := by
    rw [Nat.mul_comm (ts_r P 8), ← Nat.mul_assoc, ← Nat.add_mul]; congr 1; omega
  refine ts_callV (rest := []) ⟨hx, hb, hml, hown, hts⟩ (c_M_times l D cL cA cI cZ h pa ba th u1 (upd B 9 (B 8)) 8 z2 (by decide) ⟨hlo.1, hlo.2.1⟩ a1 (by rw [hlo.2.2, a4]; omega) _) (cwV 2 hts g_M_timesLong_M_times rfl rfl rfl (by decide +kernel) ⟨Nat.le_of_ble_eq_true rfl, Nat.le_of_ble_eq_true rfl⟩) hK hP hD hS hA hl.1 [0, 1, 2] (by decide) rfl (va_recv hK hP (ci := 2) (q0 := 0) rfl rfl) (fun u => rfl) rfl rfl (Nat.le_of_ble_eq_true rfl) d_M_timesLong_17 ⟨Nat.zero_le _, Nat.zero_le _⟩ (fun v u2 H locs hw hP hD hS => ?_)
  have hP : va_P D vwCl [(h, .inr (2, [.int th, .ref pa, .ref ba])), (pa, .inl (cI, 2400, .inl u2)), (ba, .inl (cZ, 10, .inl (upd B 9 (B 8))))] H := hP
  have hD : va_D A [(h, .inr (2, [.int th, .ref pa, .ref ba])), (pa, .inl (cI, 2400, .inl u2)), (ba, .inl (cZ, 10, .inl (upd B 9 (B 8))))] := hD
  obtain ⟨rfl, b1, b2, b3⟩ := hw
  show W _ _ _ _ _ _ _ _ _ _ _ _ _ _ _ (F0 m 20 ls [])
  rw [hlo.2.2, a4] at b3
  have b4 : ts_r u2 9 = ts_r P 8 := by rw [b2.row (by decide), a3]
  refine lv_aload_n hx hb d_M_timesLong_20 rfl (lv_at hl 0 rfl) ?_
  refine lv_bipush (v := (nI 9)) hx hb d_M_timesLong_21 (by decide) ?_
  refine lv_lload_n hx hb d_M_timesLong_23 rfl (lv_at hl 1 rfl) ?_
  refine lv_bipush (v := 28) hx hb d_M_timesLong_24 (by decide) ?_
  refine lv_lshr hx hb d_M_timesLong_26 rfl ?_
  refine lv_topl (fun z3 e_z3 => ?_)
  refine lv_l2i hx hb d_M_timesLong_27 rfl ?_
  refine lv_topi (fun z4 e_z4 => ?_)
  have hhi : 0 ≤ Int32.toInt z4 ∧ Int32.toInt z4 < 268435456 ∧ (Int32.toInt z4).toNat = uN x / 268435456 := by
    subst e_z3 e_z4
    have q0 := ts_uI (x := x) (by omega)
    have q1 := ts_sar28 x
    have q2 := ts_uI' (x := x >>> ((28 : Int32).toInt64 &&& 63)) (by omega)
    rw [ts_l2i (n := uN x / 268435456) (by omega) (by omega), nI_toInt (by omega)]; omega
  have hNh : 268435456 * (uN x / 268435456 * ts_r P 8) < ts_N := by omega
  refine ts_callV (rest := []) ⟨hx, hb, hml, hown, hts⟩ (c_M_times l D cL cA cI cZ h pa ba th u2 (upd B 9 (B 8)) 9 z4 (by decide) ⟨hhi.1, hhi.2.1⟩ b1 (by rw [hhi.2.2, b4]; omega) _) (cwV 2 hts g_M_timesLong_M_times rfl rfl rfl (by decide +kernel) ⟨Nat.le_of_ble_eq_true rfl, Nat.le_of_ble_eq_true rfl⟩) hK hP hD hS hA hl.1 [0, 1, 2] (by decide) rfl (va_recv hK hP (ci := 2) (q0 := 0) rfl rfl) (fun u => rfl) rfl rfl (Nat.le_of_ble_eq_true rfl) d_M_timesLong_28 ⟨Nat.zero_le _, Nat.zero_le _⟩ (fun v u3 H locs hw hP hD hS => ?_)
  have hP : va_P D vwCl [(h, .inr (2, [.int th, .ref pa, .ref ba])), (pa, .inl (cI, 2400, .inl u3)), (ba, .inl (cZ, 10, .inl (upd B 9 (B 8))))] H := hP
  have hD : va_D A [(h, .inr (2, [.int th, .ref pa, .ref ba])), (pa, .inl (cI, 2400, .inl u3)), (ba, .inl (cZ, 10, .inl (upd B 9 (B 8))))] := hD
  obtain ⟨rfl, c1, c2, c3⟩ := hw
  show W _ _ _ _ _ _ _ _ _ _ _ _ _ _ _ (F0 m 31 ls [])
  rw [hhi.2.2, b4] at c3
  refine lv_aload_n hx hb d_M_timesLong_31 rfl (lv_at hl 0 rfl) ?_
  refine lv_bipush (v := (nI 9)) hx hb d_M_timesLong_32 (by decide) ?_
  refine lv_bipush (v := (nI 28)) hx hb d_M_timesLong_34 (by decide) ?_
  refine ts_callV (rest := []) ⟨hx, hb, hml, hown, hts⟩ (c_M_shift l D cL cA cI cZ h pa ba th u3 (upd B 9 (B 8)) 9 28 (by decide) (by decide) c1 (by rw [c3, Nat.mul_comm]; exact hNh) _) (cwV 2 hts g_M_timesLong_M_shift rfl rfl rfl (by decide +kernel) ⟨Nat.le_of_ble_eq_true rfl, Nat.le_of_ble_eq_true rfl⟩) hK hP hD hS hA hl.1 [0, 1, 2] (by decide) rfl (va_recv hK hP (ci := 2) (q0 := 0) rfl rfl) (fun u => rfl) rfl rfl (Nat.le_of_ble_eq_true rfl) d_M_timesLong_36 ⟨Nat.zero_le _, Nat.zero_le _⟩ (fun v u4 H locs hw hP hD hS => ?_)
  have hP : va_P D vwCl [(h, .inr (2, [.int th, .ref pa, .ref ba])), (pa, .inl (cI, 2400, .inl u4)), (ba, .inl (cZ, 10, .inl (upd B 9 (B 8))))] H := hP
  have hD : va_D A [(h, .inr (2, [.int th, .ref pa, .ref ba])), (pa, .inl (cI, 2400, .inl u4)), (ba, .inl (cZ, 10, .inl (upd B 9 (B 8))))] := hD
  obtain ⟨rfl, d1, d2, d3⟩ := hw
  show W _ _ _ _ _ _ _ _ _ _ _ _ _ _ _ (F0 m 39 ls [])
  have d4 : ts_r u4 9 = 268435456 * (uN x / 268435456 * ts_r P 8) := by rw [d3, c3, Nat.mul_comm]
  have d5 : ts_r u4 8 = uN x % 268435456 * ts_r P 8 := by rw [d2.row (by decide), c2.row (by decide), b3]
  refine lv_aload_n hx hb d_M_timesLong_39 rfl (lv_at hl 0 rfl) ?_
  refine va_get (D := D) (ci := 2) (v := .ref ba) (C := R_M) (T := F_M) (N := 3) hx hb hts (by decide +kernel) hown hK hP 0 rfl rfl 2 (by decide) (hts (.fieldLink R_M 13 "TripleSumsModel" "below" "[Z") (by decide +kernel)) (fun _ h9 => h9) rfl d_M_timesLong_40 ?_
  refine lv_bipush (v := (nI 8)) hx hb d_M_timesLong_43 (by decide) ?_
  refine va_zald (D := D) hx hb hK hP 2 3 rfl rfl (vp_in_nI (by decide) (by decide)) d_M_timesLong_45 ?_
  refine lv_topi (fun v5 e_v5 => ?_)
  have hv : v5 = B 8 := by rw [e_v5]; rfl
  refine lv_istore_n (lv' := [(3, .int v5), (0, .ref h), (1, .long x)]) hx hb d_M_timesLong_46 rfl hl (by decide) rfl (fun ls hl => ?_)
  refine lv_aload_n hx hb d_M_timesLong_47 rfl (lv_at hl 1 rfl) ?_
  refine va_get (D := D) (ci := 2) (v := .ref ba) (C := R_M) (T := F_M) (N := 3) hx hb hts (by decide +kernel) hown hK hP 0 rfl rfl 2 (by decide) (hts (.fieldLink R_M 13 "TripleSumsModel" "below" "[Z") (by decide +kernel)) (fun _ h9 => h9) rfl d_M_timesLong_48 ?_
  refine lv_bipush (v := (nI 8)) hx hb d_M_timesLong_51 (by decide) ?_
  refine lv_iconst (v := 0) hx hb d_M_timesLong_53 (by decide) ?_
  refine va_zast (D := D) hx hb hK hP hD hS 2 3 rfl rfl (vp_in_nI (by decide) (by decide)) d_M_timesLong_54 (fun H locs hP hD hS => ?_)
  have hP : va_P D vwCl [(h, .inr (2, [.int th, .ref pa, .ref ba])), (pa, .inl (cI, 2400, .inl u4)), (ba, .inl (cZ, 10, .inl (upd (upd B 9 (B 8)) (Int32.toNatClampNeg (nI 8)) (vp_nar .boolean 0))))] H := hP
  have hD : va_D A [(h, .inr (2, [.int th, .ref pa, .ref ba])), (pa, .inl (cI, 2400, .inl u4)), (ba, .inl (cZ, 10, .inl (upd (upd B 9 (B 8)) (Int32.toNatClampNeg (nI 8)) (vp_nar .boolean 0))))] := hD
  have hP : va_P D vwCl [(h, .inr (2, [.int th, .ref pa, .ref ba])), (pa, .inl (cI, 2400, .inl u4)), (ba, .inl (cZ, 10, .inl (upd (upd B 9 (B 8)) 8 0)))] H := hP
  have hD : va_D A [(h, .inr (2, [.int th, .ref pa, .ref ba])), (pa, .inl (cI, 2400, .inl u4)), (ba, .inl (cZ, 10, .inl (upd (upd B 9 (B 8)) 8 0)))] := hD
  refine lv_aload_n hx hb d_M_timesLong_55 rfl (lv_at hl 1 rfl) ?_
  refine va_get (D := D) (ci := 2) (v := .ref ba) (C := R_M) (T := F_M) (N := 3) hx hb hts (by decide +kernel) hown hK hP 0 rfl rfl 2 (by decide) (hts (.fieldLink R_M 13 "TripleSumsModel" "below" "[Z") (by decide +kernel)) (fun _ h9 => h9) rfl d_M_timesLong_56 ?_
  refine lv_bipush (v := (nI 9)) hx hb d_M_timesLong_59 (by decide) ?_
  refine lv_iconst (v := 0) hx hb d_M_timesLong_61 (by decide) ?_
  refine va_zast (D := D) hx hb hK hP hD hS 2 3 rfl rfl (vp_in_nI (by decide) (by decide)) d_M_timesLong_62 (fun H locs hP hD hS => ?_)
  have hP : va_P D vwCl [(h, .inr (2, [.int th, .ref pa, .ref ba])), (pa, .inl (cI, 2400, .inl u4)), (ba, .inl (cZ, 10, .inl (upd (upd (upd B 9 (B 8)) 8 0) (Int32.toNatClampNeg (nI 9)) (vp_nar .boolean 0))))] H := hP
  have hD : va_D A [(h, .inr (2, [.int th, .ref pa, .ref ba])), (pa, .inl (cI, 2400, .inl u4)), (ba, .inl (cZ, 10, .inl (upd (upd (upd B 9 (B 8)) 8 0) (Int32.toNatClampNeg (nI 9)) (vp_nar .boolean 0))))] := hD
  have hP : va_P D vwCl [(h, .inr (2, [.int th, .ref pa, .ref ba])), (pa, .inl (cI, 2400, .inl u4)), (ba, .inl (cZ, 10, .inl (upd (upd (upd B 9 (B 8)) 8 0) 9 0)))] H := hP
  have hD : va_D A [(h, .inr (2, [.int th, .ref pa, .ref ba])), (pa, .inl (cI, 2400, .inl u4)), (ba, .inl (cZ, 10, .inl (upd (upd (upd B 9 (B 8)) 8 0) 9 0)))] := hD
  obtain ⟨B2, hB2⟩ : ∃ B2 : Nat → Int32, B2 = upd (upd (upd B 9 (B 8)) 8 0) 9 0 := ⟨_, rfl⟩
  rw [← hB2] at hP hD
  have hP : va_P D vwCl [(h, .inr (2, [.int th, .ref pa, .ref ba])), (pa, .inl (cI, 2400, .inl u4)), (ba, .inl (cZ, 10, .inl B2))] H := hP
  have hD : va_D A [(h, .inr (2, [.int th, .ref pa, .ref ba])), (pa, .inl (cI, 2400, .inl u4)), (ba, .inl (cZ, 10, .inl B2))] := hD
  have z8 : B2 8 = 0 := by rw [hB2]; rfl
  have z9 : B2 9 = 0 := by rw [hB2]; rfl
  have n01 : ¬ (0 : Int32) = 1 := by decide +kernel
  refine lv_aload_n hx hb d_M_timesLong_63 rfl (lv_at hl 1 rfl) ?_
  refine lv_bipush (v := (nI 8)) hx hb d_M_timesLong_64 (by decide) ?_
  refine lv_bipush (v := (nI 9)) hx hb d_M_timesLong_66 (by decide) ?_
  refine ts_callV (rest := []) ⟨hx, hb, hml, hown, hts⟩ (c_M_together l D cL cA cI cZ h pa ba th u4 B2 8 9 (by decide) (by decide) (by decide) ⟨Or.inl z8, fun q => absurd (z8.symm.trans q) n01⟩ ⟨Or.inl z9, fun q => absurd (z9.symm.trans q) n01⟩ d1 (by rw [d4, d5, hNl]; exact hN) _) (cwV 2 hts g_M_timesLong_M_together rfl rfl rfl (by decide +kernel) ⟨Nat.le_of_ble_eq_true rfl, Nat.le_of_ble_eq_true rfl⟩) hK hP hD hS hA hl.1 [0, 1, 2] (by decide) rfl (va_recv hK hP (ci := 2) (q0 := 0) rfl rfl) (fun u => rfl) rfl rfl (Nat.le_of_ble_eq_true rfl) d_M_timesLong_68 ⟨Nat.zero_le _, Nat.zero_le _⟩ (fun v u5 H locs hw hP hD hS => ?_)
  have hP : va_P D vwCl [(h, .inr (2, [.int th, .ref pa, .ref ba])), (pa, .inl (cI, 2400, .inl u5.1)), (ba, .inl (cZ, 10, .inl (upd B2 8 u5.2)))] H := hP
  have hD : va_D A [(h, .inr (2, [.int th, .ref pa, .ref ba])), (pa, .inl (cI, 2400, .inl u5.1)), (ba, .inl (cZ, 10, .inl (upd B2 8 u5.2)))] := hD
  obtain ⟨rfl, e1, e2, e3, e4⟩ := hw
  show W _ _ _ _ _ _ _ _ _ _ _ _ _ _ _ (F0 m 71 ls [])
  refine lv_aload_n hx hb d_M_timesLong_71 rfl (lv_at hl 1 rfl) ?_
  refine va_get (D := D) (ci := 2) (v := .ref ba) (C := R_M) (T := F_M) (N := 3) hx hb hts (by decide +kernel) hown hK hP 0 rfl rfl 2 (by decide) (hts (.fieldLink R_M 13 "TripleSumsModel" "below" "[Z") (by decide +kernel)) (fun _ h9 => h9) rfl d_M_timesLong_72 ?_
  refine lv_bipush (v := (nI 8)) hx hb d_M_timesLong_75 (by decide) ?_
  refine lv_iload_n hx hb d_M_timesLong_77 rfl (lv_at hl 0 rfl) ?_
  refine va_zast (D := D) hx hb hK hP hD hS 2 3 rfl rfl (vp_in_nI (by decide) (by decide)) d_M_timesLong_78 (fun H locs hP hD hS => ?_)
  have hP : va_P D vwCl [(h, .inr (2, [.int th, .ref pa, .ref ba])), (pa, .inl (cI, 2400, .inl u5.1)), (ba, .inl (cZ, 10, .inl (upd (upd B2 8 u5.2) (Int32.toNatClampNeg (nI 8)) (vp_nar .boolean v5))))] H := hP
  have hD : va_D A [(h, .inr (2, [.int th, .ref pa, .ref ba])), (pa, .inl (cI, 2400, .inl u5.1)), (ba, .inl (cZ, 10, .inl (upd (upd B2 8 u5.2) (Int32.toNatClampNeg (nI 8)) (vp_nar .boolean v5))))] := hD
  have hnb : vp_nar .boolean v5 = B 8 := by rw [hv]; rcases hB 8 (by decide) with q | q <;> rw [q] <;> decide +kernel
  rw [hnb] at hP hD
  have hP : va_P D vwCl [(h, .inr (2, [.int th, .ref pa, .ref ba])), (pa, .inl (cI, 2400, .inl u5.1)), (ba, .inl (cZ, 10, .inl (upd (upd B2 8 u5.2) 8 (B 8))))] H := hP
  have hD : va_D A [(h, .inr (2, [.int th, .ref pa, .ref ba])), (pa, .inl (cI, 2400, .inl u5.1)), (ba, .inl (cZ, 10, .inl (upd (upd B2 8 u5.2) 8 (B 8))))] := hD
  have e5 : (ts_r u5.1 8 : Int) = (ts_r P 8 * uN x : Nat) := by
    have q1 : ts_V u4 B2 8 = (ts_r u4 8 : Int) := by unfold ts_V; rw [z8, if_neg n01]
    have q2 : ts_V u4 B2 9 = (ts_r u4 9 : Int) := by unfold ts_V; rw [z9, if_neg n01]
    have q3 := ts_V_abs u5.1 (upd B2 8 u5.2) 8
    rw [e3, q1, q2, d4, d5] at q3; omega
  refine W.vret hx hb hr (fun t ht hW => ts_ret (u := (u5.1, upd (upd B2 8 u5.2) 8 (B 8))) hP hD hK hS ⟨rfl, e1, ?_, (show ts_r u5.1 8 = ts_r P 8 * uN x by omega), rfl, Or.inl ?_⟩ ht hW) hS.2.2 d_M_timesLong_79
  · intro r hr8
    refine ⟨by rw [e2.row (by omega), d2.row (by omega), c2.row (by omega), b2.row (by omega), a2.row (by omega)], ?_⟩
    show upd (upd B2 8 u5.2) 8 (B 8) r = B r
    rw [pk_un (by omega), pk_un (by omega), hB2, pk_un (by omega), pk_un (by omega), pk_un (by omega)]
  · show upd (upd B2 8 u5.2) 8 (B 8) 9 = 0
    rw [pk_un (by decide), pk_un (by decide), z9]

