set_option maxHeartbeats 4000000 in
set_option maxRecDepth 100000 in
theorem c_T_add (l : Launch) (D : va_G) (cL cA cI cZ : ClassId) (o sA : Nat) (w a : Nat → Nat) (f : Nat → Nat → Int64) (r : Nat) (q : Int) (x y z : Int64) (t : Int32) (hr8 : r < 8) (hR : ts_R (f r) q) (hx9 : ts_e x ≠ 2047) (hy9 : ts_e y ≠ 2047) (hz9 : ts_e z ≠ 2047) (ht : -1000000 ≤ t.toInt ∧ t.toInt ≤ 1000000) (hb1 : -(ts_K : Int) ≤ q + ts_pr x y z t) (hb2 : q + ts_pr x y z t < (ts_K : Int)) (sz : Nat) : Met l y_T_add w_T_add (ts_rm 6) (va_Pc [.ref o, .int (nI r), .long x, .long y, .long z, .int t] (ts_A D vwCl (ts_ty cL cA cI cZ) (ts_w cL cA o sA w a f) sz)) (ts_Q (fun (v : Option Value) (u : Nat → Nat → Int64) => v = none ∧ (∀ i, i ≠ r → i ≠ 8 → u i = f i) ∧ ts_R (u r) (q + ts_pr x y z t)) (fun u => ts_B D vwCl (ts_ty cL cA cI cZ) (va_A (ts_w cL cA o sA w a f) sz) (ts_w cL cA o sA w a u)) (va_A (ts_w cL cA o sA w a f) sz)) 0 0 (va_A (ts_w cL cA o sA w a f) sz) := by
  refine ts_met (cc := b_T_add) (maxL := 11) (ret := none) (by decide) rfl (Nat.le_of_ble_eq_true rfl) ?_
  intro p e s m below meth c hx hb hr hml hown hts hlocks hname A hA hAe hK hP hD hS hsz ls hl
  have hown : s.vm.findClass R_T = some m.cls := hown
  have hl : lv_has ls 11 [(0, .ref o), (1, .int (nI r)), (2, .long x), (4, .long y), (6, .long z), (8, .int t)] := hl
  have hP : va_P D vwCl (ts_w cL cA o sA w a f) s.heap := hP
  have hD : va_D A (ts_w cL cA o sA w a f) := hD
  have hsx := ts_s_le hx9
  have hsy := ts_s_le hy9
  have hsz9 := ts_s_le hz9
  have hmx := ts_m_lt x
  have hmy := ts_m_lt y
  have hmz := ts_m_lt z
  refine lv_aload_n hx hb d_T_add_0 rfl (lv_at hl 0 rfl) ?_
  refine lv_iload_n hx hb d_T_add_1 rfl (lv_at hl 1 rfl) ?_
  refine ts_callTT (rest := []) (g := fun _ => f) ⟨hx, hb, hml, hown, hts⟩ (c_T_sumAt l D cL cA cI cZ o sA w a f r hr8 _) (cwV 1 hts g_T_add_T_sumAt rfl rfl rfl (by decide +kernel) ⟨Nat.le_of_ble_eq_true rfl, Nat.le_of_ble_eq_true rfl⟩) hK hP hD hS hA hl.1 rfl rfl (Nat.le_of_ble_eq_true rfl) d_T_add_2 ⟨Nat.zero_le _, Nat.zero_le _⟩ (fun v u H locs hw hP hD hS => ?_)
  obtain rfl := hw
  show W _ _ _ _ _ _ _ _ _ _ _ _ _ _ _ (F0 m 5 ls [.ref (w r)])
  refine lv_astore (lv' := [(9, .ref (w r)), (0, .ref o), (1, .int (nI r)), (2, .long x), (4, .long y), (6, .long z), (8, .int t)]) hx hb d_T_add_5 hl (by decide) rfl (fun ls hl => ?_)
  refine lv_lload_n hx hb d_T_add_7 rfl (lv_at hl 3 rfl) ?_
  refine ts_callS (rest := []) ⟨hx, hb, hml, hown, hts⟩ (c_T_refuseUnlessFinite l D cL cA cI cZ x hx9 _) (va_cwS 1 hts g_T_add_T_refuseUnlessFinite rfl rfl rfl (by decide +kernel) ⟨Nat.le_of_ble_eq_true rfl, Nat.le_of_ble_eq_true rfl⟩) hK hP hD hS hA hl.1 [] (by decide) rfl (fun u => rfl) rfl rfl (Nat.le_of_ble_eq_true rfl) d_T_add_8 ⟨Nat.zero_le _, Nat.zero_le _⟩ (fun v u H locs hw hP hD hS => ?_)
  have hP : va_P D vwCl (ts_w cL cA o sA w a f) H := hP
  have hD : va_D A (ts_w cL cA o sA w a f) := hD
  obtain rfl := hw
  show W _ _ _ _ _ _ _ _ _ _ _ _ _ _ _ (F0 m 11 ls [])
  refine lv_lload hx hb d_T_add_11 (lv_at hl 4 rfl) ?_
  refine ts_callS (rest := []) ⟨hx, hb, hml, hown, hts⟩ (c_T_refuseUnlessFinite l D cL cA cI cZ y hy9 _) (va_cwS 1 hts g_T_add_T_refuseUnlessFinite rfl rfl rfl (by decide +kernel) ⟨Nat.le_of_ble_eq_true rfl, Nat.le_of_ble_eq_true rfl⟩) hK hP hD hS hA hl.1 [] (by decide) rfl (fun u => rfl) rfl rfl (Nat.le_of_ble_eq_true rfl) d_T_add_13 ⟨Nat.zero_le _, Nat.zero_le _⟩ (fun v u H locs hw hP hD hS => ?_)
  have hP : va_P D vwCl (ts_w cL cA o sA w a f) H := hP
  have hD : va_D A (ts_w cL cA o sA w a f) := hD
  obtain rfl := hw
  show W _ _ _ _ _ _ _ _ _ _ _ _ _ _ _ (F0 m 16 ls [])
  refine lv_lload hx hb d_T_add_16 (lv_at hl 5 rfl) ?_
  refine ts_callS (rest := []) ⟨hx, hb, hml, hown, hts⟩ (c_T_refuseUnlessFinite l D cL cA cI cZ z hz9 _) (va_cwS 1 hts g_T_add_T_refuseUnlessFinite rfl rfl rfl (by decide +kernel) ⟨Nat.le_of_ble_eq_true rfl, Nat.le_of_ble_eq_true rfl⟩) hK hP hD hS hA hl.1 [] (by decide) rfl (fun u => rfl) rfl rfl (Nat.le_of_ble_eq_true rfl) d_T_add_18 ⟨Nat.zero_le _, Nat.zero_le _⟩ (fun v u H locs hw hP hD hS => ?_)
  have hP : va_P D vwCl (ts_w cL cA o sA w a f) H := hP
  have hD : va_D A (ts_w cL cA o sA w a f) := hD
  obtain rfl := hw
  show W _ _ _ _ _ _ _ _ _ _ _ _ _ _ _ (F0 m 21 ls [])
  refine lv_iload hx hb d_T_add_21 (lv_at hl 6 rfl) ?_
  refine ts_callS (rest := []) ⟨hx, hb, hml, hown, hts⟩ (c_T_refuseUnlessInRange l D cL cA cI cZ t ht _) (va_cwS 1 hts g_T_add_T_refuseUnlessInRange rfl rfl rfl (by decide +kernel) ⟨Nat.le_of_ble_eq_true rfl, Nat.le_of_ble_eq_true rfl⟩) hK hP hD hS hA hl.1 [] (by decide) rfl (fun u => rfl) rfl rfl (Nat.le_of_ble_eq_true rfl) d_T_add_23 ⟨Nat.zero_le _, Nat.zero_le _⟩ (fun v u H locs hw hP hD hS => ?_)
  have hP : va_P D vwCl (ts_w cL cA o sA w a f) H := hP
  have hD : va_D A (ts_w cL cA o sA w a f) := hD
  obtain rfl := hw
  show W _ _ _ _ _ _ _ _ _ _ _ _ _ _ _ (F0 m 26 ls [])
  refine lv_aload_n hx hb d_T_add_26 rfl (lv_at hl 1 rfl) ?_
  refine va_get (D := D) (ci := 1) (v := .ref (w 8)) (C := R_T) (T := F_T) (N := 4) hx hb hts (by decide +kernel) hown hK hP 0 rfl rfl 1 (by decide) (hts (.fieldLink R_T 16 "TripleSums" "product" "LTripleSums$Whole;") (by decide +kernel)) (fun _ h9 => h9) rfl d_T_add_27 ?_
  refine lv_lload_n hx hb d_T_add_30 rfl (lv_at hl 3 rfl) ?_
  refine ts_callS (rest := [.ref (w 8)]) ⟨hx, hb, hml, hown, hts⟩ (c_T_shiftOf l D cL cA cI cZ x _) (va_cwS 1 hts g_T_add_T_shiftOf rfl rfl rfl (by decide +kernel) ⟨Nat.le_of_ble_eq_true rfl, Nat.le_of_ble_eq_true rfl⟩) hK hP hD hS hA hl.1 [] (by decide) rfl (fun u => rfl) rfl rfl (Nat.le_of_ble_eq_true rfl) d_T_add_31 ⟨Nat.zero_le _, Nat.zero_le _⟩ (fun v u H locs hw hP hD hS => ?_)
  have hP : va_P D vwCl (ts_w cL cA o sA w a f) H := hP
  have hD : va_D A (ts_w cL cA o sA w a f) := hD
  obtain rfl := hw
  show W _ _ _ _ _ _ _ _ _ _ _ _ _ _ _ (F0 m 34 ls [.int (nI (ts_s x)), .ref (w 8)])
  refine lv_lload hx hb d_T_add_34 (lv_at hl 4 rfl) ?_
  refine ts_callS (rest := [.int (nI (ts_s x)), .ref (w 8)]) ⟨hx, hb, hml, hown, hts⟩ (c_T_shiftOf l D cL cA cI cZ y _) (va_cwS 1 hts g_T_add_T_shiftOf rfl rfl rfl (by decide +kernel) ⟨Nat.le_of_ble_eq_true rfl, Nat.le_of_ble_eq_true rfl⟩) hK hP hD hS hA hl.1 [] (by decide) rfl (fun u => rfl) rfl rfl (Nat.le_of_ble_eq_true rfl) d_T_add_36 ⟨Nat.zero_le _, Nat.zero_le _⟩ (fun v u H locs hw hP hD hS => ?_)
  have hP : va_P D vwCl (ts_w cL cA o sA w a f) H := hP
  have hD : va_D A (ts_w cL cA o sA w a f) := hD
  obtain rfl := hw
  show W _ _ _ _ _ _ _ _ _ _ _ _ _ _ _ (F0 m 39 ls [.int (nI (ts_s y)), .int (nI (ts_s x)), .ref (w 8)])
  refine lv_iadd hx hb d_T_add_39 ?_
  refine lv_topi (fun z1 e_z1 => ?_)
  obtain rfl : z1 = (nI (ts_s x + ts_s y)) := e_z1.trans (nI_add _ _)
  refine lv_lload hx hb d_T_add_40 (lv_at hl 5 rfl) ?_
  refine ts_callS (rest := [.int (nI (ts_s x + ts_s y)), .ref (w 8)]) ⟨hx, hb, hml, hown, hts⟩ (c_T_shiftOf l D cL cA cI cZ z _) (va_cwS 1 hts g_T_add_T_shiftOf rfl rfl rfl (by decide +kernel) ⟨Nat.le_of_ble_eq_true rfl, Nat.le_of_ble_eq_true rfl⟩) hK hP hD hS hA hl.1 [] (by decide) rfl (fun u => rfl) rfl rfl (Nat.le_of_ble_eq_true rfl) d_T_add_42 ⟨Nat.zero_le _, Nat.zero_le _⟩ (fun v u H locs hw hP hD hS => ?_)
  have hP : va_P D vwCl (ts_w cL cA o sA w a f) H := hP
  have hD : va_D A (ts_w cL cA o sA w a f) := hD
  obtain rfl := hw
  show W _ _ _ _ _ _ _ _ _ _ _ _ _ _ _ (F0 m 45 ls [.int (nI (ts_s z)), .int (nI (ts_s x + ts_s y)), .ref (w 8)])
  refine lv_iadd hx hb d_T_add_45 ?_
  refine lv_topi (fun z2 e_z2 => ?_)
  obtain rfl : z2 = (nI (ts_s x + ts_s y + ts_s z)) := e_z2.trans (nI_add _ _)
  refine ts_callT1 (rest := []) (g := fun u => u) 8 (by decide) ⟨hx, hb, hml, hown, hts⟩ (c_W_setPowerOfTwo l D cL cA cI cZ (w 8) (a 8) (f 8) (ts_s x + ts_s y + ts_s z) (by omega) _) (cwV 1 hts g_T_add_W_setPowerOfTwo rfl rfl rfl (by decide +kernel) ⟨Nat.le_of_ble_eq_true rfl, Nat.le_of_ble_eq_true rfl⟩) hK hP hD hS hA hl.1 rfl rfl (Nat.le_of_ble_eq_true rfl) d_T_add_46 ⟨Nat.zero_le _, Nat.zero_le _⟩ (fun v u1 H locs hw hP hD hS => ?_)
  obtain ⟨f1, hf1⟩ : ∃ f1 : Nat → Nat → Int64, f1 = va_up f 8 u1 := ⟨_, rfl⟩
  have hP : va_P D vwCl (ts_w cL cA o sA w a f1) H := by rw [hf1]; exact hP
  have hD : va_D A (ts_w cL cA o sA w a f1) := by rw [hf1]; exact hD
  have f1r : f1 8 = u1 := by rw [hf1, va_up_self]
  have f1o : ∀ i, i ≠ 8 → f1 i = f i := fun i hi => by rw [hf1, va_up_ne _ _ hi]
  obtain ⟨rfl, p1, p2⟩ := hw
  show W _ _ _ _ _ _ _ _ _ _ _ _ _ _ _ (F0 m 49 ls [])
  rw [← f1r] at p1 p2
  have p3 : ts_n (f1 8) = 1 * 2 ^ (ts_s x + ts_s y + ts_s z) := by rw [p2, Nat.one_mul]
  refine lv_aload_n hx hb d_T_add_49 rfl (lv_at hl 1 rfl) ?_
  refine va_get (D := D) (ci := 1) (v := .ref (w 8)) (C := R_T) (T := F_T) (N := 4) hx hb hts (by decide +kernel) hown hK hP 0 rfl rfl 1 (by decide) (hts (.fieldLink R_T 16 "TripleSums" "product" "LTripleSums$Whole;") (by decide +kernel)) (fun _ h9 => h9) rfl d_T_add_50 ?_
  refine lv_lload_n hx hb d_T_add_53 rfl (lv_at hl 3 rfl) ?_
  refine ts_callS (rest := [.ref (w 8)]) ⟨hx, hb, hml, hown, hts⟩ (c_T_significandOf l D cL cA cI cZ x _) (va_cwS 1 hts g_T_add_T_significandOf rfl rfl rfl (by decide +kernel) ⟨Nat.le_of_ble_eq_true rfl, Nat.le_of_ble_eq_true rfl⟩) hK hP hD hS hA hl.1 [] (by decide) rfl (fun u => rfl) rfl rfl (Nat.le_of_ble_eq_true rfl) d_T_add_54 ⟨Nat.zero_le _, Nat.zero_le _⟩ (fun v u H locs hw hP hD hS => ?_)
  have hP : va_P D vwCl (ts_w cL cA o sA w a f1) H := hP
  have hD : va_D A (ts_w cL cA o sA w a f1) := hD
  obtain ⟨g, rfl, hg⟩ := hw
  show W _ _ _ _ _ _ _ _ _ _ _ _ _ _ _ (F0 m 57 ls [.long g, .ref (w 8)])
  refine ts_callT1 (rest := []) (g := fun u => u) 8 (by decide) ⟨hx, hb, hml, hown, hts⟩ (c_W_multiply l D cL cA cI cZ (w 8) (a 8) (f1 8) g (by rw [hg]; exact hmx) p1 _) (cwV 1 hts g_T_add_W_multiply rfl rfl rfl (by decide +kernel) ⟨Nat.le_of_ble_eq_true rfl, Nat.le_of_ble_eq_true rfl⟩) hK hP hD hS hA hl.1 rfl rfl (Nat.le_of_ble_eq_true rfl) d_T_add_57 ⟨Nat.zero_le _, Nat.zero_le _⟩ (fun v u1 H locs hw hP hD hS => ?_)
  obtain ⟨f2, hf2⟩ : ∃ f2 : Nat → Nat → Int64, f2 = va_up f1 8 u1 := ⟨_, rfl⟩
  have hP : va_P D vwCl (ts_w cL cA o sA w a f2) H := by rw [hf2]; exact hP
  have hD : va_D A (ts_w cL cA o sA w a f2) := by rw [hf2]; exact hD
  have f2r : f2 8 = u1 := by rw [hf2, va_up_self]
  have f2o : ∀ i, i ≠ 8 → f2 i = f1 i := fun i hi => by rw [hf2, va_up_ne _ _ hi]
  obtain ⟨rfl, q1, q2, q3⟩ := hw
  show W _ _ _ _ _ _ _ _ _ _ _ _ _ _ _ (F0 m 60 ls [])
  have p1 : ts_ok (f2 8) := by rw [f2r]; exact q1
  have p3 : ts_n (f2 8) = 1 * ts_m x * 2 ^ (ts_s x + ts_s y + ts_s z) := by
    rw [f2r]
    refine (ts_mulfit q3 ?_).trans ?_
    · rw [hg, p3, ts_mulc]; exact ts_pfit (x := x) (y := y) (z := z) hx9 hy9 hz9 (by exact ts_pb1 hmx)
    · rw [hg, p3, ts_mulc]
  refine lv_aload_n hx hb d_T_add_60 rfl (lv_at hl 1 rfl) ?_
  refine va_get (D := D) (ci := 1) (v := .ref (w 8)) (C := R_T) (T := F_T) (N := 4) hx hb hts (by decide +kernel) hown hK hP 0 rfl rfl 1 (by decide) (hts (.fieldLink R_T 16 "TripleSums" "product" "LTripleSums$Whole;") (by decide +kernel)) (fun _ h9 => h9) rfl d_T_add_61 ?_
  refine lv_lload hx hb d_T_add_64 (lv_at hl 4 rfl) ?_
  refine ts_callS (rest := [.ref (w 8)]) ⟨hx, hb, hml, hown, hts⟩ (c_T_significandOf l D cL cA cI cZ y _) (va_cwS 1 hts g_T_add_T_significandOf rfl rfl rfl (by decide +kernel) ⟨Nat.le_of_ble_eq_true rfl, Nat.le_of_ble_eq_true rfl⟩) hK hP hD hS hA hl.1 [] (by decide) rfl (fun u => rfl) rfl rfl (Nat.le_of_ble_eq_true rfl) d_T_add_66 ⟨Nat.zero_le _, Nat.zero_le _⟩ (fun v u H locs hw hP hD hS => ?_)
  have hP : va_P D vwCl (ts_w cL cA o sA w a f2) H := hP
  have hD : va_D A (ts_w cL cA o sA w a f2) := hD
  obtain ⟨g, rfl, hg⟩ := hw
  show W _ _ _ _ _ _ _ _ _ _ _ _ _ _ _ (F0 m 69 ls [.long g, .ref (w 8)])
  refine ts_callT1 (rest := []) (g := fun u => u) 8 (by decide) ⟨hx, hb, hml, hown, hts⟩ (c_W_multiply l D cL cA cI cZ (w 8) (a 8) (f2 8) g (by rw [hg]; exact hmy) p1 _) (cwV 1 hts g_T_add_W_multiply rfl rfl rfl (by decide +kernel) ⟨Nat.le_of_ble_eq_true rfl, Nat.le_of_ble_eq_true rfl⟩) hK hP hD hS hA hl.1 rfl rfl (Nat.le_of_ble_eq_true rfl) d_T_add_69 ⟨Nat.zero_le _, Nat.zero_le _⟩ (fun v u1 H locs hw hP hD hS => ?_)
  obtain ⟨f3, hf3⟩ : ∃ f3 : Nat → Nat → Int64, f3 = va_up f2 8 u1 := ⟨_, rfl⟩
  have hP : va_P D vwCl (ts_w cL cA o sA w a f3) H := by rw [hf3]; exact hP
  have hD : va_D A (ts_w cL cA o sA w a f3) := by rw [hf3]; exact hD
  have f3r : f3 8 = u1 := by rw [hf3, va_up_self]
  have f3o : ∀ i, i ≠ 8 → f3 i = f2 i := fun i hi => by rw [hf3, va_up_ne _ _ hi]
  obtain ⟨rfl, q1, q2, q3⟩ := hw
  show W _ _ _ _ _ _ _ _ _ _ _ _ _ _ _ (F0 m 72 ls [])
  have p1 : ts_ok (f3 8) := by rw [f3r]; exact q1
  have p3 : ts_n (f3 8) = 1 * ts_m x * ts_m y * 2 ^ (ts_s x + ts_s y + ts_s z) := by
    rw [f3r]
    refine (ts_mulfit q3 ?_).trans ?_
    · rw [hg, p3, ts_mulc]; exact ts_pfit (x := x) (y := y) (z := z) hx9 hy9 hz9 (by exact ts_pb2 hmx hmy)
    · rw [hg, p3, ts_mulc]
  refine lv_aload_n hx hb d_T_add_72 rfl (lv_at hl 1 rfl) ?_
  refine va_get (D := D) (ci := 1) (v := .ref (w 8)) (C := R_T) (T := F_T) (N := 4) hx hb hts (by decide +kernel) hown hK hP 0 rfl rfl 1 (by decide) (hts (.fieldLink R_T 16 "TripleSums" "product" "LTripleSums$Whole;") (by decide +kernel)) (fun _ h9 => h9) rfl d_T_add_73 ?_
  refine lv_lload hx hb d_T_add_76 (lv_at hl 5 rfl) ?_
  refine ts_callS (rest := [.ref (w 8)]) ⟨hx, hb, hml, hown, hts⟩ (c_T_significandOf l D cL cA cI cZ z _) (va_cwS 1 hts g_T_add_T_significandOf rfl rfl rfl (by decide +kernel) ⟨Nat.le_of_ble_eq_true rfl, Nat.le_of_ble_eq_true rfl⟩) hK hP hD hS hA hl.1 [] (by decide) rfl (fun u => rfl) rfl rfl (Nat.le_of_ble_eq_true rfl) d_T_add_78 ⟨Nat.zero_le _, Nat.zero_le _⟩ (fun v u H locs hw hP hD hS => ?_)
  have hP : va_P D vwCl (ts_w cL cA o sA w a f3) H := hP
  have hD : va_D A (ts_w cL cA o sA w a f3) := hD
  obtain ⟨g, rfl, hg⟩ := hw
  show W _ _ _ _ _ _ _ _ _ _ _ _ _ _ _ (F0 m 81 ls [.long g, .ref (w 8)])
  refine ts_callT1 (rest := []) (g := fun u => u) 8 (by decide) ⟨hx, hb, hml, hown, hts⟩ (c_W_multiply l D cL cA cI cZ (w 8) (a 8) (f3 8) g (by rw [hg]; exact hmz) p1 _) (cwV 1 hts g_T_add_W_multiply rfl rfl rfl (by decide +kernel) ⟨Nat.le_of_ble_eq_true rfl, Nat.le_of_ble_eq_true rfl⟩) hK hP hD hS hA hl.1 rfl rfl (Nat.le_of_ble_eq_true rfl) d_T_add_81 ⟨Nat.zero_le _, Nat.zero_le _⟩ (fun v u1 H locs hw hP hD hS => ?_)
  obtain ⟨f4, hf4⟩ : ∃ f4 : Nat → Nat → Int64, f4 = va_up f3 8 u1 := ⟨_, rfl⟩
  have hP : va_P D vwCl (ts_w cL cA o sA w a f4) H := by rw [hf4]; exact hP
  have hD : va_D A (ts_w cL cA o sA w a f4) := by rw [hf4]; exact hD
  have f4r : f4 8 = u1 := by rw [hf4, va_up_self]
  have f4o : ∀ i, i ≠ 8 → f4 i = f3 i := fun i hi => by rw [hf4, va_up_ne _ _ hi]
  obtain ⟨rfl, q1, q2, q3⟩ := hw
  show W _ _ _ _ _ _ _ _ _ _ _ _ _ _ _ (F0 m 84 ls [])
  have p1 : ts_ok (f4 8) := by rw [f4r]; exact q1
  have p3 : ts_n (f4 8) = 1 * ts_m x * ts_m y * ts_m z * 2 ^ (ts_s x + ts_s y + ts_s z) := by
    rw [f4r]
    refine (ts_mulfit q3 ?_).trans ?_
    · rw [hg, p3, ts_mulc]; exact ts_pfit (x := x) (y := y) (z := z) hx9 hy9 hz9 (by exact ts_pb3 hmx hmy hmz)
    · rw [hg, p3, ts_mulc]
  have p4 : ts_n (f4 8) = ts_pn x y z := by rw [p3, Nat.one_mul]; rfl
  have p5 := ts_pn_lt hx9 hy9 hz9
  have p6 : ts_pn x y z < ts_K := Nat.lt_trans p5 ts_6294
  have p7 : ts_R (f4 8) (ts_pn x y z : Int) := by rw [← p4]; exact ts_R.ofNat p1 (by rw [p4]; exact p6)
  have hoth : ∀ i, i ≠ 8 → f4 i = f i := fun i hi => by rw [f4o i hi, f3o i hi, f2o i hi, f1o i hi]
  have hRr : ts_R (f4 r) q := by rw [hoth r (by omega)]; exact hR
  refine lv_lload_n hx hb d_T_add_84 rfl (lv_at hl 3 rfl) ?_
  refine lv_lload hx hb d_T_add_85 (lv_at hl 4 rfl) ?_
  refine lv_lxor hx hb d_T_add_87 ?_
  refine lv_topl (fun z3 e_z3 => ?_)
  refine lv_lload hx hb d_T_add_88 (lv_at hl 5 rfl) ?_
  refine lv_lxor hx hb d_T_add_90 ?_
  refine lv_topl (fun z4 e_z4 => ?_)
  refine lv_lconst (v := 0) hx hb d_T_add_91 (by decide) ?_
  refine W.lcmp hx hb d_T_add_92 ?_
  refine lv_if_ge (tgt := 100) hx hb d_T_add_93 (by decide) (fun c5 => ?_) (fun c5 => ?_)
  · refine lv_iconst (v := 0) hx hb d_T_add_100 (by decide) ?_
    refine lv_istore (lv' := [(10, .int 0), (9, .ref (w r)), (0, .ref o), (1, .int (nI r)), (2, .long x), (4, .long y), (6, .long z), (8, .int t)]) hx hb d_T_add_101 hl (by decide) rfl (fun ls hl => ?_)
    refine lv_aload hx hb d_T_add_103 (lv_at hl 1 rfl) ?_
    refine lv_aload_n hx hb d_T_add_105 rfl (lv_at hl 2 rfl) ?_
    refine va_get (D := D) (ci := 1) (v := .ref (w 8)) (C := R_T) (T := F_T) (N := 4) hx hb hts (by decide +kernel) hown hK hP 0 rfl rfl 1 (by decide) (hts (.fieldLink R_T 16 "TripleSums" "product" "LTripleSums$Whole;") (by decide +kernel)) (fun _ h9 => h9) rfl d_T_add_106 ?_
    refine lv_iload hx hb d_T_add_109 (lv_at hl 0 rfl) ?_
    refine lv_if_eq (tgt := 120) hx hb d_T_add_111 (by decide) (fun c6 => ?_) (fun c6 => ?_)
    · refine lv_iload hx hb d_T_add_120 (lv_at hl 7 rfl) ?_
      have hng : ¬ (x ^^^ y ^^^ z) < 0 := by rw [← e_z3, ← e_z4]; exact Int64.not_lt.mpr ((lg_cmp_ge _ _).mp c5)
      have hpr : ts_pr x y z t = Int32.toInt t * (ts_pn x y z : Int) := by unfold ts_pr; rw [if_neg hng]
      have htt : -1048576 ≤ Int32.toInt t ∧ Int32.toInt t ≤ 1048576 := by omega
      refine ts_callT2 (rest := []) (g := fun u => u) r 8 (by omega) (by decide) (by omega) ⟨hx, hb, hml, hown, hts⟩ (c_W_increase l D cL cA cI cZ (w r) (a r) (w 8) (a 8) (f4 r) (f4 8) t htt hRr.1 p1 _) (cwV 2 hts g_T_add_W_increase rfl rfl rfl (by decide +kernel) ⟨Nat.le_of_ble_eq_true rfl, Nat.le_of_ble_eq_true rfl⟩) hK hP hD hS hA hl.1 rfl rfl (Nat.le_of_ble_eq_true rfl) d_T_add_122 ⟨Nat.zero_le _, Nat.zero_le _⟩ (fun v u9 H locs hw hP hD hS => ?_)
      obtain ⟨f5, hf5⟩ : ∃ f5 : Nat → Nat → Int64, f5 = va_up f4 r u9 := ⟨_, rfl⟩
      have hP : va_P D vwCl (ts_w cL cA o sA w a f5) H := by rw [hf5]; exact hP
      have hD : va_D A (ts_w cL cA o sA w a f5) := by rw [hf5]; exact hD
      have f5r : f5 r = u9 := by rw [hf5, va_up_self]
      have f5o : ∀ i, i ≠ r → f5 i = f4 i := fun i hi => by rw [hf5, va_up_ne _ _ hi]
      obtain ⟨rfl, g1, g2⟩ := hw
      show W _ _ _ _ _ _ _ _ _ _ _ _ _ _ _ (F0 m 125 ls [])
      have hfin : ts_R (f5 r) (q + ts_pr x y z t) := by
        rw [hpr] at hb1 hb2 ⊢
        exact ts_R.sum hRr p7 (by rw [f5r]; exact g1) (by rw [f5r]; exact g2) hb1 hb2
      exact W.vret hx hb hr (fun t ht hW => ts_ret (u := f5) hP hD hK hS ⟨rfl, fun i hi hi8 => by rw [f5o i hi, hoth i hi8], hfin⟩ ht hW) hS.2.2 d_T_add_125
    · exact absurd rfl c6
  · refine lv_iconst (v := 1) hx hb d_T_add_96 (by decide) ?_
    refine lv_goto (tgt := 101) hx hb d_T_add_97 (by decide) ?_
    refine lv_istore (lv' := [(10, .int 1), (9, .ref (w r)), (0, .ref o), (1, .int (nI r)), (2, .long x), (4, .long y), (6, .long z), (8, .int t)]) hx hb d_T_add_101 hl (by decide) rfl (fun ls hl => ?_)
    refine lv_aload hx hb d_T_add_103 (lv_at hl 1 rfl) ?_
    refine lv_aload_n hx hb d_T_add_105 rfl (lv_at hl 2 rfl) ?_
    refine va_get (D := D) (ci := 1) (v := .ref (w 8)) (C := R_T) (T := F_T) (N := 4) hx hb hts (by decide +kernel) hown hK hP 0 rfl rfl 1 (by decide) (hts (.fieldLink R_T 16 "TripleSums" "product" "LTripleSums$Whole;") (by decide +kernel)) (fun _ h9 => h9) rfl d_T_add_106 ?_
    refine lv_iload hx hb d_T_add_109 (lv_at hl 0 rfl) ?_
    refine lv_if_eq (tgt := 120) hx hb d_T_add_111 (by decide) (fun c7 => ?_) (fun c7 => ?_)
    · exact absurd c7 (by decide +kernel)
    · refine lv_iload hx hb d_T_add_114 (lv_at hl 7 rfl) ?_
      refine lv_ineg hx hb d_T_add_116 ?_
      refine lv_topi (fun z8 e_z8 => ?_)
      refine lv_goto (tgt := 122) hx hb d_T_add_117 (by decide) ?_
      have hng : (x ^^^ y ^^^ z) < 0 := by rw [← e_z3, ← e_z4]; exact Int64.not_le.mp (fun q => c5 ((lg_cmp_ge _ _).mpr q))
      have hti : Int32.toInt z8 = -t.toInt := by rw [e_z8]; exact ts_i_neg (by omega)
      have hpr : ts_pr x y z t = Int32.toInt z8 * (ts_pn x y z : Int) := by unfold ts_pr; rw [if_pos hng, hti]
      have htt : -1048576 ≤ Int32.toInt z8 ∧ Int32.toInt z8 ≤ 1048576 := by omega
      refine ts_callT2 (rest := []) (g := fun u => u) r 8 (by omega) (by decide) (by omega) ⟨hx, hb, hml, hown, hts⟩ (c_W_increase l D cL cA cI cZ (w r) (a r) (w 8) (a 8) (f4 r) (f4 8) z8 htt hRr.1 p1 _) (cwV 2 hts g_T_add_W_increase rfl rfl rfl (by decide +kernel) ⟨Nat.le_of_ble_eq_true rfl, Nat.le_of_ble_eq_true rfl⟩) hK hP hD hS hA hl.1 rfl rfl (Nat.le_of_ble_eq_true rfl) d_T_add_122 ⟨Nat.zero_le _, Nat.zero_le _⟩ (fun v u9 H locs hw hP hD hS => ?_)
      obtain ⟨f6, hf6⟩ : ∃ f6 : Nat → Nat → Int64, f6 = va_up f4 r u9 := ⟨_, rfl⟩
      have hP : va_P D vwCl (ts_w cL cA o sA w a f6) H := by rw [hf6]; exact hP
      have hD : va_D A (ts_w cL cA o sA w a f6) := by rw [hf6]; exact hD
      have f6r : f6 r = u9 := by rw [hf6, va_up_self]
      have f6o : ∀ i, i ≠ r → f6 i = f4 i := fun i hi => by rw [hf6, va_up_ne _ _ hi]
      obtain ⟨rfl, g1, g2⟩ := hw
      show W _ _ _ _ _ _ _ _ _ _ _ _ _ _ _ (F0 m 125 ls [])
      have hfin : ts_R (f6 r) (q + ts_pr x y z t) := by
        rw [hpr] at hb1 hb2 ⊢
        exact ts_R.sum hRr p7 (by rw [f6r]; exact g1) (by rw [f6r]; exact g2) hb1 hb2
      exact W.vret hx hb hr (fun t ht hW => ts_ret (u := f6) hP hD hK hS ⟨rfl, fun i hi hi8 => by rw [f6o i hi, hoth i hi8], hfin⟩ ht hW) hS.2.2 d_T_add_125

