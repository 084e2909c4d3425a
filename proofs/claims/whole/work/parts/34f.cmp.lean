set_option maxHeartbeats 4000000 in
set_option maxRecDepth 100000 in
theorem c_T_compare (l : Launch) (D : va_G) (cL cA cI cZ : ClassId) (o sA : Nat) (w a : Nat → Nat) (f : Nat → Nat → Int64) (r q : Nat) (x y : Int) (hr8 : r < 8) (hq8 : q < 8) (hR : ts_R (f r) x) (hQ : ts_R (f q) y) (hb1 : -(ts_K : Int) ≤ x + -1 * y) (hb2 : x + -1 * y < (ts_K : Int)) (sz : Nat) : Met l y_T_compare w_T_compare (ts_rm 6) (va_Pc [.ref o, .int (nI r), .int (nI q)] (ts_A D vwCl (ts_ty cL cA cI cZ) (ts_w cL cA o sA w a f) sz)) (ts_Q (fun (v : Option Value) (u : Nat → Nat → Int64) => v = some (.int (ts_sg (x + -1 * y))) ∧ ∀ i, i ≠ 9 → u i = f i) (fun u => ts_B D vwCl (ts_ty cL cA cI cZ) (va_A (ts_w cL cA o sA w a f) sz) (ts_w cL cA o sA w a u)) (va_A (ts_w cL cA o sA w a f) sz)) 0 0 (va_A (ts_w cL cA o sA w a f) sz) := by
  refine ts_met (cc := b_T_compare) (maxL := 5) (ret := (some .int)) (by decide) rfl (Nat.le_of_ble_eq_true rfl) ?_
  intro p e s m below meth c hx hb hr hml hown hts hlocks hname A hA hAe hK hP hD hS hsz ls hl
  have hown : s.vm.findClass R_T = some m.cls := hown
  have hl : lv_has ls 5 [(0, .ref o), (1, .int (nI r)), (2, .int (nI q))] := hl
  have hP : va_P D vwCl (ts_w cL cA o sA w a f) s.heap := hP
  have hD : va_D A (ts_w cL cA o sA w a f) := hD
  refine lv_aload_n hx hb d_T_compare_0 rfl (lv_at hl 0 rfl) ?_
  refine lv_iload_n hx hb d_T_compare_1 rfl (lv_at hl 1 rfl) ?_
  refine ts_callTT (rest := []) (g := fun _ => f) ⟨hx, hb, hml, hown, hts⟩ (c_T_sumAt l D cL cA cI cZ o sA w a f r hr8 _) (cwV 1 hts g_T_compare_T_sumAt rfl rfl rfl (by decide +kernel) ⟨Nat.le_of_ble_eq_true rfl, Nat.le_of_ble_eq_true rfl⟩) hK hP hD hS hA hl.1 rfl rfl (Nat.le_of_ble_eq_true rfl) d_T_compare_2 ⟨Nat.zero_le _, Nat.zero_le _⟩ (fun v u H locs hw hP hD hS => ?_)
  obtain rfl := hw
  show W _ _ _ _ _ _ _ _ _ _ _ _ _ _ _ (F0 m 5 ls [.ref (w r)])
  refine lv_astore_n (lv' := [(3, .ref (w r)), (0, .ref o), (1, .int (nI r)), (2, .int (nI q))]) hx hb d_T_compare_5 rfl hl (by decide) rfl (fun ls hl => ?_)
  refine lv_aload_n hx hb d_T_compare_6 rfl (lv_at hl 1 rfl) ?_
  refine lv_iload_n hx hb d_T_compare_7 rfl (lv_at hl 3 rfl) ?_
  refine ts_callTT (rest := []) (g := fun _ => f) ⟨hx, hb, hml, hown, hts⟩ (c_T_sumAt l D cL cA cI cZ o sA w a f q hq8 _) (cwV 1 hts g_T_compare_T_sumAt rfl rfl rfl (by decide +kernel) ⟨Nat.le_of_ble_eq_true rfl, Nat.le_of_ble_eq_true rfl⟩) hK hP hD hS hA hl.1 rfl rfl (Nat.le_of_ble_eq_true rfl) d_T_compare_8 ⟨Nat.zero_le _, Nat.zero_le _⟩ (fun v u H locs hw hP hD hS => ?_)
  obtain rfl := hw
  show W _ _ _ _ _ _ _ _ _ _ _ _ _ _ _ (F0 m 11 ls [.ref (w q)])
  refine lv_astore (lv' := [(4, .ref (w q)), (3, .ref (w r)), (0, .ref o), (1, .int (nI r)), (2, .int (nI q))]) hx hb d_T_compare_11 hl (by decide) rfl (fun ls hl => ?_)
  refine lv_aload_n hx hb d_T_compare_13 rfl (lv_at hl 2 rfl) ?_
  refine va_get (D := D) (ci := 1) (v := .ref (w 9)) (C := R_T) (T := F_T) (N := 4) hx hb hts (by decide +kernel) hown hK hP 0 rfl rfl 2 (by decide) (hts (.fieldLink R_T 20 "TripleSums" "result" "LTripleSums$Whole;") (by decide +kernel)) (fun _ h9 => h9) rfl d_T_compare_14 ?_
  refine lv_aload_n hx hb d_T_compare_17 rfl (lv_at hl 1 rfl) ?_
  refine ts_callT2 (rest := []) (g := fun u => u) 9 r (by decide) (by omega) (by omega) ⟨hx, hb, hml, hown, hts⟩ (c_W_copyFrom l D cL cA cI cZ (w 9) (a 9) (w r) (a r) (f 9) (f r) _) (cwV 1 hts g_T_compare_W_copyFrom rfl rfl rfl (by decide +kernel) ⟨Nat.le_of_ble_eq_true rfl, Nat.le_of_ble_eq_true rfl⟩) hK hP hD hS hA hl.1 rfl rfl (Nat.le_of_ble_eq_true rfl) d_T_compare_18 ⟨Nat.zero_le _, Nat.zero_le _⟩ (fun v u1 H locs hw hP hD hS => ?_)
  obtain ⟨f1, hf1⟩ : ∃ f1 : Nat → Nat → Int64, f1 = va_up f 9 u1 := ⟨_, rfl⟩
  have hP : va_P D vwCl (ts_w cL cA o sA w a f1) H := by rw [hf1]; exact hP
  have hD : va_D A (ts_w cL cA o sA w a f1) := by rw [hf1]; exact hD
  have f1r : f1 9 = u1 := by rw [hf1, va_up_self]
  have f1o : ∀ i, i ≠ 9 → f1 i = f i := fun i hi => by rw [hf1, va_up_ne _ _ hi]
  obtain ⟨rfl, hw⟩ := hw
  show W _ _ _ _ _ _ _ _ _ _ _ _ _ _ _ (F0 m 21 ls [])
  have h9 : ts_R (f1 9) x := by rw [f1r]; exact hR.self hw
  have hq : ts_R (f1 q) y := by rw [f1o q (by omega)]; exact hQ
  refine lv_aload_n hx hb d_T_compare_21 rfl (lv_at hl 2 rfl) ?_
  refine va_get (D := D) (ci := 1) (v := .ref (w 9)) (C := R_T) (T := F_T) (N := 4) hx hb hts (by decide +kernel) hown hK hP 0 rfl rfl 2 (by decide) (hts (.fieldLink R_T 20 "TripleSums" "result" "LTripleSums$Whole;") (by decide +kernel)) (fun _ h9 => h9) rfl d_T_compare_22 ?_
  refine lv_aload hx hb d_T_compare_25 (lv_at hl 0 rfl) ?_
  refine lv_iconst (v := (-1)) hx hb d_T_compare_27 (by decide) ?_
  refine ts_callT2 (rest := []) (g := fun u => u) 9 q (by decide) (by omega) (by omega) ⟨hx, hb, hml, hown, hts⟩ (c_W_increase l D cL cA cI cZ (w 9) (a 9) (w q) (a q) (f1 9) (f1 q) (-1) (by decide +kernel) h9.1 hq.1 _) (cwV 2 hts g_T_compare_W_increase rfl rfl rfl (by decide +kernel) ⟨Nat.le_of_ble_eq_true rfl, Nat.le_of_ble_eq_true rfl⟩) hK hP hD hS hA hl.1 rfl rfl (Nat.le_of_ble_eq_true rfl) d_T_compare_28 ⟨Nat.zero_le _, Nat.zero_le _⟩ (fun v u2 H locs hw hP hD hS => ?_)
  obtain ⟨f2, hf2⟩ : ∃ f2 : Nat → Nat → Int64, f2 = va_up f1 9 u2 := ⟨_, rfl⟩
  have hP : va_P D vwCl (ts_w cL cA o sA w a f2) H := by rw [hf2]; exact hP
  have hD : va_D A (ts_w cL cA o sA w a f2) := by rw [hf2]; exact hD
  have f2r : f2 9 = u2 := by rw [hf2, va_up_self]
  have f2o : ∀ i, i ≠ 9 → f2 i = f1 i := fun i hi => by rw [hf2, va_up_ne _ _ hi]
  obtain ⟨rfl, hw1, hw2⟩ := hw
  show W _ _ _ _ _ _ _ _ _ _ _ _ _ _ _ (F0 m 31 ls [])
  have h9 : ts_R (f2 9) (x + -1 * y) := ts_R.sum h9 hq (by rw [f2r]; exact hw1) (by rw [f2r]; exact hw2) hb1 hb2
  refine lv_aload_n hx hb d_T_compare_31 rfl (lv_at hl 2 rfl) ?_
  refine va_get (D := D) (ci := 1) (v := .ref (w 9)) (C := R_T) (T := F_T) (N := 4) hx hb hts (by decide +kernel) hown hK hP 0 rfl rfl 2 (by decide) (hts (.fieldLink R_T 20 "TripleSums" "result" "LTripleSums$Whole;") (by decide +kernel)) (fun _ h9 => h9) rfl d_T_compare_32 ?_
  refine ts_callT1 (rest := []) (g := fun _ => f2 9) 9 (by decide) ⟨hx, hb, hml, hown, hts⟩ (c_W_signum l D cL cA cI cZ (w 9) (a 9) (f2 9) (x + -1 * y) h9 _) (cwV 0 hts g_T_compare_W_signum rfl rfl rfl (by decide +kernel) ⟨Nat.le_of_ble_eq_true rfl, Nat.le_of_ble_eq_true rfl⟩) hK hP hD hS hA hl.1 rfl rfl (Nat.le_of_ble_eq_true rfl) d_T_compare_35 ⟨Nat.zero_le _, Nat.zero_le _⟩ (fun v _u H locs hw hP hD hS => ?_)
  have hP : va_P D vwCl (ts_w cL cA o sA w a f2) H := by rw [ts_up_id] at hP; exact hP
  have hD : va_D A (ts_w cL cA o sA w a f2) := by rw [ts_up_id] at hD; exact hD
  obtain rfl := hw
  show W _ _ _ _ _ _ _ _ _ _ _ _ _ _ _ (F0 m 38 ls [.int (ts_sg (x + -1 * y))])
  exact W.iret (v := (ts_sg (x + -1 * y))) hx hb hr (fun t ht hW => ts_ret (u := f2) hP hD hK hS ⟨rfl, fun i hi => by rw [f2o i hi, f1o i hi]⟩ ht hW) hS.2.2 d_T_compare_38

set_option maxHeartbeats 4000000 in
set_option maxRecDepth 100000 in
theorem c_T_compareSizes (l : Launch) (D : va_G) (cL cA cI cZ : ClassId) (o sA : Nat) (w a : Nat → Nat) (f : Nat → Nat → Int64) (r q : Nat) (x y : Int) (hr8 : r < 8) (hq8 : q < 8) (hR : ts_R (f r) x) (hQ : ts_R (f q) y) (hxb : x.natAbs < ts_K) (hyb : y.natAbs < ts_K) (sz : Nat) : Met l y_T_compareSizes w_T_compareSizes (ts_rm 7) (va_Pc [.ref o, .int (nI r), .int (nI q)] (ts_A D vwCl (ts_ty cL cA cI cZ) (ts_w cL cA o sA w a f) sz)) (ts_Q (fun (v : Option Value) (u : Nat → Nat → Int64) => v = some (.int (ts_sg ((x.natAbs : Int) - (y.natAbs : Int)))) ∧ ∀ i, i ≠ 10 → u i = f i) (fun u => ts_B D vwCl (ts_ty cL cA cI cZ) (va_A (ts_w cL cA o sA w a f) sz) (ts_w cL cA o sA w a u)) (va_A (ts_w cL cA o sA w a f) sz)) 0 0 (va_A (ts_w cL cA o sA w a f) sz) := by
  refine ts_met (cc := b_T_compareSizes) (maxL := 6) (ret := (some .int)) (by decide) rfl (Nat.le_of_ble_eq_true rfl) ?_
  intro p e s m below meth c hx hb hr hml hown hts hlocks hname A hA hAe hK hP hD hS hsz ls hl
  have hown : s.vm.findClass R_T = some m.cls := hown
  have hl : lv_has ls 6 [(0, .ref o), (1, .int (nI r)), (2, .int (nI q))] := hl
  have hP : va_P D vwCl (ts_w cL cA o sA w a f) s.heap := hP
  have hD : va_D A (ts_w cL cA o sA w a f) := hD
  refine lv_aload_n hx hb d_T_compareSizes_0 rfl (lv_at hl 0 rfl) ?_
  refine lv_iload_n hx hb d_T_compareSizes_1 rfl (lv_at hl 1 rfl) ?_
  refine ts_callTT (rest := []) (g := fun _ => f) ⟨hx, hb, hml, hown, hts⟩ (c_T_sumAt l D cL cA cI cZ o sA w a f r hr8 _) (cwV 1 hts g_T_compareSizes_T_sumAt rfl rfl rfl (by decide +kernel) ⟨Nat.le_of_ble_eq_true rfl, Nat.le_of_ble_eq_true rfl⟩) hK hP hD hS hA hl.1 rfl rfl (Nat.le_of_ble_eq_true rfl) d_T_compareSizes_2 ⟨Nat.zero_le _, Nat.zero_le _⟩ (fun v u H locs hw hP hD hS => ?_)
  obtain rfl := hw
  show W _ _ _ _ _ _ _ _ _ _ _ _ _ _ _ (F0 m 5 ls [.ref (w r)])
  refine lv_astore_n (lv' := [(3, .ref (w r)), (0, .ref o), (1, .int (nI r)), (2, .int (nI q))]) hx hb d_T_compareSizes_5 rfl hl (by decide) rfl (fun ls hl => ?_)
  refine lv_aload_n hx hb d_T_compareSizes_6 rfl (lv_at hl 1 rfl) ?_
  refine lv_iload_n hx hb d_T_compareSizes_7 rfl (lv_at hl 3 rfl) ?_
  refine ts_callTT (rest := []) (g := fun _ => f) ⟨hx, hb, hml, hown, hts⟩ (c_T_sumAt l D cL cA cI cZ o sA w a f q hq8 _) (cwV 1 hts g_T_compareSizes_T_sumAt rfl rfl rfl (by decide +kernel) ⟨Nat.le_of_ble_eq_true rfl, Nat.le_of_ble_eq_true rfl⟩) hK hP hD hS hA hl.1 rfl rfl (Nat.le_of_ble_eq_true rfl) d_T_compareSizes_8 ⟨Nat.zero_le _, Nat.zero_le _⟩ (fun v u H locs hw hP hD hS => ?_)
  obtain rfl := hw
  show W _ _ _ _ _ _ _ _ _ _ _ _ _ _ _ (F0 m 11 ls [.ref (w q)])
  refine lv_astore (lv' := [(4, .ref (w q)), (3, .ref (w r)), (0, .ref o), (1, .int (nI r)), (2, .int (nI q))]) hx hb d_T_compareSizes_11 hl (by decide) rfl (fun ls hl => ?_)
  refine lv_aload_n hx hb d_T_compareSizes_13 rfl (lv_at hl 2 rfl) ?_
  refine lv_aload_n hx hb d_T_compareSizes_14 rfl (lv_at hl 1 rfl) ?_
  refine ts_callTT (rest := []) (g := fun u => u) ⟨hx, hb, hml, hown, hts⟩ (c_T_sizeOf l D cL cA cI cZ o sA w a f r x (by omega) hR hxb _) (cwV 1 hts g_T_compareSizes_T_sizeOf rfl rfl rfl (by decide +kernel) ⟨Nat.le_of_ble_eq_true rfl, Nat.le_of_ble_eq_true rfl⟩) hK hP hD hS hA hl.1 rfl rfl (Nat.le_of_ble_eq_true rfl) d_T_compareSizes_15 ⟨Nat.zero_le _, Nat.zero_le _⟩ (fun v fa H locs hw hP hD hS => ?_)
  obtain ⟨rfl, hw1, hw2⟩ := hw
  show W _ _ _ _ _ _ _ _ _ _ _ _ _ _ _ (F0 m 18 ls [.ref (w 10)])
  have hq : ts_R (fa q) y := by rw [hw1 q (by omega)]; exact hQ
  refine lv_astore (lv' := [(5, .ref (w 10)), (4, .ref (w q)), (3, .ref (w r)), (0, .ref o), (1, .int (nI r)), (2, .int (nI q))]) hx hb d_T_compareSizes_18 hl (by decide) rfl (fun ls hl => ?_)
  refine lv_aload hx hb d_T_compareSizes_20 (lv_at hl 0 rfl) ?_
  refine lv_aload hx hb d_T_compareSizes_22 (lv_at hl 1 rfl) ?_
  refine lv_aload hx hb d_T_compareSizes_24 (lv_at hl 1 rfl) ?_
  refine ts_callT1 (rest := [.ref (w q), .ref (w 10)]) (g := fun _ => fa q) q (by omega) ⟨hx, hb, hml, hown, hts⟩ (c_W_signum l D cL cA cI cZ (w q) (a q) (fa q) y hq _) (cwV 0 hts g_T_compareSizes_W_signum rfl rfl rfl (by decide +kernel) ⟨Nat.le_of_ble_eq_true rfl, Nat.le_of_ble_eq_true rfl⟩) hK hP hD hS hA hl.1 rfl rfl (Nat.le_of_ble_eq_true rfl) d_T_compareSizes_26 ⟨Nat.zero_le _, Nat.zero_le _⟩ (fun v _u H locs hw hP hD hS => ?_)
  have hP : va_P D vwCl (ts_w cL cA o sA w a fa) H := by rw [ts_up_id] at hP; exact hP
  have hD : va_D A (ts_w cL cA o sA w a fa) := by rw [ts_up_id] at hD; exact hD
  obtain rfl := hw
  show W _ _ _ _ _ _ _ _ _ _ _ _ _ _ _ (F0 m 29 ls [.int (ts_sg y), .ref (w q), .ref (w 10)])
  have hsg := ts_sg_i y
  have hsb := ts_sign_b y
  refine lv_ineg hx hb d_T_compareSizes_29 ?_
  refine lv_topi (fun z1 e_z1 => ?_)
  have hz : Int32.toInt z1 = -y.sign := by rw [e_z1, ts_i_neg (by omega), hsg]
  refine ts_callT2 (rest := []) (g := fun u => u) 10 q (by decide) (by omega) (by omega) ⟨hx, hb, hml, hown, hts⟩ (c_W_increase l D cL cA cI cZ (w 10) (a 10) (w q) (a q) (fa 10) (fa q) z1 (by rw [hz]; omega) hw2.1 hq.1 _) (cwV 2 hts g_T_compareSizes_W_increase rfl rfl rfl (by decide +kernel) ⟨Nat.le_of_ble_eq_true rfl, Nat.le_of_ble_eq_true rfl⟩) hK hP hD hS hA hl.1 rfl rfl (Nat.le_of_ble_eq_true rfl) d_T_compareSizes_30 ⟨Nat.zero_le _, Nat.zero_le _⟩ (fun v u2 H locs hw hP hD hS => ?_)
  obtain ⟨f3, hf3⟩ : ∃ f3 : Nat → Nat → Int64, f3 = va_up fa 10 u2 := ⟨_, rfl⟩
  have hP : va_P D vwCl (ts_w cL cA o sA w a f3) H := by rw [hf3]; exact hP
  have hD : va_D A (ts_w cL cA o sA w a f3) := by rw [hf3]; exact hD
  have f3r : f3 10 = u2 := by rw [hf3, va_up_self]
  have f3o : ∀ i, i ≠ 10 → f3 i = fa i := fun i hi => by rw [hf3, va_up_ne _ _ hi]
  obtain ⟨rfl, hw3, hw4⟩ := hw
  show W _ _ _ _ _ _ _ _ _ _ _ _ _ _ _ (F0 m 33 ls [])
  have h9 : ts_R (f3 10) ((x.natAbs : Int) - (y.natAbs : Int)) := by
    rw [hz] at hw4
    have q1 := ts_sg_abs y
    have q2 := hR.2.2
    have q3 := hQ.2.2
    have q0 : (x.natAbs : Int) + -y.sign * y = (x.natAbs : Int) - (y.natAbs : Int) := by rw [Int.neg_mul, q1]; omega
    have q4 := ts_R.sum hw2 hq (f' := f3 10) (t := -y.sign) (by rw [f3r]; exact hw3) (by rw [f3r]; exact hw4) (by rw [q0]; omega) (by rw [q0]; omega)
    rw [q0] at q4; exact q4
  refine lv_aload hx hb d_T_compareSizes_33 (lv_at hl 0 rfl) ?_
  refine ts_callT1 (rest := []) (g := fun _ => f3 10) 10 (by decide) ⟨hx, hb, hml, hown, hts⟩ (c_W_signum l D cL cA cI cZ (w 10) (a 10) (f3 10) ((x.natAbs : Int) - (y.natAbs : Int)) h9 _) (cwV 0 hts g_T_compareSizes_W_signum rfl rfl rfl (by decide +kernel) ⟨Nat.le_of_ble_eq_true rfl, Nat.le_of_ble_eq_true rfl⟩) hK hP hD hS hA hl.1 rfl rfl (Nat.le_of_ble_eq_true rfl) d_T_compareSizes_35 ⟨Nat.zero_le _, Nat.zero_le _⟩ (fun v _u H locs hw hP hD hS => ?_)
  have hP : va_P D vwCl (ts_w cL cA o sA w a f3) H := by rw [ts_up_id] at hP; exact hP
  have hD : va_D A (ts_w cL cA o sA w a f3) := by rw [ts_up_id] at hD; exact hD
  obtain rfl := hw
  show W _ _ _ _ _ _ _ _ _ _ _ _ _ _ _ (F0 m 38 ls [.int (ts_sg ((x.natAbs : Int) - (y.natAbs : Int)))])
  exact W.iret (v := (ts_sg ((x.natAbs : Int) - (y.natAbs : Int)))) hx hb hr (fun t ht hW => ts_ret (u := f3) hP hD hK hS ⟨rfl, fun i hi => by rw [f3o i hi, hw1 i hi]⟩ ht hW) hS.2.2 d_T_compareSizes_38

