theorem ts_hp_ge {n : Nat} {z : Int32} (h : ts_hp n z) (hz : z < (6372 : Int32)) : n < 2 ^ 6372 := by
  rcases h with ⟨h1, -⟩ | ⟨p, h1, h2, h3⟩
  · rw [h1]; exact Nat.pow_pos (by decide)
  · rw [h3] at hz
    have hp : p < 6372 := by
      rcases Nat.lt_or_ge p 6372 with q | q
      · exact q
      · exact absurd hz (nI_nlt (b := 6372) q (by omega))
    exact Nat.lt_of_lt_of_le h1.2 (Nat.pow_le_pow_right (by decide) hp)
set_option maxHeartbeats 4000000 in
set_option maxRecDepth 100000 in
theorem cx_T_plusS (l : Launch) (hl0 : l.stackTraces = false) (D : va_G) (cL cA cI cZ : ClassId) (o sA : Nat) (w a : Nat → Nat) (f : Nat → Nat → Int64) (r q : Nat) (x y : Int) (t : Int32) (hr8 : r < 8) (hq8 : q < 8) (hR : ts_R (f r) x) (hQ : ts_R (f q) y) (ht : -1000000 ≤ t.toInt ∧ t.toInt ≤ 1000000) (hbd : ¬ (x + t.toInt * y).natAbs < 2 ^ 6372) (hbK : (x + t.toInt * y).natAbs < ts_K) (sz : Nat) : vx_Met l y_T_plus wx_T_plusS ({ frames := 7, cells := 1, slots := 6, locals := 260 }) (va_Pc [.ref o, .int (nI r), .int (nI q), .int t] (fun U => ts_A D vwCl (ts_ty cL cA cI cZ) (ts_w cL cA o sA w a f) sz U ∧ ts_KX (va_A (ts_w cL cA o sA w a f) sz) U)) (fun _ _ _ _ => False) (ts_X ts_IS (fun (u : Nat → Nat → Int64) => ∀ i, i ≠ 9 → i ≠ 10 → u i = f i) (fun u => ts_B D vwCl (ts_ty cL cA cI cZ) (va_A (ts_w cL cA o sA w a f) sz) (ts_w cL cA o sA w a u)) (va_A (ts_w cL cA o sA w a f) sz)) 1 6 (va_A (ts_w cL cA o sA w a f) sz) := by
  refine ts_metX (cc := b_T_plus) (maxL := 6) (ret := none) (by decide) rfl (Nat.le_of_ble_eq_true rfl) ?_
  intro p e s m below meth c hx hb hr hml hown hts hlocks hE A hA hAe hKX hK hP hD hS hsz ls hl
  have hown : s.vm.findClass R_T = some m.cls := hown
  have hl : lv_has ls 6 [(0, .ref o), (1, .int (nI r)), (2, .int (nI q)), (3, .int t)] := hl
  have hP : va_P D vwCl (ts_w cL cA o sA w a f) s.heap := hP
  have hD : va_D A (ts_w cL cA o sA w a f) := hD
  refine lv_aload_n hx hb d_T_plus_0 rfl (lv_at hl 0 rfl) ?_
  refine lv_iload_n hx hb d_T_plus_1 rfl (lv_at hl 1 rfl) ?_
  refine ts_callTT (rest := []) (g := fun _ => f) ⟨hx, hb, hml, hown, hts⟩ (c_T_sumAt l D cL cA cI cZ o sA w a f r hr8 _) (cwV 1 hts g_xT_plusS_T_sumAt rfl rfl rfl (by decide +kernel) ⟨Nat.le_of_ble_eq_true rfl, Nat.le_of_ble_eq_true rfl⟩) hK hP hD hS hA hl.1 rfl rfl (Nat.le_of_ble_eq_true rfl) d_T_plus_2 ⟨Nat.zero_le _, Nat.zero_le _⟩ (fun v u H locs hw hP hD hS => ?_)
  obtain rfl := hw
  show W _ _ _ _ _ _ _ _ _ _ _ _ _ _ _ (F0 m 5 ls [.ref (w r)])
  refine lv_astore (lv' := [(4, .ref (w r)), (0, .ref o), (1, .int (nI r)), (2, .int (nI q)), (3, .int t)]) hx hb d_T_plus_5 hl (by decide) rfl (fun ls hl => ?_)
  refine lv_aload_n hx hb d_T_plus_7 rfl (lv_at hl 1 rfl) ?_
  refine lv_iload_n hx hb d_T_plus_8 rfl (lv_at hl 3 rfl) ?_
  refine ts_callTT (rest := []) (g := fun _ => f) ⟨hx, hb, hml, hown, hts⟩ (c_T_sumAt l D cL cA cI cZ o sA w a f q hq8 _) (cwV 1 hts g_xT_plusS_T_sumAt rfl rfl rfl (by decide +kernel) ⟨Nat.le_of_ble_eq_true rfl, Nat.le_of_ble_eq_true rfl⟩) hK hP hD hS hA hl.1 rfl rfl (Nat.le_of_ble_eq_true rfl) d_T_plus_9 ⟨Nat.zero_le _, Nat.zero_le _⟩ (fun v u H locs hw hP hD hS => ?_)
  obtain rfl := hw
  show W _ _ _ _ _ _ _ _ _ _ _ _ _ _ _ (F0 m 12 ls [.ref (w q)])
  refine lv_astore (lv' := [(5, .ref (w q)), (4, .ref (w r)), (0, .ref o), (1, .int (nI r)), (2, .int (nI q)), (3, .int t)]) hx hb d_T_plus_12 hl (by decide) rfl (fun ls hl => ?_)
  refine lv_iload_n hx hb d_T_plus_14 rfl (lv_at hl 5 rfl) ?_
  refine ts_callS (rest := []) ⟨hx, hb, hml, hown, hts⟩ (c_T_refuseUnlessInRange l D cL cA cI cZ t ht _) (va_cwS 1 hts g_xT_plusS_T_refuseUnlessInRange rfl rfl rfl (by decide +kernel) ⟨Nat.le_of_ble_eq_true rfl, Nat.le_of_ble_eq_true rfl⟩) hK hP hD hS hA hl.1 [] (by decide) rfl (fun u => rfl) rfl rfl (Nat.le_of_ble_eq_true rfl) d_T_plus_15 ⟨Nat.zero_le _, Nat.zero_le _⟩ (fun v u H locs hw hP hD hS => ?_)
  have hP : va_P D vwCl (ts_w cL cA o sA w a f) H := hP
  have hD : va_D A (ts_w cL cA o sA w a f) := hD
  obtain rfl := hw
  show W _ _ _ _ _ _ _ _ _ _ _ _ _ _ _ (F0 m 18 ls [])
  refine lv_aload_n hx hb d_T_plus_18 rfl (lv_at hl 2 rfl) ?_
  refine va_get (D := D) (ci := 1) (v := .ref (w 9)) (C := R_T) (T := F_T) (N := 4) hx hb hts (by decide +kernel) hown hK hP 0 rfl rfl 2 (by decide) (hts (.fieldLink R_T 20 "TripleSums" "result" "LTripleSums$Whole;") (by decide +kernel)) (fun _ h9 => h9) rfl d_T_plus_19 ?_
  refine lv_aload hx hb d_T_plus_22 (lv_at hl 1 rfl) ?_
  refine ts_callT2 (rest := []) (g := fun u => u) 9 r (by decide) (by omega) (by omega) ⟨hx, hb, hml, hown, hts⟩ (c_W_copyFrom l D cL cA cI cZ (w 9) (a 9) (w r) (a r) (f 9) (f r) _) (cwV 1 hts g_xT_plusS_W_copyFrom rfl rfl rfl (by decide +kernel) ⟨Nat.le_of_ble_eq_true rfl, Nat.le_of_ble_eq_true rfl⟩) hK hP hD hS hA hl.1 rfl rfl (Nat.le_of_ble_eq_true rfl) d_T_plus_24 ⟨Nat.zero_le _, Nat.zero_le _⟩ (fun v u1 H locs hw hP hD hS => ?_)
  obtain ⟨f1, hf1⟩ : ∃ f1 : Nat → Nat → Int64, f1 = va_up f 9 u1 := ⟨_, rfl⟩
  have hP : va_P D vwCl (ts_w cL cA o sA w a f1) H := by rw [hf1]; exact hP
  have hD : va_D A (ts_w cL cA o sA w a f1) := by rw [hf1]; exact hD
  have f1r : f1 9 = u1 := by rw [hf1, va_up_self]
  have f1o : ∀ i, i ≠ 9 → f1 i = f i := fun i hi => by rw [hf1, va_up_ne _ _ hi]
  obtain ⟨rfl, hw⟩ := hw
  show W _ _ _ _ _ _ _ _ _ _ _ _ _ _ _ (F0 m 27 ls [])
  have h9 : ts_R (f1 9) x := by rw [f1r]; exact hR.self hw
  have hq : ts_R (f1 q) y := by rw [f1o q (by omega)]; exact hQ
  refine lv_aload_n hx hb d_T_plus_27 rfl (lv_at hl 2 rfl) ?_
  refine va_get (D := D) (ci := 1) (v := .ref (w 9)) (C := R_T) (T := F_T) (N := 4) hx hb hts (by decide +kernel) hown hK hP 0 rfl rfl 2 (by decide) (hts (.fieldLink R_T 20 "TripleSums" "result" "LTripleSums$Whole;") (by decide +kernel)) (fun _ h9 => h9) rfl d_T_plus_28 ?_
  refine lv_aload hx hb d_T_plus_31 (lv_at hl 0 rfl) ?_
  refine lv_iload_n hx hb d_T_plus_33 rfl (lv_at hl 5 rfl) ?_
  refine ts_callT2 (rest := []) (g := fun u => u) 9 q (by decide) (by omega) (by omega) ⟨hx, hb, hml, hown, hts⟩ (c_W_increase l D cL cA cI cZ (w 9) (a 9) (w q) (a q) (f1 9) (f1 q) t (by omega) h9.1 hq.1 _) (cwV 2 hts g_xT_plusS_W_increase rfl rfl rfl (by decide +kernel) ⟨Nat.le_of_ble_eq_true rfl, Nat.le_of_ble_eq_true rfl⟩) hK hP hD hS hA hl.1 rfl rfl (Nat.le_of_ble_eq_true rfl) d_T_plus_34 ⟨Nat.zero_le _, Nat.zero_le _⟩ (fun v u2 H locs hw hP hD hS => ?_)
  obtain ⟨f2, hf2⟩ : ∃ f2 : Nat → Nat → Int64, f2 = va_up f1 9 u2 := ⟨_, rfl⟩
  have hP : va_P D vwCl (ts_w cL cA o sA w a f2) H := by rw [hf2]; exact hP
  have hD : va_D A (ts_w cL cA o sA w a f2) := by rw [hf2]; exact hD
  have f2r : f2 9 = u2 := by rw [hf2, va_up_self]
  have f2o : ∀ i, i ≠ 9 → f2 i = f1 i := fun i hi => by rw [hf2, va_up_ne _ _ hi]
  obtain ⟨rfl, hw1, hw2⟩ := hw
  show W _ _ _ _ _ _ _ _ _ _ _ _ _ _ _ (F0 m 37 ls [])
  have h9 : ts_R (f2 9) (x + t.toInt * y) := ts_R.sum h9 hq (by rw [f2r]; exact hw1) (by rw [f2r]; exact hw2) (by omega) (by omega)
  refine lv_aload_n hx hb d_T_plus_37 rfl (lv_at hl 2 rfl) ?_
  refine lv_aload_n hx hb d_T_plus_38 rfl (lv_at hl 2 rfl) ?_
  refine va_get (D := D) (ci := 1) (v := .ref (w 9)) (C := R_T) (T := F_T) (N := 4) hx hb hts (by decide +kernel) hown hK hP 0 rfl rfl 2 (by decide) (hts (.fieldLink R_T 20 "TripleSums" "result" "LTripleSums$Whole;") (by decide +kernel)) (fun _ h9 => h9) rfl d_T_plus_39 ?_
  refine ts_callTT (rest := []) (g := fun u => u) ⟨hx, hb, hml, hown, hts⟩ (c_T_sizeOf l D cL cA cI cZ o sA w a f2 9 (x + t.toInt * y) (by decide) h9 (by omega) _) (cwV 1 hts g_xT_plusS_T_sizeOf rfl rfl rfl (by decide +kernel) ⟨Nat.le_of_ble_eq_true rfl, Nat.le_of_ble_eq_true rfl⟩) hK hP hD hS hA hl.1 rfl rfl (Nat.le_of_ble_eq_true rfl) d_T_plus_42 ⟨Nat.zero_le _, Nat.zero_le _⟩ (fun v fa H locs hw hP hD hS => ?_)
  obtain ⟨rfl, g1, g2⟩ := hw
  show W _ _ _ _ _ _ _ _ _ _ _ _ _ _ _ (F0 m 45 ls [.ref (w 10)])
  have hn := g2.nat
  refine ts_callT1 (rest := []) (g := fun _ => fa 10) 10 (by decide) ⟨hx, hb, hml, hown, hts⟩ (c_W_highestPlace l D cL cA cI cZ (w 10) (a 10) (fa 10) g2.1 _) (cwV 0 hts g_xT_plusS_W_highestPlace rfl rfl rfl (by decide +kernel) ⟨Nat.le_of_ble_eq_true rfl, Nat.le_of_ble_eq_true rfl⟩) hK hP hD hS hA hl.1 rfl rfl (Nat.le_of_ble_eq_true rfl) d_T_plus_45 ⟨Nat.zero_le _, Nat.zero_le _⟩ (fun v _u H locs hw hP hD hS => ?_)
  have hP : va_P D vwCl (ts_w cL cA o sA w a fa) H := by rw [ts_up_id] at hP; exact hP
  have hD : va_D A (ts_w cL cA o sA w a fa) := by rw [ts_up_id] at hD; exact hD
  obtain ⟨zz, rfl, hzz⟩ := hw
  show W _ _ _ _ _ _ _ _ _ _ _ _ _ _ _ (F0 m 48 ls [.int zz])
  rw [hn] at hzz
  refine lv_sipush (v := 6372) hx hb d_T_plus_48 (by decide) ?_
  refine lv_icmp_lt (tgt := 64) hx hb d_T_plus_51 (by decide) (fun c1 => ?_) (fun c1 => ?_)
  · exact absurd (ts_hp_ge hzz c1) hbd
  · obtain ⟨sa, hsa⟩ := hKX.2.1.2.2.2
    exact vx_throwS (own := R_T) (cls := ts_IS) (text := "the sum's size would be 2^3150 or more") (names := ts_RE) (ik := 71) (is := 73) (ic := 75) (A := A) hx hb hl0 hown (by decide +kernel) (by decide +kernel) (hts (.classLink R_T 71 ts_IS) (by decide +kernel)) (hts (.initialized ts_IS) (by decide +kernel)) hsa (ts_hatIS (fun w hw => hts w ((fun _ h => List.mem_cons_of_mem _ (List.mem_append_right _ h)) w hw)) hKX.2) (by decide +kernel) hKX.1.1 hKX.1.2 hS (hl.1.trans hml.symm) d_T_plus_54 d_T_plus_57 d_T_plus_58 d_T_plus_60 d_T_plus_63 (fun x hx => (hE x hx).elim) (by decide) (Nat.le_of_ble_eq_true rfl) (Nat.le_of_ble_eq_true rfl) (Nat.le_of_ble_eq_true rfl) hlocks (ts_thrown (u := fa) hK hP hD hS (fun i h1 h2 => by rw [g1 i h2, f2o i h1, f1o i h1])) hS.2.2 (Nat.le_of_ble_eq_true rfl) (Nat.le_of_ble_eq_true rfl)

