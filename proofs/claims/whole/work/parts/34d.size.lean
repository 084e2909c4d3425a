set_option maxHeartbeats 4000000 in
set_option maxRecDepth 100000 in
theorem c_T_sumAt (l : Launch) (D : va_G) (cL cA cI cZ : ClassId) (o sA : Nat) (w a : Nat → Nat) (f : Nat → Nat → Int64) (r : Nat) (hr8 : r < 8) (sz : Nat) : Met l y_T_sumAt w_T_sumAt (ts_rm 1) (va_Pc [.ref o, .int (nI r)] (ts_A D vwCl (ts_ty cL cA cI cZ) (ts_w cL cA o sA w a f) sz)) (ts_Q (fun (v : Option Value) (u : Unit) => v = some (.ref (w r))) (fun u => ts_B D vwCl (ts_ty cL cA cI cZ) (va_A (ts_w cL cA o sA w a f) sz) (ts_w cL cA o sA w a f)) (va_A (ts_w cL cA o sA w a f) sz)) 0 0 (va_A (ts_w cL cA o sA w a f) sz) := by
  refine ts_met (cc := b_T_sumAt) (maxL := 2) (ret := (some (.object "TripleSums$Whole"))) (by decide) rfl (Nat.le_of_ble_eq_true rfl) ?_
  intro p e s m below meth c hx hb hr hml hown hts hlocks hname A hA hAe hK hP hD hS hsz ls hl
  have hown : s.vm.findClass R_T = some m.cls := hown
  have hl : lv_has ls 2 [(0, .ref o), (1, .int (nI r))] := hl
  have hP : va_P D vwCl (ts_w cL cA o sA w a f) s.heap := hP
  have hD : va_D A (ts_w cL cA o sA w a f) := hD
  refine lv_iload_n hx hb d_T_sumAt_0 rfl (lv_at hl 1 rfl) ?_
  refine lv_if_lt (tgt := 10) hx hb d_T_sumAt_1 (by decide) (fun c1 => ?_) (fun c1 => ?_)
  · exact absurd c1 (nI_pos (by omega))
  · refine lv_iload_n hx hb d_T_sumAt_4 rfl (lv_at hl 1 rfl) ?_
    refine lv_bipush (v := 8) hx hb d_T_sumAt_5 (by decide) ?_
    refine lv_icmp_lt (tgt := 20) hx hb d_T_sumAt_7 (by decide) (fun c2 => ?_) (fun c2 => ?_)
    · refine lv_aload_n hx hb d_T_sumAt_20 rfl (lv_at hl 0 rfl) ?_
      refine va_get (D := D) (ci := 1) (v := .ref sA) (C := R_T) (T := F_T) (N := 4) hx hb hts (by decide +kernel) hown hK hP 0 rfl rfl 0 (by decide) (hts (.fieldLink R_T 11 "TripleSums" "sums" "[LTripleSums$Whole;") (by decide +kernel)) (fun _ h9 => h9) rfl d_T_sumAt_21 ?_
      refine lv_iload_n hx hb d_T_sumAt_24 rfl (lv_at hl 1 rfl) ?_
      refine va_aldq (D := D) hx hb hK hP 1 1 rfl rfl (vp_in_nI hr8 (by decide)) d_T_sumAt_25 ?_
      rw [nI_clamp (n := r) (by omega)]
      show W _ _ _ _ _ _ _ _ _ _ _ _ _ _ _ (F0 m 26 ls [.ref (w r)])
      exact W.aret (v := (.ref (w r))) hx hb hr (Or.inl ⟨_, rfl⟩) (Or.inr ⟨_, rfl⟩) (fun t ht hW => ts_ret (u := ()) hP hD hK hS rfl ht hW) hS.2.2 d_T_sumAt_26
    · exact absurd (nI_lt (b := 8) hr8 (by decide)) c2

set_option maxHeartbeats 4000000 in
set_option maxRecDepth 100000 in
theorem c_T_sizeOf (l : Launch) (D : va_G) (cL cA cI cZ : ClassId) (o sA : Nat) (w a : Nat → Nat) (f : Nat → Nat → Int64) (r : Nat) (x : Int) (hr10 : r < 10) (hR : ts_R (f r) x) (hxb : x.natAbs < ts_K) (sz : Nat) : Met l y_T_sizeOf w_T_sizeOf (ts_rm 5) (va_Pc [.ref o, .ref (w r)] (ts_A D vwCl (ts_ty cL cA cI cZ) (ts_w cL cA o sA w a f) sz)) (ts_Q (fun (v : Option Value) (u : Nat → Nat → Int64) => v = some (.ref (w 10)) ∧ (∀ i, i ≠ 10 → u i = f i) ∧ ts_R (u 10) (x.natAbs : Int)) (fun u => ts_B D vwCl (ts_ty cL cA cI cZ) (va_A (ts_w cL cA o sA w a f) sz) (ts_w cL cA o sA w a u)) (va_A (ts_w cL cA o sA w a f) sz)) 0 0 (va_A (ts_w cL cA o sA w a f) sz) := by
  refine ts_met (cc := b_T_sizeOf) (maxL := 2) (ret := (some (.object "TripleSums$Whole"))) (by decide) rfl (Nat.le_of_ble_eq_true rfl) ?_
  intro p e s m below meth c hx hb hr hml hown hts hlocks hname A hA hAe hK hP hD hS hsz ls hl
  have hown : s.vm.findClass R_T = some m.cls := hown
  have hl : lv_has ls 2 [(0, .ref o), (1, .ref (w r))] := hl
  have hP : va_P D vwCl (ts_w cL cA o sA w a f) s.heap := hP
  have hD : va_D A (ts_w cL cA o sA w a f) := hD
  refine lv_aload_n hx hb d_T_sizeOf_0 rfl (lv_at hl 0 rfl) ?_
  refine va_get (D := D) (ci := 1) (v := .ref (w 10)) (C := R_T) (T := F_T) (N := 4) hx hb hts (by decide +kernel) hown hK hP 0 rfl rfl 3 (by decide) (hts (.fieldLink R_T 23 "TripleSums" "size" "LTripleSums$Whole;") (by decide +kernel)) (fun _ h9 => h9) rfl d_T_sizeOf_1 ?_
  refine ts_callT1 (rest := []) (g := fun u => u) 10 (by decide) ⟨hx, hb, hml, hown, hts⟩ (c_W_setZero l D cL cA cI cZ (w 10) (a 10) (f 10) _) (cwV 0 hts g_T_sizeOf_W_setZero rfl rfl rfl (by decide +kernel) ⟨Nat.le_of_ble_eq_true rfl, Nat.le_of_ble_eq_true rfl⟩) hK hP hD hS hA hl.1 rfl rfl (Nat.le_of_ble_eq_true rfl) d_T_sizeOf_4 ⟨Nat.zero_le _, Nat.zero_le _⟩ (fun v u1 H locs hw hP hD hS => ?_)
  obtain ⟨f1, hf1⟩ : ∃ f1 : Nat → Nat → Int64, f1 = va_up f 10 u1 := ⟨_, rfl⟩
  have hP : va_P D vwCl (ts_w cL cA o sA w a f1) H := by rw [hf1]; exact hP
  have hD : va_D A (ts_w cL cA o sA w a f1) := by rw [hf1]; exact hD
  have f1r : f1 10 = u1 := by rw [hf1, va_up_self]
  have f1o : ∀ i, i ≠ 10 → f1 i = f i := fun i hi => by rw [hf1, va_up_ne _ _ hi]
  obtain ⟨rfl, hw⟩ := hw
  show W _ _ _ _ _ _ _ _ _ _ _ _ _ _ _ (F0 m 7 ls [])
  have hz : ts_R (f1 10) 0 := ts_R.zero (by rw [f1r]; exact hw)
  have hRr : ts_R (f1 r) x := by rw [f1o r (by omega)]; exact hR
  refine lv_aload_n hx hb d_T_sizeOf_7 rfl (lv_at hl 0 rfl) ?_
  refine va_get (D := D) (ci := 1) (v := .ref (w 10)) (C := R_T) (T := F_T) (N := 4) hx hb hts (by decide +kernel) hown hK hP 0 rfl rfl 3 (by decide) (hts (.fieldLink R_T 23 "TripleSums" "size" "LTripleSums$Whole;") (by decide +kernel)) (fun _ h9 => h9) rfl d_T_sizeOf_8 ?_
  refine lv_aload_n hx hb d_T_sizeOf_11 rfl (lv_at hl 1 rfl) ?_
  refine lv_aload_n hx hb d_T_sizeOf_12 rfl (lv_at hl 1 rfl) ?_
  refine ts_callT1 (rest := [.ref (w r), .ref (w 10)]) (g := fun _ => f1 r) r (by omega) ⟨hx, hb, hml, hown, hts⟩ (c_W_signum l D cL cA cI cZ (w r) (a r) (f1 r) x hRr _) (cwV 0 hts g_T_sizeOf_W_signum rfl rfl rfl (by decide +kernel) ⟨Nat.le_of_ble_eq_true rfl, Nat.le_of_ble_eq_true rfl⟩) hK hP hD hS hA hl.1 rfl rfl (Nat.le_of_ble_eq_true rfl) d_T_sizeOf_13 ⟨Nat.zero_le _, Nat.zero_le _⟩ (fun v _u H locs hw hP hD hS => ?_)
  have hP : va_P D vwCl (ts_w cL cA o sA w a f1) H := by rw [ts_up_id] at hP; exact hP
  have hD : va_D A (ts_w cL cA o sA w a f1) := by rw [ts_up_id] at hD; exact hD
  obtain rfl := hw
  show W _ _ _ _ _ _ _ _ _ _ _ _ _ _ _ (F0 m 16 ls [.int (ts_sg x), .ref (w r), .ref (w 10)])
  have hsg := ts_sg_i x
  have hsb := ts_sign_b x
  refine ts_callT2 (rest := []) (g := fun u => u) 10 r (by decide) (by omega) (by omega) ⟨hx, hb, hml, hown, hts⟩ (c_W_increase l D cL cA cI cZ (w 10) (a 10) (w r) (a r) (f1 10) (f1 r) (ts_sg x) (by rw [hsg]; omega) hz.1 hRr.1 _) (cwV 2 hts g_T_sizeOf_W_increase rfl rfl rfl (by decide +kernel) ⟨Nat.le_of_ble_eq_true rfl, Nat.le_of_ble_eq_true rfl⟩) hK hP hD hS hA hl.1 rfl rfl (Nat.le_of_ble_eq_true rfl) d_T_sizeOf_16 ⟨Nat.zero_le _, Nat.zero_le _⟩ (fun v u2 H locs hw hP hD hS => ?_)
  obtain ⟨f2, hf2⟩ : ∃ f2 : Nat → Nat → Int64, f2 = va_up f1 10 u2 := ⟨_, rfl⟩
  have hP : va_P D vwCl (ts_w cL cA o sA w a f2) H := by rw [hf2]; exact hP
  have hD : va_D A (ts_w cL cA o sA w a f2) := by rw [hf2]; exact hD
  have f2r : f2 10 = u2 := by rw [hf2, va_up_self]
  have f2o : ∀ i, i ≠ 10 → f2 i = f1 i := fun i hi => by rw [hf2, va_up_ne _ _ hi]
  obtain ⟨rfl, hw1, hw2⟩ := hw
  show W _ _ _ _ _ _ _ _ _ _ _ _ _ _ _ (F0 m 19 ls [])
  have hfin : ts_R (f2 10) (x.natAbs : Int) := by
    rw [hsg] at hw2
    have q1 := ts_sg_abs x
    have q2 := hR.2.2
    have q3 := ts_R.sum hz hRr (f' := f2 10) (t := x.sign) (by rw [f2r]; exact hw1) (by rw [f2r]; exact hw2) (by omega) (by omega)
    rw [q1, Int.zero_add] at q3; exact q3
  refine lv_aload_n hx hb d_T_sizeOf_19 rfl (lv_at hl 0 rfl) ?_
  refine va_get (D := D) (ci := 1) (v := .ref (w 10)) (C := R_T) (T := F_T) (N := 4) hx hb hts (by decide +kernel) hown hK hP 0 rfl rfl 3 (by decide) (hts (.fieldLink R_T 23 "TripleSums" "size" "LTripleSums$Whole;") (by decide +kernel)) (fun _ h9 => h9) rfl d_T_sizeOf_20 ?_
  exact W.aret (v := (.ref (w 10))) hx hb hr (Or.inl ⟨_, rfl⟩) (Or.inr ⟨_, rfl⟩) (fun t ht hW => ts_ret (u := f2) hP hD hK hS ⟨rfl, fun i hi => by rw [f2o i hi, f1o i hi], hfin⟩ ht hW) hS.2.2 d_T_sizeOf_23

