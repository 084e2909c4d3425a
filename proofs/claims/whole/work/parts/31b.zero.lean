set_option maxHeartbeats 4000000 in
set_option maxRecDepth 100000 in
theorem c_A_fill (l : Launch) (D : va_G) (cL cA cI cZ : ClassId) (a : Nat) (f : Nat → Int64) (x : Int64) (sz : Nat) : Met l y_A_fill w_A_fill (ts_rm 1) (va_Pc [.ref a, .long x] (ts_A D vwCl (ts_ty cL cA cI cZ) [(a, .inl (cL, 200, .inr (.inl f)))] sz)) (ts_Q (fun (v : Option Value) (u : Nat → Int64) => v = none ∧ ∀ k, k < 200 → u k = x) (fun u => ts_B D vwCl (ts_ty cL cA cI cZ) (va_A [(a, .inl (cL, 200, .inr (.inl f)))] sz) ([(a, .inl (cL, 200, .inr (.inl u)))])) (va_A [(a, .inl (cL, 200, .inr (.inl f)))] sz)) 0 0 (va_A [(a, .inl (cL, 200, .inr (.inl f)))] sz) := by
  refine ts_met (cc := b_A_fill) (maxL := 5) (ret := none) (by decide) rfl (Nat.le_of_ble_eq_true rfl) ?_
  intro p e s m below meth c hx hb hr hml hown hts hlocks hname A hA hAe hK hP hD hS hsz ls hl
  have hown : s.vm.findClass R_A = some m.cls := hown
  have hl : lv_has ls 5 [(0, .ref a), (1, .long x)] := hl
  have hP : va_P D vwCl [(a, .inl (cL, 200, .inr (.inl f)))] s.heap := hP
  have hD : va_D A [(a, .inl (cL, 200, .inr (.inl f)))] := hD
  refine lv_iconst (v := (nI 0)) hx hb d_A_fill_0 (by decide) ?_
  refine lv_istore_n (lv' := [(3, .int (nI 0)), (0, .ref a), (1, .long x)]) hx hb d_A_fill_1 rfl hl (by decide) rfl (fun ls hl => ?_)
  refine lv_aload_n hx hb d_A_fill_2 rfl (lv_at hl 1 rfl) ?_
  refine va_alen (D := D) (v := (nI 200)) hx hb hK hP 0 0 rfl rfl rfl d_A_fill_3 ?_
  refine lv_istore (lv' := [(4, .int (nI 200)), (3, .int (nI 0)), (0, .ref a), (1, .long x)]) hx hb d_A_fill_4 hl (by decide) rfl (fun ls hl => ?_)
  refine ts_lp (H0 := s.heap) (D := D) (cl := vwCl) (A := A) (nL := 5) 200 (fun (i : Nat) (q : Nat → Int64) => ∀ j, j < i → q j = x) (fun (i : Nat) (q : Nat → Int64) => [(a, .inl (cL, 200, .inr (.inl q)))]) (fun (i : Nat) (q : Nat → Int64) => [(3, .int (nI i)), (4, .int (nI 200)), (0, .ref a), (1, .long x)]) 0 f ?_ ?_ (by omega) (fun j hj => absurd hj (Nat.not_lt_zero j)) hP hD hS (lv_sub hl [1, 0, 2, 3] rfl)
  · intro i u hi hI ih H locs hP hD hS ls hl
    have hl : lv_has ls 5 [(3, .int (nI i)), (4, .int (nI 200)), (0, .ref a), (1, .long x)] := hl
    have hP : va_P D vwCl [(a, .inl (cL, 200, .inr (.inl u)))] H := hP
    have hD : va_D A [(a, .inl (cL, 200, .inr (.inl u)))] := hD
    refine lv_iload_n hx hb d_A_fill_6 rfl (lv_at hl 0 rfl) ?_
    refine lv_iload hx hb d_A_fill_7 (lv_at hl 1 rfl) ?_
    refine lv_icmp_ge (tgt := 22) hx hb d_A_fill_9 (by decide) (fun c1 => ?_) (fun c1 => ?_)
    · exact absurd c1 (nI_ge hi (by decide))
    · refine lv_aload_n hx hb d_A_fill_12 rfl (lv_at hl 2 rfl) ?_
      refine lv_iload_n hx hb d_A_fill_13 rfl (lv_at hl 0 rfl) ?_
      refine lv_lload_n hx hb d_A_fill_14 rfl (lv_at hl 3 rfl) ?_
      refine va_last (D := D) hx hb hK hP hD hS 0 0 rfl rfl (vp_in_nI hi (by decide)) d_A_fill_15 (fun H locs hP hD hS => ?_)
      have hP : va_P D vwCl [(a, .inl (cL, 200, .inr (.inl (vp_updL u (Int32.toNatClampNeg (nI i)) x))))] H := hP
      have hD : va_D A [(a, .inl (cL, 200, .inr (.inl (vp_updL u (Int32.toNatClampNeg (nI i)) x))))] := hD
      rw [nI_clamp (n := i) (by omega)] at hP hD
      have hP : va_P D vwCl [(a, .inl (cL, 200, .inr (.inl (vp_updL u i x))))] H := hP
      have hD : va_D A [(a, .inl (cL, 200, .inr (.inl (vp_updL u i x))))] := hD
      refine lv_iinc (v := (nI (i + 1))) (lv' := [(3, .int (nI (i + 1))), (4, .int (nI 200)), (0, .ref a), (1, .long x)]) hx hb d_A_fill_16 hl (k := 0) rfl (nI_1 _) (by decide) rfl (fun ls hl => ?_)
      refine lv_goto (tgt := 6) hx hb d_A_fill_19 (by decide) ?_
      refine ih (vp_updL u i x) (fun j hj => ?_) _ _ hP hD hS ls (lv_sub hl [0, 1, 2, 3] rfl)
      by_cases e : j = i
      · rw [e, pk_uLs]
      · rw [pk_uLn e]; exact hI j (by omega)
  · intro u hI H locs hP hD hS ls hl
    have hl : lv_has ls 5 [(3, .int (nI 200)), (4, .int (nI 200)), (0, .ref a), (1, .long x)] := hl
    have hP : va_P D vwCl [(a, .inl (cL, 200, .inr (.inl u)))] H := hP
    have hD : va_D A [(a, .inl (cL, 200, .inr (.inl u)))] := hD
    refine lv_iload_n hx hb d_A_fill_6 rfl (lv_at hl 0 rfl) ?_
    refine lv_iload hx hb d_A_fill_7 (lv_at hl 1 rfl) ?_
    refine lv_icmp_ge (tgt := 22) hx hb d_A_fill_9 (by decide) (fun c2 => ?_) (fun c2 => ?_)
    · exact W.vret hx hb hr (fun t ht hW => ts_ret (u := u) hP hD hK hS ⟨rfl, hI⟩ ht hW) hS.2.2 d_A_fill_22
    · exact absurd (nI_le (Nat.le_refl 200) (by decide)) c2

set_option maxHeartbeats 4000000 in
set_option maxRecDepth 100000 in
theorem c_W_setZero (l : Launch) (D : va_G) (cL cA cI cZ : ClassId) (w a : Nat) (f : Nat → Int64) (sz : Nat) : Met l y_W_setZero w_W_setZero (ts_rm 2) (va_Pc [.ref w] (ts_A D vwCl (ts_ty cL cA cI cZ) [(w, .inr (0, [.ref a])), (a, .inl (cL, 200, .inr (.inl f)))] sz)) (ts_Q (fun (v : Option Value) (u : Nat → Int64) => v = none ∧ ∀ k, k < 200 → u k = 0) (fun u => ts_B D vwCl (ts_ty cL cA cI cZ) (va_A [(w, .inr (0, [.ref a])), (a, .inl (cL, 200, .inr (.inl f)))] sz) ([(w, .inr (0, [.ref a])), (a, .inl (cL, 200, .inr (.inl u)))])) (va_A [(w, .inr (0, [.ref a])), (a, .inl (cL, 200, .inr (.inl f)))] sz)) 0 0 (va_A [(w, .inr (0, [.ref a])), (a, .inl (cL, 200, .inr (.inl f)))] sz) := by
  refine ts_met (cc := b_W_setZero) (maxL := 1) (ret := none) (by decide) rfl (Nat.le_of_ble_eq_true rfl) ?_
  intro p e s m below meth c hx hb hr hml hown hts hlocks hname A hA hAe hK hP hD hS hsz ls hl
  have hown : s.vm.findClass R_W = some m.cls := hown
  have hl : lv_has ls 1 [(0, .ref w)] := hl
  have hP : va_P D vwCl [(w, .inr (0, [.ref a])), (a, .inl (cL, 200, .inr (.inl f)))] s.heap := hP
  have hD : va_D A [(w, .inr (0, [.ref a])), (a, .inl (cL, 200, .inr (.inl f)))] := hD
  refine lv_aload_n hx hb d_W_setZero_0 rfl (lv_at hl 0 rfl) ?_
  refine va_get (D := D) (ci := 0) (v := .ref a) (C := R_W) (T := F_W) (N := 1) hx hb hts (by decide +kernel) hown hK hP 0 rfl rfl 0 (by decide) (hts (.fieldLink R_W 9 "TripleSums$Whole" "limbs" "[J") (by decide +kernel)) (fun _ h9 => h9) rfl d_W_setZero_1 ?_
  refine lv_lconst (v := 0) hx hb d_W_setZero_4 (by decide) ?_
  refine ts_callS (rest := []) ⟨hx, hb, hml, hown, hts⟩ (c_A_fill l D cL cA cI cZ a f 0 _) (va_cwS 2 hts g_W_setZero_A_fill rfl rfl rfl (by decide +kernel) ⟨Nat.le_of_ble_eq_true rfl, Nat.le_of_ble_eq_true rfl⟩) hK hP hD hS hA hl.1 [1] (by decide) rfl (fun u => rfl) rfl rfl (Nat.le_of_ble_eq_true rfl) d_W_setZero_5 ⟨Nat.zero_le _, Nat.zero_le _⟩ (fun v u H locs hw hP hD hS => ?_)
  have hP : va_P D vwCl [(w, .inr (0, [.ref a])), (a, .inl (cL, 200, .inr (.inl u)))] H := hP
  have hD : va_D A [(w, .inr (0, [.ref a])), (a, .inl (cL, 200, .inr (.inl u)))] := hD
  obtain ⟨rfl, hw⟩ := hw
  show W _ _ _ _ _ _ _ _ _ _ _ _ _ _ _ (F0 m 8 ls [])
  exact W.vret hx hb hr (fun t ht hW => ts_ret (u := u) hP hD hK hS ⟨rfl, hw⟩ ht hW) hS.2.2 d_W_setZero_8

