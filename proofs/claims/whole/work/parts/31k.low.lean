set_option maxHeartbeats 4000000 in
set_option maxRecDepth 100000 in
theorem c_W_lowestPlace (l : Launch) (D : va_G) (cL cA cI cZ : ClassId) (w a : Nat) (f : Nat → Int64) (hf : ts_ok f) (sz : Nat) : Met l y_W_lowestPlace w_W_lowestPlace (ts_rm 3) (va_Pc [.ref w] (ts_A D vwCl (ts_ty cL cA cI cZ) [(w, .inr (0, [.ref a])), (a, .inl (cL, 200, .inr (.inl f)))] sz)) (ts_Q (fun (v : Option Value) (u : Unit) => ∃ z : Int32, v = some (.int z) ∧ ts_lp2 (ts_n f) z) (fun u => ts_B D vwCl (ts_ty cL cA cI cZ) (va_A [(w, .inr (0, [.ref a])), (a, .inl (cL, 200, .inr (.inl f)))] sz) ([(w, .inr (0, [.ref a])), (a, .inl (cL, 200, .inr (.inl f)))])) (va_A [(w, .inr (0, [.ref a])), (a, .inl (cL, 200, .inr (.inl f)))] sz)) 0 0 (va_A [(w, .inr (0, [.ref a])), (a, .inl (cL, 200, .inr (.inl f)))] sz) := by
  refine ts_met (cc := b_W_lowestPlace) (maxL := 2) (ret := (some .int)) (by decide) rfl (Nat.le_of_ble_eq_true rfl) ?_
  intro p e s m below meth c hx hb hr hml hown hts hlocks hname A hA hAe hK hP hD hS hsz ls hl
  have hown : s.vm.findClass R_W = some m.cls := hown
  have hl : lv_has ls 2 [(0, .ref w)] := hl
  have hP : va_P D vwCl [(w, .inr (0, [.ref a])), (a, .inl (cL, 200, .inr (.inl f)))] s.heap := hP
  have hD : va_D A [(w, .inr (0, [.ref a])), (a, .inl (cL, 200, .inr (.inl f)))] := hD
  refine lv_iconst (v := (nI 0)) hx hb d_W_lowestPlace_0 (by decide) ?_
  refine lv_istore_n (lv' := [(1, .int (nI 0)), (0, .ref w)]) hx hb d_W_lowestPlace_1 rfl hl (by decide) rfl (fun ls hl => ?_)
  refine ts_lp (H0 := s.heap) (D := D) (cl := vwCl) (A := A) (nL := 2) 200 (fun (i : Nat) (q : Unit) => ∀ j, j < i → uN (f j) = 0) (fun (i : Nat) (q : Unit) => [(w, .inr (0, [.ref a])), (a, .inl (cL, 200, .inr (.inl f)))]) (fun (i : Nat) (q : Unit) => [(1, .int (nI i)), (0, .ref w)]) 0 () ?_ ?_ (by omega) (fun j h1 => absurd h1 (Nat.not_lt_zero j)) hP hD hS (lv_sub hl [0, 1] rfl)
  · intro i _ hi hI ih H locs hP hD hS ls hl
    have hl : lv_has ls 2 [(1, .int (nI i)), (0, .ref w)] := hl
    have hP : va_P D vwCl [(w, .inr (0, [.ref a])), (a, .inl (cL, 200, .inr (.inl f)))] H := hP
    have hD : va_D A [(w, .inr (0, [.ref a])), (a, .inl (cL, 200, .inr (.inl f)))] := hD
    refine lv_iload_n hx hb d_W_lowestPlace_2 rfl (lv_at hl 0 rfl) ?_
    refine lv_sipush (v := 200) hx hb d_W_lowestPlace_3 (by decide) ?_
    refine lv_icmp_ge (tgt := 41) hx hb d_W_lowestPlace_6 (by decide) (fun c1 => ?_) (fun c1 => ?_)
    · exact absurd c1 (nI_ge hi (by decide))
    · refine lv_aload_n hx hb d_W_lowestPlace_9 rfl (lv_at hl 1 rfl) ?_
      refine va_get (D := D) (ci := 0) (v := .ref a) (C := R_W) (T := F_W) (N := 1) hx hb hts (by decide +kernel) hown hK hP 0 rfl rfl 0 (by decide) (hts (.fieldLink R_W 9 "TripleSums$Whole" "limbs" "[J") (by decide +kernel)) (fun _ h9 => h9) rfl d_W_lowestPlace_10 ?_
      refine lv_iload_n hx hb d_W_lowestPlace_13 rfl (lv_at hl 0 rfl) ?_
      refine va_lald (D := D) hx hb hK hP 1 0 rfl rfl (vp_in_nI (by omega) (by decide)) d_W_lowestPlace_14 ?_
      refine lv_topl (fun v2 e_v2 => ?_)
      rw [nI_clamp (n := i) (by omega)] at e_v2
      refine lv_lconst (v := 0) hx hb d_W_lowestPlace_15 (by decide) ?_
      refine W.lcmp hx hb d_W_lowestPlace_16 ?_
      refine lv_if_eq (tgt := 35) hx hb d_W_lowestPlace_17 (by decide) (fun c3 => ?_) (fun c3 => ?_)
      · refine lv_iinc (v := (nI (i + 1))) (lv' := [(1, .int (nI (i + 1))), (0, .ref w)]) hx hb d_W_lowestPlace_35 hl (k := 0) rfl (nI_1 _) (by decide) rfl (fun ls hl => ?_)
        refine lv_goto (tgt := 2) hx hb d_W_lowestPlace_38 (by decide) ?_
        refine ih () (lt_s (p := fun j => uN (f j) = 0) hI (by rw [← e_v2, (lg_cmp_eq _ _).mp c3]; decide +kernel)) _ _ hP hD hS ls (lv_sub hl [0, 1] rfl)
      · have hne : uN (f i) ≠ 0 := by
          intro q
          apply c3
          rw [lg_cmp_eq, e_v2]
          exact uN_inj (q.trans (by decide +kernel))
        refine lv_iload_n hx hb d_W_lowestPlace_20 rfl (lv_at hl 0 rfl) ?_
        refine lv_bipush (v := 32) hx hb d_W_lowestPlace_21 (by decide) ?_
        refine lv_imul hx hb d_W_lowestPlace_23 ?_
        refine lv_topi (fun z4 e_z4 => ?_)
        obtain rfl : z4 = (nI (i * 32)) := e_z4.trans (pk_mul i 32)
        refine lv_aload_n hx hb d_W_lowestPlace_24 rfl (lv_at hl 1 rfl) ?_
        refine va_get (D := D) (ci := 0) (v := .ref a) (C := R_W) (T := F_W) (N := 1) hx hb hts (by decide +kernel) hown hK hP 0 rfl rfl 0 (by decide) (hts (.fieldLink R_W 9 "TripleSums$Whole" "limbs" "[J") (by decide +kernel)) (fun _ h9 => h9) rfl d_W_lowestPlace_25 ?_
        refine lv_iload_n hx hb d_W_lowestPlace_28 rfl (lv_at hl 0 rfl) ?_
        refine va_lald (D := D) hx hb hK hP 1 0 rfl rfl (vp_in_nI (by omega) (by decide)) d_W_lowestPlace_29 ?_
        refine lv_topl (fun v5 e_v5 => ?_)
        rw [nI_clamp (n := i) (by omega)] at e_v5
        subst e_v5
        refine ts_callS (rest := [.int (nI (i * 32))]) ⟨hx, hb, hml, hown, hts⟩ (c_J_ntz l D cL cA cI cZ (f i) hne (hf i (by omega)) _) (va_cwS 1 hts g_W_lowestPlace_J_numberOfTrailingZeros rfl rfl rfl (by decide +kernel) ⟨Nat.le_of_ble_eq_true rfl, Nat.le_of_ble_eq_true rfl⟩) hK hP hD hS hA hl.1 [] (by decide) rfl (fun u => rfl) rfl rfl (Nat.le_of_ble_eq_true rfl) d_W_lowestPlace_30 ⟨Nat.zero_le _, Nat.zero_le _⟩ (fun v _u H locs hw hP hD hS => ?_)
        have hP : va_P D vwCl [(w, .inr (0, [.ref a])), (a, .inl (cL, 200, .inr (.inl f)))] H := hP
        have hD : va_D A [(w, .inr (0, [.ref a])), (a, .inl (cL, 200, .inr (.inl f)))] := hD
        obtain ⟨q, q1, q2, rfl⟩ := hw
        show W _ _ _ _ _ _ _ _ _ _ _ _ _ _ _ (F0 m 33 ls [.int (nI q), .int (nI (i * 32))])
        refine lv_iadd hx hb d_W_lowestPlace_33 ?_
        refine lv_topi (fun z6 e_z6 => ?_)
        obtain rfl : z6 = (nI (32 * i + q)) := e_z6.trans ((nI_add _ _).trans (congrArg nI (by omega)))
        exact W.iret (v := (nI (32 * i + q))) hx hb hr (fun t ht hW => ts_ret (u := ()) hP hD hK hS ⟨_, rfl, Or.inr ⟨32 * i + q, ts_dv_botbit hf hi hI q1 (by omega), by omega, rfl⟩⟩ ht hW) hS.2.2 d_W_lowestPlace_34
  · intro _ hI H locs hP hD hS ls hl
    have hl : lv_has ls 2 [(1, .int (nI 200)), (0, .ref w)] := hl
    have hP : va_P D vwCl [(w, .inr (0, [.ref a])), (a, .inl (cL, 200, .inr (.inl f)))] H := hP
    have hD : va_D A [(w, .inr (0, [.ref a])), (a, .inl (cL, 200, .inr (.inl f)))] := hD
    refine lv_iload_n hx hb d_W_lowestPlace_2 rfl (lv_at hl 0 rfl) ?_
    refine lv_sipush (v := 200) hx hb d_W_lowestPlace_3 (by decide) ?_
    refine lv_icmp_ge (tgt := 41) hx hb d_W_lowestPlace_6 (by decide) (fun c7 => ?_) (fun c7 => ?_)
    · refine lv_ldc (v := (-100000)) hx hb hown (hts (.constant R_W 38 (-100000)) (by decide +kernel)) d_W_lowestPlace_41 ?_
      exact W.iret (v := (-100000)) hx hb hr (fun t ht hW => ts_ret (u := ()) hP hD hK hS ⟨_, rfl, Or.inl ⟨ts_dv_zero hI, rfl⟩⟩ ht hW) hS.2.2 d_W_lowestPlace_43
    · exact absurd (nI_le (Nat.le_refl 200) (by decide)) c7

