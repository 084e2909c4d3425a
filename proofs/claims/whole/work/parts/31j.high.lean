set_option maxHeartbeats 4000000 in
set_option maxRecDepth 100000 in
theorem c_W_highestPlace (l : Launch) (D : va_G) (cL cA cI cZ : ClassId) (w a : Nat) (f : Nat → Int64) (hf : ts_ok f) (sz : Nat) : Met l y_W_highestPlace w_W_highestPlace (ts_rm 3) (va_Pc [.ref w] (ts_A D vwCl (ts_ty cL cA cI cZ) [(w, .inr (0, [.ref a])), (a, .inl (cL, 200, .inr (.inl f)))] sz)) (ts_Q (fun (v : Option Value) (u : Unit) => ∃ z : Int32, v = some (.int z) ∧ ts_hp (ts_n f) z) (fun u => ts_B D vwCl (ts_ty cL cA cI cZ) (va_A [(w, .inr (0, [.ref a])), (a, .inl (cL, 200, .inr (.inl f)))] sz) ([(w, .inr (0, [.ref a])), (a, .inl (cL, 200, .inr (.inl f)))])) (va_A [(w, .inr (0, [.ref a])), (a, .inl (cL, 200, .inr (.inl f)))] sz)) 0 0 (va_A [(w, .inr (0, [.ref a])), (a, .inl (cL, 200, .inr (.inl f)))] sz) := by
  refine ts_met (cc := b_W_highestPlace) (maxL := 2) (ret := (some .int)) (by decide) rfl (Nat.le_of_ble_eq_true rfl) ?_
  intro p e s m below meth c hx hb hr hml hown hts hlocks hname A hA hAe hK hP hD hS hsz ls hl
  have hown : s.vm.findClass R_W = some m.cls := hown
  have hl : lv_has ls 2 [(0, .ref w)] := hl
  have hP : va_P D vwCl [(w, .inr (0, [.ref a])), (a, .inl (cL, 200, .inr (.inl f)))] s.heap := hP
  have hD : va_D A [(w, .inr (0, [.ref a])), (a, .inl (cL, 200, .inr (.inl f)))] := hD
  refine lv_sipush (v := ts_dn 199 0) hx hb d_W_highestPlace_0 (by decide) ?_
  refine lv_istore_n (lv' := [(1, .int (ts_dn 199 0)), (0, .ref w)]) hx hb d_W_highestPlace_3 rfl hl (by decide) rfl (fun ls hl => ?_)
  refine ts_lp (H0 := s.heap) (D := D) (cl := vwCl) (A := A) (nL := 2) 200 (fun (i : Nat) (q : Unit) => ∀ j, 200 ≤ j + i → j < 200 → uN (f j) = 0) (fun (i : Nat) (q : Unit) => [(w, .inr (0, [.ref a])), (a, .inl (cL, 200, .inr (.inl f)))]) (fun (i : Nat) (q : Unit) => [(1, .int (ts_dn 199 i)), (0, .ref w)]) 0 () ?_ ?_ (by omega) (fun j h1 h2 => by omega) hP hD hS (lv_sub hl [0, 1] rfl)
  · intro i _ hi hI ih H locs hP hD hS ls hl
    have hl : lv_has ls 2 [(1, .int (ts_dn 199 i)), (0, .ref w)] := hl
    have hP : va_P D vwCl [(w, .inr (0, [.ref a])), (a, .inl (cL, 200, .inr (.inl f)))] H := hP
    have hD : va_D A [(w, .inr (0, [.ref a])), (a, .inl (cL, 200, .inr (.inl f)))] := hD
    obtain ⟨j, hj⟩ : ∃ j : Nat, j = 199 - i := ⟨_, rfl⟩
    rw [ts_dn_le (show i ≤ 199 by omega), ← hj] at hl
    have hl : lv_has ls 2 [(1, .int (nI j)), (0, .ref w)] := hl
    refine lv_iload_n hx hb d_W_highestPlace_4 rfl (lv_at hl 0 rfl) ?_
    refine lv_if_lt (tgt := 43) hx hb d_W_highestPlace_5 (by decide) (fun c1 => ?_) (fun c1 => ?_)
    · exact absurd c1 (nI_pos (by omega))
    · refine lv_aload_n hx hb d_W_highestPlace_8 rfl (lv_at hl 1 rfl) ?_
      refine va_get (D := D) (ci := 0) (v := .ref a) (C := R_W) (T := F_W) (N := 1) hx hb hts (by decide +kernel) hown hK hP 0 rfl rfl 0 (by decide) (hts (.fieldLink R_W 9 "TripleSums$Whole" "limbs" "[J") (by decide +kernel)) (fun _ h9 => h9) rfl d_W_highestPlace_9 ?_
      refine lv_iload_n hx hb d_W_highestPlace_12 rfl (lv_at hl 0 rfl) ?_
      refine va_lald (D := D) hx hb hK hP 1 0 rfl rfl (vp_in_nI (by omega) (by decide)) d_W_highestPlace_13 ?_
      refine lv_topl (fun v2 e_v2 => ?_)
      rw [nI_clamp (n := j) (by omega)] at e_v2
      refine lv_lconst (v := 0) hx hb d_W_highestPlace_14 (by decide) ?_
      refine W.lcmp hx hb d_W_highestPlace_15 ?_
      refine lv_if_eq (tgt := 37) hx hb d_W_highestPlace_16 (by decide) (fun c3 => ?_) (fun c3 => ?_)
      · refine lv_iinc (v := (ts_dn 199 (i + 1))) (lv' := [(1, .int (ts_dn 199 (i + 1))), (0, .ref w)]) hx hb d_W_highestPlace_37 hl (k := 0) rfl (by rw [← ts_dn_s, ts_dn_le (show i ≤ 199 by omega), hj]) (by decide) rfl (fun ls hl => ?_)
        refine lv_goto (tgt := 4) hx hb d_W_highestPlace_40 (by decide) ?_
        refine ih () (fun q h1 h2 => ?_) _ _ hP hD hS ls (lv_sub hl [0, 1] rfl)
        by_cases hq : q = j
        · subst hq; rw [← e_v2, (lg_cmp_eq _ _).mp c3]; decide +kernel
        · exact hI q (by omega) h2
      · have hne : uN (f j) ≠ 0 := by
          intro q
          apply c3
          rw [lg_cmp_eq, e_v2]
          exact uN_inj (q.trans (by decide +kernel))
        refine lv_iload_n hx hb d_W_highestPlace_19 rfl (lv_at hl 0 rfl) ?_
        refine lv_bipush (v := 32) hx hb d_W_highestPlace_20 (by decide) ?_
        refine lv_imul hx hb d_W_highestPlace_22 ?_
        refine lv_topi (fun z4 e_z4 => ?_)
        obtain rfl : z4 = (nI (j * 32)) := e_z4.trans (pk_mul j 32)
        refine lv_bipush (v := 63) hx hb d_W_highestPlace_23 (by decide) ?_
        refine lv_iadd hx hb d_W_highestPlace_25 ?_
        refine lv_topi (fun z5 e_z5 => ?_)
        obtain rfl : z5 = (nI (j * 32 + 63)) := e_z5.trans (nI_add _ 63)
        refine lv_aload_n hx hb d_W_highestPlace_26 rfl (lv_at hl 1 rfl) ?_
        refine va_get (D := D) (ci := 0) (v := .ref a) (C := R_W) (T := F_W) (N := 1) hx hb hts (by decide +kernel) hown hK hP 0 rfl rfl 0 (by decide) (hts (.fieldLink R_W 9 "TripleSums$Whole" "limbs" "[J") (by decide +kernel)) (fun _ h9 => h9) rfl d_W_highestPlace_27 ?_
        refine lv_iload_n hx hb d_W_highestPlace_30 rfl (lv_at hl 0 rfl) ?_
        refine va_lald (D := D) hx hb hK hP 1 0 rfl rfl (vp_in_nI (by omega) (by decide)) d_W_highestPlace_31 ?_
        refine lv_topl (fun v6 e_v6 => ?_)
        rw [nI_clamp (n := j) (by omega)] at e_v6
        subst e_v6
        refine ts_callS (rest := [.int (nI (j * 32 + 63))]) ⟨hx, hb, hml, hown, hts⟩ (c_J_nlz l D cL cA cI cZ (f j) hne (hf j (by omega)) _) (va_cwS 1 hts g_W_highestPlace_J_numberOfLeadingZeros rfl rfl rfl (by decide +kernel) ⟨Nat.le_of_ble_eq_true rfl, Nat.le_of_ble_eq_true rfl⟩) hK hP hD hS hA hl.1 [] (by decide) rfl (fun u => rfl) rfl rfl (Nat.le_of_ble_eq_true rfl) d_W_highestPlace_32 ⟨Nat.zero_le _, Nat.zero_le _⟩ (fun v _u H locs hw hP hD hS => ?_)
        have hP : va_P D vwCl [(w, .inr (0, [.ref a])), (a, .inl (cL, 200, .inr (.inl f)))] H := hP
        have hD : va_D A [(w, .inr (0, [.ref a])), (a, .inl (cL, 200, .inr (.inl f)))] := hD
        obtain ⟨q, q1, q2, rfl⟩ := hw
        show W _ _ _ _ _ _ _ _ _ _ _ _ _ _ _ (F0 m 35 ls [.int (nI (63 - q)), .int (nI (j * 32 + 63))])
        refine lv_isub hx hb d_W_highestPlace_35 ?_
        refine lv_topi (fun z7 e_z7 => ?_)
        obtain rfl : z7 = (nI (32 * j + q)) := e_z7.trans ((pk_sub (by omega)).trans (congrArg nI (by omega)))
        exact W.iret (v := (nI (32 * j + q))) hx hb hr (fun t ht hW => ts_ret (u := ()) hP hD hK hS ⟨_, rfl, Or.inr ⟨32 * j + q, ts_dv_topbit hf (show j < 200 by omega) (fun q h1 h2 => hI q (by omega) h2) q1, by omega, rfl⟩⟩ ht hW) hS.2.2 d_W_highestPlace_36
  · intro _ hI H locs hP hD hS ls hl
    have hl : lv_has ls 2 [(1, .int (ts_dn 199 200)), (0, .ref w)] := hl
    have hP : va_P D vwCl [(w, .inr (0, [.ref a])), (a, .inl (cL, 200, .inr (.inl f)))] H := hP
    have hD : va_D A [(w, .inr (0, [.ref a])), (a, .inl (cL, 200, .inr (.inl f)))] := hD
    refine lv_iload_n hx hb d_W_highestPlace_4 rfl (lv_at hl 0 rfl) ?_
    refine lv_if_lt (tgt := 43) hx hb d_W_highestPlace_5 (by decide) (fun c8 => ?_) (fun c8 => ?_)
    · refine lv_ldc (v := (-100000)) hx hb hown (hts (.constant R_W 38 (-100000)) (by decide +kernel)) d_W_highestPlace_43 ?_
      exact W.iret (v := (-100000)) hx hb hr (fun t ht hW => ts_ret (u := ()) hP hD hK hS ⟨_, rfl, Or.inl ⟨ts_dv_zero (fun q hq => hI q (by omega) hq), rfl⟩⟩ ht hW) hS.2.2 d_W_highestPlace_45
    · exact absurd (ts_dn_end 199) c8

