set_option maxHeartbeats 4000000 in
set_option maxRecDepth 100000 in
theorem c_M_copy (l : Launch) (D : va_G) (cL cA cI cZ : ClassId) (h pa ba : Nat) (th : Int32) (P B : Nat → Int32) (x y : Nat) (hx9 : x < 10) (hy9 : y < 10) (hxy : x ≠ y) (hB : B x = 0 ∨ B x = 1) (hp : ts_pk P) (sz : Nat) : Met l y_M_copy w_M_copy (ts_rm 1) (va_Pc [.ref h, .int (nI x), .int (nI y)] (ts_A D vwCl (ts_ty cL cA cI cZ) [(h, .inr (2, [.int th, .ref pa, .ref ba])), (pa, .inl (cI, 2400, .inl P)), (ba, .inl (cZ, 10, .inl B))] sz)) (ts_Q (fun (v : Option Value) (u : Nat → Int32) => v = none ∧ ts_pk u ∧ ts_off P u y ∧ ts_r u y = ts_r P x) (fun u => ts_B D vwCl (ts_ty cL cA cI cZ) (va_A [(h, .inr (2, [.int th, .ref pa, .ref ba])), (pa, .inl (cI, 2400, .inl P)), (ba, .inl (cZ, 10, .inl B))] sz) ([(h, .inr (2, [.int th, .ref pa, .ref ba])), (pa, .inl (cI, 2400, .inl u)), (ba, .inl (cZ, 10, .inl (upd B y (B x))))])) (va_A [(h, .inr (2, [.int th, .ref pa, .ref ba])), (pa, .inl (cI, 2400, .inl P)), (ba, .inl (cZ, 10, .inl B))] sz)) 0 0 (va_A [(h, .inr (2, [.int th, .ref pa, .ref ba])), (pa, .inl (cI, 2400, .inl P)), (ba, .inl (cZ, 10, .inl B))] sz) := by
  refine ts_met (cc := b_M_copy) (maxL := 4) (ret := none) (by decide) rfl (Nat.le_of_ble_eq_true rfl) ?_
  intro p e s m below meth c hx hb hr hml hown hts hlocks hname A hA hAe hK hP hD hS hsz ls hl
  have hown : s.vm.findClass R_M = some m.cls := hown
  have hl : lv_has ls 4 [(0, .ref h), (1, .int (nI x)), (2, .int (nI y))] := hl
  have hP : va_P D vwCl [(h, .inr (2, [.int th, .ref pa, .ref ba])), (pa, .inl (cI, 2400, .inl P)), (ba, .inl (cZ, 10, .inl B))] s.heap := hP
  have hD : va_D A [(h, .inr (2, [.int th, .ref pa, .ref ba])), (pa, .inl (cI, 2400, .inl P)), (ba, .inl (cZ, 10, .inl B))] := hD
  refine lv_aload_n hx hb d_M_copy_0 rfl (lv_at hl 0 rfl) ?_
  refine va_get (D := D) (ci := 2) (v := .ref ba) (C := R_M) (T := F_M) (N := 3) hx hb hts (by decide +kernel) hown hK hP 0 rfl rfl 2 (by decide) (hts (.fieldLink R_M 13 "TripleSumsModel" "below" "[Z") (by decide +kernel)) (fun _ h9 => h9) rfl d_M_copy_1 ?_
  refine lv_iload_n hx hb d_M_copy_4 rfl (lv_at hl 2 rfl) ?_
  refine lv_aload_n hx hb d_M_copy_5 rfl (lv_at hl 0 rfl) ?_
  refine va_get (D := D) (ci := 2) (v := .ref ba) (C := R_M) (T := F_M) (N := 3) hx hb hts (by decide +kernel) hown hK hP 0 rfl rfl 2 (by decide) (hts (.fieldLink R_M 13 "TripleSumsModel" "below" "[Z") (by decide +kernel)) (fun _ h9 => h9) rfl d_M_copy_6 ?_
  refine lv_iload_n hx hb d_M_copy_9 rfl (lv_at hl 1 rfl) ?_
  refine va_zald (D := D) hx hb hK hP 2 3 rfl rfl (vp_in_nI hx9 (by decide)) d_M_copy_10 ?_
  refine lv_topi (fun v1 e_v1 => ?_)
  refine va_zast (D := D) hx hb hK hP hD hS 2 3 rfl rfl (vp_in_nI hy9 (by decide)) d_M_copy_11 (fun H locs hP hD hS => ?_)
  have hP : va_P D vwCl [(h, .inr (2, [.int th, .ref pa, .ref ba])), (pa, .inl (cI, 2400, .inl P)), (ba, .inl (cZ, 10, .inl (upd B (Int32.toNatClampNeg (nI y)) (vp_nar .boolean v1))))] H := hP
  have hD : va_D A [(h, .inr (2, [.int th, .ref pa, .ref ba])), (pa, .inl (cI, 2400, .inl P)), (ba, .inl (cZ, 10, .inl (upd B (Int32.toNatClampNeg (nI y)) (vp_nar .boolean v1))))] := hD
  have hv : vp_nar .boolean v1 = B x := by rw [e_v1, nI_clamp (n := x) (by omega)]; rcases hB with h1 | h1 <;> rw [h1] <;> decide +kernel
  rw [hv, nI_clamp (n := y) (by omega)] at hP hD
  have hP : va_P D vwCl [(h, .inr (2, [.int th, .ref pa, .ref ba])), (pa, .inl (cI, 2400, .inl P)), (ba, .inl (cZ, 10, .inl (upd B y (B x))))] H := hP
  have hD : va_D A [(h, .inr (2, [.int th, .ref pa, .ref ba])), (pa, .inl (cI, 2400, .inl P)), (ba, .inl (cZ, 10, .inl (upd B y (B x))))] := hD
  refine lv_iconst (v := (nI 0)) hx hb d_M_copy_12 (by decide) ?_
  refine lv_istore_n (lv' := [(3, .int (nI 0)), (0, .ref h), (1, .int (nI x)), (2, .int (nI y))]) hx hb d_M_copy_13 rfl hl (by decide) rfl (fun ls hl => ?_)
  refine ts_lp (H0 := s.heap) (D := D) (cl := vwCl) (A := A) (nL := 4) 240 (fun (i : Nat) (q : Nat → Int32) => ts_CopI P x y i q) (fun (i : Nat) (q : Nat → Int32) => [(h, .inr (2, [.int th, .ref pa, .ref ba])), (pa, .inl (cI, 2400, .inl q)), (ba, .inl (cZ, 10, .inl (upd B y (B x))))]) (fun (i : Nat) (q : Nat → Int32) => [(3, .int (nI i)), (0, .ref h), (1, .int (nI x)), (2, .int (nI y))]) 0 P ?_ ?_ (by omega) (⟨hp, ts_off.rf, fun j hj => absurd hj (Nat.not_lt_zero j)⟩) hP hD hS (lv_sub hl [0, 1, 2, 3] rfl)
  · intro i u hi hI ih H locs hP hD hS ls hl
    have hl : lv_has ls 4 [(3, .int (nI i)), (0, .ref h), (1, .int (nI x)), (2, .int (nI y))] := hl
    have hP : va_P D vwCl [(h, .inr (2, [.int th, .ref pa, .ref ba])), (pa, .inl (cI, 2400, .inl u)), (ba, .inl (cZ, 10, .inl (upd B y (B x))))] H := hP
    have hD : va_D A [(h, .inr (2, [.int th, .ref pa, .ref ba])), (pa, .inl (cI, 2400, .inl u)), (ba, .inl (cZ, 10, .inl (upd B y (B x))))] := hD
    refine lv_iload_n hx hb d_M_copy_14 rfl (lv_at hl 0 rfl) ?_
    refine lv_sipush (v := 240) hx hb d_M_copy_15 (by decide) ?_
    refine lv_icmp_ge (tgt := 51) hx hb d_M_copy_18 (by decide) (fun c2 => ?_) (fun c2 => ?_)
    · exact absurd c2 (nI_ge hi (by decide))
    · refine lv_aload_n hx hb d_M_copy_21 rfl (lv_at hl 1 rfl) ?_
      refine va_get (D := D) (ci := 2) (v := .ref pa) (C := R_M) (T := F_M) (N := 3) hx hb hts (by decide +kernel) hown hK hP 0 rfl rfl 1 (by decide) (hts (.fieldLink R_M 7 "TripleSumsModel" "parts" "[I") (by decide +kernel)) (fun _ h9 => h9) rfl d_M_copy_22 ?_
      refine lv_sipush (v := 240) hx hb d_M_copy_25 (by decide) ?_
      refine lv_iload_n hx hb d_M_copy_28 rfl (lv_at hl 3 rfl) ?_
      refine lv_imul hx hb d_M_copy_29 ?_
      refine lv_iload_n hx hb d_M_copy_30 rfl (lv_at hl 0 rfl) ?_
      refine lv_iadd hx hb d_M_copy_31 ?_
      refine lv_topi (fun z3 e_z3 => ?_)
      obtain rfl : z3 = (nI (240 * y + i)) := e_z3.trans (ts_ix y i)
      refine lv_aload_n hx hb d_M_copy_32 rfl (lv_at hl 1 rfl) ?_
      refine va_get (D := D) (ci := 2) (v := .ref pa) (C := R_M) (T := F_M) (N := 3) hx hb hts (by decide +kernel) hown hK hP 0 rfl rfl 1 (by decide) (hts (.fieldLink R_M 7 "TripleSumsModel" "parts" "[I") (by decide +kernel)) (fun _ h9 => h9) rfl d_M_copy_33 ?_
      refine lv_sipush (v := 240) hx hb d_M_copy_36 (by decide) ?_
      refine lv_iload_n hx hb d_M_copy_39 rfl (lv_at hl 2 rfl) ?_
      refine lv_imul hx hb d_M_copy_40 ?_
      refine lv_iload_n hx hb d_M_copy_41 rfl (lv_at hl 0 rfl) ?_
      refine lv_iadd hx hb d_M_copy_42 ?_
      refine lv_topi (fun z4 e_z4 => ?_)
      obtain rfl : z4 = (nI (240 * x + i)) := e_z4.trans (ts_ix x i)
      refine va_iald (D := D) hx hb hK hP 1 2 rfl rfl (vp_in_nI (by omega) (by decide)) d_M_copy_43 ?_
      refine lv_topi (fun v5 e_v5 => ?_)
      refine va_iast (D := D) hx hb hK hP hD hS 1 2 rfl rfl (vp_in_nI (by omega) (by decide)) d_M_copy_44 (fun H locs hP hD hS => ?_)
      have hP : va_P D vwCl [(h, .inr (2, [.int th, .ref pa, .ref ba])), (pa, .inl (cI, 2400, .inl (upd u (Int32.toNatClampNeg (nI (240 * y + i))) v5))), (ba, .inl (cZ, 10, .inl (upd B y (B x))))] H := hP
      have hD : va_D A [(h, .inr (2, [.int th, .ref pa, .ref ba])), (pa, .inl (cI, 2400, .inl (upd u (Int32.toNatClampNeg (nI (240 * y + i))) v5))), (ba, .inl (cZ, 10, .inl (upd B y (B x))))] := hD
      rw [nI_clamp (n := 240 * y + i) (by omega), e_v5, nI_clamp (n := 240 * x + i) (by omega)] at hP hD
      have hP : va_P D vwCl [(h, .inr (2, [.int th, .ref pa, .ref ba])), (pa, .inl (cI, 2400, .inl (upd u (240 * y + i) (u (240 * x + i))))), (ba, .inl (cZ, 10, .inl (upd B y (B x))))] H := hP
      have hD : va_D A [(h, .inr (2, [.int th, .ref pa, .ref ba])), (pa, .inl (cI, 2400, .inl (upd u (240 * y + i) (u (240 * x + i))))), (ba, .inl (cZ, 10, .inl (upd B y (B x))))] := hD
      refine lv_iinc (v := (nI (i + 1))) (lv' := [(3, .int (nI (i + 1))), (0, .ref h), (1, .int (nI x)), (2, .int (nI y))]) hx hb d_M_copy_45 hl (k := 0) rfl (nI_1 _) (by decide) rfl (fun ls hl => ?_)
      refine lv_goto (tgt := 14) hx hb d_M_copy_48 (by decide) ?_
      refine ih (upd u (240 * y + i) (u (240 * x + i))) (ts_CopI.step hxy hx9 hi hI) _ _ hP hD hS ls (lv_sub hl [0, 1, 2, 3] rfl)
  · intro u hI H locs hP hD hS ls hl
    have hl : lv_has ls 4 [(3, .int (nI 240)), (0, .ref h), (1, .int (nI x)), (2, .int (nI y))] := hl
    have hP : va_P D vwCl [(h, .inr (2, [.int th, .ref pa, .ref ba])), (pa, .inl (cI, 2400, .inl u)), (ba, .inl (cZ, 10, .inl (upd B y (B x))))] H := hP
    have hD : va_D A [(h, .inr (2, [.int th, .ref pa, .ref ba])), (pa, .inl (cI, 2400, .inl u)), (ba, .inl (cZ, 10, .inl (upd B y (B x))))] := hD
    refine lv_iload_n hx hb d_M_copy_14 rfl (lv_at hl 0 rfl) ?_
    refine lv_sipush (v := 240) hx hb d_M_copy_15 (by decide) ?_
    refine lv_icmp_ge (tgt := 51) hx hb d_M_copy_18 (by decide) (fun c6 => ?_) (fun c6 => ?_)
    · exact W.vret hx hb hr (fun t ht hW => ts_ret (u := u) hP hD hK hS ⟨rfl, ts_CopI.done hI⟩ ht hW) hS.2.2 d_M_copy_51
    · exact absurd (nI_le (Nat.le_refl 240) (by decide)) c6

