set_option maxHeartbeats 4000000 in
set_option maxRecDepth 100000 in
theorem c_M_zero (l : Launch) (D : va_G) (cL cA cI cZ : ClassId) (h pa ba : Nat) (th : Int32) (P B : Nat → Int32) (r : Nat) (hr9 : r < 10) (hp : ts_pk P) (sz : Nat) : Met l y_M_zero w_M_zero (ts_rm 1) (va_Pc [.ref h, .int (nI r)] (ts_A D vwCl (ts_ty cL cA cI cZ) [(h, .inr (2, [.int th, .ref pa, .ref ba])), (pa, .inl (cI, 2400, .inl P)), (ba, .inl (cZ, 10, .inl B))] sz)) (ts_Q (fun (v : Option Value) (u : Nat → Int32) => v = none ∧ ts_pk u ∧ ts_off P u r ∧ ts_r u r = 0) (fun u => ts_B D vwCl (ts_ty cL cA cI cZ) (va_A [(h, .inr (2, [.int th, .ref pa, .ref ba])), (pa, .inl (cI, 2400, .inl P)), (ba, .inl (cZ, 10, .inl B))] sz) ([(h, .inr (2, [.int th, .ref pa, .ref ba])), (pa, .inl (cI, 2400, .inl u)), (ba, .inl (cZ, 10, .inl (upd B r 0)))])) (va_A [(h, .inr (2, [.int th, .ref pa, .ref ba])), (pa, .inl (cI, 2400, .inl P)), (ba, .inl (cZ, 10, .inl B))] sz)) 0 0 (va_A [(h, .inr (2, [.int th, .ref pa, .ref ba])), (pa, .inl (cI, 2400, .inl P)), (ba, .inl (cZ, 10, .inl B))] sz) := by
  refine ts_met (cc := b_M_zero) (maxL := 3) (ret := none) (by decide) rfl (Nat.le_of_ble_eq_true rfl) ?_
  intro p e s m below meth c hx hb hr hml hown hts hlocks hname A hA hAe hK hP hD hS hsz ls hl
  have hown : s.vm.findClass R_M = some m.cls := hown
  have hl : lv_has ls 3 [(0, .ref h), (1, .int (nI r))] := hl
  have hP : va_P D vwCl [(h, .inr (2, [.int th, .ref pa, .ref ba])), (pa, .inl (cI, 2400, .inl P)), (ba, .inl (cZ, 10, .inl B))] s.heap := hP
  have hD : va_D A [(h, .inr (2, [.int th, .ref pa, .ref ba])), (pa, .inl (cI, 2400, .inl P)), (ba, .inl (cZ, 10, .inl B))] := hD
  refine lv_aload_n hx hb d_M_zero_0 rfl (lv_at hl 0 rfl) ?_
  refine va_get (D := D) (ci := 2) (v := .ref ba) (C := R_M) (T := F_M) (N := 3) hx hb hts (by decide +kernel) hown hK hP 0 rfl rfl 2 (by decide) (hts (.fieldLink R_M 13 "TripleSumsModel" "below" "[Z") (by decide +kernel)) (fun _ h9 => h9) rfl d_M_zero_1 ?_
  refine lv_iload_n hx hb d_M_zero_4 rfl (lv_at hl 1 rfl) ?_
  refine lv_iconst (v := 0) hx hb d_M_zero_5 (by decide) ?_
  refine va_zast (D := D) hx hb hK hP hD hS 2 3 rfl rfl (vp_in_nI hr9 (by decide)) d_M_zero_6 (fun H locs hP hD hS => ?_)
  have hP : va_P D vwCl [(h, .inr (2, [.int th, .ref pa, .ref ba])), (pa, .inl (cI, 2400, .inl P)), (ba, .inl (cZ, 10, .inl (upd B (Int32.toNatClampNeg (nI r)) (vp_nar .boolean 0))))] H := hP
  have hD : va_D A [(h, .inr (2, [.int th, .ref pa, .ref ba])), (pa, .inl (cI, 2400, .inl P)), (ba, .inl (cZ, 10, .inl (upd B (Int32.toNatClampNeg (nI r)) (vp_nar .boolean 0))))] := hD
  rw [nI_clamp (n := r) (by omega)] at hP hD
  have hP : va_P D vwCl [(h, .inr (2, [.int th, .ref pa, .ref ba])), (pa, .inl (cI, 2400, .inl P)), (ba, .inl (cZ, 10, .inl (upd B r 0)))] H := hP
  have hD : va_D A [(h, .inr (2, [.int th, .ref pa, .ref ba])), (pa, .inl (cI, 2400, .inl P)), (ba, .inl (cZ, 10, .inl (upd B r 0)))] := hD
  refine lv_iconst (v := (nI 0)) hx hb d_M_zero_7 (by decide) ?_
  refine lv_istore_n (lv' := [(2, .int (nI 0)), (0, .ref h), (1, .int (nI r))]) hx hb d_M_zero_8 rfl hl (by decide) rfl (fun ls hl => ?_)
  refine ts_lp (H0 := s.heap) (D := D) (cl := vwCl) (A := A) (nL := 3) 240 (fun (i : Nat) (q : Nat → Int32) => ts_ZerI P r i q) (fun (i : Nat) (q : Nat → Int32) => [(h, .inr (2, [.int th, .ref pa, .ref ba])), (pa, .inl (cI, 2400, .inl q)), (ba, .inl (cZ, 10, .inl (upd B r 0)))]) (fun (i : Nat) (q : Nat → Int32) => [(2, .int (nI i)), (0, .ref h), (1, .int (nI r))]) 0 P ?_ ?_ (by omega) (⟨hp, ts_off.rf, fun j hj => absurd hj (Nat.not_lt_zero j)⟩) hP hD hS (lv_sub hl [0, 1, 2] rfl)
  · intro i u hi hI ih H locs hP hD hS ls hl
    have hl : lv_has ls 3 [(2, .int (nI i)), (0, .ref h), (1, .int (nI r))] := hl
    have hP : va_P D vwCl [(h, .inr (2, [.int th, .ref pa, .ref ba])), (pa, .inl (cI, 2400, .inl u)), (ba, .inl (cZ, 10, .inl (upd B r 0)))] H := hP
    have hD : va_D A [(h, .inr (2, [.int th, .ref pa, .ref ba])), (pa, .inl (cI, 2400, .inl u)), (ba, .inl (cZ, 10, .inl (upd B r 0)))] := hD
    refine lv_iload_n hx hb d_M_zero_9 rfl (lv_at hl 0 rfl) ?_
    refine lv_sipush (v := 240) hx hb d_M_zero_10 (by decide) ?_
    refine lv_icmp_ge (tgt := 35) hx hb d_M_zero_13 (by decide) (fun c1 => ?_) (fun c1 => ?_)
    · exact absurd c1 (nI_ge hi (by decide))
    · refine lv_aload_n hx hb d_M_zero_16 rfl (lv_at hl 1 rfl) ?_
      refine va_get (D := D) (ci := 2) (v := .ref pa) (C := R_M) (T := F_M) (N := 3) hx hb hts (by decide +kernel) hown hK hP 0 rfl rfl 1 (by decide) (hts (.fieldLink R_M 7 "TripleSumsModel" "parts" "[I") (by decide +kernel)) (fun _ h9 => h9) rfl d_M_zero_17 ?_
      refine lv_sipush (v := 240) hx hb d_M_zero_20 (by decide) ?_
      refine lv_iload_n hx hb d_M_zero_23 rfl (lv_at hl 2 rfl) ?_
      refine lv_imul hx hb d_M_zero_24 ?_
      refine lv_iload_n hx hb d_M_zero_25 rfl (lv_at hl 0 rfl) ?_
      refine lv_iadd hx hb d_M_zero_26 ?_
      refine lv_topi (fun z2 e_z2 => ?_)
      obtain rfl : z2 = (nI (240 * r + i)) := e_z2.trans (ts_ix r i)
      refine lv_iconst (v := 0) hx hb d_M_zero_27 (by decide) ?_
      refine va_iast (D := D) hx hb hK hP hD hS 1 2 rfl rfl (vp_in_nI (by omega) (by decide)) d_M_zero_28 (fun H locs hP hD hS => ?_)
      have hP : va_P D vwCl [(h, .inr (2, [.int th, .ref pa, .ref ba])), (pa, .inl (cI, 2400, .inl (upd u (Int32.toNatClampNeg (nI (240 * r + i))) 0))), (ba, .inl (cZ, 10, .inl (upd B r 0)))] H := hP
      have hD : va_D A [(h, .inr (2, [.int th, .ref pa, .ref ba])), (pa, .inl (cI, 2400, .inl (upd u (Int32.toNatClampNeg (nI (240 * r + i))) 0))), (ba, .inl (cZ, 10, .inl (upd B r 0)))] := hD
      refine lv_iinc (v := (nI (i + 1))) (lv' := [(2, .int (nI (i + 1))), (0, .ref h), (1, .int (nI r))]) hx hb d_M_zero_29 hl (k := 0) rfl (nI_1 _) (by decide) rfl (fun ls hl => ?_)
      rw [nI_clamp (n := 240 * r + i) (by omega)] at hP hD
      have hP : va_P D vwCl [(h, .inr (2, [.int th, .ref pa, .ref ba])), (pa, .inl (cI, 2400, .inl (upd u (240 * r + i) 0))), (ba, .inl (cZ, 10, .inl (upd B r 0)))] H := hP
      have hD : va_D A [(h, .inr (2, [.int th, .ref pa, .ref ba])), (pa, .inl (cI, 2400, .inl (upd u (240 * r + i) 0))), (ba, .inl (cZ, 10, .inl (upd B r 0)))] := hD
      refine lv_goto (tgt := 9) hx hb d_M_zero_32 (by decide) ?_
      refine ih (upd u (240 * r + i) 0) (ts_ZerI.step hi hI) _ _ hP hD hS ls (lv_sub hl [0, 1, 2] rfl)
  · intro u hI H locs hP hD hS ls hl
    have hl : lv_has ls 3 [(2, .int (nI 240)), (0, .ref h), (1, .int (nI r))] := hl
    have hP : va_P D vwCl [(h, .inr (2, [.int th, .ref pa, .ref ba])), (pa, .inl (cI, 2400, .inl u)), (ba, .inl (cZ, 10, .inl (upd B r 0)))] H := hP
    have hD : va_D A [(h, .inr (2, [.int th, .ref pa, .ref ba])), (pa, .inl (cI, 2400, .inl u)), (ba, .inl (cZ, 10, .inl (upd B r 0)))] := hD
    refine lv_iload_n hx hb d_M_zero_9 rfl (lv_at hl 0 rfl) ?_
    refine lv_sipush (v := 240) hx hb d_M_zero_10 (by decide) ?_
    refine lv_icmp_ge (tgt := 35) hx hb d_M_zero_13 (by decide) (fun c3 => ?_) (fun c3 => ?_)
    · exact W.vret hx hb hr (fun t ht hW => ts_ret (u := u) hP hD hK hS ⟨rfl, ts_ZerI.done hI⟩ ht hW) hS.2.2 d_M_zero_35
    · exact absurd (nI_le (Nat.le_refl 240) (by decide)) c3

