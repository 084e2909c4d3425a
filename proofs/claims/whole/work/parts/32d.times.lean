set_option maxHeartbeats 4000000 in
set_option maxRecDepth 100000 in
theorem c_M_times (l : Launch) (D : va_G) (cL cA cI cZ : ClassId) (h pa ba : Nat) (th : Int32) (P B : Nat → Int32) (r : Nat) (y : Int32) (hr9 : r < 10) (hy : 0 ≤ y.toInt ∧ y.toInt < 268435456) (hp : ts_pk P) (hN : y.toInt.toNat * ts_r P r < ts_N) (sz : Nat) : Met l y_M_times w_M_times (ts_rm 1) (va_Pc [.ref h, .int (nI r), .int y] (ts_A D vwCl (ts_ty cL cA cI cZ) [(h, .inr (2, [.int th, .ref pa, .ref ba])), (pa, .inl (cI, 2400, .inl P)), (ba, .inl (cZ, 10, .inl B))] sz)) (ts_Q (fun (v : Option Value) (u : Nat → Int32) => v = none ∧ ts_pk u ∧ ts_off P u r ∧ ts_r u r = y.toInt.toNat * ts_r P r) (fun u => ts_B D vwCl (ts_ty cL cA cI cZ) (va_A [(h, .inr (2, [.int th, .ref pa, .ref ba])), (pa, .inl (cI, 2400, .inl P)), (ba, .inl (cZ, 10, .inl B))] sz) ([(h, .inr (2, [.int th, .ref pa, .ref ba])), (pa, .inl (cI, 2400, .inl u)), (ba, .inl (cZ, 10, .inl B))])) (va_A [(h, .inr (2, [.int th, .ref pa, .ref ba])), (pa, .inl (cI, 2400, .inl P)), (ba, .inl (cZ, 10, .inl B))] sz)) 0 0 (va_A [(h, .inr (2, [.int th, .ref pa, .ref ba])), (pa, .inl (cI, 2400, .inl P)), (ba, .inl (cZ, 10, .inl B))] sz) := by
  refine ts_met (cc := b_M_times) (maxL := 8) (ret := none) (by decide) rfl (Nat.le_of_ble_eq_true rfl) ?_
  intro p e s m below meth c hx hb hr hml hown hts hlocks hname A hA hAe hK hP hD hS hsz ls hl
  have hown : s.vm.findClass R_M = some m.cls := hown
  have hl : lv_has ls 8 [(0, .ref h), (1, .int (nI r)), (2, .int y)] := hl
  have hP : va_P D vwCl [(h, .inr (2, [.int th, .ref pa, .ref ba])), (pa, .inl (cI, 2400, .inl P)), (ba, .inl (cZ, 10, .inl B))] s.heap := hP
  have hD : va_D A [(h, .inr (2, [.int th, .ref pa, .ref ba])), (pa, .inl (cI, 2400, .inl P)), (ba, .inl (cZ, 10, .inl B))] := hD
  refine lv_lconst (v := 0) hx hb d_M_times_0 (by decide) ?_
  refine lv_lstore_n (lv' := [(3, .long 0), (0, .ref h), (1, .int (nI r)), (2, .int y)]) hx hb d_M_times_1 rfl hl (by decide) rfl (fun ls hl => ?_)
  refine lv_iconst (v := (nI 0)) hx hb d_M_times_2 (by decide) ?_
  refine lv_istore (lv' := [(5, .int (nI 0)), (3, .long 0), (0, .ref h), (1, .int (nI r)), (2, .int y)]) hx hb d_M_times_3 hl (by decide) rfl (fun ls hl => ?_)
  refine ts_lp (H0 := s.heap) (D := D) (cl := vwCl) (A := A) (nL := 8) 240 (fun (i : Nat) (q : Int64 × (Nat → Int32)) => ts_TimI P r y.toInt.toNat i q.1 q.2) (fun (i : Nat) (q : Int64 × (Nat → Int32)) => [(h, .inr (2, [.int th, .ref pa, .ref ba])), (pa, .inl (cI, 2400, .inl q.2)), (ba, .inl (cZ, 10, .inl B))]) (fun (i : Nat) (q : Int64 × (Nat → Int32)) => [(5, .int (nI i)), (3, .long q.1), (0, .ref h), (1, .int (nI r)), (2, .int y)]) 0 (0, P) ?_ ?_ (by omega) (ts_TimI.zero hp) hP hD hS (lv_sub hl [0, 1, 2, 3, 4] rfl)
  · intro i ⟨x, u⟩ hi hI ih H locs hP hD hS ls hl
    have hl : lv_has ls 8 [(5, .int (nI i)), (3, .long x), (0, .ref h), (1, .int (nI r)), (2, .int y)] := hl
    have hP : va_P D vwCl [(h, .inr (2, [.int th, .ref pa, .ref ba])), (pa, .inl (cI, 2400, .inl u)), (ba, .inl (cZ, 10, .inl B))] H := hP
    have hD : va_D A [(h, .inr (2, [.int th, .ref pa, .ref ba])), (pa, .inl (cI, 2400, .inl u)), (ba, .inl (cZ, 10, .inl B))] := hD
    refine lv_iload hx hb d_M_times_5 (lv_at hl 0 rfl) ?_
    refine lv_sipush (v := 240) hx hb d_M_times_7 (by decide) ?_
    refine lv_icmp_ge (tgt := 66) hx hb d_M_times_10 (by decide) (fun c1 => ?_) (fun c1 => ?_)
    · exact absurd c1 (nI_ge hi (by decide))
    · refine lv_aload_n hx hb d_M_times_13 rfl (lv_at hl 2 rfl) ?_
      refine va_get (D := D) (ci := 2) (v := .ref pa) (C := R_M) (T := F_M) (N := 3) hx hb hts (by decide +kernel) hown hK hP 0 rfl rfl 1 (by decide) (hts (.fieldLink R_M 7 "TripleSumsModel" "parts" "[I") (by decide +kernel)) (fun _ h9 => h9) rfl d_M_times_14 ?_
      refine lv_sipush (v := 240) hx hb d_M_times_17 (by decide) ?_
      refine lv_iload_n hx hb d_M_times_20 rfl (lv_at hl 3 rfl) ?_
      refine lv_imul hx hb d_M_times_21 ?_
      refine lv_iload hx hb d_M_times_22 (lv_at hl 0 rfl) ?_
      refine lv_iadd hx hb d_M_times_24 ?_
      refine lv_topi (fun z2 e_z2 => ?_)
      obtain rfl : z2 = (nI (240 * r + i)) := e_z2.trans (ts_ix r i)
      refine va_iald (D := D) hx hb hK hP 1 2 rfl rfl (vp_in_nI (by omega) (by decide)) d_M_times_25 ?_
      refine lv_topi (fun v3 e_v3 => ?_)
      refine lv_i2l hx hb d_M_times_26 rfl ?_
      refine lv_iload_n hx hb d_M_times_27 rfl (lv_at hl 4 rfl) ?_
      refine lv_i2l hx hb d_M_times_28 rfl ?_
      refine lv_lmul hx hb d_M_times_29 ?_
      refine lv_topl (fun z4 e_z4 => ?_)
      refine lv_lload_n hx hb d_M_times_30 rfl (lv_at hl 1 rfl) ?_
      refine lv_ladd hx hb d_M_times_31 ?_
      refine lv_topl (fun z5 e_z5 => ?_)
      refine lv_lstore (lv' := [(6, .long z5), (5, .int (nI i)), (3, .long x), (0, .ref h), (1, .int (nI r)), (2, .int y)]) hx hb d_M_times_32 hl (by decide) rfl (fun ls hl => ?_)
      refine lv_aload_n hx hb d_M_times_34 rfl (lv_at hl 3 rfl) ?_
      refine va_get (D := D) (ci := 2) (v := .ref pa) (C := R_M) (T := F_M) (N := 3) hx hb hts (by decide +kernel) hown hK hP 0 rfl rfl 1 (by decide) (hts (.fieldLink R_M 7 "TripleSumsModel" "parts" "[I") (by decide +kernel)) (fun _ h9 => h9) rfl d_M_times_35 ?_
      refine lv_sipush (v := 240) hx hb d_M_times_38 (by decide) ?_
      refine lv_iload_n hx hb d_M_times_41 rfl (lv_at hl 4 rfl) ?_
      refine lv_imul hx hb d_M_times_42 ?_
      refine lv_iload hx hb d_M_times_43 (lv_at hl 1 rfl) ?_
      refine lv_iadd hx hb d_M_times_45 ?_
      refine lv_topi (fun z6 e_z6 => ?_)
      obtain rfl : z6 = (nI (240 * r + i)) := e_z6.trans (ts_ix r i)
      refine lv_lload hx hb d_M_times_46 (lv_at hl 0 rfl) ?_
      refine lv_ldc2 (v := 268435455) hx hb hown (hts (.constantLong R_M 23 268435455) (by decide +kernel)) d_M_times_48 ?_
      refine lv_land hx hb d_M_times_51 ?_
      refine lv_topl (fun z7 e_z7 => ?_)
      refine lv_l2i hx hb d_M_times_52 rfl ?_
      refine lv_topi (fun z8 e_z8 => ?_)
      refine va_iast (D := D) hx hb hK hP hD hS 1 2 rfl rfl (vp_in_nI (by omega) (by decide)) d_M_times_53 (fun H locs hP hD hS => ?_)
      have hP : va_P D vwCl [(h, .inr (2, [.int th, .ref pa, .ref ba])), (pa, .inl (cI, 2400, .inl (upd u (Int32.toNatClampNeg (nI (240 * r + i))) z8))), (ba, .inl (cZ, 10, .inl B))] H := hP
      have hD : va_D A [(h, .inr (2, [.int th, .ref pa, .ref ba])), (pa, .inl (cI, 2400, .inl (upd u (Int32.toNatClampNeg (nI (240 * r + i))) z8))), (ba, .inl (cZ, 10, .inl B))] := hD
      refine lv_lload hx hb d_M_times_54 (lv_at hl 0 rfl) ?_
      refine lv_bipush (v := 28) hx hb d_M_times_56 (by decide) ?_
      refine lv_lshr hx hb d_M_times_58 rfl ?_
      refine lv_topl (fun z9 e_z9 => ?_)
      refine lv_lstore_n (lv' := [(3, .long z9), (6, .long z5), (5, .int (nI i)), (0, .ref h), (1, .int (nI r)), (2, .int y)]) hx hb d_M_times_59 rfl hl (by decide) rfl (fun ls hl => ?_)
      refine lv_iinc (v := (nI (i + 1))) (lv' := [(5, .int (nI (i + 1))), (3, .long z9), (6, .long z5), (0, .ref h), (1, .int (nI r)), (2, .int y)]) hx hb d_M_times_60 hl (k := 2) rfl (nI_1 _) (by decide) rfl (fun ls hl => ?_)
      refine lv_goto (tgt := 5) hx hb d_M_times_63 (by decide) ?_
      refine ih (z9, (upd u (Int32.toNatClampNeg (nI (240 * r + i))) z8)) ?_ _ _ hP hD hS ls (lv_sub hl [0, 1, 3, 4, 5] rfl)
      subst e_v3 e_z4 e_z5 e_z7 e_z8 e_z9
      rw [nI_clamp (n := 240 * r + i) (by omega)]
      exact ts_TimI.step hr9 hy hi hI
  · intro ⟨x, u⟩ hI H locs hP hD hS ls hl
    have hl : lv_has ls 8 [(5, .int (nI 240)), (3, .long x), (0, .ref h), (1, .int (nI r)), (2, .int y)] := hl
    have hP : va_P D vwCl [(h, .inr (2, [.int th, .ref pa, .ref ba])), (pa, .inl (cI, 2400, .inl u)), (ba, .inl (cZ, 10, .inl B))] H := hP
    have hD : va_D A [(h, .inr (2, [.int th, .ref pa, .ref ba])), (pa, .inl (cI, 2400, .inl u)), (ba, .inl (cZ, 10, .inl B))] := hD
    refine lv_iload hx hb d_M_times_5 (lv_at hl 0 rfl) ?_
    refine lv_sipush (v := 240) hx hb d_M_times_7 (by decide) ?_
    refine lv_icmp_ge (tgt := 66) hx hb d_M_times_10 (by decide) (fun c10 => ?_) (fun c10 => ?_)
    · exact W.vret hx hb hr (fun t ht hW => ts_ret (u := u) hP hD hK hS ⟨rfl, ts_TimI.done hI hN⟩ ht hW) hS.2.2 d_M_times_66
    · exact absurd (nI_le (Nat.le_refl 240) (by decide)) c10

