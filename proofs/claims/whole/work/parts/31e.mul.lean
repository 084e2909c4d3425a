set_option maxHeartbeats 4000000 in
set_option maxRecDepth 100000 in
theorem c_W_multiply (l : Launch) (D : va_G) (cL cA cI cZ : ClassId) (w a : Nat) (f : Nat → Int64) (x : Int64) (hx9 : uN x < 9007199254740992) (hf : ts_ok f) (sz : Nat) : Met l y_W_multiply w_W_multiply (ts_rm 1) (va_Pc [.ref w, .long x] (ts_A D vwCl (ts_ty cL cA cI cZ) [(w, .inr (0, [.ref a])), (a, .inl (cL, 200, .inr (.inl f)))] sz)) (ts_Q (fun (v : Option Value) (u : Nat → Int64) => v = none ∧ ts_ok u ∧ ∃ k : Nat, ts_n u + k * ts_M = uN x * ts_n f) (fun u => ts_B D vwCl (ts_ty cL cA cI cZ) (va_A [(w, .inr (0, [.ref a])), (a, .inl (cL, 200, .inr (.inl f)))] sz) ([(w, .inr (0, [.ref a])), (a, .inl (cL, 200, .inr (.inl u)))])) (va_A [(w, .inr (0, [.ref a])), (a, .inl (cL, 200, .inr (.inl f)))] sz)) 0 0 (va_A [(w, .inr (0, [.ref a])), (a, .inl (cL, 200, .inr (.inl f)))] sz) := by
  refine ts_met (cc := b_W_multiply) (maxL := 12) (ret := none) (by decide) rfl (Nat.le_of_ble_eq_true rfl) ?_
  intro p e s m below meth c hx hb hr hml hown hts hlocks hname A hA hAe hK hP hD hS hsz ls hl
  have hown : s.vm.findClass R_W = some m.cls := hown
  have hl : lv_has ls 12 [(0, .ref w), (1, .long x)] := hl
  have hP : va_P D vwCl [(w, .inr (0, [.ref a])), (a, .inl (cL, 200, .inr (.inl f)))] s.heap := hP
  have hD : va_D A [(w, .inr (0, [.ref a])), (a, .inl (cL, 200, .inr (.inl f)))] := hD
  refine lv_lload_n hx hb d_W_multiply_0 rfl (lv_at hl 1 rfl) ?_
  refine lv_ldc2 (v := 4294967295) hx hb hown (hts (.constantLong R_W 30 4294967295) (by decide +kernel)) d_W_multiply_1 ?_
  refine lv_land hx hb d_W_multiply_4 ?_
  refine lv_topl (fun z1 e_z1 => ?_)
  refine lv_lstore_n (lv' := [(3, .long z1), (0, .ref w), (1, .long x)]) hx hb d_W_multiply_5 rfl hl (by decide) rfl (fun ls hl => ?_)
  refine lv_lload_n hx hb d_W_multiply_6 rfl (lv_at hl 2 rfl) ?_
  refine lv_bipush (v := 32) hx hb d_W_multiply_7 (by decide) ?_
  refine lv_lushr hx hb d_W_multiply_9 rfl ?_
  refine lv_topl (fun z2 e_z2 => ?_)
  refine lv_lstore (lv' := [(5, .long z2), (3, .long z1), (0, .ref w), (1, .long x)]) hx hb d_W_multiply_10 hl (by decide) rfl (fun ls hl => ?_)
  refine lv_lconst (v := 0) hx hb d_W_multiply_12 (by decide) ?_
  refine lv_lstore (lv' := [(7, .long 0), (5, .long z2), (3, .long z1), (0, .ref w), (1, .long x)]) hx hb d_W_multiply_13 hl (by decide) rfl (fun ls hl => ?_)
  have hfl : uN z1 < 4294967296 := by rw [e_z1, uN_lo]; omega
  have hfh : uN z2 < 2097152 := by rw [e_z2, uN_s32]; omega
  have hxe : uN x = uN z1 + 4294967296 * uN z2 := by rw [e_z1, e_z2, uN_lo, uN_s32]; omega
  refine lv_iconst (v := (nI 0)) hx hb d_W_multiply_15 (by decide) ?_
  refine lv_istore (lv' := [(9, .int (nI 0)), (7, .long 0), (5, .long z2), (3, .long z1), (0, .ref w), (1, .long x)]) hx hb d_W_multiply_16 hl (by decide) rfl (fun ls hl => ?_)
  refine ts_lp (H0 := s.heap) (D := D) (cl := vwCl) (A := A) (nL := 12) 200 (fun (i : Nat) (q : Int64 × (Nat → Int64)) => ts_MulI f (uN z1 + 4294967296 * uN z2) i q.1 q.2) (fun (i : Nat) (q : Int64 × (Nat → Int64)) => [(w, .inr (0, [.ref a])), (a, .inl (cL, 200, .inr (.inl q.2)))]) (fun (i : Nat) (q : Int64 × (Nat → Int64)) => [(9, .int (nI i)), (7, .long q.1), (3, .long z1), (5, .long z2), (0, .ref w)]) 0 (0, f) ?_ ?_ (by omega) (ts_MulI.zero hf) hP hD hS (lv_sub hl [0, 1, 3, 2, 4] rfl)
  · intro i ⟨y, u⟩ hi hI ih H locs hP hD hS ls hl
    have hl : lv_has ls 12 [(9, .int (nI i)), (7, .long y), (3, .long z1), (5, .long z2), (0, .ref w)] := hl
    have hP : va_P D vwCl [(w, .inr (0, [.ref a])), (a, .inl (cL, 200, .inr (.inl u)))] H := hP
    have hD : va_D A [(w, .inr (0, [.ref a])), (a, .inl (cL, 200, .inr (.inl u)))] := hD
    refine lv_iload hx hb d_W_multiply_18 (lv_at hl 0 rfl) ?_
    refine lv_sipush (v := 200) hx hb d_W_multiply_20 (by decide) ?_
    refine lv_icmp_ge (tgt := 87) hx hb d_W_multiply_23 (by decide) (fun c3 => ?_) (fun c3 => ?_)
    · exact absurd c3 (nI_ge hi (by decide))
    · refine lv_aload_n hx hb d_W_multiply_26 rfl (lv_at hl 4 rfl) ?_
      refine va_get (D := D) (ci := 0) (v := .ref a) (C := R_W) (T := F_W) (N := 1) hx hb hts (by decide +kernel) hown hK hP 0 rfl rfl 0 (by decide) (hts (.fieldLink R_W 9 "TripleSums$Whole" "limbs" "[J") (by decide +kernel)) (fun _ h9 => h9) rfl d_W_multiply_27 ?_
      refine lv_iload hx hb d_W_multiply_30 (lv_at hl 0 rfl) ?_
      refine va_lald (D := D) hx hb hK hP 1 0 rfl rfl (vp_in_nI hi (by decide)) d_W_multiply_32 ?_
      refine lv_topl (fun v4 e_v4 => ?_)
      refine lv_lload_n hx hb d_W_multiply_33 rfl (lv_at hl 2 rfl) ?_
      refine lv_lmul hx hb d_W_multiply_34 ?_
      refine lv_topl (fun z5 e_z5 => ?_)
      refine lv_lload hx hb d_W_multiply_35 (lv_at hl 1 rfl) ?_
      refine lv_ldc2 (v := 4294967295) hx hb hown (hts (.constantLong R_W 30 4294967295) (by decide +kernel)) d_W_multiply_37 ?_
      refine lv_land hx hb d_W_multiply_40 ?_
      refine lv_topl (fun z6 e_z6 => ?_)
      refine lv_ladd hx hb d_W_multiply_41 ?_
      refine lv_topl (fun z7 e_z7 => ?_)
      refine lv_lstore (lv' := [(10, .long z7), (9, .int (nI i)), (7, .long y), (3, .long z1), (5, .long z2), (0, .ref w)]) hx hb d_W_multiply_42 hl (by decide) rfl (fun ls hl => ?_)
      refine lv_aload_n hx hb d_W_multiply_44 rfl (lv_at hl 5 rfl) ?_
      refine va_get (D := D) (ci := 0) (v := .ref a) (C := R_W) (T := F_W) (N := 1) hx hb hts (by decide +kernel) hown hK hP 0 rfl rfl 0 (by decide) (hts (.fieldLink R_W 9 "TripleSums$Whole" "limbs" "[J") (by decide +kernel)) (fun _ h9 => h9) rfl d_W_multiply_45 ?_
      refine lv_iload hx hb d_W_multiply_48 (lv_at hl 1 rfl) ?_
      refine va_lald (D := D) hx hb hK hP 1 0 rfl rfl (vp_in_nI hi (by decide)) d_W_multiply_50 ?_
      refine lv_topl (fun v8 e_v8 => ?_)
      refine lv_lload hx hb d_W_multiply_51 (lv_at hl 4 rfl) ?_
      refine lv_lmul hx hb d_W_multiply_53 ?_
      refine lv_topl (fun z9 e_z9 => ?_)
      refine lv_lload hx hb d_W_multiply_54 (lv_at hl 2 rfl) ?_
      refine lv_bipush (v := 32) hx hb d_W_multiply_56 (by decide) ?_
      refine lv_lushr hx hb d_W_multiply_58 rfl ?_
      refine lv_topl (fun z10 e_z10 => ?_)
      refine lv_ladd hx hb d_W_multiply_59 ?_
      refine lv_topl (fun z11 e_z11 => ?_)
      refine lv_lload hx hb d_W_multiply_60 (lv_at hl 0 rfl) ?_
      refine lv_bipush (v := 32) hx hb d_W_multiply_62 (by decide) ?_
      refine lv_lushr hx hb d_W_multiply_64 rfl ?_
      refine lv_topl (fun z12 e_z12 => ?_)
      refine lv_ladd hx hb d_W_multiply_65 ?_
      refine lv_topl (fun z13 e_z13 => ?_)
      refine lv_lstore (lv' := [(7, .long z13), (10, .long z7), (9, .int (nI i)), (3, .long z1), (5, .long z2), (0, .ref w)]) hx hb d_W_multiply_66 hl (by decide) rfl (fun ls hl => ?_)
      refine lv_aload_n hx hb d_W_multiply_68 rfl (lv_at hl 5 rfl) ?_
      refine va_get (D := D) (ci := 0) (v := .ref a) (C := R_W) (T := F_W) (N := 1) hx hb hts (by decide +kernel) hown hK hP 0 rfl rfl 0 (by decide) (hts (.fieldLink R_W 9 "TripleSums$Whole" "limbs" "[J") (by decide +kernel)) (fun _ h9 => h9) rfl d_W_multiply_69 ?_
      refine lv_iload hx hb d_W_multiply_72 (lv_at hl 2 rfl) ?_
      refine lv_lload hx hb d_W_multiply_74 (lv_at hl 1 rfl) ?_
      refine lv_ldc2 (v := 4294967295) hx hb hown (hts (.constantLong R_W 30 4294967295) (by decide +kernel)) d_W_multiply_76 ?_
      refine lv_land hx hb d_W_multiply_79 ?_
      refine lv_topl (fun z14 e_z14 => ?_)
      refine va_last (D := D) hx hb hK hP hD hS 1 0 rfl rfl (vp_in_nI hi (by decide)) d_W_multiply_80 (fun H locs hP hD hS => ?_)
      have hP : va_P D vwCl [(w, .inr (0, [.ref a])), (a, .inl (cL, 200, .inr (.inl (vp_updL u (Int32.toNatClampNeg (nI i)) z14))))] H := hP
      have hD : va_D A [(w, .inr (0, [.ref a])), (a, .inl (cL, 200, .inr (.inl (vp_updL u (Int32.toNatClampNeg (nI i)) z14))))] := hD
      refine lv_iinc (v := (nI (i + 1))) (lv' := [(9, .int (nI (i + 1))), (7, .long z13), (10, .long z7), (3, .long z1), (5, .long z2), (0, .ref w)]) hx hb d_W_multiply_81 hl (k := 2) rfl (nI_1 _) (by decide) rfl (fun ls hl => ?_)
      refine lv_goto (tgt := 18) hx hb d_W_multiply_84 (by decide) ?_
      refine ih (z13, (vp_updL u (Int32.toNatClampNeg (nI i)) z14)) ?_ _ _ hP hD hS ls (lv_sub hl [0, 1, 3, 4, 5] rfl)
      subst e_v4 e_z5 e_z6 e_z7 e_v8 e_z9 e_z10 e_z11 e_z12 e_z13 e_z14
      rw [nI_clamp (n := i) (by omega)]
      exact ts_MulI.step hfl hfh hi hI
  · intro ⟨y, u⟩ hI H locs hP hD hS ls hl
    have hl : lv_has ls 12 [(9, .int (nI 200)), (7, .long y), (3, .long z1), (5, .long z2), (0, .ref w)] := hl
    have hP : va_P D vwCl [(w, .inr (0, [.ref a])), (a, .inl (cL, 200, .inr (.inl u)))] H := hP
    have hD : va_D A [(w, .inr (0, [.ref a])), (a, .inl (cL, 200, .inr (.inl u)))] := hD
    refine lv_iload hx hb d_W_multiply_18 (lv_at hl 0 rfl) ?_
    refine lv_sipush (v := 200) hx hb d_W_multiply_20 (by decide) ?_
    refine lv_icmp_ge (tgt := 87) hx hb d_W_multiply_23 (by decide) (fun c15 => ?_) (fun c15 => ?_)
    · exact W.vret hx hb hr (fun t ht hW => ts_ret (u := u) hP hD hK hS ⟨rfl, by rw [hxe]; exact ts_MulI.done hI⟩ ht hW) hS.2.2 d_W_multiply_87
    · exact absurd (nI_le (Nat.le_refl 200) (by decide)) c15

