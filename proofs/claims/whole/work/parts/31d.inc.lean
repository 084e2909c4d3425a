set_option maxHeartbeats 4000000 in
set_option maxRecDepth 100000 in
theorem c_W_increase (l : Launch) (D : va_G) (cL cA cI cZ : ClassId) (w a w2 a2 : Nat) (f g : Nat → Int64) (t : Int32) (ht : -1048576 ≤ t.toInt ∧ t.toInt ≤ 1048576) (hf : ts_ok f) (hg : ts_ok g) (sz : Nat) : Met l y_W_increase w_W_increase (ts_rm 1) (va_Pc [.ref w, .ref w2, .int t] (ts_A D vwCl (ts_ty cL cA cI cZ) [(w, .inr (0, [.ref a])), (a, .inl (cL, 200, .inr (.inl f))), (w2, .inr (0, [.ref a2])), (a2, .inl (cL, 200, .inr (.inl g)))] sz)) (ts_Q (fun (v : Option Value) (u : Nat → Int64) => v = none ∧ ts_ok u ∧ ∃ q : Int, (ts_n u : Int) + q * (ts_M : Int) = (ts_n f : Int) + t.toInt * (ts_n g : Int)) (fun u => ts_B D vwCl (ts_ty cL cA cI cZ) (va_A [(w, .inr (0, [.ref a])), (a, .inl (cL, 200, .inr (.inl f))), (w2, .inr (0, [.ref a2])), (a2, .inl (cL, 200, .inr (.inl g)))] sz) ([(w, .inr (0, [.ref a])), (a, .inl (cL, 200, .inr (.inl u))), (w2, .inr (0, [.ref a2])), (a2, .inl (cL, 200, .inr (.inl g)))])) (va_A [(w, .inr (0, [.ref a])), (a, .inl (cL, 200, .inr (.inl f))), (w2, .inr (0, [.ref a2])), (a2, .inl (cL, 200, .inr (.inl g)))] sz)) 0 0 (va_A [(w, .inr (0, [.ref a])), (a, .inl (cL, 200, .inr (.inl f))), (w2, .inr (0, [.ref a2])), (a2, .inl (cL, 200, .inr (.inl g)))] sz) := by
  refine ts_met (cc := b_W_increase) (maxL := 8) (ret := none) (by decide) rfl (Nat.le_of_ble_eq_true rfl) ?_
  intro p e s m below meth c hx hb hr hml hown hts hlocks hname A hA hAe hK hP hD hS hsz ls hl
  have hown : s.vm.findClass R_W = some m.cls := hown
  have hl : lv_has ls 8 [(0, .ref w), (1, .ref w2), (2, .int t)] := hl
  have hP : va_P D vwCl [(w, .inr (0, [.ref a])), (a, .inl (cL, 200, .inr (.inl f))), (w2, .inr (0, [.ref a2])), (a2, .inl (cL, 200, .inr (.inl g)))] s.heap := hP
  have hD : va_D A [(w, .inr (0, [.ref a])), (a, .inl (cL, 200, .inr (.inl f))), (w2, .inr (0, [.ref a2])), (a2, .inl (cL, 200, .inr (.inl g)))] := hD
  refine lv_lconst (v := 0) hx hb d_W_increase_0 (by decide) ?_
  refine lv_lstore_n (lv' := [(3, .long 0), (0, .ref w), (1, .ref w2), (2, .int t)]) hx hb d_W_increase_1 rfl hl (by decide) rfl (fun ls hl => ?_)
  refine lv_iconst (v := (nI 0)) hx hb d_W_increase_2 (by decide) ?_
  refine lv_istore (lv' := [(5, .int (nI 0)), (3, .long 0), (0, .ref w), (1, .ref w2), (2, .int t)]) hx hb d_W_increase_3 hl (by decide) rfl (fun ls hl => ?_)
  refine ts_lp (H0 := s.heap) (D := D) (cl := vwCl) (A := A) (nL := 8) 200 (fun (i : Nat) (q : Int64 × (Nat → Int64)) => ts_IncI f g t.toInt i q.1 q.2) (fun (i : Nat) (q : Int64 × (Nat → Int64)) => [(w, .inr (0, [.ref a])), (a, .inl (cL, 200, .inr (.inl q.2))), (w2, .inr (0, [.ref a2])), (a2, .inl (cL, 200, .inr (.inl g)))]) (fun (i : Nat) (q : Int64 × (Nat → Int64)) => [(5, .int (nI i)), (3, .long q.1), (0, .ref w), (1, .ref w2), (2, .int t)]) 0 (0, f) ?_ ?_ (by omega) (ts_IncI.zero hf) hP hD hS (lv_sub hl [0, 1, 2, 3, 4] rfl)
  · intro i ⟨x, u⟩ hi hI ih H locs hP hD hS ls hl
    have hl : lv_has ls 8 [(5, .int (nI i)), (3, .long x), (0, .ref w), (1, .ref w2), (2, .int t)] := hl
    have hP : va_P D vwCl [(w, .inr (0, [.ref a])), (a, .inl (cL, 200, .inr (.inl u))), (w2, .inr (0, [.ref a2])), (a2, .inl (cL, 200, .inr (.inl g)))] H := hP
    have hD : va_D A [(w, .inr (0, [.ref a])), (a, .inl (cL, 200, .inr (.inl u))), (w2, .inr (0, [.ref a2])), (a2, .inl (cL, 200, .inr (.inl g)))] := hD
    refine lv_iload hx hb d_W_increase_5 (lv_at hl 0 rfl) ?_
    refine lv_sipush (v := 200) hx hb d_W_increase_7 (by decide) ?_
    refine lv_icmp_ge (tgt := 60) hx hb d_W_increase_10 (by decide) (fun c1 => ?_) (fun c1 => ?_)
    · exact absurd c1 (nI_ge hi (by decide))
    · refine lv_aload_n hx hb d_W_increase_13 rfl (lv_at hl 2 rfl) ?_
      refine va_get (D := D) (ci := 0) (v := .ref a) (C := R_W) (T := F_W) (N := 1) hx hb hts (by decide +kernel) hown hK hP 0 rfl rfl 0 (by decide) (hts (.fieldLink R_W 9 "TripleSums$Whole" "limbs" "[J") (by decide +kernel)) (fun _ h9 => h9) rfl d_W_increase_14 ?_
      refine lv_iload hx hb d_W_increase_17 (lv_at hl 0 rfl) ?_
      refine va_lald (D := D) hx hb hK hP 1 0 rfl rfl (vp_in_nI hi (by decide)) d_W_increase_19 ?_
      refine lv_topl (fun v2 e_v2 => ?_)
      refine lv_aload_n hx hb d_W_increase_20 rfl (lv_at hl 3 rfl) ?_
      refine va_get (D := D) (ci := 0) (v := .ref a2) (C := R_W) (T := F_W) (N := 1) hx hb hts (by decide +kernel) hown hK hP 2 rfl rfl 0 (by decide) (hts (.fieldLink R_W 9 "TripleSums$Whole" "limbs" "[J") (by decide +kernel)) (fun _ h9 => h9) rfl d_W_increase_21 ?_
      refine lv_iload hx hb d_W_increase_24 (lv_at hl 0 rfl) ?_
      refine va_lald (D := D) hx hb hK hP 3 0 rfl rfl (vp_in_nI hi (by decide)) d_W_increase_26 ?_
      refine lv_topl (fun v3 e_v3 => ?_)
      refine lv_iload_n hx hb d_W_increase_27 rfl (lv_at hl 4 rfl) ?_
      refine lv_i2l hx hb d_W_increase_28 rfl ?_
      refine lv_lmul hx hb d_W_increase_29 ?_
      refine lv_topl (fun z4 e_z4 => ?_)
      refine lv_ladd hx hb d_W_increase_30 ?_
      refine lv_topl (fun z5 e_z5 => ?_)
      refine lv_lload_n hx hb d_W_increase_31 rfl (lv_at hl 1 rfl) ?_
      refine lv_ladd hx hb d_W_increase_32 ?_
      refine lv_topl (fun z6 e_z6 => ?_)
      refine lv_lstore (lv' := [(6, .long z6), (5, .int (nI i)), (3, .long x), (0, .ref w), (1, .ref w2), (2, .int t)]) hx hb d_W_increase_33 hl (by decide) rfl (fun ls hl => ?_)
      refine lv_aload_n hx hb d_W_increase_35 rfl (lv_at hl 3 rfl) ?_
      refine va_get (D := D) (ci := 0) (v := .ref a) (C := R_W) (T := F_W) (N := 1) hx hb hts (by decide +kernel) hown hK hP 0 rfl rfl 0 (by decide) (hts (.fieldLink R_W 9 "TripleSums$Whole" "limbs" "[J") (by decide +kernel)) (fun _ h9 => h9) rfl d_W_increase_36 ?_
      refine lv_iload hx hb d_W_increase_39 (lv_at hl 1 rfl) ?_
      refine lv_lload hx hb d_W_increase_41 (lv_at hl 0 rfl) ?_
      refine lv_ldc2 (v := 4294967295) hx hb hown (hts (.constantLong R_W 30 4294967295) (by decide +kernel)) d_W_increase_43 ?_
      refine lv_land hx hb d_W_increase_46 ?_
      refine lv_topl (fun z7 e_z7 => ?_)
      refine va_last (D := D) hx hb hK hP hD hS 1 0 rfl rfl (vp_in_nI hi (by decide)) d_W_increase_47 (fun H locs hP hD hS => ?_)
      have hP : va_P D vwCl [(w, .inr (0, [.ref a])), (a, .inl (cL, 200, .inr (.inl (vp_updL u (Int32.toNatClampNeg (nI i)) z7)))), (w2, .inr (0, [.ref a2])), (a2, .inl (cL, 200, .inr (.inl g)))] H := hP
      have hD : va_D A [(w, .inr (0, [.ref a])), (a, .inl (cL, 200, .inr (.inl (vp_updL u (Int32.toNatClampNeg (nI i)) z7)))), (w2, .inr (0, [.ref a2])), (a2, .inl (cL, 200, .inr (.inl g)))] := hD
      refine lv_lload hx hb d_W_increase_48 (lv_at hl 0 rfl) ?_
      refine lv_bipush (v := 32) hx hb d_W_increase_50 (by decide) ?_
      refine lv_lshr hx hb d_W_increase_52 rfl ?_
      refine lv_topl (fun z8 e_z8 => ?_)
      refine lv_lstore_n (lv' := [(3, .long z8), (6, .long z6), (5, .int (nI i)), (0, .ref w), (1, .ref w2), (2, .int t)]) hx hb d_W_increase_53 rfl hl (by decide) rfl (fun ls hl => ?_)
      refine lv_iinc (v := (nI (i + 1))) (lv' := [(5, .int (nI (i + 1))), (3, .long z8), (6, .long z6), (0, .ref w), (1, .ref w2), (2, .int t)]) hx hb d_W_increase_54 hl (k := 2) rfl (nI_1 _) (by decide) rfl (fun ls hl => ?_)
      refine lv_goto (tgt := 5) hx hb d_W_increase_57 (by decide) ?_
      refine ih (z8, (vp_updL u (Int32.toNatClampNeg (nI i)) z7)) ?_ _ _ hP hD hS ls (lv_sub hl [0, 1, 3, 4, 5] rfl)
      subst e_v2 e_v3 e_z4 e_z5 e_z6 e_z7 e_z8
      rw [nI_clamp (n := i) (by omega)]
      exact ts_IncI.step ht hf hg hi hI
  · intro ⟨x, u⟩ hI H locs hP hD hS ls hl
    have hl : lv_has ls 8 [(5, .int (nI 200)), (3, .long x), (0, .ref w), (1, .ref w2), (2, .int t)] := hl
    have hP : va_P D vwCl [(w, .inr (0, [.ref a])), (a, .inl (cL, 200, .inr (.inl u))), (w2, .inr (0, [.ref a2])), (a2, .inl (cL, 200, .inr (.inl g)))] H := hP
    have hD : va_D A [(w, .inr (0, [.ref a])), (a, .inl (cL, 200, .inr (.inl u))), (w2, .inr (0, [.ref a2])), (a2, .inl (cL, 200, .inr (.inl g)))] := hD
    refine lv_iload hx hb d_W_increase_5 (lv_at hl 0 rfl) ?_
    refine lv_sipush (v := 200) hx hb d_W_increase_7 (by decide) ?_
    refine lv_icmp_ge (tgt := 60) hx hb d_W_increase_10 (by decide) (fun c9 => ?_) (fun c9 => ?_)
    · exact W.vret hx hb hr (fun t ht hW => ts_ret (u := u) hP hD hK hS ⟨rfl, ts_IncI.done hI⟩ ht hW) hS.2.2 d_W_increase_60
    · exact absurd (nI_le (Nat.le_refl 200) (by decide)) c9

