set_option maxHeartbeats 4000000 in
set_option maxRecDepth 100000 in
theorem c_W_limbAt (l : Launch) (D : va_G) (cL cA cI cZ : ClassId) (w a : Nat) (f : Nat → Int64) (k : Int32) (sz : Nat) : Met l y_W_limbAt w_W_limbAt (ts_rm 1) (va_Pc [.ref w, .int k] (ts_A D vwCl (ts_ty cL cA cI cZ) [(w, .inr (0, [.ref a])), (a, .inl (cL, 200, .inr (.inl f)))] sz)) (ts_Q (fun (v : Option Value) (u : Unit) => ∃ r : Int64, v = some (.long r) ∧ uN r = ts_la f k.toInt) (fun u => ts_B D vwCl (ts_ty cL cA cI cZ) (va_A [(w, .inr (0, [.ref a])), (a, .inl (cL, 200, .inr (.inl f)))] sz) ([(w, .inr (0, [.ref a])), (a, .inl (cL, 200, .inr (.inl f)))])) (va_A [(w, .inr (0, [.ref a])), (a, .inl (cL, 200, .inr (.inl f)))] sz)) 0 0 (va_A [(w, .inr (0, [.ref a])), (a, .inl (cL, 200, .inr (.inl f)))] sz) := by
  refine ts_met (cc := b_W_limbAt) (maxL := 2) (ret := (some .long)) (by decide) rfl (Nat.le_of_ble_eq_true rfl) ?_
  intro p e s m below meth c hx hb hr hml hown hts hlocks hname A hA hAe hK hP hD hS hsz ls hl
  have hown : s.vm.findClass R_W = some m.cls := hown
  have hl : lv_has ls 2 [(0, .ref w), (1, .int k)] := hl
  have hP : va_P D vwCl [(w, .inr (0, [.ref a])), (a, .inl (cL, 200, .inr (.inl f)))] s.heap := hP
  have hD : va_D A [(w, .inr (0, [.ref a])), (a, .inl (cL, 200, .inr (.inl f)))] := hD
  refine lv_iload_n hx hb d_W_limbAt_0 rfl (lv_at hl 1 rfl) ?_
  refine lv_if_lt (tgt := 20) hx hb d_W_limbAt_1 (by decide) (fun c1 => ?_) (fun c1 => ?_)
  · refine lv_lconst (v := 0) hx hb d_W_limbAt_20 (by decide) ?_
    exact W.lret (v := 0) hx hb hr (fun t ht hW => ts_ret (u := ()) hP hD hK hS ⟨_, rfl, ts_la_out (Or.inl c1)⟩ ht hW) hS.2.2 d_W_limbAt_21
  · refine lv_iload_n hx hb d_W_limbAt_4 rfl (lv_at hl 1 rfl) ?_
    refine lv_sipush (v := 200) hx hb d_W_limbAt_5 (by decide) ?_
    refine lv_icmp_ge (tgt := 20) hx hb d_W_limbAt_8 (by decide) (fun c2 => ?_) (fun c2 => ?_)
    · refine lv_lconst (v := 0) hx hb d_W_limbAt_20 (by decide) ?_
      exact W.lret (v := 0) hx hb hr (fun t ht hW => ts_ret (u := ()) hP hD hK hS ⟨_, rfl, ts_la_out (Or.inr c2)⟩ ht hW) hS.2.2 d_W_limbAt_21
    · have hin := ts_in200 c1 c2
      refine lv_aload_n hx hb d_W_limbAt_11 rfl (lv_at hl 0 rfl) ?_
      refine va_get (D := D) (ci := 0) (v := .ref a) (C := R_W) (T := F_W) (N := 1) hx hb hts (by decide +kernel) hown hK hP 0 rfl rfl 0 (by decide) (hts (.fieldLink R_W 9 "TripleSums$Whole" "limbs" "[J") (by decide +kernel)) (fun _ h9 => h9) rfl d_W_limbAt_12 ?_
      refine lv_iload_n hx hb d_W_limbAt_15 rfl (lv_at hl 1 rfl) ?_
      refine va_lald (D := D) hx hb hK hP 1 0 rfl rfl hin d_W_limbAt_16 ?_
      refine lv_goto (tgt := 21) hx hb d_W_limbAt_17 (by decide) ?_
      exact W.lret (v := (f (Int32.toNatClampNeg k))) hx hb hr (fun t ht hW => ts_ret (u := ()) hP hD hK hS ⟨_, rfl, ts_la_in hin⟩ ht hW) hS.2.2 d_W_limbAt_21

