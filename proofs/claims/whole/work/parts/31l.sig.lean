set_option maxHeartbeats 4000000 in
set_option maxRecDepth 100000 in
theorem c_W_signum (l : Launch) (D : va_G) (cL cA cI cZ : ClassId) (w a : Nat) (f : Nat → Int64) (x : Int) (hR : ts_R f x) (sz : Nat) : Met l y_W_signum w_W_signum (ts_rm 4) (va_Pc [.ref w] (ts_A D vwCl (ts_ty cL cA cI cZ) [(w, .inr (0, [.ref a])), (a, .inl (cL, 200, .inr (.inl f)))] sz)) (ts_Q (fun (v : Option Value) (u : Unit) => v = some (.int (ts_sg x))) (fun u => ts_B D vwCl (ts_ty cL cA cI cZ) (va_A [(w, .inr (0, [.ref a])), (a, .inl (cL, 200, .inr (.inl f)))] sz) ([(w, .inr (0, [.ref a])), (a, .inl (cL, 200, .inr (.inl f)))])) (va_A [(w, .inr (0, [.ref a])), (a, .inl (cL, 200, .inr (.inl f)))] sz)) 0 0 (va_A [(w, .inr (0, [.ref a])), (a, .inl (cL, 200, .inr (.inl f)))] sz) := by
  refine ts_met (cc := b_W_signum) (maxL := 1) (ret := (some .int)) (by decide) rfl (Nat.le_of_ble_eq_true rfl) ?_
  intro p e s m below meth c hx hb hr hml hown hts hlocks hname A hA hAe hK hP hD hS hsz ls hl
  have hown : s.vm.findClass R_W = some m.cls := hown
  have hl : lv_has ls 1 [(0, .ref w)] := hl
  have hP : va_P D vwCl [(w, .inr (0, [.ref a])), (a, .inl (cL, 200, .inr (.inl f)))] s.heap := hP
  have hD : va_D A [(w, .inr (0, [.ref a])), (a, .inl (cL, 200, .inr (.inl f)))] := hD
  refine lv_aload_n hx hb d_W_signum_0 rfl (lv_at hl 0 rfl) ?_
  refine va_get (D := D) (ci := 0) (v := .ref a) (C := R_W) (T := F_W) (N := 1) hx hb hts (by decide +kernel) hown hK hP 0 rfl rfl 0 (by decide) (hts (.fieldLink R_W 9 "TripleSums$Whole" "limbs" "[J") (by decide +kernel)) (fun _ h9 => h9) rfl d_W_signum_1 ?_
  refine lv_sipush (v := (nI 199)) hx hb d_W_signum_4 (by decide) ?_
  refine va_lald (D := D) hx hb hK hP 1 0 rfl rfl (vp_in_nI (by decide) (by decide)) d_W_signum_7 ?_
  refine lv_topl (fun v1 e_v1 => ?_)
  rw [nI_clamp (n := 199) (by decide)] at e_v1
  have hn := hR.neg
  have hb9 : uN (f 199) < 4294967296 := hR.1 199 (by decide)
  have hi9 := ts_uI (x := f 199) (by omega)
  have e2 : (2147483648 : Int64).toInt = 2147483648 := by decide +kernel
  refine lv_ldc2 (v := 2147483648) hx hb hown (hts (.constantLong R_W 32 2147483648) (by decide +kernel)) d_W_signum_8 ?_
  refine W.lcmp hx hb d_W_signum_11 ?_
  refine lv_if_lt (tgt := 17) hx hb d_W_signum_12 (by decide) (fun c2 => ?_) (fun c2 => ?_)
  · have hlt := (lg_cmp_lt _ _).mp c2
    rw [Int64.lt_iff_toInt_lt, e2, e_v1, hi9] at hlt
    have hge : ¬ x < 0 := fun q => by have := hn.mp q; omega
    refine lv_aload_n hx hb d_W_signum_17 rfl (lv_at hl 0 rfl) ?_
    refine ts_callV (rest := []) ⟨hx, hb, hml, hown, hts⟩ (c_W_highestPlace l D cL cA cI cZ w a f hR.1 _) (cwV 0 hts g_W_signum_W_highestPlace rfl rfl rfl (by decide +kernel) ⟨Nat.le_of_ble_eq_true rfl, Nat.le_of_ble_eq_true rfl⟩) hK hP hD hS hA hl.1 [0, 1] (by decide) rfl (va_recv hK hP (ci := 0) (q0 := 0) rfl rfl) (fun u => rfl) rfl rfl (Nat.le_of_ble_eq_true rfl) d_W_signum_18 ⟨Nat.zero_le _, Nat.zero_le _⟩ (fun v _u H locs hw hP hD hS => ?_)
    have hP : va_P D vwCl [(w, .inr (0, [.ref a])), (a, .inl (cL, 200, .inr (.inl f)))] H := hP
    have hD : va_D A [(w, .inr (0, [.ref a])), (a, .inl (cL, 200, .inr (.inl f)))] := hD
    obtain ⟨z, rfl, hz⟩ := hw
    show W _ _ _ _ _ _ _ _ _ _ _ _ _ _ _ (F0 m 21 ls [.int z])
    refine lv_ldc (v := (-100000)) hx hb hown (hts (.constant R_W 38 (-100000)) (by decide +kernel)) d_W_signum_21 ?_
    refine lv_icmp_ne (tgt := 30) hx hb d_W_signum_23 (by decide) (fun c3 => ?_) (fun c3 => ?_)
    · refine lv_iconst (v := 1) hx hb d_W_signum_30 (by decide) ?_
      exact W.iret (v := 1) hx hb hr (fun t ht hW => ts_ret (u := ()) hP hD hK hS (by unfold ts_sg; rw [if_neg hge, if_neg (fun q => c3 (ts_hp0 hz (hR.n0.mpr q)))]) ht hW) hS.2.2 d_W_signum_31
    · refine lv_iconst (v := 0) hx hb d_W_signum_26 (by decide) ?_
      refine lv_goto (tgt := 31) hx hb d_W_signum_27 (by decide) ?_
      exact W.iret (v := 0) hx hb hr (fun t ht hW => ts_ret (u := ()) hP hD hK hS (by unfold ts_sg; rw [if_neg hge, if_pos (hR.n0.mp (ts_hp1 hz c3))]) ht hW) hS.2.2 d_W_signum_31
  · have hge : (2147483648 : Int64) ≤ v1 := Int64.not_lt.mp (fun q => c2 ((lg_cmp_lt _ _).mpr q))
    rw [Int64.le_iff_toInt_le, e2, e_v1, hi9] at hge
    refine lv_iconst (v := (-1)) hx hb d_W_signum_15 (by decide) ?_
    exact W.iret (v := (-1)) hx hb hr (fun t ht hW => ts_ret (u := ()) hP hD hK hS (by unfold ts_sg; rw [if_pos (hn.mpr (by omega))]) ht hW) hS.2.2 d_W_signum_16

set_option maxHeartbeats 4000000 in
set_option maxRecDepth 100000 in
theorem c_W_copyFrom (l : Launch) (D : va_G) (cL cA cI cZ : ClassId) (w a w2 a2 : Nat) (f g : Nat → Int64) (sz : Nat) : Met l y_W_copyFrom w_W_copyFrom (ts_rm 2) (va_Pc [.ref w, .ref w2] (ts_A D vwCl (ts_ty cL cA cI cZ) [(w, .inr (0, [.ref a])), (a, .inl (cL, 200, .inr (.inl f))), (w2, .inr (0, [.ref a2])), (a2, .inl (cL, 200, .inr (.inl g)))] sz)) (ts_Q (fun (v : Option Value) (u : Nat → Int64) => v = none ∧ ∀ k, k < 200 → u k = g k) (fun u => ts_B D vwCl (ts_ty cL cA cI cZ) (va_A [(w, .inr (0, [.ref a])), (a, .inl (cL, 200, .inr (.inl f))), (w2, .inr (0, [.ref a2])), (a2, .inl (cL, 200, .inr (.inl g)))] sz) ([(w, .inr (0, [.ref a])), (a, .inl (cL, 200, .inr (.inl u))), (w2, .inr (0, [.ref a2])), (a2, .inl (cL, 200, .inr (.inl g)))])) (va_A [(w, .inr (0, [.ref a])), (a, .inl (cL, 200, .inr (.inl f))), (w2, .inr (0, [.ref a2])), (a2, .inl (cL, 200, .inr (.inl g)))] sz)) 0 0 (va_A [(w, .inr (0, [.ref a])), (a, .inl (cL, 200, .inr (.inl f))), (w2, .inr (0, [.ref a2])), (a2, .inl (cL, 200, .inr (.inl g)))] sz) := by
  refine ts_met (cc := b_W_copyFrom) (maxL := 2) (ret := none) (by decide) rfl (Nat.le_of_ble_eq_true rfl) ?_
  intro p e s m below meth c hx hb hr hml hown hts hlocks hname A hA hAe hK hP hD hS hsz ls hl
  have hown : s.vm.findClass R_W = some m.cls := hown
  have hl : lv_has ls 2 [(0, .ref w), (1, .ref w2)] := hl
  have hP : va_P D vwCl [(w, .inr (0, [.ref a])), (a, .inl (cL, 200, .inr (.inl f))), (w2, .inr (0, [.ref a2])), (a2, .inl (cL, 200, .inr (.inl g)))] s.heap := hP
  have hD : va_D A [(w, .inr (0, [.ref a])), (a, .inl (cL, 200, .inr (.inl f))), (w2, .inr (0, [.ref a2])), (a2, .inl (cL, 200, .inr (.inl g)))] := hD
  refine lv_aload_n hx hb d_W_copyFrom_0 rfl (lv_at hl 1 rfl) ?_
  refine va_get (D := D) (ci := 0) (v := .ref a2) (C := R_W) (T := F_W) (N := 1) hx hb hts (by decide +kernel) hown hK hP 2 rfl rfl 0 (by decide) (hts (.fieldLink R_W 9 "TripleSums$Whole" "limbs" "[J") (by decide +kernel)) (fun _ h9 => h9) rfl d_W_copyFrom_1 ?_
  refine lv_iconst (v := 0) hx hb d_W_copyFrom_4 (by decide) ?_
  refine lv_aload_n hx hb d_W_copyFrom_5 rfl (lv_at hl 0 rfl) ?_
  refine va_get (D := D) (ci := 0) (v := .ref a) (C := R_W) (T := F_W) (N := 1) hx hb hts (by decide +kernel) hown hK hP 0 rfl rfl 0 (by decide) (hts (.fieldLink R_W 9 "TripleSums$Whole" "limbs" "[J") (by decide +kernel)) (fun _ h9 => h9) rfl d_W_copyFrom_6 ?_
  refine lv_iconst (v := 0) hx hb d_W_copyFrom_9 (by decide) ?_
  refine lv_sipush (v := 200) hx hb d_W_copyFrom_10 (by decide) ?_
  refine va_copyl (D := D) hx hb (hml.trans hl.1.symm) hown (hts (.methodLink R_W 24 arraycopyName) (by decide +kernel)) (hts (.native arraycopyName) (by decide +kernel)) (hts (.static arraycopyName) (by decide +kernel)) (hts (.initialized "java/lang/System") (by decide +kernel)) hK hP hD hS 3 1 0 0 rfl rfl rfl rfl rfl (by decide) (by decide) (by decide) (by decide) (by decide) (fun _ _ => rfl) (Nat.le_of_ble_eq_true rfl) (Nat.le_of_ble_eq_true rfl) d_W_copyFrom_13 (fun H locs hP hD hS => ?_)
  have hP : va_P D vwCl [(w, .inr (0, [.ref a])), (a, .inl (cL, 200, .inr (.inl (va_cpy g f 0 0 200)))), (w2, .inr (0, [.ref a2])), (a2, .inl (cL, 200, .inr (.inl g)))] H := hP
  have hD : va_D A [(w, .inr (0, [.ref a])), (a, .inl (cL, 200, .inr (.inl (va_cpy g f 0 0 200)))), (w2, .inr (0, [.ref a2])), (a2, .inl (cL, 200, .inr (.inl g)))] := hD
  exact W.vret hx hb hr (fun t ht hW => ts_ret (u := (va_cpy g f 0 0 200)) hP hD hK hS ⟨rfl, fun k hk => (pk_cpy_in (Nat.zero_le _) (by omega)).trans (by rw [Nat.zero_add, Nat.sub_zero])⟩ ht hW) hS.2.2 d_W_copyFrom_16

