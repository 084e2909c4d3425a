set_option maxHeartbeats 4000000 in
set_option maxRecDepth 100000 in
theorem c_W_setPowerOfTwo (l : Launch) (D : va_G) (cL cA cI cZ : ClassId) (w a : Nat) (f : Nat → Int64) (n : Nat) (hn : n < 6400) (sz : Nat) : Met l y_W_setPowerOfTwo w_W_setPowerOfTwo (ts_rm 3) (va_Pc [.ref w, .int (nI n)] (ts_A D vwCl (ts_ty cL cA cI cZ) [(w, .inr (0, [.ref a])), (a, .inl (cL, 200, .inr (.inl f)))] sz)) (ts_Q (fun (v : Option Value) (u : Nat → Int64) => v = none ∧ ts_ok u ∧ ts_n u = 2 ^ n) (fun u => ts_B D vwCl (ts_ty cL cA cI cZ) (va_A [(w, .inr (0, [.ref a])), (a, .inl (cL, 200, .inr (.inl f)))] sz) ([(w, .inr (0, [.ref a])), (a, .inl (cL, 200, .inr (.inl u)))])) (va_A [(w, .inr (0, [.ref a])), (a, .inl (cL, 200, .inr (.inl f)))] sz)) 0 0 (va_A [(w, .inr (0, [.ref a])), (a, .inl (cL, 200, .inr (.inl f)))] sz) := by
  refine ts_met (cc := b_W_setPowerOfTwo) (maxL := 3) (ret := none) (by decide) rfl (Nat.le_of_ble_eq_true rfl) ?_
  intro p e s m below meth c hx hb hr hml hown hts hlocks hname A hA hAe hK hP hD hS hsz ls hl
  have hown : s.vm.findClass R_W = some m.cls := hown
  have hl : lv_has ls 3 [(0, .ref w), (1, .int (nI n))] := hl
  have hP : va_P D vwCl [(w, .inr (0, [.ref a])), (a, .inl (cL, 200, .inr (.inl f)))] s.heap := hP
  have hD : va_D A [(w, .inr (0, [.ref a])), (a, .inl (cL, 200, .inr (.inl f)))] := hD
  refine lv_aload_n hx hb d_W_setPowerOfTwo_0 rfl (lv_at hl 0 rfl) ?_
  refine ts_callV (rest := []) ⟨hx, hb, hml, hown, hts⟩ (c_W_setZero l D cL cA cI cZ w a f _) (cwV 0 hts g_W_setPowerOfTwo_W_setZero rfl rfl rfl (by decide +kernel) ⟨Nat.le_of_ble_eq_true rfl, Nat.le_of_ble_eq_true rfl⟩) hK hP hD hS hA hl.1 [0, 1] (by decide) rfl (va_recv hK hP (ci := 0) (q0 := 0) rfl rfl) (fun u => rfl) rfl rfl (Nat.le_of_ble_eq_true rfl) d_W_setPowerOfTwo_1 ⟨Nat.zero_le _, Nat.zero_le _⟩ (fun v u H locs hw hP hD hS => ?_)
  have hP : va_P D vwCl [(w, .inr (0, [.ref a])), (a, .inl (cL, 200, .inr (.inl u)))] H := hP
  have hD : va_D A [(w, .inr (0, [.ref a])), (a, .inl (cL, 200, .inr (.inl u)))] := hD
  obtain ⟨rfl, hw⟩ := hw
  show W _ _ _ _ _ _ _ _ _ _ _ _ _ _ _ (F0 m 4 ls [])
  refine lv_iload_n hx hb d_W_setPowerOfTwo_4 rfl (lv_at hl 1 rfl) ?_
  refine lv_iconst (v := 5) hx hb d_W_setPowerOfTwo_5 (by decide) ?_
  refine lv_ishr hx hb d_W_setPowerOfTwo_6 ?_
  refine lv_topi (fun z1 e_z1 => ?_)
  refine lv_istore_n (lv' := [(2, .int z1), (0, .ref w), (1, .int (nI n))]) hx hb d_W_setPowerOfTwo_7 rfl hl (by decide) rfl (fun ls hl => ?_)
  have hz : z1 = nI (n / 32) := by rw [e_z1]; exact pk_shrN (by omega) _ 5 (by decide)
  refine lv_iload_n hx hb d_W_setPowerOfTwo_8 rfl (lv_at hl 0 rfl) ?_
  refine lv_if_lt (tgt := 31) hx hb d_W_setPowerOfTwo_9 (by decide) (fun c2 => ?_) (fun c2 => ?_)
  · exact absurd c2 (by rw [hz]; exact nI_pos (by omega))
  · refine lv_iload_n hx hb d_W_setPowerOfTwo_12 rfl (lv_at hl 0 rfl) ?_
    refine lv_sipush (v := 200) hx hb d_W_setPowerOfTwo_13 (by decide) ?_
    refine lv_icmp_ge (tgt := 31) hx hb d_W_setPowerOfTwo_16 (by decide) (fun c3 => ?_) (fun c3 => ?_)
    · exact absurd c3 (by rw [hz]; exact nI_ge (a := n / 32) (b := 200) (by omega) (by decide))
    · have hin : vp_in z1 200 := by rw [hz]; exact vp_in_nI (by omega) (by decide)
      refine lv_aload_n hx hb d_W_setPowerOfTwo_19 rfl (lv_at hl 1 rfl) ?_
      refine va_get (D := D) (ci := 0) (v := .ref a) (C := R_W) (T := F_W) (N := 1) hx hb hts (by decide +kernel) hown hK hP 0 rfl rfl 0 (by decide) (hts (.fieldLink R_W 9 "TripleSums$Whole" "limbs" "[J") (by decide +kernel)) (fun _ h9 => h9) rfl d_W_setPowerOfTwo_20 ?_
      refine lv_iload_n hx hb d_W_setPowerOfTwo_23 rfl (lv_at hl 0 rfl) ?_
      refine lv_lconst (v := 1) hx hb d_W_setPowerOfTwo_24 (by decide) ?_
      refine lv_iload_n hx hb d_W_setPowerOfTwo_25 rfl (lv_at hl 2 rfl) ?_
      refine lv_bipush (v := 31) hx hb d_W_setPowerOfTwo_26 (by decide) ?_
      refine lv_iand hx hb d_W_setPowerOfTwo_28 ?_
      refine lv_topi (fun z4 e_z4 => ?_)
      refine lv_lshl hx hb d_W_setPowerOfTwo_29 rfl ?_
      refine lv_topl (fun z5 e_z5 => ?_)
      refine va_last (D := D) hx hb hK hP hD hS 1 0 rfl rfl hin d_W_setPowerOfTwo_30 (fun H locs hP hD hS => ?_)
      have hP : va_P D vwCl [(w, .inr (0, [.ref a])), (a, .inl (cL, 200, .inr (.inl (vp_updL u (Int32.toNatClampNeg z1) z5))))] H := hP
      have hD : va_D A [(w, .inr (0, [.ref a])), (a, .inl (cL, 200, .inr (.inl (vp_updL u (Int32.toNatClampNeg z1) z5))))] := hD
      have hc : Int32.toNatClampNeg z1 = n / 32 := by rw [hz]; exact nI_clamp (by omega)
      rw [hc] at hP hD
      have e3 : z4 = nI (n % 32) := by rw [e_z4]; exact pk_andN (by omega) 5 (by decide)
      have e4 : uN z5 = 2 ^ (n % 32) := by rw [e_z5, e3]; exact ts_shl1 _ (by omega)
      exact W.vret hx hb hr (fun t ht hW => ts_ret (u := (vp_updL u (n / 32) z5)) hP hD hK hS ⟨rfl, ts_pow2 hw hn e4⟩ ht hW) hS.2.2 d_W_setPowerOfTwo_31

