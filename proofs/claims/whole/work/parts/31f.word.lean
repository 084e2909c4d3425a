set_option maxHeartbeats 4000000 in
set_option maxRecDepth 100000 in
theorem c_W_wordFrom (l : Launch) (D : va_G) (cL cA cI cZ : ClassId) (w a : Nat) (f : Nat → Int64) (x : Int64) (hf : ts_ok f) (hx1 : -2147483648 ≤ x.toInt) (hx2 : x.toInt < 4294967296) (sz : Nat) : Met l y_W_wordFrom w_W_wordFrom (ts_rm 2) (va_Pc [.ref w, .long x] (ts_A D vwCl (ts_ty cL cA cI cZ) [(w, .inr (0, [.ref a])), (a, .inl (cL, 200, .inr (.inl f)))] sz)) (ts_Q (fun (v : Option Value) (u : Unit) => ∃ r : Int64, v = some (.long r) ∧ ts_Wd (ts_n f) x.toInt r) (fun u => ts_B D vwCl (ts_ty cL cA cI cZ) (va_A [(w, .inr (0, [.ref a])), (a, .inl (cL, 200, .inr (.inl f)))] sz) ([(w, .inr (0, [.ref a])), (a, .inl (cL, 200, .inr (.inl f)))])) (va_A [(w, .inr (0, [.ref a])), (a, .inl (cL, 200, .inr (.inl f)))] sz)) 0 0 (va_A [(w, .inr (0, [.ref a])), (a, .inl (cL, 200, .inr (.inl f)))] sz) := by
  refine ts_met (cc := b_W_wordFrom) (maxL := 7) (ret := (some .long)) (by decide) rfl (Nat.le_of_ble_eq_true rfl) ?_
  intro p e s m below meth c hx hb hr hml hown hts hlocks hname A hA hAe hK hP hD hS hsz ls hl
  have hown : s.vm.findClass R_W = some m.cls := hown
  have hl : lv_has ls 7 [(0, .ref w), (1, .long x)] := hl
  have hP : va_P D vwCl [(w, .inr (0, [.ref a])), (a, .inl (cL, 200, .inr (.inl f)))] s.heap := hP
  have hD : va_D A [(w, .inr (0, [.ref a])), (a, .inl (cL, 200, .inr (.inl f)))] := hD
  refine lv_lload_n hx hb d_W_wordFrom_0 rfl (lv_at hl 1 rfl) ?_
  refine lv_iconst (v := 5) hx hb d_W_wordFrom_1 (by decide) ?_
  refine lv_lshr hx hb d_W_wordFrom_2 rfl ?_
  refine lv_topl (fun z1 e_z1 => ?_)
  refine lv_l2i hx hb d_W_wordFrom_3 rfl ?_
  refine lv_topi (fun z2 e_z2 => ?_)
  refine lv_istore_n (lv' := [(3, .int z2), (0, .ref w), (1, .long x)]) hx hb d_W_wordFrom_4 rfl hl (by decide) rfl (fun ls hl => ?_)
  refine lv_lload_n hx hb d_W_wordFrom_5 rfl (lv_at hl 2 rfl) ?_
  refine lv_ldc2 (v := 31) hx hb hown (hts (.constantLong R_W 48 31) (by decide +kernel)) d_W_wordFrom_6 ?_
  refine lv_land hx hb d_W_wordFrom_9 ?_
  refine lv_topl (fun z3 e_z3 => ?_)
  refine lv_l2i hx hb d_W_wordFrom_10 rfl ?_
  refine lv_topi (fun z4 e_z4 => ?_)
  refine lv_istore (lv' := [(4, .int z4), (3, .int z2), (0, .ref w), (1, .long x)]) hx hb d_W_wordFrom_11 hl (by decide) rfl (fun ls hl => ?_)
  have h1 : Int32.toInt z2 = x.toInt / 32 := by subst e_z1 e_z2 e_z3 e_z4; exact ts_wfi hx1 hx2
  have h2 : Int32.toInt z4 = x.toInt % 32 := by subst e_z1 e_z2 e_z3 e_z4; exact ts_wfs x
  refine lv_aload_n hx hb d_W_wordFrom_13 rfl (lv_at hl 2 rfl) ?_
  refine lv_iload_n hx hb d_W_wordFrom_14 rfl (lv_at hl 1 rfl) ?_
  refine ts_callV (rest := []) ⟨hx, hb, hml, hown, hts⟩ (c_W_limbAt l D cL cA cI cZ w a f z2 _) (cwV 1 hts g_W_wordFrom_W_limbAt rfl rfl rfl (by decide +kernel) ⟨Nat.le_of_ble_eq_true rfl, Nat.le_of_ble_eq_true rfl⟩) hK hP hD hS hA hl.1 [0, 1] (by decide) rfl (va_recv hK hP (ci := 0) (q0 := 0) rfl rfl) (fun u => rfl) rfl rfl (Nat.le_of_ble_eq_true rfl) d_W_wordFrom_15 ⟨Nat.zero_le _, Nat.zero_le _⟩ (fun v _u H locs hw hP hD hS => ?_)
  have hP : va_P D vwCl [(w, .inr (0, [.ref a])), (a, .inl (cL, 200, .inr (.inl f)))] H := hP
  have hD : va_D A [(w, .inr (0, [.ref a])), (a, .inl (cL, 200, .inr (.inl f)))] := hD
  obtain ⟨l0, rfl, hl0⟩ := hw
  show W _ _ _ _ _ _ _ _ _ _ _ _ _ _ _ (F0 m 18 ls [.long l0])
  refine lv_aload_n hx hb d_W_wordFrom_18 rfl (lv_at hl 2 rfl) ?_
  refine lv_iload_n hx hb d_W_wordFrom_19 rfl (lv_at hl 1 rfl) ?_
  refine lv_iconst (v := 1) hx hb d_W_wordFrom_20 (by decide) ?_
  refine lv_iadd hx hb d_W_wordFrom_21 ?_
  refine lv_topi (fun z5 e_z5 => ?_)
  refine ts_callV (rest := [.long l0]) ⟨hx, hb, hml, hown, hts⟩ (c_W_limbAt l D cL cA cI cZ w a f z5 _) (cwV 1 hts g_W_wordFrom_W_limbAt rfl rfl rfl (by decide +kernel) ⟨Nat.le_of_ble_eq_true rfl, Nat.le_of_ble_eq_true rfl⟩) hK hP hD hS hA hl.1 [0, 1] (by decide) rfl (va_recv hK hP (ci := 0) (q0 := 0) rfl rfl) (fun u => rfl) rfl rfl (Nat.le_of_ble_eq_true rfl) d_W_wordFrom_22 ⟨Nat.zero_le _, Nat.zero_le _⟩ (fun v _u H locs hw hP hD hS => ?_)
  have hP : va_P D vwCl [(w, .inr (0, [.ref a])), (a, .inl (cL, 200, .inr (.inl f)))] H := hP
  have hD : va_D A [(w, .inr (0, [.ref a])), (a, .inl (cL, 200, .inr (.inl f)))] := hD
  obtain ⟨l1, rfl, hl1⟩ := hw
  show W _ _ _ _ _ _ _ _ _ _ _ _ _ _ _ (F0 m 25 ls [.long l1, .long l0])
  have e1i : (1 : Int32).toInt = 1 := by decide +kernel
  have e2i : (2 : Int32).toInt = 2 := by decide +kernel
  have hl1 : uN l1 = ts_la f (Int32.toInt z2 + 1) := by rw [hl1, e_z5, ts_i_add (by omega) (by omega), e1i]
  refine lv_bipush (v := 32) hx hb d_W_wordFrom_25 (by decide) ?_
  refine lv_lshl hx hb d_W_wordFrom_27 rfl ?_
  refine lv_topl (fun z6 e_z6 => ?_)
  refine lv_lor hx hb d_W_wordFrom_28 ?_
  refine lv_topl (fun z7 e_z7 => ?_)
  refine lv_lstore (lv' := [(5, .long z7), (4, .int z4), (3, .int z2), (0, .ref w), (1, .long x)]) hx hb d_W_wordFrom_29 hl (by decide) rfl (fun ls hl => ?_)
  refine lv_iload hx hb d_W_wordFrom_31 (lv_at hl 1 rfl) ?_
  refine lv_if_ne (tgt := 41) hx hb d_W_wordFrom_33 (by decide) (fun c8 => ?_) (fun c8 => ?_)
  · refine lv_lload hx hb d_W_wordFrom_41 (lv_at hl 0 rfl) ?_
    refine lv_iload hx hb d_W_wordFrom_43 (lv_at hl 1 rfl) ?_
    refine lv_lushr hx hb d_W_wordFrom_45 rfl ?_
    refine lv_topl (fun z9 e_z9 => ?_)
    refine lv_aload_n hx hb d_W_wordFrom_46 rfl (lv_at hl 3 rfl) ?_
    refine lv_iload_n hx hb d_W_wordFrom_47 rfl (lv_at hl 2 rfl) ?_
    refine lv_iconst (v := 2) hx hb d_W_wordFrom_48 (by decide) ?_
    refine lv_iadd hx hb d_W_wordFrom_49 ?_
    refine lv_topi (fun z10 e_z10 => ?_)
    refine ts_callV (rest := [.long z9]) ⟨hx, hb, hml, hown, hts⟩ (c_W_limbAt l D cL cA cI cZ w a f z10 _) (cwV 1 hts g_W_wordFrom_W_limbAt rfl rfl rfl (by decide +kernel) ⟨Nat.le_of_ble_eq_true rfl, Nat.le_of_ble_eq_true rfl⟩) hK hP hD hS hA hl.1 [0, 1] (by decide) rfl (va_recv hK hP (ci := 0) (q0 := 0) rfl rfl) (fun u => rfl) rfl rfl (Nat.le_of_ble_eq_true rfl) d_W_wordFrom_50 ⟨Nat.zero_le _, Nat.zero_le _⟩ (fun v _u H locs hw hP hD hS => ?_)
    have hP : va_P D vwCl [(w, .inr (0, [.ref a])), (a, .inl (cL, 200, .inr (.inl f)))] H := hP
    have hD : va_D A [(w, .inr (0, [.ref a])), (a, .inl (cL, 200, .inr (.inl f)))] := hD
    obtain ⟨l2, rfl, hl2⟩ := hw
    show W _ _ _ _ _ _ _ _ _ _ _ _ _ _ _ (F0 m 53 ls [.long l2, .long z9])
    have hl2 : uN l2 = ts_la f (Int32.toInt z2 + 2) := by rw [hl2, e_z10, ts_i_add (by omega) (by omega), e2i]
    refine lv_bipush (v := 64) hx hb d_W_wordFrom_53 (by decide) ?_
    refine lv_iload hx hb d_W_wordFrom_55 (lv_at hl 1 rfl) ?_
    refine lv_isub hx hb d_W_wordFrom_57 ?_
    refine lv_topi (fun z11 e_z11 => ?_)
    refine lv_lshl hx hb d_W_wordFrom_58 rfl ?_
    refine lv_topl (fun z12 e_z12 => ?_)
    refine lv_lor hx hb d_W_wordFrom_59 ?_
    refine lv_topl (fun z13 e_z13 => ?_)
    have hr9 : ts_Wd (ts_n f) x.toInt z13 := by
      subst e_z6 e_z7 e_z9 e_z11 e_z12 e_z13
      exact ts_wf hf h1 h2 hl0 hl1 hl2 c8
    exact W.lret (v := z13) hx hb hr (fun t ht hW => ts_ret (u := ()) hP hD hK hS ⟨_, rfl, hr9⟩ ht hW) hS.2.2 d_W_wordFrom_60
  · refine lv_lload hx hb d_W_wordFrom_36 (lv_at hl 0 rfl) ?_
    refine lv_goto (tgt := 60) hx hb d_W_wordFrom_38 (by decide) ?_
    have hr9 : ts_Wd (ts_n f) x.toInt z7 := by
      subst e_z6 e_z7
      exact ts_wf0 hf h1 h2 hl0 hl1 c8
    exact W.lret (v := z7) hx hb hr (fun t ht hW => ts_ret (u := ()) hP hD hK hS ⟨_, rfl, hr9⟩ ht hW) hS.2.2 d_W_wordFrom_60

