set_option maxHeartbeats 4000000 in
set_option maxRecDepth 100000 in
theorem c_T_nearestToSize (l : Launch) (D : va_G) (cL cA cI cZ : ClassId) (w a : Nat) (f : Nat → Int64) (hf : ts_ok f) (sz : Nat) : Met l y_T_nearestToSize w_T_nearestToSize (ts_rm 5) (va_Pc [.ref w] (ts_A D vwCl (ts_ty cL cA cI cZ) [(w, .inr (0, [.ref a])), (a, .inl (cL, 200, .inr (.inl f)))] sz)) (ts_Q (fun (v : Option Value) (u : Unit) => v = some (.long (lN (ts_ns (ts_n f))))) (fun u => ts_B D vwCl (ts_ty cL cA cI cZ) (va_A [(w, .inr (0, [.ref a])), (a, .inl (cL, 200, .inr (.inl f)))] sz) ([(w, .inr (0, [.ref a])), (a, .inl (cL, 200, .inr (.inl f)))])) (va_A [(w, .inr (0, [.ref a])), (a, .inl (cL, 200, .inr (.inl f)))] sz)) 0 0 (va_A [(w, .inr (0, [.ref a])), (a, .inl (cL, 200, .inr (.inl f)))] sz) := by
  refine ts_met (cc := b_T_nearestToSize) (maxL := 5) (ret := (some .long)) (by decide) rfl (Nat.le_of_ble_eq_true rfl) ?_
  intro p e s m below meth c hx hb hr hml hown hts hlocks hname A hA hAe hK hP hD hS hsz ls hl
  have hown : s.vm.findClass R_T = some m.cls := hown
  have hl : lv_has ls 5 [(0, .ref w)] := hl
  have hP : va_P D vwCl [(w, .inr (0, [.ref a])), (a, .inl (cL, 200, .inr (.inl f)))] s.heap := hP
  have hD : va_D A [(w, .inr (0, [.ref a])), (a, .inl (cL, 200, .inr (.inl f)))] := hD
  refine lv_aload_n hx hb d_T_nearestToSize_0 rfl (lv_at hl 0 rfl) ?_
  refine ts_callV (rest := []) ⟨hx, hb, hml, hown, hts⟩ (c_W_highestPlace l D cL cA cI cZ w a f hf _) (cwV 0 hts g_T_nearestToSize_W_highestPlace rfl rfl rfl (by decide +kernel) ⟨Nat.le_of_ble_eq_true rfl, Nat.le_of_ble_eq_true rfl⟩) hK hP hD hS hA hl.1 [0, 1] (by decide) rfl (va_recv hK hP (ci := 0) (q0 := 0) rfl rfl) (fun u => rfl) rfl rfl (Nat.le_of_ble_eq_true rfl) d_T_nearestToSize_1 ⟨Nat.zero_le _, Nat.zero_le _⟩ (fun v _u H locs hw hP hD hS => ?_)
  have hP : va_P D vwCl [(w, .inr (0, [.ref a])), (a, .inl (cL, 200, .inr (.inl f)))] H := hP
  have hD : va_D A [(w, .inr (0, [.ref a])), (a, .inl (cL, 200, .inr (.inl f)))] := hD
  obtain ⟨z, rfl, hz⟩ := hw
  show W _ _ _ _ _ _ _ _ _ _ _ _ _ _ _ (F0 m 4 ls [.int z])
  refine lv_istore_n (lv' := [(1, .int z), (0, .ref w)]) hx hb d_T_nearestToSize_4 rfl hl (by decide) rfl (fun ls hl => ?_)
  refine lv_iload_n hx hb d_T_nearestToSize_5 rfl (lv_at hl 0 rfl) ?_
  refine lv_sipush (v := 4245) hx hb d_T_nearestToSize_6 (by decide) ?_
  refine lv_icmp_le (tgt := 16) hx hb d_T_nearestToSize_9 (by decide) (fun c1 => ?_) (fun c1 => ?_)
  · have hlg := ts_hpLe hz c1
    have hu1 := ts_un_ge (ts_n f)
    have hu2 := ts_un_lt hlg
    refine lv_iload_n hx hb d_T_nearestToSize_16 rfl (lv_at hl 0 rfl) ?_
    refine lv_bipush (v := 52) hx hb d_T_nearestToSize_17 (by decide) ?_
    refine lv_isub hx hb d_T_nearestToSize_19 ?_
    refine lv_topi (fun z2 e_z2 => ?_)
    refine lv_sipush (v := 2148) hx hb d_T_nearestToSize_20 (by decide) ?_
    refine va_mmax hx hb (hml.trans hl.1.symm) hown (hts (.methodLink R_T 121 Lib.Math.max.name) (by decide +kernel)) (hts (.static Lib.Math.max.name) (by decide +kernel)) (hts (.initialized "java/lang/Math") (by decide +kernel)) (hts (.code Lib.Math.max.name Lib.Math.max.code 2 (some .int)) (by decide +kernel)) (Nat.le_of_ble_eq_true rfl) (Nat.le_of_ble_eq_true rfl) (Nat.zero_le _) (Nat.zero_le _) d_T_nearestToSize_23 ?_
    refine lv_topi (fun z3 e_z3 => ?_)
    obtain rfl : z3 = (nI (ts_un (ts_n f))) := e_z3.trans (by rw [e_z2]; exact ts_unit hz)
    refine lv_istore_n (lv' := [(2, .int (nI (ts_un (ts_n f)))), (1, .int z), (0, .ref w)]) hx hb d_T_nearestToSize_26 rfl hl (by decide) rfl (fun ls hl => ?_)
    refine lv_aload_n hx hb d_T_nearestToSize_27 rfl (lv_at hl 2 rfl) ?_
    refine lv_iload_n hx hb d_T_nearestToSize_28 rfl (lv_at hl 0 rfl) ?_
    refine lv_i2l hx hb d_T_nearestToSize_29 rfl ?_
    have hh : (Int32.toInt64 (nI (ts_un (ts_n f)))).toInt = ((ts_un (ts_n f) : Nat) : Int) := by rw [Int32.toInt_toInt64, nI_toInt (by omega)]
    refine ts_callV (rest := []) ⟨hx, hb, hml, hown, hts⟩ (c_W_wordFrom l D cL cA cI cZ w a f (Int32.toInt64 (nI (ts_un (ts_n f)))) hf (by rw [hh]; omega) (by rw [hh]; omega) _) (cwV 1 hts g_T_nearestToSize_W_wordFrom rfl rfl rfl (by decide +kernel) ⟨Nat.le_of_ble_eq_true rfl, Nat.le_of_ble_eq_true rfl⟩) hK hP hD hS hA hl.1 [0, 1] (by decide) rfl (va_recv hK hP (ci := 0) (q0 := 0) rfl rfl) (fun u => rfl) rfl rfl (Nat.le_of_ble_eq_true rfl) d_T_nearestToSize_30 ⟨Nat.zero_le _, Nat.zero_le _⟩ (fun v _u H locs hw hP hD hS => ?_)
    have hP : va_P D vwCl [(w, .inr (0, [.ref a])), (a, .inl (cL, 200, .inr (.inl f)))] H := hP
    have hD : va_D A [(w, .inr (0, [.ref a])), (a, .inl (cL, 200, .inr (.inl f)))] := hD
    obtain ⟨r, rfl, hr1⟩ := hw
    show W _ _ _ _ _ _ _ _ _ _ _ _ _ _ _ (F0 m 33 ls [.long r])
    rw [hh] at hr1
    have hkb := ts_keptb (ts_n f)
    have hkept := hr1.nat (by omega)
    refine lv_lstore_n (lv' := [(3, .long r), (2, .int (nI (ts_un (ts_n f)))), (1, .int z), (0, .ref w)]) hx hb d_T_nearestToSize_33 rfl hl (by decide) rfl (fun ls hl => ?_)
    refine lv_aload_n hx hb d_T_nearestToSize_34 rfl (lv_at hl 3 rfl) ?_
    refine lv_iload_n hx hb d_T_nearestToSize_35 rfl (lv_at hl 1 rfl) ?_
    refine lv_lload_n hx hb d_T_nearestToSize_36 rfl (lv_at hl 0 rfl) ?_
    refine ts_callS (rest := []) ⟨hx, hb, hml, hown, hts⟩ (c_T_roundsUp l D cL cA cI cZ w a f (ts_un (ts_n f)) r hf (by omega) (by omega) hkept _) (va_cwS 3 hts g_T_nearestToSize_T_roundsUp rfl rfl rfl (by decide +kernel) ⟨Nat.le_of_ble_eq_true rfl, Nat.le_of_ble_eq_true rfl⟩) hK hP hD hS hA hl.1 [0, 1] (by decide) rfl (fun u => rfl) rfl rfl (Nat.le_of_ble_eq_true rfl) d_T_nearestToSize_37 ⟨Nat.zero_le _, Nat.zero_le _⟩ (fun v _u H locs hw hP hD hS => ?_)
    have hP : va_P D vwCl [(w, .inr (0, [.ref a])), (a, .inl (cL, 200, .inr (.inl f)))] H := hP
    have hD : va_D A [(w, .inr (0, [.ref a])), (a, .inl (cL, 200, .inr (.inl f)))] := hD
    obtain rfl := hw
    show W _ _ _ _ _ _ _ _ _ _ _ _ _ _ _ (F0 m 40 ls [.int (if ts_up (ts_n f) (ts_un (ts_n f)) = true then 1 else 0)])
    refine lv_if_eq (tgt := 47) hx hb d_T_nearestToSize_40 (by decide) (fun c4 => ?_) (fun c4 => ?_)
    · have hno : ¬ ts_up (ts_n f) (ts_un (ts_n f)) = true := fun q => absurd (by rw [if_pos q] at c4; exact c4) (show ¬ (1 : Int32) = 0 by decide +kernel)
      refine lv_iload_n hx hb d_T_nearestToSize_47 rfl (lv_at hl 1 rfl) ?_
      refine lv_sipush (v := 2148) hx hb d_T_nearestToSize_48 (by decide) ?_
      refine lv_isub hx hb d_T_nearestToSize_51 ?_
      refine lv_topi (fun z5 e_z5 => ?_)
      refine lv_i2l hx hb d_T_nearestToSize_52 rfl ?_
      refine lv_bipush (v := 52) hx hb d_T_nearestToSize_53 (by decide) ?_
      refine lv_lshl hx hb d_T_nearestToSize_55 rfl ?_
      refine lv_topl (fun z6 e_z6 => ?_)
      refine lv_lload_n hx hb d_T_nearestToSize_56 rfl (lv_at hl 0 rfl) ?_
      refine lv_ladd hx hb d_T_nearestToSize_57 ?_
      refine lv_topl (fun z7 e_z7 => ?_)
      have hkr : uN r = ts_n f / 2 ^ ts_un (ts_n f) + if ts_up (ts_n f) (ts_un (ts_n f)) = true then 1 else 0 := by rw [if_neg hno, hkept, Nat.add_zero]
      have hq : z7 = lN (ts_ns (ts_n f)) := by
        rw [e_z7, e_z6, e_z5]; exact ts_nsC hlg hkr
      exact W.lret (v := z7) hx hb hr (fun t ht hW => ts_ret (u := ()) hP hD hK hS (by rw [hq]) ht hW) hS.2.2 d_T_nearestToSize_58
    · have hyes : ts_up (ts_n f) (ts_un (ts_n f)) = true := by
        by_cases q : ts_up (ts_n f) (ts_un (ts_n f)) = true
        · exact q
        · rw [if_neg q] at c4; exact absurd rfl c4
      refine lv_lload_n hx hb d_T_nearestToSize_43 rfl (lv_at hl 0 rfl) ?_
      refine lv_lconst (v := 1) hx hb d_T_nearestToSize_44 (by decide) ?_
      refine lv_ladd hx hb d_T_nearestToSize_45 ?_
      refine lv_topl (fun z8 e_z8 => ?_)
      refine lv_lstore_n (lv' := [(3, .long z8), (2, .int (nI (ts_un (ts_n f)))), (1, .int z), (0, .ref w)]) hx hb d_T_nearestToSize_46 rfl hl (by decide) rfl (fun ls hl => ?_)
      refine lv_iload_n hx hb d_T_nearestToSize_47 rfl (lv_at hl 1 rfl) ?_
      refine lv_sipush (v := 2148) hx hb d_T_nearestToSize_48 (by decide) ?_
      refine lv_isub hx hb d_T_nearestToSize_51 ?_
      refine lv_topi (fun z9 e_z9 => ?_)
      refine lv_i2l hx hb d_T_nearestToSize_52 rfl ?_
      refine lv_bipush (v := 52) hx hb d_T_nearestToSize_53 (by decide) ?_
      refine lv_lshl hx hb d_T_nearestToSize_55 rfl ?_
      refine lv_topl (fun z10 e_z10 => ?_)
      refine lv_lload_n hx hb d_T_nearestToSize_56 rfl (lv_at hl 0 rfl) ?_
      refine lv_ladd hx hb d_T_nearestToSize_57 ?_
      refine lv_topl (fun z11 e_z11 => ?_)
      have hkr : uN z8 = ts_n f / 2 ^ ts_un (ts_n f) + if ts_up (ts_n f) (ts_un (ts_n f)) = true then 1 else 0 := by rw [if_pos hyes, e_z8, uN_add, hkept, show uN 1 = 1 by decide +kernel]; omega
      have hq : z11 = lN (ts_ns (ts_n f)) := by
        rw [e_z11, e_z10, e_z9]; exact ts_nsC hlg hkr
      exact W.lret (v := z11) hx hb hr (fun t ht hW => ts_ret (u := ()) hP hD hK hS (by rw [hq]) ht hW) hS.2.2 d_T_nearestToSize_58
  · obtain ⟨g1, g2⟩ := ts_hpGt hz c1
    refine lv_ldc2 (v := 9218868437227405312) hx hb hown (hts (.constantLong R_T 133 9218868437227405312) (by decide +kernel)) d_T_nearestToSize_12 ?_
    exact W.lret (v := 9218868437227405312) hx hb hr (fun t ht hW => ts_ret (u := ()) hP hD hK hS (by rw [ts_ns_inf g1 g2]; rfl) ht hW) hS.2.2 d_T_nearestToSize_15

