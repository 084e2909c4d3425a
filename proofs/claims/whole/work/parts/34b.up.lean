set_option maxHeartbeats 4000000 in
set_option maxRecDepth 100000 in
theorem c_T_roundsUp (l : Launch) (D : va_G) (cL cA cI cZ : ClassId) (w a : Nat) (f : Nat → Int64) (n : Nat) (x : Int64) (hf : ts_ok f) (hn1 : 1 ≤ n) (hn2 : n ≤ 6400) (hx9 : uN x = ts_n f / 2 ^ n) (sz : Nat) : Met l y_T_roundsUp w_T_roundsUp (ts_rm 4) (va_Pc [.ref w, .int (nI n), .long x] (ts_A D vwCl (ts_ty cL cA cI cZ) [(w, .inr (0, [.ref a])), (a, .inl (cL, 200, .inr (.inl f)))] sz)) (ts_Q (fun (v : Option Value) (u : Unit) => v = some (.int (if ts_up (ts_n f) n = true then 1 else 0))) (fun u => ts_B D vwCl (ts_ty cL cA cI cZ) (va_A [(w, .inr (0, [.ref a])), (a, .inl (cL, 200, .inr (.inl f)))] sz) ([(w, .inr (0, [.ref a])), (a, .inl (cL, 200, .inr (.inl f)))])) (va_A [(w, .inr (0, [.ref a])), (a, .inl (cL, 200, .inr (.inl f)))] sz)) 0 0 (va_A [(w, .inr (0, [.ref a])), (a, .inl (cL, 200, .inr (.inl f)))] sz) := by
  refine ts_met (cc := b_T_roundsUp) (maxL := 5) (ret := (some .boolean)) (by decide) rfl (Nat.le_of_ble_eq_true rfl) ?_
  intro p e s m below meth c hx hb hr hml hown hts hlocks hname A hA hAe hK hP hD hS hsz ls hl
  have hown : s.vm.findClass R_T = some m.cls := hown
  have hl : lv_has ls 5 [(0, .ref w), (1, .int (nI n)), (2, .long x)] := hl
  have hP : va_P D vwCl [(w, .inr (0, [.ref a])), (a, .inl (cL, 200, .inr (.inl f)))] s.heap := hP
  have hD : va_D A [(w, .inr (0, [.ref a])), (a, .inl (cL, 200, .inr (.inl f)))] := hD
  refine lv_iload_n hx hb d_T_roundsUp_0 rfl (lv_at hl 1 rfl) ?_
  refine lv_iconst (v := 1) hx hb d_T_roundsUp_1 (by decide) ?_
  refine lv_isub hx hb d_T_roundsUp_2 ?_
  refine lv_topi (fun z1 e_z1 => ?_)
  obtain rfl : z1 = (nI (n - 1)) := e_z1.trans (pk_sub (b := 1) hn1)
  refine lv_istore (lv' := [(4, .int (nI (n - 1))), (0, .ref w), (1, .int (nI n)), (2, .long x)]) hx hb d_T_roundsUp_3 hl (by decide) rfl (fun ls hl => ?_)
  refine lv_aload_n hx hb d_T_roundsUp_5 rfl (lv_at hl 1 rfl) ?_
  refine lv_iload hx hb d_T_roundsUp_6 (lv_at hl 0 rfl) ?_
  refine lv_i2l hx hb d_T_roundsUp_8 rfl ?_
  have hh : (Int32.toInt64 (nI (n - 1))).toInt = ((n - 1 : Nat) : Int) := by rw [Int32.toInt_toInt64, nI_toInt (by omega)]
  refine ts_callV (rest := []) ⟨hx, hb, hml, hown, hts⟩ (c_W_wordFrom l D cL cA cI cZ w a f (Int32.toInt64 (nI (n - 1))) hf (by rw [hh]; omega) (by rw [hh]; omega) _) (cwV 1 hts g_T_roundsUp_W_wordFrom rfl rfl rfl (by decide +kernel) ⟨Nat.le_of_ble_eq_true rfl, Nat.le_of_ble_eq_true rfl⟩) hK hP hD hS hA hl.1 [0, 1] (by decide) rfl (va_recv hK hP (ci := 0) (q0 := 0) rfl rfl) (fun u => rfl) rfl rfl (Nat.le_of_ble_eq_true rfl) d_T_roundsUp_9 ⟨Nat.zero_le _, Nat.zero_le _⟩ (fun v _u H locs hw hP hD hS => ?_)
  have hP : va_P D vwCl [(w, .inr (0, [.ref a])), (a, .inl (cL, 200, .inr (.inl f)))] H := hP
  have hD : va_D A [(w, .inr (0, [.ref a])), (a, .inl (cL, 200, .inr (.inl f)))] := hD
  obtain ⟨r, rfl, hr1⟩ := hw
  show W _ _ _ _ _ _ _ _ _ _ _ _ _ _ _ (F0 m 12 ls [.long r])
  rw [hh] at hr1
  have hlow := hr1.low
  rw [ts_ib_n] at hlow
  refine lv_lconst (v := 1) hx hb d_T_roundsUp_12 (by decide) ?_
  refine lv_land hx hb d_T_roundsUp_13 ?_
  refine lv_topl (fun z2 e_z2 => ?_)
  refine lv_lconst (v := 0) hx hb d_T_roundsUp_14 (by decide) ?_
  refine W.lcmp hx hb d_T_roundsUp_15 ?_
  refine lv_if_ne (tgt := 21) hx hb d_T_roundsUp_16 (by decide) (fun c3 => ?_) (fun c3 => ?_)
  · have h1 : (ts_n f).testBit (n - 1) = true := by
      cases hq : (ts_n f).testBit (n - 1) with
      | true => rfl
      | false => exact absurd (by rw [e_z2, hlow.mpr hq]; decide +kernel) c3
    refine lv_lload_n hx hb d_T_roundsUp_21 rfl (lv_at hl 3 rfl) ?_
    refine lv_lconst (v := 1) hx hb d_T_roundsUp_22 (by decide) ?_
    refine lv_land hx hb d_T_roundsUp_23 ?_
    refine lv_topl (fun z4 e_z4 => ?_)
    refine lv_lconst (v := 0) hx hb d_T_roundsUp_24 (by decide) ?_
    refine W.lcmp hx hb d_T_roundsUp_25 ?_
    refine lv_if_ne (tgt := 38) hx hb d_T_roundsUp_26 (by decide) (fun c5 => ?_) (fun c5 => ?_)
    · have hodd : ts_n f / 2 ^ n % 2 = 1 := by
        have q1 : ¬ uN x % 2 = 0 := fun q => c5 (by rw [e_z4, (uN_bit x).mpr q]; decide +kernel)
        rw [hx9] at q1; omega
      refine lv_iconst (v := 1) hx hb d_T_roundsUp_38 (by decide) ?_
      refine lv_goto (tgt := 43) hx hb d_T_roundsUp_39 (by decide) ?_
      have hup : ts_up (ts_n f) n = true := by unfold ts_up; rw [h1]; simp [hodd]
      exact W.zret (v := 1) hx hb hr (by decide +kernel) (fun t ht hW => ts_ret (u := ()) hP hD hK hS (by rw [if_pos hup]) ht hW) hS.2.2 d_T_roundsUp_43
    · have hev : ts_n f / 2 ^ n % 2 = 0 := by
        have q1 := (uN_bit x).mp (by rw [← e_z4]; exact (lg_cmp_eq _ _).mp c5)
        rw [hx9] at q1; exact q1
      refine lv_aload_n hx hb d_T_roundsUp_29 rfl (lv_at hl 1 rfl) ?_
      refine ts_callV (rest := []) ⟨hx, hb, hml, hown, hts⟩ (c_W_lowestPlace l D cL cA cI cZ w a f hf _) (cwV 0 hts g_T_roundsUp_W_lowestPlace rfl rfl rfl (by decide +kernel) ⟨Nat.le_of_ble_eq_true rfl, Nat.le_of_ble_eq_true rfl⟩) hK hP hD hS hA hl.1 [0, 1] (by decide) rfl (va_recv hK hP (ci := 0) (q0 := 0) rfl rfl) (fun u => rfl) rfl rfl (Nat.le_of_ble_eq_true rfl) d_T_roundsUp_30 ⟨Nat.zero_le _, Nat.zero_le _⟩ (fun v _u H locs hw hP hD hS => ?_)
      have hP : va_P D vwCl [(w, .inr (0, [.ref a])), (a, .inl (cL, 200, .inr (.inl f)))] H := hP
      have hD : va_D A [(w, .inr (0, [.ref a])), (a, .inl (cL, 200, .inr (.inl f)))] := hD
      obtain ⟨y, rfl, hy⟩ := hw
      obtain ⟨p, hp1, hp2, hp3⟩ : ∃ p, ts_Bot (ts_n f) p ∧ p < 6400 ∧ y = nI p := by
        rcases hy with ⟨q1, -⟩ | q1
        · rw [q1, Nat.zero_testBit] at h1; cases h1
        · exact q1
      show W _ _ _ _ _ _ _ _ _ _ _ _ _ _ _ (F0 m 33 ls [.int y])
      refine lv_iload hx hb d_T_roundsUp_33 (lv_at hl 0 rfl) ?_
      refine lv_icmp_ge (tgt := 42) hx hb d_T_roundsUp_35 (by decide) (fun c6 => ?_) (fun c6 => ?_)
      · have hge : n - 1 ≤ p := by rw [hp3] at c6; exact (nI_leI (by omega) (by omega)).mp c6
        have hz : ts_n f % 2 ^ (n - 1) = 0 := by
          rcases Nat.eq_zero_or_pos (ts_n f % 2 ^ (n - 1)) with q | q
          · exact q
          · exact absurd ((hp1.less (u := n - 1)).mpr (by omega)) (by omega)
        refine lv_iconst (v := 0) hx hb d_T_roundsUp_42 (by decide) ?_
        have hup : ts_up (ts_n f) n = false := by unfold ts_up; rw [h1]; simp [hev, hz]
        exact W.zret (v := 0) hx hb hr (by decide +kernel) (fun t ht hW => ts_ret (u := ()) hP hD hK hS (by rw [hup]; rfl) ht hW) hS.2.2 d_T_roundsUp_43
      · have hlt : p < n - 1 := by rw [hp3] at c6; exact Nat.lt_of_not_le (fun q => c6 (nI_le q (by omega)))
        have hz := (hp1.less (u := n - 1)).mp hlt
        refine lv_iconst (v := 1) hx hb d_T_roundsUp_38 (by decide) ?_
        refine lv_goto (tgt := 43) hx hb d_T_roundsUp_39 (by decide) ?_
        have hup : ts_up (ts_n f) n = true := by unfold ts_up; rw [h1]; simp [hz]
        exact W.zret (v := 1) hx hb hr (by decide +kernel) (fun t ht hW => ts_ret (u := ()) hP hD hK hS (by rw [if_pos hup]) ht hW) hS.2.2 d_T_roundsUp_43
  · have h0 := hlow.mp (by rw [← e_z2]; exact (lg_cmp_eq _ _).mp c3)
    refine lv_iconst (v := 0) hx hb d_T_roundsUp_19 (by decide) ?_
    exact W.zret (v := 0) hx hb hr (by decide +kernel) (fun t ht hW => ts_ret (u := ()) hP hD hK hS (by unfold ts_up; rw [h0]; rfl) ht hW) hS.2.2 d_T_roundsUp_20

