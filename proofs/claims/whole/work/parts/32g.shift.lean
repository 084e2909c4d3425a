set_option maxHeartbeats 4000000 in
set_option maxRecDepth 100000 in
theorem c_M_shift (l : Launch) (D : va_G) (cL cA cI cZ : ClassId) (h pa ba : Nat) (th : Int32) (P B : Nat → Int32) (r k : Nat) (hr9 : r < 10) (hk : k < 6720) (hp : ts_pk P) (hN : ts_r P r * 2 ^ k < ts_N) (sz : Nat) : Met l y_M_shift w_M_shift (ts_rm 2) (va_Pc [.ref h, .int (nI r), .int (nI k)] (ts_A D vwCl (ts_ty cL cA cI cZ) [(h, .inr (2, [.int th, .ref pa, .ref ba])), (pa, .inl (cI, 2400, .inl P)), (ba, .inl (cZ, 10, .inl B))] sz)) (ts_Q (fun (v : Option Value) (u : Nat → Int32) => v = none ∧ ts_pk u ∧ ts_off P u r ∧ ts_r u r = ts_r P r * 2 ^ k) (fun u => ts_B D vwCl (ts_ty cL cA cI cZ) (va_A [(h, .inr (2, [.int th, .ref pa, .ref ba])), (pa, .inl (cI, 2400, .inl P)), (ba, .inl (cZ, 10, .inl B))] sz) ([(h, .inr (2, [.int th, .ref pa, .ref ba])), (pa, .inl (cI, 2400, .inl u)), (ba, .inl (cZ, 10, .inl B))])) (va_A [(h, .inr (2, [.int th, .ref pa, .ref ba])), (pa, .inl (cI, 2400, .inl P)), (ba, .inl (cZ, 10, .inl B))] sz)) 0 0 (va_A [(h, .inr (2, [.int th, .ref pa, .ref ba])), (pa, .inl (cI, 2400, .inl P)), (ba, .inl (cZ, 10, .inl B))] sz) := by
  refine ts_met (cc := b_M_shift) (maxL := 5) (ret := none) (by decide) rfl (Nat.le_of_ble_eq_true rfl) ?_
  intro p e s m below meth c hx hb hr hml hown hts hlocks hname A hA hAe hK hP hD hS hsz ls hl
  have hown : s.vm.findClass R_M = some m.cls := hown
  have hl : lv_has ls 5 [(0, .ref h), (1, .int (nI r)), (2, .int (nI k))] := hl
  have hP : va_P D vwCl [(h, .inr (2, [.int th, .ref pa, .ref ba])), (pa, .inl (cI, 2400, .inl P)), (ba, .inl (cZ, 10, .inl B))] s.heap := hP
  have hD : va_D A [(h, .inr (2, [.int th, .ref pa, .ref ba])), (pa, .inl (cI, 2400, .inl P)), (ba, .inl (cZ, 10, .inl B))] := hD
  refine lv_iload_n hx hb d_M_shift_0 rfl (lv_at hl 2 rfl) ?_
  refine lv_bipush (v := 28) hx hb d_M_shift_1 (by decide) ?_
  refine lv_idiv hx hb d_M_shift_3 (by decide) ?_
  refine lv_topi (fun z1 e_z1 => ?_)
  obtain rfl : z1 = (nI (k / 28)) := e_z1.trans (pk_div (a := k) (d := 28) (by omega) (by decide) (by decide))
  refine lv_istore_n (lv' := [(3, .int (nI (k / 28))), (0, .ref h), (1, .int (nI r)), (2, .int (nI k))]) hx hb d_M_shift_4 rfl hl (by decide) rfl (fun ls hl => ?_)
  refine lv_sipush (v := ts_dn 239 0) hx hb d_M_shift_5 (by decide) ?_
  refine lv_istore (lv' := [(4, .int (ts_dn 239 0)), (3, .int (nI (k / 28))), (0, .ref h), (1, .int (nI r)), (2, .int (nI k))]) hx hb d_M_shift_8 hl (by decide) rfl (fun ls hl => ?_)
  refine ts_lp (H0 := s.heap) (D := D) (cl := vwCl) (A := A) (nL := 5) 240 (fun (i : Nat) (q : Nat → Int32) => ts_ShI P r (k / 28) i q) (fun (i : Nat) (q : Nat → Int32) => [(h, .inr (2, [.int th, .ref pa, .ref ba])), (pa, .inl (cI, 2400, .inl q)), (ba, .inl (cZ, 10, .inl B))]) (fun (i : Nat) (q : Nat → Int32) => [(4, .int (ts_dn 239 i)), (3, .int (nI (k / 28))), (0, .ref h), (1, .int (nI r)), (2, .int (nI k))]) 0 P ?_ ?_ (by omega) (ts_ShI.zero hp) hP hD hS (lv_sub hl [0, 1, 2, 3, 4] rfl)
  · intro i u hi hI ih H locs hP hD hS ls hl
    have hl : lv_has ls 5 [(4, .int (ts_dn 239 i)), (3, .int (nI (k / 28))), (0, .ref h), (1, .int (nI r)), (2, .int (nI k))] := hl
    have hP : va_P D vwCl [(h, .inr (2, [.int th, .ref pa, .ref ba])), (pa, .inl (cI, 2400, .inl u)), (ba, .inl (cZ, 10, .inl B))] H := hP
    have hD : va_D A [(h, .inr (2, [.int th, .ref pa, .ref ba])), (pa, .inl (cI, 2400, .inl u)), (ba, .inl (cZ, 10, .inl B))] := hD
    obtain ⟨j, hj⟩ : ∃ j : Nat, j = 239 - i := ⟨_, rfl⟩
    rw [ts_dn_le (show i ≤ 239 by omega), ← hj] at hl
    have hl : lv_has ls 5 [(4, .int (nI j)), (3, .int (nI (k / 28))), (0, .ref h), (1, .int (nI r)), (2, .int (nI k))] := hl
    refine lv_iload hx hb d_M_shift_10 (lv_at hl 0 rfl) ?_
    refine lv_if_lt (tgt := 59) hx hb d_M_shift_12 (by decide) (fun c2 => ?_) (fun c2 => ?_)
    · exact absurd c2 (nI_pos (by omega))
    · refine lv_aload_n hx hb d_M_shift_15 rfl (lv_at hl 2 rfl) ?_
      refine va_get (D := D) (ci := 2) (v := .ref pa) (C := R_M) (T := F_M) (N := 3) hx hb hts (by decide +kernel) hown hK hP 0 rfl rfl 1 (by decide) (hts (.fieldLink R_M 7 "TripleSumsModel" "parts" "[I") (by decide +kernel)) (fun _ h9 => h9) rfl d_M_shift_16 ?_
      refine lv_sipush (v := 240) hx hb d_M_shift_19 (by decide) ?_
      refine lv_iload_n hx hb d_M_shift_22 rfl (lv_at hl 3 rfl) ?_
      refine lv_imul hx hb d_M_shift_23 ?_
      refine lv_iload hx hb d_M_shift_24 (lv_at hl 0 rfl) ?_
      refine lv_iadd hx hb d_M_shift_26 ?_
      refine lv_topi (fun z3 e_z3 => ?_)
      obtain rfl : z3 = (nI (240 * r + j)) := e_z3.trans (ts_ix r j)
      refine lv_iload hx hb d_M_shift_27 (lv_at hl 0 rfl) ?_
      refine lv_iload_n hx hb d_M_shift_29 rfl (lv_at hl 1 rfl) ?_
      refine lv_icmp_lt (tgt := 51) hx hb d_M_shift_30 (by decide) (fun c4 => ?_) (fun c4 => ?_)
      · have hw : ¬ k / 28 ≤ j := fun q => absurd c4 (nI_nlt q (by omega))
        refine lv_iconst (v := 0) hx hb d_M_shift_51 (by decide) ?_
        refine va_iast (D := D) hx hb hK hP hD hS 1 2 rfl rfl (vp_in_nI (by omega) (by decide)) d_M_shift_52 (fun H locs hP hD hS => ?_)
        have hP : va_P D vwCl [(h, .inr (2, [.int th, .ref pa, .ref ba])), (pa, .inl (cI, 2400, .inl (upd u (Int32.toNatClampNeg (nI (240 * r + j))) 0))), (ba, .inl (cZ, 10, .inl B))] H := hP
        have hD : va_D A [(h, .inr (2, [.int th, .ref pa, .ref ba])), (pa, .inl (cI, 2400, .inl (upd u (Int32.toNatClampNeg (nI (240 * r + j))) 0))), (ba, .inl (cZ, 10, .inl B))] := hD
        rw [nI_clamp (n := 240 * r + j) (by omega)] at hP hD
        have hP : va_P D vwCl [(h, .inr (2, [.int th, .ref pa, .ref ba])), (pa, .inl (cI, 2400, .inl (upd u (240 * r + j) 0))), (ba, .inl (cZ, 10, .inl B))] H := hP
        have hD : va_D A [(h, .inr (2, [.int th, .ref pa, .ref ba])), (pa, .inl (cI, 2400, .inl (upd u (240 * r + j) 0))), (ba, .inl (cZ, 10, .inl B))] := hD
        refine lv_iinc (v := (ts_dn 239 (i + 1))) (lv' := [(4, .int (ts_dn 239 (i + 1))), (3, .int (nI (k / 28))), (0, .ref h), (1, .int (nI r)), (2, .int (nI k))]) hx hb d_M_shift_53 hl (k := 0) rfl (by rw [← ts_dn_s, ts_dn_le (show i ≤ 239 by omega), hj]) (by decide) rfl (fun ls hl => ?_)
        refine lv_goto (tgt := 10) hx hb d_M_shift_56 (by decide) ?_
        refine ih (upd u (240 * r + j) 0) (ts_ShI.step hp hr9 hi hj hI (by rw [if_neg hw])) _ _ hP hD hS ls (lv_sub hl [0, 1, 2, 3, 4] rfl)
      · have hw : k / 28 ≤ j := Nat.le_of_not_lt (fun q => c4 (nI_lt q (by omega)))
        refine lv_aload_n hx hb d_M_shift_33 rfl (lv_at hl 2 rfl) ?_
        refine va_get (D := D) (ci := 2) (v := .ref pa) (C := R_M) (T := F_M) (N := 3) hx hb hts (by decide +kernel) hown hK hP 0 rfl rfl 1 (by decide) (hts (.fieldLink R_M 7 "TripleSumsModel" "parts" "[I") (by decide +kernel)) (fun _ h9 => h9) rfl d_M_shift_34 ?_
        refine lv_sipush (v := 240) hx hb d_M_shift_37 (by decide) ?_
        refine lv_iload_n hx hb d_M_shift_40 rfl (lv_at hl 3 rfl) ?_
        refine lv_imul hx hb d_M_shift_41 ?_
        refine lv_iload hx hb d_M_shift_42 (lv_at hl 0 rfl) ?_
        refine lv_iadd hx hb d_M_shift_44 ?_
        refine lv_topi (fun z5 e_z5 => ?_)
        obtain rfl : z5 = (nI (240 * r + j)) := e_z5.trans (ts_ix r j)
        refine lv_iload_n hx hb d_M_shift_45 rfl (lv_at hl 1 rfl) ?_
        refine lv_isub hx hb d_M_shift_46 ?_
        refine lv_topi (fun z6 e_z6 => ?_)
        obtain rfl : z6 = (nI (240 * r + (j - k / 28))) := e_z6.trans ((pk_sub (by omega)).trans (congrArg nI (by omega)))
        refine va_iald (D := D) hx hb hK hP 1 2 rfl rfl (vp_in_nI (by omega) (by decide)) d_M_shift_47 ?_
        refine lv_topi (fun v7 e_v7 => ?_)
        rw [nI_clamp (n := 240 * r + (j - k / 28)) (by omega)] at e_v7
        refine lv_goto (tgt := 52) hx hb d_M_shift_48 (by decide) ?_
        refine va_iast (D := D) hx hb hK hP hD hS 1 2 rfl rfl (vp_in_nI (by omega) (by decide)) d_M_shift_52 (fun H locs hP hD hS => ?_)
        have hP : va_P D vwCl [(h, .inr (2, [.int th, .ref pa, .ref ba])), (pa, .inl (cI, 2400, .inl (upd u (Int32.toNatClampNeg (nI (240 * r + j))) v7))), (ba, .inl (cZ, 10, .inl B))] H := hP
        have hD : va_D A [(h, .inr (2, [.int th, .ref pa, .ref ba])), (pa, .inl (cI, 2400, .inl (upd u (Int32.toNatClampNeg (nI (240 * r + j))) v7))), (ba, .inl (cZ, 10, .inl B))] := hD
        rw [nI_clamp (n := 240 * r + j) (by omega)] at hP hD
        have hP : va_P D vwCl [(h, .inr (2, [.int th, .ref pa, .ref ba])), (pa, .inl (cI, 2400, .inl (upd u (240 * r + j) v7))), (ba, .inl (cZ, 10, .inl B))] H := hP
        have hD : va_D A [(h, .inr (2, [.int th, .ref pa, .ref ba])), (pa, .inl (cI, 2400, .inl (upd u (240 * r + j) v7))), (ba, .inl (cZ, 10, .inl B))] := hD
        refine lv_iinc (v := (ts_dn 239 (i + 1))) (lv' := [(4, .int (ts_dn 239 (i + 1))), (3, .int (nI (k / 28))), (0, .ref h), (1, .int (nI r)), (2, .int (nI k))]) hx hb d_M_shift_53 hl (k := 0) rfl (by rw [← ts_dn_s, ts_dn_le (show i ≤ 239 by omega), hj]) (by decide) rfl (fun ls hl => ?_)
        refine lv_goto (tgt := 10) hx hb d_M_shift_56 (by decide) ?_
        refine ih (upd u (240 * r + j) v7) (ts_ShI.step hp hr9 hi hj hI (by rw [if_pos hw, e_v7, hI.2.2.2 (j - k / 28) (by omega)])) _ _ hP hD hS ls (lv_sub hl [0, 1, 2, 3, 4] rfl)
  · intro u hI H locs hP hD hS ls hl
    have hl : lv_has ls 5 [(4, .int (ts_dn 239 240)), (3, .int (nI (k / 28))), (0, .ref h), (1, .int (nI r)), (2, .int (nI k))] := hl
    have hP : va_P D vwCl [(h, .inr (2, [.int th, .ref pa, .ref ba])), (pa, .inl (cI, 2400, .inl u)), (ba, .inl (cZ, 10, .inl B))] H := hP
    have hD : va_D A [(h, .inr (2, [.int th, .ref pa, .ref ba])), (pa, .inl (cI, 2400, .inl u)), (ba, .inl (cZ, 10, .inl B))] := hD
    refine lv_iload hx hb d_M_shift_10 (lv_at hl 0 rfl) ?_
    refine lv_if_lt (tgt := 59) hx hb d_M_shift_12 (by decide) (fun c8 => ?_) (fun c8 => ?_)
    · obtain ⟨d1, d2, d3⟩ := ts_ShI.done hp hr9 (by omega) hI (ts_shL hN)
      refine lv_aload_n hx hb d_M_shift_59 rfl (lv_at hl 2 rfl) ?_
      refine lv_iload_n hx hb d_M_shift_60 rfl (lv_at hl 3 rfl) ?_
      refine lv_iconst (v := 1) hx hb d_M_shift_61 (by decide) ?_
      refine lv_iload_n hx hb d_M_shift_62 rfl (lv_at hl 4 rfl) ?_
      refine lv_bipush (v := 28) hx hb d_M_shift_63 (by decide) ?_
      refine lv_irem hx hb d_M_shift_65 (by decide) ?_
      refine lv_topi (fun z9 e_z9 => ?_)
      obtain rfl : z9 = (nI (k % 28)) := e_z9.trans (pk_rem (a := k) (d := 28) (by omega) (by decide) (by decide))
      refine lv_ishl hx hb d_M_shift_66 ?_
      refine lv_topi (fun z10 e_z10 => ?_)
      obtain rfl : z10 = (nI (2 ^ (k % 28))) := e_z10.trans (ts_shl32 _ (by omega))
      have hq := ts_p28 (j := k % 28) (by omega)
      have hq2 : (nI (2 ^ (k % 28))).toInt.toNat = 2 ^ (k % 28) := by rw [nI_toInt (by omega)]; rfl
      refine ts_callV (rest := []) ⟨hx, hb, hml, hown, hts⟩ (c_M_times l D cL cA cI cZ h pa ba th u B r (nI (2 ^ (k % 28))) hr9 (by rw [nI_toInt (by omega)]; omega) d1 (by rw [hq2, d3, ← ts_shE]; exact hN) _) (cwV 2 hts g_M_shift_M_times rfl rfl rfl (by decide +kernel) ⟨Nat.le_of_ble_eq_true rfl, Nat.le_of_ble_eq_true rfl⟩) hK hP hD hS hA hl.1 [0, 1, 2] (by decide) rfl (va_recv hK hP (ci := 2) (q0 := 0) rfl rfl) (fun u => rfl) rfl rfl (Nat.le_of_ble_eq_true rfl) d_M_shift_67 ⟨Nat.zero_le _, Nat.zero_le _⟩ (fun v u2 H locs hw hP hD hS => ?_)
      have hP : va_P D vwCl [(h, .inr (2, [.int th, .ref pa, .ref ba])), (pa, .inl (cI, 2400, .inl u2)), (ba, .inl (cZ, 10, .inl B))] H := hP
      have hD : va_D A [(h, .inr (2, [.int th, .ref pa, .ref ba])), (pa, .inl (cI, 2400, .inl u2)), (ba, .inl (cZ, 10, .inl B))] := hD
      obtain ⟨rfl, hw1, hw2, hw3⟩ := hw
      show W _ _ _ _ _ _ _ _ _ _ _ _ _ _ _ (F0 m 70 ls [])
      exact W.vret hx hb hr (fun t ht hW => ts_ret (u := u2) hP hD hK hS ⟨rfl, hw1, d2.tr hw2, by rw [hw3, hq2, d3, ← ts_shE]⟩ ht hW) hS.2.2 d_M_shift_70
    · exact absurd (ts_dn_end 239) c8

