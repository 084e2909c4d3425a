set_option maxHeartbeats 4000000 in
set_option maxRecDepth 100000 in
theorem c_M_highest (l : Launch) (D : va_G) (cL cA cI cZ : ClassId) (h pa ba : Nat) (th : Int32) (P B : Nat → Int32) (r : Nat) (hr9 : r < 10) (hp : ts_pk P) (sz : Nat) : Met l y_M_highest w_M_highest (ts_rm 1) (va_Pc [.ref h, .int (nI r)] (ts_A D vwCl (ts_ty cL cA cI cZ) [(h, .inr (2, [.int th, .ref pa, .ref ba])), (pa, .inl (cI, 2400, .inl P)), (ba, .inl (cZ, 10, .inl B))] sz)) (ts_Q (fun (v : Option Value) (u : Unit) => ∃ z : Int32, v = some (.int z) ∧ ts_tp (ts_r P r) z) (fun u => ts_B D vwCl (ts_ty cL cA cI cZ) (va_A [(h, .inr (2, [.int th, .ref pa, .ref ba])), (pa, .inl (cI, 2400, .inl P)), (ba, .inl (cZ, 10, .inl B))] sz) ([(h, .inr (2, [.int th, .ref pa, .ref ba])), (pa, .inl (cI, 2400, .inl P)), (ba, .inl (cZ, 10, .inl B))])) (va_A [(h, .inr (2, [.int th, .ref pa, .ref ba])), (pa, .inl (cI, 2400, .inl P)), (ba, .inl (cZ, 10, .inl B))] sz)) 0 0 (va_A [(h, .inr (2, [.int th, .ref pa, .ref ba])), (pa, .inl (cI, 2400, .inl P)), (ba, .inl (cZ, 10, .inl B))] sz) := by
  refine ts_met (cc := b_M_highest) (maxL := 5) (ret := (some .int)) (by decide) rfl (Nat.le_of_ble_eq_true rfl) ?_
  intro p e s m below meth c hx hb hr hml hown hts hlocks hname A hA hAe hK hP hD hS hsz ls hl
  have hown : s.vm.findClass R_M = some m.cls := hown
  have hl : lv_has ls 5 [(0, .ref h), (1, .int (nI r))] := hl
  have hP : va_P D vwCl [(h, .inr (2, [.int th, .ref pa, .ref ba])), (pa, .inl (cI, 2400, .inl P)), (ba, .inl (cZ, 10, .inl B))] s.heap := hP
  have hD : va_D A [(h, .inr (2, [.int th, .ref pa, .ref ba])), (pa, .inl (cI, 2400, .inl P)), (ba, .inl (cZ, 10, .inl B))] := hD
  refine lv_sipush (v := ts_dn 239 0) hx hb d_M_highest_0 (by decide) ?_
  refine lv_istore_n (lv' := [(2, .int (ts_dn 239 0)), (0, .ref h), (1, .int (nI r))]) hx hb d_M_highest_3 rfl hl (by decide) rfl (fun ls hl => ?_)
  refine ts_lp (H0 := s.heap) (D := D) (cl := vwCl) (A := A) (nL := 5) 240 (fun (i : Nat) (q : Unit) => ∀ j, 240 ≤ j + i → j < 240 → P (240 * r + j) = 0) (fun (i : Nat) (q : Unit) => [(h, .inr (2, [.int th, .ref pa, .ref ba])), (pa, .inl (cI, 2400, .inl P)), (ba, .inl (cZ, 10, .inl B))]) (fun (i : Nat) (q : Unit) => [(2, .int (ts_dn 239 i)), (0, .ref h), (1, .int (nI r))]) 0 () ?_ ?_ (by omega) (fun j h1 h2 => by omega) hP hD hS (lv_sub hl [0, 1, 2] rfl)
  · intro i _ hi hI ih H locs hP hD hS ls hl
    have hl : lv_has ls 5 [(2, .int (ts_dn 239 i)), (0, .ref h), (1, .int (nI r))] := hl
    have hP : va_P D vwCl [(h, .inr (2, [.int th, .ref pa, .ref ba])), (pa, .inl (cI, 2400, .inl P)), (ba, .inl (cZ, 10, .inl B))] H := hP
    have hD : va_D A [(h, .inr (2, [.int th, .ref pa, .ref ba])), (pa, .inl (cI, 2400, .inl P)), (ba, .inl (cZ, 10, .inl B))] := hD
    obtain ⟨j, hj⟩ : ∃ j : Nat, j = 239 - i := ⟨_, rfl⟩
    rw [ts_dn_le (show i ≤ 239 by omega), ← hj] at hl
    have hl : lv_has ls 5 [(2, .int (nI j)), (0, .ref h), (1, .int (nI r))] := hl
    refine lv_iload_n hx hb d_M_highest_4 rfl (lv_at hl 0 rfl) ?_
    refine lv_if_lt (tgt := 60) hx hb d_M_highest_5 (by decide) (fun c1 => ?_) (fun c1 => ?_)
    · exact absurd c1 (nI_pos (by omega))
    · refine lv_aload_n hx hb d_M_highest_8 rfl (lv_at hl 1 rfl) ?_
      refine va_get (D := D) (ci := 2) (v := .ref pa) (C := R_M) (T := F_M) (N := 3) hx hb hts (by decide +kernel) hown hK hP 0 rfl rfl 1 (by decide) (hts (.fieldLink R_M 7 "TripleSumsModel" "parts" "[I") (by decide +kernel)) (fun _ h9 => h9) rfl d_M_highest_9 ?_
      refine lv_sipush (v := 240) hx hb d_M_highest_12 (by decide) ?_
      refine lv_iload_n hx hb d_M_highest_15 rfl (lv_at hl 2 rfl) ?_
      refine lv_imul hx hb d_M_highest_16 ?_
      refine lv_iload_n hx hb d_M_highest_17 rfl (lv_at hl 0 rfl) ?_
      refine lv_iadd hx hb d_M_highest_18 ?_
      refine lv_topi (fun z2 e_z2 => ?_)
      obtain rfl : z2 = (nI (240 * r + j)) := e_z2.trans (ts_ix r j)
      refine va_iald (D := D) hx hb hK hP 1 2 rfl rfl (vp_in_nI (by omega) (by decide)) d_M_highest_19 ?_
      refine lv_topi (fun v3 e_v3 => ?_)
      rw [nI_clamp (n := 240 * r + j) (by omega)] at e_v3
      have hv := hp (240 * r + j) (by omega)
      rw [← e_v3] at hv
      refine lv_istore_n (lv' := [(3, .int v3), (2, .int (nI j)), (0, .ref h), (1, .int (nI r))]) hx hb d_M_highest_20 rfl hl (by decide) rfl (fun ls hl => ?_)
      refine lv_iload_n hx hb d_M_highest_21 rfl (lv_at hl 0 rfl) ?_
      refine lv_if_le (tgt := 54) hx hb d_M_highest_22 (by decide) (fun c4 => ?_) (fun c4 => ?_)
      · refine lv_iinc (v := (ts_dn 239 (i + 1))) (lv' := [(2, .int (ts_dn 239 (i + 1))), (3, .int v3), (0, .ref h), (1, .int (nI r))]) hx hb d_M_highest_54 hl (k := 1) rfl (by rw [← ts_dn_s, ts_dn_le (show i ≤ 239 by omega), hj]) (by decide) rfl (fun ls hl => ?_)
        refine lv_goto (tgt := 4) hx hb d_M_highest_57 (by decide) ?_
        refine ih () (fun q h1 h2 => ?_) _ _ hP hD hS ls (lv_sub hl [0, 2, 3] rfl)
        by_cases hq : q = j
        · subst hq; rw [← e_v3]; exact ts_le0 hv c4
        · exact hI q (by omega) h2
      · obtain ⟨q, hq, ht⟩ := ts_topd hv c4
        refine lv_iconst (v := (nI 0)) hx hb d_M_highest_25 (by decide) ?_
        refine lv_istore (lv' := [(4, .int (nI 0)), (3, .int v3), (2, .int (nI j)), (0, .ref h), (1, .int (nI r))]) hx hb d_M_highest_26 hl (by decide) rfl (fun ls hl => ?_)
        refine ts_lp (H0 := s.heap) (D := D) (cl := vwCl) (A := A) (nL := 5) q (fun (i : Nat) (q : Unit) => True) (fun (i : Nat) (q : Unit) => [(h, .inr (2, [.int th, .ref pa, .ref ba])), (pa, .inl (cI, 2400, .inl P)), (ba, .inl (cZ, 10, .inl B))]) (fun (i : Nat) (q : Unit) => [(4, .int (nI i)), (3, .int v3), (2, .int (nI j)), (0, .ref h), (1, .int (nI r))]) 0 () ?_ ?_ (by omega) (trivial) hP hD hS (lv_sub hl [0, 1, 2, 3, 4] rfl)
        · intro n _ hi3 _ ih H locs hP hD hS ls hl
          have hl : lv_has ls 5 [(4, .int (nI n)), (3, .int v3), (2, .int (nI j)), (0, .ref h), (1, .int (nI r))] := hl
          have hP : va_P D vwCl [(h, .inr (2, [.int th, .ref pa, .ref ba])), (pa, .inl (cI, 2400, .inl P)), (ba, .inl (cZ, 10, .inl B))] H := hP
          have hD : va_D A [(h, .inr (2, [.int th, .ref pa, .ref ba])), (pa, .inl (cI, 2400, .inl P)), (ba, .inl (cZ, 10, .inl B))] := hD
          refine lv_iload_n hx hb d_M_highest_28 rfl (lv_at hl 1 rfl) ?_
          refine lv_iload hx hb d_M_highest_29 (lv_at hl 0 rfl) ?_
          refine lv_ishr hx hb d_M_highest_31 ?_
          refine lv_topi (fun z5 e_z5 => ?_)
          refine lv_iconst (v := 1) hx hb d_M_highest_32 (by decide) ?_
          refine lv_icmp_le (tgt := 42) hx hb d_M_highest_33 (by decide) (fun c6 => ?_) (fun c6 => ?_)
          · exact absurd ((ts_gt1 (n := n) hv hq ht (by omega)).mp (by rw [← e_z5]; exact c6)) (by omega)
          · refine lv_iinc (v := (nI (n + 1))) (lv' := [(4, .int (nI (n + 1))), (3, .int v3), (2, .int (nI j)), (0, .ref h), (1, .int (nI r))]) hx hb d_M_highest_36 hl (k := 0) rfl (nI_1 _) (by decide) rfl (fun ls hl => ?_)
            refine lv_goto (tgt := 28) hx hb d_M_highest_39 (by decide) ?_
            refine ih () trivial _ _ hP hD hS ls (lv_sub hl [0, 1, 2, 3, 4] rfl)
        · intro _ _ H locs hP hD hS ls hl
          have hl : lv_has ls 5 [(4, .int (nI q)), (3, .int v3), (2, .int (nI j)), (0, .ref h), (1, .int (nI r))] := hl
          have hP : va_P D vwCl [(h, .inr (2, [.int th, .ref pa, .ref ba])), (pa, .inl (cI, 2400, .inl P)), (ba, .inl (cZ, 10, .inl B))] H := hP
          have hD : va_D A [(h, .inr (2, [.int th, .ref pa, .ref ba])), (pa, .inl (cI, 2400, .inl P)), (ba, .inl (cZ, 10, .inl B))] := hD
          refine lv_iload_n hx hb d_M_highest_28 rfl (lv_at hl 1 rfl) ?_
          refine lv_iload hx hb d_M_highest_29 (lv_at hl 0 rfl) ?_
          refine lv_ishr hx hb d_M_highest_31 ?_
          refine lv_topi (fun z7 e_z7 => ?_)
          refine lv_iconst (v := 1) hx hb d_M_highest_32 (by decide) ?_
          refine lv_icmp_le (tgt := 42) hx hb d_M_highest_33 (by decide) (fun c8 => ?_) (fun c8 => ?_)
          · refine lv_bipush (v := 28) hx hb d_M_highest_42 (by decide) ?_
            refine lv_iload_n hx hb d_M_highest_44 rfl (lv_at hl 2 rfl) ?_
            refine lv_imul hx hb d_M_highest_45 ?_
            refine lv_iload hx hb d_M_highest_46 (lv_at hl 0 rfl) ?_
            refine lv_iadd hx hb d_M_highest_48 ?_
            refine lv_topi (fun z9 e_z9 => ?_)
            obtain rfl : z9 = (nI (28 * j + q)) := e_z9.trans (ts_ix28 j q)
            refine lv_sipush (v := (-3222)) hx hb d_M_highest_49 (by decide) ?_
            refine lv_iadd hx hb d_M_highest_52 ?_
            refine lv_topi (fun z10 e_z10 => ?_)
            obtain rfl : z10 = (nI (28 * j + q) - 3222) := e_z10.trans (ts_m3222 _)
            refine W.iret (v := (nI (28 * j + q) - 3222)) hx hb hr (fun t ht hW => ts_ret (u := ()) hP hD hK hS ⟨_, rfl, Or.inr ⟨28 * j + q, ?_, rfl⟩⟩ ht hW) hS.2.2 d_M_highest_53
            refine ts_dv_topbit (ts_d_lt hp hr9) (show j < 240 by omega) (fun q h1 h2 => ts_z0 (hI q (by omega) h2)) ?_
            show ts_Top (P (240 * r + j)).toInt.toNat q
            rw [← e_v3]; assumption
          · exact absurd ((ts_gt1 hv hq ht (Nat.le_refl _)).mpr rfl) (by rw [← e_z7]; exact c8)
  · intro _ hI H locs hP hD hS ls hl
    have hl : lv_has ls 5 [(2, .int (ts_dn 239 240)), (0, .ref h), (1, .int (nI r))] := hl
    have hP : va_P D vwCl [(h, .inr (2, [.int th, .ref pa, .ref ba])), (pa, .inl (cI, 2400, .inl P)), (ba, .inl (cZ, 10, .inl B))] H := hP
    have hD : va_D A [(h, .inr (2, [.int th, .ref pa, .ref ba])), (pa, .inl (cI, 2400, .inl P)), (ba, .inl (cZ, 10, .inl B))] := hD
    refine lv_iload_n hx hb d_M_highest_4 rfl (lv_at hl 0 rfl) ?_
    refine lv_if_lt (tgt := 60) hx hb d_M_highest_5 (by decide) (fun c11 => ?_) (fun c11 => ?_)
    · refine lv_ldc (v := (-100000)) hx hb hown (hts (.constant R_M 89 (-100000)) (by decide +kernel)) d_M_highest_60 ?_
      exact W.iret (v := (-100000)) hx hb hr (fun t ht hW => ts_ret (u := ()) hP hD hK hS ⟨_, rfl, Or.inl ⟨ts_dv_zero (fun q hq => ts_z0 (hI q (by omega) hq)), rfl⟩⟩ ht hW) hS.2.2 d_M_highest_62
    · exact absurd (ts_dn_end 239) c11

set_option maxHeartbeats 4000000 in
set_option maxRecDepth 100000 in
theorem c_M_lowest (l : Launch) (D : va_G) (cL cA cI cZ : ClassId) (h pa ba : Nat) (th : Int32) (P B : Nat → Int32) (r : Nat) (hr9 : r < 10) (hp : ts_pk P) (sz : Nat) : Met l y_M_lowest w_M_lowest (ts_rm 1) (va_Pc [.ref h, .int (nI r)] (ts_A D vwCl (ts_ty cL cA cI cZ) [(h, .inr (2, [.int th, .ref pa, .ref ba])), (pa, .inl (cI, 2400, .inl P)), (ba, .inl (cZ, 10, .inl B))] sz)) (ts_Q (fun (v : Option Value) (u : Unit) => ∃ z : Int32, v = some (.int z) ∧ ts_bt (ts_r P r) z) (fun u => ts_B D vwCl (ts_ty cL cA cI cZ) (va_A [(h, .inr (2, [.int th, .ref pa, .ref ba])), (pa, .inl (cI, 2400, .inl P)), (ba, .inl (cZ, 10, .inl B))] sz) ([(h, .inr (2, [.int th, .ref pa, .ref ba])), (pa, .inl (cI, 2400, .inl P)), (ba, .inl (cZ, 10, .inl B))])) (va_A [(h, .inr (2, [.int th, .ref pa, .ref ba])), (pa, .inl (cI, 2400, .inl P)), (ba, .inl (cZ, 10, .inl B))] sz)) 0 0 (va_A [(h, .inr (2, [.int th, .ref pa, .ref ba])), (pa, .inl (cI, 2400, .inl P)), (ba, .inl (cZ, 10, .inl B))] sz) := by
  refine ts_met (cc := b_M_lowest) (maxL := 5) (ret := (some .int)) (by decide) rfl (Nat.le_of_ble_eq_true rfl) ?_
  intro p e s m below meth c hx hb hr hml hown hts hlocks hname A hA hAe hK hP hD hS hsz ls hl
  have hown : s.vm.findClass R_M = some m.cls := hown
  have hl : lv_has ls 5 [(0, .ref h), (1, .int (nI r))] := hl
  have hP : va_P D vwCl [(h, .inr (2, [.int th, .ref pa, .ref ba])), (pa, .inl (cI, 2400, .inl P)), (ba, .inl (cZ, 10, .inl B))] s.heap := hP
  have hD : va_D A [(h, .inr (2, [.int th, .ref pa, .ref ba])), (pa, .inl (cI, 2400, .inl P)), (ba, .inl (cZ, 10, .inl B))] := hD
  refine lv_iconst (v := (nI 0)) hx hb d_M_lowest_0 (by decide) ?_
  refine lv_istore_n (lv' := [(2, .int (nI 0)), (0, .ref h), (1, .int (nI r))]) hx hb d_M_lowest_1 rfl hl (by decide) rfl (fun ls hl => ?_)
  refine ts_lp (H0 := s.heap) (D := D) (cl := vwCl) (A := A) (nL := 5) 240 (fun (i : Nat) (q : Unit) => ∀ j, j < i → P (240 * r + j) = 0) (fun (i : Nat) (q : Unit) => [(h, .inr (2, [.int th, .ref pa, .ref ba])), (pa, .inl (cI, 2400, .inl P)), (ba, .inl (cZ, 10, .inl B))]) (fun (i : Nat) (q : Unit) => [(2, .int (nI i)), (0, .ref h), (1, .int (nI r))]) 0 () ?_ ?_ (by omega) (fun j h1 => absurd h1 (Nat.not_lt_zero j)) hP hD hS (lv_sub hl [0, 1, 2] rfl)
  · intro i _ hi hI ih H locs hP hD hS ls hl
    have hl : lv_has ls 5 [(2, .int (nI i)), (0, .ref h), (1, .int (nI r))] := hl
    have hP : va_P D vwCl [(h, .inr (2, [.int th, .ref pa, .ref ba])), (pa, .inl (cI, 2400, .inl P)), (ba, .inl (cZ, 10, .inl B))] H := hP
    have hD : va_D A [(h, .inr (2, [.int th, .ref pa, .ref ba])), (pa, .inl (cI, 2400, .inl P)), (ba, .inl (cZ, 10, .inl B))] := hD
    refine lv_iload_n hx hb d_M_lowest_2 rfl (lv_at hl 0 rfl) ?_
    refine lv_sipush (v := 240) hx hb d_M_lowest_3 (by decide) ?_
    refine lv_icmp_ge (tgt := 62) hx hb d_M_lowest_6 (by decide) (fun c12 => ?_) (fun c12 => ?_)
    · exact absurd c12 (nI_ge hi (by decide))
    · refine lv_aload_n hx hb d_M_lowest_9 rfl (lv_at hl 1 rfl) ?_
      refine va_get (D := D) (ci := 2) (v := .ref pa) (C := R_M) (T := F_M) (N := 3) hx hb hts (by decide +kernel) hown hK hP 0 rfl rfl 1 (by decide) (hts (.fieldLink R_M 7 "TripleSumsModel" "parts" "[I") (by decide +kernel)) (fun _ h9 => h9) rfl d_M_lowest_10 ?_
      refine lv_sipush (v := 240) hx hb d_M_lowest_13 (by decide) ?_
      refine lv_iload_n hx hb d_M_lowest_16 rfl (lv_at hl 2 rfl) ?_
      refine lv_imul hx hb d_M_lowest_17 ?_
      refine lv_iload_n hx hb d_M_lowest_18 rfl (lv_at hl 0 rfl) ?_
      refine lv_iadd hx hb d_M_lowest_19 ?_
      refine lv_topi (fun z13 e_z13 => ?_)
      obtain rfl : z13 = (nI (240 * r + i)) := e_z13.trans (ts_ix r i)
      refine va_iald (D := D) hx hb hK hP 1 2 rfl rfl (vp_in_nI (by omega) (by decide)) d_M_lowest_20 ?_
      refine lv_topi (fun v14 e_v14 => ?_)
      rw [nI_clamp (n := 240 * r + i) (by omega)] at e_v14
      have hv := hp (240 * r + i) (by omega)
      rw [← e_v14] at hv
      refine lv_istore_n (lv' := [(3, .int v14), (2, .int (nI i)), (0, .ref h), (1, .int (nI r))]) hx hb d_M_lowest_21 rfl hl (by decide) rfl (fun ls hl => ?_)
      refine lv_iload_n hx hb d_M_lowest_22 rfl (lv_at hl 0 rfl) ?_
      refine lv_if_le (tgt := 56) hx hb d_M_lowest_23 (by decide) (fun c15 => ?_) (fun c15 => ?_)
      · refine lv_iinc (v := (nI (i + 1))) (lv' := [(2, .int (nI (i + 1))), (3, .int v14), (0, .ref h), (1, .int (nI r))]) hx hb d_M_lowest_56 hl (k := 1) rfl (nI_1 _) (by decide) rfl (fun ls hl => ?_)
        refine lv_goto (tgt := 2) hx hb d_M_lowest_59 (by decide) ?_
        refine ih () (lt_s (p := fun j => P (240 * r + j) = 0) hI (by rw [← e_v14]; exact ts_le0 hv c15)) _ _ hP hD hS ls (lv_sub hl [0, 2, 3] rfl)
      · obtain ⟨q, hq, ht⟩ := ts_botd hv c15
        refine lv_iconst (v := (nI 0)) hx hb d_M_lowest_26 (by decide) ?_
        refine lv_istore (lv' := [(4, .int (nI 0)), (3, .int v14), (2, .int (nI i)), (0, .ref h), (1, .int (nI r))]) hx hb d_M_lowest_27 hl (by decide) rfl (fun ls hl => ?_)
        obtain ⟨i9, hi9⟩ : ∃ i9, i9 = i := ⟨_, rfl⟩
        rw [← hi9] at hl
        refine ts_lp (H0 := s.heap) (D := D) (cl := vwCl) (A := A) (nL := 5) q (fun (i : Nat) (q : Unit) => True) (fun (i : Nat) (q : Unit) => [(h, .inr (2, [.int th, .ref pa, .ref ba])), (pa, .inl (cI, 2400, .inl P)), (ba, .inl (cZ, 10, .inl B))]) (fun (i : Nat) (q : Unit) => [(4, .int (nI i)), (3, .int v14), (2, .int (nI i9)), (0, .ref h), (1, .int (nI r))]) 0 () ?_ ?_ (by omega) (trivial) hP hD hS (lv_sub hl [0, 1, 2, 3, 4] rfl)
        · intro n _ hi3 _ ih H locs hP hD hS ls hl
          have hl : lv_has ls 5 [(4, .int (nI n)), (3, .int v14), (2, .int (nI i9)), (0, .ref h), (1, .int (nI r))] := hl
          have hP : va_P D vwCl [(h, .inr (2, [.int th, .ref pa, .ref ba])), (pa, .inl (cI, 2400, .inl P)), (ba, .inl (cZ, 10, .inl B))] H := hP
          have hD : va_D A [(h, .inr (2, [.int th, .ref pa, .ref ba])), (pa, .inl (cI, 2400, .inl P)), (ba, .inl (cZ, 10, .inl B))] := hD
          refine lv_iload_n hx hb d_M_lowest_29 rfl (lv_at hl 1 rfl) ?_
          refine lv_iload hx hb d_M_lowest_30 (lv_at hl 0 rfl) ?_
          refine lv_ishr hx hb d_M_lowest_32 ?_
          refine lv_topi (fun z16 e_z16 => ?_)
          refine lv_iconst (v := 1) hx hb d_M_lowest_33 (by decide) ?_
          refine lv_iand hx hb d_M_lowest_34 ?_
          refine lv_topi (fun z17 e_z17 => ?_)
          refine lv_if_ne (tgt := 44) hx hb d_M_lowest_35 (by decide) (fun c18 => ?_) (fun c18 => ?_)
          · have hb := (ts_bit0 (k := n) hv (by omega)).mp (by rw [← e_z16, ← e_z17]; exact c18)
            rw [ht.below hi3] at hb; cases hb
          · refine lv_iinc (v := (nI (n + 1))) (lv' := [(4, .int (nI (n + 1))), (3, .int v14), (2, .int (nI i9)), (0, .ref h), (1, .int (nI r))]) hx hb d_M_lowest_38 hl (k := 0) rfl (nI_1 _) (by decide) rfl (fun ls hl => ?_)
            refine lv_goto (tgt := 29) hx hb d_M_lowest_41 (by decide) ?_
            refine ih () trivial _ _ hP hD hS ls (lv_sub hl [0, 1, 2, 3, 4] rfl)
        · intro _ _ H locs hP hD hS ls hl
          have hl : lv_has ls 5 [(4, .int (nI q)), (3, .int v14), (2, .int (nI i9)), (0, .ref h), (1, .int (nI r))] := hl
          have hP : va_P D vwCl [(h, .inr (2, [.int th, .ref pa, .ref ba])), (pa, .inl (cI, 2400, .inl P)), (ba, .inl (cZ, 10, .inl B))] H := hP
          have hD : va_D A [(h, .inr (2, [.int th, .ref pa, .ref ba])), (pa, .inl (cI, 2400, .inl P)), (ba, .inl (cZ, 10, .inl B))] := hD
          refine lv_iload_n hx hb d_M_lowest_29 rfl (lv_at hl 1 rfl) ?_
          refine lv_iload hx hb d_M_lowest_30 (lv_at hl 0 rfl) ?_
          refine lv_ishr hx hb d_M_lowest_32 ?_
          refine lv_topi (fun z19 e_z19 => ?_)
          refine lv_iconst (v := 1) hx hb d_M_lowest_33 (by decide) ?_
          refine lv_iand hx hb d_M_lowest_34 ?_
          refine lv_topi (fun z20 e_z20 => ?_)
          refine lv_if_ne (tgt := 44) hx hb d_M_lowest_35 (by decide) (fun c21 => ?_) (fun c21 => ?_)
          · refine lv_bipush (v := 28) hx hb d_M_lowest_44 (by decide) ?_
            refine lv_iload_n hx hb d_M_lowest_46 rfl (lv_at hl 2 rfl) ?_
            refine lv_imul hx hb d_M_lowest_47 ?_
            refine lv_iload hx hb d_M_lowest_48 (lv_at hl 0 rfl) ?_
            refine lv_iadd hx hb d_M_lowest_50 ?_
            refine lv_topi (fun z22 e_z22 => ?_)
            obtain rfl : z22 = (nI (28 * i9 + q)) := e_z22.trans (ts_ix28 i9 q)
            refine lv_sipush (v := (-3222)) hx hb d_M_lowest_51 (by decide) ?_
            refine lv_iadd hx hb d_M_lowest_54 ?_
            refine lv_topi (fun z23 e_z23 => ?_)
            obtain rfl : z23 = (nI (28 * i9 + q) - 3222) := e_z23.trans (ts_m3222 _)
            refine W.iret (v := (nI (28 * i9 + q) - 3222)) hx hb hr (fun t ht hW => ts_ret (u := ()) hP hD hK hS ⟨_, rfl, Or.inr ⟨28 * i9 + q, ?_, rfl⟩⟩ ht hW) hS.2.2 d_M_lowest_55
            subst hi9
            refine ts_dv_botbit (ts_d_lt hp hr9) hi (fun q h1 => ts_z0 (hI q h1)) ?_ hq
            show ts_Bot (P (240 * r + i9)).toInt.toNat q
            rw [← e_v14]; assumption
          · exact absurd c21 (by rw [e_z20, e_z19]; exact (ts_bit0 (k := q) hv (by omega)).mpr ht.2)
  · intro _ hI H locs hP hD hS ls hl
    have hl : lv_has ls 5 [(2, .int (nI 240)), (0, .ref h), (1, .int (nI r))] := hl
    have hP : va_P D vwCl [(h, .inr (2, [.int th, .ref pa, .ref ba])), (pa, .inl (cI, 2400, .inl P)), (ba, .inl (cZ, 10, .inl B))] H := hP
    have hD : va_D A [(h, .inr (2, [.int th, .ref pa, .ref ba])), (pa, .inl (cI, 2400, .inl P)), (ba, .inl (cZ, 10, .inl B))] := hD
    refine lv_iload_n hx hb d_M_lowest_2 rfl (lv_at hl 0 rfl) ?_
    refine lv_sipush (v := 240) hx hb d_M_lowest_3 (by decide) ?_
    refine lv_icmp_ge (tgt := 62) hx hb d_M_lowest_6 (by decide) (fun c24 => ?_) (fun c24 => ?_)
    · refine lv_ldc (v := (-100000)) hx hb hown (hts (.constant R_M 89 (-100000)) (by decide +kernel)) d_M_lowest_62 ?_
      exact W.iret (v := (-100000)) hx hb hr (fun t ht hW => ts_ret (u := ()) hP hD hK hS ⟨_, rfl, Or.inl ⟨ts_dv_zero (fun q hq => ts_z0 (hI q hq)), rfl⟩⟩ ht hW) hS.2.2 d_M_lowest_64
    · exact absurd (nI_le (Nat.le_refl 240) (by decide)) c24

