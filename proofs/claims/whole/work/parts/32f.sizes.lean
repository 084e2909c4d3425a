set_option maxHeartbeats 4000000 in
set_option maxRecDepth 100000 in
theorem c_M_sizes (l : Launch) (D : va_G) (cL cA cI cZ : ClassId) (h pa ba : Nat) (th : Int32) (P B : Nat → Int32) (x y : Nat) (hx9 : x < 10) (hy9 : y < 10) (hp : ts_pk P) (sz : Nat) : Met l y_M_sizes w_M_sizes (ts_rm 1) (va_Pc [.ref h, .int (nI x), .int (nI y)] (ts_A D vwCl (ts_ty cL cA cI cZ) [(h, .inr (2, [.int th, .ref pa, .ref ba])), (pa, .inl (cI, 2400, .inl P)), (ba, .inl (cZ, 10, .inl B))] sz)) (ts_Q (fun (v : Option Value) (u : Unit) => v = some (.int (ts_cm (ts_r P x) (ts_r P y)))) (fun u => ts_B D vwCl (ts_ty cL cA cI cZ) (va_A [(h, .inr (2, [.int th, .ref pa, .ref ba])), (pa, .inl (cI, 2400, .inl P)), (ba, .inl (cZ, 10, .inl B))] sz) ([(h, .inr (2, [.int th, .ref pa, .ref ba])), (pa, .inl (cI, 2400, .inl P)), (ba, .inl (cZ, 10, .inl B))])) (va_A [(h, .inr (2, [.int th, .ref pa, .ref ba])), (pa, .inl (cI, 2400, .inl P)), (ba, .inl (cZ, 10, .inl B))] sz)) 0 0 (va_A [(h, .inr (2, [.int th, .ref pa, .ref ba])), (pa, .inl (cI, 2400, .inl P)), (ba, .inl (cZ, 10, .inl B))] sz) := by
  refine ts_met (cc := b_M_sizes) (maxL := 5) (ret := (some .int)) (by decide) rfl (Nat.le_of_ble_eq_true rfl) ?_
  intro p e s m below meth c hx hb hr hml hown hts hlocks hname A hA hAe hK hP hD hS hsz ls hl
  have hown : s.vm.findClass R_M = some m.cls := hown
  have hl : lv_has ls 5 [(0, .ref h), (1, .int (nI x)), (2, .int (nI y))] := hl
  have hP : va_P D vwCl [(h, .inr (2, [.int th, .ref pa, .ref ba])), (pa, .inl (cI, 2400, .inl P)), (ba, .inl (cZ, 10, .inl B))] s.heap := hP
  have hD : va_D A [(h, .inr (2, [.int th, .ref pa, .ref ba])), (pa, .inl (cI, 2400, .inl P)), (ba, .inl (cZ, 10, .inl B))] := hD
  refine lv_sipush (v := ts_dn 239 0) hx hb d_M_sizes_0 (by decide) ?_
  refine lv_istore_n (lv' := [(3, .int (ts_dn 239 0)), (0, .ref h), (1, .int (nI x)), (2, .int (nI y))]) hx hb d_M_sizes_3 rfl hl (by decide) rfl (fun ls hl => ?_)
  refine ts_lp (H0 := s.heap) (D := D) (cl := vwCl) (A := A) (nL := 5) 240 (fun (i : Nat) (q : Unit) => ∀ j, 240 ≤ j + i → j < 240 → P (240 * x + j) = P (240 * y + j)) (fun (i : Nat) (q : Unit) => [(h, .inr (2, [.int th, .ref pa, .ref ba])), (pa, .inl (cI, 2400, .inl P)), (ba, .inl (cZ, 10, .inl B))]) (fun (i : Nat) (q : Unit) => [(3, .int (ts_dn 239 i)), (0, .ref h), (1, .int (nI x)), (2, .int (nI y))]) 0 () ?_ ?_ (by omega) (fun j h1 h2 => by omega) hP hD hS (lv_sub hl [0, 1, 2, 3] rfl)
  · intro i _ hi hI ih H locs hP hD hS ls hl
    have hl : lv_has ls 5 [(3, .int (ts_dn 239 i)), (0, .ref h), (1, .int (nI x)), (2, .int (nI y))] := hl
    have hP : va_P D vwCl [(h, .inr (2, [.int th, .ref pa, .ref ba])), (pa, .inl (cI, 2400, .inl P)), (ba, .inl (cZ, 10, .inl B))] H := hP
    have hD : va_D A [(h, .inr (2, [.int th, .ref pa, .ref ba])), (pa, .inl (cI, 2400, .inl P)), (ba, .inl (cZ, 10, .inl B))] := hD
    obtain ⟨j, hj⟩ : ∃ j : Nat, j = 239 - i := ⟨_, rfl⟩
    rw [ts_dn_le (show i ≤ 239 by omega), ← hj] at hl
    have hl : lv_has ls 5 [(3, .int (nI j)), (0, .ref h), (1, .int (nI x)), (2, .int (nI y))] := hl
    refine lv_iload_n hx hb d_M_sizes_4 rfl (lv_at hl 0 rfl) ?_
    refine lv_if_lt (tgt := 57) hx hb d_M_sizes_5 (by decide) (fun c1 => ?_) (fun c1 => ?_)
    · exact absurd c1 (nI_pos (by omega))
    · refine lv_aload_n hx hb d_M_sizes_8 rfl (lv_at hl 1 rfl) ?_
      refine va_get (D := D) (ci := 2) (v := .ref pa) (C := R_M) (T := F_M) (N := 3) hx hb hts (by decide +kernel) hown hK hP 0 rfl rfl 1 (by decide) (hts (.fieldLink R_M 7 "TripleSumsModel" "parts" "[I") (by decide +kernel)) (fun _ h9 => h9) rfl d_M_sizes_9 ?_
      refine lv_sipush (v := 240) hx hb d_M_sizes_12 (by decide) ?_
      refine lv_iload_n hx hb d_M_sizes_15 rfl (lv_at hl 2 rfl) ?_
      refine lv_imul hx hb d_M_sizes_16 ?_
      refine lv_iload_n hx hb d_M_sizes_17 rfl (lv_at hl 0 rfl) ?_
      refine lv_iadd hx hb d_M_sizes_18 ?_
      refine lv_topi (fun z2 e_z2 => ?_)
      obtain rfl : z2 = (nI (240 * x + j)) := e_z2.trans (ts_ix x j)
      refine va_iald (D := D) hx hb hK hP 1 2 rfl rfl (vp_in_nI (by omega) (by decide)) d_M_sizes_19 ?_
      refine lv_topi (fun v3 e_v3 => ?_)
      refine lv_aload_n hx hb d_M_sizes_20 rfl (lv_at hl 1 rfl) ?_
      refine va_get (D := D) (ci := 2) (v := .ref pa) (C := R_M) (T := F_M) (N := 3) hx hb hts (by decide +kernel) hown hK hP 0 rfl rfl 1 (by decide) (hts (.fieldLink R_M 7 "TripleSumsModel" "parts" "[I") (by decide +kernel)) (fun _ h9 => h9) rfl d_M_sizes_21 ?_
      refine lv_sipush (v := 240) hx hb d_M_sizes_24 (by decide) ?_
      refine lv_iload_n hx hb d_M_sizes_27 rfl (lv_at hl 3 rfl) ?_
      refine lv_imul hx hb d_M_sizes_28 ?_
      refine lv_iload_n hx hb d_M_sizes_29 rfl (lv_at hl 0 rfl) ?_
      refine lv_iadd hx hb d_M_sizes_30 ?_
      refine lv_topi (fun z4 e_z4 => ?_)
      obtain rfl : z4 = (nI (240 * y + j)) := e_z4.trans (ts_ix y j)
      refine va_iald (D := D) hx hb hK hP 1 2 rfl rfl (vp_in_nI (by omega) (by decide)) d_M_sizes_31 ?_
      refine lv_topi (fun v5 e_v5 => ?_)
      rw [nI_clamp (n := 240 * x + j) (by omega)] at e_v3
      rw [nI_clamp (n := 240 * y + j) (by omega)] at e_v5
      refine lv_isub hx hb d_M_sizes_32 ?_
      refine lv_topi (fun z6 e_z6 => ?_)
      refine lv_istore (lv' := [(4, .int z6), (3, .int (nI j)), (0, .ref h), (1, .int (nI x)), (2, .int (nI y))]) hx hb d_M_sizes_33 hl (by decide) rfl (fun ls hl => ?_)
      refine lv_iload hx hb d_M_sizes_35 (lv_at hl 0 rfl) ?_
      have hz : z6 = P (240 * x + j) - P (240 * y + j) := by rw [e_z6, e_v3, e_v5]
      refine lv_if_eq (tgt := 51) hx hb d_M_sizes_37 (by decide) (fun c7 => ?_) (fun c7 => ?_)
      · refine lv_iinc (v := (ts_dn 239 (i + 1))) (lv' := [(3, .int (ts_dn 239 (i + 1))), (4, .int z6), (0, .ref h), (1, .int (nI x)), (2, .int (nI y))]) hx hb d_M_sizes_51 hl (k := 1) rfl (by rw [← ts_dn_s, ts_dn_le (show i ≤ 239 by omega), hj]) (by decide) rfl (fun ls hl => ?_)
        refine lv_goto (tgt := 4) hx hb d_M_sizes_54 (by decide) ?_
        refine ih () (fun q h1 h2 => ?_) _ _ hP hD hS ls (lv_sub hl [0, 2, 3, 4] rfl)
        by_cases hq : q = j
        · subst hq; exact ts_eq0 (hp _ (by omega)) (hp _ (by omega)) (hz.symm.trans c7)
        · exact hI q (by omega) h2
      · have hs := ts_siz hp hx9 hy9 (show j < 240 by omega) (fun q h1 h2 => hI q (by omega) h2) (by rw [← hz]; exact c7)
        rw [← hz] at hs
        refine lv_iload hx hb d_M_sizes_40 (lv_at hl 0 rfl) ?_
        refine lv_if_ge (tgt := 49) hx hb d_M_sizes_42 (by decide) (fun c8 => ?_) (fun c8 => ?_)
        · refine lv_iconst (v := 1) hx hb d_M_sizes_49 (by decide) ?_
          exact W.iret (v := 1) hx hb hr (fun t ht hW => ts_ret (u := ()) hP hD hK hS (by rw [hs.2 (Int32.not_lt.mpr c8)]) ht hW) hS.2.2 d_M_sizes_50
        · refine lv_iconst (v := (-1)) hx hb d_M_sizes_45 (by decide) ?_
          refine lv_goto (tgt := 50) hx hb d_M_sizes_46 (by decide) ?_
          exact W.iret (v := (-1)) hx hb hr (fun t ht hW => ts_ret (u := ()) hP hD hK hS (by rw [hs.1 (Int32.not_le.mp c8)]) ht hW) hS.2.2 d_M_sizes_50
  · intro _ hI H locs hP hD hS ls hl
    have hl : lv_has ls 5 [(3, .int (ts_dn 239 240)), (0, .ref h), (1, .int (nI x)), (2, .int (nI y))] := hl
    have hP : va_P D vwCl [(h, .inr (2, [.int th, .ref pa, .ref ba])), (pa, .inl (cI, 2400, .inl P)), (ba, .inl (cZ, 10, .inl B))] H := hP
    have hD : va_D A [(h, .inr (2, [.int th, .ref pa, .ref ba])), (pa, .inl (cI, 2400, .inl P)), (ba, .inl (cZ, 10, .inl B))] := hD
    refine lv_iload_n hx hb d_M_sizes_4 rfl (lv_at hl 0 rfl) ?_
    refine lv_if_lt (tgt := 57) hx hb d_M_sizes_5 (by decide) (fun c9 => ?_) (fun c9 => ?_)
    · refine lv_iconst (v := 0) hx hb d_M_sizes_57 (by decide) ?_
      have he : ts_r P x = ts_r P y := ts_r_congr (fun q hq => (hI q (by omega) hq).symm) |>.symm
      exact W.iret (v := 0) hx hb hr (fun t ht hW => ts_ret (u := ()) hP hD hK hS (by unfold ts_cm; rw [if_neg (by omega), if_pos he]) ht hW) hS.2.2 d_M_sizes_58
    · exact absurd (ts_dn_end 239) c9

