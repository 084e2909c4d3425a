set_option maxHeartbeats 4000000 in
set_option maxRecDepth 100000 in
theorem c_M_isZero (l : Launch) (D : va_G) (cL cA cI cZ : ClassId) (h pa ba : Nat) (th : Int32) (P B : Nat → Int32) (r : Nat) (hr9 : r < 10) (hp : ts_pk P) (sz : Nat) : Met l y_M_isZero w_M_isZero (ts_rm 1) (va_Pc [.ref h, .int (nI r)] (ts_A D vwCl (ts_ty cL cA cI cZ) [(h, .inr (2, [.int th, .ref pa, .ref ba])), (pa, .inl (cI, 2400, .inl P)), (ba, .inl (cZ, 10, .inl B))] sz)) (ts_Q (fun (v : Option Value) (u : Unit) => ∃ b : Int32, v = some (.int b) ∧ ((b = 1 ∧ ts_r P r = 0) ∨ (b = 0 ∧ ts_r P r ≠ 0))) (fun u => ts_B D vwCl (ts_ty cL cA cI cZ) (va_A [(h, .inr (2, [.int th, .ref pa, .ref ba])), (pa, .inl (cI, 2400, .inl P)), (ba, .inl (cZ, 10, .inl B))] sz) ([(h, .inr (2, [.int th, .ref pa, .ref ba])), (pa, .inl (cI, 2400, .inl P)), (ba, .inl (cZ, 10, .inl B))])) (va_A [(h, .inr (2, [.int th, .ref pa, .ref ba])), (pa, .inl (cI, 2400, .inl P)), (ba, .inl (cZ, 10, .inl B))] sz)) 0 0 (va_A [(h, .inr (2, [.int th, .ref pa, .ref ba])), (pa, .inl (cI, 2400, .inl P)), (ba, .inl (cZ, 10, .inl B))] sz) := by
  refine ts_met (cc := b_M_isZero) (maxL := 4) (ret := (some .boolean)) (by decide) rfl (Nat.le_of_ble_eq_true rfl) ?_
  intro p e s m below meth c hx hb hr hml hown hts hlocks hname A hA hAe hK hP hD hS hsz ls hl
  have hown : s.vm.findClass R_M = some m.cls := hown
  have hl : lv_has ls 4 [(0, .ref h), (1, .int (nI r))] := hl
  have hP : va_P D vwCl [(h, .inr (2, [.int th, .ref pa, .ref ba])), (pa, .inl (cI, 2400, .inl P)), (ba, .inl (cZ, 10, .inl B))] s.heap := hP
  have hD : va_D A [(h, .inr (2, [.int th, .ref pa, .ref ba])), (pa, .inl (cI, 2400, .inl P)), (ba, .inl (cZ, 10, .inl B))] := hD
  refine lv_iconst (v := 1) hx hb d_M_isZero_0 (by decide) ?_
  refine lv_istore_n (lv' := [(2, .int 1), (0, .ref h), (1, .int (nI r))]) hx hb d_M_isZero_1 rfl hl (by decide) rfl (fun ls hl => ?_)
  refine lv_iconst (v := (nI 0)) hx hb d_M_isZero_2 (by decide) ?_
  refine lv_istore_n (lv' := [(3, .int (nI 0)), (2, .int 1), (0, .ref h), (1, .int (nI r))]) hx hb d_M_isZero_3 rfl hl (by decide) rfl (fun ls hl => ?_)
  refine ts_lp (H0 := s.heap) (D := D) (cl := vwCl) (A := A) (nL := 4) 240 (fun (i : Nat) (q : Int32) => ts_IszI P r i q) (fun (i : Nat) (q : Int32) => [(h, .inr (2, [.int th, .ref pa, .ref ba])), (pa, .inl (cI, 2400, .inl P)), (ba, .inl (cZ, 10, .inl B))]) (fun (i : Nat) (q : Int32) => [(3, .int (nI i)), (2, .int q), (0, .ref h), (1, .int (nI r))]) 0 1 ?_ ?_ (by omega) (Or.inl ⟨rfl, fun j hj => absurd hj (Nat.not_lt_zero j)⟩) hP hD hS (lv_sub hl [0, 1, 2, 3] rfl)
  · intro i b hi hI ih H locs hP hD hS ls hl
    have hl : lv_has ls 4 [(3, .int (nI i)), (2, .int b), (0, .ref h), (1, .int (nI r))] := hl
    have hP : va_P D vwCl [(h, .inr (2, [.int th, .ref pa, .ref ba])), (pa, .inl (cI, 2400, .inl P)), (ba, .inl (cZ, 10, .inl B))] H := hP
    have hD : va_D A [(h, .inr (2, [.int th, .ref pa, .ref ba])), (pa, .inl (cI, 2400, .inl P)), (ba, .inl (cZ, 10, .inl B))] := hD
    refine lv_iload_n hx hb d_M_isZero_4 rfl (lv_at hl 0 rfl) ?_
    refine lv_sipush (v := 240) hx hb d_M_isZero_5 (by decide) ?_
    refine lv_icmp_ge (tgt := 42) hx hb d_M_isZero_8 (by decide) (fun c1 => ?_) (fun c1 => ?_)
    · exact absurd c1 (nI_ge hi (by decide))
    · refine lv_iload_n hx hb d_M_isZero_11 rfl (lv_at hl 1 rfl) ?_
      refine lv_if_eq (tgt := 34) hx hb d_M_isZero_12 (by decide) (fun c2 => ?_) (fun c2 => ?_)
      · refine lv_iconst (v := 0) hx hb d_M_isZero_34 (by decide) ?_
        refine lv_istore_n (lv' := [(2, .int 0), (3, .int (nI i)), (0, .ref h), (1, .int (nI r))]) hx hb d_M_isZero_35 rfl hl (by decide) rfl (fun ls hl => ?_)
        refine lv_iinc (v := (nI (i + 1))) (lv' := [(3, .int (nI (i + 1))), (2, .int 0), (0, .ref h), (1, .int (nI r))]) hx hb d_M_isZero_36 hl (k := 1) rfl (nI_1 _) (by decide) rfl (fun ls hl => ?_)
        refine lv_goto (tgt := 4) hx hb d_M_isZero_39 (by decide) ?_
        refine ih 0 ?_ _ _ hP hD hS ls (lv_sub hl [0, 1, 2, 3] rfl)
        rcases hI with ⟨h1, -⟩ | ⟨h1, j, h2, h3⟩
        · exact absurd c2 (by rw [h1]; decide +kernel)
        · exact Or.inr ⟨rfl, j, by omega, h3⟩
      · refine lv_aload_n hx hb d_M_isZero_15 rfl (lv_at hl 2 rfl) ?_
        refine va_get (D := D) (ci := 2) (v := .ref pa) (C := R_M) (T := F_M) (N := 3) hx hb hts (by decide +kernel) hown hK hP 0 rfl rfl 1 (by decide) (hts (.fieldLink R_M 7 "TripleSumsModel" "parts" "[I") (by decide +kernel)) (fun _ h9 => h9) rfl d_M_isZero_16 ?_
        refine lv_sipush (v := 240) hx hb d_M_isZero_19 (by decide) ?_
        refine lv_iload_n hx hb d_M_isZero_22 rfl (lv_at hl 3 rfl) ?_
        refine lv_imul hx hb d_M_isZero_23 ?_
        refine lv_iload_n hx hb d_M_isZero_24 rfl (lv_at hl 0 rfl) ?_
        refine lv_iadd hx hb d_M_isZero_25 ?_
        refine lv_topi (fun z3 e_z3 => ?_)
        obtain rfl : z3 = (nI (240 * r + i)) := e_z3.trans (ts_ix r i)
        refine va_iald (D := D) hx hb hK hP 1 2 rfl rfl (vp_in_nI (by omega) (by decide)) d_M_isZero_26 ?_
        refine lv_topi (fun v4 e_v4 => ?_)
        rw [nI_clamp (n := 240 * r + i) (by omega)] at e_v4
        refine lv_if_ne (tgt := 34) hx hb d_M_isZero_27 (by decide) (fun c5 => ?_) (fun c5 => ?_)
        · refine lv_iconst (v := 0) hx hb d_M_isZero_34 (by decide) ?_
          refine lv_istore_n (lv' := [(2, .int 0), (3, .int (nI i)), (0, .ref h), (1, .int (nI r))]) hx hb d_M_isZero_35 rfl hl (by decide) rfl (fun ls hl => ?_)
          refine lv_iinc (v := (nI (i + 1))) (lv' := [(3, .int (nI (i + 1))), (2, .int 0), (0, .ref h), (1, .int (nI r))]) hx hb d_M_isZero_36 hl (k := 1) rfl (nI_1 _) (by decide) rfl (fun ls hl => ?_)
          refine lv_goto (tgt := 4) hx hb d_M_isZero_39 (by decide) ?_
          refine ih 0 (Or.inr ⟨rfl, i, by omega, by rw [← e_v4]; exact c5⟩) _ _ hP hD hS ls (lv_sub hl [0, 1, 2, 3] rfl)
        · refine lv_iconst (v := 1) hx hb d_M_isZero_30 (by decide) ?_
          refine lv_goto (tgt := 35) hx hb d_M_isZero_31 (by decide) ?_
          refine lv_istore_n (lv' := [(2, .int 1), (3, .int (nI i)), (0, .ref h), (1, .int (nI r))]) hx hb d_M_isZero_35 rfl hl (by decide) rfl (fun ls hl => ?_)
          refine lv_iinc (v := (nI (i + 1))) (lv' := [(3, .int (nI (i + 1))), (2, .int 1), (0, .ref h), (1, .int (nI r))]) hx hb d_M_isZero_36 hl (k := 1) rfl (nI_1 _) (by decide) rfl (fun ls hl => ?_)
          refine lv_goto (tgt := 4) hx hb d_M_isZero_39 (by decide) ?_
          refine ih 1 ?_ _ _ hP hD hS ls (lv_sub hl [0, 1, 2, 3] rfl)
          rcases hI with ⟨h1, h2⟩ | ⟨h1, -⟩
          · exact Or.inl ⟨rfl, lt_s (p := fun j => P (240 * r + j) = 0) h2 (by rw [← e_v4]; exact c5)⟩
          · exact absurd h1 c2
  · intro b hI H locs hP hD hS ls hl
    have hl : lv_has ls 4 [(3, .int (nI 240)), (2, .int b), (0, .ref h), (1, .int (nI r))] := hl
    have hP : va_P D vwCl [(h, .inr (2, [.int th, .ref pa, .ref ba])), (pa, .inl (cI, 2400, .inl P)), (ba, .inl (cZ, 10, .inl B))] H := hP
    have hD : va_D A [(h, .inr (2, [.int th, .ref pa, .ref ba])), (pa, .inl (cI, 2400, .inl P)), (ba, .inl (cZ, 10, .inl B))] := hD
    refine lv_iload_n hx hb d_M_isZero_4 rfl (lv_at hl 0 rfl) ?_
    refine lv_sipush (v := 240) hx hb d_M_isZero_5 (by decide) ?_
    refine lv_icmp_ge (tgt := 42) hx hb d_M_isZero_8 (by decide) (fun c6 => ?_) (fun c6 => ?_)
    · refine lv_iload_n hx hb d_M_isZero_42 rfl (lv_at hl 1 rfl) ?_
      have hd := ts_IszI.done hp hr9 hI
      exact W.zret (v := b) hx hb hr (by rcases hd with ⟨h1, -⟩ | ⟨h1, -⟩ <;> rw [h1] <;> decide +kernel) (fun t ht hW => ts_ret (u := ()) hP hD hK hS ⟨_, rfl, hd⟩ ht hW) hS.2.2 d_M_isZero_43
    · exact absurd (nI_le (Nat.le_refl 240) (by decide)) c6

