set_option maxHeartbeats 4000000 in
set_option maxRecDepth 100000 in
theorem c_M_together (l : Launch) (D : va_G) (cL cA cI cZ : ClassId) (h pa ba : Nat) (th : Int32) (P B : Nat → Int32) (x y : Nat) (hx9 : x < 10) (hy9 : y < 10) (hxy : x ≠ y) (hkx : ts_bk P B x) (hky : ts_bk P B y) (hp : ts_pk P) (hN : ts_r P x + ts_r P y < ts_N) (sz : Nat) : Met l y_M_together w_M_together (ts_rm 2) (va_Pc [.ref h, .int (nI x), .int (nI y)] (ts_A D vwCl (ts_ty cL cA cI cZ) [(h, .inr (2, [.int th, .ref pa, .ref ba])), (pa, .inl (cI, 2400, .inl P)), (ba, .inl (cZ, 10, .inl B))] sz)) (ts_Q (fun (v : Option Value) (u : (Nat → Int32) × Int32) => v = none ∧ ts_pk u.1 ∧ ts_off P u.1 x ∧ ts_V u.1 (upd B x u.2) x = ts_V P B x + ts_V P B y ∧ ts_bk u.1 (upd B x u.2) x) (fun u => ts_B D vwCl (ts_ty cL cA cI cZ) (va_A [(h, .inr (2, [.int th, .ref pa, .ref ba])), (pa, .inl (cI, 2400, .inl P)), (ba, .inl (cZ, 10, .inl B))] sz) ([(h, .inr (2, [.int th, .ref pa, .ref ba])), (pa, .inl (cI, 2400, .inl u.1)), (ba, .inl (cZ, 10, .inl (upd B x u.2)))])) (va_A [(h, .inr (2, [.int th, .ref pa, .ref ba])), (pa, .inl (cI, 2400, .inl P)), (ba, .inl (cZ, 10, .inl B))] sz)) 0 0 (va_A [(h, .inr (2, [.int th, .ref pa, .ref ba])), (pa, .inl (cI, 2400, .inl P)), (ba, .inl (cZ, 10, .inl B))] sz) := by
  refine ts_met (cc := b_M_together) (maxL := 14) (ret := none) (by decide) rfl (Nat.le_of_ble_eq_true rfl) ?_
  intro p e s m below meth c hx hb hr hml hown hts hlocks hname A hA hAe hK hP hD hS hsz ls hl
  have hown : s.vm.findClass R_M = some m.cls := hown
  have hl : lv_has ls 14 [(0, .ref h), (1, .int (nI x)), (2, .int (nI y))] := hl
  have hP : va_P D vwCl [(h, .inr (2, [.int th, .ref pa, .ref ba])), (pa, .inl (cI, 2400, .inl P)), (ba, .inl (cZ, 10, .inl B))] s.heap := hP
  have hD : va_D A [(h, .inr (2, [.int th, .ref pa, .ref ba])), (pa, .inl (cI, 2400, .inl P)), (ba, .inl (cZ, 10, .inl B))] := hD
  refine lv_lconst (v := 0) hx hb d_M_together_0 (by decide) ?_
  refine lv_lstore_n (lv' := [(3, .long 0), (0, .ref h), (1, .int (nI x)), (2, .int (nI y))]) hx hb d_M_together_1 rfl hl (by decide) rfl (fun ls hl => ?_)
  refine lv_aload_n hx hb d_M_together_2 rfl (lv_at hl 1 rfl) ?_
  refine va_get (D := D) (ci := 2) (v := .ref ba) (C := R_M) (T := F_M) (N := 3) hx hb hts (by decide +kernel) hown hK hP 0 rfl rfl 2 (by decide) (hts (.fieldLink R_M 13 "TripleSumsModel" "below" "[Z") (by decide +kernel)) (fun _ h9 => h9) rfl d_M_together_3 ?_
  refine lv_iload_n hx hb d_M_together_6 rfl (lv_at hl 2 rfl) ?_
  refine va_zald (D := D) hx hb hK hP 2 3 rfl rfl (vp_in_nI hx9 (by decide)) d_M_together_7 ?_
  refine lv_topi (fun v1 e_v1 => ?_)
  refine lv_aload_n hx hb d_M_together_8 rfl (lv_at hl 1 rfl) ?_
  refine va_get (D := D) (ci := 2) (v := .ref ba) (C := R_M) (T := F_M) (N := 3) hx hb hts (by decide +kernel) hown hK hP 0 rfl rfl 2 (by decide) (hts (.fieldLink R_M 13 "TripleSumsModel" "below" "[Z") (by decide +kernel)) (fun _ h9 => h9) rfl d_M_together_9 ?_
  refine lv_iload_n hx hb d_M_together_12 rfl (lv_at hl 3 rfl) ?_
  refine va_zald (D := D) hx hb hK hP 2 3 rfl rfl (vp_in_nI hy9 (by decide)) d_M_together_13 ?_
  refine lv_topi (fun v2 e_v2 => ?_)
  rw [nI_clamp (n := x) (by omega)] at e_v1
  rw [nI_clamp (n := y) (by omega)] at e_v2
  refine ts_cut 24 [] (nL := 14) (fun (q : Int32) => (q = 1 ∧ B x = B y) ∨ (q = 0 ∧ B x ≠ B y)) (fun (q : Int32) => [(5, .int q), (3, .long 0), (0, .ref h), (1, .int (nI x)), (2, .int (nI y))]) (fun same ls hsame hl => ?_) (fun kk => ?_)
  · have hl : lv_has ls 14 [(5, .int same), (3, .long 0), (0, .ref h), (1, .int (nI x)), (2, .int (nI y))] := hl
    refine lv_aload_n hx hb d_M_together_24 rfl (lv_at hl 2 rfl) ?_
    refine lv_iload_n hx hb d_M_together_25 rfl (lv_at hl 3 rfl) ?_
    refine lv_iload_n hx hb d_M_together_26 rfl (lv_at hl 4 rfl) ?_
    refine ts_callV (rest := []) ⟨hx, hb, hml, hown, hts⟩ (c_M_sizes l D cL cA cI cZ h pa ba th P B x y hx9 hy9 hp _) (cwV 2 hts g_M_together_M_sizes rfl rfl rfl (by decide +kernel) ⟨Nat.le_of_ble_eq_true rfl, Nat.le_of_ble_eq_true rfl⟩) hK hP hD hS hA hl.1 [0, 1, 2] (by decide) rfl (va_recv hK hP (ci := 2) (q0 := 0) rfl rfl) (fun u => rfl) rfl rfl (Nat.le_of_ble_eq_true rfl) d_M_together_27 ⟨Nat.zero_le _, Nat.zero_le _⟩ (fun v _u H locs hw hP hD hS => ?_)
    have hP : va_P D vwCl [(h, .inr (2, [.int th, .ref pa, .ref ba])), (pa, .inl (cI, 2400, .inl P)), (ba, .inl (cZ, 10, .inl B))] H := hP
    have hD : va_D A [(h, .inr (2, [.int th, .ref pa, .ref ba])), (pa, .inl (cI, 2400, .inl P)), (ba, .inl (cZ, 10, .inl B))] := hD
    obtain rfl := hw
    obtain ⟨o, ho⟩ : ∃ o : Int32, o = ts_cm (ts_r P x) (ts_r P y) := ⟨_, rfl⟩
    rw [← ho]
    show W _ _ _ _ _ _ _ _ _ _ _ _ _ _ _ (F0 m 30 ls [.int o])
    have ho1 := (ts_cm_i (ts_r P x) (ts_r P y)).1
    have ho2 := (ts_cm_i (ts_r P x) (ts_r P y)).2
    rw [← ho] at ho1 ho2
    obtain ⟨ua, ub, hu⟩ : ∃ ua ub : Int, (same = 1 ∧ ua = 1 ∧ ub = 1) ∨ (same = 0 ∧ ¬ o < 0 ∧ ua = 1 ∧ ub = -1) ∨ (same = 0 ∧ o < 0 ∧ ua = -1 ∧ ub = 1) := by
      rcases hsame with ⟨h1, -⟩ | ⟨h1, -⟩
      · exact ⟨1, 1, Or.inl ⟨h1, rfl, rfl⟩⟩
      · by_cases h2 : o < 0
        · exact ⟨-1, 1, Or.inr (Or.inr ⟨h1, h2, rfl, rfl⟩)⟩
        · exact ⟨1, -1, Or.inr (Or.inl ⟨h1, h2, rfl, rfl⟩)⟩
    have hu3 : (ua = 1 ∧ ub = 1) ∨ (ua = 1 ∧ ub = -1) ∨ (ua = -1 ∧ ub = 1) := by
      rcases hu with ⟨-, h1, h2⟩ | ⟨-, -, h1, h2⟩ | ⟨-, -, h1, h2⟩
      · exact Or.inl ⟨h1, h2⟩
      · exact Or.inr (Or.inl ⟨h1, h2⟩)
      · exact Or.inr (Or.inr ⟨h1, h2⟩)
    refine lv_istore (lv' := [(6, .int o), (5, .int same), (3, .long 0), (0, .ref h), (1, .int (nI x)), (2, .int (nI y))]) hx hb d_M_together_30 hl (by decide) rfl (fun ls hl => ?_)
    refine lv_iconst (v := (nI 0)) hx hb d_M_together_32 (by decide) ?_
    refine lv_istore (lv' := [(7, .int (nI 0)), (6, .int o), (5, .int same), (3, .long 0), (0, .ref h), (1, .int (nI x)), (2, .int (nI y))]) hx hb d_M_together_33 hl (by decide) rfl (fun ls hl => ?_)
    refine ts_lp (H0 := s.heap) (D := D) (cl := vwCl) (A := A) (nL := 14) 240 (fun (i : Nat) (q : Int64 × (Nat → Int32)) => ts_TogI P x y ua ub i q.1 q.2) (fun (i : Nat) (q : Int64 × (Nat → Int32)) => [(h, .inr (2, [.int th, .ref pa, .ref ba])), (pa, .inl (cI, 2400, .inl q.2)), (ba, .inl (cZ, 10, .inl B))]) (fun (i : Nat) (q : Int64 × (Nat → Int32)) => [(7, .int (nI i)), (6, .int o), (5, .int same), (3, .long q.1), (0, .ref h), (1, .int (nI x)), (2, .int (nI y))]) 0 (0, P) ?_ ?_ (by omega) (ts_TogI.zero hp) hP hD hS (lv_sub hl [0, 1, 2, 3, 4, 5, 6] rfl)
    · intro i ⟨cy, u⟩ hi hI ih H locs hP hD hS ls hl
      have hl : lv_has ls 14 [(7, .int (nI i)), (6, .int o), (5, .int same), (3, .long cy), (0, .ref h), (1, .int (nI x)), (2, .int (nI y))] := hl
      have hP : va_P D vwCl [(h, .inr (2, [.int th, .ref pa, .ref ba])), (pa, .inl (cI, 2400, .inl u)), (ba, .inl (cZ, 10, .inl B))] H := hP
      have hD : va_D A [(h, .inr (2, [.int th, .ref pa, .ref ba])), (pa, .inl (cI, 2400, .inl u)), (ba, .inl (cZ, 10, .inl B))] := hD
      refine lv_iload hx hb d_M_together_35 (lv_at hl 0 rfl) ?_
      refine lv_sipush (v := 240) hx hb d_M_together_37 (by decide) ?_
      refine lv_icmp_ge (tgt := 142) hx hb d_M_together_40 (by decide) (fun c4 => ?_) (fun c4 => ?_)
      · exact absurd c4 (nI_ge hi (by decide))
      · refine lv_aload_n hx hb d_M_together_43 rfl (lv_at hl 4 rfl) ?_
        refine va_get (D := D) (ci := 2) (v := .ref pa) (C := R_M) (T := F_M) (N := 3) hx hb hts (by decide +kernel) hown hK hP 0 rfl rfl 1 (by decide) (hts (.fieldLink R_M 7 "TripleSumsModel" "parts" "[I") (by decide +kernel)) (fun _ h9 => h9) rfl d_M_together_44 ?_
        refine lv_sipush (v := 240) hx hb d_M_together_47 (by decide) ?_
        refine lv_iload_n hx hb d_M_together_50 rfl (lv_at hl 5 rfl) ?_
        refine lv_imul hx hb d_M_together_51 ?_
        refine lv_iload hx hb d_M_together_52 (lv_at hl 0 rfl) ?_
        refine lv_iadd hx hb d_M_together_54 ?_
        refine lv_topi (fun z5 e_z5 => ?_)
        obtain rfl : z5 = (nI (240 * x + i)) := e_z5.trans (ts_ix x i)
        refine va_iald (D := D) hx hb hK hP 1 2 rfl rfl (vp_in_nI (by omega) (by decide)) d_M_together_55 ?_
        refine lv_topi (fun v6 e_v6 => ?_)
        refine lv_i2l hx hb d_M_together_56 rfl ?_
        refine lv_lstore (lv' := [(8, .long (Int32.toInt64 v6)), (7, .int (nI i)), (6, .int o), (5, .int same), (3, .long cy), (0, .ref h), (1, .int (nI x)), (2, .int (nI y))]) hx hb d_M_together_57 hl (by decide) rfl (fun ls hl => ?_)
        refine lv_aload_n hx hb d_M_together_59 rfl (lv_at hl 5 rfl) ?_
        refine va_get (D := D) (ci := 2) (v := .ref pa) (C := R_M) (T := F_M) (N := 3) hx hb hts (by decide +kernel) hown hK hP 0 rfl rfl 1 (by decide) (hts (.fieldLink R_M 7 "TripleSumsModel" "parts" "[I") (by decide +kernel)) (fun _ h9 => h9) rfl d_M_together_60 ?_
        refine lv_sipush (v := 240) hx hb d_M_together_63 (by decide) ?_
        refine lv_iload_n hx hb d_M_together_66 rfl (lv_at hl 7 rfl) ?_
        refine lv_imul hx hb d_M_together_67 ?_
        refine lv_iload hx hb d_M_together_68 (lv_at hl 1 rfl) ?_
        refine lv_iadd hx hb d_M_together_70 ?_
        refine lv_topi (fun z7 e_z7 => ?_)
        obtain rfl : z7 = (nI (240 * y + i)) := e_z7.trans (ts_ix y i)
        refine va_iald (D := D) hx hb hK hP 1 2 rfl rfl (vp_in_nI (by omega) (by decide)) d_M_together_71 ?_
        refine lv_topi (fun v8 e_v8 => ?_)
        refine lv_i2l hx hb d_M_together_72 rfl ?_
        refine lv_lstore (lv' := [(10, .long (Int32.toInt64 v8)), (8, .long (Int32.toInt64 v6)), (7, .int (nI i)), (6, .int o), (5, .int same), (3, .long cy), (0, .ref h), (1, .int (nI x)), (2, .int (nI y))]) hx hb d_M_together_73 hl (by decide) rfl (fun ls hl => ?_)
        refine lv_iload hx hb d_M_together_75 (lv_at hl 4 rfl) ?_
        rw [nI_clamp (n := 240 * x + i) (by omega)] at e_v6
        rw [nI_clamp (n := 240 * y + i) (by omega)] at e_v8
        have x1 : 0 ≤ (u (240 * x + i)).toInt ∧ (u (240 * x + i)).toInt < 268435456 := hI.1 (240 * x + i) (by omega)
        have x2 : 0 ≤ (u (240 * y + i)).toInt ∧ (u (240 * y + i)).toInt < 268435456 := hI.1 (240 * y + i) (by omega)
        have x3 : -1 ≤ cy.toInt ∧ cy.toInt ≤ 1 := hI.2.2.2.1
        have ea : (Int32.toInt64 v6).toInt = (u (240 * x + i)).toInt := by rw [Int32.toInt_toInt64, e_v6]
        have eb : (Int32.toInt64 v8).toInt = (u (240 * y + i)).toInt := by rw [Int32.toInt_toInt64, e_v8]
        refine lv_if_eq (tgt := 88) hx hb d_M_together_77 (by decide) (fun c9 => ?_) (fun c9 => ?_)
        · refine lv_iload hx hb d_M_together_88 (lv_at hl 3 rfl) ?_
          refine lv_if_lt (tgt := 101) hx hb d_M_together_90 (by decide) (fun c16 => ?_) (fun c16 => ?_)
          · obtain ⟨r1, r2⟩ : ua = -1 ∧ ub = 1 := by rcases hu with ⟨h0, -⟩ | ⟨-, h0, -⟩ | ⟨-, -, h1, h2⟩ <;> first | exact ⟨h1, h2⟩ | exact absurd c16 h0 | exact absurd (h0.symm.trans c9) (show ¬ (1 : Int32) = 0 by decide +kernel)
            refine lv_lload hx hb d_M_together_101 (lv_at hl 0 rfl) ?_
            refine lv_lload hx hb d_M_together_103 (lv_at hl 1 rfl) ?_
            refine lv_lsub hx hb d_M_together_105 ?_
            refine lv_topl (fun z17 e_z17 => ?_)
            refine lv_lload_n hx hb d_M_together_106 rfl (lv_at hl 5 rfl) ?_
            refine lv_ladd hx hb d_M_together_107 ?_
            refine lv_topl (fun z18 e_z18 => ?_)
            refine lv_lstore (lv' := [(12, .long z18), (10, .long (Int32.toInt64 v8)), (8, .long (Int32.toInt64 v6)), (7, .int (nI i)), (6, .int o), (5, .int same), (3, .long cy), (0, .ref h), (1, .int (nI x)), (2, .int (nI y))]) hx hb d_M_together_108 hl (by decide) rfl (fun ls hl => ?_)
            have hv : Int64.toInt z18 = ua * (u (240 * x + i)).toInt + ub * (u (240 * y + i)).toInt + cy.toInt := by
              have e1 : Int64.toInt z17 = (u (240 * y + i)).toInt - (u (240 * x + i)).toInt := by rw [e_z17, ts_l_sub (by rw [ea, eb]; omega) (by rw [ea, eb]; omega), ea, eb]
              rw [e_z18, ts_l_add (by rw [e1]; omega) (by rw [e1]; omega), e1, r1, r2]
              omega
            refine lv_aload_n hx hb d_M_together_110 rfl (lv_at hl 7 rfl) ?_
            refine va_get (D := D) (ci := 2) (v := .ref pa) (C := R_M) (T := F_M) (N := 3) hx hb hts (by decide +kernel) hown hK hP 0 rfl rfl 1 (by decide) (hts (.fieldLink R_M 7 "TripleSumsModel" "parts" "[I") (by decide +kernel)) (fun _ h9 => h9) rfl d_M_together_111 ?_
            refine lv_sipush (v := 240) hx hb d_M_together_114 (by decide) ?_
            refine lv_iload_n hx hb d_M_together_117 rfl (lv_at hl 8 rfl) ?_
            refine lv_imul hx hb d_M_together_118 ?_
            refine lv_iload hx hb d_M_together_119 (lv_at hl 3 rfl) ?_
            refine lv_iadd hx hb d_M_together_121 ?_
            refine lv_topi (fun z19 e_z19 => ?_)
            obtain rfl : z19 = (nI (240 * x + i)) := e_z19.trans (ts_ix x i)
            refine lv_lload hx hb d_M_together_122 (lv_at hl 0 rfl) ?_
            refine lv_ldc2 (v := 268435455) hx hb hown (hts (.constantLong R_M 23 268435455) (by decide +kernel)) d_M_together_124 ?_
            refine lv_land hx hb d_M_together_127 ?_
            refine lv_topl (fun z20 e_z20 => ?_)
            refine lv_l2i hx hb d_M_together_128 rfl ?_
            refine lv_topi (fun z21 e_z21 => ?_)
            refine va_iast (D := D) hx hb hK hP hD hS 1 2 rfl rfl (vp_in_nI (by omega) (by decide)) d_M_together_129 (fun H locs hP hD hS => ?_)
            have hP : va_P D vwCl [(h, .inr (2, [.int th, .ref pa, .ref ba])), (pa, .inl (cI, 2400, .inl (upd u (Int32.toNatClampNeg (nI (240 * x + i))) z21))), (ba, .inl (cZ, 10, .inl B))] H := hP
            have hD : va_D A [(h, .inr (2, [.int th, .ref pa, .ref ba])), (pa, .inl (cI, 2400, .inl (upd u (Int32.toNatClampNeg (nI (240 * x + i))) z21))), (ba, .inl (cZ, 10, .inl B))] := hD
            refine lv_lload hx hb d_M_together_130 (lv_at hl 0 rfl) ?_
            refine lv_bipush (v := 28) hx hb d_M_together_132 (by decide) ?_
            refine lv_lshr hx hb d_M_together_134 rfl ?_
            refine lv_topl (fun z22 e_z22 => ?_)
            refine lv_lstore_n (lv' := [(3, .long z22), (12, .long z18), (10, .long (Int32.toInt64 v8)), (8, .long (Int32.toInt64 v6)), (7, .int (nI i)), (6, .int o), (5, .int same), (0, .ref h), (1, .int (nI x)), (2, .int (nI y))]) hx hb d_M_together_135 rfl hl (by decide) rfl (fun ls hl => ?_)
            refine lv_iinc (v := (nI (i + 1))) (lv' := [(7, .int (nI (i + 1))), (3, .long z22), (12, .long z18), (10, .long (Int32.toInt64 v8)), (8, .long (Int32.toInt64 v6)), (6, .int o), (5, .int same), (0, .ref h), (1, .int (nI x)), (2, .int (nI y))]) hx hb d_M_together_136 hl (k := 4) rfl (nI_1 _) (by decide) rfl (fun ls hl => ?_)
            refine lv_goto (tgt := 35) hx hb d_M_together_139 (by decide) ?_
            refine ih (z22, (upd u (Int32.toNatClampNeg (nI (240 * x + i))) z21)) ?_ _ _ hP hD hS ls (lv_sub hl [0, 5, 6, 1, 7, 8, 9] rfl)
            rw [nI_clamp (n := 240 * x + i) (by omega)]
            subst e_z20 e_z21 e_z22
            exact ts_TogI.step hx9 hy9 hxy hp hu3 hi hI hv
          · obtain ⟨r1, r2⟩ : ua = 1 ∧ ub = -1 := by rcases hu with ⟨h0, -⟩ | ⟨-, -, h1, h2⟩ | ⟨-, h0, -⟩ <;> first | exact ⟨h1, h2⟩ | exact absurd h0 c16 | exact absurd (h0.symm.trans c9) (show ¬ (1 : Int32) = 0 by decide +kernel)
            refine lv_lload hx hb d_M_together_93 (lv_at hl 1 rfl) ?_
            refine lv_lload hx hb d_M_together_95 (lv_at hl 0 rfl) ?_
            refine lv_lsub hx hb d_M_together_97 ?_
            refine lv_topl (fun z23 e_z23 => ?_)
            refine lv_goto (tgt := 106) hx hb d_M_together_98 (by decide) ?_
            refine lv_lload_n hx hb d_M_together_106 rfl (lv_at hl 5 rfl) ?_
            refine lv_ladd hx hb d_M_together_107 ?_
            refine lv_topl (fun z24 e_z24 => ?_)
            refine lv_lstore (lv' := [(12, .long z24), (10, .long (Int32.toInt64 v8)), (8, .long (Int32.toInt64 v6)), (7, .int (nI i)), (6, .int o), (5, .int same), (3, .long cy), (0, .ref h), (1, .int (nI x)), (2, .int (nI y))]) hx hb d_M_together_108 hl (by decide) rfl (fun ls hl => ?_)
            have hv : Int64.toInt z24 = ua * (u (240 * x + i)).toInt + ub * (u (240 * y + i)).toInt + cy.toInt := by
              have e1 : Int64.toInt z23 = (u (240 * x + i)).toInt - (u (240 * y + i)).toInt := by rw [e_z23, ts_l_sub (by rw [ea, eb]; omega) (by rw [ea, eb]; omega), ea, eb]
              rw [e_z24, ts_l_add (by rw [e1]; omega) (by rw [e1]; omega), e1, r1, r2]
              omega
            refine lv_aload_n hx hb d_M_together_110 rfl (lv_at hl 7 rfl) ?_
            refine va_get (D := D) (ci := 2) (v := .ref pa) (C := R_M) (T := F_M) (N := 3) hx hb hts (by decide +kernel) hown hK hP 0 rfl rfl 1 (by decide) (hts (.fieldLink R_M 7 "TripleSumsModel" "parts" "[I") (by decide +kernel)) (fun _ h9 => h9) rfl d_M_together_111 ?_
            refine lv_sipush (v := 240) hx hb d_M_together_114 (by decide) ?_
            refine lv_iload_n hx hb d_M_together_117 rfl (lv_at hl 8 rfl) ?_
            refine lv_imul hx hb d_M_together_118 ?_
            refine lv_iload hx hb d_M_together_119 (lv_at hl 3 rfl) ?_
            refine lv_iadd hx hb d_M_together_121 ?_
            refine lv_topi (fun z25 e_z25 => ?_)
            obtain rfl : z25 = (nI (240 * x + i)) := e_z25.trans (ts_ix x i)
            refine lv_lload hx hb d_M_together_122 (lv_at hl 0 rfl) ?_
            refine lv_ldc2 (v := 268435455) hx hb hown (hts (.constantLong R_M 23 268435455) (by decide +kernel)) d_M_together_124 ?_
            refine lv_land hx hb d_M_together_127 ?_
            refine lv_topl (fun z26 e_z26 => ?_)
            refine lv_l2i hx hb d_M_together_128 rfl ?_
            refine lv_topi (fun z27 e_z27 => ?_)
            refine va_iast (D := D) hx hb hK hP hD hS 1 2 rfl rfl (vp_in_nI (by omega) (by decide)) d_M_together_129 (fun H locs hP hD hS => ?_)
            have hP : va_P D vwCl [(h, .inr (2, [.int th, .ref pa, .ref ba])), (pa, .inl (cI, 2400, .inl (upd u (Int32.toNatClampNeg (nI (240 * x + i))) z27))), (ba, .inl (cZ, 10, .inl B))] H := hP
            have hD : va_D A [(h, .inr (2, [.int th, .ref pa, .ref ba])), (pa, .inl (cI, 2400, .inl (upd u (Int32.toNatClampNeg (nI (240 * x + i))) z27))), (ba, .inl (cZ, 10, .inl B))] := hD
            refine lv_lload hx hb d_M_together_130 (lv_at hl 0 rfl) ?_
            refine lv_bipush (v := 28) hx hb d_M_together_132 (by decide) ?_
            refine lv_lshr hx hb d_M_together_134 rfl ?_
            refine lv_topl (fun z28 e_z28 => ?_)
            refine lv_lstore_n (lv' := [(3, .long z28), (12, .long z24), (10, .long (Int32.toInt64 v8)), (8, .long (Int32.toInt64 v6)), (7, .int (nI i)), (6, .int o), (5, .int same), (0, .ref h), (1, .int (nI x)), (2, .int (nI y))]) hx hb d_M_together_135 rfl hl (by decide) rfl (fun ls hl => ?_)
            refine lv_iinc (v := (nI (i + 1))) (lv' := [(7, .int (nI (i + 1))), (3, .long z28), (12, .long z24), (10, .long (Int32.toInt64 v8)), (8, .long (Int32.toInt64 v6)), (6, .int o), (5, .int same), (0, .ref h), (1, .int (nI x)), (2, .int (nI y))]) hx hb d_M_together_136 hl (k := 4) rfl (nI_1 _) (by decide) rfl (fun ls hl => ?_)
            refine lv_goto (tgt := 35) hx hb d_M_together_139 (by decide) ?_
            refine ih (z28, (upd u (Int32.toNatClampNeg (nI (240 * x + i))) z27)) ?_ _ _ hP hD hS ls (lv_sub hl [0, 5, 6, 1, 7, 8, 9] rfl)
            rw [nI_clamp (n := 240 * x + i) (by omega)]
            subst e_z26 e_z27 e_z28
            exact ts_TogI.step hx9 hy9 hxy hp hu3 hi hI hv
        · obtain ⟨r1, r2⟩ : ua = 1 ∧ ub = 1 := by rcases hu with ⟨-, h1, h2⟩ | ⟨h0, -⟩ | ⟨h0, -⟩ <;> first | exact ⟨h1, h2⟩ | exact absurd h0 c9
          refine lv_lload hx hb d_M_together_80 (lv_at hl 1 rfl) ?_
          refine lv_lload hx hb d_M_together_82 (lv_at hl 0 rfl) ?_
          refine lv_ladd hx hb d_M_together_84 ?_
          refine lv_topl (fun z10 e_z10 => ?_)
          refine lv_goto (tgt := 106) hx hb d_M_together_85 (by decide) ?_
          refine lv_lload_n hx hb d_M_together_106 rfl (lv_at hl 5 rfl) ?_
          refine lv_ladd hx hb d_M_together_107 ?_
          refine lv_topl (fun z11 e_z11 => ?_)
          refine lv_lstore (lv' := [(12, .long z11), (10, .long (Int32.toInt64 v8)), (8, .long (Int32.toInt64 v6)), (7, .int (nI i)), (6, .int o), (5, .int same), (3, .long cy), (0, .ref h), (1, .int (nI x)), (2, .int (nI y))]) hx hb d_M_together_108 hl (by decide) rfl (fun ls hl => ?_)
          have hv : Int64.toInt z11 = ua * (u (240 * x + i)).toInt + ub * (u (240 * y + i)).toInt + cy.toInt := by
            have e1 : Int64.toInt z10 = (u (240 * x + i)).toInt + (u (240 * y + i)).toInt := by rw [e_z10, ts_l_add (by rw [ea, eb]; omega) (by rw [ea, eb]; omega), ea, eb]
            rw [e_z11, ts_l_add (by rw [e1]; omega) (by rw [e1]; omega), e1, r1, r2]
            omega
          refine lv_aload_n hx hb d_M_together_110 rfl (lv_at hl 7 rfl) ?_
          refine va_get (D := D) (ci := 2) (v := .ref pa) (C := R_M) (T := F_M) (N := 3) hx hb hts (by decide +kernel) hown hK hP 0 rfl rfl 1 (by decide) (hts (.fieldLink R_M 7 "TripleSumsModel" "parts" "[I") (by decide +kernel)) (fun _ h9 => h9) rfl d_M_together_111 ?_
          refine lv_sipush (v := 240) hx hb d_M_together_114 (by decide) ?_
          refine lv_iload_n hx hb d_M_together_117 rfl (lv_at hl 8 rfl) ?_
          refine lv_imul hx hb d_M_together_118 ?_
          refine lv_iload hx hb d_M_together_119 (lv_at hl 3 rfl) ?_
          refine lv_iadd hx hb d_M_together_121 ?_
          refine lv_topi (fun z12 e_z12 => ?_)
          obtain rfl : z12 = (nI (240 * x + i)) := e_z12.trans (ts_ix x i)
          refine lv_lload hx hb d_M_together_122 (lv_at hl 0 rfl) ?_
          refine lv_ldc2 (v := 268435455) hx hb hown (hts (.constantLong R_M 23 268435455) (by decide +kernel)) d_M_together_124 ?_
          refine lv_land hx hb d_M_together_127 ?_
          refine lv_topl (fun z13 e_z13 => ?_)
          refine lv_l2i hx hb d_M_together_128 rfl ?_
          refine lv_topi (fun z14 e_z14 => ?_)
          refine va_iast (D := D) hx hb hK hP hD hS 1 2 rfl rfl (vp_in_nI (by omega) (by decide)) d_M_together_129 (fun H locs hP hD hS => ?_)
          have hP : va_P D vwCl [(h, .inr (2, [.int th, .ref pa, .ref ba])), (pa, .inl (cI, 2400, .inl (upd u (Int32.toNatClampNeg (nI (240 * x + i))) z14))), (ba, .inl (cZ, 10, .inl B))] H := hP
          have hD : va_D A [(h, .inr (2, [.int th, .ref pa, .ref ba])), (pa, .inl (cI, 2400, .inl (upd u (Int32.toNatClampNeg (nI (240 * x + i))) z14))), (ba, .inl (cZ, 10, .inl B))] := hD
          refine lv_lload hx hb d_M_together_130 (lv_at hl 0 rfl) ?_
          refine lv_bipush (v := 28) hx hb d_M_together_132 (by decide) ?_
          refine lv_lshr hx hb d_M_together_134 rfl ?_
          refine lv_topl (fun z15 e_z15 => ?_)
          refine lv_lstore_n (lv' := [(3, .long z15), (12, .long z11), (10, .long (Int32.toInt64 v8)), (8, .long (Int32.toInt64 v6)), (7, .int (nI i)), (6, .int o), (5, .int same), (0, .ref h), (1, .int (nI x)), (2, .int (nI y))]) hx hb d_M_together_135 rfl hl (by decide) rfl (fun ls hl => ?_)
          refine lv_iinc (v := (nI (i + 1))) (lv' := [(7, .int (nI (i + 1))), (3, .long z15), (12, .long z11), (10, .long (Int32.toInt64 v8)), (8, .long (Int32.toInt64 v6)), (6, .int o), (5, .int same), (0, .ref h), (1, .int (nI x)), (2, .int (nI y))]) hx hb d_M_together_136 hl (k := 4) rfl (nI_1 _) (by decide) rfl (fun ls hl => ?_)
          refine lv_goto (tgt := 35) hx hb d_M_together_139 (by decide) ?_
          refine ih (z15, (upd u (Int32.toNatClampNeg (nI (240 * x + i))) z14)) ?_ _ _ hP hD hS ls (lv_sub hl [0, 5, 6, 1, 7, 8, 9] rfl)
          rw [nI_clamp (n := 240 * x + i) (by omega)]
          subst e_z13 e_z14 e_z15
          exact ts_TogI.step hx9 hy9 hxy hp hu3 hi hI hv
    · intro ⟨cy, u⟩ hI H locs hP hD hS ls hl
      have hl : lv_has ls 14 [(7, .int (nI 240)), (6, .int o), (5, .int same), (3, .long cy), (0, .ref h), (1, .int (nI x)), (2, .int (nI y))] := hl
      have hP : va_P D vwCl [(h, .inr (2, [.int th, .ref pa, .ref ba])), (pa, .inl (cI, 2400, .inl u)), (ba, .inl (cZ, 10, .inl B))] H := hP
      have hD : va_D A [(h, .inr (2, [.int th, .ref pa, .ref ba])), (pa, .inl (cI, 2400, .inl u)), (ba, .inl (cZ, 10, .inl B))] := hD
      refine lv_iload hx hb d_M_together_35 (lv_at hl 0 rfl) ?_
      refine lv_sipush (v := 240) hx hb d_M_together_37 (by decide) ?_
      refine lv_icmp_ge (tgt := 142) hx hb d_M_together_40 (by decide) (fun c29 => ?_) (fun c29 => ?_)
      · have hsum : 0 ≤ ua * (ts_r P x : Int) + ub * (ts_r P y : Int) ∧ ua * (ts_r P x : Int) + ub * (ts_r P y : Int) < (ts_N : Int) := by
          rcases hu with ⟨-, h1, h2⟩ | ⟨-, h0, h1, h2⟩ | ⟨-, h0, h1, h2⟩ <;> rw [h1, h2] <;> rw [ho1] at * <;> omega
        obtain ⟨g1, g2, g3⟩ : ts_pk u ∧ ts_off P u x ∧ (ts_r u x : Int) = ua * (ts_r P x : Int) + ub * (ts_r P y : Int) := ts_TogI.done hx9 hI hsum.1 hsum.2
        refine lv_aload_n hx hb d_M_together_142 rfl (lv_at hl 4 rfl) ?_
        refine va_get (D := D) (ci := 2) (v := .ref ba) (C := R_M) (T := F_M) (N := 3) hx hb hts (by decide +kernel) hown hK hP 0 rfl rfl 2 (by decide) (hts (.fieldLink R_M 13 "TripleSumsModel" "below" "[Z") (by decide +kernel)) (fun _ h9 => h9) rfl d_M_together_143 ?_
        refine lv_iload_n hx hb d_M_together_146 rfl (lv_at hl 5 rfl) ?_
        refine lv_iload hx hb d_M_together_147 (lv_at hl 2 rfl) ?_
        refine lv_if_eq (tgt := 161) hx hb d_M_together_149 (by decide) (fun c30 => ?_) (fun c30 => ?_)
        · have hs1 : B x ≠ B y := by rcases hsame with ⟨h0, -⟩ | ⟨-, h1⟩ <;> first | exact h1 | exact absurd (h0.symm.trans c30) (show ¬ (1 : Int32) = 0 by decide +kernel)
          have hu2 : (¬ o < 0 ∧ ua = 1 ∧ ub = -1) ∨ (o < 0 ∧ ua = -1 ∧ ub = 1) := by rcases hu with ⟨h0, -⟩ | ⟨-, h1⟩ | ⟨-, h1⟩ <;> first | exact Or.inl h1 | exact Or.inr h1 | exact absurd (h0.symm.trans c30) (show ¬ (1 : Int32) = 0 by decide +kernel)
          refine lv_iload hx hb d_M_together_161 (lv_at hl 1 rfl) ?_
          refine lv_if_ne (tgt := 170) hx hb d_M_together_163 (by decide) (fun c32 => ?_) (fun c32 => ?_)
          · refine lv_iload hx hb d_M_together_170 (lv_at hl 1 rfl) ?_
            refine lv_if_le (tgt := 184) hx hb d_M_together_172 (by decide) (fun c33 => ?_) (fun c33 => ?_)
            · refine lv_aload_n hx hb d_M_together_184 rfl (lv_at hl 4 rfl) ?_
              refine va_get (D := D) (ci := 2) (v := .ref ba) (C := R_M) (T := F_M) (N := 3) hx hb hts (by decide +kernel) hown hK hP 0 rfl rfl 2 (by decide) (hts (.fieldLink R_M 13 "TripleSumsModel" "below" "[Z") (by decide +kernel)) (fun _ h9 => h9) rfl d_M_together_185 ?_
              refine lv_iload_n hx hb d_M_together_188 rfl (lv_at hl 6 rfl) ?_
              refine va_zald (D := D) hx hb hK hP 2 3 rfl rfl (vp_in_nI hy9 (by decide)) d_M_together_189 ?_
              refine lv_topi (fun v35 e_v35 => ?_)
              rw [nI_clamp (n := y) (by omega)] at e_v35
              have hq : ts_r P x < ts_r P y := ho1.mp (Int32.lt_of_le_of_ne c33 c32)
              refine va_zast (D := D) hx hb hK hP hD hS 2 3 rfl rfl (vp_in_nI hx9 (by decide)) d_M_together_190 (fun H locs hP hD hS => ?_)
              have hP : va_P D vwCl [(h, .inr (2, [.int th, .ref pa, .ref ba])), (pa, .inl (cI, 2400, .inl u)), (ba, .inl (cZ, 10, .inl (upd B (Int32.toNatClampNeg (nI x)) (vp_nar .boolean v35))))] H := hP
              have hD : va_D A [(h, .inr (2, [.int th, .ref pa, .ref ba])), (pa, .inl (cI, 2400, .inl u)), (ba, .inl (cZ, 10, .inl (upd B (Int32.toNatClampNeg (nI x)) (vp_nar .boolean v35))))] := hD
              have hnb : vp_nar .boolean v35 = (B y) := by rw [e_v35]; rcases hky.1 with q | q <;> rw [q] <;> decide +kernel
              rw [hnb, nI_clamp (n := x) (by omega)] at hP hD
              have hP : va_P D vwCl [(h, .inr (2, [.int th, .ref pa, .ref ba])), (pa, .inl (cI, 2400, .inl u)), (ba, .inl (cZ, 10, .inl (upd B x (B y))))] H := hP
              have hD : va_D A [(h, .inr (2, [.int th, .ref pa, .ref ba])), (pa, .inl (cI, 2400, .inl u)), (ba, .inl (cZ, 10, .inl (upd B x (B y))))] := hD
              have hfin := ts_tg (P' := u) hkx hky (Or.inr (Or.inr (Or.inr ⟨hs1, hq, by rcases hu2 with ⟨h0, -, -⟩ | ⟨-, h1, h2⟩ <;> first | (rw [h1, h2] at g3; omega) | exact absurd (ho1.mpr hq) h0, rfl⟩)))
              exact W.vret hx hb hr (fun t ht hW => ts_ret (u := (u, (B y))) hP hD hK hS ⟨rfl, g1, g2, hfin.1, hfin.2⟩ ht hW) hS.2.2 d_M_together_191
            · refine lv_aload_n hx hb d_M_together_175 rfl (lv_at hl 4 rfl) ?_
              refine va_get (D := D) (ci := 2) (v := .ref ba) (C := R_M) (T := F_M) (N := 3) hx hb hts (by decide +kernel) hown hK hP 0 rfl rfl 2 (by decide) (hts (.fieldLink R_M 13 "TripleSumsModel" "below" "[Z") (by decide +kernel)) (fun _ h9 => h9) rfl d_M_together_176 ?_
              refine lv_iload_n hx hb d_M_together_179 rfl (lv_at hl 5 rfl) ?_
              refine va_zald (D := D) hx hb hK hP 2 3 rfl rfl (vp_in_nI hx9 (by decide)) d_M_together_180 ?_
              refine lv_topi (fun v34 e_v34 => ?_)
              rw [nI_clamp (n := x) (by omega)] at e_v34
              have q4 : ¬ ts_r P x < ts_r P y := fun z => c33 (Int32.le_of_lt (ho1.mpr z))
              have q5 : ¬ ts_r P x = ts_r P y := fun z => c32 (ho2.mpr z)
              have hq : ts_r P y < ts_r P x := by omega
              refine lv_goto (tgt := 190) hx hb d_M_together_181 (by decide) ?_
              refine va_zast (D := D) hx hb hK hP hD hS 2 3 rfl rfl (vp_in_nI hx9 (by decide)) d_M_together_190 (fun H locs hP hD hS => ?_)
              have hP : va_P D vwCl [(h, .inr (2, [.int th, .ref pa, .ref ba])), (pa, .inl (cI, 2400, .inl u)), (ba, .inl (cZ, 10, .inl (upd B (Int32.toNatClampNeg (nI x)) (vp_nar .boolean v34))))] H := hP
              have hD : va_D A [(h, .inr (2, [.int th, .ref pa, .ref ba])), (pa, .inl (cI, 2400, .inl u)), (ba, .inl (cZ, 10, .inl (upd B (Int32.toNatClampNeg (nI x)) (vp_nar .boolean v34))))] := hD
              have hnb : vp_nar .boolean v34 = (B x) := by rw [e_v34]; rcases hkx.1 with q | q <;> rw [q] <;> decide +kernel
              rw [hnb, nI_clamp (n := x) (by omega)] at hP hD
              have hP : va_P D vwCl [(h, .inr (2, [.int th, .ref pa, .ref ba])), (pa, .inl (cI, 2400, .inl u)), (ba, .inl (cZ, 10, .inl (upd B x (B x))))] H := hP
              have hD : va_D A [(h, .inr (2, [.int th, .ref pa, .ref ba])), (pa, .inl (cI, 2400, .inl u)), (ba, .inl (cZ, 10, .inl (upd B x (B x))))] := hD
              have hfin := ts_tg (P' := u) hkx hky (Or.inr (Or.inr (Or.inl ⟨hs1, hq, by rcases hu2 with ⟨-, h1, h2⟩ | ⟨h0, -, -⟩ <;> first | (rw [h1, h2] at g3; omega) | exact absurd (ho1.mp h0) (by omega), rfl⟩)))
              exact W.vret hx hb hr (fun t ht hW => ts_ret (u := (u, (B x))) hP hD hK hS ⟨rfl, g1, g2, hfin.1, hfin.2⟩ ht hW) hS.2.2 d_M_together_191
          · have hq : ts_r P x = ts_r P y := ho2.mp c32
            refine lv_iconst (v := 0) hx hb d_M_together_166 (by decide) ?_
            refine lv_goto (tgt := 190) hx hb d_M_together_167 (by decide) ?_
            refine va_zast (D := D) hx hb hK hP hD hS 2 3 rfl rfl (vp_in_nI hx9 (by decide)) d_M_together_190 (fun H locs hP hD hS => ?_)
            have hP : va_P D vwCl [(h, .inr (2, [.int th, .ref pa, .ref ba])), (pa, .inl (cI, 2400, .inl u)), (ba, .inl (cZ, 10, .inl (upd B (Int32.toNatClampNeg (nI x)) (vp_nar .boolean 0))))] H := hP
            have hD : va_D A [(h, .inr (2, [.int th, .ref pa, .ref ba])), (pa, .inl (cI, 2400, .inl u)), (ba, .inl (cZ, 10, .inl (upd B (Int32.toNatClampNeg (nI x)) (vp_nar .boolean 0))))] := hD
            have hnb : vp_nar .boolean 0 = 0 := by decide +kernel
            rw [hnb, nI_clamp (n := x) (by omega)] at hP hD
            have hP : va_P D vwCl [(h, .inr (2, [.int th, .ref pa, .ref ba])), (pa, .inl (cI, 2400, .inl u)), (ba, .inl (cZ, 10, .inl (upd B x 0)))] H := hP
            have hD : va_D A [(h, .inr (2, [.int th, .ref pa, .ref ba])), (pa, .inl (cI, 2400, .inl u)), (ba, .inl (cZ, 10, .inl (upd B x 0)))] := hD
            have hfin := ts_tg (P' := u) hkx hky (Or.inr (Or.inl ⟨hs1, hq, by rcases hu2 with ⟨-, h1, h2⟩ | ⟨-, h1, h2⟩ <;> rw [h1, h2] at g3 <;> omega, rfl⟩))
            exact W.vret hx hb hr (fun t ht hW => ts_ret (u := (u, 0)) hP hD hK hS ⟨rfl, g1, g2, hfin.1, hfin.2⟩ ht hW) hS.2.2 d_M_together_191
        · refine lv_aload_n hx hb d_M_together_152 rfl (lv_at hl 4 rfl) ?_
          refine va_get (D := D) (ci := 2) (v := .ref ba) (C := R_M) (T := F_M) (N := 3) hx hb hts (by decide +kernel) hown hK hP 0 rfl rfl 2 (by decide) (hts (.fieldLink R_M 13 "TripleSumsModel" "below" "[Z") (by decide +kernel)) (fun _ h9 => h9) rfl d_M_together_153 ?_
          refine lv_iload_n hx hb d_M_together_156 rfl (lv_at hl 5 rfl) ?_
          refine va_zald (D := D) hx hb hK hP 2 3 rfl rfl (vp_in_nI hx9 (by decide)) d_M_together_157 ?_
          refine lv_topi (fun v31 e_v31 => ?_)
          rw [nI_clamp (n := x) (by omega)] at e_v31
          have hs1 : B x = B y := by rcases hsame with ⟨-, h1⟩ | ⟨h0, -⟩ <;> first | exact h1 | exact absurd h0 c30
          obtain ⟨r1, r2⟩ : ua = 1 ∧ ub = 1 := by rcases hu with ⟨-, h1, h2⟩ | ⟨h0, -⟩ | ⟨h0, -⟩ <;> first | exact ⟨h1, h2⟩ | exact absurd h0 c30
          refine lv_goto (tgt := 190) hx hb d_M_together_158 (by decide) ?_
          refine va_zast (D := D) hx hb hK hP hD hS 2 3 rfl rfl (vp_in_nI hx9 (by decide)) d_M_together_190 (fun H locs hP hD hS => ?_)
          have hP : va_P D vwCl [(h, .inr (2, [.int th, .ref pa, .ref ba])), (pa, .inl (cI, 2400, .inl u)), (ba, .inl (cZ, 10, .inl (upd B (Int32.toNatClampNeg (nI x)) (vp_nar .boolean v31))))] H := hP
          have hD : va_D A [(h, .inr (2, [.int th, .ref pa, .ref ba])), (pa, .inl (cI, 2400, .inl u)), (ba, .inl (cZ, 10, .inl (upd B (Int32.toNatClampNeg (nI x)) (vp_nar .boolean v31))))] := hD
          have hnb : vp_nar .boolean v31 = (B x) := by rw [e_v31]; rcases hkx.1 with q | q <;> rw [q] <;> decide +kernel
          rw [hnb, nI_clamp (n := x) (by omega)] at hP hD
          have hP : va_P D vwCl [(h, .inr (2, [.int th, .ref pa, .ref ba])), (pa, .inl (cI, 2400, .inl u)), (ba, .inl (cZ, 10, .inl (upd B x (B x))))] H := hP
          have hD : va_D A [(h, .inr (2, [.int th, .ref pa, .ref ba])), (pa, .inl (cI, 2400, .inl u)), (ba, .inl (cZ, 10, .inl (upd B x (B x))))] := hD
          have hfin := ts_tg (P' := u) hkx hky (Or.inl ⟨hs1, by rw [r1, r2] at g3; omega, rfl⟩)
          exact W.vret hx hb hr (fun t ht hW => ts_ret (u := (u, (B x))) hP hD hK hS ⟨rfl, g1, g2, hfin.1, hfin.2⟩ ht hW) hS.2.2 d_M_together_191
      · exact absurd (nI_le (Nat.le_refl 240) (by decide)) c29
  · refine lv_icmp_ne (tgt := 21) hx hb d_M_together_14 (by decide) (fun c3 => ?_) (fun c3 => ?_)
    · refine lv_iconst (v := 0) hx hb d_M_together_21 (by decide) ?_
      refine lv_istore (lv' := [(5, .int 0), (3, .long 0), (0, .ref h), (1, .int (nI x)), (2, .int (nI y))]) hx hb d_M_together_22 hl (by decide) rfl (fun ls hl => ?_)
      exact kk 0 ls (Or.inr ⟨rfl, by rw [← e_v1, ← e_v2]; exact c3⟩) (lv_sub hl [0, 1, 2, 3, 4] rfl)
    · refine lv_iconst (v := 1) hx hb d_M_together_17 (by decide) ?_
      refine lv_goto (tgt := 22) hx hb d_M_together_18 (by decide) ?_
      refine lv_istore (lv' := [(5, .int 1), (3, .long 0), (0, .ref h), (1, .int (nI x)), (2, .int (nI y))]) hx hb d_M_together_22 hl (by decide) rfl (fun ls hl => ?_)
      exact kk 1 ls (Or.inl ⟨rfl, by rw [← e_v1, ← e_v2]; exact c3⟩) (lv_sub hl [0, 1, 2, 3, 4] rfl)

