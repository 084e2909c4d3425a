set_option maxHeartbeats 4000000 in
set_option maxRecDepth 100000 in
theorem c_I_ntz (l : Launch) (D : va_G) (cL cA cI cZ : ClassId) (k : Nat) (hk0 : 0 < k) (hk : k < 2 ^ 32) (sz : Nat) : Met l y_I_numberOfTrailingZeros w_I_numberOfTrailingZeros (ts_rm 1) (va_Pc [.int (nI k)] (ts_A D vwCl (ts_ty cL cA cI cZ) [] sz)) (ts_Q (fun (v : Option Value) (u : Unit) => ∃ q : Nat, ts_Bot k q ∧ q ≤ 31 ∧ v = some (.int (nI q))) (fun u => ts_B D vwCl (ts_ty cL cA cI cZ) (va_A [] sz) (([] : va_W))) (va_A [] sz)) 0 0 (va_A [] sz) := by
  refine ts_met (cc := b_I_numberOfTrailingZeros) (maxL := 2) (ret := (some .int)) (by decide) rfl (Nat.le_of_ble_eq_true rfl) ?_
  intro p e s m below meth c hx hb hr hml hown hts hlocks hname A hA hAe hK hP hD hS hsz ls hl
  have hown : s.vm.findClass R_I = some m.cls := hown
  have hl : lv_has ls 2 [(0, .int (nI k))] := hl
  have hP : va_P D vwCl [] s.heap := hP
  have hD : va_D A [] := hD
  obtain ⟨q, hq31, hq⟩ := ts_Bot.of hk0 hk
  refine lv_iload_n hx hb d_I_numberOfTrailingZeros_0 rfl (lv_at hl 0 rfl) ?_
  refine lv_iconst (v := (-1)) hx hb d_I_numberOfTrailingZeros_1 (by decide) ?_
  refine lv_ixor hx hb d_I_numberOfTrailingZeros_2 ?_
  refine lv_topi (fun z1 e_z1 => ?_)
  refine lv_iload_n hx hb d_I_numberOfTrailingZeros_3 rfl (lv_at hl 0 rfl) ?_
  refine lv_iconst (v := 1) hx hb d_I_numberOfTrailingZeros_4 (by decide) ?_
  refine lv_isub hx hb d_I_numberOfTrailingZeros_5 ?_
  refine lv_topi (fun z2 e_z2 => ?_)
  refine lv_iand hx hb d_I_numberOfTrailingZeros_6 ?_
  refine lv_topi (fun z3 e_z3 => ?_)
  obtain rfl : z3 = (nI (2 ^ q - 1)) := e_z3.trans (by rw [e_z1, e_z2]; exact ts_low1 hk hq)
  have hqb := ts_p31 hq31
  refine lv_istore_n (lv' := [(0, .int (nI (2 ^ q - 1)))]) hx hb d_I_numberOfTrailingZeros_7 rfl hl (by decide) rfl (fun ls hl => ?_)
  refine lv_iload_n hx hb d_I_numberOfTrailingZeros_8 rfl (lv_at hl 0 rfl) ?_
  refine lv_if_gt (tgt := 17) hx hb d_I_numberOfTrailingZeros_9 (by decide) (fun c4 => ?_) (fun c4 => ?_)
  · have hq0 : 1 ≤ q := by
      rcases Nat.eq_zero_or_pos q with h1 | h1
      · rw [h1] at c4; exact absurd c4 (by decide +kernel)
      · exact h1
    refine ts_cut 74 [] (nL := 2) (fun (u : Nat × Nat) => 1 ≤ u.1 ∧ u.1 + u.2 = q ∧ u.1 ≤ 2) (fun (u : Nat × Nat) => [(0, .int (nI (2 ^ u.1 - 1))), (1, .int (nI (1 + u.2)))]) (fun u ls hu hl => ?_) (fun k74 => ?_)
    · obtain ⟨n, t⟩ := u
      obtain ⟨u1, u2, u3⟩ := hu
      have u1 : 1 ≤ n := u1
      have u2 : n + t = q := u2
      have u3 : n ≤ 2 := u3
      have u4 := ts_p31 (a := n) (by omega)
      have hl : lv_has ls 2 [(0, .int (nI (2 ^ n - 1))), (1, .int (nI (1 + t)))] := hl
      refine lv_iload_n hx hb d_I_numberOfTrailingZeros_74 rfl (lv_at hl 1 rfl) ?_
      refine lv_iload_n hx hb d_I_numberOfTrailingZeros_75 rfl (lv_at hl 0 rfl) ?_
      refine lv_iconst (v := (nI 1)) hx hb d_I_numberOfTrailingZeros_76 (by decide) ?_
      refine lv_iushr hx hb d_I_numberOfTrailingZeros_77 rfl ?_
      refine lv_topi (fun z14 e_z14 => ?_)
      obtain rfl : z14 = (nI ((2 ^ n - 1) / 2 ^ 1)) := e_z14.trans (ts_ush (2 ^ n - 1) 1 u4 (by decide))
      refine lv_iadd hx hb d_I_numberOfTrailingZeros_78 ?_
      refine lv_topi (fun z15 e_z15 => ?_)
      have hz : z15 = nI q := by rw [e_z15, nI_add, ts_half u1 u3]; congr 1; omega
      exact W.iret (v := z15) hx hb hr (fun t ht hW => ts_ret (u := ()) hP hD hK hS ⟨q, hq, hq31, by rw [hz]⟩ ht hW) hS.2.2 d_I_numberOfTrailingZeros_79
    · refine ts_cut 62 [] (nL := 2) (fun (u : Nat × Nat) => 1 ≤ u.1 ∧ u.1 + u.2 = q ∧ u.1 ≤ 4) (fun (u : Nat × Nat) => [(0, .int (nI (2 ^ u.1 - 1))), (1, .int (nI (1 + u.2)))]) (fun u ls hu hl => ?_) (fun k62 => ?_)
      · obtain ⟨n, t⟩ := u
        obtain ⟨u1, u2, u3⟩ := hu
        have u1 : 1 ≤ n := u1
        have u2 : n + t = q := u2
        have u3 : n ≤ 4 := u3
        have u4 := ts_p31 (a := n) (by omega)
        have hl : lv_has ls 2 [(0, .int (nI (2 ^ n - 1))), (1, .int (nI (1 + t)))] := hl
        refine lv_iload_n hx hb d_I_numberOfTrailingZeros_62 rfl (lv_at hl 0 rfl) ?_
        refine lv_iconst (v := 4) hx hb d_I_numberOfTrailingZeros_63 (by decide) ?_
        refine lv_icmp_le (tgt := 74) hx hb d_I_numberOfTrailingZeros_64 (by decide) (fun c12 => ?_) (fun c12 => ?_)
        · have hlt : n ≤ 2 := (ts_leb (a := n) (b := 2) (by decide)).mp ((nI_leI (b := 4) (by omega) (by decide)).mp c12)
          exact k74 (n, t) ls ⟨u1, u2, hlt⟩ (lv_sub hl [0, 1] rfl)
        · have hge : 2 < n := Nat.lt_of_not_le (fun z => c12 ((nI_leI (b := 4) (by omega) (by decide)).mpr ((ts_leb (a := n) (b := 2) (by decide)).mpr z)))
          refine lv_iinc (v := (nI (1 + (t + 2)))) (lv' := [(1, .int (nI (1 + (t + 2)))), (0, .int (nI (2 ^ n - 1)))]) hx hb d_I_numberOfTrailingZeros_67 hl (k := 1) rfl ((nI_add _ 2).trans (congrArg nI (by omega))) (by decide) rfl (fun ls hl => ?_)
          refine lv_iload_n hx hb d_I_numberOfTrailingZeros_70 rfl (lv_at hl 1 rfl) ?_
          refine lv_iconst (v := (nI 2)) hx hb d_I_numberOfTrailingZeros_71 (by decide) ?_
          refine lv_iushr hx hb d_I_numberOfTrailingZeros_72 rfl ?_
          refine lv_topi (fun z13 e_z13 => ?_)
          obtain rfl : z13 = (nI (2 ^ (n - 2) - 1)) := e_z13.trans ((ts_ush (2 ^ n - 1) 2 u4 (by decide)).trans (congrArg nI (ts_m1d (by omega))))
          refine lv_istore_n (lv' := [(0, .int (nI (2 ^ (n - 2) - 1))), (1, .int (nI (1 + (t + 2))))]) hx hb d_I_numberOfTrailingZeros_73 rfl hl (by decide) rfl (fun ls hl => ?_)
          exact k74 (n - 2, t + 2) ls ⟨by show 1 ≤ n - 2; omega, by show n - 2 + (t + 2) = q; omega, by show n - 2 ≤ _; omega⟩ (lv_sub hl [0, 1] rfl)
      · refine ts_cut 49 [] (nL := 2) (fun (u : Nat × Nat) => 1 ≤ u.1 ∧ u.1 + u.2 = q ∧ u.1 ≤ 8) (fun (u : Nat × Nat) => [(0, .int (nI (2 ^ u.1 - 1))), (1, .int (nI (1 + u.2)))]) (fun u ls hu hl => ?_) (fun k49 => ?_)
        · obtain ⟨n, t⟩ := u
          obtain ⟨u1, u2, u3⟩ := hu
          have u1 : 1 ≤ n := u1
          have u2 : n + t = q := u2
          have u3 : n ≤ 8 := u3
          have u4 := ts_p31 (a := n) (by omega)
          have hl : lv_has ls 2 [(0, .int (nI (2 ^ n - 1))), (1, .int (nI (1 + t)))] := hl
          refine lv_iload_n hx hb d_I_numberOfTrailingZeros_49 rfl (lv_at hl 0 rfl) ?_
          refine lv_bipush (v := 16) hx hb d_I_numberOfTrailingZeros_50 (by decide) ?_
          refine lv_icmp_le (tgt := 62) hx hb d_I_numberOfTrailingZeros_52 (by decide) (fun c10 => ?_) (fun c10 => ?_)
          · have hlt : n ≤ 4 := (ts_leb (a := n) (b := 4) (by decide)).mp ((nI_leI (b := 16) (by omega) (by decide)).mp c10)
            exact k62 (n, t) ls ⟨u1, u2, hlt⟩ (lv_sub hl [0, 1] rfl)
          · have hge : 4 < n := Nat.lt_of_not_le (fun z => c10 ((nI_leI (b := 16) (by omega) (by decide)).mpr ((ts_leb (a := n) (b := 4) (by decide)).mpr z)))
            refine lv_iinc (v := (nI (1 + (t + 4)))) (lv' := [(1, .int (nI (1 + (t + 4)))), (0, .int (nI (2 ^ n - 1)))]) hx hb d_I_numberOfTrailingZeros_55 hl (k := 1) rfl ((nI_add _ 4).trans (congrArg nI (by omega))) (by decide) rfl (fun ls hl => ?_)
            refine lv_iload_n hx hb d_I_numberOfTrailingZeros_58 rfl (lv_at hl 1 rfl) ?_
            refine lv_iconst (v := (nI 4)) hx hb d_I_numberOfTrailingZeros_59 (by decide) ?_
            refine lv_iushr hx hb d_I_numberOfTrailingZeros_60 rfl ?_
            refine lv_topi (fun z11 e_z11 => ?_)
            obtain rfl : z11 = (nI (2 ^ (n - 4) - 1)) := e_z11.trans ((ts_ush (2 ^ n - 1) 4 u4 (by decide)).trans (congrArg nI (ts_m1d (by omega))))
            refine lv_istore_n (lv' := [(0, .int (nI (2 ^ (n - 4) - 1))), (1, .int (nI (1 + (t + 4))))]) hx hb d_I_numberOfTrailingZeros_61 rfl hl (by decide) rfl (fun ls hl => ?_)
            exact k62 (n - 4, t + 4) ls ⟨by show 1 ≤ n - 4; omega, by show n - 4 + (t + 4) = q; omega, by show n - 4 ≤ _; omega⟩ (lv_sub hl [0, 1] rfl)
        · refine ts_cut 34 [] (nL := 2) (fun (u : Nat × Nat) => 1 ≤ u.1 ∧ u.1 + u.2 = q ∧ u.1 ≤ 16) (fun (u : Nat × Nat) => [(0, .int (nI (2 ^ u.1 - 1))), (1, .int (nI (1 + u.2)))]) (fun u ls hu hl => ?_) (fun k34 => ?_)
          · obtain ⟨n, t⟩ := u
            obtain ⟨u1, u2, u3⟩ := hu
            have u1 : 1 ≤ n := u1
            have u2 : n + t = q := u2
            have u3 : n ≤ 16 := u3
            have u4 := ts_p31 (a := n) (by omega)
            have hl : lv_has ls 2 [(0, .int (nI (2 ^ n - 1))), (1, .int (nI (1 + t)))] := hl
            refine lv_iload_n hx hb d_I_numberOfTrailingZeros_34 rfl (lv_at hl 0 rfl) ?_
            refine lv_sipush (v := 256) hx hb d_I_numberOfTrailingZeros_35 (by decide) ?_
            refine lv_icmp_le (tgt := 49) hx hb d_I_numberOfTrailingZeros_38 (by decide) (fun c8 => ?_) (fun c8 => ?_)
            · have hlt : n ≤ 8 := (ts_leb (a := n) (b := 8) (by decide)).mp ((nI_leI (b := 256) (by omega) (by decide)).mp c8)
              exact k49 (n, t) ls ⟨u1, u2, hlt⟩ (lv_sub hl [0, 1] rfl)
            · have hge : 8 < n := Nat.lt_of_not_le (fun z => c8 ((nI_leI (b := 256) (by omega) (by decide)).mpr ((ts_leb (a := n) (b := 8) (by decide)).mpr z)))
              refine lv_iinc (v := (nI (1 + (t + 8)))) (lv' := [(1, .int (nI (1 + (t + 8)))), (0, .int (nI (2 ^ n - 1)))]) hx hb d_I_numberOfTrailingZeros_41 hl (k := 1) rfl ((nI_add _ 8).trans (congrArg nI (by omega))) (by decide) rfl (fun ls hl => ?_)
              refine lv_iload_n hx hb d_I_numberOfTrailingZeros_44 rfl (lv_at hl 1 rfl) ?_
              refine lv_bipush (v := (nI 8)) hx hb d_I_numberOfTrailingZeros_45 (by decide) ?_
              refine lv_iushr hx hb d_I_numberOfTrailingZeros_47 rfl ?_
              refine lv_topi (fun z9 e_z9 => ?_)
              obtain rfl : z9 = (nI (2 ^ (n - 8) - 1)) := e_z9.trans ((ts_ush (2 ^ n - 1) 8 u4 (by decide)).trans (congrArg nI (ts_m1d (by omega))))
              refine lv_istore_n (lv' := [(0, .int (nI (2 ^ (n - 8) - 1))), (1, .int (nI (1 + (t + 8))))]) hx hb d_I_numberOfTrailingZeros_48 rfl hl (by decide) rfl (fun ls hl => ?_)
              exact k49 (n - 8, t + 8) ls ⟨by show 1 ≤ n - 8; omega, by show n - 8 + (t + 8) = q; omega, by show n - 8 ≤ _; omega⟩ (lv_sub hl [0, 1] rfl)
          · refine lv_iconst (v := (nI (1 + 0))) hx hb d_I_numberOfTrailingZeros_17 (by decide) ?_
            refine lv_istore_n (lv' := [(1, .int (nI (1 + 0))), (0, .int (nI (2 ^ q - 1)))]) hx hb d_I_numberOfTrailingZeros_18 rfl hl (by decide) rfl (fun ls hl => ?_)
            have u1 := hq0
            have u2 : q + 0 = q := rfl
            have u3 : q ≤ 31 := hq31
            have u4 := hqb
            refine lv_iload_n hx hb d_I_numberOfTrailingZeros_19 rfl (lv_at hl 1 rfl) ?_
            refine lv_ldcw (v := 65536) hx hb hown (hts (.constant R_I 264 65536) (by decide +kernel)) d_I_numberOfTrailingZeros_20 ?_
            refine lv_icmp_le (tgt := 34) hx hb d_I_numberOfTrailingZeros_23 (by decide) (fun c6 => ?_) (fun c6 => ?_)
            · have hlt : q ≤ 16 := (ts_leb (a := q) (b := 16) (by decide)).mp ((nI_leI (b := 65536) (by omega) (by decide)).mp c6)
              exact k34 (q, 0) ls ⟨u1, u2, hlt⟩ (lv_sub hl [1, 0] rfl)
            · have hge : 16 < q := Nat.lt_of_not_le (fun z => c6 ((nI_leI (b := 65536) (by omega) (by decide)).mpr ((ts_leb (a := q) (b := 16) (by decide)).mpr z)))
              refine lv_iinc (v := (nI (1 + (0 + 16)))) (lv' := [(1, .int (nI (1 + (0 + 16)))), (0, .int (nI (2 ^ q - 1)))]) hx hb d_I_numberOfTrailingZeros_26 hl (k := 0) rfl ((nI_add _ 16).trans (congrArg nI (by omega))) (by decide) rfl (fun ls hl => ?_)
              refine lv_iload_n hx hb d_I_numberOfTrailingZeros_29 rfl (lv_at hl 1 rfl) ?_
              refine lv_bipush (v := (nI 16)) hx hb d_I_numberOfTrailingZeros_30 (by decide) ?_
              refine lv_iushr hx hb d_I_numberOfTrailingZeros_32 rfl ?_
              refine lv_topi (fun z7 e_z7 => ?_)
              obtain rfl : z7 = (nI (2 ^ (q - 16) - 1)) := e_z7.trans ((ts_ush (2 ^ q - 1) 16 u4 (by decide)).trans (congrArg nI (ts_m1d (by omega))))
              refine lv_istore_n (lv' := [(0, .int (nI (2 ^ (q - 16) - 1))), (1, .int (nI (1 + (0 + 16))))]) hx hb d_I_numberOfTrailingZeros_33 rfl hl (by decide) rfl (fun ls hl => ?_)
              exact k34 (q - 16, 0 + 16) ls ⟨by show 1 ≤ q - 16; omega, by show q - 16 + (0 + 16) = q; omega, by show q - 16 ≤ _; omega⟩ (lv_sub hl [0, 1] rfl)
  · have h0 : q = 0 := by
      rcases Nat.eq_zero_or_pos q with h1 | h1
      · exact h1
      · have h2 : 2 ^ 1 ≤ 2 ^ q := Nat.pow_le_pow_right (by decide) h1
        exact absurd (nI_lt (a := 0) (b := 2 ^ q - 1) (by omega) hqb) c4
    refine lv_iload_n hx hb d_I_numberOfTrailingZeros_12 rfl (lv_at hl 0 rfl) ?_
    refine lv_bipush (v := 32) hx hb d_I_numberOfTrailingZeros_13 (by decide) ?_
    refine lv_iand hx hb d_I_numberOfTrailingZeros_15 ?_
    refine lv_topi (fun z5 e_z5 => ?_)
    exact W.iret (v := z5) hx hb hr (fun t ht hW => ts_ret (u := ()) hP hD hK hS ⟨q, hq, hq31, by rw [e_z5, h0]; rfl⟩ ht hW) hS.2.2 d_I_numberOfTrailingZeros_16

