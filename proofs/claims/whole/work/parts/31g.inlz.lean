set_option maxHeartbeats 4000000 in
set_option maxRecDepth 100000 in
theorem c_I_nlz (l : Launch) (D : va_G) (cL cA cI cZ : ClassId) (k : Nat) (hk0 : 0 < k) (hk : k < 2 ^ 32) (sz : Nat) : Met l y_I_numberOfLeadingZeros w_I_numberOfLeadingZeros (ts_rm 1) (va_Pc [.int (nI k)] (ts_A D vwCl (ts_ty cL cA cI cZ) [] sz)) (ts_Q (fun (v : Option Value) (u : Unit) => ∃ q : Nat, ts_Top k q ∧ q ≤ 31 ∧ v = some (.int (nI (31 - q)))) (fun u => ts_B D vwCl (ts_ty cL cA cI cZ) (va_A [] sz) (([] : va_W))) (va_A [] sz)) 0 0 (va_A [] sz) := by
  refine ts_met (cc := b_I_numberOfLeadingZeros) (maxL := 2) (ret := (some .int)) (by decide) rfl (Nat.le_of_ble_eq_true rfl) ?_
  intro p e s m below meth c hx hb hr hml hown hts hlocks hname A hA hAe hK hP hD hS hsz ls hl
  have hown : s.vm.findClass R_I = some m.cls := hown
  have hl : lv_has ls 2 [(0, .int (nI k))] := hl
  have hP : va_P D vwCl [] s.heap := hP
  have hD : va_D A [] := hD
  have hq := ts_Top.of (n := k) (by omega)
  generalize k.log2 = q at hq
  have hq32 : q < 32 := hq.lt_of hk
  refine lv_iload_n hx hb d_I_numberOfLeadingZeros_0 rfl (lv_at hl 0 rfl) ?_
  refine lv_if_gt (tgt := 15) hx hb d_I_numberOfLeadingZeros_1 (by decide) (fun c1 => ?_) (fun c1 => ?_)
  · have hk31 : k < 2 ^ 31 := by
      rcases Nat.lt_or_ge k (2 ^ 31) with h1 | h1
      · exact h1
      · exact absurd c1 (ts_nIneg h1 hk)
    refine ts_cut 73 [] (nL := 2) (fun (u : Nat × Nat) => ts_Top u.1 (q - u.2) ∧ u.2 ≤ q ∧ q - u.2 < 2 ∧ u.1 < 2 ^ 31) (fun (u : Nat × Nat) => [(0, .int (nI u.1)), (1, .int (nI (31 - u.2)))]) (fun u ls hu hl => ?_) (fun k73 => ?_)
    · obtain ⟨n, e⟩ := u
      obtain ⟨u1, u2, u3, u4⟩ := hu
      have u1 : ts_Top n (q - e) := u1
      have u2 : e ≤ q := u2
      have u3 : q - e < 2 := u3
      have u4 : n < 2 ^ 31 := u4
      have hl : lv_has ls 2 [(0, .int (nI n)), (1, .int (nI (31 - e)))] := hl
      refine lv_iload_n hx hb d_I_numberOfLeadingZeros_73 rfl (lv_at hl 1 rfl) ?_
      refine lv_iload_n hx hb d_I_numberOfLeadingZeros_74 rfl (lv_at hl 0 rfl) ?_
      refine lv_iconst (v := (nI 1)) hx hb d_I_numberOfLeadingZeros_75 (by decide) ?_
      refine lv_iushr hx hb d_I_numberOfLeadingZeros_76 rfl ?_
      refine lv_topi (fun z11 e_z11 => ?_)
      obtain rfl : z11 = (nI (n / 2 ^ 1)) := e_z11.trans (ts_ush n 1 u4 (by decide))
      refine lv_isub hx hb d_I_numberOfLeadingZeros_77 ?_
      refine lv_topi (fun z12 e_z12 => ?_)
      have hz : z12 = nI (31 - q) := by
        have h2 := ts_u2 u1 u3
        rw [e_z12, show n / 2 ^ 1 = q - e from h2, pk_sub (by omega)]; congr 1; omega
      exact W.iret (v := z12) hx hb hr (fun t ht hW => ts_ret (u := ()) hP hD hK hS ⟨q, hq, by omega, by rw [hz]⟩ ht hW) hS.2.2 d_I_numberOfLeadingZeros_78
    · refine ts_cut 61 [] (nL := 2) (fun (u : Nat × Nat) => ts_Top u.1 (q - u.2) ∧ u.2 ≤ q ∧ q - u.2 < 4 ∧ u.1 < 2 ^ 31) (fun (u : Nat × Nat) => [(0, .int (nI u.1)), (1, .int (nI (31 - u.2)))]) (fun u ls hu hl => ?_) (fun k61 => ?_)
      · obtain ⟨n, e⟩ := u
        obtain ⟨u1, u2, u3, u4⟩ := hu
        have u1 : ts_Top n (q - e) := u1
        have u2 : e ≤ q := u2
        have u3 : q - e < 4 := u3
        have u4 : n < 2 ^ 31 := u4
        have hl : lv_has ls 2 [(0, .int (nI n)), (1, .int (nI (31 - e)))] := hl
        refine lv_iload_n hx hb d_I_numberOfLeadingZeros_61 rfl (lv_at hl 0 rfl) ?_
        refine lv_iconst (v := 4) hx hb d_I_numberOfLeadingZeros_62 (by decide) ?_
        refine lv_icmp_lt (tgt := 73) hx hb d_I_numberOfLeadingZeros_63 (by decide) (fun c9 => ?_) (fun c9 => ?_)
        · have hlt : n < 2 ^ 2 := (nI_ltI (b := 4) (by omega) (by decide)).mp c9
          exact k73 (n, e) ls ⟨u1, u2, u1.lt_of hlt, u4⟩ (lv_sub hl [0, 1] rfl)
        · have hge : 2 ^ 2 ≤ n := Nat.le_of_not_lt (fun z => c9 ((nI_ltI (b := 4) (by omega) (by decide)).mpr z))
          have h16 := u1.ge_of hge
          refine lv_iinc (v := (nI (31 - (e + 2)))) (lv' := [(1, .int (nI (31 - (e + 2)))), (0, .int (nI n))]) hx hb d_I_numberOfLeadingZeros_66 hl (k := 1) rfl (ts_nIm (a := e) (b := 2) (by omega)) (by decide) rfl (fun ls hl => ?_)
          refine lv_iload_n hx hb d_I_numberOfLeadingZeros_69 rfl (lv_at hl 1 rfl) ?_
          refine lv_iconst (v := (nI 2)) hx hb d_I_numberOfLeadingZeros_70 (by decide) ?_
          refine lv_iushr hx hb d_I_numberOfLeadingZeros_71 rfl ?_
          refine lv_topi (fun z10 e_z10 => ?_)
          obtain rfl : z10 = (nI (n / 2 ^ 2)) := e_z10.trans (ts_ush n 2 u4 (by decide))
          refine lv_istore_n (lv' := [(0, .int (nI (n / 2 ^ 2))), (1, .int (nI (31 - (e + 2))))]) hx hb d_I_numberOfLeadingZeros_72 rfl hl (by decide) rfl (fun ls hl => ?_)
          have hdv : n / 2 ^ 2 ≤ n := Nat.div_le_self _ _
          have htp := u1.shr h16
          rw [show q - e - 2 = q - (e + 2) by omega] at htp
          exact k73 (n / 2 ^ 2, e + 2) ls ⟨htp, by show e + 2 ≤ q; omega, by show q - (e + 2) < _; omega, by show n / 2 ^ 2 < 2 ^ 31; omega⟩ (lv_sub hl [0, 1] rfl)
      · refine ts_cut 48 [] (nL := 2) (fun (u : Nat × Nat) => ts_Top u.1 (q - u.2) ∧ u.2 ≤ q ∧ q - u.2 < 8 ∧ u.1 < 2 ^ 31) (fun (u : Nat × Nat) => [(0, .int (nI u.1)), (1, .int (nI (31 - u.2)))]) (fun u ls hu hl => ?_) (fun k48 => ?_)
        · obtain ⟨n, e⟩ := u
          obtain ⟨u1, u2, u3, u4⟩ := hu
          have u1 : ts_Top n (q - e) := u1
          have u2 : e ≤ q := u2
          have u3 : q - e < 8 := u3
          have u4 : n < 2 ^ 31 := u4
          have hl : lv_has ls 2 [(0, .int (nI n)), (1, .int (nI (31 - e)))] := hl
          refine lv_iload_n hx hb d_I_numberOfLeadingZeros_48 rfl (lv_at hl 0 rfl) ?_
          refine lv_bipush (v := 16) hx hb d_I_numberOfLeadingZeros_49 (by decide) ?_
          refine lv_icmp_lt (tgt := 61) hx hb d_I_numberOfLeadingZeros_51 (by decide) (fun c7 => ?_) (fun c7 => ?_)
          · have hlt : n < 2 ^ 4 := (nI_ltI (b := 16) (by omega) (by decide)).mp c7
            exact k61 (n, e) ls ⟨u1, u2, u1.lt_of hlt, u4⟩ (lv_sub hl [0, 1] rfl)
          · have hge : 2 ^ 4 ≤ n := Nat.le_of_not_lt (fun z => c7 ((nI_ltI (b := 16) (by omega) (by decide)).mpr z))
            have h16 := u1.ge_of hge
            refine lv_iinc (v := (nI (31 - (e + 4)))) (lv' := [(1, .int (nI (31 - (e + 4)))), (0, .int (nI n))]) hx hb d_I_numberOfLeadingZeros_54 hl (k := 1) rfl (ts_nIm (a := e) (b := 4) (by omega)) (by decide) rfl (fun ls hl => ?_)
            refine lv_iload_n hx hb d_I_numberOfLeadingZeros_57 rfl (lv_at hl 1 rfl) ?_
            refine lv_iconst (v := (nI 4)) hx hb d_I_numberOfLeadingZeros_58 (by decide) ?_
            refine lv_iushr hx hb d_I_numberOfLeadingZeros_59 rfl ?_
            refine lv_topi (fun z8 e_z8 => ?_)
            obtain rfl : z8 = (nI (n / 2 ^ 4)) := e_z8.trans (ts_ush n 4 u4 (by decide))
            refine lv_istore_n (lv' := [(0, .int (nI (n / 2 ^ 4))), (1, .int (nI (31 - (e + 4))))]) hx hb d_I_numberOfLeadingZeros_60 rfl hl (by decide) rfl (fun ls hl => ?_)
            have hdv : n / 2 ^ 4 ≤ n := Nat.div_le_self _ _
            have htp := u1.shr h16
            rw [show q - e - 4 = q - (e + 4) by omega] at htp
            exact k61 (n / 2 ^ 4, e + 4) ls ⟨htp, by show e + 4 ≤ q; omega, by show q - (e + 4) < _; omega, by show n / 2 ^ 4 < 2 ^ 31; omega⟩ (lv_sub hl [0, 1] rfl)
        · refine ts_cut 33 [] (nL := 2) (fun (u : Nat × Nat) => ts_Top u.1 (q - u.2) ∧ u.2 ≤ q ∧ q - u.2 < 16 ∧ u.1 < 2 ^ 31) (fun (u : Nat × Nat) => [(0, .int (nI u.1)), (1, .int (nI (31 - u.2)))]) (fun u ls hu hl => ?_) (fun k33 => ?_)
          · obtain ⟨n, e⟩ := u
            obtain ⟨u1, u2, u3, u4⟩ := hu
            have u1 : ts_Top n (q - e) := u1
            have u2 : e ≤ q := u2
            have u3 : q - e < 16 := u3
            have u4 : n < 2 ^ 31 := u4
            have hl : lv_has ls 2 [(0, .int (nI n)), (1, .int (nI (31 - e)))] := hl
            refine lv_iload_n hx hb d_I_numberOfLeadingZeros_33 rfl (lv_at hl 0 rfl) ?_
            refine lv_sipush (v := 256) hx hb d_I_numberOfLeadingZeros_34 (by decide) ?_
            refine lv_icmp_lt (tgt := 48) hx hb d_I_numberOfLeadingZeros_37 (by decide) (fun c5 => ?_) (fun c5 => ?_)
            · have hlt : n < 2 ^ 8 := (nI_ltI (b := 256) (by omega) (by decide)).mp c5
              exact k48 (n, e) ls ⟨u1, u2, u1.lt_of hlt, u4⟩ (lv_sub hl [0, 1] rfl)
            · have hge : 2 ^ 8 ≤ n := Nat.le_of_not_lt (fun z => c5 ((nI_ltI (b := 256) (by omega) (by decide)).mpr z))
              have h16 := u1.ge_of hge
              refine lv_iinc (v := (nI (31 - (e + 8)))) (lv' := [(1, .int (nI (31 - (e + 8)))), (0, .int (nI n))]) hx hb d_I_numberOfLeadingZeros_40 hl (k := 1) rfl (ts_nIm (a := e) (b := 8) (by omega)) (by decide) rfl (fun ls hl => ?_)
              refine lv_iload_n hx hb d_I_numberOfLeadingZeros_43 rfl (lv_at hl 1 rfl) ?_
              refine lv_bipush (v := (nI 8)) hx hb d_I_numberOfLeadingZeros_44 (by decide) ?_
              refine lv_iushr hx hb d_I_numberOfLeadingZeros_46 rfl ?_
              refine lv_topi (fun z6 e_z6 => ?_)
              obtain rfl : z6 = (nI (n / 2 ^ 8)) := e_z6.trans (ts_ush n 8 u4 (by decide))
              refine lv_istore_n (lv' := [(0, .int (nI (n / 2 ^ 8))), (1, .int (nI (31 - (e + 8))))]) hx hb d_I_numberOfLeadingZeros_47 rfl hl (by decide) rfl (fun ls hl => ?_)
              have hdv : n / 2 ^ 8 ≤ n := Nat.div_le_self _ _
              have htp := u1.shr h16
              rw [show q - e - 8 = q - (e + 8) by omega] at htp
              exact k48 (n / 2 ^ 8, e + 8) ls ⟨htp, by show e + 8 ≤ q; omega, by show q - (e + 8) < _; omega, by show n / 2 ^ 8 < 2 ^ 31; omega⟩ (lv_sub hl [0, 1] rfl)
          · refine lv_bipush (v := (nI (31 - 0))) hx hb d_I_numberOfLeadingZeros_15 (by decide) ?_
            refine lv_istore_n (lv' := [(1, .int (nI (31 - 0))), (0, .int (nI k))]) hx hb d_I_numberOfLeadingZeros_17 rfl hl (by decide) rfl (fun ls hl => ?_)
            have u1 : ts_Top k (q - 0) := hq
            have u2 : 0 ≤ q := by omega
            have u3 : q - 0 < 32 := by omega
            have u4 : k < 2 ^ 31 := hk31
            refine lv_iload_n hx hb d_I_numberOfLeadingZeros_18 rfl (lv_at hl 1 rfl) ?_
            refine lv_ldcw (v := 65536) hx hb hown (hts (.constant R_I 264 65536) (by decide +kernel)) d_I_numberOfLeadingZeros_19 ?_
            refine lv_icmp_lt (tgt := 33) hx hb d_I_numberOfLeadingZeros_22 (by decide) (fun c3 => ?_) (fun c3 => ?_)
            · have hlt : k < 2 ^ 16 := (nI_ltI (b := 65536) (by omega) (by decide)).mp c3
              exact k33 (k, 0) ls ⟨u1, u2, u1.lt_of hlt, u4⟩ (lv_sub hl [1, 0] rfl)
            · have hge : 2 ^ 16 ≤ k := Nat.le_of_not_lt (fun z => c3 ((nI_ltI (b := 65536) (by omega) (by decide)).mpr z))
              have h16 := u1.ge_of hge
              refine lv_iinc (v := (nI (31 - (0 + 16)))) (lv' := [(1, .int (nI (31 - (0 + 16)))), (0, .int (nI k))]) hx hb d_I_numberOfLeadingZeros_25 hl (k := 0) rfl (ts_nIm (a := 0) (b := 16) (by omega)) (by decide) rfl (fun ls hl => ?_)
              refine lv_iload_n hx hb d_I_numberOfLeadingZeros_28 rfl (lv_at hl 1 rfl) ?_
              refine lv_bipush (v := (nI 16)) hx hb d_I_numberOfLeadingZeros_29 (by decide) ?_
              refine lv_iushr hx hb d_I_numberOfLeadingZeros_31 rfl ?_
              refine lv_topi (fun z4 e_z4 => ?_)
              obtain rfl : z4 = (nI (k / 2 ^ 16)) := e_z4.trans (ts_ush k 16 u4 (by decide))
              refine lv_istore_n (lv' := [(0, .int (nI (k / 2 ^ 16))), (1, .int (nI (31 - (0 + 16))))]) hx hb d_I_numberOfLeadingZeros_32 rfl hl (by decide) rfl (fun ls hl => ?_)
              have hdv : k / 2 ^ 16 ≤ k := Nat.div_le_self _ _
              have htp := u1.shr h16
              rw [show q - 0 - 16 = q - (0 + 16) by omega] at htp
              exact k33 (k / 2 ^ 16, 0 + 16) ls ⟨htp, by show 0 + 16 ≤ q; omega, by show q - (0 + 16) < _; omega, by show k / 2 ^ 16 < 2 ^ 31; omega⟩ (lv_sub hl [0, 1] rfl)
  · have hbig : 2 ^ 31 ≤ k := by
      rcases Nat.lt_or_ge k (2 ^ 31) with h1 | h1
      · exact absurd (nI_lt (a := 0) hk0 h1) c1
      · exact h1
    have h31 : q = 31 := by have := hq.ge_of hbig; omega
    refine lv_iload_n hx hb d_I_numberOfLeadingZeros_4 rfl (lv_at hl 0 rfl) ?_
    refine lv_if_ne (tgt := 13) hx hb d_I_numberOfLeadingZeros_5 (by decide) (fun c2 => ?_) (fun c2 => ?_)
    · refine lv_iconst (v := 0) hx hb d_I_numberOfLeadingZeros_13 (by decide) ?_
      exact W.iret (v := 0) hx hb hr (fun t ht hW => ts_ret (u := ()) hP hD hK hS ⟨q, hq, by omega, by rw [h31]; rfl⟩ ht hW) hS.2.2 d_I_numberOfLeadingZeros_14
    · exact absurd c2 (ts_nI0 hk0 hk)

