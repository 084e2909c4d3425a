set_option maxHeartbeats 4000000 in
set_option maxRecDepth 100000 in
theorem c_T_nearest (l : Launch) (D : va_G) (cL cA cI cZ : ClassId) (o sA : Nat) (w a : Nat → Nat) (f : Nat → Nat → Int64) (r : Nat) (x : Int) (hr8 : r < 8) (hR : ts_R (f r) x) (hxb : x.natAbs < ts_K) (sz : Nat) : Met l y_T_nearest w_T_nearest (ts_rm 8) (va_Pc [.ref o, .int (nI r)] (ts_A D vwCl (ts_ty cL cA cI cZ) (ts_w cL cA o sA w a f) sz)) (ts_Q (fun (v : Option Value) (u : Nat → Nat → Int64) => v = some (.long (ts_near x)) ∧ ∀ i, i ≠ 10 → u i = f i) (fun u => ts_B D vwCl (ts_ty cL cA cI cZ) (va_A (ts_w cL cA o sA w a f) sz) (ts_w cL cA o sA w a u)) (va_A (ts_w cL cA o sA w a f) sz)) 0 0 (va_A (ts_w cL cA o sA w a f) sz) := by
  refine ts_met (cc := b_T_nearest) (maxL := 5) (ret := (some .long)) (by decide) rfl (Nat.le_of_ble_eq_true rfl) ?_
  intro p e s m below meth c hx hb hr hml hown hts hlocks hname A hA hAe hK hP hD hS hsz ls hl
  have hown : s.vm.findClass R_T = some m.cls := hown
  have hl : lv_has ls 5 [(0, .ref o), (1, .int (nI r))] := hl
  have hP : va_P D vwCl (ts_w cL cA o sA w a f) s.heap := hP
  have hD : va_D A (ts_w cL cA o sA w a f) := hD
  refine lv_aload_n hx hb d_T_nearest_0 rfl (lv_at hl 0 rfl) ?_
  refine lv_iload_n hx hb d_T_nearest_1 rfl (lv_at hl 1 rfl) ?_
  refine ts_callTT (rest := []) (g := fun _ => f) ⟨hx, hb, hml, hown, hts⟩ (c_T_sumAt l D cL cA cI cZ o sA w a f r hr8 _) (cwV 1 hts g_T_nearest_T_sumAt rfl rfl rfl (by decide +kernel) ⟨Nat.le_of_ble_eq_true rfl, Nat.le_of_ble_eq_true rfl⟩) hK hP hD hS hA hl.1 rfl rfl (Nat.le_of_ble_eq_true rfl) d_T_nearest_2 ⟨Nat.zero_le _, Nat.zero_le _⟩ (fun v u H locs hw hP hD hS => ?_)
  obtain rfl := hw
  show W _ _ _ _ _ _ _ _ _ _ _ _ _ _ _ (F0 m 5 ls [.ref (w r)])
  refine lv_astore_n (lv' := [(2, .ref (w r)), (0, .ref o), (1, .int (nI r))]) hx hb d_T_nearest_5 rfl hl (by decide) rfl (fun ls hl => ?_)
  refine lv_aload_n hx hb d_T_nearest_6 rfl (lv_at hl 0 rfl) ?_
  refine ts_callT1 (rest := []) (g := fun _ => f r) r (by omega) ⟨hx, hb, hml, hown, hts⟩ (c_W_signum l D cL cA cI cZ (w r) (a r) (f r) x hR _) (cwV 0 hts g_T_nearest_W_signum rfl rfl rfl (by decide +kernel) ⟨Nat.le_of_ble_eq_true rfl, Nat.le_of_ble_eq_true rfl⟩) hK hP hD hS hA hl.1 rfl rfl (Nat.le_of_ble_eq_true rfl) d_T_nearest_7 ⟨Nat.zero_le _, Nat.zero_le _⟩ (fun v _u H locs hw hP hD hS => ?_)
  have hP : va_P D vwCl (ts_w cL cA o sA w a f) H := by rw [ts_up_id] at hP; exact hP
  have hD : va_D A (ts_w cL cA o sA w a f) := by rw [ts_up_id] at hD; exact hD
  obtain rfl := hw
  show W _ _ _ _ _ _ _ _ _ _ _ _ _ _ _ (F0 m 10 ls [.int (ts_sg x)])
  refine ts_cut 21 [] (nL := 5) (fun (q : Int64) => q = if x < 0 then (-9223372036854775808) else 0) (fun (q : Int64) => [(3, .long q), (2, .ref (w r)), (0, .ref o), (1, .int (nI r))]) (fun q ls hq hl => ?_) (fun kk => ?_)
  · have hl : lv_has ls 5 [(3, .long q), (2, .ref (w r)), (0, .ref o), (1, .int (nI r))] := hl
    refine lv_lload_n hx hb d_T_nearest_21 rfl (lv_at hl 0 rfl) ?_
    refine lv_aload_n hx hb d_T_nearest_22 rfl (lv_at hl 2 rfl) ?_
    refine lv_aload_n hx hb d_T_nearest_23 rfl (lv_at hl 1 rfl) ?_
    refine ts_callTT (rest := [.long q]) (g := fun u => u) ⟨hx, hb, hml, hown, hts⟩ (c_T_sizeOf l D cL cA cI cZ o sA w a f r x (by omega) hR hxb _) (cwV 1 hts g_T_nearest_T_sizeOf rfl rfl rfl (by decide +kernel) ⟨Nat.le_of_ble_eq_true rfl, Nat.le_of_ble_eq_true rfl⟩) hK hP hD hS hA hl.1 rfl rfl (Nat.le_of_ble_eq_true rfl) d_T_nearest_24 ⟨Nat.zero_le _, Nat.zero_le _⟩ (fun v fa H locs hw hP hD hS => ?_)
    obtain ⟨rfl, hw1, hw2⟩ := hw
    show W _ _ _ _ _ _ _ _ _ _ _ _ _ _ _ (F0 m 27 ls [.ref (w 10), .long q])
    have hn := hw2.nat
    refine ts_callS (rest := [.long q]) ⟨hx, hb, hml, hown, hts⟩ (c_T_nearestToSize l D cL cA cI cZ (w 10) (a 10) (fa 10) hw2.1 _) (va_cwS 1 hts g_T_nearest_T_nearestToSize rfl rfl rfl (by decide +kernel) ⟨Nat.le_of_ble_eq_true rfl, Nat.le_of_ble_eq_true rfl⟩) hK hP hD hS hA hl.1 [22, 23] (by decide) rfl (fun u => rfl) rfl rfl (Nat.le_of_ble_eq_true rfl) d_T_nearest_27 ⟨Nat.zero_le _, Nat.zero_le _⟩ (fun v u H locs hw hP hD hS => ?_)
    have hP : va_P D vwCl (ts_w cL cA o sA w a fa) H := hP
    have hD : va_D A (ts_w cL cA o sA w a fa) := hD
    obtain rfl := hw
    show W _ _ _ _ _ _ _ _ _ _ _ _ _ _ _ (F0 m 30 ls [.long (lN (ts_ns (ts_n (fa 10)))), .long q])
    refine lv_lor hx hb d_T_nearest_30 ?_
    refine lv_topl (fun z2 e_z2 => ?_)
    have hz : z2 = ts_near x := by rw [e_z2, hq, hn]; rfl
    exact W.lret (v := z2) hx hb hr (fun t ht hW => ts_ret (u := fa) hP hD hK hS ⟨by rw [hz], hw1⟩ ht hW) hS.2.2 d_T_nearest_31
  · refine lv_if_ge (tgt := 19) hx hb d_T_nearest_10 (by decide) (fun c1 => ?_) (fun c1 => ?_)
    · have hge : ¬ x < 0 := fun z => by rw [ts_sg_neg z] at c1; exact absurd c1 (by decide +kernel)
      refine lv_lconst (v := 0) hx hb d_T_nearest_19 (by decide) ?_
      refine lv_lstore_n (lv' := [(3, .long 0), (2, .ref (w r)), (0, .ref o), (1, .int (nI r))]) hx hb d_T_nearest_20 rfl hl (by decide) rfl (fun ls hl => ?_)
      exact kk 0 ls (by rw [if_neg hge]) (lv_sub hl [0, 1, 2, 3] rfl)
    · have hlt : x < 0 := by
        by_cases z : x < 0
        · exact z
        · exact absurd (ts_sg_pos z) c1
      refine lv_ldc2 (v := (-9223372036854775808)) hx hb hown (hts (.constantLong R_T 83 (-9223372036854775808)) (by decide +kernel)) d_T_nearest_13 ?_
      refine lv_goto (tgt := 20) hx hb d_T_nearest_16 (by decide) ?_
      refine lv_lstore_n (lv' := [(3, .long (-9223372036854775808)), (2, .ref (w r)), (0, .ref o), (1, .int (nI r))]) hx hb d_T_nearest_20 rfl hl (by decide) rfl (fun ls hl => ?_)
      exact kk (-9223372036854775808) ls (by rw [if_pos hlt]) (lv_sub hl [0, 1, 2, 3] rfl)

