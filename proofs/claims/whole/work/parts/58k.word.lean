section TSLAW
variable {p : Program} {l : Launch} {e : Env} {s : State} {m : MethodId} {below : List Frame} {meth : Method} {c : Code} {b L : Nat} {xs : Nat → Int32} {D : va_G} {cL cA cI cZ : ClassId} {o sA : Nat} {w a : Nat → Nat} {h pa ba ou : Nat} {f : Nat → Nat → Int64} {th : Int32} {P B : Nat → Int32} {g : Nat → Int64} {V : Nat → Int} {H : Heap} {locs : List Loc} {ls : Array Slot} {n : Nat}

set_option maxHeartbeats 8000000 in
set_option maxRecDepth 100000 in
theorem law_word (hl0 : l.stackTraces = false) (hL : L ≤ 4608) (C0 : lw_At p s m meth c b L xs) (hK : va_K D vwCl (ts_ty cL cA cI cZ) s) (hKL : ts_KL (fun q : Nat => s.heap.size ≤ q) s) (hn : 9 * n + 9 ≤ L) (hT : ts_TS f V) (hM : ts_MS P B V) (hB : ts_bn n V) (hP : va_P D vwCl (ts_lw cL cA cI cZ o sA w a h pa ba ou f th P B g) H) (hD : va_D (fun q : Nat => s.heap.size ≤ q) (ts_lw cL cA cI cZ o sA w a h pa ba ou f th P B g)) (hS : va_S (fun q : Nat => s.heap.size ≤ q) s.heap H locs) (hl : lv_has ls 8 [(4, .int (nI (9 * n))), (0, .ref b), (1, .ref o), (2, .ref h), (3, .ref ou)])
    (kk : ∀ (f' : Nat → Nat → Int64) (th' : Int32) (P' B' : Nat → Int32) (g' : Nat → Int64) (V' : Nat → Int) (H : Heap) (locs : List Loc) (ls : Array Slot), ts_TS f' V' → ts_MS P' B' V' → ts_bn (n + 1) V' → va_P D vwCl (ts_lw cL cA cI cZ o sA w a h pa ba ou f' th' P' B' g') H → va_D (fun q : Nat => s.heap.size ≤ q) (ts_lw cL cA cI cZ o sA w a h pa ba ou f' th' P' B' g') → va_S (fun q : Nat => s.heap.size ≤ q) s.heap H locs → lv_has ls 8 [(4, .int (nI (9 * n))), (0, .ref b), (1, .ref o), (2, .ref h), (3, .ref ou)] → W p l e room_1 s m #[Value.ref b] below meth c H locs (28 + (n + 1)) (4637 + 6 * (n + 1)) (lw_Z below #[Value.ref b] s) (F0 m 883 ls [])) :
    W p l e room_1 s m #[Value.ref b] below meth c H locs (28 + n) (4637 + 6 * n) (lw_Z below #[Value.ref b] s) (F0 m 816 ls []) := by
  obtain ⟨hx, hb, hr, hml, hown, hts, hX, hbl, hlocks, hgv⟩ := C0
  have hown : s.vm.findClass R_L = some m.cls := hown
  have hA : ∀ q : Nat, s.heap.size ≤ q → (fun q : Nat => s.heap.size ≤ q) q := fun _ h => h
  have hbA : ¬ (fun q : Nat => s.heap.size ≤ q) b := Nat.not_le.mpr hbl
  have hcap : 28 + n + 1 ≤ room_1.cells ∧ 4637 + 6 * n + 6 ≤ room_1.slots := ⟨by show 28 + n + 1 ≤ 601024; omega, by show 4637 + 6 * n + 6 ≤ 7293033; omega⟩
  have hn5 : n ≤ 512 := by omega
  refine lv_aload_n hx hb d_L_law_816 rfl (lv_at hl 2 rfl) ?_
  refine lv_aload_n hx hb d_L_law_817 rfl (lv_at hl 1 rfl) ?_
  refine lv_iload hx hb d_L_law_818 (lv_at hl 0 rfl) ?_
  refine lv_iconst (v := 1) hx hb d_L_law_820 (by decide) ?_
  refine lv_iadd hx hb d_L_law_821 ?_
  refine lv_topi (fun z1 e_z1 => ?_)
  obtain rfl : z1 = (nI (9 * n + 1)) := e_z1.trans (nI_add (9 * n) 1)
  refine va_sld hx hb hX hbl hbA hS (vp_in_nI (by omega) (by omega)) d_L_law_822 ?_
  refine lv_topi (fun z2 e_z2 => ?_)
  obtain rfl : z2 = (xs (9 * n + 1)) := e_z2.trans (by rw [nI_clamp (n := 9 * n + 1) (by omega)])
  refine lv_aload_n hx hb d_L_law_823 rfl (lv_at hl 1 rfl) ?_
  refine lv_iload hx hb d_L_law_824 (lv_at hl 0 rfl) ?_
  refine lv_iconst (v := 2) hx hb d_L_law_826 (by decide) ?_
  refine lv_iadd hx hb d_L_law_827 ?_
  refine lv_topi (fun z3 e_z3 => ?_)
  obtain rfl : z3 = (nI (9 * n + 2)) := e_z3.trans (nI_add (9 * n) 2)
  refine va_sld hx hb hX hbl hbA hS (vp_in_nI (by omega) (by omega)) d_L_law_828 ?_
  refine lv_topi (fun z4 e_z4 => ?_)
  obtain rfl : z4 = (xs (9 * n + 2)) := e_z4.trans (by rw [nI_clamp (n := 9 * n + 2) (by omega)])
  refine lv_aload_n hx hb d_L_law_829 rfl (lv_at hl 4 rfl) ?_
  refine ts_callHO (rest := []) ⟨hx, hb, hml, hown, hts⟩ (c_L_word l hl0 D cL cA cI cZ o sA w a f ou g (xs (9 * n + 1)) (xs (9 * n + 2)) V hT (hB.l hn5) _) (vx_cwSW 4 hts g_law_L_word rfl rfl rfl (by decide +kernel) ⟨Nat.le_of_ble_eq_true rfl, Nat.le_of_ble_eq_true rfl⟩) hK hKL hP hD hS hA hl.1 rfl rfl (Nat.le_of_ble_eq_true rfl) d_L_law_830 hcap (fun v u1 H locs hw hP hD hS => ?_)
  obtain ⟨k, rfl, hw⟩ := hw
  have hP : va_P D vwCl (ts_lw cL cA cI cZ o sA w a h pa ba ou u1.1 th P B u1.2) H := hP
  have hD : va_D (fun q : Nat => s.heap.size ≤ q) (ts_lw cL cA cI cZ o sA w a h pa ba ou u1.1 th P B u1.2) := hD
  show W _ _ _ _ _ _ _ _ _ _ _ _ _ _ _ (F0 m 833 ls [.int k])
  refine lv_istore (lv' := [(5, .int k), (4, .int (nI (9 * n))), (0, .ref b), (1, .ref o), (2, .ref h), (3, .ref ou)]) hx hb d_L_law_833 hl (by decide) rfl (fun ls hl => ?_)
  obtain ⟨hw, hT1⟩ := hw
  refine lv_aload_n hx hb d_L_law_835 rfl (lv_at hl 4 rfl) ?_
  refine lv_aload_n hx hb d_L_law_836 rfl (lv_at hl 2 rfl) ?_
  refine lv_iload hx hb d_L_law_837 (lv_at hl 1 rfl) ?_
  refine lv_iconst (v := 1) hx hb d_L_law_839 (by decide) ?_
  refine lv_iadd hx hb d_L_law_840 ?_
  refine lv_topi (fun z5 e_z5 => ?_)
  obtain rfl : z5 = (nI (9 * n + 1)) := e_z5.trans (nI_add (9 * n) 1)
  refine va_sld hx hb hX hbl hbA hS (vp_in_nI (by omega) (by omega)) d_L_law_841 ?_
  refine lv_topi (fun z6 e_z6 => ?_)
  obtain rfl : z6 = (xs (9 * n + 1)) := e_z6.trans (by rw [nI_clamp (n := 9 * n + 1) (by omega)])
  refine lv_aload_n hx hb d_L_law_842 rfl (lv_at hl 2 rfl) ?_
  refine lv_iload hx hb d_L_law_843 (lv_at hl 1 rfl) ?_
  refine lv_iconst (v := 2) hx hb d_L_law_845 (by decide) ?_
  refine lv_iadd hx hb d_L_law_846 ?_
  refine lv_topi (fun z7 e_z7 => ?_)
  obtain rfl : z7 = (nI (9 * n + 2)) := e_z7.trans (nI_add (9 * n) 2)
  refine va_sld hx hb hX hbl hbA hS (vp_in_nI (by omega) (by omega)) d_L_law_847 ?_
  refine lv_topi (fun z8 e_z8 => ?_)
  obtain rfl : z8 = (xs (9 * n + 2)) := e_z8.trans (by rw [nI_clamp (n := 9 * n + 2) (by omega)])
  refine ts_callMo (rest := []) (gt := fun (u : Int32) => u) (gP := fun (_ : Int32) => P) (gB := fun (_ : Int32) => B) ⟨hx, hb, hml, hown, hts⟩ (c_M_word l D cL cA cI cZ h pa ba th P B V hM (xs (9 * n + 1)) (xs (9 * n + 2)) _) (cwV 2 hts g_law_M_word rfl rfl rfl (by decide +kernel) ⟨Nat.le_of_ble_eq_true rfl, Nat.le_of_ble_eq_true rfl⟩) hK hP hD hS hA hl.1 rfl rfl (Nat.le_of_ble_eq_true rfl) d_L_law_848 hcap (fun v um H locs hm hP hD hS => ?_)
  obtain ⟨z, rfl, hm⟩ := hm
  have hP : va_P D vwCl (ts_lw cL cA cI cZ o sA w a h pa ba ou u1.1 um P B u1.2) H := hP
  have hD : va_D (fun q : Nat => s.heap.size ≤ q) (ts_lw cL cA cI cZ o sA w a h pa ba ou u1.1 um P B u1.2) := hD
  show W _ _ _ _ _ _ _ _ _ _ _ _ _ _ _ (F0 m 851 ls [.long z])
  refine lv_lstore (lv' := [(6, .long z), (5, .int k), (4, .int (nI (9 * n))), (0, .ref b), (1, .ref o), (2, .ref h), (3, .ref ou)]) hx hb d_L_law_851 hl (by decide) rfl (fun ls hl => ?_)
  have hj := ts_j1 (PB := True) (QB := True) (hw.imp id (fun q => ⟨q.1, q.2, trivial⟩)) (hm.imp id (fun q => ⟨q.1, q.2, trivial⟩))
  have hth : um = k := by rcases hj with ⟨r, -, e1, e2, -⟩ | ⟨e1, e2, -⟩ <;> rw [e1, e2]
  have hk0 : k = 0 → u1.2 0 = z := by
    intro hk
    rcases hj with ⟨r, -, -, -, h1, h2⟩ | ⟨e1, -⟩
    · exact h1.uniq h2
    · rw [hk] at e1; exact absurd e1 (by decide +kernel)
  refine lv_aload_n hx hb d_L_law_853 rfl (lv_at hl 5 rfl) ?_
  refine ts_callMo (rest := []) (gt := fun (_ : Unit) => um) (gP := fun (_ : Unit) => P) (gB := fun (_ : Unit) => B) ⟨hx, hb, hml, hown, hts⟩ (c_M_thrown l D cL cA cI cZ h pa ba um P B _) (cwV 0 hts g_law_M_thrown rfl rfl rfl (by decide +kernel) ⟨Nat.le_of_ble_eq_true rfl, Nat.le_of_ble_eq_true rfl⟩) hK hP hD hS hA hl.1 rfl rfl (Nat.le_of_ble_eq_true rfl) d_L_law_854 hcap (fun v _u H locs hm hP hD hS => ?_)
  obtain rfl := hm
  have hP : va_P D vwCl (ts_lw cL cA cI cZ o sA w a h pa ba ou u1.1 um P B u1.2) H := hP
  have hD : va_D (fun q : Nat => s.heap.size ≤ q) (ts_lw cL cA cI cZ o sA w a h pa ba ou u1.1 um P B u1.2) := hD
  show W _ _ _ _ _ _ _ _ _ _ _ _ _ _ _ (F0 m 857 ls [.int um])
  refine lv_iload hx hb d_L_law_857 (lv_at hl 1 rfl) ?_
  refine lv_icmp_eq (tgt := 864) hx hb d_L_law_859 (by decide) (fun c9 => ?_) (fun c9 => ?_)
  · refine lv_iload hx hb d_L_law_864 (lv_at hl 1 rfl) ?_
    refine lv_if_ne (tgt := 880) hx hb d_L_law_866 (by decide) (fun c10 => ?_) (fun c10 => ?_)
    · refine lv_goto (tgt := 883) hx hb d_L_law_880 (by decide) ?_
      refine W.widen (k := 28 + (n + 1)) (n := 4637 + 6 * (n + 1)) (by omega) (by omega) ?_
      exact kk (u1.1) (um) (P) (B) (u1.2) V _ _ ls hT1 hM hB.s hP hD hS (lv_sub hl [2, 3, 4, 5, 6] rfl)
    · have hval := hk0 c10
      refine lv_aload_n hx hb d_L_law_869 rfl (lv_at hl 6 rfl) ?_
      refine lv_iconst (v := (nI 0)) hx hb d_L_law_870 (by decide) ?_
      refine va_lald (D := D) hx hb hK hP 27 0 rfl rfl (vp_in_nI (by decide) (by decide)) d_L_law_871 ?_
      refine lv_topl (fun z11 e_z11 => ?_)
      obtain rfl : z11 = (u1.2 0) := e_z11.trans (by rw [nI_clamp (n := 0) (by decide)])
      refine lv_lload hx hb d_L_law_872 (lv_at hl 0 rfl) ?_
      refine W.lcmp hx hb d_L_law_874 ?_
      refine lv_if_eq (tgt := 880) hx hb d_L_law_875 (by decide) (fun c12 => ?_) (fun c12 => ?_)
      · refine lv_goto (tgt := 883) hx hb d_L_law_880 (by decide) ?_
        refine W.widen (k := 28 + (n + 1)) (n := 4637 + 6 * (n + 1)) (by omega) (by omega) ?_
        exact kk (u1.1) (um) (P) (B) (u1.2) V _ _ ls hT1 hM hB.s hP hD hS (lv_sub hl [2, 3, 4, 5, 6] rfl)
      · exact absurd ((lg_cmp_eq _ _).mpr (hval)) c12
  · exact absurd (hth) c9

end TSLAW
