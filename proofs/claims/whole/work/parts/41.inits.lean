set_option maxHeartbeats 4000000 in
set_option maxRecDepth 100000 in
theorem c_W_init (l : Launch) (D : va_G) (cL cA cI cZ : ClassId) (w : Nat) (sz : Nat) : Met l y_W_init w_W_init ({ frames := 1, cells := 1, slots := 200, locals := 36 }) (va_Pc [.ref w] (ts_A D vwCl (ts_ty cL cA cI cZ) [(w, .inr (0, [.null]))] sz)) (ts_Q (fun (v : Option Value) (u : Nat) => v = none) (fun u => ts_B D vwCl (ts_ty cL cA cI cZ) (va_A [(w, .inr (0, [.null]))] sz) ([(w, .inr (0, [.ref u])), (u, .inl (cL, 200, .inr (.inl (fun _ => 0))))])) (va_A [(w, .inr (0, [.null]))] sz)) 1 200 (va_A [(w, .inr (0, [.null]))] sz) := by
  refine ts_met (cc := b_W_init) (maxL := 1) (ret := none) (by decide) rfl (Nat.le_of_ble_eq_true rfl) ?_
  intro p e s m below meth c hx hb hr hml hown hts hlocks hname A hA hAe hK hP hD hS hsz ls hl
  have hown : s.vm.findClass R_W = some m.cls := hown
  have hin : meth.name = "<init>" := hname
  have hl : lv_has ls 1 [(0, .ref w)] := hl
  have hP : va_P D vwCl [(w, .inr (0, [.null]))] s.heap := hP
  have hD : va_D A [(w, .inr (0, [.null]))] := hD
  refine lv_aload_n hx hb d_W_init_0 rfl (lv_at hl 0 rfl) ?_
  refine W.objInit hx hb hown (hts (.methodLink R_W 3 objectInit) (by decide +kernel)) (hts (.instanceMethod objectInit) (by decide +kernel)) (hts _ (List.mem_cons_of_mem _ (List.mem_append_left _ (List.mem_of_getElem? (i := 2) rfl)))) rfl (by rw [hml]; exact hl.1) rfl d_W_init_1 (Nat.le_of_ble_eq_true rfl) (Nat.le_of_ble_eq_true rfl) ?_
  refine W.eq (g2 := F0 m 4 ls []) rfl ?_
  refine lv_aload_n hx hb d_W_init_4 rfl (lv_at hl 0 rfl) ?_
  refine lv_sipush (v := 200) hx hb d_W_init_5 (by decide) ?_
  refine va_newa (D := D) (atype := .long) (ty := .long) (N' := 200) (a0 := (200, (.inr (.inl (fun _ => 0))))) hx hb (hts (.arrayClass .long) (by decide +kernel)) rfl hK hP hD hS hA (fun _ => rfl) (by decide +kernel) (by decide +kernel) (by decide) (Nat.le_of_ble_eq_true rfl) (Nat.le_of_ble_eq_true rfl) d_W_init_8 (fun a c9 H hK9 hP hD hS => ?_)
  have h9 : c9 = cL := ts_Kun (k := 0) hK9 rfl
  rw [h9] at hP hD
  have hP : va_P D vwCl [(w, .inr (0, [.null])), (a, .inl (cL, 200, .inr (.inl (fun _ => 0))))] H := hP
  have hD : va_D A [(w, .inr (0, [.null])), (a, .inl (cL, 200, .inr (.inl (fun _ => 0))))] := hD
  refine va_putF (D := D) (ci := 0) (v := .ref a) (ty := .array .long) (C := R_W) (T := F_W) (N := 1) hx hb hts (by decide +kernel) ft_W ft_W_ok n_W hown hK hP hD hS 0 rfl rfl 0 (by decide) (hts (.fieldLink R_W 9 "TripleSums$Whole" "limbs" "[J") (by decide +kernel)) (fun _ h9 => h9) rfl hin rfl (by decide +kernel) rfl rfl (Nat.le_of_ble_eq_true rfl) d_W_init_10 (fun H locs hP hD hS => ?_)
  have hP : va_P D vwCl [(w, .inr (0, [.ref a])), (a, .inl (cL, 200, .inr (.inl (fun _ => 0))))] H := hP
  have hD : va_D A [(w, .inr (0, [.ref a])), (a, .inl (cL, 200, .inr (.inl (fun _ => 0))))] := hD
  refine W.widen (k := 1) (n := 200) (Nat.le_of_ble_eq_true rfl) (Nat.le_of_ble_eq_true rfl) ?_
  exact W.vret hx hb hr (fun t ht hW => ts_ret (u := a) hP hD hK hS rfl ht hW) hS.2.2 d_W_init_13

set_option maxHeartbeats 4000000 in
set_option maxRecDepth 100000 in
theorem c_M_init (l : Launch) (D : va_G) (cL cA cI cZ : ClassId) (h : Nat) (sz : Nat) : Met l y_M_init w_M_init ({ frames := 1, cells := 2, slots := 2410, locals := 36 }) (va_Pc [.ref h] (ts_A D vwCl (ts_ty cL cA cI cZ) [(h, .inr (2, [.int 0, .null, .null]))] sz)) (ts_Q (fun (v : Option Value) (u : Nat × Nat) => v = none) (fun u => ts_B D vwCl (ts_ty cL cA cI cZ) (va_A [(h, .inr (2, [.int 0, .null, .null]))] sz) ([(h, .inr (2, [.int 0, .ref u.1, .ref u.2])), (u.1, .inl (cI, 2400, .inl (fun _ => 0))), (u.2, .inl (cZ, 10, .inl (fun _ => 0)))])) (va_A [(h, .inr (2, [.int 0, .null, .null]))] sz)) 2 2410 (va_A [(h, .inr (2, [.int 0, .null, .null]))] sz) := by
  refine ts_met (cc := b_M_init) (maxL := 1) (ret := none) (by decide) rfl (Nat.le_of_ble_eq_true rfl) ?_
  intro p e s m below meth c hx hb hr hml hown hts hlocks hname A hA hAe hK hP hD hS hsz ls hl
  have hown : s.vm.findClass R_M = some m.cls := hown
  have hin : meth.name = "<init>" := hname
  have hl : lv_has ls 1 [(0, .ref h)] := hl
  have hP : va_P D vwCl [(h, .inr (2, [.int 0, .null, .null]))] s.heap := hP
  have hD : va_D A [(h, .inr (2, [.int 0, .null, .null]))] := hD
  refine lv_aload_n hx hb d_M_init_0 rfl (lv_at hl 0 rfl) ?_
  refine W.objInit hx hb hown (hts (.methodLink R_M 1 objectInit) (by decide +kernel)) (hts (.instanceMethod objectInit) (by decide +kernel)) (hts _ (List.mem_cons_of_mem _ (List.mem_append_left _ (List.mem_of_getElem? (i := 2) rfl)))) rfl (by rw [hml]; exact hl.1) rfl d_M_init_1 (Nat.le_of_ble_eq_true rfl) (Nat.le_of_ble_eq_true rfl) ?_
  refine W.eq (g2 := F0 m 4 ls []) rfl ?_
  refine lv_aload_n hx hb d_M_init_4 rfl (lv_at hl 0 rfl) ?_
  refine lv_sipush (v := 2400) hx hb d_M_init_5 (by decide) ?_
  refine va_newa (D := D) (atype := .int) (ty := .int) (N' := 2400) (a0 := (2400, (.inl (fun _ => 0)))) hx hb (hts (.arrayClass .int) (by decide +kernel)) rfl hK hP hD hS hA (fun _ => rfl) (by decide +kernel) (by decide +kernel) (by decide) (Nat.le_of_ble_eq_true rfl) (Nat.le_of_ble_eq_true rfl) d_M_init_8 (fun pa c9 H hK9 hP hD hS => ?_)
  have h9 : c9 = cI := ts_Kun (k := 2) hK9 rfl
  rw [h9] at hP hD
  have hP : va_P D vwCl [(h, .inr (2, [.int 0, .null, .null])), (pa, .inl (cI, 2400, .inl (fun _ => 0)))] H := hP
  have hD : va_D A [(h, .inr (2, [.int 0, .null, .null])), (pa, .inl (cI, 2400, .inl (fun _ => 0)))] := hD
  refine va_putF (D := D) (ci := 2) (v := .ref pa) (ty := .array .int) (C := R_M) (T := F_M) (N := 3) hx hb hts (by decide +kernel) ft_M ft_M_ok n_M hown hK hP hD hS 0 rfl rfl 1 (by decide) (hts (.fieldLink R_M 7 "TripleSumsModel" "parts" "[I") (by decide +kernel)) (fun _ h9 => h9) rfl hin rfl (by decide +kernel) rfl rfl (Nat.le_of_ble_eq_true rfl) d_M_init_10 (fun H locs hP hD hS => ?_)
  have hP : va_P D vwCl [(h, .inr (2, [.int 0, .ref pa, .null])), (pa, .inl (cI, 2400, .inl (fun _ => 0)))] H := hP
  have hD : va_D A [(h, .inr (2, [.int 0, .ref pa, .null])), (pa, .inl (cI, 2400, .inl (fun _ => 0)))] := hD
  refine lv_aload_n hx hb d_M_init_13 rfl (lv_at hl 0 rfl) ?_
  refine lv_bipush (v := 10) hx hb d_M_init_14 (by decide) ?_
  refine va_newa (D := D) (atype := .boolean) (ty := .boolean) (N' := 10) (a0 := (10, (.inl (fun _ => 0)))) hx hb (hts (.arrayClass .boolean) (by decide +kernel)) rfl hK hP hD hS hA (fun _ => rfl) (by decide +kernel) (by decide +kernel) (by decide) (Nat.le_of_ble_eq_true rfl) (Nat.le_of_ble_eq_true rfl) d_M_init_16 (fun ba c9 H hK9 hP hD hS => ?_)
  have h9 : c9 = cZ := ts_Kun (k := 3) hK9 rfl
  rw [h9] at hP hD
  have hP : va_P D vwCl [(h, .inr (2, [.int 0, .ref pa, .null])), (pa, .inl (cI, 2400, .inl (fun _ => 0))), (ba, .inl (cZ, 10, .inl (fun _ => 0)))] H := hP
  have hD : va_D A [(h, .inr (2, [.int 0, .ref pa, .null])), (pa, .inl (cI, 2400, .inl (fun _ => 0))), (ba, .inl (cZ, 10, .inl (fun _ => 0)))] := hD
  refine va_putF (D := D) (ci := 2) (v := .ref ba) (ty := .array .boolean) (C := R_M) (T := F_M) (N := 3) hx hb hts (by decide +kernel) ft_M ft_M_ok n_M hown hK hP hD hS 0 rfl rfl 2 (by decide) (hts (.fieldLink R_M 13 "TripleSumsModel" "below" "[Z") (by decide +kernel)) (fun _ h9 => h9) rfl hin rfl (by decide +kernel) rfl rfl (Nat.le_of_ble_eq_true rfl) d_M_init_18 (fun H locs hP hD hS => ?_)
  have hP : va_P D vwCl [(h, .inr (2, [.int 0, .ref pa, .ref ba])), (pa, .inl (cI, 2400, .inl (fun _ => 0))), (ba, .inl (cZ, 10, .inl (fun _ => 0)))] H := hP
  have hD : va_D A [(h, .inr (2, [.int 0, .ref pa, .ref ba])), (pa, .inl (cI, 2400, .inl (fun _ => 0))), (ba, .inl (cZ, 10, .inl (fun _ => 0)))] := hD
  refine W.widen (k := 2) (n := 2410) (Nat.le_of_ble_eq_true rfl) (Nat.le_of_ble_eq_true rfl) ?_
  exact W.vret hx hb hr (fun t ht hW => ts_ret (u := (pa, ba)) hP hD hK hS rfl ht hW) hS.2.2 d_M_init_21

