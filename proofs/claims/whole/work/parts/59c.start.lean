set_option maxHeartbeats 8000000 in
set_option maxRecDepth 100000 in
theorem whole_start {p : Program} {e : Env} {s : State} {m : MethodId} {below : List Frame} {meth : Method} {c : Code} (l : Launch) (hl0 : l.stackTraces = false) {b L : Nat} {xs : Nat → Int32} (hL : L ≤ 4608) (C0 : lw_At p s m meth c b L xs) : W p l e room_1 s m #[Value.ref b] below meth c s.heap [] 0 0 (lw_Z below #[Value.ref b] s) (entryFrame m ([Value.ref b] : List Value).toArray 8) := by
  obtain ⟨hKL, hKT, D, cL, cA, cI, cZ, hK⟩ := ts_start C0
  obtain ⟨hx, hb, hr, hml, hown, hts, hX, hbl, hlocks, hgv⟩ := id C0
  have hown : s.vm.findClass R_L = some m.cls := hown
  have hA : ∀ q : Nat, s.heap.size ≤ q → (fun q : Nat => s.heap.size ≤ q) q := fun _ h => h
  have hS : va_S (fun q : Nat => s.heap.size ≤ q) s.heap s.heap [] := va_S.rf
  have hP : va_P D vwCl [] s.heap := fun k q h => by simp at h
  have hD : va_D (fun q : Nat => s.heap.size ≤ q) [] := ⟨fun i j x y h => by simp at h, fun k q h => by simp at h⟩
  have hl := lv_entry ([.ref b]) (n := 8) (Nat.le_of_ble_eq_true rfl)
  rw [lg_entry_eq]
  generalize (lg_sl ([.ref b]) ++ List.replicate (8 - (lg_sl ([.ref b])).length) Slot.unset).toArray = ls at hl ⊢
  have hl : lv_has ls 8 [(0, .ref b)] := hl
  refine va_new (D := D) (ci := 1) (fs := [.null, .null, .null, .null]) (C := R_T) (T := F_T) (N := 4) hx hb hts i_T ft_T ft_T_ok hown (hts (.classLink R_L 8 R_T) (by decide +kernel)) (hts (.instantiable R_T 4) (by decide +kernel)) (hts (.initialized R_T) (by decide +kernel)) hK hP hD hS hA rfl (fun j hj => by rcases (show j = 0 ∨ j = 1 ∨ j = 2 ∨ j = 3 by omega) with rfl | rfl | rfl | rfl <;> rfl) (Nat.le_of_ble_eq_true rfl) (Nat.le_of_ble_eq_true rfl) d_L_law_0 (fun o H hP hD hS => ?_)
  have hP : va_P D vwCl [(o, .inr (1, [.null, .null, .null, .null]))] H := hP
  have hD : va_D (fun q : Nat => s.heap.size ≤ q) [(o, .inr (1, [.null, .null, .null, .null]))] := hD
  refine lv_dup hx hb d_L_law_3 rfl ?_
  refine ts_callN0 (wr := []) (va_runI (As := []) (rest := [.ref o]) ⟨hx, hb, hml, hown, hts⟩ (c_T_init l D cL cA cI cZ o H.size) (cwI 0 hts gg_law_T_init rfl rfl rfl (hts (.initialized R_T) (by decide +kernel)) (hts (.methodLink R_L 56 y_T_init) (by decide +kernel)) (hts (.instanceMethod y_T_init) (by decide +kernel)) rfl (by decide +kernel) ⟨Nat.le_of_ble_eq_true rfl, Nat.le_of_ble_eq_true rfl⟩) ⟨ts_blindT, fun U hU hW => ⟨rfl, ⟨by rw [hU], by rw [hU]; exact hP, va_K.moved hW.alike hK, hD.weaken (fun _ _ _ _ => trivial)⟩, hKT.1.warmM hW, hKT.2.moved hW.alike⟩⟩ rfl rfl hl.1 rfl (lv_room (Nat.le_of_ble_eq_true rfl)) d_L_law_4 ⟨Nat.le_of_ble_eq_true rfl, Nat.le_of_ble_eq_true rfl⟩) hP hD hS hA [0] [] rfl rfl (by decide) (by decide) (fun v u H locs hw hP hD hS => ?_)
  obtain rfl := hw
  obtain ⟨sA, w, a⟩ := u
  have hP : va_P D vwCl (ts_w cL cA o sA w a (fun _ _ => 0)) H := hP
  have hD : va_D (fun q : Nat => s.heap.size ≤ q) (ts_w cL cA o sA w a (fun _ _ => 0)) := hD
  show W _ _ _ _ _ _ _ _ _ _ _ _ _ _ _ (F0 m 7 ls [.ref o])
  refine lv_astore_n (lv' := [(1, .ref o), (0, .ref b)]) hx hb d_L_law_7 rfl hl (by decide) rfl (fun ls hl => ?_)
  refine va_new (D := D) (ci := 2) (fs := [.int 0, .null, .null]) (C := R_M) (T := F_M) (N := 3) hx hb hts i_M ft_M ft_M_ok hown (hts (.classLink R_L 57 R_M) (by decide +kernel)) (hts (.instantiable R_M 3) (by decide +kernel)) (hts (.initialized R_M) (by decide +kernel)) hK hP hD hS hA rfl (fun j hj => by rcases (show j = 0 ∨ j = 1 ∨ j = 2 by omega) with rfl | rfl | rfl <;> rfl) (Nat.le_of_ble_eq_true rfl) (Nat.le_of_ble_eq_true rfl) d_L_law_8 (fun h H hP hD hS => ?_)
  refine lv_dup hx hb d_L_law_11 rfl ?_
  have hPc := hP.sub (ws' := [(h, .inr (2, [.int 0, .null, .null]))]) [24] rfl
  have hDc := hD.sub (ws' := [(h, .inr (2, [.int 0, .null, .null]))]) [24] (by decide) rfl
  refine ts_callN0 (wr := (ts_w cL cA o sA w a (fun _ _ => 0))) (va_runI (As := []) (rest := [.ref h]) ⟨hx, hb, hml, hown, hts⟩ (c_M_init l D cL cA cI cZ h H.size) (cwI 0 hts gg_law_M_init rfl rfl rfl (hts (.initialized R_M) (by decide +kernel)) (hts (.methodLink R_L 59 y_M_init) (by decide +kernel)) (hts (.instanceMethod y_M_init) (by decide +kernel)) rfl (by decide +kernel) ⟨Nat.le_of_ble_eq_true rfl, Nat.le_of_ble_eq_true rfl⟩) ⟨ts_blind, fun U hU hW => ⟨rfl, by rw [hU], by rw [hU]; exact hPc, va_K.moved hW.alike hK, hDc.weaken (fun _ _ _ _ => trivial)⟩⟩ rfl rfl hl.1 rfl (lv_room (Nat.le_of_ble_eq_true rfl)) d_L_law_12 ⟨Nat.le_of_ble_eq_true rfl, Nat.le_of_ble_eq_true rfl⟩) hP hD hS hA [24] ts_all rfl rfl (by decide) (by decide) (fun v u H locs hw hP hD hS => ?_)
  obtain rfl := hw
  obtain ⟨pa, ba⟩ := u
  show W _ _ _ _ _ _ _ _ _ _ _ _ _ _ _ (F0 m 15 ls [.ref h])
  refine lv_astore_n (lv' := [(2, .ref h), (1, .ref o), (0, .ref b)]) hx hb d_L_law_15 rfl hl (by decide) rfl (fun ls hl => ?_)
  refine lv_iconst (v := 1) hx hb d_L_law_16 (by decide) ?_
  refine va_newa (D := D) (atype := .long) (ty := .long) (N' := 1) (a0 := (1, (.inr (.inl (fun _ => 0))))) hx hb (hts (.arrayClass .long) (by decide +kernel)) rfl hK hP hD hS hA (fun _ => rfl) (by decide +kernel) (by decide +kernel) (by decide) (Nat.le_of_ble_eq_true rfl) (Nat.le_of_ble_eq_true rfl) d_L_law_17 (fun ou c9 H hK9 hP hD hS => ?_)
  have h9 : c9 = cL := ts_Kun (k := 0) hK9 rfl
  rw [h9] at hP hD
  have hP : va_P D vwCl (ts_lw cL cA cI cZ o sA w a h pa ba ou (fun _ _ => 0) 0 (fun _ => 0) (fun _ => 0) (fun _ => 0)) H := hP
  have hD : va_D (fun q : Nat => s.heap.size ≤ q) (ts_lw cL cA cI cZ o sA w a h pa ba ou (fun _ _ => 0) 0 (fun _ => 0) (fun _ => 0) (fun _ => 0)) := hD
  refine lv_astore_n (lv' := [(3, .ref ou), (2, .ref h), (1, .ref o), (0, .ref b)]) hx hb d_L_law_19 rfl hl (by decide) rfl (fun ls hl => ?_)
  refine lv_iconst (v := (nI (9 * 0))) hx hb d_L_law_20 (by decide) ?_
  refine lv_istore (lv' := [(4, .int (nI (9 * 0))), (3, .ref ou), (2, .ref h), (1, .ref o), (0, .ref b)]) hx hb d_L_law_21 hl (by decide) rfl (fun ls hl => ?_)
  refine W.widen (k := 28 + 0) (n := 4637 + 6 * 0) (Nat.le_of_ble_eq_true rfl) (Nat.le_of_ble_eq_true rfl) ?_
  exact law_loop hl0 hL C0 hK hKL (L / 9 + 1) 0 (by omega) (by omega) (fun _ _ => 0) 0 (fun _ => 0) (fun _ => 0) (fun _ => 0) (fun _ => 0) H locs ls (fun _ _ => ts_R0) ts_M0 (fun r _ => by show (0 : Int).natAbs < 2 ^ 6372 + 0 * 2 ^ 6314; rw [Nat.zero_mul, Nat.add_zero]; exact Nat.pow_pos (by decide)) hP hD hS (lv_sub hl [0, 4, 3, 2, 1] rfl)
