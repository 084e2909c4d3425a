set_option maxHeartbeats 4000000 in
set_option maxRecDepth 100000 in
theorem c_T_clear (l : Launch) (D : va_G) (cL cA cI cZ : ClassId) (o sA : Nat) (w a : Nat → Nat) (f : Nat → Nat → Int64) (r : Nat) (hr8 : r < 8) (sz : Nat) : Met l y_T_clear w_T_clear (ts_rm 4) (va_Pc [.ref o, .int (nI r)] (ts_A D vwCl (ts_ty cL cA cI cZ) (ts_w cL cA o sA w a f) sz)) (ts_Q (fun (v : Option Value) (u : Nat → Nat → Int64) => v = none ∧ (∀ i, i ≠ r → u i = f i) ∧ ts_R (u r) 0) (fun u => ts_B D vwCl (ts_ty cL cA cI cZ) (va_A (ts_w cL cA o sA w a f) sz) (ts_w cL cA o sA w a u)) (va_A (ts_w cL cA o sA w a f) sz)) 0 0 (va_A (ts_w cL cA o sA w a f) sz) := by
  refine ts_met (cc := b_T_clear) (maxL := 2) (ret := none) (by decide) rfl (Nat.le_of_ble_eq_true rfl) ?_
  intro p e s m below meth c hx hb hr hml hown hts hlocks hname A hA hAe hK hP hD hS hsz ls hl
  have hown : s.vm.findClass R_T = some m.cls := hown
  have hl : lv_has ls 2 [(0, .ref o), (1, .int (nI r))] := hl
  have hP : va_P D vwCl (ts_w cL cA o sA w a f) s.heap := hP
  have hD : va_D A (ts_w cL cA o sA w a f) := hD
  refine lv_aload_n hx hb d_T_clear_0 rfl (lv_at hl 0 rfl) ?_
  refine lv_iload_n hx hb d_T_clear_1 rfl (lv_at hl 1 rfl) ?_
  refine ts_callTT (rest := []) (g := fun _ => f) ⟨hx, hb, hml, hown, hts⟩ (c_T_sumAt l D cL cA cI cZ o sA w a f r hr8 _) (cwV 1 hts g_T_clear_T_sumAt rfl rfl rfl (by decide +kernel) ⟨Nat.le_of_ble_eq_true rfl, Nat.le_of_ble_eq_true rfl⟩) hK hP hD hS hA hl.1 rfl rfl (Nat.le_of_ble_eq_true rfl) d_T_clear_2 ⟨Nat.zero_le _, Nat.zero_le _⟩ (fun v u H locs hw hP hD hS => ?_)
  obtain rfl := hw
  show W _ _ _ _ _ _ _ _ _ _ _ _ _ _ _ (F0 m 5 ls [.ref (w r)])
  refine ts_callT1 (rest := []) (g := fun u => u) r (by omega) ⟨hx, hb, hml, hown, hts⟩ (c_W_setZero l D cL cA cI cZ (w r) (a r) (f r) _) (cwV 0 hts g_T_clear_W_setZero rfl rfl rfl (by decide +kernel) ⟨Nat.le_of_ble_eq_true rfl, Nat.le_of_ble_eq_true rfl⟩) hK hP hD hS hA hl.1 rfl rfl (Nat.le_of_ble_eq_true rfl) d_T_clear_5 ⟨Nat.zero_le _, Nat.zero_le _⟩ (fun v u1 H locs hw hP hD hS => ?_)
  obtain ⟨f1, hf1⟩ : ∃ f1 : Nat → Nat → Int64, f1 = va_up f r u1 := ⟨_, rfl⟩
  have hP : va_P D vwCl (ts_w cL cA o sA w a f1) H := by rw [hf1]; exact hP
  have hD : va_D A (ts_w cL cA o sA w a f1) := by rw [hf1]; exact hD
  have f1r : f1 r = u1 := by rw [hf1, va_up_self]
  have f1o : ∀ i, i ≠ r → f1 i = f i := fun i hi => by rw [hf1, va_up_ne _ _ hi]
  obtain ⟨rfl, hw⟩ := hw
  show W _ _ _ _ _ _ _ _ _ _ _ _ _ _ _ (F0 m 8 ls [])
  exact W.vret hx hb hr (fun t ht hW => ts_ret (u := f1) hP hD hK hS ⟨rfl, f1o, ts_R.zero (by rw [f1r]; exact hw)⟩ ht hW) hS.2.2 d_T_clear_8

set_option maxHeartbeats 4000000 in
set_option maxRecDepth 100000 in
theorem c_T_sign (l : Launch) (D : va_G) (cL cA cI cZ : ClassId) (o sA : Nat) (w a : Nat → Nat) (f : Nat → Nat → Int64) (r : Nat) (x : Int) (hr8 : r < 8) (hR : ts_R (f r) x) (sz : Nat) : Met l y_T_sign w_T_sign (ts_rm 6) (va_Pc [.ref o, .int (nI r)] (ts_A D vwCl (ts_ty cL cA cI cZ) (ts_w cL cA o sA w a f) sz)) (ts_Q (fun (v : Option Value) (u : Unit) => v = some (.int (ts_sg x))) (fun u => ts_B D vwCl (ts_ty cL cA cI cZ) (va_A (ts_w cL cA o sA w a f) sz) (ts_w cL cA o sA w a f)) (va_A (ts_w cL cA o sA w a f) sz)) 0 0 (va_A (ts_w cL cA o sA w a f) sz) := by
  refine ts_met (cc := b_T_sign) (maxL := 2) (ret := (some .int)) (by decide) rfl (Nat.le_of_ble_eq_true rfl) ?_
  intro p e s m below meth c hx hb hr hml hown hts hlocks hname A hA hAe hK hP hD hS hsz ls hl
  have hown : s.vm.findClass R_T = some m.cls := hown
  have hl : lv_has ls 2 [(0, .ref o), (1, .int (nI r))] := hl
  have hP : va_P D vwCl (ts_w cL cA o sA w a f) s.heap := hP
  have hD : va_D A (ts_w cL cA o sA w a f) := hD
  refine lv_aload_n hx hb d_T_sign_0 rfl (lv_at hl 0 rfl) ?_
  refine lv_iload_n hx hb d_T_sign_1 rfl (lv_at hl 1 rfl) ?_
  refine ts_callTT (rest := []) (g := fun _ => f) ⟨hx, hb, hml, hown, hts⟩ (c_T_sumAt l D cL cA cI cZ o sA w a f r hr8 _) (cwV 1 hts g_T_sign_T_sumAt rfl rfl rfl (by decide +kernel) ⟨Nat.le_of_ble_eq_true rfl, Nat.le_of_ble_eq_true rfl⟩) hK hP hD hS hA hl.1 rfl rfl (Nat.le_of_ble_eq_true rfl) d_T_sign_2 ⟨Nat.zero_le _, Nat.zero_le _⟩ (fun v u H locs hw hP hD hS => ?_)
  obtain rfl := hw
  show W _ _ _ _ _ _ _ _ _ _ _ _ _ _ _ (F0 m 5 ls [.ref (w r)])
  refine ts_callT1 (rest := []) (g := fun _ => f r) r (by omega) ⟨hx, hb, hml, hown, hts⟩ (c_W_signum l D cL cA cI cZ (w r) (a r) (f r) x hR _) (cwV 0 hts g_T_sign_W_signum rfl rfl rfl (by decide +kernel) ⟨Nat.le_of_ble_eq_true rfl, Nat.le_of_ble_eq_true rfl⟩) hK hP hD hS hA hl.1 rfl rfl (Nat.le_of_ble_eq_true rfl) d_T_sign_5 ⟨Nat.zero_le _, Nat.zero_le _⟩ (fun v _u H locs hw hP hD hS => ?_)
  have hP : va_P D vwCl (ts_w cL cA o sA w a f) H := by rw [ts_up_id] at hP; exact hP
  have hD : va_D A (ts_w cL cA o sA w a f) := by rw [ts_up_id] at hD; exact hD
  obtain rfl := hw
  show W _ _ _ _ _ _ _ _ _ _ _ _ _ _ _ (F0 m 8 ls [.int (ts_sg x)])
  exact W.iret (v := (ts_sg x)) hx hb hr (fun t ht hW => ts_ret (u := ()) hP hD hK hS rfl ht hW) hS.2.2 d_T_sign_8

