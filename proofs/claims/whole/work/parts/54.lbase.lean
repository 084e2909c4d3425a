/-! THE LAW's HELPERS: methods with a table of handlers -/
def ts_KC (U : State) : Prop := va_Nc ts_IA ts_IO U ∧ va_Nc ts_IS ts_IO U ∧ va_Nc ts_IS ts_IA U
theorem ts_KC.moved {u U : State} (hvm : u.vm.Alike U.vm) (h : ts_KC u) : ts_KC U := ⟨h.1.moved hvm, h.2.1.moved hvm, h.2.2.moved hvm⟩
def ts_KL (F : Nat → Prop) (U : State) : Prop := ts_KX F U ∧ ts_KC U
theorem ts_KL.at {A F : Nat → Prop} {s U : State} {H : Heap} {locs : List Loc} (h : ts_KL A s) (hS : va_S A s.heap H locs) (hF : ∀ q, F q → A q) (hU : U.heap = H) (hW : s.WarmedH U.vm) : ts_KL F U := ⟨h.1.at hS hF hU hW, h.2.moved hW.alike⟩
theorem ts_blindL {D : va_G} {cl : List vw_C} {tys : List (ClassId × FieldType)} {ws : va_W} {sz : Nat} {as : List Value} {F : Nat → Prop} : FrameBlind (va_Pc as (fun U => ts_A D cl tys ws sz U ∧ ts_KL F U)) := by
  intro a U g mk q
  obtain ⟨q0, q1, q2, q3⟩ := q
  obtain ⟨z0, z1, z2⟩ := ts_blindX (D := D) (cl := cl) (tys := tys) (ws := ws) (sz := sz) (as := as) (F := F) a U g mk ⟨q0, q1, q2⟩
  exact ⟨z0, z1, z2, q3.moved (u := U) (U := U.calling g mk a) (Vm.Alike.refl U.vm)⟩
theorem ts_castX {args : Array Value} {s : State} (hN : ts_KN s) : (Cond.castable ts_IO ts_IO).before args s = true ∧ (Cond.castable ts_IA ts_IA).before args s = true ∧ (Cond.castable ts_IS ts_IS).before args s = true :=
  ⟨va_Nw.use rfl (hN.2 _ (by decide +kernel)), va_Nw.use rfl (hN.2 _ (by decide +kernel)), va_Nw.use rfl (hN.2 _ (by decide +kernel))⟩
theorem ts_setAllZ {z : va_W} : ∀ (w pre ws : va_W), ws.length = w.length → ts_set (pre ++ (ws ++ z)) (List.range' pre.length w.length) w = pre ++ (w ++ z) := by
  intro w
  induction w with
  | nil =>
    intro pre ws h
    cases ws with
    | nil => rfl
    | cons x ws => cases h
  | cons q w ih =>
    intro pre ws h
    cases ws with
    | nil => cases h
    | cons x ws =>
      have h2 : ws.length = w.length := by simpa using h
      show ts_set ((pre ++ x :: (ws ++ z)).set pre.length q) (List.range' (pre.length + 1) w.length) w = pre ++ q :: (w ++ z)
      rw [ts_set_mid]
      have h3 := ih (pre ++ [q]) ws h2
      rw [List.length_append] at h3
      exact h3.trans (by rw [List.append_assoc]; rfl)
theorem ts_allSZ {z : va_W} {cL cA : ClassId} {o sA : Nat} {w a : Nat → Nat} {f g : Nat → Nat → Int64} : ts_set (ts_w cL cA o sA w a f ++ z) ts_all (ts_w cL cA o sA w a g) = ts_w cL cA o sA w a g ++ z := ts_setAllZ (z := z) (ts_w cL cA o sA w a g) [] (ts_w cL cA o sA w a f) rfl
theorem ts_allEZ {z : va_W} {cL cA : ClassId} {o sA : Nat} {w a : Nat → Nat} {f : Nat → Nat → Int64} : ts_all.map (fun i => (ts_w cL cA o sA w a f ++ z)[i]?) = (ts_w cL cA o sA w a f).map some := rfl
section TSL
variable {p : Program} {l : Launch} {e : Env} {R : Room} {s : State} {m : MethodId} {args : Array Value} {below : List Frame} {meth : Method} {c : Code} {H : Heap} {locs : List Loc} {cells slots : Nat} {Q : State → Prop}
variable {y : MethodName} {bytes cc : ByteArray} {maxL nL mc ms n index : Nat} {ret : Option FieldType} {wsy : List Cond} {rm : Room} {Ts : List Cond} {own EN : String} {As rest st0 : List Value} {pc : Nat} {ls : Array Slot} {S : Type} {px : S → Prop} {post : Option Value → S → Prop} {mk : S → va_W} {D : va_G} {cl : List vw_C} {tys : List (ClassId × FieldType)} {ws z : va_W} {A : Nat → Prop} {cL cA cI cZ : ClassId} {o sA : Nat} {w a : Nat → Nat} {f : Nat → Nat → Int64}
theorem ts_callTZ {g : S → Nat → Nat → Int64} (F : CallFix p m c cc nL s args Ts own)
    (hM : Met l y wsy rm (va_Pc (.ref o :: As) (ts_A D vwCl (ts_ty cL cA cI cZ) (ts_w cL cA o sA w a f) H.size)) (ts_Q post (fun u => ts_B D vwCl (ts_ty cL cA cI cZ) (va_A (ts_w cL cA o sA w a f) H.size) (ts_w cL cA o sA w a (g u))) (va_A (ts_w cL cA o sA w a f) H.size)) 0 0 (va_A (ts_w cL cA o sA w a f) H.size))
    (cw : CallW R s args own R_T index y bytes maxL ret wsy rm 0 0 n) (hK : va_K D vwCl (ts_ty cL cA cI cZ) s) (hP : va_P D vwCl (ts_w cL cA o sA w a f ++ z) H) (hD : va_D A (ts_w cL cA o sA w a f ++ z)) (hS : va_S A s.heap H locs) (hA : ∀ q, s.heap.size ≤ q → A q) (hz : ls.size = nL)
    (hlen : As.length = n) (hst : st0 = As.reverse ++ .ref o :: rest) (hroom : (rest.map fun v => v.category).sum ≤ 8) (hdg : decode cc pc = .ok (.invokevirtual index, 3)) (hf : cells + 0 ≤ R.cells ∧ slots + 0 ≤ R.slots)
    (kk : ∀ (v : Option Value) (u : S) (H1 : Heap) (locs1 : List Loc), post v u → va_P D vwCl (ts_w cL cA o sA w a (g u) ++ z) H1 → va_D A (ts_w cL cA o sA w a (g u) ++ z) → va_S A s.heap H1 locs1 → W p l e R s m args below meth c H1 locs1 cells slots Q (F0 m (pc + 3) ls (v.toList ++ rest))) :
    W p l e R s m args below meth c H locs cells slots Q (F0 m pc ls st0) :=
  ts_callV F hM cw hK hP hD hS hA hz ts_all (by decide) ts_allEZ (va_recv hK hP (ci := 1) (q0 := 0) rfl rfl) (fun u => rfl) hlen hst hroom hdg hf (fun v u H1 locs1 h1 h2 h3 h4 => by
    rw [ts_allSZ] at h2 h3
    exact kk v u H1 locs1 h1 h2 h3 h4)
theorem ts_callXZ {g : S → Nat → Nat → Int64} (F : CallFix p m c cc nL s args Ts own)
    (hM : vx_Met l y wsy rm (va_Pc (.ref o :: As) (fun U => ts_A D vwCl (ts_ty cL cA cI cZ) (ts_w cL cA o sA w a f) H.size U ∧ ts_KX (va_A (ts_w cL cA o sA w a f) H.size) U)) (fun _ _ _ _ => False) (ts_X EN px (fun u => ts_B D vwCl (ts_ty cL cA cI cZ) (va_A (ts_w cL cA o sA w a f) H.size) (ts_w cL cA o sA w a (g u))) (va_A (ts_w cL cA o sA w a f) H.size)) mc ms (va_A (ts_w cL cA o sA w a f) H.size))
    (cw : CallW R s args own R_T index y bytes maxL ret wsy rm mc ms n) (hK : va_K D vwCl (ts_ty cL cA cI cZ) s) (hKX : ts_KX A s) (hP : va_P D vwCl (ts_w cL cA o sA w a f ++ z) H) (hD : va_D A (ts_w cL cA o sA w a f ++ z)) (hS : va_S A s.heap H locs) (hA : ∀ q, s.heap.size ≤ q → A q) (hz : ls.size = nL)
    (hlen : As.length = n) (hst : st0 = As.reverse ++ .ref o :: rest) (hroom : (rest.map fun v => v.category).sum ≤ 8) (hdg : decode cc pc = .ok (.invokevirtual index, 3)) (hf : cells + mc ≤ R.cells ∧ slots + ms ≤ R.slots)
    (kx : ∀ (ce : Cell) (q9 : Addr) (u : S) (H1 : Heap) (locs1 : List Loc), px u → va_P D vwCl (ts_w cL cA o sA w a (g u) ++ z) H1 → va_D A (ts_w cL cA o sA w a (g u) ++ z) → va_S A s.heap H1 locs1 → H1[q9]? = some ce → ce.vm = .none → s.vm.findClass EN = some ce.cls → vx_W p l e R s m args below meth c H1 locs1 (cells + mc) (slots + ms) Q (F0 m pc ls rest) q9) :
    W p l e R s m args below meth c H locs cells slots Q (F0 m pc ls st0) :=
  ts_callXV F hM cw hK hKX hP hD hS hA hz ts_all (by decide) ts_allEZ (va_recv hK hP (ci := 1) (q0 := 0) rfl rfl) (fun u => rfl) hlen hst hroom hdg hf (fun ce q9 u H1 locs1 h1 h2 h3 h4 h5 h6 h7 => by
    rw [ts_allSZ] at h2 h3
    exact kx ce q9 u H1 locs1 h1 h2 h3 h4 h5 h6 h7)
/-- a helper's start -/
theorem ts_metW {as : List Value} {sz : Nat} {ws' : List Cond} {hh : List (Nat × Nat × Nat × Nat)} (hy : plainName y.cls = true) (hw : wsy = Cond.codeWith y cc maxL ret hh :: ws') (hlen : (lg_sl as).length ≤ maxL)
    (body : ∀ (p : Program) (e : Env) (s : State) (m : MethodId) (below : List Frame) (meth : Method) (c : Code), p.tables.exec = Jvm.exec → c.code = cc → meth.sig.returnType = ret → c.maxLocals = maxL → s.vm.findClass y.cls = some m.cls → (∀ w ∈ wsy, w.before as.toArray s = true) → meth.locks = false → c.exceptionTable.toList = tableOf hh → ∀ (A : Nat → Prop), (∀ q, s.heap.size ≤ q → A q) → A = va_A ws s.heap.size → ts_KL A s → va_K D cl tys s → va_P D cl ws s.heap → va_D A ws → va_S A s.heap s.heap [] → s.heap.size = sz → ∀ (ls : Array Slot), lv_has ls maxL (lv_args 0 as) →
      W p l e rm s m as.toArray below meth c s.heap [] 0 0 (MQ below (ts_Q post (fun u => ts_B D cl tys A (mk u)) A) as.toArray s mc ms A) (F0 m 0 ls [])) :
    Met l y wsy rm (va_Pc as (fun U => ts_A D cl tys ws sz U ∧ ts_KL (va_A ws sz) U)) (ts_Q post (fun u => ts_B D cl tys (va_A ws sz) (mk u)) (va_A ws sz)) mc ms (va_A ws sz) := by
  refine va_MetW (cc := cc) (maxL := maxL) (ret := ret) (hh := hh) hy hw ?_
  intro p e s m args below meth c s₁ B hml hv
  obtain ⟨rfl, ⟨hsz, hP, hK, hD0⟩, hKs⟩ := hv
  have hts := atoms_spec (ws := wsy) B.pre
  have hown : s.vm.findClass y.cls = some m.cls := findClass_of_methodNamed B.named
  have htab : c.exceptionTable.toList = tableOf hh := vx_table (x := y) B (hts _ (by rw [hw]; exact List.mem_cons_self))
  subst hsz
  have hl := lv_entry as (n := maxL) hlen
  rw [lg_entry_eq]
  generalize (lg_sl as ++ List.replicate (maxL - (lg_sl as).length) Slot.unset).toArray = ls at hl ⊢
  exact body p e s m below meth c B.exec B.bytes B.returns hml hown hts B.notSynchronized htab _ (fun q h => Or.inr h) rfl hKs hK hP (hD0.self) va_S.rf rfl ls hl
end TSL
def ts_TS (f : Nat → Nat → Int64) (V : Nat → Int) : Prop := ∀ i, i < 8 → ts_R (f i) (V i)
theorem ts_TS.keep {f g : Nat → Nat → Int64} {V : Nat → Int} (h : ts_TS f V) (hg : ∀ i, i < 8 → g i = f i) : ts_TS g V := fun i hi => by rw [hg i hi]; exact h i hi
theorem ts_TS.set {f g : Nat → Nat → Int64} {V : Nat → Int} {r : Nat} {x : Int} (h : ts_TS f V) (hg : ∀ i, i < 8 → i ≠ r → g i = f i) (hr : ts_R (g r) x) : ts_TS g (va_up V r x) := by
  intro i hi
  by_cases e : i = r
  · subst e; rw [va_up_self]; exact hr
  · rw [va_up_ne _ _ e, hg i hi e]; exact h i hi
theorem ts_bad_or (x : Int32) : (∃ r, r < 8 ∧ x = nI r) ∨ ts_bad x := by
  by_cases h1 : x < 0
  · exact Or.inr (Or.inl h1)
  · by_cases h2 : (8 : Int32) ≤ x
    · exact Or.inr (Or.inr h2)
    · exact Or.inl (ts_is8 h1 h2)
theorem ts_Kp : ts_K = 2 ^ 6399 := by
  unfold ts_K
  rw [← Nat.pow_mul, ← Nat.pow_add]
theorem ts_bK {a : Nat} (h : a < 2 ^ 6373) : a < ts_K := by
  rw [ts_Kp]
  exact Nat.lt_of_lt_of_le h (Nat.pow_le_pow_right (by decide) (by decide))
theorem ts_bK2 {a b : Nat} (ha : a < 2 ^ 6373) (hb : b < 2 ^ 6373) : a + b < ts_K := by
  have h : (2 : Nat) ^ 6374 = 2 ^ 6373 * 2 := Nat.pow_succ _ _
  have h2 : (2 : Nat) ^ 6374 ≤ 2 ^ 6399 := Nat.pow_le_pow_right (by decide) (by decide)
  rw [ts_Kp]
  omega
theorem ts_bKp {a n b : Nat} (ha : a < 2 ^ 6373) (hb : b < 2 ^ 6373) (hn : n < 1048576) : a + n * b < ts_K := by
  have h1 : n * b ≤ 1048576 * b := Nat.mul_le_mul_right _ (by omega)
  have h2 : (2 : Nat) ^ 6393 = 1048576 * 2 ^ 6373 := by rw [show (1048576 : Nat) = 2 ^ 20 by decide, ← Nat.pow_add]
  have h3 : (2 : Nat) ^ 6394 = 2 ^ 6393 * 2 := Nat.pow_succ _ _
  have h4 : (2 : Nat) ^ 6394 ≤ 2 ^ 6399 := Nat.pow_le_pow_right (by decide) (by decide)
  have h5 : (2 : Nat) ^ 6373 ≤ 2 ^ 6393 := Nat.pow_le_pow_right (by decide) (by decide)
  rw [ts_Kp]
  omega
theorem ts_pr_abs {x y z : Int64} {t : Int32} (hg : ts_gd x y z t) : (ts_pr x y z t).natAbs < 2 ^ 6314 := by
  obtain ⟨h1, h2, h3, h4⟩ := hg
  have h := ts_pn_lt h1 h2 h3
  have e : (ts_pr x y z t).natAbs = t.toInt.natAbs * ts_pn x y z := by
    unfold ts_pr
    split
    · rw [Int.natAbs_mul, Int.natAbs_neg, Int.natAbs_natCast]
    · rw [Int.natAbs_mul, Int.natAbs_natCast]
  rw [e]
  have h5 : t.toInt.natAbs * ts_pn x y z ≤ 1048576 * ts_pn x y z := Nat.mul_le_mul_right _ (by omega)
  have h6 : (2 : Nat) ^ 6314 = 1048576 * 2 ^ 6294 := by rw [show (1048576 : Nat) = 2 ^ 20 by decide, ← Nat.pow_add]
  omega
theorem ts_bKa {a b : Nat} (ha : a < 2 ^ 6373) (hb : b < 2 ^ 6314) : a + b < ts_K := ts_bK2 ha (Nat.lt_of_lt_of_le hb (Nat.pow_le_pow_right (by decide) (by decide)))
