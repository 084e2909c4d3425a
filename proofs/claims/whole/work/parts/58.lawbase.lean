/-! THE LAW's WORLD: the class's, the reference's three cells, the out array -/
def ts_lw (cL cA cI cZ : ClassId) (o sA : Nat) (w a : Nat → Nat) (h pa ba ou : Nat) (f : Nat → Nat → Int64) (th : Int32) (P B : Nat → Int32) (g : Nat → Int64) : va_W :=
  ts_w cL cA o sA w a f ++ [(h, .inr (2, [.int th, .ref pa, .ref ba])), (pa, .inl (cI, 2400, .inl P)), (ba, .inl (cZ, 10, .inl B)), (ou, .inl (cL, 1, .inr (.inl g)))]
def ts_mw (cI cZ : ClassId) (h pa ba : Nat) (th : Int32) (P B : Nat → Int32) : va_W := [(h, .inr (2, [.int th, .ref pa, .ref ba])), (pa, .inl (cI, 2400, .inl P)), (ba, .inl (cZ, 10, .inl B))]
theorem ts_set_app : ∀ (is : List Nat) (w ws : va_W) (js : List Nat) (v : va_W), is.length = w.length → ts_set ws (is ++ js) (w ++ v) = ts_set (ts_set ws is w) js v := by
  intro is
  induction is with
  | nil =>
    intro w ws js v h
    cases w with
    | nil => cases js <;> cases v <;> rfl
    | cons x w => cases h
  | cons i is ih =>
    intro w ws js v h
    cases w with
    | nil => cases h
    | cons x w => exact ih w (ws.set i x) js v (by simpa using h)
section TSLW
variable {p : Program} {l : Launch} {e : Env} {R : Room} {s : State} {m : MethodId} {args : Array Value} {below : List Frame} {meth : Method} {c : Code} {H : Heap} {locs : List Loc} {cells slots : Nat} {Q : State → Prop}
variable {y : MethodName} {bytes cc : ByteArray} {maxL nL mc ms n index : Nat} {ret : Option FieldType} {hh : List (Nat × Nat × Nat × Nat)} {wsy : List Cond} {rm : Room} {Ts : List Cond} {own : String} {As rest st0 : List Value} {pc : Nat} {ls : Array Slot} {S : Type} {D : va_G} {A : Nat → Prop} {cL cA cI cZ : ClassId} {o sA : Nat} {w a : Nat → Nat} {h pa ba ou : Nat} {f : Nat → Nat → Int64} {th : Int32} {P B : Nat → Int32} {g : Nat → Int64}
theorem ts_lwS {f' : Nat → Nat → Int64} : ts_set (ts_lw cL cA cI cZ o sA w a h pa ba ou f th P B g) ts_all (ts_w cL cA o sA w a f') = ts_lw cL cA cI cZ o sA w a h pa ba ou f' th P B g := ts_allSZ
theorem ts_lwSO {f' : Nat → Nat → Int64} {g' : Nat → Int64} : ts_set (ts_lw cL cA cI cZ o sA w a h pa ba ou f th P B g) (ts_all ++ [27]) (ts_w cL cA o sA w a f' ++ [(ou, .inl (cL, 1, .inr (.inl g')))]) = ts_lw cL cA cI cZ o sA w a h pa ba ou f' th P B g' := by
  rw [ts_set_app _ _ _ _ _ rfl, ts_lwS]
  rfl
theorem ts_lwSM {th' : Int32} {P' B' : Nat → Int32} : ts_set (ts_lw cL cA cI cZ o sA w a h pa ba ou f th P B g) [24, 25, 26] (ts_mw cI cZ h pa ba th' P' B') = ts_lw cL cA cI cZ o sA w a h pa ba ou f th' P' B' g := rfl
theorem ts_callH {post : Option Value → (Nat → Nat → Int64) → Prop} (F : CallFix p m c cc nL s args Ts own)
    (hM : Met l y wsy rm (va_Pc As (fun U => ts_A D vwCl (ts_ty cL cA cI cZ) (ts_w cL cA o sA w a f) H.size U ∧ ts_KL (va_A (ts_w cL cA o sA w a f) H.size) U)) (ts_Q post (fun u => ts_B D vwCl (ts_ty cL cA cI cZ) (va_A (ts_w cL cA o sA w a f) H.size) (ts_w cL cA o sA w a u)) (va_A (ts_w cL cA o sA w a f) H.size)) mc ms (va_A (ts_w cL cA o sA w a f) H.size))
    (cw : vx_CSW R s args own index y bytes maxL ret hh wsy rm mc ms n) (hK : va_K D vwCl (ts_ty cL cA cI cZ) s) (hKL : ts_KL A s) (hP : va_P D vwCl (ts_lw cL cA cI cZ o sA w a h pa ba ou f th P B g) H) (hD : va_D A (ts_lw cL cA cI cZ o sA w a h pa ba ou f th P B g)) (hS : va_S A s.heap H locs) (hA : ∀ q, s.heap.size ≤ q → A q) (hz : ls.size = nL)
    (hlen : As.length = n) (hst : st0 = As.reverse ++ rest) (hroom : (rest.map fun v => v.category).sum ≤ 8) (hdg : decode cc pc = .ok (.invokestatic index, 3)) (hf : cells + mc ≤ R.cells ∧ slots + ms ≤ R.slots)
    (kk : ∀ (v : Option Value) (u : Nat → Nat → Int64) (H1 : Heap) (locs1 : List Loc), post v u → va_P D vwCl (ts_lw cL cA cI cZ o sA w a h pa ba ou u th P B g) H1 → va_D A (ts_lw cL cA cI cZ o sA w a h pa ba ou u th P B g) → va_S A s.heap H1 locs1 → W p l e R s m args below meth c H1 locs1 (cells + mc) (slots + ms) Q (F0 m (pc + 3) ls (v.toList ++ rest))) :
    W p l e R s m args below meth c H locs cells slots Q (F0 m pc ls st0) := by
  have hC : ts_all.map (fun i => (ts_lw cL cA cI cZ o sA w a h pa ba ou f th P B g)[i]?) = (ts_w cL cA o sA w a f).map some := rfl
  have hPc := ts_subP hP hC
  have hDc := hD.sub ts_all (by decide) hC
  have hF := va_free (wc := ts_w cL cA o sA w a f) hD hS hA ts_all hC
  refine ts_call0 (vx_runSW F hM cw ⟨ts_blindL, fun U hU hW => ⟨rfl, ⟨by rw [hU], by rw [hU]; exact hPc, va_K.moved hW.alike hK, hDc.weaken (fun _ _ _ _ => trivial)⟩, hKL.at hS hF hU hW⟩⟩ rfl hlen hz hst (lv_room hroom) hdg hf) hP hD hS hA hC (fun u => rfl) (fun v u H1 locs1 h1 h2 h3 h4 => ?_)
  rw [ts_lwS] at h2 h3
  exact kk v u H1 locs1 h1 h2 h3 h4
theorem ts_callHO {post : Option Value → (Nat → Nat → Int64) × (Nat → Int64) → Prop} (F : CallFix p m c cc nL s args Ts own)
    (hM : Met l y wsy rm (va_Pc As (fun U => ts_A D vwCl (ts_ty cL cA cI cZ) (ts_w cL cA o sA w a f ++ [(ou, .inl (cL, 1, .inr (.inl g)))]) H.size U ∧ ts_KL (va_A (ts_w cL cA o sA w a f ++ [(ou, .inl (cL, 1, .inr (.inl g)))]) H.size) U)) (ts_Q post (fun u => ts_B D vwCl (ts_ty cL cA cI cZ) (va_A (ts_w cL cA o sA w a f ++ [(ou, .inl (cL, 1, .inr (.inl g)))]) H.size) (ts_w cL cA o sA w a u.1 ++ [(ou, .inl (cL, 1, .inr (.inl u.2)))])) (va_A (ts_w cL cA o sA w a f ++ [(ou, .inl (cL, 1, .inr (.inl g)))]) H.size)) mc ms (va_A (ts_w cL cA o sA w a f ++ [(ou, .inl (cL, 1, .inr (.inl g)))]) H.size))
    (cw : vx_CSW R s args own index y bytes maxL ret hh wsy rm mc ms n) (hK : va_K D vwCl (ts_ty cL cA cI cZ) s) (hKL : ts_KL A s) (hP : va_P D vwCl (ts_lw cL cA cI cZ o sA w a h pa ba ou f th P B g) H) (hD : va_D A (ts_lw cL cA cI cZ o sA w a h pa ba ou f th P B g)) (hS : va_S A s.heap H locs) (hA : ∀ q, s.heap.size ≤ q → A q) (hz : ls.size = nL)
    (hlen : As.length = n) (hst : st0 = As.reverse ++ rest) (hroom : (rest.map fun v => v.category).sum ≤ 8) (hdg : decode cc pc = .ok (.invokestatic index, 3)) (hf : cells + mc ≤ R.cells ∧ slots + ms ≤ R.slots)
    (kk : ∀ (v : Option Value) (u : (Nat → Nat → Int64) × (Nat → Int64)) (H1 : Heap) (locs1 : List Loc), post v u → va_P D vwCl (ts_lw cL cA cI cZ o sA w a h pa ba ou u.1 th P B u.2) H1 → va_D A (ts_lw cL cA cI cZ o sA w a h pa ba ou u.1 th P B u.2) → va_S A s.heap H1 locs1 → W p l e R s m args below meth c H1 locs1 (cells + mc) (slots + ms) Q (F0 m (pc + 3) ls (v.toList ++ rest))) :
    W p l e R s m args below meth c H locs cells slots Q (F0 m pc ls st0) := by
  have hC : (ts_all ++ [27]).map (fun i => (ts_lw cL cA cI cZ o sA w a h pa ba ou f th P B g)[i]?) = ((ts_w cL cA o sA w a f ++ [(ou, .inl (cL, 1, .inr (.inl g)))] : va_W)).map some := rfl
  have hPc := ts_subP hP hC
  have hDc := hD.sub (ts_all ++ [27]) (by decide) hC
  have hF := va_free (wc := ts_w cL cA o sA w a f ++ [(ou, .inl (cL, 1, .inr (.inl g)))]) hD hS hA (ts_all ++ [27]) hC
  refine ts_call0 (vx_runSW F hM cw ⟨ts_blindL, fun U hU hW => ⟨rfl, ⟨by rw [hU], by rw [hU]; exact hPc, va_K.moved hW.alike hK, hDc.weaken (fun _ _ _ _ => trivial)⟩, hKL.at hS hF hU hW⟩⟩ rfl hlen hz hst (lv_room hroom) hdg hf) hP hD hS hA hC (fun u => rfl) (fun v u H1 locs1 h1 h2 h3 h4 => ?_)
  rw [ts_lwSO] at h2 h3
  exact kk v u H1 locs1 h1 h2 h3 h4
theorem ts_callMo {post : Option Value → S → Prop} {gt : S → Int32} {gP gB : S → Nat → Int32} (F : CallFix p m c cc nL s args Ts own)
    (hM : Met l y wsy rm (va_Pc (.ref h :: As) (ts_A D vwCl (ts_ty cL cA cI cZ) (ts_mw cI cZ h pa ba th P B) H.size)) (ts_Q post (fun u => ts_B D vwCl (ts_ty cL cA cI cZ) (va_A (ts_mw cI cZ h pa ba th P B) H.size) (ts_mw cI cZ h pa ba (gt u) (gP u) (gB u))) (va_A (ts_mw cI cZ h pa ba th P B) H.size)) 0 0 (va_A (ts_mw cI cZ h pa ba th P B) H.size))
    (cw : CallW R s args own R_M index y bytes maxL ret wsy rm 0 0 n) (hK : va_K D vwCl (ts_ty cL cA cI cZ) s) (hP : va_P D vwCl (ts_lw cL cA cI cZ o sA w a h pa ba ou f th P B g) H) (hD : va_D A (ts_lw cL cA cI cZ o sA w a h pa ba ou f th P B g)) (hS : va_S A s.heap H locs) (hA : ∀ q, s.heap.size ≤ q → A q) (hz : ls.size = nL)
    (hlen : As.length = n) (hst : st0 = As.reverse ++ .ref h :: rest) (hroom : (rest.map fun v => v.category).sum ≤ 8) (hdg : decode cc pc = .ok (.invokevirtual index, 3)) (hf : cells + 0 ≤ R.cells ∧ slots + 0 ≤ R.slots)
    (kk : ∀ (v : Option Value) (u : S) (H1 : Heap) (locs1 : List Loc), post v u → va_P D vwCl (ts_lw cL cA cI cZ o sA w a h pa ba ou f (gt u) (gP u) (gB u) g) H1 → va_D A (ts_lw cL cA cI cZ o sA w a h pa ba ou f (gt u) (gP u) (gB u) g) → va_S A s.heap H1 locs1 → W p l e R s m args below meth c H1 locs1 cells slots Q (F0 m (pc + 3) ls (v.toList ++ rest))) :
    W p l e R s m args below meth c H locs cells slots Q (F0 m pc ls st0) :=
  ts_callV F hM cw hK hP hD hS hA hz [24, 25, 26] (by decide) rfl (va_recv hK hP (ci := 2) (q0 := 24) rfl rfl) (fun u => rfl) hlen hst hroom hdg hf (fun v u H1 locs1 h1 h2 h3 h4 => by
    rw [ts_lwSM] at h2 h3
    exact kk v u H1 locs1 h1 h2 h3 h4)
end TSLW
/-- answers of the two sides -/
theorem ts_nI8 {r q : Nat} (hr : r < 8) (hq : q < 8) (h : nI r = nI q) : r = q := (nI_eq (by omega) (by omega)).mp h
theorem ts_j1 {x k t : Int32} {Pk Qk : Nat → Prop} {PB QB : Prop} (h1 : (∃ r, r < 8 ∧ x = nI r ∧ k = 0 ∧ Pk r) ∨ (ts_bad x ∧ k = 1 ∧ PB)) (h2 : (∃ r, r < 8 ∧ x = nI r ∧ t = 0 ∧ Qk r) ∨ (ts_bad x ∧ t = 1 ∧ QB)) : (∃ r, r < 8 ∧ k = 0 ∧ t = 0 ∧ Pk r ∧ Qk r) ∨ (k = 1 ∧ t = 1 ∧ PB ∧ QB) := by
  rcases h1 with ⟨r, a1, a2, a3, a4⟩ | ⟨a1, a2, a3⟩ <;> rcases h2 with ⟨q, b1, b2, b3, b4⟩ | ⟨b1, b2, b3⟩
  · have e := ts_nI8 a1 b1 (a2.symm.trans b2)
    subst e
    exact Or.inl ⟨r, a1, a3, b3, a4, b4⟩
  · rw [a2] at b1; exact absurd b1 (ts_bad8 a1)
  · rw [b2] at a1; exact absurd a1 (ts_bad8 b1)
  · exact Or.inr ⟨a2, b2, a3, b3⟩
theorem ts_j2 {x y k t : Int32} {Pk Qk : Nat → Nat → Prop} (h1 : (∃ r q, r < 8 ∧ q < 8 ∧ x = nI r ∧ y = nI q ∧ k = 0 ∧ Pk r q) ∨ ((ts_bad x ∨ ts_bad y) ∧ k = 1)) (h2 : (∃ r q, r < 8 ∧ q < 8 ∧ x = nI r ∧ y = nI q ∧ t = 0 ∧ Qk r q) ∨ ((ts_bad x ∨ ts_bad y) ∧ t = 1)) : (∃ r q, k = 0 ∧ t = 0 ∧ Pk r q ∧ Qk r q) ∨ (k = 1 ∧ t = 1) := by
  rcases h1 with ⟨r, q, a1, a2, a3, a4, a5, a6⟩ | ⟨a1, a2⟩ <;> rcases h2 with ⟨r', q', b1, b2, b3, b4, b5, b6⟩ | ⟨b1, b2⟩
  · have e1 := ts_nI8 a1 b1 (a3.symm.trans b3)
    have e2 := ts_nI8 a2 b2 (a4.symm.trans b4)
    subst e1; subst e2
    exact Or.inl ⟨r, q, a5, b5, a6, b6⟩
  · rw [a3, a4] at b1; exact absurd b1 (fun z => z.elim (ts_bad8 a1) (ts_bad8 a2))
  · rw [b3, b4] at a1; exact absurd a1 (fun z => z.elim (ts_bad8 b1) (ts_bad8 b2))
  · exact Or.inr ⟨a2, b2⟩
/-- the sums' bound behind n turns -/
def ts_bn (n : Nat) (V : Nat → Int) : Prop := ∀ r, r < 8 → (V r).natAbs < 2 ^ 6372 + n * 2 ^ 6314
theorem ts_bn_lim {n : Nat} (hn : n ≤ 512) : 2 ^ 6372 + n * 2 ^ 6314 ≤ 2 ^ 6373 := by
  have h1 : n * 2 ^ 6314 ≤ 512 * 2 ^ 6314 := Nat.mul_le_mul_right _ hn
  have h2 : 512 * 2 ^ 6314 = (2 : Nat) ^ 6323 := by rw [show (512 : Nat) = 2 ^ 9 by decide, ← Nat.pow_add]
  have h3 : (2 : Nat) ^ 6323 ≤ 2 ^ 6372 := Nat.pow_le_pow_right (by decide) (by decide)
  have h4 : (2 : Nat) ^ 6373 = 2 ^ 6372 * 2 := Nat.pow_succ _ _
  omega
theorem ts_bn.l {n : Nat} {V : Nat → Int} (h : ts_bn n V) (hn : n ≤ 512) : ∀ r, r < 8 → (V r).natAbs < 2 ^ 6373 := fun r hr => Nat.lt_of_lt_of_le (h r hr) (ts_bn_lim hn)
theorem ts_bn.l80 {n : Nat} {V : Nat → Int} (h : ts_bn n V) (hn : n ≤ 512) : ∀ r, r < 8 → (V r).natAbs < 2 ^ 6380 := fun r hr => Nat.lt_of_lt_of_le (h.l hn r hr) (Nat.pow_le_pow_right (by decide) (by decide))
theorem ts_bn.l00 {n : Nat} {V : Nat → Int} (h : ts_bn n V) (hn : n ≤ 512) : ∀ r, r < 8 → (V r).natAbs < 2 ^ 6400 := fun r hr => Nat.lt_of_lt_of_le (h.l hn r hr) (Nat.pow_le_pow_right (by decide) (by decide))
theorem ts_bn.s {n : Nat} {V : Nat → Int} (h : ts_bn n V) : ts_bn (n + 1) V := by
  intro r hr
  have h1 := h r hr
  rw [Nat.add_mul, Nat.one_mul]
  omega
theorem ts_bn.set {n r : Nat} {V : Nat → Int} {x : Int} (h : ts_bn n V) (hx : x.natAbs < 2 ^ 6372 + (n + 1) * 2 ^ 6314) : ts_bn (n + 1) (va_up V r x) := by
  intro i hi
  by_cases e : i = r
  · subst e; rw [va_up_self]; exact hx
  · rw [va_up_ne _ _ e]; exact h.s i hi
theorem ts_bn.add {n r : Nat} {V : Nat → Int} {y : Int} (h : ts_bn n V) (hr : r < 8) (hy : y.natAbs < 2 ^ 6314) : ts_bn (n + 1) (va_up V r (V r + y)) := by
  refine h.set ?_
  have h1 := h r hr
  have h2 := Int.natAbs_add_le (V r) y
  rw [Nat.add_mul, Nat.one_mul]
  omega
theorem ts_bn.small {n r : Nat} {V : Nat → Int} {x : Int} (h : ts_bn n V) (hx : x.natAbs < 2 ^ 6372) : ts_bn (n + 1) (va_up V r x) := h.set (by omega)
def ts_lg (x y : Int32) : Int64 := (x.toInt64 <<< ((32 : Int32).toInt64 &&& 63)) ||| (y.toInt64 &&& 4294967295)
theorem ts_jA {x q t : Int32} {G : Prop} {Pk Qk : Nat → Prop} {PB QB : Prop} (h1 : (∃ r, r < 8 ∧ x = nI r ∧ G ∧ q = 0 ∧ Pk r) ∨ (ts_bad x ∧ q = 1 ∧ PB) ∨ ((∃ r, r < 8 ∧ x = nI r) ∧ ¬ G ∧ q = 2 ∧ PB)) (h2 : (∃ r, r < 8 ∧ x = nI r ∧ G ∧ t = 0 ∧ Qk r) ∨ (ts_bad x ∧ t = 1 ∧ QB) ∨ ((∃ r, r < 8 ∧ x = nI r) ∧ ¬ G ∧ t = 2 ∧ QB)) : (∃ r, r < 8 ∧ G ∧ q = 0 ∧ t = 0 ∧ Pk r ∧ Qk r) ∨ (t = q ∧ PB ∧ QB) := by
  rcases h1 with ⟨r, a1, a2, a3, a4, a5⟩ | ⟨a1, a2, a3⟩ | ⟨⟨r, a1, a2⟩, a3, a4, a5⟩ <;> rcases h2 with ⟨r', b1, b2, b3, b4, b5⟩ | ⟨b1, b2, b3⟩ | ⟨⟨r', b1, b2⟩, b3, b4, b5⟩
  · have e := ts_nI8 a1 b1 (a2.symm.trans b2)
    subst e
    exact Or.inl ⟨r, a1, a3, a4, b4, a5, b5⟩
  · rw [a2] at b1; exact absurd b1 (ts_bad8 a1)
  · exact absurd a3 b3
  · rw [b2] at a1; exact absurd a1 (ts_bad8 b1)
  · exact Or.inr ⟨b2.trans a2.symm, a3, b3⟩
  · rw [b2] at a1; exact absurd a1 (ts_bad8 b1)
  · exact absurd b3 a3
  · rw [a2] at b1; exact absurd b1 (ts_bad8 a1)
  · exact Or.inr ⟨b4.trans a4.symm, a5, b5⟩
theorem ts_jP {x y k t : Int32} {T : Prop} {Lm Pk Qk : Nat → Nat → Prop} {PB QB : Prop}
    (h1 : (∃ r q, r < 8 ∧ q < 8 ∧ x = nI r ∧ y = nI q ∧ T ∧ ((Lm r q ∧ k = 0 ∧ Pk r q) ∨ (¬ Lm r q ∧ k = 3 ∧ PB))) ∨ ((ts_bad x ∨ ts_bad y) ∧ k = 1 ∧ PB) ∨ ((∃ r, r < 8 ∧ x = nI r) ∧ (∃ q, q < 8 ∧ y = nI q) ∧ ¬ T ∧ k = 2 ∧ PB))
    (h2 : (∃ r q, r < 8 ∧ q < 8 ∧ x = nI r ∧ y = nI q ∧ T ∧ ((Lm r q ∧ t = 0 ∧ Qk r q) ∨ (¬ Lm r q ∧ t = 3 ∧ QB))) ∨ ((ts_bad x ∨ ts_bad y) ∧ t = 1 ∧ QB) ∨ ((∃ r, r < 8 ∧ x = nI r) ∧ (∃ q, q < 8 ∧ y = nI q) ∧ ¬ T ∧ t = 2 ∧ QB)) :
    (∃ r q, Lm r q ∧ k = 0 ∧ t = 0 ∧ Pk r q ∧ Qk r q) ∨ (t = k ∧ PB ∧ QB) := by
  have nb : ∀ {r q : Nat}, r < 8 → q < 8 → ¬ (ts_bad (nI r) ∨ ts_bad (nI q)) := fun hr hq z => z.elim (ts_bad8 hr) (ts_bad8 hq)
  rcases h1 with ⟨r, q, a1, a2, a3, a4, a5, a6⟩ | ⟨a1, a2, a3⟩ | ⟨⟨r, a1, a2⟩, ⟨q, a3, a4⟩, a5, a6, a7⟩ <;> rcases h2 with ⟨r', q', b1, b2, b3, b4, b5, b6⟩ | ⟨b1, b2, b3⟩ | ⟨⟨r', b1, b2⟩, ⟨q', b3, b4⟩, b5, b6, b7⟩
  · have e1 := ts_nI8 a1 b1 (a3.symm.trans b3)
    have e2 := ts_nI8 a2 b2 (a4.symm.trans b4)
    subst e1; subst e2
    rcases a6 with ⟨c1, c2, c3⟩ | ⟨c1, c2, c3⟩ <;> rcases b6 with ⟨d1, d2, d3⟩ | ⟨d1, d2, d3⟩
    · exact Or.inl ⟨r, q, c1, c2, d2, c3, d3⟩
    · exact absurd c1 d1
    · exact absurd d1 c1
    · exact Or.inr ⟨d2.trans c2.symm, c3, d3⟩
  · rw [a3, a4] at b1; exact absurd b1 (nb a1 a2)
  · exact absurd a5 b5
  · rw [b3, b4] at a1; exact absurd a1 (nb b1 b2)
  · exact Or.inr ⟨b2.trans a2.symm, a3, b3⟩
  · rw [b2, b4] at a1; exact absurd a1 (nb b1 b3)
  · exact absurd b5 a5
  · rw [a2, a4] at b1; exact absurd b1 (nb a1 a3)
  · exact Or.inr ⟨b6.trans a6.symm, a7, b7⟩
theorem ts_jb (q : Bool) : (¬ (if q = true then (1 : Int32) else 0) = 0 → (if q = true then (1 : Int64) else 0) = 1) ∧ ((if q = true then (1 : Int32) else 0) = 0 → (if q = true then (1 : Int64) else 0) = 0) := by
  cases q with
  | true => exact ⟨fun _ => rfl, fun h => absurd h (by decide +kernel)⟩
  | false => exact ⟨fun h => absurd rfl h, fun _ => rfl⟩
