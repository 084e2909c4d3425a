/-! THE CLASS's WORLD: the object, its array of sums, eleven rows (0 to 7 the sums; 8 product, 9 result, 10 size) -/
def ts_rw (cL : ClassId) (w a : Nat) (f : Nat → Int64) : va_W := [(w, .inr (0, [.ref a])), (a, .inl (cL, 200, .inr (.inl f)))]
def ts_rw2 (cL : ClassId) (w a w2 a2 : Nat) (f g : Nat → Int64) : va_W := [(w, .inr (0, [.ref a])), (a, .inl (cL, 200, .inr (.inl f))), (w2, .inr (0, [.ref a2])), (a2, .inl (cL, 200, .inr (.inl g)))]
def ts_w (cL cA : ClassId) (o sA : Nat) (w a : Nat → Nat) (f : Nat → Nat → Int64) : va_W :=
  [(o, .inr (1, [.ref sA, .ref (w 8), .ref (w 9), .ref (w 10)])), (sA, .inl (cA, 8, .inr (.inr (.inr (.inr (fun i => some (w i))))))),
   (w 0, .inr (0, [.ref (a 0)])), (a 0, .inl (cL, 200, .inr (.inl (f 0)))), (w 1, .inr (0, [.ref (a 1)])), (a 1, .inl (cL, 200, .inr (.inl (f 1)))), (w 2, .inr (0, [.ref (a 2)])), (a 2, .inl (cL, 200, .inr (.inl (f 2)))),
   (w 3, .inr (0, [.ref (a 3)])), (a 3, .inl (cL, 200, .inr (.inl (f 3)))), (w 4, .inr (0, [.ref (a 4)])), (a 4, .inl (cL, 200, .inr (.inl (f 4)))), (w 5, .inr (0, [.ref (a 5)])), (a 5, .inl (cL, 200, .inr (.inl (f 5)))),
   (w 6, .inr (0, [.ref (a 6)])), (a 6, .inl (cL, 200, .inr (.inl (f 6)))), (w 7, .inr (0, [.ref (a 7)])), (a 7, .inl (cL, 200, .inr (.inl (f 7)))), (w 8, .inr (0, [.ref (a 8)])), (a 8, .inl (cL, 200, .inr (.inl (f 8)))),
   (w 9, .inr (0, [.ref (a 9)])), (a 9, .inl (cL, 200, .inr (.inl (f 9)))), (w 10, .inr (0, [.ref (a 10)])), (a 10, .inl (cL, 200, .inr (.inl (f 10))))]
theorem ts_11 {p : Nat → Prop} (h0 : p 0) (h1 : p 1) (h2 : p 2) (h3 : p 3) (h4 : p 4) (h5 : p 5) (h6 : p 6) (h7 : p 7) (h8 : p 8) (h9 : p 9) (h10 : p 10) {r : Nat} (hr : r < 11) : p r := by
  match r, hr with
  | 0, _ => exact h0
  | 1, _ => exact h1
  | 2, _ => exact h2
  | 3, _ => exact h3
  | 4, _ => exact h4
  | 5, _ => exact h5
  | 6, _ => exact h6
  | 7, _ => exact h7
  | 8, _ => exact h8
  | 9, _ => exact h9
  | 10, _ => exact h10
theorem ts_w_row {cL cA : ClassId} {o sA : Nat} {w a : Nat → Nat} {f : Nat → Nat → Int64} {r : Nat} (hr : r < 11) : (ts_w cL cA o sA w a f)[2 + 2 * r]? = some (w r, .inr (0, [.ref (a r)])) ∧ (ts_w cL cA o sA w a f)[3 + 2 * r]? = some (a r, .inl (cL, 200, .inr (.inl (f r)))) :=
  ts_11 (p := fun r => (ts_w cL cA o sA w a f)[2 + 2 * r]? = some (w r, .inr (0, [.ref (a r)])) ∧ (ts_w cL cA o sA w a f)[3 + 2 * r]? = some (a r, .inl (cL, 200, .inr (.inl (f r)))))
    ⟨rfl, rfl⟩ ⟨rfl, rfl⟩ ⟨rfl, rfl⟩ ⟨rfl, rfl⟩ ⟨rfl, rfl⟩ ⟨rfl, rfl⟩ ⟨rfl, rfl⟩ ⟨rfl, rfl⟩ ⟨rfl, rfl⟩ ⟨rfl, rfl⟩ ⟨rfl, rfl⟩ hr
theorem ts_w_at {cL cA : ClassId} {o sA : Nat} {w a : Nat → Nat} {f : Nat → Nat → Int64} {r : Nat} (hr : r < 11) : [2 + 2 * r, 3 + 2 * r].map (fun i => (ts_w cL cA o sA w a f)[i]?) = (ts_rw cL (w r) (a r) (f r)).map some := by
  obtain ⟨h1, h2⟩ := ts_w_row (cL := cL) (cA := cA) (o := o) (sA := sA) (w := w) (a := a) (f := f) hr
  simp only [List.map_cons, List.map_nil, h1, h2]
  rfl
theorem ts_w_at2 {cL cA : ClassId} {o sA : Nat} {w a : Nat → Nat} {f : Nat → Nat → Int64} {r q : Nat} (hr : r < 11) (hq : q < 11) : [2 + 2 * r, 3 + 2 * r, 2 + 2 * q, 3 + 2 * q].map (fun i => (ts_w cL cA o sA w a f)[i]?) = (ts_rw2 cL (w r) (a r) (w q) (a q) (f r) (f q)).map some := by
  obtain ⟨h1, h2⟩ := ts_w_row (cL := cL) (cA := cA) (o := o) (sA := sA) (w := w) (a := a) (f := f) hr
  obtain ⟨h3, h4⟩ := ts_w_row (cL := cL) (cA := cA) (o := o) (sA := sA) (w := w) (a := a) (f := f) hq
  simp only [List.map_cons, List.map_nil, h1, h2, h3, h4]
  rfl
theorem ts_w_set {cL cA : ClassId} {o sA : Nat} {w a : Nat → Nat} {f : Nat → Nat → Int64} {r : Nat} {u : Nat → Int64} (hr : r < 11) : ts_set (ts_w cL cA o sA w a f) [2 + 2 * r, 3 + 2 * r] (ts_rw cL (w r) (a r) u) = ts_w cL cA o sA w a (va_up f r u) :=
  ts_11 (p := fun r => ts_set (ts_w cL cA o sA w a f) [2 + 2 * r, 3 + 2 * r] (ts_rw cL (w r) (a r) u) = ts_w cL cA o sA w a (va_up f r u)) rfl rfl rfl rfl rfl rfl rfl rfl rfl rfl rfl hr
theorem ts_nd1 (r : Nat) : va_nd [2 + 2 * r, 3 + 2 * r] = true := by
  simp only [va_nd, List.mem_cons, List.not_mem_nil, or_false, not_false_eq_true, decide_true, Bool.and_true, decide_eq_true_eq]
  omega
theorem ts_nd2 {r q : Nat} (h : r ≠ q) : va_nd [2 + 2 * r, 3 + 2 * r, 2 + 2 * q, 3 + 2 * q] = true := by
  simp only [va_nd, List.mem_cons, List.not_mem_nil, or_false, not_false_eq_true, decide_true, Bool.and_true, decide_eq_true_eq, Bool.and_eq_true]
  omega
theorem ts_up_id {α : Type} (f : Nat → α) (k : Nat) : va_up f k (f k) = f := by
  funext j
  unfold va_up
  split
  · subst_vars; rfl
  · rfl
theorem ts_w_set2 {cL cA : ClassId} {o sA : Nat} {w a : Nat → Nat} {f : Nat → Nat → Int64} {r q : Nat} {u : Nat → Int64} (hr : r < 11) (hq : q < 11) (hrq : r ≠ q) : ts_set (ts_w cL cA o sA w a f) [2 + 2 * r, 3 + 2 * r, 2 + 2 * q, 3 + 2 * q] (ts_rw2 cL (w r) (a r) (w q) (a q) u (f q)) = ts_w cL cA o sA w a (va_up f r u) := by
  have e1 : ts_set (ts_w cL cA o sA w a f) [2 + 2 * r, 3 + 2 * r, 2 + 2 * q, 3 + 2 * q] (ts_rw2 cL (w r) (a r) (w q) (a q) u (f q)) = ts_set (ts_set (ts_w cL cA o sA w a f) [2 + 2 * r, 3 + 2 * r] (ts_rw cL (w r) (a r) u)) [2 + 2 * q, 3 + 2 * q] (ts_rw cL (w q) (a q) (f q)) := rfl
  rw [e1, ts_w_set hr, ts_w_set hq]
  have e2 : f q = va_up f r u q := (va_up_ne f u (Ne.symm hrq)).symm
  rw [e2, ts_up_id]
section TSW1
variable {p : Program} {l : Launch} {e : Env} {R : Room} {s : State} {m : MethodId} {args : Array Value} {below : List Frame} {meth : Method} {c : Code} {H : Heap} {locs : List Loc} {cells slots : Nat} {Q : State → Prop}
variable {y : MethodName} {bytes cc : ByteArray} {maxL nL n index : Nat} {ret : Option FieldType} {wsy : List Cond} {rm : Room} {Ts : List Cond} {own : String} {As rest st0 : List Value} {pc : Nat} {ls : Array Slot} {S : Type} {post : Option Value → S → Prop} {D : va_G} {A : Nat → Prop} {cL cA cI cZ : ClassId} {o sA : Nat} {w a : Nat → Nat} {f : Nat → Nat → Int64}
/-- a call of a row's own method -/
theorem ts_callT1 {g : S → Nat → Int64} (r : Nat) (hr : r < 11) (F : CallFix p m c cc nL s args Ts own)
    (hM : Met l y wsy rm (va_Pc (.ref (w r) :: As) (ts_A D vwCl (ts_ty cL cA cI cZ) (ts_rw cL (w r) (a r) (f r)) H.size)) (ts_Q post (fun u => ts_B D vwCl (ts_ty cL cA cI cZ) (va_A (ts_rw cL (w r) (a r) (f r)) H.size) (ts_rw cL (w r) (a r) (g u))) (va_A (ts_rw cL (w r) (a r) (f r)) H.size)) 0 0 (va_A (ts_rw cL (w r) (a r) (f r)) H.size))
    (cw : CallW R s args own R_W index y bytes maxL ret wsy rm 0 0 n) (hK : va_K D vwCl (ts_ty cL cA cI cZ) s) (hP : va_P D vwCl (ts_w cL cA o sA w a f) H) (hD : va_D A (ts_w cL cA o sA w a f)) (hS : va_S A s.heap H locs) (hA : ∀ q, s.heap.size ≤ q → A q) (hz : ls.size = nL)
    (hlen : As.length = n) (hst : st0 = As.reverse ++ .ref (w r) :: rest) (hroom : (rest.map fun v => v.category).sum ≤ 8) (hdg : decode cc pc = .ok (.invokevirtual index, 3)) (hf : cells + 0 ≤ R.cells ∧ slots + 0 ≤ R.slots)
    (kk : ∀ (v : Option Value) (u : S) (H1 : Heap) (locs1 : List Loc), post v u → va_P D vwCl (ts_w cL cA o sA w a (va_up f r (g u))) H1 → va_D A (ts_w cL cA o sA w a (va_up f r (g u))) → va_S A s.heap H1 locs1 → W p l e R s m args below meth c H1 locs1 cells slots Q (F0 m (pc + 3) ls (v.toList ++ rest))) :
    W p l e R s m args below meth c H locs cells slots Q (F0 m pc ls st0) :=
  ts_callV F hM cw hK hP hD hS hA hz [2 + 2 * r, 3 + 2 * r] (ts_nd1 r) (ts_w_at hr) (va_recv hK hP (ci := 0) (q0 := 2 + 2 * r) rfl (ts_w_row hr).1) (fun u => rfl) hlen hst hroom hdg hf (fun v u H1 locs1 h1 h2 h3 h4 => by
    rw [ts_w_set hr] at h2 h3
    exact kk v u H1 locs1 h1 h2 h3 h4)
/-- .. with another row, which stays -/
theorem ts_callT2 {g : S → Nat → Int64} (r q : Nat) (hr : r < 11) (hq : q < 11) (hrq : r ≠ q) (F : CallFix p m c cc nL s args Ts own)
    (hM : Met l y wsy rm (va_Pc (.ref (w r) :: As) (ts_A D vwCl (ts_ty cL cA cI cZ) (ts_rw2 cL (w r) (a r) (w q) (a q) (f r) (f q)) H.size)) (ts_Q post (fun u => ts_B D vwCl (ts_ty cL cA cI cZ) (va_A (ts_rw2 cL (w r) (a r) (w q) (a q) (f r) (f q)) H.size) (ts_rw2 cL (w r) (a r) (w q) (a q) (g u) (f q))) (va_A (ts_rw2 cL (w r) (a r) (w q) (a q) (f r) (f q)) H.size)) 0 0 (va_A (ts_rw2 cL (w r) (a r) (w q) (a q) (f r) (f q)) H.size))
    (cw : CallW R s args own R_W index y bytes maxL ret wsy rm 0 0 n) (hK : va_K D vwCl (ts_ty cL cA cI cZ) s) (hP : va_P D vwCl (ts_w cL cA o sA w a f) H) (hD : va_D A (ts_w cL cA o sA w a f)) (hS : va_S A s.heap H locs) (hA : ∀ q, s.heap.size ≤ q → A q) (hz : ls.size = nL)
    (hlen : As.length = n) (hst : st0 = As.reverse ++ .ref (w r) :: rest) (hroom : (rest.map fun v => v.category).sum ≤ 8) (hdg : decode cc pc = .ok (.invokevirtual index, 3)) (hf : cells + 0 ≤ R.cells ∧ slots + 0 ≤ R.slots)
    (kk : ∀ (v : Option Value) (u : S) (H1 : Heap) (locs1 : List Loc), post v u → va_P D vwCl (ts_w cL cA o sA w a (va_up f r (g u))) H1 → va_D A (ts_w cL cA o sA w a (va_up f r (g u))) → va_S A s.heap H1 locs1 → W p l e R s m args below meth c H1 locs1 cells slots Q (F0 m (pc + 3) ls (v.toList ++ rest))) :
    W p l e R s m args below meth c H locs cells slots Q (F0 m pc ls st0) :=
  ts_callV F hM cw hK hP hD hS hA hz [2 + 2 * r, 3 + 2 * r, 2 + 2 * q, 3 + 2 * q] (ts_nd2 hrq) (ts_w_at2 hr hq) (va_recv hK hP (ci := 0) (q0 := 2 + 2 * r) rfl (ts_w_row hr).1) (fun u => rfl) hlen hst hroom hdg hf (fun v u H1 locs1 h1 h2 h3 h4 => by
    rw [ts_w_set2 hr hq hrq] at h2 h3
    exact kk v u H1 locs1 h1 h2 h3 h4)
end TSW1
abbrev ts_all : List Nat := [0, 1, 2, 3, 4, 5, 6, 7, 8, 9, 10, 11, 12, 13, 14, 15, 16, 17, 18, 19, 20, 21, 22, 23]
theorem ts_allE {cL cA : ClassId} {o sA : Nat} {w a : Nat → Nat} {f : Nat → Nat → Int64} : ts_all.map (fun i => (ts_w cL cA o sA w a f)[i]?) = (ts_w cL cA o sA w a f).map some := rfl
theorem ts_sign_b (x : Int) : -1 ≤ x.sign ∧ x.sign ≤ 1 := by
  rcases Int.lt_trichotomy x 0 with h | h | h
  · rw [Int.sign_eq_neg_one_of_neg h]; omega
  · subst h; decide
  · rw [Int.sign_eq_one_of_pos h]; omega
