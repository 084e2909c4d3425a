/-! a call with the whole world of the class -/
theorem ts_set_mid : ∀ (pre : va_W) (x q : Nat × va_E) (ws : va_W), (pre ++ x :: ws).set pre.length q = (pre ++ [q]) ++ ws := by
  intro pre
  induction pre with
  | nil => intro x q ws; rfl
  | cons z pre ih =>
    intro x q ws
    show z :: (pre ++ x :: ws).set pre.length q = z :: ((pre ++ [q]) ++ ws)
    rw [ih]
theorem ts_setAll : ∀ (w pre ws : va_W), ws.length = w.length → ts_set (pre ++ ws) (List.range' pre.length w.length) w = pre ++ w := by
  intro w
  induction w with
  | nil =>
    intro pre ws h
    cases ws with
    | nil => rfl
    | cons x ws => cases h
  | cons q w ih =>
    intro pre ws h
    cases ws with
    | nil => cases h
    | cons x ws =>
      have h2 : ws.length = w.length := by simpa using h
      show ts_set ((pre ++ x :: ws).set pre.length q) (List.range' (pre.length + 1) w.length) w = pre ++ q :: w
      rw [ts_set_mid]
      have h3 := ih (pre ++ [q]) ws h2
      rw [List.length_append] at h3
      exact h3.trans (by rw [List.append_assoc]; rfl)
theorem ts_allS {cL cA : ClassId} {o sA : Nat} {w a : Nat → Nat} {f g : Nat → Nat → Int64} : ts_set (ts_w cL cA o sA w a f) ts_all (ts_w cL cA o sA w a g) = ts_w cL cA o sA w a g := ts_setAll (ts_w cL cA o sA w a g) [] (ts_w cL cA o sA w a f) rfl
section TSW2
variable {p : Program} {l : Launch} {e : Env} {R : Room} {s : State} {m : MethodId} {args : Array Value} {below : List Frame} {meth : Method} {c : Code} {H : Heap} {locs : List Loc} {cells slots : Nat} {Q : State → Prop}
variable {y : MethodName} {bytes cc : ByteArray} {maxL nL n index : Nat} {ret : Option FieldType} {wsy : List Cond} {rm : Room} {Ts : List Cond} {own : String} {As rest st0 : List Value} {pc : Nat} {ls : Array Slot} {S : Type} {post : Option Value → S → Prop} {D : va_G} {A : Nat → Prop} {cL cA cI cZ : ClassId} {o sA : Nat} {w a : Nat → Nat} {f : Nat → Nat → Int64}
theorem ts_callTT {g : S → Nat → Nat → Int64} (F : CallFix p m c cc nL s args Ts own)
    (hM : Met l y wsy rm (va_Pc (.ref o :: As) (ts_A D vwCl (ts_ty cL cA cI cZ) (ts_w cL cA o sA w a f) H.size)) (ts_Q post (fun u => ts_B D vwCl (ts_ty cL cA cI cZ) (va_A (ts_w cL cA o sA w a f) H.size) (ts_w cL cA o sA w a (g u))) (va_A (ts_w cL cA o sA w a f) H.size)) 0 0 (va_A (ts_w cL cA o sA w a f) H.size))
    (cw : CallW R s args own R_T index y bytes maxL ret wsy rm 0 0 n) (hK : va_K D vwCl (ts_ty cL cA cI cZ) s) (hP : va_P D vwCl (ts_w cL cA o sA w a f) H) (hD : va_D A (ts_w cL cA o sA w a f)) (hS : va_S A s.heap H locs) (hA : ∀ q, s.heap.size ≤ q → A q) (hz : ls.size = nL)
    (hlen : As.length = n) (hst : st0 = As.reverse ++ .ref o :: rest) (hroom : (rest.map fun v => v.category).sum ≤ 8) (hdg : decode cc pc = .ok (.invokevirtual index, 3)) (hf : cells + 0 ≤ R.cells ∧ slots + 0 ≤ R.slots)
    (kk : ∀ (v : Option Value) (u : S) (H1 : Heap) (locs1 : List Loc), post v u → va_P D vwCl (ts_w cL cA o sA w a (g u)) H1 → va_D A (ts_w cL cA o sA w a (g u)) → va_S A s.heap H1 locs1 → W p l e R s m args below meth c H1 locs1 cells slots Q (F0 m (pc + 3) ls (v.toList ++ rest))) :
    W p l e R s m args below meth c H locs cells slots Q (F0 m pc ls st0) :=
  ts_callV F hM cw hK hP hD hS hA hz ts_all (by decide) ts_allE (va_recv hK hP (ci := 1) (q0 := 0) rfl rfl) (fun u => rfl) hlen hst hroom hdg hf (fun v u H1 locs1 h1 h2 h3 h4 => by
    rw [ts_allS] at h2 h3
    exact kk v u H1 locs1 h1 h2 h3 h4)
end TSW2
