/-! a method's start, with more known of the state -/
section TSMK
variable {l : Launch} {y : MethodName} {cc : ByteArray} {maxL mc ms : Nat} {ret : Option FieldType} {wsy : List Cond} {rm : Room} {S : Type} {post : Option Value → S → Prop} {mk : S → va_W} {D : va_G} {cl : List vw_C} {tys : List (ClassId × FieldType)} {ws : va_W}
theorem ts_metK {as : List Value} {sz : Nat} {ws' : List Cond} {K : State → Prop} (hy : plainName y.cls = true) (hw : wsy = Cond.code y cc maxL ret :: ws') (hlen : (lg_sl as).length ≤ maxL)
    (body : ∀ (p : Program) (e : Env) (s : State) (m : MethodId) (below : List Frame) (meth : Method) (c : Code), p.tables.exec = Jvm.exec → c.code = cc → meth.sig.returnType = ret → c.maxLocals = maxL → s.vm.findClass y.cls = some m.cls → (∀ w ∈ wsy, w.before as.toArray s = true) → meth.locks = false → meth.name = y.name → K s → ∀ (A : Nat → Prop), (∀ q, s.heap.size ≤ q → A q) → A = va_A ws s.heap.size → va_K D cl tys s → va_P D cl ws s.heap → va_D A ws → va_S A s.heap s.heap [] → s.heap.size = sz → ∀ (ls : Array Slot), lv_has ls maxL (lv_args 0 as) →
      W p l e rm s m as.toArray below meth c s.heap [] 0 0 (MQ below (ts_Q post (fun u => ts_B D cl tys A (mk u)) A) as.toArray s mc ms A) (F0 m 0 ls [])) :
    Met l y wsy rm (va_Pc as (fun U => ts_A D cl tys ws sz U ∧ K U)) (ts_Q post (fun u => ts_B D cl tys (va_A ws sz) (mk u)) (va_A ws sz)) mc ms (va_A ws sz) := by
  refine Met.ofW (cc := cc) (maxL := maxL) (ret := ret) hy hw ?_
  intro p e s m args below meth c s₁ B hml hv
  obtain ⟨rfl, ⟨hsz, hP, hK, hD0⟩, hKs⟩ := hv
  have hts := atoms_spec (ws := wsy) B.pre
  have hown : s.vm.findClass y.cls = some m.cls := findClass_of_methodNamed B.named
  subst hsz
  have hl := lv_entry as (n := maxL) hlen
  rw [lg_entry_eq]
  generalize (lg_sl as ++ List.replicate (maxL - (lg_sl as).length) Slot.unset).toArray = ls at hl ⊢
  exact body p e s m below meth c B.exec B.bytes B.returns hml hown hts B.notSynchronized (name_of_methodNamed B.named B.method).1 hKs _ (fun q h => Or.inr h) rfl hK hP (hD0.self) va_S.rf rfl ls hl
end TSMK
theorem ts_8 {p : Nat → Prop} (h0 : p 0) (h1 : p 1) (h2 : p 2) (h3 : p 3) (h4 : p 4) (h5 : p 5) (h6 : p 6) (h7 : p 7) {r : Nat} (hr : r < 8) : p r := by
  match r, hr with
  | 0, _ => exact h0
  | 1, _ => exact h1
  | 2, _ => exact h2
  | 3, _ => exact h3
  | 4, _ => exact h4
  | 5, _ => exact h5
  | 6, _ => exact h6
  | 7, _ => exact h7
def ts_at11 (a b c d e f g h i j k : Nat) : Nat → Nat := fun n => match n with
  | 0 => a
  | 1 => b
  | 2 => c
  | 3 => d
  | 4 => e
  | 5 => f
  | 6 => g
  | 7 => h
  | 8 => i
  | 9 => j
  | _ => k
def ts_KT (U : State) : Prop := va_Nw (.methodLinkNest R_T 15 y_W_init R_T) U ∧ va_AO R_W U
