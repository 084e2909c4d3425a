/-! CALLS, ENDS AND LOOPS over worlds whose addresses stay -/
abbrev ts_rm (n : Nat) : Room := { frames := n, cells := 0, slots := 0, locals := 36 * n }
abbrev ts_ty (cL cA cI cZ : ClassId) : List (ClassId × FieldType) := [(cL, .long), (cA, .object "TripleSums$Whole"), (cI, .int), (cZ, .boolean)]
def ts_A (D : va_G) (cl : List vw_C) (tys : List (ClassId × FieldType)) (ws : va_W) (sz : Nat) (U : State) : Prop := U.heap.size = sz ∧ va_P D cl ws U.heap ∧ va_K D cl tys U ∧ va_D (fun _ => True) ws
def ts_B (D : va_G) (cl : List vw_C) (tys : List (ClassId × FieldType)) (A : Nat → Prop) (w : va_W) (t : State) : Prop := va_P D cl w t.heap ∧ va_K D cl tys t ∧ va_D A w
def ts_Q {S : Type} (post : Option Value → S → Prop) (B : S → State → Prop) (A : Nat → Prop) : Array Value → State → Outcome → State → Prop := fun _ st oc t => (∃ (v : Option Value) (u : S), oc = .returned v ∧ post v u ∧ B u t) ∧ va_F A st t
theorem ts_blind {D : va_G} {cl : List vw_C} {tys : List (ClassId × FieldType)} {ws : va_W} {sz : Nat} {as : List Value} : FrameBlind (va_Pc as (ts_A D cl tys ws sz)) := by
  intro a U g mk q
  obtain ⟨q0, q1, qP, qK, qD⟩ := q
  exact ⟨q0, q1, qP, va_K.moved (u := U) (U := U.calling g mk a) (Vm.Alike.refl U.vm) qK, qD⟩
theorem ts_at {ws w : va_W} {is : List Nat} (hs : is.map (fun i => ws[i]?) = w.map some) : ∀ (k : Nat) (q : Nat × va_E), w[k]? = some q → ∃ i, is[k]? = some i ∧ ws[i]? = some q := by
  intro k q hq
  have h1 : (is.map (fun i => ws[i]?))[k]? = some (some q) := by rw [hs, List.getElem?_map, hq]; rfl
  rw [List.getElem?_map] at h1
  cases hi : is[k]? with
  | none => rw [hi] at h1; cases h1
  | some i => rw [hi] at h1; exact ⟨i, rfl, Option.some.inj h1⟩
theorem ts_subP {D : va_G} {cl : List vw_C} {ws w : va_W} {H : Heap} {is : List Nat} (hP : va_P D cl ws H) (hs : is.map (fun i => ws[i]?) = w.map some) : va_P D cl w H := by
  intro k q hq
  obtain ⟨i, -, h2⟩ := ts_at hs k q hq
  exact hP i q h2
/-- the cells at the places 'is' put anew -/
def ts_set (ws : va_W) : List Nat → va_W → va_W
  | i :: is, q :: w => ts_set (ws.set i q) is w
  | _, _ => ws
theorem ts_set_get : ∀ (is : List Nat) (w ws : va_W) (k : Nat) (q : Nat × va_E), (ts_set ws is w)[k]? = some q → (∃ j : Nat, is[j]? = some k ∧ w[j]? = some q) ∨ (ws[k]? = some q ∧ (is.length = w.length → k ∉ is)) := by
  intro is
  induction is with
  | nil =>
    intro w ws k q h
    refine Or.inr ⟨?_, fun _ => List.not_mem_nil⟩
    cases w <;> exact h
  | cons i is ih =>
    intro w ws k q h
    cases w with
    | nil => exact Or.inr ⟨h, fun z => by cases z⟩
    | cons q0 w =>
      rcases ih w (ws.set i q0) k q h with ⟨j, h1, h2⟩ | ⟨h1, h2⟩
      · exact Or.inl ⟨j + 1, by simpa using h1, by simpa using h2⟩
      · by_cases hk : i = k
        · subst hk
          rw [List.getElem?_set_self'] at h1
          cases hw : ws[i]? with
          | none => rw [hw] at h1; cases h1
          | some z =>
            rw [hw] at h1
            exact Or.inl ⟨0, rfl, by simpa using h1⟩
        · rw [List.getElem?_set_ne hk] at h1
          refine Or.inr ⟨h1, fun hl hm => ?_⟩
          have hl' : is.length = w.length := by simpa using hl
          rcases List.mem_cons.mp hm with h3 | h3
          · exact hk h3.symm
          · exact h2 hl' h3
theorem ts_join {A0 : Nat → Prop} {D : va_G} {cl : List vw_C} {ws wc w1 : va_W} {H H1 : Heap} {is : List Nat} (hP : va_P D cl ws H) (hD : va_D A0 ws) (hC : is.map (fun i => ws[i]?) = wc.map some) (ha : w1.map (fun q => q.1) = wc.map (fun q => q.1))
    (hk : ∀ q : Nat, q < H.size → ¬ va_A wc H.size q → H1[q]? = H[q]?) (hP1 : va_P D cl w1 H1) : va_P D cl (ts_set ws is w1) H1 ∧ va_D A0 (ts_set ws is w1) := by
  have hl1 : is.length = wc.length := by simpa using congrArg List.length hC
  have hl2 : w1.length = wc.length := by simpa using congrArg List.length ha
  have adr : ∀ (k : Nat) (q : Nat × va_E), (ts_set ws is w1)[k]? = some q → ∃ q0, ws[k]? = some q0 ∧ q0.1 = q.1 := by
    intro k q h
    rcases ts_set_get is w1 ws k q h with ⟨j, h1, h2⟩ | ⟨h1, -⟩
    · have h3 : (w1.map (fun q => q.1))[j]? = some q.1 := by rw [List.getElem?_map, h2]; rfl
      rw [ha, List.getElem?_map] at h3
      cases hw : wc[j]? with
      | none => rw [hw] at h3; cases h3
      | some z =>
        rw [hw] at h3
        obtain ⟨i, h4, h5⟩ := ts_at hC j z hw
        cases h4.symm.trans h1
        exact ⟨z, h5, Option.some.inj h3⟩
    · exact ⟨q, h1, rfl⟩
  refine ⟨fun k q h => ?_, fun i j x y hi hj hxy => ?_, fun k q h => ?_⟩
  · rcases ts_set_get is w1 ws k q h with ⟨j, h1, h2⟩ | ⟨h1, h2⟩
    · exact hP1 j q h2
    · have hlt := (hP k q h1).lt
      refine (hP k q h1).kept (hk q.1 hlt (fun z => ?_))
      rcases z with ⟨j, e, hj⟩ | z
      · obtain ⟨i, h4, h5⟩ := ts_at hC j _ hj
        have hki := hD.1 k i q (q.1, e) h1 h5 rfl
        subst hki
        exact h2 (by omega) (List.mem_of_getElem? h4)
      · omega
  · obtain ⟨x0, a1, a2⟩ := adr i x hi
    obtain ⟨y0, b1, b2⟩ := adr j y hj
    exact hD.1 i j x0 y0 a1 b1 (by rw [a2, b2, hxy])
  · obtain ⟨x0, a1, a2⟩ := adr k q h
    rw [← a2]
    exact hD.2 k x0 a1
section TSK
variable {p : Program} {l : Launch} {e : Env} {R : Room} {s : State} {m : MethodId} {args : Array Value} {below : List Frame} {meth : Method} {c : Code} {H : Heap} {locs : List Loc} {cells slots : Nat} {Q : State → Prop}
variable {y : MethodName} {bytes cc : ByteArray} {maxL nL mc ms n index : Nat} {ret : Option FieldType} {wsy : List Cond} {rm : Room} {Ts : List Cond} {own C : String} {b : Addr} {As rest st0 : List Value} {pc : Nat} {ls : Array Slot} {S : Type} {post : Option Value → S → Prop} {mk : S → va_W} {D : va_G} {cl : List vw_C} {tys : List (ClassId × FieldType)} {ws wc : va_W} {A : Nat → Prop}
theorem ts_ret {t : State} {u : S} {v : Option Value} (hP : va_P D cl (mk u) H) (hD : va_D A (mk u)) (hK : va_K D cl tys s) (hS : va_S A s.heap H locs) (hp : post v u) (ht : t.heap = H) (hW : s.WarmedH t.vm) : ts_Q post (fun u => ts_B D cl tys A (mk u)) A args s (.returned v) t :=
  ⟨⟨v, u, rfl, hp, by rw [ht]; exact hP, va_K.moved hW.alike hK, hD⟩, hS.F ht⟩
theorem ts_call0 (hr : va_Run p l e R s m args below meth c H locs cells slots mc ms (F0 m pc ls st0) rest (ts_Q post (fun u => ts_B D cl tys (va_A wc H.size) (mk u)) (va_A wc H.size) As.toArray) (va_A wc H.size))
    (hP : va_P D cl ws H) (hD : va_D A ws) (hS : va_S A s.heap H locs) (hA : ∀ q, s.heap.size ≤ q → A q) {is : List Nat} (hC : is.map (fun i => ws[i]?) = wc.map some) (ha : ∀ u, (mk u).map (fun q => q.1) = wc.map (fun q => q.1))
    (kk : ∀ (v : Option Value) (u : S) (H1 : Heap) (locs1 : List Loc), post v u → va_P D cl (ts_set ws is (mk u)) H1 → va_D A (ts_set ws is (mk u)) → va_S A s.heap H1 locs1 → W p l e R s m args below meth c H1 locs1 (cells + mc) (slots + ms) Q (F0 m (pc + 3) ls (v.toList ++ rest))) :
    W p l e R s m args below meth c H locs cells slots Q (F0 m pc ls st0) := by
  have hF := va_free (wc := wc) hD hS hA is hC
  intro T hT X
  obtain ⟨v, st₀, t, T', L, h0, X', hL, e1, e2, ⟨⟨v2, u, hv, hp, hb⟩, hz, hk⟩, st⟩ := hr T hT X
  cases hv
  rw [h0] at hz hk
  obtain ⟨hb1, -, -⟩ := hb
  obtain ⟨hP', hD'⟩ := ts_join hP hD hC (ha u) hk hb1
  rw [← e1] at hP'
  obtain ⟨t2, a1, b1⟩ := kk v u T'.heap (locs ++ L) hp hP' hD'
    ⟨Nat.le_trans hS.1 (by rw [e1]; exact hz), fun q h1 h2 => by rw [e1, hk q (Nat.lt_of_lt_of_le h1 hS.1) (fun z => h2 (hF q z))]; exact hS.2.1 q h1 h2, fun q hq => by
      rcases List.mem_append.mp hq with h | h
      · exact hS.2.2 q h
      · exact hF _ (hL q h)⟩ T' rfl X'
  exact ⟨t2, st t2 a1, b1⟩
theorem ts_callV (F : CallFix p m c cc nL s args Ts own)
    (hM : Met l y wsy rm (va_Pc (.ref b :: As) (ts_A D cl tys wc H.size)) (ts_Q post (fun u => ts_B D cl tys (va_A wc H.size) (mk u)) (va_A wc H.size)) mc ms (va_A wc H.size)) (cw : CallW R s args own C index y bytes maxL ret wsy rm mc ms n)
    (hK : va_K D cl tys s) (hP : va_P D cl ws H) (hD : va_D A ws) (hS : va_S A s.heap H locs) (hA : ∀ q, s.heap.size ≤ q → A q) (hz : ls.size = nL) (is : List Nat) (hn : va_nd is = true) (hC : is.map (fun i => ws[i]?) = wc.map some)
    (hrec : ∃ cell : Cell, H[b]? = some cell ∧ cell.vm.isStatics = false ∧ s.vm.findClass C = some cell.cls) (ha : ∀ u, (mk u).map (fun q => q.1) = wc.map (fun q => q.1)) (hlen : As.length = n) (hst : st0 = As.reverse ++ .ref b :: rest) (hroom : (rest.map fun v => v.category).sum ≤ 8) (hdg : decode cc pc = .ok (.invokevirtual index, 3)) (hf : cells + mc ≤ R.cells ∧ slots + ms ≤ R.slots)
    (kk : ∀ (v : Option Value) (u : S) (H1 : Heap) (locs1 : List Loc), post v u → va_P D cl (ts_set ws is (mk u)) H1 → va_D A (ts_set ws is (mk u)) → va_S A s.heap H1 locs1 → W p l e R s m args below meth c H1 locs1 (cells + mc) (slots + ms) Q (F0 m (pc + 3) ls (v.toList ++ rest))) :
    W p l e R s m args below meth c H locs cells slots Q (F0 m pc ls st0) := by
  have hPc := ts_subP hP hC
  have hDc := hD.sub is hn hC
  exact ts_call0 (va_runV F hM cw ⟨ts_blind, hrec, fun U hU hW => ⟨rfl, by rw [hU], by rw [hU]; exact hPc, va_K.moved hW.alike hK, hDc.weaken (fun _ _ _ _ => trivial)⟩⟩ rfl hlen hz hst (lv_room hroom) hdg hf) hP hD hS hA hC ha kk
theorem ts_callS (F : CallFix p m c cc nL s args Ts own)
    (hM : Met l y wsy rm (va_Pc As (ts_A D cl tys wc H.size)) (ts_Q post (fun u => ts_B D cl tys (va_A wc H.size) (mk u)) (va_A wc H.size)) mc ms (va_A wc H.size)) (cw : CallB R s args own index y bytes maxL ret wsy rm mc ms n ∧ (Cond.static y).before args s = true)
    (hK : va_K D cl tys s) (hP : va_P D cl ws H) (hD : va_D A ws) (hS : va_S A s.heap H locs) (hA : ∀ q, s.heap.size ≤ q → A q) (hz : ls.size = nL) (is : List Nat) (hn : va_nd is = true) (hC : is.map (fun i => ws[i]?) = wc.map some)
    (ha : ∀ u, (mk u).map (fun q => q.1) = wc.map (fun q => q.1)) (hlen : As.length = n) (hst : st0 = As.reverse ++ rest) (hroom : (rest.map fun v => v.category).sum ≤ 8) (hdg : decode cc pc = .ok (.invokestatic index, 3)) (hf : cells + mc ≤ R.cells ∧ slots + ms ≤ R.slots)
    (kk : ∀ (v : Option Value) (u : S) (H1 : Heap) (locs1 : List Loc), post v u → va_P D cl (ts_set ws is (mk u)) H1 → va_D A (ts_set ws is (mk u)) → va_S A s.heap H1 locs1 → W p l e R s m args below meth c H1 locs1 (cells + mc) (slots + ms) Q (F0 m (pc + 3) ls (v.toList ++ rest))) :
    W p l e R s m args below meth c H locs cells slots Q (F0 m pc ls st0) := by
  have hPc := ts_subP hP hC
  have hDc := hD.sub is hn hC
  exact ts_call0 (va_runS F hM cw ⟨ts_blind, fun U hU hW => ⟨rfl, by rw [hU], by rw [hU]; exact hPc, va_K.moved hW.alike hK, hDc.weaken (fun _ _ _ _ => trivial)⟩⟩ rfl hlen hz hst (lv_room hroom) hdg hf) hP hD hS hA hC ha kk
/-- a method's start -/
theorem ts_met {as : List Value} {sz : Nat} {ws' : List Cond} (hy : plainName y.cls = true) (hw : wsy = Cond.code y cc maxL ret :: ws') (hlen : (lg_sl as).length ≤ maxL)
    (body : ∀ (p : Program) (e : Env) (s : State) (m : MethodId) (below : List Frame) (meth : Method) (c : Code), p.tables.exec = Jvm.exec → c.code = cc → meth.sig.returnType = ret → c.maxLocals = maxL → s.vm.findClass y.cls = some m.cls → (∀ w ∈ wsy, w.before as.toArray s = true) → meth.locks = false → meth.name = y.name → ∀ (A : Nat → Prop), (∀ q, s.heap.size ≤ q → A q) → A = va_A ws s.heap.size → va_K D cl tys s → va_P D cl ws s.heap → va_D A ws → va_S A s.heap s.heap [] → s.heap.size = sz → ∀ (ls : Array Slot), lv_has ls maxL (lv_args 0 as) →
      W p l e rm s m as.toArray below meth c s.heap [] 0 0 (MQ below (ts_Q post (fun u => ts_B D cl tys A (mk u)) A) as.toArray s mc ms A) (F0 m 0 ls [])) :
    Met l y wsy rm (va_Pc as (ts_A D cl tys ws sz)) (ts_Q post (fun u => ts_B D cl tys (va_A ws sz) (mk u)) (va_A ws sz)) mc ms (va_A ws sz) := by
  refine Met.ofW (cc := cc) (maxL := maxL) (ret := ret) hy hw ?_
  intro p e s m args below meth c s₁ B hml hv
  obtain ⟨rfl, hsz, hP, hK, hD0⟩ := hv
  have hts := atoms_spec (ws := wsy) B.pre
  have hown : s.vm.findClass y.cls = some m.cls := findClass_of_methodNamed B.named
  subst hsz
  have hl := lv_entry as (n := maxL) hlen
  rw [lg_entry_eq]
  generalize (lg_sl as ++ List.replicate (maxL - (lg_sl as).length) Slot.unset).toArray = ls at hl ⊢
  exact body p e s m below meth c B.exec B.bytes B.returns hml hown hts B.notSynchronized (name_of_methodNamed B.named B.method).1 _ (fun q h => Or.inr h) rfl hK hP (hD0.self) va_S.rf rfl ls hl
/-- a loop that counts up to N -/
theorem ts_lp {σ : Type} {H0 : Heap} (N : Nat) (I : Nat → σ → Prop) (mk : Nat → σ → va_W) (lc : Nat → σ → List (Nat × Value)) {st : List Value} (i0 : Nat) (u0 : σ)
    (hstep : ∀ (i : Nat) (u : σ), i < N → I i u → (∀ (u' : σ), I (i + 1) u' → ∀ (H : Heap) (locs : List Loc), va_P D cl (mk (i + 1) u') H → va_D A (mk (i + 1) u') → va_S A H0 H locs → ∀ (ls : Array Slot), lv_has ls nL (lc (i + 1) u') → W p l e R s m args below meth c H locs cells slots Q (F0 m pc ls st)) →
      ∀ (H : Heap) (locs : List Loc), va_P D cl (mk i u) H → va_D A (mk i u) → va_S A H0 H locs → ∀ (ls : Array Slot), lv_has ls nL (lc i u) → W p l e R s m args below meth c H locs cells slots Q (F0 m pc ls st))
    (hend : ∀ (u : σ), I N u → ∀ (H : Heap) (locs : List Loc), va_P D cl (mk N u) H → va_D A (mk N u) → va_S A H0 H locs → ∀ (ls : Array Slot), lv_has ls nL (lc N u) → W p l e R s m args below meth c H locs cells slots Q (F0 m pc ls st))
    (hi : i0 ≤ N) (h0 : I i0 u0) (hP : va_P D cl (mk i0 u0) H) (hD : va_D A (mk i0 u0)) (hS : va_S A H0 H locs) (hl : lv_has ls nL (lc i0 u0)) : W p l e R s m args below meth c H locs cells slots Q (F0 m pc ls st) := by
  have key : ∀ (n i : Nat) (u : σ), i + n = N → I i u → ∀ (H : Heap) (locs : List Loc), va_P D cl (mk i u) H → va_D A (mk i u) → va_S A H0 H locs → ∀ (ls : Array Slot), lv_has ls nL (lc i u) → W p l e R s m args below meth c H locs cells slots Q (F0 m pc ls st) := by
    intro n
    induction n with
    | zero =>
      intro i u h
      have : i = N := by omega
      subst this
      exact hend u
    | succ n ih =>
      intro i u h hI
      exact hstep i u (by omega) hI (fun u' hI' => ih (i + 1) u' (by omega) hI')
  exact key (N - i0) i0 u0 (by omega) h0 H locs hP hD hS ls hl
/-- a place that several roads come to -/
theorem ts_cut {σ : Type} (pc' : Nat) (st' : List Value) (I : σ → Prop) (lc : σ → List (Nat × Value)) (hk : ∀ (u : σ) (ls : Array Slot), I u → lv_has ls nL (lc u) → W p l e R s m args below meth c H locs cells slots Q (F0 m pc' ls st'))
    (h : (∀ (u : σ) (ls : Array Slot), I u → lv_has ls nL (lc u) → W p l e R s m args below meth c H locs cells slots Q (F0 m pc' ls st')) → W p l e R s m args below meth c H locs cells slots Q (F0 m pc ls st0)) : W p l e R s m args below meth c H locs cells slots Q (F0 m pc ls st0) := h hk
end TSK
