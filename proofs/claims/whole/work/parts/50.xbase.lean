/-! THROWS: what is known of the state for them; methods that throw; calls of them -/
abbrev ts_IO : String := "java/lang/IndexOutOfBoundsException"
abbrev ts_IA : String := "java/lang/IllegalArgumentException"
abbrev ts_IS : String := "java/lang/IllegalStateException"
abbrev ts_RE : List String := ["java/lang/RuntimeException", "java/lang/Exception"]
def ts_sinit (C : String) : MethodName := ⟨C, "<init>", "(Ljava/lang/String;)V"⟩
def ts_Bx : List Cond := [.castable ts_IO ts_IO, .castable ts_IA ts_IA, .castable ts_IS ts_IS, .declares (ts_sinit "java/lang/Throwable"), .declares (ts_sinit "java/lang/Exception"), .declares (ts_sinit "java/lang/RuntimeException")]
/-- what holds at every state of the run -/
def ts_KN (U : State) : Prop := ((∃ a, vk_R R_T 102 "there is no such sum" a U) ∧ (∃ a, vk_R R_T 110 "the bits are no finite number" a U) ∧ (∃ a, vk_R R_T 115 "times is not -1000000 .. 1000000" a U) ∧ ∃ a, vk_R R_T 73 "the sum's size would be 2^3150 or more" a U) ∧ ∀ w ∈ ts_Bx, va_Nw w U
theorem ts_KN.warm {s U : State} (hW : s.WarmedH U.vm) (h : ts_KN s) : ts_KN U := by
  obtain ⟨⟨⟨a1, h1⟩, ⟨a2, h2⟩, ⟨a3, h3⟩, ⟨a4, h4⟩⟩, hB⟩ := h
  refine ⟨⟨⟨a1, h1.warm hW⟩, ⟨a2, h2.warm hW⟩, ⟨a3, h3.warm hW⟩, ⟨a4, h4.warm hW⟩⟩, fun w hw => ?_⟩
  have h9 := hB w hw
  unfold ts_Bx at hw
  rcases List.mem_cons.mp hw with e | hw
  · rw [e] at h9 ⊢; exact h9.warmC hW
  rcases List.mem_cons.mp hw with e | hw
  · rw [e] at h9 ⊢; exact h9.warmC hW
  rcases List.mem_cons.mp hw with e | hw
  · rw [e] at h9 ⊢; exact h9.warmC hW
  rcases List.mem_cons.mp hw with e | hw
  · rw [e] at h9 ⊢; exact h9.warmD hW
  rcases List.mem_cons.mp hw with e | hw
  · rw [e] at h9 ⊢; exact h9.warmD hW
  rcases List.mem_cons.mp hw with e | hw
  · rw [e] at h9 ⊢; exact h9.warmD hW
  cases hw
theorem ts_KN.same {u U : State} (hv : U.vm = u.vm) (h : ts_KN u) : ts_KN U := by
  obtain ⟨⟨⟨a1, h1⟩, ⟨a2, h2⟩, ⟨a3, h3⟩, ⟨a4, h4⟩⟩, hB⟩ := h
  refine ⟨⟨⟨a1, h1.same hv⟩, ⟨a2, h2.same hv⟩, ⟨a3, h3.same hv⟩, ⟨a4, h4.same hv⟩⟩, fun w hw => ?_⟩
  have h9 := hB w hw
  refine va_Nw.same ?_ hv.symm h9
  unfold ts_Bx at hw
  simp only [List.mem_cons, List.not_mem_nil, or_false] at hw
  rcases hw with e | e | e | e | e | e <;> rw [e] <;> rfl
def ts_KZ (F : Nat → Prop) (U : State) (H : Heap) : Prop := vx_Zq Bundle.tN "UNASSIGNED_STACK" Bundle.steD F U H ∧ vx_Zq Bundle.tN "SUPPRESSED_SENTINEL" Bundle.listD F U H
def ts_KX (F : Nat → Prop) (U : State) : Prop := ts_KZ F U U.heap ∧ ts_KN U
theorem ts_KX.at {A F : Nat → Prop} {s U : State} {H : Heap} {locs : List Loc} (h : ts_KX A s) (hS : va_S A s.heap H locs) (hF : ∀ q, F q → A q) (hU : U.heap = H) (hW : s.WarmedH U.vm) : ts_KX F U := by
  obtain ⟨⟨h1, h2⟩, h3⟩ := h
  refine ⟨⟨?_, ?_⟩, h3.warm hW⟩
  · rw [hU]; exact ((h1.kept (fun a ha hn => hS.2.1 a ha hn)).narrow hF).moved hW.alike
  · rw [hU]; exact ((h2.kept (fun a ha hn => hS.2.1 a ha hn)).narrow hF).moved hW.alike
def ts_X {S : Type} (EN : String) (px : S → Prop) (B : S → State → Prop) (A : Nat → Prop) : String → State → State → Prop := fun E st t => E = EN ∧ (∃ u, px u ∧ B u t) ∧ va_F A st t
theorem ts_blindX {D : va_G} {cl : List vw_C} {tys : List (ClassId × FieldType)} {ws : va_W} {sz : Nat} {as : List Value} {F : Nat → Prop} : FrameBlind (va_Pc as (fun U => ts_A D cl tys ws sz U ∧ ts_KX F U)) := by
  intro a U g mk q
  obtain ⟨q0, ⟨q1, qP, qK, qD⟩, ⟨z1, z2⟩, zN⟩ := q
  exact ⟨q0, ⟨q1, qP, va_K.moved (u := U) (U := U.calling g mk a) (Vm.Alike.refl U.vm) qK, qD⟩, ⟨z1.moved (u := U) (U := U.calling g mk a) (Vm.Alike.refl U.vm), z2.moved (u := U) (U := U.calling g mk a) (Vm.Alike.refl U.vm)⟩, ts_KN.same (u := U) (U := U.calling g mk a) rfl zN⟩
section TSX
variable {p : Program} {l : Launch} {e : Env} {R : Room} {s : State} {m : MethodId} {args : Array Value} {below : List Frame} {meth : Method} {c : Code} {H : Heap} {locs : List Loc} {cells slots : Nat} {Q : State → Prop}
variable {y : MethodName} {bytes cc : ByteArray} {maxL nL mc ms n index : Nat} {ret : Option FieldType} {wsy : List Cond} {rm : Room} {Ts : List Cond} {own C EN : String} {b : Addr} {As rest st0 : List Value} {pc : Nat} {ls : Array Slot} {S : Type} {px : S → Prop} {mk : S → va_W} {D : va_G} {cl : List vw_C} {tys : List (ClassId × FieldType)} {ws wc : va_W} {A : Nat → Prop}
theorem ts_callX0 (hr : vx_Run p l e R s m args below meth c H locs cells slots mc ms (F0 m pc ls st0) rest (fun _ _ _ => False) (ts_X EN px (fun u => ts_B D cl tys (va_A wc H.size) (mk u)) (va_A wc H.size)) (va_A wc H.size))
    (hP : va_P D cl ws H) (hD : va_D A ws) (hS : va_S A s.heap H locs) (hA : ∀ q, s.heap.size ≤ q → A q) {is : List Nat} (hC : is.map (fun i => ws[i]?) = wc.map some) (ha : ∀ u, (mk u).map (fun q => q.1) = wc.map (fun q => q.1))
    (kx : ∀ (ce : Cell) (q9 : Addr) (u : S) (H1 : Heap) (locs1 : List Loc), px u → va_P D cl (ts_set ws is (mk u)) H1 → va_D A (ts_set ws is (mk u)) → va_S A s.heap H1 locs1 → H1[q9]? = some ce → ce.vm = .none → s.vm.findClass EN = some ce.cls → vx_W p l e R s m args below meth c H1 locs1 (cells + mc) (slots + ms) Q (F0 m pc ls rest) q9) :
    W p l e R s m args below meth c H locs cells slots Q (F0 m pc ls st0) := by
  have hF := va_free (wc := wc) hD hS hA is hC
  intro T hT X
  rcases hr T hT X with ⟨v, st₀, t, T', L, h0, X', hL, e1, e2, hf, st⟩ | ⟨q, st₀, t, T', L, E, ce, h0, X', hL, e1, e2, ⟨rfl, ⟨u, hp, hb⟩, hz, hk⟩, hce, hcv, hcl, st⟩
  · exact hf.elim
  · rw [h0] at hz hk
    obtain ⟨hb1, -, -⟩ := hb
    obtain ⟨hP', hD'⟩ := ts_join hP hD hC (ha u) hk hb1
    rw [← e1] at hP'
    obtain ⟨t2, a1, b1⟩ := kx ce q u T'.heap (locs ++ L) hp hP' hD'
      ⟨Nat.le_trans hS.1 (by rw [e1]; exact hz), fun q h1 h2 => by rw [e1, hk q (Nat.lt_of_lt_of_le h1 hS.1) (fun z => h2 (hF q z))]; exact hS.2.1 q h1 h2, fun q hq => by
        rcases List.mem_append.mp hq with h | h
        · exact hS.2.2 q h
        · exact hF _ (hL q h)⟩ (by rw [e1]; exact hce) hcv hcl T' rfl X'
    exact ⟨t2, st.trans a1, b1⟩
theorem ts_callXV (F : CallFix p m c cc nL s args Ts own)
    (hM : vx_Met l y wsy rm (va_Pc (.ref b :: As) (fun U => ts_A D cl tys wc H.size U ∧ ts_KX (va_A wc H.size) U)) (fun _ _ _ _ => False) (ts_X EN px (fun u => ts_B D cl tys (va_A wc H.size) (mk u)) (va_A wc H.size)) mc ms (va_A wc H.size)) (cw : CallW R s args own C index y bytes maxL ret wsy rm mc ms n)
    (hK : va_K D cl tys s) (hKX : ts_KX A s) (hP : va_P D cl ws H) (hD : va_D A ws) (hS : va_S A s.heap H locs) (hA : ∀ q, s.heap.size ≤ q → A q) (hz : ls.size = nL) (is : List Nat) (hn : va_nd is = true) (hC : is.map (fun i => ws[i]?) = wc.map some)
    (hrec : ∃ cell : Cell, H[b]? = some cell ∧ cell.vm.isStatics = false ∧ s.vm.findClass C = some cell.cls) (ha : ∀ u, (mk u).map (fun q => q.1) = wc.map (fun q => q.1)) (hlen : As.length = n) (hst : st0 = As.reverse ++ .ref b :: rest) (hroom : (rest.map fun v => v.category).sum ≤ 8) (hdg : decode cc pc = .ok (.invokevirtual index, 3)) (hf : cells + mc ≤ R.cells ∧ slots + ms ≤ R.slots)
    (kx : ∀ (ce : Cell) (q9 : Addr) (u : S) (H1 : Heap) (locs1 : List Loc), px u → va_P D cl (ts_set ws is (mk u)) H1 → va_D A (ts_set ws is (mk u)) → va_S A s.heap H1 locs1 → H1[q9]? = some ce → ce.vm = .none → s.vm.findClass EN = some ce.cls → vx_W p l e R s m args below meth c H1 locs1 (cells + mc) (slots + ms) Q (F0 m pc ls rest) q9) :
    W p l e R s m args below meth c H locs cells slots Q (F0 m pc ls st0) := by
  have hPc := ts_subP hP hC
  have hDc := hD.sub is hn hC
  have hF := va_free (wc := wc) hD hS hA is hC
  exact ts_callX0 (vx_runV F hM cw ⟨ts_blindX, hrec, fun U hU hW => ⟨rfl, ⟨by rw [hU], by rw [hU]; exact hPc, va_K.moved hW.alike hK, hDc.weaken (fun _ _ _ _ => trivial)⟩, hKX.at hS hF hU hW⟩⟩ rfl hlen hz hst (lv_room hroom) hdg hf) hP hD hS hA hC ha kx
theorem ts_callXS (F : CallFix p m c cc nL s args Ts own)
    (hM : vx_Met l y wsy rm (va_Pc As (fun U => ts_A D cl tys wc H.size U ∧ ts_KX (va_A wc H.size) U)) (fun _ _ _ _ => False) (ts_X EN px (fun u => ts_B D cl tys (va_A wc H.size) (mk u)) (va_A wc H.size)) mc ms (va_A wc H.size)) (cw : CallB R s args own index y bytes maxL ret wsy rm mc ms n ∧ (Cond.static y).before args s = true)
    (hK : va_K D cl tys s) (hKX : ts_KX A s) (hP : va_P D cl ws H) (hD : va_D A ws) (hS : va_S A s.heap H locs) (hA : ∀ q, s.heap.size ≤ q → A q) (hz : ls.size = nL) (is : List Nat) (hn : va_nd is = true) (hC : is.map (fun i => ws[i]?) = wc.map some)
    (ha : ∀ u, (mk u).map (fun q => q.1) = wc.map (fun q => q.1)) (hlen : As.length = n) (hst : st0 = As.reverse ++ rest) (hroom : (rest.map fun v => v.category).sum ≤ 8) (hdg : decode cc pc = .ok (.invokestatic index, 3)) (hf : cells + mc ≤ R.cells ∧ slots + ms ≤ R.slots)
    (kx : ∀ (ce : Cell) (q9 : Addr) (u : S) (H1 : Heap) (locs1 : List Loc), px u → va_P D cl (ts_set ws is (mk u)) H1 → va_D A (ts_set ws is (mk u)) → va_S A s.heap H1 locs1 → H1[q9]? = some ce → ce.vm = .none → s.vm.findClass EN = some ce.cls → vx_W p l e R s m args below meth c H1 locs1 (cells + mc) (slots + ms) Q (F0 m pc ls rest) q9) :
    W p l e R s m args below meth c H locs cells slots Q (F0 m pc ls st0) := by
  have hPc := ts_subP hP hC
  have hDc := hD.sub is hn hC
  have hF := va_free (wc := wc) hD hS hA is hC
  exact ts_callX0 (vx_runS F hM cw ⟨ts_blindX, fun U hU hW => ⟨rfl, ⟨by rw [hU], by rw [hU]; exact hPc, va_K.moved hW.alike hK, hDc.weaken (fun _ _ _ _ => trivial)⟩, hKX.at hS hF hU hW⟩⟩ rfl hlen hz hst (lv_room hroom) hdg hf) hP hD hS hA hC ha kx
/-- it goes on to the caller -/
theorem ts_outX {ce : Cell} {q9 : Addr} {u : S} (hE : ∀ x ∈ c.exceptionTable.toList, False) (hlocks : meth.locks = false) (hcell : H[q9]? = some ce) (hv : ce.vm = .none) (hcl : s.vm.findClass EN = some ce.cls) (hK : va_K D cl tys s) (hP : va_P D cl (mk u) H) (hD : va_D A (mk u)) (hS : va_S A s.heap H locs) (hpx : px u) (hc : cells ≤ mc) (hs : slots ≤ ms) :
    vx_W p l e R s m args below meth c H locs cells slots (vx_MQ below (fun _ _ _ _ => False) (ts_X EN px (fun u => ts_B D cl tys A (mk u)) A) args s mc ms A) (F0 m pc ls rest) q9 :=
  vx_out (E := EN) (fun x hx => (hE x hx).elim) hlocks hcell hv hcl (fun t ht hvm => ⟨rfl, ⟨u, hpx, by rw [ht]; exact hP, va_K.moved hvm hK, hD⟩, hS.F ht⟩) hS.2.2 hc hs
/-- a throwing method's start -/
theorem ts_metX {as : List Value} {sz : Nat} {ws' : List Cond} (hy : plainName y.cls = true) (hw : wsy = Cond.code y cc maxL ret :: ws') (hlen : (lg_sl as).length ≤ maxL)
    (body : ∀ (p : Program) (e : Env) (s : State) (m : MethodId) (below : List Frame) (meth : Method) (c : Code), p.tables.exec = Jvm.exec → c.code = cc → meth.sig.returnType = ret → c.maxLocals = maxL → s.vm.findClass y.cls = some m.cls → (∀ w ∈ wsy, w.before as.toArray s = true) → meth.locks = false → (∀ x ∈ c.exceptionTable.toList, False) → ∀ (A : Nat → Prop), (∀ q, s.heap.size ≤ q → A q) → A = va_A ws s.heap.size → ts_KX A s → va_K D cl tys s → va_P D cl ws s.heap → va_D A ws → va_S A s.heap s.heap [] → s.heap.size = sz → ∀ (ls : Array Slot), lv_has ls maxL (lv_args 0 as) →
      W p l e rm s m as.toArray below meth c s.heap [] 0 0 (vx_MQ below (fun _ _ _ _ => False) (ts_X EN px (fun u => ts_B D cl tys A (mk u)) A) as.toArray s mc ms A) (F0 m 0 ls [])) :
    vx_Met l y wsy rm (va_Pc as (fun U => ts_A D cl tys ws sz U ∧ ts_KX (va_A ws sz) U)) (fun _ _ _ _ => False) (ts_X EN px (fun u => ts_B D cl tys (va_A ws sz) (mk u)) (va_A ws sz)) mc ms (va_A ws sz) := by
  refine vx_ofW (cc := cc) (maxL := maxL) (ret := ret) hy hw ?_
  intro p e s m args below meth c s₁ B hml hE hv
  obtain ⟨rfl, ⟨hsz, hP, hK, hD0⟩, hKs⟩ := hv
  have hts := atoms_spec (ws := wsy) B.pre
  have hown : s.vm.findClass y.cls = some m.cls := findClass_of_methodNamed B.named
  subst hsz
  have hl := lv_entry as (n := maxL) hlen
  rw [lg_entry_eq]
  generalize (lg_sl as ++ List.replicate (maxL - (lg_sl as).length) Slot.unset).toArray = ls at hl ⊢
  exact body p e s m below meth c B.exec B.bytes B.returns hml hown hts B.notSynchronized hE _ (fun q h => Or.inr h) rfl hKs hK hP (hD0.self) va_S.rf rfl ls hl
end TSX
abbrev ts_atIO : List Cond := (vx_atS R_T 104 ts_IO ts_RE).filter goodWord
abbrev ts_atIA : List Cond := (vx_atS R_T 112 ts_IA ts_RE).filter goodWord
abbrev ts_atIS : List Cond := (vx_atS R_T 75 ts_IS ts_RE).filter goodWord
theorem ts_hatIO {args : Array Value} {s : State} (h1 : ∀ w ∈ ts_atIO, w.before args s = true) (hN : ts_KN s) : ∀ w ∈ vx_atS R_T 104 ts_IO ts_RE, w.before args s = true :=
  vx_hat h1 (B := ts_Bx) (by decide +kernel) (fun w hw => va_Nw.use (by unfold ts_Bx at hw; simp only [List.mem_cons, List.not_mem_nil, or_false] at hw; rcases hw with e | e | e | e | e | e <;> rw [e] <;> rfl) (hN.2 w hw))
theorem ts_hatIA {args : Array Value} {s : State} (h1 : ∀ w ∈ ts_atIA, w.before args s = true) (hN : ts_KN s) : ∀ w ∈ vx_atS R_T 112 ts_IA ts_RE, w.before args s = true :=
  vx_hat h1 (B := ts_Bx) (by decide +kernel) (fun w hw => va_Nw.use (by unfold ts_Bx at hw; simp only [List.mem_cons, List.not_mem_nil, or_false] at hw; rcases hw with e | e | e | e | e | e <;> rw [e] <;> rfl) (hN.2 w hw))
theorem ts_hatIS {args : Array Value} {s : State} (h1 : ∀ w ∈ ts_atIS, w.before args s = true) (hN : ts_KN s) : ∀ w ∈ vx_atS R_T 75 ts_IS ts_RE, w.before args s = true :=
  vx_hat h1 (B := ts_Bx) (by decide +kernel) (fun w hw => va_Nw.use (by unfold ts_Bx at hw; simp only [List.mem_cons, List.not_mem_nil, or_false] at hw; rcases hw with e | e | e | e | e | e <;> rw [e] <;> rfl) (hN.2 w hw))
