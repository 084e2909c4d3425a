/-! NEW OBJECTS: calls that bring cells -/
theorem ts_Kun {D : va_G} {cl : List vw_C} {tys : List (ClassId × FieldType)} {c c' : ClassId} {ty : FieldType} {U : State} {k : Nat} (h : va_K D cl (tys ++ [(c', ty)]) U) (hk : tys[k]? = some (c, ty)) : c' = c := by
  have hlt : k < tys.length := (List.getElem?_eq_some_iff.mp hk).1
  have h1 := (h.2 k (c, ty) (by rw [List.getElem?_append_left hlt]; exact hk)).2
  have h2 := (h.2 tys.length (c', ty) (by rw [List.getElem?_append_right (Nat.le_refl _), Nat.sub_self]; rfl)).2
  cases ty <;> first
    | exact Option.some.inj (h2.symm.trans h1)
    | (obtain ⟨_, _, _, _, _, a⟩ := h1
       obtain ⟨_, _, _, _, _, b⟩ := h2
       exact Option.some.inj (b.symm.trans a))
theorem ts_arrQ {D : va_G} {cl : List vw_C} {ws : va_W} {H : Heap} {k a N : Nat} {cA : ClassId} {f g : Nat → Option Nat} (hP : va_P D cl ws H) (hk : ws[k]? = some (a, .inl (cA, N, .inr (.inr (.inr (.inr f)))))) (h : ∀ j, j < N → g j = f j) : va_P D cl (ws.set k (a, .inl (cA, N, .inr (.inr (.inr (.inr g)))))) H := by
  have e : arrV cA N (fun j => va_rf (g j)) = arrV cA N (fun j => va_rf (f j)) := by
    unfold arrV
    congr 1
    congr 1
    funext j
    show va_rf (g j.1) = va_rf (f j.1)
    rw [h j.1 j.2]
  intro i q hq
  by_cases hi : k = i
  · subst hi
    have hlt : k < ws.length := (List.getElem?_eq_some_iff.mp hk).1
    rw [List.getElem?_set_self hlt] at hq
    cases hq
    have h1 := hP k _ hk
    show H[a]? = some (arrV cA N (fun j => va_rf (g j)))
    rw [e]
    exact h1
  · rw [List.getElem?_set_ne hi] at hq
    exact hP i q hq
theorem ts_arrQD {A : Nat → Prop} {ws : va_W} {k a N : Nat} {cA : ClassId} {f g : Nat → Option Nat} (hD : va_D A ws) (hk : ws[k]? = some (a, .inl (cA, N, .inr (.inr (.inr (.inr f)))))) : va_D A (ws.set k (a, .inl (cA, N, .inr (.inr (.inr (.inr g)))))) := by
  have hlt : k < ws.length := (List.getElem?_eq_some_iff.mp hk).1
  have adr : ∀ (i : Nat) (q : Nat × va_E), (ws.set k (a, .inl (cA, N, .inr (.inr (.inr (.inr g))))))[i]? = some q → ∃ q0, ws[i]? = some q0 ∧ q0.1 = q.1 := by
    intro i q hq
    by_cases hi : k = i
    · subst hi
      rw [List.getElem?_set_self hlt] at hq
      cases hq
      exact ⟨_, hk, rfl⟩
    · rw [List.getElem?_set_ne hi] at hq
      exact ⟨q, hq, rfl⟩
  refine ⟨fun i j x y hi hj hxy => ?_, fun i q h => ?_⟩
  · obtain ⟨x0, a1, a2⟩ := adr i x hi
    obtain ⟨y0, b1, b2⟩ := adr j y hj
    exact hD.1 i j x0 y0 a1 b1 (by rw [a2, b2, hxy])
  · obtain ⟨x0, a1, a2⟩ := adr i q h
    rw [← a2]
    exact hD.2 i x0 a1
section TSN
variable {p : Program} {l : Launch} {e : Env} {R : Room} {s : State} {m : MethodId} {args : Array Value} {below : List Frame} {meth : Method} {c : Code} {H : Heap} {locs : List Loc} {cells slots : Nat} {Q : State → Prop}
variable {mc ms : Nat} {rest st0 : List Value} {pc : Nat} {ls : Array Slot} {S : Type} {post : Option Value → S → Prop} {mk : S → va_W} {D : va_G} {cl : List vw_C} {tys : List (ClassId × FieldType)} {ws wc wr : va_W} {A : Nat → Prop} {a0 : Array Value}
theorem ts_callN0 (hr : va_Run p l e R s m args below meth c H locs cells slots mc ms (F0 m pc ls st0) rest (ts_Q post (fun u => ts_B D cl tys (va_A wc H.size) (mk u)) (va_A wc H.size) a0) (va_A wc H.size))
    (hP : va_P D cl ws H) (hD : va_D A ws) (hS : va_S A s.heap H locs) (hA : ∀ q, s.heap.size ≤ q → A q) (isC isR : List Nat) (hC : isC.map (fun i => ws[i]?) = wc.map some) (hR : isR.map (fun i => ws[i]?) = wr.map some) (hn : va_nd isR = true) (hdis : ∀ i ∈ isR, i ∉ isC)
    (kk : ∀ (v : Option Value) (u : S) (H1 : Heap) (locs1 : List Loc), post v u → va_P D cl (wr ++ mk u) H1 → va_D A (wr ++ mk u) → va_S A s.heap H1 locs1 → W p l e R s m args below meth c H1 locs1 (cells + mc) (slots + ms) Q (F0 m (pc + 3) ls (v.toList ++ rest))) :
    W p l e R s m args below meth c H locs cells slots Q (F0 m pc ls st0) := by
  have hF := va_free (wc := wc) hD hS hA isC hC
  intro T hT X
  obtain ⟨v, st₀, t, T', L, h0, X', hL, e1, e2, ⟨⟨v2, u, hv, hp, hb⟩, hz, hk⟩, st⟩ := hr T hT X
  cases hv
  rw [h0] at hz hk
  obtain ⟨hb1, -, hb3⟩ := hb
  obtain ⟨hP', hD'⟩ := va_join hP hD isC isR hC hR hn hdis hk hF hb1 hb3
  rw [← e1] at hP'
  obtain ⟨t2, a1, b1⟩ := kk v u T'.heap (locs ++ L) hp hP' hD'
    ⟨Nat.le_trans hS.1 (by rw [e1]; exact hz), fun q h1 h2 => by rw [e1, hk q (Nat.lt_of_lt_of_le h1 hS.1) (fun z => h2 (hF q z))]; exact hS.2.1 q h1 h2, fun q hq => by
      rcases List.mem_append.mp hq with h | h
      · exact hS.2.2 q h
      · exact hF _ (hL q h)⟩ T' rfl X'
  exact ⟨t2, st t2 a1, b1⟩
end TSN
