/-! what holds at the law's entry -/
theorem ts_ArrP {s : State} {args : Array Value} {ty : FieldType} (h : (Cond.arrayClass ty).before args s = true) (hn : ∀ C, ty ≠ .object C) : ∃ c, ArrOfT s c ty ∧ va_RA s c ty := by
  obtain ⟨c, k, comp, h1, h2, h3⟩ := Cond.arrayClass_spec h
  refine ⟨c, fun n z => ⟨fun k h => (by cases h), k, h2, comp, h3⟩, ?_⟩
  cases ty with
  | object C => exact absurd rfl (hn C)
  | _ => exact h1
theorem ts_ArrQ {s : State} {C : String} (h : va_AO C s) : ∃ c, ArrOfT s c (.object C) ∧ va_RA s c (.object C) := by
  obtain ⟨comp, c, k, h1, h2, h3, h4, h5⟩ := Cond.arrayOver_spec h
  exact ⟨c, fun n z => ⟨fun k h => (by cases h), k, h3, comp, h4⟩, k, comp, h3, h4, h1, h5⟩
theorem ts_str {s : State} {args : Array Value} {i : Nat} {tx : String} (h1 : (Cond.stringRef R_T i tx).before args s = true) (h2 : (Cond.exactly (.string R_T i) "java/lang/String").before args s = true) : ∃ a, vk_R R_T i tx a s := by
  obtain ⟨a, c, cell, k, h3, -⟩ := Cond.exactly_spec h2
  exact ⟨a, vk_R.of h1 h3⟩
set_option maxHeartbeats 4000000 in
set_option maxRecDepth 100000 in
theorem ts_start {p : Program} {s : State} {m : MethodId} {meth : Method} {c : Code} {b L : Nat} {xs : Nat → Int32} (C0 : lw_At p s m meth c b L xs) : ts_KL (fun q : Nat => s.heap.size ≤ q) s ∧ ts_KT s ∧ ∃ (D : va_G) (cL cA cI cZ : ClassId), va_K D vwCl (ts_ty cL cA cI cZ) s := by
  obtain ⟨hx, hb, hr, hml, hown, hts, hX, hbl, hlocks, hgv⟩ := C0
  have hs := flat_of_before _ hgv
  have hA : ∀ a : Nat, a < s.heap.size → ¬ (fun q : Nat => s.heap.size ≤ q) a := fun a ha h => absurd ha (Nat.not_lt.mpr h)
  have hKT : ts_KT s := ⟨va_Nw.of rfl (hts (.methodLinkNest R_T 15 y_W_init R_T) (by decide +kernel)), va_AO.of (hts (.arrayOver (.object R_W)) (by decide +kernel))⟩
  refine ⟨⟨⟨⟨?_, ?_⟩, ⟨?_, ?_, ?_, ?_⟩, ?_⟩, ?_, ?_, ?_⟩, hKT, ?_⟩
  · exact vx_Zqof (hts (.laysStatic Bundle.tN "UNASSIGNED_STACK" Bundle.steD) (by decide +kernel)) (hts (.initialized Bundle.tN) (by decide +kernel)) (hs (.isRef (.static Bundle.tN "UNASSIGNED_STACK" Bundle.steD)) (by decide +kernel)) hA
  · exact vx_Zqof (hts (.laysStatic Bundle.tN "SUPPRESSED_SENTINEL" Bundle.listD) (by decide +kernel)) (hts (.initialized Bundle.tN) (by decide +kernel)) (hs (.isRef (.static Bundle.tN "SUPPRESSED_SENTINEL" Bundle.listD)) (by decide +kernel)) hA
  · exact ts_str (hts (.stringRef R_T 102 "there is no such sum") (by decide +kernel)) (hs (.exactly (.string R_T 102) "java/lang/String") (by decide +kernel))
  · exact ts_str (hts (.stringRef R_T 110 "the bits are no finite number") (by decide +kernel)) (hs (.exactly (.string R_T 110) "java/lang/String") (by decide +kernel))
  · exact ts_str (hts (.stringRef R_T 115 "times is not -1000000 .. 1000000") (by decide +kernel)) (hs (.exactly (.string R_T 115) "java/lang/String") (by decide +kernel))
  · exact ts_str (hts (.stringRef R_T 73 "the sum's size would be 2^3150 or more") (by decide +kernel)) (hs (.exactly (.string R_T 73) "java/lang/String") (by decide +kernel))
  · have hin : ∀ w ∈ ts_Bx, w ∈ lw_tbl := by decide +kernel
    intro w hw
    refine va_Nw.of ?_ (hts w (hin w hw))
    unfold ts_Bx at hw
    simp only [List.mem_cons, List.not_mem_nil, or_false] at hw
    rcases hw with e | e | e | e | e | e <;> rw [e] <;> rfl
  · exact va_Nc.of (hs (.not (.castable ts_IA ts_IO)) (by decide +kernel))
  · exact va_Nc.of (hs (.not (.castable ts_IS ts_IO)) (by decide +kernel))
  · exact va_Nc.of (hs (.not (.castable ts_IS ts_IA)) (by decide +kernel))
  · obtain ⟨c0, iS0, hKn0⟩ := u_known (C := R_W) (T := F_W) (N := 1) (n := 1) hts i_W (hts (.instantiable R_W 1) (by decide +kernel))
    obtain ⟨c1, iS1, hKn1⟩ := u_known (C := R_T) (T := F_T) (N := 4) (n := 4) hts i_T (hts (.instantiable R_T 4) (by decide +kernel))
    obtain ⟨c2, iS2, hKn2⟩ := u_known (C := R_M) (T := F_M) (N := 3) (n := 3) hts i_M (hts (.instantiable R_M 3) (by decide +kernel))
    obtain ⟨cL, l1, l2⟩ := ts_ArrP (hts (.arrayClass .long) (by decide +kernel)) (fun C h => by cases h)
    obtain ⟨cI, k1, k2⟩ := ts_ArrP (hts (.arrayClass .int) (by decide +kernel)) (fun C h => by cases h)
    obtain ⟨cZ, z1, z2⟩ := ts_ArrP (hts (.arrayClass .boolean) (by decide +kernel)) (fun C h => by cases h)
    obtain ⟨cA, q1, q2⟩ := ts_ArrQ hKT.2
    refine ⟨(fun k => if k = 0 then c0 else if k = 1 then c1 else c2, fun k => if k = 0 then iS0 else if k = 1 then iS1 else iS2), cL, cA, cI, cZ, fun k q hq => ?_, fun k q hq => ?_⟩
    · match k, hq with
      | 0, hq => cases hq; exact hKn0
      | 1, hq => cases hq; exact hKn1
      | 2, hq => cases hq; exact hKn2
      | k + 3, hq => simp [vwCl] at hq
    · match k, hq with
      | 0, hq => cases hq; exact ⟨l1, l2⟩
      | 1, hq => cases hq; exact ⟨q1, q2⟩
      | 2, hq => cases hq; exact ⟨k1, k2⟩
      | 3, hq => cases hq; exact ⟨z1, z2⟩
      | k + 4, hq => simp [ts_ty] at hq
theorem ts_R0 : ts_R (fun _ => 0) 0 := ts_R.zero (fun _ _ => rfl)
theorem ts_M0 : ts_MS (fun _ => 0) (fun _ => 0) (fun _ => 0) := by
  have e : (0 : Int32).toInt = 0 := by decide +kernel
  have hz : ∀ r, ts_r (fun _ => 0) r = 0 := fun r => ts_dv_zero (fun j _ => by unfold ts_d; rw [e]; rfl)
  refine ⟨fun k _ => by rw [e]; omega, fun _ _ => Or.inl rfl, fun r _ => ⟨ts_bk0 rfl, ?_⟩⟩
  rw [ts_V0 rfl, hz]
  rfl
theorem ts_blindT {D : va_G} {cl : List vw_C} {tys : List (ClassId × FieldType)} {ws : va_W} {sz : Nat} {as : List Value} : FrameBlind (va_Pc as (fun U => ts_A D cl tys ws sz U ∧ ts_KT U)) := by
  intro a U g mk q
  obtain ⟨q0, ⟨q1, qP, qK, qD⟩, z1, z2⟩ := q
  exact ⟨q0, ⟨q1, qP, va_K.moved (u := U) (U := U.calling g mk a) (Vm.Alike.refl U.vm) qK, qD⟩, va_Nw.same (u := U) (U := U.calling g mk a) rfl rfl z1, va_AO.moved (u := U) (U := U.calling g mk a) (Vm.Alike.refl U.vm) z2⟩
