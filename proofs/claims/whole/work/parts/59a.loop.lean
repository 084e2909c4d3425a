section TSLOOP
variable {p : Program} {l : Launch} {e : Env} {s : State} {m : MethodId} {below : List Frame} {meth : Method} {c : Code} {b L : Nat} {xs : Nat → Int32} {D : va_G} {cL cA cI cZ : ClassId} {o sA : Nat} {w a : Nat → Nat} {h pa ba ou : Nat}
set_option maxHeartbeats 8000000 in
set_option maxRecDepth 100000 in
theorem law_loop (hl0 : l.stackTraces = false) (hL : L ≤ 4608) (C0 : lw_At p s m meth c b L xs) (hK : va_K D vwCl (ts_ty cL cA cI cZ) s) (hKL : ts_KL (fun q : Nat => s.heap.size ≤ q) s) :
    ∀ (k n : Nat), 9 * n ≤ L → L < 9 * n + 9 * k → ∀ (f : Nat → Nat → Int64) (th : Int32) (P B : Nat → Int32) (g : Nat → Int64) (V : Nat → Int) (H : Heap) (locs : List Loc) (ls : Array Slot), ts_TS f V → ts_MS P B V → ts_bn n V → va_P D vwCl (ts_lw cL cA cI cZ o sA w a h pa ba ou f th P B g) H → va_D (fun q : Nat => s.heap.size ≤ q) (ts_lw cL cA cI cZ o sA w a h pa ba ou f th P B g) → va_S (fun q : Nat => s.heap.size ≤ q) s.heap H locs → lv_has ls 8 [(4, .int (nI (9 * n))), (0, .ref b), (1, .ref o), (2, .ref h), (3, .ref ou)] →
      W p l e room_1 s m #[Value.ref b] below meth c H locs (28 + n) (4637 + 6 * n) (lw_Z below #[Value.ref b] s) (F0 m 23 ls []) := by
  intro k
  induction k with
  | zero =>
    intro n h1 h2
    exact absurd h2 (by omega)
  | succ k ih =>
    intro n h1 h2 f th P B g V H locs ls hT hM hB hP hD hS hl
    have C1 := C0
    obtain ⟨hx, hb, hr, hml, hown, hts, hX, hbl, hlocks, hgv⟩ := C1
    have hA : ∀ q : Nat, s.heap.size ≤ q → (fun q : Nat => s.heap.size ≤ q) q := fun _ h => h
    have hbA : ¬ (fun q : Nat => s.heap.size ≤ q) b := Nat.not_le.mpr hbl
    refine lv_iload hx hb d_L_law_23 (lv_at hl 0 rfl) ?_
    refine lv_aload_n hx hb d_L_law_25 rfl (lv_at hl 1 rfl) ?_
    refine va_slen hx hb hX hbl hbA hS d_L_law_26 ?_
    show W _ _ _ _ _ _ _ _ _ _ _ _ _ _ _ (F0 m 27 ls [.int (nI L), .int (nI (9 * n))])
    refine lv_bipush (v := 9) hx hb d_L_law_27 (by decide) ?_
    refine lv_isub hx hb d_L_law_29 ?_
    refine lv_topi (fun z1 e_z1 => ?_)
    have hzi : Int32.toInt z1 = (L : Int) - 9 := by rw [e_z1]; exact pk_sub_toInt (b := 9) (by omega) (by decide)
    have hni : (nI (9 * n)).toInt = ((9 * n : Nat) : Int) := nI_toInt (by omega)
    refine lv_icmp_gt (tgt := 889) hx hb d_L_law_30 (by decide) (fun c2 => ?_) (fun c2 => ?_)
    · refine lv_iconst (v := 1) hx hb d_L_law_889 (by decide) ?_
      refine va_forget (fun q hq => hS.2.2 q hq) ?_
      refine W.widen (k := 601024) (n := 7293033) (by omega) (by omega) ?_
      exact lw_ret hx hb hr hlocks d_L_law_890
    · have hn : 9 * n + 9 ≤ L := by rw [Int32.lt_iff_toInt_lt, hzi, hni] at c2; omega
      have tl : ∀ (f' : Nat → Nat → Int64) (th' : Int32) (P' B' : Nat → Int32) (g' : Nat → Int64) (V' : Nat → Int) (H : Heap) (locs : List Loc) (ls : Array Slot), ts_TS f' V' → ts_MS P' B' V' → ts_bn (n + 1) V' → va_P D vwCl (ts_lw cL cA cI cZ o sA w a h pa ba ou f' th' P' B' g') H → va_D (fun q : Nat => s.heap.size ≤ q) (ts_lw cL cA cI cZ o sA w a h pa ba ou f' th' P' B' g') → va_S (fun q : Nat => s.heap.size ≤ q) s.heap H locs → lv_has ls 8 [(4, .int (nI (9 * n))), (0, .ref b), (1, .ref o), (2, .ref h), (3, .ref ou)] → W p l e room_1 s m #[Value.ref b] below meth c H locs (28 + (n + 1)) (4637 + 6 * (n + 1)) (lw_Z below #[Value.ref b] s) (F0 m 883 ls []) := by
        intro f' th' P' B' g' V' H locs ls hT hM hB hP hD hS hl
        refine lv_iinc (v := (nI (9 * (n + 1)))) (lv' := [(4, .int (nI (9 * (n + 1)))), (0, .ref b), (1, .ref o), (2, .ref h), (3, .ref ou)]) hx hb d_L_law_883 hl (k := 0) rfl ((nI_add (9 * n) 9).trans (congrArg nI (by omega))) (by decide) rfl (fun ls hl => ?_)
        refine lv_goto (tgt := 23) hx hb d_L_law_886 (by decide) ?_
        exact ih (n + 1) (by omega) (by omega) f' th' P' B' g' V' H locs ls hT hM hB hP hD hS hl
      refine lv_aload_n hx hb d_L_law_33 rfl (lv_at hl 1 rfl) ?_
      refine lv_iload hx hb d_L_law_34 (lv_at hl 0 rfl) ?_
      refine va_sld hx hb hX hbl hbA hS (vp_in_nI (by omega) (by omega)) d_L_law_36 ?_
      refine lv_bipush (v := 15) hx hb d_L_law_37 (by decide) ?_
      refine lv_iand hx hb d_L_law_39 ?_
      refine lv_topi (fun z3 e_z3 => ?_)
      by_cases hout : Int32.toInt z3 < 0 ∨ 10 < Int32.toInt z3
      · refine lv_tableOut (tgt := 883) hx hb d_L_law_40 hout (by decide) ?_
        refine W.widen (k := 28 + (n + 1)) (n := 4637 + 6 * (n + 1)) (by omega) (by omega) ?_
        exact tl f th P B g V _ _ ls hT hM hB.s hP hD hS (lv_sub hl [0, 1, 2, 3, 4] rfl)
      · have hlo : ¬ Int32.toInt z3 < 0 := fun q => hout (Or.inl q)
        have hhi : ¬ 10 < Int32.toInt z3 := fun q => hout (Or.inr q)
        have hcs : Int32.toInt z3 = 0 ∨ Int32.toInt z3 = 1 ∨ Int32.toInt z3 = 2 ∨ Int32.toInt z3 = 3 ∨ Int32.toInt z3 = 4 ∨ Int32.toInt z3 = 5 ∨ Int32.toInt z3 = 6 ∨ Int32.toInt z3 = 7 ∨ Int32.toInt z3 = 8 ∨ Int32.toInt z3 = 9 ∨ Int32.toInt z3 = 10 := by omega
        rcases hcs with hc | hc | hc | hc | hc | hc | hc | hc | hc | hc | hc
        · refine lv_tableIn (off := 60) (tgt := 100) hx hb d_L_law_40 hlo hhi (by rw [hc]; rfl) (by decide) ?_
          exact law_clear hl0 hL C0 hK hKL hn hT hM hB hP hD hS (lv_sub hl [0, 1, 2, 3, 4] rfl) tl
        · refine lv_tableIn (off := 96) (tgt := 136) hx hb d_L_law_40 hlo hhi (by rw [hc]; rfl) (by decide) ?_
          exact law_add hl0 hL C0 hK hKL hn hT hM hB hP hD hS (lv_sub hl [0, 1, 2, 3, 4] rfl) tl
        · refine lv_tableIn (off := 282) (tgt := 322) hx hb d_L_law_40 hlo hhi (by rw [hc]; rfl) (by decide) ?_
          exact law_plus hl0 hL C0 hK hKL hn hT hM hB hP hD hS (lv_sub hl [0, 1, 2, 3, 4] rfl) tl
        · refine lv_tableIn (off := 342) (tgt := 382) hx hb d_L_law_40 hlo hhi (by rw [hc]; rfl) (by decide) ?_
          exact law_sign hl0 hL C0 hK hKL hn hT hM hB hP hD hS (lv_sub hl [0, 1, 2, 3, 4] rfl) tl
        · refine lv_tableIn (off := 398) (tgt := 438) hx hb d_L_law_40 hlo hhi (by rw [hc]; rfl) (by decide) ?_
          exact law_compare hl0 hL C0 hK hKL hn hT hM hB hP hD hS (lv_sub hl [0, 1, 2, 3, 4] rfl) tl
        · refine lv_tableIn (off := 466) (tgt := 506) hx hb d_L_law_40 hlo hhi (by rw [hc]; rfl) (by decide) ?_
          exact law_compareSizes hl0 hL C0 hK hKL hn hT hM hB hP hD hS (lv_sub hl [0, 1, 2, 3, 4] rfl) tl
        · refine lv_tableIn (off := 534) (tgt := 574) hx hb d_L_law_40 hlo hhi (by rw [hc]; rfl) (by decide) ?_
          exact law_nearest hl0 hL C0 hK hKL hn hT hM hB hP hD hS (lv_sub hl [0, 1, 2, 3, 4] rfl) tl
        · refine lv_tableIn (off := 589) (tgt := 629) hx hb d_L_law_40 hlo hhi (by rw [hc]; rfl) (by decide) ?_
          exact law_top hl0 hL C0 hK hKL hn hT hM hB hP hD hS (lv_sub hl [0, 1, 2, 3, 4] rfl) tl
        · refine lv_tableIn (off := 645) (tgt := 685) hx hb d_L_law_40 hlo hhi (by rw [hc]; rfl) (by decide) ?_
          exact law_bottom hl0 hL C0 hK hKL hn hT hM hB hP hD hS (lv_sub hl [0, 1, 2, 3, 4] rfl) tl
        · refine lv_tableIn (off := 701) (tgt := 741) hx hb d_L_law_40 hlo hhi (by rw [hc]; rfl) (by decide) ?_
          exact law_bit hl0 hL C0 hK hKL hn hT hM hB hP hD hS (lv_sub hl [0, 1, 2, 3, 4] rfl) tl
        · refine lv_tableIn (off := 776) (tgt := 816) hx hb d_L_law_40 hlo hhi (by rw [hc]; rfl) (by decide) ?_
          exact law_word hl0 hL C0 hK hKL hn hT hM hB hP hD hS (lv_sub hl [0, 1, 2, 3, 4] rfl) tl
end TSLOOP
