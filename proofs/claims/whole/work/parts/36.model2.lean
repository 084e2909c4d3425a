/-! more of the reference: for add, plus, word, nearest -/
theorem ts_tbad {t : Int32} (h : t < (-1000000) ∨ (1000000 : Int32) < t) : ¬ (-1000000 ≤ t.toInt ∧ t.toInt ≤ 1000000) := by
  have e1 : (-1000000 : Int32).toInt = -1000000 := by decide +kernel
  have e2 : (1000000 : Int32).toInt = 1000000 := by decide +kernel
  rw [Int32.lt_iff_toInt_lt, Int32.lt_iff_toInt_lt, e1, e2] at h
  omega
theorem ts_B10 {B B' : Nat → Int32} (h : ∀ r, r < 10 → B r = 0 ∨ B r = 1) (e2 : ∀ r, r < 8 → B' r = B r) (e4 : B' 8 = B 8) (e5 : B' 9 = 0 ∨ B' 9 = 1) : ∀ r, r < 10 → B' r = 0 ∨ B' r = 1 := by
  intro r hr
  rcases Nat.lt_or_ge r 8 with h1 | h1
  · rw [e2 r h1]; exact h r hr
  · have h2 : r = 8 ∨ r = 9 := by omega
    rcases h2 with h2 | h2
    · rw [h2, e4]; exact h 8 (by decide)
    · rw [h2]; exact e5
theorem ts_bnds {n a b c : Nat} (hn : n < 1048576) (ha : a < 2 ^ 53) (hb : b < 2 ^ 53) (hc : c < 2 ^ 53) : n * a < ts_N ∧ n * a * b < ts_N ∧ n * a * b * c < ts_N := by
  have h1 : n * a ≤ 1048576 * 2 ^ 53 := Nat.mul_le_mul (by omega) (by omega)
  have h2 : n * a * b ≤ 1048576 * 2 ^ 53 * 2 ^ 53 := Nat.mul_le_mul h1 (by omega)
  have h3 : n * a * b * c ≤ 1048576 * 2 ^ 53 * 2 ^ 53 * 2 ^ 53 := Nat.mul_le_mul h2 (by omega)
  have h4 : 1048576 * 2 ^ 53 * 2 ^ 53 * 2 ^ 53 < 2 ^ 200 := by decide
  have h5 : (2 : Nat) ^ 200 ≤ 2 ^ 6720 := Nat.pow_le_pow_right (by decide) (by decide)
  rw [ts_N6720]
  refine ⟨?_, ?_, ?_⟩
  · omega
  · omega
  · omega
theorem ts_sb_1 {p q : Bool} {b : Int32} {n : Nat} (hb : b = ts_sb p q 1) : (b = 0 → ts_sb p q n = 0) ∧ (¬ b = 0 → n ≠ 0 → ts_sb p q n = 1) ∧ (n = 0 → ts_sb p q n = 0) := by
  subst hb
  unfold ts_sb
  refine ⟨fun h => ?_, fun h h2 => ?_, fun h => ?_⟩
  · by_cases h1 : (p != q) = true
    · rw [if_pos ⟨h1, by decide⟩] at h
      exact absurd h (by decide +kernel)
    · rw [if_neg (fun z => h1 z.1)]
  · by_cases h1 : (p != q) = true
    · rw [if_pos ⟨h1, h2⟩]
    · rw [if_neg (fun z => h1 z.1)] at h
      exact absurd rfl h
  · rw [if_neg (fun z => z.2 h)]
section TSH
variable {p : Program} {l : Launch} {e : Env} {R : Room} {s : State} {m : MethodId} {args : Array Value} {below : List Frame} {meth : Method} {c : Code} {H : Heap} {locs : List Loc} {cells slots : Nat} {Q : State → Prop} {nL : Nat} {st0 : List Value} {pc : Nat} {ls : Array Slot} {D : va_G} {cl : List vw_C} {A : Nat → Prop}
/-- a place that several roads come to, past calls -/
theorem ts_cutH {σ : Type} (pc' : Nat) (st' : List Value) (H0 : Heap) (I : σ → Prop) (mk : σ → va_W) (lc : σ → List (Nat × Value)) (hk : ∀ (u : σ) (H : Heap) (locs : List Loc) (ls : Array Slot), I u → va_P D cl (mk u) H → va_D A (mk u) → va_S A H0 H locs → lv_has ls nL (lc u) → W p l e R s m args below meth c H locs cells slots Q (F0 m pc' ls st'))
    (h : (∀ (u : σ) (H : Heap) (locs : List Loc) (ls : Array Slot), I u → va_P D cl (mk u) H → va_D A (mk u) → va_S A H0 H locs → lv_has ls nL (lc u) → W p l e R s m args below meth c H locs cells slots Q (F0 m pc' ls st')) → W p l e R s m args below meth c H locs cells slots Q (F0 m pc ls st0)) : W p l e R s m args below meth c H locs cells slots Q (F0 m pc ls st0) := h hk
end TSH
/-- a word, bit by bit from above -/
def ts_WrI (n : Nat) (p : Int) (i : Nat) (v : Int64) : Prop := ∀ j, (uN v).testBit j = (decide (j < i) && ts_ib n (p + (64 - i : Int) + j))
theorem ts_WrI.zero {n : Nat} {p : Int} : ts_WrI n p 0 0 := by
  intro j
  have h : uN 0 = 0 := by decide +kernel
  rw [h, Nat.zero_testBit, decide_eq_false (Nat.not_lt_zero j), Bool.false_and]
theorem ts_sl1 (v : Int64) : uN (v <<< ((1 : Int32).toInt64 &&& 63)) = uN v * 2 % 18446744073709551616 := by
  have h := ts_u_shl v ((1 : Int32).toInt64 &&& 63) 1 (by decide +kernel)
  exact h
theorem ts_bitIn {v b : Int64} {k : Nat} (hv : uN v < 9223372036854775808) (hb : uN b = k) (hk : k < 2) : uN (v <<< ((1 : Int32).toInt64 &&& 63) ||| b) = 2 * uN v + k := by
  rw [ts_u_or, ts_sl1, hb]
  have h1 : uN v * 2 % 18446744073709551616 = 2 ^ 1 * uN v := by omega
  rw [h1, ← Nat.two_pow_add_eq_or_of_lt (by omega)]
theorem ts_WrI.step {n : Nat} {p : Int} {i : Nat} {v b : Int64} (hi : i < 64) (h : ts_WrI n p i v) (hb : uN b = if ts_ib n (p + (63 - i : Int)) = true then 1 else 0) : ts_WrI n p (i + 1) (v <<< ((1 : Int32).toInt64 &&& 63) ||| b) := by
  have hv : uN v < 9223372036854775808 := by
    rcases Nat.lt_or_ge (uN v) (2 ^ 63) with q | q
    · exact q
    · exfalso
      have hlt := uN_lt v
      have hlog : (uN v).testBit 63 = true := by
        rw [Nat.testBit_eq_decide_div_mod_eq, decide_eq_true_eq]
        omega
      rw [h 63, decide_eq_false (by omega), Bool.false_and] at hlog
      cases hlog
  have e := ts_bitIn (k := if ts_ib n (p + (63 - i : Int)) = true then 1 else 0) hv hb (by split <;> decide)
  intro j
  rw [e]
  cases j with
  | zero =>
    rw [Nat.testBit_eq_decide_div_mod_eq, decide_eq_true (by omega : 0 < i + 1), Bool.true_and]
    have e1 : p + (64 - ((i + 1 : Nat) : Int)) + ((0 : Nat) : Int) = p + (63 - (i : Int)) := by omega
    rw [e1]
    cases hq : ts_ib n (p + (63 - (i : Int))) with
    | true => rw [if_pos rfl, decide_eq_true_eq]; omega
    | false => rw [if_neg (by decide), decide_eq_false_iff_not]; omega
  | succ j =>
    have e2 : (2 * uN v + if ts_ib n (p + (63 - (i : Int))) = true then 1 else 0).testBit (j + 1) = (uN v).testBit j := by
      rw [Nat.testBit_succ]
      congr 1
      split <;> omega
    rw [e2, h j]
    have e3 : p + (64 - ((i + 1 : Nat) : Int)) + ((j + 1 : Nat) : Int) = p + (64 - (i : Int)) + (j : Int) := by omega
    rw [e3]
    congr 1
    simp
theorem ts_WrI.done {n : Nat} {p : Int} {v : Int64} (h : ts_WrI n p 64 v) : ts_Wd n p v := by
  intro j hj
  rw [h j, decide_eq_true hj, Bool.true_and]
  congr 1
  omega
