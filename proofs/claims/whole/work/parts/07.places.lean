/-! PURE ROWS: places, words, bits -/
theorem ts_shl1 : ∀ j, j < 64 → uN ((1 : Int64) <<< ((nI j).toInt64 &&& 63)) = 2 ^ j := by decide +kernel
theorem ts_pow2 {f : Nat → Int64} {p : Nat} {x : Int64} (hz : ∀ k, k < 200 → f k = 0) (hp : p < 6400) (hx : uN x = 2 ^ (p % 32)) : ts_ok (vp_updL f (p / 32) x) ∧ ts_n (vp_updL f (p / 32) x) = 2 ^ p := by
  have h0 : uN 0 = 0 := by decide +kernel
  have d1 : ts_u (vp_updL f (p / 32) x) (p / 32) = 2 ^ (p % 32) := by unfold ts_u; rw [pk_uLs, hx]
  have d0 : ∀ k, k < 200 → k ≠ p / 32 → ts_u (vp_updL f (p / 32) x) k = 0 := by
    intro k hk hne
    unfold ts_u
    rw [pk_uLn hne, hz k hk, h0]
  constructor
  · intro k hk
    by_cases e : k = p / 32
    · rw [e, d1]; exact Nat.pow_lt_pow_right (by decide) (by omega)
    · rw [d0 k hk e]; decide
  · unfold ts_n
    rw [ts_dv_top (k := p / 32) (by omega) (fun j h1 h2 => d0 j h2 (by omega)), ts_dv_zero (fun j hj => d0 j (by omega) (by omega)), d1, Nat.zero_add, ← Nat.pow_mul, ← Nat.pow_add]
    congr 1
    omega
/-- bit p of a number, for any whole p -/
def ts_ib (n : Nat) (p : Int) : Bool := decide (0 ≤ p) && n.testBit p.toNat
theorem ts_ib_n (n p : Nat) : ts_ib n (p : Int) = n.testBit p := by
  unfold ts_ib
  rw [decide_eq_true (by omega)]
  simp
theorem ts_ib_neg {n : Nat} {p : Int} (h : p < 0) : ts_ib n p = false := by
  unfold ts_ib
  rw [decide_eq_false (by omega)]
  rfl
/-- a limb by any index -/
def ts_la (f : Nat → Int64) (k : Int) : Nat := if 0 ≤ k ∧ k < 200 then uN (f k.toNat) else 0
theorem ts_la_lt {f : Nat → Int64} (h : ts_ok f) (k : Int) : ts_la f k < 4294967296 := by
  unfold ts_la
  split
  · have := h k.toNat (by omega)
    unfold ts_u at this
    omega
  · omega
theorem ts_la_bit {f : Nat → Int64} (h : ts_ok f) (k : Int) (j : Nat) (hj : j < 32) : (ts_la f k).testBit j = ts_ib (ts_n f) (32 * k + j) := by
  unfold ts_la
  by_cases h0 : 0 ≤ k
  · by_cases h1 : k < 200
    · rw [if_pos ⟨h0, h1⟩]
      obtain ⟨n, rfl⟩ : ∃ n : Nat, k = (n : Int) := ⟨k.toNat, by omega⟩
      have e : (32 * (n : Int) + (j : Int)) = ((32 * n + j : Nat) : Int) := by omega
      rw [e, ts_ib_n]
      unfold ts_n
      rw [ts_dv_bit h (by omega) hj]
      rfl
    · rw [if_neg (by omega)]
      obtain ⟨n, rfl⟩ : ∃ n : Nat, k = (n : Int) := ⟨k.toNat, by omega⟩
      have e : (32 * (n : Int) + (j : Int)) = ((32 * n + j : Nat) : Int) := by omega
      rw [e, ts_ib_n]
      unfold ts_n
      rw [ts_dv_bitO h (by omega), Nat.zero_testBit]
  · rw [if_neg (by omega), ts_ib_neg (by omega), Nat.zero_testBit]
theorem ts_u_or (x y : Int64) : uN (x ||| y) = uN x ||| uN y := UInt64.toNat_or _ _
theorem ts_u_shl (x s : Int64) (k : Nat) (hs : (s.toBitVec.smod 64).toNat = k) : uN (x <<< s) = uN x * 2 ^ k % 18446744073709551616 := by
  show (x.toBitVec <<< (s.toBitVec.smod 64).toNat).toNat = _
  rw [hs, BitVec.toNat_shiftLeft, Nat.shiftLeft_eq]
  rfl
theorem ts_cnt : ∀ k, k < 64 → (((nI k).toInt64 &&& 63).toBitVec.smod 64).toNat = k := by decide +kernel
theorem ts_u_shlN (x : Int64) {k : Nat} (hk : k < 64) : uN (x <<< ((nI k).toInt64 &&& 63)) = uN x * 2 ^ k % 18446744073709551616 := ts_u_shl x _ k (ts_cnt k hk)
/-- 64 bits out of three limbs -/
theorem ts_word {l0 l1 l2 : Int64} {sh : Nat} (h0 : uN l0 < 4294967296) (h1 : uN l1 < 4294967296) (h2 : uN l2 < 4294967296) (hs : sh < 32) (hs0 : 0 < sh) (j : Nat) (hj : j < 64) :
    (uN (((l0 ||| (l1 <<< ((nI 32).toInt64 &&& 63))).toUInt64 >>> ((nI sh).toInt64.toUInt64 &&& Int64.toUInt64 63)).toInt64 ||| (l2 <<< ((nI (64 - sh)).toInt64 &&& 63)))).testBit j =
      (if sh + j < 32 then (uN l0).testBit (sh + j) else if sh + j < 64 then (uN l1).testBit (sh + j - 32) else (uN l2).testBit (sh + j - 64)) := by
  have e1 : uN (l1 <<< ((nI 32).toInt64 &&& 63)) = uN l1 * 2 ^ 32 := by
    rw [ts_u_shlN l1 (by decide)]
    omega
  rw [ts_u_or, uN_sk _ (by omega), ts_u_or, e1, ts_u_shlN l2 (by omega), Nat.testBit_or, Nat.testBit_div_two_pow, Nat.testBit_or, Nat.testBit_mul_two_pow]
  have e2 : (uN l2 * 2 ^ (64 - sh) % 18446744073709551616).testBit j = (decide (j < 64) && (uN l2 * 2 ^ (64 - sh)).testBit j) := by
    rw [← Nat.testBit_mod_two_pow]
  rw [e2, Nat.testBit_mul_two_pow]
  have z0 : ∀ t, 32 ≤ t → (uN l0).testBit t = false := fun t ht => Nat.testBit_lt_two_pow (Nat.lt_of_lt_of_le h0 (by
    have := Nat.pow_le_pow_right (show 0 < 2 by decide) ht
    omega))
  have z1 : ∀ t, 32 ≤ t → (uN l1).testBit t = false := fun t ht => Nat.testBit_lt_two_pow (Nat.lt_of_lt_of_le h1 (by
    have := Nat.pow_le_pow_right (show 0 < 2 by decide) ht
    omega))
  by_cases c1 : sh + j < 32
  · rw [if_pos c1, decide_eq_false (show ¬ 32 ≤ j + sh by omega), decide_eq_false (show ¬ 64 - sh ≤ j by omega)]
    simp [Nat.add_comm]
  · rw [if_neg c1]
    by_cases c2 : sh + j < 64
    · rw [if_pos c2, z0 (j + sh) (by omega), decide_eq_true (show 32 ≤ j + sh by omega), decide_eq_false (show ¬ 64 - sh ≤ j by omega)]
      simp [Nat.add_comm]
    · rw [if_neg c2, z0 (j + sh) (by omega), z1 (j + sh - 32) (by omega), decide_eq_true (show 64 - sh ≤ j by omega), decide_eq_true hj]
      have : j - (64 - sh) = sh + j - 64 := by omega
      simp [this]
theorem ts_word0 {l0 l1 : Int64} (h0 : uN l0 < 4294967296) (h1 : uN l1 < 4294967296) (j : Nat) :
    (uN (l0 ||| (l1 <<< ((nI 32).toInt64 &&& 63)))).testBit j = (if j < 32 then (uN l0).testBit j else (uN l1).testBit (j - 32)) := by
  have e1 : uN (l1 <<< ((nI 32).toInt64 &&& 63)) = uN l1 * 2 ^ 32 := by
    rw [ts_u_shlN l1 (by decide)]
    omega
  rw [ts_u_or, e1, Nat.testBit_or, Nat.testBit_mul_two_pow]
  by_cases c1 : j < 32
  · rw [if_pos c1, decide_eq_false (show ¬ 32 ≤ j by omega)]; simp
  · rw [if_neg c1, decide_eq_true (show 32 ≤ j by omega), Nat.testBit_lt_two_pow (x := uN l0) (i := j) (Nat.lt_of_lt_of_le h0 (by
      have := Nat.pow_le_pow_right (show 0 < 2 by decide) (show 32 ≤ j by omega)
      omega))]
    simp
/-- what a word of a number is: its 64 bits -/
def ts_Wd (n : Nat) (p : Int) (r : Int64) : Prop := ∀ j, j < 64 → (uN r).testBit j = ts_ib n (p + j)
theorem ts_Wd.uniq {n : Nat} {p : Int} {r r' : Int64} (h : ts_Wd n p r) (h' : ts_Wd n p r') : r = r' := by
  apply uN_inj
  apply Nat.eq_of_testBit_eq
  intro j
  by_cases hj : j < 64
  · rw [h j hj, h' j hj]
  · have b1 := uN_lt r
    have b2 := uN_lt r'
    have hp := Nat.pow_le_pow_right (show 0 < 2 by decide) (show 64 ≤ j by omega)
    rw [Nat.testBit_lt_two_pow (by omega), Nat.testBit_lt_two_pow (by omega)]
theorem ts_Wd.low {n : Nat} {p : Int} {r : Int64} (h : ts_Wd n p r) : (r &&& 1) = 0 ↔ ts_ib n p = false := by
  have h1 := h 0 (by decide)
  have e : p + ((0 : Nat) : Int) = p := by omega
  rw [e] at h1
  rw [uN_bit, ← h1, Nat.testBit_zero]
  simp
