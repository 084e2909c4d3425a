/-! PURE ROWS: leading and trailing zeros, as the JDK counts them -/
theorem ts_Top.shr {n p j : Nat} (h : ts_Top n p) (hj : j ≤ p) : ts_Top (n / 2 ^ j) (p - j) := by
  obtain ⟨h1, h2⟩ := h
  have e1 : 2 ^ p = 2 ^ (p - j) * 2 ^ j := by rw [← Nat.pow_add]; congr 1; omega
  have e2 : 2 ^ (p + 1) = 2 ^ (p - j + 1) * 2 ^ j := by rw [← Nat.pow_add]; congr 1; omega
  rw [e1] at h1
  rw [e2] at h2
  exact ⟨(Nat.le_div_iff_mul_le (Nat.pow_pos (by decide))).mpr h1, (Nat.div_lt_iff_lt_mul (Nat.pow_pos (by decide))).mpr h2⟩
theorem ts_Top.lt_of {n p b : Nat} (h : ts_Top n p) (hb : n < 2 ^ b) : p < b := by
  rcases Nat.lt_or_ge p b with h1 | h1
  · exact h1
  · have := Nat.pow_le_pow_right (show 0 < 2 by decide) h1
    have := h.1
    omega
theorem ts_Top.ge_of {n p b : Nat} (h : ts_Top n p) (hb : 2 ^ b ≤ n) : b ≤ p := by
  rcases Nat.lt_or_ge p b with h1 | h1
  · have := Nat.pow_le_pow_right (show 0 < 2 by decide) (show p + 1 ≤ b from h1)
    have := h.2
    omega
  · exact h1
theorem ts_u2 {n p : Nat} (h : ts_Top n p) (hp : p < 2) : n / 2 = p := by
  obtain ⟨h1, h2⟩ := h
  have : p = 0 ∨ p = 1 := by omega
  rcases this with rfl | rfl <;> omega
theorem ts_ush (n k : Nat) (hn : n < 2 ^ 31) (hk : k < 32) : ((nI n).toUInt32 >>> ((nI k).toUInt32 &&& Int32.toUInt32 31)).toInt32 = nI (n / 2 ^ k) :=
  pk_ushrN (by omega) _ k ((by decide +kernel : ∀ k, k < 32 → (((nI k).toUInt32 &&& Int32.toUInt32 31).toBitVec % 32).toNat = k) k hk)
/-- the ones below the lowest 1 bit -/
theorem ts_low1 {k p : Nat} (hk : k < 2 ^ 32) (hb : ts_Bot k p) : (nI k ^^^ (-1)) &&& (nI k - 1) = nI (2 ^ p - 1) := by
  have hp : p < 32 := by
    rcases Nat.lt_or_ge p 32 with h | h
    · exact h
    · have h1 := hb.2
      rw [Nat.testBit_lt_two_pow (Nat.lt_of_lt_of_le hk (Nat.pow_le_pow_right (by decide) h))] at h1
      cases h1
  obtain ⟨q, hq⟩ := Nat.dvd_of_mod_eq_zero hb.1
  have hodd : q % 2 = 1 := by
    have h1 := hb.2
    rw [hq, Nat.testBit_eq_decide_div_mod_eq, Nat.mul_div_cancel_left _ (Nat.pow_pos (by decide)), decide_eq_true_eq] at h1
    exact h1
  have hk2 : k = 2 ^ (p + 1) * (q / 2) + 2 ^ p := by
    rw [hq, Nat.pow_succ, Nat.mul_assoc]
    have : q = 2 * (q / 2) + 1 := by omega
    generalize q / 2 = r at *
    rw [this, Nat.mul_add, Nat.mul_one]
  have hpos : 0 < 2 ^ p := Nat.pow_pos (by decide)
  have hk3 : k - 1 = 2 ^ (p + 1) * (q / 2) + (2 ^ p - 1) := by omega
  have hlt : 2 ^ p < 2 ^ (p + 1) := Nat.pow_lt_pow_right (by decide) (by omega)
  have e1 : nI k - 1 = nI (k - 1) := pk_sub (a := k) (b := 1) (by omega)
  rw [e1]
  apply Int32.toBitVec_inj.mp
  apply BitVec.eq_of_getLsbD_eq
  intro i hi
  have em : (-1 : Int32).toBitVec = BitVec.allOnes 32 := by decide +kernel
  rw [Int32.toBitVec_and, Int32.toBitVec_xor, em, BitVec.getLsbD_and, BitVec.getLsbD_xor, BitVec.getLsbD_allOnes]
  have bn : ∀ z : Nat, (nI z).toBitVec.getLsbD i = z.testBit i := fun z => by
    show (BitVec.ofNat 32 z).getLsbD i = _
    rw [BitVec.getLsbD_ofNat]
    simp [hi]
  rw [bn, bn, bn, hk3]
  have b1 : k.testBit i = if i < p + 1 then decide (i = p) else (q / 2).testBit (i - (p + 1)) := by
    rw [hk2, Nat.testBit_two_pow_mul_add _ hlt]
    split
    · rw [Nat.testBit_two_pow]; simp [eq_comm]
    · rfl
  have b2 : (2 ^ (p + 1) * (q / 2) + (2 ^ p - 1)).testBit i = if i < p + 1 then decide (i < p) else (q / 2).testBit (i - (p + 1)) := by
    rw [Nat.testBit_two_pow_mul_add _ (by omega)]
    split
    · rw [Nat.testBit_two_pow_sub_one]
    · rfl
  rw [b1, b2, Nat.testBit_two_pow_sub_one]
  by_cases h1 : i < p + 1
  · rw [if_pos h1, if_pos h1]
    by_cases h2 : i = p
    · subst h2; simp
    · have : i < p := by omega
      simp [h2, this, hi]
  · rw [if_neg h1, if_neg h1]
    have : ¬ i < p := by omega
    simp [this, hi]
theorem ts_m1d {a k : Nat} (h : k ≤ a) : (2 ^ a - 1) / 2 ^ k = 2 ^ (a - k) - 1 := by
  have e : 2 ^ a = 2 ^ (a - k) * 2 ^ k := by rw [← Nat.pow_add]; congr 1; omega
  have hp : 0 < 2 ^ k := Nat.pow_pos (by decide)
  have hq : 0 < 2 ^ (a - k) := Nat.pow_pos (by decide)
  rw [e]
  generalize 2 ^ (a - k) = x at *
  generalize 2 ^ k = y at *
  obtain ⟨z, rfl⟩ : ∃ z, x = z + 1 := ⟨x - 1, by omega⟩
  have e2 : (z + 1) * y - 1 = (y - 1) + y * z := by
    rw [Nat.add_mul, Nat.one_mul, Nat.mul_comm z y]
    omega
  rw [e2, Nat.add_mul_div_left _ _ hp, Nat.div_eq_of_lt (by omega)]
  omega
theorem ts_nI0 {k : Nat} (h0 : 0 < k) (h : k < 2 ^ 32) : ¬ nI k = 0 := by
  intro e
  have h1 := pk_tn h
  rw [e] at h1
  have : (0 : Int32).toBitVec.toNat = 0 := by decide +kernel
  omega
theorem ts_nIneg {k : Nat} (h1 : 2 ^ 31 ≤ k) (h : k < 2 ^ 32) : ¬ (0 : Int32) < nI k := by
  intro e
  rw [Int32.lt_iff_toInt_lt] at e
  have e0 : (0 : Int32).toInt = 0 := by decide +kernel
  have h2 : (nI k).toInt = if 2 * (nI k).toBitVec.toNat < 2 ^ 32 then ((nI k).toBitVec.toNat : Int) else ((nI k).toBitVec.toNat : Int) - ((2 ^ 32 : Nat) : Int) := BitVec.toInt_eq_toNat_cond _
  rw [pk_tn h, if_neg (by omega)] at h2
  omega
theorem ts_nIm {a b : Nat} (h : a + b ≤ 31) : nI (31 - a) + Int32.ofInt (-(b : Int)) = nI (31 - (a + b)) := by
  have e : nI (31 - a) = nI (31 - (a + b)) + nI b := by rw [nI_add]; congr 1; omega
  rw [e]
  have hb : b < 32 := by omega
  have h2 : nI b + Int32.ofInt (-(b : Int)) = 0 := (by decide +kernel : ∀ b : Nat, b < 32 → nI b + Int32.ofInt (-(b : Int)) = 0) b hb
  rw [Int32.add_assoc, h2, Int32.add_zero]
theorem ts_Bot.of {k : Nat} (h0 : 0 < k) (hk : k < 2 ^ 32) : ∃ p, p ≤ 31 ∧ ts_Bot k p := by
  obtain ⟨q, h1, h2⟩ := pk_least (fun i => k.testBit i = true) ⟨_, Nat.testBit_log2 (by omega)⟩
  have hq : q < 32 := by
    rcases Nat.lt_or_ge q 32 with h3 | h3
    · exact h3
    · exfalso
      have h4 := Nat.pow_le_pow_right (show 0 < 2 by decide) h3
      rw [Nat.testBit_lt_two_pow (by omega)] at h1
      cases h1
  refine ⟨q, by omega, ?_, h1⟩
  apply Nat.eq_of_testBit_eq
  intro i
  rw [Nat.testBit_mod_two_pow, Nat.zero_testBit]
  by_cases hi : i < q
  · have := h2 i hi
    simp [this]
  · simp [hi]
theorem ts_leb {a b : Nat} (hb : 0 < b) : 2 ^ a - 1 ≤ 2 ^ b ↔ a ≤ b := by
  constructor
  · intro h
    rcases Nat.lt_or_ge b a with h1 | h1
    · exfalso
      have h2 : 2 ^ (b + 1) ≤ 2 ^ a := Nat.pow_le_pow_right (by decide) h1
      have h3 : 2 ^ 1 ≤ 2 ^ b := Nat.pow_le_pow_right (by decide) hb
      rw [Nat.pow_succ] at h2
      omega
    · exact h1
  · intro h
    have h2 : 2 ^ a ≤ 2 ^ b := Nat.pow_le_pow_right (by decide) h
    have h3 : 0 < 2 ^ b := Nat.pow_pos (by decide)
    omega
theorem ts_p31 {a : Nat} (h : a ≤ 31) : 2 ^ a - 1 < 2 ^ 31 := by
  have h2 : 2 ^ a ≤ 2 ^ 31 := Nat.pow_le_pow_right (by decide) h
  omega
theorem ts_half {a : Nat} (h1 : 1 ≤ a) (h2 : a ≤ 2) : (2 ^ a - 1) / 2 ^ 1 = a - 1 := by
  have : a = 1 ∨ a = 2 := by omega
  rcases this with rfl | rfl <;> rfl
theorem ts_l2iN (x : Int64) : x.toInt32 = nI (uN x) := by
  have e : x = lN (uN x) := by
    apply uN_inj
    show uN x = (UInt64.ofNat (uN x)).toNat
    have := uN_lt x
    rw [UInt64.toNat_ofNat']
    omega
  generalize uN x = n at *
  rw [e, lN_i]
theorem ts_hp0 {n : Nat} {z : Int32} (h : ts_hp n z) (h0 : n = 0) : z = -100000 := by
  rcases h with ⟨-, h2⟩ | ⟨p, h1, -, -⟩
  · exact h2
  · exact absurd h0 h1.ne
theorem ts_hp1 {n : Nat} {z : Int32} (h : ts_hp n z) (h0 : z = -100000) : n = 0 := by
  rcases h with ⟨h1, -⟩ | ⟨p, -, h2, h3⟩
  · exact h1
  · exfalso
    have h4 := congrArg Int32.toInt (h3.symm.trans h0)
    rw [nI_toInt (by omega)] at h4
    have e : (-100000 : Int32).toInt = -100000 := by decide +kernel
    omega
