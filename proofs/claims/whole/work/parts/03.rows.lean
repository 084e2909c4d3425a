/-! PURE ROWS: longs and ints as whole numbers; what a row of the class means -/
theorem ts_l_add {a b : Int64} (h1 : -9223372036854775808 ≤ a.toInt + b.toInt) (h2 : a.toInt + b.toInt < 9223372036854775808) : (a + b).toInt = a.toInt + b.toInt := by
  rw [Int64.toInt_add]
  exact Int.bmod_eq_of_le_mul_two (by omega) (by omega)
theorem ts_l_sub {a b : Int64} (h1 : -9223372036854775808 ≤ a.toInt - b.toInt) (h2 : a.toInt - b.toInt < 9223372036854775808) : (a - b).toInt = a.toInt - b.toInt := by
  rw [Int64.toInt_sub]
  exact Int.bmod_eq_of_le_mul_two (by omega) (by omega)
theorem ts_l_mul {a b : Int64} (h1 : -9223372036854775808 ≤ a.toInt * b.toInt) (h2 : a.toInt * b.toInt < 9223372036854775808) : (a * b).toInt = a.toInt * b.toInt := by
  rw [Int64.toInt_mul]
  exact Int.bmod_eq_of_le_mul_two (by omega) (by omega)
theorem ts_i_add {a b : Int32} (h1 : -2147483648 ≤ a.toInt + b.toInt) (h2 : a.toInt + b.toInt < 2147483648) : (a + b).toInt = a.toInt + b.toInt := by
  rw [Int32.toInt_add]
  exact Int.bmod_eq_of_le_mul_two (by omega) (by omega)
theorem ts_i_sub {a b : Int32} (h1 : -2147483648 ≤ a.toInt - b.toInt) (h2 : a.toInt - b.toInt < 2147483648) : (a - b).toInt = a.toInt - b.toInt := by
  rw [Int32.toInt_sub]
  exact Int.bmod_eq_of_le_mul_two (by omega) (by omega)
theorem ts_i_neg {a : Int32} (h : a.toInt ≠ -2147483648) : (-a).toInt = -a.toInt := by
  have h1 := Int32.le_toInt a
  have h2 := Int32.toInt_lt a
  rw [Int32.toInt_neg]
  exact Int.bmod_eq_of_le_mul_two (by omega) (by omega)
theorem ts_uI {x : Int64} (h : uN x < 9223372036854775808) : x.toInt = (uN x : Int) := by
  rw [uN_int, if_pos (by omega)]
theorem ts_uI' {x : Int64} (h : 0 ≤ x.toInt) : (uN x : Int) = x.toInt := by
  have h1 := uN_lt x
  have h2 := uN_int x
  split at h2 <;> omega
theorem ts_sar (a s : Int64) (k : Nat) (hs : (s.toBitVec.smod 64).toNat = k) : (a >>> s).toInt = a.toInt / 2 ^ k := by
  have h : (a >>> s).toInt = a.toInt >>> k := by
    show (a.toBitVec.sshiftRight (s.toBitVec.smod 64).toNat).toInt = _
    rw [hs, BitVec.toInt_sshiftRight]
    rfl
  rw [h, Int.shiftRight_eq_div_pow]
  rfl
theorem ts_sar32 (a : Int64) : (a >>> ((32 : Int32).toInt64 &&& 63)).toInt = a.toInt / 4294967296 := ts_sar a _ 32 (by decide +kernel)
theorem ts_sar28 (a : Int64) : (a >>> ((28 : Int32).toInt64 &&& 63)).toInt = a.toInt / 268435456 := ts_sar a _ 28 (by decide +kernel)
theorem ts_lo32 (x : Int64) : (uN (x &&& 4294967295) : Int) = x.toInt % 4294967296 := by
  have h1 := uN_lo x
  have h2 := uN_int x
  have h3 := uN_lt x
  split at h2 <;> omega
theorem ts_lo28u (x : Int64) : uN (x &&& 268435455) = uN x % 268435456 := by
  show (x.toUInt64 &&& Int64.toUInt64 268435455).toNat = _
  rw [UInt64.toNat_and]
  exact Nat.and_two_pow_sub_one_eq_mod _ 28
theorem ts_lo28 (x : Int64) : (x &&& 268435455).toInt = x.toInt % 268435456 := by
  have h1 := ts_lo28u x
  have h2 := uN_int x
  have h3 := uN_lt x
  have h4 := ts_uI (x := x &&& 268435455) (by omega)
  split at h2 <;> omega
theorem ts_prod_bound {x t X T : Int} (hx : 0 ≤ x) (hx2 : x < X) (ht : -T ≤ t) (ht2 : t ≤ T) (hT : 0 ≤ T) : -(X * T) ≤ x * t ∧ x * t ≤ X * T := by
  have h1 : x * t ≤ x * T := Int.mul_le_mul_of_nonneg_left ht2 hx
  have h2 : x * (-T) ≤ x * t := Int.mul_le_mul_of_nonneg_left ht hx
  have h3 : x * T ≤ X * T := Int.mul_le_mul_of_nonneg_right (by omega) hT
  rw [Int.mul_neg] at h2
  omega
/-- one limb of increase -/
theorem ts_inc {x y c : Int64} {t : Int32} (hx : uN x < 4294967296) (hy : uN y < 4294967296) (ht : -1048576 ≤ t.toInt ∧ t.toInt ≤ 1048576) (hc : -1048578 ≤ c.toInt ∧ c.toInt ≤ 1048578) :
    ((uN ((x + y * t.toInt64 + c) &&& 4294967295) : Int) + ((x + y * t.toInt64 + c) >>> ((32 : Int32).toInt64 &&& 63)).toInt * 4294967296 = (uN x : Int) + t.toInt * (uN y : Int) + c.toInt) ∧
      uN ((x + y * t.toInt64 + c) &&& 4294967295) < 4294967296 ∧ -1048578 ≤ ((x + y * t.toInt64 + c) >>> ((32 : Int32).toInt64 &&& 63)).toInt ∧ ((x + y * t.toInt64 + c) >>> ((32 : Int32).toInt64 &&& 63)).toInt ≤ 1048578 := by
  have e1 := ts_uI (x := x) (by omega)
  have e2 := ts_uI (x := y) (by omega)
  have e3 := Int32.toInt_toInt64 t
  have hb := ts_prod_bound (x := (uN y : Int)) (t := t.toInt) (X := 4294967296) (T := 1048576) (by omega) (by omega) ht.1 ht.2 (by omega)
  have e4 : (y * t.toInt64).toInt = (uN y : Int) * t.toInt := by
    rw [ts_l_mul (by rw [e2, e3]; omega) (by rw [e2, e3]; omega), e2, e3]
  have e5 : (x + y * t.toInt64).toInt = (uN x : Int) + (uN y : Int) * t.toInt := by
    rw [ts_l_add (by rw [e1, e4]; omega) (by rw [e1, e4]; omega), e1, e4]
  have e6 : (x + y * t.toInt64 + c).toInt = (uN x : Int) + (uN y : Int) * t.toInt + c.toInt := by
    rw [ts_l_add (by rw [e5]; omega) (by rw [e5]; omega), e5]
  have e7 := ts_lo32 (x + y * t.toInt64 + c)
  have e8 := ts_sar32 (x + y * t.toInt64 + c)
  rw [e8]
  rw [e6] at e7 ⊢
  rw [Int.mul_comm t.toInt]
  generalize (uN y : Int) * t.toInt = yt at *
  refine ⟨by omega, by omega, by omega, by omega⟩
/-- one limb of multiply -/
theorem ts_mul1 {l fl fh c : Int64} (hl : uN l < 4294967296) (hfl : uN fl < 4294967296) (hfh : uN fh < 2097152) (hc : uN c < 18014398509481984) :
    uN ((l * fl + (c &&& 4294967295)) &&& 4294967295) + uN (l * fh + (c.toUInt64 >>> ((32 : Int32).toInt64.toUInt64 &&& Int64.toUInt64 63)).toInt64 + ((l * fl + (c &&& 4294967295)).toUInt64 >>> ((32 : Int32).toInt64.toUInt64 &&& Int64.toUInt64 63)).toInt64) * 4294967296 = uN l * (uN fl + 4294967296 * uN fh) + uN c ∧ uN ((l * fl + (c &&& 4294967295)) &&& 4294967295) < 4294967296 := by
  have b1 : uN l * uN fl ≤ 4294967295 * 4294967295 := Nat.mul_le_mul (by omega) (by omega)
  have b2 : uN l * uN fh ≤ 4294967295 * 2097151 := Nat.mul_le_mul (by omega) (by omega)
  have e1 : uN (l * fl + (c &&& 4294967295)) = uN l * uN fl + uN c % 4294967296 := by
    rw [uN_add, uN_mul, uN_lo]
    generalize uN l * uN fl = z at *
    omega
  have e2 := uN_lo (l * fl + (c &&& 4294967295))
  have e3 := uN_s32 (l * fl + (c &&& 4294967295))
  have e4 := uN_s32 c
  have e5 : uN (l * fh + (c.toUInt64 >>> ((32 : Int32).toInt64.toUInt64 &&& Int64.toUInt64 63)).toInt64 + ((l * fl + (c &&& 4294967295)).toUInt64 >>> ((32 : Int32).toInt64.toUInt64 &&& Int64.toUInt64 63)).toInt64) = uN l * uN fh + uN c / 4294967296 + (uN l * uN fl + uN c % 4294967296) / 4294967296 := by
    rw [uN_add, uN_add, uN_mul, e3, e4, e1]
    generalize uN l * uN fl = z at *
    generalize uN l * uN fh = w at *
    omega
  rw [e2, e5, e1, Nat.mul_add]
  have e6 : uN l * (4294967296 * uN fh) = 4294967296 * (uN l * uN fh) := by rw [← Nat.mul_assoc, Nat.mul_comm (uN l), Nat.mul_assoc]
  rw [e6]
  generalize uN l * uN fl = z at *
  generalize uN l * uN fh = w at *
  omega
theorem ts_carry {l m c l' c' : Nat} (h : l' + c' * 4294967296 = l * m + c) (hl : l < 4294967296) (hc : c ≤ m) : c' ≤ m := by
  have h1 : l * m ≤ 4294967295 * m := Nat.mul_le_mul_right _ (by omega)
  generalize l * m = z at *
  omega
/-! a row of the class: 200 limbs, two's complement -/
def ts_M : Nat := (2 ^ 32) ^ 200
def ts_K : Nat := 2 ^ 31 * (2 ^ 32) ^ 199
theorem ts_MK : ts_M = 2 * ts_K := by
  unfold ts_M ts_K
  have h : ∀ X : Nat, (2 ^ 32) ^ (199 + 1) = (2 ^ 32) ^ 199 * 2 ^ 32 → (2 ^ 32) ^ 199 = X → (2 ^ 32) ^ (199 + 1) = 2 * (2 ^ 31 * X) := by
    intro X h1 h2
    rw [h1, h2]
    omega
  exact h _ (Nat.pow_succ _ _) rfl
theorem ts_Kpos : 0 < ts_K := Nat.mul_pos (by decide) (Nat.pow_pos (by decide))
def ts_u (f : Nat → Int64) : Nat → Nat := fun k => uN (f k)
def ts_n (f : Nat → Int64) : Nat := ts_dv (2 ^ 32) (ts_u f) 200
def ts_ok (f : Nat → Int64) : Prop := ∀ k, k < 200 → ts_u f k < 2 ^ 32
def ts_R (f : Nat → Int64) (v : Int) : Prop := ts_ok f ∧ (∃ c : Int, (ts_n f : Int) + c * (ts_M : Int) = v) ∧ -(ts_K : Int) ≤ v ∧ v < (ts_K : Int)
theorem ts_n_lt {f : Nat → Int64} (h : ts_ok f) : ts_n f < ts_M := ts_dv_lt h
theorem ts_R.cases {f : Nat → Int64} {v : Int} (h : ts_R f v) : (0 ≤ v ∧ (ts_n f : Int) = v) ∨ (v < 0 ∧ (ts_n f : Int) = v + (ts_M : Int)) := by
  obtain ⟨hd, ⟨c, hc⟩, h1, h2⟩ := h
  have hlt := ts_n_lt hd
  have hMK := ts_MK
  generalize ts_n f = n at *
  generalize ts_M = M at *
  generalize ts_K = K at *
  rcases Int.lt_or_le c (-1) with h3 | h3
  · exfalso
    have h4 : 0 ≤ (-2 - c) * (M : Int) := Int.mul_nonneg (by omega) (by omega)
    rw [Int.sub_mul] at h4
    omega
  · rcases Int.lt_or_le 0 c with h5 | h5
    · exfalso
      have h4 : 0 ≤ (c - 1) * (M : Int) := Int.mul_nonneg (by omega) (by omega)
      rw [Int.sub_mul, Int.one_mul] at h4
      omega
    · have h6 : c = 0 ∨ c = -1 := by omega
      rcases h6 with h6 | h6
      · subst h6
        rw [Int.zero_mul] at hc
        exact Or.inl ⟨by omega, by omega⟩
      · subst h6
        rw [Int.neg_mul, Int.one_mul] at hc
        exact Or.inr ⟨by omega, by omega⟩
theorem ts_R.nat {f : Nat → Int64} {n : Nat} (h : ts_R f (n : Int)) : ts_n f = n := by
  rcases h.cases with ⟨_, h1⟩ | ⟨h1, _⟩ <;> omega
theorem ts_R.n0 {f : Nat → Int64} {v : Int} (h : ts_R f v) : ts_n f = 0 ↔ v = 0 := by
  have hMK := ts_MK
  have hp := ts_Kpos
  have h2 := h.2.2.1
  rcases h.cases with ⟨_, h1⟩ | ⟨_, h1⟩ <;> omega
theorem ts_R.neg {f : Nat → Int64} {v : Int} (h : ts_R f v) : v < 0 ↔ 2147483648 ≤ uN (f 199) := by
  have hd := h.1
  have h1 := h.2.2.1
  have h2 := h.2.2.2
  have e : ts_n f = ts_dv (2 ^ 32) (ts_u f) 199 + uN (f 199) * (2 ^ 32) ^ 199 := rfl
  have hl : ts_dv (2 ^ 32) (ts_u f) 199 < (2 ^ 32) ^ 199 := ts_dv_lt (fun k hk => hd k (by omega))
  have hMK := ts_MK
  have hK : ts_K = 2147483648 * (2 ^ 32) ^ 199 := rfl
  have hc := h.cases
  generalize (2 ^ 32) ^ 199 = X at *
  generalize ts_dv (2 ^ 32) (ts_u f) 199 = D at *
  generalize ts_n f = n at *
  generalize ts_M = M at *
  generalize ts_K = K at *
  constructor
  · intro hv
    rcases Nat.lt_or_ge (uN (f 199)) 2147483648 with h3 | h3
    · exfalso
      have h4 : (uN (f 199) + 1) * X ≤ 2147483648 * X := Nat.mul_le_mul_right _ h3
      rw [Nat.add_mul, Nat.one_mul] at h4
      generalize uN (f 199) * X = z at *
      omega
    · exact h3
  · intro hu
    have h4 : 2147483648 * X ≤ uN (f 199) * X := Nat.mul_le_mul_right _ hu
    generalize uN (f 199) * X = z at *
    omega
/-- the sum of two rows, one times -/
theorem ts_R.sum {f g f' : Nat → Int64} {v w t : Int} (hf : ts_R f v) (hg : ts_R g w) (hk : ts_ok f') (hs : ∃ c : Int, (ts_n f' : Int) + c * (ts_M : Int) = (ts_n f : Int) + t * (ts_n g : Int)) (h1 : -(ts_K : Int) ≤ v + t * w) (h2 : v + t * w < (ts_K : Int)) : ts_R f' (v + t * w) := by
  obtain ⟨_, ⟨c1, e1⟩, _⟩ := hf
  obtain ⟨_, ⟨c2, e2⟩, _⟩ := hg
  obtain ⟨c, e⟩ := hs
  refine ⟨hk, ⟨c + c1 + t * c2, ?_⟩, h1, h2⟩
  rw [← e1, ← e2]
  generalize (ts_n f' : Int) = a at *
  generalize (ts_n f : Int) = n at *
  generalize (ts_n g : Int) = k at *
  generalize (ts_M : Int) = M at *
  rw [Int.add_mul, Int.add_mul, Int.mul_add, Int.mul_assoc]
  generalize t * (c2 * M) = z1 at *
  generalize c * M = z2 at *
  generalize c1 * M = z3 at *
  generalize t * k = z4 at *
  omega
theorem ts_R.self {f : Nat → Int64} {v : Int} (h : ts_R f v) {g : Nat → Int64} (hg : ∀ k, k < 200 → g k = f k) : ts_R g v := by
  obtain ⟨hd, hc, h1, h2⟩ := h
  have e : ts_n g = ts_n f := ts_dv_congr (fun k hk => by unfold ts_u; rw [hg k hk])
  exact ⟨fun k hk => by unfold ts_u; rw [hg k hk]; exact hd k hk, by rw [e]; exact hc, h1, h2⟩
theorem ts_R.zero {g : Nat → Int64} (hg : ∀ k, k < 200 → g k = 0) : ts_R g 0 := by
  have h0 : uN 0 = 0 := by decide +kernel
  have e : ts_n g = 0 := ts_dv_zero (fun k hk => by unfold ts_u; rw [hg k hk]; exact h0)
  have hp := ts_Kpos
  refine ⟨fun k hk => by unfold ts_u; rw [hg k hk, h0]; decide, ⟨0, by rw [e, Int.zero_mul]; rfl⟩, by omega, by omega⟩
theorem ts_R.ofNat {f : Nat → Int64} (hk : ts_ok f) (h : ts_n f < ts_K) : ts_R f (ts_n f : Int) := ⟨hk, ⟨0, by rw [Int.zero_mul, Int.add_zero]⟩, by omega, by omega⟩
/-- what the sign and the size are -/
def ts_sg (v : Int) : Int32 := if v < 0 then -1 else if v = 0 then 0 else 1
theorem ts_sg_i (v : Int) : (ts_sg v).toInt = v.sign := by
  unfold ts_sg
  rcases Int.lt_trichotomy v 0 with h | h | h
  · rw [if_pos h, Int.sign_eq_neg_one_of_neg h]; decide +kernel
  · subst h; decide +kernel
  · rw [if_neg (by omega), if_neg (by omega), Int.sign_eq_one_of_pos h]; decide +kernel
theorem ts_sg_abs (v : Int) : v.sign * v = (v.natAbs : Int) := Int.sign_mul_self v
theorem ts_mulfit {n c M x : Nat} (h : n + c * M = x) (hx : x < M) : n = x := by
  rcases Nat.eq_zero_or_pos c with h0 | h0
  · rw [h0, Nat.zero_mul] at h; omega
  · have : 1 * M ≤ c * M := Nat.mul_le_mul_right _ h0
    omega
