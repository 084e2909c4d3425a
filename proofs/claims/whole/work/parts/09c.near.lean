/-! PURE ROWS: nearest, as the class works it out -/
def ts_un (n : Nat) : Nat := max (n.log2 - 52) 2148
theorem ts_un_ge (n : Nat) : 2148 ≤ ts_un n := Nat.le_max_right _ _
theorem ts_hpLe {n : Nat} {z : Int32} (h : ts_hp n z) (hle : z ≤ (4245 : Int32)) : n.log2 ≤ 4245 := by
  rcases h with ⟨h1, -⟩ | ⟨p, h1, h2, h3⟩
  · subst h1; decide +kernel
  · rw [h1.log]
    rw [h3] at hle
    exact (nI_leI (b := 4245) (by omega) (by decide)).mp hle
theorem ts_hpGt {n : Nat} {z : Int32} (h : ts_hp n z) (hgt : ¬ z ≤ (4245 : Int32)) : n ≠ 0 ∧ 4245 < n.log2 := by
  rcases h with ⟨-, h2⟩ | ⟨p, h1, h2, h3⟩
  · rw [h2] at hgt
    exact absurd (by decide +kernel) hgt
  · refine ⟨h1.ne, ?_⟩
    rw [h1.log]
    rw [h3] at hgt
    rcases Nat.lt_or_ge 4245 p with q | q
    · exact q
    · exact absurd ((nI_leI (b := 4245) (by omega) (by decide)).mpr q) hgt
theorem ts_unit {n : Nat} {z : Int32} (h : ts_hp n z) : (if z - 52 < 2148 then (2148 : Int32) else z - 52) = nI (ts_un n) := by
  rcases h with ⟨h1, h2⟩ | ⟨p, h1, h2, h3⟩
  · subst h1; subst h2
    decide +kernel
  · unfold ts_un
    rw [h1.log, h3]
    have e : (nI p - 52).toInt = (p : Int) - 52 := pk_sub_toInt (b := 52) (by omega) (by decide)
    have e2 : (2148 : Int32).toInt = 2148 := by decide +kernel
    by_cases hc : nI p - 52 < 2148
    · rw [if_pos hc]
      rw [Int32.lt_iff_toInt_lt, e, e2] at hc
      rw [show max (p - 52) 2148 = 2148 by omega]
      rfl
    · rw [if_neg hc]
      rw [Int32.lt_iff_toInt_lt, e, e2] at hc
      rw [show max (p - 52) 2148 = p - 52 by omega]
      exact pk_sub (b := 52) (by omega)
theorem ts_un_lt {n : Nat} (h : n.log2 ≤ 4245) : ts_un n ≤ 4193 := by
  unfold ts_un
  omega
theorem ts_keptb (n : Nat) : n / 2 ^ ts_un n < 2 ^ 53 := by
  rw [Nat.div_lt_iff_lt_mul (Nat.pow_pos (by decide)), ← Nat.pow_add]
  rcases Nat.eq_zero_or_pos n with h | h
  · subst h; exact Nat.pow_pos (by decide)
  · have h1 := (ts_Top.of (n := n) (by omega)).2
    refine Nat.lt_of_lt_of_le h1 (Nat.pow_le_pow_right (by decide) ?_)
    unfold ts_un
    omega
def ts_up (n u : Nat) : Bool := n.testBit (u - 1) && (decide (n / 2 ^ u % 2 = 1) || decide (n % 2 ^ (u - 1) ≠ 0))
theorem ts_ns_eq {n : Nat} (h : n.log2 ≤ 4245) : ts_ns n = (ts_un n - 2148) * 4503599627370496 + (n / 2 ^ ts_un n + if ts_up n (ts_un n) = true then 1 else 0) := by
  unfold ts_ns
  rcases Nat.eq_zero_or_pos n with h0 | h0
  · subst h0
    rw [if_pos rfl]
    decide +kernel
  · rw [if_neg (by omega), if_neg (by omega)]
    rfl
theorem ts_ns_inf {n : Nat} (h0 : n ≠ 0) (h : 4245 < n.log2) : ts_ns n = 9218868437227405312 := by
  unfold ts_ns
  rw [if_neg h0, if_pos h]
theorem ts_uNl {n : Nat} (h : n < 2 ^ 64) : uN (lN n) = n := by
  show (UInt64.ofNat n).toNat = n
  rw [UInt64.toNat_ofNat']
  omega
/-- the end of nearestToSize -/
theorem ts_nsC {n : Nat} {r : Int64} (h : n.log2 ≤ 4245) (hr : uN r = n / 2 ^ ts_un n + if ts_up n (ts_un n) = true then 1 else 0) : (nI (ts_un n) - 2148).toInt64 <<< ((52 : Int32).toInt64 &&& 63) + r = lN (ts_ns n) := by
  have h1 := ts_un_lt h
  have h2 := ts_un_ge n
  have h3 := ts_keptb n
  have e1 : nI (ts_un n) - 2148 = nI (ts_un n - 2148) := pk_sub (b := 2148) h2
  have e2 : (nI (ts_un n - 2148)).toInt64 = lN (ts_un n - 2148) := nI_l (by omega)
  have e3 := ts_u_shl (lN (ts_un n - 2148)) ((52 : Int32).toInt64 &&& 63) 52 (by decide +kernel)
  have e4 : uN (lN (ts_un n - 2148)) = ts_un n - 2148 := ts_uNl (by omega)
  apply uN_inj
  have hb : (if ts_up n (ts_un n) = true then 1 else 0) ≤ 1 := by split <;> omega
  rw [e1, e2, uN_add, e3, e4, hr, ts_ns_eq h, ts_uNl]
  · generalize n / 2 ^ ts_un n = k at *
    generalize (if ts_up n (ts_un n) = true then 1 else 0) = q at *
    omega
  · generalize n / 2 ^ ts_un n = k at *
    generalize (if ts_up n (ts_un n) = true then 1 else 0) = q at *
    omega
theorem ts_shf (x : Int64) : (if nI (ts_e x) < 1 then (1 : Int32) else nI (ts_e x)) - 1 = nI (ts_s x) := by
  have h1 := ts_e_lt x
  unfold ts_s
  by_cases h : ts_e x = 0
  · rw [h]
    decide +kernel
  · have h2 : ¬ nI (ts_e x) < 1 := nI_nlt (a := ts_e x) (b := 1) (by omega) (by omega)
    rw [if_neg h2]
    exact pk_sub (b := 1) (by omega)
theorem ts_hp_tp {n : Nat} {q : Int32} (h : ts_hp n q) : ts_tp n (if q = -100000 then -100000 else q - 3222) := by
  rcases h with ⟨h1, h2⟩ | ⟨p, h1, h2, h3⟩
  · rw [if_pos h2]; exact Or.inl ⟨h1, rfl⟩
  · rw [if_neg (fun z => h1.ne (ts_hp1 (Or.inr ⟨p, h1, h2, h3⟩) z))]
    exact Or.inr ⟨p, h1, by rw [h3]⟩
theorem ts_lp_bt {n : Nat} {q : Int32} (h : ts_lp2 n q) : ts_bt n (if q = -100000 then -100000 else q - 3222) := by
  rcases h with ⟨h1, h2⟩ | ⟨p, h1, h2, h3⟩
  · rw [if_pos h2]; exact Or.inl ⟨h1, rfl⟩
  · have hne : ¬ q = -100000 := by
      intro z
      have h4 := congrArg Int32.toInt (h3.symm.trans z)
      rw [nI_toInt (by omega)] at h4
      have e : (-100000 : Int32).toInt = -100000 := by decide +kernel
      omega
    rw [if_neg hne]
    exact Or.inr ⟨p, h1, by rw [h3]⟩
theorem ts_sg_neg {x : Int} (h : x < 0) : ts_sg x = -1 := by unfold ts_sg; rw [if_pos h]
theorem ts_sg_pos {x : Int} (h : ¬ x < 0) : 0 ≤ ts_sg x := by
  unfold ts_sg
  rw [if_neg h]
  split <;> decide +kernel
theorem ts_6294 : 2 ^ 6294 < ts_K := by
  unfold ts_K
  rw [← Nat.pow_mul, ← Nat.pow_add]
  exact Nat.pow_lt_pow_right (by decide) (by decide)
theorem ts_6372 : 2 ^ 6372 < ts_K := by
  unfold ts_K
  rw [← Nat.pow_mul, ← Nat.pow_add]
  exact Nat.pow_lt_pow_right (by decide) (by decide)
theorem ts_mulc (a b c : Nat) : a * (b * c) = b * a * c := by rw [← Nat.mul_assoc, Nat.mul_comm a b]
theorem ts_pb1 {a : Nat} (ha : a < 2 ^ 53) : 1 * a < 2 ^ 159 := by
  rw [Nat.one_mul]
  exact Nat.lt_trans ha (by decide)
theorem ts_pb2 {a b : Nat} (ha : a < 2 ^ 53) (hb : b < 2 ^ 53) : 1 * a * b < 2 ^ 159 := by
  rw [Nat.one_mul]
  have h : a * b ≤ (2 ^ 53 - 1) * (2 ^ 53 - 1) := Nat.mul_le_mul (by omega) (by omega)
  exact Nat.lt_of_le_of_lt h (by decide)
theorem ts_pb3 {a b c : Nat} (ha : a < 2 ^ 53) (hb : b < 2 ^ 53) (hc : c < 2 ^ 53) : 1 * a * b * c < 2 ^ 159 := by
  rw [Nat.one_mul]
  have h : a * b * c ≤ (2 ^ 53 - 1) * (2 ^ 53 - 1) * (2 ^ 53 - 1) := Nat.mul_le_mul (Nat.mul_le_mul (by omega) (by omega)) (by omega)
  exact Nat.lt_of_le_of_lt h (by decide)
theorem ts_pfit {x y z : Int64} {k : Nat} (hx : ts_e x ≠ 2047) (hy : ts_e y ≠ 2047) (hz : ts_e z ≠ 2047) (hk : k < 2 ^ 159) : k * 2 ^ (ts_s x + ts_s y + ts_s z) < ts_M := by
  have s1 := ts_s_le hx
  have s2 := ts_s_le hy
  have s3 := ts_s_le hz
  have a2 : 2 ^ (ts_s x + ts_s y + ts_s z) ≤ 2 ^ 6135 := Nat.pow_le_pow_right (by decide) (by omega)
  have a4 : (2 : Nat) ^ 6294 = 2 ^ 159 * 2 ^ 6135 := by rw [← Nat.pow_add]
  have a5 : k * 2 ^ (ts_s x + ts_s y + ts_s z) < 2 ^ 159 * 2 ^ 6135 := Nat.mul_lt_mul_of_lt_of_le hk a2 (Nat.pow_pos (by decide))
  have a6 := ts_6294
  have a7 := ts_MK
  rw [a4] at a6
  omega
theorem ts_hp_lt {n : Nat} {z : Int32} (h : ts_hp n z) (hn : n < 2 ^ 6372) : z < (6372 : Int32) := by
  rcases h with ⟨-, h2⟩ | ⟨p, h1, h2, h3⟩
  · rw [h2]; decide +kernel
  · rw [h3]
    exact nI_lt (b := 6372) (h1.lt_of hn) (by decide)
