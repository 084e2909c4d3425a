/-! PURE ROWS: nearest, as the reference works it out -/
theorem ts_near0 : ts_near 0 = 0 := by decide +kernel
theorem ts_top_i {p : Nat} (hp : p < 6720) : (nI p - 3222 : Int32).toInt = (p : Int) - 3222 := pk_sub_toInt (b := 3222) (by omega) (by decide)
def ts_dz (p i : Nat) : Int32 := nI p - 3222 - nI i
theorem ts_dz_i {p i : Nat} (hp : p < 6720) (hi : i < 6720) : (ts_dz p i).toInt = (p : Int) - 3222 - (i : Int) := by
  have e1 := ts_top_i hp
  have e2 : (nI i).toInt = (i : Int) := nI_toInt (by omega)
  unfold ts_dz
  rw [ts_i_sub (by rw [e1, e2]; omega) (by rw [e1, e2]; omega), e1, e2]
theorem ts_dz_s {p i : Nat} (hp : p < 6720) (hi : i + 1 < 6720) : ts_dz p i + Int32.ofInt (-1) = ts_dz p (i + 1) := by
  have e1 := ts_dz_i (p := p) (i := i) hp (by omega)
  have e2 : (Int32.ofInt (-1)).toInt = -1 := by decide +kernel
  apply Int32.toInt_inj.mp
  rw [ts_i_add (by rw [e1, e2]; omega) (by rw [e1, e2]; omega), e1, e2, ts_dz_i hp hi]
  omega
theorem ts_dz_0 (p : Nat) : nI p - 3222 = ts_dz p 0 := (Int32.sub_zero _).symm
theorem ts_top1023 {p : Nat} (hp : p < 6720) : (nI p - 3222 ≤ (1023 : Int32)) ↔ p ≤ 4245 := by
  have e2 : (1023 : Int32).toInt = 1023 := by decide +kernel
  rw [Int32.le_iff_toInt_le, ts_top_i hp, e2]
  omega
theorem ts_lowR {n p : Nat} (ht : ts_Top n p) (hp : p < 6720) : (¬ (-1074 : Int32) ≤ nI p - 3222 - 52 → (-1074 : Int32) = nI (ts_un n) - 3222) ∧ ((-1074 : Int32) ≤ nI p - 3222 - 52 → nI p - 3222 - 52 = nI (ts_un n) - 3222) := by
  have e1 := ts_top_i hp
  have e2 : (52 : Int32).toInt = 52 := by decide +kernel
  have e3 : (-1074 : Int32).toInt = -1074 := by decide +kernel
  have e4 : (nI p - 3222 - 52 : Int32).toInt = (p : Int) - 3222 - 52 := by rw [ts_i_sub (by rw [e1, e2]; omega) (by rw [e1, e2]; omega), e1, e2]
  have hl := ht.log
  have hu : ts_un n = max (p - 52) 2148 := by unfold ts_un; rw [hl]
  have e5 := ts_top_i (p := ts_un n) (by omega)
  rw [Int32.le_iff_toInt_le, e3, e4]
  refine ⟨fun h => ?_, fun h => ?_⟩
  · apply Int32.toInt_inj.mp
    rw [e3, e5]
    omega
  · apply Int32.toInt_inj.mp
    rw [e4, e5]
    omega
def ts_NrI (n p i : Nat) (m : Int64) : Prop := uN m = n / 2 ^ (p + 1 - i)
theorem ts_NrI.zero {n p : Nat} (ht : ts_Top n p) : ts_NrI n p 0 0 := by
  unfold ts_NrI
  rw [Nat.sub_zero, Nat.div_eq_of_lt ht.2]
  decide +kernel
theorem ts_NrI.step {n p i : Nat} {m b : Int64} (ht : ts_Top n p) (hi : i ≤ p) (hi2 : i ≤ 60) (h : ts_NrI n p i m) (hb : uN b = if n.testBit (p - i) = true then 1 else 0) : ts_NrI n p (i + 1) (m <<< ((1 : Int32).toInt64 &&& 63) ||| b) := by
  unfold ts_NrI at h ⊢
  have e0 : p + 1 - i = p - i + 1 := by omega
  have e1 : p + 1 - (i + 1) = p - i := by omega
  rw [e0] at h
  rw [e1]
  have hv : uN m < 9223372036854775808 := by
    have h1 : (2 : Nat) ^ (p + 1) = 2 ^ (p - i + 1) * 2 ^ i := by rw [← Nat.pow_add]; congr 1; omega
    have h2 : n / 2 ^ (p - i + 1) < 2 ^ i := by
      rw [Nat.div_lt_iff_lt_mul (Nat.pow_pos (by decide)), Nat.mul_comm, ← h1]
      exact ht.2
    have h3 : (2 : Nat) ^ i ≤ 2 ^ 60 := Nat.pow_le_pow_right (by decide) hi2
    omega
  rw [ts_bitIn hv hb (by split <;> decide), h]
  have h4 : n / 2 ^ (p - i + 1) = n / 2 ^ (p - i) / 2 := by rw [Nat.pow_succ, Nat.div_div_eq_div_mul]
  rw [h4, Nat.testBit_eq_decide_div_mod_eq]
  generalize n / 2 ^ (p - i) = k
  by_cases hk : k % 2 = 1
  · rw [if_pos (decide_eq_true hk)]; omega
  · rw [if_neg (by rw [decide_eq_true_eq]; exact hk)]; omega
theorem ts_NrI.done {n p u : Nat} {m : Int64} (ht : ts_Top n p) (h : ts_NrI n p (p + 1 - u) m) : uN m = n / 2 ^ u := by
  unfold ts_NrI at h
  rcases Nat.lt_or_ge u (p + 1) with h1 | h1
  · rw [show p + 1 - (p + 1 - u) = u by omega] at h
    exact h
  · rw [show p + 1 - (p + 1 - u) = p + 1 by omega, Nat.div_eq_of_lt ht.2] at h
    rw [h, Nat.div_eq_of_lt]
    exact Nat.lt_of_lt_of_le ht.2 (Nat.pow_le_pow_right (by decide) h1)
theorem ts_halfR {u : Nat} (h1 : 2148 ≤ u) (h2 : u ≤ 4193) : ((nI u - 3222 : Int32).toInt64 - 1).toInt + 3222 = ((u - 1 : Nat) : Int) := by
  have e1 := ts_top_i (p := u) (by omega)
  have e2 : (nI u - 3222 : Int32).toInt64.toInt = (u : Int) - 3222 := by rw [Int32.toInt_toInt64, e1]
  have e3 : (1 : Int64).toInt = 1 := by decide +kernel
  rw [ts_l_sub (by rw [e2, e3]; omega) (by rw [e2, e3]; omega), e2, e3]
  omega
theorem ts_moreR {u b : Nat} (h1 : 2148 ≤ u) (h2 : u ≤ 4193) (hb : b < 6720) : (nI u - 3222 - 1 ≤ (nI b - 3222 : Int32)) ↔ u - 1 ≤ b := by
  have e1 := ts_top_i (p := u) (by omega)
  have e2 := ts_top_i hb
  have e3 : (1 : Int32).toInt = 1 := by decide +kernel
  rw [Int32.le_iff_toInt_le, e2, ts_i_sub (by rw [e1, e3]; omega) (by rw [e1, e3]; omega), e1, e3]
  omega
theorem ts_low0 {u : Nat} (h2 : u ≤ 4193) : (nI u - 3222 = (-1074 : Int32)) ↔ u = 2148 := by
  have e1 := ts_top_i (p := u) (by omega)
  have e3 : (-1074 : Int32).toInt = -1074 := by decide +kernel
  constructor
  · intro h
    have h3 := congrArg Int32.toInt h
    rw [e1, e3] at h3
    omega
  · intro h
    apply Int32.toInt_inj.mp
    rw [e1, e3]
    omega
theorem ts_lowA {u : Nat} (h2 : u ≤ 4193) : (nI u - 3222 : Int32) + 1074 = nI u - 2148 := by
  have e1 := ts_top_i (p := u) (by omega)
  have e3 : (1074 : Int32).toInt = 1074 := by decide +kernel
  have e4 : (nI u - 2148 : Int32).toInt = (u : Int) - 2148 := pk_sub_toInt (b := 2148) (by omega) (by decide)
  apply Int32.toInt_inj.mp
  rw [ts_i_add (by rw [e1, e3]; omega) (by rw [e1, e3]; omega), e1, e3, e4]
  omega
theorem ts_nsR {n : Nat} {m : Int64} (h : n.log2 ≤ 4245) (hu : ts_un n = 2148) (hr : uN m = n / 2 ^ ts_un n + if ts_up n (ts_un n) = true then 1 else 0) : m = lN (ts_ns n) := by
  apply uN_inj
  have h3 := ts_keptb n
  have hb : (if ts_up n (ts_un n) = true then 1 else 0) ≤ 1 := by split <;> omega
  rw [hr, ts_ns_eq h, ts_uNl]
  · rw [show ts_un n - 2148 = 0 by omega, Nat.zero_mul, Nat.zero_add]
  · rw [show ts_un n - 2148 = 0 by omega, Nat.zero_mul, Nat.zero_add]
    generalize n / 2 ^ ts_un n = k at *
    generalize (if ts_up n (ts_un n) = true then 1 else 0) = q at *
    omega
theorem ts_upT {n u : Nat} (h1 : n.testBit (u - 1) = true) (h2 : n / 2 ^ u % 2 = 1 ∨ n % 2 ^ (u - 1) ≠ 0) : ts_up n u = true := by
  unfold ts_up
  rw [h1, Bool.true_and]
  rcases h2 with h2 | h2
  · rw [decide_eq_true h2, Bool.true_or]
  · rw [decide_eq_true h2, Bool.or_true]
theorem ts_upF {n u : Nat} (h : n.testBit (u - 1) = false ∨ (¬ n / 2 ^ u % 2 = 1 ∧ ¬ n % 2 ^ (u - 1) ≠ 0)) : ts_up n u = false := by
  unfold ts_up
  rcases h with h | ⟨h1, h2⟩
  · rw [h, Bool.false_and]
  · rw [decide_eq_false h1, decide_eq_false h2, Bool.or_false, Bool.and_false]
theorem ts_and1 {x : Int64} : (x &&& 1 = 1) ↔ uN x % 2 = 1 := by
  have h : uN (x &&& 1) = uN x % 2 := by
    show (x.toUInt64 &&& Int64.toUInt64 1).toNat = _
    rw [UInt64.toNat_and]
    exact Nat.and_two_pow_sub_one_eq_mod _ 1
  have h1 : uN 1 = 1 := by decide +kernel
  constructor
  · intro q
    rw [← h, q, h1]
  · intro q
    apply uN_inj
    rw [h, q, h1]
theorem ts_un_top {n p : Nat} (ht : ts_Top n p) : p + 1 - ts_un n ≤ 53 ∧ p ≤ ts_un n + 52 := by
  have h : ts_un n = max (p - 52) 2148 := by unfold ts_un; rw [ht.log]
  rw [h]
  omega
theorem ts_Bot.lt_of {n p k : Nat} (h : ts_Bot n p) (hn : n < 2 ^ k) : p < k := by
  rcases Nat.lt_or_ge p k with h1 | h1
  · exact h1
  · exfalso
    have h2 : (2 : Nat) ^ k ≤ 2 ^ p := Nat.pow_le_pow_right (by decide) h1
    have h3 := h.2
    rw [Nat.testBit_lt_two_pow (Nat.lt_of_lt_of_le hn h2)] at h3
    cases h3
