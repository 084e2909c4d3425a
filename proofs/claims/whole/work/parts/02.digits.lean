/-! PURE ROWS: numbers by their digits (base B, the lowest first) -/
def ts_dv (B : Nat) (d : Nat → Nat) : Nat → Nat
  | 0 => 0
  | n + 1 => ts_dv B d n + d n * B ^ n
theorem ts_dv0 (B : Nat) (d : Nat → Nat) : ts_dv B d 0 = 0 := rfl
theorem ts_dvs (B : Nat) (d : Nat → Nat) (n : Nat) : ts_dv B d (n + 1) = ts_dv B d n + d n * B ^ n := rfl
theorem ts_dv_congr {B : Nat} {d e : Nat → Nat} : ∀ {n : Nat}, (∀ k, k < n → d k = e k) → ts_dv B d n = ts_dv B e n := by
  intro n
  induction n with
  | zero => intro _; rfl
  | succ n ih => intro h; rw [ts_dvs, ts_dvs, ih (fun k hk => h k (by omega)), h n (by omega)]
theorem ts_dv_lt {B : Nat} {d : Nat → Nat} : ∀ {n : Nat}, (∀ k, k < n → d k < B) → ts_dv B d n < B ^ n := by
  intro n
  induction n with
  | zero => intro _; simp [ts_dv]
  | succ n ih =>
    intro h
    have h1 := ih (fun k hk => h k (by omega))
    have h2 : (d n + 1) * B ^ n ≤ B * B ^ n := Nat.mul_le_mul_right _ (h n (by omega))
    rw [ts_dvs, Nat.pow_succ, Nat.mul_comm (B ^ n) B]
    rw [Nat.add_mul, Nat.one_mul] at h2
    omega
theorem ts_dv_add (B : Nat) (d : Nat → Nat) (k : Nat) : ∀ j, ts_dv B d (k + j) = ts_dv B d k + B ^ k * ts_dv B (fun i => d (k + i)) j := by
  intro j
  induction j with
  | zero => simp [ts_dv]
  | succ j ih =>
    rw [← Nat.add_assoc, ts_dvs, ih, ts_dvs, Nat.pow_add, Nat.mul_add, Nat.add_assoc]
    congr 2
    rw [← Nat.mul_assoc, Nat.mul_comm (d (k + j)) (B ^ k), Nat.mul_assoc]
theorem ts_dv_mod {B : Nat} {d : Nat → Nat} {k j : Nat} (h : ∀ i, i < k → d i < B) : ts_dv B d (k + j) % B ^ k = ts_dv B d k := by
  rw [ts_dv_add, Nat.add_mul_mod_self_left, Nat.mod_eq_of_lt (ts_dv_lt h)]
theorem ts_dv_div {B : Nat} {d : Nat → Nat} {k j : Nat} (hB : 0 < B) (h : ∀ i, i < k → d i < B) : ts_dv B d (k + j) / B ^ k = ts_dv B (fun i => d (k + i)) j := by
  rw [ts_dv_add, Nat.add_mul_div_left _ _ (Nat.pow_pos hB), Nat.div_eq_of_lt (ts_dv_lt h), Nat.zero_add]
theorem ts_dv_digit {B : Nat} {d : Nat → Nat} {k n : Nat} (hB : 0 < B) (h : ∀ i, i < n → d i < B) (hk : k < n) : ts_dv B d n / B ^ k % B = d k := by
  obtain ⟨m, rfl⟩ : ∃ m, n = k + (1 + m) := ⟨n - k - 1, by omega⟩
  rw [ts_dv_div hB (fun i hi => h i (by omega)), ts_dv_add]
  have e1 : ts_dv B (fun i => d (k + i)) 1 = d k := by simp [ts_dv]
  rw [e1, Nat.pow_one, Nat.add_mul_mod_self_left, Nat.mod_eq_of_lt (h k (by omega))]
theorem ts_dv_zero {B : Nat} {d : Nat → Nat} : ∀ {n : Nat}, (∀ k, k < n → d k = 0) → ts_dv B d n = 0 := by
  intro n
  induction n with
  | zero => intro _; rfl
  | succ n ih => intro h; rw [ts_dvs, ih (fun k hk => h k (by omega)), h n (by omega), Nat.zero_mul]
theorem ts_dv_eq0 {B : Nat} {d : Nat → Nat} (hB : 0 < B) : ∀ {n : Nat}, ts_dv B d n = 0 → ∀ k, k < n → d k = 0 := by
  intro n
  induction n with
  | zero => intro _ k hk; omega
  | succ n ih =>
    intro h k hk
    rw [ts_dvs] at h
    have h1 : ts_dv B d n = 0 := by omega
    have h2 : d n * B ^ n = 0 := by omega
    rcases Nat.mul_eq_zero.mp h2 with h3 | h3
    · rcases Nat.lt_or_ge k n with h4 | h4
      · exact ih h1 k h4
      · have : k = n := by omega
        rw [this]; exact h3
    · exact absurd h3 (Nat.ne_of_gt (Nat.pow_pos hB))
/-- the digits above k are 0 -/
theorem ts_dv_top {B : Nat} {d : Nat → Nat} {k n : Nat} (hk : k < n) (h : ∀ j, k < j → j < n → d j = 0) : ts_dv B d n = ts_dv B d k + d k * B ^ k := by
  obtain ⟨m, rfl⟩ : ∃ m, n = (k + 1) + m := ⟨n - k - 1, by omega⟩
  rw [ts_dv_add, ts_dv_zero (fun j hj => h (k + 1 + j) (by omega) (by omega)), Nat.mul_zero, Nat.add_zero, ts_dvs]
/-- the digits below k are 0 -/
theorem ts_dv_low {B : Nat} {d : Nat → Nat} {k n : Nat} (hk : k < n) (h : ∀ j, j < k → d j = 0) : ∃ r, ts_dv B d n = B ^ k * (d k + B * r) := by
  obtain ⟨m, rfl⟩ : ∃ m, n = k + (1 + m) := ⟨n - k - 1, by omega⟩
  refine ⟨ts_dv B (fun i => d (k + (1 + i))) m, ?_⟩
  rw [ts_dv_add, ts_dv_zero h, Nat.zero_add, ts_dv_add B (fun i => d (k + i)) 1 m]
  have e1 : ts_dv B (fun i => d (k + i)) 1 = d k := by simp [ts_dv]
  rw [e1, Nat.pow_one]
/-- the highest digit that differs decides -/
theorem ts_dv_cmp {B : Nat} {a b : Nat → Nat} {k n : Nat} (hk : k < n) (ha : ∀ i, i < n → a i < B) (h : ∀ j, k < j → j < n → a j = b j) (hl : a k < b k) : ts_dv B a n < ts_dv B b n := by
  obtain ⟨m, rfl⟩ : ∃ m, n = (k + 1) + m := ⟨n - k - 1, by omega⟩
  rw [ts_dv_add, ts_dv_add B b, ts_dv_congr (n := m) (d := fun i => a (k + 1 + i)) (e := fun i => b (k + 1 + i)) (fun j hj => h (k + 1 + j) (by omega) (by omega)), ts_dvs, ts_dvs]
  have h1 := ts_dv_lt (B := B) (d := a) (n := k) (fun i hi => ha i (by omega))
  have h2 : (a k + 1) * B ^ k ≤ b k * B ^ k := Nat.mul_le_mul_right _ hl
  rw [Nat.add_mul, Nat.one_mul] at h2
  omega
theorem ts_dv_inj {B : Nat} {a b : Nat → Nat} {n : Nat} (hB : 0 < B) (ha : ∀ i, i < n → a i < B) (hb : ∀ i, i < n → b i < B) (h : ts_dv B a n = ts_dv B b n) : ∀ k, k < n → a k = b k := by
  intro k hk
  rw [← ts_dv_digit hB ha hk, h, ts_dv_digit hB hb hk]
/-- bits of a number by its digits -/
theorem ts_dv_bit {b : Nat} {d : Nat → Nat} {k n j : Nat} (h : ∀ i, i < n → d i < 2 ^ b) (hk : k < n) (hj : j < b) : (ts_dv (2 ^ b) d n).testBit (b * k + j) = (d k).testBit j := by
  have h1 := ts_dv_digit (B := 2 ^ b) (Nat.pow_pos (by decide)) h hk
  rw [← h1, Nat.testBit_mod_two_pow, ← Nat.pow_mul, Nat.testBit_div_two_pow]
  simp [hj, Nat.add_comm]
theorem ts_dv_bitO {b : Nat} {d : Nat → Nat} {n p : Nat} (h : ∀ i, i < n → d i < 2 ^ b) (hp : b * n ≤ p) : (ts_dv (2 ^ b) d n).testBit p = false := by
  apply Nat.testBit_lt_two_pow
  have h1 := ts_dv_lt h
  rw [← Nat.pow_mul] at h1
  exact Nat.lt_of_lt_of_le h1 (Nat.pow_le_pow_right (by decide) hp)
/-- p is the place of the highest 1 bit -/
def ts_Top (n p : Nat) : Prop := 2 ^ p ≤ n ∧ n < 2 ^ (p + 1)
theorem ts_Top.log {n p : Nat} (h : ts_Top n p) : n.log2 = p := (Nat.log2_eq_iff (by have := Nat.pow_pos (n := p) (show 0 < 2 by decide); have := h.1; omega)).mpr h
theorem ts_Top.of {n : Nat} (h : n ≠ 0) : ts_Top n n.log2 := (Nat.log2_eq_iff h).mp rfl
theorem ts_Top.ne {n p : Nat} (h : ts_Top n p) : n ≠ 0 := by have := Nat.pow_pos (n := p) (show 0 < 2 by decide); have := h.1; omega
theorem ts_Top.uniq {n p q : Nat} (h : ts_Top n p) (h' : ts_Top n q) : p = q := by rw [← h.log, h'.log]
theorem ts_dv_topbit {b : Nat} {d : Nat → Nat} {k n p : Nat} (hd : ∀ i, i < n → d i < 2 ^ b) (hk : k < n) (h : ∀ j, k < j → j < n → d j = 0) (ht : ts_Top (d k) p) : ts_Top (ts_dv (2 ^ b) d n) (b * k + p) := by
  rw [ts_dv_top hk h]
  have h1 := ts_dv_lt (B := 2 ^ b) (d := d) (n := k) (fun i hi => hd i (by omega))
  rw [← Nat.pow_mul] at h1
  rw [← Nat.pow_mul]
  have h2 : 2 ^ p * 2 ^ (b * k) ≤ d k * 2 ^ (b * k) := Nat.mul_le_mul_right _ ht.1
  have h3 : (d k + 1) * 2 ^ (b * k) ≤ 2 ^ (p + 1) * 2 ^ (b * k) := Nat.mul_le_mul_right _ ht.2
  rw [Nat.add_mul, Nat.one_mul] at h3
  have e1 : 2 ^ (b * k + p) = 2 ^ p * 2 ^ (b * k) := by rw [Nat.pow_add, Nat.mul_comm]
  have e2 : 2 ^ (b * k + p + 1) = 2 ^ (p + 1) * 2 ^ (b * k) := by rw [Nat.add_assoc, Nat.pow_add, Nat.mul_comm]
  exact ⟨by rw [e1]; omega, by rw [e2]; omega⟩
/-- p is the place of the lowest 1 bit -/
def ts_Bot (n p : Nat) : Prop := n % 2 ^ p = 0 ∧ n.testBit p = true
theorem ts_Bot.below {n p i : Nat} (h : ts_Bot n p) (hi : i < p) : n.testBit i = false := by
  have h1 : (n % 2 ^ p).testBit i = false := by rw [h.1]; exact Nat.zero_testBit i
  rw [Nat.testBit_mod_two_pow] at h1
  simpa [hi] using h1
theorem ts_Bot.uniq {n p q : Nat} (h : ts_Bot n p) (h' : ts_Bot n q) : p = q := by
  rcases Nat.lt_trichotomy p q with h1 | h1 | h1
  · have := h'.below h1; rw [h.2] at this; cases this
  · exact h1
  · have := h.below h1; rw [h'.2] at this; cases this
theorem ts_Bot.ne {n p : Nat} (h : ts_Bot n p) : n ≠ 0 := by
  intro e
  have := h.2
  rw [e, Nat.zero_testBit] at this
  cases this
/-- something stands below place u just when the lowest 1 bit does -/
theorem ts_Bot.less {n p u : Nat} (h : ts_Bot n p) : p < u ↔ n % 2 ^ u ≠ 0 := by
  constructor
  · intro hp e
    have h1 : (n % 2 ^ u).testBit p = false := by rw [e]; exact Nat.zero_testBit p
    rw [Nat.testBit_mod_two_pow, h.2] at h1
    simp [hp] at h1
  · intro hne
    rcases Nat.lt_or_ge p u with h1 | h1
    · exact h1
    · exfalso
      apply hne
      obtain ⟨r, hr⟩ := Nat.dvd_of_mod_eq_zero h.1
      apply Nat.mod_eq_zero_of_dvd
      obtain ⟨m, rfl⟩ : ∃ m, p = u + m := ⟨p - u, by omega⟩
      rw [hr, Nat.pow_add, Nat.mul_assoc]
      exact Nat.dvd_mul_right _ _
theorem ts_dv_botbit {b : Nat} {d : Nat → Nat} {k n p : Nat} (hd : ∀ i, i < n → d i < 2 ^ b) (hk : k < n) (h : ∀ j, j < k → d j = 0) (ht : ts_Bot (d k) p) (hp : p < b) : ts_Bot (ts_dv (2 ^ b) d n) (b * k + p) := by
  refine ⟨?_, by rw [ts_dv_bit hd hk hp]; exact ht.2⟩
  obtain ⟨r, hr⟩ := ts_dv_low (B := 2 ^ b) hk h
  obtain ⟨q, hq⟩ := Nat.dvd_of_mod_eq_zero ht.1
  rw [hr]
  apply Nat.mod_eq_zero_of_dvd
  obtain ⟨m, rfl⟩ : ∃ m, b = p + m := ⟨b - p, by omega⟩
  rw [← Nat.pow_mul, Nat.pow_add, Nat.pow_add 2 p m]
  refine Nat.mul_dvd_mul (Nat.dvd_refl _) ?_
  rw [hq, Nat.mul_assoc, ← Nat.mul_add]
  exact Nat.dvd_mul_right _ _
/-- one step of a multiplication, digit by digit -/
theorem ts_stepM {A c X m S l l' c' B : Nat} (h : A + c * X = m * S) (hs : l' + c' * B = l * m + c) : A + l' * X + c' * (X * B) = m * (S + l * X) := by
  have h1 : (l' + c' * B) * X = (l * m + c) * X := by rw [hs]
  grind
/-- one step of a sum, digit by digit -/
theorem ts_stepA {A c X F t G f g f' c' B : Int} (h : A + c * X = F + t * G) (hs : f' + c' * B = f + t * g + c) : A + f' * X + c' * (X * B) = (F + f * X) + t * (G + g * X) := by
  have h1 : (f' + c' * B) * X = (f + t * g + c) * X := by rw [hs]
  grind
theorem ts_stepT {A c X u F t G f g f' c' B : Int} (h : A + c * X = u * F + t * G) (hs : f' + c' * B = u * f + t * g + c) : A + f' * X + c' * (X * B) = u * (F + f * X) + t * (G + g * X) := by
  have h1 : (f' + c' * B) * X = (u * f + t * g + c) * X := by rw [hs]
  grind
