/-! THE REFERENCE's STATE: eight numbers, told by ten rows and their signs -/
def ts_bad (x : Int32) : Prop := x < 0 ∨ (8 : Int32) ≤ x
theorem ts_bad8 {r : Nat} (hr : r < 8) : ¬ ts_bad (nI r) := by
  intro h
  rcases h with h | h
  · exact absurd h (nI_pos (by omega))
  · exact absurd h (nI_ge (a := r) (b := 8) hr (by decide))
def ts_gd (x y z : Int64) (t : Int32) : Prop := ts_e x ≠ 2047 ∧ ts_e y ≠ 2047 ∧ ts_e z ≠ 2047 ∧ -1000000 ≤ t.toInt ∧ t.toInt ≤ 1000000
def ts_MS (P B : Nat → Int32) (V : Nat → Int) : Prop := ts_pk P ∧ (∀ r, r < 10 → B r = 0 ∨ B r = 1) ∧ ∀ r, r < 8 → ts_bk P B r ∧ ts_V P B r = V r
theorem ts_V_congr {P P' B B' : Nat → Int32} {r : Nat} (h1 : ts_r P' r = ts_r P r) (h2 : B' r = B r) : ts_V P' B' r = ts_V P B r := by
  unfold ts_V
  rw [h1, h2]
theorem ts_bk_congr {P P' B B' : Nat → Int32} {r : Nat} (h1 : ts_r P' r = ts_r P r) (h2 : B' r = B r) (h : ts_bk P B r) : ts_bk P' B' r := by
  unfold ts_bk
  rw [h1, h2]
  exact h
theorem ts_MS.keep {P P' B B' : Nat → Int32} {V : Nat → Int} (h : ts_MS P B V) (hp : ts_pk P') (hb : ∀ q, q < 10 → B' q = 0 ∨ B' q = 1) (ho : ∀ q, q < 8 → ts_r P' q = ts_r P q ∧ B' q = B q) : ts_MS P' B' V :=
  ⟨hp, hb, fun r hr => ⟨ts_bk_congr (ho r hr).1 (ho r hr).2 (h.2.2 r hr).1, (ts_V_congr (ho r hr).1 (ho r hr).2).trans (h.2.2 r hr).2⟩⟩
theorem ts_MS.set {P P' B B' : Nat → Int32} {V : Nat → Int} {r : Nat} {x : Int} (h : ts_MS P B V) (hp : ts_pk P') (hb : ∀ q, q < 10 → B' q = 0 ∨ B' q = 1) (ho : ∀ q, q < 8 → q ≠ r → ts_r P' q = ts_r P q ∧ B' q = B q) (hk : ts_bk P' B' r) (hv : ts_V P' B' r = x) : ts_MS P' B' (va_up V r x) := by
  refine ⟨hp, hb, fun q hq => ?_⟩
  by_cases e : q = r
  · subst e
    rw [va_up_self]
    exact ⟨hk, hv⟩
  · rw [va_up_ne _ _ e]
    exact ⟨ts_bk_congr (ho q hq e).1 (ho q hq e).2 (h.2.2 q hq).1, (ts_V_congr (ho q hq e).1 (ho q hq e).2).trans (h.2.2 q hq).2⟩
theorem ts_MS.abs {P B : Nat → Int32} {V : Nat → Int} {r : Nat} (h : ts_MS P B V) (hr : r < 8) : ts_r P r = (V r).natAbs := by
  rw [← (h.2.2 r hr).2, ts_V_abs]
theorem ts_MS.neg {P B : Nat → Int32} {V : Nat → Int} {r : Nat} (h : ts_MS P B V) (hr : r < 8) : V r < 0 ↔ B r = 1 := by
  rw [← (h.2.2 r hr).2]
  exact ts_V_neg (h.2.2 r hr).1
theorem ts_B_upd {B : Nat → Int32} {k : Nat} {x : Int32} (h : ∀ r, r < 10 → B r = 0 ∨ B r = 1) (hx : x = 0 ∨ x = 1) : ∀ r, r < 10 → upd B k x r = 0 ∨ upd B k x r = 1 := by
  intro r hr
  by_cases e : r = k
  · subst e; rw [pk_us]; exact hx
  · rw [pk_un e]; exact h r hr
theorem ts_n01 : ¬ (0 : Int32) = 1 := by decide +kernel
theorem ts_bk0 {P B : Nat → Int32} {r : Nat} (h : B r = 0) : ts_bk P B r := ⟨Or.inl h, fun q => absurd (h.symm.trans q) ts_n01⟩
theorem ts_V0 {P B : Nat → Int32} {r : Nat} (h : B r = 0) : ts_V P B r = (ts_r P r : Int) := by
  unfold ts_V
  rw [h, if_neg ts_n01]
theorem ts_V1 {P B : Nat → Int32} {r : Nat} (h : B r = 1) : ts_V P B r = -(ts_r P r : Int) := by
  unfold ts_V
  rw [h, if_pos rfl]
theorem ts_MS.clear {P P' B : Nat → Int32} {V : Nat → Int} {r : Nat} (h : ts_MS P B V) (h1 : ts_pk P') (h2 : ts_off P P' r) (h3 : ts_r P' r = 0) : ts_MS P' (upd B r 0) (va_up V r 0) := by
  refine h.set h1 (ts_B_upd h.2.1 (Or.inl rfl)) (fun q _ hq2 => ⟨h2.row hq2, pk_un hq2⟩) (ts_bk0 pk_us) ?_
  rw [ts_V0 pk_us, h3]
  rfl
/-- sign, compare, compareSizes -/
theorem ts_MS.sg {P B : Nat → Int32} {V : Nat → Int} {r : Nat} (h : ts_MS P B V) (hr : r < 8) : (ts_r P r = 0 → ts_sg (V r) = 0) ∧ (ts_r P r ≠ 0 → B r = 0 → ts_sg (V r) = 1) ∧ (ts_r P r ≠ 0 → ¬ B r = 0 → ts_sg (V r) = -1) := by
  have h1 := h.abs hr
  have h2 := h.neg hr
  have h3 := h.2.1 r (by omega)
  unfold ts_sg
  refine ⟨fun q => ?_, fun q q2 => ?_, fun q q2 => ?_⟩
  · rw [if_neg (by omega), if_pos (by omega)]
  · have h4 : ¬ V r < 0 := fun z => ts_n01 (q2.symm.trans (h2.mp z))
    rw [if_neg h4, if_neg (by omega)]
  · have h4 : V r < 0 := h2.mpr (h3.resolve_left q2)
    rw [if_pos h4]
theorem ts_cm_sg (a b : Nat) : ts_cm a b = ts_sg ((a : Int) - (b : Int)) := by
  unfold ts_cm ts_sg
  rcases Nat.lt_trichotomy a b with h | h | h
  · rw [if_pos h, if_pos (by omega)]
  · rw [if_neg (by omega), if_pos h, if_neg (by omega), if_pos (by omega)]
  · rw [if_neg (by omega), if_neg (by omega), if_neg (by omega), if_neg (by omega)]
theorem ts_cm_ng (a b : Nat) : -ts_cm a b = ts_sg ((b : Int) - (a : Int)) := by
  unfold ts_cm ts_sg
  rcases Nat.lt_trichotomy a b with h | h | h
  · rw [if_pos h, if_neg (by omega), if_neg (by omega)]; decide +kernel
  · rw [if_neg (by omega), if_pos h, if_neg (by omega), if_pos (by omega)]; decide +kernel
  · rw [if_neg (by omega), if_neg (by omega), if_pos (by omega)]
theorem ts_MS.cmp {P B : Nat → Int32} {V : Nat → Int} {r q : Nat} (h : ts_MS P B V) (hr : r < 8) (hq : q < 8) :
    (¬ B r = B q → B r = 0 → ts_sg (V r + -1 * V q) = 1) ∧ (¬ B r = B q → ¬ B r = 0 → ts_sg (V r + -1 * V q) = -1) ∧ (B r = B q → B r = 0 → ts_sg (V r + -1 * V q) = ts_cm (ts_r P r) (ts_r P q)) ∧ (B r = B q → ¬ B r = 0 → ts_sg (V r + -1 * V q) = -ts_cm (ts_r P r) (ts_r P q)) := by
  have a1 := (h.2.2 r hr).2
  have a2 := (h.2.2 q hq).2
  have b1 := h.2.1 r (by omega)
  have b2 := h.2.1 q (by omega)
  have k1 := (h.2.2 r hr).1.2
  have k2 := (h.2.2 q hq).1.2
  rw [← a1, ← a2]
  refine ⟨fun e e0 => ?_, fun e e0 => ?_, fun e e0 => ?_, fun e e0 => ?_⟩
  · have e1 : B q = 1 := b2.resolve_left (fun z => e (e0.trans z.symm))
    have := k2 e1
    rw [ts_V0 e0, ts_V1 e1]
    unfold ts_sg
    rw [if_neg (by omega), if_neg (by omega)]
  · have e1 := b1.resolve_left e0
    have e2 : B q = 0 := b2.resolve_right (fun z => e (e1.trans z.symm))
    have := k1 e1
    rw [ts_V1 e1, ts_V0 e2]
    unfold ts_sg
    rw [if_pos (by omega)]
  · rw [ts_V0 e0, ts_V0 (e.symm.trans e0), ts_cm_sg]
    congr 1
    omega
  · have e1 := b1.resolve_left e0
    rw [ts_V1 e1, ts_V1 (e.symm.trans e1), ts_cm_ng]
    congr 1
    omega
/-- add -/
theorem ts_dv_one {b : Nat} {d : Nat → Nat} : ∀ n, (∀ i, 0 < i → i < n + 1 → d i = 0) → ts_dv b d (n + 1) = d 0 := by
  intro n
  induction n with
  | zero => intro _; rw [ts_dvs, ts_dv0]; simp
  | succ n ih =>
    intro h
    rw [ts_dvs, ih (fun i h1 h2 => h i h1 (by omega)), h (n + 1) (by omega) (by omega)]
    simp
theorem ts_first {P : Nat → Int32} {r n : Nat} (hp : ts_pk P) (hr : r < 10) (h0 : ts_r P r = 0) (hn : n < 268435456) : ts_pk (upd P (240 * r) (nI n)) ∧ ts_r (upd P (240 * r) (nI n)) r = n ∧ ts_off P (upd P (240 * r) (nI n)) r := by
  have e : (nI n).toInt = (n : Int) := nI_toInt (by omega)
  refine ⟨ts_pk_upd hp (by omega), ?_, fun k hk => pk_un (by omega)⟩
  refine (ts_dv_one (b := 2 ^ 28) (d := ts_d (upd P (240 * r) (nI n)) r) 239 (fun i h1 h2 => ?_)).trans ?_
  · have h3 := ts_dv_eq0 (by decide) h0 i (by omega)
    unfold ts_d at h3 ⊢
    rw [pk_un (by omega)]
    exact h3
  · unfold ts_d
    rw [Nat.add_zero, pk_us, e]
    rfl
theorem ts_pws {a b c : Nat} (ha : a ≤ 2045) (hb : b ≤ 2045) (hc : c ≤ 2045) : (nI a - 1074) + (nI b - 1074) + (nI c - 1074) - (-3222) = nI (a + b + c) := by
  have q : (1074 : Int32) = nI 1074 := rfl
  have e1 : (nI a - 1074).toInt = (a : Int) - 1074 := by rw [q]; exact pk_sub_toInt (by omega) (by decide)
  have e2 : (nI b - 1074).toInt = (b : Int) - 1074 := by rw [q]; exact pk_sub_toInt (by omega) (by decide)
  have e3 : (nI c - 1074).toInt = (c : Int) - 1074 := by rw [q]; exact pk_sub_toInt (by omega) (by decide)
  have e4 : ((nI a - 1074) + (nI b - 1074)).toInt = (a : Int) - 1074 + ((b : Int) - 1074) := by rw [ts_i_add (by omega) (by omega), e1, e2]
  have e5 : ((nI a - 1074) + (nI b - 1074) + (nI c - 1074)).toInt = (a : Int) - 1074 + ((b : Int) - 1074) + ((c : Int) - 1074) := by rw [ts_i_add (by omega) (by omega), e4, e3]
  have e6 : (-3222 : Int32).toInt = -3222 := by decide +kernel
  apply Int32.toInt_inj.mp
  rw [ts_i_sub (by omega) (by omega), e5, e6, nI_toInt (by omega)]
  omega
theorem ts_abs32 {t : Int32} (ht : -1000000 ≤ t.toInt ∧ t.toInt ≤ 1000000) : (t < 0 → -t = nI t.toInt.natAbs) ∧ (¬ t < 0 → t = nI t.toInt.natAbs) ∧ t.toInt.natAbs < 1048576 ∧ (t < 0 ↔ t.toInt < 0) := by
  have e0 : (0 : Int32).toInt = 0 := by decide +kernel
  have hi : t < 0 ↔ t.toInt < 0 := by rw [Int32.lt_iff_toInt_lt, e0]
  refine ⟨fun h => ?_, fun h => ?_, by omega, hi⟩
  · rw [hi] at h
    apply Int32.toInt_inj.mp
    rw [ts_i_neg (by omega), nI_toInt (by omega)]
    omega
  · rw [hi] at h
    apply Int32.toInt_inj.mp
    rw [nI_toInt (by omega)]
    omega
/-- the sign that add and plus work out -/
def ts_sb (p q : Bool) (n : Nat) : Int32 := if (p != q) = true ∧ n ≠ 0 then 1 else 0
theorem ts_sbV {P B : Nat → Int32} {r : Nat} {p q : Bool} (h : B r = ts_sb p q (ts_r P r)) : ts_bk P B r ∧ ts_V P B r = (if (p != q) = true then -(ts_r P r : Int) else (ts_r P r : Int)) := by
  unfold ts_sb at h
  by_cases h1 : (p != q) = true
  · by_cases h2 : ts_r P r = 0
    · rw [if_neg (fun z => z.2 h2)] at h
      refine ⟨ts_bk0 h, ?_⟩
      rw [ts_V0 h, if_pos h1, h2]
      rfl
    · rw [if_pos ⟨h1, h2⟩] at h
      refine ⟨⟨Or.inr h, fun _ => h2⟩, ?_⟩
      rw [ts_V1 h, if_pos h1]
  · rw [if_neg (fun z => h1 z.1)] at h
    refine ⟨ts_bk0 h, ?_⟩
    rw [ts_V0 h, if_neg h1]
theorem ts_sb01 (p q : Bool) (n : Nat) : ts_sb p q n = 0 ∨ ts_sb p q n = 1 := by
  unfold ts_sb
  split
  · exact Or.inr rfl
  · exact Or.inl rfl
theorem ts_prV {P B : Nat → Int32} {x y z : Int64} {t : Int32} (ht : t < 0 ↔ t.toInt < 0) (h : B 8 = ts_sb (decide ((x ^^^ y ^^^ z) < 0)) (decide (t < 0)) (ts_r P 8)) (hn : ts_r P 8 = t.toInt.natAbs * ts_pn x y z) : ts_bk P B 8 ∧ ts_V P B 8 = ts_pr x y z t := by
  obtain ⟨h1, h2⟩ := ts_sbV h
  refine ⟨h1, h2.trans ?_⟩
  unfold ts_pr
  rw [hn, Int.natCast_mul]
  by_cases e1 : (x ^^^ y ^^^ z) < 0 <;> by_cases e2 : t < 0 <;> simp only [e1, e2, decide_true, decide_false, if_true, if_false, bne_self_eq_false, Bool.false_eq_true, Bool.true_bne, Bool.false_bne, Bool.not_false, Bool.not_true]
  all_goals rw [ht] at e2
  all_goals generalize (ts_pn x y z : Int) = k
  · rw [show ((t.toInt.natAbs : Nat) : Int) = -t.toInt by omega]
  · rw [show ((t.toInt.natAbs : Nat) : Int) = t.toInt by omega, Int.neg_mul]
  · rw [show ((t.toInt.natAbs : Nat) : Int) = -t.toInt by omega, Int.neg_mul, Int.neg_neg]
  · rw [show ((t.toInt.natAbs : Nat) : Int) = t.toInt by omega]
theorem ts_plV {P B : Nat → Int32} {x : Int} {p : Bool} {t : Int32} (ht : t < 0 ↔ t.toInt < 0) (h : B 8 = ts_sb p (decide (t < 0)) (ts_r P 8)) (hn : ts_r P 8 = t.toInt.natAbs * x.natAbs) (hp : p = true ↔ x < 0) : ts_bk P B 8 ∧ ts_V P B 8 = t.toInt * x := by
  obtain ⟨h1, h2⟩ := ts_sbV h
  refine ⟨h1, h2.trans ?_⟩
  rw [hn, Int.natCast_mul]
  cases p with
  | true =>
    have hx := hp.mp rfl
    rw [show ((x.natAbs : Nat) : Int) = -x by omega]
    by_cases e2 : t < 0 <;> simp only [e2, decide_true, decide_false, if_true, if_false, bne_self_eq_false, Bool.false_eq_true, Bool.true_bne, Bool.not_false, Bool.not_true]
    all_goals rw [ht] at e2
    · rw [show ((t.toInt.natAbs : Nat) : Int) = -t.toInt by omega, Int.neg_mul_neg]
    · rw [show ((t.toInt.natAbs : Nat) : Int) = t.toInt by omega, Int.mul_neg, Int.neg_neg]
  | false =>
    have hx : ¬ x < 0 := fun z => by have := hp.mpr z; cases this
    rw [show ((x.natAbs : Nat) : Int) = x by omega]
    by_cases e2 : t < 0 <;> simp only [e2, decide_true, decide_false, if_true, if_false, bne_self_eq_false, Bool.false_eq_true, Bool.false_bne, Bool.not_false, Bool.not_true]
    all_goals rw [ht] at e2
    · rw [show ((t.toInt.natAbs : Nat) : Int) = -t.toInt by omega, Int.neg_mul, Int.neg_neg]
    · rw [show ((t.toInt.natAbs : Nat) : Int) = t.toInt by omega]
/-- sizes that fit -/
theorem ts_N6720 : ts_N = 2 ^ 6720 := by
  unfold ts_N
  rw [← Nat.pow_mul]
theorem ts_fit2 {a b : Nat} (ha : a < 2 ^ 6400) (hb : b < 2 ^ 6400) : a + b < ts_N := by
  have h : (2 : Nat) ^ 6401 = 2 ^ 6400 * 2 := Nat.pow_succ _ _
  have h2 : (2 : Nat) ^ 6401 ≤ 2 ^ 6720 := Nat.pow_le_pow_right (by decide) (by decide)
  rw [ts_N6720]
  omega
theorem ts_addN {x y z : Int64} {n : Nat} (hx : ts_e x ≠ 2047) (hy : ts_e y ≠ 2047) (hz : ts_e z ≠ 2047) (hn : n < 1048576) : n * ts_pn x y z < 2 ^ 6400 := by
  have h1 := ts_pn_lt hx hy hz
  have h2 : n * ts_pn x y z ≤ 1048576 * ts_pn x y z := Nat.mul_le_mul_right _ (by omega)
  have h3 : (2 : Nat) ^ 6314 = 1048576 * 2 ^ 6294 := by rw [show (1048576 : Nat) = 2 ^ 20 by decide, ← Nat.pow_add]
  have h4 : (2 : Nat) ^ 6314 ≤ 2 ^ 6400 := Nat.pow_le_pow_right (by decide) (by decide)
  omega
theorem ts_1400 {a k : Nat} (h : a * k < 2 ^ 6400) (hk : 0 < k) : a < ts_N := by
  have h1 : a * 1 ≤ a * k := Nat.mul_le_mul_left _ hk
  have h2 : (2 : Nat) ^ 6400 ≤ 2 ^ 6720 := Nat.pow_le_pow_right (by decide) (by decide)
  rw [ts_N6720]
  omega
theorem ts_mulN {a : Nat} (h : a < 2 ^ 6400) : a < ts_N := by
  have h2 : (2 : Nat) ^ 6400 ≤ 2 ^ 6720 := Nat.pow_le_pow_right (by decide) (by decide)
  rw [ts_N6720]
  omega
/-- the limit of plus -/
theorem ts_tp_lim {n : Nat} {z : Int32} (h : ts_tp n z) (hn : n < 2 ^ 6720) : (z < (3150 : Int32)) ↔ n < 2 ^ 6372 := by
  have e2 : (3150 : Int32).toInt = 3150 := by decide +kernel
  rcases h with ⟨h1, h2⟩ | ⟨p, h1, h2⟩
  · subst h1
    rw [h2]
    exact ⟨fun _ => Nat.pow_pos (by decide), fun _ => by decide +kernel⟩
  · have hp : p < 6720 := h1.lt_of hn
    have e : z.toInt = (p : Int) - 3222 := by rw [h2]; exact pk_sub_toInt (b := 3222) (by omega) (by decide)
    rw [Int32.lt_iff_toInt_lt, e, e2]
    constructor
    · intro q
      exact Nat.lt_of_lt_of_le h1.2 (Nat.pow_le_pow_right (by decide) (by omega))
    · intro q
      have := h1.lt_of q
      omega
