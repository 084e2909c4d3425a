/-! PURE ROWS: binary numbers told by a long; products; the nearest number -/
def ts_e (x : Int64) : Nat := uN x / 4503599627370496 % 2048
def ts_m (x : Int64) : Nat := if ts_e x = 0 then uN x % 4503599627370496 else uN x % 4503599627370496 + 4503599627370496
def ts_s (x : Int64) : Nat := ts_e x - 1
theorem ts_e_lt (x : Int64) : ts_e x < 2048 := Nat.mod_lt _ (by decide)
theorem ts_m_lt (x : Int64) : ts_m x < 2 ^ 53 := by
  unfold ts_m
  split <;> omega
theorem ts_s_le {x : Int64} (h : ts_e x ≠ 2047) : ts_s x ≤ 2045 := by
  have := ts_e_lt x
  unfold ts_s
  omega
theorem ts_sh52 (x : Int64) : uN (x.toUInt64 >>> ((52 : Int32).toInt64.toUInt64 &&& Int64.toUInt64 63)).toInt64 = uN x / 4503599627370496 := by
  have h : ((52 : Int32).toInt64.toUInt64 &&& Int64.toUInt64 63).toNat % 64 = 52 := by decide +kernel
  rw [uN_shr, h]
theorem ts_l2i {x : Int64} {n : Nat} (h : uN x = n) (hn : n < 2 ^ 31) : x.toInt32 = nI n := by
  have e : x = lN n := by
    apply uN_inj
    rw [h]
    show n = (UInt64.ofNat n).toNat
    rw [UInt64.toNat_ofNat']
    omega
  rw [e, lN_i]
/-- exponentOf, as the class works it out -/
theorem ts_expC (x : Int64) : ((x.toUInt64 >>> ((52 : Int32).toInt64.toUInt64 &&& Int64.toUInt64 63)).toInt64.toInt32 &&& 2047) = nI (ts_e x) := by
  have h := ts_sh52 x
  have h2 := uN_lt x
  rw [ts_l2i h (by omega), pk_andN (by omega) 11 (by decide +kernel)]
  rfl
theorem ts_and2047 (x : Int64) : uN (x &&& 2047) = uN x % 2048 := by
  show (x.toUInt64 &&& Int64.toUInt64 2047).toNat = _
  rw [UInt64.toNat_and]
  exact Nat.and_two_pow_sub_one_eq_mod _ 11
/-- .. and as the reference does -/
theorem ts_expR (x : Int64) : ((x.toUInt64 >>> ((52 : Int32).toInt64.toUInt64 &&& Int64.toUInt64 63)).toInt64 &&& 2047).toInt32 = nI (ts_e x) := by
  have h := ts_sh52 x
  have h2 := ts_and2047 (x.toUInt64 >>> ((52 : Int32).toInt64.toUInt64 &&& Int64.toUInt64 63)).toInt64
  rw [h] at h2
  have h3 := ts_e_lt x
  exact ts_l2i (n := ts_e x) h2 (by omega)
theorem ts_frac (x : Int64) : uN (x &&& 4503599627370495) = uN x % 4503599627370496 := by
  show (x.toUInt64 &&& Int64.toUInt64 4503599627370495).toNat = _
  rw [UInt64.toNat_and]
  exact Nat.and_two_pow_sub_one_eq_mod _ 52
theorem ts_hid (x : Int64) : uN ((x &&& 4503599627370495) ||| 4503599627370496) = uN x % 4503599627370496 + 4503599627370496 := by
  rw [ts_u_or, ts_frac, Nat.or_comm, show uN 4503599627370496 = 2 ^ 52 * 1 by decide +kernel, ← Nat.two_pow_add_eq_or_of_lt (by omega)]
  omega
/-- what add adds -/
def ts_pn (x y z : Int64) : Nat := ts_m x * ts_m y * ts_m z * 2 ^ (ts_s x + ts_s y + ts_s z)
def ts_pr (x y z : Int64) (t : Int32) : Int := (if (x ^^^ y ^^^ z) < 0 then -t.toInt else t.toInt) * (ts_pn x y z : Int)
theorem ts_pn_lt {x y z : Int64} (hx : ts_e x ≠ 2047) (hy : ts_e y ≠ 2047) (hz : ts_e z ≠ 2047) : ts_pn x y z < 2 ^ 6294 := by
  have h1 := ts_m_lt x
  have h2 := ts_m_lt y
  have h3 := ts_m_lt z
  have s1 := ts_s_le hx
  have s2 := ts_s_le hy
  have s3 := ts_s_le hz
  unfold ts_pn
  have a1 : ts_m x * ts_m y * ts_m z ≤ (2 ^ 53 - 1) * (2 ^ 53 - 1) * (2 ^ 53 - 1) := Nat.mul_le_mul (Nat.mul_le_mul (by omega) (by omega)) (by omega)
  have a2 : 2 ^ (ts_s x + ts_s y + ts_s z) ≤ 2 ^ 6135 := Nat.pow_le_pow_right (by decide) (by omega)
  have a3 : ts_m x * ts_m y * ts_m z < 2 ^ 159 := Nat.lt_of_le_of_lt a1 (by decide)
  have a4 : (2 : Nat) ^ 6294 = 2 ^ 159 * 2 ^ 6135 := by rw [← Nat.pow_add]
  rw [a4]
  exact Nat.mul_lt_mul_of_lt_of_le a3 a2 (Nat.pow_pos (by decide))
theorem ts_Wd.nat {n p : Nat} {r : Int64} (h : ts_Wd n (p : Int) r) (hn : n / 2 ^ p < 2 ^ 64) : uN r = n / 2 ^ p := by
  apply Nat.eq_of_testBit_eq
  intro j
  by_cases hj : j < 64
  · have e : ((p : Int) + (j : Int)) = ((p + j : Nat) : Int) := by omega
    rw [h j hj, e, ts_ib_n, Nat.testBit_div_two_pow, Nat.add_comm]
  · have b1 := uN_lt r
    have hp := Nat.pow_le_pow_right (show 0 < 2 by decide) (show 64 ≤ j by omega)
    rw [Nat.testBit_lt_two_pow (x := uN r) (by omega), Nat.testBit_lt_two_pow (x := n / 2 ^ p) (by omega)]
/-- the nearest number to a size, as bits without the sign -/
def ts_ns (n : Nat) : Nat :=
  if n = 0 then 0 else if 4245 < n.log2 then 9218868437227405312 else
    let u := max (n.log2 - 52) 2148
    (u - 2148) * 4503599627370496 + (n / 2 ^ u + if n.testBit (u - 1) && (decide (n / 2 ^ u % 2 = 1) || decide (n % 2 ^ (u - 1) ≠ 0)) then 1 else 0)
def ts_near (v : Int) : Int64 := (if v < 0 then (-9223372036854775808) else 0) ||| lN (ts_ns v.natAbs)
/-- top and bottom -/
def ts_tp (n : Nat) (r : Int32) : Prop := (n = 0 ∧ r = -100000) ∨ ∃ p, ts_Top n p ∧ r = nI p - 3222
def ts_bt (n : Nat) (r : Int32) : Prop := (n = 0 ∧ r = -100000) ∨ ∃ p, ts_Bot n p ∧ r = nI p - 3222
theorem ts_tp.uniq {n : Nat} {r r' : Int32} (h : ts_tp n r) (h' : ts_tp n r') : r = r' := by
  rcases h with ⟨h1, h2⟩ | ⟨p, h1, h2⟩ <;> rcases h' with ⟨h3, h4⟩ | ⟨q, h3, h4⟩
  · rw [h2, h4]
  · exact absurd h1 h3.ne
  · exact absurd h3 h1.ne
  · rw [h2, h4, h1.uniq h3]
theorem ts_bt.uniq {n : Nat} {r r' : Int32} (h : ts_bt n r) (h' : ts_bt n r') : r = r' := by
  rcases h with ⟨h1, h2⟩ | ⟨p, h1, h2⟩ <;> rcases h' with ⟨h3, h4⟩ | ⟨q, h3, h4⟩
  · rw [h2, h4]
  · exact absurd h1 h3.ne
  · exact absurd h3 h1.ne
  · rw [h2, h4, h1.uniq h3]
/-- a bit of a digit -/
theorem ts_sm32 : ∀ k, k < 32 → ((nI k &&& 31).toBitVec.smod 32).toNat = k := by decide +kernel
theorem ts_nIof {x : Int32} (h : 0 ≤ x.toInt) : x = nI x.toInt.toNat := by
  have h1 := Int32.toInt_lt x
  apply Int32.toInt_inj.mp
  rw [nI_toInt (by omega)]
  omega
theorem ts_shr28 {x : Int32} {k : Nat} (hx : 0 ≤ x.toInt ∧ x.toInt < 268435456) (hk : k < 32) : x >>> (nI k &&& 31) = nI (x.toInt.toNat / 2 ^ k) := by
  have e := ts_nIof hx.1
  generalize hm : x.toInt.toNat = m at e ⊢
  rw [e]
  exact pk_shrN (by omega) _ k (ts_sm32 k hk)
theorem ts_bit28 {x : Int32} {k : Nat} (hx : 0 ≤ x.toInt ∧ x.toInt < 268435456) (hk : k < 32) : (x >>> (nI k &&& 31)) &&& 1 = nI (x.toInt.toNat / 2 ^ k % 2) := by
  rw [ts_shr28 hx hk]
  have h1 : x.toInt.toNat / 2 ^ k ≤ x.toInt.toNat := Nat.div_le_self _ _
  exact pk_andN (by omega) 1 (by decide)
theorem ts_bit1 {x : Int32} {k : Nat} (hx : 0 ≤ x.toInt ∧ x.toInt < 268435456) (hk : k < 32) : ((x >>> (nI k &&& 31)) &&& 1 = 1) ↔ x.toInt.toNat.testBit k = true := by
  rw [ts_bit28 hx hk, Nat.testBit_eq_decide_div_mod_eq, decide_eq_true_eq]
  have h : x.toInt.toNat / 2 ^ k % 2 < 2 := Nat.mod_lt _ (by decide)
  generalize x.toInt.toNat / 2 ^ k % 2 = b at h ⊢
  rw [show (1 : Int32) = nI 1 from rfl, nI_eq (by omega) (by decide)]
theorem ts_has {P : Nat → Int32} {r n : Nat} (hp : ts_pk P) (hr : r < 10) (hn : n < 6720) : ts_ib (ts_r P r) (n : Int) = (P (240 * r + n / 28)).toInt.toNat.testBit (n % 28) := by
  rw [ts_ib_n]
  have h := ts_dv_bit (b := 28) (d := ts_d P r) (k := n / 28) (n := 240) (j := n % 28) (ts_d_lt hp hr) (by omega) (by omega)
  have e : 28 * (n / 28) + n % 28 = n := by omega
  rw [e] at h
  exact h
theorem ts_hasO {P : Nat → Int32} {r : Nat} {p : Int} (hp : ts_pk P) (hr : r < 10) (h : p < 0 ∨ 6720 ≤ p) : ts_ib (ts_r P r) p = false := by
  rcases h with h | h
  · exact ts_ib_neg h
  · obtain ⟨n, rfl⟩ : ∃ n : Nat, p = (n : Int) := ⟨p.toNat, by omega⟩
    rw [ts_ib_n]
    exact ts_dv_bitO (ts_d_lt hp hr) (by omega)
theorem ts_lNof {x : Int64} {n : Nat} (h : x.toInt = (n : Int)) : x = lN n := by
  have h1 := Int64.toInt_lt x
  apply Int64.toInt_inj.mp
  rw [h, pk_lT (by omega)]
/-- the highest and the lowest 1 bit of a digit, found by counting -/
theorem ts_topd {x : Int32} (hx : 0 ≤ x.toInt ∧ x.toInt < 268435456) (h0 : ¬ x ≤ 0) : ∃ q, q < 28 ∧ ts_Top x.toInt.toNat q := by
  have e0 : (0 : Int32).toInt = 0 := by decide +kernel
  rw [Int32.le_iff_toInt_le, e0] at h0
  have hne : x.toInt.toNat ≠ 0 := by omega
  refine ⟨x.toInt.toNat.log2, ?_, ts_Top.of hne⟩
  rw [Nat.log2_lt hne]
  omega
theorem ts_gt1 {x : Int32} {q n : Nat} (hx : 0 ≤ x.toInt ∧ x.toInt < 268435456) (hq : q < 28) (ht : ts_Top x.toInt.toNat q) (hn : n ≤ q) : (x >>> (nI n &&& 31) ≤ 1) ↔ n = q := by
  rw [ts_shr28 hx (by omega), show (1 : Int32) = nI 1 from rfl]
  have h1 : x.toInt.toNat / 2 ^ n ≤ x.toInt.toNat := Nat.div_le_self _ _
  rw [nI_leI (by omega) (by decide)]
  obtain ⟨t1, t2⟩ := ht
  constructor
  · intro h
    rcases Nat.lt_or_ge n q with h2 | h2
    · exfalso
      have h3 : 2 ^ (n + 1) ≤ 2 ^ q := Nat.pow_le_pow_right (by decide) h2
      have h4 : 2 ≤ x.toInt.toNat / 2 ^ n := by
        rw [Nat.le_div_iff_mul_le (Nat.pow_pos (by decide))]
        rw [Nat.pow_succ] at h3
        omega
      omega
    · omega
  · intro h
    subst h
    have h4 : x.toInt.toNat / 2 ^ n < 2 := by
      rw [Nat.div_lt_iff_lt_mul (Nat.pow_pos (by decide))]
      rw [Nat.pow_succ] at t2
      omega
    omega
theorem ts_botd {x : Int32} (hx : 0 ≤ x.toInt ∧ x.toInt < 268435456) (h0 : ¬ x ≤ 0) : ∃ q, q < 28 ∧ ts_Bot x.toInt.toNat q := by
  have e0 : (0 : Int32).toInt = 0 := by decide +kernel
  rw [Int32.le_iff_toInt_le, e0] at h0
  obtain ⟨q, h1, h2⟩ := pk_least (fun k => x.toInt.toNat.testBit k = true) (by
    have hne : x.toInt.toNat ≠ 0 := by omega
    exact ⟨_, Nat.testBit_log2 hne⟩)
  have hq : q < 28 := by
    rcases Nat.lt_or_ge q 28 with h3 | h3
    · exact h3
    · exfalso
      have h4 := Nat.pow_le_pow_right (show 0 < 2 by decide) h3
      rw [Nat.testBit_lt_two_pow (by omega)] at h1
      cases h1
  refine ⟨q, hq, ?_, h1⟩
  apply Nat.eq_of_testBit_eq
  intro i
  rw [Nat.testBit_mod_two_pow, Nat.zero_testBit]
  by_cases hi : i < q
  · have h9 := Bool.eq_false_iff.mpr (h2 i hi)
    rw [h9, Bool.and_false]
  · simp [hi]
theorem ts_pw1 {x : Int64} (h : ts_e x ≠ 0) : nI (ts_e x) - 1075 = nI (ts_s x) - 1074 := by
  have h1 := ts_e_lt x
  have e : ts_e x = ts_s x + 1 := by unfold ts_s; omega
  apply Int32.toInt_inj.mp
  have q1 : (1075 : Int32) = nI 1075 := rfl
  have q2 : (1074 : Int32) = nI 1074 := rfl
  rw [q1, q2, pk_sub_toInt (by omega) (by decide), pk_sub_toInt (by omega) (by decide)]
  omega
theorem ts_pw0 {x : Int64} (h : ts_e x = 0) : (-1074 : Int32) = nI (ts_s x) - 1074 := by
  have e : ts_s x = 0 := by unfold ts_s; omega
  rw [e]
  decide +kernel
theorem ts_m3222 (n : Nat) : nI n + (-3222) = nI n - 3222 := by
  rw [Int32.sub_eq_add_neg]
theorem ts_ix28 (j q : Nat) : (28 : Int32) * nI j + nI q = nI (28 * j + q) := by
  rw [show (28 : Int32) = nI 28 from rfl, pk_mul, nI_add]
theorem ts_le0 {x : Int32} (hx : 0 ≤ x.toInt ∧ x.toInt < 268435456) (h : x ≤ 0) : x = 0 := by
  have e0 : (0 : Int32).toInt = 0 := by decide +kernel
  rw [Int32.le_iff_toInt_le, e0] at h
  apply Int32.toInt_inj.mp
  omega
theorem ts_z0 {P : Nat → Int32} {r j : Nat} (h : P (240 * r + j) = 0) : ts_d P r j = 0 := by
  unfold ts_d
  rw [h]
  decide +kernel
theorem ts_bit0 {x : Int32} {k : Nat} (hx : 0 ≤ x.toInt ∧ x.toInt < 268435456) (hk : k < 32) : (¬ (x >>> (nI k &&& 31)) &&& 1 = 0) ↔ x.toInt.toNat.testBit k = true := by
  rw [ts_bit28 hx hk, Nat.testBit_eq_decide_div_mod_eq, decide_eq_true_eq]
  have h : x.toInt.toNat / 2 ^ k % 2 < 2 := Nat.mod_lt _ (by decide)
  generalize x.toInt.toNat / 2 ^ k % 2 = b at h ⊢
  rw [show (0 : Int32) = nI 0 from rfl, nI_eq (by omega) (by decide)]
  omega
