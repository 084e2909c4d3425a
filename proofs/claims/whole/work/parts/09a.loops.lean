/-! PURE ROWS: what the class's loops keep -/
/-- increase -/
def ts_IncI (f g : Nat → Int64) (t : Int) (i : Nat) (c : Int64) (u : Nat → Int64) : Prop := ts_ok u ∧ (∀ k, i ≤ k → u k = f k) ∧ (-1048578 ≤ c.toInt ∧ c.toInt ≤ 1048578) ∧
  (ts_dv (2 ^ 32) (ts_u u) i : Int) + c.toInt * (((2 ^ 32) ^ i : Nat) : Int) = (ts_dv (2 ^ 32) (ts_u f) i : Int) + t * (ts_dv (2 ^ 32) (ts_u g) i : Int)
theorem ts_IncI.zero {f g : Nat → Int64} {t : Int} (hf : ts_ok f) : ts_IncI f g t 0 0 f := by
  have h0 : (0 : Int64).toInt = 0 := by decide +kernel
  refine ⟨hf, fun _ _ => rfl, by rw [h0]; omega, ?_⟩
  rw [h0, ts_dv0, ts_dv0]
  simp
theorem ts_upd_u {u : Nat → Int64} {i : Nat} {x : Int64} : ts_u (vp_updL u i x) i = uN x := by unfold ts_u; rw [pk_uLs]
theorem ts_upd_lt {u : Nat → Int64} {i k : Nat} {x : Int64} (h : k ≠ i) : ts_u (vp_updL u i x) k = ts_u u k := by unfold ts_u; rw [pk_uLn h]
theorem ts_upd_ok {u : Nat → Int64} {i : Nat} {x : Int64} (h : ts_ok u) (hx : uN x < 4294967296) : ts_ok (vp_updL u i x) := by
  intro k hk
  by_cases e : k = i
  · subst e; rw [ts_upd_u]; omega
  · rw [ts_upd_lt e]; exact h k hk
theorem ts_upd_dv {u : Nat → Int64} {i : Nat} {x : Int64} : ts_dv (2 ^ 32) (ts_u (vp_updL u i x)) (i + 1) = ts_dv (2 ^ 32) (ts_u u) i + uN x * (2 ^ 32) ^ i := by
  rw [ts_dvs, ts_upd_u, ts_dv_congr (fun k hk => ts_upd_lt (by omega))]
theorem ts_IncI.step {f g u : Nat → Int64} {t : Int32} {i : Nat} {c : Int64} (ht : -1048576 ≤ t.toInt ∧ t.toInt ≤ 1048576) (hf : ts_ok f) (hg : ts_ok g) (hi : i < 200) (h : ts_IncI f g t.toInt i c u) :
    ts_IncI f g t.toInt (i + 1) ((u i + g i * t.toInt64 + c) >>> ((32 : Int32).toInt64 &&& 63)) (vp_updL u i ((u i + g i * t.toInt64 + c) &&& 4294967295)) := by
  obtain ⟨h1, h2, h3, h4⟩ := h
  have e0 : u i = f i := h2 i (Nat.le_refl _)
  have b1 : uN (u i) < 4294967296 := h1 i hi
  have b2 : uN (g i) < 4294967296 := hg i hi
  obtain ⟨s1, s2, s3, s4⟩ := ts_inc b1 b2 ht h3
  refine ⟨ts_upd_ok h1 s2, fun k hk => ?_, ⟨s3, s4⟩, ?_⟩
  · rw [pk_uLn (by omega)]; exact h2 k (by omega)
  · rw [ts_upd_dv, ts_dvs, ts_dvs, Nat.pow_succ (2 ^ 32) i, Int.natCast_add, Int.natCast_add, Int.natCast_add, Int.natCast_mul, Int.natCast_mul, Int.natCast_mul, Int.natCast_mul]
    have s1' : (uN ((u i + g i * t.toInt64 + c) &&& 4294967295) : Int) + ((u i + g i * t.toInt64 + c) >>> ((32 : Int32).toInt64 &&& 63)).toInt * ((2 ^ 32 : Nat) : Int) = (ts_u f i : Int) + t.toInt * (ts_u g i : Int) + c.toInt := by
      have : ts_u f i = uN (u i) := by rw [e0]; rfl
      rw [this]
      exact s1
    exact ts_stepA h4 s1'
theorem ts_IncI.done {f g u : Nat → Int64} {t : Int} {c : Int64} (h : ts_IncI f g t 200 c u) : ts_ok u ∧ ∃ q : Int, (ts_n u : Int) + q * (ts_M : Int) = (ts_n f : Int) + t * (ts_n g : Int) := ⟨h.1, c.toInt, h.2.2.2⟩
/-- multiply -/
def ts_MulI (f : Nat → Int64) (q : Nat) (i : Nat) (c : Int64) (u : Nat → Int64) : Prop := ts_ok u ∧ (∀ k, i ≤ k → u k = f k) ∧ uN c ≤ q ∧ ts_dv (2 ^ 32) (ts_u u) i + uN c * (2 ^ 32) ^ i = q * ts_dv (2 ^ 32) (ts_u f) i
theorem ts_MulI.zero {f : Nat → Int64} {q : Nat} (hf : ts_ok f) : ts_MulI f q 0 0 f := by
  have h0 : uN 0 = 0 := by decide +kernel
  refine ⟨hf, fun _ _ => rfl, by omega, ?_⟩
  rw [h0, ts_dv0]
  simp
theorem ts_MulI.step {f u : Nat → Int64} {fl fh c : Int64} {i : Nat} (hfl : uN fl < 4294967296) (hfh : uN fh < 2097152) (hi : i < 200) (h : ts_MulI f (uN fl + 4294967296 * uN fh) i c u) :
    ts_MulI f (uN fl + 4294967296 * uN fh) (i + 1) (u i * fh + (c.toUInt64 >>> ((32 : Int32).toInt64.toUInt64 &&& Int64.toUInt64 63)).toInt64 + ((u i * fl + (c &&& 4294967295)).toUInt64 >>> ((32 : Int32).toInt64.toUInt64 &&& Int64.toUInt64 63)).toInt64) (vp_updL u i ((u i * fl + (c &&& 4294967295)) &&& 4294967295)) := by
  obtain ⟨h1, h2, h3, h4⟩ := h
  have e0 : u i = f i := h2 i (Nat.le_refl _)
  have b1 : uN (u i) < 4294967296 := h1 i hi
  obtain ⟨s1, s2⟩ := ts_mul1 (l := u i) (fl := fl) (fh := fh) (c := c) b1 hfl hfh (by omega)
  refine ⟨ts_upd_ok h1 s2, fun k hk => ?_, ts_carry s1 b1 h3, ?_⟩
  · rw [pk_uLn (by omega)]; exact h2 k (by omega)
  · rw [ts_upd_dv, ts_dvs, Nat.pow_succ]
    have : ts_u f i = uN (u i) := by rw [e0]; rfl
    rw [this]
    exact ts_stepM h4 s1
theorem ts_MulI.done {f u : Nat → Int64} {q : Nat} {c : Int64} (h : ts_MulI f q 200 c u) : ts_ok u ∧ ∃ k : Nat, ts_n u + k * ts_M = q * ts_n f := ⟨h.1, uN c, h.2.2.2⟩
/-- what a highest or a lowest place is -/
def ts_hp (n : Nat) (r : Int32) : Prop := (n = 0 ∧ r = -100000) ∨ ∃ p, ts_Top n p ∧ p < 6400 ∧ r = nI p
def ts_lp2 (n : Nat) (r : Int32) : Prop := (n = 0 ∧ r = -100000) ∨ ∃ p, ts_Bot n p ∧ p < 6400 ∧ r = nI p
theorem ts_in200 {k : Int32} (h1 : ¬ k < 0) (h2 : ¬ (200 : Int32) ≤ k) : vp_in k 200 := by
  rw [vp_in_iff]
  rw [Int32.lt_iff_toInt_lt] at h1
  rw [Int32.le_iff_toInt_le] at h2
  have e0 : (0 : Int32).toInt = 0 := by decide +kernel
  have e2 : (200 : Int32).toInt = 200 := by decide +kernel
  omega
theorem ts_la_in {f : Nat → Int64} {k : Int32} (h : vp_in k 200) : uN (f k.toNatClampNeg) = ts_la f k.toInt := by
  rw [vp_in_iff] at h
  unfold ts_la
  rw [if_pos ⟨h.1, by omega⟩]
  rfl
theorem ts_la_out {f : Nat → Int64} {k : Int32} (h : k < 0 ∨ (200 : Int32) ≤ k) : uN 0 = ts_la f k.toInt := by
  have e0 : (0 : Int32).toInt = 0 := by decide +kernel
  have e2 : (200 : Int32).toInt = 200 := by decide +kernel
  rw [Int32.lt_iff_toInt_lt, Int32.le_iff_toInt_le] at h
  unfold ts_la
  rw [if_neg (by omega)]
  decide +kernel
/-- the word that wordFrom puts together -/
theorem ts_wf {f : Nat → Int64} (hf : ts_ok f) {P : Int64} {fi sh : Int32} {l0 l1 l2 : Int64} (e1 : fi.toInt = P.toInt / 32) (e2 : sh.toInt = P.toInt % 32) (h0 : uN l0 = ts_la f fi.toInt) (h1 : uN l1 = ts_la f (fi.toInt + 1)) (h2 : uN l2 = ts_la f (fi.toInt + 2)) (hne : ¬ sh = 0) :
    ts_Wd (ts_n f) P.toInt (((l0 ||| (l1 <<< ((32 : Int32).toInt64 &&& 63))).toUInt64 >>> (sh.toInt64.toUInt64 &&& Int64.toUInt64 63)).toInt64 ||| (l2 <<< ((64 - sh).toInt64 &&& 63))) := by
  obtain ⟨n, hn, rfl⟩ : ∃ n : Nat, n < 32 ∧ sh = nI n := ⟨sh.toInt.toNat, by omega, Int32.toInt_inj.mp (by rw [nI_toInt (by omega)]; omega)⟩
  have hn0 : 0 < n := by
    rcases Nat.eq_zero_or_pos n with h | h
    · subst h; exact absurd nI_0 hne
    · exact h
  rw [nI_toInt (by omega)] at e2
  have e3 : (64 : Int32) - nI n = nI (64 - n) := pk_sub (a := 64) (b := n) (by omega)
  rw [e3]
  intro j hj
  have b0 := ts_la_lt hf fi.toInt
  have b1 := ts_la_lt hf (fi.toInt + 1)
  have b2 := ts_la_lt hf (fi.toInt + 2)
  have hw := ts_word (l0 := l0) (l1 := l1) (l2 := l2) (sh := n) (by omega) (by omega) (by omega) hn hn0 j hj
  refine hw.trans ?_
  by_cases c1 : n + j < 32
  · rw [if_pos c1, h0, ts_la_bit hf _ _ c1]
    congr 1; omega
  · rw [if_neg c1]
    by_cases c2 : n + j < 64
    · rw [if_pos c2, h1, ts_la_bit hf _ _ (by omega)]
      congr 1; omega
    · rw [if_neg c2, h2, ts_la_bit hf _ _ (by omega)]
      congr 1; omega
theorem ts_wf0 {f : Nat → Int64} (hf : ts_ok f) {P : Int64} {fi sh : Int32} {l0 l1 : Int64} (e1 : fi.toInt = P.toInt / 32) (e2 : sh.toInt = P.toInt % 32) (h0 : uN l0 = ts_la f fi.toInt) (h1 : uN l1 = ts_la f (fi.toInt + 1)) (hz : sh = 0) :
    ts_Wd (ts_n f) P.toInt (l0 ||| (l1 <<< ((32 : Int32).toInt64 &&& 63))) := by
  have e0 : (0 : Int32).toInt = 0 := by decide +kernel
  rw [hz, e0] at e2
  intro j hj
  have b0 := ts_la_lt hf fi.toInt
  have b1 := ts_la_lt hf (fi.toInt + 1)
  have hw := ts_word0 (l0 := l0) (l1 := l1) (by omega) (by omega) j
  refine hw.trans ?_
  by_cases c1 : j < 32
  · rw [if_pos c1, h0, ts_la_bit hf _ _ c1]
    congr 1; omega
  · rw [if_neg c1, h1, ts_la_bit hf _ _ (by omega)]
    congr 1; omega
/-- the two numbers that wordFrom cuts a place into -/
theorem ts_wfi {P : Int64} (h1 : -2147483648 ≤ P.toInt) (h2 : P.toInt < 4294967296) : ((P >>> ((5 : Int32).toInt64 &&& 63)).toInt32).toInt = P.toInt / 32 := by
  have e := ts_sar P ((5 : Int32).toInt64 &&& 63) 5 (by decide +kernel)
  rw [Int64.toInt_toInt32, e]
  exact Int.bmod_eq_of_le_mul_two (by omega) (by omega)
theorem ts_and31 (x : Int64) : uN (x &&& 31) = uN x % 32 := by
  show (x.toUInt64 &&& Int64.toUInt64 31).toNat = _
  rw [UInt64.toNat_and]
  exact Nat.and_two_pow_sub_one_eq_mod _ 5
theorem ts_wfs (P : Int64) : ((P &&& 31).toInt32).toInt = P.toInt % 32 := by
  have h1 := ts_and31 P
  have h2 := uN_int P
  have h3 := uN_lt P
  rw [ts_l2i h1 (by omega), nI_toInt (by omega)]
  split at h2 <;> omega
