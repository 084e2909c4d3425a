/-! PURE ROWS: the reference's rows: 240 digits of 28 bits each, and a sign -/
theorem ts_low28 (v : Int64) : (v &&& 268435455).toInt32.toInt = v.toInt % 268435456 := by
  have h := ts_lo28 v
  rw [Int64.toInt_toInt32, h]
  exact Int.bmod_eq_of_le_mul_two (by omega) (by omega)
/-- one digit of times -/
theorem ts_tim {x b : Int32} {c : Int64} (hx : 0 ≤ x.toInt ∧ x.toInt < 268435456) (hb : 0 ≤ b.toInt ∧ b.toInt < 268435456) (hc : 0 ≤ c.toInt ∧ c.toInt < 268435456) :
    ((x.toInt64 * b.toInt64 + c) &&& 268435455).toInt32.toInt + ((x.toInt64 * b.toInt64 + c) >>> ((28 : Int32).toInt64 &&& 63)).toInt * 268435456 = x.toInt * b.toInt + c.toInt ∧
      (0 ≤ ((x.toInt64 * b.toInt64 + c) &&& 268435455).toInt32.toInt ∧ ((x.toInt64 * b.toInt64 + c) &&& 268435455).toInt32.toInt < 268435456) ∧
      (0 ≤ ((x.toInt64 * b.toInt64 + c) >>> ((28 : Int32).toInt64 &&& 63)).toInt ∧ ((x.toInt64 * b.toInt64 + c) >>> ((28 : Int32).toInt64 &&& 63)).toInt < 268435456) := by
  have e1 := Int32.toInt_toInt64 x
  have e2 := Int32.toInt_toInt64 b
  have h0 : 0 ≤ x.toInt * b.toInt := Int.mul_nonneg hx.1 hb.1
  have h1 : x.toInt * b.toInt ≤ 268435455 * 268435455 := Int.mul_le_mul (by omega) (by omega) hb.1 (by omega)
  have e3 : (x.toInt64 * b.toInt64).toInt = x.toInt * b.toInt := by
    rw [ts_l_mul (by rw [e1, e2]; omega) (by rw [e1, e2]; omega), e1, e2]
  have e4 : (x.toInt64 * b.toInt64 + c).toInt = x.toInt * b.toInt + c.toInt := by
    rw [ts_l_add (by rw [e3]; omega) (by rw [e3]; omega), e3]
  have e5 := ts_low28 (x.toInt64 * b.toInt64 + c)
  have e6 := ts_sar28 (x.toInt64 * b.toInt64 + c)
  rw [e5, e6, e4]
  generalize x.toInt * b.toInt = z at *
  refine ⟨by omega, ⟨by omega, by omega⟩, by omega, by omega⟩
/-- the reference's digits of a row, and the row's number -/
def ts_d (P : Nat → Int32) (r : Nat) : Nat → Nat := fun i => (P (240 * r + i)).toInt.toNat
def ts_r (P : Nat → Int32) (r : Nat) : Nat := ts_dv (2 ^ 28) (ts_d P r) 240
def ts_pk (P : Nat → Int32) : Prop := ∀ k, k < 2400 → 0 ≤ (P k).toInt ∧ (P k).toInt < 268435456
theorem ts_d_lt {P : Nat → Int32} (h : ts_pk P) {r : Nat} (hr : r < 10) : ∀ i, i < 240 → ts_d P r i < 2 ^ 28 := by
  intro i hi
  have h1 := h (240 * r + i) (by omega)
  unfold ts_d
  omega
theorem ts_d_i {P : Nat → Int32} (h : ts_pk P) {r i : Nat} (hr : r < 10) (hi : i < 240) : ((ts_d P r i : Nat) : Int) = (P (240 * r + i)).toInt := by
  have h1 := h (240 * r + i) (by omega)
  unfold ts_d
  omega
def ts_N : Nat := (2 ^ 28) ^ 240
theorem ts_r_lt {P : Nat → Int32} (h : ts_pk P) {r : Nat} (hr : r < 10) : ts_r P r < ts_N := ts_dv_lt (ts_d_lt h hr)
theorem ts_r_congr {P P' : Nat → Int32} {r r' : Nat} (h : ∀ i, i < 240 → P' (240 * r' + i) = P (240 * r + i)) : ts_r P' r' = ts_r P r := ts_dv_congr (fun i hi => by unfold ts_d; rw [h i hi])
theorem ts_r_upd {P : Nat → Int32} {r k : Nat} {x : Int32} (h : k < 240 * r ∨ 240 * r + 240 ≤ k) : ts_r (upd P k x) r = ts_r P r := ts_r_congr (fun i hi => pk_un (by omega))
theorem ts_pk_upd {P : Nat → Int32} {k : Nat} {x : Int32} (h : ts_pk P) (hx : 0 ≤ x.toInt ∧ x.toInt < 268435456) : ts_pk (upd P k x) := by
  intro j hj
  by_cases e : j = k
  · subst e; rw [pk_us]; exact hx
  · rw [pk_un e]; exact h j hj
/-- a row with its sign: what it stands for -/
def ts_V (P Bl : Nat → Int32) (r : Nat) : Int := if Bl r = 1 then -(ts_r P r : Int) else (ts_r P r : Int)
def ts_bk (P Bl : Nat → Int32) (r : Nat) : Prop := (Bl r = 0 ∨ Bl r = 1) ∧ (Bl r = 1 → ts_r P r ≠ 0)
theorem ts_V_abs (P Bl : Nat → Int32) (r : Nat) : (ts_V P Bl r).natAbs = ts_r P r := by
  unfold ts_V
  split <;> omega
theorem ts_V_neg {P Bl : Nat → Int32} {r : Nat} (h : ts_bk P Bl r) : ts_V P Bl r < 0 ↔ Bl r = 1 := by
  unfold ts_V
  constructor
  · intro h1
    by_cases h2 : Bl r = 1
    · exact h2
    · rw [if_neg h2] at h1; omega
  · intro h1
    have := h.2 h1
    rw [if_pos h1]; omega
theorem ts_V_zero (P Bl : Nat → Int32) (r : Nat) : ts_V P Bl r = 0 ↔ ts_r P r = 0 := by
  unfold ts_V
  split <;> omega
theorem ts_ix (r i : Nat) : (240 : Int32) * nI r + nI i = nI (240 * r + i) := by
  rw [show (240 : Int32) = nI 240 from rfl, pk_mul, nI_add]
/-- only the row r has changed -/
def ts_off (P P' : Nat → Int32) (r : Nat) : Prop := ∀ k, (k < 240 * r ∨ 240 * r + 240 ≤ k) → P' k = P k
theorem ts_off.rf {P : Nat → Int32} {r : Nat} : ts_off P P r := fun _ _ => rfl
theorem ts_off.tr {P P' P'' : Nat → Int32} {r : Nat} (h : ts_off P P' r) (h' : ts_off P' P'' r) : ts_off P P'' r := fun k hk => (h' k hk).trans (h k hk)
theorem ts_off.upd {P P' : Nat → Int32} {r i : Nat} {x : Int32} (h : ts_off P P' r) (hi : i < 240) : ts_off P (upd P' (240 * r + i) x) r := by
  intro k hk
  rw [pk_un (by omega)]
  exact h k hk
theorem ts_off.row {P P' : Nat → Int32} {r q : Nat} (h : ts_off P P' r) (hq : q ≠ r) : ts_r P' q = ts_r P q := ts_r_congr (fun i hi => h _ (by omega))
/-- zero -/
def ts_ZerI (P : Nat → Int32) (r i : Nat) (P' : Nat → Int32) : Prop := ts_pk P' ∧ ts_off P P' r ∧ ∀ j, j < i → P' (240 * r + j) = 0
theorem ts_ZerI.step {P P' : Nat → Int32} {r i : Nat} (hi : i < 240) (h : ts_ZerI P r i P') : ts_ZerI P r (i + 1) (upd P' (240 * r + i) 0) := by
  obtain ⟨h1, h2, h3⟩ := h
  refine ⟨ts_pk_upd h1 (by decide +kernel), h2.upd hi, fun j hj => ?_⟩
  by_cases e : j = i
  · subst e; rw [pk_us]
  · rw [pk_un (by omega)]; exact h3 j (by omega)
theorem ts_ZerI.done {P P' : Nat → Int32} {r : Nat} (h : ts_ZerI P r 240 P') : ts_pk P' ∧ ts_off P P' r ∧ ts_r P' r = 0 := by
  refine ⟨h.1, h.2.1, ts_dv_zero (fun j hj => ?_)⟩
  unfold ts_d
  rw [h.2.2 j hj]
  decide +kernel
/-- copy -/
def ts_CopI (P : Nat → Int32) (a b i : Nat) (P' : Nat → Int32) : Prop := ts_pk P' ∧ ts_off P P' b ∧ ∀ j, j < i → P' (240 * b + j) = P (240 * a + j)
theorem ts_CopI.step {P P' : Nat → Int32} {a b i : Nat} (hab : a ≠ b) (ha : a < 10) (hi : i < 240) (h : ts_CopI P a b i P') : ts_CopI P a b (i + 1) (upd P' (240 * b + i) (P' (240 * a + i))) := by
  obtain ⟨h1, h2, h3⟩ := h
  refine ⟨ts_pk_upd h1 (h1 _ (by omega)), h2.upd hi, fun j hj => ?_⟩
  by_cases e : j = i
  · subst e; rw [pk_us]; exact h2 _ (by omega)
  · rw [pk_un (by omega)]; exact h3 j (by omega)
theorem ts_CopI.done {P P' : Nat → Int32} {a b : Nat} (h : ts_CopI P a b 240 P') : ts_pk P' ∧ ts_off P P' b ∧ ts_r P' b = ts_r P a := ⟨h.1, h.2.1, ts_r_congr h.2.2⟩
/-- times -/
def ts_TimI (P : Nat → Int32) (r : Nat) (b : Nat) (i : Nat) (c : Int64) (P' : Nat → Int32) : Prop := ts_pk P' ∧ ts_off P P' r ∧ (∀ j, i ≤ j → j < 240 → P' (240 * r + j) = P (240 * r + j)) ∧ (0 ≤ c.toInt ∧ c.toInt < 268435456) ∧
  ts_dv (2 ^ 28) (ts_d P' r) i + c.toInt.toNat * (2 ^ 28) ^ i = b * ts_dv (2 ^ 28) (ts_d P r) i
theorem ts_TimI.zero {P : Nat → Int32} {r b : Nat} (h : ts_pk P) : ts_TimI P r b 0 0 P := by
  have h0 : (0 : Int64).toInt = 0 := by decide +kernel
  refine ⟨h, ts_off.rf, fun _ _ _ => rfl, by rw [h0]; omega, ?_⟩
  rw [h0, ts_dv0]
  simp
theorem ts_d_upd {P : Nat → Int32} {r i : Nat} {x : Int32} : ts_dv (2 ^ 28) (ts_d (upd P (240 * r + i) x) r) (i + 1) = ts_dv (2 ^ 28) (ts_d P r) i + x.toInt.toNat * (2 ^ 28) ^ i := by
  have e1 : ts_d (upd P (240 * r + i) x) r i = x.toInt.toNat := by unfold ts_d; rw [pk_us]
  rw [ts_dvs, e1, ts_dv_congr (fun k hk => by unfold ts_d; rw [pk_un (by omega)])]
  rfl
theorem ts_TimI.step {P P' : Nat → Int32} {r i : Nat} {b : Int32} {c : Int64} (hr : r < 10) (hb : 0 ≤ b.toInt ∧ b.toInt < 268435456) (hi : i < 240) (h : ts_TimI P r b.toInt.toNat i c P') :
    ts_TimI P r b.toInt.toNat (i + 1) (((P' (240 * r + i)).toInt64 * b.toInt64 + c) >>> ((28 : Int32).toInt64 &&& 63)) (upd P' (240 * r + i) (((P' (240 * r + i)).toInt64 * b.toInt64 + c) &&& 268435455).toInt32) := by
  obtain ⟨h1, h2, h3, h4, h5⟩ := h
  have hx := h1 (240 * r + i) (by omega)
  obtain ⟨s1, s2, s3⟩ := ts_tim hx hb h4
  refine ⟨ts_pk_upd h1 s2, h2.upd hi, fun j hj hj2 => ?_, s3, ?_⟩
  · rw [pk_un (by omega)]; exact h3 j (by omega) hj2
  · rw [ts_d_upd, ts_dvs, Nat.pow_succ]
    refine ts_stepM h5 ?_
    have e1 : ts_d P r i = (P' (240 * r + i)).toInt.toNat := by unfold ts_d; rw [h3 i (Nat.le_refl _) hi]
    rw [e1]
    have e2 : (((P' (240 * r + i)).toInt.toNat * b.toInt.toNat : Nat) : Int) = (P' (240 * r + i)).toInt * b.toInt := by
      rw [Int.natCast_mul, Int.toNat_of_nonneg hx.1, Int.toNat_of_nonneg hb.1]
    omega
theorem ts_TimI.done {P P' : Nat → Int32} {r b : Nat} {c : Int64} (h : ts_TimI P r b 240 c P') (hN : b * ts_r P r < ts_N) : ts_pk P' ∧ ts_off P P' r ∧ ts_r P' r = b * ts_r P r := ⟨h.1, h.2.1, ts_mulfit h.2.2.2.2 hN⟩
/-- sizes: what it answers -/
def ts_cm (a b : Nat) : Int32 := if a < b then -1 else if a = b then 0 else 1
theorem ts_cm_i (a b : Nat) : (ts_cm a b < 0 ↔ a < b) ∧ (ts_cm a b = 0 ↔ a = b) := by
  unfold ts_cm
  rcases Nat.lt_trichotomy a b with h | h | h
  · rw [if_pos h]
    exact ⟨⟨fun _ => h, fun _ => by decide +kernel⟩, ⟨fun z => absurd z (by decide +kernel), fun z => by omega⟩⟩
  · subst h
    rw [if_neg (Nat.lt_irrefl _), if_pos rfl]
    exact ⟨⟨fun z => absurd z (by decide +kernel), fun z => absurd z (Nat.lt_irrefl _)⟩, ⟨fun _ => rfl, fun _ => rfl⟩⟩
  · rw [if_neg (by omega), if_neg (by omega)]
    exact ⟨⟨fun z => absurd z (by decide +kernel), fun z => by omega⟩, ⟨fun z => absurd z (by decide +kernel), fun z => by omega⟩⟩
/-- a counter that goes down from N -/
def ts_dn (N k : Nat) : Int32 := nI N - nI k
theorem ts_dn_le {N k : Nat} (h : k ≤ N) : ts_dn N k = nI (N - k) := pk_sub h
theorem ts_dn_0 (N : Nat) : ts_dn N 0 = nI N := by unfold ts_dn; rw [pk_sub (Nat.zero_le _), Nat.sub_zero]
theorem ts_dn_s (N k : Nat) : ts_dn N k + Int32.ofInt (-1) = ts_dn N (k + 1) := by
  unfold ts_dn
  rw [nI_succ]
  have e : (Int32.ofInt (-1)) = -1 := by decide +kernel
  rw [e]
  apply Int32.toBitVec_inj.mp
  simp only [Int32.toBitVec_add, Int32.toBitVec_sub, Int32.toBitVec_neg]
  generalize (nI N).toBitVec = x
  generalize (nI k).toBitVec = y
  have e1 : (1 : Int32).toBitVec = 1#32 := by decide +kernel
  rw [e1]
  apply BitVec.eq_of_toInt_eq
  simp only [BitVec.toInt_add, BitVec.toInt_sub, BitVec.toInt_neg]
  simp only [Int.bmod_add_bmod, Int.add_bmod_bmod, Int.bmod_sub_bmod, Int.sub_bmod_bmod]
  congr 1
  omega
theorem ts_dn_end (N : Nat) : ts_dn N (N + 1) < 0 := by
  have e : ts_dn N (N + 1) = -1 := by
    rw [← ts_dn_s, ts_dn_le (Nat.le_refl _), Nat.sub_self]
    decide +kernel
  rw [e]
  decide +kernel
/-- isZero -/
def ts_IszI (P : Nat → Int32) (r i : Nat) (b : Int32) : Prop := (b = 1 ∧ ∀ j, j < i → P (240 * r + j) = 0) ∨ (b = 0 ∧ ∃ j, j < i ∧ P (240 * r + j) ≠ 0)
theorem ts_IszI.done {P : Nat → Int32} {r : Nat} {b : Int32} (hp : ts_pk P) (hr : r < 10) (h : ts_IszI P r 240 b) : (b = 1 ∧ ts_r P r = 0) ∨ (b = 0 ∧ ts_r P r ≠ 0) := by
  rcases h with ⟨h1, h2⟩ | ⟨h1, j, h2, h3⟩
  · refine Or.inl ⟨h1, ts_dv_zero (fun j hj => ?_)⟩
    unfold ts_d
    rw [h2 j hj]
    decide +kernel
  · refine Or.inr ⟨h1, fun hz => h3 ?_⟩
    have h4 := ts_dv_eq0 (by decide) hz j h2
    have h5 := hp (240 * r + j) (by omega)
    unfold ts_d at h4
    apply Int32.toInt_inj.mp
    have e0 : (0 : Int32).toInt = 0 := by decide +kernel
    omega
/-- sizes -/
theorem ts_siz {P : Nat → Int32} {a b j : Nat} (hp : ts_pk P) (ha : a < 10) (hb : b < 10) (hj : j < 240) (h : ∀ i, j < i → i < 240 → P (240 * a + i) = P (240 * b + i)) (hne : ¬ P (240 * a + j) - P (240 * b + j) = 0) :
    (P (240 * a + j) - P (240 * b + j) < 0 → ts_cm (ts_r P a) (ts_r P b) = -1) ∧ (¬ P (240 * a + j) - P (240 * b + j) < 0 → ts_cm (ts_r P a) (ts_r P b) = 1) := by
  have h1 := hp (240 * a + j) (by omega)
  have h2 := hp (240 * b + j) (by omega)
  have e : (P (240 * a + j) - P (240 * b + j)).toInt = (P (240 * a + j)).toInt - (P (240 * b + j)).toInt := ts_i_sub (by omega) (by omega)
  have e0 : (0 : Int32).toInt = 0 := by decide +kernel
  have da : ts_d P a j = (P (240 * a + j)).toInt.toNat := rfl
  have db : ts_d P b j = (P (240 * b + j)).toInt.toNat := rfl
  have hup : ∀ i, j < i → i < 240 → ts_d P a i = ts_d P b i := fun i hi hi2 => by unfold ts_d; rw [h i hi hi2]
  constructor
  · intro hl
    rw [Int32.lt_iff_toInt_lt, e, e0] at hl
    have : ts_r P a < ts_r P b := ts_dv_cmp hj (ts_d_lt hp ha) hup (by omega)
    unfold ts_cm
    rw [if_pos this]
  · intro hl
    have hne' : (P (240 * a + j)).toInt ≠ (P (240 * b + j)).toInt := by
      intro q
      apply hne
      apply Int32.toInt_inj.mp
      rw [e, e0]
      omega
    rw [Int32.lt_iff_toInt_lt, e, e0] at hl
    have : ts_r P b < ts_r P a := ts_dv_cmp hj (ts_d_lt hp hb) (fun i hi hi2 => (hup i hi hi2).symm) (by omega)
    unfold ts_cm
    rw [if_neg (by omega), if_neg (by omega)]
theorem ts_eq0 {x y : Int32} (hx : 0 ≤ x.toInt ∧ x.toInt < 268435456) (hy : 0 ≤ y.toInt ∧ y.toInt < 268435456) (h : x - y = 0) : x = y := by
  have e : (x - y).toInt = x.toInt - y.toInt := ts_i_sub (by omega) (by omega)
  have e0 : (0 : Int32).toInt = 0 := by decide +kernel
  rw [h, e0] at e
  exact Int32.toInt_inj.mp (by omega)
/-- shift by whole digits -/
def ts_ShI (P : Nat → Int32) (r w k : Nat) (P' : Nat → Int32) : Prop := ts_pk P' ∧ ts_off P P' r ∧ (∀ j, 240 ≤ j + k → j < 240 → P' (240 * r + j) = if w ≤ j then P (240 * r + (j - w)) else 0) ∧ ∀ j, j + k < 240 → P' (240 * r + j) = P (240 * r + j)
theorem ts_ShI.zero {P : Nat → Int32} {r w : Nat} (h : ts_pk P) : ts_ShI P r w 0 P := ⟨h, ts_off.rf, fun j h1 h2 => by omega, fun _ _ => rfl⟩
theorem ts_ShI.step {P P' : Nat → Int32} {r w k j : Nat} {x : Int32} (hp : ts_pk P) (hr : r < 10) (hk : k < 240) (hj : j = 239 - k) (h : ts_ShI P r w k P') (hx : x = if w ≤ j then P (240 * r + (j - w)) else 0) : ts_ShI P r w (k + 1) (upd P' (240 * r + j) x) := by
  obtain ⟨h1, h2, h3, h4⟩ := h
  have hx2 : 0 ≤ x.toInt ∧ x.toInt < 268435456 := by
    rw [hx]
    split
    · exact hp _ (by omega)
    · decide +kernel
  refine ⟨ts_pk_upd h1 hx2, h2.upd (by omega), fun q hq hq2 => ?_, fun q hq => ?_⟩
  · by_cases e : q = j
    · subst e; rw [pk_us]; exact hx
    · rw [pk_un (by omega)]; exact h3 q (by omega) hq2
  · rw [pk_un (by omega)]; exact h4 q (by omega)
theorem ts_ShI.done {P P' : Nat → Int32} {r w : Nat} (hp : ts_pk P) (hr : r < 10) (hw : w ≤ 240) (h : ts_ShI P r w 240 P') (hN : ts_r P r * (2 ^ 28) ^ w < ts_N) : ts_pk P' ∧ ts_off P P' r ∧ ts_r P' r = ts_r P r * (2 ^ 28) ^ w := by
  obtain ⟨h1, h2, h3, -⟩ := h
  refine ⟨h1, h2, ?_⟩
  have hd : ∀ j, j < 240 → ts_d P' r j = if w ≤ j then ts_d P r (j - w) else 0 := by
    intro j hj
    unfold ts_d
    rw [h3 j (by omega) hj]
    split
    · rfl
    · decide +kernel
  obtain ⟨n, hn⟩ : ∃ n, w + n = 240 := ⟨240 - w, by omega⟩
  have e0 : ts_N = (2 ^ 28) ^ n * (2 ^ 28) ^ w := by unfold ts_N; rw [← Nat.pow_add, Nat.add_comm, hn]
  have hlt : ts_r P r < (2 ^ 28) ^ n := by
    rw [e0] at hN
    exact Nat.lt_of_mul_lt_mul_right hN
  have e1 : ts_r P' r = ts_dv (2 ^ 28) (ts_d P' r) (w + n) := by unfold ts_r; rw [hn]
  have e2 : ts_dv (2 ^ 28) (fun i => ts_d P' r (w + i)) n = ts_dv (2 ^ 28) (ts_d P r) n := ts_dv_congr (fun i hi => by
    show ts_d P' r (w + i) = _
    rw [hd _ (by omega), if_pos (by omega)]
    congr 1
    omega)
  have e3 : ts_r P r = ts_dv (2 ^ 28) (ts_d P r) n := by
    have h5 : ts_dv (2 ^ 28) (ts_d P r) (n + w) % (2 ^ 28) ^ n = ts_dv (2 ^ 28) (ts_d P r) n := ts_dv_mod (fun i hi => ts_d_lt hp hr i (by omega))
    have h6 : ts_dv (2 ^ 28) (ts_d P r) (n + w) = ts_r P r := by unfold ts_r; rw [Nat.add_comm, hn]
    rw [h6, Nat.mod_eq_of_lt hlt] at h5
    exact h5
  rw [e1, ts_dv_add, ts_dv_zero (fun j hj => by rw [hd j (by omega), if_neg (by omega)]), Nat.zero_add, e2, ← e3, Nat.mul_comm]
theorem ts_shl32 : ∀ j, j < 31 → (1 : Int32) <<< (nI j &&& 31) = nI (2 ^ j) := by decide +kernel
/-- together: one digit -/
theorem ts_tog1 {v : Int64} {q : Int} (h : v.toInt = q) (h1 : -1000000000 ≤ q) (h2 : q ≤ 1000000000) : (v &&& 268435455).toInt32.toInt + (v >>> ((28 : Int32).toInt64 &&& 63)).toInt * 268435456 = q ∧
    (0 ≤ (v &&& 268435455).toInt32.toInt ∧ (v &&& 268435455).toInt32.toInt < 268435456) ∧ (v >>> ((28 : Int32).toInt64 &&& 63)).toInt = q / 268435456 := by
  rw [ts_low28, ts_sar28, h]
  refine ⟨by omega, ⟨by omega, by omega⟩, rfl⟩
def ts_TogI (P : Nat → Int32) (a b : Nat) (ua ub : Int) (i : Nat) (c : Int64) (P' : Nat → Int32) : Prop := ts_pk P' ∧ ts_off P P' a ∧ (∀ j, i ≤ j → j < 240 → P' (240 * a + j) = P (240 * a + j)) ∧ (-1 ≤ c.toInt ∧ c.toInt ≤ 1) ∧
  (ts_dv (2 ^ 28) (ts_d P' a) i : Int) + c.toInt * (((2 ^ 28) ^ i : Nat) : Int) = ua * (ts_dv (2 ^ 28) (ts_d P a) i : Int) + ub * (ts_dv (2 ^ 28) (ts_d P b) i : Int)
theorem ts_TogI.zero {P : Nat → Int32} {a b : Nat} {ua ub : Int} (h : ts_pk P) : ts_TogI P a b ua ub 0 0 P := by
  have h0 : (0 : Int64).toInt = 0 := by decide +kernel
  refine ⟨h, ts_off.rf, fun _ _ _ => rfl, by rw [h0]; omega, ?_⟩
  rw [h0, ts_dv0, ts_dv0]
  simp
theorem ts_TogI.step {P P' : Nat → Int32} {a b i : Nat} {ua ub : Int} {c v : Int64} (ha : a < 10) (hb : b < 10) (hab : a ≠ b) (hp : ts_pk P) (hu : (ua = 1 ∧ ub = 1) ∨ (ua = 1 ∧ ub = -1) ∨ (ua = -1 ∧ ub = 1)) (hi : i < 240) (h : ts_TogI P a b ua ub i c P')
    (hv : v.toInt = ua * (P' (240 * a + i)).toInt + ub * (P' (240 * b + i)).toInt + c.toInt) : ts_TogI P a b ua ub (i + 1) (v >>> ((28 : Int32).toInt64 &&& 63)) (upd P' (240 * a + i) (v &&& 268435455).toInt32) := by
  obtain ⟨h1, h2, h3, h4, h5⟩ := h
  have x1 := h1 (240 * a + i) (by omega)
  have x2 := h1 (240 * b + i) (by omega)
  have eb : P' (240 * b + i) = P (240 * b + i) := h2 _ (by omega)
  have ea : P' (240 * a + i) = P (240 * a + i) := h3 i (Nat.le_refl _) hi
  obtain ⟨s1, s2, s3⟩ := ts_tog1 hv (by rcases hu with ⟨r1, r2⟩ | ⟨r1, r2⟩ | ⟨r1, r2⟩ <;> rw [r1, r2] <;> omega) (by rcases hu with ⟨r1, r2⟩ | ⟨r1, r2⟩ | ⟨r1, r2⟩ <;> rw [r1, r2] <;> omega)
  refine ⟨ts_pk_upd h1 s2, h2.upd hi, fun j hj hj2 => ?_, ?_, ?_⟩
  · rw [pk_un (by omega)]; exact h3 j (by omega) hj2
  · rw [s3]
    rcases hu with ⟨r1, r2⟩ | ⟨r1, r2⟩ | ⟨r1, r2⟩ <;> rw [r1, r2] <;> omega
  · rw [ts_d_upd, ts_dvs, ts_dvs, Nat.pow_succ (2 ^ 28) i, Int.natCast_add, Int.natCast_add, Int.natCast_add, Int.natCast_mul, Int.natCast_mul, Int.natCast_mul, Int.natCast_mul]
    refine ts_stepT h5 ?_
    have e1 : (ts_d P a i : Int) = (P' (240 * a + i)).toInt := by rw [ts_d_i hp ha hi, ea]
    have e2 : (ts_d P b i : Int) = (P' (240 * b + i)).toInt := by rw [ts_d_i hp hb hi, eb]
    rw [e1, e2, ← s1, Int.toNat_of_nonneg s2.1]
    rfl
theorem ts_TogI.done {P P' : Nat → Int32} {a b : Nat} {ua ub : Int} {c : Int64} (ha : a < 10) (h : ts_TogI P a b ua ub 240 c P') (h0 : 0 ≤ ua * (ts_r P a : Int) + ub * (ts_r P b : Int)) (hN : ua * (ts_r P a : Int) + ub * (ts_r P b : Int) < (ts_N : Int)) :
    ts_pk P' ∧ ts_off P P' a ∧ (ts_r P' a : Int) = ua * (ts_r P a : Int) + ub * (ts_r P b : Int) := by
  obtain ⟨h1, h2, h3, h4, h5⟩ := h
  refine ⟨h1, h2, ?_⟩
  have hl := ts_r_lt h1 ha
  have h6 : (ts_r P' a : Int) + c.toInt * (ts_N : Int) = ua * (ts_r P a : Int) + ub * (ts_r P b : Int) := h5
  have hc : c.toInt = -1 ∨ c.toInt = 0 ∨ c.toInt = 1 := by omega
  rcases hc with hc | hc | hc <;> rw [hc] at h6 <;> omega
/-- together: the signs -/
theorem ts_tg {P P' B : Nat → Int32} {a b : Nat} {b' : Int32} (hka : ts_bk P B a) (hkb : ts_bk P B b)
    (h : (B a = B b ∧ ts_r P' a = ts_r P a + ts_r P b ∧ b' = B a) ∨ (B a ≠ B b ∧ ts_r P a = ts_r P b ∧ ts_r P' a = 0 ∧ b' = 0) ∨ (B a ≠ B b ∧ ts_r P b < ts_r P a ∧ ts_r P' a = ts_r P a - ts_r P b ∧ b' = B a) ∨ (B a ≠ B b ∧ ts_r P a < ts_r P b ∧ ts_r P' a = ts_r P b - ts_r P a ∧ b' = B b)) :
    ts_V P' (upd B a b') a = ts_V P B a + ts_V P B b ∧ ts_bk P' (upd B a b') a := by
  obtain ⟨ha, ha2⟩ := hka
  obtain ⟨hb, hb2⟩ := hkb
  have n01 : ¬ (0 : Int32) = 1 := by decide +kernel
  unfold ts_V ts_bk
  rw [pk_us]
  rcases h with ⟨h1, h2, h3⟩ | ⟨h1, h2, h3, h4⟩ | ⟨h1, h2, h3, h4⟩ | ⟨h1, h2, h3, h4⟩
  · rcases ha with e1 | e1
    · rw [h3, ← h1, e1, if_neg n01, if_neg n01, if_neg n01]
      exact ⟨by omega, Or.inl rfl, fun z => absurd z n01⟩
    · rw [h3, ← h1, e1, if_pos rfl, if_pos rfl, if_pos rfl]
      have := ha2 e1
      exact ⟨by omega, Or.inr rfl, fun _ => by omega⟩
  · rw [h4, if_neg n01]
    refine ⟨?_, Or.inl rfl, fun z => absurd z n01⟩
    rcases ha with e1 | e1 <;> rcases hb with e2 | e2
    · exact absurd (e1.trans e2.symm) h1
    · rw [e1, e2, if_neg n01, if_pos rfl]; omega
    · rw [e1, e2, if_neg n01, if_pos rfl]; omega
    · exact absurd (e1.trans e2.symm) h1
  · rcases ha with e1 | e1 <;> rcases hb with e2 | e2
    · exact absurd (e1.trans e2.symm) h1
    · rw [h4, e1, e2, if_neg n01, if_neg n01, if_pos rfl]
      exact ⟨by omega, Or.inl rfl, fun z => absurd z n01⟩
    · rw [h4, e1, e2, if_neg n01, if_pos rfl, if_pos rfl]
      exact ⟨by omega, Or.inr rfl, fun _ => by omega⟩
    · exact absurd (e1.trans e2.symm) h1
  · rcases ha with e1 | e1 <;> rcases hb with e2 | e2
    · exact absurd (e1.trans e2.symm) h1
    · rw [h4, e1, e2, if_neg n01, if_pos rfl, if_pos rfl]
      exact ⟨by omega, Or.inr rfl, fun _ => by omega⟩
    · rw [h4, e1, e2, if_neg n01, if_neg n01, if_pos rfl]
      exact ⟨by omega, Or.inl rfl, fun z => absurd z n01⟩
    · exact absurd (e1.trans e2.symm) h1
theorem ts_shE (x k : Nat) : x * 2 ^ k = 2 ^ (k % 28) * (x * (2 ^ 28) ^ (k / 28)) := by
  have e : 2 ^ k = 2 ^ (k % 28) * (2 ^ 28) ^ (k / 28) := by
    rw [← Nat.pow_mul, ← Nat.pow_add]
    congr 1
    omega
  rw [e, ← Nat.mul_assoc, ← Nat.mul_assoc, Nat.mul_comm x]
theorem ts_shL {x k : Nat} (h : x * 2 ^ k < ts_N) : x * (2 ^ 28) ^ (k / 28) < ts_N := by
  rw [ts_shE] at h
  exact Nat.lt_of_le_of_lt (Nat.le_mul_of_pos_left _ (Nat.pow_pos (by decide))) h
theorem ts_p28 {j : Nat} (h : j < 28) : 2 ^ j < 268435456 := by
  have := Nat.pow_lt_pow_right (a := 2) (by decide) h
  exact this
theorem ts_is8 {x : Int32} (h1 : ¬ x < 0) (h2 : ¬ (8 : Int32) ≤ x) : ∃ r : Nat, r < 8 ∧ x = nI r := by
  rcases pk_ix x (n := 8) (by decide) with h | h | h
  · exact absurd h h1
  · exact absurd h h2
  · exact h
theorem ts_isT {x : Int32} (h1 : ¬ x < (-1000000)) (h2 : ¬ (1000000 : Int32) < x) : -1000000 ≤ x.toInt ∧ x.toInt ≤ 1000000 := by
  rw [Int32.lt_iff_toInt_lt] at h1 h2
  have e1 : (-1000000 : Int32).toInt = -1000000 := by decide +kernel
  have e2 : (1000000 : Int32).toInt = 1000000 := by decide +kernel
  omega
