/-! bits of the longs, truths of the tables -/
def tb (x : Int64) (j : Nat) : Bool := (uN x).testBit j
theorem tb_ext {x y : Int64} (h : ∀ j, j < 64 → tb x j = tb y j) : x = y := by
  apply uN_inj
  apply Nat.eq_of_testBit_eq
  intro j
  by_cases hj : j < 64
  · exact h j hj
  · have h2 : 2 ^ 64 ≤ 2 ^ j := Nat.pow_le_pow_right (by decide) (by omega)
    rw [Nat.testBit_lt_two_pow (Nat.lt_of_lt_of_le (uN_lt x) h2), Nat.testBit_lt_two_pow (Nat.lt_of_lt_of_le (uN_lt y) h2)]
theorem tb_and (x y : Int64) (j : Nat) : tb (x &&& y) j = (tb x j && tb y j) := by
  unfold tb
  rw [uN_and, Nat.testBit_and]
theorem tb_or (x y : Int64) (j : Nat) : tb (x ||| y) j = (tb x j || tb y j) := by
  unfold tb
  rw [uN_or2, Nat.testBit_or]
theorem tb_xor (x y : Int64) (j : Nat) : tb (x ^^^ y) j = (tb x j ^^ tb y j) := by
  unfold tb
  rw [uN_xor2, Nat.testBit_xor]
theorem tb_m1 {j : Nat} (h : j < 64) : tb (-1) j = true := by
  have : ∀ j, j < 64 → tb (-1) j = true := by decide +kernel
  exact this j h
theorem tb_0 (j : Nat) : tb 0 j = false := Nat.zero_testBit j
theorem tb_ush (x : Int64) {k : Nat} (hk : k < 64) (j : Nat) : tb (ush x k) j = tb x (k + j) := by
  unfold tb
  rw [uN_ush x hk, Nat.testBit_div_two_pow, Nat.add_comm]
theorem uN_lsh (x : Int64) {k : Nat} (hk : k < 64) : uN (lsh x k) = uN x * 2 ^ k % 18446744073709551616 := by
  have h : ∀ k, k < 64 → (((nI k).toInt64 &&& 63).toBitVec.smod 64).toNat = k := by decide +kernel
  have e : (lsh x k).toBitVec = x.toBitVec <<< (((nI k).toInt64 &&& 63).toBitVec.smod 64) := Int64.toBitVec_shiftLeft _ _
  show (lsh x k).toBitVec.toNat = x.toBitVec.toNat * 2 ^ k % 18446744073709551616
  rw [e, BitVec.shiftLeft_eq', BitVec.toNat_shiftLeft, h k hk, Nat.shiftLeft_eq]
theorem tb_lsh (x : Int64) {k : Nat} (hk : k < 64) {j : Nat} (hj : j < 64) : tb (lsh x k) j = (decide (k ≤ j) && tb x (j - k)) := by
  unfold tb
  rw [uN_lsh x hk, show (18446744073709551616 : Nat) = 2 ^ 64 from rfl, Nat.testBit_mod_two_pow, Nat.testBit_mul_two_pow]
  simp [hj]
theorem tb_spr {h k j : Nat} (hj : j < 64) (hh : h < 16) (hk : k < 4) : tb (spr h k) j = h.testBit k := by
  have : ∀ h, h < 16 → ∀ k, k < 4 → spr h k = if h.testBit k then -1 else 0 := by decide +kernel
  rw [this h hh k hk]
  cases h.testBit k
  · exact tb_0 j
  · exact tb_m1 hj
theorem tb_bv : ∀ k, k < 6 → ∀ j, j < 64 → tb (bvL k) j = j.testBit (5 - k) := by decide +kernel
theorem tb_pk3 (w t e : Int64) {j : Nat} (hj : j < 64) : tb (pk3 w t e) j = if tb w j then tb t j else tb e j := by
  unfold pk3
  rw [tb_or, tb_and, tb_and, tb_xor, tb_m1 hj]
  cases tb w j <;> simp
theorem tb_msk : ∀ L ∈ [1, 2, 4, 8, 16, 32], ∀ j, j < 64 → tb (lsh 1 L - 1) j = decide (j < L) := by decide +kernel
/-- the truth of point p % 1024 of row p / 1024 -/
def tbl (R : Nat → Nat → Int64) (p : Nat) : Bool := tb (R (p / 1024) (p % 1024 / 64)) (p % 64)
theorem tbl_hi {R : Nat → Nat → Int64} {o k j : Nat} (h : o % 64 = 0) (hk : o % 1024 + 64 * k + 64 ≤ 1024) (hj : j < 64) : tbl R (o + (64 * k + j)) = tb (R (o / 1024) (o % 1024 / 64 + k)) j := by
  unfold tbl
  rw [show (o + (64 * k + j)) / 1024 = o / 1024 by omega, show (o + (64 * k + j)) % 1024 / 64 = o % 1024 / 64 + k by omega, show (o + (64 * k + j)) % 64 = j by omega]
theorem tbl_lo {R : Nat → Nat → Int64} {o L j : Nat} (h : o % 64 + L ≤ 64) (hj : j < L) : tbl R (o + j) = tb (R (o / 1024) (o % 1024 / 64)) (o % 64 + j) := by
  unfold tbl
  rw [show (o + j) / 1024 = o / 1024 by omega, show (o + j) % 1024 / 64 = o % 1024 / 64 by omega, show (o + j) % 64 = o % 64 + j by omega]
theorem Ew_hi {R : Nat → Nat → Int64} {lv x y : Nat} (hL : 1024 / 2 ^ lv = 64 * wrd lv) (h64 : ¬ 1024 / 2 ^ lv < 64) (hx : x * (1024 / 2 ^ lv) % 64 = 0 ∧ x * (1024 / 2 ^ lv) % 1024 + 1024 / 2 ^ lv ≤ 1024) (hy : y * (1024 / 2 ^ lv) % 64 = 0 ∧ y * (1024 / 2 ^ lv) % 1024 + 1024 / 2 ^ lv ≤ 1024) : Ew R lv x y ↔ eqT (tbl R) (x * (1024 / 2 ^ lv)) (y * (1024 / 2 ^ lv)) (1024 / 2 ^ lv) := by
  have px : ∀ z k, pwd R lv z k = R (z * (1024 / 2 ^ lv) / 1024) (z * (1024 / 2 ^ lv) % 1024 / 64 + k) := fun z k => by
    unfold pwd
    rw [if_neg h64]
  constructor
  · intro h k hk
    have h1 := h (k / 64) (by omega)
    rw [px, px] at h1
    rw [show k = 64 * (k / 64) + k % 64 by omega, tbl_hi hx.1 (by omega) (by omega), tbl_hi hy.1 (by omega) (by omega), h1]
  · intro h k hk
    rw [px, px]
    apply tb_ext
    intro j hj
    have h1 := h (64 * k + j) (by omega)
    rw [tbl_hi hx.1 (by omega) hj, tbl_hi hy.1 (by omega) hj] at h1
    exact h1
theorem Ew_lo {R : Nat → Nat → Int64} {lv x y : Nat} (hw : wrd lv = 1) (h64 : 1024 / 2 ^ lv < 64) (hm : 1024 / 2 ^ lv ∈ [1, 2, 4, 8, 16, 32]) (hx : x * (1024 / 2 ^ lv) % 64 + 1024 / 2 ^ lv ≤ 64) (hy : y * (1024 / 2 ^ lv) % 64 + 1024 / 2 ^ lv ≤ 64) : Ew R lv x y ↔ eqT (tbl R) (x * (1024 / 2 ^ lv)) (y * (1024 / 2 ^ lv)) (1024 / 2 ^ lv) := by
  have px : ∀ z, z * (1024 / 2 ^ lv) % 64 + 1024 / 2 ^ lv ≤ 64 → ∀ j, j < 64 → tb (pwd R lv z 0) j = (tb (R (z * (1024 / 2 ^ lv) / 1024) (z * (1024 / 2 ^ lv) % 1024 / 64)) (z * (1024 / 2 ^ lv) % 64 + j) && decide (j < 1024 / 2 ^ lv)) := fun z hz j hj => by
    unfold pwd
    rw [if_pos h64, tb_and, tb_msk _ hm j hj, tb_ush _ (by omega), show z * (1024 / 2 ^ lv) % 1024 % 64 = z * (1024 / 2 ^ lv) % 64 by omega, Nat.add_zero]
  constructor
  · intro h k hk
    have h1 : tb (pwd R lv x 0) k = tb (pwd R lv y 0) k := by rw [h 0 (by omega)]
    rw [px x hx k (by omega), px y hy k (by omega), decide_eq_true hk, Bool.and_true, Bool.and_true] at h1
    rw [tbl_lo hx hk, tbl_lo hy hk, h1]
  · intro h k hk
    rw [show k = 0 by omega]
    apply tb_ext
    intro j hj
    rw [px x hx j hj, px y hy j hj]
    by_cases z : j < 1024 / 2 ^ lv
    · have h1 := h j z
      rw [tbl_lo hx z, tbl_lo hy z] at h1
      rw [h1]
    · rw [decide_eq_false z, Bool.and_false, Bool.and_false]
theorem Ew_iff (R : Nat → Nat → Int64) (x y : Nat) : ∀ lv, lv ≤ 10 → (Ew R lv x y ↔ eqT (tbl R) (x * (1024 / 2 ^ lv)) (y * (1024 / 2 ^ lv)) (1024 / 2 ^ lv)) := by
  refine lv11 (Ew_hi (by decide) (by decide) ?_ ?_) (Ew_hi (by decide) (by decide) ?_ ?_) (Ew_hi (by decide) (by decide) ?_ ?_) (Ew_hi (by decide) (by decide) ?_ ?_) (Ew_hi (by decide) (by decide) ?_ ?_) (Ew_lo (by decide) (by decide) (by decide) ?_ ?_) (Ew_lo (by decide) (by decide) (by decide) ?_ ?_) (Ew_lo (by decide) (by decide) (by decide) ?_ ?_) (Ew_lo (by decide) (by decide) (by decide) ?_ ?_) (Ew_lo (by decide) (by decide) (by decide) ?_ ?_) (Ew_lo (by decide) (by decide) (by decide) ?_ ?_) <;> simp <;> omega
