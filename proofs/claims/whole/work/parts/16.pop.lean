/-! ===== Int64 as an unsigned number: uN x ===== -/
def uN (x : Int64) : Nat := x.toUInt64.toNat
theorem uN_lt (x : Int64) : uN x < 18446744073709551616 := x.toUInt64.toNat_lt
theorem uN_inj {x y : Int64} (h : uN x = uN y) : x = y := congrArg UInt64.toInt64 (UInt64.toNat_inj.mp h)
theorem uN_add (x y : Int64) : uN (x + y) = (uN x + uN y) % 18446744073709551616 := by
  show (x.toUInt64 + y.toUInt64).toNat = _
  exact UInt64.toNat_add _ _
theorem uN_shr (x : Int64) (s : UInt64) : uN (x.toUInt64 >>> s).toInt64 = uN x / 2 ^ (s.toNat % 64) := by
  show (x.toUInt64 >>> s).toNat = _
  rw [UInt64.toNat_shiftRight, Nat.shiftRight_eq_div_pow]
  rfl
theorem uN_sk (x : Int64) {k : Nat} (hk : k < 64) : uN (x.toUInt64 >>> ((nI k).toInt64.toUInt64 &&& Int64.toUInt64 63)).toInt64 = uN x / 2 ^ k := by
  have h : ((nI k).toInt64.toUInt64 &&& Int64.toUInt64 63).toNat % 64 = k := by
    rw [nI_l (by omega), UInt64.toNat_and]
    have e : (lN k).toUInt64.toNat = k % 2 ^ 64 := rfl
    have e2 : (Int64.toUInt64 63).toNat = 2 ^ 6 - 1 := by decide
    rw [e, e2, Nat.and_two_pow_sub_one_eq_mod]
    omega
  rw [uN_shr, h]
theorem uN_and (x y : Int64) : uN (x &&& y) = uN x &&& uN y := UInt64.toNat_and _ _
theorem uN_or2 (x y : Int64) : uN (x ||| y) = uN x ||| uN y := UInt64.toNat_or _ _
theorem uN_xor2 (x y : Int64) : uN (x ^^^ y) = uN x ^^^ uN y := UInt64.toNat_xor _ _
theorem uN_sub (x y : Int64) : uN (x - y) = (18446744073709551616 - uN y + uN x) % 18446744073709551616 := UInt64.toNat_sub _ _
theorem uN_ush (x : Int64) {k : Nat} (hk : k < 64) : uN (ush x k) = uN x / 2 ^ k := uN_sk x hk
/-! how many bits a number has: by bytes -/
def cnt (f : Nat → Bool) : Nat → Nat
  | 0 => 0
  | m + 1 => cnt f m + (if f m then 1 else 0)
theorem cnt_congr {f f' : Nat → Bool} {m : Nat} (h : ∀ j, j < m → f j = f' j) : cnt f m = cnt f' m := by
  induction m with
  | zero => rfl
  | succ m ih => rw [cnt, cnt, ih (fun j hj => h j (by omega)), h m (by omega)]
theorem cnt_add (f : Nat → Bool) (a b : Nat) : cnt f (a + b) = cnt f a + cnt (fun j => f (a + j)) b := by
  induction b with
  | zero => rfl
  | succ b ih => rw [← Nat.add_assoc, cnt, cnt, ih, Nat.add_assoc]
theorem cnt_le (f : Nat → Bool) (m : Nat) : cnt f m ≤ m := by
  induction m with
  | zero => exact Nat.le_refl 0
  | succ m ih =>
    rw [cnt]
    split <;> omega
theorem and_split {a c : Nat} (b d : Nat) (ha : a < 256) (hc : c < 256) : (a + 256 * b) &&& (c + 256 * d) = (a &&& c) + 256 * (b &&& d) := by
  have h1 : ((a + 256 * b) &&& (c + 256 * d)) % 2 ^ 8 = a &&& c := by
    rw [Nat.and_mod_two_pow, show (a + 256 * b) % 2 ^ 8 = a by omega, show (c + 256 * d) % 2 ^ 8 = c by omega]
  have h2 : ((a + 256 * b) &&& (c + 256 * d)) / 2 ^ 8 = b &&& d := by
    rw [Nat.and_div_two_pow, show (a + 256 * b) / 2 ^ 8 = b by omega, show (c + 256 * d) / 2 ^ 8 = d by omega]
  omega
def mk8 (z : Nat) : Nat → Nat
  | 0 => 0
  | m + 1 => z + 256 * mk8 z m
def bs1 (m n : Nat) : Nat := n - ((n / 2) &&& mk8 85 m)
def bs2 (m n : Nat) : Nat := (n &&& mk8 51 m) + ((n / 4) &&& mk8 51 m)
def bs3 (m n : Nat) : Nat := (n + n / 16) &&& mk8 15 m
theorem by1 : ∀ lo, lo < 256 → ∀ t, t < 2 → (lo / 2 + 128 * t) &&& 85 = (lo / 2) &&& 85 := by decide +kernel
theorem by1b : ∀ lo, lo < 256 → (lo / 2) &&& 85 ≤ lo := by decide +kernel
theorem by2 : ∀ lo, lo < 256 → ∀ t, t < 4 → (lo / 4 + 64 * t) &&& 51 = (lo / 4) &&& 51 := by decide +kernel
theorem by3 : ∀ lo, lo < 256 → ∀ t, t < 5 → ((bs2 1 (bs1 1 lo)) + (bs2 1 (bs1 1 lo)) / 16 + 16 * t) &&& 15 = cnt (fun j => lo.testBit j) 8 := by decide +kernel
theorem by4 : ∀ lo, lo < 256 → bs2 1 (bs1 1 lo) % 16 ≤ 4 ∧ bs2 1 (bs1 1 lo) ≤ 68 ∧ bs1 1 lo < 256 := by decide +kernel
theorem bs1_s (m lo hi : Nat) (h : lo < 256) : bs1 (m + 1) (lo + 256 * hi) = bs1 1 lo + 256 * bs1 m hi := by
  unfold bs1
  rw [show (lo + 256 * hi) / 2 = (lo / 2 + 128 * (hi % 2)) + 256 * (hi / 2) by omega, show mk8 85 (m + 1) = 85 + 256 * mk8 85 m from rfl, and_split _ _ (by omega) (by decide), by1 lo h _ (by omega), show mk8 85 1 = 85 from rfl]
  have h1 := by1b lo h
  have h2 : (hi / 2) &&& mk8 85 m ≤ hi := Nat.le_trans Nat.and_le_left (Nat.div_le_self _ _)
  omega
theorem bs2_s (m lo hi : Nat) (h : lo < 256) : bs2 (m + 1) (lo + 256 * hi) = bs2 1 lo + 256 * bs2 m hi := by
  unfold bs2
  rw [show (lo + 256 * hi) / 4 = (lo / 4 + 64 * (hi % 4)) + 256 * (hi / 4) by omega, show mk8 51 (m + 1) = 51 + 256 * mk8 51 m from rfl, and_split _ _ (by omega) (by decide), and_split _ _ (by omega) (by decide), by2 lo h _ (by omega), show mk8 51 1 = 51 from rfl]
  omega
theorem bt_s (m lo hi : Nat) (h : lo < 256) : bs2 (m + 1) (bs1 (m + 1) (lo + 256 * hi)) = bs2 1 (bs1 1 lo) + 256 * bs2 m (bs1 m hi) := by
  rw [bs1_s m lo hi h, bs2_s m _ _ (by4 lo h).2.2]
theorem bt_16 (m n : Nat) : bs2 m (bs1 m n) % 16 ≤ 4 := by
  cases m with
  | zero => simp [bs2, mk8]
  | succ m =>
    rw [show n = n % 256 + 256 * (n / 256) by omega, bt_s m _ _ (by omega)]
    have := (by4 (n % 256) (by omega)).1
    omega
theorem bu_s (m lo hi : Nat) (h : lo < 256) : bs3 (m + 1) (bs2 (m + 1) (bs1 (m + 1) (lo + 256 * hi))) = cnt (fun j => lo.testBit j) 8 + 256 * bs3 m (bs2 m (bs1 m hi)) := by
  rw [bt_s m lo hi h]
  have h3 := by3 lo h (bs2 m (bs1 m hi) % 16) (by have := bt_16 m hi; omega)
  have h4 := by4 lo h
  have h5 := bt_16 m hi
  generalize bs2 m (bs1 m hi) = t at h3 h5 ⊢
  generalize bs2 1 (bs1 1 lo) = b at h3 h4 ⊢
  unfold bs3
  rw [show b + 256 * t + (b + 256 * t) / 16 = (b + b / 16 + 16 * (t % 16)) + 256 * (t + t / 16) by omega, show mk8 15 (m + 1) = 15 + 256 * mk8 15 m from rfl, and_split _ _ (by omega) (by decide), h3]
