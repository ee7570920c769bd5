def pV (n : Nat) : Nat → Nat
  | 0 => 0
  | m + 1 => cnt (fun j => (n % 256).testBit j) 8 + 256 * pV (n / 256) m
def pS (n : Nat) : Nat → Nat
  | 0 => 0
  | m + 1 => cnt (fun j => (n % 256).testBit j) 8 + pS (n / 256) m
theorem bu_pV (m n : Nat) : bs3 m (bs2 m (bs1 m n)) = pV n m := by
  induction m generalizing n with
  | zero => simp [bs3, mk8, pV]
  | succ m ih =>
    rw [pV, ← ih, ← bu_s m (n % 256) (n / 256) (by omega), show n % 256 + 256 * (n / 256) = n by omega]
theorem cnt_pS (m n : Nat) : cnt (fun j => n.testBit j) (8 * m) = pS n m := by
  induction m generalizing n with
  | zero => rfl
  | succ m ih =>
    rw [show 8 * (m + 1) = 8 + 8 * m by omega, cnt_add, pS, ← ih]
    congr 1
    · exact cnt_congr (fun j hj => by
        have e := Nat.testBit_mod_two_pow n 8 j
        rw [show (2 : Nat) ^ 8 = 256 from rfl] at e
        rw [e]
        simp [hj])
    · exact cnt_congr (fun j _ => by
        have e : (n / 2 ^ 8).testBit j = n.testBit (j + 8) := Nat.testBit_div_two_pow n j
        rw [show (2 : Nat) ^ 8 = 256 from rfl] at e
        rw [e, Nat.add_comm])
theorem pdiv {a b : Nat} (h : a < 256) : (a + 256 * b) / 256 = b := by omega
theorem pdiv2 {a b c : Nat} (h : a < 256) (h2 : b < 256) : (a + 256 * (b + 256 * c)) / 65536 = c := by omega
theorem pdiv4 {a b c d e : Nat} (h : a < 256) (h2 : b < 256) (h3 : c < 256) (h4 : d < 256) : (a + 256 * (b + 256 * (c + 256 * (d + 256 * e)))) / 4294967296 = e := by
  rw [show (4294967296 : Nat) = 65536 * 65536 from rfl, ← Nat.div_div_eq_div_mul, pdiv2 h h2, pdiv2 h3 h4]
theorem pmod {a b : Nat} : (a + 256 * b) % 128 = a % 128 := by omega
theorem padd (a b c d : Nat) : (a + 256 * b) + (c + 256 * d) = (a + c) + 256 * (b + d) := by omega
theorem pf1 (c0 r : Nat) (h0 : c0 ≤ 8) : (c0 + 256 * r) + (c0 + 256 * r) / 256 = (c0 + 256 * r) + r := by rw [pdiv (Nat.lt_of_le_of_lt h0 (by decide))]
theorem pf2 (a b r : Nat) (ha : a ≤ 16) (hb : b ≤ 16) : (a + 256 * (b + 256 * r)) + (a + 256 * (b + 256 * r)) / 65536 = (a + 256 * (b + 256 * r)) + r := by rw [pdiv2 (Nat.lt_of_le_of_lt ha (by decide)) (Nat.lt_of_le_of_lt hb (by decide))]
theorem pf3 (a b c d r : Nat) (ha : a ≤ 32) (hb : b ≤ 32) (hc : c ≤ 32) (hd : d ≤ 32) : (a + 256 * (b + 256 * (c + 256 * (d + 256 * r)))) + (a + 256 * (b + 256 * (c + 256 * (d + 256 * r)))) / 4294967296 = (a + 256 * (b + 256 * (c + 256 * (d + 256 * r)))) + r := by
  rw [pdiv4 (Nat.lt_of_le_of_lt ha (by decide)) (Nat.lt_of_le_of_lt hb (by decide)) (Nat.lt_of_le_of_lt hc (by decide)) (Nat.lt_of_le_of_lt hd (by decide))]
theorem pg1 (c0 c1 c2 c3 c4 c5 c6 c7 : Nat) : (c0 + 256 * (c1 + 256 * (c2 + 256 * (c3 + 256 * (c4 + 256 * (c5 + 256 * (c6 + 256 * c7))))))) + (c1 + 256 * (c2 + 256 * (c3 + 256 * (c4 + 256 * (c5 + 256 * (c6 + 256 * c7)))))) = (c0 + c1) + 256 * ((c1 + c2) + 256 * ((c2 + c3) + 256 * ((c3 + c4) + 256 * ((c4 + c5) + 256 * ((c5 + c6) + 256 * ((c6 + c7) + 256 * c7)))))) := by omega
theorem pg2 (d0 d1 d2 d3 d4 d5 d6 d7 : Nat) : (d0 + 256 * (d1 + 256 * (d2 + 256 * (d3 + 256 * (d4 + 256 * (d5 + 256 * (d6 + 256 * d7))))))) + (d2 + 256 * (d3 + 256 * (d4 + 256 * (d5 + 256 * (d6 + 256 * d7))))) = (d0 + d2) + 256 * ((d1 + d3) + 256 * ((d2 + d4) + 256 * ((d3 + d5) + 256 * ((d4 + d6) + 256 * ((d5 + d7) + 256 * (d6 + 256 * d7)))))) := by omega
theorem pg3 (a r b t : Nat) : ((a + 256 * r) + (b + 256 * t)) % 128 = (a + b) % 128 := by omega
theorem pg4 (c0 c1 c2 c3 c4 c5 c6 c7 : Nat) (h0 : c0 ≤ 8) (h1 : c1 ≤ 8) (h2 : c2 ≤ 8) (h3 : c3 ≤ 8) (h4 : c4 ≤ 8) (h5 : c5 ≤ 8) (h6 : c6 ≤ 8) (h7 : c7 ≤ 8) : (c0 + c1 + (c2 + c3) + (c4 + c5 + (c6 + c7))) % 128 = c0 + (c1 + (c2 + (c3 + (c4 + (c5 + (c6 + c7)))))) := by omega
theorem pfold (c0 c1 c2 c3 c4 c5 c6 c7 : Nat) (h0 : c0 ≤ 8) (h1 : c1 ≤ 8) (h2 : c2 ≤ 8) (h3 : c3 ≤ 8) (h4 : c4 ≤ 8) (h5 : c5 ≤ 8) (h6 : c6 ≤ 8) (h7 : c7 ≤ 8) (n n1 n2 n3 : Nat) (e : n = c0 + 256 * (c1 + 256 * (c2 + 256 * (c3 + 256 * (c4 + 256 * (c5 + 256 * (c6 + 256 * c7))))))) (e1 : n1 = n + n / 256) (e2 : n2 = n1 + n1 / 65536) (e3 : n3 = n2 + n2 / 4294967296) : n3 % 128 = c0 + (c1 + (c2 + (c3 + (c4 + (c5 + (c6 + c7)))))) := by
  have a2 : ∀ x y : Nat, x ≤ 8 → y ≤ 8 → x + y ≤ 16 := fun x y hx hy => Nat.add_le_add hx hy
  have a4 : ∀ x y : Nat, x ≤ 16 → y ≤ 16 → x + y ≤ 32 := fun x y hx hy => Nat.add_le_add hx hy
  have f1 := e1.trans ((congrArg (fun z => z + z / 256) e).trans ((pf1 _ _ h0).trans (pg1 c0 c1 c2 c3 c4 c5 c6 c7)))
  have f2 := e2.trans ((congrArg (fun z => z + z / 65536) f1).trans ((pf2 _ _ _ (a2 _ _ h0 h1) (a2 _ _ h1 h2)).trans (pg2 _ _ _ _ _ _ _ _)))
  have f3 := e3.trans ((congrArg (fun z => z + z / 4294967296) f2).trans (pf3 _ _ _ _ _ (a4 _ _ (a2 _ _ h0 h1) (a2 _ _ h2 h3)) (a4 _ _ (a2 _ _ h1 h2) (a2 _ _ h3 h4)) (a4 _ _ (a2 _ _ h2 h3) (a2 _ _ h4 h5)) (a4 _ _ (a2 _ _ h3 h4) (a2 _ _ h5 h6))))
  exact (congrArg (fun z => z % 128) f3).trans ((pg3 _ _ _ _).trans (pg4 c0 c1 c2 c3 c4 c5 c6 c7 h0 h1 h2 h3 h4 h5 h6 h7))
def pop (x : Int64) : Nat := cnt (fun j => (uN x).testBit j) 64
theorem pop_le (x : Int64) : pop x ≤ 64 := cnt_le _ _
/-- what Long.bitCount reckons -/
def bc1 (x : Int64) : Int64 := x - (ush x 1 &&& 6148914691236517205)
def bc2 (x : Int64) : Int64 := (x &&& 3689348814741910323) + (ush x 2 &&& 3689348814741910323)
def bc3 (x : Int64) : Int64 := (x + ush x 4) &&& 1085102592571150095
def bc4 (x : Int64) : Int64 := x + ush x 8
def bc5 (x : Int64) : Int64 := x + ush x 16
def bc6 (x : Int64) : Int64 := x + ush x 32
def bcE (x : Int64) : Int32 := (bc6 (bc5 (bc4 (bc3 (bc2 (bc1 x)))))).toInt32 &&& nI 127
theorem toI32 (x : Int64) : x.toInt32 &&& nI 127 = nI (uN x % 128) := by
  rw [pk_and x.toInt32 (m := nI 127) 7 (by decide)]
  congr 1
  have e : x.toInt32.toBitVec.toNat = uN x % 2 ^ 32 := by
    show (x.toBitVec.signExtend 32).toNat = _
    rw [BitVec.signExtend_eq_setWidth_of_le _ (by decide), BitVec.toNat_setWidth]
    rfl
  rw [e]
  omega
theorem bcE_pop (x : Int64) : bcE x = nI (pop x) := by
  unfold bcE
  have hN := uN_lt x
  have h85 : uN (6148914691236517205 : Int64) = mk8 85 8 := by decide +kernel
  have h51 : uN (3689348814741910323 : Int64) = mk8 51 8 := by decide +kernel
  have h15 : uN (1085102592571150095 : Int64) = mk8 15 8 := by decide +kernel
  generalize e1 : bc1 x = i1
  generalize e2 : bc2 i1 = i2
  generalize e3 : bc3 i2 = i3
  generalize e4 : bc4 i3 = i4
  generalize e5 : bc5 i4 = i5
  generalize e6 : bc6 i5 = i6
  have n1 : uN i1 = bs1 8 (uN x) := by
    rw [← e1, bc1, uN_sub, uN_and, uN_ush x (by decide), h85]
    have h : (uN x / 2) &&& mk8 85 8 ≤ uN x := Nat.le_trans Nat.and_le_left (Nat.div_le_self _ _)
    unfold bs1
    rw [show (2 : Nat) ^ 1 = 2 from rfl]
    omega
  have n2 : uN i2 = bs2 8 (uN i1) := by
    rw [← e2, bc2, uN_add, uN_and, uN_and, uN_ush i1 (by decide), h51]
    have a1 : uN i1 &&& mk8 51 8 ≤ mk8 51 8 := Nat.and_le_right
    have a2 : (uN i1 / 4) &&& mk8 51 8 ≤ mk8 51 8 := Nat.and_le_right
    have a3 : mk8 51 8 = 3689348814741910323 := by decide +kernel
    unfold bs2
    rw [show (2 : Nat) ^ 2 = 4 from rfl]
    omega
  have b2 : uN i2 ≤ 7378697629483820646 := by
    rw [n2]
    have a1 : uN i1 &&& mk8 51 8 ≤ mk8 51 8 := Nat.and_le_right
    have a2 : (uN i1 / 4) &&& mk8 51 8 ≤ mk8 51 8 := Nat.and_le_right
    have a3 : mk8 51 8 = 3689348814741910323 := by decide +kernel
    unfold bs2
    omega
  have n3 : uN i3 = bs3 8 (uN i2) := by
    rw [← e3, bc3, uN_and, uN_add, uN_ush i2 (by decide), h15]
    unfold bs3
    rw [show (2 : Nat) ^ 4 = 16 from rfl, Nat.mod_eq_of_lt (by omega)]
  have b3 : uN i3 ≤ 1085102592571150095 := by
    rw [n3, show (1085102592571150095 : Nat) = mk8 15 8 by decide +kernel]
    exact Nat.and_le_right
  have n4 : uN i4 = uN i3 + uN i3 / 256 := by
    rw [← e4, bc4, uN_add, uN_ush i3 (by decide), show (2 : Nat) ^ 8 = 256 from rfl, Nat.mod_eq_of_lt (by omega)]
  have n5 : uN i5 = uN i4 + uN i4 / 65536 := by
    rw [← e5, bc5, uN_add, uN_ush i4 (by decide), show (2 : Nat) ^ 16 = 65536 from rfl, Nat.mod_eq_of_lt (by omega)]
  have n6 : uN i6 = uN i5 + uN i5 / 4294967296 := by
    rw [← e6, bc6, uN_add, uN_ush i5 (by decide), show (2 : Nat) ^ 32 = 4294967296 from rfl, Nat.mod_eq_of_lt (by omega)]
  have hV : uN i3 = pV (uN x) 8 := by rw [n3, n2, n1, bu_pV]
  rw [toI32]
  congr 1
  have hS : pop x = pS (uN x) 8 := cnt_pS 8 (uN x)
  rw [hS]
  have hc : ∀ n : Nat, cnt (fun j => (n % 256).testBit j) 8 ≤ 8 := fun n => cnt_le _ _
  have := pfold _ _ _ _ _ _ _ _ (hc (uN x)) (hc (uN x / 256)) (hc (uN x / 256 / 256)) (hc (uN x / 256 / 256 / 256)) (hc (uN x / 256 / 256 / 256 / 256)) (hc (uN x / 256 / 256 / 256 / 256 / 256)) (hc (uN x / 256 / 256 / 256 / 256 / 256 / 256)) (hc (uN x / 256 / 256 / 256 / 256 / 256 / 256 / 256)) (uN i3) (uN i4) (uN i5) (uN i6) (by rw [hV]; simp only [pV, Nat.mul_zero, Nat.add_zero]) n4 n5 n6
  rw [this]
  simp only [pS, Nat.add_zero]
