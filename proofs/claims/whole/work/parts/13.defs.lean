/-! what the leaf methods answer -/
def bitN (v : Nat) : Nat := 1 * 2 ^ (9 - v)
def spr (h k : Nat) : Int64 := -((lN (h / 2 ^ k)) &&& 1)
def pk3 (w t e : Int64) : Int64 := (w &&& t) ||| ((w ^^^ (-1)) &&& e)
def vwd (v i : Nat) : Int64 := if v < 4 then spr i (3 - v) else bvL (v - 4)
def twd (f : Nat → Int64) (i v : Nat) : Int64 := if v < 4 then f (i ^^^ (1 * 2 ^ (3 - v))) else ush (f i &&& bvL (v - 4)) (bitN v) ||| (lsh (f i) (bitN v) &&& bvL (v - 4))
def wwd (f : Nat → Int64) (i v : Nat) (t : Int64) : Int64 := pk3 (t ^^^ vwd v i) (twd f i v) (f i)
/-- the truth of a statement -/
noncomputable def pB (P : Prop) : Bool := @decide P (Classical.propDecidable P)
theorem pB_t {P : Prop} (h : P) : pB P = true := by unfold pB; exact @decide_eq_true P (Classical.propDecidable P) h
theorem pB_f {P : Prop} (h : ¬ P) : pB P = false := by unfold pB; exact @decide_eq_false P (Classical.propDecidable P) h
theorem pB_iff {P : Prop} : pB P = true ↔ P := ⟨fun h => Classical.byContradiction (fun q => Bool.false_ne_true ((pB_f q).symm.trans h)), pB_t⟩
theorem pB_eq {P Q : Prop} (h : P ↔ Q) : pB P = pB Q := by
  by_cases q : P
  · rw [pB_t q, pB_t (h.mp q)]
  · rw [pB_f q, pB_f (fun z => q (h.mpr z))]
noncomputable def isF (f : Nat → Int64) : Bool := pB (∀ i, i < 16 → f i = 0)
noncomputable def chg (f : Nat → Int64) (v : Nat) : Bool := pB (∃ i, i < 16 ∧ f i ≠ twd f i v)
theorem div_lt31 {h k : Nat} (hh : h < 2 ^ 31) : h / 2 ^ k < 2 ^ 31 := Nat.lt_of_le_of_lt (Nat.div_le_self _ _) hh
theorem xor16 {i j : Nat} (hi : i < 16) (hj : j < 16) : i ^^^ j < 16 := Nat.xor_lt_two_pow (n := 4) hi hj
theorem sh16 {v : Nat} : 1 * 2 ^ (3 - v) < 16 := by
  have : 2 ^ (3 - v) ≤ 2 ^ 3 := Nat.pow_le_pow_right (by decide) (by omega)
  omega
theorem bitN_le (v : Nat) : bitN v ≤ 512 := by
  have : 2 ^ (9 - v) ≤ 2 ^ 9 := Nat.pow_le_pow_right (by decide) (by omega)
  unfold bitN
  omega
/-- rows that a loop has filled up to i -/
def bld (R : Nat → Nat → Int64) (k : Nat) (f : Nat → Int64) (i : Nat) : Nat → Nat → Int64 := fun a j => if a = k ∧ j < i then f j else R a j
theorem bld_0 (R : Nat → Nat → Int64) (k : Nat) (f : Nat → Int64) : bld R k f 0 = R := by
  funext a j
  simp [bld]
theorem bld_s (R : Nat → Nat → Int64) (k : Nat) (f : Nat → Int64) (i : Nat) : va_up (bld R k f i) k (vp_updL (bld R k f i k) i (f i)) = bld R k f (i + 1) := by
  funext a j
  by_cases ha : a = k
  · subst ha
    rw [va_up_self]
    by_cases hj : j = i
    · subst hj
      simp [vp_updL, bld]
    · by_cases h2 : j < i
      · simp [vp_updL, bld, hj, h2, Nat.lt_succ_of_lt h2]
      · simp [vp_updL, bld, hj, h2, show ¬ j < i + 1 by omega]
  · rw [va_up_ne _ _ ha]
    simp [bld, ha]
theorem bld_ne {R : Nat → Nat → Int64} {k : Nat} {f : Nat → Int64} {i a : Nat} (h : a ≠ k) : bld R k f i a = R a := by
  funext j
  simp [bld, h]
theorem bld_here (R : Nat → Nat → Int64) (k : Nat) (f : Nat → Int64) (i a : Nat) : bld R k f i a i = R a i := by simp [bld]
theorem bld_k {R : Nat → Nat → Int64} {k : Nat} {f : Nat → Int64} {i j : Nat} (h : j < i) : bld R k f i k j = f j := by simp [bld, h]
