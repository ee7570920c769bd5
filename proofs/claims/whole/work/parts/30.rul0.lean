/-! the ruler: parts of the tables, by words -/
def wrd (lv : Nat) : Nat := if lv < 4 then 16 / 2 ^ lv else 1
def pwd (R : Nat → Nat → Int64) (lv x k : Nat) : Int64 := if 1024 / 2 ^ lv < 64 then ush (R (x * (1024 / 2 ^ lv) / 1024) (x * (1024 / 2 ^ lv) % 1024 / 64 + k)) (x * (1024 / 2 ^ lv) % 1024 % 64) &&& (lsh 1 (1024 / 2 ^ lv) - 1) else R (x * (1024 / 2 ^ lv) / 1024) (x * (1024 / 2 ^ lv) % 1024 / 64 + k)
theorem lv11 {P : Nat → Prop} (h0 : P 0) (h1 : P 1) (h2 : P 2) (h3 : P 3) (h4 : P 4) (h5 : P 5) (h6 : P 6) (h7 : P 7) (h8 : P 8) (h9 : P 9) (h10 : P 10) : ∀ lv, lv ≤ 10 → P lv := by
  intro lv h
  match lv, h with
  | 0, _ => exact h0
  | 1, _ => exact h1
  | 2, _ => exact h2
  | 3, _ => exact h3
  | 4, _ => exact h4
  | 5, _ => exact h5
  | 6, _ => exact h6
  | 7, _ => exact h7
  | 8, _ => exact h8
  | 9, _ => exact h9
  | 10, _ => exact h10
  | n + 11, h => omega
theorem pw_ix {x k : Nat} : ∀ lv, lv ≤ 10 → k < wrd lv → x * (1024 / 2 ^ lv) % 1024 / 64 + k < 16 := by
  refine lv11 ?_ ?_ ?_ ?_ ?_ ?_ ?_ ?_ ?_ ?_ ?_ <;> intro hk <;> simp [wrd] at hk <;> simp <;> omega
theorem wrd_le (lv : Nat) : wrd lv ≤ 16 := by
  unfold wrd
  split
  · exact Nat.div_le_self _ _
  · omega
/-- two parts have the same truths -/
def Ew (R : Nat → Nat → Int64) (lv x y : Nat) : Prop := ∀ k, k < wrd lv → pwd R lv x k = pwd R lv y k
theorem Ew.refl {R : Nat → Nat → Int64} {lv x : Nat} : Ew R lv x x := fun _ _ => rfl
theorem Ew.symm {R : Nat → Nat → Int64} {lv x y : Nat} (h : Ew R lv x y) : Ew R lv y x := fun k hk => (h k hk).symm
theorem Ew.trans {R : Nat → Nat → Int64} {lv x y z : Nat} (h : Ew R lv x y) (h2 : Ew R lv y z) : Ew R lv x z := fun k hk => (h k hk).trans (h2 k hk)
/-- the mixing of a part's words -/
def mixw (R : Nat → Nat → Int64) (lv x : Nat) : Nat → Int64
  | 0 => 0
  | k + 1 => (((mixw R lv x k ^^^ pwd R lv x k) * (-7046029254386353131)) ^^^ ush ((mixw R lv x k ^^^ pwd R lv x k) * (-7046029254386353131)) 32) * (-7046029254386353131)
def hsN (R : Nat → Nat → Int64) (lv x : Nat) : Nat := (ush (mixw R lv x (wrd lv)) 40).toInt32.toBitVec.toNat
theorem hsN_eq {R : Nat → Nat → Int64} {lv x y : Nat} (h : Ew R lv x y) : hsN R lv x = hsN R lv y := by
  have : ∀ k, k ≤ wrd lv → mixw R lv x k = mixw R lv y k := by
    intro k
    induction k with
    | zero => intro _; rfl
    | succ k ih => intro hk; rw [mixw, mixw, ih (by omega), h k (by omega)]
  unfold hsN
  rw [this _ (Nat.le_refl _)]
theorem mask_us (x : Int32) {e us : Nat} (he : e ≤ 12) (hu : us = 2 ^ e) : x &&& (nI us - nI 1) = nI (x.toBitVec.toNat % us) := by
  subst hu
  have h1 : 0 < 2 ^ e := Nat.two_pow_pos e
  have h2 : 2 ^ e ≤ 2 ^ 12 := Nat.pow_le_pow_right (by decide) he
  rw [pk_sub (by omega), pk_and x e (pk_tn (by omega))]
theorem pw2_le {e : Nat} (he : e ≤ 12) : 0 < 2 ^ e ∧ 2 ^ e ≤ 4096 := ⟨Nat.two_pow_pos e, show 2 ^ e ≤ 2 ^ 12 from Nat.pow_le_pow_right (by decide) he⟩
