/-! the reference: words for its state -/
noncomputable def okB (N : Nat) (x : Int32) : Bool := pB (okI N x)
theorem okB_iff {N : Nat} {x : Int32} : okB N x = true ↔ okI N x := pB_iff
theorem okB_f {N : Nat} {x : Int32} (h : okB N x = false) : ¬ okI N x := fun q => by rw [okB, pB_t q] at h; cases h
def fcd (a b : Bool) : Int32 := if a then (if b then 0 else 2) else 1
abbrev bF (T : Nat → Bool) : Nat → Int32 := fun j => bI (T j)
/-- a table filled up to i -/
def fil (P f : Nat → Bool) (i : Nat) : Nat → Bool := fun j => if j < i then f j else P j
theorem fil_0 (P f : Nat → Bool) : fil P f 0 = P := by
  funext j
  simp [fil]
theorem fil_s {P f : Nat → Bool} {i : Nat} {x : Int32} (h : x = bI (f i)) : upd (bF (fil P f i)) i x = bF (fil P f (i + 1)) := by
  funext j
  by_cases hj : j = i
  · subst hj
    simp [upd, bF, fil, h]
  · by_cases h2 : j < i
    · simp [upd, bF, fil, hj, h2, Nat.lt_succ_of_lt h2]
    · simp [upd, bF, fil, hj, h2, show ¬ j < i + 1 by omega]
/-- slot s of the table with the first i points of fresh -/
def kpT (T P : Nat → Bool) (s i : Nat) : Nat → Bool := fun j => if 1024 * s ≤ j ∧ j < 1024 * s + i then P (j - 1024 * s) else T j
theorem kpT_0 (T P : Nat → Bool) (s : Nat) : kpT T P s 0 = T := by
  funext j
  simp only [kpT]
  rw [if_neg (by omega)]
theorem kpT_s {T P : Nat → Bool} {s i : Nat} : upd (bF (kpT T P s i)) (1024 * s + i) (bI (P i)) = bF (kpT T P s (i + 1)) := by
  funext j
  by_cases hj : j = 1024 * s + i
  · subst hj
    simp only [upd, bF, kpT, if_pos]
    rw [if_pos (by omega), show 1024 * s + i - 1024 * s = i by omega]
  · simp only [upd, bF, kpT, if_neg hj]
    by_cases h2 : 1024 * s ≤ j ∧ j < 1024 * s + i
    · rw [if_pos h2, if_pos (by omega)]
    · rw [if_neg h2, if_neg (by omega)]
/-- slot s has the truths f, the other slots are as they were -/
def MW (T T' : Nat → Bool) (s : Nat) (f : Nat → Bool) : Prop := ∀ a p, a < 48 → p < 1024 → T' (1024 * a + p) = if a = s then f p else T (1024 * a + p)
theorem MW_kp {T P f : Nat → Bool} {s : Nat} (h : ∀ p, p < 1024 → P p = f p) : MW T (kpT T P s 1024) s f := by
  intro a p ha hp
  simp only [kpT]
  by_cases q : a = s
  · subst q
    rw [if_pos (by omega), if_pos rfl, show 1024 * a + p - 1024 * a = p by omega]
    exact h p hp
  · rw [if_neg (by omega), if_neg q]
theorem MW_fil {T P f : Nat → Bool} {s : Nat} : MW T (kpT T (fil P f 1024) s 1024) s f := MW_kp (fun p hp => by simp [fil, hp])
def wth (p v : Nat) (t : Bool) : Nat := if t then p ||| bitN v else p &&& (bitN v ^^^ 4294967295)
theorem bitN_lt {v : Nat} : bitN v < 2 ^ 10 := by have := bitN_le v; omega
theorem wth_lt {p v : Nat} {t : Bool} (hp : p < 1024) : wth p v t < 1024 := by
  unfold wth
  cases t
  · simp only [Bool.false_eq_true, if_false]
    exact Nat.lt_of_le_of_lt Nat.and_le_left hp
  · simp only [if_true]
    exact Nat.or_lt_two_pow (n := 10) hp bitN_lt
theorem fail_c {a b : Bool} {SL NU : Prop} (h1 : a = true ↔ SL) (h2 : b = true ↔ NU) (h : (!(a && b)) = true) : (¬ SL ∧ fcd a b = 1) ∨ (SL ∧ ¬ NU ∧ fcd a b = 2) := by
  cases a
  · exact Or.inl ⟨fun q => Bool.false_ne_true (h1.mpr q), rfl⟩
  · cases b
    · exact Or.inr ⟨h1.mp rfl, fun q => Bool.false_ne_true (h2.mpr q), rfl⟩
    · cases h
theorem good_c {a b : Bool} {SL NU : Prop} (h1 : a = true ↔ SL) (h2 : b = true ↔ NU) (h : (!(a && b)) = false) : SL ∧ NU ∧ fcd a b = 0 := by
  cases a
  · cases h
  · cases b
    · cases h
    · exact ⟨h1.mp rfl, h2.mp rfl, rfl⟩
section NR3
variable {p : Program} {l : Launch} {e : Env} {R : Room} {s : State} {m : MethodId} {args : Array Value} {below : List Frame} {meth : Method} {c : Code} {H : Heap} {locs : List Loc} {cells slots : Nat} {Q : State → Prop}
variable {cc : ByteArray} {pc : Nat} {ls : Array Slot} {rest : List Value} {a b k : Nat}
theorem n_ifle {off : Int} {tgt : Nat} (hx : p.tables.exec = Jvm.exec) (hb : c.code = cc) (ha : a < 2 ^ 31) (hdg : decode cc pc = .ok (.ifCond .le off, 3)) (ht : (pc : Int) + off = (tgt : Int)) (kt : a = 0 → W p l e R s m args below meth c H locs cells slots Q (F0 m tgt ls rest)) (kf : 0 < a → W p l e R s m args below meth c H locs cells slots Q (F0 m (pc + 3) ls rest)) : W p l e R s m args below meth c H locs cells slots Q (F0 m pc ls (.int (nI a) :: rest)) :=
  lv_if_le hx hb hdg ht (fun h => kt (by rcases Nat.eq_zero_or_pos a with q | q; exact q; exact absurd h (nI_nle q ha))) (fun h => kf (Nat.pos_of_ne_zero (fun q => h (by rw [q]; decide))))
end NR3
