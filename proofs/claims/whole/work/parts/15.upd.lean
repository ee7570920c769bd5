/-! what the writing methods leave; the checks' words -/
def okI (n : Nat) (x : Int32) : Prop := ∃ a : Nat, a < n ∧ x = nI a
theorem okI_of {n : Nat} {x : Int32} (hn : n < 2 ^ 31) (h0 : ¬ x < 0) (h : ¬ nI n ≤ x) : okI n x := by
  rcases pk_ix x hn with q | q | q
  · exact absurd q h0
  · exact absurd q h
  · exact q
theorem okI_lt {n : Nat} {x : Int32} (hn : n < 2 ^ 31) (h0 : ¬ x < 0) (h : x < nI n) : okI n x := okI_of hn h0 (Int32.not_le.mpr h)
theorem okI_neg {n : Nat} {x : Int32} (hn : n < 2 ^ 31) (h0 : x < 0) : ¬ okI n x := fun ⟨a, ha, e⟩ => nI_pos (Nat.lt_trans ha hn) (e ▸ h0)
theorem okI_big {n : Nat} {x : Int32} (hn : n < 2 ^ 31) (h : ¬ x < nI n) : ¬ okI n x := fun ⟨a, ha, e⟩ => h (by rw [e]; exact nI_lt ha hn)
theorem okI_le {n : Nat} {x : Int32} (hn : n + 1 < 2 ^ 31) (h0 : ¬ x < 0) (h : x ≤ nI n) : okI (n + 1) x := by
  rcases pk_ix x hn with q | q | q
  · exact absurd q h0
  · exact absurd (Int32.le_trans q h) (nI_ge (Nat.lt_succ_self n) hn)
  · exact q
theorem okI_nle {n : Nat} {x : Int32} (hn : n + 1 < 2 ^ 31) (h : ¬ x ≤ nI n) : ¬ okI (n + 1) x := fun ⟨a, ha, e⟩ => h (by rw [e]; exact nI_le (Nat.le_of_lt_succ ha) (by omega))
/-- slot s has the words F, the other slots are as they were -/
def Upd (R R' : Nat → Nat → Int64) (s : Nat) (F : Nat → Int64) : Prop := (∀ i, i < 16 → R' s i = F i) ∧ ∀ k, k < 48 → k ≠ s → ∀ i, i < 16 → R' k i = R k i
theorem upd_bld (R : Nat → Nat → Int64) (s : Nat) (F : Nat → Int64) : Upd R (bld R s F 16) s F := ⟨fun _ h => bld_k h, fun _ _ h _ _ => by rw [bld_ne h]⟩
/-- row k laid over row j -/
def cpy (R : Nat → Nat → Int64) (k j : Nat) : Nat → Nat → Int64 := va_up R j (va_cpy (R k) (R j) 0 0 16)
theorem cpy_in {R : Nat → Nat → Int64} {k j i : Nat} (h : i < 16) : cpy R k j j i = R k i := by
  unfold cpy
  rw [va_up_self, pk_cpy_in (Nat.zero_le i) (by omega)]
  simp
theorem cpy_ne {R : Nat → Nat → Int64} {k j a : Nat} (h : a ≠ j) : cpy R k j a = R a := va_up_ne _ _ h
theorem upd_cpy {R X : Nat → Nat → Int64} {s : Nat} {F : Nat → Int64} (hs : s < 48) (h1 : ∀ i, i < 16 → X 48 i = F i) (h2 : ∀ k, k < 48 → ∀ i, i < 16 → X k i = R k i) : Upd R (cpy X 48 s) s F :=
  ⟨fun i h => by rw [cpy_in h]; exact h1 i h, fun k hk hne i h => by rw [cpy_ne hne]; exact h2 k hk i h⟩
theorem bld_step {g : Geo} {R : Nat → Nat → Int64} {B : Rul} {M : Mod} {O : Nat → Int64} {s : State} {H : Heap} {locs : List Loc} {k i : Nat} {f : Nat → Int64} {V : Int64} (h : V = f i) (I : Iv g (va_up (bld R k f i) k (vp_updL (bld R k f i k) i V), B, M, O) s H locs) : Iv g (bld R k f (i + 1), B, M, O) s H locs := by
  rw [h, bld_s] at I
  exact I
theorem bld_start {g : Geo} {R : Nat → Nat → Int64} {B : Rul} {M : Mod} {O : Nat → Int64} {s : State} {H : Heap} {locs : List Loc} {k : Nat} {f : Nat → Int64} (I : Iv g (R, B, M, O) s H locs) : Iv g (bld R k f 0, B, M, O) s H locs := by
  rw [bld_0]
  exact I
/-- two rows filled together -/
theorem bld2_a {R : Nat → Nat → Int64} {k k' : Nat} (hk : k ≠ k') (f f' : Nat → Int64) (i : Nat) : va_up (bld (bld R k f i) k' f' i) k (vp_updL (bld (bld R k f i) k' f' i k) i (f i)) = bld (bld R k f (i + 1)) k' f' i := by
  rw [bld_ne (a := k) (k := k') hk, ← bld_s R k f i]
  funext a j
  by_cases ha : a = k
  · subst ha
    rw [va_up_self, bld_ne hk, va_up_self]
  · rw [va_up_ne _ _ ha]
    simp [bld, va_up, ha]
/-- the step of 'some', of 'nearest' -/
def qfn (f : Nat → Int64) (v : Nat) (ev : Bool) (j : Nat) : Int64 := if ev then f j &&& twd f j v else f j ||| twd f j v
def wfn (m f : Nat → Int64) (v : Nat) (j : Nat) : Int64 := pk3 (f j) (m j) (twd m j v)
def ffn (f : Nat → Int64) (v : Nat) (j : Nat) : Int64 := f j ||| twd f j v
def jnw (p q : Int64) (h : Nat) : Int64 := ((spr h 0 &&& (p ^^^ (-1)) &&& (q ^^^ (-1))) ||| (spr h 1 &&& (p ^^^ (-1)) &&& q)) ||| (spr h 2 &&& p &&& (q ^^^ (-1))) ||| (spr h 3 &&& p &&& q)
