/-! what the writing methods leave; the checks' words -/
def okI (n : Nat) (x : Int32) : Prop := ∃ a : Nat, a < n ∧ x = nI a
theorem okI_of {n : Nat} {x : Int32} (hn : n < 2 ^ 31) (h0 : ¬ x < 0) (h : ¬ nI n ≤ x) : okI n x := by
  rcases pk_ix x hn with q | q | q
  · exact absurd q h0
  · exact absurd q h
  · exact q
theorem okI_lt {n : Nat} {x : Int32} (hn : n < 2 ^ 31) (h0 : ¬ x < 0) (h : x < nI n) : okI n x := okI_of hn h0 (Int32.not_le.mpr h)
theorem okI_neg {n : Nat} {x : Int32} (hn : n < 2 ^ 31) (h0 : x < 0) : ¬ okI n x := fun ⟨a, ha, e⟩ => nI_pos (Nat.lt_trans ha hn) (e ▸ h0)
theorem okI_big {n : Nat} {x : Int32} (hn : n < 2 ^ 31) (h : ¬ x < nI n) : ¬ okI n x := fun ⟨a, ha, e⟩ => h (by rw [e]; exact nI_lt ha hn)
theorem okI_le {n : Nat} {x : Int32} (hn : n + 1 < 2 ^ 31) (h0 : ¬ x < 0) (h : x ≤ nI n) : okI (n + 1) x := by
  rcases pk_ix x hn with q | q | q
  · exact absurd q h0
  · exact absurd (Int32.le_trans q h) (nI_ge (Nat.lt_succ_self n) hn)
  · exact q
theorem okI_nle {n : Nat} {x : Int32} (hn : n + 1 < 2 ^ 31) (h : ¬ x ≤ nI n) : ¬ okI (n + 1) x := fun ⟨a, ha, e⟩ => h (by rw [e]; exact nI_le (Nat.le_of_lt_succ ha) (by omega))
/-- slot s has the words F, the other slots are as they were -/
def Upd (R R' : Nat → Nat → Int64) (s : Nat) (F : Nat → Int64) : Prop := (∀ i, i < 16 → R' s i = F i) ∧ ∀ k, k < 48 → k ≠ s → ∀ i, i < 16 → R' k i = R k i
theorem upd_bld (R : Nat → Nat → Int64) (s : Nat) (F : Nat → Int64) : Upd R (bld R s F 16) s F := ⟨fun _ h => bld_k h, fun _ _ h _ _ => by rw [bld_ne h]⟩
/-- row k laid over row j -/
def cpy (R : Nat → Nat → Int64) (k j : Nat) : Nat → Nat → Int64 := va_up R j (va_cpy (R k) (R j) 0 0 16)
theorem cpy_in {R : Nat → Nat → Int64} {k j i : Nat} (h : i < 16) : cpy R k j j i = R k i := by
  unfold cpy
  rw [va_up_self, pk_cpy_in (Nat.zero_le i) (by omega)]
  simp
theorem cpy_ne {R : Nat → Nat → Int64} {k j a : Nat} (h : a ≠ j) : cpy R k j a = R a := va_up_ne _ _ h
theorem upd_cpy {R X : Nat → Nat → Int64} {s z : Nat} {F : Nat → Int64} (h1 : ∀ i, i < 16 → X z i = F i) (h2 : ∀ k, k < 48 → ∀ i, i < 16 → X k i = R k i) : Upd R (cpy X z s) s F :=
  ⟨fun i h => by rw [cpy_in h]; exact h1 i h, fun k hk hne i h => by rw [cpy_ne hne]; exact h2 k hk i h⟩
theorem bld_step {g : Geo} {R : Nat → Nat → Int64} {B : Rul} {M : Mod} {O : Nat → Int64} {s : State} {H : Heap} {locs : List Loc} {k i : Nat} {f : Nat → Int64} {V : Int64} (h : V = f i) (I : Iv g (va_up (bld R k f i) k (vp_updL (bld R k f i k) i V), B, M, O) s H locs) : Iv g (bld R k f (i + 1), B, M, O) s H locs := by
  rw [h, bld_s] at I
  exact I
theorem bld_start {g : Geo} {R : Nat → Nat → Int64} {B : Rul} {M : Mod} {O : Nat → Int64} {s : State} {H : Heap} {locs : List Loc} {k : Nat} {f : Nat → Int64} (I : Iv g (R, B, M, O) s H locs) : Iv g (bld R k f 0, B, M, O) s H locs := by
  rw [bld_0]
  exact I
/-- two rows filled together -/
theorem bld2_a {R : Nat → Nat → Int64} {k k' : Nat} (hk : k ≠ k') (f f' : Nat → Int64) (i : Nat) : va_up (bld (bld R k f i) k' f' i) k (vp_updL (bld (bld R k f i) k' f' i k) i (f i)) = bld (bld R k f (i + 1)) k' f' i := by
  rw [bld_ne (a := k) (k := k') hk, ← bld_s R k f i]
  funext a j
  by_cases ha : a = k
  · subst ha
    rw [va_up_self, bld_ne hk, va_up_self]
  · rw [va_up_ne _ _ ha]
    simp [bld, va_up, ha]
/-- the step of 'some', of 'nearest' -/
def qfn (f : Nat → Int64) (v : Nat) (ev : Bool) (j : Nat) : Int64 := if ev then f j &&& twd f j v else f j ||| twd f j v
def wfn (m f : Nat → Int64) (v : Nat) (j : Nat) : Int64 := pk3 (f j) (m j) (twd m j v)
def ffn (f : Nat → Int64) (v : Nat) (j : Nat) : Int64 := f j ||| twd f j v
def jnw (p q : Int64) (h : Nat) : Int64 := ((spr h 0 &&& (p ^^^ (-1)) &&& (q ^^^ (-1))) ||| (spr h 1 &&& (p ^^^ (-1)) &&& q)) ||| (spr h 2 &&& p &&& (q ^^^ (-1))) ||| (spr h 3 &&& p &&& q)
theorem twd_congr {f f' : Nat → Int64} (h : ∀ j, j < 16 → f j = f' j) {i v : Nat} (hi : i < 16) : twd f i v = twd f' i v := by
  unfold twd
  rw [h i hi, h _ (xor16 hi sh16)]
theorem qfn_congr {f f' : Nat → Int64} (h : ∀ j, j < 16 → f j = f' j) {i v : Nat} {ev : Bool} (hi : i < 16) : qfn f v ev i = qfn f' v ev i := by
  unfold qfn
  rw [h i hi, twd_congr h hi]
theorem ffn_congr {f f' : Nat → Int64} (h : ∀ j, j < 16 → f j = f' j) {i v : Nat} (hi : i < 16) : ffn f v i = ffn f' v i := by
  unfold ffn
  rw [h i hi, twd_congr h hi]
theorem wfn_congr {m m' f f' : Nat → Int64} (h : ∀ j, j < 16 → f j = f' j) (h2 : ∀ j, j < 16 → m j = m' j) {i v : Nat} (hi : i < 16) : wfn m f v i = wfn m' f' v i := by
  unfold wfn
  rw [h i hi, h2 i hi, twd_congr h2 hi]
/-- the words of 'some' after the first v variables -/
def qrow (f : Nat → Int64) (h : Nat) (ev : Bool) : Nat → Nat → Int64
  | 0 => f
  | v + 1 => if h &&& bitN v = 0 then qrow f h ev v else qfn (qrow f h ev v) v ev
/-- the words of 'nearest' after t variables from the last: found, made -/
def nF (f : Nat → Int64) : Nat → Nat → Int64
  | 0 => f
  | t + 1 => ffn (nF f t) (9 - t)
def nM (m f : Nat → Int64) : Nat → Nat → Int64
  | 0 => m
  | t + 1 => wfn (nM m f t) (nF f t) (9 - t)
def isFx (R : Nat → Nat → Int64) (x : Int32) : Prop := ∃ c : Nat, c < 48 ∧ x = nI c ∧ isF (R c) = true
theorem nI_inj48 {a b : Nat} (ha : a < 48) (hb : b < 48) (h : nI a = nI b) : a = b := (nI_eq (by omega) (by omega)).mp h
/-- the set of the variables below v on which a row depends -/
noncomputable def dps (f : Nat → Int64) : Nat → Nat
  | 0 => 0
  | v + 1 => if chg f v then dps f v ||| bitN v else dps f v
