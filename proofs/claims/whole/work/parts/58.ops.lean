/-! the operations, as truths of points -/
/-- d has bits only where h has them, and only from 10 - v on -/
def Sb (d h v : Nat) : Prop := ∀ i, d.testBit i = true → h.testBit i = true ∧ 10 ≤ i + v
theorem and_bit0 {h v : Nat} (hv : v < 10) (hh : h < 1024) : h &&& bitN v = 0 ↔ h.testBit (9 - v) = false := by
  rw [← bit_ne0 v hv h hh]
  simp
theorem tb_bitN {v i : Nat} : (bitN v).testBit i = decide (9 - v = i) := by rw [bitN_pow, Nat.testBit_two_pow]
theorem pt_qfn {f : Nat → Int64} {v p : Nat} {ev : Bool} (hv : v < 10) (hp : p < 1024) : pt (qfn f v ev) p = (!ev) ↔ pt f p = (!ev) ∨ pt f (p ^^^ bitN v) = (!ev) := by
  have h1 : pt (fun j => f j &&& twd f j v) p = (pt f p && pt f (p ^^^ bitN v)) := by
    rw [← pt_tw hv hp]
    unfold pt
    exact tb_and _ _ _
  have h2 : pt (fun j => f j ||| twd f j v) p = (pt f p || pt f (p ^^^ bitN v)) := by
    rw [← pt_tw hv hp]
    unfold pt
    exact tb_or _ _ _
  cases ev
  · have e : pt (qfn f v false) p = (pt f p || pt f (p ^^^ bitN v)) := h2
    rw [e]
    cases pt f p <;> cases pt f (p ^^^ bitN v) <;> simp
  · have e : pt (qfn f v true) p = (pt f p && pt f (p ^^^ bitN v)) := h1
    rw [e]
    cases pt f p <;> cases pt f (p ^^^ bitN v) <;> simp
theorem pt_qrow {f : Nat → Int64} {h : Nat} {ev : Bool} (hh : h < 1024) : ∀ v, v ≤ 10 → ∀ p, p < 1024 → (pt (qrow f h ev v) p = (!ev) ↔ ∃ d, d < 1024 ∧ Sb d h v ∧ pt f (p ^^^ d) = (!ev)) := by
  intro v
  induction v with
  | zero =>
    intro _ p hp
    constructor
    · intro h1
      exact ⟨0, by decide, fun i hi => absurd hi (by rw [Nat.zero_testBit]; exact Bool.false_ne_true), by rw [Nat.xor_zero]; exact h1⟩
    · rintro ⟨d, hd, hs, h1⟩
      have : d = 0 := by
        apply Nat.eq_of_testBit_eq
        intro i
        rw [Nat.zero_testBit]
        cases z : d.testBit i
        · rfl
        · have := (hs i z).2
          have h2 := Nat.testBit_lt_two_pow (x := d) (i := i) (Nat.lt_of_lt_of_le hd (show 2 ^ 10 ≤ 2 ^ i from Nat.pow_le_pow_right (by decide) (by omega)))
          rw [h2] at z
          cases z
      rw [this, Nat.xor_zero] at h1
      exact h1
  | succ v ih =>
    intro hv p hp
    by_cases hz : h &&& bitN v = 0
    · have e : qrow f h ev (v + 1) = qrow f h ev v := by rw [qrow, if_pos hz]
      rw [e, ih (by omega) p hp]
      have hf := (and_bit0 (by omega) hh).mp hz
      constructor
      · rintro ⟨d, hd, hs, h1⟩
        exact ⟨d, hd, fun i hi => ⟨(hs i hi).1, by have := (hs i hi).2; omega⟩, h1⟩
      · rintro ⟨d, hd, hs, h1⟩
        refine ⟨d, hd, fun i hi => ⟨(hs i hi).1, ?_⟩, h1⟩
        have a := hs i hi
        have : i ≠ 9 - v := fun q => by rw [q, hf] at a; cases a.1
        omega
    · have e : qrow f h ev (v + 1) = qfn (qrow f h ev v) v ev := by rw [qrow, if_neg hz]
      have ht : h.testBit (9 - v) = true := by
        cases q : h.testBit (9 - v)
        · exact absurd ((and_bit0 (by omega) hh).mpr q) hz
        · rfl
      rw [e, pt_qfn (by omega) hp, ih (by omega) p hp, ih (by omega) _ (xor1024 hp bitN_1024)]
      constructor
      · rintro (⟨d, hd, hs, h1⟩ | ⟨d, hd, hs, h1⟩)
        · exact ⟨d, hd, fun i hi => ⟨(hs i hi).1, by have := (hs i hi).2; omega⟩, h1⟩
        · refine ⟨bitN v ^^^ d, xor1024 bitN_1024 hd, fun i hi => ?_, by rw [← Nat.xor_assoc]; exact h1⟩
          rw [Nat.testBit_xor, tb_bitN] at hi
          by_cases q : 9 - v = i
          · exact ⟨by rw [← q]; exact ht, by omega⟩
          · rw [decide_eq_false q, Bool.false_xor] at hi
            exact ⟨(hs i hi).1, by have := (hs i hi).2; omega⟩
      · rintro ⟨d, hd, hs, h1⟩
        by_cases q : d.testBit (9 - v) = true
        · refine Or.inr ⟨bitN v ^^^ d, xor1024 bitN_1024 hd, fun i hi => ?_, by rw [Nat.xor_assoc, ← Nat.xor_assoc (bitN v), Nat.xor_self, Nat.zero_xor]; exact h1⟩
          rw [Nat.testBit_xor, tb_bitN] at hi
          by_cases r : 9 - v = i
          · rw [← r, q] at hi
            simp at hi
          · rw [decide_eq_false r, Bool.false_xor] at hi
            exact ⟨(hs i hi).1, by have := (hs i hi).2; omega⟩
        · refine Or.inl ⟨d, hd, fun i hi => ⟨(hs i hi).1, ?_⟩, h1⟩
          have a := hs i hi
          have : i ≠ 9 - v := fun r => by rw [r] at hi; exact q hi
          omega
theorem sAcc_iff {T : Nat → Bool} {a h k : Nat} {ev : Bool} : ∀ m, (sAcc T a h ev k m = (!ev) ↔ ∃ j, j < m ∧ j &&& (h ^^^ 4294967295) = k &&& (h ^^^ 4294967295) ∧ T (1024 * a + j) = (!ev)) := by
  intro m
  induction m with
  | zero =>
    constructor
    · intro h1
      rw [sAcc] at h1
      cases ev <;> cases h1
    · rintro ⟨j, hj, -⟩
      omega
  | succ m ih =>
    rw [sAcc]
    have key : (∃ j, j < m + 1 ∧ j &&& (h ^^^ 4294967295) = k &&& (h ^^^ 4294967295) ∧ T (1024 * a + j) = (!ev)) ↔ sAcc T a h ev k m = (!ev) ∨ (m &&& (h ^^^ 4294967295) = k &&& (h ^^^ 4294967295) ∧ T (1024 * a + m) = (!ev)) := by
      rw [ih]
      constructor
      · rintro ⟨j, hj, h1, h2⟩
        rcases Nat.lt_or_ge j m with z | z
        · exact Or.inl ⟨j, z, h1, h2⟩
        · rw [show j = m by omega] at h1 h2
          exact Or.inr ⟨h1, h2⟩
      · rintro (⟨j, hj, h1, h2⟩ | ⟨h1, h2⟩)
        · exact ⟨j, by omega, h1, h2⟩
        · exact ⟨m, by omega, h1, h2⟩
    rw [key]
    by_cases hc : m &&& (h ^^^ 4294967295) = k &&& (h ^^^ 4294967295)
    · rw [if_pos hc]
      simp only [hc, true_and]
      cases ev <;> cases sAcc T a h _ k m <;> cases T (1024 * a + m) <;> simp
    · rw [if_neg hc]
      simp only [hc, false_and, or_false]
theorem msk_bit {h i : Nat} (hi : i < 10) : (h ^^^ 4294967295).testBit i = !h.testBit i := by
  have : ∀ i, i < 10 → (4294967295 : Nat).testBit i = true := by decide +kernel
  rw [Nat.testBit_xor, this i hi, Bool.xor_true]
theorem sb_iff {h j k : Nat} (hj : j < 1024) (hk : k < 1024) : j &&& (h ^^^ 4294967295) = k &&& (h ^^^ 4294967295) ↔ Sb (k ^^^ j) h 10 := by
  have hbig : ∀ x, x < 1024 → ∀ i, ¬ i < 10 → x.testBit i = false := fun x hx i hi => Nat.testBit_lt_two_pow (Nat.lt_of_lt_of_le hx (show 2 ^ 10 ≤ 2 ^ i from Nat.pow_le_pow_right (by decide) (by omega)))
  constructor
  · intro e i hi
    refine ⟨?_, by omega⟩
    by_cases h10 : i < 10
    · have e2 := congrArg (fun x => Nat.testBit x i) e
      simp only [Nat.testBit_and, msk_bit h10] at e2
      rw [Nat.testBit_xor] at hi
      cases q : h.testBit i
      · rw [q] at e2
        simp at e2
        rw [e2] at hi
        simp at hi
      · rfl
    · rw [hbig _ (xor1024 hk hj) i h10] at hi
      cases hi
  · intro hs
    apply Nat.eq_of_testBit_eq
    intro i
    rw [Nat.testBit_and, Nat.testBit_and]
    by_cases h10 : i < 10
    · rw [msk_bit h10]
      cases q : h.testBit i
      · have : (k ^^^ j).testBit i = false := by
          cases z : (k ^^^ j).testBit i
          · rfl
          · have := (hs i z).1
            rw [q] at this
            cases this
        rw [Nat.testBit_xor] at this
        revert this
        cases k.testBit i <;> cases j.testBit i <;> simp
      · simp
    · rw [hbig j hj i h10, hbig k hk i h10]
theorem op_some {f : Nat → Int64} {T : Nat → Bool} {a h p : Nat} {ev : Bool} (hT : ∀ p, p < 1024 → T (1024 * a + p) = pt f p) (hh : h < 1024) (hp : p < 1024) : sAcc T a h ev p 1024 = pt (qrow f h ev 10) p := by
  have e : sAcc T a h ev p 1024 = (!ev) ↔ pt (qrow f h ev 10) p = (!ev) := by
    rw [sAcc_iff, pt_qrow hh 10 (by omega) p hp]
    constructor
    · rintro ⟨j, hj, h1, h2⟩
      exact ⟨p ^^^ j, xor1024 hp hj, (sb_iff hj hp).mp h1, by rw [← Nat.xor_assoc, Nat.xor_self, Nat.zero_xor, ← hT j hj]; exact h2⟩
    · rintro ⟨d, hd, h1, h2⟩
      refine ⟨p ^^^ d, xor1024 hp hd, (sb_iff (xor1024 hp hd) hp).mpr (by rw [← Nat.xor_assoc, Nat.xor_self, Nat.zero_xor]; exact h1), by rw [hT _ (xor1024 hp hd)]; exact h2⟩
  revert e
  cases sAcc T a h ev p 1024 <;> cases pt (qrow f h ev 10) p <;> cases ev <;> simp
/-! nearest -/
theorem pow10 {t : Nat} (ht : t ≤ 10) : 2 ^ t ≤ 1024 := show 2 ^ t ≤ 2 ^ 10 from Nat.pow_le_pow_right (by decide) ht
theorem pow_xor {t e : Nat} (he : e < 2 ^ t) : 2 ^ t ^^^ e = 2 ^ t + e := by
  apply Nat.eq_of_testBit_eq
  intro i
  rw [Nat.testBit_xor, Nat.testBit_two_pow]
  have h := Nat.testBit_two_pow_mul_add (a := 1) (b := e) (i := t) he i
  rw [Nat.mul_one] at h
  rw [h]
  by_cases z : i < t
  · rw [if_pos z, decide_eq_false (by omega), Bool.false_xor]
  · rw [if_neg z, Nat.testBit_lt_two_pow (Nat.lt_of_lt_of_le he (Nat.pow_le_pow_right (by decide) (by omega)))]
    by_cases y : t = i
    · subst y
      simp
    · rw [decide_eq_false y, Nat.testBit_lt_two_pow (x := 1) (i := i - t) (Nat.one_lt_two_pow (by omega))]
      rfl
theorem bitN_9 {t : Nat} (ht : t < 10) : bitN (9 - t) = 2 ^ t := by rw [bitN_pow, show 9 - (9 - t) = t by omega]
theorem pt_nF {f : Nat → Int64} : ∀ t, t ≤ 10 → ∀ p, p < 1024 → (pt (nF f t) p = true ↔ ∃ d, d < 2 ^ t ∧ pt f (p ^^^ d) = true) := by
  intro t
  induction t with
  | zero =>
    intro _ p hp
    constructor
    · intro h
      exact ⟨0, by decide, by rw [Nat.xor_zero]; exact h⟩
    · rintro ⟨d, hd, h⟩
      rw [show d = 0 by omega, Nat.xor_zero] at h
      exact h
  | succ t ih =>
    intro ht p hp
    have e : pt (nF f (t + 1)) p = (pt (nF f t) p || pt (nF f t) (p ^^^ 2 ^ t)) := by
      have h1 : pt (fun i => twd (nF f t) i (9 - t)) p = pt (nF f t) (p ^^^ 2 ^ t) := by rw [pt_tw (by omega) hp, bitN_9 (by omega)]
      rw [← h1]
      unfold pt
      exact tb_or _ _ _
    rw [e, Bool.or_eq_true, ih (by omega) p hp, ih (by omega) _ (xor1024 hp (Nat.lt_of_lt_of_le (Nat.pow_lt_pow_right (by decide) (Nat.lt_succ_self t)) (pow10 ht)))]
    have hps : 2 ^ (t + 1) = 2 ^ t + 2 ^ t := by rw [Nat.pow_succ]; omega
    constructor
    · rintro (⟨d, hd, h⟩ | ⟨d, hd, h⟩)
      · exact ⟨d, by omega, h⟩
      · exact ⟨2 ^ t + d, by omega, by rw [← pow_xor hd, ← Nat.xor_assoc]; exact h⟩
    · rintro ⟨d, hd, h⟩
      rcases Nat.lt_or_ge d (2 ^ t) with z | z
      · exact Or.inl ⟨d, z, h⟩
      · obtain ⟨e0, rfl⟩ : ∃ e0, d = 2 ^ t + e0 := ⟨d - 2 ^ t, by omega⟩
        exact Or.inr ⟨e0, by omega, by rw [Nat.xor_assoc, pow_xor (by omega)]; exact h⟩
theorem pt_nM {m f : Nat → Int64} : ∀ t, t ≤ 10 → ∀ p, p < 1024 → ∀ d, d < 2 ^ t → pt f (p ^^^ d) = true → (∀ d', d' < d → pt f (p ^^^ d') = false) → pt (nM m f t) p = pt m (p ^^^ d) := by
  intro t
  induction t with
  | zero =>
    intro _ p hp d hd _ _
    rw [show d = 0 by omega, Nat.xor_zero]
    rfl
  | succ t ih =>
    intro ht p hp d hd h1 h2
    have hlt : 2 ^ t < 1024 := Nat.lt_of_lt_of_le (Nat.pow_lt_pow_right (by decide) (Nat.lt_succ_self t)) (pow10 ht)
    have hps : 2 ^ (t + 1) = 2 ^ t + 2 ^ t := by rw [Nat.pow_succ]; omega
    have e : pt (nM m f (t + 1)) p = if pt (nF f t) p then pt (nM m f t) p else pt (nM m f t) (p ^^^ 2 ^ t) := by
      have h1 : pt (fun i => twd (nM m f t) i (9 - t)) p = pt (nM m f t) (p ^^^ 2 ^ t) := by rw [pt_tw (by omega) hp, bitN_9 (by omega)]
      rw [← h1]
      exact pt_pk3 (nF f t) (nM m f t) (fun i => twd (nM m f t) i (9 - t)) p
    rw [e]
    rcases Nat.lt_or_ge d (2 ^ t) with z | z
    · rw [if_pos ((pt_nF t (by omega) p hp).mpr ⟨d, z, h1⟩)]
      exact ih (by omega) p hp d z h1 h2
    · obtain ⟨e0, rfl⟩ : ∃ e0, d = 2 ^ t + e0 := ⟨d - 2 ^ t, by omega⟩
      rw [if_neg (fun q => by
        obtain ⟨d', hd', q2⟩ := (pt_nF t (by omega) p hp).mp q
        rw [h2 d' (by omega)] at q2
        cases q2)]
      have he : e0 < 2 ^ t := by omega
      rw [ih (by omega) (p ^^^ 2 ^ t) (xor1024 hp hlt) e0 he (by rw [Nat.xor_assoc, pow_xor he]; exact h1) (fun d' hd' => by rw [Nat.xor_assoc, pow_xor (by omega)]; exact h2 _ (by omega)), Nat.xor_assoc, pow_xor he]
theorem least {P : Nat → Bool} : ∀ n, (∃ d, d < n ∧ P d = true) → ∃ d, d < n ∧ P d = true ∧ ∀ d', d' < d → P d' = false := by
  intro n
  induction n with
  | zero => rintro ⟨d, hd, -⟩; omega
  | succ n ih =>
    rintro ⟨d, hd, h⟩
    by_cases q : ∃ d, d < n ∧ P d = true
    · obtain ⟨d0, a, b, c⟩ := ih q
      exact ⟨d0, by omega, b, c⟩
    · refine ⟨d, hd, h, fun d' hd' => ?_⟩
      cases z : P d'
      · rfl
      · exact absurd ⟨d', by omega, z⟩ q
theorem op_near {m f : Nat → Int64} {T : Nat → Bool} {a c p : Nat} (hA : ∀ p, p < 1024 → T (1024 * a + p) = pt m p) (hC : ∀ p, p < 1024 → T (1024 * c + p) = pt f p) (hany : anyT T c) (hp : p < 1024) : nrF T a c p = pt (nM m f 10) p := by
  obtain ⟨k, hk, h⟩ := hany
  obtain ⟨d, hd, h1, h2⟩ := least (P := fun d => T (1024 * c + (p ^^^ d))) 1024 ⟨p ^^^ k, xor1024 hp hk, by rw [← Nat.xor_assoc, Nat.xor_self, Nat.zero_xor]; exact h⟩
  have hx : ∀ d', d' < 1024 → p ^^^ d' < 1024 := fun d' q => xor1024 hp q
  rw [nrF_at h1 h2, hA _ (hx d hd), pt_nM 10 (by omega) p hp d hd (by rw [← hC _ (hx d hd)]; exact h1) (fun d' q => by rw [← hC _ (hx d' (by omega))]; exact h2 d' q)]
theorem isF_any {f : Nat → Int64} {T : Nat → Bool} {c : Nat} (hC : ∀ p, p < 1024 → T (1024 * c + p) = pt f p) : anyT T c ↔ isF f = false := by
  have hz : isF f = true ↔ ∀ p, p < 1024 → pt f p = false := by
    unfold isF
    rw [pB_iff]
    have := pt_ext (f := f) (f' := fun _ => 0)
    constructor
    · intro h p hp
      rw [this.mp h p hp]
      exact tb_0 _
    · intro h
      exact this.mpr (fun p hp => by rw [h p hp]; exact (tb_0 _).symm)
  constructor
  · rintro ⟨k, hk, h⟩
    cases q : isF f
    · rfl
    · rw [hC k hk, hz.mp q k hk] at h
      cases h
  · intro h
    apply Classical.byContradiction
    intro q
    have : isF f = true := hz.mpr (fun p hp => by
      cases z : pt f p
      · rfl
      · exact absurd ⟨p, hp, by rw [hC p hp]; exact z⟩ q)
    rw [h] at this
    cases this
/-! what only answers -/
theorem smE_iff {T : Nat → Bool} {a b : Nat} : ∀ m, (smE T a b m = true ↔ ∀ i, i < m → T (1024 * a + i) = T (1024 * b + i)) := by
  intro m
  induction m with
  | zero => exact ⟨fun _ i hi => absurd hi (Nat.not_lt_zero i), fun _ => rfl⟩
  | succ m ih =>
    rw [smE, Bool.and_eq_true, ih, beq_iff_eq]
    constructor
    · rintro ⟨h1, h2⟩ i hi
      rcases Nat.lt_or_ge i m with z | z
      · exact h1 i z
      · rw [show i = m by omega]
        exact h2
    · intro h
      exact ⟨fun i hi => h i (by omega), h m (by omega)⟩
theorem op_same {f f' : Nat → Int64} {T : Nat → Bool} {a b : Nat} (hA : ∀ p, p < 1024 → T (1024 * a + p) = pt f p) (hB : ∀ p, p < 1024 → T (1024 * b + p) = pt f' p) : smE T a b 1024 = pB (∀ j, j < 16 → f j = f' j) := by
  have e : smE T a b 1024 = true ↔ pB (∀ j, j < 16 → f j = f' j) = true := by
    rw [smE_iff, pB_iff, pt_ext]
    exact ⟨fun h p hp => by rw [← hA p hp, ← hB p hp]; exact h p hp, fun h p hp => by rw [hA p hp, hB p hp]; exact h p hp⟩
  exact Bool.eq_iff_iff.mpr e
theorem and1 (x : Int64) : x &&& 1 ≠ 0 ↔ tb x 0 = true := by
  have e : uN (x &&& 1) = uN x % 2 := by rw [uN_and, show uN 1 = 1 from by decide +kernel, Nat.and_one_is_mod]
  have t0 : tb x 0 = decide (uN x % 2 = 1) := Nat.testBit_zero _
  rw [t0, decide_eq_true_iff]
  constructor
  · intro h
    have : uN x % 2 ≠ 0 := fun z => h (uN_inj (by rw [e, z]; decide +kernel))
    omega
  · intro h q
    rw [q] at e
    have : uN 0 = 0 := by decide +kernel
    omega
theorem op_truth {f : Nat → Int64} {p : Nat} : pB (ush (f (p / 64)) (p % 64) &&& 1 ≠ 0) = pt f p := by
  have h : ush (f (p / 64)) (p % 64) &&& 1 ≠ 0 ↔ pt f p = true := by
    rw [and1, tb_ush _ (Nat.mod_lt _ (by decide))]
    exact Iff.rfl
  exact Bool.eq_iff_iff.mpr (pB_iff.trans h)
theorem cwd_cnt (f : Nat → Int64) : ∀ i, cwd f i = cnt (pt f) (64 * i) := by
  intro i
  induction i with
  | zero => rfl
  | succ i ih =>
    rw [cwd, ih, show 64 * (i + 1) = 64 * i + 64 by omega, cnt_add]
    congr 1
    exact cnt_congr (fun j hj => (pt_at hj).symm)
theorem op_count {f : Nat → Int64} {T : Nat → Bool} {a : Nat} (hA : ∀ p, p < 1024 → T (1024 * a + p) = pt f p) : cnt (fun k => T (1024 * a + k)) 1024 = cwd f 16 := by
  rw [cwd_cnt]
  exact cnt_congr hA
theorem dfE_iff {T : Nat → Bool} {a v : Nat} : ∀ m, (dfE T a v m = true ↔ ∃ i, i < m ∧ T (1024 * a + i) ≠ T (1024 * a + (i ^^^ bitN v))) := by
  intro m
  induction m with
  | zero => exact ⟨fun h => absurd h Bool.false_ne_true, fun ⟨i, hi, _⟩ => absurd hi (Nat.not_lt_zero i)⟩
  | succ m ih =>
    rw [dfE, Bool.or_eq_true, ih, bne_iff_ne]
    constructor
    · rintro (⟨i, h1, h2⟩ | h)
      · exact ⟨i, by omega, h2⟩
      · exact ⟨m, by omega, h⟩
    · rintro ⟨i, h1, h2⟩
      rcases Nat.lt_or_ge i m with z | z
      · exact Or.inl ⟨i, z, h2⟩
      · rw [show i = m by omega] at h2
        exact Or.inr h2
theorem op_chg {f : Nat → Int64} {T : Nat → Bool} {a v : Nat} (hv : v < 10) (hA : ∀ p, p < 1024 → T (1024 * a + p) = pt f p) : dfE T a v 1024 = chg f v := by
  apply Bool.eq_iff_iff.mpr
  unfold chg
  rw [dfE_iff, pB_iff]
  have h := pt_ext (f := f) (f' := fun i => twd f i v)
  constructor
  · rintro ⟨p, hp, h1⟩
    apply Classical.byContradiction
    intro q
    have h2 := h.mp (fun i hi => Classical.byContradiction (fun z => q ⟨i, hi, z⟩)) p hp
    rw [pt_tw hv hp] at h2
    rw [hA p hp, hA _ (xor1024 hp bitN_1024)] at h1
    exact h1 h2
  · rintro ⟨i, hi, h1⟩
    apply Classical.byContradiction
    intro q
    refine h1 (h.mpr (fun p hp => ?_) i hi)
    rw [pt_tw hv hp]
    apply Classical.byContradiction
    intro z
    exact q ⟨p, hp, by rw [hA p hp, hA _ (xor1024 hp bitN_1024)]; exact z⟩
theorem op_dep {f : Nat → Int64} {T : Nat → Bool} {a : Nat} (hA : ∀ p, p < 1024 → T (1024 * a + p) = pt f p) : ∀ v, v ≤ 10 → dpS T a v = dps f v := by
  intro v
  induction v with
  | zero => intro _; rfl
  | succ v ih => intro hv; rw [dpS, dps, ih (by omega), op_chg (by omega) hA]
