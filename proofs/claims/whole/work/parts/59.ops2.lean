/-! the lowest bit, next -/
theorem cnt_dec : ∀ n m, m ≤ n → cnt (fun j => decide (j < m)) n = m := by
  intro n
  induction n with
  | zero => intro m h; rw [show m = 0 by omega]; rfl
  | succ n ih =>
    intro m h
    rw [cnt]
    by_cases q : n < m
    · obtain rfl : m = n + 1 := by omega
      have : cnt (fun j => decide (j < n + 1)) n = cnt (fun j => decide (j < n)) n := cnt_congr (fun j hj => by rw [decide_eq_true hj, decide_eq_true (by omega)])
      rw [this, ih n (Nat.le_refl n)]
      simp
    · rw [ih m (by omega)]
      simp [q]
theorem low_exists {x : Int64} (h : x ≠ 0) : ∃ m, m < 64 ∧ tb x m = true ∧ ∀ j, j < m → tb x j = false := by
  refine least 64 ?_
  apply Classical.byContradiction
  intro q
  refine h (tb_ext (fun j hj => ?_))
  rw [tb_0]
  cases z : tb x j
  · rfl
  · exact absurd ⟨j, hj, z⟩ q
theorem lwb_eq {x : Int64} {m : Nat} (hm : m < 64) (h1 : tb x m = true) (h2 : ∀ j, j < m → tb x j = false) : lwb x = m := by
  have hN : uN x % 2 ^ (m + 1) = 2 ^ m := by
    apply Nat.eq_of_testBit_eq
    intro i
    rw [Nat.testBit_mod_two_pow, Nat.testBit_two_pow]
    by_cases z : m = i
    · subst z
      have : (uN x).testBit m = true := h1
      simp [this]
    · by_cases y : i < m
      · have : (uN x).testBit i = false := h2 i y
        simp [this, z]
      · simp [z, show ¬ i < m + 1 by omega]
  have hdm := Nat.mod_add_div (uN x) (2 ^ (m + 1))
  rw [hN] at hdm
  have hp : 0 < 2 ^ m := Nat.two_pow_pos m
  have hlt : 2 ^ m < 2 ^ (m + 1) := Nat.pow_lt_pow_right (by decide) (by omega)
  have h64 := uN_lt x
  have hs : uN (x - 1) = uN x - 1 := by
    rw [uN_sub, show uN 1 = 1 from by decide +kernel]
    omega
  have e1 : uN (x - 1) = 2 ^ (m + 1) * (uN x / 2 ^ (m + 1)) + (2 ^ m - 1) := by
    rw [hs]
    omega
  have hb : ∀ j, j < 64 → tb ((x ^^^ (-1)) &&& (x - 1)) j = decide (j < m) := fun j hj => by
    rw [tb_and, tb_xor, tb_m1 hj]
    have hx1 : tb (x - 1) j = if j < m + 1 then (2 ^ m - 1).testBit j else (uN x / 2 ^ (m + 1)).testBit (j - (m + 1)) := by
      show (uN (x - 1)).testBit j = _
      rw [e1, Nat.testBit_two_pow_mul_add _ (by omega)]
    rw [hx1]
    by_cases z : j < m
    · rw [h2 j z, if_pos (by omega), Nat.testBit_two_pow_sub_one]
      simp [z]
    · by_cases y : j = m
      · subst y
        rw [h1]
        simp
      · rw [if_neg (by omega)]
        have hx0 : tb x j = (uN x / 2 ^ (m + 1)).testBit (j - (m + 1)) := by
          rw [Nat.testBit_div_two_pow]
          show (uN x).testBit j = _
          congr 1
          omega
        rw [← hx0, decide_eq_false z]
        cases tb x j <;> rfl
  show cnt (fun j => tb ((x ^^^ (-1)) &&& (x - 1)) j) 64 = m
  rw [cnt_congr hb, cnt_dec 64 m (by omega)]
theorem tb_wnx {f : Nat → Int64} {k i j : Nat} (hj : j < 64) : tb (wnx f k i) j = (tb (f i) j && (if i = k / 64 then decide (k % 64 ≤ j) else true)) := by
  unfold wnx alw
  rw [tb_and]
  congr 1
  by_cases z : i = k / 64
  · rw [if_pos z, if_pos z, tb_lsh _ (Nat.mod_lt _ (by decide)) hj, tb_m1 (by omega), Bool.and_true]
  · rw [if_neg z, if_neg z, tb_m1 hj]
theorem wnx_0 {f : Nat → Int64} {k i : Nat} (h : wnx f k i = 0) {z : Nat} (hz : z / 64 = i) (hkz : k ≤ z) : pt f z = false := by
  have h1 := tb_wnx (f := f) (k := k) (i := i) (j := z % 64) (Nat.mod_lt _ (by decide))
  rw [h, tb_0] at h1
  have e : (if i = k / 64 then decide (k % 64 ≤ z % 64) else true) = true := by
    split
    · exact decide_eq_true (by omega)
    · rfl
  rw [e, Bool.and_true] at h1
  unfold pt
  rw [hz]
  exact h1.symm
theorem op_next {f : Nat → Int64} {T : Nat → Bool} {a k : Nat} (hk : k < 1024) (hA : ∀ p, p < 1024 → T (1024 * a + p) = pt f p) {r r' : Int32}
    (hc : (∃ i, k / 64 ≤ i ∧ i < 16 ∧ (∀ j, k / 64 ≤ j → j < i → wnx f k j = 0) ∧ wnx f k i ≠ 0 ∧ r = nI (i * 64 + lwb (wnx f k i))) ∨ ((∀ j, k / 64 ≤ j → j < 16 → wnx f k j = 0) ∧ r = -1))
    (hm : (∃ q, k ≤ q ∧ q < 1024 ∧ T (1024 * a + q) = true ∧ (∀ z, k ≤ z → z < q → T (1024 * a + z) = false) ∧ r' = nI q) ∨ ((∀ q, k ≤ q → q < 1024 → T (1024 * a + q) = false) ∧ r' = -1)) : r = r' := by
  have hcls : (∃ q, k ≤ q ∧ q < 1024 ∧ pt f q = true ∧ (∀ z, k ≤ z → z < q → pt f z = false) ∧ r = nI q) ∨ ((∀ q, k ≤ q → q < 1024 → pt f q = false) ∧ r = -1) := by
    rcases hc with ⟨i, h1, h2, h3, h4, h5⟩ | ⟨h1, h2⟩
    · obtain ⟨m, hm1, hm2, hm3⟩ := low_exists h4
      rw [lwb_eq hm1 hm2 hm3] at h5
      have ht := hm2
      rw [tb_wnx hm1, Bool.and_eq_true] at ht
      have hge : k ≤ i * 64 + m := by
        rcases Nat.lt_or_ge (k / 64) i with z | z
        · omega
        · have e : i = k / 64 := by omega
          have := ht.2
          rw [if_pos e, decide_eq_true_iff] at this
          omega
      refine Or.inl ⟨i * 64 + m, hge, by omega, ?_, fun z hz1 hz2 => ?_, h5⟩
      · rw [show i * 64 + m = 64 * i + m by omega, pt_at hm1]
        exact ht.1
      · rcases Nat.lt_or_ge (z / 64) i with y | y
        · exact wnx_0 (h3 (z / 64) (by omega) y) rfl hz1
        · have e : z / 64 = i := by omega
          have hlow := hm3 (z % 64) (by omega)
          rw [tb_wnx (Nat.mod_lt _ (by decide))] at hlow
          have e2 : (if i = k / 64 then decide (k % 64 ≤ z % 64) else true) = true := by
            split
            · exact decide_eq_true (by omega)
            · rfl
          rw [e2, Bool.and_true] at hlow
          unfold pt
          rw [e]
          exact hlow
    · exact Or.inr ⟨fun q hq1 hq2 => wnx_0 (h1 (q / 64) (by omega) (by omega)) rfl hq1, h2⟩
  rcases hcls with ⟨q, a1, a2, a3, a4, a5⟩ | ⟨a1, a2⟩
  · rcases hm with ⟨q', b1, b2, b3, b4, b5⟩ | ⟨b1, b2⟩
    · have : q = q' := by
        rcases Nat.lt_trichotomy q q' with z | z | z
        · have := b4 q a1 z
          rw [hA q a2, a3] at this
          cases this
        · exact z
        · have := a4 q' b1 z
          rw [← hA q' b2, b3] at this
          cases this
      rw [a5, b5, this]
    · have := b1 q a1 a2
      rw [hA q a2, a3] at this
      cases this
  · rcases hm with ⟨q', b1, b2, b3, b4, b5⟩ | ⟨b1, b2⟩
    · have := a1 q' b1 b2
      rw [← hA q' b2, b3] at this
      cases this
    · rw [a2, b2]
/-! the desk and the reference hold the same truths -/
def Ag (R : Nat → Nat → Int64) (T : Nat → Bool) : Prop := ∀ a, a < 48 → ∀ p, p < 1024 → T (1024 * a + p) = pt (R a) p
theorem Ag_w {R R' : Nat → Nat → Int64} {T T' : Nat → Bool} {s : Nat} {F : Nat → Int64} {f : Nat → Bool} (h : Ag R T) (hU : Upd R R' s F) (hM : MW T T' s f) (he : ∀ p, p < 1024 → f p = pt F p) : Ag R' T' := by
  intro a ha p hp
  rw [hM a p ha hp]
  by_cases z : a = s
  · rw [if_pos z, he p hp, z]
    unfold pt
    rw [hU.1 _ (by omega)]
  · rw [if_neg z, h a ha p hp]
    unfold pt
    rw [hU.2 a ha z _ (by omega)]
theorem Ag_tbl {R : Nat → Nat → Int64} {T : Nat → Bool} (h : Ag R T) : ∀ q, q < 49152 → T q = tbl R q := by
  intro q hq
  rw [show q = 1024 * (q / 1024) + q % 1024 by omega, h _ (by omega) _ (by omega), tbl_pt (by omega)]
theorem pE_in {fr to v m k : Nat} (hv : v < 10) (hft : fr ≤ to) (hto : to < 48) (hm : m < (to + 1 - fr) * 2 ^ v) (hk : k < 1024 / 2 ^ v) : 1024 * fr + m * (1024 / 2 ^ v) + k < 49152 := by
  have e := (lk10 v hv).1
  have h1 : (m + 1) * (1024 / 2 ^ v) ≤ (to + 1 - fr) * 2 ^ v * (1024 / 2 ^ v) := Nat.mul_le_mul_right _ hm
  rw [Nat.mul_assoc, e, Nat.add_mul, Nat.one_mul] at h1
  omega
theorem isNum_congr {T T' : Nat → Bool} {fr to v n : Nat} (hv : v < 10) (hft : fr ≤ to) (hto : to < 48) (hT : ∀ q, q < 49152 → T q = T' q) (h : isNum T fr to (1024 / 2 ^ v) (2 ^ v) n) : isNum T' fr to (1024 / 2 ^ v) (2 ^ v) n := by
  have hE : ∀ x y, x < (to + 1 - fr) * 2 ^ v → y < (to + 1 - fr) * 2 ^ v → (pE T fr (1024 / 2 ^ v) x y ↔ pE T' fr (1024 / 2 ^ v) x y) := fun x y hx hy =>
    ⟨fun h k hk => by rw [← hT _ (pE_in hv hft hto hx hk), ← hT _ (pE_in hv hft hto hy hk)]; exact h k hk, fun h k hk => by rw [hT _ (pE_in hv hft hto hx hk), hT _ (pE_in hv hft hto hy hk)]; exact h k hk⟩
  have hD : ∀ x, x < (to + 1 - fr) * 2 ^ v → (pD T fr (1024 / 2 ^ v) x ↔ pD T' fr (1024 / 2 ^ v) x) := fun x hx => by
    have h1 : ∀ k, k < 1024 / 2 ^ v / 2 → 1024 * fr + x * (1024 / 2 ^ v) + k < 49152 := fun k hk => pE_in hv hft hto hx (by omega)
    have h2 : ∀ k, k < 1024 / 2 ^ v / 2 → 1024 * fr + x * (1024 / 2 ^ v) + 1024 / 2 ^ v / 2 + k < 49152 := fun k hk => by
      rw [Nat.add_assoc (1024 * fr + x * (1024 / 2 ^ v))]
      exact pE_in hv hft hto hx (by omega)
    unfold pD eqT
    refine not_congr ⟨fun h k hk => ?_, fun h k hk => ?_⟩
    · rw [← hT _ (h1 k hk), ← hT _ (h2 k hk)]; exact h k hk
    · rw [hT _ (h1 k hk), hT _ (h2 k hk)]; exact h k hk
  obtain ⟨q, a1, a2, a3⟩ := h
  exact ⟨q, fun k hk => ⟨(a1 k hk).1, (hD _ (a1 k hk).1).mp (a1 k hk).2⟩, fun k k' hk hk' e => a2 k k' hk hk' ((hE _ _ (a1 k hk).1 (a1 k' hk').1).mpr e), fun m hm hd => by
    obtain ⟨k, b1, b2⟩ := a3 m hm ((hD m hm).mpr hd)
    exact ⟨k, b1, (hE _ _ (a1 k b1).1 hm).mp b2⟩⟩
theorem isNum_eq {T : Nat → Bool} {fr to L K n n' : Nat} (h : isNum T fr to L K n) (h' : isNum T fr to L K n') : n = n' := by
  obtain ⟨q, a⟩ := h
  obtain ⟨q', a'⟩ := h'
  exact Trf_eq (fun x y e k hk => (e k hk).symm) (fun x y z e e' k hk => (e k hk).trans (e' k hk)) a a'
theorem op_num {R : Nat → Nat → Int64} {T : Nat → Bool} {fr to v n n' : Nat} (hAg : Ag R T) (hv : v < 10) (hft : fr ≤ to) (hto : to < 48) (h : isNum (tbl R) fr to (1024 / 2 ^ v) (2 ^ v) n) (h' : isNum T fr to (1024 / 2 ^ v) (2 ^ v) n') : n = n' :=
  isNum_eq h (isNum_congr hv hft hto (Ag_tbl hAg) h')
theorem op_all {R : Nat → Nat → Int64} {T : Nat → Bool} {fr to : Nat} {cs cs' : Nat → Nat} (hAg : Ag R T) (hft : fr ≤ to) (hto : to < 48) (h : allNum (tbl R) fr to 10 cs) (h' : allNum T fr to 10 cs') : sumN cs 10 = sumN cs' 10 := by
  have : ∀ j, j ≤ 10 → sumN cs j = sumN cs' j := by
    intro j
    induction j with
    | zero => intro _; rfl
    | succ j ih => intro hj; rw [sumN, sumN, ih (by omega), op_num hAg (by omega) hft hto (h j (by omega)) (h' j (by omega))]
  exact this 10 (Nat.le_refl _)
