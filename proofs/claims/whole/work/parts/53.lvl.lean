/-! going from a level to the next -/
def dMax (lv : Nat) : Nat := if lv ≤ 5 then 1536 else if lv = 6 then 3072 else 256
theorem msk_le : ∀ lv, lv < 11 → 7 ≤ lv → uN (lsh 1 (1024 / 2 ^ lv) - 1) ≤ 255 ∧ wrd lv = 1 ∧ 1024 / 2 ^ lv < 64 := by decide +kernel
theorem dist_le {R : Nat → Nat → Int64} {lv n : Nat} {q : Nat → Nat} (hlv : lv ≤ 10) (hb : ∀ k, k < n → q k < 48 * 2 ^ lv) (hi : ∀ k k', k < n → k' < n → Ew R lv (q k) (q k') → k = k') : n ≤ dMax lv := by
  unfold dMax
  by_cases h6 : lv ≤ 6
  · have h1 := php2 (48 * 2 ^ lv) n q hb (fun k k' hk hk' e => hi k k' hk hk' (by rw [e]; exact Ew.refl))
    by_cases h5 : lv ≤ 5
    · rw [if_pos h5]
      have : 2 ^ lv ≤ 2 ^ 5 := Nat.pow_le_pow_right (by decide) h5
      omega
    · obtain rfl : lv = 6 := by omega
      rw [if_neg h5, if_pos rfl]
      exact h1
  · obtain ⟨m1, m2, m3⟩ := msk_le lv (by omega) (by omega)
    rw [if_neg (by omega), if_neg (by omega)]
    refine php2 256 n (fun k => uN (pwd R lv (q k) 0)) (fun k hk => ?_) (fun k k' hk hk' e => hi k k' hk hk' (fun j hj => ?_))
    · show uN (pwd R lv (q k) 0) < 256
      unfold pwd
      rw [if_pos m3, uN_and]
      exact Nat.lt_of_le_of_lt Nat.and_le_right (by omega)
    · rw [show j = 0 by omega]
      exact uN_inj e
/-- the parts it 0 .. it (n - 1) are those of a level, one of each kind -/
def LvI (R : Nat → Nat → Int64) (fr to lv n : Nat) (it : Nat → Nat) : Prop :=
  (∀ t, t < n → fr * 2 ^ lv ≤ it t ∧ it t < (to + 1) * 2 ^ lv) ∧ (∀ t t', t < n → t' < n → Ew R lv (it t) (it t') → t = t') ∧ ∀ x, fr * 2 ^ lv ≤ x → x < (to + 1) * 2 ^ lv → ∃ t, t < n ∧ Ew R lv (it t) x
/-- while a level is halved: rm are still to come, ct of the next are found -/
def HS (R : Nat → Nat → Int64) (fr to lv us rm : Nat) (rit : Nat → Nat) (wt se : Nat → Int32) (fi ct : Nat) (q : Nat → Nat) : Prop :=
  RI R lv us se ct q ∧ Rg wt fi (rm + ct) (fun t => if t < rm then rit t else q (t - rm)) ∧ ∀ i, i < ct → fr * 2 ^ lv ≤ q i ∧ q i < (to + 1) * 2 ^ lv
theorem Rg_congr {wt : Nat → Int32} {fi le : Nat} {a b : Nat → Nat} (h : Rg wt fi le a) (e : ∀ t, t < le → a t = b t) : Rg wt fi le b := fun t ht => by rw [h t ht, e t ht]
theorem HS_0 {R : Nat → Nat → Int64} {fr to lv us rm : Nat} {rit q : Nat → Nat} {wt se : Nat → Int32} {fi : Nat} (hz : ∀ i, i < us → se i = 0) (hG : Rg wt fi rm rit) : HS R fr to lv us rm rit wt se fi 0 q :=
  ⟨RI_0 q hz, Rg_congr (le := rm) hG (fun t ht => by simp [ht]), fun i hi => absurd hi (Nat.not_lt_zero i)⟩
theorem HS_take {R : Nat → Nat → Int64} {fr to lv us rm : Nat} {rit q : Nat → Nat} {wt se : Nat → Int32} {fi ct : Nat} (h : HS R fr to lv us (rm + 1) rit wt se fi ct q) (hfi : fi < 4096) : wt fi = nI (rit 0) ∧ HS R fr to lv us rm (fun t => rit (t + 1)) wt se ((fi + 1) % 4096) ct q := by
  obtain ⟨h1, h2, h3⟩ := h
  have e0 := h2 0 (by omega)
  rw [Nat.add_zero, Nat.mod_eq_of_lt hfi] at e0
  refine ⟨by simpa using e0, h1, fun t ht => ?_, h3⟩
  have e := h2 (t + 1) (by omega)
  rw [Nat.mod_add_mod, show fi + 1 + t = fi + (t + 1) by omega, e]
  by_cases z : t < rm
  · simp [z]
  · simp [z]
theorem HS_enter {R : Nat → Nat → Int64} {fr to lv us rm x : Nat} {rit q : Nat → Nat} {wt se : Nat → Int32} {fi ct : Nat} {M : Mod} {O : Nat → Int64} {u' : Wd} (h : HS R fr to lv us rm rit wt se fi ct q) (hxr : fr * 2 ^ lv ≤ x ∧ x < (to + 1) * 2 ^ lv)
    (hp : ((∃ k, k < ct ∧ Ew R lv (q k) x) ∧ u' = (R, (wt, se, nI (fi), nI (rm + ct), nI (us)), M, O)) ∨ ((∀ k, k < ct → ¬ Ew R lv (q k) x) ∧ ∃ (wt' se' : Nat → Int32), u' = (R, (wt', se', nI (fi), nI (rm + ct + 1), nI (us)), M, O) ∧ RI R lv us se' (ct + 1) (va_up q ct x) ∧ Rg wt' fi (rm + ct + 1) (va_up (fun t => if t < rm then rit t else q (t - rm)) (rm + ct) x))) :
    ∃ (wt' se' : Nat → Int32) (ct' : Nat) (q' : Nat → Nat), u' = (R, (wt', se', nI (fi), nI (rm + ct'), nI (us)), M, O) ∧ HS R fr to lv us rm rit wt' se' fi ct' q' ∧ ct ≤ ct' ∧ ct' ≤ ct + 1 ∧ (∀ i, i < ct → q' i = q i) ∧ ∃ i, i < ct' ∧ Ew R lv (q' i) x := by
  obtain ⟨h1, h2, h3⟩ := h
  rcases hp with ⟨⟨k, hk, hE⟩, rfl⟩ | ⟨-, wt', se', rfl, r1, r2⟩
  · exact ⟨wt, se, ct, q, rfl, ⟨h1, h2, h3⟩, Nat.le_refl _, by omega, fun _ _ => rfl, k, hk, hE⟩
  · have ho : ∀ i, i < ct → va_up q ct x i = q i := fun i hi => va_up_ne _ _ (by omega)
    have hs : va_up q ct x ct = x := va_up_self _ _ _
    refine ⟨wt', se', ct + 1, va_up q ct x, rfl, ⟨r1, Rg_congr (le := rm + ct + 1) r2 (fun t ht => ?_), fun i hi => ?_⟩, by omega, Nat.le_refl _, ho, ct, by omega, by rw [hs]; exact Ew.refl⟩
    · by_cases z : t = rm + ct
      · rw [z, va_up_self, if_neg (by omega), show rm + ct - rm = ct by omega, hs]
      · rw [va_up_ne _ _ z]
        by_cases y : t < rm
        · rw [if_pos y, if_pos y]
        · rw [if_neg y, if_neg y, ho _ (by omega)]
    · rcases Nat.lt_or_ge i ct with z | z
      · rw [ho i z]
        exact h3 i z
      · rw [show i = ct by omega, hs]
        exact hxr
theorem HS_cap {R : Nat → Nat → Int64} {lv us x ct : Nat} {q : Nat → Nat} {se : Nat → Int32} (hlv : lv ≤ 10) (h : RI R lv us se ct q) (hxb : x < 48 * 2 ^ lv) (hn : ∀ k, k < ct → ¬ Ew R lv (q k) x) : ct + 1 ≤ dMax lv := by
  have ho : ∀ i, i < ct → va_up q ct x i = q i := fun i hi => va_up_ne _ _ (by omega)
  have hs : va_up q ct x ct = x := va_up_self _ _ _
  refine dist_le (R := R) (q := va_up q ct x) hlv (fun k hk => ?_) (fun k k' hk hk' e => ?_)
  · rcases Nat.lt_or_ge k ct with z | z
    · rw [ho k z]
      exact h.2.2.2.1 k z
    · rw [show k = ct by omega, hs]
      exact hxb
  · rcases Nat.lt_or_ge k ct with z | z
    · rcases Nat.lt_or_ge k' ct with z' | z'
      · rw [ho k z, ho k' z'] at e
        exact h.2.2.1 k k' z z' e
      · rw [ho k z, show k' = ct by omega, hs] at e
        exact absurd e (hn k z)
    · rcases Nat.lt_or_ge k' ct with z' | z'
      · rw [ho k' z', show k = ct by omega, hs] at e
        exact absurd e.symm (hn k' z')
      · omega
theorem cap_ok {v n k ct us rm : Nat} (hn : n ≤ dMax v) (hk : k + rm + 1 = n) (hc : ct ≤ 2 * k + 1) (hd : ct + 1 ≤ dMax (v + 1)) (hu : 2 * (2 * n) ≤ us ∨ us = 4096) : ct < us ∧ rm + ct < 4096 := by
  unfold dMax at hn hd
  by_cases h5 : v ≤ 5
  · rw [if_pos h5] at hn
    by_cases h4 : v + 1 ≤ 5
    · rw [if_pos h4] at hd
      omega
    · rw [if_neg h4, if_pos (by omega)] at hd
      omega
  · rw [if_neg h5] at hn
    rw [if_neg (by omega), if_neg (by omega)] at hd
    by_cases h6 : v = 6
    · rw [if_pos h6] at hn
      omega
    · rw [if_neg h6] at hn
      omega
theorem lk2 : ∀ lv, lv < 10 → 1024 / 2 ^ lv = 2 * (1024 / 2 ^ (lv + 1)) ∧ 0 < 1024 / 2 ^ (lv + 1) := by decide +kernel
theorem Ew_half {R : Nat → Nat → Int64} {lv x y : Nat} (hlv : lv < 10) (h : Ew R lv x y) : Ew R (lv + 1) (2 * x) (2 * y) ∧ Ew R (lv + 1) (2 * x + 1) (2 * y + 1) := by
  rw [Ew_iff R _ _ lv (by omega)] at h
  rw [Ew_iff R _ _ (lv + 1) (by omega), Ew_iff R _ _ (lv + 1) (by omega)]
  obtain ⟨e, -⟩ := lk2 lv hlv
  rw [e] at h
  generalize 1024 / 2 ^ (lv + 1) = L at h ⊢
  have ex : ∀ z : Nat, z * (2 * L) = 2 * z * L := fun z => by rw [← Nat.mul_assoc, Nat.mul_comm z 2]
  rw [ex, ex] at h
  refine ⟨fun k hk => h k (by omega), fun k hk => ?_⟩
  have := h (L + k) (by omega)
  rw [Nat.add_mul, Nat.add_mul, Nat.one_mul, Nat.add_assoc, Nat.add_assoc]
  exact this
/-- both halves of the first k parts are found -/
def Cov (R : Nat → Nat → Int64) (lv ct : Nat) (q it : Nat → Nat) (k : Nat) : Prop := ∀ t, t < k → (∃ i, i < ct ∧ Ew R lv (q i) (2 * it t)) ∧ ∃ i, i < ct ∧ Ew R lv (q i) (2 * it t + 1)
theorem Cov_mono {R : Nat → Nat → Int64} {lv ct ct' : Nat} {q q' it : Nat → Nat} {k : Nat} (h : Cov R lv ct q it k) (hc : ct ≤ ct') (he : ∀ i, i < ct → q' i = q i) : Cov R lv ct' q' it k := fun t ht => by
  obtain ⟨⟨i, a1, a2⟩, j, b1, b2⟩ := h t ht
  exact ⟨⟨i, by omega, by rw [he i a1]; exact a2⟩, j, by omega, by rw [he j b1]; exact b2⟩
theorem Cov_s {R : Nat → Nat → Int64} {lv ct : Nat} {q it : Nat → Nat} {k : Nat} (h : Cov R lv ct q it k) (h1 : ∃ i, i < ct ∧ Ew R lv (q i) (2 * it k)) (h2 : ∃ i, i < ct ∧ Ew R lv (q i) (2 * it k + 1)) : Cov R lv ct q it (k + 1) := fun t ht => by
  rcases Nat.lt_or_ge t k with z | z
  · exact h t z
  · rw [show t = k by omega]
    exact ⟨h1, h2⟩
theorem LvI_next {R : Nat → Nat → Int64} {fr to lv us n ct fi : Nat} {it q rit : Nat → Nat} {wt se : Nat → Int32} (hlv : lv < 10) (h : LvI R fr to lv n it) (hc : Cov R (lv + 1) ct q it n) (hs : HS R fr to (lv + 1) us 0 rit wt se fi ct q) : LvI R fr to (lv + 1) ct q ∧ Rg wt fi ct q := by
  obtain ⟨h1, h2, h3⟩ := hs
  refine ⟨⟨h3, h1.2.2.1, fun x hx1 hx2 => ?_⟩, ?_⟩
  · rw [Nat.pow_succ] at hx1 hx2
    have e1 : fr * (2 ^ lv * 2) = fr * 2 ^ lv * 2 := (Nat.mul_assoc _ _ _).symm
    have e2 : (to + 1) * (2 ^ lv * 2) = (to + 1) * 2 ^ lv * 2 := (Nat.mul_assoc _ _ _).symm
    rw [e1] at hx1
    rw [e2] at hx2
    obtain ⟨t, ht, hE⟩ := h.2.2 (x / 2) (by omega) (by omega)
    obtain ⟨a, b⟩ := Ew_half hlv hE
    obtain ⟨⟨i, c1, c2⟩, j, d1, d2⟩ := hc t ht
    rcases Nat.mod_two_eq_zero_or_one x with z | z
    · exact ⟨i, c1, c2.trans (by rw [show 2 * (x / 2) = x by omega] at a; exact a)⟩
    · exact ⟨j, d1, d2.trans (by rw [show 2 * (x / 2) + 1 = x by omega] at b; exact b)⟩
  · refine fun t ht => ?_
    have := h2 t (by omega)
    simpa using this
/-- which of the parts are nodes -/
def CtI (D : Nat → Prop) (k c : Nat) (jj : Nat → Nat) : Prop := c ≤ k ∧ (∀ i, i < c → jj i < k ∧ D (jj i)) ∧ (∀ i i', i < c → i' < c → jj i = jj i' → i = i') ∧ ∀ t, t < k → D t → ∃ i, i < c ∧ jj i = t
theorem CtI_0 (D : Nat → Prop) (jj : Nat → Nat) : CtI D 0 0 jj := ⟨Nat.le_refl _, fun i h => absurd h (Nat.not_lt_zero i), fun i _ h => absurd h (Nat.not_lt_zero i), fun t h => absurd h (Nat.not_lt_zero t)⟩
theorem CtI_no {D : Nat → Prop} {k c : Nat} {jj : Nat → Nat} (h : CtI D k c jj) (hd : ¬ D k) : CtI D (k + 1) c jj :=
  ⟨Nat.le_succ_of_le h.1, fun i hi => ⟨Nat.lt_succ_of_lt (h.2.1 i hi).1, (h.2.1 i hi).2⟩, h.2.2.1, fun t ht hD => by
    rcases Nat.lt_or_ge t k with z | z
    · exact h.2.2.2 t z hD
    · rw [show t = k by omega] at hD
      exact absurd hD hd⟩
theorem CtI_yes {D : Nat → Prop} {k c : Nat} {jj : Nat → Nat} (h : CtI D k c jj) (hd : D k) : CtI D (k + 1) (c + 1) (va_up jj c k) := by
  have ho : ∀ i, i < c → va_up jj c k i = jj i := fun i hi => va_up_ne _ _ (by omega)
  have hs : va_up jj c k c = k := va_up_self _ _ _
  refine ⟨Nat.succ_le_succ h.1, fun i hi => ?_, fun i i' hi hi' e => ?_, fun t ht hD => ?_⟩
  · rcases Nat.lt_or_ge i c with z | z
    · rw [ho i z]
      exact ⟨Nat.lt_succ_of_lt (h.2.1 i z).1, (h.2.1 i z).2⟩
    · rw [show i = c by omega, hs]
      exact ⟨Nat.lt_succ_self k, hd⟩
  · rcases Nat.lt_or_ge i c with z | z
    · rcases Nat.lt_or_ge i' c with z' | z'
      · rw [ho i z, ho i' z'] at e
        exact h.2.2.1 i i' z z' e
      · rw [ho i z, show i' = c by omega, hs] at e
        have := (h.2.1 i z).1
        omega
    · rcases Nat.lt_or_ge i' c with z' | z'
      · rw [ho i' z', show i = c by omega, hs] at e
        have := (h.2.1 i' z').1
        omega
      · omega
  · rcases Nat.lt_or_ge t k with z | z
    · obtain ⟨i, h1, h2⟩ := h.2.2.2 t z hD
      exact ⟨i, by omega, by rw [ho i h1]; exact h2⟩
    · exact ⟨c, Nat.lt_succ_self c, by rw [hs]; omega⟩
theorem part_at {lv fr x : Nat} (hlv : lv < 11) (h : fr * 2 ^ lv ≤ x) : x * (1024 / 2 ^ lv) = 1024 * fr + (x - fr * 2 ^ lv) * (1024 / 2 ^ lv) := by
  have e := lk11 lv hlv
  obtain ⟨m, rfl⟩ : ∃ m, x = fr * 2 ^ lv + m := ⟨x - fr * 2 ^ lv, by omega⟩
  rw [show fr * 2 ^ lv + m - fr * 2 ^ lv = m by omega, Nat.add_mul, Nat.mul_assoc, e, Nat.mul_comm fr]
theorem Ew_pE {R : Nat → Nat → Int64} {lv fr x y : Nat} (hlv : lv ≤ 10) (hx : fr * 2 ^ lv ≤ x) (hy : fr * 2 ^ lv ≤ y) : Ew R lv x y ↔ pE (tbl R) fr (1024 / 2 ^ lv) (x - fr * 2 ^ lv) (y - fr * 2 ^ lv) := by
  rw [Ew_iff R x y lv hlv, part_at (by omega) hx, part_at (by omega) hy]
  exact Iff.rfl
theorem Ew_pD {R : Nat → Nat → Int64} {lv fr x : Nat} (hlv : lv < 10) (hx : fr * 2 ^ lv ≤ x) : ¬ Ew R (lv + 1) (2 * x) (2 * x + 1) ↔ pD (tbl R) fr (1024 / 2 ^ lv) (x - fr * 2 ^ lv) := by
  rw [Ew_iff R _ _ (lv + 1) (by omega)]
  unfold pD
  rw [← part_at (by omega) hx]
  obtain ⟨e, -⟩ := lk2 lv hlv
  rw [e, show 2 * (1024 / 2 ^ (lv + 1)) / 2 = 1024 / 2 ^ (lv + 1) by omega]
  generalize 1024 / 2 ^ (lv + 1) = L
  rw [show x * (2 * L) = 2 * x * L by rw [← Nat.mul_assoc, Nat.mul_comm x 2], Nat.add_mul, Nat.one_mul]
theorem LvI_num {R : Nat → Nat → Int64} {fr to lv n c : Nat} {it jj : Nat → Nat} (hlv : lv < 10) (hft : fr ≤ to) (h : LvI R fr to lv n it) (hc : CtI (fun t => ¬ Ew R (lv + 1) (2 * it t) (2 * it t + 1)) n c jj) : isNum (tbl R) fr to (1024 / 2 ^ lv) (2 ^ lv) c := by
  have eK : (to + 1) * 2 ^ lv = fr * 2 ^ lv + (to + 1 - fr) * 2 ^ lv := by rw [← Nat.add_mul]; congr 1; omega
  refine ⟨fun i => it (jj i) - fr * 2 ^ lv, fun i hi => ⟨?_, ?_⟩, fun i i' hi hi' e => ?_, fun m hm hD => ?_⟩
  · have := h.1 _ (hc.2.1 i hi).1
    simp only []
    omega
  · exact (Ew_pD hlv (h.1 _ (hc.2.1 i hi).1).1).mp (hc.2.1 i hi).2
  · have e2 := (Ew_pE (by omega) (h.1 _ (hc.2.1 i hi).1).1 (h.1 _ (hc.2.1 i' hi').1).1).mpr e
    exact hc.2.2.1 i i' hi hi' (h.2.1 _ _ (hc.2.1 i hi).1 (hc.2.1 i' hi').1 e2)
  · obtain ⟨t, ht, hE⟩ := h.2.2 (fr * 2 ^ lv + m) (by omega) (by omega)
    have hD2 : ¬ Ew R (lv + 1) (2 * (fr * 2 ^ lv + m)) (2 * (fr * 2 ^ lv + m) + 1) := (Ew_pD (fr := fr) hlv (by omega)).mpr (by rw [show fr * 2 ^ lv + m - fr * 2 ^ lv = m by omega]; exact hD)
    obtain ⟨a, b⟩ := Ew_half hlv hE
    obtain ⟨i, hi, e⟩ := hc.2.2.2 t ht (fun z => hD2 (a.symm.trans (z.trans b)))
    refine ⟨i, hi, ?_⟩
    have e2 := (Ew_pE (fr := fr) (by omega) (h.1 t ht).1 (by omega)).mp hE
    rw [show fr * 2 ^ lv + m - fr * 2 ^ lv = m by omega] at e2
    simp only [e]
    exact e2
theorem HS_take2 {R : Nat → Nat → Int64} {fr to lv us rm k : Nat} {it q : Nat → Nat} {wt se : Nat → Int32} {fi ct : Nat} (h : HS R fr to lv us (rm + 1) (fun t => it (k + t)) wt se ((fi + k) % 4096) ct q) : wt ((fi + k) % 4096) = nI (it k) ∧ HS R fr to lv us rm (fun t => it (k + 1 + t)) wt se ((fi + (k + 1)) % 4096) ct q := by
  obtain ⟨h1, h2⟩ := HS_take h (Nat.mod_lt _ (by decide))
  refine ⟨h1, ?_⟩
  rw [Nat.mod_add_mod] at h2
  have e : (fun t => it (k + 1 + t)) = (fun t => (fun t => it (k + t)) (t + 1)) := by
    funext t
    show it (k + 1 + t) = it (k + (t + 1))
    congr 1
    omega
  rw [e]
  exact h2
theorem half_in {fr to lv x : Nat} (hto : to < 48) (h : fr * 2 ^ lv ≤ x ∧ x < (to + 1) * 2 ^ lv) : (fr * 2 ^ (lv + 1) ≤ 2 * x ∧ 2 * x < (to + 1) * 2 ^ (lv + 1)) ∧ (fr * 2 ^ (lv + 1) ≤ 2 * x + 1 ∧ 2 * x + 1 < (to + 1) * 2 ^ (lv + 1)) ∧ 2 * x + 1 < 48 * 2 ^ (lv + 1) := by
  rw [Nat.pow_succ, show fr * (2 ^ lv * 2) = fr * 2 ^ lv * 2 from (Nat.mul_assoc _ _ _).symm, show (to + 1) * (2 ^ lv * 2) = (to + 1) * 2 ^ lv * 2 from (Nat.mul_assoc _ _ _).symm, show 48 * (2 ^ lv * 2) = 48 * 2 ^ lv * 2 from (Nat.mul_assoc _ _ _).symm]
  have : (to + 1) * 2 ^ lv ≤ 48 * 2 ^ lv := Nat.mul_le_mul_right _ (by omega)
  omega
theorem LvI_le {R : Nat → Nat → Int64} {fr to lv n : Nat} {it : Nat → Nat} (hlv : lv ≤ 10) (hto : to < 48) (h : LvI R fr to lv n it) : n ≤ dMax lv ∧ n ≤ 3072 := by
  have h1 : n ≤ dMax lv := dist_le hlv (fun k hk => Nat.lt_of_lt_of_le (h.1 k hk).2 (Nat.mul_le_mul_right _ (by omega))) h.2.1
  refine ⟨h1, ?_⟩
  unfold dMax at h1
  split at h1
  · omega
  · split at h1 <;> omega
theorem cap_le {v n k ct rm : Nat} (hn : n ≤ dMax v) (hk : k + rm + 1 = n) (hc : ct ≤ 2 * k + 1) (hd : ct ≤ dMax (v + 1)) : rm + ct ≤ 4096 := by
  unfold dMax at hn hd
  by_cases h5 : v ≤ 5
  · rw [if_pos h5] at hn
    omega
  · rw [if_neg h5] at hn
    rw [if_neg (by omega), if_neg (by omega)] at hd
    by_cases h6 : v = 6
    · rw [if_pos h6] at hn
      omega
    · rw [if_neg h6] at hn
      omega
