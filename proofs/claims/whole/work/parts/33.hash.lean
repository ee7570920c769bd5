/-! the ruler's table of seats and its ring -/
theorem php2 : ∀ (n' n : Nat) (f : Nat → Nat), (∀ k, k < n → f k < n') → (∀ k k', k < n → k' < n → f k = f k' → k = k') → n ≤ n' := by
  intro n'
  induction n' with
  | zero =>
    intro n f h _
    rcases Nat.eq_zero_or_pos n with q | q
    · omega
    · exact absurd (h 0 q) (Nat.not_lt_zero _)
  | succ n' ih =>
    intro n f h hi
    by_cases hk : ∃ k, k < n ∧ f k = n'
    · obtain ⟨k0, hk0, e0⟩ := hk
      have : n - 1 ≤ n' := by
        refine ih (n - 1) (fun k => if k < k0 then f k else f (k + 1)) (fun k hk => ?_) (fun k k' hk hk' e => ?_)
        · by_cases q : k < k0
          · simp only [q, if_true]
            have h1 := h k (by omega)
            have h2 : f k ≠ n' := fun z => by have := hi k k0 (by omega) hk0 (z.trans e0.symm); omega
            omega
          · simp only [q, if_false]
            have h1 := h (k + 1) (by omega)
            have h2 : f (k + 1) ≠ n' := fun z => by have := hi (k + 1) k0 (by omega) hk0 (z.trans e0.symm); omega
            omega
        · by_cases q : k < k0
          · by_cases q' : k' < k0
            · simp only [q, q', if_true] at e
              exact hi k k' (by omega) (by omega) e
            · simp only [q, q', if_true, if_false] at e
              have := hi k (k' + 1) (by omega) (by omega) e
              omega
          · by_cases q' : k' < k0
            · simp only [q, q', if_true, if_false] at e
              have := hi (k + 1) k' (by omega) (by omega) e
              omega
            · simp only [q, q', if_false] at e
              have := hi (k + 1) (k' + 1) (by omega) (by omega) e
              omega
      omega
    · have : n ≤ n' := ih n f (fun k hk1 => by have h1 := h k hk1; have h2 : f k ≠ n' := fun z => hk ⟨k, hk1, z⟩; omega) hi
      omega
/-- the seats 0 .. us - 1 hold the parts q 0 .. q (c - 1), each where its probing finds it -/
def RI (R : Nat → Nat → Int64) (lv us : Nat) (se : Nat → Int32) (c : Nat) (q : Nat → Nat) : Prop :=
  (∀ i, i < us → se i = 0 ∨ ∃ k, k < c ∧ se i = nI (q k + 1)) ∧
  (∀ k, k < c → ∃ t, t < us ∧ se ((hsN R lv (q k) + t) % us) = nI (q k + 1) ∧ ∀ t', t' < t → se ((hsN R lv (q k) + t') % us) ≠ 0) ∧
  (∀ k k', k < c → k' < c → Ew R lv (q k) (q k') → k = k') ∧
  (∀ k, k < c → q k < 48 * 2 ^ lv) ∧
  (∀ i j, i < us → j < us → se i ≠ 0 → se i = se j → i = j)
theorem RI_0 {R : Nat → Nat → Int64} {lv us : Nat} {se : Nat → Int32} (q : Nat → Nat) (h : ∀ i, i < us → se i = 0) : RI R lv us se 0 q :=
  ⟨fun i hi => Or.inl (h i hi), fun k hk => absurd hk (Nat.not_lt_zero k), fun k _ hk => absurd hk (Nat.not_lt_zero k), fun k hk => absurd hk (Nat.not_lt_zero k), fun i j hi _ h1 _ => absurd (h i hi) h1⟩
theorem p48 {lv x : Nat} (hlv : lv ≤ 10) (h : x < 48 * 2 ^ lv) : x < 49152 := by
  have : 2 ^ lv ≤ 2 ^ 10 := Nat.pow_le_pow_right (by decide) hlv
  omega
theorem lk11 : ∀ lv, lv < 11 → 2 ^ lv * (1024 / 2 ^ lv) = 1024 := by decide +kernel
theorem part_lt {lv x : Nat} (hlv : lv ≤ 10) (h : x < 48 * 2 ^ lv) : x * (1024 / 2 ^ lv) < 49152 := by
  have e := lk11 lv (by omega)
  have hp : 0 < 1024 / 2 ^ lv := Nat.pos_of_ne_zero (fun z => by rw [z] at e; omega)
  have := Nat.mul_lt_mul_of_pos_right h hp
  rw [Nat.mul_assoc, e] at this
  omega
theorem nI_q {a b : Nat} (ha : a < 49152) (hb : b < 49152) (h : nI (a + 1) = nI (b + 1)) : a = b := by
  have := (nI_eq (by omega) (by omega)).mp h
  omega
theorem nI_q0 {a : Nat} (ha : a < 49152) : nI (a + 1) ≠ 0 := fun h => by
  have := (nI_eq (a := a + 1) (b := 0) (by omega) (by omega)).mp (h.trans nI_0.symm)
  omega
theorem RI_none {R : Nat → Nat → Int64} {lv us c t x : Nat} {se : Nat → Int32} {q : Nat → Nat} (hlv : lv ≤ 10) (hR : RI R lv us se c q) (hz : se ((hsN R lv x + t) % us) = 0 ∨ us ≤ t) (ht : ∀ t', t' < t → ∃ k, k < c ∧ se ((hsN R lv x + t') % us) = nI (q k + 1) ∧ ¬ Ew R lv (q k) x) : ∀ k, k < c → ¬ Ew R lv (q k) x := by
  intro k hk he
  obtain ⟨t0, h0, h1, h2⟩ := hR.2.1 k hk
  rw [hsN_eq he] at h1 h2
  have key : t0 < t → False := fun z => by
    obtain ⟨k', hk', e1, e2⟩ := ht t0 z
    have := nI_q (p48 hlv (hR.2.2.2.1 k' hk')) (p48 hlv (hR.2.2.2.1 k hk)) (e1.symm.trans h1)
    rw [this] at e2
    exact e2 he
  rcases Nat.lt_trichotomy t0 t with z | z | z
  · exact key z
  · rcases hz with y | y
    · subst z
      rw [y] at h1
      exact nI_q0 (p48 hlv (hR.2.2.2.1 k hk)) h1.symm
    · omega
  · rcases hz with y | y
    · exact h2 t z y
    · omega
theorem RI_full {R : Nat → Nat → Int64} {lv us c x : Nat} {se : Nat → Int32} {q : Nat → Nat} (hlv : lv ≤ 10) (hu : 0 < us) (hR : RI R lv us se c q) (ht : ∀ t', t' < us → ∃ k, k < c ∧ se ((hsN R lv x + t') % us) = nI (q k + 1) ∧ ¬ Ew R lv (q k) x) : us ≤ c := by
  have hall : ∀ i : Nat, ∃ k : Nat, i < us → k < c ∧ se i = nI (q k + 1) := fun i => by
    by_cases hi : i < us
    · obtain ⟨k, h1, h2, -⟩ := ht ((i + (us - hsN R lv x % us)) % us) (Nat.mod_lt _ hu)
      refine ⟨k, fun _ => ⟨h1, ?_⟩⟩
      have e : (hsN R lv x + (i + (us - hsN R lv x % us)) % us) % us = i := by
        rw [Nat.add_mod_mod]
        have h3 := Nat.mod_lt (hsN R lv x) hu
        have h4 := Nat.mod_add_div (hsN R lv x) us
        generalize hsN R lv x % us = r at h3 h4 ⊢
        generalize hsN R lv x / us = d at h4
        rw [← h4, show r + us * d + (i + (us - r)) = i + us * (d + 1) by rw [Nat.mul_add]; omega, Nat.add_mul_mod_self_left, Nat.mod_eq_of_lt hi]
      rw [e] at h2
      exact h2
    · exact ⟨0, fun z => absurd z hi⟩
  obtain ⟨f, hf⟩ := Classical.axiomOfChoice hall
  exact php2 c us f (fun i hi => (hf i hi).1) (fun i j hi hj e => hR.2.2.2.2 i j hi hj (by rw [(hf i hi).2]; exact nI_q0 (p48 hlv (hR.2.2.2.1 _ (hf i hi).1))) (by rw [(hf i hi).2, (hf j hj).2, e]))
theorem RI_new {R : Nat → Nat → Int64} {lv us c t x : Nat} {se : Nat → Int32} {q : Nat → Nat} (hlv : lv ≤ 10) (hu : 0 < us) (hR : RI R lv us se c q) (hn : ∀ k, k < c → ¬ Ew R lv (q k) x) (hxb : x < 48 * 2 ^ lv) (ht : t < us) (hz : se ((hsN R lv x + t) % us) = 0) (hb : ∀ t', t' < t → se ((hsN R lv x + t') % us) ≠ 0) : RI R lv us (upd se ((hsN R lv x + t) % us) (nI (x + 1))) (c + 1) (va_up q c x) := by
  have hx49 := p48 hlv hxb
  have hs : va_up q c x c = x := va_up_self _ _ _
  have ho : ∀ k, k < c → va_up q c x k = q k := fun k hk => va_up_ne _ _ (by omega)
  have hne : ∀ k, k < c → q k ≠ x := fun k hk z => hn k hk (by rw [z]; exact Ew.refl)
  have hsl : (hsN R lv x + t) % us < us := Nat.mod_lt _ hu
  generalize hi0 : (hsN R lv x + t) % us = i0 at hz hsl ⊢
  have hnz : ∀ i, se i ≠ 0 → i ≠ i0 := fun i h z => h (by rw [z]; exact hz)
  refine ⟨fun i hi => ?_, fun k hk => ?_, fun k k' hk hk' e => ?_, fun k hk => ?_, fun i j hi hj h1 h2 => ?_⟩
  · by_cases z : i = i0
    · exact Or.inr ⟨c, by omega, by rw [z, pk_us, hs]⟩
    · rw [pk_un z]
      rcases hR.1 i hi with y | ⟨k, hk, y⟩
      · exact Or.inl y
      · exact Or.inr ⟨k, by omega, by rw [ho k hk]; exact y⟩
  · rcases Nat.lt_or_ge k c with z | z
    · rw [ho k z]
      obtain ⟨t0, a1, a2, a3⟩ := hR.2.1 k z
      refine ⟨t0, a1, ?_, fun t' h' => ?_⟩
      · rw [pk_un (hnz _ (by rw [a2]; exact nI_q0 (p48 hlv (hR.2.2.2.1 k z))))]
        exact a2
      · rw [pk_un (hnz _ (a3 t' h'))]
        exact a3 t' h'
    · rw [show k = c by omega, hs]
      refine ⟨t, ht, by rw [hi0, pk_us], fun t' h' => ?_⟩
      rw [pk_un (hnz _ (hb t' h'))]
      exact hb t' h'
  · rcases Nat.lt_or_ge k c with z | z
    · rcases Nat.lt_or_ge k' c with z' | z'
      · rw [ho k z, ho k' z'] at e
        exact hR.2.2.1 k k' z z' e
      · rw [ho k z, show k' = c by omega, hs] at e
        exact absurd e (hn k z)
    · rcases Nat.lt_or_ge k' c with z' | z'
      · rw [ho k' z', show k = c by omega, hs] at e
        exact absurd e.symm (hn k' z')
      · omega
  · rcases Nat.lt_or_ge k c with z | z
    · rw [ho k z]
      exact hR.2.2.2.1 k z
    · rw [show k = c by omega, hs]
      exact hxb
  · by_cases z : i = i0
    · by_cases y : j = i0
      · rw [z, y]
      · exfalso
        rw [z, pk_us, pk_un y] at h2
        rcases hR.1 j hj with w | ⟨k, hk, w⟩
        · exact nI_q0 hx49 (h2.trans w)
        · exact hne k hk (nI_q hx49 (p48 hlv (hR.2.2.2.1 k hk)) (h2.trans w)).symm
    · by_cases y : j = i0
      · exfalso
        rw [y, pk_us, pk_un z] at h2
        rcases hR.1 i hi with w | ⟨k, hk, w⟩
        · exact nI_q0 hx49 (h2.symm.trans w)
        · exact hne k hk (nI_q (p48 hlv (hR.2.2.2.1 k hk)) hx49 (w.symm.trans h2))
      · rw [pk_un z] at h1
        rw [pk_un z, pk_un y] at h2
        exact hR.2.2.2.2 i j hi hj h1 h2
/-- the ring of what waits -/
def Rg (wt : Nat → Int32) (fi le : Nat) (it : Nat → Nat) : Prop := ∀ t, t < le → wt ((fi + t) % 4096) = nI (it t)
theorem Rg_add {wt : Nat → Int32} {fi le x : Nat} {it : Nat → Nat} (h : Rg wt fi le it) (hl : le < 4096) : Rg (upd wt ((fi + le) % 4096) (nI x)) fi (le + 1) (va_up it le x) := by
  intro t ht
  rcases Nat.lt_or_ge t le with z | z
  · rw [pk_un (by omega), va_up_ne _ _ (by omega)]
    exact h t z
  · rw [show t = le by omega, pk_us, va_up_self]
theorem seat_next {us ex : Nat} (hu : us = 2 ^ ex) (h i : Nat) : ((h + i) % us + 1) &&& (us - 1) = (h + (i + 1)) % us := by
  subst hu
  rw [Nat.and_two_pow_sub_one_eq_mod, Nat.mod_add_mod, Nat.add_assoc]
