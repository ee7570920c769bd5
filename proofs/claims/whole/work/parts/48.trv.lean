/-! counting different things: a choice of one of each kind -/
def eqT (T : Nat → Bool) (i j len : Nat) : Prop := ∀ k, k < len → T (i + k) = T (j + k)
theorem php : ∀ (n' n : Nat) (f : Nat → Nat), (∀ k, k < n → f k < n') → (∀ k k', k < n → k' < n → f k = f k' → k = k') → n ≤ n' := by
  intro n'
  induction n' with
  | zero =>
    intro n f h _
    rcases Nat.eq_zero_or_pos n with q | q
    · omega
    · exact absurd (h 0 q) (Nat.not_lt_zero _)
  | succ n' ih =>
    intro n f h hi
    by_cases hk : ∃ k, k < n ∧ f k = n'
    · obtain ⟨k0, hk0, e0⟩ := hk
      have : n - 1 ≤ n' := by
        refine ih (n - 1) (fun k => if k < k0 then f k else f (k + 1)) (fun k hk => ?_) (fun k k' hk hk' e => ?_)
        · by_cases q : k < k0
          · simp only [q, if_true]
            have h1 := h k (by omega)
            have h2 : f k ≠ n' := fun z => by have := hi k k0 (by omega) hk0 (z.trans e0.symm); omega
            omega
          · simp only [q, if_false]
            have h1 := h (k + 1) (by omega)
            have h2 : f (k + 1) ≠ n' := fun z => by have := hi (k + 1) k0 (by omega) hk0 (z.trans e0.symm); omega
            omega
        · by_cases q : k < k0
          · by_cases q' : k' < k0
            · simp only [q, q', if_true] at e
              exact hi k k' (by omega) (by omega) e
            · simp only [q, q', if_true, if_false] at e
              have := hi k (k' + 1) (by omega) (by omega) e
              omega
          · by_cases q' : k' < k0
            · simp only [q, q', if_true, if_false] at e
              have := hi (k + 1) k' (by omega) (by omega) e
              omega
            · simp only [q, q', if_false] at e
              have := hi (k + 1) (k' + 1) (by omega) (by omega) e
              omega
      omega
    · have : n ≤ n' := ih n f (fun k hk1 => by have h1 := h k hk1; have h2 : f k ≠ n' := fun z => hk ⟨k, hk1, z⟩; omega) hi
      omega
/-- q 0 .. q (c - 1): one of each kind (E) of the numbers below N that have D -/
def Trf (N : Nat) (E : Nat → Nat → Prop) (D : Nat → Prop) (c : Nat) (q : Nat → Nat) : Prop :=
  (∀ k, k < c → q k < N ∧ D (q k)) ∧ (∀ k k', k < c → k' < c → E (q k) (q k') → k = k') ∧ ∀ m, m < N → D m → ∃ k, k < c ∧ E (q k) m
theorem Trf_le {N c c' : Nat} {E : Nat → Nat → Prop} {D : Nat → Prop} {q q' : Nat → Nat} (hs : ∀ x y, E x y → E y x) (ht : ∀ x y z, E x y → E y z → E x z) (h : Trf N E D c q) (h' : Trf N E D c' q') : c ≤ c' := by
  have hf : ∀ k : Nat, ∃ j : Nat, k < c → j < c' ∧ E (q' j) (q k) := fun k => by
    by_cases hk : k < c
    · obtain ⟨j, h1, h2⟩ := h'.2.2 (q k) (h.1 k hk).1 (h.1 k hk).2
      exact ⟨j, fun _ => ⟨h1, h2⟩⟩
    · exact ⟨0, fun z => absurd z hk⟩
  obtain ⟨f, hf⟩ := Classical.axiomOfChoice hf
  refine php c' c f (fun k hk => (hf k hk).1) (fun k k' hk hk' e => ?_)
  have h1 := (hf k hk).2
  have h2 := (hf k' hk').2
  rw [e] at h1
  exact h.2.1 k k' hk hk' (ht _ _ _ (hs _ _ h1) h2)
theorem Trf_eq {N c c' : Nat} {E : Nat → Nat → Prop} {D : Nat → Prop} {q q' : Nat → Nat} (hs : ∀ x y, E x y → E y x) (ht : ∀ x y z, E x y → E y z → E x z) (h : Trf N E D c q) (h' : Trf N E D c' q') : c = c' :=
  Nat.le_antisymm (Trf_le hs ht h h') (Trf_le hs ht h' h)
/-- the reference's loop over the parts of a level: m are looked at, c are found -/
def pE (T : Nat → Bool) (fr L : Nat) (x y : Nat) : Prop := eqT T (1024 * fr + x * L) (1024 * fr + y * L) L
def pD (T : Nat → Bool) (fr L : Nat) (x : Nat) : Prop := ¬ eqT T (1024 * fr + x * L) (1024 * fr + x * L + L / 2) (L / 2)
def TrI (T : Nat → Bool) (fr L m c : Nat) (q : Nat → Nat) (fo : Nat → Int32) : Prop := c ≤ m ∧ Trf m (pE T fr L) (pD T fr L) c q ∧ ∀ k, k < c → fo k = nI (1024 * fr + q k * L)
theorem TrI_0 (T : Nat → Bool) (fr L : Nat) (q : Nat → Nat) (fo : Nat → Int32) : TrI T fr L 0 0 q fo :=
  ⟨Nat.le_refl 0, ⟨fun k h => absurd h (Nat.not_lt_zero k), fun k _ h => absurd h (Nat.not_lt_zero k), fun m h => absurd h (Nat.not_lt_zero m)⟩, fun k h => absurd h (Nat.not_lt_zero k)⟩
theorem TrI_a {T : Nat → Bool} {fr L m c : Nat} {q : Nat → Nat} {fo : Nat → Int32} (h : TrI T fr L m c q fo) (hd : eqT T (1024 * fr + m * L) (1024 * fr + m * L + L / 2) (L / 2)) : TrI T fr L (m + 1) c q fo := by
  obtain ⟨h1, ⟨h2, h3, h4⟩, h5⟩ := h
  refine ⟨by omega, ⟨fun k hk => ⟨by have := (h2 k hk).1; omega, (h2 k hk).2⟩, h3, fun m' hm' hD => ?_⟩, h5⟩
  rcases Nat.lt_or_ge m' m with z | z
  · exact h4 m' z hD
  · rw [show m' = m by omega] at hD
    exact absurd hd hD
theorem TrI_b {T : Nat → Bool} {fr L m c k0 : Nat} {q : Nat → Nat} {fo : Nat → Int32} {x : Int32} (h : TrI T fr L m c q fo) (hk : k0 < c) (he : pE T fr L (q k0) m) : TrI T fr L (m + 1) c q (upd fo c x) := by
  obtain ⟨h1, ⟨h2, h3, h4⟩, h5⟩ := h
  refine ⟨by omega, ⟨fun k hk => ⟨by have := (h2 k hk).1; omega, (h2 k hk).2⟩, h3, fun m' hm' hD => ?_⟩, fun k hk => by rw [pk_un (by omega)]; exact h5 k hk⟩
  rcases Nat.lt_or_ge m' m with z | z
  · exact h4 m' z hD
  · rw [show m' = m by omega]
    exact ⟨k0, hk, he⟩
theorem TrI_c {T : Nat → Bool} {fr L m c : Nat} {q : Nat → Nat} {fo : Nat → Int32} (h : TrI T fr L m c q fo) (hd : pD T fr L m) (hn : ∀ k, k < c → ¬ pE T fr L (q k) m) : TrI T fr L (m + 1) (c + 1) (va_up q c m) (upd fo c (nI (1024 * fr + m * L))) := by
  obtain ⟨h1, ⟨h2, h3, h4⟩, h5⟩ := h
  have hu : ∀ k, k < c → va_up q c m k = q k := fun k hk => va_up_ne _ _ (by omega)
  have hs : va_up q c m c = m := va_up_self _ _ _
  refine ⟨by omega, ⟨fun k hk => ?_, fun k k' hk hk' e => ?_, fun m' hm' hD => ?_⟩, fun k hk => ?_⟩
  · rcases Nat.lt_or_ge k c with z | z
    · rw [hu k z]
      exact ⟨by have := (h2 k z).1; omega, (h2 k z).2⟩
    · rw [show k = c by omega, hs]
      exact ⟨by omega, hd⟩
  · rcases Nat.lt_or_ge k c with z | z
    · rcases Nat.lt_or_ge k' c with z' | z'
      · rw [hu k z, hu k' z'] at e
        exact h3 k k' z z' e
      · rw [hu k z, show k' = c by omega, hs] at e
        exact absurd e (hn k z)
    · rcases Nat.lt_or_ge k' c with z' | z'
      · rw [hu k' z', show k = c by omega, hs] at e
        exact absurd (fun j hj => (e j hj).symm) (hn k' z')
      · omega
  · rcases Nat.lt_or_ge m' m with z | z
    · obtain ⟨k, hk, he⟩ := h4 m' z hD
      exact ⟨k, by omega, by rw [hu k hk]; exact he⟩
    · exact ⟨c, by omega, by rw [hs, show m' = m by omega]; exact fun _ _ => rfl⟩
  · rcases Nat.lt_or_ge k c with z | z
    · rw [hu k z, pk_un (by omega)]
      exact h5 k z
    · rw [show k = c by omega, hs, pk_us]
/-- the number of nodes of a level -/
def isNum (T : Nat → Bool) (fr to L K n : Nat) : Prop := ∃ q : Nat → Nat, Trf ((to + 1 - fr) * K) (pE T fr L) (pD T fr L) n q
theorem at_lt {fr to L K m : Nat} (hLK : K * L = 1024) (hft : fr ≤ to) : 1024 * fr + m * L < 1024 * (to + 1) ↔ m < (to + 1 - fr) * K := by
  obtain ⟨d, rfl⟩ : ∃ d, to = fr + d := ⟨to - fr, by omega⟩
  rw [show fr + d + 1 - fr = d + 1 by omega]
  have hL : 0 < L := Nat.pos_of_ne_zero (fun z => by rw [z] at hLK; omega)
  have e : 1024 * (fr + d + 1) = 1024 * fr + (d + 1) * K * L := by rw [Nat.mul_assoc, hLK]; omega
  rw [e]
  constructor
  · intro h
    exact Nat.lt_of_mul_lt_mul_right (a := L) (by omega)
  · intro h
    have := Nat.mul_lt_mul_of_pos_right h hL
    omega
