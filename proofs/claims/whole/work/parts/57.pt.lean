/-! points: what the words of a row say of them -/
def pt (f : Nat → Int64) (p : Nat) : Bool := tb (f (p / 64)) (p % 64)
theorem tbl_pt {R : Nat → Nat → Int64} {a p : Nat} (hp : p < 1024) : tbl R (1024 * a + p) = pt (R a) p := by
  unfold tbl pt
  rw [show (1024 * a + p) / 1024 = a by omega, show (1024 * a + p) % 1024 / 64 = p / 64 by omega, show (1024 * a + p) % 64 = p % 64 by omega]
theorem pt_at {f : Nat → Int64} {i j : Nat} (hj : j < 64) : pt f (64 * i + j) = tb (f i) j := by
  unfold pt
  rw [show (64 * i + j) / 64 = i by omega, show (64 * i + j) % 64 = j by omega]
theorem pt_ext {f f' : Nat → Int64} : (∀ i, i < 16 → f i = f' i) ↔ ∀ p, p < 1024 → pt f p = pt f' p := by
  constructor
  · intro h p hp
    unfold pt
    rw [h _ (by omega)]
  · intro h i hi
    apply tb_ext
    intro j hj
    have := h (64 * i + j) (by omega)
    rw [pt_at hj, pt_at hj] at this
    exact this
theorem bitN_pow (v : Nat) : bitN v = 2 ^ (9 - v) := by rw [bitN, Nat.one_mul]
theorem tb_big (x : Int64) {j : Nat} (h : 64 ≤ j) : tb x j = false := Nat.testBit_lt_two_pow (Nat.lt_of_lt_of_le (uN_lt x) (show 2 ^ 64 ≤ 2 ^ j from Nat.pow_le_pow_right (by decide) h))
theorem pt_tw {f : Nat → Int64} {v p : Nat} (hv : v < 10) (hp : p < 1024) : pt (fun i => twd f i v) p = pt f (p ^^^ bitN v) := by
  unfold pt
  by_cases h4 : v < 4
  · obtain ⟨e1, e2⟩ := ptx_a v h4 p hp
    rw [e1, e2]
    simp only [twd, if_pos h4]
  · obtain ⟨e1, e2⟩ := ptx_b v hv (by omega) p hp
    obtain ⟨b1, b2, b3⟩ := ptx_c v hv (by omega)
    obtain ⟨c1, c2⟩ := b3 (p % 64) (by omega)
    rw [e1, e2]
    simp only [twd, if_neg h4]
    generalize f (p / 64) = w
    have hj : p % 64 < 64 := Nat.mod_lt _ (by decide)
    generalize p % 64 = j at c1 c2 hj ⊢
    rw [tb_or, tb_ush _ b1, tb_and, tb_and, tb_lsh _ b1 hj, tb_bv (v - 4) (by omega) j hj, b2]
    cases h : j.testBit (9 - v)
    · obtain ⟨d1, d2, d3⟩ := c2 h
      rw [tb_bv (v - 4) (by omega) _ d2, b2, d3, ← d1]
      simp
    · obtain ⟨d1, d2, d3⟩ := c1 h
      rw [← d2]
      by_cases z : bitN v + j < 64
      · rw [tb_bv (v - 4) (by omega) _ z, b2, d3 z]
        simp [d1]
      · rw [tb_big w (by omega)]
        simp [d1]
theorem pt_vw {v p : Nat} (hv : v < 10) (hp : p < 1024) : pt (fun i => vwd v i) p = p.testBit (9 - v) := by
  unfold pt
  by_cases h4 : v < 4
  · simp only [vwd, if_pos h4]
    rw [tb_spr (Nat.mod_lt _ (by decide)) (by omega) (by omega), vw_a v h4 p hp]
  · simp only [vwd, if_neg h4]
    rw [tb_bv (v - 4) (by omega) _ (Nat.mod_lt _ (by decide)), vw_b v hv (by omega) p hp]
theorem wth_x {v p : Nat} {t : Bool} (hv : v < 10) (hp : p < 1024) : wth p v t = if (t ^^ p.testBit (9 - v)) then p ^^^ bitN v else p := by
  obtain ⟨h1, h2⟩ := wth_eq v hv p hp
  cases t
  · rw [h2]; cases p.testBit (9 - v) <;> rfl
  · rw [h1]; cases p.testBit (9 - v) <;> rfl
theorem pt_pk3 (a b c : Nat → Int64) (p : Nat) : pt (fun i => pk3 (a i) (b i) (c i)) p = if pt a p then pt b p else pt c p := by
  unfold pt
  exact tb_pk3 _ _ _ (Nat.mod_lt _ (by decide))
theorem pt_ww {A tw : Nat → Int64} {v p : Nat} (hv : v < 10) (hp : p < 1024) : pt (fun i => wwd A i v (tw i)) p = pt A (wth p v (pt tw p)) := by
  have e : pt (fun i => wwd A i v (tw i)) p = if (pt tw p ^^ p.testBit (9 - v)) then pt A (p ^^^ bitN v) else pt A p := by
    have h := pt_pk3 (fun i => tw i ^^^ vwd v i) (fun i => twd A i v) A p
    have hx : pt (fun i => tw i ^^^ vwd v i) p = (pt tw p ^^ p.testBit (9 - v)) := by
      rw [← pt_vw hv hp]
      unfold pt
      exact tb_xor _ _ _
    rw [hx, pt_tw hv hp] at h
    exact h
  rw [e, wth_x hv hp]
  split <;> rfl
theorem pt_c (t : Bool) (p : Nat) : pt (fun _ => if t then -1 else 0) p = t := by
  unfold pt
  cases t
  · exact tb_0 _
  · exact tb_m1 (Nat.mod_lt _ (by decide))
theorem pt_jn {A B : Nat → Int64} {h p : Nat} (hh : h < 16) : pt (fun i => jnw (A i) (B i) h) p = ((h / 2 ^ ((if pt A p then 2 else 0) + (if pt B p then 1 else 0))) % 2 == 1) := by
  have hj : p % 64 < 64 := Nat.mod_lt _ (by decide)
  have key : ∀ h, h < 16 → ∀ k, k < 4 → (h / 2 ^ k % 2 == 1) = h.testBit k := by decide +kernel
  unfold pt
  simp only [jnw]
  rw [tb_or, tb_or, tb_or, tb_and, tb_and, tb_and, tb_and, tb_and, tb_and, tb_and, tb_and, tb_xor, tb_xor, tb_m1 hj, tb_spr hj hh (by decide), tb_spr hj hh (by decide), tb_spr hj hh (by decide), tb_spr hj hh (by decide)]
  cases tb (A (p / 64)) (p % 64) <;> cases tb (B (p / 64)) (p % 64) <;> simp only [if_true, if_false, Bool.false_eq_true] <;> rw [key h hh _ (by decide)] <;> simp
theorem bit_x {v z p : Nat} (hv : v < 10) (hz : z < 10) (hne : v ≠ z) : (p ^^^ bitN v).testBit (9 - z) = p.testBit (9 - z) := by
  rw [Nat.testBit_xor, bitN_pow, Nat.testBit_two_pow]
  simp [show ¬ 9 - v = 9 - z by omega]
theorem bitN_1024 {v : Nat} : bitN v < 1024 := by have := bitN_le v; omega
theorem pt_sw {A : Nat → Int64} {v z p : Nat} (hv : v < 10) (hz : z < 10) (hp : p < 1024) : pt (fun i => pk3 (vwd v i ^^^ vwd z i) (twd (fun j => twd A j v) i z) (A i)) p = pt A (wth (wth p v ((p &&& bitN z) != 0)) z ((p &&& bitN v) != 0)) := by
  have h := pt_pk3 (fun i => vwd v i ^^^ vwd z i) (fun i => twd (fun j => twd A j v) i z) A p
  have hx : pt (fun i => vwd v i ^^^ vwd z i) p = (p.testBit (9 - v) ^^ p.testBit (9 - z)) := by
    rw [← pt_vw hv hp, ← pt_vw hz hp]
    unfold pt
    exact tb_xor _ _ _
  rw [hx, pt_tw hz hp, pt_tw hv (xor1024 hp bitN_1024)] at h
  rw [h, bit_ne0 z hz p hp, bit_ne0 v hv p hp, wth_x hv hp]
  by_cases hne : v = z
  · subst hne
    rw [Bool.xor_self]
    simp only [if_false, Bool.false_eq_true]
    rw [wth_x hv hp, Bool.xor_self]
    simp
  · rw [Bool.xor_comm (p.testBit (9 - v))]
    cases hb : (p.testBit (9 - z) ^^ p.testBit (9 - v))
    · simp only [if_false, Bool.false_eq_true]
      rw [wth_x hz hp, Bool.xor_comm, hb]
      simp
    · simp only [if_true]
      rw [wth_x hz (xor1024 hp bitN_1024), bit_x hv hz hne, Bool.xor_comm, hb]
      simp only [if_true]
      rw [Nat.xor_assoc, Nat.xor_assoc, Nat.xor_comm (bitN z)]
