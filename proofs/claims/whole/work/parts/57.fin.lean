theorem ptx_a : ∀ v, v < 4 → ∀ p, p < 1024 → (p ^^^ bitN v) / 64 = (p / 64) ^^^ (1 * 2 ^ (3 - v)) ∧ (p ^^^ bitN v) % 64 = p % 64 := by decide +kernel
theorem ptx_b : ∀ v, v < 10 → 4 ≤ v → ∀ p, p < 1024 → (p ^^^ bitN v) / 64 = p / 64 ∧ (p ^^^ bitN v) % 64 = (p % 64) ^^^ bitN v := by decide +kernel
theorem ptx_c0 : ∀ v, v < 10 → 4 ≤ v → bitN v < 64 ∧ 5 - (v - 4) = 9 - v := by decide +kernel
theorem ptx_c1 : ∀ v, v < 10 → 4 ≤ v → ∀ j, j < 64 → j.testBit (9 - v) = true → bitN v ≤ j ∧ j - bitN v = j ^^^ bitN v := by decide +kernel
theorem ptx_c3 : ∀ v, v < 10 → 4 ≤ v → ∀ j, j < 64 → j.testBit (9 - v) = true → (bitN v + j).testBit (9 - v) = false := by decide +kernel
theorem ptx_c2 : ∀ v, v < 10 → 4 ≤ v → ∀ j, j < 64 → j.testBit (9 - v) = false → bitN v + j = j ^^^ bitN v ∧ bitN v + j < 64 ∧ (bitN v + j).testBit (9 - v) = true := by decide +kernel
theorem ptx_c (v : Nat) (hv : v < 10) (h4 : 4 ≤ v) : bitN v < 64 ∧ 5 - (v - 4) = 9 - v ∧ ∀ j, j < 64 → (j.testBit (9 - v) = true → bitN v ≤ j ∧ j - bitN v = j ^^^ bitN v ∧ (bitN v + j < 64 → (bitN v + j).testBit (9 - v) = false)) ∧ (j.testBit (9 - v) = false → bitN v + j = j ^^^ bitN v ∧ bitN v + j < 64 ∧ (bitN v + j).testBit (9 - v) = true) :=
  ⟨(ptx_c0 v hv h4).1, (ptx_c0 v hv h4).2, fun j hj => ⟨fun h => ⟨(ptx_c1 v hv h4 j hj h).1, (ptx_c1 v hv h4 j hj h).2, fun _ => ptx_c3 v hv h4 j hj h⟩, fun h => ptx_c2 v hv h4 j hj h⟩⟩
theorem vw_a : ∀ v, v < 4 → ∀ p, p < 1024 → (p / 64).testBit (3 - v) = p.testBit (9 - v) := by decide +kernel
theorem vw_b : ∀ v, v < 10 → 4 ≤ v → ∀ p, p < 1024 → (p % 64).testBit (5 - (v - 4)) = p.testBit (9 - v) := by decide +kernel
theorem bit_ne0 : ∀ v, v < 10 → ∀ p, p < 1024 → ((p &&& bitN v) != 0) = p.testBit (9 - v) := by decide +kernel
theorem wth_eq : ∀ v, v < 10 → ∀ p, p < 1024 → wth p v true = (if p.testBit (9 - v) then p else p ^^^ bitN v) ∧ wth p v false = (if p.testBit (9 - v) then p ^^^ bitN v else p) := by decide +kernel
