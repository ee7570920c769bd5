/-! what the Statement gives of the law's start: statics, strings, classes apart -/
abbrev tBV : Term := .static "FunctionDesk" "BIT_VARIABLES" "[J"
theorem ngL_in : ∀ w ∈ ngL, w ∈ lw_tbl := by decide +kernel
theorem tin_bv : Cond.laysStatic "FunctionDesk" "BIT_VARIABLES" "[J" ∈ lw_tbl := by decide +kernel
theorem tin_us : Cond.laysStatic "java/lang/Throwable" "UNASSIGNED_STACK" "[Ljava/lang/StackTraceElement;" ∈ lw_tbl := by decide +kernel
theorem tin_ss : Cond.laysStatic "java/lang/Throwable" "SUPPRESSED_SENTINEL" "Ljava/util/List;" ∈ lw_tbl := by decide +kernel
theorem tin_i1 : Cond.initialized "FunctionDesk" ∈ lw_tbl := by decide +kernel
theorem tin_i2 : Cond.initialized "FunctionDeskModel" ∈ lw_tbl := by decide +kernel
theorem tin_it : Cond.initialized "java/lang/Throwable" ∈ lw_tbl := by decide +kernel
theorem tin_n0 : Cond.instantiable RX0 5 ∈ lw_tbl := by decide +kernel
theorem tin_n1 : Cond.instantiable RX1 6 ∈ lw_tbl := by decide +kernel
theorem tin_n2 : Cond.instantiable RX2 4 ∈ lw_tbl := by decide +kernel
theorem tin_ao : Cond.arrayOver (.array .long) ∈ lw_tbl := by decide +kernel
theorem tin_al : Cond.arrayClass .long ∈ lw_tbl := by decide +kernel
theorem tin_c1 : Cond.classLink RL 8 RX1 ∈ lw_tbl := by decide +kernel
theorem tin_c2 : Cond.classLink RL 73 RX2 ∈ lw_tbl := by decide +kernel
theorem tin_m1 : Cond.methodLink RL 72 yX1_init ∈ lw_tbl := by decide +kernel
theorem tin_m2 : Cond.methodLink RL 75 yX2_init ∈ lw_tbl := by decide +kernel
theorem tin_s1 : Cond.instanceMethod yX1_init ∈ lw_tbl := by decide +kernel
theorem tin_s2 : Cond.instanceMethod yX2_init ∈ lw_tbl := by decide +kernel
theorem gin_len : Cond.eq (.length tBV) (.int 6) ∈ flatC (Jvm.Cond.and given_1 narrow_1) := by decide +kernel
theorem gin_arr : Cond.arrayOf tBV .long ∈ flatC (Jvm.Cond.and given_1 narrow_1) := by decide +kernel
theorem gin_us : Cond.isRef (.static "java/lang/Throwable" "UNASSIGNED_STACK" "[Ljava/lang/StackTraceElement;") ∈ flatC (Jvm.Cond.and given_1 narrow_1) := by decide +kernel
theorem gin_ss : Cond.isRef (.static "java/lang/Throwable" "SUPPRESSED_SENTINEL" "Ljava/util/List;") ∈ flatC (Jvm.Cond.and given_1 narrow_1) := by decide +kernel
theorem gin_nc : Cond.not (.castable "java/lang/IllegalArgumentException" "java/lang/IndexOutOfBoundsException") ∈ flatC (Jvm.Cond.and given_1 narrow_1) := by decide +kernel
theorem gin_el : ∀ j : Nat, j < 6 → Cond.eq (.elem tBV (.int (Int32.ofNat j))) (.long (bvL j)) ∈ flatC (Jvm.Cond.and given_1 narrow_1) := by
  intro j hj
  rcases (show j = 0 ∨ j = 1 ∨ j = 2 ∨ j = 3 ∨ j = 4 ∨ j = 5 by omega) with rfl | rfl | rfl | rfl | rfl | rfl <;> decide +kernel
theorem tin_str : ∀ x ∈ strL, Cond.stringRef RX1 x.1 x.2 ∈ lw_tbl := by decide +kernel
theorem gin_str : ∀ x ∈ strL, Cond.exactly (.string RX1 x.1) "java/lang/String" ∈ flatC (Jvm.Cond.and given_1 narrow_1) := by decide +kernel
theorem bv_ref {s : State} {b : Nat} (hgv : (Jvm.Cond.and given_1 narrow_1).before #[Value.ref b] s = true) : ∃ t : Nat, tBV.eval #[Value.ref b] s none [] s = some (.ref t) := by
  obtain ⟨t, cell, ht, -⟩ := Term.length_spec (va_eqt (flat_of_before _ hgv _ gin_len))
  exact ⟨t, ht⟩
theorem zq_of {args : Array Value} {s : State} {C n d : String} {A : Nat → Prop} (hl : (Cond.laysStatic C n d).before args s = true) (hini : (Cond.initialized C).before args s = true) (h : (Cond.isRef (.static C n d)).before args s = true) (hA : ∀ a : Nat, a < s.heap.size → ¬ A a) : vx_Zq C n d A s s.heap := by
  refine ⟨va_Zqof hl hini h hA, ?_⟩
  obtain ⟨c, k, i, f, a, cell, hc, hi, hst, ha, hcell, hs, hcls, hlt, hty⟩ := Cond.laysStatic_spec hl
  exact ⟨c, k, i, f, a, cell, hc, hi, hst, ha, hcell, hs, hcls, hlt, hty, hA a (Array.getElem?_eq_some_iff.mp hcell).1⟩
theorem fx_of {s : State} {b : Nat} {g : Geo} (hts : ∀ w ∈ lw_tbl, w.before #[Value.ref b] s = true) (hgv : (Jvm.Cond.and given_1 narrow_1).before #[Value.ref b] s = true) (hK : va_K (gD g) vwCl (tysG g) s) (hd : ∀ i j : Nat, i < 62 → j < 62 → gA g i = gA g j → i = j) (hA : ∀ a : Nat, a < s.heap.size → ¬ gW g a) (hB : tBV.eval #[Value.ref b] s none [] s = some (.ref (gB g))) : Fx g s := by
  have hs := flat_of_before _ hgv
  refine ⟨hK, hd, va_Zref (hts _ tin_bv) (hts _ tin_i1) hB hA, ?_, zq_of (hts _ tin_us) (hts _ tin_it) (hs _ gin_us) hA, zq_of (hts _ tin_ss) (hts _ tin_it) (hs _ gin_ss) hA, ?_, va_Nc.of (hs _ gin_nc), fun w hw => va_Nw.of (ngL_on w hw) (hts w (ngL_in w hw))⟩
  · obtain ⟨t, ht, h⟩ := va_Tof (tm := tBV) (ty := .long) (N := 6) (f := fun j => .long (bvL j)) (by decide) (hs _ gin_arr) (va_eqt (hs _ gin_len)) (fun j hj => va_eqtl (hs _ (gin_el j hj))) hA
    have e : t = gB g := Value.ref.inj (Option.some.inj (ht.symm.trans hB))
    rw [← e]
    exact h
  · intro x hx
    obtain ⟨a, -, -, -, ha, -⟩ := Cond.exactly_spec (args := #[Value.ref b]) (first := s) (o := none) (idx := []) (s := s) (hs _ (gin_str x hx))
    exact ⟨a, vk_R.of (hts _ (tin_str x hx)) ha⟩
