theorem cel_int (cA : ClassId) (n : Nat) : vp_cell cA (n, .inl (fun _ => 0)) = arrV cA n (fun _ => defaultValue .int) := rfl
theorem cel_boolean (cA : ClassId) (n : Nat) : vp_cell cA (n, .inl (fun _ => 0)) = arrV cA n (fun _ => defaultValue .boolean) := rfl
theorem cel_long (cA : ClassId) (n : Nat) : vp_cell cA (n, .inr (.inl (fun _ => 0))) = arrV cA n (fun _ => defaultValue .long) := rfl
theorem nb_boolean_1024 : 1024 * componentBytes .boolean ≤ 536870912 := by decide +kernel
theorem nb_boolean_49152 : 49152 * componentBytes .boolean ≤ 536870912 := by decide +kernel
theorem nb_int_48 : 48 * componentBytes .int ≤ 536870912 := by decide +kernel
theorem nb_int_4096 : 4096 * componentBytes .int ≤ 536870912 := by decide +kernel
theorem nb_int_24576 : 24576 * componentBytes .int ≤ 536870912 := by decide +kernel
theorem nb_long_16 : 16 * componentBytes .long ≤ 536870912 := by decide +kernel
theorem nn_16 : ¬ (16 : Int32) < 0 := by decide +kernel
theorem nc_16 : (16 : Int32).toNatClampNeg = 16 := by decide +kernel
theorem nn_48 : ¬ (48 : Int32) < 0 := by decide +kernel
theorem nc_48 : (48 : Int32).toNatClampNeg = 48 := by decide +kernel
theorem nn_1024 : ¬ (1024 : Int32) < 0 := by decide +kernel
theorem nc_1024 : (1024 : Int32).toNatClampNeg = 1024 := by decide +kernel
theorem nn_4096 : ¬ (4096 : Int32) < 0 := by decide +kernel
theorem nc_4096 : (4096 : Int32).toNatClampNeg = 4096 := by decide +kernel
theorem nn_24576 : ¬ (24576 : Int32) < 0 := by decide +kernel
theorem nc_24576 : (24576 : Int32).toNatClampNeg = 24576 := by decide +kernel
theorem nn_49152 : ¬ (49152 : Int32) < 0 := by decide +kernel
theorem nc_49152 : (49152 : Int32).toNatClampNeg = 49152 := by decide +kernel
set_option maxHeartbeats 4000000 in
set_option maxRecDepth 100000 in
theorem i_X0_init (l : Launch) (D : va_G) (h0 sz : Nat) : Met l yX0_init wsX0_init ({ frames := 1, cells := 2, slots := 8192, locals := 12 }) (va_Pc [.ref h0] (fun U => U.heap.size = sz ∧ va_P D vwCl [(h0, .inr (0, [.null, .int 0, .int 0, .null, .int 0]))] U.heap ∧ va_K D vwCl [] U ∧ va_D (fun _ => True) [(h0, .inr (0, [.null, .int 0, .int 0, .null, .int 0]))])) (va_Qv (fun _ : Unit => True) (fun _ t => ∃ (q1 q2 : Nat) (c1 : ClassId), va_P D vwCl [(h0, .inr (0, [.ref q1, .int 0, .int 0, .ref q2, .int 1])), (q1, .inl (c1, 4096, .inl (fun _ => 0))), (q2, .inl (c1, 4096, .inl (fun _ => 0)))] t.heap ∧ va_K D vwCl [(c1, .int)] t ∧ va_D (va_A [(h0, .inr (0, [.null, .int 0, .int 0, .null, .int 0]))] sz) [(h0, .inr (0, [.ref q1, .int 0, .int 0, .ref q2, .int 1])), (q1, .inl (c1, 4096, .inl (fun _ => 0))), (q2, .inl (c1, 4096, .inl (fun _ => 0)))]) (va_A [(h0, .inr (0, [.null, .int 0, .int 0, .null, .int 0]))] sz)) 2 8192 (va_A [(h0, .inr (0, [.null, .int 0, .int 0, .null, .int 0]))] sz) := by
  refine Met.ofW (cc := cX0_init) (maxL := 1) (ret := none) (by decide) rfl ?_
  intro p e s m args below meth c s₁ B hml hv
  obtain ⟨rfl, hsz, hP, hK, hD0⟩ := hv
  obtain ⟨R0, hR0, hRc, hRs⟩ : ∃ R0 : Room, (headSpec wsX0_init ({ frames := 1, cells := 2, slots := 8192, locals := 12 })).room = R0 ∧ R0.cells = 2 ∧ R0.slots = 8192 := ⟨_, rfl, rfl, rfl⟩
  have hRf : R0.frames = 1 ∧ R0.locals = 12 := by rw [← hR0]; exact ⟨rfl, rfl⟩
  rw [hR0]
  have hx := B.exec
  have hb := B.bytes
  have hr := B.returns
  have hts := atoms_spec (ws := wsX0_init) B.pre
  have hown : s.vm.findClass RX0 = some m.cls := findClass_of_methodNamed B.named
  have hlocks := B.notSynchronized
  have hin : meth.name = "<init>" := (name_of_methodNamed B.named B.method).1
  subst hsz
  have hD := hD0.self (sz := s.heap.size)
  generalize hAe : va_A [(h0, .inr (0, [.null, .int 0, .int 0, .null, .int 0]))] s.heap.size = A at hD ⊢
  have hA : ∀ q : Nat, s.heap.size ≤ q → A q := fun q h => by rw [← hAe]; exact Or.inr h
  have hS : va_S A s.heap s.heap [] := va_S.rf
  have hP : va_P D vwCl [(h0, .inr (0, [.null, .int 0, .int 0, .null, .int 0]))] s.heap := hP
  have hl := lv_entry ([.ref h0]) (n := 1) (Nat.le_of_ble_eq_true rfl)
  rw [lg_entry_eq]
  generalize (lg_sl ([.ref h0]) ++ List.replicate (1 - (lg_sl ([.ref h0])).length) Slot.unset).toArray = ls at hl ⊢
  have hl : lv_has ls 1 [(0, .ref h0)] := hl
  refine lv_aload_n hx hb dX0_init_0 rfl (lv_at hl 0 rfl) ?_
  refine W.objInit hx hb hown (hts (.methodLink RX0 3 objectInit) (by decide +kernel)) (hts (.instanceMethod objectInit) (by decide +kernel)) (hts _ (List.mem_cons_of_mem _ (List.mem_append_left _ (List.mem_of_getElem? (i := 2) rfl)))) rfl (by rw [hml]; exact hl.1) rfl dX0_init_1 (by rw [hRf.1]; exact Nat.le_of_ble_eq_true rfl) (by rw [hRf.2]; exact Nat.le_of_ble_eq_true rfl) ?_
  refine W.eq (g2 := F0 m 4 ls []) rfl ?_
  refine lv_aload_n hx hb dX0_init_4 rfl (lv_at hl 0 rfl) ?_
  refine lv_sipush (v := 4096) hx hb dX0_init_5 (by decide) ?_
  have b1 : 4096 * componentBytes .int ≤ 536870912 := nb_int_4096
  have b2 : 0 + 1 ≤ R0.cells := by rw [hRc]; decide
  have b3 : 0 + 4096 ≤ R0.slots := by rw [hRs]; decide
  refine va_newa (atype := .int) (ty := .int) (a0 := (4096, .inl (fun _ => 0))) (N' := 4096) hx hb (hts (.arrayClass .int) (by decide +kernel)) rfl hK hP hD hS hA (fun cA => cel_int cA 4096) nn_4096 nc_4096 b1 b2 b3 dX0_init_8 (fun q1 c1 H hK hP hD hS => ?_)
  refine W.widen (k := 1) (n := 4096) (Nat.le_refl 1) (Nat.le_refl 4096) ?_
  have hK : va_K D vwCl [(c1, .int)] s := hK
  have hP : va_P D vwCl [(h0, .inr (0, [.null, .int 0, .int 0, .null, .int 0])), (q1, .inl (c1, 4096, .inl (fun _ => 0)))] H := hP
  have hD : va_D A [(h0, .inr (0, [.null, .int 0, .int 0, .null, .int 0])), (q1, .inl (c1, 4096, .inl (fun _ => 0)))] := hD
  refine va_putF (D := D) (ci := 0) (v := .ref q1) (ty := .array .int) (C := RX0) (T := TX0) (N := 5) hx hb hts (by decide +kernel) tyX0 tyX0_ok nmX0 hown hK hP hD hS 0 rfl rfl 0 (by decide) (hts (.fieldLink RX0 11 "FunctionDesk$Ruler" "waiting" "[I") (by decide +kernel)) (fun _ h9 => h9) rfl hin rfl (by decide +kernel) rfl rfl (Nat.le_of_ble_eq_true rfl) dX0_init_10 (fun H locs hP hD hS => ?_)
  have hP : va_P D vwCl [(h0, .inr (0, [.ref q1, .int 0, .int 0, .null, .int 0])), (q1, .inl (c1, 4096, .inl (fun _ => 0)))] H := hP
  have hD : va_D A [(h0, .inr (0, [.ref q1, .int 0, .int 0, .null, .int 0])), (q1, .inl (c1, 4096, .inl (fun _ => 0)))] := hD
  refine lv_aload_n hx hb dX0_init_13 rfl (lv_at hl 0 rfl) ?_
  refine lv_sipush (v := 4096) hx hb dX0_init_14 (by decide) ?_
  have b1 : 4096 * componentBytes .int ≤ 536870912 := nb_int_4096
  have b2 : 1 + 1 ≤ R0.cells := by rw [hRc]; decide
  have b3 : 4096 + 4096 ≤ R0.slots := by rw [hRs]; decide
  refine va_newa (atype := .int) (ty := .int) (a0 := (4096, .inl (fun _ => 0))) (N' := 4096) hx hb (hts (.arrayClass .int) (by decide +kernel)) rfl hK hP hD hS hA (fun cA => cel_int cA 4096) nn_4096 nc_4096 b1 b2 b3 dX0_init_17 (fun q2 c2 H hK hP hD hS => ?_)
  refine W.widen (k := 2) (n := 8192) (Nat.le_refl 2) (Nat.le_refl 8192) ?_
  have hK : va_K D vwCl [(c1, .int), (c2, .int)] s := hK
  have hP : va_P D vwCl [(h0, .inr (0, [.ref q1, .int 0, .int 0, .null, .int 0])), (q1, .inl (c1, 4096, .inl (fun _ => 0))), (q2, .inl (c2, 4096, .inl (fun _ => 0)))] H := hP
  have hD : va_D A [(h0, .inr (0, [.ref q1, .int 0, .int 0, .null, .int 0])), (q1, .inl (c1, 4096, .inl (fun _ => 0))), (q2, .inl (c2, 4096, .inl (fun _ => 0)))] := hD
  refine va_putF (D := D) (ci := 0) (v := .ref q2) (ty := .array .int) (C := RX0) (T := TX0) (N := 5) hx hb hts (by decide +kernel) tyX0 tyX0_ok nmX0 hown hK hP hD hS 0 rfl rfl 3 (by decide) (hts (.fieldLink RX0 15 "FunctionDesk$Ruler" "seats" "[I") (by decide +kernel)) (fun _ h9 => h9) rfl hin rfl (by decide +kernel) rfl rfl (Nat.le_of_ble_eq_true rfl) dX0_init_19 (fun H locs hP hD hS => ?_)
  have hP : va_P D vwCl [(h0, .inr (0, [.ref q1, .int 0, .int 0, .ref q2, .int 0])), (q1, .inl (c1, 4096, .inl (fun _ => 0))), (q2, .inl (c2, 4096, .inl (fun _ => 0)))] H := hP
  have hD : va_D A [(h0, .inr (0, [.ref q1, .int 0, .int 0, .ref q2, .int 0])), (q1, .inl (c1, 4096, .inl (fun _ => 0))), (q2, .inl (c2, 4096, .inl (fun _ => 0)))] := hD
  refine lv_aload_n hx hb dX0_init_22 rfl (lv_at hl 0 rfl) ?_
  refine lv_iconst (v := 0) hx hb dX0_init_23 (by decide) ?_
  refine va_put (D := D) (ci := 0) (v := .int 0) (ty := .int) (C := RX0) (T := TX0) (N := 5) hx hb hts (by decide +kernel) tyX0 tyX0_ok nmX0 hown hK hP hD hS 0 rfl rfl 1 (by decide) (hts (.fieldLink RX0 18 "FunctionDesk$Ruler" "first" "I") (by decide +kernel)) (fun _ h9 => h9) rfl (by decide +kernel) rfl rfl (Nat.le_of_ble_eq_true rfl) dX0_init_24 (fun H locs hP hD hS => ?_)
  have hP : va_P D vwCl [(h0, .inr (0, [.ref q1, .int 0, .int 0, .ref q2, .int 0])), (q1, .inl (c1, 4096, .inl (fun _ => 0))), (q2, .inl (c2, 4096, .inl (fun _ => 0)))] H := hP
  have hD : va_D A [(h0, .inr (0, [.ref q1, .int 0, .int 0, .ref q2, .int 0])), (q1, .inl (c1, 4096, .inl (fun _ => 0))), (q2, .inl (c2, 4096, .inl (fun _ => 0)))] := hD
  refine lv_aload_n hx hb dX0_init_27 rfl (lv_at hl 0 rfl) ?_
  refine lv_iconst (v := 0) hx hb dX0_init_28 (by decide) ?_
  refine va_put (D := D) (ci := 0) (v := .int 0) (ty := .int) (C := RX0) (T := TX0) (N := 5) hx hb hts (by decide +kernel) tyX0 tyX0_ok nmX0 hown hK hP hD hS 0 rfl rfl 2 (by decide) (hts (.fieldLink RX0 22 "FunctionDesk$Ruler" "length" "I") (by decide +kernel)) (fun _ h9 => h9) rfl (by decide +kernel) rfl rfl (Nat.le_of_ble_eq_true rfl) dX0_init_29 (fun H locs hP hD hS => ?_)
  have hP : va_P D vwCl [(h0, .inr (0, [.ref q1, .int 0, .int 0, .ref q2, .int 0])), (q1, .inl (c1, 4096, .inl (fun _ => 0))), (q2, .inl (c2, 4096, .inl (fun _ => 0)))] H := hP
  have hD : va_D A [(h0, .inr (0, [.ref q1, .int 0, .int 0, .ref q2, .int 0])), (q1, .inl (c1, 4096, .inl (fun _ => 0))), (q2, .inl (c2, 4096, .inl (fun _ => 0)))] := hD
  refine lv_aload_n hx hb dX0_init_32 rfl (lv_at hl 0 rfl) ?_
  refine lv_iconst (v := 1) hx hb dX0_init_33 (by decide) ?_
  refine va_put (D := D) (ci := 0) (v := .int 1) (ty := .int) (C := RX0) (T := TX0) (N := 5) hx hb hts (by decide +kernel) tyX0 tyX0_ok nmX0 hown hK hP hD hS 0 rfl rfl 4 (by decide) (hts (.fieldLink RX0 25 "FunctionDesk$Ruler" "seatsUsed" "I") (by decide +kernel)) (fun _ h9 => h9) rfl (by decide +kernel) rfl rfl (Nat.le_of_ble_eq_true rfl) dX0_init_34 (fun H locs hP hD hS => ?_)
  have hP : va_P D vwCl [(h0, .inr (0, [.ref q1, .int 0, .int 0, .ref q2, .int 1])), (q1, .inl (c1, 4096, .inl (fun _ => 0))), (q2, .inl (c2, 4096, .inl (fun _ => 0)))] H := hP
  have hD : va_D A [(h0, .inr (0, [.ref q1, .int 0, .int 0, .ref q2, .int 1])), (q1, .inl (c1, 4096, .inl (fun _ => 0))), (q2, .inl (c2, 4096, .inl (fun _ => 0)))] := hD
  have e9 : some c1 = some c2 := (show s.vm.findClass _ = some c1 from (hK.2 0 _ rfl).2).symm.trans (show s.vm.findClass _ = some c2 from (hK.2 1 _ rfl).2)
  cases Option.some.inj e9
  refine W.widen (k := 2) (n := 8192) (Nat.le_refl 2) (Nat.le_refl 8192) ?_
  exact W.vret hx hb hr (fun t ht hW => ⟨⟨(), rfl, trivial, q1, q2, c1, by rw [ht]; exact hP, va_K.moved hW.alike (hK.sub (tys' := [(c1, .int)]) [0] rfl), hD⟩, hS.F ht⟩) hS.2.2 dX0_init_37
set_option maxHeartbeats 4000000 in
set_option maxRecDepth 100000 in
theorem i_X2_init (l : Launch) (D : va_G) (h0 sz : Nat) : Met l yX2_init wsX2_init ({ frames := 1, cells := 3, slots := 74752, locals := 12 }) (va_Pc [.ref h0] (fun U => U.heap.size = sz ∧ va_P D vwCl [(h0, .inr (2, [.int 0, .null, .null, .null]))] U.heap ∧ va_K D vwCl [] U ∧ va_D (fun _ => True) [(h0, .inr (2, [.int 0, .null, .null, .null]))])) (va_Qv (fun _ : Unit => True) (fun _ t => ∃ (q1 q2 q3 : Nat) (c1 c3 : ClassId), va_P D vwCl [(h0, .inr (2, [.int 0, .ref q1, .ref q2, .ref q3])), (q1, .inl (c1, 49152, .inl (fun _ => 0))), (q2, .inl (c1, 1024, .inl (fun _ => 0))), (q3, .inl (c3, 24576, .inl (fun _ => 0)))] t.heap ∧ va_K D vwCl [(c1, .boolean), (c3, .int)] t ∧ va_D (va_A [(h0, .inr (2, [.int 0, .null, .null, .null]))] sz) [(h0, .inr (2, [.int 0, .ref q1, .ref q2, .ref q3])), (q1, .inl (c1, 49152, .inl (fun _ => 0))), (q2, .inl (c1, 1024, .inl (fun _ => 0))), (q3, .inl (c3, 24576, .inl (fun _ => 0)))]) (va_A [(h0, .inr (2, [.int 0, .null, .null, .null]))] sz)) 3 74752 (va_A [(h0, .inr (2, [.int 0, .null, .null, .null]))] sz) := by
  refine Met.ofW (cc := cX2_init) (maxL := 1) (ret := none) (by decide) rfl ?_
  intro p e s m args below meth c s₁ B hml hv
  obtain ⟨rfl, hsz, hP, hK, hD0⟩ := hv
  obtain ⟨R0, hR0, hRc, hRs⟩ : ∃ R0 : Room, (headSpec wsX2_init ({ frames := 1, cells := 3, slots := 74752, locals := 12 })).room = R0 ∧ R0.cells = 3 ∧ R0.slots = 74752 := ⟨_, rfl, rfl, rfl⟩
  have hRf : R0.frames = 1 ∧ R0.locals = 12 := by rw [← hR0]; exact ⟨rfl, rfl⟩
  rw [hR0]
  have hx := B.exec
  have hb := B.bytes
  have hr := B.returns
  have hts := atoms_spec (ws := wsX2_init) B.pre
  have hown : s.vm.findClass RX2 = some m.cls := findClass_of_methodNamed B.named
  have hlocks := B.notSynchronized
  have hin : meth.name = "<init>" := (name_of_methodNamed B.named B.method).1
  subst hsz
  have hD := hD0.self (sz := s.heap.size)
  generalize hAe : va_A [(h0, .inr (2, [.int 0, .null, .null, .null]))] s.heap.size = A at hD ⊢
  have hA : ∀ q : Nat, s.heap.size ≤ q → A q := fun q h => by rw [← hAe]; exact Or.inr h
  have hS : va_S A s.heap s.heap [] := va_S.rf
  have hP : va_P D vwCl [(h0, .inr (2, [.int 0, .null, .null, .null]))] s.heap := hP
  have hl := lv_entry ([.ref h0]) (n := 1) (Nat.le_of_ble_eq_true rfl)
  rw [lg_entry_eq]
  generalize (lg_sl ([.ref h0]) ++ List.replicate (1 - (lg_sl ([.ref h0])).length) Slot.unset).toArray = ls at hl ⊢
  have hl : lv_has ls 1 [(0, .ref h0)] := hl
  refine lv_aload_n hx hb dX2_init_0 rfl (lv_at hl 0 rfl) ?_
  refine W.objInit hx hb hown (hts (.methodLink RX2 1 objectInit) (by decide +kernel)) (hts (.instanceMethod objectInit) (by decide +kernel)) (hts _ (List.mem_cons_of_mem _ (List.mem_append_left _ (List.mem_of_getElem? (i := 2) rfl)))) rfl (by rw [hml]; exact hl.1) rfl dX2_init_1 (by rw [hRf.1]; exact Nat.le_of_ble_eq_true rfl) (by rw [hRf.2]; exact Nat.le_of_ble_eq_true rfl) ?_
  refine W.eq (g2 := F0 m 4 ls []) rfl ?_
  refine lv_aload_n hx hb dX2_init_4 rfl (lv_at hl 0 rfl) ?_
  refine lv_ldc (v := 49152) hx hb hown (hts (.constant RX2 7 (49152)) (by decide +kernel)) dX2_init_5 ?_
  have b1 : 49152 * componentBytes .boolean ≤ 536870912 := nb_boolean_49152
  have b2 : 0 + 1 ≤ R0.cells := by rw [hRc]; decide
  have b3 : 0 + 49152 ≤ R0.slots := by rw [hRs]; decide
  refine va_newa (atype := .boolean) (ty := .boolean) (a0 := (49152, .inl (fun _ => 0))) (N' := 49152) hx hb (hts (.arrayClass .boolean) (by decide +kernel)) rfl hK hP hD hS hA (fun cA => cel_boolean cA 49152) nn_49152 nc_49152 b1 b2 b3 dX2_init_7 (fun q1 c1 H hK hP hD hS => ?_)
  refine W.widen (k := 1) (n := 49152) (Nat.le_refl 1) (Nat.le_refl 49152) ?_
  have hK : va_K D vwCl [(c1, .boolean)] s := hK
  have hP : va_P D vwCl [(h0, .inr (2, [.int 0, .null, .null, .null])), (q1, .inl (c1, 49152, .inl (fun _ => 0)))] H := hP
  have hD : va_D A [(h0, .inr (2, [.int 0, .null, .null, .null])), (q1, .inl (c1, 49152, .inl (fun _ => 0)))] := hD
  refine va_putF (D := D) (ci := 2) (v := .ref q1) (ty := .array .boolean) (C := RX2) (T := TX2) (N := 4) hx hb hts (by decide +kernel) tyX2 tyX2_ok nmX2 hown hK hP hD hS 0 rfl rfl 1 (by decide) (hts (.fieldLink RX2 8 "FunctionDeskModel" "table" "[Z") (by decide +kernel)) (fun _ h9 => h9) rfl hin rfl (by decide +kernel) rfl rfl (Nat.le_of_ble_eq_true rfl) dX2_init_9 (fun H locs hP hD hS => ?_)
  have hP : va_P D vwCl [(h0, .inr (2, [.int 0, .ref q1, .null, .null])), (q1, .inl (c1, 49152, .inl (fun _ => 0)))] H := hP
  have hD : va_D A [(h0, .inr (2, [.int 0, .ref q1, .null, .null])), (q1, .inl (c1, 49152, .inl (fun _ => 0)))] := hD
  refine lv_aload_n hx hb dX2_init_12 rfl (lv_at hl 0 rfl) ?_
  refine lv_sipush (v := 1024) hx hb dX2_init_13 (by decide) ?_
  have b1 : 1024 * componentBytes .boolean ≤ 536870912 := nb_boolean_1024
  have b2 : 1 + 1 ≤ R0.cells := by rw [hRc]; decide
  have b3 : 49152 + 1024 ≤ R0.slots := by rw [hRs]; decide
  refine va_newa (atype := .boolean) (ty := .boolean) (a0 := (1024, .inl (fun _ => 0))) (N' := 1024) hx hb (hts (.arrayClass .boolean) (by decide +kernel)) rfl hK hP hD hS hA (fun cA => cel_boolean cA 1024) nn_1024 nc_1024 b1 b2 b3 dX2_init_16 (fun q2 c2 H hK hP hD hS => ?_)
  refine W.widen (k := 2) (n := 50176) (Nat.le_refl 2) (Nat.le_refl 50176) ?_
  have hK : va_K D vwCl [(c1, .boolean), (c2, .boolean)] s := hK
  have hP : va_P D vwCl [(h0, .inr (2, [.int 0, .ref q1, .null, .null])), (q1, .inl (c1, 49152, .inl (fun _ => 0))), (q2, .inl (c2, 1024, .inl (fun _ => 0)))] H := hP
  have hD : va_D A [(h0, .inr (2, [.int 0, .ref q1, .null, .null])), (q1, .inl (c1, 49152, .inl (fun _ => 0))), (q2, .inl (c2, 1024, .inl (fun _ => 0)))] := hD
  refine va_putF (D := D) (ci := 2) (v := .ref q2) (ty := .array .boolean) (C := RX2) (T := TX2) (N := 4) hx hb hts (by decide +kernel) tyX2 tyX2_ok nmX2 hown hK hP hD hS 0 rfl rfl 2 (by decide) (hts (.fieldLink RX2 14 "FunctionDeskModel" "fresh" "[Z") (by decide +kernel)) (fun _ h9 => h9) rfl hin rfl (by decide +kernel) rfl rfl (Nat.le_of_ble_eq_true rfl) dX2_init_18 (fun H locs hP hD hS => ?_)
  have hP : va_P D vwCl [(h0, .inr (2, [.int 0, .ref q1, .ref q2, .null])), (q1, .inl (c1, 49152, .inl (fun _ => 0))), (q2, .inl (c2, 1024, .inl (fun _ => 0)))] H := hP
  have hD : va_D A [(h0, .inr (2, [.int 0, .ref q1, .ref q2, .null])), (q1, .inl (c1, 49152, .inl (fun _ => 0))), (q2, .inl (c2, 1024, .inl (fun _ => 0)))] := hD
  refine lv_aload_n hx hb dX2_init_21 rfl (lv_at hl 0 rfl) ?_
  refine lv_sipush (v := 24576) hx hb dX2_init_22 (by decide) ?_
  have b1 : 24576 * componentBytes .int ≤ 536870912 := nb_int_24576
  have b2 : 2 + 1 ≤ R0.cells := by rw [hRc]; decide
  have b3 : 50176 + 24576 ≤ R0.slots := by rw [hRs]; decide
  refine va_newa (atype := .int) (ty := .int) (a0 := (24576, .inl (fun _ => 0))) (N' := 24576) hx hb (hts (.arrayClass .int) (by decide +kernel)) rfl hK hP hD hS hA (fun cA => cel_int cA 24576) nn_24576 nc_24576 b1 b2 b3 dX2_init_25 (fun q3 c3 H hK hP hD hS => ?_)
  refine W.widen (k := 3) (n := 74752) (Nat.le_refl 3) (Nat.le_refl 74752) ?_
  have hK : va_K D vwCl [(c1, .boolean), (c2, .boolean), (c3, .int)] s := hK
  have hP : va_P D vwCl [(h0, .inr (2, [.int 0, .ref q1, .ref q2, .null])), (q1, .inl (c1, 49152, .inl (fun _ => 0))), (q2, .inl (c2, 1024, .inl (fun _ => 0))), (q3, .inl (c3, 24576, .inl (fun _ => 0)))] H := hP
  have hD : va_D A [(h0, .inr (2, [.int 0, .ref q1, .ref q2, .null])), (q1, .inl (c1, 49152, .inl (fun _ => 0))), (q2, .inl (c2, 1024, .inl (fun _ => 0))), (q3, .inl (c3, 24576, .inl (fun _ => 0)))] := hD
  refine va_putF (D := D) (ci := 2) (v := .ref q3) (ty := .array .int) (C := RX2) (T := TX2) (N := 4) hx hb hts (by decide +kernel) tyX2 tyX2_ok nmX2 hown hK hP hD hS 0 rfl rfl 3 (by decide) (hts (.fieldLink RX2 17 "FunctionDeskModel" "found" "[I") (by decide +kernel)) (fun _ h9 => h9) rfl hin rfl (by decide +kernel) rfl rfl (Nat.le_of_ble_eq_true rfl) dX2_init_27 (fun H locs hP hD hS => ?_)
  have hP : va_P D vwCl [(h0, .inr (2, [.int 0, .ref q1, .ref q2, .ref q3])), (q1, .inl (c1, 49152, .inl (fun _ => 0))), (q2, .inl (c2, 1024, .inl (fun _ => 0))), (q3, .inl (c3, 24576, .inl (fun _ => 0)))] H := hP
  have hD : va_D A [(h0, .inr (2, [.int 0, .ref q1, .ref q2, .ref q3])), (q1, .inl (c1, 49152, .inl (fun _ => 0))), (q2, .inl (c2, 1024, .inl (fun _ => 0))), (q3, .inl (c3, 24576, .inl (fun _ => 0)))] := hD
  have e9 : some c1 = some c2 := (show s.vm.findClass _ = some c1 from (hK.2 0 _ rfl).2).symm.trans (show s.vm.findClass _ = some c2 from (hK.2 1 _ rfl).2)
  cases Option.some.inj e9
  refine W.widen (k := 3) (n := 74752) (Nat.le_refl 3) (Nat.le_refl 74752) ?_
  exact W.vret hx hb hr (fun t ht hW => ⟨⟨(), rfl, trivial, q1, q2, q3, c1, c3, by rw [ht]; exact hP, va_K.moved hW.alike (hK.sub (tys' := [(c1, .boolean), (c3, .int)]) [0, 2] rfl), hD⟩, hS.F ht⟩) hS.2.2 dX2_init_30
