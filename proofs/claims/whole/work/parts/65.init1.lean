theorem va_AOA.moved {ty : FieldType} {u U : State} (hvm : u.vm.Alike U.vm) (h : va_AOA ty u) : va_AOA ty U := by
  have h2 : (Cond.arrayOver (.array ty)).before #[] (u.setVm U.vm) = true := (Cond.arrayOver_setVmC (args := #[]) hvm (.array ty)).trans h
  simp only [Cond.before, Cond.holds, Cond.value, State.vm_setVm] at h2
  show (Cond.arrayOver (.array ty)).before #[] U = true
  simp only [Cond.before, Cond.holds, Cond.value]
  exact h2
theorem rows_eq (r : Nat → Nat) (N : Nat) (f : Nat → va_E) (e : va_E) : va_pl ([] ++ (List.range N).map r) (vr_up f ((List.range N).map r) e) = va_pl ((List.range N).map r) (fun _ => e) := by
  rw [List.nil_append]
  unfold va_pl
  apply List.map_congr_left
  intro a ha
  simp only [vr_up, if_pos ha]
set_option maxHeartbeats 4000000 in
set_option maxRecDepth 100000 in
theorem i_X1_init (l : Launch) (D : va_G) (h0 sz : Nat) : Met l yX1_init wsX1_init ({ frames := 2, cells := 56, slots := 9077, locals := 32 }) (va_Pc [.ref h0] (fun U => U.heap.size = sz ∧ va_P D vwCl [(h0, .inr (1, [.null, .null, .null, .null, .null, .null]))] U.heap ∧ va_K D vwCl [] U ∧ va_D (fun _ => True) [(h0, .inr (1, [.null, .null, .null, .null, .null, .null]))] ∧ va_AOA .long U)) (va_Qv (fun _ : Unit => True) (fun _ t => ∃ (q1 q2 q3 q4 q5 qr r3 r4 : Nat) (r : Nat → Nat) (cy cQ cI : ClassId), va_P D vwCl ([(h0, .inr (1, [.ref q1, .ref q2, .ref q3, .ref q4, .ref q5, .ref qr])), (q1, .inl (cQ, 48, .inr (.inr (.inr (.inr (fun i => if i < 48 then some (r i) else none)))))), (q2, .inl (cy, 16, .inr (.inl (fun _ => 0)))), (q3, .inl (cy, 16, .inr (.inl (fun _ => 0)))), (q4, .inl (cy, 16, .inr (.inl (fun _ => 0)))), (q5, .inl (cy, 16, .inr (.inl (fun _ => 0)))), (qr, .inr (0, [.ref r3, .int 0, .int 0, .ref r4, .int 1])), (r3, .inl (cI, 4096, .inl (fun _ => 0))), (r4, .inl (cI, 4096, .inl (fun _ => 0)))] ++ va_pl ((List.range 48).map r) (fun _ => .inl (cy, 16, .inr (.inl (fun _ => 0))))) t.heap ∧ va_K D vwCl [(cy, .long), (cQ, .array .long), (cI, .int)] t ∧ va_D (va_A [(h0, .inr (1, [.null, .null, .null, .null, .null, .null]))] sz) ([(h0, .inr (1, [.ref q1, .ref q2, .ref q3, .ref q4, .ref q5, .ref qr])), (q1, .inl (cQ, 48, .inr (.inr (.inr (.inr (fun i => if i < 48 then some (r i) else none)))))), (q2, .inl (cy, 16, .inr (.inl (fun _ => 0)))), (q3, .inl (cy, 16, .inr (.inl (fun _ => 0)))), (q4, .inl (cy, 16, .inr (.inl (fun _ => 0)))), (q5, .inl (cy, 16, .inr (.inl (fun _ => 0)))), (qr, .inr (0, [.ref r3, .int 0, .int 0, .ref r4, .int 1])), (r3, .inl (cI, 4096, .inl (fun _ => 0))), (r4, .inl (cI, 4096, .inl (fun _ => 0)))] ++ va_pl ((List.range 48).map r) (fun _ => .inl (cy, 16, .inr (.inl (fun _ => 0)))))) (va_A [(h0, .inr (1, [.null, .null, .null, .null, .null, .null]))] sz)) 56 9077 (va_A [(h0, .inr (1, [.null, .null, .null, .null, .null, .null]))] sz) := by
  refine Met.ofW (cc := cX1_init) (maxL := 1) (ret := none) (by decide) rfl ?_
  intro p e s m args below meth c s₁ B hml hv
  obtain ⟨rfl, hsz, hP, hK, hD0, hO⟩ := hv
  obtain ⟨R0, hR0, hRc, hRs⟩ : ∃ R0 : Room, (headSpec wsX1_init ({ frames := 2, cells := 56, slots := 9077, locals := 32 })).room = R0 ∧ R0.cells = 56 ∧ R0.slots = 9077 := ⟨_, rfl, rfl, rfl⟩
  have hRf : R0.frames = 2 ∧ R0.locals = 32 := by rw [← hR0]; exact ⟨rfl, rfl⟩
  rw [hR0]
  have hx := B.exec
  have hb := B.bytes
  have hr := B.returns
  have hts := atoms_spec (ws := wsX1_init) B.pre
  have hown : s.vm.findClass RX1 = some m.cls := findClass_of_methodNamed B.named
  have hlocks := B.notSynchronized
  have hin : meth.name = "<init>" := (name_of_methodNamed B.named B.method).1
  subst hsz
  have hD := hD0.self (sz := s.heap.size)
  generalize hAe : va_A [(h0, .inr (1, [.null, .null, .null, .null, .null, .null]))] s.heap.size = A at hD ⊢
  have hA : ∀ q : Nat, s.heap.size ≤ q → A q := fun q h => by rw [← hAe]; exact Or.inr h
  have hS : va_S A s.heap s.heap [] := va_S.rf
  have hP : va_P D vwCl [(h0, .inr (1, [.null, .null, .null, .null, .null, .null]))] s.heap := hP
  have hl := lv_entry ([.ref h0]) (n := 1) (Nat.le_of_ble_eq_true rfl)
  rw [lg_entry_eq]
  generalize (lg_sl ([.ref h0]) ++ List.replicate (1 - (lg_sl ([.ref h0])).length) Slot.unset).toArray = ls at hl ⊢
  have hl : lv_has ls 1 [(0, .ref h0)] := hl
  refine lv_aload_n hx hb dX1_init_0 rfl (lv_at hl 0 rfl) ?_
  refine W.objInit hx hb hown (hts (.methodLink RX1 1 objectInit) (by decide +kernel)) (hts (.instanceMethod objectInit) (by decide +kernel)) (hts _ (List.mem_cons_of_mem _ (List.mem_append_left _ (List.mem_of_getElem? (i := 2) rfl)))) rfl (by rw [hml]; exact hl.1) rfl dX1_init_1 (by rw [hRf.1]; exact Nat.le_of_ble_eq_true rfl) (by rw [hRf.2]; exact Nat.le_of_ble_eq_true rfl) ?_
  refine W.eq (g2 := F0 m 4 ls []) rfl ?_
  refine lv_aload_n hx hb dX1_init_4 rfl (lv_at hl 0 rfl) ?_
  refine lv_bipush (v := 48) hx hb dX1_init_5 (by decide) ?_
  refine lv_bipush (v := 16) hx hb dX1_init_7 (by decide) ?_
  obtain ⟨cy, hcy⟩ : ∃ cy, s.vm.findClass (FieldType.array .long).toString = some cy := by
    obtain ⟨comp, _, _, h, _⟩ := Cond.arrayOver_specA hO
    exact ⟨comp, h⟩
  have b2 : 0 + (1 + 48) ≤ R0.cells := by rw [hRc]; decide
  have b3 : 0 + (48 + 48 * 16) ≤ R0.slots := by rw [hRs]; decide
  refine va_mna (X := [(h0, .inr (1, [.null, .null, .null, .null, .null, .null]))]) (L := []) (f := fun _ => .inr (0, [])) (ty := .long) (cy := cy) (z := (16, .inr (.inl (fun _ => 0)))) (N' := 48) (K' := 16) hx hb hown (hts (.classLink RX1 9 ("[" ++ (FieldType.array .long).toString)) (by decide +kernel)) hO (hts (.arrayClass .long) (by decide +kernel)) hcy hK hP hD hS hA nn_48 nn_16 nc_48 nc_16 (by decide) nb_long_16 (by decide) rfl rfl b2 b3 (fun c => arrV_new c 16 (.long 0)) dX1_init_9 (fun q1 r cQ H hri hrL hK hP hD hS => ?_)
  rw [rows_eq] at hP hD
  have hP : va_P D vwCl ([(h0, .inr (1, [.null, .null, .null, .null, .null, .null])), (q1, .inl (cQ, 48, .inr (.inr (.inr (.inr (fun i => if i < 48 then some (r i) else none))))))] ++ va_pl ((List.range 48).map r) (fun _ => .inl (cy, 16, .inr (.inl (fun _ => 0))))) H := hP
  have hD : va_D A ([(h0, .inr (1, [.null, .null, .null, .null, .null, .null])), (q1, .inl (cQ, 48, .inr (.inr (.inr (.inr (fun i => if i < 48 then some (r i) else none))))))] ++ va_pl ((List.range 48).map r) (fun _ => .inl (cy, 16, .inr (.inl (fun _ => 0))))) := hD
  have hK : va_K D vwCl [(cQ, .array .long)] s := hK
  refine W.widen (k := 49) (n := 816) (Nat.le_refl 49) (Nat.le_refl 816) ?_
  refine va_putF (D := D) (ci := 1) (v := .ref q1) (ty := .array (.array .long)) (C := RX1) (T := TX1) (N := 6) hx hb hts (by decide +kernel) tyX1 tyX1_ok nmX1 hown hK hP hD hS 0 rfl rfl 0 (by decide) (hts (.fieldLink RX1 11 "FunctionDesk" "slots" "[[J") (by decide +kernel)) (fun _ h9 => h9) rfl hin rfl (by decide +kernel) rfl rfl (Nat.le_of_ble_eq_true rfl) dX1_init_13 (fun H locs hP hD hS => ?_)
  have hP : va_P D vwCl ([(h0, .inr (1, [.ref q1, .null, .null, .null, .null, .null])), (q1, .inl (cQ, 48, .inr (.inr (.inr (.inr (fun i => if i < 48 then some (r i) else none))))))] ++ va_pl ((List.range 48).map r) (fun _ => .inl (cy, 16, .inr (.inl (fun _ => 0))))) H := hP
  have hD : va_D A ([(h0, .inr (1, [.ref q1, .null, .null, .null, .null, .null])), (q1, .inl (cQ, 48, .inr (.inr (.inr (.inr (fun i => if i < 48 then some (r i) else none))))))] ++ va_pl ((List.range 48).map r) (fun _ => .inl (cy, 16, .inr (.inl (fun _ => 0))))) := hD
  refine lv_aload_n hx hb dX1_init_16 rfl (lv_at hl 0 rfl) ?_
  refine lv_bipush (v := 16) hx hb dX1_init_17 (by decide) ?_
  have b1 : 16 * componentBytes .long ≤ 536870912 := nb_long_16
  have b2 : 49 + 1 ≤ R0.cells := by rw [hRc]; decide
  have b3 : 816 + 16 ≤ R0.slots := by rw [hRs]; decide
  refine va_newa (atype := .long) (ty := .long) (a0 := (16, .inr (.inl (fun _ => 0)))) (N' := 16) hx hb (hts (.arrayClass .long) (by decide +kernel)) rfl hK hP hD hS hA (fun cA => cel_long cA 16) nn_16 nc_16 b1 b2 b3 dX1_init_19 (fun q2 c2 H hK hP hD hS => ?_)
  refine W.widen (k := 50) (n := 832) (Nat.le_refl 50) (Nat.le_refl 832) ?_
  have hP := va_P.swap hP
  have hD := va_D.swap hD
  have hK : va_K D vwCl [(cQ, .array .long), (c2, .long)] s := hK
  have hP : va_P D vwCl ([(h0, .inr (1, [.ref q1, .null, .null, .null, .null, .null])), (q1, .inl (cQ, 48, .inr (.inr (.inr (.inr (fun i => if i < 48 then some (r i) else none)))))), (q2, .inl (c2, 16, .inr (.inl (fun _ => 0))))] ++ va_pl ((List.range 48).map r) (fun _ => .inl (cy, 16, .inr (.inl (fun _ => 0))))) H := hP
  have hD : va_D A ([(h0, .inr (1, [.ref q1, .null, .null, .null, .null, .null])), (q1, .inl (cQ, 48, .inr (.inr (.inr (.inr (fun i => if i < 48 then some (r i) else none)))))), (q2, .inl (c2, 16, .inr (.inl (fun _ => 0))))] ++ va_pl ((List.range 48).map r) (fun _ => .inl (cy, 16, .inr (.inl (fun _ => 0))))) := hD
  have e9 : some cy = some c2 := hcy.symm.trans (show s.vm.findClass (FieldType.array .long).toString = some c2 from (hK.2 1 _ rfl).2)
  cases Option.some.inj e9
  refine va_putF (D := D) (ci := 1) (v := .ref q2) (ty := .array .long) (C := RX1) (T := TX1) (N := 6) hx hb hts (by decide +kernel) tyX1 tyX1_ok nmX1 hown hK hP hD hS 0 rfl rfl 1 (by decide) (hts (.fieldLink RX1 14 "FunctionDesk" "made" "[J") (by decide +kernel)) (fun _ h9 => h9) rfl hin rfl (by decide +kernel) rfl rfl (Nat.le_of_ble_eq_true rfl) dX1_init_21 (fun H locs hP hD hS => ?_)
  have hP : va_P D vwCl ([(h0, .inr (1, [.ref q1, .ref q2, .null, .null, .null, .null])), (q1, .inl (cQ, 48, .inr (.inr (.inr (.inr (fun i => if i < 48 then some (r i) else none)))))), (q2, .inl (cy, 16, .inr (.inl (fun _ => 0))))] ++ va_pl ((List.range 48).map r) (fun _ => .inl (cy, 16, .inr (.inl (fun _ => 0))))) H := hP
  have hD : va_D A ([(h0, .inr (1, [.ref q1, .ref q2, .null, .null, .null, .null])), (q1, .inl (cQ, 48, .inr (.inr (.inr (.inr (fun i => if i < 48 then some (r i) else none)))))), (q2, .inl (cy, 16, .inr (.inl (fun _ => 0))))] ++ va_pl ((List.range 48).map r) (fun _ => .inl (cy, 16, .inr (.inl (fun _ => 0))))) := hD
  refine lv_aload_n hx hb dX1_init_24 rfl (lv_at hl 0 rfl) ?_
  refine lv_bipush (v := 16) hx hb dX1_init_25 (by decide) ?_
  have b1 : 16 * componentBytes .long ≤ 536870912 := nb_long_16
  have b2 : 50 + 1 ≤ R0.cells := by rw [hRc]; decide
  have b3 : 832 + 16 ≤ R0.slots := by rw [hRs]; decide
  refine va_newa (atype := .long) (ty := .long) (a0 := (16, .inr (.inl (fun _ => 0)))) (N' := 16) hx hb (hts (.arrayClass .long) (by decide +kernel)) rfl hK hP hD hS hA (fun cA => cel_long cA 16) nn_16 nc_16 b1 b2 b3 dX1_init_27 (fun q3 c3 H hK hP hD hS => ?_)
  refine W.widen (k := 51) (n := 848) (Nat.le_refl 51) (Nat.le_refl 848) ?_
  have hP := va_P.swap hP
  have hD := va_D.swap hD
  have hK : va_K D vwCl [(cQ, .array .long), (cy, .long), (c3, .long)] s := hK
  have hP : va_P D vwCl ([(h0, .inr (1, [.ref q1, .ref q2, .null, .null, .null, .null])), (q1, .inl (cQ, 48, .inr (.inr (.inr (.inr (fun i => if i < 48 then some (r i) else none)))))), (q2, .inl (cy, 16, .inr (.inl (fun _ => 0)))), (q3, .inl (c3, 16, .inr (.inl (fun _ => 0))))] ++ va_pl ((List.range 48).map r) (fun _ => .inl (cy, 16, .inr (.inl (fun _ => 0))))) H := hP
  have hD : va_D A ([(h0, .inr (1, [.ref q1, .ref q2, .null, .null, .null, .null])), (q1, .inl (cQ, 48, .inr (.inr (.inr (.inr (fun i => if i < 48 then some (r i) else none)))))), (q2, .inl (cy, 16, .inr (.inl (fun _ => 0)))), (q3, .inl (c3, 16, .inr (.inl (fun _ => 0))))] ++ va_pl ((List.range 48).map r) (fun _ => .inl (cy, 16, .inr (.inl (fun _ => 0))))) := hD
  have e9 : some cy = some c3 := hcy.symm.trans (show s.vm.findClass (FieldType.array .long).toString = some c3 from (hK.2 2 _ rfl).2)
  cases Option.some.inj e9
  refine va_putF (D := D) (ci := 1) (v := .ref q3) (ty := .array .long) (C := RX1) (T := TX1) (N := 6) hx hb hts (by decide +kernel) tyX1 tyX1_ok nmX1 hown hK hP hD hS 0 rfl rfl 2 (by decide) (hts (.fieldLink RX1 18 "FunctionDesk" "madeNext" "[J") (by decide +kernel)) (fun _ h9 => h9) rfl hin rfl (by decide +kernel) rfl rfl (Nat.le_of_ble_eq_true rfl) dX1_init_29 (fun H locs hP hD hS => ?_)
  have hP : va_P D vwCl ([(h0, .inr (1, [.ref q1, .ref q2, .ref q3, .null, .null, .null])), (q1, .inl (cQ, 48, .inr (.inr (.inr (.inr (fun i => if i < 48 then some (r i) else none)))))), (q2, .inl (cy, 16, .inr (.inl (fun _ => 0)))), (q3, .inl (cy, 16, .inr (.inl (fun _ => 0))))] ++ va_pl ((List.range 48).map r) (fun _ => .inl (cy, 16, .inr (.inl (fun _ => 0))))) H := hP
  have hD : va_D A ([(h0, .inr (1, [.ref q1, .ref q2, .ref q3, .null, .null, .null])), (q1, .inl (cQ, 48, .inr (.inr (.inr (.inr (fun i => if i < 48 then some (r i) else none)))))), (q2, .inl (cy, 16, .inr (.inl (fun _ => 0)))), (q3, .inl (cy, 16, .inr (.inl (fun _ => 0))))] ++ va_pl ((List.range 48).map r) (fun _ => .inl (cy, 16, .inr (.inl (fun _ => 0))))) := hD
  refine lv_aload_n hx hb dX1_init_32 rfl (lv_at hl 0 rfl) ?_
  refine lv_bipush (v := 16) hx hb dX1_init_33 (by decide) ?_
  have b1 : 16 * componentBytes .long ≤ 536870912 := nb_long_16
  have b2 : 51 + 1 ≤ R0.cells := by rw [hRc]; decide
  have b3 : 848 + 16 ≤ R0.slots := by rw [hRs]; decide
  refine va_newa (atype := .long) (ty := .long) (a0 := (16, .inr (.inl (fun _ => 0)))) (N' := 16) hx hb (hts (.arrayClass .long) (by decide +kernel)) rfl hK hP hD hS hA (fun cA => cel_long cA 16) nn_16 nc_16 b1 b2 b3 dX1_init_35 (fun q4 c4 H hK hP hD hS => ?_)
  refine W.widen (k := 52) (n := 864) (Nat.le_refl 52) (Nat.le_refl 864) ?_
  have hP := va_P.swap hP
  have hD := va_D.swap hD
  have hK : va_K D vwCl [(cQ, .array .long), (cy, .long), (cy, .long), (c4, .long)] s := hK
  have hP : va_P D vwCl ([(h0, .inr (1, [.ref q1, .ref q2, .ref q3, .null, .null, .null])), (q1, .inl (cQ, 48, .inr (.inr (.inr (.inr (fun i => if i < 48 then some (r i) else none)))))), (q2, .inl (cy, 16, .inr (.inl (fun _ => 0)))), (q3, .inl (cy, 16, .inr (.inl (fun _ => 0)))), (q4, .inl (c4, 16, .inr (.inl (fun _ => 0))))] ++ va_pl ((List.range 48).map r) (fun _ => .inl (cy, 16, .inr (.inl (fun _ => 0))))) H := hP
  have hD : va_D A ([(h0, .inr (1, [.ref q1, .ref q2, .ref q3, .null, .null, .null])), (q1, .inl (cQ, 48, .inr (.inr (.inr (.inr (fun i => if i < 48 then some (r i) else none)))))), (q2, .inl (cy, 16, .inr (.inl (fun _ => 0)))), (q3, .inl (cy, 16, .inr (.inl (fun _ => 0)))), (q4, .inl (c4, 16, .inr (.inl (fun _ => 0))))] ++ va_pl ((List.range 48).map r) (fun _ => .inl (cy, 16, .inr (.inl (fun _ => 0))))) := hD
  have e9 : some cy = some c4 := hcy.symm.trans (show s.vm.findClass (FieldType.array .long).toString = some c4 from (hK.2 3 _ rfl).2)
  cases Option.some.inj e9
  refine va_putF (D := D) (ci := 1) (v := .ref q4) (ty := .array .long) (C := RX1) (T := TX1) (N := 6) hx hb hts (by decide +kernel) tyX1 tyX1_ok nmX1 hown hK hP hD hS 0 rfl rfl 3 (by decide) (hts (.fieldLink RX1 21 "FunctionDesk" "found" "[J") (by decide +kernel)) (fun _ h9 => h9) rfl hin rfl (by decide +kernel) rfl rfl (Nat.le_of_ble_eq_true rfl) dX1_init_37 (fun H locs hP hD hS => ?_)
  have hP : va_P D vwCl ([(h0, .inr (1, [.ref q1, .ref q2, .ref q3, .ref q4, .null, .null])), (q1, .inl (cQ, 48, .inr (.inr (.inr (.inr (fun i => if i < 48 then some (r i) else none)))))), (q2, .inl (cy, 16, .inr (.inl (fun _ => 0)))), (q3, .inl (cy, 16, .inr (.inl (fun _ => 0)))), (q4, .inl (cy, 16, .inr (.inl (fun _ => 0))))] ++ va_pl ((List.range 48).map r) (fun _ => .inl (cy, 16, .inr (.inl (fun _ => 0))))) H := hP
  have hD : va_D A ([(h0, .inr (1, [.ref q1, .ref q2, .ref q3, .ref q4, .null, .null])), (q1, .inl (cQ, 48, .inr (.inr (.inr (.inr (fun i => if i < 48 then some (r i) else none)))))), (q2, .inl (cy, 16, .inr (.inl (fun _ => 0)))), (q3, .inl (cy, 16, .inr (.inl (fun _ => 0)))), (q4, .inl (cy, 16, .inr (.inl (fun _ => 0))))] ++ va_pl ((List.range 48).map r) (fun _ => .inl (cy, 16, .inr (.inl (fun _ => 0))))) := hD
  refine lv_aload_n hx hb dX1_init_40 rfl (lv_at hl 0 rfl) ?_
  refine lv_bipush (v := 16) hx hb dX1_init_41 (by decide) ?_
  have b1 : 16 * componentBytes .long ≤ 536870912 := nb_long_16
  have b2 : 52 + 1 ≤ R0.cells := by rw [hRc]; decide
  have b3 : 864 + 16 ≤ R0.slots := by rw [hRs]; decide
  refine va_newa (atype := .long) (ty := .long) (a0 := (16, .inr (.inl (fun _ => 0)))) (N' := 16) hx hb (hts (.arrayClass .long) (by decide +kernel)) rfl hK hP hD hS hA (fun cA => cel_long cA 16) nn_16 nc_16 b1 b2 b3 dX1_init_43 (fun q5 c5 H hK hP hD hS => ?_)
  refine W.widen (k := 53) (n := 880) (Nat.le_refl 53) (Nat.le_refl 880) ?_
  have hP := va_P.swap hP
  have hD := va_D.swap hD
  have hK : va_K D vwCl [(cQ, .array .long), (cy, .long), (cy, .long), (cy, .long), (c5, .long)] s := hK
  have hP : va_P D vwCl ([(h0, .inr (1, [.ref q1, .ref q2, .ref q3, .ref q4, .null, .null])), (q1, .inl (cQ, 48, .inr (.inr (.inr (.inr (fun i => if i < 48 then some (r i) else none)))))), (q2, .inl (cy, 16, .inr (.inl (fun _ => 0)))), (q3, .inl (cy, 16, .inr (.inl (fun _ => 0)))), (q4, .inl (cy, 16, .inr (.inl (fun _ => 0)))), (q5, .inl (c5, 16, .inr (.inl (fun _ => 0))))] ++ va_pl ((List.range 48).map r) (fun _ => .inl (cy, 16, .inr (.inl (fun _ => 0))))) H := hP
  have hD : va_D A ([(h0, .inr (1, [.ref q1, .ref q2, .ref q3, .ref q4, .null, .null])), (q1, .inl (cQ, 48, .inr (.inr (.inr (.inr (fun i => if i < 48 then some (r i) else none)))))), (q2, .inl (cy, 16, .inr (.inl (fun _ => 0)))), (q3, .inl (cy, 16, .inr (.inl (fun _ => 0)))), (q4, .inl (cy, 16, .inr (.inl (fun _ => 0)))), (q5, .inl (c5, 16, .inr (.inl (fun _ => 0))))] ++ va_pl ((List.range 48).map r) (fun _ => .inl (cy, 16, .inr (.inl (fun _ => 0))))) := hD
  have e9 : some cy = some c5 := hcy.symm.trans (show s.vm.findClass (FieldType.array .long).toString = some c5 from (hK.2 4 _ rfl).2)
  cases Option.some.inj e9
  refine va_putF (D := D) (ci := 1) (v := .ref q5) (ty := .array .long) (C := RX1) (T := TX1) (N := 6) hx hb hts (by decide +kernel) tyX1 tyX1_ok nmX1 hown hK hP hD hS 0 rfl rfl 4 (by decide) (hts (.fieldLink RX1 24 "FunctionDesk" "foundNext" "[J") (by decide +kernel)) (fun _ h9 => h9) rfl hin rfl (by decide +kernel) rfl rfl (Nat.le_of_ble_eq_true rfl) dX1_init_45 (fun H locs hP hD hS => ?_)
  have hP : va_P D vwCl ([(h0, .inr (1, [.ref q1, .ref q2, .ref q3, .ref q4, .ref q5, .null])), (q1, .inl (cQ, 48, .inr (.inr (.inr (.inr (fun i => if i < 48 then some (r i) else none)))))), (q2, .inl (cy, 16, .inr (.inl (fun _ => 0)))), (q3, .inl (cy, 16, .inr (.inl (fun _ => 0)))), (q4, .inl (cy, 16, .inr (.inl (fun _ => 0)))), (q5, .inl (cy, 16, .inr (.inl (fun _ => 0))))] ++ va_pl ((List.range 48).map r) (fun _ => .inl (cy, 16, .inr (.inl (fun _ => 0))))) H := hP
  have hD : va_D A ([(h0, .inr (1, [.ref q1, .ref q2, .ref q3, .ref q4, .ref q5, .null])), (q1, .inl (cQ, 48, .inr (.inr (.inr (.inr (fun i => if i < 48 then some (r i) else none)))))), (q2, .inl (cy, 16, .inr (.inl (fun _ => 0)))), (q3, .inl (cy, 16, .inr (.inl (fun _ => 0)))), (q4, .inl (cy, 16, .inr (.inl (fun _ => 0)))), (q5, .inl (cy, 16, .inr (.inl (fun _ => 0))))] ++ va_pl ((List.range 48).map r) (fun _ => .inl (cy, 16, .inr (.inl (fun _ => 0))))) := hD
  refine lv_aload_n hx hb dX1_init_48 rfl (lv_at hl 0 rfl) ?_
  have b2 : 53 + 1 ≤ R0.cells := by rw [hRc]; decide
  have b3 : 880 + 5 ≤ R0.slots := by rw [hRs]; decide
  refine va_new (ci := 0) (fs := [.null, .int 0, .int 0, .null, .int 0]) (C := RX0) (T := TX0) (N := 5) hx hb hts (by decide +kernel) tyX0 tyX0_ok hown (hts (.classLink RX1 27 RX0) (by decide +kernel)) (hts (.instantiable RX0 5) (by decide +kernel)) (hts (.initialized RX0) (by decide +kernel)) hK hP hD hS hA rfl (fun j hj => by rcases (show j = 0 ∨ j = 1 ∨ j = 2 ∨ j = 3 ∨ j = 4 by omega) with rfl | rfl | rfl | rfl | rfl <;> rfl) b2 b3 dX1_init_49 (fun qr H hP hD hS => ?_)
  have hP := va_P.swap hP
  have hD := va_D.swap hD
  have hP : va_P D vwCl ([(h0, .inr (1, [.ref q1, .ref q2, .ref q3, .ref q4, .ref q5, .null])), (q1, .inl (cQ, 48, .inr (.inr (.inr (.inr (fun i => if i < 48 then some (r i) else none)))))), (q2, .inl (cy, 16, .inr (.inl (fun _ => 0)))), (q3, .inl (cy, 16, .inr (.inl (fun _ => 0)))), (q4, .inl (cy, 16, .inr (.inl (fun _ => 0)))), (q5, .inl (cy, 16, .inr (.inl (fun _ => 0)))), (qr, .inr (0, [.null, .int 0, .int 0, .null, .int 0]))] ++ va_pl ((List.range 48).map r) (fun _ => .inl (cy, 16, .inr (.inl (fun _ => 0))))) H := hP
  have hD : va_D A ([(h0, .inr (1, [.ref q1, .ref q2, .ref q3, .ref q4, .ref q5, .null])), (q1, .inl (cQ, 48, .inr (.inr (.inr (.inr (fun i => if i < 48 then some (r i) else none)))))), (q2, .inl (cy, 16, .inr (.inl (fun _ => 0)))), (q3, .inl (cy, 16, .inr (.inl (fun _ => 0)))), (q4, .inl (cy, 16, .inr (.inl (fun _ => 0)))), (q5, .inl (cy, 16, .inr (.inl (fun _ => 0)))), (qr, .inr (0, [.null, .int 0, .int 0, .null, .int 0]))] ++ va_pl ((List.range 48).map r) (fun _ => .inl (cy, 16, .inr (.inl (fun _ => 0))))) := hD
  refine W.widen (k := 54) (n := 885) (Nat.le_refl 54) (Nat.le_refl 885) ?_
  refine lv_dup hx hb dX1_init_52 rfl ?_
  have hPc := hP.sub (ws' := [(qr, .inr (0, [.null, .int 0, .int 0, .null, .int 0]))]) [6] rfl
  have hDc := hD.sub (ws' := [(qr, .inr (0, [.null, .int 0, .int 0, .null, .int 0]))]) [6] (by decide) rfl
  have hKc := hK.sub (tys' := []) [] rfl
  have hFc := va_free (wc := [(qr, .inr (0, [.null, .int 0, .int 0, .null, .int 0]))]) hD hS hA [6] rfl
  have b2 : 54 + 2 ≤ R0.cells := by rw [hRc]; decide
  have b3 : 885 + 8192 ≤ R0.slots := by rw [hRs]; decide
  refine va_callv (va_runI (As := []) (rest := [.ref qr, .ref h0]) ⟨hx, hb, hml, hown, hts⟩ (i_X0_init l D qr H.size) (cwI 0 hts gX1_init_X0_init rfl rfl rfl (hts (.initialized RX0) (by decide +kernel)) (hts (.methodLink RX1 29 yX0_init) (by decide +kernel)) (hts (.instanceMethod yX0_init) (by decide +kernel)) rfl (by decide +kernel) ⟨by rw [hRf.1]; exact Nat.le_of_ble_eq_true rfl, by rw [hRf.2]; exact Nat.le_of_ble_eq_true rfl⟩) ⟨fun a U g mk q => by obtain ⟨q0, q1, qP, qK, qD⟩ := q; exact ⟨q0, q1, qP, va_K.moved (u := U) (U := U.calling g mk a) (Vm.Alike.refl U.vm) qK, qD⟩, fun U hU hW => ⟨rfl, by rw [hU], by rw [hU]; exact hPc, va_K.moved hW.alike hKc, hDc.weaken (fun _ _ _ _ => trivial)⟩⟩ rfl rfl hl.1 rfl (lv_room (Nat.le_of_ble_eq_true rfl)) dX1_init_53 ⟨b2, b3⟩) hS (fun q _ h => hFc q h) hFc (fun u t H1 locs ht hvm hw hB hz1 hk1 hS => ?_)
  obtain ⟨r3, r4, cI, hP1, hK1, hD1⟩ := hB
  rw [ht] at hP1
  have hK1 := va_K.moved hvm.symm hK1
  obtain ⟨hP, hD⟩ := va_joinQ (X := [(h0, .inr (1, [.ref q1, .ref q2, .ref q3, .ref q4, .ref q5, .null])), (q1, .inl (cQ, 48, .inr (.inr (.inr (.inr (fun i => if i < 48 then some (r i) else none)))))), (q2, .inl (cy, 16, .inr (.inl (fun _ => 0)))), (q3, .inl (cy, 16, .inr (.inl (fun _ => 0)))), (q4, .inl (cy, 16, .inr (.inl (fun _ => 0)))), (q5, .inl (cy, 16, .inr (.inl (fun _ => 0)))), (qr, .inr (0, [.null, .int 0, .int 0, .null, .int 0]))]) (wr := [(h0, .inr (1, [.ref q1, .ref q2, .ref q3, .ref q4, .ref q5, .null])), (q1, .inl (cQ, 48, .inr (.inr (.inr (.inr (fun i => if i < 48 then some (r i) else none)))))), (q2, .inl (cy, 16, .inr (.inl (fun _ => 0)))), (q3, .inl (cy, 16, .inr (.inl (fun _ => 0)))), (q4, .inl (cy, 16, .inr (.inl (fun _ => 0)))), (q5, .inl (cy, 16, .inr (.inl (fun _ => 0))))]) (w1 := [(qr, .inr (0, [.ref r3, .int 0, .int 0, .ref r4, .int 1])), (r3, .inl (cI, 4096, .inl (fun _ => 0))), (r4, .inl (cI, 4096, .inl (fun _ => 0)))]) (pl := va_pl ((List.range 48).map r) (fun _ => .inl (cy, 16, .inr (.inl (fun _ => 0))))) hP hD [6] [0, 1, 2, 3, 4, 5] rfl rfl (by decide) (by decide) hk1 hFc hP1 hD1
  have hK := (hK.sub (tys' := [(cy, .long), (cQ, .array .long)]) [1, 0] rfl).app hK1
  generalize H1 = H at hP hS ⊢
  have hP : va_P D vwCl ([(h0, .inr (1, [.ref q1, .ref q2, .ref q3, .ref q4, .ref q5, .null])), (q1, .inl (cQ, 48, .inr (.inr (.inr (.inr (fun i => if i < 48 then some (r i) else none)))))), (q2, .inl (cy, 16, .inr (.inl (fun _ => 0)))), (q3, .inl (cy, 16, .inr (.inl (fun _ => 0)))), (q4, .inl (cy, 16, .inr (.inl (fun _ => 0)))), (q5, .inl (cy, 16, .inr (.inl (fun _ => 0)))), (qr, .inr (0, [.ref r3, .int 0, .int 0, .ref r4, .int 1])), (r3, .inl (cI, 4096, .inl (fun _ => 0))), (r4, .inl (cI, 4096, .inl (fun _ => 0)))] ++ va_pl ((List.range 48).map r) (fun _ => .inl (cy, 16, .inr (.inl (fun _ => 0))))) H := hP
  have hD : va_D A ([(h0, .inr (1, [.ref q1, .ref q2, .ref q3, .ref q4, .ref q5, .null])), (q1, .inl (cQ, 48, .inr (.inr (.inr (.inr (fun i => if i < 48 then some (r i) else none)))))), (q2, .inl (cy, 16, .inr (.inl (fun _ => 0)))), (q3, .inl (cy, 16, .inr (.inl (fun _ => 0)))), (q4, .inl (cy, 16, .inr (.inl (fun _ => 0)))), (q5, .inl (cy, 16, .inr (.inl (fun _ => 0)))), (qr, .inr (0, [.ref r3, .int 0, .int 0, .ref r4, .int 1])), (r3, .inl (cI, 4096, .inl (fun _ => 0))), (r4, .inl (cI, 4096, .inl (fun _ => 0)))] ++ va_pl ((List.range 48).map r) (fun _ => .inl (cy, 16, .inr (.inl (fun _ => 0))))) := hD
  have hK : va_K D vwCl [(cy, .long), (cQ, .array .long), (cI, .int)] s := hK
  refine va_putF (D := D) (ci := 1) (v := .ref qr) (ty := .object "FunctionDesk$Ruler") (C := RX1) (T := TX1) (N := 6) hx hb hts (by decide +kernel) tyX1 tyX1_ok nmX1 hown hK hP hD hS 0 rfl rfl 5 (by decide) (hts (.fieldLink RX1 30 "FunctionDesk" "ruler" "LFunctionDesk$Ruler;") (by decide +kernel)) (fun _ h9 => h9) rfl hin rfl (by decide +kernel) rfl rfl (Nat.le_of_ble_eq_true rfl) dX1_init_56 (fun H locs hP hD hS => ?_)
  have hP : va_P D vwCl ([(h0, .inr (1, [.ref q1, .ref q2, .ref q3, .ref q4, .ref q5, .ref qr])), (q1, .inl (cQ, 48, .inr (.inr (.inr (.inr (fun i => if i < 48 then some (r i) else none)))))), (q2, .inl (cy, 16, .inr (.inl (fun _ => 0)))), (q3, .inl (cy, 16, .inr (.inl (fun _ => 0)))), (q4, .inl (cy, 16, .inr (.inl (fun _ => 0)))), (q5, .inl (cy, 16, .inr (.inl (fun _ => 0)))), (qr, .inr (0, [.ref r3, .int 0, .int 0, .ref r4, .int 1])), (r3, .inl (cI, 4096, .inl (fun _ => 0))), (r4, .inl (cI, 4096, .inl (fun _ => 0)))] ++ va_pl ((List.range 48).map r) (fun _ => .inl (cy, 16, .inr (.inl (fun _ => 0))))) H := hP
  have hD : va_D A ([(h0, .inr (1, [.ref q1, .ref q2, .ref q3, .ref q4, .ref q5, .ref qr])), (q1, .inl (cQ, 48, .inr (.inr (.inr (.inr (fun i => if i < 48 then some (r i) else none)))))), (q2, .inl (cy, 16, .inr (.inl (fun _ => 0)))), (q3, .inl (cy, 16, .inr (.inl (fun _ => 0)))), (q4, .inl (cy, 16, .inr (.inl (fun _ => 0)))), (q5, .inl (cy, 16, .inr (.inl (fun _ => 0)))), (qr, .inr (0, [.ref r3, .int 0, .int 0, .ref r4, .int 1])), (r3, .inl (cI, 4096, .inl (fun _ => 0))), (r4, .inl (cI, 4096, .inl (fun _ => 0)))] ++ va_pl ((List.range 48).map r) (fun _ => .inl (cy, 16, .inr (.inl (fun _ => 0))))) := hD
  refine W.widen (k := 56) (n := 9077) (Nat.le_refl 56) (Nat.le_refl 9077) ?_
  exact W.vret hx hb hr (fun t ht hW => ⟨⟨(), rfl, trivial, q1, q2, q3, q4, q5, qr, r3, r4, r, cy, cQ, cI, by rw [ht]; exact hP, va_K.moved hW.alike hK, hD⟩, hS.F ht⟩) hS.2.2 dX1_init_59
