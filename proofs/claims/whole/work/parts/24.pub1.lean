theorem wm_X1_constant_f11 : Cond.fieldLink RX1 11 "FunctionDesk" "slots" "[[J" ∈ wsX1_constant := by decide +kernel
theorem inw_X1_constant_X1 : ∀ w ∈ wsX10, w ∈ wsX1_constant := by decide +kernel
theorem wm_X1_constant_c38 : Cond.constantLong RX1 38 (-1) ∈ wsX1_constant := by decide +kernel
set_option maxHeartbeats 4000000 in
set_option maxRecDepth 100000 in
theorem c_constant (l : Launch) (hl0 : l.stackTraces = false) (g : Geo) (R : Nat → Nat → Int64) (B : Rul) (M : Mod) (O : Nat → Int64) (x1 : Int32) (t : Bool) : Xs l g yX1_constant wsX1_constant (rmX 7 110 5 30) [.ref (gA g 0), .int (x1), .int (bI (t))] (R, B, M, O) (fun v' u' => v' = none ∧ ∃ s0_ : Nat, s0_ < 48 ∧ x1 = nI s0_ ∧ ∃ R', u' = (R', B, M, O) ∧ Upd R R' s0_ (fun _ => if t then -1 else 0)) (fun E0 => (E0 = sIO ∧ ¬ (okI 48 x1))) 5 30 := by
  refine Xs.ofW RX1 rfl (by decide) rfl (Nat.le_of_ble_eq_true rfl) ?_
  intro p e s m below meth c E hr hk ht F I ls hl
  have hx := E.1
  have hb := E.2.1
  have hl : lv_has ls 4 [(0, .ref (gA g 0)), (1, .int (x1)), (2, .int (bI (t)))] := hl
  refine lv_iload_n hx hb dX1_constant_0 rfl (lv_at hl 1 rfl) ?_
  refine z_check (rest := []) E F I (c_checkSlot l hl0 g R B M O x1) gX1_constant_X1_checkSlot rfl hd_X1_checkSlot rfl rfl ⟨by decide, by decide⟩ ⟨by decide, by decide⟩ rfl hl.1 rfl (Nat.le_of_ble_eq_true rfl) dX1_constant_1 (fun E0 ce q9 H locs hxc I h1 h2 h3 => ?_) (fun hok H locs I => ?_)
  · exact y_out ht hk I h1 h2 h3 (⟨hxc.1, fun q => hxc.2 q⟩) (by decide) (by decide)
  obtain ⟨s0, lt_s0, rfl⟩ := hok
  have hl : lv_has ls 4 [(0, .ref (gA g 0)), (1, .int (nI (s0))), (2, .int (bI (t)))] := hl
  refine W.widen (k := 5) (n := 30) (by decide) (by decide) ?_
  refine lv_iconst (v := nI (0)) hx hb dX1_constant_4 (by decide) ?_
  refine lv_istore_n (lv' := [(3, .int (nI (0))), (0, .ref (gA g 0)), (1, .int (nI (s0))), (2, .int (bI (t)))]) hx hb dX1_constant_5 rfl hl (by decide) rfl (fun ls hl => ?_)
  have loop : ∀ (n i : Nat), i ≤ 16 → 16 + 1 ≤ i + n → ∀ (H : Heap) (locs : List Loc) (ls : Array Slot), Iv g (bld R s0 (fun _ => if t then -1 else 0) (i), B, M, O) s H locs → lv_has ls 4 [(0, .ref (gA g 0)), (1, .int (nI (s0))), (2, .int (bI (t))), (3, .int (nI (i)))] → W p l e (rmX 7 110 5 30) s m [.ref (gA g 0), .int ((nI s0)), .int (bI (t))].toArray below meth c H locs 5 30 (vx_MQ below (Qs g (fun v' u' => v' = none ∧ ∃ s0_ : Nat, s0_ < 48 ∧ (nI s0) = nI s0_ ∧ ∃ R', u' = (R', B, M, O) ∧ Upd R R' s0_ (fun _ => if t then -1 else 0))) (Xq g (R, B, M, O) (fun E0 => (E0 = sIO ∧ ¬ (okI 48 (nI s0))))) [.ref (gA g 0), .int ((nI s0)), .int (bI (t))].toArray s 5 30 (gW g)) (F0 m 6 ls []) := by
    intro n
    induction n with
    | zero => intro i h1 h2; exact absurd h2 (by omega)
    | succ n ih =>
      intro i hi hn H locs ls I hl
      refine lv_iload_n hx hb dX1_constant_6 rfl (lv_at hl 3 rfl) ?_
      refine lv_bipush (v := nI (16)) hx hb dX1_constant_7 (by decide) ?_
      refine n_cge (tgt := 37) hx hb (by omega) (by omega) dX1_constant_9 (by decide) (fun h1 => ?_) (fun h1 => ?_)
      · obtain rfl : i = 16 := by omega
        have hl : lv_has ls 4 [(0, .ref (gA g 0)), (1, .int (nI (s0))), (2, .int (bI (t))), (3, .int (nI (16)))] := hl
        exact y_vret hx hb hr hk F I (by decide) (by decide) ⟨rfl, s0, lt_s0, rfl, _, rfl, upd_bld R s0 _⟩ dX1_constant_37
      · refine lv_aload_n hx hb dX1_constant_12 rfl (lv_at hl 0 rfl) ?_
        refine x_get 0 1 0 (C := RX1) (T := TX1) (N := 6) (v := .ref (gA g 1)) E F I inw_X1_constant_X1 (by decide) rfl rfl (by decide) wm_X1_constant_f11 rfl dX1_constant_13 ?_
        refine lv_iload_n hx hb dX1_constant_16 rfl (lv_at hl 1 rfl) ?_
        refine x_aaload hx hb F I (by omega) dX1_constant_17 ?_
        refine lv_iload_n hx hb dX1_constant_18 rfl (lv_at hl 3 rfl) ?_
        refine lv_iload_n hx hb dX1_constant_19 rfl (lv_at hl 2 rfl) ?_
        refine n_zeq (tgt := 29) hx hb dX1_constant_20 (by decide) (fun h2 => ?_) (fun h2 => ?_)
        · refine lv_lconst (v := 0) hx hb dX1_constant_29 (by decide) ?_
          refine x_lastore (k := s0) (i := i) hx hb F I (by omega) (by omega) dX1_constant_30 (fun H locs I => ?_)
          refine n_iinc (d := 1) (lv' := [(3, .int (nI (i + 1))), (0, .ref (gA g 0)), (1, .int (nI (s0))), (2, .int (bI (t)))]) hx hb dX1_constant_31 rfl hl (j := 3) rfl (by decide) rfl (fun ls hl => ?_)
          refine lv_goto (tgt := 6) hx hb dX1_constant_34 (by decide) ?_
          exact ih (i + 1) (by omega) (by omega) _ _ ls (bld_step (by simp [*]) I) (lv_sub hl [1, 2, 3, 0] rfl)
        · refine lv_ldc2 (v := -1) hx hb E.2.2.2.1 (E.2.2.2.2 _ wm_X1_constant_c38) dX1_constant_23 ?_
          refine lv_goto (tgt := 30) hx hb dX1_constant_26 (by decide) ?_
          refine x_lastore (k := s0) (i := i) hx hb F I (by omega) (by omega) dX1_constant_30 (fun H locs I => ?_)
          refine n_iinc (d := 1) (lv' := [(3, .int (nI (i + 1))), (0, .ref (gA g 0)), (1, .int (nI (s0))), (2, .int (bI (t)))]) hx hb dX1_constant_31 rfl hl (j := 3) rfl (by decide) rfl (fun ls hl => ?_)
          refine lv_goto (tgt := 6) hx hb dX1_constant_34 (by decide) ?_
          exact ih (i + 1) (by omega) (by omega) _ _ ls (bld_step (by simp [*]) I) (lv_sub hl [1, 2, 3, 0] rfl)
  exact loop (16 + 1 - 0) (0) (by omega) (by omega) _ _ ls (bld_start I) (lv_sub hl [1, 2, 3, 0] rfl)
theorem hd_X1_constant : yX1_constant.cls ≠ "java/lang/invoke/MethodHandle" ∧ yX1_constant.cls ≠ "java/lang/invoke/VarHandle" ∧ (parseMethodDescriptor yX1_constant.desc).map (fun d => d.parameters.length) = some 2 := by decide +kernel
theorem wm_X1_variable_f11 : Cond.fieldLink RX1 11 "FunctionDesk" "slots" "[[J" ∈ wsX1_variable := by decide +kernel
theorem inw_X1_variable_X1 : ∀ w ∈ wsX10, w ∈ wsX1_variable := by decide +kernel
set_option maxHeartbeats 4000000 in
set_option maxRecDepth 100000 in
theorem c_variable (l : Launch) (hl0 : l.stackTraces = false) (g : Geo) (R : Nat → Nat → Int64) (B : Rul) (M : Mod) (O : Nat → Int64) (x1 : Int32) (x2 : Int32) : Xs l g yX1_variable wsX1_variable (rmX 7 110 5 30) [.ref (gA g 0), .int (x1), .int (x2)] (R, B, M, O) (fun v' u' => v' = none ∧ ∃ s0_ v_ : Nat, s0_ < 48 ∧ v_ < 10 ∧ x1 = nI s0_ ∧ x2 = nI v_ ∧ ∃ R', u' = (R', B, M, O) ∧ Upd R R' s0_ (fun i => vwd v_ i)) (fun E0 => (E0 = sIO ∧ ¬ (okI 48 x1)) ∨ (E0 = sIA ∧ (okI 48 x1) ∧ ¬ (okI 10 x2))) 5 30 := by
  refine Xs.ofW RX1 rfl (by decide) rfl (Nat.le_of_ble_eq_true rfl) ?_
  intro p e s m below meth c E hr hk ht F I ls hl
  have hx := E.1
  have hb := E.2.1
  have hl : lv_has ls 4 [(0, .ref (gA g 0)), (1, .int (x1)), (2, .int (x2))] := hl
  refine lv_iload_n hx hb dX1_variable_0 rfl (lv_at hl 1 rfl) ?_
  refine z_check (rest := []) E F I (c_checkSlot l hl0 g R B M O x1) gX1_variable_X1_checkSlot rfl hd_X1_checkSlot rfl rfl ⟨by decide, by decide⟩ ⟨by decide, by decide⟩ rfl hl.1 rfl (Nat.le_of_ble_eq_true rfl) dX1_variable_1 (fun E0 ce q9 H locs hxc I h1 h2 h3 => ?_) (fun hok H locs I => ?_)
  · exact y_out ht hk I h1 h2 h3 (Or.inl ⟨hxc.1, fun q => hxc.2 q⟩) (by decide) (by decide)
  obtain ⟨s0, lt_s0, rfl⟩ := hok
  have hl : lv_has ls 4 [(0, .ref (gA g 0)), (1, .int (nI (s0))), (2, .int (x2))] := hl
  refine lv_iload_n hx hb dX1_variable_4 rfl (lv_at hl 2 rfl) ?_
  refine z_check (rest := []) E F I (c_checkVariable l hl0 g R B M O x2) gX1_variable_X1_checkVariable rfl hd_X1_checkVariable rfl rfl ⟨by decide, by decide⟩ ⟨by decide, by decide⟩ rfl hl.1 rfl (Nat.le_of_ble_eq_true rfl) dX1_variable_5 (fun E0 ce q9 H locs hxc I h1 h2 h3 => ?_) (fun hok H locs I => ?_)
  · exact y_out ht hk I h1 h2 h3 (Or.inr ⟨hxc.1, ⟨s0, lt_s0, rfl⟩, fun q => hxc.2 q⟩) (by decide) (by decide)
  obtain ⟨v, lt_v, rfl⟩ := hok
  have hl : lv_has ls 4 [(0, .ref (gA g 0)), (1, .int (nI (s0))), (2, .int (nI (v)))] := hl
  refine W.widen (k := 5) (n := 30) (by decide) (by decide) ?_
  refine lv_iconst (v := nI (0)) hx hb dX1_variable_8 (by decide) ?_
  refine lv_istore_n (lv' := [(3, .int (nI (0))), (0, .ref (gA g 0)), (1, .int (nI (s0))), (2, .int (nI (v)))]) hx hb dX1_variable_9 rfl hl (by decide) rfl (fun ls hl => ?_)
  have loop : ∀ (n i : Nat), i ≤ 16 → 16 + 1 ≤ i + n → ∀ (H : Heap) (locs : List Loc) (ls : Array Slot), Iv g (bld R s0 (fun i => vwd v i) (i), B, M, O) s H locs → lv_has ls 4 [(0, .ref (gA g 0)), (1, .int (nI (s0))), (2, .int (nI (v))), (3, .int (nI (i)))] → W p l e (rmX 7 110 5 30) s m [.ref (gA g 0), .int ((nI s0)), .int ((nI v))].toArray below meth c H locs 5 30 (vx_MQ below (Qs g (fun v' u' => v' = none ∧ ∃ s0_ v_ : Nat, s0_ < 48 ∧ v_ < 10 ∧ (nI s0) = nI s0_ ∧ (nI v) = nI v_ ∧ ∃ R', u' = (R', B, M, O) ∧ Upd R R' s0_ (fun i => vwd v_ i))) (Xq g (R, B, M, O) (fun E0 => (E0 = sIO ∧ ¬ (okI 48 (nI s0))) ∨ (E0 = sIA ∧ (okI 48 (nI s0)) ∧ ¬ (okI 10 (nI v))))) [.ref (gA g 0), .int ((nI s0)), .int ((nI v))].toArray s 5 30 (gW g)) (F0 m 10 ls []) := by
    intro n
    induction n with
    | zero => intro i h1 h2; exact absurd h2 (by omega)
    | succ n ih =>
      intro i hi hn H locs ls I hl
      refine lv_iload_n hx hb dX1_variable_10 rfl (lv_at hl 3 rfl) ?_
      refine lv_bipush (v := nI (16)) hx hb dX1_variable_11 (by decide) ?_
      refine n_cge (tgt := 35) hx hb (by omega) (by omega) dX1_variable_13 (by decide) (fun h1 => ?_) (fun h1 => ?_)
      · obtain rfl : i = 16 := by omega
        have hl : lv_has ls 4 [(0, .ref (gA g 0)), (1, .int (nI (s0))), (2, .int (nI (v))), (3, .int (nI (16)))] := hl
        exact y_vret hx hb hr hk F I (by decide) (by decide) ⟨rfl, s0, v, lt_s0, lt_v, rfl, rfl, _, rfl, upd_bld R s0 _⟩ dX1_variable_35
      · refine lv_aload_n hx hb dX1_variable_16 rfl (lv_at hl 0 rfl) ?_
        refine x_get 0 1 0 (C := RX1) (T := TX1) (N := 6) (v := .ref (gA g 1)) E F I inw_X1_variable_X1 (by decide) rfl rfl (by decide) wm_X1_variable_f11 rfl dX1_variable_17 ?_
        refine lv_iload_n hx hb dX1_variable_20 rfl (lv_at hl 1 rfl) ?_
        refine x_aaload hx hb F I (by omega) dX1_variable_21 ?_
        refine lv_iload_n hx hb dX1_variable_22 rfl (lv_at hl 3 rfl) ?_
        refine lv_iload_n hx hb dX1_variable_23 rfl (lv_at hl 2 rfl) ?_
        refine lv_iload_n hx hb dX1_variable_24 rfl (lv_at hl 3 rfl) ?_
        refine x_callSl (rest := [.int (nI (i)), .ref (gA g (s0 + 10))]) E F I (c_variableWord l g (bld R s0 (fun i => vwd v i) (i)) B M O (v := v) (i := i) (by omega) (by omega)) gX1_variable_X1_variableWord rfl hd_X1_variableWord rfl rfl ⟨by decide, by decide⟩ ⟨by decide, by decide⟩ rfl hl.1 rfl (Nat.le_of_ble_eq_true rfl) dX1_variable_25 (fun H locs I => ?_)
        refine x_lastore (k := s0) (i := i) hx hb F I (by omega) (by omega) dX1_variable_28 (fun H locs I => ?_)
        refine n_iinc (d := 1) (lv' := [(3, .int (nI (i + 1))), (0, .ref (gA g 0)), (1, .int (nI (s0))), (2, .int (nI (v)))]) hx hb dX1_variable_29 rfl hl (j := 3) rfl (by decide) rfl (fun ls hl => ?_)
        refine lv_goto (tgt := 10) hx hb dX1_variable_32 (by decide) ?_
        exact ih (i + 1) (by omega) (by omega) _ _ ls (bld_step rfl I) (lv_sub hl [1, 2, 3, 0] rfl)
  exact loop (16 + 1 - 0) (0) (by omega) (by omega) _ _ ls (bld_start I) (lv_sub hl [1, 2, 3, 0] rfl)
theorem hd_X1_variable : yX1_variable.cls ≠ "java/lang/invoke/MethodHandle" ∧ yX1_variable.cls ≠ "java/lang/invoke/VarHandle" ∧ (parseMethodDescriptor yX1_variable.desc).map (fun d => d.parameters.length) = some 2 := by decide +kernel
theorem wm_X1_join_tk : Cond.classLink RX1 47 sIA ∈ wsX1_join := by decide +kernel
theorem wm_X1_join_ti : Cond.initialized sIA ∈ wsX1_join := by decide +kernel
set_option maxRecDepth 20000 in
theorem wg_X1_join : ∀ w ∈ (vx_atS RX1 51 sIA nmsX).filter goodWord, w ∈ wsX1_join := by decide +kernel
theorem wm_X1_join_f11 : Cond.fieldLink RX1 11 "FunctionDesk" "slots" "[[J" ∈ wsX1_join := by decide +kernel
theorem inw_X1_join_X1 : ∀ w ∈ wsX10, w ∈ wsX1_join := by decide +kernel
theorem wm_X1_join_c38 : Cond.constantLong RX1 38 (-1) ∈ wsX1_join := by decide +kernel
set_option maxHeartbeats 4000000 in
set_option maxRecDepth 100000 in
theorem c_join (l : Launch) (hl0 : l.stackTraces = false) (g : Geo) (R : Nat → Nat → Int64) (B : Rul) (M : Mod) (O : Nat → Int64) (x1 : Int32) (x2 : Int32) (x3 : Int32) (x4 : Int32) : Xs l g yX1_join wsX1_join (rmX 7 110 5 30) [.ref (gA g 0), .int (x1), .int (x2), .int (x3), .int (x4)] (R, B, M, O) (fun v' u' => v' = none ∧ ∃ s0_ a_ b_ h_ : Nat, s0_ < 48 ∧ a_ < 48 ∧ b_ < 48 ∧ h_ < 16 ∧ x1 = nI s0_ ∧ x2 = nI a_ ∧ x3 = nI b_ ∧ x4 = nI h_ ∧ ∃ R', u' = (R', B, M, O) ∧ Upd R R' s0_ (fun i => jnw (R a_ i) (R b_ i) h_)) (fun E0 => (E0 = sIO ∧ ¬ (okI 48 x1 ∧ okI 48 x2 ∧ okI 48 x3)) ∨ (E0 = sIA ∧ (okI 48 x1 ∧ okI 48 x2 ∧ okI 48 x3) ∧ ¬ (okI 16 x4))) 5 30 := by
  refine Xs.ofW RX1 rfl (by decide) rfl (Nat.le_of_ble_eq_true rfl) ?_
  intro p e s m below meth c E hr hk ht F I ls hl
  have hx := E.1
  have hb := E.2.1
  have hl : lv_has ls 10 [(0, .ref (gA g 0)), (1, .int (x1)), (2, .int (x2)), (3, .int (x3)), (4, .int (x4))] := hl
  refine lv_iload_n hx hb dX1_join_0 rfl (lv_at hl 1 rfl) ?_
  refine z_check (rest := []) E F I (c_checkSlot l hl0 g R B M O x1) gX1_join_X1_checkSlot rfl hd_X1_checkSlot rfl rfl ⟨by decide, by decide⟩ ⟨by decide, by decide⟩ rfl hl.1 rfl (Nat.le_of_ble_eq_true rfl) dX1_join_1 (fun E0 ce q9 H locs hxc I h1 h2 h3 => ?_) (fun hok H locs I => ?_)
  · exact y_out ht hk I h1 h2 h3 (Or.inl ⟨hxc.1, fun q => hxc.2 q.1⟩) (by decide) (by decide)
  obtain ⟨s0, lt_s0, rfl⟩ := hok
  have hl : lv_has ls 10 [(0, .ref (gA g 0)), (1, .int (nI (s0))), (2, .int (x2)), (3, .int (x3)), (4, .int (x4))] := hl
  refine lv_iload_n hx hb dX1_join_4 rfl (lv_at hl 2 rfl) ?_
  refine z_check (rest := []) E F I (c_checkSlot l hl0 g R B M O x2) gX1_join_X1_checkSlot rfl hd_X1_checkSlot rfl rfl ⟨by decide, by decide⟩ ⟨by decide, by decide⟩ rfl hl.1 rfl (Nat.le_of_ble_eq_true rfl) dX1_join_5 (fun E0 ce q9 H locs hxc I h1 h2 h3 => ?_) (fun hok H locs I => ?_)
  · exact y_out ht hk I h1 h2 h3 (Or.inl ⟨hxc.1, fun q => hxc.2 q.2.1⟩) (by decide) (by decide)
  obtain ⟨a, lt_a, rfl⟩ := hok
  have hl : lv_has ls 10 [(0, .ref (gA g 0)), (1, .int (nI (s0))), (2, .int (nI (a))), (3, .int (x3)), (4, .int (x4))] := hl
  refine lv_iload_n hx hb dX1_join_8 rfl (lv_at hl 3 rfl) ?_
  refine z_check (rest := []) E F I (c_checkSlot l hl0 g R B M O x3) gX1_join_X1_checkSlot rfl hd_X1_checkSlot rfl rfl ⟨by decide, by decide⟩ ⟨by decide, by decide⟩ rfl hl.1 rfl (Nat.le_of_ble_eq_true rfl) dX1_join_9 (fun E0 ce q9 H locs hxc I h1 h2 h3 => ?_) (fun hok H locs I => ?_)
  · exact y_out ht hk I h1 h2 h3 (Or.inl ⟨hxc.1, fun q => hxc.2 q.2.2⟩) (by decide) (by decide)
  obtain ⟨b, lt_b, rfl⟩ := hok
  have hl : lv_has ls 10 [(0, .ref (gA g 0)), (1, .int (nI (s0))), (2, .int (nI (a))), (3, .int (nI (b))), (4, .int (x4))] := hl
  refine lv_iload hx hb dX1_join_12 (lv_at hl 4 rfl) ?_
  refine lv_if_lt (tgt := 24) hx hb dX1_join_14 (by decide) (fun h1 => ?_) (fun h1 => ?_)
  · exact y_throw (text := "how is not 0 .. 15") hl0 E F I ht hk hl.1 (by decide +kernel) wm_X1_join_tk wm_X1_join_ti (by decide) wg_X1_join ng_IA ngL_on ot_IA dX1_join_24 dX1_join_27 dX1_join_28 dX1_join_30 dX1_join_33 (by decide) (Nat.le_of_ble_eq_true rfl) (by decide) (by decide) (Or.inr ⟨rfl, ⟨⟨s0, lt_s0, rfl⟩, ⟨a, lt_a, rfl⟩, ⟨b, lt_b, rfl⟩⟩, okI_neg (by decide) h1⟩) (by decide) (by decide)
  · refine lv_iload hx hb dX1_join_17 (lv_at hl 4 rfl) ?_
    refine lv_bipush (v := nI (15)) hx hb dX1_join_19 (by decide) ?_
    refine lv_icmp_le (tgt := 34) hx hb dX1_join_21 (by decide) (fun h2 => ?_) (fun h2 => ?_)
    · refine W.widen (k := 5) (n := 30) (by decide) (by decide) ?_
      obtain ⟨h, lt_h, rfl⟩ := okI_le (n := 15) (by decide) h1 h2
      have hl : lv_has ls 10 [(0, .ref (gA g 0)), (1, .int (nI (s0))), (2, .int (nI (a))), (3, .int (nI (b))), (4, .int (nI (h)))] := hl
      refine lv_iconst (v := nI (0)) hx hb dX1_join_34 (by decide) ?_
      refine lv_istore (lv' := [(5, .int (nI (0))), (0, .ref (gA g 0)), (1, .int (nI (s0))), (2, .int (nI (a))), (3, .int (nI (b))), (4, .int (nI (h)))]) hx hb dX1_join_35 hl (by decide) rfl (fun ls hl => ?_)
      have loop : ∀ (n i : Nat), i ≤ 16 → 16 + 1 ≤ i + n → ∀ (H : Heap) (locs : List Loc) (ls : Array Slot), Iv g (bld R s0 (fun i => jnw (R a i) (R b i) h) (i), B, M, O) s H locs → lv_has ls 10 [(0, .ref (gA g 0)), (1, .int (nI (s0))), (2, .int (nI (a))), (3, .int (nI (b))), (4, .int (nI (h))), (5, .int (nI (i)))] → W p l e (rmX 7 110 5 30) s m [.ref (gA g 0), .int ((nI s0)), .int ((nI a)), .int ((nI b)), .int ((nI h))].toArray below meth c H locs 5 30 (vx_MQ below (Qs g (fun v' u' => v' = none ∧ ∃ s0_ a_ b_ h_ : Nat, s0_ < 48 ∧ a_ < 48 ∧ b_ < 48 ∧ h_ < 16 ∧ (nI s0) = nI s0_ ∧ (nI a) = nI a_ ∧ (nI b) = nI b_ ∧ (nI h) = nI h_ ∧ ∃ R', u' = (R', B, M, O) ∧ Upd R R' s0_ (fun i => jnw (R a_ i) (R b_ i) h_))) (Xq g (R, B, M, O) (fun E0 => (E0 = sIO ∧ ¬ (okI 48 (nI s0) ∧ okI 48 (nI a) ∧ okI 48 (nI b))) ∨ (E0 = sIA ∧ (okI 48 (nI s0) ∧ okI 48 (nI a) ∧ okI 48 (nI b)) ∧ ¬ (okI 16 (nI h))))) [.ref (gA g 0), .int ((nI s0)), .int ((nI a)), .int ((nI b)), .int ((nI h))].toArray s 5 30 (gW g)) (F0 m 37 ls []) := by
        intro n
        induction n with
        | zero => intro i h1 h2; exact absurd h2 (by omega)
        | succ n ih =>
          intro i hi hn H locs ls I hl
          refine lv_iload hx hb dX1_join_37 (lv_at hl 5 rfl) ?_
          refine lv_bipush (v := nI (16)) hx hb dX1_join_39 (by decide) ?_
          refine n_cge (tgt := 148) hx hb (by omega) (by omega) dX1_join_41 (by decide) (fun h3 => ?_) (fun h3 => ?_)
          · obtain rfl : i = 16 := by omega
            have hl : lv_has ls 10 [(0, .ref (gA g 0)), (1, .int (nI (s0))), (2, .int (nI (a))), (3, .int (nI (b))), (4, .int (nI (h))), (5, .int (nI (16)))] := hl
            exact y_vret hx hb hr hk F I (by decide) (by decide) ⟨rfl, s0, a, b, h, lt_s0, lt_a, lt_b, lt_h, rfl, rfl, rfl, rfl, _, rfl, upd_bld R s0 _⟩ dX1_join_148
          · refine lv_aload_n hx hb dX1_join_44 rfl (lv_at hl 0 rfl) ?_
            refine x_get 0 1 0 (C := RX1) (T := TX1) (N := 6) (v := .ref (gA g 1)) E F I inw_X1_join_X1 (by decide) rfl rfl (by decide) wm_X1_join_f11 rfl dX1_join_45 ?_
            refine lv_iload_n hx hb dX1_join_48 rfl (lv_at hl 2 rfl) ?_
            refine x_aaload hx hb F I (by omega) dX1_join_49 ?_
            refine lv_iload hx hb dX1_join_50 (lv_at hl 5 rfl) ?_
            refine x_laload (k := a) (i := i) hx hb F I (by omega) (by omega) dX1_join_52 ?_
            refine lv_lstore (lv' := [(6, .long ((bld R s0 (fun i => jnw (R a i) (R b i) h) (i)) (a) (i))), (0, .ref (gA g 0)), (1, .int (nI (s0))), (2, .int (nI (a))), (3, .int (nI (b))), (4, .int (nI (h))), (5, .int (nI (i)))]) hx hb dX1_join_53 hl (by decide) rfl (fun ls hl => ?_)
            refine lv_aload_n hx hb dX1_join_55 rfl (lv_at hl 1 rfl) ?_
            refine x_get 0 1 0 (C := RX1) (T := TX1) (N := 6) (v := .ref (gA g 1)) E F I inw_X1_join_X1 (by decide) rfl rfl (by decide) wm_X1_join_f11 rfl dX1_join_56 ?_
            refine lv_iload_n hx hb dX1_join_59 rfl (lv_at hl 4 rfl) ?_
            refine x_aaload hx hb F I (by omega) dX1_join_60 ?_
            refine lv_iload hx hb dX1_join_61 (lv_at hl 6 rfl) ?_
            refine x_laload (k := b) (i := i) hx hb F I (by omega) (by omega) dX1_join_63 ?_
            refine lv_lstore (lv' := [(8, .long ((bld R s0 (fun i => jnw (R a i) (R b i) h) (i)) (b) (i))), (6, .long ((bld R s0 (fun i => jnw (R a i) (R b i) h) (i)) (a) (i))), (0, .ref (gA g 0)), (1, .int (nI (s0))), (2, .int (nI (a))), (3, .int (nI (b))), (4, .int (nI (h))), (5, .int (nI (i)))]) hx hb dX1_join_64 hl (by decide) rfl (fun ls hl => ?_)
            refine lv_aload_n hx hb dX1_join_66 rfl (lv_at hl 2 rfl) ?_
            refine x_get 0 1 0 (C := RX1) (T := TX1) (N := 6) (v := .ref (gA g 1)) E F I inw_X1_join_X1 (by decide) rfl rfl (by decide) wm_X1_join_f11 rfl dX1_join_67 ?_
            refine lv_iload_n hx hb dX1_join_70 rfl (lv_at hl 3 rfl) ?_
            refine x_aaload hx hb F I (by omega) dX1_join_71 ?_
            refine lv_iload hx hb dX1_join_72 (lv_at hl 7 rfl) ?_
            refine lv_iload hx hb dX1_join_74 (lv_at hl 6 rfl) ?_
            refine lv_iconst (v := nI (0)) hx hb dX1_join_76 (by decide) ?_
            refine x_callSl (rest := [.int (nI (i)), .ref (gA g (s0 + 10))]) E F I (c_spreadBit l g (bld R s0 (fun i => jnw (R a i) (R b i) h) (i)) B M O (h := h) (k := 0) (by omega) (by omega)) gX1_join_X1_spreadBit rfl hd_X1_spreadBit rfl rfl ⟨by decide, by decide⟩ ⟨by decide, by decide⟩ rfl hl.1 rfl (Nat.le_of_ble_eq_true rfl) dX1_join_77 (fun H locs I => ?_)
            refine lv_lload hx hb dX1_join_80 (lv_at hl 1 rfl) ?_
            refine lv_ldc2 (v := -1) hx hb E.2.2.2.1 (E.2.2.2.2 _ wm_X1_join_c38) dX1_join_82 ?_
            refine lv_lxor hx hb dX1_join_85 ?_
            refine lv_land hx hb dX1_join_86 ?_
            refine lv_lload hx hb dX1_join_87 (lv_at hl 0 rfl) ?_
            refine lv_ldc2 (v := -1) hx hb E.2.2.2.1 (E.2.2.2.2 _ wm_X1_join_c38) dX1_join_89 ?_
            refine lv_lxor hx hb dX1_join_92 ?_
            refine lv_land hx hb dX1_join_93 ?_
            refine lv_iload hx hb dX1_join_94 (lv_at hl 6 rfl) ?_
            refine lv_iconst (v := nI (1)) hx hb dX1_join_96 (by decide) ?_
            refine x_callSl (rest := [.long (((spr (h) (0)) &&& (((bld R s0 (fun i => jnw (R a i) (R b i) h) (i)) (a) (i)) ^^^ (-1))) &&& (((bld R s0 (fun i => jnw (R a i) (R b i) h) (i)) (b) (i)) ^^^ (-1))), .int (nI (i)), .ref (gA g (s0 + 10))]) E F I (c_spreadBit l g (bld R s0 (fun i => jnw (R a i) (R b i) h) (i)) B M O (h := h) (k := 1) (by omega) (by omega)) gX1_join_X1_spreadBit rfl hd_X1_spreadBit rfl rfl ⟨by decide, by decide⟩ ⟨by decide, by decide⟩ rfl hl.1 rfl (Nat.le_of_ble_eq_true rfl) dX1_join_97 (fun H locs I => ?_)
            refine lv_lload hx hb dX1_join_100 (lv_at hl 1 rfl) ?_
            refine lv_ldc2 (v := -1) hx hb E.2.2.2.1 (E.2.2.2.2 _ wm_X1_join_c38) dX1_join_102 ?_
            refine lv_lxor hx hb dX1_join_105 ?_
            refine lv_land hx hb dX1_join_106 ?_
            refine lv_lload hx hb dX1_join_107 (lv_at hl 0 rfl) ?_
            refine lv_land hx hb dX1_join_109 ?_
            refine lv_lor hx hb dX1_join_110 ?_
            refine lv_iload hx hb dX1_join_111 (lv_at hl 6 rfl) ?_
            refine lv_iconst (v := nI (2)) hx hb dX1_join_113 (by decide) ?_
            refine x_callSl (rest := [.long ((((spr (h) (0)) &&& (((bld R s0 (fun i => jnw (R a i) (R b i) h) (i)) (a) (i)) ^^^ (-1))) &&& (((bld R s0 (fun i => jnw (R a i) (R b i) h) (i)) (b) (i)) ^^^ (-1))) ||| (((spr (h) (1)) &&& (((bld R s0 (fun i => jnw (R a i) (R b i) h) (i)) (a) (i)) ^^^ (-1))) &&& ((bld R s0 (fun i => jnw (R a i) (R b i) h) (i)) (b) (i)))), .int (nI (i)), .ref (gA g (s0 + 10))]) E F I (c_spreadBit l g (bld R s0 (fun i => jnw (R a i) (R b i) h) (i)) B M O (h := h) (k := 2) (by omega) (by omega)) gX1_join_X1_spreadBit rfl hd_X1_spreadBit rfl rfl ⟨by decide, by decide⟩ ⟨by decide, by decide⟩ rfl hl.1 rfl (Nat.le_of_ble_eq_true rfl) dX1_join_114 (fun H locs I => ?_)
            refine lv_lload hx hb dX1_join_117 (lv_at hl 1 rfl) ?_
            refine lv_land hx hb dX1_join_119 ?_
            refine lv_lload hx hb dX1_join_120 (lv_at hl 0 rfl) ?_
            refine lv_ldc2 (v := -1) hx hb E.2.2.2.1 (E.2.2.2.2 _ wm_X1_join_c38) dX1_join_122 ?_
            refine lv_lxor hx hb dX1_join_125 ?_
            refine lv_land hx hb dX1_join_126 ?_
            refine lv_lor hx hb dX1_join_127 ?_
            refine lv_iload hx hb dX1_join_128 (lv_at hl 6 rfl) ?_
            refine lv_iconst (v := nI (3)) hx hb dX1_join_130 (by decide) ?_
            refine x_callSl (rest := [.long (((((spr (h) (0)) &&& (((bld R s0 (fun i => jnw (R a i) (R b i) h) (i)) (a) (i)) ^^^ (-1))) &&& (((bld R s0 (fun i => jnw (R a i) (R b i) h) (i)) (b) (i)) ^^^ (-1))) ||| (((spr (h) (1)) &&& (((bld R s0 (fun i => jnw (R a i) (R b i) h) (i)) (a) (i)) ^^^ (-1))) &&& ((bld R s0 (fun i => jnw (R a i) (R b i) h) (i)) (b) (i)))) ||| (((spr (h) (2)) &&& ((bld R s0 (fun i => jnw (R a i) (R b i) h) (i)) (a) (i))) &&& (((bld R s0 (fun i => jnw (R a i) (R b i) h) (i)) (b) (i)) ^^^ (-1)))), .int (nI (i)), .ref (gA g (s0 + 10))]) E F I (c_spreadBit l g (bld R s0 (fun i => jnw (R a i) (R b i) h) (i)) B M O (h := h) (k := 3) (by omega) (by omega)) gX1_join_X1_spreadBit rfl hd_X1_spreadBit rfl rfl ⟨by decide, by decide⟩ ⟨by decide, by decide⟩ rfl hl.1 rfl (Nat.le_of_ble_eq_true rfl) dX1_join_131 (fun H locs I => ?_)
            refine lv_lload hx hb dX1_join_134 (lv_at hl 1 rfl) ?_
            refine lv_land hx hb dX1_join_136 ?_
            refine lv_lload hx hb dX1_join_137 (lv_at hl 0 rfl) ?_
            refine lv_land hx hb dX1_join_139 ?_
            refine lv_lor hx hb dX1_join_140 ?_
            refine x_lastore (k := s0) (i := i) hx hb F I (by omega) (by omega) dX1_join_141 (fun H locs I => ?_)
            refine n_iinc (d := 1) (lv' := [(5, .int (nI (i + 1))), (8, .long ((bld R s0 (fun i => jnw (R a i) (R b i) h) (i)) (b) (i))), (6, .long ((bld R s0 (fun i => jnw (R a i) (R b i) h) (i)) (a) (i))), (0, .ref (gA g 0)), (1, .int (nI (s0))), (2, .int (nI (a))), (3, .int (nI (b))), (4, .int (nI (h)))]) hx hb dX1_join_142 rfl hl (j := 7) rfl (by decide) rfl (fun ls hl => ?_)
            refine lv_goto (tgt := 37) hx hb dX1_join_145 (by decide) ?_
            exact ih (i + 1) (by omega) (by omega) _ _ ls (bld_step (by simp only [bld_here]; rfl) I) (lv_sub hl [3, 4, 5, 6, 7, 0] rfl)
      exact loop (16 + 1 - 0) (0) (by omega) (by omega) _ _ ls (bld_start I) (lv_sub hl [1, 2, 3, 4, 5, 0] rfl)
    · exact y_throw (text := "how is not 0 .. 15") hl0 E F I ht hk hl.1 (by decide +kernel) wm_X1_join_tk wm_X1_join_ti (by decide) wg_X1_join ng_IA ngL_on ot_IA dX1_join_24 dX1_join_27 dX1_join_28 dX1_join_30 dX1_join_33 (by decide) (Nat.le_of_ble_eq_true rfl) (by decide) (by decide) (Or.inr ⟨rfl, ⟨⟨s0, lt_s0, rfl⟩, ⟨a, lt_a, rfl⟩, ⟨b, lt_b, rfl⟩⟩, okI_nle (by decide) h2⟩) (by decide) (by decide)
theorem hd_X1_join : yX1_join.cls ≠ "java/lang/invoke/MethodHandle" ∧ yX1_join.cls ≠ "java/lang/invoke/VarHandle" ∧ (parseMethodDescriptor yX1_join.desc).map (fun d => d.parameters.length) = some 4 := by decide +kernel
theorem wm_X1_choose_f11 : Cond.fieldLink RX1 11 "FunctionDesk" "slots" "[[J" ∈ wsX1_choose := by decide +kernel
theorem inw_X1_choose_X1 : ∀ w ∈ wsX10, w ∈ wsX1_choose := by decide +kernel
set_option maxHeartbeats 4000000 in
set_option maxRecDepth 100000 in
theorem c_choose (l : Launch) (hl0 : l.stackTraces = false) (g : Geo) (R : Nat → Nat → Int64) (B : Rul) (M : Mod) (O : Nat → Int64) (x1 : Int32) (x2 : Int32) (x3 : Int32) (x4 : Int32) : Xs l g yX1_choose wsX1_choose (rmX 7 110 5 30) [.ref (gA g 0), .int (x1), .int (x2), .int (x3), .int (x4)] (R, B, M, O) (fun v' u' => v' = none ∧ ∃ s0_ a_ b_ c0_ : Nat, s0_ < 48 ∧ a_ < 48 ∧ b_ < 48 ∧ c0_ < 48 ∧ x1 = nI s0_ ∧ x2 = nI a_ ∧ x3 = nI b_ ∧ x4 = nI c0_ ∧ ∃ R', u' = (R', B, M, O) ∧ Upd R R' s0_ (fun i => pk3 (R a_ i) (R b_ i) (R c0_ i))) (fun E0 => (E0 = sIO ∧ ¬ (okI 48 x1 ∧ okI 48 x2 ∧ okI 48 x3 ∧ okI 48 x4))) 5 30 := by
  refine Xs.ofW RX1 rfl (by decide) rfl (Nat.le_of_ble_eq_true rfl) ?_
  intro p e s m below meth c E hr hk ht F I ls hl
  have hx := E.1
  have hb := E.2.1
  have hl : lv_has ls 6 [(0, .ref (gA g 0)), (1, .int (x1)), (2, .int (x2)), (3, .int (x3)), (4, .int (x4))] := hl
  refine lv_iload_n hx hb dX1_choose_0 rfl (lv_at hl 1 rfl) ?_
  refine z_check (rest := []) E F I (c_checkSlot l hl0 g R B M O x1) gX1_choose_X1_checkSlot rfl hd_X1_checkSlot rfl rfl ⟨by decide, by decide⟩ ⟨by decide, by decide⟩ rfl hl.1 rfl (Nat.le_of_ble_eq_true rfl) dX1_choose_1 (fun E0 ce q9 H locs hxc I h1 h2 h3 => ?_) (fun hok H locs I => ?_)
  · exact y_out ht hk I h1 h2 h3 (⟨hxc.1, fun q => hxc.2 q.1⟩) (by decide) (by decide)
  obtain ⟨s0, lt_s0, rfl⟩ := hok
  have hl : lv_has ls 6 [(0, .ref (gA g 0)), (1, .int (nI (s0))), (2, .int (x2)), (3, .int (x3)), (4, .int (x4))] := hl
  refine lv_iload_n hx hb dX1_choose_4 rfl (lv_at hl 2 rfl) ?_
  refine z_check (rest := []) E F I (c_checkSlot l hl0 g R B M O x2) gX1_choose_X1_checkSlot rfl hd_X1_checkSlot rfl rfl ⟨by decide, by decide⟩ ⟨by decide, by decide⟩ rfl hl.1 rfl (Nat.le_of_ble_eq_true rfl) dX1_choose_5 (fun E0 ce q9 H locs hxc I h1 h2 h3 => ?_) (fun hok H locs I => ?_)
  · exact y_out ht hk I h1 h2 h3 (⟨hxc.1, fun q => hxc.2 q.2.1⟩) (by decide) (by decide)
  obtain ⟨a, lt_a, rfl⟩ := hok
  have hl : lv_has ls 6 [(0, .ref (gA g 0)), (1, .int (nI (s0))), (2, .int (nI (a))), (3, .int (x3)), (4, .int (x4))] := hl
  refine lv_iload_n hx hb dX1_choose_8 rfl (lv_at hl 3 rfl) ?_
  refine z_check (rest := []) E F I (c_checkSlot l hl0 g R B M O x3) gX1_choose_X1_checkSlot rfl hd_X1_checkSlot rfl rfl ⟨by decide, by decide⟩ ⟨by decide, by decide⟩ rfl hl.1 rfl (Nat.le_of_ble_eq_true rfl) dX1_choose_9 (fun E0 ce q9 H locs hxc I h1 h2 h3 => ?_) (fun hok H locs I => ?_)
  · exact y_out ht hk I h1 h2 h3 (⟨hxc.1, fun q => hxc.2 q.2.2.1⟩) (by decide) (by decide)
  obtain ⟨b, lt_b, rfl⟩ := hok
  have hl : lv_has ls 6 [(0, .ref (gA g 0)), (1, .int (nI (s0))), (2, .int (nI (a))), (3, .int (nI (b))), (4, .int (x4))] := hl
  refine lv_iload hx hb dX1_choose_12 (lv_at hl 4 rfl) ?_
  refine z_check (rest := []) E F I (c_checkSlot l hl0 g R B M O x4) gX1_choose_X1_checkSlot rfl hd_X1_checkSlot rfl rfl ⟨by decide, by decide⟩ ⟨by decide, by decide⟩ rfl hl.1 rfl (Nat.le_of_ble_eq_true rfl) dX1_choose_14 (fun E0 ce q9 H locs hxc I h1 h2 h3 => ?_) (fun hok H locs I => ?_)
  · exact y_out ht hk I h1 h2 h3 (⟨hxc.1, fun q => hxc.2 q.2.2.2⟩) (by decide) (by decide)
  obtain ⟨c0, lt_c0, rfl⟩ := hok
  have hl : lv_has ls 6 [(0, .ref (gA g 0)), (1, .int (nI (s0))), (2, .int (nI (a))), (3, .int (nI (b))), (4, .int (nI (c0)))] := hl
  refine W.widen (k := 5) (n := 30) (by decide) (by decide) ?_
  refine lv_iconst (v := nI (0)) hx hb dX1_choose_17 (by decide) ?_
  refine lv_istore (lv' := [(5, .int (nI (0))), (0, .ref (gA g 0)), (1, .int (nI (s0))), (2, .int (nI (a))), (3, .int (nI (b))), (4, .int (nI (c0)))]) hx hb dX1_choose_18 hl (by decide) rfl (fun ls hl => ?_)
  have loop : ∀ (n i : Nat), i ≤ 16 → 16 + 1 ≤ i + n → ∀ (H : Heap) (locs : List Loc) (ls : Array Slot), Iv g (bld R s0 (fun i => pk3 (R a i) (R b i) (R c0 i)) (i), B, M, O) s H locs → lv_has ls 6 [(0, .ref (gA g 0)), (1, .int (nI (s0))), (2, .int (nI (a))), (3, .int (nI (b))), (4, .int (nI (c0))), (5, .int (nI (i)))] → W p l e (rmX 7 110 5 30) s m [.ref (gA g 0), .int ((nI s0)), .int ((nI a)), .int ((nI b)), .int ((nI c0))].toArray below meth c H locs 5 30 (vx_MQ below (Qs g (fun v' u' => v' = none ∧ ∃ s0_ a_ b_ c0_ : Nat, s0_ < 48 ∧ a_ < 48 ∧ b_ < 48 ∧ c0_ < 48 ∧ (nI s0) = nI s0_ ∧ (nI a) = nI a_ ∧ (nI b) = nI b_ ∧ (nI c0) = nI c0_ ∧ ∃ R', u' = (R', B, M, O) ∧ Upd R R' s0_ (fun i => pk3 (R a_ i) (R b_ i) (R c0_ i)))) (Xq g (R, B, M, O) (fun E0 => (E0 = sIO ∧ ¬ (okI 48 (nI s0) ∧ okI 48 (nI a) ∧ okI 48 (nI b) ∧ okI 48 (nI c0))))) [.ref (gA g 0), .int ((nI s0)), .int ((nI a)), .int ((nI b)), .int ((nI c0))].toArray s 5 30 (gW g)) (F0 m 20 ls []) := by
    intro n
    induction n with
    | zero => intro i h1 h2; exact absurd h2 (by omega)
    | succ n ih =>
      intro i hi hn H locs ls I hl
      refine lv_iload hx hb dX1_choose_20 (lv_at hl 5 rfl) ?_
      refine lv_bipush (v := nI (16)) hx hb dX1_choose_22 (by decide) ?_
      refine n_cge (tgt := 73) hx hb (by omega) (by omega) dX1_choose_24 (by decide) (fun h1 => ?_) (fun h1 => ?_)
      · obtain rfl : i = 16 := by omega
        have hl : lv_has ls 6 [(0, .ref (gA g 0)), (1, .int (nI (s0))), (2, .int (nI (a))), (3, .int (nI (b))), (4, .int (nI (c0))), (5, .int (nI (16)))] := hl
        exact y_vret hx hb hr hk F I (by decide) (by decide) ⟨rfl, s0, a, b, c0, lt_s0, lt_a, lt_b, lt_c0, rfl, rfl, rfl, rfl, _, rfl, upd_bld R s0 _⟩ dX1_choose_73
      · refine lv_aload_n hx hb dX1_choose_27 rfl (lv_at hl 0 rfl) ?_
        refine x_get 0 1 0 (C := RX1) (T := TX1) (N := 6) (v := .ref (gA g 1)) E F I inw_X1_choose_X1 (by decide) rfl rfl (by decide) wm_X1_choose_f11 rfl dX1_choose_28 ?_
        refine lv_iload_n hx hb dX1_choose_31 rfl (lv_at hl 1 rfl) ?_
        refine x_aaload hx hb F I (by omega) dX1_choose_32 ?_
        refine lv_iload hx hb dX1_choose_33 (lv_at hl 5 rfl) ?_
        refine lv_aload_n hx hb dX1_choose_35 rfl (lv_at hl 0 rfl) ?_
        refine x_get 0 1 0 (C := RX1) (T := TX1) (N := 6) (v := .ref (gA g 1)) E F I inw_X1_choose_X1 (by decide) rfl rfl (by decide) wm_X1_choose_f11 rfl dX1_choose_36 ?_
        refine lv_iload_n hx hb dX1_choose_39 rfl (lv_at hl 2 rfl) ?_
        refine x_aaload hx hb F I (by omega) dX1_choose_40 ?_
        refine lv_iload hx hb dX1_choose_41 (lv_at hl 5 rfl) ?_
        refine x_laload (k := a) (i := i) hx hb F I (by omega) (by omega) dX1_choose_43 ?_
        refine lv_aload_n hx hb dX1_choose_44 rfl (lv_at hl 0 rfl) ?_
        refine x_get 0 1 0 (C := RX1) (T := TX1) (N := 6) (v := .ref (gA g 1)) E F I inw_X1_choose_X1 (by decide) rfl rfl (by decide) wm_X1_choose_f11 rfl dX1_choose_45 ?_
        refine lv_iload_n hx hb dX1_choose_48 rfl (lv_at hl 3 rfl) ?_
        refine x_aaload hx hb F I (by omega) dX1_choose_49 ?_
        refine lv_iload hx hb dX1_choose_50 (lv_at hl 5 rfl) ?_
        refine x_laload (k := b) (i := i) hx hb F I (by omega) (by omega) dX1_choose_52 ?_
        refine lv_aload_n hx hb dX1_choose_53 rfl (lv_at hl 0 rfl) ?_
        refine x_get 0 1 0 (C := RX1) (T := TX1) (N := 6) (v := .ref (gA g 1)) E F I inw_X1_choose_X1 (by decide) rfl rfl (by decide) wm_X1_choose_f11 rfl dX1_choose_54 ?_
        refine lv_iload hx hb dX1_choose_57 (lv_at hl 4 rfl) ?_
        refine x_aaload hx hb F I (by omega) dX1_choose_59 ?_
        refine lv_iload hx hb dX1_choose_60 (lv_at hl 5 rfl) ?_
        refine x_laload (k := c0) (i := i) hx hb F I (by omega) (by omega) dX1_choose_62 ?_
        refine x_callSl (rest := [.int (nI (i)), .ref (gA g (s0 + 10))]) E F I (c_pick l g (bld R s0 (fun i => pk3 (R a i) (R b i) (R c0 i)) (i)) B M O (x := (bld R s0 (fun i => pk3 (R a i) (R b i) (R c0 i)) (i)) (a) (i)) (y := (bld R s0 (fun i => pk3 (R a i) (R b i) (R c0 i)) (i)) (b) (i)) (z := (bld R s0 (fun i => pk3 (R a i) (R b i) (R c0 i)) (i)) (c0) (i))) gX1_choose_X1_pick rfl hd_X1_pick rfl rfl ⟨by decide, by decide⟩ ⟨by decide, by decide⟩ rfl hl.1 rfl (Nat.le_of_ble_eq_true rfl) dX1_choose_63 (fun H locs I => ?_)
        refine x_lastore (k := s0) (i := i) hx hb F I (by omega) (by omega) dX1_choose_66 (fun H locs I => ?_)
        refine n_iinc (d := 1) (lv' := [(5, .int (nI (i + 1))), (0, .ref (gA g 0)), (1, .int (nI (s0))), (2, .int (nI (a))), (3, .int (nI (b))), (4, .int (nI (c0)))]) hx hb dX1_choose_67 rfl hl (j := 5) rfl (by decide) rfl (fun ls hl => ?_)
        refine lv_goto (tgt := 20) hx hb dX1_choose_70 (by decide) ?_
        exact ih (i + 1) (by omega) (by omega) _ _ ls (bld_step (by simp only [bld_here]) I) (lv_sub hl [1, 2, 3, 4, 5, 0] rfl)
  exact loop (16 + 1 - 0) (0) (by omega) (by omega) _ _ ls (bld_start I) (lv_sub hl [1, 2, 3, 4, 5, 0] rfl)
theorem hd_X1_choose : yX1_choose.cls ≠ "java/lang/invoke/MethodHandle" ∧ yX1_choose.cls ≠ "java/lang/invoke/VarHandle" ∧ (parseMethodDescriptor yX1_choose.desc).map (fun d => d.parameters.length) = some 4 := by decide +kernel
