theorem wm_X1_size_f30 : Cond.fieldLink RX1 30 "FunctionDesk" "ruler" "LFunctionDesk$Ruler;" ∈ wsX1_size := by decide +kernel
theorem inw_X1_size_X1 : ∀ w ∈ wsX10, w ∈ wsX1_size := by decide +kernel
theorem wm_X1_size_f11 : Cond.fieldLink RX1 11 "FunctionDesk" "slots" "[[J" ∈ wsX1_size := by decide +kernel
set_option maxHeartbeats 4000000 in
set_option maxRecDepth 100000 in
theorem c_size (l : Launch) (hl0 : l.stackTraces = false) (g : Geo) (R : Nat → Nat → Int64) (B : Rul) (M : Mod) (O : Nat → Int64) (x1 : Int32) : Xs l g yX1_size wsX1_size (rmX 7 140 5 30) [.ref (gA g 0), .int (x1)] (R, B, M, O) (fun v' u' => ∃ a_ : Nat, a_ < 48 ∧ x1 = nI a_ ∧ ∃ (cs : Nat → Nat) (B' : Rul), u' = (R, B', M, O) ∧ v' = some (.int (nI (sumN cs 10))) ∧ allNum (tbl R) a_ a_ 10 cs) (fun E0 => (E0 = sIO ∧ ¬ (okI 48 x1))) 5 30 := by
  refine Xs.ofW RX1 rfl (by decide) rfl (Nat.le_of_ble_eq_true rfl) ?_
  intro p e s m below meth c E hr hk ht F I ls hl
  have hx := E.1
  have hb := E.2.1
  have hl : lv_has ls 2 [(0, .ref (gA g 0)), (1, .int (x1))] := hl
  refine lv_iload_n hx hb dX1_size_0 rfl (lv_at hl 1 rfl) ?_
  refine z_check (rest := []) E F I (c_checkSlot l hl0 g R B M O x1) gX1_size_X1_checkSlot rfl hd_X1_checkSlot rfl rfl ⟨by decide, by decide⟩ ⟨by decide, by decide⟩ rfl hl.1 rfl (Nat.le_of_ble_eq_true rfl) dX1_size_1 (fun E0 ce q9 H locs hxc I h1 h2 h3 => ?_) (fun hok H locs I => ?_)
  · exact y_out ht hk I h1 h2 h3 (⟨hxc.1, fun q => hxc.2 q⟩) (by decide) (by decide)
  obtain ⟨a, lt_a, rfl⟩ := hok
  have hl : lv_has ls 2 [(0, .ref (gA g 0)), (1, .int (nI (a)))] := hl
  refine W.widen (k := 5) (n := 30) (by decide) (by decide) ?_
  refine lv_aload_n hx hb dX1_size_4 rfl (lv_at hl 0 rfl) ?_
  refine x_get 0 1 5 (C := RX1) (T := TX1) (N := 6) (v := .ref (gA g 2)) E F I inw_X1_size_X1 (by decide) rfl rfl (by decide) wm_X1_size_f30 rfl dX1_size_5 ?_
  refine lv_aload_n hx hb dX1_size_8 rfl (lv_at hl 0 rfl) ?_
  refine x_get 0 1 0 (C := RX1) (T := TX1) (N := 6) (v := .ref (gA g 1)) E F I inw_X1_size_X1 (by decide) rfl rfl (by decide) wm_X1_size_f11 rfl dX1_size_9 ?_
  refine lv_iload_n hx hb dX1_size_12 rfl (lv_at hl 1 rfl) ?_
  refine lv_iload_n hx hb dX1_size_13 rfl (lv_at hl 1 rfl) ?_
  refine lv_iconst (v := nI (0)) hx hb dX1_size_14 (by decide) ?_
  refine lv_bipush (v := nI (9)) hx hb dX1_size_15 (by decide) ?_
  refine x_callV 2 0 (rest := []) (C := RX0) (T0 := TX0) (N := 5) E F I (r_nodesOf l g R B.1 B.2.1 B.2.2.1 B.2.2.2.1 B.2.2.2.2 M O (fr := a) (to := a) (lo := 0) (hi := 9) (by omega) (by omega) (by omega) (by omega)) gX1_size_X0_nodesOf rfl (by decide) rfl rfl rfl hd_X0_nodesOf rfl rfl ⟨by decide, by decide⟩ ⟨by decide, by decide⟩ rfl hl.1 rfl (Nat.le_of_ble_eq_true rfl) dX1_size_17 (fun v9 u9 H locs hp I => ?_)
  obtain ⟨cs, B', rfl, hall, rfl⟩ := hp
  refine W.eq (g2 := F0 m 20 ls [.int (nI (sumL cs 0 (9 + 1)))]) rfl ?_
  exact y_iret hx hb hr hk F I (by decide) (by decide) ⟨a, lt_a, rfl, cs, B', rfl, by rw [sumL_all], hall⟩ dX1_size_20
theorem hd_X1_size : yX1_size.cls ≠ "java/lang/invoke/MethodHandle" ∧ yX1_size.cls ≠ "java/lang/invoke/VarHandle" ∧ (parseMethodDescriptor yX1_size.desc).map (fun d => d.parameters.length) = some 1 := by decide +kernel
theorem wm_X1_level_f30 : Cond.fieldLink RX1 30 "FunctionDesk" "ruler" "LFunctionDesk$Ruler;" ∈ wsX1_level := by decide +kernel
theorem inw_X1_level_X1 : ∀ w ∈ wsX10, w ∈ wsX1_level := by decide +kernel
theorem wm_X1_level_f11 : Cond.fieldLink RX1 11 "FunctionDesk" "slots" "[[J" ∈ wsX1_level := by decide +kernel
set_option maxHeartbeats 4000000 in
set_option maxRecDepth 100000 in
theorem c_level (l : Launch) (hl0 : l.stackTraces = false) (g : Geo) (R : Nat → Nat → Int64) (B : Rul) (M : Mod) (O : Nat → Int64) (x1 : Int32) (x2 : Int32) : Xs l g yX1_level wsX1_level (rmX 7 140 5 30) [.ref (gA g 0), .int (x1), .int (x2)] (R, B, M, O) (fun v' u' => ∃ a_ v_ : Nat, a_ < 48 ∧ v_ < 10 ∧ x1 = nI a_ ∧ x2 = nI v_ ∧ ∃ (n1 : Nat) (B' : Rul), u' = (R, B', M, O) ∧ v' = some (.int (nI n1)) ∧ isNum (tbl R) a_ a_ (1024 / 2 ^ v_) (2 ^ v_) n1) (fun E0 => (E0 = sIO ∧ ¬ (okI 48 x1)) ∨ (E0 = sIA ∧ (okI 48 x1) ∧ ¬ (okI 10 x2))) 5 30 := by
  refine Xs.ofW RX1 rfl (by decide) rfl (Nat.le_of_ble_eq_true rfl) ?_
  intro p e s m below meth c E hr hk ht F I ls hl
  have hx := E.1
  have hb := E.2.1
  have hl : lv_has ls 3 [(0, .ref (gA g 0)), (1, .int (x1)), (2, .int (x2))] := hl
  refine lv_iload_n hx hb dX1_level_0 rfl (lv_at hl 1 rfl) ?_
  refine z_check (rest := []) E F I (c_checkSlot l hl0 g R B M O x1) gX1_level_X1_checkSlot rfl hd_X1_checkSlot rfl rfl ⟨by decide, by decide⟩ ⟨by decide, by decide⟩ rfl hl.1 rfl (Nat.le_of_ble_eq_true rfl) dX1_level_1 (fun E0 ce q9 H locs hxc I h1 h2 h3 => ?_) (fun hok H locs I => ?_)
  · exact y_out ht hk I h1 h2 h3 (Or.inl ⟨hxc.1, fun q => hxc.2 q⟩) (by decide) (by decide)
  obtain ⟨a, lt_a, rfl⟩ := hok
  have hl : lv_has ls 3 [(0, .ref (gA g 0)), (1, .int (nI (a))), (2, .int (x2))] := hl
  refine lv_iload_n hx hb dX1_level_4 rfl (lv_at hl 2 rfl) ?_
  refine z_check (rest := []) E F I (c_checkVariable l hl0 g R B M O x2) gX1_level_X1_checkVariable rfl hd_X1_checkVariable rfl rfl ⟨by decide, by decide⟩ ⟨by decide, by decide⟩ rfl hl.1 rfl (Nat.le_of_ble_eq_true rfl) dX1_level_5 (fun E0 ce q9 H locs hxc I h1 h2 h3 => ?_) (fun hok H locs I => ?_)
  · exact y_out ht hk I h1 h2 h3 (Or.inr ⟨hxc.1, ⟨a, lt_a, rfl⟩, fun q => hxc.2 q⟩) (by decide) (by decide)
  obtain ⟨v, lt_v, rfl⟩ := hok
  have hl : lv_has ls 3 [(0, .ref (gA g 0)), (1, .int (nI (a))), (2, .int (nI (v)))] := hl
  refine W.widen (k := 5) (n := 30) (by decide) (by decide) ?_
  refine lv_aload_n hx hb dX1_level_8 rfl (lv_at hl 0 rfl) ?_
  refine x_get 0 1 5 (C := RX1) (T := TX1) (N := 6) (v := .ref (gA g 2)) E F I inw_X1_level_X1 (by decide) rfl rfl (by decide) wm_X1_level_f30 rfl dX1_level_9 ?_
  refine lv_aload_n hx hb dX1_level_12 rfl (lv_at hl 0 rfl) ?_
  refine x_get 0 1 0 (C := RX1) (T := TX1) (N := 6) (v := .ref (gA g 1)) E F I inw_X1_level_X1 (by decide) rfl rfl (by decide) wm_X1_level_f11 rfl dX1_level_13 ?_
  refine lv_iload_n hx hb dX1_level_16 rfl (lv_at hl 1 rfl) ?_
  refine lv_iload_n hx hb dX1_level_17 rfl (lv_at hl 1 rfl) ?_
  refine lv_iload_n hx hb dX1_level_18 rfl (lv_at hl 2 rfl) ?_
  refine lv_iload_n hx hb dX1_level_19 rfl (lv_at hl 2 rfl) ?_
  refine x_callV 2 0 (rest := []) (C := RX0) (T0 := TX0) (N := 5) E F I (r_nodesOf l g R B.1 B.2.1 B.2.2.1 B.2.2.2.1 B.2.2.2.2 M O (fr := a) (to := a) (lo := v) (hi := v) (by omega) (by omega) (by omega) (by omega)) gX1_level_X0_nodesOf rfl (by decide) rfl rfl rfl hd_X0_nodesOf rfl rfl ⟨by decide, by decide⟩ ⟨by decide, by decide⟩ rfl hl.1 rfl (Nat.le_of_ble_eq_true rfl) dX1_level_20 (fun v9 u9 H locs hp I => ?_)
  obtain ⟨cs, B', rfl, hall, rfl⟩ := hp
  refine W.eq (g2 := F0 m 23 ls [.int (nI (sumL cs v (v + 1)))]) rfl ?_
  exact y_iret hx hb hr hk F I (by decide) (by decide) ⟨a, v, lt_a, lt_v, rfl, rfl, cs v, B', rfl, by rw [sumL_one], hall v (by omega)⟩ dX1_level_23
theorem hd_X1_level : yX1_level.cls ≠ "java/lang/invoke/MethodHandle" ∧ yX1_level.cls ≠ "java/lang/invoke/VarHandle" ∧ (parseMethodDescriptor yX1_level.desc).map (fun d => d.parameters.length) = some 2 := by decide +kernel
theorem wm_X1_sizes_f30 : Cond.fieldLink RX1 30 "FunctionDesk" "ruler" "LFunctionDesk$Ruler;" ∈ wsX1_sizes := by decide +kernel
theorem inw_X1_sizes_X1 : ∀ w ∈ wsX10, w ∈ wsX1_sizes := by decide +kernel
theorem wm_X1_sizes_f11 : Cond.fieldLink RX1 11 "FunctionDesk" "slots" "[[J" ∈ wsX1_sizes := by decide +kernel
theorem wm_X1_sizes_tk : Cond.classLink RX1 47 sIA ∈ wsX1_sizes := by decide +kernel
theorem wm_X1_sizes_ti : Cond.initialized sIA ∈ wsX1_sizes := by decide +kernel
set_option maxRecDepth 20000 in
theorem wg_X1_sizes : ∀ w ∈ (vx_atS RX1 51 sIA nmsX).filter goodWord, w ∈ wsX1_sizes := by decide +kernel
set_option maxHeartbeats 4000000 in
set_option maxRecDepth 100000 in
theorem c_sizes (l : Launch) (hl0 : l.stackTraces = false) (g : Geo) (R : Nat → Nat → Int64) (B : Rul) (M : Mod) (O : Nat → Int64) (x1 : Int32) (x2 : Int32) : Xs l g yX1_sizes wsX1_sizes (rmX 7 140 5 30) [.ref (gA g 0), .int (x1), .int (x2)] (R, B, M, O) (fun v' u' => ∃ a_ b_ : Nat, a_ < 48 ∧ b_ < 48 ∧ x1 = nI a_ ∧ x2 = nI b_ ∧ a_ ≤ b_ ∧ ∃ (cs : Nat → Nat) (B' : Rul), u' = (R, B', M, O) ∧ v' = some (.int (nI (sumN cs 10))) ∧ allNum (tbl R) a_ b_ 10 cs) (fun E0 => (E0 = sIO ∧ ¬ (okI 48 x1 ∧ okI 48 x2)) ∨ (E0 = sIA ∧ (okI 48 x1 ∧ okI 48 x2) ∧ ¬ (x1 ≤ x2))) 5 30 := by
  refine Xs.ofW RX1 rfl (by decide) rfl (Nat.le_of_ble_eq_true rfl) ?_
  intro p e s m below meth c E hr hk ht F I ls hl
  have hx := E.1
  have hb := E.2.1
  have hl : lv_has ls 3 [(0, .ref (gA g 0)), (1, .int (x1)), (2, .int (x2))] := hl
  refine lv_iload_n hx hb dX1_sizes_0 rfl (lv_at hl 1 rfl) ?_
  refine z_check (rest := []) E F I (c_checkSlot l hl0 g R B M O x1) gX1_sizes_X1_checkSlot rfl hd_X1_checkSlot rfl rfl ⟨by decide, by decide⟩ ⟨by decide, by decide⟩ rfl hl.1 rfl (Nat.le_of_ble_eq_true rfl) dX1_sizes_1 (fun E0 ce q9 H locs hxc I h1 h2 h3 => ?_) (fun hok H locs I => ?_)
  · exact y_out ht hk I h1 h2 h3 (Or.inl ⟨hxc.1, fun q => hxc.2 q.1⟩) (by decide) (by decide)
  obtain ⟨a, lt_a, rfl⟩ := hok
  have hl : lv_has ls 3 [(0, .ref (gA g 0)), (1, .int (nI (a))), (2, .int (x2))] := hl
  refine lv_iload_n hx hb dX1_sizes_4 rfl (lv_at hl 2 rfl) ?_
  refine z_check (rest := []) E F I (c_checkSlot l hl0 g R B M O x2) gX1_sizes_X1_checkSlot rfl hd_X1_checkSlot rfl rfl ⟨by decide, by decide⟩ ⟨by decide, by decide⟩ rfl hl.1 rfl (Nat.le_of_ble_eq_true rfl) dX1_sizes_5 (fun E0 ce q9 H locs hxc I h1 h2 h3 => ?_) (fun hok H locs I => ?_)
  · exact y_out ht hk I h1 h2 h3 (Or.inl ⟨hxc.1, fun q => hxc.2 q.2⟩) (by decide) (by decide)
  obtain ⟨b, lt_b, rfl⟩ := hok
  have hl : lv_has ls 3 [(0, .ref (gA g 0)), (1, .int (nI (a))), (2, .int (nI (b)))] := hl
  refine lv_iload_n hx hb dX1_sizes_8 rfl (lv_at hl 1 rfl) ?_
  refine lv_iload_n hx hb dX1_sizes_9 rfl (lv_at hl 2 rfl) ?_
  refine n_cle (tgt := 23) hx hb (by omega) (by omega) dX1_sizes_10 (by decide) (fun h1 => ?_) (fun h1 => ?_)
  · refine W.widen (k := 5) (n := 30) (by decide) (by decide) ?_
    refine lv_aload_n hx hb dX1_sizes_23 rfl (lv_at hl 0 rfl) ?_
    refine x_get 0 1 5 (C := RX1) (T := TX1) (N := 6) (v := .ref (gA g 2)) E F I inw_X1_sizes_X1 (by decide) rfl rfl (by decide) wm_X1_sizes_f30 rfl dX1_sizes_24 ?_
    refine lv_aload_n hx hb dX1_sizes_27 rfl (lv_at hl 0 rfl) ?_
    refine x_get 0 1 0 (C := RX1) (T := TX1) (N := 6) (v := .ref (gA g 1)) E F I inw_X1_sizes_X1 (by decide) rfl rfl (by decide) wm_X1_sizes_f11 rfl dX1_sizes_28 ?_
    refine lv_iload_n hx hb dX1_sizes_31 rfl (lv_at hl 1 rfl) ?_
    refine lv_iload_n hx hb dX1_sizes_32 rfl (lv_at hl 2 rfl) ?_
    refine lv_iconst (v := nI (0)) hx hb dX1_sizes_33 (by decide) ?_
    refine lv_bipush (v := nI (9)) hx hb dX1_sizes_34 (by decide) ?_
    refine x_callV 2 0 (rest := []) (C := RX0) (T0 := TX0) (N := 5) E F I (r_nodesOf l g R B.1 B.2.1 B.2.2.1 B.2.2.2.1 B.2.2.2.2 M O (fr := a) (to := b) (lo := 0) (hi := 9) (by omega) (by omega) (by omega) (by omega)) gX1_sizes_X0_nodesOf rfl (by decide) rfl rfl rfl hd_X0_nodesOf rfl rfl ⟨by decide, by decide⟩ ⟨by decide, by decide⟩ rfl hl.1 rfl (Nat.le_of_ble_eq_true rfl) dX1_sizes_36 (fun v9 u9 H locs hp I => ?_)
    obtain ⟨cs, B', rfl, hall, rfl⟩ := hp
    refine W.eq (g2 := F0 m 39 ls [.int (nI (sumL cs 0 (9 + 1)))]) rfl ?_
    exact y_iret hx hb hr hk F I (by decide) (by decide) ⟨a, b, lt_a, lt_b, rfl, rfl, h1, cs, B', rfl, by rw [sumL_all], hall⟩ dX1_sizes_39
  · exact y_throw (text := "from is above to") hl0 E F I ht hk hl.1 (by decide +kernel) wm_X1_sizes_tk wm_X1_sizes_ti (by decide) wg_X1_sizes ng_IA ngL_on ot_IA dX1_sizes_13 dX1_sizes_16 dX1_sizes_17 dX1_sizes_19 dX1_sizes_22 (by decide) (Nat.le_of_ble_eq_true rfl) (by decide) (by decide) (Or.inr ⟨rfl, ⟨⟨a, lt_a, rfl⟩, ⟨b, lt_b, rfl⟩⟩, fun q => absurd q (Int32.not_le.mpr (nI_lt h1 (by omega)))⟩) (by decide) (by decide)
theorem hd_X1_sizes : yX1_sizes.cls ≠ "java/lang/invoke/MethodHandle" ∧ yX1_sizes.cls ≠ "java/lang/invoke/VarHandle" ∧ (parseMethodDescriptor yX1_sizes.desc).map (fun d => d.parameters.length) = some 2 := by decide +kernel
