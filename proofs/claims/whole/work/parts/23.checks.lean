theorem wm_X1_checkSlot_tk : Cond.classLink RX1 114 sIO ∈ wsX1_checkSlot := by decide +kernel
theorem wm_X1_checkSlot_ti : Cond.initialized sIO ∈ wsX1_checkSlot := by decide +kernel
set_option maxRecDepth 20000 in
theorem wg_X1_checkSlot : ∀ w ∈ (vx_atS RX1 118 sIO nmsX).filter goodWord, w ∈ wsX1_checkSlot := by decide +kernel
set_option maxHeartbeats 4000000 in
set_option maxRecDepth 100000 in
theorem c_checkSlot (l : Launch) (hl0 : l.stackTraces = false) (g : Geo) (R : Nat → Nat → Int64) (B : Rul) (M : Mod) (O : Nat → Int64) (x : Int32) : Xs l g yX1_checkSlot wsX1_checkSlot (rmX 6 82 1 6) [.int (x)] (R, B, M, O) (fun v' u' => v' = none ∧ u' = (R, B, M, O) ∧ okI 48 x) (fun E0 => E0 = sIO ∧ ¬ okI 48 x) 1 6 := by
  refine Xs.ofW RX1 rfl (by decide) rfl (Nat.le_of_ble_eq_true rfl) ?_
  intro p e s m below meth c E hr hk ht F I ls hl
  have hx := E.1
  have hb := E.2.1
  have hl : lv_has ls 1 [(0, .int (x))] := hl
  refine lv_iload_n hx hb dX1_checkSlot_0 rfl (lv_at hl 0 rfl) ?_
  refine lv_if_lt (tgt := 10) hx hb dX1_checkSlot_1 (by decide) (fun h1 => ?_) (fun h1 => ?_)
  · exact y_throw (text := "there is no such slot") hl0 E F I ht hk hl.1 (by decide +kernel) wm_X1_checkSlot_tk wm_X1_checkSlot_ti (by decide) wg_X1_checkSlot ng_IO ngL_on ot_IO dX1_checkSlot_10 dX1_checkSlot_13 dX1_checkSlot_14 dX1_checkSlot_16 dX1_checkSlot_19 (by decide) (Nat.le_of_ble_eq_true rfl) (by decide) (by decide) (⟨rfl, okI_neg (by decide) h1⟩) (by decide) (by decide)
  · refine lv_iload_n hx hb dX1_checkSlot_4 rfl (lv_at hl 0 rfl) ?_
    refine lv_bipush (v := nI (48)) hx hb dX1_checkSlot_5 (by decide) ?_
    refine lv_icmp_lt (tgt := 20) hx hb dX1_checkSlot_7 (by decide) (fun h2 => ?_) (fun h2 => ?_)
    · exact y_vret hx hb hr hk F I (by decide) (by decide) ⟨rfl, rfl, okI_lt (by decide) h1 h2⟩ dX1_checkSlot_20
    · exact y_throw (text := "there is no such slot") hl0 E F I ht hk hl.1 (by decide +kernel) wm_X1_checkSlot_tk wm_X1_checkSlot_ti (by decide) wg_X1_checkSlot ng_IO ngL_on ot_IO dX1_checkSlot_10 dX1_checkSlot_13 dX1_checkSlot_14 dX1_checkSlot_16 dX1_checkSlot_19 (by decide) (Nat.le_of_ble_eq_true rfl) (by decide) (by decide) (⟨rfl, okI_big (by decide) h2⟩) (by decide) (by decide)
theorem hd_X1_checkSlot : yX1_checkSlot.cls ≠ "java/lang/invoke/MethodHandle" ∧ yX1_checkSlot.cls ≠ "java/lang/invoke/VarHandle" ∧ (parseMethodDescriptor yX1_checkSlot.desc).map (fun d => d.parameters.length) = some 1 := by decide +kernel
theorem wm_X1_checkVariable_tk : Cond.classLink RX1 47 sIA ∈ wsX1_checkVariable := by decide +kernel
theorem wm_X1_checkVariable_ti : Cond.initialized sIA ∈ wsX1_checkVariable := by decide +kernel
set_option maxRecDepth 20000 in
theorem wg_X1_checkVariable : ∀ w ∈ (vx_atS RX1 51 sIA nmsX).filter goodWord, w ∈ wsX1_checkVariable := by decide +kernel
set_option maxHeartbeats 4000000 in
set_option maxRecDepth 100000 in
theorem c_checkVariable (l : Launch) (hl0 : l.stackTraces = false) (g : Geo) (R : Nat → Nat → Int64) (B : Rul) (M : Mod) (O : Nat → Int64) (x : Int32) : Xs l g yX1_checkVariable wsX1_checkVariable (rmX 6 82 1 6) [.int (x)] (R, B, M, O) (fun v' u' => v' = none ∧ u' = (R, B, M, O) ∧ okI 10 x) (fun E0 => E0 = sIA ∧ ¬ okI 10 x) 1 6 := by
  refine Xs.ofW RX1 rfl (by decide) rfl (Nat.le_of_ble_eq_true rfl) ?_
  intro p e s m below meth c E hr hk ht F I ls hl
  have hx := E.1
  have hb := E.2.1
  have hl : lv_has ls 1 [(0, .int (x))] := hl
  refine lv_iload_n hx hb dX1_checkVariable_0 rfl (lv_at hl 0 rfl) ?_
  refine lv_if_lt (tgt := 10) hx hb dX1_checkVariable_1 (by decide) (fun h1 => ?_) (fun h1 => ?_)
  · exact y_throw (text := "the variable is not 0 .. 9") hl0 E F I ht hk hl.1 (by decide +kernel) wm_X1_checkVariable_tk wm_X1_checkVariable_ti (by decide) wg_X1_checkVariable ng_IA ngL_on ot_IA dX1_checkVariable_10 dX1_checkVariable_13 dX1_checkVariable_14 dX1_checkVariable_16 dX1_checkVariable_19 (by decide) (Nat.le_of_ble_eq_true rfl) (by decide) (by decide) (⟨rfl, okI_neg (by decide) h1⟩) (by decide) (by decide)
  · refine lv_iload_n hx hb dX1_checkVariable_4 rfl (lv_at hl 0 rfl) ?_
    refine lv_bipush (v := nI (10)) hx hb dX1_checkVariable_5 (by decide) ?_
    refine lv_icmp_lt (tgt := 20) hx hb dX1_checkVariable_7 (by decide) (fun h2 => ?_) (fun h2 => ?_)
    · exact y_vret hx hb hr hk F I (by decide) (by decide) ⟨rfl, rfl, okI_lt (by decide) h1 h2⟩ dX1_checkVariable_20
    · exact y_throw (text := "the variable is not 0 .. 9") hl0 E F I ht hk hl.1 (by decide +kernel) wm_X1_checkVariable_tk wm_X1_checkVariable_ti (by decide) wg_X1_checkVariable ng_IA ngL_on ot_IA dX1_checkVariable_10 dX1_checkVariable_13 dX1_checkVariable_14 dX1_checkVariable_16 dX1_checkVariable_19 (by decide) (Nat.le_of_ble_eq_true rfl) (by decide) (by decide) (⟨rfl, okI_big (by decide) h2⟩) (by decide) (by decide)
theorem hd_X1_checkVariable : yX1_checkVariable.cls ≠ "java/lang/invoke/MethodHandle" ∧ yX1_checkVariable.cls ≠ "java/lang/invoke/VarHandle" ∧ (parseMethodDescriptor yX1_checkVariable.desc).map (fun d => d.parameters.length) = some 1 := by decide +kernel
theorem wm_X1_checkPoint_tk : Cond.classLink RX1 47 sIA ∈ wsX1_checkPoint := by decide +kernel
theorem wm_X1_checkPoint_ti : Cond.initialized sIA ∈ wsX1_checkPoint := by decide +kernel
set_option maxRecDepth 20000 in
theorem wg_X1_checkPoint : ∀ w ∈ (vx_atS RX1 51 sIA nmsX).filter goodWord, w ∈ wsX1_checkPoint := by decide +kernel
set_option maxHeartbeats 4000000 in
set_option maxRecDepth 100000 in
theorem c_checkPoint (l : Launch) (hl0 : l.stackTraces = false) (g : Geo) (R : Nat → Nat → Int64) (B : Rul) (M : Mod) (O : Nat → Int64) (x : Int32) : Xs l g yX1_checkPoint wsX1_checkPoint (rmX 6 82 1 6) [.int (x)] (R, B, M, O) (fun v' u' => v' = none ∧ u' = (R, B, M, O) ∧ okI 1024 x) (fun E0 => E0 = sIA ∧ ¬ okI 1024 x) 1 6 := by
  refine Xs.ofW RX1 rfl (by decide) rfl (Nat.le_of_ble_eq_true rfl) ?_
  intro p e s m below meth c E hr hk ht F I ls hl
  have hx := E.1
  have hb := E.2.1
  have hl : lv_has ls 1 [(0, .int (x))] := hl
  refine lv_iload_n hx hb dX1_checkPoint_0 rfl (lv_at hl 0 rfl) ?_
  refine lv_if_lt (tgt := 11) hx hb dX1_checkPoint_1 (by decide) (fun h1 => ?_) (fun h1 => ?_)
  · exact y_throw (text := "the point is not 0 .. 1023") hl0 E F I ht hk hl.1 (by decide +kernel) wm_X1_checkPoint_tk wm_X1_checkPoint_ti (by decide) wg_X1_checkPoint ng_IA ngL_on ot_IA dX1_checkPoint_11 dX1_checkPoint_14 dX1_checkPoint_15 dX1_checkPoint_17 dX1_checkPoint_20 (by decide) (Nat.le_of_ble_eq_true rfl) (by decide) (by decide) (⟨rfl, okI_neg (by decide) h1⟩) (by decide) (by decide)
  · refine lv_iload_n hx hb dX1_checkPoint_4 rfl (lv_at hl 0 rfl) ?_
    refine lv_sipush (v := nI (1024)) hx hb dX1_checkPoint_5 (by decide) ?_
    refine lv_icmp_lt (tgt := 21) hx hb dX1_checkPoint_8 (by decide) (fun h2 => ?_) (fun h2 => ?_)
    · exact y_vret hx hb hr hk F I (by decide) (by decide) ⟨rfl, rfl, okI_lt (by decide) h1 h2⟩ dX1_checkPoint_21
    · exact y_throw (text := "the point is not 0 .. 1023") hl0 E F I ht hk hl.1 (by decide +kernel) wm_X1_checkPoint_tk wm_X1_checkPoint_ti (by decide) wg_X1_checkPoint ng_IA ngL_on ot_IA dX1_checkPoint_11 dX1_checkPoint_14 dX1_checkPoint_15 dX1_checkPoint_17 dX1_checkPoint_20 (by decide) (Nat.le_of_ble_eq_true rfl) (by decide) (by decide) (⟨rfl, okI_big (by decide) h2⟩) (by decide) (by decide)
theorem hd_X1_checkPoint : yX1_checkPoint.cls ≠ "java/lang/invoke/MethodHandle" ∧ yX1_checkPoint.cls ≠ "java/lang/invoke/VarHandle" ∧ (parseMethodDescriptor yX1_checkPoint.desc).map (fun d => d.parameters.length) = some 1 := by decide +kernel
