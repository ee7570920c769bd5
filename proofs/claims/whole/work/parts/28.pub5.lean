def lwb (x : Int64) : Nat := pop ((x ^^^ (-1)) &&& (x - 1))
def cwd (f : Nat → Int64) : Nat → Nat
  | 0 => 0
  | i + 1 => cwd f i + pop (f i)
def alw (k i : Nat) : Int64 := if i = k / 64 then lsh (-1) (k % 64) else -1
def wnx (f : Nat → Int64) (k j : Nat) : Int64 := f j &&& alw k j
theorem wm_J13_bitCount_95d88_c314 : Cond.constantLong RJ13 314 (6148914691236517205) ∈ wsJ13_bitCount_95d88 := by decide +kernel
theorem wm_J13_bitCount_95d88_c316 : Cond.constantLong RJ13 316 (3689348814741910323) ∈ wsJ13_bitCount_95d88 := by decide +kernel
theorem wm_J13_bitCount_95d88_c318 : Cond.constantLong RJ13 318 (1085102592571150095) ∈ wsJ13_bitCount_95d88 := by decide +kernel
set_option maxHeartbeats 4000000 in
set_option maxRecDepth 100000 in
theorem c_bitCount (l : Launch) (g : Geo) (R : Nat → Nat → Int64) (B : Rul) (M : Mod) (O : Nat → Int64) (x : Int64) : Cd l g yJ13_bitCount_95d88 wsJ13_bitCount_95d88 (rmN 0 0) [.long (x)] (R, B, M, O) (some (.int (nI (pop x)))) (R, B, M, O) := by
  refine Cs.ofW RJ13 rfl (by decide) rfl (Nat.le_of_ble_eq_true rfl) ?_
  intro p e s m below meth c E hr hk F I ls hl
  have hx := E.1
  have hb := E.2.1
  have hl : lv_has ls 2 [(0, .long (x))] := hl
  refine lv_lload_n hx hb dJ13_bitCount_95d88_0 rfl (lv_at hl 0 rfl) ?_
  refine lv_lload_n hx hb dJ13_bitCount_95d88_1 rfl (lv_at hl 0 rfl) ?_
  refine lv_iconst (v := nI (1)) hx hb dJ13_bitCount_95d88_2 (by decide) ?_
  refine n_lushr hx hb dJ13_bitCount_95d88_3 ?_
  refine lv_ldc2 (v := 6148914691236517205) hx hb E.2.2.2.1 (E.2.2.2.2 _ wm_J13_bitCount_95d88_c314) dJ13_bitCount_95d88_4 ?_
  refine lv_land hx hb dJ13_bitCount_95d88_7 ?_
  refine lv_lsub hx hb dJ13_bitCount_95d88_8 ?_
  refine lv_lstore_n (lv' := [(0, .long ((x) - ((ush (x) (1)) &&& (6148914691236517205))))]) hx hb dJ13_bitCount_95d88_9 rfl hl (by decide) rfl (fun ls hl => ?_)
  refine lv_lload_n hx hb dJ13_bitCount_95d88_10 rfl (lv_at hl 0 rfl) ?_
  refine lv_ldc2 (v := 3689348814741910323) hx hb E.2.2.2.1 (E.2.2.2.2 _ wm_J13_bitCount_95d88_c316) dJ13_bitCount_95d88_11 ?_
  refine lv_land hx hb dJ13_bitCount_95d88_14 ?_
  refine lv_lload_n hx hb dJ13_bitCount_95d88_15 rfl (lv_at hl 0 rfl) ?_
  refine lv_iconst (v := nI (2)) hx hb dJ13_bitCount_95d88_16 (by decide) ?_
  refine n_lushr hx hb dJ13_bitCount_95d88_17 ?_
  refine lv_ldc2 (v := 3689348814741910323) hx hb E.2.2.2.1 (E.2.2.2.2 _ wm_J13_bitCount_95d88_c316) dJ13_bitCount_95d88_18 ?_
  refine lv_land hx hb dJ13_bitCount_95d88_21 ?_
  refine lv_ladd hx hb dJ13_bitCount_95d88_22 ?_
  refine lv_lstore_n (lv' := [(0, .long ((((x) - ((ush (x) (1)) &&& (6148914691236517205))) &&& (3689348814741910323)) + ((ush ((x) - ((ush (x) (1)) &&& (6148914691236517205))) (2)) &&& (3689348814741910323))))]) hx hb dJ13_bitCount_95d88_23 rfl hl (by decide) rfl (fun ls hl => ?_)
  refine lv_lload_n hx hb dJ13_bitCount_95d88_24 rfl (lv_at hl 0 rfl) ?_
  refine lv_lload_n hx hb dJ13_bitCount_95d88_25 rfl (lv_at hl 0 rfl) ?_
  refine lv_iconst (v := nI (4)) hx hb dJ13_bitCount_95d88_26 (by decide) ?_
  refine n_lushr hx hb dJ13_bitCount_95d88_27 ?_
  refine lv_ladd hx hb dJ13_bitCount_95d88_28 ?_
  refine lv_ldc2 (v := 1085102592571150095) hx hb E.2.2.2.1 (E.2.2.2.2 _ wm_J13_bitCount_95d88_c318) dJ13_bitCount_95d88_29 ?_
  refine lv_land hx hb dJ13_bitCount_95d88_32 ?_
  refine lv_lstore_n (lv' := [(0, .long ((((((x) - ((ush (x) (1)) &&& (6148914691236517205))) &&& (3689348814741910323)) + ((ush ((x) - ((ush (x) (1)) &&& (6148914691236517205))) (2)) &&& (3689348814741910323))) + (ush ((((x) - ((ush (x) (1)) &&& (6148914691236517205))) &&& (3689348814741910323)) + ((ush ((x) - ((ush (x) (1)) &&& (6148914691236517205))) (2)) &&& (3689348814741910323))) (4))) &&& (1085102592571150095)))]) hx hb dJ13_bitCount_95d88_33 rfl hl (by decide) rfl (fun ls hl => ?_)
  refine lv_lload_n hx hb dJ13_bitCount_95d88_34 rfl (lv_at hl 0 rfl) ?_
  refine lv_lload_n hx hb dJ13_bitCount_95d88_35 rfl (lv_at hl 0 rfl) ?_
  refine lv_bipush (v := nI (8)) hx hb dJ13_bitCount_95d88_36 (by decide) ?_
  refine n_lushr hx hb dJ13_bitCount_95d88_38 ?_
  refine lv_ladd hx hb dJ13_bitCount_95d88_39 ?_
  refine lv_lstore_n (lv' := [(0, .long (((((((x) - ((ush (x) (1)) &&& (6148914691236517205))) &&& (3689348814741910323)) + ((ush ((x) - ((ush (x) (1)) &&& (6148914691236517205))) (2)) &&& (3689348814741910323))) + (ush ((((x) - ((ush (x) (1)) &&& (6148914691236517205))) &&& (3689348814741910323)) + ((ush ((x) - ((ush (x) (1)) &&& (6148914691236517205))) (2)) &&& (3689348814741910323))) (4))) &&& (1085102592571150095)) + (ush ((((((x) - ((ush (x) (1)) &&& (6148914691236517205))) &&& (3689348814741910323)) + ((ush ((x) - ((ush (x) (1)) &&& (6148914691236517205))) (2)) &&& (3689348814741910323))) + (ush ((((x) - ((ush (x) (1)) &&& (6148914691236517205))) &&& (3689348814741910323)) + ((ush ((x) - ((ush (x) (1)) &&& (6148914691236517205))) (2)) &&& (3689348814741910323))) (4))) &&& (1085102592571150095)) (8))))]) hx hb dJ13_bitCount_95d88_40 rfl hl (by decide) rfl (fun ls hl => ?_)
  refine lv_lload_n hx hb dJ13_bitCount_95d88_41 rfl (lv_at hl 0 rfl) ?_
  refine lv_lload_n hx hb dJ13_bitCount_95d88_42 rfl (lv_at hl 0 rfl) ?_
  refine lv_bipush (v := nI (16)) hx hb dJ13_bitCount_95d88_43 (by decide) ?_
  refine n_lushr hx hb dJ13_bitCount_95d88_45 ?_
  refine lv_ladd hx hb dJ13_bitCount_95d88_46 ?_
  refine lv_lstore_n (lv' := [(0, .long ((((((((x) - ((ush (x) (1)) &&& (6148914691236517205))) &&& (3689348814741910323)) + ((ush ((x) - ((ush (x) (1)) &&& (6148914691236517205))) (2)) &&& (3689348814741910323))) + (ush ((((x) - ((ush (x) (1)) &&& (6148914691236517205))) &&& (3689348814741910323)) + ((ush ((x) - ((ush (x) (1)) &&& (6148914691236517205))) (2)) &&& (3689348814741910323))) (4))) &&& (1085102592571150095)) + (ush ((((((x) - ((ush (x) (1)) &&& (6148914691236517205))) &&& (3689348814741910323)) + ((ush ((x) - ((ush (x) (1)) &&& (6148914691236517205))) (2)) &&& (3689348814741910323))) + (ush ((((x) - ((ush (x) (1)) &&& (6148914691236517205))) &&& (3689348814741910323)) + ((ush ((x) - ((ush (x) (1)) &&& (6148914691236517205))) (2)) &&& (3689348814741910323))) (4))) &&& (1085102592571150095)) (8))) + (ush (((((((x) - ((ush (x) (1)) &&& (6148914691236517205))) &&& (3689348814741910323)) + ((ush ((x) - ((ush (x) (1)) &&& (6148914691236517205))) (2)) &&& (3689348814741910323))) + (ush ((((x) - ((ush (x) (1)) &&& (6148914691236517205))) &&& (3689348814741910323)) + ((ush ((x) - ((ush (x) (1)) &&& (6148914691236517205))) (2)) &&& (3689348814741910323))) (4))) &&& (1085102592571150095)) + (ush ((((((x) - ((ush (x) (1)) &&& (6148914691236517205))) &&& (3689348814741910323)) + ((ush ((x) - ((ush (x) (1)) &&& (6148914691236517205))) (2)) &&& (3689348814741910323))) + (ush ((((x) - ((ush (x) (1)) &&& (6148914691236517205))) &&& (3689348814741910323)) + ((ush ((x) - ((ush (x) (1)) &&& (6148914691236517205))) (2)) &&& (3689348814741910323))) (4))) &&& (1085102592571150095)) (8))) (16))))]) hx hb dJ13_bitCount_95d88_47 rfl hl (by decide) rfl (fun ls hl => ?_)
  refine lv_lload_n hx hb dJ13_bitCount_95d88_48 rfl (lv_at hl 0 rfl) ?_
  refine lv_lload_n hx hb dJ13_bitCount_95d88_49 rfl (lv_at hl 0 rfl) ?_
  refine lv_bipush (v := nI (32)) hx hb dJ13_bitCount_95d88_50 (by decide) ?_
  refine n_lushr hx hb dJ13_bitCount_95d88_52 ?_
  refine lv_ladd hx hb dJ13_bitCount_95d88_53 ?_
  refine lv_lstore_n (lv' := [(0, .long (((((((((x) - ((ush (x) (1)) &&& (6148914691236517205))) &&& (3689348814741910323)) + ((ush ((x) - ((ush (x) (1)) &&& (6148914691236517205))) (2)) &&& (3689348814741910323))) + (ush ((((x) - ((ush (x) (1)) &&& (6148914691236517205))) &&& (3689348814741910323)) + ((ush ((x) - ((ush (x) (1)) &&& (6148914691236517205))) (2)) &&& (3689348814741910323))) (4))) &&& (1085102592571150095)) + (ush ((((((x) - ((ush (x) (1)) &&& (6148914691236517205))) &&& (3689348814741910323)) + ((ush ((x) - ((ush (x) (1)) &&& (6148914691236517205))) (2)) &&& (3689348814741910323))) + (ush ((((x) - ((ush (x) (1)) &&& (6148914691236517205))) &&& (3689348814741910323)) + ((ush ((x) - ((ush (x) (1)) &&& (6148914691236517205))) (2)) &&& (3689348814741910323))) (4))) &&& (1085102592571150095)) (8))) + (ush (((((((x) - ((ush (x) (1)) &&& (6148914691236517205))) &&& (3689348814741910323)) + ((ush ((x) - ((ush (x) (1)) &&& (6148914691236517205))) (2)) &&& (3689348814741910323))) + (ush ((((x) - ((ush (x) (1)) &&& (6148914691236517205))) &&& (3689348814741910323)) + ((ush ((x) - ((ush (x) (1)) &&& (6148914691236517205))) (2)) &&& (3689348814741910323))) (4))) &&& (1085102592571150095)) + (ush ((((((x) - ((ush (x) (1)) &&& (6148914691236517205))) &&& (3689348814741910323)) + ((ush ((x) - ((ush (x) (1)) &&& (6148914691236517205))) (2)) &&& (3689348814741910323))) + (ush ((((x) - ((ush (x) (1)) &&& (6148914691236517205))) &&& (3689348814741910323)) + ((ush ((x) - ((ush (x) (1)) &&& (6148914691236517205))) (2)) &&& (3689348814741910323))) (4))) &&& (1085102592571150095)) (8))) (16))) + (ush ((((((((x) - ((ush (x) (1)) &&& (6148914691236517205))) &&& (3689348814741910323)) + ((ush ((x) - ((ush (x) (1)) &&& (6148914691236517205))) (2)) &&& (3689348814741910323))) + (ush ((((x) - ((ush (x) (1)) &&& (6148914691236517205))) &&& (3689348814741910323)) + ((ush ((x) - ((ush (x) (1)) &&& (6148914691236517205))) (2)) &&& (3689348814741910323))) (4))) &&& (1085102592571150095)) + (ush ((((((x) - ((ush (x) (1)) &&& (6148914691236517205))) &&& (3689348814741910323)) + ((ush ((x) - ((ush (x) (1)) &&& (6148914691236517205))) (2)) &&& (3689348814741910323))) + (ush ((((x) - ((ush (x) (1)) &&& (6148914691236517205))) &&& (3689348814741910323)) + ((ush ((x) - ((ush (x) (1)) &&& (6148914691236517205))) (2)) &&& (3689348814741910323))) (4))) &&& (1085102592571150095)) (8))) + (ush (((((((x) - ((ush (x) (1)) &&& (6148914691236517205))) &&& (3689348814741910323)) + ((ush ((x) - ((ush (x) (1)) &&& (6148914691236517205))) (2)) &&& (3689348814741910323))) + (ush ((((x) - ((ush (x) (1)) &&& (6148914691236517205))) &&& (3689348814741910323)) + ((ush ((x) - ((ush (x) (1)) &&& (6148914691236517205))) (2)) &&& (3689348814741910323))) (4))) &&& (1085102592571150095)) + (ush ((((((x) - ((ush (x) (1)) &&& (6148914691236517205))) &&& (3689348814741910323)) + ((ush ((x) - ((ush (x) (1)) &&& (6148914691236517205))) (2)) &&& (3689348814741910323))) + (ush ((((x) - ((ush (x) (1)) &&& (6148914691236517205))) &&& (3689348814741910323)) + ((ush ((x) - ((ush (x) (1)) &&& (6148914691236517205))) (2)) &&& (3689348814741910323))) (4))) &&& (1085102592571150095)) (8))) (16))) (32))))]) hx hb dJ13_bitCount_95d88_54 rfl hl (by decide) rfl (fun ls hl => ?_)
  refine lv_lload_n hx hb dJ13_bitCount_95d88_55 rfl (lv_at hl 0 rfl) ?_
  refine lv_l2i hx hb dJ13_bitCount_95d88_56 rfl ?_
  refine lv_bipush (v := nI (127)) hx hb dJ13_bitCount_95d88_57 (by decide) ?_
  refine lv_iand hx hb dJ13_bitCount_95d88_59 ?_
  exact x_iret hx hb hr hk F I ⟨congrArg (fun z => some (Value.int z)) (bcE_pop x), rfl⟩ dJ13_bitCount_95d88_60
theorem hd_J13_bitCount_95d88 : yJ13_bitCount_95d88.cls ≠ "java/lang/invoke/MethodHandle" ∧ yJ13_bitCount_95d88.cls ≠ "java/lang/invoke/VarHandle" ∧ (parseMethodDescriptor yJ13_bitCount_95d88.desc).map (fun d => d.parameters.length) = some 1 := by decide +kernel
theorem wm_X1_lowestBit_c38 : Cond.constantLong RX1 38 (-1) ∈ wsX1_lowestBit := by decide +kernel
set_option maxHeartbeats 4000000 in
set_option maxRecDepth 100000 in
theorem c_lowestBit (l : Launch) (g : Geo) (R : Nat → Nat → Int64) (B : Rul) (M : Mod) (O : Nat → Int64) (x : Int64) : Cd l g yX1_lowestBit wsX1_lowestBit (rmN 1 21) [.long (x)] (R, B, M, O) (some (.int (nI (lwb x)))) (R, B, M, O) := by
  refine Cs.ofW RX1 rfl (by decide) rfl (Nat.le_of_ble_eq_true rfl) ?_
  intro p e s m below meth c E hr hk F I ls hl
  have hx := E.1
  have hb := E.2.1
  have hl : lv_has ls 2 [(0, .long (x))] := hl
  refine lv_lload_n hx hb dX1_lowestBit_0 rfl (lv_at hl 0 rfl) ?_
  refine lv_ldc2 (v := -1) hx hb E.2.2.2.1 (E.2.2.2.2 _ wm_X1_lowestBit_c38) dX1_lowestBit_1 ?_
  refine lv_lxor hx hb dX1_lowestBit_4 ?_
  refine lv_lload_n hx hb dX1_lowestBit_5 rfl (lv_at hl 0 rfl) ?_
  refine lv_lconst (v := 1) hx hb dX1_lowestBit_6 (by decide) ?_
  refine lv_lsub hx hb dX1_lowestBit_7 ?_
  refine lv_land hx hb dX1_lowestBit_8 ?_
  refine x_callSi (rest := []) E F I (c_bitCount l g R B M O (((x) ^^^ (-1)) &&& ((x) - (1)))) gX1_lowestBit_J13_bitCount_95d88 rfl hd_J13_bitCount_95d88 rfl rfl ⟨by decide, by decide⟩ ⟨by decide, by decide⟩ rfl hl.1 rfl (Nat.le_of_ble_eq_true rfl) dX1_lowestBit_9 (fun H locs I => ?_)
  exact x_iret hx hb hr hk F I ⟨rfl, rfl⟩ dX1_lowestBit_12
theorem hd_X1_lowestBit : yX1_lowestBit.cls ≠ "java/lang/invoke/MethodHandle" ∧ yX1_lowestBit.cls ≠ "java/lang/invoke/VarHandle" ∧ (parseMethodDescriptor yX1_lowestBit.desc).map (fun d => d.parameters.length) = some 1 := by decide +kernel
theorem wm_X1_count_f11 : Cond.fieldLink RX1 11 "FunctionDesk" "slots" "[[J" ∈ wsX1_count := by decide +kernel
theorem inw_X1_count_X1 : ∀ w ∈ wsX10, w ∈ wsX1_count := by decide +kernel
set_option maxHeartbeats 4000000 in
set_option maxRecDepth 100000 in
theorem c_count (l : Launch) (hl0 : l.stackTraces = false) (g : Geo) (R : Nat → Nat → Int64) (B : Rul) (M : Mod) (O : Nat → Int64) (x1 : Int32) : Xs l g yX1_count wsX1_count (rmX 7 110 5 30) [.ref (gA g 0), .int (x1)] (R, B, M, O) (fun v' u' => u' = (R, B, M, O) ∧ ∃ a_ : Nat, a_ < 48 ∧ x1 = nI a_ ∧ v' = some (.int (nI (cwd (R a_) 16)))) (fun E0 => (E0 = sIO ∧ ¬ (okI 48 x1))) 5 30 := by
  refine Xs.ofW RX1 rfl (by decide) rfl (Nat.le_of_ble_eq_true rfl) ?_
  intro p e s m below meth c E hr hk ht F I ls hl
  have hx := E.1
  have hb := E.2.1
  have hl : lv_has ls 4 [(0, .ref (gA g 0)), (1, .int (x1))] := hl
  refine lv_iload_n hx hb dX1_count_0 rfl (lv_at hl 1 rfl) ?_
  refine z_check (rest := []) E F I (c_checkSlot l hl0 g R B M O x1) gX1_count_X1_checkSlot rfl hd_X1_checkSlot rfl rfl ⟨by decide, by decide⟩ ⟨by decide, by decide⟩ rfl hl.1 rfl (Nat.le_of_ble_eq_true rfl) dX1_count_1 (fun E0 ce q9 H locs hxc I h1 h2 h3 => ?_) (fun hok H locs I => ?_)
  · exact y_out ht hk I h1 h2 h3 (⟨hxc.1, fun q => hxc.2 q⟩) (by decide) (by decide)
  obtain ⟨a, lt_a, rfl⟩ := hok
  have hl : lv_has ls 4 [(0, .ref (gA g 0)), (1, .int (nI (a)))] := hl
  refine W.widen (k := 5) (n := 30) (by decide) (by decide) ?_
  refine lv_iconst (v := nI (0)) hx hb dX1_count_4 (by decide) ?_
  refine lv_istore_n (lv' := [(2, .int (nI (0))), (0, .ref (gA g 0)), (1, .int (nI (a)))]) hx hb dX1_count_5 rfl hl (by decide) rfl (fun ls hl => ?_)
  refine lv_iconst (v := nI (0)) hx hb dX1_count_6 (by decide) ?_
  refine lv_istore_n (lv' := [(3, .int (nI (0))), (2, .int (nI (0))), (0, .ref (gA g 0)), (1, .int (nI (a)))]) hx hb dX1_count_7 rfl hl (by decide) rfl (fun ls hl => ?_)
  have loop : ∀ (n i : Nat), i ≤ 16 → 16 + 1 ≤ i + n → ∀ (H : Heap) (locs : List Loc) (ls : Array Slot), Iv g (R, B, M, O) s H locs → lv_has ls 4 [(0, .ref (gA g 0)), (1, .int (nI (a))), (2, .int (nI (cwd (R a) (i)))), (3, .int (nI (i)))] → W p l e (rmX 7 110 5 30) s m [.ref (gA g 0), .int ((nI a))].toArray below meth c H locs 5 30 (vx_MQ below (Qs g (fun v' u' => u' = (R, B, M, O) ∧ ∃ a_ : Nat, a_ < 48 ∧ (nI a) = nI a_ ∧ v' = some (.int (nI (cwd (R a_) 16))))) (Xq g (R, B, M, O) (fun E0 => (E0 = sIO ∧ ¬ (okI 48 (nI a))))) [.ref (gA g 0), .int ((nI a))].toArray s 5 30 (gW g)) (F0 m 8 ls []) := by
    intro n
    induction n with
    | zero => intro i h1 h2; exact absurd h2 (by omega)
    | succ n ih =>
      intro i hi hn H locs ls I hl
      refine lv_iload_n hx hb dX1_count_8 rfl (lv_at hl 3 rfl) ?_
      refine lv_bipush (v := nI (16)) hx hb dX1_count_9 (by decide) ?_
      refine n_cge (tgt := 34) hx hb (by omega) (by omega) dX1_count_11 (by decide) (fun h1 => ?_) (fun h1 => ?_)
      · obtain rfl : i = 16 := by omega
        have hl : lv_has ls 4 [(0, .ref (gA g 0)), (1, .int (nI (a))), (2, .int (nI (cwd (R a) (16)))), (3, .int (nI (16)))] := hl
        refine lv_iload_n hx hb dX1_count_34 rfl (lv_at hl 2 rfl) ?_
        exact y_iret hx hb hr hk F I (by decide) (by decide) ⟨rfl, a, lt_a, rfl, rfl⟩ dX1_count_35
      · refine lv_iload_n hx hb dX1_count_14 rfl (lv_at hl 2 rfl) ?_
        refine lv_aload_n hx hb dX1_count_15 rfl (lv_at hl 0 rfl) ?_
        refine x_get 0 1 0 (C := RX1) (T := TX1) (N := 6) (v := .ref (gA g 1)) E F I inw_X1_count_X1 (by decide) rfl rfl (by decide) wm_X1_count_f11 rfl dX1_count_16 ?_
        refine lv_iload_n hx hb dX1_count_19 rfl (lv_at hl 1 rfl) ?_
        refine x_aaload hx hb F I (by omega) dX1_count_20 ?_
        refine lv_iload_n hx hb dX1_count_21 rfl (lv_at hl 3 rfl) ?_
        refine x_laload (k := a) (i := i) hx hb F I (by omega) (by omega) dX1_count_22 ?_
        refine x_callSi (rest := [.int (nI (cwd (R a) (i)))]) E F I (c_bitCount l g R B M O (R (a) (i))) gX1_count_J13_bitCount_95d88 rfl hd_J13_bitCount_95d88 rfl rfl ⟨by decide, by decide⟩ ⟨by decide, by decide⟩ rfl hl.1 rfl (Nat.le_of_ble_eq_true rfl) dX1_count_23 (fun H locs I => ?_)
        refine n_iadd hx hb dX1_count_26 ?_
        refine lv_istore_n (lv' := [(2, .int (nI ((cwd (R a) (i)) + (pop (R (a) (i)))))), (0, .ref (gA g 0)), (1, .int (nI (a))), (3, .int (nI (i)))]) hx hb dX1_count_27 rfl hl (by decide) rfl (fun ls hl => ?_)
        refine n_iinc (d := 1) (lv' := [(3, .int (nI (i + 1))), (2, .int (nI ((cwd (R a) (i)) + (pop (R (a) (i)))))), (0, .ref (gA g 0)), (1, .int (nI (a)))]) hx hb dX1_count_28 rfl hl (j := 3) rfl (by decide) rfl (fun ls hl => ?_)
        refine lv_goto (tgt := 8) hx hb dX1_count_31 (by decide) ?_
        exact ih (i + 1) (by omega) (by omega) _ _ ls (I) (lv_sub hl [2, 3, 1, 0] rfl)
  exact loop (16 + 1 - 0) (0) (by omega) (by omega) _ _ ls (I) (lv_sub hl [2, 3, 1, 0] rfl)
theorem hd_X1_count : yX1_count.cls ≠ "java/lang/invoke/MethodHandle" ∧ yX1_count.cls ≠ "java/lang/invoke/VarHandle" ∧ (parseMethodDescriptor yX1_count.desc).map (fun d => d.parameters.length) = some 1 := by decide +kernel
theorem wm_X1_next_c38 : Cond.constantLong RX1 38 (-1) ∈ wsX1_next := by decide +kernel
theorem wm_X1_next_f11 : Cond.fieldLink RX1 11 "FunctionDesk" "slots" "[[J" ∈ wsX1_next := by decide +kernel
theorem inw_X1_next_X1 : ∀ w ∈ wsX10, w ∈ wsX1_next := by decide +kernel
set_option maxHeartbeats 4000000 in
set_option maxRecDepth 100000 in
theorem c_next (l : Launch) (hl0 : l.stackTraces = false) (g : Geo) (R : Nat → Nat → Int64) (B : Rul) (M : Mod) (O : Nat → Int64) (x1 : Int32) (x2 : Int32) : Xs l g yX1_next wsX1_next (rmX 7 110 5 30) [.ref (gA g 0), .int (x1), .int (x2)] (R, B, M, O) (fun v' u' => u' = (R, B, M, O) ∧ ∃ a_ k_ : Nat, a_ < 48 ∧ k_ < 1024 ∧ x1 = nI a_ ∧ x2 = nI k_ ∧ ∃ r : Int32, v' = some (.int r) ∧ ((∃ i, k_ / 64 ≤ i ∧ i < 16 ∧ (∀ j, k_ / 64 ≤ j → j < i → wnx (R a_) k_ j = 0) ∧ wnx (R a_) k_ i ≠ 0 ∧ r = nI (i * 64 + lwb (wnx (R a_) k_ i))) ∨ ((∀ j, k_ / 64 ≤ j → j < 16 → wnx (R a_) k_ j = 0) ∧ r = -1))) (fun E0 => (E0 = sIO ∧ ¬ (okI 48 x1)) ∨ (E0 = sIA ∧ (okI 48 x1) ∧ ¬ (okI 1024 x2))) 5 30 := by
  refine Xs.ofW RX1 rfl (by decide) rfl (Nat.le_of_ble_eq_true rfl) ?_
  intro p e s m below meth c E hr hk ht F I ls hl
  have hx := E.1
  have hb := E.2.1
  have hl : lv_has ls 9 [(0, .ref (gA g 0)), (1, .int (x1)), (2, .int (x2))] := hl
  refine lv_iload_n hx hb dX1_next_0 rfl (lv_at hl 1 rfl) ?_
  refine z_check (rest := []) E F I (c_checkSlot l hl0 g R B M O x1) gX1_next_X1_checkSlot rfl hd_X1_checkSlot rfl rfl ⟨by decide, by decide⟩ ⟨by decide, by decide⟩ rfl hl.1 rfl (Nat.le_of_ble_eq_true rfl) dX1_next_1 (fun E0 ce q9 H locs hxc I h1 h2 h3 => ?_) (fun hok H locs I => ?_)
  · exact y_out ht hk I h1 h2 h3 (Or.inl ⟨hxc.1, fun q => hxc.2 q⟩) (by decide) (by decide)
  obtain ⟨a, lt_a, rfl⟩ := hok
  have hl : lv_has ls 9 [(0, .ref (gA g 0)), (1, .int (nI (a))), (2, .int (x2))] := hl
  refine lv_iload_n hx hb dX1_next_4 rfl (lv_at hl 2 rfl) ?_
  refine z_check (rest := []) E F I (c_checkPoint l hl0 g R B M O x2) gX1_next_X1_checkPoint rfl hd_X1_checkPoint rfl rfl ⟨by decide, by decide⟩ ⟨by decide, by decide⟩ rfl hl.1 rfl (Nat.le_of_ble_eq_true rfl) dX1_next_5 (fun E0 ce q9 H locs hxc I h1 h2 h3 => ?_) (fun hok H locs I => ?_)
  · exact y_out ht hk I h1 h2 h3 (Or.inr ⟨hxc.1, ⟨a, lt_a, rfl⟩, fun q => hxc.2 q⟩) (by decide) (by decide)
  obtain ⟨k, lt_k, rfl⟩ := hok
  have hl : lv_has ls 9 [(0, .ref (gA g 0)), (1, .int (nI (a))), (2, .int (nI (k)))] := hl
  refine W.widen (k := 5) (n := 30) (by decide) (by decide) ?_
  refine lv_iload_n hx hb dX1_next_8 rfl (lv_at hl 2 rfl) ?_
  refine lv_bipush (v := nI (64)) hx hb dX1_next_9 (by decide) ?_
  refine n_idiv hx hb (by omega) (by omega) (by omega) dX1_next_11 ?_
  refine lv_istore_n (lv' := [(3, .int (nI ((k) / (64)))), (0, .ref (gA g 0)), (1, .int (nI (a))), (2, .int (nI (k)))]) hx hb dX1_next_12 rfl hl (by decide) rfl (fun ls hl => ?_)
  refine lv_ldc2 (v := -1) hx hb E.2.2.2.1 (E.2.2.2.2 _ wm_X1_next_c38) dX1_next_13 ?_
  refine lv_iload_n hx hb dX1_next_16 rfl (lv_at hl 3 rfl) ?_
  refine lv_bipush (v := nI (64)) hx hb dX1_next_17 (by decide) ?_
  refine n_irem hx hb (by omega) (by omega) (by omega) dX1_next_19 ?_
  refine n_lshl hx hb dX1_next_20 ?_
  refine lv_lstore (lv' := [(4, .long (lsh (-1) ((k) % (64)))), (3, .int (nI ((k) / (64)))), (0, .ref (gA g 0)), (1, .int (nI (a))), (2, .int (nI (k)))]) hx hb dX1_next_21 hl (by decide) rfl (fun ls hl => ?_)
  refine lv_iload_n hx hb dX1_next_23 rfl (lv_at hl 1 rfl) ?_
  refine lv_istore (lv' := [(6, .int (nI ((k) / (64)))), (4, .long (lsh (-1) ((k) % (64)))), (3, .int (nI ((k) / (64)))), (0, .ref (gA g 0)), (1, .int (nI (a))), (2, .int (nI (k)))]) hx hb dX1_next_24 hl (by decide) rfl (fun ls hl => ?_)
  have loop : ∀ (n i : Nat), i ≤ 16 → 16 + 1 ≤ i + n → ∀ al : Int64, al = alw k i → k / 64 ≤ i → (∀ j, k / 64 ≤ j → j < i → wnx (R a) k j = 0) → ∀ (H : Heap) (locs : List Loc) (ls : Array Slot), Iv g (R, B, M, O) s H locs → lv_has ls 9 [(0, .ref (gA g 0)), (1, .int (nI (a))), (2, .int (nI (k))), (4, .long (al)), (6, .int (nI (i)))] → W p l e (rmX 7 110 5 30) s m [.ref (gA g 0), .int ((nI a)), .int ((nI k))].toArray below meth c H locs 5 30 (vx_MQ below (Qs g (fun v' u' => u' = (R, B, M, O) ∧ ∃ a_ k_ : Nat, a_ < 48 ∧ k_ < 1024 ∧ (nI a) = nI a_ ∧ (nI k) = nI k_ ∧ ∃ r : Int32, v' = some (.int r) ∧ ((∃ i, k_ / 64 ≤ i ∧ i < 16 ∧ (∀ j, k_ / 64 ≤ j → j < i → wnx (R a_) k_ j = 0) ∧ wnx (R a_) k_ i ≠ 0 ∧ r = nI (i * 64 + lwb (wnx (R a_) k_ i))) ∨ ((∀ j, k_ / 64 ≤ j → j < 16 → wnx (R a_) k_ j = 0) ∧ r = -1)))) (Xq g (R, B, M, O) (fun E0 => (E0 = sIO ∧ ¬ (okI 48 (nI a))) ∨ (E0 = sIA ∧ (okI 48 (nI a)) ∧ ¬ (okI 1024 (nI k))))) [.ref (gA g 0), .int ((nI a)), .int ((nI k))].toArray s 5 30 (gW g)) (F0 m 26 ls []) := by
    intro n
    induction n with
    | zero => intro i h1 h2; exact absurd h2 (by omega)
    | succ n ih =>
      intro i hi hn al hal hki hz H locs ls I hl
      refine lv_iload hx hb dX1_next_26 (lv_at hl 4 rfl) ?_
      refine lv_bipush (v := nI (16)) hx hb dX1_next_28 (by decide) ?_
      refine n_cge (tgt := 77) hx hb (by omega) (by omega) dX1_next_30 (by decide) (fun h1 => ?_) (fun h1 => ?_)
      · refine lv_iconst (v := (-1)) hx hb dX1_next_77 (by decide) ?_
        exact y_iret hx hb hr hk F I (by decide) (by decide) (⟨rfl, a, k, lt_a, lt_k, rfl, rfl, _, rfl, Or.inr ⟨fun j h5 h6 => hz j h5 (by omega), rfl⟩⟩) dX1_next_78
      · refine lv_aload_n hx hb dX1_next_33 rfl (lv_at hl 0 rfl) ?_
        refine x_get 0 1 0 (C := RX1) (T := TX1) (N := 6) (v := .ref (gA g 1)) E F I inw_X1_next_X1 (by decide) rfl rfl (by decide) wm_X1_next_f11 rfl dX1_next_34 ?_
        refine lv_iload_n hx hb dX1_next_37 rfl (lv_at hl 1 rfl) ?_
        refine x_aaload hx hb F I (by omega) dX1_next_38 ?_
        refine lv_iload hx hb dX1_next_39 (lv_at hl 4 rfl) ?_
        refine x_laload (k := a) (i := i) hx hb F I (by omega) (by omega) dX1_next_41 ?_
        refine lv_lload hx hb dX1_next_42 (lv_at hl 3 rfl) ?_
        refine lv_land hx hb dX1_next_44 ?_
        refine lv_lstore (lv' := [(7, .long ((R (a) (i)) &&& (al))), (0, .ref (gA g 0)), (1, .int (nI (a))), (2, .int (nI (k))), (4, .long (al)), (6, .int (nI (i)))]) hx hb dX1_next_45 hl (by decide) rfl (fun ls hl => ?_)
        refine lv_lload hx hb dX1_next_47 (lv_at hl 0 rfl) ?_
        refine lv_lconst (v := 0) hx hb dX1_next_49 (by decide) ?_
        refine n_leq (tgt := 66) hx hb dX1_next_50 dX1_next_51 (by decide) (fun h2 => ?_) (fun h2 => ?_)
        · refine lv_ldc2 (v := -1) hx hb E.2.2.2.1 (E.2.2.2.2 _ wm_X1_next_c38) dX1_next_66 ?_
          refine lv_lstore (lv' := [(4, .long (-1)), (7, .long ((R (a) (i)) &&& (al))), (0, .ref (gA g 0)), (1, .int (nI (a))), (2, .int (nI (k))), (6, .int (nI (i)))]) hx hb dX1_next_69 hl (by decide) rfl (fun ls hl => ?_)
          refine n_iinc (d := 1) (lv' := [(6, .int (nI (i + 1))), (4, .long (-1)), (7, .long ((R (a) (i)) &&& (al))), (0, .ref (gA g 0)), (1, .int (nI (a))), (2, .int (nI (k)))]) hx hb dX1_next_71 rfl hl (j := 5) rfl (by decide) rfl (fun ls hl => ?_)
          refine lv_goto (tgt := 26) hx hb dX1_next_74 (by decide) ?_
          exact ih (i + 1) (by omega) (by omega) (-1) (by rw [alw, if_neg (by omega)]) (by omega) (fun j h5 h6 => by rcases Nat.lt_or_ge j i with q | q; exact hz j h5 q; rw [show j = i by omega, wnx, ← hal]; assumption) _ _ ls (I) (lv_sub hl [3, 4, 5, 1, 0] rfl)
        · refine lv_iload hx hb dX1_next_54 (lv_at hl 5 rfl) ?_
          refine lv_bipush (v := nI (64)) hx hb dX1_next_56 (by decide) ?_
          refine n_imul hx hb dX1_next_58 ?_
          refine lv_lload hx hb dX1_next_59 (lv_at hl 0 rfl) ?_
          refine x_callSi (rest := [.int (nI ((i) * (64)))]) E F I (c_lowestBit l g R B M O ((R (a) (i)) &&& (al))) gX1_next_X1_lowestBit rfl hd_X1_lowestBit rfl rfl ⟨by decide, by decide⟩ ⟨by decide, by decide⟩ rfl hl.1 rfl (Nat.le_of_ble_eq_true rfl) dX1_next_61 (fun H locs I => ?_)
          refine n_iadd hx hb dX1_next_64 ?_
          exact y_iret hx hb hr hk F I (by decide) (by decide) (⟨rfl, a, k, lt_a, lt_k, rfl, rfl, _, rfl, Or.inl ⟨i, hki, by omega, hz, by rw [wnx, ← hal]; exact h2, by rw [wnx, ← hal]⟩⟩) dX1_next_65
  exact loop (16 + 1 - k / 64) (k / 64) (by omega) (by omega) (lsh (-1) (k % 64)) (by rw [alw, if_pos rfl]) (Nat.le_refl _) (fun j h5 h6 => absurd h6 (by omega)) _ _ ls (I) (lv_sub hl [3, 4, 5, 1, 0] rfl)
theorem hd_X1_next : yX1_next.cls ≠ "java/lang/invoke/MethodHandle" ∧ yX1_next.cls ≠ "java/lang/invoke/VarHandle" ∧ (parseMethodDescriptor yX1_next.desc).map (fun d => d.parameters.length) = some 2 := by decide +kernel
