set_option maxHeartbeats 4000000 in
set_option maxRecDepth 100000 in
theorem c_bitOf (l : Launch) (g : Geo) (R : Nat → Nat → Int64) (B : Rul) (M : Mod) (O : Nat → Int64) {v : Nat} (hv : v < 10) : Cd l g yX1_bitOf wsX1_bitOf (rmN 0 0) [.int (nI (v))] (R, B, M, O) (some (.int (nI (bitN v)))) (R, B, M, O) := by
  refine Cs.ofW RX1 rfl (by decide) rfl (Nat.le_of_ble_eq_true rfl) ?_
  intro p e s m below meth c E hr hk F I ls hl
  have hx := E.1
  have hb := E.2.1
  have hl : lv_has ls 1 [(0, .int (nI (v)))] := hl
  refine lv_iconst (v := nI (1)) hx hb dX1_bitOf_0 (by decide) ?_
  refine lv_bipush (v := nI (9)) hx hb dX1_bitOf_1 (by decide) ?_
  refine lv_iload_n hx hb dX1_bitOf_3 rfl (lv_at hl 0 rfl) ?_
  refine n_isub hx hb (by omega) dX1_bitOf_4 ?_
  refine n_ishl hx hb (by omega) dX1_bitOf_5 ?_
  exact x_iret hx hb hr hk F I ⟨rfl, rfl⟩ dX1_bitOf_6
theorem hd_X1_bitOf : yX1_bitOf.cls ≠ "java/lang/invoke/MethodHandle" ∧ yX1_bitOf.cls ≠ "java/lang/invoke/VarHandle" ∧ (parseMethodDescriptor yX1_bitOf.desc).map (fun d => d.parameters.length) = some 1 := by decide +kernel
set_option maxHeartbeats 4000000 in
set_option maxRecDepth 100000 in
theorem c_spreadBit (l : Launch) (g : Geo) (R : Nat → Nat → Int64) (B : Rul) (M : Mod) (O : Nat → Int64) {h k : Nat} (hh : h < 2 ^ 31) (hk2 : k < 32) : Cd l g yX1_spreadBit wsX1_spreadBit (rmN 0 0) [.int (nI (h)), .int (nI (k))] (R, B, M, O) (some (.long (spr h k))) (R, B, M, O) := by
  refine Cs.ofW RX1 rfl (by decide) rfl (Nat.le_of_ble_eq_true rfl) ?_
  intro p e s m below meth c E hr hk F I ls hl
  have hx := E.1
  have hb := E.2.1
  have hl : lv_has ls 2 [(0, .int (nI (h))), (1, .int (nI (k)))] := hl
  refine lv_iload_n hx hb dX1_spreadBit_0 rfl (lv_at hl 0 rfl) ?_
  refine lv_iload_n hx hb dX1_spreadBit_1 rfl (lv_at hl 1 rfl) ?_
  refine n_iushr hx hb (by omega) hk2 dX1_spreadBit_2 ?_
  refine n_i2l hx hb (div_lt31 hh) dX1_spreadBit_3 ?_
  refine lv_lconst (v := 1) hx hb dX1_spreadBit_4 (by decide) ?_
  refine lv_land hx hb dX1_spreadBit_5 ?_
  refine lv_lneg hx hb dX1_spreadBit_6 ?_
  exact x_lret hx hb hr hk F I ⟨rfl, rfl⟩ dX1_spreadBit_7
theorem hd_X1_spreadBit : yX1_spreadBit.cls ≠ "java/lang/invoke/MethodHandle" ∧ yX1_spreadBit.cls ≠ "java/lang/invoke/VarHandle" ∧ (parseMethodDescriptor yX1_spreadBit.desc).map (fun d => d.parameters.length) = some 2 := by decide +kernel
theorem wm_X1_pick_c38 : Cond.constantLong RX1 38 (-1) ∈ wsX1_pick := by decide +kernel
set_option maxHeartbeats 4000000 in
set_option maxRecDepth 100000 in
theorem c_pick (l : Launch) (g : Geo) (R : Nat → Nat → Int64) (B : Rul) (M : Mod) (O : Nat → Int64) {x y z : Int64} : Cd l g yX1_pick wsX1_pick (rmN 0 0) [.long (x), .long (y), .long (z)] (R, B, M, O) (some (.long (pk3 x y z))) (R, B, M, O) := by
  refine Cs.ofW RX1 rfl (by decide) rfl (Nat.le_of_ble_eq_true rfl) ?_
  intro p e s m below meth c E hr hk F I ls hl
  have hx := E.1
  have hb := E.2.1
  have hl : lv_has ls 6 [(0, .long (x)), (2, .long (y)), (4, .long (z))] := hl
  refine lv_lload_n hx hb dX1_pick_0 rfl (lv_at hl 0 rfl) ?_
  refine lv_lload_n hx hb dX1_pick_1 rfl (lv_at hl 1 rfl) ?_
  refine lv_land hx hb dX1_pick_2 ?_
  refine lv_lload_n hx hb dX1_pick_3 rfl (lv_at hl 0 rfl) ?_
  refine lv_ldc2 (v := -1) hx hb E.2.2.2.1 (E.2.2.2.2 _ wm_X1_pick_c38) dX1_pick_4 ?_
  refine lv_lxor hx hb dX1_pick_7 ?_
  refine lv_lload hx hb dX1_pick_8 (lv_at hl 2 rfl) ?_
  refine lv_land hx hb dX1_pick_10 ?_
  refine lv_lor hx hb dX1_pick_11 ?_
  exact x_lret hx hb hr hk F I ⟨rfl, rfl⟩ dX1_pick_12
theorem hd_X1_pick : yX1_pick.cls ≠ "java/lang/invoke/MethodHandle" ∧ yX1_pick.cls ≠ "java/lang/invoke/VarHandle" ∧ (parseMethodDescriptor yX1_pick.desc).map (fun d => d.parameters.length) = some 3 := by decide +kernel
theorem wm_X1_variableWord_f129 : Cond.fieldLink RX1 129 "FunctionDesk" "BIT_VARIABLES" "[J" ∈ wsX1_variableWord := by decide +kernel
set_option maxHeartbeats 4000000 in
set_option maxRecDepth 100000 in
theorem c_variableWord (l : Launch) (g : Geo) (R : Nat → Nat → Int64) (B : Rul) (M : Mod) (O : Nat → Int64) {v i : Nat} (hv : v < 10) (hi : i < 16) : Cd l g yX1_variableWord wsX1_variableWord (rmN 1 21) [.int (nI (v)), .int (nI (i))] (R, B, M, O) (some (.long (vwd v i))) (R, B, M, O) := by
  refine Cs.ofW RX1 rfl (by decide) rfl (Nat.le_of_ble_eq_true rfl) ?_
  intro p e s m below meth c E hr hk F I ls hl
  have hx := E.1
  have hb := E.2.1
  have hl : lv_has ls 2 [(0, .int (nI (v))), (1, .int (nI (i)))] := hl
  refine lv_iload_n hx hb dX1_variableWord_0 rfl (lv_at hl 0 rfl) ?_
  refine lv_iconst (v := nI (4)) hx hb dX1_variableWord_1 (by decide) ?_
  refine n_cge (tgt := 13) hx hb (by omega) (by omega) dX1_variableWord_2 (by decide) (fun h1 => ?_) (fun h1 => ?_)
  · refine x_getbv E F I wm_X1_variableWord_f129 dX1_variableWord_13 ?_
    refine lv_iload_n hx hb dX1_variableWord_16 rfl (lv_at hl 0 rfl) ?_
    refine lv_iconst (v := nI (4)) hx hb dX1_variableWord_17 (by decide) ?_
    refine n_isub hx hb (by omega) dX1_variableWord_18 ?_
    refine x_bv hx hb F I (by omega) dX1_variableWord_19 ?_
    exact x_lret hx hb hr hk F I ⟨by simp only [vwd, if_neg (Nat.not_lt.mpr h1)], rfl⟩ dX1_variableWord_20
  · refine lv_iload_n hx hb dX1_variableWord_5 rfl (lv_at hl 1 rfl) ?_
    refine lv_iconst (v := nI (3)) hx hb dX1_variableWord_6 (by decide) ?_
    refine lv_iload_n hx hb dX1_variableWord_7 rfl (lv_at hl 0 rfl) ?_
    refine n_isub hx hb (by omega) dX1_variableWord_8 ?_
    refine x_callSl (rest := []) E F I (c_spreadBit l g R B M O (h := i) (k := (3) - (v)) (by omega) (by omega)) gX1_variableWord_X1_spreadBit rfl hd_X1_spreadBit rfl rfl ⟨by decide, by decide⟩ ⟨by decide, by decide⟩ rfl hl.1 rfl (Nat.le_of_ble_eq_true rfl) dX1_variableWord_9 (fun H locs I => ?_)
    exact x_lret hx hb hr hk F I ⟨by simp only [vwd, if_pos h1], rfl⟩ dX1_variableWord_12
theorem hd_X1_variableWord : yX1_variableWord.cls ≠ "java/lang/invoke/MethodHandle" ∧ yX1_variableWord.cls ≠ "java/lang/invoke/VarHandle" ∧ (parseMethodDescriptor yX1_variableWord.desc).map (fun d => d.parameters.length) = some 2 := by decide +kernel
theorem wm_X1_turnedWord_f129 : Cond.fieldLink RX1 129 "FunctionDesk" "BIT_VARIABLES" "[J" ∈ wsX1_turnedWord := by decide +kernel
set_option maxHeartbeats 4000000 in
set_option maxRecDepth 100000 in
theorem c_turnedWord (l : Launch) (g : Geo) (R : Nat → Nat → Int64) (B : Rul) (M : Mod) (O : Nat → Int64) {k i v : Nat} (hk2 : k < 52) (hi : i < 16) (hv : v < 10) : Cd l g yX1_turnedWord wsX1_turnedWord (rmN 1 20) [.ref (gA g (k + 10)), .int (nI (i)), .int (nI (v))] (R, B, M, O) (some (.long (twd (R k) i v))) (R, B, M, O) := by
  refine Cs.ofW RX1 rfl (by decide) rfl (Nat.le_of_ble_eq_true rfl) ?_
  intro p e s m below meth c E hr hk F I ls hl
  have hx := E.1
  have hb := E.2.1
  have hl : lv_has ls 6 [(0, .ref (gA g (k + 10))), (1, .int (nI (i))), (2, .int (nI (v)))] := hl
  refine lv_iload_n hx hb dX1_turnedWord_0 rfl (lv_at hl 2 rfl) ?_
  refine lv_iconst (v := nI (4)) hx hb dX1_turnedWord_1 (by decide) ?_
  refine n_cge (tgt := 15) hx hb (by omega) (by omega) dX1_turnedWord_2 (by decide) (fun h1 => ?_) (fun h1 => ?_)
  · refine x_getbv E F I wm_X1_turnedWord_f129 dX1_turnedWord_15 ?_
    refine lv_iload_n hx hb dX1_turnedWord_18 rfl (lv_at hl 2 rfl) ?_
    refine lv_iconst (v := nI (4)) hx hb dX1_turnedWord_19 (by decide) ?_
    refine n_isub hx hb (by omega) dX1_turnedWord_20 ?_
    refine x_bv hx hb F I (by omega) dX1_turnedWord_21 ?_
    refine lv_lstore_n (lv' := [(3, .long (bvL ((v) - (4)))), (0, .ref (gA g (k + 10))), (1, .int (nI (i))), (2, .int (nI (v)))]) hx hb dX1_turnedWord_22 rfl hl (by decide) rfl (fun ls hl => ?_)
    refine lv_iload_n hx hb dX1_turnedWord_23 rfl (lv_at hl 3 rfl) ?_
    refine x_callSi (rest := []) E F I (c_bitOf l g R B M O (v := v) (by omega)) gX1_turnedWord_X1_bitOf rfl hd_X1_bitOf rfl rfl ⟨by decide, by decide⟩ ⟨by decide, by decide⟩ rfl hl.1 rfl (Nat.le_of_ble_eq_true rfl) dX1_turnedWord_24 (fun H locs I => ?_)
    refine lv_istore (lv' := [(5, .int (nI (bitN (v)))), (3, .long (bvL ((v) - (4)))), (0, .ref (gA g (k + 10))), (1, .int (nI (i))), (2, .int (nI (v)))]) hx hb dX1_turnedWord_27 hl (by decide) rfl (fun ls hl => ?_)
    refine lv_aload_n hx hb dX1_turnedWord_29 rfl (lv_at hl 2 rfl) ?_
    refine lv_iload_n hx hb dX1_turnedWord_30 rfl (lv_at hl 3 rfl) ?_
    refine x_laload (k := k) (i := i) hx hb F I hk2 hi dX1_turnedWord_31 ?_
    refine lv_lload_n hx hb dX1_turnedWord_32 rfl (lv_at hl 1 rfl) ?_
    refine lv_land hx hb dX1_turnedWord_33 ?_
    refine lv_iload hx hb dX1_turnedWord_34 (lv_at hl 0 rfl) ?_
    refine n_lushr hx hb dX1_turnedWord_36 ?_
    refine lv_aload_n hx hb dX1_turnedWord_37 rfl (lv_at hl 2 rfl) ?_
    refine lv_iload_n hx hb dX1_turnedWord_38 rfl (lv_at hl 3 rfl) ?_
    refine x_laload (k := k) (i := i) hx hb F I hk2 hi dX1_turnedWord_39 ?_
    refine lv_iload hx hb dX1_turnedWord_40 (lv_at hl 0 rfl) ?_
    refine n_lshl hx hb dX1_turnedWord_42 ?_
    refine lv_lload_n hx hb dX1_turnedWord_43 rfl (lv_at hl 1 rfl) ?_
    refine lv_land hx hb dX1_turnedWord_44 ?_
    refine lv_lor hx hb dX1_turnedWord_45 ?_
    exact x_lret hx hb hr hk F I ⟨by simp only [twd, if_neg (Nat.not_lt.mpr h1)], rfl⟩ dX1_turnedWord_46
  · refine lv_aload_n hx hb dX1_turnedWord_5 rfl (lv_at hl 0 rfl) ?_
    refine lv_iload_n hx hb dX1_turnedWord_6 rfl (lv_at hl 1 rfl) ?_
    refine lv_iconst (v := nI (1)) hx hb dX1_turnedWord_7 (by decide) ?_
    refine lv_iconst (v := nI (3)) hx hb dX1_turnedWord_8 (by decide) ?_
    refine lv_iload_n hx hb dX1_turnedWord_9 rfl (lv_at hl 2 rfl) ?_
    refine n_isub hx hb (by omega) dX1_turnedWord_10 ?_
    refine n_ishl hx hb (by omega) dX1_turnedWord_11 ?_
    refine n_ixor hx hb dX1_turnedWord_12 ?_
    refine x_laload (k := k) (i := (i) ^^^ ((1) * 2 ^ ((3) - (v)))) hx hb F I hk2 (xor16 hi sh16) dX1_turnedWord_13 ?_
    exact x_lret hx hb hr hk F I ⟨by simp only [twd, if_pos h1], rfl⟩ dX1_turnedWord_14
theorem hd_X1_turnedWord : yX1_turnedWord.cls ≠ "java/lang/invoke/MethodHandle" ∧ yX1_turnedWord.cls ≠ "java/lang/invoke/VarHandle" ∧ (parseMethodDescriptor yX1_turnedWord.desc).map (fun d => d.parameters.length) = some 3 := by decide +kernel
set_option maxHeartbeats 4000000 in
set_option maxRecDepth 100000 in
theorem c_wordWith (l : Launch) (g : Geo) (R : Nat → Nat → Int64) (B : Rul) (M : Mod) (O : Nat → Int64) {k i v : Nat} {t : Int64} (hk2 : k < 52) (hi : i < 16) (hv : v < 10) : Cd l g yX1_wordWith wsX1_wordWith (rmN 2 45) [.ref (gA g (k + 10)), .int (nI (i)), .int (nI (v)), .long (t)] (R, B, M, O) (some (.long (wwd (R k) i v t))) (R, B, M, O) := by
  refine Cs.ofW RX1 rfl (by decide) rfl (Nat.le_of_ble_eq_true rfl) ?_
  intro p e s m below meth c E hr hk F I ls hl
  have hx := E.1
  have hb := E.2.1
  have hl : lv_has ls 7 [(0, .ref (gA g (k + 10))), (1, .int (nI (i))), (2, .int (nI (v))), (3, .long (t))] := hl
  refine lv_lload_n hx hb dX1_wordWith_0 rfl (lv_at hl 3 rfl) ?_
  refine lv_iload_n hx hb dX1_wordWith_1 rfl (lv_at hl 2 rfl) ?_
  refine lv_iload_n hx hb dX1_wordWith_2 rfl (lv_at hl 1 rfl) ?_
  refine x_callSl (rest := [.long (t)]) E F I (c_variableWord l g R B M O (v := v) (i := i) (by omega) (by omega)) gX1_wordWith_X1_variableWord rfl hd_X1_variableWord rfl rfl ⟨by decide, by decide⟩ ⟨by decide, by decide⟩ rfl hl.1 rfl (Nat.le_of_ble_eq_true rfl) dX1_wordWith_3 (fun H locs I => ?_)
  refine lv_lxor hx hb dX1_wordWith_6 ?_
  refine lv_lstore (lv' := [(5, .long ((t) ^^^ (vwd (v) (i)))), (0, .ref (gA g (k + 10))), (1, .int (nI (i))), (2, .int (nI (v))), (3, .long (t))]) hx hb dX1_wordWith_7 hl (by decide) rfl (fun ls hl => ?_)
  refine lv_lload hx hb dX1_wordWith_9 (lv_at hl 0 rfl) ?_
  refine lv_aload_n hx hb dX1_wordWith_11 rfl (lv_at hl 1 rfl) ?_
  refine lv_iload_n hx hb dX1_wordWith_12 rfl (lv_at hl 2 rfl) ?_
  refine lv_iload_n hx hb dX1_wordWith_13 rfl (lv_at hl 3 rfl) ?_
  refine x_callSl (rest := [.long ((t) ^^^ (vwd (v) (i)))]) E F I (c_turnedWord l g R B M O (k := k) (i := i) (v := v) (by omega) (by omega) (by omega)) gX1_wordWith_X1_turnedWord rfl hd_X1_turnedWord rfl rfl ⟨by decide, by decide⟩ ⟨by decide, by decide⟩ rfl hl.1 rfl (Nat.le_of_ble_eq_true rfl) dX1_wordWith_14 (fun H locs I => ?_)
  refine lv_aload_n hx hb dX1_wordWith_17 rfl (lv_at hl 1 rfl) ?_
  refine lv_iload_n hx hb dX1_wordWith_18 rfl (lv_at hl 2 rfl) ?_
  refine x_laload (k := k) (i := i) hx hb F I (by omega) (by omega) dX1_wordWith_19 ?_
  refine x_callSl (rest := []) E F I (c_pick l g R B M O (x := (t) ^^^ (vwd (v) (i))) (y := twd (R (k)) (i) (v)) (z := R (k) (i))) gX1_wordWith_X1_pick rfl hd_X1_pick rfl rfl ⟨by decide, by decide⟩ ⟨by decide, by decide⟩ rfl hl.1 rfl (Nat.le_of_ble_eq_true rfl) dX1_wordWith_20 (fun H locs I => ?_)
  exact x_lret hx hb hr hk F I ⟨rfl, rfl⟩ dX1_wordWith_23
theorem hd_X1_wordWith : yX1_wordWith.cls ≠ "java/lang/invoke/MethodHandle" ∧ yX1_wordWith.cls ≠ "java/lang/invoke/VarHandle" ∧ (parseMethodDescriptor yX1_wordWith.desc).map (fun d => d.parameters.length) = some 4 := by decide +kernel
