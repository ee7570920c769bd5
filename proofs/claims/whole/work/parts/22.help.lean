theorem wm_X1_quantifyMade_f18 : Cond.fieldLink RX1 18 "FunctionDesk" "madeNext" "[J" ∈ wsX1_quantifyMade := by decide +kernel
theorem inw_X1_quantifyMade_X1 : ∀ w ∈ wsX10, w ∈ wsX1_quantifyMade := by decide +kernel
theorem wm_X1_quantifyMade_f14 : Cond.fieldLink RX1 14 "FunctionDesk" "made" "[J" ∈ wsX1_quantifyMade := by decide +kernel
set_option maxHeartbeats 4000000 in
set_option maxRecDepth 100000 in
theorem c_quantifyMade (l : Launch) (g : Geo) (R : Nat → Nat → Int64) (B : Rul) (M : Mod) (O : Nat → Int64) {v : Nat} {ev : Bool} (hv : v < 10) : Cd l g yX1_quantifyMade wsX1_quantifyMade (rmN 2 85) [.ref (gA g 0), .int (nI (v)), .int (bI (ev))] (R, B, M, O) (none) (cpy (bld R 49 (qfn (R 48) v ev) 16) 49 48, B, M, O) := by
  refine Cs.ofW RX1 rfl (by decide) rfl (Nat.le_of_ble_eq_true rfl) ?_
  intro p e s m below meth c E hr hk F I ls hl
  have hx := E.1
  have hb := E.2.1
  have hl : lv_has ls 6 [(0, .ref (gA g 0)), (1, .int (nI (v))), (2, .int (bI (ev)))] := hl
  refine lv_iconst (v := nI (0)) hx hb dX1_quantifyMade_0 (by decide) ?_
  refine lv_istore_n (lv' := [(3, .int (nI (0))), (0, .ref (gA g 0)), (1, .int (nI (v))), (2, .int (bI (ev)))]) hx hb dX1_quantifyMade_1 rfl hl (by decide) rfl (fun ls hl => ?_)
  have loop : ∀ (n i : Nat), i ≤ 16 → 16 + 1 ≤ i + n → ∀ (H : Heap) (locs : List Loc) (ls : Array Slot), Iv g (bld R 49 (qfn (R 48) v ev) (i), B, M, O) s H locs → lv_has ls 6 [(0, .ref (gA g 0)), (1, .int (nI (v))), (2, .int (bI (ev))), (3, .int (nI (i)))] → W p l e (rmN 2 85) s m [.ref (gA g 0), .int (nI (v)), .int (bI (ev))].toArray below meth c H locs 0 0 (MQ below (Qs g (fun v' u'' => v' = (none) ∧ u'' = (cpy (bld R 49 (qfn (R 48) v ev) 16) 49 48, B, M, O))) [.ref (gA g 0), .int (nI (v)), .int (bI (ev))].toArray s 0 0 (gW g)) (F0 m 2 ls []) := by
    intro n
    induction n with
    | zero => intro i h1 h2; exact absurd h2 (by omega)
    | succ n ih =>
      intro i hi hn H locs ls I hl
      refine lv_iload_n hx hb dX1_quantifyMade_2 rfl (lv_at hl 3 rfl) ?_
      refine lv_bipush (v := nI (16)) hx hb dX1_quantifyMade_3 (by decide) ?_
      refine n_cge (tgt := 56) hx hb (by omega) (by omega) dX1_quantifyMade_5 (by decide) (fun h1 => ?_) (fun h1 => ?_)
      · obtain rfl : i = 16 := by omega
        have hl : lv_has ls 6 [(0, .ref (gA g 0)), (1, .int (nI (v))), (2, .int (bI (ev))), (3, .int (nI (16)))] := hl
        refine lv_aload_n hx hb dX1_quantifyMade_56 rfl (lv_at hl 0 rfl) ?_
        refine x_get 0 1 2 (C := RX1) (T := TX1) (N := 6) (v := .ref (gA g 59)) E F I inw_X1_quantifyMade_X1 (by decide) rfl rfl (by decide) wm_X1_quantifyMade_f18 rfl dX1_quantifyMade_57 ?_
        refine lv_aload_n hx hb dX1_quantifyMade_60 rfl (lv_at hl 0 rfl) ?_
        refine x_get 0 1 1 (C := RX1) (T := TX1) (N := 6) (v := .ref (gA g 58)) E F I inw_X1_quantifyMade_X1 (by decide) rfl rfl (by decide) wm_X1_quantifyMade_f14 rfl dX1_quantifyMade_61 ?_
        refine x_callSv (rest := []) E F I (c_copyRow l g (bld R 49 (qfn (R 48) v ev) 16) B M O (k := 49) (j := 48) (by omega) (by omega)) gX1_quantifyMade_X1_copyRow rfl hd_X1_copyRow rfl rfl ⟨by decide, by decide⟩ ⟨by decide, by decide⟩ rfl hl.1 rfl (Nat.le_of_ble_eq_true rfl) dX1_quantifyMade_64 (fun H locs I => ?_)
        exact x_vret hx hb hr hk F I ⟨rfl, rfl⟩ dX1_quantifyMade_67
      · refine lv_aload_n hx hb dX1_quantifyMade_8 rfl (lv_at hl 0 rfl) ?_
        refine x_get 0 1 1 (C := RX1) (T := TX1) (N := 6) (v := .ref (gA g 58)) E F I inw_X1_quantifyMade_X1 (by decide) rfl rfl (by decide) wm_X1_quantifyMade_f14 rfl dX1_quantifyMade_9 ?_
        refine lv_iload_n hx hb dX1_quantifyMade_12 rfl (lv_at hl 3 rfl) ?_
        refine lv_iload_n hx hb dX1_quantifyMade_13 rfl (lv_at hl 1 rfl) ?_
        refine x_callSl (rest := []) E F I (c_turnedWord l g (bld R 49 (qfn (R 48) v ev) (i)) B M O (k := 48) (i := i) (v := v) (by omega) (by omega) (by omega)) gX1_quantifyMade_X1_turnedWord rfl hd_X1_turnedWord rfl rfl ⟨by decide, by decide⟩ ⟨by decide, by decide⟩ rfl hl.1 rfl (Nat.le_of_ble_eq_true rfl) dX1_quantifyMade_14 (fun H locs I => ?_)
        refine lv_lstore (lv' := [(4, .long (twd ((bld R 49 (qfn (R 48) v ev) (i)) (48)) (i) (v))), (0, .ref (gA g 0)), (1, .int (nI (v))), (2, .int (bI (ev))), (3, .int (nI (i)))]) hx hb dX1_quantifyMade_17 hl (by decide) rfl (fun ls hl => ?_)
        refine lv_aload_n hx hb dX1_quantifyMade_19 rfl (lv_at hl 1 rfl) ?_
        refine x_get 0 1 2 (C := RX1) (T := TX1) (N := 6) (v := .ref (gA g 59)) E F I inw_X1_quantifyMade_X1 (by decide) rfl rfl (by decide) wm_X1_quantifyMade_f18 rfl dX1_quantifyMade_20 ?_
        refine lv_iload_n hx hb dX1_quantifyMade_23 rfl (lv_at hl 4 rfl) ?_
        refine lv_iload_n hx hb dX1_quantifyMade_24 rfl (lv_at hl 3 rfl) ?_
        refine n_zeq (tgt := 40) hx hb dX1_quantifyMade_25 (by decide) (fun h2 => ?_) (fun h2 => ?_)
        · refine lv_aload_n hx hb dX1_quantifyMade_40 rfl (lv_at hl 1 rfl) ?_
          refine x_get 0 1 1 (C := RX1) (T := TX1) (N := 6) (v := .ref (gA g 58)) E F I inw_X1_quantifyMade_X1 (by decide) rfl rfl (by decide) wm_X1_quantifyMade_f14 rfl dX1_quantifyMade_41 ?_
          refine lv_iload_n hx hb dX1_quantifyMade_44 rfl (lv_at hl 4 rfl) ?_
          refine x_laload (k := 48) (i := i) hx hb F I (by omega) (by omega) dX1_quantifyMade_45 ?_
          refine lv_lload hx hb dX1_quantifyMade_46 (lv_at hl 0 rfl) ?_
          refine lv_lor hx hb dX1_quantifyMade_48 ?_
          refine x_lastore (k := 49) (i := i) hx hb F I (by omega) (by omega) dX1_quantifyMade_49 (fun H locs I => ?_)
          refine n_iinc (d := 1) (lv' := [(3, .int (nI (i + 1))), (4, .long (twd ((bld R 49 (qfn (R 48) v ev) (i)) (48)) (i) (v))), (0, .ref (gA g 0)), (1, .int (nI (v))), (2, .int (bI (ev)))]) hx hb dX1_quantifyMade_50 rfl hl (j := 4) rfl (by decide) rfl (fun ls hl => ?_)
          refine lv_goto (tgt := 2) hx hb dX1_quantifyMade_53 (by decide) ?_
          exact ih (i + 1) (by omega) (by omega) _ _ ls (bld_step (by rw [bld_ne (by decide)]; simp [qfn, bld_here, *]) I) (lv_sub hl [2, 3, 4, 0] rfl)
        · refine lv_aload_n hx hb dX1_quantifyMade_28 rfl (lv_at hl 1 rfl) ?_
          refine x_get 0 1 1 (C := RX1) (T := TX1) (N := 6) (v := .ref (gA g 58)) E F I inw_X1_quantifyMade_X1 (by decide) rfl rfl (by decide) wm_X1_quantifyMade_f14 rfl dX1_quantifyMade_29 ?_
          refine lv_iload_n hx hb dX1_quantifyMade_32 rfl (lv_at hl 4 rfl) ?_
          refine x_laload (k := 48) (i := i) hx hb F I (by omega) (by omega) dX1_quantifyMade_33 ?_
          refine lv_lload hx hb dX1_quantifyMade_34 (lv_at hl 0 rfl) ?_
          refine lv_land hx hb dX1_quantifyMade_36 ?_
          refine lv_goto (tgt := 49) hx hb dX1_quantifyMade_37 (by decide) ?_
          refine x_lastore (k := 49) (i := i) hx hb F I (by omega) (by omega) dX1_quantifyMade_49 (fun H locs I => ?_)
          refine n_iinc (d := 1) (lv' := [(3, .int (nI (i + 1))), (4, .long (twd ((bld R 49 (qfn (R 48) v ev) (i)) (48)) (i) (v))), (0, .ref (gA g 0)), (1, .int (nI (v))), (2, .int (bI (ev)))]) hx hb dX1_quantifyMade_50 rfl hl (j := 4) rfl (by decide) rfl (fun ls hl => ?_)
          refine lv_goto (tgt := 2) hx hb dX1_quantifyMade_53 (by decide) ?_
          exact ih (i + 1) (by omega) (by omega) _ _ ls (bld_step (by rw [bld_ne (by decide)]; simp [qfn, bld_here, *]) I) (lv_sub hl [2, 3, 4, 0] rfl)
  exact loop (16 + 1 - 0) (0) (by omega) (by omega) _ _ ls (bld_start I) (lv_sub hl [1, 2, 3, 0] rfl)
theorem hd_X1_quantifyMade : yX1_quantifyMade.cls ≠ "java/lang/invoke/MethodHandle" ∧ yX1_quantifyMade.cls ≠ "java/lang/invoke/VarHandle" ∧ (parseMethodDescriptor yX1_quantifyMade.desc).map (fun d => d.parameters.length) = some 2 := by decide +kernel
theorem wm_X1_widenSearch_f18 : Cond.fieldLink RX1 18 "FunctionDesk" "madeNext" "[J" ∈ wsX1_widenSearch := by decide +kernel
theorem inw_X1_widenSearch_X1 : ∀ w ∈ wsX10, w ∈ wsX1_widenSearch := by decide +kernel
theorem wm_X1_widenSearch_f14 : Cond.fieldLink RX1 14 "FunctionDesk" "made" "[J" ∈ wsX1_widenSearch := by decide +kernel
theorem wm_X1_widenSearch_f24 : Cond.fieldLink RX1 24 "FunctionDesk" "foundNext" "[J" ∈ wsX1_widenSearch := by decide +kernel
theorem wm_X1_widenSearch_f21 : Cond.fieldLink RX1 21 "FunctionDesk" "found" "[J" ∈ wsX1_widenSearch := by decide +kernel
set_option maxHeartbeats 4000000 in
set_option maxRecDepth 100000 in
theorem c_widenSearch (l : Launch) (g : Geo) (R : Nat → Nat → Int64) (B : Rul) (M : Mod) (O : Nat → Int64) {v : Nat} (hv : v < 10) : Cd l g yX1_widenSearch wsX1_widenSearch (rmN 2 85) [.ref (gA g 0), .int (nI (v))] (R, B, M, O) (none) (cpy (cpy (bld (bld R 49 (wfn (R 48) (R 50) v) 16) 51 (ffn (R 50) v) 16) 49 48) 51 50, B, M, O) := by
  refine Cs.ofW RX1 rfl (by decide) rfl (Nat.le_of_ble_eq_true rfl) ?_
  intro p e s m below meth c E hr hk F I ls hl
  have hx := E.1
  have hb := E.2.1
  have hl : lv_has ls 3 [(0, .ref (gA g 0)), (1, .int (nI (v)))] := hl
  refine lv_iconst (v := nI (0)) hx hb dX1_widenSearch_0 (by decide) ?_
  refine lv_istore_n (lv' := [(2, .int (nI (0))), (0, .ref (gA g 0)), (1, .int (nI (v)))]) hx hb dX1_widenSearch_1 rfl hl (by decide) rfl (fun ls hl => ?_)
  have loop : ∀ (n i : Nat), i ≤ 16 → 16 + 1 ≤ i + n → ∀ (H : Heap) (locs : List Loc) (ls : Array Slot), Iv g (bld (bld R 49 (wfn (R 48) (R 50) v) (i)) 51 (ffn (R 50) v) (i), B, M, O) s H locs → lv_has ls 3 [(0, .ref (gA g 0)), (1, .int (nI (v))), (2, .int (nI (i)))] → W p l e (rmN 2 85) s m [.ref (gA g 0), .int (nI (v))].toArray below meth c H locs 0 0 (MQ below (Qs g (fun v' u'' => v' = (none) ∧ u'' = (cpy (cpy (bld (bld R 49 (wfn (R 48) (R 50) v) 16) 51 (ffn (R 50) v) 16) 49 48) 51 50, B, M, O))) [.ref (gA g 0), .int (nI (v))].toArray s 0 0 (gW g)) (F0 m 2 ls []) := by
    intro n
    induction n with
    | zero => intro i h1 h2; exact absurd h2 (by omega)
    | succ n ih =>
      intro i hi hn H locs ls I hl
      refine lv_iload_n hx hb dX1_widenSearch_2 rfl (lv_at hl 2 rfl) ?_
      refine lv_bipush (v := nI (16)) hx hb dX1_widenSearch_3 (by decide) ?_
      refine n_cge (tgt := 66) hx hb (by omega) (by omega) dX1_widenSearch_5 (by decide) (fun h1 => ?_) (fun h1 => ?_)
      · obtain rfl : i = 16 := by omega
        have hl : lv_has ls 3 [(0, .ref (gA g 0)), (1, .int (nI (v))), (2, .int (nI (16)))] := hl
        refine lv_aload_n hx hb dX1_widenSearch_66 rfl (lv_at hl 0 rfl) ?_
        refine x_get 0 1 2 (C := RX1) (T := TX1) (N := 6) (v := .ref (gA g 59)) E F I inw_X1_widenSearch_X1 (by decide) rfl rfl (by decide) wm_X1_widenSearch_f18 rfl dX1_widenSearch_67 ?_
        refine lv_aload_n hx hb dX1_widenSearch_70 rfl (lv_at hl 0 rfl) ?_
        refine x_get 0 1 1 (C := RX1) (T := TX1) (N := 6) (v := .ref (gA g 58)) E F I inw_X1_widenSearch_X1 (by decide) rfl rfl (by decide) wm_X1_widenSearch_f14 rfl dX1_widenSearch_71 ?_
        refine x_callSv (rest := []) E F I (c_copyRow l g (bld (bld R 49 (wfn (R 48) (R 50) v) 16) 51 (ffn (R 50) v) 16) B M O (k := 49) (j := 48) (by omega) (by omega)) gX1_widenSearch_X1_copyRow rfl hd_X1_copyRow rfl rfl ⟨by decide, by decide⟩ ⟨by decide, by decide⟩ rfl hl.1 rfl (Nat.le_of_ble_eq_true rfl) dX1_widenSearch_74 (fun H locs I => ?_)
        refine lv_aload_n hx hb dX1_widenSearch_77 rfl (lv_at hl 0 rfl) ?_
        refine x_get 0 1 4 (C := RX1) (T := TX1) (N := 6) (v := .ref (gA g 61)) E F I inw_X1_widenSearch_X1 (by decide) rfl rfl (by decide) wm_X1_widenSearch_f24 rfl dX1_widenSearch_78 ?_
        refine lv_aload_n hx hb dX1_widenSearch_81 rfl (lv_at hl 0 rfl) ?_
        refine x_get 0 1 3 (C := RX1) (T := TX1) (N := 6) (v := .ref (gA g 60)) E F I inw_X1_widenSearch_X1 (by decide) rfl rfl (by decide) wm_X1_widenSearch_f21 rfl dX1_widenSearch_82 ?_
        refine x_callSv (rest := []) E F I (c_copyRow l g (cpy (bld (bld R 49 (wfn (R 48) (R 50) v) 16) 51 (ffn (R 50) v) 16) (49) (48)) B M O (k := 51) (j := 50) (by omega) (by omega)) gX1_widenSearch_X1_copyRow rfl hd_X1_copyRow rfl rfl ⟨by decide, by decide⟩ ⟨by decide, by decide⟩ rfl hl.1 rfl (Nat.le_of_ble_eq_true rfl) dX1_widenSearch_85 (fun H locs I => ?_)
        exact x_vret hx hb hr hk F I ⟨rfl, rfl⟩ dX1_widenSearch_88
      · refine lv_aload_n hx hb dX1_widenSearch_8 rfl (lv_at hl 0 rfl) ?_
        refine x_get 0 1 2 (C := RX1) (T := TX1) (N := 6) (v := .ref (gA g 59)) E F I inw_X1_widenSearch_X1 (by decide) rfl rfl (by decide) wm_X1_widenSearch_f18 rfl dX1_widenSearch_9 ?_
        refine lv_iload_n hx hb dX1_widenSearch_12 rfl (lv_at hl 2 rfl) ?_
        refine lv_aload_n hx hb dX1_widenSearch_13 rfl (lv_at hl 0 rfl) ?_
        refine x_get 0 1 3 (C := RX1) (T := TX1) (N := 6) (v := .ref (gA g 60)) E F I inw_X1_widenSearch_X1 (by decide) rfl rfl (by decide) wm_X1_widenSearch_f21 rfl dX1_widenSearch_14 ?_
        refine lv_iload_n hx hb dX1_widenSearch_17 rfl (lv_at hl 2 rfl) ?_
        refine x_laload (k := 50) (i := i) hx hb F I (by omega) (by omega) dX1_widenSearch_18 ?_
        refine lv_aload_n hx hb dX1_widenSearch_19 rfl (lv_at hl 0 rfl) ?_
        refine x_get 0 1 1 (C := RX1) (T := TX1) (N := 6) (v := .ref (gA g 58)) E F I inw_X1_widenSearch_X1 (by decide) rfl rfl (by decide) wm_X1_widenSearch_f14 rfl dX1_widenSearch_20 ?_
        refine lv_iload_n hx hb dX1_widenSearch_23 rfl (lv_at hl 2 rfl) ?_
        refine x_laload (k := 48) (i := i) hx hb F I (by omega) (by omega) dX1_widenSearch_24 ?_
        refine lv_aload_n hx hb dX1_widenSearch_25 rfl (lv_at hl 0 rfl) ?_
        refine x_get 0 1 1 (C := RX1) (T := TX1) (N := 6) (v := .ref (gA g 58)) E F I inw_X1_widenSearch_X1 (by decide) rfl rfl (by decide) wm_X1_widenSearch_f14 rfl dX1_widenSearch_26 ?_
        refine lv_iload_n hx hb dX1_widenSearch_29 rfl (lv_at hl 2 rfl) ?_
        refine lv_iload_n hx hb dX1_widenSearch_30 rfl (lv_at hl 1 rfl) ?_
        refine x_callSl (rest := [.long ((bld (bld R 49 (wfn (R 48) (R 50) v) (i)) 51 (ffn (R 50) v) (i)) (48) (i)), .long ((bld (bld R 49 (wfn (R 48) (R 50) v) (i)) 51 (ffn (R 50) v) (i)) (50) (i)), .int (nI (i)), .ref (gA g 59)]) E F I (c_turnedWord l g (bld (bld R 49 (wfn (R 48) (R 50) v) (i)) 51 (ffn (R 50) v) (i)) B M O (k := 48) (i := i) (v := v) (by omega) (by omega) (by omega)) gX1_widenSearch_X1_turnedWord rfl hd_X1_turnedWord rfl rfl ⟨by decide, by decide⟩ ⟨by decide, by decide⟩ rfl hl.1 rfl (Nat.le_of_ble_eq_true rfl) dX1_widenSearch_31 (fun H locs I => ?_)
        refine x_callSl (rest := [.int (nI (i)), .ref (gA g 59)]) E F I (c_pick l g (bld (bld R 49 (wfn (R 48) (R 50) v) (i)) 51 (ffn (R 50) v) (i)) B M O (x := (bld (bld R 49 (wfn (R 48) (R 50) v) (i)) 51 (ffn (R 50) v) (i)) (50) (i)) (y := (bld (bld R 49 (wfn (R 48) (R 50) v) (i)) 51 (ffn (R 50) v) (i)) (48) (i)) (z := twd ((bld (bld R 49 (wfn (R 48) (R 50) v) (i)) 51 (ffn (R 50) v) (i)) (48)) (i) (v))) gX1_widenSearch_X1_pick rfl hd_X1_pick rfl rfl ⟨by decide, by decide⟩ ⟨by decide, by decide⟩ rfl hl.1 rfl (Nat.le_of_ble_eq_true rfl) dX1_widenSearch_34 (fun H locs I => ?_)
        refine x_lastore (k := 49) (i := i) hx hb F I (by omega) (by omega) dX1_widenSearch_37 (fun H locs I => ?_)
        have I : Iv g (bld (bld R 49 (wfn (R 48) (R 50) v) (i + 1)) 51 (ffn (R 50) v) (i), B, M, O) s H locs := by
          simp only [bld_ne (show (50 : Nat) ≠ 51 by decide), bld_ne (show (50 : Nat) ≠ 49 by decide), bld_ne (show (48 : Nat) ≠ 51 by decide), bld_ne (show (48 : Nat) ≠ 49 by decide)] at I
          rw [← bld2_a (by decide)]
          exact I
        refine lv_aload_n hx hb dX1_widenSearch_38 rfl (lv_at hl 0 rfl) ?_
        refine x_get 0 1 4 (C := RX1) (T := TX1) (N := 6) (v := .ref (gA g 61)) E F I inw_X1_widenSearch_X1 (by decide) rfl rfl (by decide) wm_X1_widenSearch_f24 rfl dX1_widenSearch_39 ?_
        refine lv_iload_n hx hb dX1_widenSearch_42 rfl (lv_at hl 2 rfl) ?_
        refine lv_aload_n hx hb dX1_widenSearch_43 rfl (lv_at hl 0 rfl) ?_
        refine x_get 0 1 3 (C := RX1) (T := TX1) (N := 6) (v := .ref (gA g 60)) E F I inw_X1_widenSearch_X1 (by decide) rfl rfl (by decide) wm_X1_widenSearch_f21 rfl dX1_widenSearch_44 ?_
        refine lv_iload_n hx hb dX1_widenSearch_47 rfl (lv_at hl 2 rfl) ?_
        refine x_laload (k := 50) (i := i) hx hb F I (by omega) (by omega) dX1_widenSearch_48 ?_
        refine lv_aload_n hx hb dX1_widenSearch_49 rfl (lv_at hl 0 rfl) ?_
        refine x_get 0 1 3 (C := RX1) (T := TX1) (N := 6) (v := .ref (gA g 60)) E F I inw_X1_widenSearch_X1 (by decide) rfl rfl (by decide) wm_X1_widenSearch_f21 rfl dX1_widenSearch_50 ?_
        refine lv_iload_n hx hb dX1_widenSearch_53 rfl (lv_at hl 2 rfl) ?_
        refine lv_iload_n hx hb dX1_widenSearch_54 rfl (lv_at hl 1 rfl) ?_
        refine x_callSl (rest := [.long ((bld (bld R 49 (wfn (R 48) (R 50) v) (i + 1)) 51 (ffn (R 50) v) (i)) (50) (i)), .int (nI (i)), .ref (gA g 61)]) E F I (c_turnedWord l g (bld (bld R 49 (wfn (R 48) (R 50) v) (i + 1)) 51 (ffn (R 50) v) (i)) B M O (k := 50) (i := i) (v := v) (by omega) (by omega) (by omega)) gX1_widenSearch_X1_turnedWord rfl hd_X1_turnedWord rfl rfl ⟨by decide, by decide⟩ ⟨by decide, by decide⟩ rfl hl.1 rfl (Nat.le_of_ble_eq_true rfl) dX1_widenSearch_55 (fun H locs I => ?_)
        refine lv_lor hx hb dX1_widenSearch_58 ?_
        refine x_lastore (k := 51) (i := i) hx hb F I (by omega) (by omega) dX1_widenSearch_59 (fun H locs I => ?_)
        refine n_iinc (d := 1) (lv' := [(2, .int (nI (i + 1))), (0, .ref (gA g 0)), (1, .int (nI (v)))]) hx hb dX1_widenSearch_60 rfl hl (j := 2) rfl (by decide) rfl (fun ls hl => ?_)
        refine lv_goto (tgt := 2) hx hb dX1_widenSearch_63 (by decide) ?_
        exact ih (i + 1) (by omega) (by omega) _ _ ls (bld_step (by simp only [bld_ne (show (50 : Nat) ≠ 51 by decide), bld_ne (show (50 : Nat) ≠ 49 by decide)]; rfl) I) (lv_sub hl [1, 2, 0] rfl)
  exact loop (16 + 1 - 0) (0) (by omega) (by omega) _ _ ls (by rw [bld_0, bld_0]; exact I) (lv_sub hl [1, 2, 0] rfl)
theorem hd_X1_widenSearch : yX1_widenSearch.cls ≠ "java/lang/invoke/MethodHandle" ∧ yX1_widenSearch.cls ≠ "java/lang/invoke/VarHandle" ∧ (parseMethodDescriptor yX1_widenSearch.desc).map (fun d => d.parameters.length) = some 1 := by decide +kernel
