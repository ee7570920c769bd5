set_option maxHeartbeats 4000000 in
set_option maxRecDepth 100000 in
theorem r_wordsIn (l : Launch) (g : Geo) (R : Nat → Nat → Int64) (B : Rul) (M : Mod) (O : Nat → Int64) {lv : Nat} (hlv : lv ≤ 10) : Cd l g yX0_wordsIn wsX0_wordsIn (rmN 0 0) [.int (nI (lv))] (R, B, M, O) (some (.int (nI (wrd lv)))) (R, B, M, O) := by
  refine Cs.ofW RX0 rfl (by decide) rfl (Nat.le_of_ble_eq_true rfl) ?_
  intro p e s m below meth c E hr hk F I ls hl
  have hx := E.1
  have hb := E.2.1
  have hl : lv_has ls 1 [(0, .int (nI (lv)))] := hl
  refine lv_iload_n hx hb dX0_wordsIn_0 rfl (lv_at hl 0 rfl) ?_
  refine lv_iconst (v := nI (4)) hx hb dX0_wordsIn_1 (by decide) ?_
  refine n_cge (tgt := 12) hx hb (by omega) (by omega) dX0_wordsIn_2 (by decide) (fun h1 => ?_) (fun h1 => ?_)
  · refine lv_iconst (v := nI (1)) hx hb dX0_wordsIn_12 (by decide) ?_
    exact x_iret hx hb hr hk F I ⟨by simp only [wrd, if_neg (Nat.not_lt.mpr h1)], rfl⟩ dX0_wordsIn_13
  · refine lv_bipush (v := nI (16)) hx hb dX0_wordsIn_5 (by decide) ?_
    refine lv_iload_n hx hb dX0_wordsIn_7 rfl (lv_at hl 0 rfl) ?_
    refine n_ishr hx hb (by omega) (by omega) dX0_wordsIn_8 ?_
    refine lv_goto (tgt := 13) hx hb dX0_wordsIn_9 (by decide) ?_
    exact x_iret hx hb hr hk F I ⟨by simp only [wrd, if_pos h1], rfl⟩ dX0_wordsIn_13
theorem hd_X0_wordsIn : yX0_wordsIn.cls ≠ "java/lang/invoke/MethodHandle" ∧ yX0_wordsIn.cls ≠ "java/lang/invoke/VarHandle" ∧ (parseMethodDescriptor yX0_wordsIn.desc).map (fun d => d.parameters.length) = some 1 := by decide +kernel
set_option maxHeartbeats 4000000 in
set_option maxRecDepth 100000 in
theorem r_partWord (l : Launch) (g : Geo) (R : Nat → Nat → Int64) (B : Rul) (M : Mod) (O : Nat → Int64) {lv x k : Nat} (hlv : lv ≤ 10) (hpw : x * (1024 / 2 ^ lv) < 49152) (hk2 : k < wrd lv) : Cd l g yX0_partWord wsX0_partWord (rmN 0 0) [.ref (gA g 1), .int (nI (lv)), .int (nI (x)), .int (nI (k))] (R, B, M, O) (some (.long (pwd R lv x k))) (R, B, M, O) := by
  refine Cs.ofW RX0 rfl (by decide) rfl (Nat.le_of_ble_eq_true rfl) ?_
  intro p e s m below meth c E hr hk F I ls hl
  have hx := E.1
  have hb := E.2.1
  have hl : lv_has ls 9 [(0, .ref (gA g 1)), (1, .int (nI (lv))), (2, .int (nI (x))), (3, .int (nI (k)))] := hl
  refine lv_sipush (v := nI (1024)) hx hb dX0_partWord_0 (by decide) ?_
  refine lv_iload_n hx hb dX0_partWord_3 rfl (lv_at hl 1 rfl) ?_
  refine n_ishr hx hb (by omega) (by omega) dX0_partWord_4 ?_
  refine lv_istore (lv' := [(4, .int (nI ((1024) / 2 ^ (lv)))), (0, .ref (gA g 1)), (1, .int (nI (lv))), (2, .int (nI (x))), (3, .int (nI (k)))]) hx hb dX0_partWord_5 hl (by decide) rfl (fun ls hl => ?_)
  refine lv_iload_n hx hb dX0_partWord_7 rfl (lv_at hl 3 rfl) ?_
  refine lv_iload hx hb dX0_partWord_8 (lv_at hl 0 rfl) ?_
  refine n_imul hx hb dX0_partWord_10 ?_
  refine lv_istore (lv' := [(5, .int (nI ((x) * ((1024) / 2 ^ (lv))))), (4, .int (nI ((1024) / 2 ^ (lv)))), (0, .ref (gA g 1)), (1, .int (nI (lv))), (2, .int (nI (x))), (3, .int (nI (k)))]) hx hb dX0_partWord_11 hl (by decide) rfl (fun ls hl => ?_)
  refine lv_iload hx hb dX0_partWord_13 (lv_at hl 0 rfl) ?_
  refine lv_sipush (v := nI (1024)) hx hb dX0_partWord_15 (by decide) ?_
  refine n_irem hx hb (by omega) (by omega) (by omega) dX0_partWord_18 ?_
  refine lv_istore (lv' := [(6, .int (nI (((x) * ((1024) / 2 ^ (lv))) % (1024)))), (5, .int (nI ((x) * ((1024) / 2 ^ (lv))))), (4, .int (nI ((1024) / 2 ^ (lv)))), (0, .ref (gA g 1)), (1, .int (nI (lv))), (2, .int (nI (x))), (3, .int (nI (k)))]) hx hb dX0_partWord_19 hl (by decide) rfl (fun ls hl => ?_)
  refine lv_aload_n hx hb dX0_partWord_21 rfl (lv_at hl 3 rfl) ?_
  refine lv_iload hx hb dX0_partWord_22 (lv_at hl 1 rfl) ?_
  refine lv_sipush (v := nI (1024)) hx hb dX0_partWord_24 (by decide) ?_
  refine n_idiv hx hb (by omega) (by omega) (by omega) dX0_partWord_27 ?_
  refine x_aaload hx hb F I (by omega) dX0_partWord_28 ?_
  refine lv_iload hx hb dX0_partWord_29 (lv_at hl 0 rfl) ?_
  refine lv_bipush (v := nI (64)) hx hb dX0_partWord_31 (by decide) ?_
  refine n_idiv hx hb (by omega) (by omega) (by omega) dX0_partWord_33 ?_
  refine lv_iload_n hx hb dX0_partWord_34 rfl (lv_at hl 6 rfl) ?_
  refine n_iadd hx hb dX0_partWord_35 ?_
  refine x_laload (k := ((x) * ((1024) / 2 ^ (lv))) / (1024)) (i := ((((x) * ((1024) / 2 ^ (lv))) % (1024)) / (64)) + (k)) hx hb F I (by omega) (pw_ix lv hlv hk2) dX0_partWord_36 ?_
  refine lv_lstore (lv' := [(7, .long (R (((x) * ((1024) / 2 ^ (lv))) / (1024)) (((((x) * ((1024) / 2 ^ (lv))) % (1024)) / (64)) + (k)))), (6, .int (nI (((x) * ((1024) / 2 ^ (lv))) % (1024)))), (5, .int (nI ((x) * ((1024) / 2 ^ (lv))))), (4, .int (nI ((1024) / 2 ^ (lv)))), (0, .ref (gA g 1)), (1, .int (nI (lv))), (2, .int (nI (x))), (3, .int (nI (k)))]) hx hb dX0_partWord_37 hl (by decide) rfl (fun ls hl => ?_)
  refine lv_iload hx hb dX0_partWord_39 (lv_at hl 3 rfl) ?_
  refine lv_bipush (v := nI (64)) hx hb dX0_partWord_41 (by decide) ?_
  refine n_clt (tgt := 49) hx hb (Nat.lt_of_le_of_lt (Nat.div_le_self _ _) (by decide)) (by decide) dX0_partWord_43 (by decide) (fun h1 => ?_) (fun h1 => ?_)
  · refine lv_lload hx hb dX0_partWord_49 (lv_at hl 0 rfl) ?_
    refine lv_iload hx hb dX0_partWord_51 (lv_at hl 1 rfl) ?_
    refine lv_bipush (v := nI (64)) hx hb dX0_partWord_53 (by decide) ?_
    refine n_irem hx hb (by omega) (by omega) (by omega) dX0_partWord_55 ?_
    refine n_lushr hx hb dX0_partWord_56 ?_
    refine lv_lconst (v := 1) hx hb dX0_partWord_57 (by decide) ?_
    refine lv_iload hx hb dX0_partWord_58 (lv_at hl 3 rfl) ?_
    refine n_lshl hx hb dX0_partWord_60 ?_
    refine lv_lconst (v := 1) hx hb dX0_partWord_61 (by decide) ?_
    refine lv_lsub hx hb dX0_partWord_62 ?_
    refine lv_land hx hb dX0_partWord_63 ?_
    exact x_lret hx hb hr hk F I ⟨by simp only [pwd, if_pos h1], rfl⟩ dX0_partWord_64
  · refine lv_lload hx hb dX0_partWord_46 (lv_at hl 0 rfl) ?_
    exact x_lret hx hb hr hk F I ⟨by simp only [pwd, if_neg (Nat.not_lt.mpr h1)], rfl⟩ dX0_partWord_48
theorem hd_X0_partWord : yX0_partWord.cls ≠ "java/lang/invoke/MethodHandle" ∧ yX0_partWord.cls ≠ "java/lang/invoke/VarHandle" ∧ (parseMethodDescriptor yX0_partWord.desc).map (fun d => d.parameters.length) = some 4 := by decide +kernel
set_option maxHeartbeats 4000000 in
set_option maxRecDepth 100000 in
theorem r_samePart (l : Launch) (g : Geo) (R : Nat → Nat → Int64) (B : Rul) (M : Mod) (O : Nat → Int64) {lv x y : Nat} (hlv : lv ≤ 10) (hpx : x * (1024 / 2 ^ lv) < 49152) (hpy : y * (1024 / 2 ^ lv) < 49152) : Cd l g yX0_samePart wsX0_samePart (rmN 1 28) [.ref (gA g 1), .int (nI (lv)), .int (nI (x)), .int (nI (y))] (R, B, M, O) (some (.int (bI (pB (Ew R lv x y))))) (R, B, M, O) := by
  refine Cs.ofW RX0 rfl (by decide) rfl (Nat.le_of_ble_eq_true rfl) ?_
  intro p e s m below meth c E hr hk F I ls hl
  have hx := E.1
  have hb := E.2.1
  have hl : lv_has ls 5 [(0, .ref (gA g 1)), (1, .int (nI (lv))), (2, .int (nI (x))), (3, .int (nI (y)))] := hl
  refine lv_iconst (v := nI (0)) hx hb dX0_samePart_0 (by decide) ?_
  refine lv_istore (lv' := [(4, .int (nI (0))), (0, .ref (gA g 1)), (1, .int (nI (lv))), (2, .int (nI (x))), (3, .int (nI (y)))]) hx hb dX0_samePart_1 hl (by decide) rfl (fun ls hl => ?_)
  have loop : ∀ (n i : Nat), i ≤ (wrd lv) → (wrd lv) + 1 ≤ i + n → (∀ k, k < i → pwd R lv x k = pwd R lv y k) → ∀ (H : Heap) (locs : List Loc) (ls : Array Slot), Iv g (R, B, M, O) s H locs → lv_has ls 5 [(0, .ref (gA g 1)), (1, .int (nI (lv))), (2, .int (nI (x))), (3, .int (nI (y))), (4, .int (nI (i)))] → W p l e (rmN 1 28) s m [.ref (gA g 1), .int (nI (lv)), .int (nI (x)), .int (nI (y))].toArray below meth c H locs 0 0 (MQ below (Qs g (fun v' u'' => v' = (some (.int (bI (pB (Ew R lv x y))))) ∧ u'' = (R, B, M, O))) [.ref (gA g 1), .int (nI (lv)), .int (nI (x)), .int (nI (y))].toArray s 0 0 (gW g)) (F0 m 3 ls []) := by
    intro n
    induction n with
    | zero => intro i h1 h2; exact absurd h2 (by omega)
    | succ n ih_loop =>
      intro i hi hn hz H locs ls I hl
      refine lv_iload hx hb dX0_samePart_3 (lv_at hl 4 rfl) ?_
      refine lv_iload_n hx hb dX0_samePart_5 rfl (lv_at hl 1 rfl) ?_
      have hwr := wrd_le lv
      refine x_callSi (rest := [.int (nI (i))]) E F I (r_wordsIn l g R B M O (lv := lv) (by omega)) gX0_samePart_X0_wordsIn rfl hd_X0_wordsIn rfl rfl ⟨by decide, by decide⟩ ⟨by decide, by decide⟩ rfl hl.1 rfl (Nat.le_of_ble_eq_true rfl) dX0_samePart_6 (fun H locs I => ?_)
      refine n_cge (tgt := 40) hx hb (by omega) (by omega) dX0_samePart_9 (by decide) (fun h1 => ?_) (fun h1 => ?_)
      · refine lv_iconst (v := nI (1)) hx hb dX0_samePart_40 (by decide) ?_
        exact x_zret hx hb hr hk F I (by decide +kernel) ⟨by rw [pB_t (P := Ew R lv x y) (fun k hk => hz k (by omega))]; rfl, rfl⟩ dX0_samePart_41
      · refine lv_aload_n hx hb dX0_samePart_12 rfl (lv_at hl 0 rfl) ?_
        refine lv_iload_n hx hb dX0_samePart_13 rfl (lv_at hl 1 rfl) ?_
        refine lv_iload_n hx hb dX0_samePart_14 rfl (lv_at hl 2 rfl) ?_
        refine lv_iload hx hb dX0_samePart_15 (lv_at hl 4 rfl) ?_
        refine x_callSl (rest := []) E F I (r_partWord l g R B M O (lv := lv) (x := x) (k := i) (by omega) (by assumption) (by omega)) gX0_samePart_X0_partWord rfl hd_X0_partWord rfl rfl ⟨by decide, by decide⟩ ⟨by decide, by decide⟩ rfl hl.1 rfl (Nat.le_of_ble_eq_true rfl) dX0_samePart_17 (fun H locs I => ?_)
        refine lv_aload_n hx hb dX0_samePart_20 rfl (lv_at hl 0 rfl) ?_
        refine lv_iload_n hx hb dX0_samePart_21 rfl (lv_at hl 1 rfl) ?_
        refine lv_iload_n hx hb dX0_samePart_22 rfl (lv_at hl 3 rfl) ?_
        refine lv_iload hx hb dX0_samePart_23 (lv_at hl 4 rfl) ?_
        refine x_callSl (rest := [.long (pwd R lv x i)]) E F I (r_partWord l g R B M O (lv := lv) (x := y) (k := i) (by omega) (by assumption) (by omega)) gX0_samePart_X0_partWord rfl hd_X0_partWord rfl rfl ⟨by decide, by decide⟩ ⟨by decide, by decide⟩ rfl hl.1 rfl (Nat.le_of_ble_eq_true rfl) dX0_samePart_25 (fun H locs I => ?_)
        refine n_leq (tgt := 34) hx hb dX0_samePart_28 dX0_samePart_29 (by decide) (fun h2 => ?_) (fun h2 => ?_)
        · refine n_iinc (d := 1) (lv' := [(4, .int (nI (i + 1))), (0, .ref (gA g 1)), (1, .int (nI (lv))), (2, .int (nI (x))), (3, .int (nI (y)))]) hx hb dX0_samePart_34 rfl hl (j := 4) rfl (by decide) rfl (fun ls hl => ?_)
          refine lv_goto (tgt := 3) hx hb dX0_samePart_37 (by decide) ?_
          exact ih_loop (i + 1) (by omega) (by omega) (fun k hk => by rcases Nat.lt_or_ge k i with q | q; exact hz k q; rw [show k = i by omega]; assumption) _ _ ls (I) (lv_sub hl [1, 2, 3, 4, 0] rfl)
        · refine lv_iconst (v := nI (0)) hx hb dX0_samePart_32 (by decide) ?_
          exact x_zret hx hb hr hk F I (by decide +kernel) ⟨by rw [pB_f (P := Ew R lv x y) (fun q => h2 (q i (by omega)))]; rfl, rfl⟩ dX0_samePart_33
  exact loop ((wrd lv) + 1 - 0) (0) (by omega) (by omega) (fun k hk => absurd hk (Nat.not_lt_zero k)) _ _ ls (I) (lv_sub hl [1, 2, 3, 4, 0] rfl)
theorem hd_X0_samePart : yX0_samePart.cls ≠ "java/lang/invoke/MethodHandle" ∧ yX0_samePart.cls ≠ "java/lang/invoke/VarHandle" ∧ (parseMethodDescriptor yX0_samePart.desc).map (fun d => d.parameters.length) = some 4 := by decide +kernel
theorem wm_X0_seatOf_f25 : Cond.fieldLink RX0 25 "FunctionDesk$Ruler" "seatsUsed" "I" ∈ wsX0_seatOf := by decide +kernel
theorem inw_X0_seatOf_X0 : ∀ w ∈ wsX00, w ∈ wsX0_seatOf := by decide +kernel
theorem wm_X0_seatOf_c60 : Cond.constantLong RX0 60 (-7046029254386353131) ∈ wsX0_seatOf := by decide +kernel
set_option maxHeartbeats 4000000 in
set_option maxRecDepth 100000 in
theorem r_seatOf (l : Launch) (g : Geo) (R : Nat → Nat → Int64) (wt se : Nat → Int32) (fi le : Int32) (us : Nat) (M : Mod) (O : Nat → Int64) {lv x ex : Nat} (hlv : lv ≤ 10) (hpx : x * (1024 / 2 ^ lv) < 49152) (he : ex ≤ 12) (hu : us = 2 ^ ex) : Cd l g yX0_seatOf wsX0_seatOf (rmN 1 28) [.ref (gA g 2), .ref (gA g 1), .int (nI (lv)), .int (nI (x))] (R, (wt, se, fi, le, nI (us)), M, O) (some (.int (nI (hsN R lv x % us)))) (R, (wt, se, fi, le, nI (us)), M, O) := by
  refine Cs.ofW RX0 rfl (by decide) rfl (Nat.le_of_ble_eq_true rfl) ?_
  intro p e s m below meth c E hr hk F I ls hl
  have hx := E.1
  have hb := E.2.1
  have hl : lv_has ls 7 [(0, .ref (gA g 2)), (1, .ref (gA g 1)), (2, .int (nI (lv))), (3, .int (nI (x)))] := hl
  refine lv_lconst (v := 0) hx hb dX0_seatOf_0 (by decide) ?_
  refine lv_lstore (lv' := [(4, .long (0)), (0, .ref (gA g 2)), (1, .ref (gA g 1)), (2, .int (nI (lv))), (3, .int (nI (x)))]) hx hb dX0_seatOf_1 hl (by decide) rfl (fun ls hl => ?_)
  refine lv_iconst (v := nI (0)) hx hb dX0_seatOf_3 (by decide) ?_
  refine lv_istore (lv' := [(6, .int (nI (0))), (4, .long (0)), (0, .ref (gA g 2)), (1, .ref (gA g 1)), (2, .int (nI (lv))), (3, .int (nI (x)))]) hx hb dX0_seatOf_4 hl (by decide) rfl (fun ls hl => ?_)
  have loop : ∀ (n i : Nat), i ≤ (wrd lv) → (wrd lv) + 1 ≤ i + n → ∀ (H : Heap) (locs : List Loc) (ls : Array Slot), Iv g (R, (wt, se, fi, le, nI (us)), M, O) s H locs → lv_has ls 7 [(0, .ref (gA g 2)), (1, .ref (gA g 1)), (2, .int (nI (lv))), (3, .int (nI (x))), (4, .long (mixw R lv x (i))), (6, .int (nI (i)))] → W p l e (rmN 1 28) s m [.ref (gA g 2), .ref (gA g 1), .int (nI (lv)), .int (nI (x))].toArray below meth c H locs 0 0 (MQ below (Qs g (fun v' u'' => v' = (some (.int (nI (hsN R lv x % us)))) ∧ u'' = (R, (wt, se, fi, le, nI (us)), M, O))) [.ref (gA g 2), .ref (gA g 1), .int (nI (lv)), .int (nI (x))].toArray s 0 0 (gW g)) (F0 m 6 ls []) := by
    intro n
    induction n with
    | zero => intro i h1 h2; exact absurd h2 (by omega)
    | succ n ih_loop =>
      intro i hi hn H locs ls I hl
      refine lv_iload hx hb dX0_seatOf_6 (lv_at hl 5 rfl) ?_
      refine lv_iload_n hx hb dX0_seatOf_8 rfl (lv_at hl 2 rfl) ?_
      have hwr := wrd_le lv
      refine x_callSi (rest := [.int (nI (i))]) E F I (r_wordsIn l g R (wt, se, fi, le, nI (us)) M O (lv := lv) (by omega)) gX0_seatOf_X0_wordsIn rfl hd_X0_wordsIn rfl rfl ⟨by decide, by decide⟩ ⟨by decide, by decide⟩ rfl hl.1 rfl (Nat.le_of_ble_eq_true rfl) dX0_seatOf_9 (fun H locs I => ?_)
      refine n_cge (tgt := 52) hx hb (by omega) (by omega) dX0_seatOf_12 (by decide) (fun h1 => ?_) (fun h1 => ?_)
      · obtain rfl : i = wrd lv := by omega
        have hl : lv_has ls 7 [(0, .ref (gA g 2)), (1, .ref (gA g 1)), (2, .int (nI (lv))), (3, .int (nI (x))), (4, .long (mixw R lv x (wrd lv))), (6, .int (nI (wrd lv)))] := hl
        refine lv_lload hx hb dX0_seatOf_52 (lv_at hl 4 rfl) ?_
        refine lv_bipush (v := nI (40)) hx hb dX0_seatOf_54 (by decide) ?_
        refine n_lushr hx hb dX0_seatOf_56 ?_
        refine lv_l2i hx hb dX0_seatOf_57 rfl ?_
        refine lv_aload_n hx hb dX0_seatOf_58 rfl (lv_at hl 0 rfl) ?_
        refine x_get 2 0 4 (C := RX0) (T := TX0) (N := 5) (v := .int (nI (us))) E F I inw_X0_seatOf_X0 (by decide) rfl rfl (by decide) wm_X0_seatOf_f25 rfl dX0_seatOf_59 ?_
        refine lv_iconst (v := nI (1)) hx hb dX0_seatOf_62 (by decide) ?_
        refine lv_isub hx hb dX0_seatOf_63 ?_
        refine lv_iand hx hb dX0_seatOf_64 ?_
        exact x_iret hx hb hr hk F I ⟨congrArg (fun q => some (Value.int q)) (mask_us _ he hu), rfl⟩ dX0_seatOf_65
      · refine lv_lload hx hb dX0_seatOf_15 (lv_at hl 4 rfl) ?_
        refine lv_aload_n hx hb dX0_seatOf_17 rfl (lv_at hl 1 rfl) ?_
        refine lv_iload_n hx hb dX0_seatOf_18 rfl (lv_at hl 2 rfl) ?_
        refine lv_iload_n hx hb dX0_seatOf_19 rfl (lv_at hl 3 rfl) ?_
        refine lv_iload hx hb dX0_seatOf_20 (lv_at hl 5 rfl) ?_
        refine x_callSl (rest := [.long (mixw R lv x (i))]) E F I (r_partWord l g R (wt, se, fi, le, nI (us)) M O (lv := lv) (x := x) (k := i) (by omega) (by assumption) (by omega)) gX0_seatOf_X0_partWord rfl hd_X0_partWord rfl rfl ⟨by decide, by decide⟩ ⟨by decide, by decide⟩ rfl hl.1 rfl (Nat.le_of_ble_eq_true rfl) dX0_seatOf_22 (fun H locs I => ?_)
        refine lv_lxor hx hb dX0_seatOf_25 ?_
        refine lv_ldc2 (v := -7046029254386353131) hx hb E.2.2.2.1 (E.2.2.2.2 _ wm_X0_seatOf_c60) dX0_seatOf_26 ?_
        refine lv_lmul hx hb dX0_seatOf_29 ?_
        refine lv_lstore (lv' := [(4, .long (((mixw R lv x (i)) ^^^ (pwd R lv x i)) * (-7046029254386353131))), (0, .ref (gA g 2)), (1, .ref (gA g 1)), (2, .int (nI (lv))), (3, .int (nI (x))), (6, .int (nI (i)))]) hx hb dX0_seatOf_30 hl (by decide) rfl (fun ls hl => ?_)
        refine lv_lload hx hb dX0_seatOf_32 (lv_at hl 0 rfl) ?_
        refine lv_lload hx hb dX0_seatOf_34 (lv_at hl 0 rfl) ?_
        refine lv_bipush (v := nI (32)) hx hb dX0_seatOf_36 (by decide) ?_
        refine n_lushr hx hb dX0_seatOf_38 ?_
        refine lv_lxor hx hb dX0_seatOf_39 ?_
        refine lv_ldc2 (v := -7046029254386353131) hx hb E.2.2.2.1 (E.2.2.2.2 _ wm_X0_seatOf_c60) dX0_seatOf_40 ?_
        refine lv_lmul hx hb dX0_seatOf_43 ?_
        refine lv_lstore (lv' := [(4, .long (((((mixw R lv x (i)) ^^^ (pwd R lv x i)) * (-7046029254386353131)) ^^^ (ush (((mixw R lv x (i)) ^^^ (pwd R lv x i)) * (-7046029254386353131)) (32))) * (-7046029254386353131))), (0, .ref (gA g 2)), (1, .ref (gA g 1)), (2, .int (nI (lv))), (3, .int (nI (x))), (6, .int (nI (i)))]) hx hb dX0_seatOf_44 hl (by decide) rfl (fun ls hl => ?_)
        refine n_iinc (d := 1) (lv' := [(6, .int (nI (i + 1))), (4, .long (((((mixw R lv x (i)) ^^^ (pwd R lv x i)) * (-7046029254386353131)) ^^^ (ush (((mixw R lv x (i)) ^^^ (pwd R lv x i)) * (-7046029254386353131)) (32))) * (-7046029254386353131))), (0, .ref (gA g 2)), (1, .ref (gA g 1)), (2, .int (nI (lv))), (3, .int (nI (x)))]) hx hb dX0_seatOf_46 rfl hl (j := 5) rfl (by decide) rfl (fun ls hl => ?_)
        refine lv_goto (tgt := 6) hx hb dX0_seatOf_49 (by decide) ?_
        exact ih_loop (i + 1) (by omega) (by omega) _ _ ls (I) (lv_sub hl [2, 3, 4, 5, 1, 0] rfl)
  exact loop ((wrd lv) + 1 - 0) (0) (by omega) (by omega) _ _ ls (I) (lv_sub hl [2, 3, 4, 5, 1, 0] rfl)
theorem hd_X0_seatOf : yX0_seatOf.cls ≠ "java/lang/invoke/MethodHandle" ∧ yX0_seatOf.cls ≠ "java/lang/invoke/VarHandle" ∧ (parseMethodDescriptor yX0_seatOf.desc).map (fun d => d.parameters.length) = some 3 := by decide +kernel
