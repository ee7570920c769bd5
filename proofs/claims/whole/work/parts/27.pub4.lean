theorem wm_X1_isSame_f11 : Cond.fieldLink RX1 11 "FunctionDesk" "slots" "[[J" ∈ wsX1_isSame := by decide +kernel
theorem inw_X1_isSame_X1 : ∀ w ∈ wsX10, w ∈ wsX1_isSame := by decide +kernel
set_option maxHeartbeats 4000000 in
set_option maxRecDepth 100000 in
theorem c_isSame (l : Launch) (hl0 : l.stackTraces = false) (g : Geo) (R : Nat → Nat → Int64) (B : Rul) (M : Mod) (O : Nat → Int64) (x1 : Int32) (x2 : Int32) : Xs l g yX1_isSame wsX1_isSame (rmX 7 110 5 30) [.ref (gA g 0), .int (x1), .int (x2)] (R, B, M, O) (fun v' u' => u' = (R, B, M, O) ∧ ∃ a_ b_ : Nat, a_ < 48 ∧ b_ < 48 ∧ x1 = nI a_ ∧ x2 = nI b_ ∧ v' = some (.int (bI (pB (∀ j, j < 16 → R a_ j = R b_ j))))) (fun E0 => (E0 = sIO ∧ ¬ (okI 48 x1 ∧ okI 48 x2))) 5 30 := by
  refine Xs.ofW RX1 rfl (by decide) rfl (Nat.le_of_ble_eq_true rfl) ?_
  intro p e s m below meth c E hr hk ht F I ls hl
  have hx := E.1
  have hb := E.2.1
  have hl : lv_has ls 4 [(0, .ref (gA g 0)), (1, .int (x1)), (2, .int (x2))] := hl
  refine lv_iload_n hx hb dX1_isSame_0 rfl (lv_at hl 1 rfl) ?_
  refine z_check (rest := []) E F I (c_checkSlot l hl0 g R B M O x1) gX1_isSame_X1_checkSlot rfl hd_X1_checkSlot rfl rfl ⟨by decide, by decide⟩ ⟨by decide, by decide⟩ rfl hl.1 rfl (Nat.le_of_ble_eq_true rfl) dX1_isSame_1 (fun E0 ce q9 H locs hxc I h1 h2 h3 => ?_) (fun hok H locs I => ?_)
  · exact y_out ht hk I h1 h2 h3 (⟨hxc.1, fun q => hxc.2 q.1⟩) (by decide) (by decide)
  obtain ⟨a, lt_a, rfl⟩ := hok
  have hl : lv_has ls 4 [(0, .ref (gA g 0)), (1, .int (nI (a))), (2, .int (x2))] := hl
  refine lv_iload_n hx hb dX1_isSame_4 rfl (lv_at hl 2 rfl) ?_
  refine z_check (rest := []) E F I (c_checkSlot l hl0 g R B M O x2) gX1_isSame_X1_checkSlot rfl hd_X1_checkSlot rfl rfl ⟨by decide, by decide⟩ ⟨by decide, by decide⟩ rfl hl.1 rfl (Nat.le_of_ble_eq_true rfl) dX1_isSame_5 (fun E0 ce q9 H locs hxc I h1 h2 h3 => ?_) (fun hok H locs I => ?_)
  · exact y_out ht hk I h1 h2 h3 (⟨hxc.1, fun q => hxc.2 q.2⟩) (by decide) (by decide)
  obtain ⟨b, lt_b, rfl⟩ := hok
  have hl : lv_has ls 4 [(0, .ref (gA g 0)), (1, .int (nI (a))), (2, .int (nI (b)))] := hl
  refine W.widen (k := 5) (n := 30) (by decide) (by decide) ?_
  refine lv_iconst (v := nI (0)) hx hb dX1_isSame_8 (by decide) ?_
  refine lv_istore_n (lv' := [(3, .int (nI (0))), (0, .ref (gA g 0)), (1, .int (nI (a))), (2, .int (nI (b)))]) hx hb dX1_isSame_9 rfl hl (by decide) rfl (fun ls hl => ?_)
  have loop : ∀ (n i : Nat), i ≤ 16 → 16 + 1 ≤ i + n → (∀ j, j < i → R a j = R b j) → ∀ (H : Heap) (locs : List Loc) (ls : Array Slot), Iv g (R, B, M, O) s H locs → lv_has ls 4 [(0, .ref (gA g 0)), (1, .int (nI (a))), (2, .int (nI (b))), (3, .int (nI (i)))] → W p l e (rmX 7 110 5 30) s m [.ref (gA g 0), .int ((nI a)), .int ((nI b))].toArray below meth c H locs 5 30 (vx_MQ below (Qs g (fun v' u' => u' = (R, B, M, O) ∧ ∃ a_ b_ : Nat, a_ < 48 ∧ b_ < 48 ∧ (nI a) = nI a_ ∧ (nI b) = nI b_ ∧ v' = some (.int (bI (pB (∀ j, j < 16 → R a_ j = R b_ j)))))) (Xq g (R, B, M, O) (fun E0 => (E0 = sIO ∧ ¬ (okI 48 (nI a) ∧ okI 48 (nI b))))) [.ref (gA g 0), .int ((nI a)), .int ((nI b))].toArray s 5 30 (gW g)) (F0 m 10 ls []) := by
    intro n
    induction n with
    | zero => intro i h1 h2; exact absurd h2 (by omega)
    | succ n ih =>
      intro i hi hn hz H locs ls I hl
      refine lv_iload_n hx hb dX1_isSame_10 rfl (lv_at hl 3 rfl) ?_
      refine lv_bipush (v := nI (16)) hx hb dX1_isSame_11 (by decide) ?_
      refine n_cge (tgt := 44) hx hb (by omega) (by omega) dX1_isSame_13 (by decide) (fun h1 => ?_) (fun h1 => ?_)
      · refine lv_iconst (v := nI (1)) hx hb dX1_isSame_44 (by decide) ?_
        exact y_zret hx hb hr hk F I (by decide +kernel) (by decide) (by decide) ⟨rfl, a, b, lt_a, lt_b, rfl, rfl, by rw [pB_t (fun j hj => hz j (by omega))]; rfl⟩ dX1_isSame_45
      · refine lv_aload_n hx hb dX1_isSame_16 rfl (lv_at hl 0 rfl) ?_
        refine x_get 0 1 0 (C := RX1) (T := TX1) (N := 6) (v := .ref (gA g 1)) E F I inw_X1_isSame_X1 (by decide) rfl rfl (by decide) wm_X1_isSame_f11 rfl dX1_isSame_17 ?_
        refine lv_iload_n hx hb dX1_isSame_20 rfl (lv_at hl 1 rfl) ?_
        refine x_aaload hx hb F I (by omega) dX1_isSame_21 ?_
        refine lv_iload_n hx hb dX1_isSame_22 rfl (lv_at hl 3 rfl) ?_
        refine x_laload (k := a) (i := i) hx hb F I (by omega) (by omega) dX1_isSame_23 ?_
        refine lv_aload_n hx hb dX1_isSame_24 rfl (lv_at hl 0 rfl) ?_
        refine x_get 0 1 0 (C := RX1) (T := TX1) (N := 6) (v := .ref (gA g 1)) E F I inw_X1_isSame_X1 (by decide) rfl rfl (by decide) wm_X1_isSame_f11 rfl dX1_isSame_25 ?_
        refine lv_iload_n hx hb dX1_isSame_28 rfl (lv_at hl 2 rfl) ?_
        refine x_aaload hx hb F I (by omega) dX1_isSame_29 ?_
        refine lv_iload_n hx hb dX1_isSame_30 rfl (lv_at hl 3 rfl) ?_
        refine x_laload (k := b) (i := i) hx hb F I (by omega) (by omega) dX1_isSame_31 ?_
        refine n_leq (tgt := 38) hx hb dX1_isSame_32 dX1_isSame_33 (by decide) (fun h2 => ?_) (fun h2 => ?_)
        · refine n_iinc (d := 1) (lv' := [(3, .int (nI (i + 1))), (0, .ref (gA g 0)), (1, .int (nI (a))), (2, .int (nI (b)))]) hx hb dX1_isSame_38 rfl hl (j := 3) rfl (by decide) rfl (fun ls hl => ?_)
          refine lv_goto (tgt := 10) hx hb dX1_isSame_41 (by decide) ?_
          exact ih (i + 1) (by omega) (by omega) (fun j hj => by rcases Nat.lt_or_ge j i with q | q; exact hz j q; rw [show j = i by omega]; assumption) _ _ ls (I) (lv_sub hl [1, 2, 3, 0] rfl)
        · refine lv_iconst (v := nI (0)) hx hb dX1_isSame_36 (by decide) ?_
          exact y_zret hx hb hr hk F I (by decide +kernel) (by decide) (by decide) ⟨rfl, a, b, lt_a, lt_b, rfl, rfl, by rw [pB_f (fun q => h2 (q i (by omega)))]; rfl⟩ dX1_isSame_37
  exact loop (16 + 1 - 0) (0) (by omega) (by omega) (fun j hj => absurd hj (Nat.not_lt_zero j)) _ _ ls (I) (lv_sub hl [1, 2, 3, 0] rfl)
theorem hd_X1_isSame : yX1_isSame.cls ≠ "java/lang/invoke/MethodHandle" ∧ yX1_isSame.cls ≠ "java/lang/invoke/VarHandle" ∧ (parseMethodDescriptor yX1_isSame.desc).map (fun d => d.parameters.length) = some 2 := by decide +kernel
theorem wm_X1_truth_f11 : Cond.fieldLink RX1 11 "FunctionDesk" "slots" "[[J" ∈ wsX1_truth := by decide +kernel
theorem inw_X1_truth_X1 : ∀ w ∈ wsX10, w ∈ wsX1_truth := by decide +kernel
set_option maxHeartbeats 4000000 in
set_option maxRecDepth 100000 in
theorem c_truth (l : Launch) (hl0 : l.stackTraces = false) (g : Geo) (R : Nat → Nat → Int64) (B : Rul) (M : Mod) (O : Nat → Int64) (x1 : Int32) (x2 : Int32) : Xs l g yX1_truth wsX1_truth (rmX 7 110 5 30) [.ref (gA g 0), .int (x1), .int (x2)] (R, B, M, O) (fun v' u' => u' = (R, B, M, O) ∧ ∃ a_ k_ : Nat, a_ < 48 ∧ k_ < 1024 ∧ x1 = nI a_ ∧ x2 = nI k_ ∧ v' = some (.int (bI (pB (ush (R a_ (k_ / 64)) (k_ % 64) &&& 1 ≠ 0))))) (fun E0 => (E0 = sIO ∧ ¬ (okI 48 x1)) ∨ (E0 = sIA ∧ (okI 48 x1) ∧ ¬ (okI 1024 x2))) 5 30 := by
  refine Xs.ofW RX1 rfl (by decide) rfl (Nat.le_of_ble_eq_true rfl) ?_
  intro p e s m below meth c E hr hk ht F I ls hl
  have hx := E.1
  have hb := E.2.1
  have hl : lv_has ls 3 [(0, .ref (gA g 0)), (1, .int (x1)), (2, .int (x2))] := hl
  refine lv_iload_n hx hb dX1_truth_0 rfl (lv_at hl 1 rfl) ?_
  refine z_check (rest := []) E F I (c_checkSlot l hl0 g R B M O x1) gX1_truth_X1_checkSlot rfl hd_X1_checkSlot rfl rfl ⟨by decide, by decide⟩ ⟨by decide, by decide⟩ rfl hl.1 rfl (Nat.le_of_ble_eq_true rfl) dX1_truth_1 (fun E0 ce q9 H locs hxc I h1 h2 h3 => ?_) (fun hok H locs I => ?_)
  · exact y_out ht hk I h1 h2 h3 (Or.inl ⟨hxc.1, fun q => hxc.2 q⟩) (by decide) (by decide)
  obtain ⟨a, lt_a, rfl⟩ := hok
  have hl : lv_has ls 3 [(0, .ref (gA g 0)), (1, .int (nI (a))), (2, .int (x2))] := hl
  refine lv_iload_n hx hb dX1_truth_4 rfl (lv_at hl 2 rfl) ?_
  refine z_check (rest := []) E F I (c_checkPoint l hl0 g R B M O x2) gX1_truth_X1_checkPoint rfl hd_X1_checkPoint rfl rfl ⟨by decide, by decide⟩ ⟨by decide, by decide⟩ rfl hl.1 rfl (Nat.le_of_ble_eq_true rfl) dX1_truth_5 (fun E0 ce q9 H locs hxc I h1 h2 h3 => ?_) (fun hok H locs I => ?_)
  · exact y_out ht hk I h1 h2 h3 (Or.inr ⟨hxc.1, ⟨a, lt_a, rfl⟩, fun q => hxc.2 q⟩) (by decide) (by decide)
  obtain ⟨k, lt_k, rfl⟩ := hok
  have hl : lv_has ls 3 [(0, .ref (gA g 0)), (1, .int (nI (a))), (2, .int (nI (k)))] := hl
  refine lv_aload_n hx hb dX1_truth_8 rfl (lv_at hl 0 rfl) ?_
  refine x_get 0 1 0 (C := RX1) (T := TX1) (N := 6) (v := .ref (gA g 1)) E F I inw_X1_truth_X1 (by decide) rfl rfl (by decide) wm_X1_truth_f11 rfl dX1_truth_9 ?_
  refine lv_iload_n hx hb dX1_truth_12 rfl (lv_at hl 1 rfl) ?_
  refine x_aaload hx hb F I (by omega) dX1_truth_13 ?_
  refine lv_iload_n hx hb dX1_truth_14 rfl (lv_at hl 2 rfl) ?_
  refine lv_bipush (v := nI (64)) hx hb dX1_truth_15 (by decide) ?_
  refine n_idiv hx hb (by omega) (by omega) (by omega) dX1_truth_17 ?_
  refine x_laload (k := a) (i := (k) / (64)) hx hb F I (by omega) (by omega) dX1_truth_18 ?_
  refine lv_iload_n hx hb dX1_truth_19 rfl (lv_at hl 2 rfl) ?_
  refine lv_bipush (v := nI (64)) hx hb dX1_truth_20 (by decide) ?_
  refine n_irem hx hb (by omega) (by omega) (by omega) dX1_truth_22 ?_
  refine n_lushr hx hb dX1_truth_23 ?_
  refine lv_lconst (v := 1) hx hb dX1_truth_24 (by decide) ?_
  refine lv_land hx hb dX1_truth_25 ?_
  refine lv_lconst (v := 0) hx hb dX1_truth_26 (by decide) ?_
  refine n_leq (tgt := 35) hx hb dX1_truth_27 dX1_truth_28 (by decide) (fun h1 => ?_) (fun h1 => ?_)
  · refine lv_iconst (v := nI (0)) hx hb dX1_truth_35 (by decide) ?_
    exact y_zret hx hb hr hk F I (by decide +kernel) (by decide) (by decide) ⟨rfl, a, k, lt_a, lt_k, rfl, rfl, by rw [pB_f (fun q => q h1)]; rfl⟩ dX1_truth_36
  · refine lv_iconst (v := nI (1)) hx hb dX1_truth_31 (by decide) ?_
    refine lv_goto (tgt := 36) hx hb dX1_truth_32 (by decide) ?_
    exact y_zret hx hb hr hk F I (by decide +kernel) (by decide) (by decide) ⟨rfl, a, k, lt_a, lt_k, rfl, rfl, by rw [pB_t h1]; rfl⟩ dX1_truth_36
theorem hd_X1_truth : yX1_truth.cls ≠ "java/lang/invoke/MethodHandle" ∧ yX1_truth.cls ≠ "java/lang/invoke/VarHandle" ∧ (parseMethodDescriptor yX1_truth.desc).map (fun d => d.parameters.length) = some 2 := by decide +kernel
theorem wm_X1_depends_f11 : Cond.fieldLink RX1 11 "FunctionDesk" "slots" "[[J" ∈ wsX1_depends := by decide +kernel
theorem inw_X1_depends_X1 : ∀ w ∈ wsX10, w ∈ wsX1_depends := by decide +kernel
set_option maxHeartbeats 4000000 in
set_option maxRecDepth 100000 in
theorem c_depends (l : Launch) (hl0 : l.stackTraces = false) (g : Geo) (R : Nat → Nat → Int64) (B : Rul) (M : Mod) (O : Nat → Int64) (x1 : Int32) : Xs l g yX1_depends wsX1_depends (rmX 7 110 5 30) [.ref (gA g 0), .int (x1)] (R, B, M, O) (fun v' u' => u' = (R, B, M, O) ∧ ∃ a_ : Nat, a_ < 48 ∧ x1 = nI a_ ∧ v' = some (.int (nI (dps (R a_) 10)))) (fun E0 => (E0 = sIO ∧ ¬ (okI 48 x1))) 5 30 := by
  refine Xs.ofW RX1 rfl (by decide) rfl (Nat.le_of_ble_eq_true rfl) ?_
  intro p e s m below meth c E hr hk ht F I ls hl
  have hx := E.1
  have hb := E.2.1
  have hl : lv_has ls 4 [(0, .ref (gA g 0)), (1, .int (x1))] := hl
  refine lv_iload_n hx hb dX1_depends_0 rfl (lv_at hl 1 rfl) ?_
  refine z_check (rest := []) E F I (c_checkSlot l hl0 g R B M O x1) gX1_depends_X1_checkSlot rfl hd_X1_checkSlot rfl rfl ⟨by decide, by decide⟩ ⟨by decide, by decide⟩ rfl hl.1 rfl (Nat.le_of_ble_eq_true rfl) dX1_depends_1 (fun E0 ce q9 H locs hxc I h1 h2 h3 => ?_) (fun hok H locs I => ?_)
  · exact y_out ht hk I h1 h2 h3 (⟨hxc.1, fun q => hxc.2 q⟩) (by decide) (by decide)
  obtain ⟨a, lt_a, rfl⟩ := hok
  have hl : lv_has ls 4 [(0, .ref (gA g 0)), (1, .int (nI (a)))] := hl
  refine W.widen (k := 5) (n := 30) (by decide) (by decide) ?_
  refine lv_iconst (v := nI (0)) hx hb dX1_depends_4 (by decide) ?_
  refine lv_istore_n (lv' := [(2, .int (nI (0))), (0, .ref (gA g 0)), (1, .int (nI (a)))]) hx hb dX1_depends_5 rfl hl (by decide) rfl (fun ls hl => ?_)
  refine lv_iconst (v := nI (0)) hx hb dX1_depends_6 (by decide) ?_
  refine lv_istore_n (lv' := [(3, .int (nI (0))), (2, .int (nI (0))), (0, .ref (gA g 0)), (1, .int (nI (a)))]) hx hb dX1_depends_7 rfl hl (by decide) rfl (fun ls hl => ?_)
  have loop : ∀ (n i : Nat), i ≤ 10 → 10 + 1 ≤ i + n → ∀ (H : Heap) (locs : List Loc) (ls : Array Slot), Iv g (R, B, M, O) s H locs → lv_has ls 4 [(0, .ref (gA g 0)), (1, .int (nI (a))), (2, .int (nI (dps (R a) (i)))), (3, .int (nI (i)))] → W p l e (rmX 7 110 5 30) s m [.ref (gA g 0), .int ((nI a))].toArray below meth c H locs 5 30 (vx_MQ below (Qs g (fun v' u' => u' = (R, B, M, O) ∧ ∃ a_ : Nat, a_ < 48 ∧ (nI a) = nI a_ ∧ v' = some (.int (nI (dps (R a_) 10))))) (Xq g (R, B, M, O) (fun E0 => (E0 = sIO ∧ ¬ (okI 48 (nI a))))) [.ref (gA g 0), .int ((nI a))].toArray s 5 30 (gW g)) (F0 m 8 ls []) := by
    intro n
    induction n with
    | zero => intro i h1 h2; exact absurd h2 (by omega)
    | succ n ih =>
      intro i hi hn H locs ls I hl
      refine lv_iload_n hx hb dX1_depends_8 rfl (lv_at hl 3 rfl) ?_
      refine lv_bipush (v := nI (10)) hx hb dX1_depends_9 (by decide) ?_
      refine n_cge (tgt := 40) hx hb (by omega) (by omega) dX1_depends_11 (by decide) (fun h1 => ?_) (fun h1 => ?_)
      · obtain rfl : i = 10 := by omega
        have hl : lv_has ls 4 [(0, .ref (gA g 0)), (1, .int (nI (a))), (2, .int (nI (dps (R a) (10)))), (3, .int (nI (10)))] := hl
        refine lv_iload_n hx hb dX1_depends_40 rfl (lv_at hl 2 rfl) ?_
        exact y_iret hx hb hr hk F I (by decide) (by decide) ⟨rfl, a, lt_a, rfl, rfl⟩ dX1_depends_41
      · refine lv_aload_n hx hb dX1_depends_14 rfl (lv_at hl 0 rfl) ?_
        refine x_get 0 1 0 (C := RX1) (T := TX1) (N := 6) (v := .ref (gA g 1)) E F I inw_X1_depends_X1 (by decide) rfl rfl (by decide) wm_X1_depends_f11 rfl dX1_depends_15 ?_
        refine lv_iload_n hx hb dX1_depends_18 rfl (lv_at hl 1 rfl) ?_
        refine x_aaload hx hb F I (by omega) dX1_depends_19 ?_
        refine lv_iload_n hx hb dX1_depends_20 rfl (lv_at hl 3 rfl) ?_
        refine x_callSi (rest := []) E F I (c_changesWith l g R B M O (k := a) (v := i) (by omega) (by omega)) gX1_depends_X1_changesWith rfl hd_X1_changesWith rfl rfl ⟨by decide, by decide⟩ ⟨by decide, by decide⟩ rfl hl.1 rfl (Nat.le_of_ble_eq_true rfl) dX1_depends_21 (fun H locs I => ?_)
        refine n_zeq (tgt := 34) hx hb dX1_depends_24 (by decide) (fun h2 => ?_) (fun h2 => ?_)
        · refine n_iinc (d := 1) (lv' := [(3, .int (nI (i + 1))), (0, .ref (gA g 0)), (1, .int (nI (a))), (2, .int (nI (dps (R a) (i))))]) hx hb dX1_depends_34 rfl hl (j := 3) rfl (by decide) rfl (fun ls hl => ?_)
          have hl : lv_has ls 4 [(3, .int (nI (i + 1))), (0, .ref (gA g 0)), (1, .int (nI (a))), (2, .int (nI (dps (R a) (i + 1))))] := by
            rw [show dps (R a) (i + 1) = dps (R a) (i) from by simp only [dps, h2, if_true, if_false, Bool.false_eq_true]]
            exact hl
          refine lv_goto (tgt := 8) hx hb dX1_depends_37 (by decide) ?_
          exact ih (i + 1) (by omega) (by omega) _ _ ls (I) (lv_sub hl [1, 2, 3, 0] rfl)
        · refine lv_iload_n hx hb dX1_depends_27 rfl (lv_at hl 2 rfl) ?_
          refine lv_iload_n hx hb dX1_depends_28 rfl (lv_at hl 3 rfl) ?_
          refine x_callSi (rest := [.int (nI (dps (R a) (i)))]) E F I (c_bitOf l g R B M O (v := i) (by omega)) gX1_depends_X1_bitOf rfl hd_X1_bitOf rfl rfl ⟨by decide, by decide⟩ ⟨by decide, by decide⟩ rfl hl.1 rfl (Nat.le_of_ble_eq_true rfl) dX1_depends_29 (fun H locs I => ?_)
          refine n_ior hx hb dX1_depends_32 ?_
          refine lv_istore_n (lv' := [(2, .int (nI ((dps (R a) (i)) ||| (bitN (i))))), (0, .ref (gA g 0)), (1, .int (nI (a))), (3, .int (nI (i)))]) hx hb dX1_depends_33 rfl hl (by decide) rfl (fun ls hl => ?_)
          refine n_iinc (d := 1) (lv' := [(3, .int (nI (i + 1))), (2, .int (nI ((dps (R a) (i)) ||| (bitN (i))))), (0, .ref (gA g 0)), (1, .int (nI (a)))]) hx hb dX1_depends_34 rfl hl (j := 3) rfl (by decide) rfl (fun ls hl => ?_)
          have hl : lv_has ls 4 [(3, .int (nI (i + 1))), (2, .int (nI (dps (R a) (i + 1)))), (0, .ref (gA g 0)), (1, .int (nI (a)))] := by
            rw [show dps (R a) (i + 1) = (dps (R a) (i)) ||| (bitN (i)) from by simp only [dps, h2, if_true, if_false, Bool.false_eq_true]]
            exact hl
          refine lv_goto (tgt := 8) hx hb dX1_depends_37 (by decide) ?_
          exact ih (i + 1) (by omega) (by omega) _ _ ls (I) (lv_sub hl [2, 3, 1, 0] rfl)
  exact loop (10 + 1 - 0) (0) (by omega) (by omega) _ _ ls (I) (lv_sub hl [2, 3, 1, 0] rfl)
theorem hd_X1_depends : yX1_depends.cls ≠ "java/lang/invoke/MethodHandle" ∧ yX1_depends.cls ≠ "java/lang/invoke/VarHandle" ∧ (parseMethodDescriptor yX1_depends.desc).map (fun d => d.parameters.length) = some 1 := by decide +kernel
