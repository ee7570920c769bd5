theorem wm_X1_fix_f14 : Cond.fieldLink RX1 14 "FunctionDesk" "made" "[J" ∈ wsX1_fix := by decide +kernel
theorem inw_X1_fix_X1 : ∀ w ∈ wsX10, w ∈ wsX1_fix := by decide +kernel
theorem wm_X1_fix_f11 : Cond.fieldLink RX1 11 "FunctionDesk" "slots" "[[J" ∈ wsX1_fix := by decide +kernel
theorem wm_X1_fix_c38 : Cond.constantLong RX1 38 (-1) ∈ wsX1_fix := by decide +kernel
set_option maxHeartbeats 4000000 in
set_option maxRecDepth 100000 in
theorem c_fix (l : Launch) (hl0 : l.stackTraces = false) (g : Geo) (R : Nat → Nat → Int64) (B : Rul) (M : Mod) (O : Nat → Int64) (x1 : Int32) (x2 : Int32) (x3 : Int32) (t : Bool) : Xs l g yX1_fix wsX1_fix (rmX 7 110 5 30) [.ref (gA g 0), .int (x1), .int (x2), .int (x3), .int (bI (t))] (R, B, M, O) (fun v' u' => v' = none ∧ ∃ s0_ a_ v_ : Nat, s0_ < 48 ∧ a_ < 48 ∧ v_ < 10 ∧ x1 = nI s0_ ∧ x2 = nI a_ ∧ x3 = nI v_ ∧ ∃ R', u' = (R', B, M, O) ∧ Upd R R' s0_ (fun i => wwd (R a_) i v_ (if t then -1 else 0))) (fun E0 => (E0 = sIO ∧ ¬ (okI 48 x1 ∧ okI 48 x2)) ∨ (E0 = sIA ∧ (okI 48 x1 ∧ okI 48 x2) ∧ ¬ (okI 10 x3))) 5 30 := by
  refine Xs.ofW RX1 rfl (by decide) rfl (Nat.le_of_ble_eq_true rfl) ?_
  intro p e s m below meth c E hr hk ht F I ls hl
  have hx := E.1
  have hb := E.2.1
  have hl : lv_has ls 6 [(0, .ref (gA g 0)), (1, .int (x1)), (2, .int (x2)), (3, .int (x3)), (4, .int (bI (t)))] := hl
  refine lv_iload_n hx hb dX1_fix_0 rfl (lv_at hl 1 rfl) ?_
  refine z_check (rest := []) E F I (c_checkSlot l hl0 g R B M O x1) gX1_fix_X1_checkSlot rfl hd_X1_checkSlot rfl rfl ⟨by decide, by decide⟩ ⟨by decide, by decide⟩ rfl hl.1 rfl (Nat.le_of_ble_eq_true rfl) dX1_fix_1 (fun E0 ce q9 H locs hxc I h1 h2 h3 => ?_) (fun hok H locs I => ?_)
  · exact y_out ht hk I h1 h2 h3 (Or.inl ⟨hxc.1, fun q => hxc.2 q.1⟩) (by decide) (by decide)
  obtain ⟨s0, lt_s0, rfl⟩ := hok
  have hl : lv_has ls 6 [(0, .ref (gA g 0)), (1, .int (nI (s0))), (2, .int (x2)), (3, .int (x3)), (4, .int (bI (t)))] := hl
  refine lv_iload_n hx hb dX1_fix_4 rfl (lv_at hl 2 rfl) ?_
  refine z_check (rest := []) E F I (c_checkSlot l hl0 g R B M O x2) gX1_fix_X1_checkSlot rfl hd_X1_checkSlot rfl rfl ⟨by decide, by decide⟩ ⟨by decide, by decide⟩ rfl hl.1 rfl (Nat.le_of_ble_eq_true rfl) dX1_fix_5 (fun E0 ce q9 H locs hxc I h1 h2 h3 => ?_) (fun hok H locs I => ?_)
  · exact y_out ht hk I h1 h2 h3 (Or.inl ⟨hxc.1, fun q => hxc.2 q.2⟩) (by decide) (by decide)
  obtain ⟨a, lt_a, rfl⟩ := hok
  have hl : lv_has ls 6 [(0, .ref (gA g 0)), (1, .int (nI (s0))), (2, .int (nI (a))), (3, .int (x3)), (4, .int (bI (t)))] := hl
  refine lv_iload_n hx hb dX1_fix_8 rfl (lv_at hl 3 rfl) ?_
  refine z_check (rest := []) E F I (c_checkVariable l hl0 g R B M O x3) gX1_fix_X1_checkVariable rfl hd_X1_checkVariable rfl rfl ⟨by decide, by decide⟩ ⟨by decide, by decide⟩ rfl hl.1 rfl (Nat.le_of_ble_eq_true rfl) dX1_fix_9 (fun E0 ce q9 H locs hxc I h1 h2 h3 => ?_) (fun hok H locs I => ?_)
  · exact y_out ht hk I h1 h2 h3 (Or.inr ⟨hxc.1, ⟨⟨s0, lt_s0, rfl⟩, ⟨a, lt_a, rfl⟩⟩, fun q => hxc.2 q⟩) (by decide) (by decide)
  obtain ⟨v, lt_v, rfl⟩ := hok
  have hl : lv_has ls 6 [(0, .ref (gA g 0)), (1, .int (nI (s0))), (2, .int (nI (a))), (3, .int (nI (v))), (4, .int (bI (t)))] := hl
  refine W.widen (k := 5) (n := 30) (by decide) (by decide) ?_
  refine lv_iconst (v := nI (0)) hx hb dX1_fix_12 (by decide) ?_
  refine lv_istore (lv' := [(5, .int (nI (0))), (0, .ref (gA g 0)), (1, .int (nI (s0))), (2, .int (nI (a))), (3, .int (nI (v))), (4, .int (bI (t)))]) hx hb dX1_fix_13 hl (by decide) rfl (fun ls hl => ?_)
  have loop : ∀ (n i : Nat), i ≤ 16 → 16 + 1 ≤ i + n → ∀ (H : Heap) (locs : List Loc) (ls : Array Slot), Iv g (bld R 48 (fun i => wwd (R a) i v (if t then -1 else 0)) (i), B, M, O) s H locs → lv_has ls 6 [(0, .ref (gA g 0)), (1, .int (nI (s0))), (2, .int (nI (a))), (3, .int (nI (v))), (4, .int (bI (t))), (5, .int (nI (i)))] → W p l e (rmX 7 110 5 30) s m [.ref (gA g 0), .int ((nI s0)), .int ((nI a)), .int ((nI v)), .int (bI (t))].toArray below meth c H locs 5 30 (vx_MQ below (Qs g (fun v' u' => v' = none ∧ ∃ s0_ a_ v_ : Nat, s0_ < 48 ∧ a_ < 48 ∧ v_ < 10 ∧ (nI s0) = nI s0_ ∧ (nI a) = nI a_ ∧ (nI v) = nI v_ ∧ ∃ R', u' = (R', B, M, O) ∧ Upd R R' s0_ (fun i => wwd (R a_) i v_ (if t then -1 else 0)))) (Xq g (R, B, M, O) (fun E0 => (E0 = sIO ∧ ¬ (okI 48 (nI s0) ∧ okI 48 (nI a))) ∨ (E0 = sIA ∧ (okI 48 (nI s0) ∧ okI 48 (nI a)) ∧ ¬ (okI 10 (nI v))))) [.ref (gA g 0), .int ((nI s0)), .int ((nI a)), .int ((nI v)), .int (bI (t))].toArray s 5 30 (gW g)) (F0 m 15 ls []) := by
    intro n
    induction n with
    | zero => intro i h1 h2; exact absurd h2 (by omega)
    | succ n ih =>
      intro i hi hn H locs ls I hl
      refine lv_iload hx hb dX1_fix_15 (lv_at hl 5 rfl) ?_
      refine lv_bipush (v := nI (16)) hx hb dX1_fix_17 (by decide) ?_
      refine n_cge (tgt := 59) hx hb (by omega) (by omega) dX1_fix_19 (by decide) (fun h1 => ?_) (fun h1 => ?_)
      · obtain rfl : i = 16 := by omega
        have hl : lv_has ls 6 [(0, .ref (gA g 0)), (1, .int (nI (s0))), (2, .int (nI (a))), (3, .int (nI (v))), (4, .int (bI (t))), (5, .int (nI (16)))] := hl
        refine lv_aload_n hx hb dX1_fix_59 rfl (lv_at hl 0 rfl) ?_
        refine x_get 0 1 1 (C := RX1) (T := TX1) (N := 6) (v := .ref (gA g 58)) E F I inw_X1_fix_X1 (by decide) rfl rfl (by decide) wm_X1_fix_f14 rfl dX1_fix_60 ?_
        refine lv_aload_n hx hb dX1_fix_63 rfl (lv_at hl 0 rfl) ?_
        refine x_get 0 1 0 (C := RX1) (T := TX1) (N := 6) (v := .ref (gA g 1)) E F I inw_X1_fix_X1 (by decide) rfl rfl (by decide) wm_X1_fix_f11 rfl dX1_fix_64 ?_
        refine lv_iload_n hx hb dX1_fix_67 rfl (lv_at hl 1 rfl) ?_
        refine x_aaload hx hb F I (by omega) dX1_fix_68 ?_
        refine x_callSv (rest := []) E F I (c_copyRow l g (bld R 48 (fun i => wwd (R a) i v (if t then -1 else 0)) 16) B M O (k := 48) (j := s0) (by omega) (by omega)) gX1_fix_X1_copyRow rfl hd_X1_copyRow rfl rfl ⟨by decide, by decide⟩ ⟨by decide, by decide⟩ rfl hl.1 rfl (Nat.le_of_ble_eq_true rfl) dX1_fix_69 (fun H locs I => ?_)
        exact y_vret hx hb hr hk F I (by decide) (by decide) ⟨rfl, s0, a, v, lt_s0, lt_a, lt_v, rfl, rfl, rfl, _, rfl, upd_cpy (fun i h => bld_k h) (fun k hk i h => by rw [bld_ne (by omega)])⟩ dX1_fix_72
      · refine lv_aload_n hx hb dX1_fix_22 rfl (lv_at hl 0 rfl) ?_
        refine x_get 0 1 1 (C := RX1) (T := TX1) (N := 6) (v := .ref (gA g 58)) E F I inw_X1_fix_X1 (by decide) rfl rfl (by decide) wm_X1_fix_f14 rfl dX1_fix_23 ?_
        refine lv_iload hx hb dX1_fix_26 (lv_at hl 5 rfl) ?_
        refine lv_aload_n hx hb dX1_fix_28 rfl (lv_at hl 0 rfl) ?_
        refine x_get 0 1 0 (C := RX1) (T := TX1) (N := 6) (v := .ref (gA g 1)) E F I inw_X1_fix_X1 (by decide) rfl rfl (by decide) wm_X1_fix_f11 rfl dX1_fix_29 ?_
        refine lv_iload_n hx hb dX1_fix_32 rfl (lv_at hl 2 rfl) ?_
        refine x_aaload hx hb F I (by omega) dX1_fix_33 ?_
        refine lv_iload hx hb dX1_fix_34 (lv_at hl 5 rfl) ?_
        refine lv_iload_n hx hb dX1_fix_36 rfl (lv_at hl 3 rfl) ?_
        refine lv_iload hx hb dX1_fix_37 (lv_at hl 4 rfl) ?_
        refine n_zeq (tgt := 48) hx hb dX1_fix_39 (by decide) (fun h2 => ?_) (fun h2 => ?_)
        · refine lv_lconst (v := 0) hx hb dX1_fix_48 (by decide) ?_
          refine x_callSl (rest := [.int (nI (i)), .ref (gA g 58)]) E F I (c_wordWith l g (bld R 48 (fun i => wwd (R a) i v (if t then -1 else 0)) (i)) B M O (k := a) (i := i) (v := v) (t := 0) (by omega) (by omega) (by omega)) gX1_fix_X1_wordWith rfl hd_X1_wordWith rfl rfl ⟨by decide, by decide⟩ ⟨by decide, by decide⟩ rfl hl.1 rfl (Nat.le_of_ble_eq_true rfl) dX1_fix_49 (fun H locs I => ?_)
          refine x_lastore (k := 48) (i := i) hx hb F I (by omega) (by omega) dX1_fix_52 (fun H locs I => ?_)
          refine n_iinc (d := 1) (lv' := [(5, .int (nI (i + 1))), (0, .ref (gA g 0)), (1, .int (nI (s0))), (2, .int (nI (a))), (3, .int (nI (v))), (4, .int (bI (t)))]) hx hb dX1_fix_53 rfl hl (j := 5) rfl (by decide) rfl (fun ls hl => ?_)
          refine lv_goto (tgt := 15) hx hb dX1_fix_56 (by decide) ?_
          exact ih (i + 1) (by omega) (by omega) _ _ ls (bld_step (by rw [bld_ne (by omega)]; simp [*]) I) (lv_sub hl [1, 2, 3, 4, 5, 0] rfl)
        · refine lv_ldc2 (v := -1) hx hb E.2.2.2.1 (E.2.2.2.2 _ wm_X1_fix_c38) dX1_fix_42 ?_
          refine lv_goto (tgt := 49) hx hb dX1_fix_45 (by decide) ?_
          refine x_callSl (rest := [.int (nI (i)), .ref (gA g 58)]) E F I (c_wordWith l g (bld R 48 (fun i => wwd (R a) i v (if t then -1 else 0)) (i)) B M O (k := a) (i := i) (v := v) (t := -1) (by omega) (by omega) (by omega)) gX1_fix_X1_wordWith rfl hd_X1_wordWith rfl rfl ⟨by decide, by decide⟩ ⟨by decide, by decide⟩ rfl hl.1 rfl (Nat.le_of_ble_eq_true rfl) dX1_fix_49 (fun H locs I => ?_)
          refine x_lastore (k := 48) (i := i) hx hb F I (by omega) (by omega) dX1_fix_52 (fun H locs I => ?_)
          refine n_iinc (d := 1) (lv' := [(5, .int (nI (i + 1))), (0, .ref (gA g 0)), (1, .int (nI (s0))), (2, .int (nI (a))), (3, .int (nI (v))), (4, .int (bI (t)))]) hx hb dX1_fix_53 rfl hl (j := 5) rfl (by decide) rfl (fun ls hl => ?_)
          refine lv_goto (tgt := 15) hx hb dX1_fix_56 (by decide) ?_
          exact ih (i + 1) (by omega) (by omega) _ _ ls (bld_step (by rw [bld_ne (by omega)]; simp [*]) I) (lv_sub hl [1, 2, 3, 4, 5, 0] rfl)
  exact loop (16 + 1 - 0) (0) (by omega) (by omega) _ _ ls (bld_start I) (lv_sub hl [1, 2, 3, 4, 5, 0] rfl)
theorem hd_X1_fix : yX1_fix.cls ≠ "java/lang/invoke/MethodHandle" ∧ yX1_fix.cls ≠ "java/lang/invoke/VarHandle" ∧ (parseMethodDescriptor yX1_fix.desc).map (fun d => d.parameters.length) = some 4 := by decide +kernel
theorem wm_X1_put_f14 : Cond.fieldLink RX1 14 "FunctionDesk" "made" "[J" ∈ wsX1_put := by decide +kernel
theorem inw_X1_put_X1 : ∀ w ∈ wsX10, w ∈ wsX1_put := by decide +kernel
theorem wm_X1_put_f11 : Cond.fieldLink RX1 11 "FunctionDesk" "slots" "[[J" ∈ wsX1_put := by decide +kernel
set_option maxHeartbeats 4000000 in
set_option maxRecDepth 100000 in
theorem c_put (l : Launch) (hl0 : l.stackTraces = false) (g : Geo) (R : Nat → Nat → Int64) (B : Rul) (M : Mod) (O : Nat → Int64) (x1 : Int32) (x2 : Int32) (x3 : Int32) (x4 : Int32) : Xs l g yX1_put wsX1_put (rmX 7 110 5 30) [.ref (gA g 0), .int (x1), .int (x2), .int (x3), .int (x4)] (R, B, M, O) (fun v' u' => v' = none ∧ ∃ s0_ a_ v_ b_ : Nat, s0_ < 48 ∧ a_ < 48 ∧ v_ < 10 ∧ b_ < 48 ∧ x1 = nI s0_ ∧ x2 = nI a_ ∧ x3 = nI v_ ∧ x4 = nI b_ ∧ ∃ R', u' = (R', B, M, O) ∧ Upd R R' s0_ (fun i => wwd (R a_) i v_ (R b_ i))) (fun E0 => (E0 = sIO ∧ ¬ (okI 48 x1 ∧ okI 48 x2 ∧ okI 48 x4)) ∨ (E0 = sIA ∧ (okI 48 x1 ∧ okI 48 x2 ∧ okI 48 x4) ∧ ¬ (okI 10 x3))) 5 30 := by
  refine Xs.ofW RX1 rfl (by decide) rfl (Nat.le_of_ble_eq_true rfl) ?_
  intro p e s m below meth c E hr hk ht F I ls hl
  have hx := E.1
  have hb := E.2.1
  have hl : lv_has ls 6 [(0, .ref (gA g 0)), (1, .int (x1)), (2, .int (x2)), (3, .int (x3)), (4, .int (x4))] := hl
  refine lv_iload_n hx hb dX1_put_0 rfl (lv_at hl 1 rfl) ?_
  refine z_check (rest := []) E F I (c_checkSlot l hl0 g R B M O x1) gX1_put_X1_checkSlot rfl hd_X1_checkSlot rfl rfl ⟨by decide, by decide⟩ ⟨by decide, by decide⟩ rfl hl.1 rfl (Nat.le_of_ble_eq_true rfl) dX1_put_1 (fun E0 ce q9 H locs hxc I h1 h2 h3 => ?_) (fun hok H locs I => ?_)
  · exact y_out ht hk I h1 h2 h3 (Or.inl ⟨hxc.1, fun q => hxc.2 q.1⟩) (by decide) (by decide)
  obtain ⟨s0, lt_s0, rfl⟩ := hok
  have hl : lv_has ls 6 [(0, .ref (gA g 0)), (1, .int (nI (s0))), (2, .int (x2)), (3, .int (x3)), (4, .int (x4))] := hl
  refine lv_iload_n hx hb dX1_put_4 rfl (lv_at hl 2 rfl) ?_
  refine z_check (rest := []) E F I (c_checkSlot l hl0 g R B M O x2) gX1_put_X1_checkSlot rfl hd_X1_checkSlot rfl rfl ⟨by decide, by decide⟩ ⟨by decide, by decide⟩ rfl hl.1 rfl (Nat.le_of_ble_eq_true rfl) dX1_put_5 (fun E0 ce q9 H locs hxc I h1 h2 h3 => ?_) (fun hok H locs I => ?_)
  · exact y_out ht hk I h1 h2 h3 (Or.inl ⟨hxc.1, fun q => hxc.2 q.2.1⟩) (by decide) (by decide)
  obtain ⟨a, lt_a, rfl⟩ := hok
  have hl : lv_has ls 6 [(0, .ref (gA g 0)), (1, .int (nI (s0))), (2, .int (nI (a))), (3, .int (x3)), (4, .int (x4))] := hl
  refine lv_iload hx hb dX1_put_8 (lv_at hl 4 rfl) ?_
  refine z_check (rest := []) E F I (c_checkSlot l hl0 g R B M O x4) gX1_put_X1_checkSlot rfl hd_X1_checkSlot rfl rfl ⟨by decide, by decide⟩ ⟨by decide, by decide⟩ rfl hl.1 rfl (Nat.le_of_ble_eq_true rfl) dX1_put_10 (fun E0 ce q9 H locs hxc I h1 h2 h3 => ?_) (fun hok H locs I => ?_)
  · exact y_out ht hk I h1 h2 h3 (Or.inl ⟨hxc.1, fun q => hxc.2 q.2.2⟩) (by decide) (by decide)
  obtain ⟨b, lt_b, rfl⟩ := hok
  have hl : lv_has ls 6 [(0, .ref (gA g 0)), (1, .int (nI (s0))), (2, .int (nI (a))), (3, .int (x3)), (4, .int (nI (b)))] := hl
  refine lv_iload_n hx hb dX1_put_13 rfl (lv_at hl 3 rfl) ?_
  refine z_check (rest := []) E F I (c_checkVariable l hl0 g R B M O x3) gX1_put_X1_checkVariable rfl hd_X1_checkVariable rfl rfl ⟨by decide, by decide⟩ ⟨by decide, by decide⟩ rfl hl.1 rfl (Nat.le_of_ble_eq_true rfl) dX1_put_14 (fun E0 ce q9 H locs hxc I h1 h2 h3 => ?_) (fun hok H locs I => ?_)
  · exact y_out ht hk I h1 h2 h3 (Or.inr ⟨hxc.1, ⟨⟨s0, lt_s0, rfl⟩, ⟨a, lt_a, rfl⟩, ⟨b, lt_b, rfl⟩⟩, fun q => hxc.2 q⟩) (by decide) (by decide)
  obtain ⟨v, lt_v, rfl⟩ := hok
  have hl : lv_has ls 6 [(0, .ref (gA g 0)), (1, .int (nI (s0))), (2, .int (nI (a))), (3, .int (nI (v))), (4, .int (nI (b)))] := hl
  refine W.widen (k := 5) (n := 30) (by decide) (by decide) ?_
  refine lv_iconst (v := nI (0)) hx hb dX1_put_17 (by decide) ?_
  refine lv_istore (lv' := [(5, .int (nI (0))), (0, .ref (gA g 0)), (1, .int (nI (s0))), (2, .int (nI (a))), (3, .int (nI (v))), (4, .int (nI (b)))]) hx hb dX1_put_18 hl (by decide) rfl (fun ls hl => ?_)
  have loop : ∀ (n i : Nat), i ≤ 16 → 16 + 1 ≤ i + n → ∀ (H : Heap) (locs : List Loc) (ls : Array Slot), Iv g (bld R 48 (fun i => wwd (R a) i v (R b i)) (i), B, M, O) s H locs → lv_has ls 6 [(0, .ref (gA g 0)), (1, .int (nI (s0))), (2, .int (nI (a))), (3, .int (nI (v))), (4, .int (nI (b))), (5, .int (nI (i)))] → W p l e (rmX 7 110 5 30) s m [.ref (gA g 0), .int ((nI s0)), .int ((nI a)), .int ((nI v)), .int ((nI b))].toArray below meth c H locs 5 30 (vx_MQ below (Qs g (fun v' u' => v' = none ∧ ∃ s0_ a_ v_ b_ : Nat, s0_ < 48 ∧ a_ < 48 ∧ v_ < 10 ∧ b_ < 48 ∧ (nI s0) = nI s0_ ∧ (nI a) = nI a_ ∧ (nI v) = nI v_ ∧ (nI b) = nI b_ ∧ ∃ R', u' = (R', B, M, O) ∧ Upd R R' s0_ (fun i => wwd (R a_) i v_ (R b_ i)))) (Xq g (R, B, M, O) (fun E0 => (E0 = sIO ∧ ¬ (okI 48 (nI s0) ∧ okI 48 (nI a) ∧ okI 48 (nI b))) ∨ (E0 = sIA ∧ (okI 48 (nI s0) ∧ okI 48 (nI a) ∧ okI 48 (nI b)) ∧ ¬ (okI 10 (nI v))))) [.ref (gA g 0), .int ((nI s0)), .int ((nI a)), .int ((nI v)), .int ((nI b))].toArray s 5 30 (gW g)) (F0 m 20 ls []) := by
    intro n
    induction n with
    | zero => intro i h1 h2; exact absurd h2 (by omega)
    | succ n ih =>
      intro i hi hn H locs ls I hl
      refine lv_iload hx hb dX1_put_20 (lv_at hl 5 rfl) ?_
      refine lv_bipush (v := nI (16)) hx hb dX1_put_22 (by decide) ?_
      refine n_cge (tgt := 62) hx hb (by omega) (by omega) dX1_put_24 (by decide) (fun h1 => ?_) (fun h1 => ?_)
      · obtain rfl : i = 16 := by omega
        have hl : lv_has ls 6 [(0, .ref (gA g 0)), (1, .int (nI (s0))), (2, .int (nI (a))), (3, .int (nI (v))), (4, .int (nI (b))), (5, .int (nI (16)))] := hl
        refine lv_aload_n hx hb dX1_put_62 rfl (lv_at hl 0 rfl) ?_
        refine x_get 0 1 1 (C := RX1) (T := TX1) (N := 6) (v := .ref (gA g 58)) E F I inw_X1_put_X1 (by decide) rfl rfl (by decide) wm_X1_put_f14 rfl dX1_put_63 ?_
        refine lv_aload_n hx hb dX1_put_66 rfl (lv_at hl 0 rfl) ?_
        refine x_get 0 1 0 (C := RX1) (T := TX1) (N := 6) (v := .ref (gA g 1)) E F I inw_X1_put_X1 (by decide) rfl rfl (by decide) wm_X1_put_f11 rfl dX1_put_67 ?_
        refine lv_iload_n hx hb dX1_put_70 rfl (lv_at hl 1 rfl) ?_
        refine x_aaload hx hb F I (by omega) dX1_put_71 ?_
        refine x_callSv (rest := []) E F I (c_copyRow l g (bld R 48 (fun i => wwd (R a) i v (R b i)) 16) B M O (k := 48) (j := s0) (by omega) (by omega)) gX1_put_X1_copyRow rfl hd_X1_copyRow rfl rfl ⟨by decide, by decide⟩ ⟨by decide, by decide⟩ rfl hl.1 rfl (Nat.le_of_ble_eq_true rfl) dX1_put_72 (fun H locs I => ?_)
        exact y_vret hx hb hr hk F I (by decide) (by decide) ⟨rfl, s0, a, v, b, lt_s0, lt_a, lt_v, lt_b, rfl, rfl, rfl, rfl, _, rfl, upd_cpy (fun i h => bld_k h) (fun k hk i h => by rw [bld_ne (by omega)])⟩ dX1_put_75
      · refine lv_aload_n hx hb dX1_put_27 rfl (lv_at hl 0 rfl) ?_
        refine x_get 0 1 1 (C := RX1) (T := TX1) (N := 6) (v := .ref (gA g 58)) E F I inw_X1_put_X1 (by decide) rfl rfl (by decide) wm_X1_put_f14 rfl dX1_put_28 ?_
        refine lv_iload hx hb dX1_put_31 (lv_at hl 5 rfl) ?_
        refine lv_aload_n hx hb dX1_put_33 rfl (lv_at hl 0 rfl) ?_
        refine x_get 0 1 0 (C := RX1) (T := TX1) (N := 6) (v := .ref (gA g 1)) E F I inw_X1_put_X1 (by decide) rfl rfl (by decide) wm_X1_put_f11 rfl dX1_put_34 ?_
        refine lv_iload_n hx hb dX1_put_37 rfl (lv_at hl 2 rfl) ?_
        refine x_aaload hx hb F I (by omega) dX1_put_38 ?_
        refine lv_iload hx hb dX1_put_39 (lv_at hl 5 rfl) ?_
        refine lv_iload_n hx hb dX1_put_41 rfl (lv_at hl 3 rfl) ?_
        refine lv_aload_n hx hb dX1_put_42 rfl (lv_at hl 0 rfl) ?_
        refine x_get 0 1 0 (C := RX1) (T := TX1) (N := 6) (v := .ref (gA g 1)) E F I inw_X1_put_X1 (by decide) rfl rfl (by decide) wm_X1_put_f11 rfl dX1_put_43 ?_
        refine lv_iload hx hb dX1_put_46 (lv_at hl 4 rfl) ?_
        refine x_aaload hx hb F I (by omega) dX1_put_48 ?_
        refine lv_iload hx hb dX1_put_49 (lv_at hl 5 rfl) ?_
        refine x_laload (k := b) (i := i) hx hb F I (by omega) (by omega) dX1_put_51 ?_
        refine x_callSl (rest := [.int (nI (i)), .ref (gA g 58)]) E F I (c_wordWith l g (bld R 48 (fun i => wwd (R a) i v (R b i)) (i)) B M O (k := a) (i := i) (v := v) (t := (bld R 48 (fun i => wwd (R a) i v (R b i)) (i)) (b) (i)) (by omega) (by omega) (by omega)) gX1_put_X1_wordWith rfl hd_X1_wordWith rfl rfl ⟨by decide, by decide⟩ ⟨by decide, by decide⟩ rfl hl.1 rfl (Nat.le_of_ble_eq_true rfl) dX1_put_52 (fun H locs I => ?_)
        refine x_lastore (k := 48) (i := i) hx hb F I (by omega) (by omega) dX1_put_55 (fun H locs I => ?_)
        refine n_iinc (d := 1) (lv' := [(5, .int (nI (i + 1))), (0, .ref (gA g 0)), (1, .int (nI (s0))), (2, .int (nI (a))), (3, .int (nI (v))), (4, .int (nI (b)))]) hx hb dX1_put_56 rfl hl (j := 5) rfl (by decide) rfl (fun ls hl => ?_)
        refine lv_goto (tgt := 20) hx hb dX1_put_59 (by decide) ?_
        exact ih (i + 1) (by omega) (by omega) _ _ ls (bld_step (by simp only [bld_here]; rw [bld_ne (by omega)]) I) (lv_sub hl [1, 2, 3, 4, 5, 0] rfl)
  exact loop (16 + 1 - 0) (0) (by omega) (by omega) _ _ ls (bld_start I) (lv_sub hl [1, 2, 3, 4, 5, 0] rfl)
theorem hd_X1_put : yX1_put.cls ≠ "java/lang/invoke/MethodHandle" ∧ yX1_put.cls ≠ "java/lang/invoke/VarHandle" ∧ (parseMethodDescriptor yX1_put.desc).map (fun d => d.parameters.length) = some 4 := by decide +kernel
theorem wm_X1_swap_f18 : Cond.fieldLink RX1 18 "FunctionDesk" "madeNext" "[J" ∈ wsX1_swap := by decide +kernel
theorem inw_X1_swap_X1 : ∀ w ∈ wsX10, w ∈ wsX1_swap := by decide +kernel
theorem wm_X1_swap_f11 : Cond.fieldLink RX1 11 "FunctionDesk" "slots" "[[J" ∈ wsX1_swap := by decide +kernel
theorem wm_X1_swap_f14 : Cond.fieldLink RX1 14 "FunctionDesk" "made" "[J" ∈ wsX1_swap := by decide +kernel
set_option maxHeartbeats 4000000 in
set_option maxRecDepth 100000 in
theorem c_swap (l : Launch) (hl0 : l.stackTraces = false) (g : Geo) (R : Nat → Nat → Int64) (B : Rul) (M : Mod) (O : Nat → Int64) (x1 : Int32) (x2 : Int32) (x3 : Int32) (x4 : Int32) : Xs l g yX1_swap wsX1_swap (rmX 7 110 5 30) [.ref (gA g 0), .int (x1), .int (x2), .int (x3), .int (x4)] (R, B, M, O) (fun v' u' => v' = none ∧ ∃ s0_ a_ v_ z_ : Nat, s0_ < 48 ∧ a_ < 48 ∧ v_ < 10 ∧ z_ < 10 ∧ x1 = nI s0_ ∧ x2 = nI a_ ∧ x3 = nI v_ ∧ x4 = nI z_ ∧ ∃ R', u' = (R', B, M, O) ∧ Upd R R' s0_ (fun i => pk3 (vwd v_ i ^^^ vwd z_ i) (twd (fun j => twd (R a_) j v_) i z_) (R a_ i))) (fun E0 => (E0 = sIO ∧ ¬ (okI 48 x1 ∧ okI 48 x2)) ∨ (E0 = sIA ∧ (okI 48 x1 ∧ okI 48 x2) ∧ ¬ (okI 10 x3 ∧ okI 10 x4))) 5 30 := by
  refine Xs.ofW RX1 rfl (by decide) rfl (Nat.le_of_ble_eq_true rfl) ?_
  intro p e s m below meth c E hr hk ht F I ls hl
  have hx := E.1
  have hb := E.2.1
  have hl : lv_has ls 8 [(0, .ref (gA g 0)), (1, .int (x1)), (2, .int (x2)), (3, .int (x3)), (4, .int (x4))] := hl
  refine lv_iload_n hx hb dX1_swap_0 rfl (lv_at hl 1 rfl) ?_
  refine z_check (rest := []) E F I (c_checkSlot l hl0 g R B M O x1) gX1_swap_X1_checkSlot rfl hd_X1_checkSlot rfl rfl ⟨by decide, by decide⟩ ⟨by decide, by decide⟩ rfl hl.1 rfl (Nat.le_of_ble_eq_true rfl) dX1_swap_1 (fun E0 ce q9 H locs hxc I h1 h2 h3 => ?_) (fun hok H locs I => ?_)
  · exact y_out ht hk I h1 h2 h3 (Or.inl ⟨hxc.1, fun q => hxc.2 q.1⟩) (by decide) (by decide)
  obtain ⟨s0, lt_s0, rfl⟩ := hok
  have hl : lv_has ls 8 [(0, .ref (gA g 0)), (1, .int (nI (s0))), (2, .int (x2)), (3, .int (x3)), (4, .int (x4))] := hl
  refine lv_iload_n hx hb dX1_swap_4 rfl (lv_at hl 2 rfl) ?_
  refine z_check (rest := []) E F I (c_checkSlot l hl0 g R B M O x2) gX1_swap_X1_checkSlot rfl hd_X1_checkSlot rfl rfl ⟨by decide, by decide⟩ ⟨by decide, by decide⟩ rfl hl.1 rfl (Nat.le_of_ble_eq_true rfl) dX1_swap_5 (fun E0 ce q9 H locs hxc I h1 h2 h3 => ?_) (fun hok H locs I => ?_)
  · exact y_out ht hk I h1 h2 h3 (Or.inl ⟨hxc.1, fun q => hxc.2 q.2⟩) (by decide) (by decide)
  obtain ⟨a, lt_a, rfl⟩ := hok
  have hl : lv_has ls 8 [(0, .ref (gA g 0)), (1, .int (nI (s0))), (2, .int (nI (a))), (3, .int (x3)), (4, .int (x4))] := hl
  refine lv_iload_n hx hb dX1_swap_8 rfl (lv_at hl 3 rfl) ?_
  refine z_check (rest := []) E F I (c_checkVariable l hl0 g R B M O x3) gX1_swap_X1_checkVariable rfl hd_X1_checkVariable rfl rfl ⟨by decide, by decide⟩ ⟨by decide, by decide⟩ rfl hl.1 rfl (Nat.le_of_ble_eq_true rfl) dX1_swap_9 (fun E0 ce q9 H locs hxc I h1 h2 h3 => ?_) (fun hok H locs I => ?_)
  · exact y_out ht hk I h1 h2 h3 (Or.inr ⟨hxc.1, ⟨⟨s0, lt_s0, rfl⟩, ⟨a, lt_a, rfl⟩⟩, fun q => hxc.2 q.1⟩) (by decide) (by decide)
  obtain ⟨v, lt_v, rfl⟩ := hok
  have hl : lv_has ls 8 [(0, .ref (gA g 0)), (1, .int (nI (s0))), (2, .int (nI (a))), (3, .int (nI (v))), (4, .int (x4))] := hl
  refine lv_iload hx hb dX1_swap_12 (lv_at hl 4 rfl) ?_
  refine z_check (rest := []) E F I (c_checkVariable l hl0 g R B M O x4) gX1_swap_X1_checkVariable rfl hd_X1_checkVariable rfl rfl ⟨by decide, by decide⟩ ⟨by decide, by decide⟩ rfl hl.1 rfl (Nat.le_of_ble_eq_true rfl) dX1_swap_14 (fun E0 ce q9 H locs hxc I h1 h2 h3 => ?_) (fun hok H locs I => ?_)
  · exact y_out ht hk I h1 h2 h3 (Or.inr ⟨hxc.1, ⟨⟨s0, lt_s0, rfl⟩, ⟨a, lt_a, rfl⟩⟩, fun q => hxc.2 q.2⟩) (by decide) (by decide)
  obtain ⟨z, lt_z, rfl⟩ := hok
  have hl : lv_has ls 8 [(0, .ref (gA g 0)), (1, .int (nI (s0))), (2, .int (nI (a))), (3, .int (nI (v))), (4, .int (nI (z)))] := hl
  refine W.widen (k := 5) (n := 30) (by decide) (by decide) ?_
  refine lv_iconst (v := nI (0)) hx hb dX1_swap_17 (by decide) ?_
  refine lv_istore (lv' := [(5, .int (nI (0))), (0, .ref (gA g 0)), (1, .int (nI (s0))), (2, .int (nI (a))), (3, .int (nI (v))), (4, .int (nI (z)))]) hx hb dX1_swap_18 hl (by decide) rfl (fun ls hl => ?_)
  have loop1 : ∀ (n i : Nat), i ≤ 16 → 16 + 1 ≤ i + n → ∀ (H : Heap) (locs : List Loc) (ls : Array Slot), Iv g (bld R 48 (fun j => twd (R a) j v) (i), B, M, O) s H locs → lv_has ls 8 [(0, .ref (gA g 0)), (1, .int (nI (s0))), (2, .int (nI (a))), (3, .int (nI (v))), (4, .int (nI (z))), (5, .int (nI (i)))] → W p l e (rmX 7 110 5 30) s m [.ref (gA g 0), .int ((nI s0)), .int ((nI a)), .int ((nI v)), .int ((nI z))].toArray below meth c H locs 5 30 (vx_MQ below (Qs g (fun v' u' => v' = none ∧ ∃ s0_ a_ v_ z_ : Nat, s0_ < 48 ∧ a_ < 48 ∧ v_ < 10 ∧ z_ < 10 ∧ (nI s0) = nI s0_ ∧ (nI a) = nI a_ ∧ (nI v) = nI v_ ∧ (nI z) = nI z_ ∧ ∃ R', u' = (R', B, M, O) ∧ Upd R R' s0_ (fun i => pk3 (vwd v_ i ^^^ vwd z_ i) (twd (fun j => twd (R a_) j v_) i z_) (R a_ i)))) (Xq g (R, B, M, O) (fun E0 => (E0 = sIO ∧ ¬ (okI 48 (nI s0) ∧ okI 48 (nI a))) ∨ (E0 = sIA ∧ (okI 48 (nI s0) ∧ okI 48 (nI a)) ∧ ¬ (okI 10 (nI v) ∧ okI 10 (nI z))))) [.ref (gA g 0), .int ((nI s0)), .int ((nI a)), .int ((nI v)), .int ((nI z))].toArray s 5 30 (gW g)) (F0 m 20 ls []) := by
    intro n
    induction n with
    | zero => intro i h1 h2; exact absurd h2 (by omega)
    | succ n ih =>
      intro i hi hn H locs ls I hl
      refine lv_iload hx hb dX1_swap_20 (lv_at hl 5 rfl) ?_
      refine lv_bipush (v := nI (16)) hx hb dX1_swap_22 (by decide) ?_
      refine n_cge (tgt := 52) hx hb (by omega) (by omega) dX1_swap_24 (by decide) (fun h1 => ?_) (fun h1 => ?_)
      · obtain rfl : i = 16 := by omega
        have hl : lv_has ls 8 [(0, .ref (gA g 0)), (1, .int (nI (s0))), (2, .int (nI (a))), (3, .int (nI (v))), (4, .int (nI (z))), (5, .int (nI (16)))] := hl
        refine lv_iconst (v := nI (0)) hx hb dX1_swap_52 (by decide) ?_
        refine lv_istore (lv' := [(5, .int (nI (0))), (0, .ref (gA g 0)), (1, .int (nI (s0))), (2, .int (nI (a))), (3, .int (nI (v))), (4, .int (nI (z)))]) hx hb dX1_swap_53 hl (by decide) rfl (fun ls hl => ?_)
        have loop2 : ∀ (n i : Nat), i ≤ 16 → 16 + 1 ≤ i + n → ∀ (H : Heap) (locs : List Loc) (ls : Array Slot), Iv g (bld (bld R 48 (fun j => twd (R a) j v) 16) 49 (fun i => pk3 (vwd v i ^^^ vwd z i) (twd (fun j => twd (R a) j v) i z) (R a i)) (i), B, M, O) s H locs → lv_has ls 8 [(0, .ref (gA g 0)), (1, .int (nI (s0))), (2, .int (nI (a))), (3, .int (nI (v))), (4, .int (nI (z))), (5, .int (nI (i)))] → W p l e (rmX 7 110 5 30) s m [.ref (gA g 0), .int ((nI s0)), .int ((nI a)), .int ((nI v)), .int ((nI z))].toArray below meth c H locs 5 30 (vx_MQ below (Qs g (fun v' u' => v' = none ∧ ∃ s0_ a_ v_ z_ : Nat, s0_ < 48 ∧ a_ < 48 ∧ v_ < 10 ∧ z_ < 10 ∧ (nI s0) = nI s0_ ∧ (nI a) = nI a_ ∧ (nI v) = nI v_ ∧ (nI z) = nI z_ ∧ ∃ R', u' = (R', B, M, O) ∧ Upd R R' s0_ (fun i => pk3 (vwd v_ i ^^^ vwd z_ i) (twd (fun j => twd (R a_) j v_) i z_) (R a_ i)))) (Xq g (R, B, M, O) (fun E0 => (E0 = sIO ∧ ¬ (okI 48 (nI s0) ∧ okI 48 (nI a))) ∨ (E0 = sIA ∧ (okI 48 (nI s0) ∧ okI 48 (nI a)) ∧ ¬ (okI 10 (nI v) ∧ okI 10 (nI z))))) [.ref (gA g 0), .int ((nI s0)), .int ((nI a)), .int ((nI v)), .int ((nI z))].toArray s 5 30 (gW g)) (F0 m 55 ls []) := by
          intro n
          induction n with
          | zero => intro i h1 h2; exact absurd h2 (by omega)
          | succ n ih =>
            intro i hi hn H locs ls I hl
            refine lv_iload hx hb dX1_swap_55 (lv_at hl 5 rfl) ?_
            refine lv_bipush (v := nI (16)) hx hb dX1_swap_57 (by decide) ?_
            refine n_cge (tgt := 116) hx hb (by omega) (by omega) dX1_swap_59 (by decide) (fun h2 => ?_) (fun h2 => ?_)
            · obtain rfl : i = 16 := by omega
              have hl : lv_has ls 8 [(0, .ref (gA g 0)), (1, .int (nI (s0))), (2, .int (nI (a))), (3, .int (nI (v))), (4, .int (nI (z))), (5, .int (nI (16)))] := hl
              refine lv_aload_n hx hb dX1_swap_116 rfl (lv_at hl 0 rfl) ?_
              refine x_get 0 1 2 (C := RX1) (T := TX1) (N := 6) (v := .ref (gA g 59)) E F I inw_X1_swap_X1 (by decide) rfl rfl (by decide) wm_X1_swap_f18 rfl dX1_swap_117 ?_
              refine lv_aload_n hx hb dX1_swap_120 rfl (lv_at hl 0 rfl) ?_
              refine x_get 0 1 0 (C := RX1) (T := TX1) (N := 6) (v := .ref (gA g 1)) E F I inw_X1_swap_X1 (by decide) rfl rfl (by decide) wm_X1_swap_f11 rfl dX1_swap_121 ?_
              refine lv_iload_n hx hb dX1_swap_124 rfl (lv_at hl 1 rfl) ?_
              refine x_aaload hx hb F I (by omega) dX1_swap_125 ?_
              refine x_callSv (rest := []) E F I (c_copyRow l g (bld (bld R 48 (fun j => twd (R a) j v) 16) 49 (fun i => pk3 (vwd v i ^^^ vwd z i) (twd (fun j => twd (R a) j v) i z) (R a i)) 16) B M O (k := 49) (j := s0) (by omega) (by omega)) gX1_swap_X1_copyRow rfl hd_X1_copyRow rfl rfl ⟨by decide, by decide⟩ ⟨by decide, by decide⟩ rfl hl.1 rfl (Nat.le_of_ble_eq_true rfl) dX1_swap_126 (fun H locs I => ?_)
              exact y_vret hx hb hr hk F I (by decide) (by decide) ⟨rfl, s0, a, v, z, lt_s0, lt_a, lt_v, lt_z, rfl, rfl, rfl, rfl, _, rfl, upd_cpy (fun i h => bld_k h) (fun k hk i h => by rw [bld_ne (by omega), bld_ne (by omega)])⟩ dX1_swap_129
            · refine lv_iload_n hx hb dX1_swap_62 rfl (lv_at hl 3 rfl) ?_
              refine lv_iload hx hb dX1_swap_63 (lv_at hl 5 rfl) ?_
              refine x_callSl (rest := []) E F I (c_variableWord l g (bld (bld R 48 (fun j => twd (R a) j v) 16) 49 (fun i => pk3 (vwd v i ^^^ vwd z i) (twd (fun j => twd (R a) j v) i z) (R a i)) (i)) B M O (v := v) (i := i) (by omega) (by omega)) gX1_swap_X1_variableWord rfl hd_X1_variableWord rfl rfl ⟨by decide, by decide⟩ ⟨by decide, by decide⟩ rfl hl.1 rfl (Nat.le_of_ble_eq_true rfl) dX1_swap_65 (fun H locs I => ?_)
              refine lv_iload hx hb dX1_swap_68 (lv_at hl 4 rfl) ?_
              refine lv_iload hx hb dX1_swap_70 (lv_at hl 5 rfl) ?_
              refine x_callSl (rest := [.long (vwd (v) (i))]) E F I (c_variableWord l g (bld (bld R 48 (fun j => twd (R a) j v) 16) 49 (fun i => pk3 (vwd v i ^^^ vwd z i) (twd (fun j => twd (R a) j v) i z) (R a i)) (i)) B M O (v := z) (i := i) (by omega) (by omega)) gX1_swap_X1_variableWord rfl hd_X1_variableWord rfl rfl ⟨by decide, by decide⟩ ⟨by decide, by decide⟩ rfl hl.1 rfl (Nat.le_of_ble_eq_true rfl) dX1_swap_72 (fun H locs I => ?_)
              refine lv_lxor hx hb dX1_swap_75 ?_
              refine lv_lstore (lv' := [(6, .long ((vwd (v) (i)) ^^^ (vwd (z) (i)))), (0, .ref (gA g 0)), (1, .int (nI (s0))), (2, .int (nI (a))), (3, .int (nI (v))), (4, .int (nI (z))), (5, .int (nI (i)))]) hx hb dX1_swap_76 hl (by decide) rfl (fun ls hl => ?_)
              refine lv_aload_n hx hb dX1_swap_78 rfl (lv_at hl 1 rfl) ?_
              refine x_get 0 1 2 (C := RX1) (T := TX1) (N := 6) (v := .ref (gA g 59)) E F I inw_X1_swap_X1 (by decide) rfl rfl (by decide) wm_X1_swap_f18 rfl dX1_swap_79 ?_
              refine lv_iload hx hb dX1_swap_82 (lv_at hl 6 rfl) ?_
              refine lv_lload hx hb dX1_swap_84 (lv_at hl 0 rfl) ?_
              refine lv_aload_n hx hb dX1_swap_86 rfl (lv_at hl 1 rfl) ?_
              refine x_get 0 1 1 (C := RX1) (T := TX1) (N := 6) (v := .ref (gA g 58)) E F I inw_X1_swap_X1 (by decide) rfl rfl (by decide) wm_X1_swap_f14 rfl dX1_swap_87 ?_
              refine lv_iload hx hb dX1_swap_90 (lv_at hl 6 rfl) ?_
              refine lv_iload hx hb dX1_swap_92 (lv_at hl 5 rfl) ?_
              refine x_callSl (rest := [.long ((vwd (v) (i)) ^^^ (vwd (z) (i))), .int (nI (i)), .ref (gA g 59)]) E F I (c_turnedWord l g (bld (bld R 48 (fun j => twd (R a) j v) 16) 49 (fun i => pk3 (vwd v i ^^^ vwd z i) (twd (fun j => twd (R a) j v) i z) (R a i)) (i)) B M O (k := 48) (i := i) (v := z) (by omega) (by omega) (by omega)) gX1_swap_X1_turnedWord rfl hd_X1_turnedWord rfl rfl ⟨by decide, by decide⟩ ⟨by decide, by decide⟩ rfl hl.1 rfl (Nat.le_of_ble_eq_true rfl) dX1_swap_94 (fun H locs I => ?_)
              refine lv_aload_n hx hb dX1_swap_97 rfl (lv_at hl 1 rfl) ?_
              refine x_get 0 1 0 (C := RX1) (T := TX1) (N := 6) (v := .ref (gA g 1)) E F I inw_X1_swap_X1 (by decide) rfl rfl (by decide) wm_X1_swap_f11 rfl dX1_swap_98 ?_
              refine lv_iload_n hx hb dX1_swap_101 rfl (lv_at hl 3 rfl) ?_
              refine x_aaload hx hb F I (by omega) dX1_swap_102 ?_
              refine lv_iload hx hb dX1_swap_103 (lv_at hl 6 rfl) ?_
              refine x_laload (k := a) (i := i) hx hb F I (by omega) (by omega) dX1_swap_105 ?_
              refine x_callSl (rest := [.int (nI (i)), .ref (gA g 59)]) E F I (c_pick l g (bld (bld R 48 (fun j => twd (R a) j v) 16) 49 (fun i => pk3 (vwd v i ^^^ vwd z i) (twd (fun j => twd (R a) j v) i z) (R a i)) (i)) B M O (x := (vwd (v) (i)) ^^^ (vwd (z) (i))) (y := twd ((bld (bld R 48 (fun j => twd (R a) j v) 16) 49 (fun i => pk3 (vwd v i ^^^ vwd z i) (twd (fun j => twd (R a) j v) i z) (R a i)) (i)) (48)) (i) (z)) (z := (bld (bld R 48 (fun j => twd (R a) j v) 16) 49 (fun i => pk3 (vwd v i ^^^ vwd z i) (twd (fun j => twd (R a) j v) i z) (R a i)) (i)) (a) (i))) gX1_swap_X1_pick rfl hd_X1_pick rfl rfl ⟨by decide, by decide⟩ ⟨by decide, by decide⟩ rfl hl.1 rfl (Nat.le_of_ble_eq_true rfl) dX1_swap_106 (fun H locs I => ?_)
              refine x_lastore (k := 49) (i := i) hx hb F I (by omega) (by omega) dX1_swap_109 (fun H locs I => ?_)
              refine n_iinc (d := 1) (lv' := [(5, .int (nI (i + 1))), (6, .long ((vwd (v) (i)) ^^^ (vwd (z) (i)))), (0, .ref (gA g 0)), (1, .int (nI (s0))), (2, .int (nI (a))), (3, .int (nI (v))), (4, .int (nI (z)))]) hx hb dX1_swap_110 rfl hl (j := 6) rfl (by decide) rfl (fun ls hl => ?_)
              refine lv_goto (tgt := 55) hx hb dX1_swap_113 (by decide) ?_
              exact ih (i + 1) (by omega) (by omega) _ _ ls (bld_step (by simp only [bld_here]; rw [bld_ne (a := a) (k := 48) (by omega), bld_ne (by decide), twd_congr (fun j hj => bld_k hj) (by omega)]) I) (lv_sub hl [2, 3, 4, 5, 6, 0] rfl)
        exact loop2 (16 + 1 - 0) (0) (by omega) (by omega) _ _ ls (bld_start I) (lv_sub hl [1, 2, 3, 4, 5, 0] rfl)
      · refine lv_aload_n hx hb dX1_swap_27 rfl (lv_at hl 0 rfl) ?_
        refine x_get 0 1 1 (C := RX1) (T := TX1) (N := 6) (v := .ref (gA g 58)) E F I inw_X1_swap_X1 (by decide) rfl rfl (by decide) wm_X1_swap_f14 rfl dX1_swap_28 ?_
        refine lv_iload hx hb dX1_swap_31 (lv_at hl 5 rfl) ?_
        refine lv_aload_n hx hb dX1_swap_33 rfl (lv_at hl 0 rfl) ?_
        refine x_get 0 1 0 (C := RX1) (T := TX1) (N := 6) (v := .ref (gA g 1)) E F I inw_X1_swap_X1 (by decide) rfl rfl (by decide) wm_X1_swap_f11 rfl dX1_swap_34 ?_
        refine lv_iload_n hx hb dX1_swap_37 rfl (lv_at hl 2 rfl) ?_
        refine x_aaload hx hb F I (by omega) dX1_swap_38 ?_
        refine lv_iload hx hb dX1_swap_39 (lv_at hl 5 rfl) ?_
        refine lv_iload_n hx hb dX1_swap_41 rfl (lv_at hl 3 rfl) ?_
        refine x_callSl (rest := [.int (nI (i)), .ref (gA g 58)]) E F I (c_turnedWord l g (bld R 48 (fun j => twd (R a) j v) (i)) B M O (k := a) (i := i) (v := v) (by omega) (by omega) (by omega)) gX1_swap_X1_turnedWord rfl hd_X1_turnedWord rfl rfl ⟨by decide, by decide⟩ ⟨by decide, by decide⟩ rfl hl.1 rfl (Nat.le_of_ble_eq_true rfl) dX1_swap_42 (fun H locs I => ?_)
        refine x_lastore (k := 48) (i := i) hx hb F I (by omega) (by omega) dX1_swap_45 (fun H locs I => ?_)
        refine n_iinc (d := 1) (lv' := [(5, .int (nI (i + 1))), (0, .ref (gA g 0)), (1, .int (nI (s0))), (2, .int (nI (a))), (3, .int (nI (v))), (4, .int (nI (z)))]) hx hb dX1_swap_46 rfl hl (j := 5) rfl (by decide) rfl (fun ls hl => ?_)
        refine lv_goto (tgt := 20) hx hb dX1_swap_49 (by decide) ?_
        exact ih (i + 1) (by omega) (by omega) _ _ ls (bld_step (by rw [bld_ne (by omega)]) I) (lv_sub hl [1, 2, 3, 4, 5, 0] rfl)
  exact loop1 (16 + 1 - 0) (0) (by omega) (by omega) _ _ ls (bld_start I) (lv_sub hl [1, 2, 3, 4, 5, 0] rfl)
theorem hd_X1_swap : yX1_swap.cls ≠ "java/lang/invoke/MethodHandle" ∧ yX1_swap.cls ≠ "java/lang/invoke/VarHandle" ∧ (parseMethodDescriptor yX1_swap.desc).map (fun d => d.parameters.length) = some 4 := by decide +kernel
