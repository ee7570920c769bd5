theorem wm_X1_some_tk : Cond.classLink RX1 47 sIA ∈ wsX1_some := by decide +kernel
theorem wm_X1_some_ti : Cond.initialized sIA ∈ wsX1_some := by decide +kernel
set_option maxRecDepth 20000 in
theorem wg_X1_some : ∀ w ∈ (vx_atS RX1 51 sIA nmsX).filter goodWord, w ∈ wsX1_some := by decide +kernel
theorem wm_X1_some_f11 : Cond.fieldLink RX1 11 "FunctionDesk" "slots" "[[J" ∈ wsX1_some := by decide +kernel
theorem inw_X1_some_X1 : ∀ w ∈ wsX10, w ∈ wsX1_some := by decide +kernel
theorem wm_X1_some_f14 : Cond.fieldLink RX1 14 "FunctionDesk" "made" "[J" ∈ wsX1_some := by decide +kernel
set_option maxHeartbeats 4000000 in
set_option maxRecDepth 100000 in
theorem c_some (l : Launch) (hl0 : l.stackTraces = false) (g : Geo) (R : Nat → Nat → Int64) (B : Rul) (M : Mod) (O : Nat → Int64) (x1 : Int32) (x2 : Int32) (x3 : Int32) (t : Bool) : Xs l g yX1_some wsX1_some (rmX 7 110 5 30) [.ref (gA g 0), .int (x1), .int (x2), .int (x3), .int (bI (t))] (R, B, M, O) (fun v' u' => v' = none ∧ ∃ s0_ a_ h_ : Nat, s0_ < 48 ∧ a_ < 48 ∧ h_ < 1024 ∧ x1 = nI s0_ ∧ x2 = nI a_ ∧ x3 = nI h_ ∧ ∃ R', u' = (R', B, M, O) ∧ Upd R R' s0_ (fun i => qrow (R a_) h_ t 10 i)) (fun E0 => (E0 = sIO ∧ ¬ (okI 48 x1 ∧ okI 48 x2)) ∨ (E0 = sIA ∧ (okI 48 x1 ∧ okI 48 x2) ∧ ¬ (okI 1024 x3))) 5 30 := by
  refine Xs.ofW RX1 rfl (by decide) rfl (Nat.le_of_ble_eq_true rfl) ?_
  intro p e s m below meth c E hr hk ht F I ls hl
  have hx := E.1
  have hb := E.2.1
  have hl : lv_has ls 6 [(0, .ref (gA g 0)), (1, .int (x1)), (2, .int (x2)), (3, .int (x3)), (4, .int (bI (t)))] := hl
  refine lv_iload_n hx hb dX1_some_0 rfl (lv_at hl 1 rfl) ?_
  refine z_check (rest := []) E F I (c_checkSlot l hl0 g R B M O x1) gX1_some_X1_checkSlot rfl hd_X1_checkSlot rfl rfl ⟨by decide, by decide⟩ ⟨by decide, by decide⟩ rfl hl.1 rfl (Nat.le_of_ble_eq_true rfl) dX1_some_1 (fun E0 ce q9 H locs hxc I h1 h2 h3 => ?_) (fun hok H locs I => ?_)
  · exact y_out ht hk I h1 h2 h3 (Or.inl ⟨hxc.1, fun q => hxc.2 q.1⟩) (by decide) (by decide)
  obtain ⟨s0, lt_s0, rfl⟩ := hok
  have hl : lv_has ls 6 [(0, .ref (gA g 0)), (1, .int (nI (s0))), (2, .int (x2)), (3, .int (x3)), (4, .int (bI (t)))] := hl
  refine lv_iload_n hx hb dX1_some_4 rfl (lv_at hl 2 rfl) ?_
  refine z_check (rest := []) E F I (c_checkSlot l hl0 g R B M O x2) gX1_some_X1_checkSlot rfl hd_X1_checkSlot rfl rfl ⟨by decide, by decide⟩ ⟨by decide, by decide⟩ rfl hl.1 rfl (Nat.le_of_ble_eq_true rfl) dX1_some_5 (fun E0 ce q9 H locs hxc I h1 h2 h3 => ?_) (fun hok H locs I => ?_)
  · exact y_out ht hk I h1 h2 h3 (Or.inl ⟨hxc.1, fun q => hxc.2 q.2⟩) (by decide) (by decide)
  obtain ⟨a, lt_a, rfl⟩ := hok
  have hl : lv_has ls 6 [(0, .ref (gA g 0)), (1, .int (nI (s0))), (2, .int (nI (a))), (3, .int (x3)), (4, .int (bI (t)))] := hl
  refine lv_iload_n hx hb dX1_some_8 rfl (lv_at hl 3 rfl) ?_
  refine lv_if_lt (tgt := 19) hx hb dX1_some_9 (by decide) (fun h1 => ?_) (fun h1 => ?_)
  · exact y_throw (text := "the set is not 0 .. 1023") hl0 E F I ht hk hl.1 (by decide +kernel) wm_X1_some_tk wm_X1_some_ti (by decide) wg_X1_some ng_IA ngL_on ot_IA dX1_some_19 dX1_some_22 dX1_some_23 dX1_some_25 dX1_some_28 (by decide) (Nat.le_of_ble_eq_true rfl) (by decide) (by decide) (Or.inr ⟨rfl, ⟨⟨s0, lt_s0, rfl⟩, ⟨a, lt_a, rfl⟩⟩, okI_neg (by decide) h1⟩) (by decide) (by decide)
  · refine lv_iload_n hx hb dX1_some_12 rfl (lv_at hl 3 rfl) ?_
    refine lv_sipush (v := nI (1024)) hx hb dX1_some_13 (by decide) ?_
    refine lv_icmp_lt (tgt := 29) hx hb dX1_some_16 (by decide) (fun h2 => ?_) (fun h2 => ?_)
    · refine W.widen (k := 5) (n := 30) (by decide) (by decide) ?_
      obtain ⟨h, lt_h, rfl⟩ := okI_lt (n := 1024) (by decide) h1 h2
      have hl : lv_has ls 6 [(0, .ref (gA g 0)), (1, .int (nI (s0))), (2, .int (nI (a))), (3, .int (nI (h))), (4, .int (bI (t)))] := hl
      refine lv_aload_n hx hb dX1_some_29 rfl (lv_at hl 0 rfl) ?_
      refine x_get 0 1 0 (C := RX1) (T := TX1) (N := 6) (v := .ref (gA g 1)) E F I inw_X1_some_X1 (by decide) rfl rfl (by decide) wm_X1_some_f11 rfl dX1_some_30 ?_
      refine lv_iload_n hx hb dX1_some_33 rfl (lv_at hl 2 rfl) ?_
      refine x_aaload hx hb F I (by omega) dX1_some_34 ?_
      refine lv_aload_n hx hb dX1_some_35 rfl (lv_at hl 0 rfl) ?_
      refine x_get 0 1 1 (C := RX1) (T := TX1) (N := 6) (v := .ref (gA g 58)) E F I inw_X1_some_X1 (by decide) rfl rfl (by decide) wm_X1_some_f14 rfl dX1_some_36 ?_
      refine x_callSv (rest := []) E F I (c_copyRow l g R B M O (k := a) (j := 48) (by omega) (by omega)) gX1_some_X1_copyRow rfl hd_X1_copyRow rfl rfl ⟨by decide, by decide⟩ ⟨by decide, by decide⟩ rfl hl.1 rfl (Nat.le_of_ble_eq_true rfl) dX1_some_39 (fun H locs I => ?_)
      refine lv_iconst (v := nI (0)) hx hb dX1_some_42 (by decide) ?_
      refine lv_istore (lv' := [(5, .int (nI (0))), (0, .ref (gA g 0)), (1, .int (nI (s0))), (2, .int (nI (a))), (3, .int (nI (h))), (4, .int (bI (t)))]) hx hb dX1_some_43 hl (by decide) rfl (fun ls hl => ?_)
      have loop : ∀ (n i : Nat), i ≤ 10 → 10 + 1 ≤ i + n → ∀ R1 : Nat → Nat → Int64, (∀ j, j < 16 → R1 48 j = qrow (R a) h t i j) → (∀ k, k < 48 → R1 k = R k) → ∀ (H : Heap) (locs : List Loc) (ls : Array Slot), Iv g (R1, B, M, O) s H locs → lv_has ls 6 [(0, .ref (gA g 0)), (1, .int (nI (s0))), (2, .int (nI (a))), (3, .int (nI (h))), (4, .int (bI (t))), (5, .int (nI (i)))] → W p l e (rmX 7 110 5 30) s m [.ref (gA g 0), .int ((nI s0)), .int ((nI a)), .int ((nI h)), .int (bI (t))].toArray below meth c H locs 5 30 (vx_MQ below (Qs g (fun v' u' => v' = none ∧ ∃ s0_ a_ h_ : Nat, s0_ < 48 ∧ a_ < 48 ∧ h_ < 1024 ∧ (nI s0) = nI s0_ ∧ (nI a) = nI a_ ∧ (nI h) = nI h_ ∧ ∃ R', u' = (R', B, M, O) ∧ Upd R R' s0_ (fun i => qrow (R a_) h_ t 10 i))) (Xq g (R, B, M, O) (fun E0 => (E0 = sIO ∧ ¬ (okI 48 (nI s0) ∧ okI 48 (nI a))) ∨ (E0 = sIA ∧ (okI 48 (nI s0) ∧ okI 48 (nI a)) ∧ ¬ (okI 1024 (nI h))))) [.ref (gA g 0), .int ((nI s0)), .int ((nI a)), .int ((nI h)), .int (bI (t))].toArray s 5 30 (gW g)) (F0 m 45 ls []) := by
        intro n
        induction n with
        | zero => intro i h1 h2; exact absurd h2 (by omega)
        | succ n ih =>
          intro i hi hn R1 hA hB H locs ls I hl
          refine lv_iload hx hb dX1_some_45 (lv_at hl 5 rfl) ?_
          refine lv_bipush (v := nI (10)) hx hb dX1_some_47 (by decide) ?_
          refine n_cge (tgt := 76) hx hb (by omega) (by omega) dX1_some_49 (by decide) (fun h3 => ?_) (fun h3 => ?_)
          · obtain rfl : i = 10 := by omega
            have hl : lv_has ls 6 [(0, .ref (gA g 0)), (1, .int (nI (s0))), (2, .int (nI (a))), (3, .int (nI (h))), (4, .int (bI (t))), (5, .int (nI (10)))] := hl
            refine lv_aload_n hx hb dX1_some_76 rfl (lv_at hl 0 rfl) ?_
            refine x_get 0 1 1 (C := RX1) (T := TX1) (N := 6) (v := .ref (gA g 58)) E F I inw_X1_some_X1 (by decide) rfl rfl (by decide) wm_X1_some_f14 rfl dX1_some_77 ?_
            refine lv_aload_n hx hb dX1_some_80 rfl (lv_at hl 0 rfl) ?_
            refine x_get 0 1 0 (C := RX1) (T := TX1) (N := 6) (v := .ref (gA g 1)) E F I inw_X1_some_X1 (by decide) rfl rfl (by decide) wm_X1_some_f11 rfl dX1_some_81 ?_
            refine lv_iload_n hx hb dX1_some_84 rfl (lv_at hl 1 rfl) ?_
            refine x_aaload hx hb F I (by omega) dX1_some_85 ?_
            refine x_callSv (rest := []) E F I (c_copyRow l g R1 B M O (k := 48) (j := s0) (by omega) (by omega)) gX1_some_X1_copyRow rfl hd_X1_copyRow rfl rfl ⟨by decide, by decide⟩ ⟨by decide, by decide⟩ rfl hl.1 rfl (Nat.le_of_ble_eq_true rfl) dX1_some_86 (fun H locs I => ?_)
            exact y_vret hx hb hr hk F I (by decide) (by decide) ⟨rfl, s0, a, h, lt_s0, lt_a, lt_h, rfl, rfl, rfl, _, rfl, upd_cpy hA (fun k hk i _ => by rw [hB k hk])⟩ dX1_some_89
          · refine lv_iload_n hx hb dX1_some_52 rfl (lv_at hl 3 rfl) ?_
            refine lv_iload hx hb dX1_some_53 (lv_at hl 5 rfl) ?_
            refine x_callSi (rest := [.int (nI (h))]) E F I (c_bitOf l g R1 B M O (v := i) (by omega)) gX1_some_X1_bitOf rfl hd_X1_bitOf rfl rfl ⟨by decide, by decide⟩ ⟨by decide, by decide⟩ rfl hl.1 rfl (Nat.le_of_ble_eq_true rfl) dX1_some_55 (fun H locs I => ?_)
            refine n_iand hx hb dX1_some_58 ?_
            refine n_ifeq (tgt := 70) hx hb (Nat.lt_of_le_of_lt Nat.and_le_left (by omega)) dX1_some_59 (by decide) (fun h4 => ?_) (fun h4 => ?_)
            · refine n_iinc (d := 1) (lv' := [(5, .int (nI (i + 1))), (0, .ref (gA g 0)), (1, .int (nI (s0))), (2, .int (nI (a))), (3, .int (nI (h))), (4, .int (bI (t)))]) hx hb dX1_some_70 rfl hl (j := 5) rfl (by decide) rfl (fun ls hl => ?_)
              refine lv_goto (tgt := 45) hx hb dX1_some_73 (by decide) ?_
              exact ih (i + 1) (by omega) (by omega) R1 (fun j hj => by simp only [qrow, if_pos h4]; exact hA j hj) hB _ _ ls (I) (lv_sub hl [1, 2, 3, 4, 5, 0] rfl)
            · refine lv_aload_n hx hb dX1_some_62 rfl (lv_at hl 0 rfl) ?_
              refine lv_iload hx hb dX1_some_63 (lv_at hl 5 rfl) ?_
              refine lv_iload hx hb dX1_some_65 (lv_at hl 4 rfl) ?_
              refine x_callVv 0 1 (rest := []) (C := RX1) (T0 := TX1) (N := 6) E F I (c_quantifyMade l g R1 B M O (v := i) (ev := t) (by omega)) gX1_some_X1_quantifyMade rfl (by decide) rfl rfl rfl hd_X1_quantifyMade rfl rfl ⟨by decide, by decide⟩ ⟨by decide, by decide⟩ rfl hl.1 rfl (Nat.le_of_ble_eq_true rfl) dX1_some_67 (fun H locs I => ?_)
              refine n_iinc (d := 1) (lv' := [(5, .int (nI (i + 1))), (0, .ref (gA g 0)), (1, .int (nI (s0))), (2, .int (nI (a))), (3, .int (nI (h))), (4, .int (bI (t)))]) hx hb dX1_some_70 rfl hl (j := 5) rfl (by decide) rfl (fun ls hl => ?_)
              refine lv_goto (tgt := 45) hx hb dX1_some_73 (by decide) ?_
              exact ih (i + 1) (by omega) (by omega) _ (fun j hj => by rw [cpy_in hj, bld_k hj]; simp only [qrow, if_neg h4]; exact qfn_congr hA hj) (fun k hk => by rw [cpy_ne (by omega), bld_ne (by omega)]; exact hB k hk) _ _ ls (I) (lv_sub hl [1, 2, 3, 4, 5, 0] rfl)
      exact loop (10 + 1 - 0) (0) (by omega) (by omega) _ (fun j hj => by rw [cpy_in hj]; rfl) (fun k hk => cpy_ne (by omega)) _ _ ls (I) (lv_sub hl [1, 2, 3, 4, 5, 0] rfl)
    · exact y_throw (text := "the set is not 0 .. 1023") hl0 E F I ht hk hl.1 (by decide +kernel) wm_X1_some_tk wm_X1_some_ti (by decide) wg_X1_some ng_IA ngL_on ot_IA dX1_some_19 dX1_some_22 dX1_some_23 dX1_some_25 dX1_some_28 (by decide) (Nat.le_of_ble_eq_true rfl) (by decide) (by decide) (Or.inr ⟨rfl, ⟨⟨s0, lt_s0, rfl⟩, ⟨a, lt_a, rfl⟩⟩, okI_big (by decide) h2⟩) (by decide) (by decide)
theorem hd_X1_some : yX1_some.cls ≠ "java/lang/invoke/MethodHandle" ∧ yX1_some.cls ≠ "java/lang/invoke/VarHandle" ∧ (parseMethodDescriptor yX1_some.desc).map (fun d => d.parameters.length) = some 4 := by decide +kernel
theorem wm_X1_nearest_f11 : Cond.fieldLink RX1 11 "FunctionDesk" "slots" "[[J" ∈ wsX1_nearest := by decide +kernel
theorem inw_X1_nearest_X1 : ∀ w ∈ wsX10, w ∈ wsX1_nearest := by decide +kernel
theorem wm_X1_nearest_f14 : Cond.fieldLink RX1 14 "FunctionDesk" "made" "[J" ∈ wsX1_nearest := by decide +kernel
theorem wm_X1_nearest_f21 : Cond.fieldLink RX1 21 "FunctionDesk" "found" "[J" ∈ wsX1_nearest := by decide +kernel
theorem wm_X1_nearest_tk : Cond.classLink RX1 47 sIA ∈ wsX1_nearest := by decide +kernel
theorem wm_X1_nearest_ti : Cond.initialized sIA ∈ wsX1_nearest := by decide +kernel
set_option maxRecDepth 20000 in
theorem wg_X1_nearest : ∀ w ∈ (vx_atS RX1 51 sIA nmsX).filter goodWord, w ∈ wsX1_nearest := by decide +kernel
set_option maxHeartbeats 4000000 in
set_option maxRecDepth 100000 in
theorem c_nearest (l : Launch) (hl0 : l.stackTraces = false) (g : Geo) (R : Nat → Nat → Int64) (B : Rul) (M : Mod) (O : Nat → Int64) (x1 : Int32) (x2 : Int32) (x3 : Int32) : Xs l g yX1_nearest wsX1_nearest (rmX 7 110 5 30) [.ref (gA g 0), .int (x1), .int (x2), .int (x3)] (R, B, M, O) (fun v' u' => v' = none ∧ ∃ s0_ a_ c0_ : Nat, s0_ < 48 ∧ a_ < 48 ∧ c0_ < 48 ∧ x1 = nI s0_ ∧ x2 = nI a_ ∧ x3 = nI c0_ ∧ isF (R c0_) = false ∧ ∃ R', u' = (R', B, M, O) ∧ Upd R R' s0_ (fun i => nM (R a_) (R c0_) 10 i)) (fun E0 => (E0 = sIO ∧ ¬ (okI 48 x1 ∧ okI 48 x2 ∧ okI 48 x3)) ∨ (E0 = sIA ∧ (okI 48 x1 ∧ okI 48 x2 ∧ okI 48 x3) ∧ ¬ (¬ isFx R x3))) 5 30 := by
  refine Xs.ofW RX1 rfl (by decide) rfl (Nat.le_of_ble_eq_true rfl) ?_
  intro p e s m below meth c E hr hk ht F I ls hl
  have hx := E.1
  have hb := E.2.1
  have hl : lv_has ls 5 [(0, .ref (gA g 0)), (1, .int (x1)), (2, .int (x2)), (3, .int (x3))] := hl
  refine lv_iload_n hx hb dX1_nearest_0 rfl (lv_at hl 1 rfl) ?_
  refine z_check (rest := []) E F I (c_checkSlot l hl0 g R B M O x1) gX1_nearest_X1_checkSlot rfl hd_X1_checkSlot rfl rfl ⟨by decide, by decide⟩ ⟨by decide, by decide⟩ rfl hl.1 rfl (Nat.le_of_ble_eq_true rfl) dX1_nearest_1 (fun E0 ce q9 H locs hxc I h1 h2 h3 => ?_) (fun hok H locs I => ?_)
  · exact y_out ht hk I h1 h2 h3 (Or.inl ⟨hxc.1, fun q => hxc.2 q.1⟩) (by decide) (by decide)
  obtain ⟨s0, lt_s0, rfl⟩ := hok
  have hl : lv_has ls 5 [(0, .ref (gA g 0)), (1, .int (nI (s0))), (2, .int (x2)), (3, .int (x3))] := hl
  refine lv_iload_n hx hb dX1_nearest_4 rfl (lv_at hl 2 rfl) ?_
  refine z_check (rest := []) E F I (c_checkSlot l hl0 g R B M O x2) gX1_nearest_X1_checkSlot rfl hd_X1_checkSlot rfl rfl ⟨by decide, by decide⟩ ⟨by decide, by decide⟩ rfl hl.1 rfl (Nat.le_of_ble_eq_true rfl) dX1_nearest_5 (fun E0 ce q9 H locs hxc I h1 h2 h3 => ?_) (fun hok H locs I => ?_)
  · exact y_out ht hk I h1 h2 h3 (Or.inl ⟨hxc.1, fun q => hxc.2 q.2.1⟩) (by decide) (by decide)
  obtain ⟨a, lt_a, rfl⟩ := hok
  have hl : lv_has ls 5 [(0, .ref (gA g 0)), (1, .int (nI (s0))), (2, .int (nI (a))), (3, .int (x3))] := hl
  refine lv_iload_n hx hb dX1_nearest_8 rfl (lv_at hl 3 rfl) ?_
  refine z_check (rest := []) E F I (c_checkSlot l hl0 g R B M O x3) gX1_nearest_X1_checkSlot rfl hd_X1_checkSlot rfl rfl ⟨by decide, by decide⟩ ⟨by decide, by decide⟩ rfl hl.1 rfl (Nat.le_of_ble_eq_true rfl) dX1_nearest_9 (fun E0 ce q9 H locs hxc I h1 h2 h3 => ?_) (fun hok H locs I => ?_)
  · exact y_out ht hk I h1 h2 h3 (Or.inl ⟨hxc.1, fun q => hxc.2 q.2.2⟩) (by decide) (by decide)
  obtain ⟨c0, lt_c0, rfl⟩ := hok
  have hl : lv_has ls 5 [(0, .ref (gA g 0)), (1, .int (nI (s0))), (2, .int (nI (a))), (3, .int (nI (c0)))] := hl
  refine lv_aload_n hx hb dX1_nearest_12 rfl (lv_at hl 0 rfl) ?_
  refine x_get 0 1 0 (C := RX1) (T := TX1) (N := 6) (v := .ref (gA g 1)) E F I inw_X1_nearest_X1 (by decide) rfl rfl (by decide) wm_X1_nearest_f11 rfl dX1_nearest_13 ?_
  refine lv_iload_n hx hb dX1_nearest_16 rfl (lv_at hl 3 rfl) ?_
  refine x_aaload hx hb F I (by omega) dX1_nearest_17 ?_
  refine x_callSi (rest := []) E F I (c_isFalse l g R B M O (k := c0) (by omega)) gX1_nearest_X1_isFalse rfl hd_X1_isFalse rfl rfl ⟨by decide, by decide⟩ ⟨by decide, by decide⟩ rfl hl.1 rfl (Nat.le_of_ble_eq_true rfl) dX1_nearest_18 (fun H locs I => ?_)
  refine n_zeq (tgt := 34) hx hb dX1_nearest_21 (by decide) (fun h1 => ?_) (fun h1 => ?_)
  · have hnf := h1
    refine W.widen (k := 5) (n := 30) (by decide) (by decide) ?_
    refine lv_aload_n hx hb dX1_nearest_34 rfl (lv_at hl 0 rfl) ?_
    refine x_get 0 1 0 (C := RX1) (T := TX1) (N := 6) (v := .ref (gA g 1)) E F I inw_X1_nearest_X1 (by decide) rfl rfl (by decide) wm_X1_nearest_f11 rfl dX1_nearest_35 ?_
    refine lv_iload_n hx hb dX1_nearest_38 rfl (lv_at hl 2 rfl) ?_
    refine x_aaload hx hb F I (by omega) dX1_nearest_39 ?_
    refine lv_aload_n hx hb dX1_nearest_40 rfl (lv_at hl 0 rfl) ?_
    refine x_get 0 1 1 (C := RX1) (T := TX1) (N := 6) (v := .ref (gA g 58)) E F I inw_X1_nearest_X1 (by decide) rfl rfl (by decide) wm_X1_nearest_f14 rfl dX1_nearest_41 ?_
    refine x_callSv (rest := []) E F I (c_copyRow l g R B M O (k := a) (j := 48) (by omega) (by omega)) gX1_nearest_X1_copyRow rfl hd_X1_copyRow rfl rfl ⟨by decide, by decide⟩ ⟨by decide, by decide⟩ rfl hl.1 rfl (Nat.le_of_ble_eq_true rfl) dX1_nearest_44 (fun H locs I => ?_)
    refine lv_aload_n hx hb dX1_nearest_47 rfl (lv_at hl 0 rfl) ?_
    refine x_get 0 1 0 (C := RX1) (T := TX1) (N := 6) (v := .ref (gA g 1)) E F I inw_X1_nearest_X1 (by decide) rfl rfl (by decide) wm_X1_nearest_f11 rfl dX1_nearest_48 ?_
    refine lv_iload_n hx hb dX1_nearest_51 rfl (lv_at hl 3 rfl) ?_
    refine x_aaload hx hb F I (by omega) dX1_nearest_52 ?_
    refine lv_aload_n hx hb dX1_nearest_53 rfl (lv_at hl 0 rfl) ?_
    refine x_get 0 1 3 (C := RX1) (T := TX1) (N := 6) (v := .ref (gA g 60)) E F I inw_X1_nearest_X1 (by decide) rfl rfl (by decide) wm_X1_nearest_f21 rfl dX1_nearest_54 ?_
    refine x_callSv (rest := []) E F I (c_copyRow l g (cpy R (a) (48)) B M O (k := c0) (j := 50) (by omega) (by omega)) gX1_nearest_X1_copyRow rfl hd_X1_copyRow rfl rfl ⟨by decide, by decide⟩ ⟨by decide, by decide⟩ rfl hl.1 rfl (Nat.le_of_ble_eq_true rfl) dX1_nearest_57 (fun H locs I => ?_)
    refine lv_bipush (v := nI (9)) hx hb dX1_nearest_60 (by decide) ?_
    refine lv_istore (lv' := [(4, .int (nI (9))), (0, .ref (gA g 0)), (1, .int (nI (s0))), (2, .int (nI (a))), (3, .int (nI (c0)))]) hx hb dX1_nearest_62 hl (by decide) rfl (fun ls hl => ?_)
    have loop : ∀ (k : Nat), k ≤ 10 → ∀ R1 : Nat → Nat → Int64, (∀ j, j < 16 → R1 48 j = nM (R a) (R c0) (10 - k) j) → (∀ j, j < 16 → R1 50 j = nF (R c0) (10 - k) j) → (∀ q, q < 48 → R1 q = R q) → ∀ (H : Heap) (locs : List Loc) (ls : Array Slot), Iv g (R1, B, M, O) s H locs → lv_has ls 5 [(0, .ref (gA g 0)), (1, .int (nI (s0))), (2, .int (nI (a))), (3, .int (nI (c0))), (4, .int (nI k + (-1)))] → W p l e (rmX 7 110 5 30) s m [.ref (gA g 0), .int ((nI s0)), .int ((nI a)), .int ((nI c0))].toArray below meth c H locs 5 30 (vx_MQ below (Qs g (fun v' u' => v' = none ∧ ∃ s0_ a_ c0_ : Nat, s0_ < 48 ∧ a_ < 48 ∧ c0_ < 48 ∧ (nI s0) = nI s0_ ∧ (nI a) = nI a_ ∧ (nI c0) = nI c0_ ∧ isF (R c0_) = false ∧ ∃ R', u' = (R', B, M, O) ∧ Upd R R' s0_ (fun i => nM (R a_) (R c0_) 10 i))) (Xq g (R, B, M, O) (fun E0 => (E0 = sIO ∧ ¬ (okI 48 (nI s0) ∧ okI 48 (nI a) ∧ okI 48 (nI c0))) ∨ (E0 = sIA ∧ (okI 48 (nI s0) ∧ okI 48 (nI a) ∧ okI 48 (nI c0)) ∧ ¬ (¬ isFx R (nI c0))))) [.ref (gA g 0), .int ((nI s0)), .int ((nI a)), .int ((nI c0))].toArray s 5 30 (gW g)) (F0 m 64 ls []) := by
      intro k
      induction k with
      | zero =>
        intro hk10 R1 hA hA2 hB H locs ls I hl
        refine lv_iload hx hb dX1_nearest_64 (lv_at hl 4 rfl) ?_
        refine lv_if_lt (tgt := 81) hx hb dX1_nearest_66 (by decide) (fun h2 => ?_) (fun h2 => ?_)
        · refine lv_aload_n hx hb dX1_nearest_81 rfl (lv_at hl 0 rfl) ?_
          refine x_get 0 1 1 (C := RX1) (T := TX1) (N := 6) (v := .ref (gA g 58)) E F I inw_X1_nearest_X1 (by decide) rfl rfl (by decide) wm_X1_nearest_f14 rfl dX1_nearest_82 ?_
          refine lv_aload_n hx hb dX1_nearest_85 rfl (lv_at hl 0 rfl) ?_
          refine x_get 0 1 0 (C := RX1) (T := TX1) (N := 6) (v := .ref (gA g 1)) E F I inw_X1_nearest_X1 (by decide) rfl rfl (by decide) wm_X1_nearest_f11 rfl dX1_nearest_86 ?_
          refine lv_iload_n hx hb dX1_nearest_89 rfl (lv_at hl 1 rfl) ?_
          refine x_aaload hx hb F I (by omega) dX1_nearest_90 ?_
          refine x_callSv (rest := []) E F I (c_copyRow l g R1 B M O (k := 48) (j := s0) (by omega) (by omega)) gX1_nearest_X1_copyRow rfl hd_X1_copyRow rfl rfl ⟨by decide, by decide⟩ ⟨by decide, by decide⟩ rfl hl.1 rfl (Nat.le_of_ble_eq_true rfl) dX1_nearest_91 (fun H locs I => ?_)
          exact y_vret hx hb hr hk F I (by decide) (by decide) ⟨rfl, s0, a, c0, lt_s0, lt_a, lt_c0, rfl, rfl, rfl, hnf, _, rfl, upd_cpy hA (fun k hk i _ => by rw [hB k hk])⟩ dX1_nearest_94
        · exact absurd (by decide) h2
      | succ k ih =>
        intro hk10 R1 hA hA2 hB H locs ls I hl
        rw [pk_m1] at hl
        refine lv_iload hx hb dX1_nearest_64 (lv_at hl 4 rfl) ?_
        refine lv_if_lt (tgt := 81) hx hb dX1_nearest_66 (by decide) (fun h3 => ?_) (fun h3 => ?_)
        · exact absurd h3 (nI_pos (by omega))
        · refine lv_aload_n hx hb dX1_nearest_69 rfl (lv_at hl 0 rfl) ?_
          refine lv_iload hx hb dX1_nearest_70 (lv_at hl 4 rfl) ?_
          refine x_callVv 0 1 (rest := []) (C := RX1) (T0 := TX1) (N := 6) E F I (c_widenSearch l g R1 B M O (v := k) (by omega)) gX1_nearest_X1_widenSearch rfl (by decide) rfl rfl rfl hd_X1_widenSearch rfl rfl ⟨by decide, by decide⟩ ⟨by decide, by decide⟩ rfl hl.1 rfl (Nat.le_of_ble_eq_true rfl) dX1_nearest_72 (fun H locs I => ?_)
          refine lv_iinc (v := nI k + (-1)) (lv' := [(4, .int (nI k + (-1))), (0, .ref (gA g 0)), (1, .int (nI (s0))), (2, .int (nI (a))), (3, .int (nI (c0)))]) hx hb dX1_nearest_75 hl (k := 4) rfl rfl (by decide) rfl (fun ls hl => ?_)
          refine lv_goto (tgt := 64) hx hb dX1_nearest_78 (by decide) ?_
          have e9 : 10 - k = (10 - (k + 1)) + 1 := by omega
          have e8 : 9 - (10 - (k + 1)) = k := by omega
          exact ih (by omega) _ (fun j hj => by rw [cpy_ne (by decide), cpy_in hj, bld_ne (by decide), bld_k hj, e9, nM, e8]; exact wfn_congr hA2 hA hj) (fun j hj => by rw [cpy_in hj, cpy_ne (by decide), bld_k hj, e9, nF, e8]; exact ffn_congr hA2 hj) (fun q hq => by rw [cpy_ne (by omega), cpy_ne (by omega), bld_ne (by omega), bld_ne (by omega)]; exact hB q hq) _ _ ls I (lv_sub hl [1, 2, 3, 4, 0] rfl)
    exact loop 10 (by omega) (cpy (cpy R (a) (48)) (c0) (50)) (fun j hj => by rw [cpy_ne (by decide), cpy_in hj]; rfl) (fun j hj => by rw [cpy_in hj, cpy_ne (by omega)]; rfl) (fun q hq => by rw [cpy_ne (by omega), cpy_ne (by omega)]) _ _ ls I (lv_sub hl [1, 2, 3, 4, 0] rfl)
  · exact y_throw (text := "no point to go to") hl0 E F I ht hk hl.1 (by decide +kernel) wm_X1_nearest_tk wm_X1_nearest_ti (by decide) wg_X1_nearest ng_IA ngL_on ot_IA dX1_nearest_24 dX1_nearest_27 dX1_nearest_28 dX1_nearest_30 dX1_nearest_33 (by decide) (Nat.le_of_ble_eq_true rfl) (by decide) (by decide) (Or.inr ⟨rfl, ⟨⟨s0, lt_s0, rfl⟩, ⟨a, lt_a, rfl⟩, ⟨c0, lt_c0, rfl⟩⟩, fun q => q ⟨c0, lt_c0, rfl, h1⟩⟩) (by decide) (by decide)
theorem hd_X1_nearest : yX1_nearest.cls ≠ "java/lang/invoke/MethodHandle" ∧ yX1_nearest.cls ≠ "java/lang/invoke/VarHandle" ∧ (parseMethodDescriptor yX1_nearest.desc).map (fun d => d.parameters.length) = some 3 := by decide +kernel
