set_option maxHeartbeats 4000000 in
set_option maxRecDepth 100000 in
theorem m_all (l : Launch) (g : Geo) (R : Nat → Nat → Int64) (B : Rul) (cd : Int32) (T P : Nat → Bool) (fo : Nat → Int32) (O : Nat → Int64) {fr to : Nat} (hft : fr ≤ to) (hto : to < 48) : Cs l g yX2_all wsX2_all (rmN 2 51) [.ref (gA g 5), .int (nI (fr)), .int (nI (to))] (R, B, (cd, bF T, bF P, fo), O) (fun v' u' => ∃ (cs : Nat → Nat) (fo' : Nat → Int32), v' = some (.int (nI (sumN cs 10))) ∧ allNum T fr to 10 cs ∧ u' = (R, B, (cd, bF T, bF P, fo'), O)) := by
  refine Cs.ofW RX2 rfl (by decide) rfl (Nat.le_of_ble_eq_true rfl) ?_
  intro p e s m below meth c E hr hk F I ls hl
  have hx := E.1
  have hb := E.2.1
  have hl : lv_has ls 5 [(0, .ref (gA g 5)), (1, .int (nI (fr))), (2, .int (nI (to)))] := hl
  refine lv_iconst (v := nI (0)) hx hb dX2_all_0 (by decide) ?_
  refine lv_istore_n (lv' := [(3, .int (nI (0))), (0, .ref (gA g 5)), (1, .int (nI (fr))), (2, .int (nI (to)))]) hx hb dX2_all_1 rfl hl (by decide) rfl (fun ls hl => ?_)
  refine lv_iconst (v := nI (0)) hx hb dX2_all_2 (by decide) ?_
  refine lv_istore (lv' := [(4, .int (nI (0))), (3, .int (nI (0))), (0, .ref (gA g 5)), (1, .int (nI (fr))), (2, .int (nI (to)))]) hx hb dX2_all_3 hl (by decide) rfl (fun ls hl => ?_)
  have loop : ∀ (n i : Nat), i ≤ 10 → 10 + 1 ≤ i + n → ∀ (cs : Nat → Nat) (fo : Nat → Int32), allNum T fr to i cs → ∀ (H : Heap) (locs : List Loc) (ls : Array Slot), Iv g (R, B, (cd, bF T, bF P, fo), O) s H locs → lv_has ls 5 [(0, .ref (gA g 5)), (1, .int (nI (fr))), (2, .int (nI (to))), (3, .int (nI (sumN cs (i)))), (4, .int (nI (i)))] → W p l e (rmN 2 51) s m [.ref (gA g 5), .int (nI (fr)), .int (nI (to))].toArray below meth c H locs 0 0 (MQ below (Qs g (fun v' u' => ∃ (cs : Nat → Nat) (fo' : Nat → Int32), v' = some (.int (nI (sumN cs 10))) ∧ allNum T fr to 10 cs ∧ u' = (R, B, (cd, bF T, bF P, fo'), O))) [.ref (gA g 5), .int (nI (fr)), .int (nI (to))].toArray s 0 0 (gW g)) (F0 m 5 ls []) := by
    intro n
    induction n with
    | zero => intro i h1 h2; exact absurd h2 (by omega)
    | succ n ih_loop =>
      intro i hi hn cs fo hA H locs ls I hl
      refine lv_iload hx hb dX2_all_5 (lv_at hl 4 rfl) ?_
      refine lv_bipush (v := nI (10)) hx hb dX2_all_7 (by decide) ?_
      refine n_cge (tgt := 29) hx hb (by omega) (by omega) dX2_all_9 (by decide) (fun h1 => ?_) (fun h1 => ?_)
      · obtain rfl : i = 10 := by omega
        have hl : lv_has ls 5 [(0, .ref (gA g 5)), (1, .int (nI (fr))), (2, .int (nI (to))), (3, .int (nI (sumN cs (10)))), (4, .int (nI (10)))] := hl
        refine lv_iload_n hx hb dX2_all_29 rfl (lv_at hl 3 rfl) ?_
        exact x_iret hx hb hr hk F I ⟨cs, fo, rfl, hA, rfl⟩ dX2_all_30
      · refine lv_iload_n hx hb dX2_all_12 rfl (lv_at hl 3 rfl) ?_
        refine lv_aload_n hx hb dX2_all_13 rfl (lv_at hl 0 rfl) ?_
        refine lv_iload_n hx hb dX2_all_14 rfl (lv_at hl 1 rfl) ?_
        refine lv_iload_n hx hb dX2_all_15 rfl (lv_at hl 2 rfl) ?_
        refine lv_iload hx hb dX2_all_16 (lv_at hl 4 rfl) ?_
        refine x_callV 5 2 (rest := [.int (nI (sumN cs (i)))]) (C := RX2) (T0 := TX2) (N := 4) E F I (m_nodes l g R B cd T P fo O (fr := fr) (to := to) (v := i) (by omega) (by omega) (by omega)) gX2_all_X2_nodes rfl (by decide) rfl rfl rfl hd_X2_nodes rfl rfl ⟨by decide, by decide⟩ ⟨by decide, by decide⟩ rfl hl.1 rfl (Nat.le_of_ble_eq_true rfl) dX2_all_18 (fun v9 u9 H locs hp I => ?_)
        obtain ⟨c1, fo1, rfl, hc1, hnum, rfl⟩ := hp
        refine W.eq (g2 := F0 m 21 ls [.int (nI (c1)), .int (nI (sumN cs (i)))]) rfl ?_
        refine n_iadd hx hb dX2_all_21 ?_
        refine lv_istore_n (lv' := [(3, .int (nI ((sumN cs (i)) + (c1)))), (0, .ref (gA g 5)), (1, .int (nI (fr))), (2, .int (nI (to))), (4, .int (nI (i)))]) hx hb dX2_all_22 rfl hl (by decide) rfl (fun ls hl => ?_)
        refine n_iinc (d := 1) (lv' := [(4, .int (nI (i + 1))), (3, .int (nI ((sumN cs (i)) + (c1)))), (0, .ref (gA g 5)), (1, .int (nI (fr))), (2, .int (nI (to)))]) hx hb dX2_all_23 rfl hl (j := 4) rfl (by decide) rfl (fun ls hl => ?_)
        have hl : lv_has ls 5 [(4, .int (nI (i + 1))), (3, .int (nI (sumN (va_up cs i c1) (i + 1)))), (0, .ref (gA g 5)), (1, .int (nI (fr))), (2, .int (nI (to)))] := by
          rw [show sumN (va_up cs i c1) (i + 1) = (sumN cs (i)) + (c1) from by exact sumN_up]
          exact hl
        refine lv_goto (tgt := 5) hx hb dX2_all_26 (by decide) ?_
        exact ih_loop (i + 1) (by omega) (by omega) (va_up cs i c1) fo1 (allNum_s hA hnum) _ _ ls (I) (lv_sub hl [2, 3, 4, 1, 0] rfl)
  exact loop (10 + 1 - 0) (0) (by omega) (by omega) (fun _ => 0) _ (fun v hv => absurd hv (Nat.not_lt_zero v)) _ _ ls (I) (lv_sub hl [2, 3, 4, 1, 0] rfl)
theorem hd_X2_all : yX2_all.cls ≠ "java/lang/invoke/MethodHandle" ∧ yX2_all.cls ≠ "java/lang/invoke/VarHandle" ∧ (parseMethodDescriptor yX2_all.desc).map (fun d => d.parameters.length) = some 2 := by decide +kernel
set_option maxHeartbeats 4000000 in
set_option maxRecDepth 100000 in
theorem m_size (l : Launch) (g : Geo) (R : Nat → Nat → Int64) (B : Rul) (cd : Int32) (T P : Nat → Bool) (fo : Nat → Int32) (O : Nat → Int64) (x1 : Int32) : Cs l g yX2_size wsX2_size (rmN 3 90) [.ref (gA g 5), .int (x1)] (R, B, (cd, bF T, bF P, fo), O) (fun v' u' => ∃ (r cd' : Int32) (fo' : Nat → Int32), v' = some (.int r) ∧ u' = (R, B, (cd', bF T, bF P, fo'), O) ∧ ((¬ (okI 48 x1) ∧ cd' = 1) ∨ ((okI 48 x1) ∧ ¬ (True) ∧ cd' = 2) ∨ (cd' = 0 ∧ ∃ a_ : Nat, a_ < 48 ∧ x1 = nI a_ ∧ ∃ cs : Nat → Nat, allNum T a_ a_ 10 cs ∧ r = nI (sumN cs 10)))) := by
  refine Cs.ofW RX2 rfl (by decide) rfl (Nat.le_of_ble_eq_true rfl) ?_
  intro p e s m below meth c E hr hk F I ls hl
  have hx := E.1
  have hb := E.2.1
  have hl : lv_has ls 2 [(0, .ref (gA g 5)), (1, .int (x1))] := hl
  refine lv_aload_n hx hb dX2_size_0 rfl (lv_at hl 0 rfl) ?_
  refine lv_iload_n hx hb dX2_size_1 rfl (lv_at hl 1 rfl) ?_
  refine lv_bipush (v := nI (48)) hx hb dX2_size_2 (by decide) ?_
  refine x_callSi (rest := [.ref (gA g 5)]) E F I (m_in l g R B (cd, bF T, bF P, fo) O (x1) (N := 48) (by decide)) gX2_size_X2_in rfl hd_X2_in rfl rfl ⟨by decide, by decide⟩ ⟨by decide, by decide⟩ rfl hl.1 rfl (Nat.le_of_ble_eq_true rfl) dX2_size_4 (fun H locs I => ?_)
  refine lv_iconst (v := nI (1)) hx hb dX2_size_7 (by decide) ?_
  refine x_callVi 5 2 (rest := []) (C := RX2) (T0 := TX2) (N := 4) E F I (m_fails l g R B cd T P fo O (okB 48 x1) true) gX2_size_X2_fails rfl (by decide) rfl rfl rfl hd_X2_fails rfl rfl ⟨by decide, by decide⟩ ⟨by decide, by decide⟩ rfl hl.1 rfl (Nat.le_of_ble_eq_true rfl) dX2_size_8 (fun H locs I => ?_)
  refine n_zeq (tgt := 18) hx hb dX2_size_11 (by decide) (fun h1 => ?_) (fun h1 => ?_)
  · obtain ⟨hSL, hNU, hcd⟩ := good_c (SL := okI 48 x1) (NU := True) okB_iff ⟨fun _ => trivial, fun _ => rfl⟩ h1
    rw [hcd] at I
    obtain ⟨a, lt_a, rfl⟩ := hSL
    have hl : lv_has ls 2 [(0, .ref (gA g 5)), (1, .int (nI (a)))] := hl
    refine lv_aload_n hx hb dX2_size_18 rfl (lv_at hl 0 rfl) ?_
    refine lv_iload_n hx hb dX2_size_19 rfl (lv_at hl 1 rfl) ?_
    refine lv_iload_n hx hb dX2_size_20 rfl (lv_at hl 1 rfl) ?_
    refine x_callV 5 2 (rest := []) (C := RX2) (T0 := TX2) (N := 4) E F I (m_all l g R B 0 T P fo O (fr := a) (to := a) (by omega) (by omega)) gX2_size_X2_all rfl (by decide) rfl rfl rfl hd_X2_all rfl rfl ⟨by decide, by decide⟩ ⟨by decide, by decide⟩ rfl hl.1 rfl (Nat.le_of_ble_eq_true rfl) dX2_size_21 (fun v9 u9 H locs hp I => ?_)
    obtain ⟨cs, fo1, rfl, hA, rfl⟩ := hp
    refine W.eq (g2 := F0 m 24 ls [.int (nI (sumN cs 10))]) rfl ?_
    exact x_iret hx hb hr hk F I ⟨_, _, _, rfl, rfl, Or.inr (Or.inr ⟨rfl, a, lt_a, rfl, cs, hA, rfl⟩)⟩ dX2_size_24
  · refine lv_iconst (v := nI (0)) hx hb dX2_size_14 (by decide) ?_
    refine lv_goto (tgt := 24) hx hb dX2_size_15 (by decide) ?_
    exact x_iret hx hb hr hk F I ⟨_, _, _, rfl, rfl, (fail_c (SL := okI 48 x1) (NU := True) okB_iff ⟨fun _ => trivial, fun _ => rfl⟩ h1).elim (fun q => Or.inl ⟨q.1, q.2⟩) (fun q => Or.inr (Or.inl ⟨q.1, q.2.1, q.2.2⟩))⟩ dX2_size_24
theorem hd_X2_size : yX2_size.cls ≠ "java/lang/invoke/MethodHandle" ∧ yX2_size.cls ≠ "java/lang/invoke/VarHandle" ∧ (parseMethodDescriptor yX2_size.desc).map (fun d => d.parameters.length) = some 1 := by decide +kernel
set_option maxHeartbeats 4000000 in
set_option maxRecDepth 100000 in
theorem m_level (l : Launch) (g : Geo) (R : Nat → Nat → Int64) (B : Rul) (cd : Int32) (T P : Nat → Bool) (fo : Nat → Int32) (O : Nat → Int64) (x1 : Int32) (x2 : Int32) : Cs l g yX2_level wsX2_level (rmN 2 60) [.ref (gA g 5), .int (x1), .int (x2)] (R, B, (cd, bF T, bF P, fo), O) (fun v' u' => ∃ (r cd' : Int32) (fo' : Nat → Int32), v' = some (.int r) ∧ u' = (R, B, (cd', bF T, bF P, fo'), O) ∧ ((¬ (okI 48 x1) ∧ cd' = 1) ∨ ((okI 48 x1) ∧ ¬ (okI 10 x2) ∧ cd' = 2) ∨ (cd' = 0 ∧ ∃ a_ v_ : Nat, a_ < 48 ∧ v_ < 10 ∧ x1 = nI a_ ∧ x2 = nI v_ ∧ ∃ n1 : Nat, isNum T a_ a_ (1024 / 2 ^ v_) (2 ^ v_) n1 ∧ r = nI n1))) := by
  refine Cs.ofW RX2 rfl (by decide) rfl (Nat.le_of_ble_eq_true rfl) ?_
  intro p e s m below meth c E hr hk F I ls hl
  have hx := E.1
  have hb := E.2.1
  have hl : lv_has ls 3 [(0, .ref (gA g 5)), (1, .int (x1)), (2, .int (x2))] := hl
  refine lv_aload_n hx hb dX2_level_0 rfl (lv_at hl 0 rfl) ?_
  refine lv_iload_n hx hb dX2_level_1 rfl (lv_at hl 1 rfl) ?_
  refine lv_bipush (v := nI (48)) hx hb dX2_level_2 (by decide) ?_
  refine x_callSi (rest := [.ref (gA g 5)]) E F I (m_in l g R B (cd, bF T, bF P, fo) O (x1) (N := 48) (by decide)) gX2_level_X2_in rfl hd_X2_in rfl rfl ⟨by decide, by decide⟩ ⟨by decide, by decide⟩ rfl hl.1 rfl (Nat.le_of_ble_eq_true rfl) dX2_level_4 (fun H locs I => ?_)
  refine lv_iload_n hx hb dX2_level_7 rfl (lv_at hl 2 rfl) ?_
  refine lv_bipush (v := nI (10)) hx hb dX2_level_8 (by decide) ?_
  refine x_callSi (rest := [.int (bI (okB 48 x1)), .ref (gA g 5)]) E F I (m_in l g R B (cd, bF T, bF P, fo) O (x2) (N := 10) (by decide)) gX2_level_X2_in rfl hd_X2_in rfl rfl ⟨by decide, by decide⟩ ⟨by decide, by decide⟩ rfl hl.1 rfl (Nat.le_of_ble_eq_true rfl) dX2_level_10 (fun H locs I => ?_)
  refine x_callVi 5 2 (rest := []) (C := RX2) (T0 := TX2) (N := 4) E F I (m_fails l g R B cd T P fo O (okB 48 x1) (okB 10 x2)) gX2_level_X2_fails rfl (by decide) rfl rfl rfl hd_X2_fails rfl rfl ⟨by decide, by decide⟩ ⟨by decide, by decide⟩ rfl hl.1 rfl (Nat.le_of_ble_eq_true rfl) dX2_level_13 (fun H locs I => ?_)
  refine n_zeq (tgt := 23) hx hb dX2_level_16 (by decide) (fun h1 => ?_) (fun h1 => ?_)
  · obtain ⟨hSL, hNU, hcd⟩ := good_c (SL := okI 48 x1) (NU := okI 10 x2) okB_iff okB_iff h1
    rw [hcd] at I
    obtain ⟨a, lt_a, rfl⟩ := hSL
    obtain ⟨v, lt_v, rfl⟩ := hNU
    have hl : lv_has ls 3 [(0, .ref (gA g 5)), (1, .int (nI (a))), (2, .int (nI (v)))] := hl
    refine lv_aload_n hx hb dX2_level_23 rfl (lv_at hl 0 rfl) ?_
    refine lv_iload_n hx hb dX2_level_24 rfl (lv_at hl 1 rfl) ?_
    refine lv_iload_n hx hb dX2_level_25 rfl (lv_at hl 1 rfl) ?_
    refine lv_iload_n hx hb dX2_level_26 rfl (lv_at hl 2 rfl) ?_
    refine x_callV 5 2 (rest := []) (C := RX2) (T0 := TX2) (N := 4) E F I (m_nodes l g R B 0 T P fo O (fr := a) (to := a) (v := v) (by omega) (by omega) (by omega)) gX2_level_X2_nodes rfl (by decide) rfl rfl rfl hd_X2_nodes rfl rfl ⟨by decide, by decide⟩ ⟨by decide, by decide⟩ rfl hl.1 rfl (Nat.le_of_ble_eq_true rfl) dX2_level_27 (fun v9 u9 H locs hp I => ?_)
    obtain ⟨c1, fo1, rfl, hc1, hnum, rfl⟩ := hp
    refine W.eq (g2 := F0 m 30 ls [.int (nI (c1))]) rfl ?_
    exact x_iret hx hb hr hk F I ⟨_, _, _, rfl, rfl, Or.inr (Or.inr ⟨rfl, a, v, lt_a, lt_v, rfl, rfl, c1, hnum, rfl⟩)⟩ dX2_level_30
  · refine lv_iconst (v := nI (0)) hx hb dX2_level_19 (by decide) ?_
    refine lv_goto (tgt := 30) hx hb dX2_level_20 (by decide) ?_
    exact x_iret hx hb hr hk F I ⟨_, _, _, rfl, rfl, (fail_c (SL := okI 48 x1) (NU := okI 10 x2) okB_iff okB_iff h1).elim (fun q => Or.inl ⟨q.1, q.2⟩) (fun q => Or.inr (Or.inl ⟨q.1, q.2.1, q.2.2⟩))⟩ dX2_level_30
theorem hd_X2_level : yX2_level.cls ≠ "java/lang/invoke/MethodHandle" ∧ yX2_level.cls ≠ "java/lang/invoke/VarHandle" ∧ (parseMethodDescriptor yX2_level.desc).map (fun d => d.parameters.length) = some 2 := by decide +kernel
