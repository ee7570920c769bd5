set_option maxHeartbeats 4000000 in
set_option maxRecDepth 100000 in
theorem m_sizes (l : Launch) (g : Geo) (R : Nat → Nat → Int64) (B : Rul) (cd : Int32) (T P : Nat → Bool) (fo : Nat → Int32) (O : Nat → Int64) (x1 : Int32) (x2 : Int32) : Cs l g yX2_sizes wsX2_sizes (rmN 3 90) [.ref (gA g 5), .int (x1), .int (x2)] (R, B, (cd, bF T, bF P, fo), O) (fun v' u' => ∃ (r cd' : Int32) (fo' : Nat → Int32), v' = some (.int r) ∧ u' = (R, B, (cd', bF T, bF P, fo'), O) ∧ ((¬ (okI 48 x1 ∧ okI 48 x2) ∧ cd' = 1) ∨ ((okI 48 x1 ∧ okI 48 x2) ∧ ¬ (x1 ≤ x2) ∧ cd' = 2) ∨ (cd' = 0 ∧ ∃ a_ b_ : Nat, a_ < 48 ∧ b_ < 48 ∧ x1 = nI a_ ∧ x2 = nI b_ ∧ a_ ≤ b_ ∧ ∃ cs : Nat → Nat, allNum T a_ b_ 10 cs ∧ r = nI (sumN cs 10)))) := by
  refine Cs.ofW RX2 rfl (by decide) rfl (Nat.le_of_ble_eq_true rfl) ?_
  intro p e s m below meth c E hr hk F I ls hl
  have hx := E.1
  have hb := E.2.1
  have hl : lv_has ls 3 [(0, .ref (gA g 5)), (1, .int (x1)), (2, .int (x2))] := hl
  refine lv_aload_n hx hb dX2_sizes_0 rfl (lv_at hl 0 rfl) ?_
  refine lv_iload_n hx hb dX2_sizes_1 rfl (lv_at hl 1 rfl) ?_
  refine lv_bipush (v := nI (48)) hx hb dX2_sizes_2 (by decide) ?_
  refine x_callSi (rest := [.ref (gA g 5)]) E F I (m_in l g R B (cd, bF T, bF P, fo) O (x1) (N := 48) (by decide)) gX2_sizes_X2_in rfl hd_X2_in rfl rfl ⟨by decide, by decide⟩ ⟨by decide, by decide⟩ rfl hl.1 rfl (Nat.le_of_ble_eq_true rfl) dX2_sizes_4 (fun H locs I => ?_)
  refine n_zeq (tgt := 23) hx hb dX2_sizes_7 (by decide) (fun h1 => ?_) (fun h1 => ?_)
  · refine lv_iconst (v := nI (0)) hx hb dX2_sizes_23 (by decide) ?_
    refine lv_iload_n hx hb dX2_sizes_24 rfl (lv_at hl 1 rfl) ?_
    refine lv_iload_n hx hb dX2_sizes_25 rfl (lv_at hl 2 rfl) ?_
    refine lv_icmp_gt (tgt := 33) hx hb dX2_sizes_26 (by decide) (fun h2 => ?_) (fun h2 => ?_)
    · refine lv_iconst (v := nI (0)) hx hb dX2_sizes_33 (by decide) ?_
      refine x_callVi 5 2 (rest := []) (C := RX2) (T0 := TX2) (N := 4) E F I (m_fails l g R B cd T P fo O false false) gX2_sizes_X2_fails rfl (by decide) rfl rfl rfl hd_X2_fails rfl rfl ⟨by decide, by decide⟩ ⟨by decide, by decide⟩ rfl hl.1 rfl (Nat.le_of_ble_eq_true rfl) dX2_sizes_34 (fun H locs I => ?_)
      refine n_zeq (tgt := 44) hx hb dX2_sizes_37 (by decide) (fun h3 => ?_) (fun h3 => ?_)
      · exact absurd h3 (by simp)
      · refine lv_iconst (v := nI (0)) hx hb dX2_sizes_40 (by decide) ?_
        refine lv_goto (tgt := 50) hx hb dX2_sizes_41 (by decide) ?_
        exact x_iret hx hb hr hk F I ⟨_, _, _, rfl, rfl, (fail_c (SL := okI 48 x1 ∧ okI 48 x2) (NU := x1 ≤ x2) ⟨fun q => absurd q (by decide), fun q => absurd q.1 (okB_f h1)⟩ ⟨fun q => absurd q (by decide), fun q => absurd q (Int32.not_le.mpr h2)⟩ h3).elim (fun q => Or.inl ⟨q.1, q.2⟩) (fun q => Or.inr (Or.inl ⟨q.1, q.2.1, q.2.2⟩))⟩ dX2_sizes_50
    · refine lv_iconst (v := nI (1)) hx hb dX2_sizes_29 (by decide) ?_
      refine lv_goto (tgt := 34) hx hb dX2_sizes_30 (by decide) ?_
      refine x_callVi 5 2 (rest := []) (C := RX2) (T0 := TX2) (N := 4) E F I (m_fails l g R B cd T P fo O false true) gX2_sizes_X2_fails rfl (by decide) rfl rfl rfl hd_X2_fails rfl rfl ⟨by decide, by decide⟩ ⟨by decide, by decide⟩ rfl hl.1 rfl (Nat.le_of_ble_eq_true rfl) dX2_sizes_34 (fun H locs I => ?_)
      refine n_zeq (tgt := 44) hx hb dX2_sizes_37 (by decide) (fun h4 => ?_) (fun h4 => ?_)
      · exact absurd h4 (by simp)
      · refine lv_iconst (v := nI (0)) hx hb dX2_sizes_40 (by decide) ?_
        refine lv_goto (tgt := 50) hx hb dX2_sizes_41 (by decide) ?_
        exact x_iret hx hb hr hk F I ⟨_, _, _, rfl, rfl, (fail_c (SL := okI 48 x1 ∧ okI 48 x2) (NU := x1 ≤ x2) ⟨fun q => absurd q (by decide), fun q => absurd q.1 (okB_f h1)⟩ ⟨fun _ => Int32.not_lt.mp h2, fun _ => rfl⟩ h4).elim (fun q => Or.inl ⟨q.1, q.2⟩) (fun q => Or.inr (Or.inl ⟨q.1, q.2.1, q.2.2⟩))⟩ dX2_sizes_50
  · refine lv_iload_n hx hb dX2_sizes_10 rfl (lv_at hl 2 rfl) ?_
    refine lv_bipush (v := nI (48)) hx hb dX2_sizes_11 (by decide) ?_
    refine x_callSi (rest := [.ref (gA g 5)]) E F I (m_in l g R B (cd, bF T, bF P, fo) O (x2) (N := 48) (by decide)) gX2_sizes_X2_in rfl hd_X2_in rfl rfl ⟨by decide, by decide⟩ ⟨by decide, by decide⟩ rfl hl.1 rfl (Nat.le_of_ble_eq_true rfl) dX2_sizes_13 (fun H locs I => ?_)
    refine n_zeq (tgt := 23) hx hb dX2_sizes_16 (by decide) (fun h5 => ?_) (fun h5 => ?_)
    · refine lv_iconst (v := nI (0)) hx hb dX2_sizes_23 (by decide) ?_
      refine lv_iload_n hx hb dX2_sizes_24 rfl (lv_at hl 1 rfl) ?_
      refine lv_iload_n hx hb dX2_sizes_25 rfl (lv_at hl 2 rfl) ?_
      refine lv_icmp_gt (tgt := 33) hx hb dX2_sizes_26 (by decide) (fun h6 => ?_) (fun h6 => ?_)
      · refine lv_iconst (v := nI (0)) hx hb dX2_sizes_33 (by decide) ?_
        refine x_callVi 5 2 (rest := []) (C := RX2) (T0 := TX2) (N := 4) E F I (m_fails l g R B cd T P fo O false false) gX2_sizes_X2_fails rfl (by decide) rfl rfl rfl hd_X2_fails rfl rfl ⟨by decide, by decide⟩ ⟨by decide, by decide⟩ rfl hl.1 rfl (Nat.le_of_ble_eq_true rfl) dX2_sizes_34 (fun H locs I => ?_)
        refine n_zeq (tgt := 44) hx hb dX2_sizes_37 (by decide) (fun h7 => ?_) (fun h7 => ?_)
        · exact absurd h7 (by simp)
        · refine lv_iconst (v := nI (0)) hx hb dX2_sizes_40 (by decide) ?_
          refine lv_goto (tgt := 50) hx hb dX2_sizes_41 (by decide) ?_
          exact x_iret hx hb hr hk F I ⟨_, _, _, rfl, rfl, (fail_c (SL := okI 48 x1 ∧ okI 48 x2) (NU := x1 ≤ x2) ⟨fun q => absurd q (by decide), fun q => absurd q.2 (okB_f h5)⟩ ⟨fun q => absurd q (by decide), fun q => absurd q (Int32.not_le.mpr h6)⟩ h7).elim (fun q => Or.inl ⟨q.1, q.2⟩) (fun q => Or.inr (Or.inl ⟨q.1, q.2.1, q.2.2⟩))⟩ dX2_sizes_50
      · refine lv_iconst (v := nI (1)) hx hb dX2_sizes_29 (by decide) ?_
        refine lv_goto (tgt := 34) hx hb dX2_sizes_30 (by decide) ?_
        refine x_callVi 5 2 (rest := []) (C := RX2) (T0 := TX2) (N := 4) E F I (m_fails l g R B cd T P fo O false true) gX2_sizes_X2_fails rfl (by decide) rfl rfl rfl hd_X2_fails rfl rfl ⟨by decide, by decide⟩ ⟨by decide, by decide⟩ rfl hl.1 rfl (Nat.le_of_ble_eq_true rfl) dX2_sizes_34 (fun H locs I => ?_)
        refine n_zeq (tgt := 44) hx hb dX2_sizes_37 (by decide) (fun h8 => ?_) (fun h8 => ?_)
        · exact absurd h8 (by simp)
        · refine lv_iconst (v := nI (0)) hx hb dX2_sizes_40 (by decide) ?_
          refine lv_goto (tgt := 50) hx hb dX2_sizes_41 (by decide) ?_
          exact x_iret hx hb hr hk F I ⟨_, _, _, rfl, rfl, (fail_c (SL := okI 48 x1 ∧ okI 48 x2) (NU := x1 ≤ x2) ⟨fun q => absurd q (by decide), fun q => absurd q.2 (okB_f h5)⟩ ⟨fun _ => Int32.not_lt.mp h6, fun _ => rfl⟩ h8).elim (fun q => Or.inl ⟨q.1, q.2⟩) (fun q => Or.inr (Or.inl ⟨q.1, q.2.1, q.2.2⟩))⟩ dX2_sizes_50
    · refine lv_iconst (v := nI (1)) hx hb dX2_sizes_19 (by decide) ?_
      refine lv_goto (tgt := 24) hx hb dX2_sizes_20 (by decide) ?_
      refine lv_iload_n hx hb dX2_sizes_24 rfl (lv_at hl 1 rfl) ?_
      refine lv_iload_n hx hb dX2_sizes_25 rfl (lv_at hl 2 rfl) ?_
      refine lv_icmp_gt (tgt := 33) hx hb dX2_sizes_26 (by decide) (fun h9 => ?_) (fun h9 => ?_)
      · refine lv_iconst (v := nI (0)) hx hb dX2_sizes_33 (by decide) ?_
        refine x_callVi 5 2 (rest := []) (C := RX2) (T0 := TX2) (N := 4) E F I (m_fails l g R B cd T P fo O true false) gX2_sizes_X2_fails rfl (by decide) rfl rfl rfl hd_X2_fails rfl rfl ⟨by decide, by decide⟩ ⟨by decide, by decide⟩ rfl hl.1 rfl (Nat.le_of_ble_eq_true rfl) dX2_sizes_34 (fun H locs I => ?_)
        refine n_zeq (tgt := 44) hx hb dX2_sizes_37 (by decide) (fun h10 => ?_) (fun h10 => ?_)
        · exact absurd h10 (by simp)
        · refine lv_iconst (v := nI (0)) hx hb dX2_sizes_40 (by decide) ?_
          refine lv_goto (tgt := 50) hx hb dX2_sizes_41 (by decide) ?_
          exact x_iret hx hb hr hk F I ⟨_, _, _, rfl, rfl, (fail_c (SL := okI 48 x1 ∧ okI 48 x2) (NU := x1 ≤ x2) ⟨fun _ => ⟨okB_iff.mp h1, okB_iff.mp h5⟩, fun _ => rfl⟩ ⟨fun q => absurd q (by decide), fun q => absurd q (Int32.not_le.mpr h9)⟩ h10).elim (fun q => Or.inl ⟨q.1, q.2⟩) (fun q => Or.inr (Or.inl ⟨q.1, q.2.1, q.2.2⟩))⟩ dX2_sizes_50
      · refine lv_iconst (v := nI (1)) hx hb dX2_sizes_29 (by decide) ?_
        refine lv_goto (tgt := 34) hx hb dX2_sizes_30 (by decide) ?_
        refine x_callVi 5 2 (rest := []) (C := RX2) (T0 := TX2) (N := 4) E F I (m_fails l g R B cd T P fo O true true) gX2_sizes_X2_fails rfl (by decide) rfl rfl rfl hd_X2_fails rfl rfl ⟨by decide, by decide⟩ ⟨by decide, by decide⟩ rfl hl.1 rfl (Nat.le_of_ble_eq_true rfl) dX2_sizes_34 (fun H locs I => ?_)
        refine n_zeq (tgt := 44) hx hb dX2_sizes_37 (by decide) (fun h11 => ?_) (fun h11 => ?_)
        · obtain ⟨hSL, hNU, hcd⟩ := good_c (SL := okI 48 x1 ∧ okI 48 x2) (NU := x1 ≤ x2) ⟨fun _ => ⟨okB_iff.mp h1, okB_iff.mp h5⟩, fun _ => rfl⟩ ⟨fun _ => Int32.not_lt.mp h9, fun _ => rfl⟩ h11
          rw [hcd] at I
          obtain ⟨⟨a, lt_a, rfl⟩, ⟨b, lt_b, rfl⟩⟩ := hSL
          have hl : lv_has ls 3 [(0, .ref (gA g 5)), (1, .int (nI (a))), (2, .int (nI (b)))] := hl
          have hab : a ≤ b := (nI_leI (by omega) (by omega)).mp hNU
          refine lv_aload_n hx hb dX2_sizes_44 rfl (lv_at hl 0 rfl) ?_
          refine lv_iload_n hx hb dX2_sizes_45 rfl (lv_at hl 1 rfl) ?_
          refine lv_iload_n hx hb dX2_sizes_46 rfl (lv_at hl 2 rfl) ?_
          refine x_callV 5 2 (rest := []) (C := RX2) (T0 := TX2) (N := 4) E F I (m_all l g R B 0 T P fo O (fr := a) (to := b) (by omega) (by omega)) gX2_sizes_X2_all rfl (by decide) rfl rfl rfl hd_X2_all rfl rfl ⟨by decide, by decide⟩ ⟨by decide, by decide⟩ rfl hl.1 rfl (Nat.le_of_ble_eq_true rfl) dX2_sizes_47 (fun v9 u9 H locs hp I => ?_)
          obtain ⟨cs, fo1, rfl, hA, rfl⟩ := hp
          refine W.eq (g2 := F0 m 50 ls [.int (nI (sumN cs 10))]) rfl ?_
          exact x_iret hx hb hr hk F I ⟨_, _, _, rfl, rfl, Or.inr (Or.inr ⟨rfl, a, b, lt_a, lt_b, rfl, rfl, hab, cs, hA, rfl⟩)⟩ dX2_sizes_50
        · refine lv_iconst (v := nI (0)) hx hb dX2_sizes_40 (by decide) ?_
          refine lv_goto (tgt := 50) hx hb dX2_sizes_41 (by decide) ?_
          exact x_iret hx hb hr hk F I ⟨_, _, _, rfl, rfl, (fail_c (SL := okI 48 x1 ∧ okI 48 x2) (NU := x1 ≤ x2) ⟨fun _ => ⟨okB_iff.mp h1, okB_iff.mp h5⟩, fun _ => rfl⟩ ⟨fun _ => Int32.not_lt.mp h9, fun _ => rfl⟩ h11).elim (fun q => Or.inl ⟨q.1, q.2⟩) (fun q => Or.inr (Or.inl ⟨q.1, q.2.1, q.2.2⟩))⟩ dX2_sizes_50
theorem hd_X2_sizes : yX2_sizes.cls ≠ "java/lang/invoke/MethodHandle" ∧ yX2_sizes.cls ≠ "java/lang/invoke/VarHandle" ∧ (parseMethodDescriptor yX2_sizes.desc).map (fun d => d.parameters.length) = some 2 := by decide +kernel
theorem wm_X2_thrown_f21 : Cond.fieldLink RX2 21 "FunctionDeskModel" "code" "I" ∈ wsX2_thrown := by decide +kernel
theorem inw_X2_thrown_X2 : ∀ w ∈ wsX20, w ∈ wsX2_thrown := by decide +kernel
set_option maxHeartbeats 4000000 in
set_option maxRecDepth 100000 in
theorem m_thrown (l : Launch) (g : Geo) (R : Nat → Nat → Int64) (B : Rul) (cd : Int32) (T P : Nat → Bool) (fo : Nat → Int32) (O : Nat → Int64) : Cd l g yX2_thrown wsX2_thrown (rmN 0 0) [.ref (gA g 5)] (R, B, (cd, bF T, bF P, fo), O) (some (.int (cd))) (R, B, (cd, bF T, bF P, fo), O) := by
  refine Cs.ofW RX2 rfl (by decide) rfl (Nat.le_of_ble_eq_true rfl) ?_
  intro p e s m below meth c E hr hk F I ls hl
  have hx := E.1
  have hb := E.2.1
  have hl : lv_has ls 1 [(0, .ref (gA g 5))] := hl
  refine lv_aload_n hx hb dX2_thrown_0 rfl (lv_at hl 0 rfl) ?_
  refine x_get 5 2 0 (C := RX2) (T := TX2) (N := 4) (v := .int (cd)) E F I inw_X2_thrown_X2 (by decide) rfl rfl (by decide) wm_X2_thrown_f21 rfl dX2_thrown_1 ?_
  exact x_iret hx hb hr hk F I ⟨rfl, rfl⟩ dX2_thrown_4
theorem hd_X2_thrown : yX2_thrown.cls ≠ "java/lang/invoke/MethodHandle" ∧ yX2_thrown.cls ≠ "java/lang/invoke/VarHandle" ∧ (parseMethodDescriptor yX2_thrown.desc).map (fun d => d.parameters.length) = some 0 := by decide +kernel
