theorem fil_step {g : Geo} {R : Nat → Nat → Int64} {B : Rul} {cd : Int32} {T P f : Nat → Bool} {fo : Nat → Int32} {O : Nat → Int64} {s : State} {H : Heap} {locs : List Loc} {i : Nat} {x : Int32} (I : Iv g (R, B, (cd, bF T, upd (bF (fil P f i)) i x, fo), O) s H locs) (h : x = bI (f i)) : Iv g (R, B, (cd, bF T, bF (fil P f (i + 1)), fo), O) s H locs := by
  rw [fil_s h] at I
  exact I
theorem wm_X2_constant_f14 : Cond.fieldLink RX2 14 "FunctionDeskModel" "fresh" "[Z" ∈ wsX2_constant := by decide +kernel
theorem inw_X2_constant_X2 : ∀ w ∈ wsX20, w ∈ wsX2_constant := by decide +kernel
set_option maxHeartbeats 4000000 in
set_option maxRecDepth 100000 in
theorem m_constant (l : Launch) (g : Geo) (R : Nat → Nat → Int64) (B : Rul) (cd : Int32) (T P : Nat → Bool) (fo : Nat → Int32) (O : Nat → Int64) (x1 : Int32) (t : Bool) : Cs l g yX2_constant wsX2_constant (rmN 1 60) [.ref (gA g 5), .int (x1), .int (bI (t))] (R, B, (cd, bF T, bF P, fo), O) (fun v' u' => v' = none ∧ ∃ (cd' : Int32) (T' P' : Nat → Bool), u' = (R, B, (cd', bF T', bF P', fo), O) ∧ ((¬ (okI 48 x1) ∧ cd' = 1 ∧ T' = T) ∨ ((okI 48 x1) ∧ ¬ (True) ∧ cd' = 2 ∧ T' = T) ∨ (cd' = 0 ∧ ∃ s0_ : Nat, s0_ < 48 ∧ x1 = nI s0_ ∧ MW T T' s0_ (fun _ => t)))) := by
  refine Cs.ofW RX2 rfl (by decide) rfl (Nat.le_of_ble_eq_true rfl) ?_
  intro p e s m below meth c E hr hk F I ls hl
  have hx := E.1
  have hb := E.2.1
  have hl : lv_has ls 4 [(0, .ref (gA g 5)), (1, .int (x1)), (2, .int (bI (t)))] := hl
  refine lv_aload_n hx hb dX2_constant_0 rfl (lv_at hl 0 rfl) ?_
  refine lv_iload_n hx hb dX2_constant_1 rfl (lv_at hl 1 rfl) ?_
  refine lv_bipush (v := nI (48)) hx hb dX2_constant_2 (by decide) ?_
  refine x_callSi (rest := [.ref (gA g 5)]) E F I (m_in l g R B (cd, bF T, bF P, fo) O (x1) (N := 48) (by decide)) gX2_constant_X2_in rfl hd_X2_in rfl rfl ⟨by decide, by decide⟩ ⟨by decide, by decide⟩ rfl hl.1 rfl (Nat.le_of_ble_eq_true rfl) dX2_constant_4 (fun H locs I => ?_)
  refine lv_iconst (v := nI (1)) hx hb dX2_constant_7 (by decide) ?_
  refine x_callVi 5 2 (rest := []) (C := RX2) (T0 := TX2) (N := 4) E F I (m_fails l g R B cd T P fo O (okB 48 x1) true) gX2_constant_X2_fails rfl (by decide) rfl rfl rfl hd_X2_fails rfl rfl ⟨by decide, by decide⟩ ⟨by decide, by decide⟩ rfl hl.1 rfl (Nat.le_of_ble_eq_true rfl) dX2_constant_8 (fun H locs I => ?_)
  refine n_zeq (tgt := 15) hx hb dX2_constant_11 (by decide) (fun h1 => ?_) (fun h1 => ?_)
  · obtain ⟨hSL, hNU, hcd⟩ := good_c (SL := okI 48 x1) (NU := True) okB_iff ⟨fun _ => trivial, fun _ => rfl⟩ h1
    rw [hcd] at I
    obtain ⟨s0, lt_s0, rfl⟩ := hSL
    have hl : lv_has ls 4 [(0, .ref (gA g 5)), (1, .int (nI (s0))), (2, .int (bI (t)))] := hl
    refine lv_iconst (v := nI (0)) hx hb dX2_constant_15 (by decide) ?_
    refine lv_istore_n (lv' := [(3, .int (nI (0))), (0, .ref (gA g 5)), (1, .int (nI (s0))), (2, .int (bI (t)))]) hx hb dX2_constant_16 rfl hl (by decide) rfl (fun ls hl => ?_)
    have loop : ∀ (n i : Nat), i ≤ 1024 → 1024 + 1 ≤ i + n → ∀ (H : Heap) (locs : List Loc) (ls : Array Slot), Iv g (R, B, (0, bF T, bF (fil P (fun _ => t) (i)), fo), O) s H locs → lv_has ls 4 [(0, .ref (gA g 5)), (1, .int (nI (s0))), (2, .int (bI (t))), (3, .int (nI (i)))] → W p l e (rmN 1 60) s m [.ref (gA g 5), .int ((nI s0)), .int (bI (t))].toArray below meth c H locs 0 0 (MQ below (Qs g (fun v' u' => v' = none ∧ ∃ (cd' : Int32) (T' P' : Nat → Bool), u' = (R, B, (cd', bF T', bF P', fo), O) ∧ ((¬ (okI 48 (nI s0)) ∧ cd' = 1 ∧ T' = T) ∨ ((okI 48 (nI s0)) ∧ ¬ (True) ∧ cd' = 2 ∧ T' = T) ∨ (cd' = 0 ∧ ∃ s0_ : Nat, s0_ < 48 ∧ (nI s0) = nI s0_ ∧ MW T T' s0_ (fun _ => t))))) [.ref (gA g 5), .int ((nI s0)), .int (bI (t))].toArray s 0 0 (gW g)) (F0 m 17 ls []) := by
      intro n
      induction n with
      | zero => intro i h1 h2; exact absurd h2 (by omega)
      | succ n ih_loop =>
        intro i hi hn H locs ls I hl
        refine lv_iload_n hx hb dX2_constant_17 rfl (lv_at hl 3 rfl) ?_
        refine lv_sipush (v := nI (1024)) hx hb dX2_constant_18 (by decide) ?_
        refine n_cge (tgt := 37) hx hb (by omega) (by omega) dX2_constant_21 (by decide) (fun h2 => ?_) (fun h2 => ?_)
        · obtain rfl : i = 1024 := by omega
          have hl : lv_has ls 4 [(0, .ref (gA g 5)), (1, .int (nI (s0))), (2, .int (bI (t))), (3, .int (nI (1024)))] := hl
          refine lv_aload_n hx hb dX2_constant_37 rfl (lv_at hl 0 rfl) ?_
          refine lv_iload_n hx hb dX2_constant_38 rfl (lv_at hl 1 rfl) ?_
          refine x_callVv 5 2 (rest := []) (C := RX2) (T0 := TX2) (N := 4) E F I (m_keep l g R B 0 T (fil P (fun _ => t) 1024) fo O (s0 := s0) (by omega)) gX2_constant_X2_keep rfl (by decide) rfl rfl rfl hd_X2_keep rfl rfl ⟨by decide, by decide⟩ ⟨by decide, by decide⟩ rfl hl.1 rfl (Nat.le_of_ble_eq_true rfl) dX2_constant_39 (fun H locs I => ?_)
          exact x_vret hx hb hr hk F I ⟨rfl, _, _, _, rfl, Or.inr (Or.inr ⟨rfl, s0, lt_s0, rfl, MW_fil⟩)⟩ dX2_constant_42
        · refine lv_aload_n hx hb dX2_constant_24 rfl (lv_at hl 0 rfl) ?_
          refine x_get 5 2 2 (C := RX2) (T := TX2) (N := 4) (v := .ref (gA g 7)) E F I inw_X2_constant_X2 (by decide) rfl rfl (by decide) wm_X2_constant_f14 rfl dX2_constant_25 ?_
          refine lv_iload_n hx hb dX2_constant_28 rfl (lv_at hl 3 rfl) ?_
          refine lv_iload_n hx hb dX2_constant_29 rfl (lv_at hl 2 rfl) ?_
          refine x_zastore 7 (u' := (R, B, (0, bF T, upd (bF (fil P (fun _ => t) (i))) (i) (bI (t)), fo), O)) (i := i) hx hb F I (by decide) (bI_nar _) rfl rfl ec_o7 (by decide) (by omega) dX2_constant_30 (fun H locs I => ?_)
          refine n_iinc (d := 1) (lv' := [(3, .int (nI (i + 1))), (0, .ref (gA g 5)), (1, .int (nI (s0))), (2, .int (bI (t)))]) hx hb dX2_constant_31 rfl hl (j := 3) rfl (by decide) rfl (fun ls hl => ?_)
          refine lv_goto (tgt := 17) hx hb dX2_constant_34 (by decide) ?_
          exact ih_loop (i + 1) (by omega) (by omega) _ _ ls (fil_step I rfl) (lv_sub hl [1, 2, 3, 0] rfl)
    exact loop (1024 + 1 - 0) (0) (by omega) (by omega) _ _ ls (by rw [fil_0]; exact I) (lv_sub hl [1, 2, 3, 0] rfl)
  · exact x_vret hx hb hr hk F I ⟨rfl, _, _, _, rfl, (fail_c (SL := okI 48 x1) (NU := True) okB_iff ⟨fun _ => trivial, fun _ => rfl⟩ h1).elim (fun q => Or.inl ⟨q.1, q.2, rfl⟩) (fun q => Or.inr (Or.inl ⟨q.1, q.2.1, q.2.2, rfl⟩))⟩ dX2_constant_14
theorem hd_X2_constant : yX2_constant.cls ≠ "java/lang/invoke/MethodHandle" ∧ yX2_constant.cls ≠ "java/lang/invoke/VarHandle" ∧ (parseMethodDescriptor yX2_constant.desc).map (fun d => d.parameters.length) = some 2 := by decide +kernel
theorem wm_X2_variable_f14 : Cond.fieldLink RX2 14 "FunctionDeskModel" "fresh" "[Z" ∈ wsX2_variable := by decide +kernel
theorem inw_X2_variable_X2 : ∀ w ∈ wsX20, w ∈ wsX2_variable := by decide +kernel
set_option maxHeartbeats 4000000 in
set_option maxRecDepth 100000 in
theorem m_variable (l : Launch) (g : Geo) (R : Nat → Nat → Int64) (B : Rul) (cd : Int32) (T P : Nat → Bool) (fo : Nat → Int32) (O : Nat → Int64) (x1 : Int32) (x2 : Int32) : Cs l g yX2_variable wsX2_variable (rmN 1 60) [.ref (gA g 5), .int (x1), .int (x2)] (R, B, (cd, bF T, bF P, fo), O) (fun v' u' => v' = none ∧ ∃ (cd' : Int32) (T' P' : Nat → Bool), u' = (R, B, (cd', bF T', bF P', fo), O) ∧ ((¬ (okI 48 x1) ∧ cd' = 1 ∧ T' = T) ∨ ((okI 48 x1) ∧ ¬ (okI 10 x2) ∧ cd' = 2 ∧ T' = T) ∨ (cd' = 0 ∧ ∃ s0_ v_ : Nat, s0_ < 48 ∧ v_ < 10 ∧ x1 = nI s0_ ∧ x2 = nI v_ ∧ MW T T' s0_ (fun k => (k &&& bitN v_) != 0)))) := by
  refine Cs.ofW RX2 rfl (by decide) rfl (Nat.le_of_ble_eq_true rfl) ?_
  intro p e s m below meth c E hr hk F I ls hl
  have hx := E.1
  have hb := E.2.1
  have hl : lv_has ls 4 [(0, .ref (gA g 5)), (1, .int (x1)), (2, .int (x2))] := hl
  refine lv_aload_n hx hb dX2_variable_0 rfl (lv_at hl 0 rfl) ?_
  refine lv_iload_n hx hb dX2_variable_1 rfl (lv_at hl 1 rfl) ?_
  refine lv_bipush (v := nI (48)) hx hb dX2_variable_2 (by decide) ?_
  refine x_callSi (rest := [.ref (gA g 5)]) E F I (m_in l g R B (cd, bF T, bF P, fo) O (x1) (N := 48) (by decide)) gX2_variable_X2_in rfl hd_X2_in rfl rfl ⟨by decide, by decide⟩ ⟨by decide, by decide⟩ rfl hl.1 rfl (Nat.le_of_ble_eq_true rfl) dX2_variable_4 (fun H locs I => ?_)
  refine lv_iload_n hx hb dX2_variable_7 rfl (lv_at hl 2 rfl) ?_
  refine lv_bipush (v := nI (10)) hx hb dX2_variable_8 (by decide) ?_
  refine x_callSi (rest := [.int (bI (okB 48 x1)), .ref (gA g 5)]) E F I (m_in l g R B (cd, bF T, bF P, fo) O (x2) (N := 10) (by decide)) gX2_variable_X2_in rfl hd_X2_in rfl rfl ⟨by decide, by decide⟩ ⟨by decide, by decide⟩ rfl hl.1 rfl (Nat.le_of_ble_eq_true rfl) dX2_variable_10 (fun H locs I => ?_)
  refine x_callVi 5 2 (rest := []) (C := RX2) (T0 := TX2) (N := 4) E F I (m_fails l g R B cd T P fo O (okB 48 x1) (okB 10 x2)) gX2_variable_X2_fails rfl (by decide) rfl rfl rfl hd_X2_fails rfl rfl ⟨by decide, by decide⟩ ⟨by decide, by decide⟩ rfl hl.1 rfl (Nat.le_of_ble_eq_true rfl) dX2_variable_13 (fun H locs I => ?_)
  refine n_zeq (tgt := 20) hx hb dX2_variable_16 (by decide) (fun h1 => ?_) (fun h1 => ?_)
  · obtain ⟨hSL, hNU, hcd⟩ := good_c (SL := okI 48 x1) (NU := okI 10 x2) okB_iff okB_iff h1
    rw [hcd] at I
    obtain ⟨s0, lt_s0, rfl⟩ := hSL
    obtain ⟨v, lt_v, rfl⟩ := hNU
    have hl : lv_has ls 4 [(0, .ref (gA g 5)), (1, .int (nI (s0))), (2, .int (nI (v)))] := hl
    refine lv_iconst (v := nI (0)) hx hb dX2_variable_20 (by decide) ?_
    refine lv_istore_n (lv' := [(3, .int (nI (0))), (0, .ref (gA g 5)), (1, .int (nI (s0))), (2, .int (nI (v)))]) hx hb dX2_variable_21 rfl hl (by decide) rfl (fun ls hl => ?_)
    have loop : ∀ (n i : Nat), i ≤ 1024 → 1024 + 1 ≤ i + n → ∀ (H : Heap) (locs : List Loc) (ls : Array Slot), Iv g (R, B, (0, bF T, bF (fil P (fun k => (k &&& bitN v) != 0) (i)), fo), O) s H locs → lv_has ls 4 [(0, .ref (gA g 5)), (1, .int (nI (s0))), (2, .int (nI (v))), (3, .int (nI (i)))] → W p l e (rmN 1 60) s m [.ref (gA g 5), .int ((nI s0)), .int ((nI v))].toArray below meth c H locs 0 0 (MQ below (Qs g (fun v' u' => v' = none ∧ ∃ (cd' : Int32) (T' P' : Nat → Bool), u' = (R, B, (cd', bF T', bF P', fo), O) ∧ ((¬ (okI 48 (nI s0)) ∧ cd' = 1 ∧ T' = T) ∨ ((okI 48 (nI s0)) ∧ ¬ (okI 10 (nI v)) ∧ cd' = 2 ∧ T' = T) ∨ (cd' = 0 ∧ ∃ s0_ v_ : Nat, s0_ < 48 ∧ v_ < 10 ∧ (nI s0) = nI s0_ ∧ (nI v) = nI v_ ∧ MW T T' s0_ (fun k => (k &&& bitN v_) != 0))))) [.ref (gA g 5), .int ((nI s0)), .int ((nI v))].toArray s 0 0 (gW g)) (F0 m 22 ls []) := by
      intro n
      induction n with
      | zero => intro i h1 h2; exact absurd h2 (by omega)
      | succ n ih_loop =>
        intro i hi hn H locs ls I hl
        refine lv_iload_n hx hb dX2_variable_22 rfl (lv_at hl 3 rfl) ?_
        refine lv_sipush (v := nI (1024)) hx hb dX2_variable_23 (by decide) ?_
        refine n_cge (tgt := 55) hx hb (by omega) (by omega) dX2_variable_26 (by decide) (fun h2 => ?_) (fun h2 => ?_)
        · obtain rfl : i = 1024 := by omega
          have hl : lv_has ls 4 [(0, .ref (gA g 5)), (1, .int (nI (s0))), (2, .int (nI (v))), (3, .int (nI (1024)))] := hl
          refine lv_aload_n hx hb dX2_variable_55 rfl (lv_at hl 0 rfl) ?_
          refine lv_iload_n hx hb dX2_variable_56 rfl (lv_at hl 1 rfl) ?_
          refine x_callVv 5 2 (rest := []) (C := RX2) (T0 := TX2) (N := 4) E F I (m_keep l g R B 0 T (fil P (fun k => (k &&& bitN v) != 0) 1024) fo O (s0 := s0) (by omega)) gX2_variable_X2_keep rfl (by decide) rfl rfl rfl hd_X2_keep rfl rfl ⟨by decide, by decide⟩ ⟨by decide, by decide⟩ rfl hl.1 rfl (Nat.le_of_ble_eq_true rfl) dX2_variable_57 (fun H locs I => ?_)
          exact x_vret hx hb hr hk F I ⟨rfl, _, _, _, rfl, Or.inr (Or.inr ⟨rfl, s0, v, lt_s0, lt_v, rfl, rfl, MW_fil⟩)⟩ dX2_variable_60
        · refine lv_aload_n hx hb dX2_variable_29 rfl (lv_at hl 0 rfl) ?_
          refine x_get 5 2 2 (C := RX2) (T := TX2) (N := 4) (v := .ref (gA g 7)) E F I inw_X2_variable_X2 (by decide) rfl rfl (by decide) wm_X2_variable_f14 rfl dX2_variable_30 ?_
          refine lv_iload_n hx hb dX2_variable_33 rfl (lv_at hl 3 rfl) ?_
          refine lv_iload_n hx hb dX2_variable_34 rfl (lv_at hl 3 rfl) ?_
          refine lv_iload_n hx hb dX2_variable_35 rfl (lv_at hl 2 rfl) ?_
          refine x_callSi (rest := [.int (nI (i)), .int (nI (i)), .ref (gA g 7)]) E F I (m_bit l g R B (0, bF T, bF (fil P (fun k => (k &&& bitN v) != 0) (i)), fo) O (v := v) (by omega)) gX2_variable_X2_bit rfl hd_X2_bit rfl rfl ⟨by decide, by decide⟩ ⟨by decide, by decide⟩ rfl hl.1 rfl (Nat.le_of_ble_eq_true rfl) dX2_variable_36 (fun H locs I => ?_)
          refine n_iand hx hb dX2_variable_39 ?_
          refine n_ifle (tgt := 47) hx hb (Nat.lt_of_le_of_lt Nat.and_le_left (by omega)) dX2_variable_40 (by decide) (fun h3 => ?_) (fun h3 => ?_)
          · refine lv_iconst (v := nI (0)) hx hb dX2_variable_47 (by decide) ?_
            refine x_zastore 7 (u' := (R, B, (0, bF T, upd (bF (fil P (fun k => (k &&& bitN v) != 0) (i))) (i) (nI (0)), fo), O)) (i := i) hx hb F I (by decide) (by decide +kernel) rfl rfl ec_o7 (by decide) (by omega) dX2_variable_48 (fun H locs I => ?_)
            refine n_iinc (d := 1) (lv' := [(3, .int (nI (i + 1))), (0, .ref (gA g 5)), (1, .int (nI (s0))), (2, .int (nI (v)))]) hx hb dX2_variable_49 rfl hl (j := 3) rfl (by decide) rfl (fun ls hl => ?_)
            refine lv_goto (tgt := 22) hx hb dX2_variable_52 (by decide) ?_
            exact ih_loop (i + 1) (by omega) (by omega) _ _ ls (fil_step I (by show _ = bI ((i &&& bitN v) != 0); rw [show ((i &&& bitN v) != 0) = false from by simp; omega]; rfl)) (lv_sub hl [1, 2, 3, 0] rfl)
          · refine lv_iconst (v := nI (1)) hx hb dX2_variable_43 (by decide) ?_
            refine lv_goto (tgt := 48) hx hb dX2_variable_44 (by decide) ?_
            refine x_zastore 7 (u' := (R, B, (0, bF T, upd (bF (fil P (fun k => (k &&& bitN v) != 0) (i))) (i) (nI (1)), fo), O)) (i := i) hx hb F I (by decide) (by decide +kernel) rfl rfl ec_o7 (by decide) (by omega) dX2_variable_48 (fun H locs I => ?_)
            refine n_iinc (d := 1) (lv' := [(3, .int (nI (i + 1))), (0, .ref (gA g 5)), (1, .int (nI (s0))), (2, .int (nI (v)))]) hx hb dX2_variable_49 rfl hl (j := 3) rfl (by decide) rfl (fun ls hl => ?_)
            refine lv_goto (tgt := 22) hx hb dX2_variable_52 (by decide) ?_
            exact ih_loop (i + 1) (by omega) (by omega) _ _ ls (fil_step I (by show _ = bI ((i &&& bitN v) != 0); rw [show ((i &&& bitN v) != 0) = true from by simp; omega]; rfl)) (lv_sub hl [1, 2, 3, 0] rfl)
    exact loop (1024 + 1 - 0) (0) (by omega) (by omega) _ _ ls (by rw [fil_0]; exact I) (lv_sub hl [1, 2, 3, 0] rfl)
  · exact x_vret hx hb hr hk F I ⟨rfl, _, _, _, rfl, (fail_c (SL := okI 48 x1) (NU := okI 10 x2) okB_iff okB_iff h1).elim (fun q => Or.inl ⟨q.1, q.2, rfl⟩) (fun q => Or.inr (Or.inl ⟨q.1, q.2.1, q.2.2, rfl⟩))⟩ dX2_variable_19
theorem hd_X2_variable : yX2_variable.cls ≠ "java/lang/invoke/MethodHandle" ∧ yX2_variable.cls ≠ "java/lang/invoke/VarHandle" ∧ (parseMethodDescriptor yX2_variable.desc).map (fun d => d.parameters.length) = some 2 := by decide +kernel
theorem wm_X2_choose_f14 : Cond.fieldLink RX2 14 "FunctionDeskModel" "fresh" "[Z" ∈ wsX2_choose := by decide +kernel
theorem inw_X2_choose_X2 : ∀ w ∈ wsX20, w ∈ wsX2_choose := by decide +kernel
set_option maxHeartbeats 4000000 in
set_option maxRecDepth 100000 in
theorem m_choose (l : Launch) (g : Geo) (R : Nat → Nat → Int64) (B : Rul) (cd : Int32) (T P : Nat → Bool) (fo : Nat → Int32) (O : Nat → Int64) (x1 : Int32) (x2 : Int32) (x3 : Int32) (x4 : Int32) : Cs l g yX2_choose wsX2_choose (rmN 1 60) [.ref (gA g 5), .int (x1), .int (x2), .int (x3), .int (x4)] (R, B, (cd, bF T, bF P, fo), O) (fun v' u' => v' = none ∧ ∃ (cd' : Int32) (T' P' : Nat → Bool), u' = (R, B, (cd', bF T', bF P', fo), O) ∧ ((¬ (okI 48 x1 ∧ okI 48 x2 ∧ okI 48 x3 ∧ okI 48 x4) ∧ cd' = 1 ∧ T' = T) ∨ ((okI 48 x1 ∧ okI 48 x2 ∧ okI 48 x3 ∧ okI 48 x4) ∧ ¬ (True) ∧ cd' = 2 ∧ T' = T) ∨ (cd' = 0 ∧ ∃ s0_ a_ b_ c0_ : Nat, s0_ < 48 ∧ a_ < 48 ∧ b_ < 48 ∧ c0_ < 48 ∧ x1 = nI s0_ ∧ x2 = nI a_ ∧ x3 = nI b_ ∧ x4 = nI c0_ ∧ MW T T' s0_ (fun k => if T (1024 * a_ + k) then T (1024 * b_ + k) else T (1024 * c0_ + k))))) := by
  refine Cs.ofW RX2 rfl (by decide) rfl (Nat.le_of_ble_eq_true rfl) ?_
  intro p e s m below meth c E hr hk F I ls hl
  have hx := E.1
  have hb := E.2.1
  have hl : lv_has ls 6 [(0, .ref (gA g 5)), (1, .int (x1)), (2, .int (x2)), (3, .int (x3)), (4, .int (x4))] := hl
  refine lv_aload_n hx hb dX2_choose_0 rfl (lv_at hl 0 rfl) ?_
  refine lv_iload_n hx hb dX2_choose_1 rfl (lv_at hl 1 rfl) ?_
  refine lv_bipush (v := nI (48)) hx hb dX2_choose_2 (by decide) ?_
  refine x_callSi (rest := [.ref (gA g 5)]) E F I (m_in l g R B (cd, bF T, bF P, fo) O (x1) (N := 48) (by decide)) gX2_choose_X2_in rfl hd_X2_in rfl rfl ⟨by decide, by decide⟩ ⟨by decide, by decide⟩ rfl hl.1 rfl (Nat.le_of_ble_eq_true rfl) dX2_choose_4 (fun H locs I => ?_)
  refine n_zeq (tgt := 42) hx hb dX2_choose_7 (by decide) (fun h1 => ?_) (fun h1 => ?_)
  · refine lv_iconst (v := nI (0)) hx hb dX2_choose_42 (by decide) ?_
    refine lv_iconst (v := nI (1)) hx hb dX2_choose_43 (by decide) ?_
    refine x_callVi 5 2 (rest := []) (C := RX2) (T0 := TX2) (N := 4) E F I (m_fails l g R B cd T P fo O false true) gX2_choose_X2_fails rfl (by decide) rfl rfl rfl hd_X2_fails rfl rfl ⟨by decide, by decide⟩ ⟨by decide, by decide⟩ rfl hl.1 rfl (Nat.le_of_ble_eq_true rfl) dX2_choose_44 (fun H locs I => ?_)
    refine n_zeq (tgt := 51) hx hb dX2_choose_47 (by decide) (fun h2 => ?_) (fun h2 => ?_)
    · exact absurd h2 (by simp)
    · exact x_vret hx hb hr hk F I ⟨rfl, _, _, _, rfl, (fail_c (SL := okI 48 x1 ∧ okI 48 x2 ∧ okI 48 x3 ∧ okI 48 x4) (NU := True) ⟨fun q => absurd q (by decide), fun q => absurd q.1 (okB_f h1)⟩ ⟨fun _ => trivial, fun _ => rfl⟩ h2).elim (fun q => Or.inl ⟨q.1, q.2, rfl⟩) (fun q => Or.inr (Or.inl ⟨q.1, q.2.1, q.2.2, rfl⟩))⟩ dX2_choose_50
  · refine lv_iload_n hx hb dX2_choose_10 rfl (lv_at hl 2 rfl) ?_
    refine lv_bipush (v := nI (48)) hx hb dX2_choose_11 (by decide) ?_
    refine x_callSi (rest := [.ref (gA g 5)]) E F I (m_in l g R B (cd, bF T, bF P, fo) O (x2) (N := 48) (by decide)) gX2_choose_X2_in rfl hd_X2_in rfl rfl ⟨by decide, by decide⟩ ⟨by decide, by decide⟩ rfl hl.1 rfl (Nat.le_of_ble_eq_true rfl) dX2_choose_13 (fun H locs I => ?_)
    refine n_zeq (tgt := 42) hx hb dX2_choose_16 (by decide) (fun h3 => ?_) (fun h3 => ?_)
    · refine lv_iconst (v := nI (0)) hx hb dX2_choose_42 (by decide) ?_
      refine lv_iconst (v := nI (1)) hx hb dX2_choose_43 (by decide) ?_
      refine x_callVi 5 2 (rest := []) (C := RX2) (T0 := TX2) (N := 4) E F I (m_fails l g R B cd T P fo O false true) gX2_choose_X2_fails rfl (by decide) rfl rfl rfl hd_X2_fails rfl rfl ⟨by decide, by decide⟩ ⟨by decide, by decide⟩ rfl hl.1 rfl (Nat.le_of_ble_eq_true rfl) dX2_choose_44 (fun H locs I => ?_)
      refine n_zeq (tgt := 51) hx hb dX2_choose_47 (by decide) (fun h4 => ?_) (fun h4 => ?_)
      · exact absurd h4 (by simp)
      · exact x_vret hx hb hr hk F I ⟨rfl, _, _, _, rfl, (fail_c (SL := okI 48 x1 ∧ okI 48 x2 ∧ okI 48 x3 ∧ okI 48 x4) (NU := True) ⟨fun q => absurd q (by decide), fun q => absurd q.2.1 (okB_f h3)⟩ ⟨fun _ => trivial, fun _ => rfl⟩ h4).elim (fun q => Or.inl ⟨q.1, q.2, rfl⟩) (fun q => Or.inr (Or.inl ⟨q.1, q.2.1, q.2.2, rfl⟩))⟩ dX2_choose_50
    · refine lv_iload_n hx hb dX2_choose_19 rfl (lv_at hl 3 rfl) ?_
      refine lv_bipush (v := nI (48)) hx hb dX2_choose_20 (by decide) ?_
      refine x_callSi (rest := [.ref (gA g 5)]) E F I (m_in l g R B (cd, bF T, bF P, fo) O (x3) (N := 48) (by decide)) gX2_choose_X2_in rfl hd_X2_in rfl rfl ⟨by decide, by decide⟩ ⟨by decide, by decide⟩ rfl hl.1 rfl (Nat.le_of_ble_eq_true rfl) dX2_choose_22 (fun H locs I => ?_)
      refine n_zeq (tgt := 42) hx hb dX2_choose_25 (by decide) (fun h5 => ?_) (fun h5 => ?_)
      · refine lv_iconst (v := nI (0)) hx hb dX2_choose_42 (by decide) ?_
        refine lv_iconst (v := nI (1)) hx hb dX2_choose_43 (by decide) ?_
        refine x_callVi 5 2 (rest := []) (C := RX2) (T0 := TX2) (N := 4) E F I (m_fails l g R B cd T P fo O false true) gX2_choose_X2_fails rfl (by decide) rfl rfl rfl hd_X2_fails rfl rfl ⟨by decide, by decide⟩ ⟨by decide, by decide⟩ rfl hl.1 rfl (Nat.le_of_ble_eq_true rfl) dX2_choose_44 (fun H locs I => ?_)
        refine n_zeq (tgt := 51) hx hb dX2_choose_47 (by decide) (fun h6 => ?_) (fun h6 => ?_)
        · exact absurd h6 (by simp)
        · exact x_vret hx hb hr hk F I ⟨rfl, _, _, _, rfl, (fail_c (SL := okI 48 x1 ∧ okI 48 x2 ∧ okI 48 x3 ∧ okI 48 x4) (NU := True) ⟨fun q => absurd q (by decide), fun q => absurd q.2.2.1 (okB_f h5)⟩ ⟨fun _ => trivial, fun _ => rfl⟩ h6).elim (fun q => Or.inl ⟨q.1, q.2, rfl⟩) (fun q => Or.inr (Or.inl ⟨q.1, q.2.1, q.2.2, rfl⟩))⟩ dX2_choose_50
      · refine lv_iload hx hb dX2_choose_28 (lv_at hl 4 rfl) ?_
        refine lv_bipush (v := nI (48)) hx hb dX2_choose_30 (by decide) ?_
        refine x_callSi (rest := [.ref (gA g 5)]) E F I (m_in l g R B (cd, bF T, bF P, fo) O (x4) (N := 48) (by decide)) gX2_choose_X2_in rfl hd_X2_in rfl rfl ⟨by decide, by decide⟩ ⟨by decide, by decide⟩ rfl hl.1 rfl (Nat.le_of_ble_eq_true rfl) dX2_choose_32 (fun H locs I => ?_)
        refine n_zeq (tgt := 42) hx hb dX2_choose_35 (by decide) (fun h7 => ?_) (fun h7 => ?_)
        · refine lv_iconst (v := nI (0)) hx hb dX2_choose_42 (by decide) ?_
          refine lv_iconst (v := nI (1)) hx hb dX2_choose_43 (by decide) ?_
          refine x_callVi 5 2 (rest := []) (C := RX2) (T0 := TX2) (N := 4) E F I (m_fails l g R B cd T P fo O false true) gX2_choose_X2_fails rfl (by decide) rfl rfl rfl hd_X2_fails rfl rfl ⟨by decide, by decide⟩ ⟨by decide, by decide⟩ rfl hl.1 rfl (Nat.le_of_ble_eq_true rfl) dX2_choose_44 (fun H locs I => ?_)
          refine n_zeq (tgt := 51) hx hb dX2_choose_47 (by decide) (fun h8 => ?_) (fun h8 => ?_)
          · exact absurd h8 (by simp)
          · exact x_vret hx hb hr hk F I ⟨rfl, _, _, _, rfl, (fail_c (SL := okI 48 x1 ∧ okI 48 x2 ∧ okI 48 x3 ∧ okI 48 x4) (NU := True) ⟨fun q => absurd q (by decide), fun q => absurd q.2.2.2 (okB_f h7)⟩ ⟨fun _ => trivial, fun _ => rfl⟩ h8).elim (fun q => Or.inl ⟨q.1, q.2, rfl⟩) (fun q => Or.inr (Or.inl ⟨q.1, q.2.1, q.2.2, rfl⟩))⟩ dX2_choose_50
        · refine lv_iconst (v := nI (1)) hx hb dX2_choose_38 (by decide) ?_
          refine lv_goto (tgt := 43) hx hb dX2_choose_39 (by decide) ?_
          refine lv_iconst (v := nI (1)) hx hb dX2_choose_43 (by decide) ?_
          refine x_callVi 5 2 (rest := []) (C := RX2) (T0 := TX2) (N := 4) E F I (m_fails l g R B cd T P fo O true true) gX2_choose_X2_fails rfl (by decide) rfl rfl rfl hd_X2_fails rfl rfl ⟨by decide, by decide⟩ ⟨by decide, by decide⟩ rfl hl.1 rfl (Nat.le_of_ble_eq_true rfl) dX2_choose_44 (fun H locs I => ?_)
          refine n_zeq (tgt := 51) hx hb dX2_choose_47 (by decide) (fun h9 => ?_) (fun h9 => ?_)
          · obtain ⟨hSL, hNU, hcd⟩ := good_c (SL := okI 48 x1 ∧ okI 48 x2 ∧ okI 48 x3 ∧ okI 48 x4) (NU := True) ⟨fun _ => ⟨okB_iff.mp h1, okB_iff.mp h3, okB_iff.mp h5, okB_iff.mp h7⟩, fun _ => rfl⟩ ⟨fun _ => trivial, fun _ => rfl⟩ h9
            rw [hcd] at I
            obtain ⟨⟨s0, lt_s0, rfl⟩, ⟨a, lt_a, rfl⟩, ⟨b, lt_b, rfl⟩, ⟨c0, lt_c0, rfl⟩⟩ := hSL
            have hl : lv_has ls 6 [(0, .ref (gA g 5)), (1, .int (nI (s0))), (2, .int (nI (a))), (3, .int (nI (b))), (4, .int (nI (c0)))] := hl
            refine lv_iconst (v := nI (0)) hx hb dX2_choose_51 (by decide) ?_
            refine lv_istore (lv' := [(5, .int (nI (0))), (0, .ref (gA g 5)), (1, .int (nI (s0))), (2, .int (nI (a))), (3, .int (nI (b))), (4, .int (nI (c0)))]) hx hb dX2_choose_52 hl (by decide) rfl (fun ls hl => ?_)
            have loop : ∀ (n i : Nat), i ≤ 1024 → 1024 + 1 ≤ i + n → ∀ (H : Heap) (locs : List Loc) (ls : Array Slot), Iv g (R, B, (0, bF T, bF (fil P (fun k => if T (1024 * a + k) then T (1024 * b + k) else T (1024 * c0 + k)) (i)), fo), O) s H locs → lv_has ls 6 [(0, .ref (gA g 5)), (1, .int (nI (s0))), (2, .int (nI (a))), (3, .int (nI (b))), (4, .int (nI (c0))), (5, .int (nI (i)))] → W p l e (rmN 1 60) s m [.ref (gA g 5), .int ((nI s0)), .int ((nI a)), .int ((nI b)), .int ((nI c0))].toArray below meth c H locs 0 0 (MQ below (Qs g (fun v' u' => v' = none ∧ ∃ (cd' : Int32) (T' P' : Nat → Bool), u' = (R, B, (cd', bF T', bF P', fo), O) ∧ ((¬ (okI 48 (nI s0) ∧ okI 48 (nI a) ∧ okI 48 (nI b) ∧ okI 48 (nI c0)) ∧ cd' = 1 ∧ T' = T) ∨ ((okI 48 (nI s0) ∧ okI 48 (nI a) ∧ okI 48 (nI b) ∧ okI 48 (nI c0)) ∧ ¬ (True) ∧ cd' = 2 ∧ T' = T) ∨ (cd' = 0 ∧ ∃ s0_ a_ b_ c0_ : Nat, s0_ < 48 ∧ a_ < 48 ∧ b_ < 48 ∧ c0_ < 48 ∧ (nI s0) = nI s0_ ∧ (nI a) = nI a_ ∧ (nI b) = nI b_ ∧ (nI c0) = nI c0_ ∧ MW T T' s0_ (fun k => if T (1024 * a_ + k) then T (1024 * b_ + k) else T (1024 * c0_ + k)))))) [.ref (gA g 5), .int ((nI s0)), .int ((nI a)), .int ((nI b)), .int ((nI c0))].toArray s 0 0 (gW g)) (F0 m 54 ls []) := by
              intro n
              induction n with
              | zero => intro i h1 h2; exact absurd h2 (by omega)
              | succ n ih_loop =>
                intro i hi hn H locs ls I hl
                refine lv_iload hx hb dX2_choose_54 (lv_at hl 5 rfl) ?_
                refine lv_sipush (v := nI (1024)) hx hb dX2_choose_56 (by decide) ?_
                refine n_cge (tgt := 103) hx hb (by omega) (by omega) dX2_choose_59 (by decide) (fun h10 => ?_) (fun h10 => ?_)
                · obtain rfl : i = 1024 := by omega
                  have hl : lv_has ls 6 [(0, .ref (gA g 5)), (1, .int (nI (s0))), (2, .int (nI (a))), (3, .int (nI (b))), (4, .int (nI (c0))), (5, .int (nI (1024)))] := hl
                  refine lv_aload_n hx hb dX2_choose_103 rfl (lv_at hl 0 rfl) ?_
                  refine lv_iload_n hx hb dX2_choose_104 rfl (lv_at hl 1 rfl) ?_
                  refine x_callVv 5 2 (rest := []) (C := RX2) (T0 := TX2) (N := 4) E F I (m_keep l g R B 0 T (fil P (fun k => if T (1024 * a + k) then T (1024 * b + k) else T (1024 * c0 + k)) 1024) fo O (s0 := s0) (by omega)) gX2_choose_X2_keep rfl (by decide) rfl rfl rfl hd_X2_keep rfl rfl ⟨by decide, by decide⟩ ⟨by decide, by decide⟩ rfl hl.1 rfl (Nat.le_of_ble_eq_true rfl) dX2_choose_105 (fun H locs I => ?_)
                  exact x_vret hx hb hr hk F I ⟨rfl, _, _, _, rfl, Or.inr (Or.inr ⟨rfl, s0, a, b, c0, lt_s0, lt_a, lt_b, lt_c0, rfl, rfl, rfl, rfl, MW_fil⟩)⟩ dX2_choose_108
                · refine lv_aload_n hx hb dX2_choose_62 rfl (lv_at hl 0 rfl) ?_
                  refine x_get 5 2 2 (C := RX2) (T := TX2) (N := 4) (v := .ref (gA g 7)) E F I inw_X2_choose_X2 (by decide) rfl rfl (by decide) wm_X2_choose_f14 rfl dX2_choose_63 ?_
                  refine lv_iload hx hb dX2_choose_66 (lv_at hl 5 rfl) ?_
                  refine lv_aload_n hx hb dX2_choose_68 rfl (lv_at hl 0 rfl) ?_
                  refine lv_iload_n hx hb dX2_choose_69 rfl (lv_at hl 2 rfl) ?_
                  refine lv_iload hx hb dX2_choose_70 (lv_at hl 5 rfl) ?_
                  refine x_callVi 5 2 (rest := [.int (nI (i)), .ref (gA g 7)]) (C := RX2) (T0 := TX2) (N := 4) E F I (m_of l g R B 0 T (fil P (fun k => if T (1024 * a + k) then T (1024 * b + k) else T (1024 * c0 + k)) (i)) fo O (a := a) (k := i) (by omega) (by omega)) gX2_choose_X2_of rfl (by decide) rfl rfl rfl hd_X2_of rfl rfl ⟨by decide, by decide⟩ ⟨by decide, by decide⟩ rfl hl.1 rfl (Nat.le_of_ble_eq_true rfl) dX2_choose_72 (fun H locs I => ?_)
                  refine n_zeq (tgt := 88) hx hb dX2_choose_75 (by decide) (fun h11 => ?_) (fun h11 => ?_)
                  · refine lv_aload_n hx hb dX2_choose_88 rfl (lv_at hl 0 rfl) ?_
                    refine lv_iload hx hb dX2_choose_89 (lv_at hl 4 rfl) ?_
                    refine lv_iload hx hb dX2_choose_91 (lv_at hl 5 rfl) ?_
                    refine x_callVi 5 2 (rest := [.int (nI (i)), .ref (gA g 7)]) (C := RX2) (T0 := TX2) (N := 4) E F I (m_of l g R B 0 T (fil P (fun k => if T (1024 * a + k) then T (1024 * b + k) else T (1024 * c0 + k)) (i)) fo O (a := c0) (k := i) (by omega) (by omega)) gX2_choose_X2_of rfl (by decide) rfl rfl rfl hd_X2_of rfl rfl ⟨by decide, by decide⟩ ⟨by decide, by decide⟩ rfl hl.1 rfl (Nat.le_of_ble_eq_true rfl) dX2_choose_93 (fun H locs I => ?_)
                    refine x_zastore 7 (u' := (R, B, (0, bF T, upd (bF (fil P (fun k => if T (1024 * a + k) then T (1024 * b + k) else T (1024 * c0 + k)) (i))) (i) (bI (T (1024 * c0 + i))), fo), O)) (i := i) hx hb F I (by decide) (bI_nar _) rfl rfl ec_o7 (by decide) (by omega) dX2_choose_96 (fun H locs I => ?_)
                    refine n_iinc (d := 1) (lv' := [(5, .int (nI (i + 1))), (0, .ref (gA g 5)), (1, .int (nI (s0))), (2, .int (nI (a))), (3, .int (nI (b))), (4, .int (nI (c0)))]) hx hb dX2_choose_97 rfl hl (j := 5) rfl (by decide) rfl (fun ls hl => ?_)
                    refine lv_goto (tgt := 54) hx hb dX2_choose_100 (by decide) ?_
                    exact ih_loop (i + 1) (by omega) (by omega) _ _ ls (fil_step I (by simp [*])) (lv_sub hl [1, 2, 3, 4, 5, 0] rfl)
                  · refine lv_aload_n hx hb dX2_choose_78 rfl (lv_at hl 0 rfl) ?_
                    refine lv_iload_n hx hb dX2_choose_79 rfl (lv_at hl 3 rfl) ?_
                    refine lv_iload hx hb dX2_choose_80 (lv_at hl 5 rfl) ?_
                    refine x_callVi 5 2 (rest := [.int (nI (i)), .ref (gA g 7)]) (C := RX2) (T0 := TX2) (N := 4) E F I (m_of l g R B 0 T (fil P (fun k => if T (1024 * a + k) then T (1024 * b + k) else T (1024 * c0 + k)) (i)) fo O (a := b) (k := i) (by omega) (by omega)) gX2_choose_X2_of rfl (by decide) rfl rfl rfl hd_X2_of rfl rfl ⟨by decide, by decide⟩ ⟨by decide, by decide⟩ rfl hl.1 rfl (Nat.le_of_ble_eq_true rfl) dX2_choose_82 (fun H locs I => ?_)
                    refine lv_goto (tgt := 96) hx hb dX2_choose_85 (by decide) ?_
                    refine x_zastore 7 (u' := (R, B, (0, bF T, upd (bF (fil P (fun k => if T (1024 * a + k) then T (1024 * b + k) else T (1024 * c0 + k)) (i))) (i) (bI (T (1024 * b + i))), fo), O)) (i := i) hx hb F I (by decide) (bI_nar _) rfl rfl ec_o7 (by decide) (by omega) dX2_choose_96 (fun H locs I => ?_)
                    refine n_iinc (d := 1) (lv' := [(5, .int (nI (i + 1))), (0, .ref (gA g 5)), (1, .int (nI (s0))), (2, .int (nI (a))), (3, .int (nI (b))), (4, .int (nI (c0)))]) hx hb dX2_choose_97 rfl hl (j := 5) rfl (by decide) rfl (fun ls hl => ?_)
                    refine lv_goto (tgt := 54) hx hb dX2_choose_100 (by decide) ?_
                    exact ih_loop (i + 1) (by omega) (by omega) _ _ ls (fil_step I (by simp [*])) (lv_sub hl [1, 2, 3, 4, 5, 0] rfl)
            exact loop (1024 + 1 - 0) (0) (by omega) (by omega) _ _ ls (by rw [fil_0]; exact I) (lv_sub hl [1, 2, 3, 4, 5, 0] rfl)
          · exact x_vret hx hb hr hk F I ⟨rfl, _, _, _, rfl, (fail_c (SL := okI 48 x1 ∧ okI 48 x2 ∧ okI 48 x3 ∧ okI 48 x4) (NU := True) ⟨fun _ => ⟨okB_iff.mp h1, okB_iff.mp h3, okB_iff.mp h5, okB_iff.mp h7⟩, fun _ => rfl⟩ ⟨fun _ => trivial, fun _ => rfl⟩ h9).elim (fun q => Or.inl ⟨q.1, q.2, rfl⟩) (fun q => Or.inr (Or.inl ⟨q.1, q.2.1, q.2.2, rfl⟩))⟩ dX2_choose_50
theorem hd_X2_choose : yX2_choose.cls ≠ "java/lang/invoke/MethodHandle" ∧ yX2_choose.cls ≠ "java/lang/invoke/VarHandle" ∧ (parseMethodDescriptor yX2_choose.desc).map (fun d => d.parameters.length) = some 4 := by decide +kernel
theorem wm_X2_fix_f14 : Cond.fieldLink RX2 14 "FunctionDeskModel" "fresh" "[Z" ∈ wsX2_fix := by decide +kernel
theorem inw_X2_fix_X2 : ∀ w ∈ wsX20, w ∈ wsX2_fix := by decide +kernel
set_option maxHeartbeats 4000000 in
set_option maxRecDepth 100000 in
theorem m_fix (l : Launch) (g : Geo) (R : Nat → Nat → Int64) (B : Rul) (cd : Int32) (T P : Nat → Bool) (fo : Nat → Int32) (O : Nat → Int64) (x1 : Int32) (x2 : Int32) (x3 : Int32) (t : Bool) : Cs l g yX2_fix wsX2_fix (rmN 2 60) [.ref (gA g 5), .int (x1), .int (x2), .int (x3), .int (bI (t))] (R, B, (cd, bF T, bF P, fo), O) (fun v' u' => v' = none ∧ ∃ (cd' : Int32) (T' P' : Nat → Bool), u' = (R, B, (cd', bF T', bF P', fo), O) ∧ ((¬ (okI 48 x1 ∧ okI 48 x2) ∧ cd' = 1 ∧ T' = T) ∨ ((okI 48 x1 ∧ okI 48 x2) ∧ ¬ (okI 10 x3) ∧ cd' = 2 ∧ T' = T) ∨ (cd' = 0 ∧ ∃ s0_ a_ v_ : Nat, s0_ < 48 ∧ a_ < 48 ∧ v_ < 10 ∧ x1 = nI s0_ ∧ x2 = nI a_ ∧ x3 = nI v_ ∧ MW T T' s0_ (fun k => T (1024 * a_ + wth k v_ t))))) := by
  refine Cs.ofW RX2 rfl (by decide) rfl (Nat.le_of_ble_eq_true rfl) ?_
  intro p e s m below meth c E hr hk F I ls hl
  have hx := E.1
  have hb := E.2.1
  have hl : lv_has ls 6 [(0, .ref (gA g 5)), (1, .int (x1)), (2, .int (x2)), (3, .int (x3)), (4, .int (bI (t)))] := hl
  refine lv_aload_n hx hb dX2_fix_0 rfl (lv_at hl 0 rfl) ?_
  refine lv_iload_n hx hb dX2_fix_1 rfl (lv_at hl 1 rfl) ?_
  refine lv_bipush (v := nI (48)) hx hb dX2_fix_2 (by decide) ?_
  refine x_callSi (rest := [.ref (gA g 5)]) E F I (m_in l g R B (cd, bF T, bF P, fo) O (x1) (N := 48) (by decide)) gX2_fix_X2_in rfl hd_X2_in rfl rfl ⟨by decide, by decide⟩ ⟨by decide, by decide⟩ rfl hl.1 rfl (Nat.le_of_ble_eq_true rfl) dX2_fix_4 (fun H locs I => ?_)
  refine n_zeq (tgt := 23) hx hb dX2_fix_7 (by decide) (fun h1 => ?_) (fun h1 => ?_)
  · refine lv_iconst (v := nI (0)) hx hb dX2_fix_23 (by decide) ?_
    refine lv_iload_n hx hb dX2_fix_24 rfl (lv_at hl 3 rfl) ?_
    refine lv_bipush (v := nI (10)) hx hb dX2_fix_25 (by decide) ?_
    refine x_callSi (rest := [.int (nI (0)), .ref (gA g 5)]) E F I (m_in l g R B (cd, bF T, bF P, fo) O (x3) (N := 10) (by decide)) gX2_fix_X2_in rfl hd_X2_in rfl rfl ⟨by decide, by decide⟩ ⟨by decide, by decide⟩ rfl hl.1 rfl (Nat.le_of_ble_eq_true rfl) dX2_fix_27 (fun H locs I => ?_)
    refine x_callVi 5 2 (rest := []) (C := RX2) (T0 := TX2) (N := 4) E F I (m_fails l g R B cd T P fo O false (okB 10 x3)) gX2_fix_X2_fails rfl (by decide) rfl rfl rfl hd_X2_fails rfl rfl ⟨by decide, by decide⟩ ⟨by decide, by decide⟩ rfl hl.1 rfl (Nat.le_of_ble_eq_true rfl) dX2_fix_30 (fun H locs I => ?_)
    refine n_zeq (tgt := 37) hx hb dX2_fix_33 (by decide) (fun h2 => ?_) (fun h2 => ?_)
    · exact absurd h2 (by simp)
    · exact x_vret hx hb hr hk F I ⟨rfl, _, _, _, rfl, (fail_c (SL := okI 48 x1 ∧ okI 48 x2) (NU := okI 10 x3) ⟨fun q => absurd q (by decide), fun q => absurd q.1 (okB_f h1)⟩ okB_iff h2).elim (fun q => Or.inl ⟨q.1, q.2, rfl⟩) (fun q => Or.inr (Or.inl ⟨q.1, q.2.1, q.2.2, rfl⟩))⟩ dX2_fix_36
  · refine lv_iload_n hx hb dX2_fix_10 rfl (lv_at hl 2 rfl) ?_
    refine lv_bipush (v := nI (48)) hx hb dX2_fix_11 (by decide) ?_
    refine x_callSi (rest := [.ref (gA g 5)]) E F I (m_in l g R B (cd, bF T, bF P, fo) O (x2) (N := 48) (by decide)) gX2_fix_X2_in rfl hd_X2_in rfl rfl ⟨by decide, by decide⟩ ⟨by decide, by decide⟩ rfl hl.1 rfl (Nat.le_of_ble_eq_true rfl) dX2_fix_13 (fun H locs I => ?_)
    refine n_zeq (tgt := 23) hx hb dX2_fix_16 (by decide) (fun h3 => ?_) (fun h3 => ?_)
    · refine lv_iconst (v := nI (0)) hx hb dX2_fix_23 (by decide) ?_
      refine lv_iload_n hx hb dX2_fix_24 rfl (lv_at hl 3 rfl) ?_
      refine lv_bipush (v := nI (10)) hx hb dX2_fix_25 (by decide) ?_
      refine x_callSi (rest := [.int (nI (0)), .ref (gA g 5)]) E F I (m_in l g R B (cd, bF T, bF P, fo) O (x3) (N := 10) (by decide)) gX2_fix_X2_in rfl hd_X2_in rfl rfl ⟨by decide, by decide⟩ ⟨by decide, by decide⟩ rfl hl.1 rfl (Nat.le_of_ble_eq_true rfl) dX2_fix_27 (fun H locs I => ?_)
      refine x_callVi 5 2 (rest := []) (C := RX2) (T0 := TX2) (N := 4) E F I (m_fails l g R B cd T P fo O false (okB 10 x3)) gX2_fix_X2_fails rfl (by decide) rfl rfl rfl hd_X2_fails rfl rfl ⟨by decide, by decide⟩ ⟨by decide, by decide⟩ rfl hl.1 rfl (Nat.le_of_ble_eq_true rfl) dX2_fix_30 (fun H locs I => ?_)
      refine n_zeq (tgt := 37) hx hb dX2_fix_33 (by decide) (fun h4 => ?_) (fun h4 => ?_)
      · exact absurd h4 (by simp)
      · exact x_vret hx hb hr hk F I ⟨rfl, _, _, _, rfl, (fail_c (SL := okI 48 x1 ∧ okI 48 x2) (NU := okI 10 x3) ⟨fun q => absurd q (by decide), fun q => absurd q.2 (okB_f h3)⟩ okB_iff h4).elim (fun q => Or.inl ⟨q.1, q.2, rfl⟩) (fun q => Or.inr (Or.inl ⟨q.1, q.2.1, q.2.2, rfl⟩))⟩ dX2_fix_36
    · refine lv_iconst (v := nI (1)) hx hb dX2_fix_19 (by decide) ?_
      refine lv_goto (tgt := 24) hx hb dX2_fix_20 (by decide) ?_
      refine lv_iload_n hx hb dX2_fix_24 rfl (lv_at hl 3 rfl) ?_
      refine lv_bipush (v := nI (10)) hx hb dX2_fix_25 (by decide) ?_
      refine x_callSi (rest := [.int (nI (1)), .ref (gA g 5)]) E F I (m_in l g R B (cd, bF T, bF P, fo) O (x3) (N := 10) (by decide)) gX2_fix_X2_in rfl hd_X2_in rfl rfl ⟨by decide, by decide⟩ ⟨by decide, by decide⟩ rfl hl.1 rfl (Nat.le_of_ble_eq_true rfl) dX2_fix_27 (fun H locs I => ?_)
      refine x_callVi 5 2 (rest := []) (C := RX2) (T0 := TX2) (N := 4) E F I (m_fails l g R B cd T P fo O true (okB 10 x3)) gX2_fix_X2_fails rfl (by decide) rfl rfl rfl hd_X2_fails rfl rfl ⟨by decide, by decide⟩ ⟨by decide, by decide⟩ rfl hl.1 rfl (Nat.le_of_ble_eq_true rfl) dX2_fix_30 (fun H locs I => ?_)
      refine n_zeq (tgt := 37) hx hb dX2_fix_33 (by decide) (fun h5 => ?_) (fun h5 => ?_)
      · obtain ⟨hSL, hNU, hcd⟩ := good_c (SL := okI 48 x1 ∧ okI 48 x2) (NU := okI 10 x3) ⟨fun _ => ⟨okB_iff.mp h1, okB_iff.mp h3⟩, fun _ => rfl⟩ okB_iff h5
        rw [hcd] at I
        obtain ⟨⟨s0, lt_s0, rfl⟩, ⟨a, lt_a, rfl⟩⟩ := hSL
        obtain ⟨v, lt_v, rfl⟩ := hNU
        have hl : lv_has ls 6 [(0, .ref (gA g 5)), (1, .int (nI (s0))), (2, .int (nI (a))), (3, .int (nI (v))), (4, .int (bI (t)))] := hl
        refine lv_iconst (v := nI (0)) hx hb dX2_fix_37 (by decide) ?_
        refine lv_istore (lv' := [(5, .int (nI (0))), (0, .ref (gA g 5)), (1, .int (nI (s0))), (2, .int (nI (a))), (3, .int (nI (v))), (4, .int (bI (t)))]) hx hb dX2_fix_38 hl (by decide) rfl (fun ls hl => ?_)
        have loop : ∀ (n i : Nat), i ≤ 1024 → 1024 + 1 ≤ i + n → ∀ (H : Heap) (locs : List Loc) (ls : Array Slot), Iv g (R, B, (0, bF T, bF (fil P (fun k => T (1024 * a + wth k v t)) (i)), fo), O) s H locs → lv_has ls 6 [(0, .ref (gA g 5)), (1, .int (nI (s0))), (2, .int (nI (a))), (3, .int (nI (v))), (4, .int (bI (t))), (5, .int (nI (i)))] → W p l e (rmN 2 60) s m [.ref (gA g 5), .int ((nI s0)), .int ((nI a)), .int ((nI v)), .int (bI (t))].toArray below meth c H locs 0 0 (MQ below (Qs g (fun v' u' => v' = none ∧ ∃ (cd' : Int32) (T' P' : Nat → Bool), u' = (R, B, (cd', bF T', bF P', fo), O) ∧ ((¬ (okI 48 (nI s0) ∧ okI 48 (nI a)) ∧ cd' = 1 ∧ T' = T) ∨ ((okI 48 (nI s0) ∧ okI 48 (nI a)) ∧ ¬ (okI 10 (nI v)) ∧ cd' = 2 ∧ T' = T) ∨ (cd' = 0 ∧ ∃ s0_ a_ v_ : Nat, s0_ < 48 ∧ a_ < 48 ∧ v_ < 10 ∧ (nI s0) = nI s0_ ∧ (nI a) = nI a_ ∧ (nI v) = nI v_ ∧ MW T T' s0_ (fun k => T (1024 * a_ + wth k v_ t)))))) [.ref (gA g 5), .int ((nI s0)), .int ((nI a)), .int ((nI v)), .int (bI (t))].toArray s 0 0 (gW g)) (F0 m 40 ls []) := by
          intro n
          induction n with
          | zero => intro i h1 h2; exact absurd h2 (by omega)
          | succ n ih_loop =>
            intro i hi hn H locs ls I hl
            refine lv_iload hx hb dX2_fix_40 (lv_at hl 5 rfl) ?_
            refine lv_sipush (v := nI (1024)) hx hb dX2_fix_42 (by decide) ?_
            refine n_cge (tgt := 74) hx hb (by omega) (by omega) dX2_fix_45 (by decide) (fun h6 => ?_) (fun h6 => ?_)
            · obtain rfl : i = 1024 := by omega
              have hl : lv_has ls 6 [(0, .ref (gA g 5)), (1, .int (nI (s0))), (2, .int (nI (a))), (3, .int (nI (v))), (4, .int (bI (t))), (5, .int (nI (1024)))] := hl
              refine lv_aload_n hx hb dX2_fix_74 rfl (lv_at hl 0 rfl) ?_
              refine lv_iload_n hx hb dX2_fix_75 rfl (lv_at hl 1 rfl) ?_
              refine x_callVv 5 2 (rest := []) (C := RX2) (T0 := TX2) (N := 4) E F I (m_keep l g R B 0 T (fil P (fun k => T (1024 * a + wth k v t)) 1024) fo O (s0 := s0) (by omega)) gX2_fix_X2_keep rfl (by decide) rfl rfl rfl hd_X2_keep rfl rfl ⟨by decide, by decide⟩ ⟨by decide, by decide⟩ rfl hl.1 rfl (Nat.le_of_ble_eq_true rfl) dX2_fix_76 (fun H locs I => ?_)
              exact x_vret hx hb hr hk F I ⟨rfl, _, _, _, rfl, Or.inr (Or.inr ⟨rfl, s0, a, v, lt_s0, lt_a, lt_v, rfl, rfl, rfl, MW_fil⟩)⟩ dX2_fix_79
            · refine lv_aload_n hx hb dX2_fix_48 rfl (lv_at hl 0 rfl) ?_
              refine x_get 5 2 2 (C := RX2) (T := TX2) (N := 4) (v := .ref (gA g 7)) E F I inw_X2_fix_X2 (by decide) rfl rfl (by decide) wm_X2_fix_f14 rfl dX2_fix_49 ?_
              refine lv_iload hx hb dX2_fix_52 (lv_at hl 5 rfl) ?_
              refine lv_aload_n hx hb dX2_fix_54 rfl (lv_at hl 0 rfl) ?_
              refine lv_iload_n hx hb dX2_fix_55 rfl (lv_at hl 2 rfl) ?_
              refine lv_iload hx hb dX2_fix_56 (lv_at hl 5 rfl) ?_
              refine lv_iload_n hx hb dX2_fix_58 rfl (lv_at hl 3 rfl) ?_
              refine lv_iload hx hb dX2_fix_59 (lv_at hl 4 rfl) ?_
              refine x_callSi (rest := [.int (nI (a)), .ref (gA g 5), .int (nI (i)), .ref (gA g 7)]) E F I (m_with l g R B (0, bF T, bF (fil P (fun k => T (1024 * a + wth k v t)) (i)), fo) O (k := i) (v := v) t (by omega)) gX2_fix_X2_with rfl hd_X2_with rfl rfl ⟨by decide, by decide⟩ ⟨by decide, by decide⟩ rfl hl.1 rfl (Nat.le_of_ble_eq_true rfl) dX2_fix_61 (fun H locs I => ?_)
              refine x_callVi 5 2 (rest := [.int (nI (i)), .ref (gA g 7)]) (C := RX2) (T0 := TX2) (N := 4) E F I (m_of l g R B 0 T (fil P (fun k => T (1024 * a + wth k v t)) (i)) fo O (a := a) (k := wth i v t) (by omega) (wth_lt (by omega))) gX2_fix_X2_of rfl (by decide) rfl rfl rfl hd_X2_of rfl rfl ⟨by decide, by decide⟩ ⟨by decide, by decide⟩ rfl hl.1 rfl (Nat.le_of_ble_eq_true rfl) dX2_fix_64 (fun H locs I => ?_)
              refine x_zastore 7 (u' := (R, B, (0, bF T, upd (bF (fil P (fun k => T (1024 * a + wth k v t)) (i))) (i) (bI (T (1024 * a + (wth i v t)))), fo), O)) (i := i) hx hb F I (by decide) (bI_nar _) rfl rfl ec_o7 (by decide) (by omega) dX2_fix_67 (fun H locs I => ?_)
              refine n_iinc (d := 1) (lv' := [(5, .int (nI (i + 1))), (0, .ref (gA g 5)), (1, .int (nI (s0))), (2, .int (nI (a))), (3, .int (nI (v))), (4, .int (bI (t)))]) hx hb dX2_fix_68 rfl hl (j := 5) rfl (by decide) rfl (fun ls hl => ?_)
              refine lv_goto (tgt := 40) hx hb dX2_fix_71 (by decide) ?_
              exact ih_loop (i + 1) (by omega) (by omega) _ _ ls (fil_step I (rfl)) (lv_sub hl [1, 2, 3, 4, 5, 0] rfl)
        exact loop (1024 + 1 - 0) (0) (by omega) (by omega) _ _ ls (by rw [fil_0]; exact I) (lv_sub hl [1, 2, 3, 4, 5, 0] rfl)
      · exact x_vret hx hb hr hk F I ⟨rfl, _, _, _, rfl, (fail_c (SL := okI 48 x1 ∧ okI 48 x2) (NU := okI 10 x3) ⟨fun _ => ⟨okB_iff.mp h1, okB_iff.mp h3⟩, fun _ => rfl⟩ okB_iff h5).elim (fun q => Or.inl ⟨q.1, q.2, rfl⟩) (fun q => Or.inr (Or.inl ⟨q.1, q.2.1, q.2.2, rfl⟩))⟩ dX2_fix_36
theorem hd_X2_fix : yX2_fix.cls ≠ "java/lang/invoke/MethodHandle" ∧ yX2_fix.cls ≠ "java/lang/invoke/VarHandle" ∧ (parseMethodDescriptor yX2_fix.desc).map (fun d => d.parameters.length) = some 4 := by decide +kernel
theorem wm_X2_put_f14 : Cond.fieldLink RX2 14 "FunctionDeskModel" "fresh" "[Z" ∈ wsX2_put := by decide +kernel
theorem inw_X2_put_X2 : ∀ w ∈ wsX20, w ∈ wsX2_put := by decide +kernel
set_option maxHeartbeats 4000000 in
set_option maxRecDepth 100000 in
theorem m_put (l : Launch) (g : Geo) (R : Nat → Nat → Int64) (B : Rul) (cd : Int32) (T P : Nat → Bool) (fo : Nat → Int32) (O : Nat → Int64) (x1 : Int32) (x2 : Int32) (x3 : Int32) (x4 : Int32) : Cs l g yX2_put wsX2_put (rmN 2 60) [.ref (gA g 5), .int (x1), .int (x2), .int (x3), .int (x4)] (R, B, (cd, bF T, bF P, fo), O) (fun v' u' => v' = none ∧ ∃ (cd' : Int32) (T' P' : Nat → Bool), u' = (R, B, (cd', bF T', bF P', fo), O) ∧ ((¬ (okI 48 x1 ∧ okI 48 x2 ∧ okI 48 x4) ∧ cd' = 1 ∧ T' = T) ∨ ((okI 48 x1 ∧ okI 48 x2 ∧ okI 48 x4) ∧ ¬ (okI 10 x3) ∧ cd' = 2 ∧ T' = T) ∨ (cd' = 0 ∧ ∃ s0_ a_ v_ b_ : Nat, s0_ < 48 ∧ a_ < 48 ∧ v_ < 10 ∧ b_ < 48 ∧ x1 = nI s0_ ∧ x2 = nI a_ ∧ x3 = nI v_ ∧ x4 = nI b_ ∧ MW T T' s0_ (fun k => T (1024 * a_ + wth k v_ (T (1024 * b_ + k))))))) := by
  refine Cs.ofW RX2 rfl (by decide) rfl (Nat.le_of_ble_eq_true rfl) ?_
  intro p e s m below meth c E hr hk F I ls hl
  have hx := E.1
  have hb := E.2.1
  have hl : lv_has ls 6 [(0, .ref (gA g 5)), (1, .int (x1)), (2, .int (x2)), (3, .int (x3)), (4, .int (x4))] := hl
  refine lv_aload_n hx hb dX2_put_0 rfl (lv_at hl 0 rfl) ?_
  refine lv_iload_n hx hb dX2_put_1 rfl (lv_at hl 1 rfl) ?_
  refine lv_bipush (v := nI (48)) hx hb dX2_put_2 (by decide) ?_
  refine x_callSi (rest := [.ref (gA g 5)]) E F I (m_in l g R B (cd, bF T, bF P, fo) O (x1) (N := 48) (by decide)) gX2_put_X2_in rfl hd_X2_in rfl rfl ⟨by decide, by decide⟩ ⟨by decide, by decide⟩ rfl hl.1 rfl (Nat.le_of_ble_eq_true rfl) dX2_put_4 (fun H locs I => ?_)
  refine n_zeq (tgt := 33) hx hb dX2_put_7 (by decide) (fun h1 => ?_) (fun h1 => ?_)
  · refine lv_iconst (v := nI (0)) hx hb dX2_put_33 (by decide) ?_
    refine lv_iload_n hx hb dX2_put_34 rfl (lv_at hl 3 rfl) ?_
    refine lv_bipush (v := nI (10)) hx hb dX2_put_35 (by decide) ?_
    refine x_callSi (rest := [.int (nI (0)), .ref (gA g 5)]) E F I (m_in l g R B (cd, bF T, bF P, fo) O (x3) (N := 10) (by decide)) gX2_put_X2_in rfl hd_X2_in rfl rfl ⟨by decide, by decide⟩ ⟨by decide, by decide⟩ rfl hl.1 rfl (Nat.le_of_ble_eq_true rfl) dX2_put_37 (fun H locs I => ?_)
    refine x_callVi 5 2 (rest := []) (C := RX2) (T0 := TX2) (N := 4) E F I (m_fails l g R B cd T P fo O false (okB 10 x3)) gX2_put_X2_fails rfl (by decide) rfl rfl rfl hd_X2_fails rfl rfl ⟨by decide, by decide⟩ ⟨by decide, by decide⟩ rfl hl.1 rfl (Nat.le_of_ble_eq_true rfl) dX2_put_40 (fun H locs I => ?_)
    refine n_zeq (tgt := 47) hx hb dX2_put_43 (by decide) (fun h2 => ?_) (fun h2 => ?_)
    · exact absurd h2 (by simp)
    · exact x_vret hx hb hr hk F I ⟨rfl, _, _, _, rfl, (fail_c (SL := okI 48 x1 ∧ okI 48 x2 ∧ okI 48 x4) (NU := okI 10 x3) ⟨fun q => absurd q (by decide), fun q => absurd q.1 (okB_f h1)⟩ okB_iff h2).elim (fun q => Or.inl ⟨q.1, q.2, rfl⟩) (fun q => Or.inr (Or.inl ⟨q.1, q.2.1, q.2.2, rfl⟩))⟩ dX2_put_46
  · refine lv_iload_n hx hb dX2_put_10 rfl (lv_at hl 2 rfl) ?_
    refine lv_bipush (v := nI (48)) hx hb dX2_put_11 (by decide) ?_
    refine x_callSi (rest := [.ref (gA g 5)]) E F I (m_in l g R B (cd, bF T, bF P, fo) O (x2) (N := 48) (by decide)) gX2_put_X2_in rfl hd_X2_in rfl rfl ⟨by decide, by decide⟩ ⟨by decide, by decide⟩ rfl hl.1 rfl (Nat.le_of_ble_eq_true rfl) dX2_put_13 (fun H locs I => ?_)
    refine n_zeq (tgt := 33) hx hb dX2_put_16 (by decide) (fun h3 => ?_) (fun h3 => ?_)
    · refine lv_iconst (v := nI (0)) hx hb dX2_put_33 (by decide) ?_
      refine lv_iload_n hx hb dX2_put_34 rfl (lv_at hl 3 rfl) ?_
      refine lv_bipush (v := nI (10)) hx hb dX2_put_35 (by decide) ?_
      refine x_callSi (rest := [.int (nI (0)), .ref (gA g 5)]) E F I (m_in l g R B (cd, bF T, bF P, fo) O (x3) (N := 10) (by decide)) gX2_put_X2_in rfl hd_X2_in rfl rfl ⟨by decide, by decide⟩ ⟨by decide, by decide⟩ rfl hl.1 rfl (Nat.le_of_ble_eq_true rfl) dX2_put_37 (fun H locs I => ?_)
      refine x_callVi 5 2 (rest := []) (C := RX2) (T0 := TX2) (N := 4) E F I (m_fails l g R B cd T P fo O false (okB 10 x3)) gX2_put_X2_fails rfl (by decide) rfl rfl rfl hd_X2_fails rfl rfl ⟨by decide, by decide⟩ ⟨by decide, by decide⟩ rfl hl.1 rfl (Nat.le_of_ble_eq_true rfl) dX2_put_40 (fun H locs I => ?_)
      refine n_zeq (tgt := 47) hx hb dX2_put_43 (by decide) (fun h4 => ?_) (fun h4 => ?_)
      · exact absurd h4 (by simp)
      · exact x_vret hx hb hr hk F I ⟨rfl, _, _, _, rfl, (fail_c (SL := okI 48 x1 ∧ okI 48 x2 ∧ okI 48 x4) (NU := okI 10 x3) ⟨fun q => absurd q (by decide), fun q => absurd q.2.1 (okB_f h3)⟩ okB_iff h4).elim (fun q => Or.inl ⟨q.1, q.2, rfl⟩) (fun q => Or.inr (Or.inl ⟨q.1, q.2.1, q.2.2, rfl⟩))⟩ dX2_put_46
    · refine lv_iload hx hb dX2_put_19 (lv_at hl 4 rfl) ?_
      refine lv_bipush (v := nI (48)) hx hb dX2_put_21 (by decide) ?_
      refine x_callSi (rest := [.ref (gA g 5)]) E F I (m_in l g R B (cd, bF T, bF P, fo) O (x4) (N := 48) (by decide)) gX2_put_X2_in rfl hd_X2_in rfl rfl ⟨by decide, by decide⟩ ⟨by decide, by decide⟩ rfl hl.1 rfl (Nat.le_of_ble_eq_true rfl) dX2_put_23 (fun H locs I => ?_)
      refine n_zeq (tgt := 33) hx hb dX2_put_26 (by decide) (fun h5 => ?_) (fun h5 => ?_)
      · refine lv_iconst (v := nI (0)) hx hb dX2_put_33 (by decide) ?_
        refine lv_iload_n hx hb dX2_put_34 rfl (lv_at hl 3 rfl) ?_
        refine lv_bipush (v := nI (10)) hx hb dX2_put_35 (by decide) ?_
        refine x_callSi (rest := [.int (nI (0)), .ref (gA g 5)]) E F I (m_in l g R B (cd, bF T, bF P, fo) O (x3) (N := 10) (by decide)) gX2_put_X2_in rfl hd_X2_in rfl rfl ⟨by decide, by decide⟩ ⟨by decide, by decide⟩ rfl hl.1 rfl (Nat.le_of_ble_eq_true rfl) dX2_put_37 (fun H locs I => ?_)
        refine x_callVi 5 2 (rest := []) (C := RX2) (T0 := TX2) (N := 4) E F I (m_fails l g R B cd T P fo O false (okB 10 x3)) gX2_put_X2_fails rfl (by decide) rfl rfl rfl hd_X2_fails rfl rfl ⟨by decide, by decide⟩ ⟨by decide, by decide⟩ rfl hl.1 rfl (Nat.le_of_ble_eq_true rfl) dX2_put_40 (fun H locs I => ?_)
        refine n_zeq (tgt := 47) hx hb dX2_put_43 (by decide) (fun h6 => ?_) (fun h6 => ?_)
        · exact absurd h6 (by simp)
        · exact x_vret hx hb hr hk F I ⟨rfl, _, _, _, rfl, (fail_c (SL := okI 48 x1 ∧ okI 48 x2 ∧ okI 48 x4) (NU := okI 10 x3) ⟨fun q => absurd q (by decide), fun q => absurd q.2.2 (okB_f h5)⟩ okB_iff h6).elim (fun q => Or.inl ⟨q.1, q.2, rfl⟩) (fun q => Or.inr (Or.inl ⟨q.1, q.2.1, q.2.2, rfl⟩))⟩ dX2_put_46
      · refine lv_iconst (v := nI (1)) hx hb dX2_put_29 (by decide) ?_
        refine lv_goto (tgt := 34) hx hb dX2_put_30 (by decide) ?_
        refine lv_iload_n hx hb dX2_put_34 rfl (lv_at hl 3 rfl) ?_
        refine lv_bipush (v := nI (10)) hx hb dX2_put_35 (by decide) ?_
        refine x_callSi (rest := [.int (nI (1)), .ref (gA g 5)]) E F I (m_in l g R B (cd, bF T, bF P, fo) O (x3) (N := 10) (by decide)) gX2_put_X2_in rfl hd_X2_in rfl rfl ⟨by decide, by decide⟩ ⟨by decide, by decide⟩ rfl hl.1 rfl (Nat.le_of_ble_eq_true rfl) dX2_put_37 (fun H locs I => ?_)
        refine x_callVi 5 2 (rest := []) (C := RX2) (T0 := TX2) (N := 4) E F I (m_fails l g R B cd T P fo O true (okB 10 x3)) gX2_put_X2_fails rfl (by decide) rfl rfl rfl hd_X2_fails rfl rfl ⟨by decide, by decide⟩ ⟨by decide, by decide⟩ rfl hl.1 rfl (Nat.le_of_ble_eq_true rfl) dX2_put_40 (fun H locs I => ?_)
        refine n_zeq (tgt := 47) hx hb dX2_put_43 (by decide) (fun h7 => ?_) (fun h7 => ?_)
        · obtain ⟨hSL, hNU, hcd⟩ := good_c (SL := okI 48 x1 ∧ okI 48 x2 ∧ okI 48 x4) (NU := okI 10 x3) ⟨fun _ => ⟨okB_iff.mp h1, okB_iff.mp h3, okB_iff.mp h5⟩, fun _ => rfl⟩ okB_iff h7
          rw [hcd] at I
          obtain ⟨⟨s0, lt_s0, rfl⟩, ⟨a, lt_a, rfl⟩, ⟨b, lt_b, rfl⟩⟩ := hSL
          obtain ⟨v, lt_v, rfl⟩ := hNU
          have hl : lv_has ls 6 [(0, .ref (gA g 5)), (1, .int (nI (s0))), (2, .int (nI (a))), (3, .int (nI (v))), (4, .int (nI (b)))] := hl
          refine lv_iconst (v := nI (0)) hx hb dX2_put_47 (by decide) ?_
          refine lv_istore (lv' := [(5, .int (nI (0))), (0, .ref (gA g 5)), (1, .int (nI (s0))), (2, .int (nI (a))), (3, .int (nI (v))), (4, .int (nI (b)))]) hx hb dX2_put_48 hl (by decide) rfl (fun ls hl => ?_)
          have loop : ∀ (n i : Nat), i ≤ 1024 → 1024 + 1 ≤ i + n → ∀ (H : Heap) (locs : List Loc) (ls : Array Slot), Iv g (R, B, (0, bF T, bF (fil P (fun k => T (1024 * a + wth k v (T (1024 * b + k)))) (i)), fo), O) s H locs → lv_has ls 6 [(0, .ref (gA g 5)), (1, .int (nI (s0))), (2, .int (nI (a))), (3, .int (nI (v))), (4, .int (nI (b))), (5, .int (nI (i)))] → W p l e (rmN 2 60) s m [.ref (gA g 5), .int ((nI s0)), .int ((nI a)), .int ((nI v)), .int ((nI b))].toArray below meth c H locs 0 0 (MQ below (Qs g (fun v' u' => v' = none ∧ ∃ (cd' : Int32) (T' P' : Nat → Bool), u' = (R, B, (cd', bF T', bF P', fo), O) ∧ ((¬ (okI 48 (nI s0) ∧ okI 48 (nI a) ∧ okI 48 (nI b)) ∧ cd' = 1 ∧ T' = T) ∨ ((okI 48 (nI s0) ∧ okI 48 (nI a) ∧ okI 48 (nI b)) ∧ ¬ (okI 10 (nI v)) ∧ cd' = 2 ∧ T' = T) ∨ (cd' = 0 ∧ ∃ s0_ a_ v_ b_ : Nat, s0_ < 48 ∧ a_ < 48 ∧ v_ < 10 ∧ b_ < 48 ∧ (nI s0) = nI s0_ ∧ (nI a) = nI a_ ∧ (nI v) = nI v_ ∧ (nI b) = nI b_ ∧ MW T T' s0_ (fun k => T (1024 * a_ + wth k v_ (T (1024 * b_ + k)))))))) [.ref (gA g 5), .int ((nI s0)), .int ((nI a)), .int ((nI v)), .int ((nI b))].toArray s 0 0 (gW g)) (F0 m 50 ls []) := by
            intro n
            induction n with
            | zero => intro i h1 h2; exact absurd h2 (by omega)
            | succ n ih_loop =>
              intro i hi hn H locs ls I hl
              refine lv_iload hx hb dX2_put_50 (lv_at hl 5 rfl) ?_
              refine lv_sipush (v := nI (1024)) hx hb dX2_put_52 (by decide) ?_
              refine n_cge (tgt := 90) hx hb (by omega) (by omega) dX2_put_55 (by decide) (fun h8 => ?_) (fun h8 => ?_)
              · obtain rfl : i = 1024 := by omega
                have hl : lv_has ls 6 [(0, .ref (gA g 5)), (1, .int (nI (s0))), (2, .int (nI (a))), (3, .int (nI (v))), (4, .int (nI (b))), (5, .int (nI (1024)))] := hl
                refine lv_aload_n hx hb dX2_put_90 rfl (lv_at hl 0 rfl) ?_
                refine lv_iload_n hx hb dX2_put_91 rfl (lv_at hl 1 rfl) ?_
                refine x_callVv 5 2 (rest := []) (C := RX2) (T0 := TX2) (N := 4) E F I (m_keep l g R B 0 T (fil P (fun k => T (1024 * a + wth k v (T (1024 * b + k)))) 1024) fo O (s0 := s0) (by omega)) gX2_put_X2_keep rfl (by decide) rfl rfl rfl hd_X2_keep rfl rfl ⟨by decide, by decide⟩ ⟨by decide, by decide⟩ rfl hl.1 rfl (Nat.le_of_ble_eq_true rfl) dX2_put_92 (fun H locs I => ?_)
                exact x_vret hx hb hr hk F I ⟨rfl, _, _, _, rfl, Or.inr (Or.inr ⟨rfl, s0, a, v, b, lt_s0, lt_a, lt_v, lt_b, rfl, rfl, rfl, rfl, MW_fil⟩)⟩ dX2_put_95
              · refine lv_aload_n hx hb dX2_put_58 rfl (lv_at hl 0 rfl) ?_
                refine x_get 5 2 2 (C := RX2) (T := TX2) (N := 4) (v := .ref (gA g 7)) E F I inw_X2_put_X2 (by decide) rfl rfl (by decide) wm_X2_put_f14 rfl dX2_put_59 ?_
                refine lv_iload hx hb dX2_put_62 (lv_at hl 5 rfl) ?_
                refine lv_aload_n hx hb dX2_put_64 rfl (lv_at hl 0 rfl) ?_
                refine lv_iload_n hx hb dX2_put_65 rfl (lv_at hl 2 rfl) ?_
                refine lv_iload hx hb dX2_put_66 (lv_at hl 5 rfl) ?_
                refine lv_iload_n hx hb dX2_put_68 rfl (lv_at hl 3 rfl) ?_
                refine lv_aload_n hx hb dX2_put_69 rfl (lv_at hl 0 rfl) ?_
                refine lv_iload hx hb dX2_put_70 (lv_at hl 4 rfl) ?_
                refine lv_iload hx hb dX2_put_72 (lv_at hl 5 rfl) ?_
                refine x_callVi 5 2 (rest := [.int (nI (v)), .int (nI (i)), .int (nI (a)), .ref (gA g 5), .int (nI (i)), .ref (gA g 7)]) (C := RX2) (T0 := TX2) (N := 4) E F I (m_of l g R B 0 T (fil P (fun k => T (1024 * a + wth k v (T (1024 * b + k)))) (i)) fo O (a := b) (k := i) (by omega) (by omega)) gX2_put_X2_of rfl (by decide) rfl rfl rfl hd_X2_of rfl rfl ⟨by decide, by decide⟩ ⟨by decide, by decide⟩ rfl hl.1 rfl (Nat.le_of_ble_eq_true rfl) dX2_put_74 (fun H locs I => ?_)
                refine x_callSi (rest := [.int (nI (a)), .ref (gA g 5), .int (nI (i)), .ref (gA g 7)]) E F I (m_with l g R B (0, bF T, bF (fil P (fun k => T (1024 * a + wth k v (T (1024 * b + k)))) (i)), fo) O (k := i) (v := v) (T (1024 * b + i)) (by omega)) gX2_put_X2_with rfl hd_X2_with rfl rfl ⟨by decide, by decide⟩ ⟨by decide, by decide⟩ rfl hl.1 rfl (Nat.le_of_ble_eq_true rfl) dX2_put_77 (fun H locs I => ?_)
                refine x_callVi 5 2 (rest := [.int (nI (i)), .ref (gA g 7)]) (C := RX2) (T0 := TX2) (N := 4) E F I (m_of l g R B 0 T (fil P (fun k => T (1024 * a + wth k v (T (1024 * b + k)))) (i)) fo O (a := a) (k := wth i v (T (1024 * b + i))) (by omega) (wth_lt (by omega))) gX2_put_X2_of rfl (by decide) rfl rfl rfl hd_X2_of rfl rfl ⟨by decide, by decide⟩ ⟨by decide, by decide⟩ rfl hl.1 rfl (Nat.le_of_ble_eq_true rfl) dX2_put_80 (fun H locs I => ?_)
                refine x_zastore 7 (u' := (R, B, (0, bF T, upd (bF (fil P (fun k => T (1024 * a + wth k v (T (1024 * b + k)))) (i))) (i) (bI (T (1024 * a + (wth i v (T (1024 * b + i)))))), fo), O)) (i := i) hx hb F I (by decide) (bI_nar _) rfl rfl ec_o7 (by decide) (by omega) dX2_put_83 (fun H locs I => ?_)
                refine n_iinc (d := 1) (lv' := [(5, .int (nI (i + 1))), (0, .ref (gA g 5)), (1, .int (nI (s0))), (2, .int (nI (a))), (3, .int (nI (v))), (4, .int (nI (b)))]) hx hb dX2_put_84 rfl hl (j := 5) rfl (by decide) rfl (fun ls hl => ?_)
                refine lv_goto (tgt := 50) hx hb dX2_put_87 (by decide) ?_
                exact ih_loop (i + 1) (by omega) (by omega) _ _ ls (fil_step I (rfl)) (lv_sub hl [1, 2, 3, 4, 5, 0] rfl)
          exact loop (1024 + 1 - 0) (0) (by omega) (by omega) _ _ ls (by rw [fil_0]; exact I) (lv_sub hl [1, 2, 3, 4, 5, 0] rfl)
        · exact x_vret hx hb hr hk F I ⟨rfl, _, _, _, rfl, (fail_c (SL := okI 48 x1 ∧ okI 48 x2 ∧ okI 48 x4) (NU := okI 10 x3) ⟨fun _ => ⟨okB_iff.mp h1, okB_iff.mp h3, okB_iff.mp h5⟩, fun _ => rfl⟩ okB_iff h7).elim (fun q => Or.inl ⟨q.1, q.2, rfl⟩) (fun q => Or.inr (Or.inl ⟨q.1, q.2.1, q.2.2, rfl⟩))⟩ dX2_put_46
theorem hd_X2_put : yX2_put.cls ≠ "java/lang/invoke/MethodHandle" ∧ yX2_put.cls ≠ "java/lang/invoke/VarHandle" ∧ (parseMethodDescriptor yX2_put.desc).map (fun d => d.parameters.length) = some 4 := by decide +kernel
