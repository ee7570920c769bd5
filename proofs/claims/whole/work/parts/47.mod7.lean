theorem wm_X2_nearest_f14 : Cond.fieldLink RX2 14 "FunctionDeskModel" "fresh" "[Z" ∈ wsX2_nearest := by decide +kernel
theorem inw_X2_nearest_X2 : ∀ w ∈ wsX20, w ∈ wsX2_nearest := by decide +kernel
set_option maxHeartbeats 4000000 in
set_option maxRecDepth 100000 in
theorem m_nearest (l : Launch) (g : Geo) (R : Nat → Nat → Int64) (B : Rul) (cd : Int32) (T P : Nat → Bool) (fo : Nat → Int32) (O : Nat → Int64) (x1 : Int32) (x2 : Int32) (x3 : Int32) : Cs l g yX2_nearest wsX2_nearest (rmN 2 60) [.ref (gA g 5), .int (x1), .int (x2), .int (x3)] (R, B, (cd, bF T, bF P, fo), O) (fun v' u' => v' = none ∧ ∃ (cd' : Int32) (T' P' : Nat → Bool), u' = (R, B, (cd', bF T', bF P', fo), O) ∧ ((¬ (okI 48 x1 ∧ okI 48 x2 ∧ okI 48 x3) ∧ cd' = 1 ∧ T' = T) ∨ ((okI 48 x1 ∧ okI 48 x2 ∧ okI 48 x3) ∧ ¬ (anyX T x3) ∧ cd' = 2 ∧ T' = T) ∨ (cd' = 0 ∧ ∃ s0_ a_ c0_ : Nat, s0_ < 48 ∧ a_ < 48 ∧ c0_ < 48 ∧ x1 = nI s0_ ∧ x2 = nI a_ ∧ x3 = nI c0_ ∧ anyT T c0_ ∧ MW T T' s0_ (fun k => nrF T a_ c0_ k)))) := by
  refine Cs.ofW RX2 rfl (by decide) rfl (Nat.le_of_ble_eq_true rfl) ?_
  intro p e s m below meth c E hr hk F I ls hl
  have hx := E.1
  have hb := E.2.1
  have hl : lv_has ls 7 [(0, .ref (gA g 5)), (1, .int (x1)), (2, .int (x2)), (3, .int (x3))] := hl
  refine lv_iload_n hx hb dX2_nearest_0 rfl (lv_at hl 1 rfl) ?_
  refine lv_bipush (v := nI (48)) hx hb dX2_nearest_1 (by decide) ?_
  refine x_callSi (rest := []) E F I (m_in l g R B (cd, bF T, bF P, fo) O (x1) (N := 48) (by decide)) gX2_nearest_X2_in rfl hd_X2_in rfl rfl ⟨by decide, by decide⟩ ⟨by decide, by decide⟩ rfl hl.1 rfl (Nat.le_of_ble_eq_true rfl) dX2_nearest_3 (fun H locs I => ?_)
  refine n_zeq (tgt := 31) hx hb dX2_nearest_6 (by decide) (fun h1 => ?_) (fun h1 => ?_)
  · refine lv_iconst (v := nI (0)) hx hb dX2_nearest_31 (by decide) ?_
    refine lv_istore (lv' := [(4, .int (nI (0))), (0, .ref (gA g 5)), (1, .int (x1)), (2, .int (x2)), (3, .int (x3))]) hx hb dX2_nearest_32 hl (by decide) rfl (fun ls hl => ?_)
    refine lv_aload_n hx hb dX2_nearest_34 rfl (lv_at hl 1 rfl) ?_
    refine lv_iload hx hb dX2_nearest_35 (lv_at hl 0 rfl) ?_
    refine lv_iload hx hb dX2_nearest_37 (lv_at hl 0 rfl) ?_
    refine n_ifeq (tgt := 54) hx hb (by decide) dX2_nearest_39 (by decide) (fun _ => ?_) (fun q => absurd q (by decide))
    refine lv_iconst (v := nI (0)) hx hb dX2_nearest_54 (by decide) ?_
    refine x_callVi 5 2 (rest := []) (C := RX2) (T0 := TX2) (N := 4) E F I (m_fails l g R B cd T P fo O false false) gX2_nearest_X2_fails rfl (by decide) rfl rfl rfl hd_X2_fails rfl rfl ⟨by decide, by decide⟩ ⟨by decide, by decide⟩ rfl hl.1 rfl (Nat.le_of_ble_eq_true rfl) dX2_nearest_55 (fun H locs I => ?_)
    refine n_zeq (tgt := 62) hx hb dX2_nearest_58 (by decide) (fun h3 => ?_) (fun h3 => ?_)
    · exact absurd h3 (by simp)
    · exact x_vret hx hb hr hk F I ⟨rfl, _, _, _, rfl, (fail_d (SL := okI 48 x1 ∧ okI 48 x2 ∧ okI 48 x3) (NU := anyX T x3) (⟨fun q => absurd q (by decide), fun q => absurd q.1 (okB_f h1)⟩) (fun q => absurd q (by decide)) h3).elim (fun q => Or.inl ⟨q.1, q.2, rfl⟩) (fun q => Or.inr (Or.inl ⟨q.1, q.2.1, q.2.2, rfl⟩))⟩ dX2_nearest_61
  · refine lv_iload_n hx hb dX2_nearest_9 rfl (lv_at hl 2 rfl) ?_
    refine lv_bipush (v := nI (48)) hx hb dX2_nearest_10 (by decide) ?_
    refine x_callSi (rest := []) E F I (m_in l g R B (cd, bF T, bF P, fo) O (x2) (N := 48) (by decide)) gX2_nearest_X2_in rfl hd_X2_in rfl rfl ⟨by decide, by decide⟩ ⟨by decide, by decide⟩ rfl hl.1 rfl (Nat.le_of_ble_eq_true rfl) dX2_nearest_12 (fun H locs I => ?_)
    refine n_zeq (tgt := 31) hx hb dX2_nearest_15 (by decide) (fun h4 => ?_) (fun h4 => ?_)
    · refine lv_iconst (v := nI (0)) hx hb dX2_nearest_31 (by decide) ?_
      refine lv_istore (lv' := [(4, .int (nI (0))), (0, .ref (gA g 5)), (1, .int (x1)), (2, .int (x2)), (3, .int (x3))]) hx hb dX2_nearest_32 hl (by decide) rfl (fun ls hl => ?_)
      refine lv_aload_n hx hb dX2_nearest_34 rfl (lv_at hl 1 rfl) ?_
      refine lv_iload hx hb dX2_nearest_35 (lv_at hl 0 rfl) ?_
      refine lv_iload hx hb dX2_nearest_37 (lv_at hl 0 rfl) ?_
      refine n_ifeq (tgt := 54) hx hb (by decide) dX2_nearest_39 (by decide) (fun _ => ?_) (fun q => absurd q (by decide))
      refine lv_iconst (v := nI (0)) hx hb dX2_nearest_54 (by decide) ?_
      refine x_callVi 5 2 (rest := []) (C := RX2) (T0 := TX2) (N := 4) E F I (m_fails l g R B cd T P fo O false false) gX2_nearest_X2_fails rfl (by decide) rfl rfl rfl hd_X2_fails rfl rfl ⟨by decide, by decide⟩ ⟨by decide, by decide⟩ rfl hl.1 rfl (Nat.le_of_ble_eq_true rfl) dX2_nearest_55 (fun H locs I => ?_)
      refine n_zeq (tgt := 62) hx hb dX2_nearest_58 (by decide) (fun h6 => ?_) (fun h6 => ?_)
      · exact absurd h6 (by simp)
      · exact x_vret hx hb hr hk F I ⟨rfl, _, _, _, rfl, (fail_d (SL := okI 48 x1 ∧ okI 48 x2 ∧ okI 48 x3) (NU := anyX T x3) (⟨fun q => absurd q (by decide), fun q => absurd q.2.1 (okB_f h4)⟩) (fun q => absurd q (by decide)) h6).elim (fun q => Or.inl ⟨q.1, q.2, rfl⟩) (fun q => Or.inr (Or.inl ⟨q.1, q.2.1, q.2.2, rfl⟩))⟩ dX2_nearest_61
    · refine lv_iload_n hx hb dX2_nearest_18 rfl (lv_at hl 3 rfl) ?_
      refine lv_bipush (v := nI (48)) hx hb dX2_nearest_19 (by decide) ?_
      refine x_callSi (rest := []) E F I (m_in l g R B (cd, bF T, bF P, fo) O (x3) (N := 48) (by decide)) gX2_nearest_X2_in rfl hd_X2_in rfl rfl ⟨by decide, by decide⟩ ⟨by decide, by decide⟩ rfl hl.1 rfl (Nat.le_of_ble_eq_true rfl) dX2_nearest_21 (fun H locs I => ?_)
      refine n_zeq (tgt := 31) hx hb dX2_nearest_24 (by decide) (fun h7 => ?_) (fun h7 => ?_)
      · refine lv_iconst (v := nI (0)) hx hb dX2_nearest_31 (by decide) ?_
        refine lv_istore (lv' := [(4, .int (nI (0))), (0, .ref (gA g 5)), (1, .int (x1)), (2, .int (x2)), (3, .int (x3))]) hx hb dX2_nearest_32 hl (by decide) rfl (fun ls hl => ?_)
        refine lv_aload_n hx hb dX2_nearest_34 rfl (lv_at hl 1 rfl) ?_
        refine lv_iload hx hb dX2_nearest_35 (lv_at hl 0 rfl) ?_
        refine lv_iload hx hb dX2_nearest_37 (lv_at hl 0 rfl) ?_
        refine n_ifeq (tgt := 54) hx hb (by decide) dX2_nearest_39 (by decide) (fun _ => ?_) (fun q => absurd q (by decide))
        refine lv_iconst (v := nI (0)) hx hb dX2_nearest_54 (by decide) ?_
        refine x_callVi 5 2 (rest := []) (C := RX2) (T0 := TX2) (N := 4) E F I (m_fails l g R B cd T P fo O false false) gX2_nearest_X2_fails rfl (by decide) rfl rfl rfl hd_X2_fails rfl rfl ⟨by decide, by decide⟩ ⟨by decide, by decide⟩ rfl hl.1 rfl (Nat.le_of_ble_eq_true rfl) dX2_nearest_55 (fun H locs I => ?_)
        refine n_zeq (tgt := 62) hx hb dX2_nearest_58 (by decide) (fun h9 => ?_) (fun h9 => ?_)
        · exact absurd h9 (by simp)
        · exact x_vret hx hb hr hk F I ⟨rfl, _, _, _, rfl, (fail_d (SL := okI 48 x1 ∧ okI 48 x2 ∧ okI 48 x3) (NU := anyX T x3) (⟨fun q => absurd q (by decide), fun q => absurd q.2.2 (okB_f h7)⟩) (fun q => absurd q (by decide)) h9).elim (fun q => Or.inl ⟨q.1, q.2, rfl⟩) (fun q => Or.inr (Or.inl ⟨q.1, q.2.1, q.2.2, rfl⟩))⟩ dX2_nearest_61
      · refine lv_iconst (v := nI (1)) hx hb dX2_nearest_27 (by decide) ?_
        refine lv_goto (tgt := 32) hx hb dX2_nearest_28 (by decide) ?_
        refine lv_istore (lv' := [(4, .int (nI (1))), (0, .ref (gA g 5)), (1, .int (x1)), (2, .int (x2)), (3, .int (x3))]) hx hb dX2_nearest_32 hl (by decide) rfl (fun ls hl => ?_)
        refine lv_aload_n hx hb dX2_nearest_34 rfl (lv_at hl 1 rfl) ?_
        refine lv_iload hx hb dX2_nearest_35 (lv_at hl 0 rfl) ?_
        refine lv_iload hx hb dX2_nearest_37 (lv_at hl 0 rfl) ?_
        refine n_ifeq (tgt := 54) hx hb (by decide) dX2_nearest_39 (by decide) (fun q => absurd q (by decide)) (fun _ => ?_)
        obtain ⟨s0, lt_s0, rfl⟩ := okB_iff.mp h1
        obtain ⟨a, lt_a, rfl⟩ := okB_iff.mp h4
        obtain ⟨c0, lt_c0, rfl⟩ := okB_iff.mp h7
        have hl : lv_has ls 7 [(4, .int (nI (1))), (0, .ref (gA g 5)), (1, .int (nI (s0))), (2, .int (nI (a))), (3, .int (nI (c0)))] := hl
        refine lv_aload_n hx hb dX2_nearest_42 rfl (lv_at hl 1 rfl) ?_
        refine lv_iload_n hx hb dX2_nearest_43 rfl (lv_at hl 4 rfl) ?_
        refine x_callVi 5 2 (rest := [.int (nI (1)), .ref (gA g 5)]) (C := RX2) (T0 := TX2) (N := 4) E F I (m_many l g R B cd T P fo O (a := c0) (by omega)) gX2_nearest_X2_many rfl (by decide) rfl rfl rfl hd_X2_many rfl rfl ⟨by decide, by decide⟩ ⟨by decide, by decide⟩ rfl hl.1 rfl (Nat.le_of_ble_eq_true rfl) dX2_nearest_44 (fun H locs I => ?_)
        refine n_ifle (tgt := 54) hx hb (Nat.lt_of_le_of_lt (cnt_le _ _) (by omega)) dX2_nearest_47 (by decide) (fun h11 => ?_) (fun h11 => ?_)
        · refine lv_iconst (v := nI (0)) hx hb dX2_nearest_54 (by decide) ?_
          refine x_callVi 5 2 (rest := []) (C := RX2) (T0 := TX2) (N := 4) E F I (m_fails l g R B cd T P fo O true false) gX2_nearest_X2_fails rfl (by decide) rfl rfl rfl hd_X2_fails rfl rfl ⟨by decide, by decide⟩ ⟨by decide, by decide⟩ rfl hl.1 rfl (Nat.le_of_ble_eq_true rfl) dX2_nearest_55 (fun H locs I => ?_)
          refine n_zeq (tgt := 62) hx hb dX2_nearest_58 (by decide) (fun h12 => ?_) (fun h12 => ?_)
          · exact absurd h12 (by simp)
          · exact x_vret hx hb hr hk F I ⟨rfl, _, _, _, rfl, (fail_d (SL := okI 48 (nI s0) ∧ okI 48 (nI a) ∧ okI 48 (nI c0)) (NU := anyX T (nI c0)) (⟨fun _ => ⟨⟨s0, lt_s0, rfl⟩, ⟨a, lt_a, rfl⟩, ⟨c0, lt_c0, rfl⟩⟩, fun _ => rfl⟩) (fun _ => ⟨fun q => absurd q (by decide), fun ⟨c1, hc1, e1, k1, hk1, q⟩ => by rw [← nI_inj48 lt_c0 hc1 e1, cnt_0 h11 k1 hk1] at q; cases q⟩) h12).elim (fun q => Or.inl ⟨q.1, q.2, rfl⟩) (fun q => Or.inr (Or.inl ⟨q.1, q.2.1, q.2.2, rfl⟩))⟩ dX2_nearest_61
        · refine lv_iconst (v := nI (1)) hx hb dX2_nearest_50 (by decide) ?_
          refine lv_goto (tgt := 55) hx hb dX2_nearest_51 (by decide) ?_
          refine x_callVi 5 2 (rest := []) (C := RX2) (T0 := TX2) (N := 4) E F I (m_fails l g R B cd T P fo O true true) gX2_nearest_X2_fails rfl (by decide) rfl rfl rfl hd_X2_fails rfl rfl ⟨by decide, by decide⟩ ⟨by decide, by decide⟩ rfl hl.1 rfl (Nat.le_of_ble_eq_true rfl) dX2_nearest_55 (fun H locs I => ?_)
          refine n_zeq (tgt := 62) hx hb dX2_nearest_58 (by decide) (fun h13 => ?_) (fun h13 => ?_)
          · have hany : anyT T c0 := cnt_p h11
            have hcd : fcd true true = 0 := rfl
            rw [hcd] at I
            refine lv_iconst (v := nI (0)) hx hb dX2_nearest_62 (by decide) ?_
            refine lv_istore (lv' := [(5, .int (nI (0))), (4, .int (nI (1))), (0, .ref (gA g 5)), (1, .int (nI (s0))), (2, .int (nI (a))), (3, .int (nI (c0)))]) hx hb dX2_nearest_63 hl (by decide) rfl (fun ls hl => ?_)
            have loop : ∀ (n i : Nat), i ≤ 1024 → 1024 + 1 ≤ i + n → ∀ (H : Heap) (locs : List Loc) (ls : Array Slot), Iv g (R, B, (0, bF T, bF (fil P (fun k => nrF T a c0 k) (i)), fo), O) s H locs → lv_has ls 7 [(0, .ref (gA g 5)), (1, .int (nI (s0))), (2, .int (nI (a))), (3, .int (nI (c0))), (5, .int (nI (i)))] → W p l e (rmN 2 60) s m [.ref (gA g 5), .int ((nI s0)), .int ((nI a)), .int ((nI c0))].toArray below meth c H locs 0 0 (MQ below (Qs g (fun v' u' => v' = none ∧ ∃ (cd' : Int32) (T' P' : Nat → Bool), u' = (R, B, (cd', bF T', bF P', fo), O) ∧ ((¬ (okI 48 (nI s0) ∧ okI 48 (nI a) ∧ okI 48 (nI c0)) ∧ cd' = 1 ∧ T' = T) ∨ ((okI 48 (nI s0) ∧ okI 48 (nI a) ∧ okI 48 (nI c0)) ∧ ¬ (anyX T (nI c0)) ∧ cd' = 2 ∧ T' = T) ∨ (cd' = 0 ∧ ∃ s0_ a_ c0_ : Nat, s0_ < 48 ∧ a_ < 48 ∧ c0_ < 48 ∧ (nI s0) = nI s0_ ∧ (nI a) = nI a_ ∧ (nI c0) = nI c0_ ∧ anyT T c0_ ∧ MW T T' s0_ (fun k => nrF T a_ c0_ k))))) [.ref (gA g 5), .int ((nI s0)), .int ((nI a)), .int ((nI c0))].toArray s 0 0 (gW g)) (F0 m 65 ls []) := by
              intro n
              induction n with
              | zero => intro i h1 h2; exact absurd h2 (by omega)
              | succ n ih_loop =>
                intro i hi hn H locs ls I hl
                refine lv_iload hx hb dX2_nearest_65 (lv_at hl 4 rfl) ?_
                refine lv_sipush (v := nI (1024)) hx hb dX2_nearest_67 (by decide) ?_
                refine n_cge (tgt := 118) hx hb (by omega) (by omega) dX2_nearest_70 (by decide) (fun h14 => ?_) (fun h14 => ?_)
                · obtain rfl : i = 1024 := by omega
                  have hl : lv_has ls 7 [(0, .ref (gA g 5)), (1, .int (nI (s0))), (2, .int (nI (a))), (3, .int (nI (c0))), (5, .int (nI (1024)))] := hl
                  refine lv_aload_n hx hb dX2_nearest_118 rfl (lv_at hl 0 rfl) ?_
                  refine lv_iload_n hx hb dX2_nearest_119 rfl (lv_at hl 1 rfl) ?_
                  refine x_callVv 5 2 (rest := []) (C := RX2) (T0 := TX2) (N := 4) E F I (m_keep l g R B 0 T (fil P (fun k => nrF T a c0 k) 1024) fo O (s0 := s0) (by omega)) gX2_nearest_X2_keep rfl (by decide) rfl rfl rfl hd_X2_keep rfl rfl ⟨by decide, by decide⟩ ⟨by decide, by decide⟩ rfl hl.1 rfl (Nat.le_of_ble_eq_true rfl) dX2_nearest_120 (fun H locs I => ?_)
                  exact x_vret hx hb hr hk F I ⟨rfl, _, _, _, rfl, Or.inr (Or.inr ⟨rfl, s0, a, c0, lt_s0, lt_a, lt_c0, rfl, rfl, rfl, hany, MW_fil⟩)⟩ dX2_nearest_123
                · refine lv_iconst (v := nI (0)) hx hb dX2_nearest_73 (by decide) ?_
                  refine lv_istore (lv' := [(6, .int (nI (0))), (0, .ref (gA g 5)), (1, .int (nI (s0))), (2, .int (nI (a))), (3, .int (nI (c0))), (5, .int (nI (i)))]) hx hb dX2_nearest_74 hl (by decide) rfl (fun ls hl => ?_)
                  have loop2 : ∀ (n j : Nat), j ≤ 1024 → 1024 + 1 ≤ j + n → (∀ d, d < j → T (1024 * c0 + (i ^^^ d)) = false) → ∀ (H : Heap) (locs : List Loc) (ls : Array Slot), Iv g (R, B, (0, bF T, bF (fil P (fun k => nrF T a c0 k) (i)), fo), O) s H locs → lv_has ls 7 [(0, .ref (gA g 5)), (1, .int (nI (s0))), (2, .int (nI (a))), (3, .int (nI (c0))), (5, .int (nI (i))), (6, .int (nI (j)))] → W p l e (rmN 2 60) s m [.ref (gA g 5), .int ((nI s0)), .int ((nI a)), .int ((nI c0))].toArray below meth c H locs 0 0 (MQ below (Qs g (fun v' u' => v' = none ∧ ∃ (cd' : Int32) (T' P' : Nat → Bool), u' = (R, B, (cd', bF T', bF P', fo), O) ∧ ((¬ (okI 48 (nI s0) ∧ okI 48 (nI a) ∧ okI 48 (nI c0)) ∧ cd' = 1 ∧ T' = T) ∨ ((okI 48 (nI s0) ∧ okI 48 (nI a) ∧ okI 48 (nI c0)) ∧ ¬ (anyX T (nI c0)) ∧ cd' = 2 ∧ T' = T) ∨ (cd' = 0 ∧ ∃ s0_ a_ c0_ : Nat, s0_ < 48 ∧ a_ < 48 ∧ c0_ < 48 ∧ (nI s0) = nI s0_ ∧ (nI a) = nI a_ ∧ (nI c0) = nI c0_ ∧ anyT T c0_ ∧ MW T T' s0_ (fun k => nrF T a_ c0_ k))))) [.ref (gA g 5), .int ((nI s0)), .int ((nI a)), .int ((nI c0))].toArray s 0 0 (gW g)) (F0 m 76 ls []) := by
                    intro n
                    induction n with
                    | zero => intro j h1 h2; exact absurd h2 (by omega)
                    | succ n ih_loop2 =>
                      intro j hij hn hz H locs ls I hl
                      refine lv_aload_n hx hb dX2_nearest_76 rfl (lv_at hl 0 rfl) ?_
                      have hj9 : j < 1024 := near_lt hany (by omega) hz (by omega)
                      refine lv_iload_n hx hb dX2_nearest_77 rfl (lv_at hl 3 rfl) ?_
                      refine lv_iload hx hb dX2_nearest_78 (lv_at hl 4 rfl) ?_
                      refine lv_iload hx hb dX2_nearest_80 (lv_at hl 5 rfl) ?_
                      refine n_ixor hx hb dX2_nearest_82 ?_
                      refine x_callVi 5 2 (rest := []) (C := RX2) (T0 := TX2) (N := 4) E F I (m_of l g R B 0 T (fil P (fun k => nrF T a c0 k) (i)) fo O (a := c0) (k := (i) ^^^ (j)) (by omega) (xor1024 (by omega) (by omega))) gX2_nearest_X2_of rfl (by decide) rfl rfl rfl hd_X2_of rfl rfl ⟨by decide, by decide⟩ ⟨by decide, by decide⟩ rfl hl.1 rfl (Nat.le_of_ble_eq_true rfl) dX2_nearest_83 (fun H locs I => ?_)
                      refine n_zne (tgt := 95) hx hb dX2_nearest_86 (by decide) (fun h15 => ?_) (fun h15 => ?_)
                      · refine lv_aload_n hx hb dX2_nearest_95 rfl (lv_at hl 0 rfl) ?_
                        refine x_get 5 2 2 (C := RX2) (T := TX2) (N := 4) (v := .ref (gA g 7)) E F I inw_X2_nearest_X2 (by decide) rfl rfl (by decide) wm_X2_nearest_f14 rfl dX2_nearest_96 ?_
                        refine lv_iload hx hb dX2_nearest_99 (lv_at hl 4 rfl) ?_
                        refine lv_aload_n hx hb dX2_nearest_101 rfl (lv_at hl 0 rfl) ?_
                        refine lv_iload_n hx hb dX2_nearest_102 rfl (lv_at hl 2 rfl) ?_
                        refine lv_iload hx hb dX2_nearest_103 (lv_at hl 4 rfl) ?_
                        refine lv_iload hx hb dX2_nearest_105 (lv_at hl 5 rfl) ?_
                        refine n_ixor hx hb dX2_nearest_107 ?_
                        refine x_callVi 5 2 (rest := [.int (nI (i)), .ref (gA g 7)]) (C := RX2) (T0 := TX2) (N := 4) E F I (m_of l g R B 0 T (fil P (fun k => nrF T a c0 k) (i)) fo O (a := a) (k := (i) ^^^ (j)) (by omega) (xor1024 (by omega) (by omega))) gX2_nearest_X2_of rfl (by decide) rfl rfl rfl hd_X2_of rfl rfl ⟨by decide, by decide⟩ ⟨by decide, by decide⟩ rfl hl.1 rfl (Nat.le_of_ble_eq_true rfl) dX2_nearest_108 (fun H locs I => ?_)
                        refine x_zastore 7 (u' := (R, B, (0, bF T, upd (bF (fil P (fun k => nrF T a c0 k) (i))) (i) (bI (T (1024 * a + ((i) ^^^ (j))))), fo), O)) (i := i) hx hb F I (by decide) (bI_nar _) rfl rfl ec_o7 (by decide) (by omega) dX2_nearest_111 (fun H locs I => ?_)
                        refine n_iinc (d := 1) (lv' := [(5, .int (nI (i + 1))), (0, .ref (gA g 5)), (1, .int (nI (s0))), (2, .int (nI (a))), (3, .int (nI (c0))), (6, .int (nI (j)))]) hx hb dX2_nearest_112 rfl hl (j := 4) rfl (by decide) rfl (fun ls hl => ?_)
                        refine lv_goto (tgt := 65) hx hb dX2_nearest_115 (by decide) ?_
                        exact ih_loop (i + 1) (by omega) (by omega) _ _ ls (fil_step I (by show _ = bI (nrF T a c0 i); rw [nrF_at h15 hz])) (lv_sub hl [1, 2, 3, 4, 0] rfl)
                      · refine n_iinc (d := 1) (lv' := [(6, .int (nI (j + 1))), (0, .ref (gA g 5)), (1, .int (nI (s0))), (2, .int (nI (a))), (3, .int (nI (c0))), (5, .int (nI (i)))]) hx hb dX2_nearest_89 rfl hl (j := 5) rfl (by decide) rfl (fun ls hl => ?_)
                        refine lv_goto (tgt := 76) hx hb dX2_nearest_92 (by decide) ?_
                        exact ih_loop2 (j + 1) (by omega) (by omega) (fun d hd => by rcases Nat.lt_or_ge d j with q | q; exact hz d q; rw [show d = j by omega]; assumption) _ _ ls (I) (lv_sub hl [1, 2, 3, 4, 5, 0] rfl)
                  exact loop2 (1024 + 1 - 0) (0) (by omega) (by omega) (fun d hd => absurd hd (Nat.not_lt_zero d)) _ _ ls (I) (lv_sub hl [1, 2, 3, 4, 5, 0] rfl)
            exact loop (1024 + 1 - 0) (0) (by omega) (by omega) _ _ ls (by rw [fil_0]; exact I) (lv_sub hl [2, 3, 4, 5, 0] rfl)
          · exact x_vret hx hb hr hk F I ⟨rfl, _, _, _, rfl, (fail_d (SL := okI 48 (nI s0) ∧ okI 48 (nI a) ∧ okI 48 (nI c0)) (NU := anyX T (nI c0)) (⟨fun _ => ⟨⟨s0, lt_s0, rfl⟩, ⟨a, lt_a, rfl⟩, ⟨c0, lt_c0, rfl⟩⟩, fun _ => rfl⟩) (fun _ => ⟨fun _ => ⟨c0, lt_c0, rfl, cnt_p h11⟩, fun _ => rfl⟩) h13).elim (fun q => Or.inl ⟨q.1, q.2, rfl⟩) (fun q => Or.inr (Or.inl ⟨q.1, q.2.1, q.2.2, rfl⟩))⟩ dX2_nearest_61
theorem hd_X2_nearest : yX2_nearest.cls ≠ "java/lang/invoke/MethodHandle" ∧ yX2_nearest.cls ≠ "java/lang/invoke/VarHandle" ∧ (parseMethodDescriptor yX2_nearest.desc).map (fun d => d.parameters.length) = some 3 := by decide +kernel
