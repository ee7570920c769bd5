theorem wm_X2_some_f14 : Cond.fieldLink RX2 14 "FunctionDeskModel" "fresh" "[Z" ∈ wsX2_some := by decide +kernel
theorem inw_X2_some_X2 : ∀ w ∈ wsX20, w ∈ wsX2_some := by decide +kernel
set_option maxHeartbeats 4000000 in
set_option maxRecDepth 100000 in
theorem m_some (l : Launch) (g : Geo) (R : Nat → Nat → Int64) (B : Rul) (cd : Int32) (T P : Nat → Bool) (fo : Nat → Int32) (O : Nat → Int64) (x1 : Int32) (x2 : Int32) (x3 : Int32) (t : Bool) : Cs l g yX2_some wsX2_some (rmN 1 60) [.ref (gA g 5), .int (x1), .int (x2), .int (x3), .int (bI (t))] (R, B, (cd, bF T, bF P, fo), O) (fun v' u' => v' = none ∧ ∃ (cd' : Int32) (T' P' : Nat → Bool), u' = (R, B, (cd', bF T', bF P', fo), O) ∧ ((¬ (okI 48 x1 ∧ okI 48 x2) ∧ cd' = 1 ∧ T' = T) ∨ ((okI 48 x1 ∧ okI 48 x2) ∧ ¬ (okI 1024 x3) ∧ cd' = 2 ∧ T' = T) ∨ (cd' = 0 ∧ ∃ s0_ a_ h_ : Nat, s0_ < 48 ∧ a_ < 48 ∧ h_ < 1024 ∧ x1 = nI s0_ ∧ x2 = nI a_ ∧ x3 = nI h_ ∧ MW T T' s0_ (fun k => sAcc T a_ h_ t k 1024)))) := by
  refine Cs.ofW RX2 rfl (by decide) rfl (Nat.le_of_ble_eq_true rfl) ?_
  intro p e s m below meth c E hr hk F I ls hl
  have hx := E.1
  have hb := E.2.1
  have hl : lv_has ls 8 [(0, .ref (gA g 5)), (1, .int (x1)), (2, .int (x2)), (3, .int (x3)), (4, .int (bI (t)))] := hl
  refine lv_aload_n hx hb dX2_some_0 rfl (lv_at hl 0 rfl) ?_
  refine lv_iload_n hx hb dX2_some_1 rfl (lv_at hl 1 rfl) ?_
  refine lv_bipush (v := nI (48)) hx hb dX2_some_2 (by decide) ?_
  refine x_callSi (rest := [.ref (gA g 5)]) E F I (m_in l g R B (cd, bF T, bF P, fo) O (x1) (N := 48) (by decide)) gX2_some_X2_in rfl hd_X2_in rfl rfl ⟨by decide, by decide⟩ ⟨by decide, by decide⟩ rfl hl.1 rfl (Nat.le_of_ble_eq_true rfl) dX2_some_4 (fun H locs I => ?_)
  refine n_zeq (tgt := 23) hx hb dX2_some_7 (by decide) (fun h1 => ?_) (fun h1 => ?_)
  · refine lv_iconst (v := nI (0)) hx hb dX2_some_23 (by decide) ?_
    refine lv_iload_n hx hb dX2_some_24 rfl (lv_at hl 3 rfl) ?_
    refine lv_sipush (v := nI (1024)) hx hb dX2_some_25 (by decide) ?_
    refine x_callSi (rest := [.int (nI (0)), .ref (gA g 5)]) E F I (m_in l g R B (cd, bF T, bF P, fo) O (x3) (N := 1024) (by decide)) gX2_some_X2_in rfl hd_X2_in rfl rfl ⟨by decide, by decide⟩ ⟨by decide, by decide⟩ rfl hl.1 rfl (Nat.le_of_ble_eq_true rfl) dX2_some_28 (fun H locs I => ?_)
    refine x_callVi 5 2 (rest := []) (C := RX2) (T0 := TX2) (N := 4) E F I (m_fails l g R B cd T P fo O false (okB 1024 x3)) gX2_some_X2_fails rfl (by decide) rfl rfl rfl hd_X2_fails rfl rfl ⟨by decide, by decide⟩ ⟨by decide, by decide⟩ rfl hl.1 rfl (Nat.le_of_ble_eq_true rfl) dX2_some_31 (fun H locs I => ?_)
    refine n_zeq (tgt := 38) hx hb dX2_some_34 (by decide) (fun h2 => ?_) (fun h2 => ?_)
    · exact absurd h2 (by simp)
    · exact x_vret hx hb hr hk F I ⟨rfl, _, _, _, rfl, (fail_c (SL := okI 48 x1 ∧ okI 48 x2) (NU := okI 1024 x3) ⟨fun q => absurd q (by decide), fun q => absurd q.1 (okB_f h1)⟩ okB_iff h2).elim (fun q => Or.inl ⟨q.1, q.2, rfl⟩) (fun q => Or.inr (Or.inl ⟨q.1, q.2.1, q.2.2, rfl⟩))⟩ dX2_some_37
  · refine lv_iload_n hx hb dX2_some_10 rfl (lv_at hl 2 rfl) ?_
    refine lv_bipush (v := nI (48)) hx hb dX2_some_11 (by decide) ?_
    refine x_callSi (rest := [.ref (gA g 5)]) E F I (m_in l g R B (cd, bF T, bF P, fo) O (x2) (N := 48) (by decide)) gX2_some_X2_in rfl hd_X2_in rfl rfl ⟨by decide, by decide⟩ ⟨by decide, by decide⟩ rfl hl.1 rfl (Nat.le_of_ble_eq_true rfl) dX2_some_13 (fun H locs I => ?_)
    refine n_zeq (tgt := 23) hx hb dX2_some_16 (by decide) (fun h3 => ?_) (fun h3 => ?_)
    · refine lv_iconst (v := nI (0)) hx hb dX2_some_23 (by decide) ?_
      refine lv_iload_n hx hb dX2_some_24 rfl (lv_at hl 3 rfl) ?_
      refine lv_sipush (v := nI (1024)) hx hb dX2_some_25 (by decide) ?_
      refine x_callSi (rest := [.int (nI (0)), .ref (gA g 5)]) E F I (m_in l g R B (cd, bF T, bF P, fo) O (x3) (N := 1024) (by decide)) gX2_some_X2_in rfl hd_X2_in rfl rfl ⟨by decide, by decide⟩ ⟨by decide, by decide⟩ rfl hl.1 rfl (Nat.le_of_ble_eq_true rfl) dX2_some_28 (fun H locs I => ?_)
      refine x_callVi 5 2 (rest := []) (C := RX2) (T0 := TX2) (N := 4) E F I (m_fails l g R B cd T P fo O false (okB 1024 x3)) gX2_some_X2_fails rfl (by decide) rfl rfl rfl hd_X2_fails rfl rfl ⟨by decide, by decide⟩ ⟨by decide, by decide⟩ rfl hl.1 rfl (Nat.le_of_ble_eq_true rfl) dX2_some_31 (fun H locs I => ?_)
      refine n_zeq (tgt := 38) hx hb dX2_some_34 (by decide) (fun h4 => ?_) (fun h4 => ?_)
      · exact absurd h4 (by simp)
      · exact x_vret hx hb hr hk F I ⟨rfl, _, _, _, rfl, (fail_c (SL := okI 48 x1 ∧ okI 48 x2) (NU := okI 1024 x3) ⟨fun q => absurd q (by decide), fun q => absurd q.2 (okB_f h3)⟩ okB_iff h4).elim (fun q => Or.inl ⟨q.1, q.2, rfl⟩) (fun q => Or.inr (Or.inl ⟨q.1, q.2.1, q.2.2, rfl⟩))⟩ dX2_some_37
    · refine lv_iconst (v := nI (1)) hx hb dX2_some_19 (by decide) ?_
      refine lv_goto (tgt := 24) hx hb dX2_some_20 (by decide) ?_
      refine lv_iload_n hx hb dX2_some_24 rfl (lv_at hl 3 rfl) ?_
      refine lv_sipush (v := nI (1024)) hx hb dX2_some_25 (by decide) ?_
      refine x_callSi (rest := [.int (nI (1)), .ref (gA g 5)]) E F I (m_in l g R B (cd, bF T, bF P, fo) O (x3) (N := 1024) (by decide)) gX2_some_X2_in rfl hd_X2_in rfl rfl ⟨by decide, by decide⟩ ⟨by decide, by decide⟩ rfl hl.1 rfl (Nat.le_of_ble_eq_true rfl) dX2_some_28 (fun H locs I => ?_)
      refine x_callVi 5 2 (rest := []) (C := RX2) (T0 := TX2) (N := 4) E F I (m_fails l g R B cd T P fo O true (okB 1024 x3)) gX2_some_X2_fails rfl (by decide) rfl rfl rfl hd_X2_fails rfl rfl ⟨by decide, by decide⟩ ⟨by decide, by decide⟩ rfl hl.1 rfl (Nat.le_of_ble_eq_true rfl) dX2_some_31 (fun H locs I => ?_)
      refine n_zeq (tgt := 38) hx hb dX2_some_34 (by decide) (fun h5 => ?_) (fun h5 => ?_)
      · obtain ⟨hSL, hNU, hcd⟩ := good_c (SL := okI 48 x1 ∧ okI 48 x2) (NU := okI 1024 x3) ⟨fun _ => ⟨okB_iff.mp h1, okB_iff.mp h3⟩, fun _ => rfl⟩ okB_iff h5
        rw [hcd] at I
        obtain ⟨⟨s0, lt_s0, rfl⟩, ⟨a, lt_a, rfl⟩⟩ := hSL
        obtain ⟨h, lt_h, rfl⟩ := hNU
        have hl : lv_has ls 8 [(0, .ref (gA g 5)), (1, .int (nI (s0))), (2, .int (nI (a))), (3, .int (nI (h))), (4, .int (bI (t)))] := hl
        refine lv_iconst (v := nI (0)) hx hb dX2_some_38 (by decide) ?_
        refine lv_istore (lv' := [(5, .int (nI (0))), (0, .ref (gA g 5)), (1, .int (nI (s0))), (2, .int (nI (a))), (3, .int (nI (h))), (4, .int (bI (t)))]) hx hb dX2_some_39 hl (by decide) rfl (fun ls hl => ?_)
        have loop : ∀ (n i : Nat), i ≤ 1024 → 1024 + 1 ≤ i + n → ∀ (H : Heap) (locs : List Loc) (ls : Array Slot), Iv g (R, B, (0, bF T, bF (fil P (fun k => sAcc T a h t k 1024) (i)), fo), O) s H locs → lv_has ls 8 [(0, .ref (gA g 5)), (1, .int (nI (s0))), (2, .int (nI (a))), (3, .int (nI (h))), (4, .int (bI (t))), (5, .int (nI (i)))] → W p l e (rmN 1 60) s m [.ref (gA g 5), .int ((nI s0)), .int ((nI a)), .int ((nI h)), .int (bI (t))].toArray below meth c H locs 0 0 (MQ below (Qs g (fun v' u' => v' = none ∧ ∃ (cd' : Int32) (T' P' : Nat → Bool), u' = (R, B, (cd', bF T', bF P', fo), O) ∧ ((¬ (okI 48 (nI s0) ∧ okI 48 (nI a)) ∧ cd' = 1 ∧ T' = T) ∨ ((okI 48 (nI s0) ∧ okI 48 (nI a)) ∧ ¬ (okI 1024 (nI h)) ∧ cd' = 2 ∧ T' = T) ∨ (cd' = 0 ∧ ∃ s0_ a_ h_ : Nat, s0_ < 48 ∧ a_ < 48 ∧ h_ < 1024 ∧ (nI s0) = nI s0_ ∧ (nI a) = nI a_ ∧ (nI h) = nI h_ ∧ MW T T' s0_ (fun k => sAcc T a_ h_ t k 1024))))) [.ref (gA g 5), .int ((nI s0)), .int ((nI a)), .int ((nI h)), .int (bI (t))].toArray s 0 0 (gW g)) (F0 m 41 ls []) := by
          intro n
          induction n with
          | zero => intro i h1 h2; exact absurd h2 (by omega)
          | succ n ih_loop =>
            intro i hi hn H locs ls I hl
            refine lv_iload hx hb dX2_some_41 (lv_at hl 5 rfl) ?_
            refine lv_sipush (v := nI (1024)) hx hb dX2_some_43 (by decide) ?_
            refine n_cge (tgt := 150) hx hb (by omega) (by omega) dX2_some_46 (by decide) (fun h6 => ?_) (fun h6 => ?_)
            · obtain rfl : i = 1024 := by omega
              have hl : lv_has ls 8 [(0, .ref (gA g 5)), (1, .int (nI (s0))), (2, .int (nI (a))), (3, .int (nI (h))), (4, .int (bI (t))), (5, .int (nI (1024)))] := hl
              refine lv_aload_n hx hb dX2_some_150 rfl (lv_at hl 0 rfl) ?_
              refine lv_iload_n hx hb dX2_some_151 rfl (lv_at hl 1 rfl) ?_
              refine x_callVv 5 2 (rest := []) (C := RX2) (T0 := TX2) (N := 4) E F I (m_keep l g R B 0 T (fil P (fun k => sAcc T a h t k 1024) 1024) fo O (s0 := s0) (by omega)) gX2_some_X2_keep rfl (by decide) rfl rfl rfl hd_X2_keep rfl rfl ⟨by decide, by decide⟩ ⟨by decide, by decide⟩ rfl hl.1 rfl (Nat.le_of_ble_eq_true rfl) dX2_some_152 (fun H locs I => ?_)
              exact x_vret hx hb hr hk F I ⟨rfl, _, _, _, rfl, Or.inr (Or.inr ⟨rfl, s0, a, h, lt_s0, lt_a, lt_h, rfl, rfl, rfl, MW_fil⟩)⟩ dX2_some_155
            · refine lv_iload hx hb dX2_some_49 (lv_at hl 4 rfl) ?_
              refine lv_istore (lv' := [(6, .int (bI (t))), (0, .ref (gA g 5)), (1, .int (nI (s0))), (2, .int (nI (a))), (3, .int (nI (h))), (4, .int (bI (t))), (5, .int (nI (i)))]) hx hb dX2_some_51 hl (by decide) rfl (fun ls hl => ?_)
              refine lv_iconst (v := nI (0)) hx hb dX2_some_53 (by decide) ?_
              refine lv_istore (lv' := [(7, .int (nI (0))), (6, .int (bI (t))), (0, .ref (gA g 5)), (1, .int (nI (s0))), (2, .int (nI (a))), (3, .int (nI (h))), (4, .int (bI (t))), (5, .int (nI (i)))]) hx hb dX2_some_54 hl (by decide) rfl (fun ls hl => ?_)
              have loop2 : ∀ (n j : Nat), j ≤ 1024 → 1024 + 1 ≤ j + n → ∀ (H : Heap) (locs : List Loc) (ls : Array Slot), Iv g (R, B, (0, bF T, bF (fil P (fun k => sAcc T a h t k 1024) (i)), fo), O) s H locs → lv_has ls 8 [(0, .ref (gA g 5)), (1, .int (nI (s0))), (2, .int (nI (a))), (3, .int (nI (h))), (4, .int (bI (t))), (5, .int (nI (i))), (6, .int (bI (sAcc T a h t i (j)))), (7, .int (nI (j)))] → W p l e (rmN 1 60) s m [.ref (gA g 5), .int ((nI s0)), .int ((nI a)), .int ((nI h)), .int (bI (t))].toArray below meth c H locs 0 0 (MQ below (Qs g (fun v' u' => v' = none ∧ ∃ (cd' : Int32) (T' P' : Nat → Bool), u' = (R, B, (cd', bF T', bF P', fo), O) ∧ ((¬ (okI 48 (nI s0) ∧ okI 48 (nI a)) ∧ cd' = 1 ∧ T' = T) ∨ ((okI 48 (nI s0) ∧ okI 48 (nI a)) ∧ ¬ (okI 1024 (nI h)) ∧ cd' = 2 ∧ T' = T) ∨ (cd' = 0 ∧ ∃ s0_ a_ h_ : Nat, s0_ < 48 ∧ a_ < 48 ∧ h_ < 1024 ∧ (nI s0) = nI s0_ ∧ (nI a) = nI a_ ∧ (nI h) = nI h_ ∧ MW T T' s0_ (fun k => sAcc T a_ h_ t k 1024))))) [.ref (gA g 5), .int ((nI s0)), .int ((nI a)), .int ((nI h)), .int (bI (t))].toArray s 0 0 (gW g)) (F0 m 56 ls []) := by
                intro n
                induction n with
                | zero => intro j h1 h2; exact absurd h2 (by omega)
                | succ n ih_loop2 =>
                  intro j hij hn H locs ls I hl
                  refine lv_iload hx hb dX2_some_56 (lv_at hl 7 rfl) ?_
                  refine lv_sipush (v := nI (1024)) hx hb dX2_some_58 (by decide) ?_
                  refine n_cge (tgt := 135) hx hb (by omega) (by omega) dX2_some_61 (by decide) (fun h7 => ?_) (fun h7 => ?_)
                  · obtain rfl : j = 1024 := by omega
                    have hl : lv_has ls 8 [(0, .ref (gA g 5)), (1, .int (nI (s0))), (2, .int (nI (a))), (3, .int (nI (h))), (4, .int (bI (t))), (5, .int (nI (i))), (6, .int (bI (sAcc T a h t i (1024)))), (7, .int (nI (1024)))] := hl
                    refine lv_aload_n hx hb dX2_some_135 rfl (lv_at hl 0 rfl) ?_
                    refine x_get 5 2 2 (C := RX2) (T := TX2) (N := 4) (v := .ref (gA g 7)) E F I inw_X2_some_X2 (by decide) rfl rfl (by decide) wm_X2_some_f14 rfl dX2_some_136 ?_
                    refine lv_iload hx hb dX2_some_139 (lv_at hl 5 rfl) ?_
                    refine lv_iload hx hb dX2_some_141 (lv_at hl 6 rfl) ?_
                    refine x_zastore 7 (u' := (R, B, (0, bF T, upd (bF (fil P (fun k => sAcc T a h t k 1024) (i))) (i) (bI (sAcc T a h t i (1024))), fo), O)) (i := i) hx hb F I (by decide) (bI_nar _) rfl rfl ec_o7 (by decide) (by omega) dX2_some_143 (fun H locs I => ?_)
                    refine n_iinc (d := 1) (lv' := [(5, .int (nI (i + 1))), (0, .ref (gA g 5)), (1, .int (nI (s0))), (2, .int (nI (a))), (3, .int (nI (h))), (4, .int (bI (t))), (6, .int (bI (sAcc T a h t i (1024)))), (7, .int (nI (1024)))]) hx hb dX2_some_144 rfl hl (j := 5) rfl (by decide) rfl (fun ls hl => ?_)
                    refine lv_goto (tgt := 41) hx hb dX2_some_147 (by decide) ?_
                    exact ih_loop (i + 1) (by omega) (by omega) _ _ ls (fil_step I (rfl)) (lv_sub hl [1, 2, 3, 4, 5, 0] rfl)
                  · refine lv_iload hx hb dX2_some_64 (lv_at hl 7 rfl) ?_
                    refine lv_iload_n hx hb dX2_some_66 rfl (lv_at hl 3 rfl) ?_
                    refine lv_iconst (v := nI (4294967295)) hx hb dX2_some_67 (by decide) ?_
                    refine n_ixor hx hb dX2_some_68 ?_
                    refine n_iand hx hb dX2_some_69 ?_
                    refine lv_iload hx hb dX2_some_70 (lv_at hl 5 rfl) ?_
                    refine lv_iload_n hx hb dX2_some_72 rfl (lv_at hl 3 rfl) ?_
                    refine lv_iconst (v := nI (4294967295)) hx hb dX2_some_73 (by decide) ?_
                    refine n_ixor hx hb dX2_some_74 ?_
                    refine n_iand hx hb dX2_some_75 ?_
                    refine n_cne (tgt := 129) hx hb (Nat.lt_of_le_of_lt Nat.and_le_left (by omega)) (Nat.lt_of_le_of_lt Nat.and_le_left (by omega)) dX2_some_76 (by decide) (fun h8 => ?_) (fun h8 => ?_)
                    · refine n_iinc (d := 1) (lv' := [(7, .int (nI (j + 1))), (0, .ref (gA g 5)), (1, .int (nI (s0))), (2, .int (nI (a))), (3, .int (nI (h))), (4, .int (bI (t))), (5, .int (nI (i))), (6, .int (bI (sAcc T a h t i (j))))]) hx hb dX2_some_129 rfl hl (j := 7) rfl (by decide) rfl (fun ls hl => ?_)
                      have hl : lv_has ls 8 [(7, .int (nI (j + 1))), (0, .ref (gA g 5)), (1, .int (nI (s0))), (2, .int (nI (a))), (3, .int (nI (h))), (4, .int (bI (t))), (5, .int (nI (i))), (6, .int (bI (sAcc T a h t i (j + 1))))] := by
                        rw [show sAcc T a h t i (j + 1) = sAcc T a h t i (j) from by rw [sAcc, if_neg h8]]
                        exact hl
                      refine lv_goto (tgt := 56) hx hb dX2_some_132 (by decide) ?_
                      exact ih_loop2 (j + 1) (by omega) (by omega) _ _ ls (I) (lv_sub hl [1, 2, 3, 4, 5, 6, 7, 0] rfl)
                    · refine lv_iload hx hb dX2_some_79 (lv_at hl 4 rfl) ?_
                      refine n_zeq (tgt := 107) hx hb dX2_some_81 (by decide) (fun h9 => ?_) (fun h9 => ?_)
                      · refine lv_iload hx hb dX2_some_107 (lv_at hl 6 rfl) ?_
                        refine n_zne (tgt := 122) hx hb dX2_some_109 (by decide) (fun h10 => ?_) (fun h10 => ?_)
                        · refine lv_iconst (v := nI (1)) hx hb dX2_some_122 (by decide) ?_
                          refine lv_goto (tgt := 127) hx hb dX2_some_123 (by decide) ?_
                          refine lv_istore (lv' := [(6, .int (nI (1))), (0, .ref (gA g 5)), (1, .int (nI (s0))), (2, .int (nI (a))), (3, .int (nI (h))), (4, .int (bI (t))), (5, .int (nI (i))), (7, .int (nI (j)))]) hx hb dX2_some_127 hl (by decide) rfl (fun ls hl => ?_)
                          refine n_iinc (d := 1) (lv' := [(7, .int (nI (j + 1))), (6, .int (nI (1))), (0, .ref (gA g 5)), (1, .int (nI (s0))), (2, .int (nI (a))), (3, .int (nI (h))), (4, .int (bI (t))), (5, .int (nI (i)))]) hx hb dX2_some_129 rfl hl (j := 7) rfl (by decide) rfl (fun ls hl => ?_)
                          have hl : lv_has ls 8 [(7, .int (nI (j + 1))), (6, .int (bI (sAcc T a h t i (j + 1)))), (0, .ref (gA g 5)), (1, .int (nI (s0))), (2, .int (nI (a))), (3, .int (nI (h))), (4, .int (bI (t))), (5, .int (nI (i)))] := by
                            rw [show sAcc T a h t i (j + 1) = true from by rw [sAcc, if_pos h8]; simp [h10] <;> simp [h9]]
                            exact hl
                          refine lv_goto (tgt := 56) hx hb dX2_some_132 (by decide) ?_
                          exact ih_loop2 (j + 1) (by omega) (by omega) _ _ ls (I) (lv_sub hl [2, 3, 4, 5, 6, 7, 1, 0] rfl)
                        · refine lv_aload_n hx hb dX2_some_112 rfl (lv_at hl 0 rfl) ?_
                          refine lv_iload_n hx hb dX2_some_113 rfl (lv_at hl 2 rfl) ?_
                          refine lv_iload hx hb dX2_some_114 (lv_at hl 7 rfl) ?_
                          refine x_callVi 5 2 (rest := []) (C := RX2) (T0 := TX2) (N := 4) E F I (m_of l g R B 0 T (fil P (fun k => sAcc T a h t k 1024) (i)) fo O (a := a) (k := j) (by omega) (by omega)) gX2_some_X2_of rfl (by decide) rfl rfl rfl hd_X2_of rfl rfl ⟨by decide, by decide⟩ ⟨by decide, by decide⟩ rfl hl.1 rfl (Nat.le_of_ble_eq_true rfl) dX2_some_116 (fun H locs I => ?_)
                          refine n_zeq (tgt := 126) hx hb dX2_some_119 (by decide) (fun h11 => ?_) (fun h11 => ?_)
                          · refine lv_iconst (v := nI (0)) hx hb dX2_some_126 (by decide) ?_
                            refine lv_istore (lv' := [(6, .int (nI (0))), (0, .ref (gA g 5)), (1, .int (nI (s0))), (2, .int (nI (a))), (3, .int (nI (h))), (4, .int (bI (t))), (5, .int (nI (i))), (7, .int (nI (j)))]) hx hb dX2_some_127 hl (by decide) rfl (fun ls hl => ?_)
                            refine n_iinc (d := 1) (lv' := [(7, .int (nI (j + 1))), (6, .int (nI (0))), (0, .ref (gA g 5)), (1, .int (nI (s0))), (2, .int (nI (a))), (3, .int (nI (h))), (4, .int (bI (t))), (5, .int (nI (i)))]) hx hb dX2_some_129 rfl hl (j := 7) rfl (by decide) rfl (fun ls hl => ?_)
                            have hl : lv_has ls 8 [(7, .int (nI (j + 1))), (6, .int (bI (sAcc T a h t i (j + 1)))), (0, .ref (gA g 5)), (1, .int (nI (s0))), (2, .int (nI (a))), (3, .int (nI (h))), (4, .int (bI (t))), (5, .int (nI (i)))] := by
                              rw [show sAcc T a h t i (j + 1) = false from by rw [sAcc, if_pos h8]; simp [h10, h11] <;> simp [h9]]
                              exact hl
                            refine lv_goto (tgt := 56) hx hb dX2_some_132 (by decide) ?_
                            exact ih_loop2 (j + 1) (by omega) (by omega) _ _ ls (I) (lv_sub hl [2, 3, 4, 5, 6, 7, 1, 0] rfl)
                          · refine lv_iconst (v := nI (1)) hx hb dX2_some_122 (by decide) ?_
                            refine lv_goto (tgt := 127) hx hb dX2_some_123 (by decide) ?_
                            refine lv_istore (lv' := [(6, .int (nI (1))), (0, .ref (gA g 5)), (1, .int (nI (s0))), (2, .int (nI (a))), (3, .int (nI (h))), (4, .int (bI (t))), (5, .int (nI (i))), (7, .int (nI (j)))]) hx hb dX2_some_127 hl (by decide) rfl (fun ls hl => ?_)
                            refine n_iinc (d := 1) (lv' := [(7, .int (nI (j + 1))), (6, .int (nI (1))), (0, .ref (gA g 5)), (1, .int (nI (s0))), (2, .int (nI (a))), (3, .int (nI (h))), (4, .int (bI (t))), (5, .int (nI (i)))]) hx hb dX2_some_129 rfl hl (j := 7) rfl (by decide) rfl (fun ls hl => ?_)
                            have hl : lv_has ls 8 [(7, .int (nI (j + 1))), (6, .int (bI (sAcc T a h t i (j + 1)))), (0, .ref (gA g 5)), (1, .int (nI (s0))), (2, .int (nI (a))), (3, .int (nI (h))), (4, .int (bI (t))), (5, .int (nI (i)))] := by
                              rw [show sAcc T a h t i (j + 1) = true from by rw [sAcc, if_pos h8]; simp [h10, h11] <;> simp [h9]]
                              exact hl
                            refine lv_goto (tgt := 56) hx hb dX2_some_132 (by decide) ?_
                            exact ih_loop2 (j + 1) (by omega) (by omega) _ _ ls (I) (lv_sub hl [2, 3, 4, 5, 6, 7, 1, 0] rfl)
                      · refine lv_iload hx hb dX2_some_84 (lv_at hl 6 rfl) ?_
                        refine n_zeq (tgt := 103) hx hb dX2_some_86 (by decide) (fun h12 => ?_) (fun h12 => ?_)
                        · refine lv_iconst (v := nI (0)) hx hb dX2_some_103 (by decide) ?_
                          refine lv_goto (tgt := 127) hx hb dX2_some_104 (by decide) ?_
                          refine lv_istore (lv' := [(6, .int (nI (0))), (0, .ref (gA g 5)), (1, .int (nI (s0))), (2, .int (nI (a))), (3, .int (nI (h))), (4, .int (bI (t))), (5, .int (nI (i))), (7, .int (nI (j)))]) hx hb dX2_some_127 hl (by decide) rfl (fun ls hl => ?_)
                          refine n_iinc (d := 1) (lv' := [(7, .int (nI (j + 1))), (6, .int (nI (0))), (0, .ref (gA g 5)), (1, .int (nI (s0))), (2, .int (nI (a))), (3, .int (nI (h))), (4, .int (bI (t))), (5, .int (nI (i)))]) hx hb dX2_some_129 rfl hl (j := 7) rfl (by decide) rfl (fun ls hl => ?_)
                          have hl : lv_has ls 8 [(7, .int (nI (j + 1))), (6, .int (bI (sAcc T a h t i (j + 1)))), (0, .ref (gA g 5)), (1, .int (nI (s0))), (2, .int (nI (a))), (3, .int (nI (h))), (4, .int (bI (t))), (5, .int (nI (i)))] := by
                            rw [show sAcc T a h t i (j + 1) = false from by rw [sAcc, if_pos h8]; simp [h12] <;> simp [h9]]
                            exact hl
                          refine lv_goto (tgt := 56) hx hb dX2_some_132 (by decide) ?_
                          exact ih_loop2 (j + 1) (by omega) (by omega) _ _ ls (I) (lv_sub hl [2, 3, 4, 5, 6, 7, 1, 0] rfl)
                        · refine lv_aload_n hx hb dX2_some_89 rfl (lv_at hl 0 rfl) ?_
                          refine lv_iload_n hx hb dX2_some_90 rfl (lv_at hl 2 rfl) ?_
                          refine lv_iload hx hb dX2_some_91 (lv_at hl 7 rfl) ?_
                          refine x_callVi 5 2 (rest := []) (C := RX2) (T0 := TX2) (N := 4) E F I (m_of l g R B 0 T (fil P (fun k => sAcc T a h t k 1024) (i)) fo O (a := a) (k := j) (by omega) (by omega)) gX2_some_X2_of rfl (by decide) rfl rfl rfl hd_X2_of rfl rfl ⟨by decide, by decide⟩ ⟨by decide, by decide⟩ rfl hl.1 rfl (Nat.le_of_ble_eq_true rfl) dX2_some_93 (fun H locs I => ?_)
                          refine n_zeq (tgt := 103) hx hb dX2_some_96 (by decide) (fun h13 => ?_) (fun h13 => ?_)
                          · refine lv_iconst (v := nI (0)) hx hb dX2_some_103 (by decide) ?_
                            refine lv_goto (tgt := 127) hx hb dX2_some_104 (by decide) ?_
                            refine lv_istore (lv' := [(6, .int (nI (0))), (0, .ref (gA g 5)), (1, .int (nI (s0))), (2, .int (nI (a))), (3, .int (nI (h))), (4, .int (bI (t))), (5, .int (nI (i))), (7, .int (nI (j)))]) hx hb dX2_some_127 hl (by decide) rfl (fun ls hl => ?_)
                            refine n_iinc (d := 1) (lv' := [(7, .int (nI (j + 1))), (6, .int (nI (0))), (0, .ref (gA g 5)), (1, .int (nI (s0))), (2, .int (nI (a))), (3, .int (nI (h))), (4, .int (bI (t))), (5, .int (nI (i)))]) hx hb dX2_some_129 rfl hl (j := 7) rfl (by decide) rfl (fun ls hl => ?_)
                            have hl : lv_has ls 8 [(7, .int (nI (j + 1))), (6, .int (bI (sAcc T a h t i (j + 1)))), (0, .ref (gA g 5)), (1, .int (nI (s0))), (2, .int (nI (a))), (3, .int (nI (h))), (4, .int (bI (t))), (5, .int (nI (i)))] := by
                              rw [show sAcc T a h t i (j + 1) = false from by rw [sAcc, if_pos h8]; simp [h12, h13] <;> simp [h9]]
                              exact hl
                            refine lv_goto (tgt := 56) hx hb dX2_some_132 (by decide) ?_
                            exact ih_loop2 (j + 1) (by omega) (by omega) _ _ ls (I) (lv_sub hl [2, 3, 4, 5, 6, 7, 1, 0] rfl)
                          · refine lv_iconst (v := nI (1)) hx hb dX2_some_99 (by decide) ?_
                            refine lv_goto (tgt := 127) hx hb dX2_some_100 (by decide) ?_
                            refine lv_istore (lv' := [(6, .int (nI (1))), (0, .ref (gA g 5)), (1, .int (nI (s0))), (2, .int (nI (a))), (3, .int (nI (h))), (4, .int (bI (t))), (5, .int (nI (i))), (7, .int (nI (j)))]) hx hb dX2_some_127 hl (by decide) rfl (fun ls hl => ?_)
                            refine n_iinc (d := 1) (lv' := [(7, .int (nI (j + 1))), (6, .int (nI (1))), (0, .ref (gA g 5)), (1, .int (nI (s0))), (2, .int (nI (a))), (3, .int (nI (h))), (4, .int (bI (t))), (5, .int (nI (i)))]) hx hb dX2_some_129 rfl hl (j := 7) rfl (by decide) rfl (fun ls hl => ?_)
                            have hl : lv_has ls 8 [(7, .int (nI (j + 1))), (6, .int (bI (sAcc T a h t i (j + 1)))), (0, .ref (gA g 5)), (1, .int (nI (s0))), (2, .int (nI (a))), (3, .int (nI (h))), (4, .int (bI (t))), (5, .int (nI (i)))] := by
                              rw [show sAcc T a h t i (j + 1) = true from by rw [sAcc, if_pos h8]; simp [h12, h13] <;> simp [h9]]
                              exact hl
                            refine lv_goto (tgt := 56) hx hb dX2_some_132 (by decide) ?_
                            exact ih_loop2 (j + 1) (by omega) (by omega) _ _ ls (I) (lv_sub hl [2, 3, 4, 5, 6, 7, 1, 0] rfl)
              exact loop2 (1024 + 1 - 0) (0) (by omega) (by omega) _ _ ls (I) (lv_sub hl [2, 3, 4, 5, 6, 7, 1, 0] rfl)
        exact loop (1024 + 1 - 0) (0) (by omega) (by omega) _ _ ls (by rw [fil_0]; exact I) (lv_sub hl [1, 2, 3, 4, 5, 0] rfl)
      · exact x_vret hx hb hr hk F I ⟨rfl, _, _, _, rfl, (fail_c (SL := okI 48 x1 ∧ okI 48 x2) (NU := okI 1024 x3) ⟨fun _ => ⟨okB_iff.mp h1, okB_iff.mp h3⟩, fun _ => rfl⟩ okB_iff h5).elim (fun q => Or.inl ⟨q.1, q.2, rfl⟩) (fun q => Or.inr (Or.inl ⟨q.1, q.2.1, q.2.2, rfl⟩))⟩ dX2_some_37
theorem hd_X2_some : yX2_some.cls ≠ "java/lang/invoke/MethodHandle" ∧ yX2_some.cls ≠ "java/lang/invoke/VarHandle" ∧ (parseMethodDescriptor yX2_some.desc).map (fun d => d.parameters.length) = some 4 := by decide +kernel
set_option maxHeartbeats 4000000 in
set_option maxRecDepth 100000 in
theorem m_many (l : Launch) (g : Geo) (R : Nat → Nat → Int64) (B : Rul) (cd : Int32) (T P : Nat → Bool) (fo : Nat → Int32) (O : Nat → Int64) {a : Nat} (ha : a < 48) : Cd l g yX2_many wsX2_many (rmN 1 22) [.ref (gA g 5), .int (nI (a))] (R, B, (cd, bF T, bF P, fo), O) (some (.int (nI (cnt (fun k => T (1024 * a + k)) 1024)))) (R, B, (cd, bF T, bF P, fo), O) := by
  refine Cs.ofW RX2 rfl (by decide) rfl (Nat.le_of_ble_eq_true rfl) ?_
  intro p e s m below meth c E hr hk F I ls hl
  have hx := E.1
  have hb := E.2.1
  have hl : lv_has ls 4 [(0, .ref (gA g 5)), (1, .int (nI (a)))] := hl
  refine lv_iconst (v := nI (0)) hx hb dX2_many_0 (by decide) ?_
  refine lv_istore_n (lv' := [(2, .int (nI (0))), (0, .ref (gA g 5)), (1, .int (nI (a)))]) hx hb dX2_many_1 rfl hl (by decide) rfl (fun ls hl => ?_)
  refine lv_iconst (v := nI (0)) hx hb dX2_many_2 (by decide) ?_
  refine lv_istore_n (lv' := [(3, .int (nI (0))), (2, .int (nI (0))), (0, .ref (gA g 5)), (1, .int (nI (a)))]) hx hb dX2_many_3 rfl hl (by decide) rfl (fun ls hl => ?_)
  have loop : ∀ (n i : Nat), i ≤ 1024 → 1024 + 1 ≤ i + n → ∀ (H : Heap) (locs : List Loc) (ls : Array Slot), Iv g (R, B, (cd, bF T, bF P, fo), O) s H locs → lv_has ls 4 [(0, .ref (gA g 5)), (1, .int (nI (a))), (2, .int (nI (cnt (fun k => T (1024 * a + k)) (i)))), (3, .int (nI (i)))] → W p l e (rmN 1 22) s m [.ref (gA g 5), .int (nI (a))].toArray below meth c H locs 0 0 (MQ below (Qs g (fun v' u'' => v' = (some (.int (nI (cnt (fun k => T (1024 * a + k)) 1024)))) ∧ u'' = (R, B, (cd, bF T, bF P, fo), O))) [.ref (gA g 5), .int (nI (a))].toArray s 0 0 (gW g)) (F0 m 4 ls []) := by
    intro n
    induction n with
    | zero => intro i h1 h2; exact absurd h2 (by omega)
    | succ n ih_loop =>
      intro i hi hn H locs ls I hl
      refine lv_iload_n hx hb dX2_many_4 rfl (lv_at hl 3 rfl) ?_
      refine lv_sipush (v := nI (1024)) hx hb dX2_many_5 (by decide) ?_
      refine n_cge (tgt := 34) hx hb (by omega) (by omega) dX2_many_8 (by decide) (fun h1 => ?_) (fun h1 => ?_)
      · obtain rfl : i = 1024 := by omega
        have hl : lv_has ls 4 [(0, .ref (gA g 5)), (1, .int (nI (a))), (2, .int (nI (cnt (fun k => T (1024 * a + k)) (1024)))), (3, .int (nI (1024)))] := hl
        refine lv_iload_n hx hb dX2_many_34 rfl (lv_at hl 2 rfl) ?_
        exact x_iret hx hb hr hk F I ⟨rfl, rfl⟩ dX2_many_35
      · refine lv_aload_n hx hb dX2_many_11 rfl (lv_at hl 0 rfl) ?_
        refine lv_iload_n hx hb dX2_many_12 rfl (lv_at hl 1 rfl) ?_
        refine lv_iload_n hx hb dX2_many_13 rfl (lv_at hl 3 rfl) ?_
        refine x_callVi 5 2 (rest := []) (C := RX2) (T0 := TX2) (N := 4) E F I (m_of l g R B cd T P fo O (a := a) (k := i) (by omega) (by omega)) gX2_many_X2_of rfl (by decide) rfl rfl rfl hd_X2_of rfl rfl ⟨by decide, by decide⟩ ⟨by decide, by decide⟩ rfl hl.1 rfl (Nat.le_of_ble_eq_true rfl) dX2_many_14 (fun H locs I => ?_)
        refine n_zeq (tgt := 26) hx hb dX2_many_17 (by decide) (fun h2 => ?_) (fun h2 => ?_)
        · refine lv_iload_n hx hb dX2_many_26 rfl (lv_at hl 2 rfl) ?_
          refine lv_istore_n (lv' := [(2, .int (nI (cnt (fun k => T (1024 * a + k)) (i)))), (0, .ref (gA g 5)), (1, .int (nI (a))), (3, .int (nI (i)))]) hx hb dX2_many_27 rfl hl (by decide) rfl (fun ls hl => ?_)
          refine n_iinc (d := 1) (lv' := [(3, .int (nI (i + 1))), (2, .int (nI (cnt (fun k => T (1024 * a + k)) (i)))), (0, .ref (gA g 5)), (1, .int (nI (a)))]) hx hb dX2_many_28 rfl hl (j := 3) rfl (by decide) rfl (fun ls hl => ?_)
          have hl : lv_has ls 4 [(3, .int (nI (i + 1))), (2, .int (nI (cnt (fun k => T (1024 * a + k)) (i + 1)))), (0, .ref (gA g 5)), (1, .int (nI (a)))] := by
            rw [show cnt (fun k => T (1024 * a + k)) (i + 1) = cnt (fun k => T (1024 * a + k)) (i) from by rw [cnt]; simp [h2]]
            exact hl
          refine lv_goto (tgt := 4) hx hb dX2_many_31 (by decide) ?_
          exact ih_loop (i + 1) (by omega) (by omega) _ _ ls (I) (lv_sub hl [2, 3, 1, 0] rfl)
        · refine lv_iload_n hx hb dX2_many_20 rfl (lv_at hl 2 rfl) ?_
          refine lv_iconst (v := nI (1)) hx hb dX2_many_21 (by decide) ?_
          refine n_iadd hx hb dX2_many_22 ?_
          refine lv_goto (tgt := 27) hx hb dX2_many_23 (by decide) ?_
          refine lv_istore_n (lv' := [(2, .int (nI ((cnt (fun k => T (1024 * a + k)) (i)) + (1)))), (0, .ref (gA g 5)), (1, .int (nI (a))), (3, .int (nI (i)))]) hx hb dX2_many_27 rfl hl (by decide) rfl (fun ls hl => ?_)
          refine n_iinc (d := 1) (lv' := [(3, .int (nI (i + 1))), (2, .int (nI ((cnt (fun k => T (1024 * a + k)) (i)) + (1)))), (0, .ref (gA g 5)), (1, .int (nI (a)))]) hx hb dX2_many_28 rfl hl (j := 3) rfl (by decide) rfl (fun ls hl => ?_)
          have hl : lv_has ls 4 [(3, .int (nI (i + 1))), (2, .int (nI (cnt (fun k => T (1024 * a + k)) (i + 1)))), (0, .ref (gA g 5)), (1, .int (nI (a)))] := by
            rw [show cnt (fun k => T (1024 * a + k)) (i + 1) = (cnt (fun k => T (1024 * a + k)) (i)) + (1) from by rw [cnt]; simp [h2]]
            exact hl
          refine lv_goto (tgt := 4) hx hb dX2_many_31 (by decide) ?_
          exact ih_loop (i + 1) (by omega) (by omega) _ _ ls (I) (lv_sub hl [2, 3, 1, 0] rfl)
  exact loop (1024 + 1 - 0) (0) (by omega) (by omega) _ _ ls (I) (lv_sub hl [2, 3, 1, 0] rfl)
theorem hd_X2_many : yX2_many.cls ≠ "java/lang/invoke/MethodHandle" ∧ yX2_many.cls ≠ "java/lang/invoke/VarHandle" ∧ (parseMethodDescriptor yX2_many.desc).map (fun d => d.parameters.length) = some 1 := by decide +kernel
