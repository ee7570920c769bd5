theorem wm_X2_join_f14 : Cond.fieldLink RX2 14 "FunctionDeskModel" "fresh" "[Z" ∈ wsX2_join := by decide +kernel
theorem inw_X2_join_X2 : ∀ w ∈ wsX20, w ∈ wsX2_join := by decide +kernel
set_option maxHeartbeats 4000000 in
set_option maxRecDepth 100000 in
theorem m_join (l : Launch) (g : Geo) (R : Nat → Nat → Int64) (B : Rul) (cd : Int32) (T P : Nat → Bool) (fo : Nat → Int32) (O : Nat → Int64) (x1 : Int32) (x2 : Int32) (x3 : Int32) (x4 : Int32) : Cs l g yX2_join wsX2_join (rmN 1 60) [.ref (gA g 5), .int (x1), .int (x2), .int (x3), .int (x4)] (R, B, (cd, bF T, bF P, fo), O) (fun v' u' => v' = none ∧ ∃ (cd' : Int32) (T' P' : Nat → Bool), u' = (R, B, (cd', bF T', bF P', fo), O) ∧ ((¬ (okI 48 x1 ∧ okI 48 x2 ∧ okI 48 x3) ∧ cd' = 1 ∧ T' = T) ∨ ((okI 48 x1 ∧ okI 48 x2 ∧ okI 48 x3) ∧ ¬ (okI 16 x4) ∧ cd' = 2 ∧ T' = T) ∨ (cd' = 0 ∧ ∃ s0_ a_ b_ h_ : Nat, s0_ < 48 ∧ a_ < 48 ∧ b_ < 48 ∧ h_ < 16 ∧ x1 = nI s0_ ∧ x2 = nI a_ ∧ x3 = nI b_ ∧ x4 = nI h_ ∧ MW T T' s0_ (fun k => (h_ / 2 ^ ((if T (1024 * a_ + k) then 2 else 0) + (if T (1024 * b_ + k) then 1 else 0))) % 2 == 1)))) := by
  refine Cs.ofW RX2 rfl (by decide) rfl (Nat.le_of_ble_eq_true rfl) ?_
  intro p e s m below meth c E hr hk F I ls hl
  have hx := E.1
  have hb := E.2.1
  have hl : lv_has ls 7 [(0, .ref (gA g 5)), (1, .int (x1)), (2, .int (x2)), (3, .int (x3)), (4, .int (x4))] := hl
  refine lv_aload_n hx hb dX2_join_0 rfl (lv_at hl 0 rfl) ?_
  refine lv_iload_n hx hb dX2_join_1 rfl (lv_at hl 1 rfl) ?_
  refine lv_bipush (v := nI (48)) hx hb dX2_join_2 (by decide) ?_
  refine x_callSi (rest := [.ref (gA g 5)]) E F I (m_in l g R B (cd, bF T, bF P, fo) O (x1) (N := 48) (by decide)) gX2_join_X2_in rfl hd_X2_in rfl rfl ⟨by decide, by decide⟩ ⟨by decide, by decide⟩ rfl hl.1 rfl (Nat.le_of_ble_eq_true rfl) dX2_join_4 (fun H locs I => ?_)
  refine n_zeq (tgt := 32) hx hb dX2_join_7 (by decide) (fun h1 => ?_) (fun h1 => ?_)
  · refine lv_iconst (v := nI (0)) hx hb dX2_join_32 (by decide) ?_
    refine lv_iload hx hb dX2_join_33 (lv_at hl 4 rfl) ?_
    refine lv_bipush (v := nI (16)) hx hb dX2_join_35 (by decide) ?_
    refine x_callSi (rest := [.int (nI (0)), .ref (gA g 5)]) E F I (m_in l g R B (cd, bF T, bF P, fo) O (x4) (N := 16) (by decide)) gX2_join_X2_in rfl hd_X2_in rfl rfl ⟨by decide, by decide⟩ ⟨by decide, by decide⟩ rfl hl.1 rfl (Nat.le_of_ble_eq_true rfl) dX2_join_37 (fun H locs I => ?_)
    refine x_callVi 5 2 (rest := []) (C := RX2) (T0 := TX2) (N := 4) E F I (m_fails l g R B cd T P fo O false (okB 16 x4)) gX2_join_X2_fails rfl (by decide) rfl rfl rfl hd_X2_fails rfl rfl ⟨by decide, by decide⟩ ⟨by decide, by decide⟩ rfl hl.1 rfl (Nat.le_of_ble_eq_true rfl) dX2_join_40 (fun H locs I => ?_)
    refine n_zeq (tgt := 47) hx hb dX2_join_43 (by decide) (fun h2 => ?_) (fun h2 => ?_)
    · exact absurd h2 (by simp)
    · exact x_vret hx hb hr hk F I ⟨rfl, _, _, _, rfl, (fail_c (SL := okI 48 x1 ∧ okI 48 x2 ∧ okI 48 x3) (NU := okI 16 x4) ⟨fun q => absurd q (by decide), fun q => absurd q.1 (okB_f h1)⟩ okB_iff h2).elim (fun q => Or.inl ⟨q.1, q.2, rfl⟩) (fun q => Or.inr (Or.inl ⟨q.1, q.2.1, q.2.2, rfl⟩))⟩ dX2_join_46
  · refine lv_iload_n hx hb dX2_join_10 rfl (lv_at hl 2 rfl) ?_
    refine lv_bipush (v := nI (48)) hx hb dX2_join_11 (by decide) ?_
    refine x_callSi (rest := [.ref (gA g 5)]) E F I (m_in l g R B (cd, bF T, bF P, fo) O (x2) (N := 48) (by decide)) gX2_join_X2_in rfl hd_X2_in rfl rfl ⟨by decide, by decide⟩ ⟨by decide, by decide⟩ rfl hl.1 rfl (Nat.le_of_ble_eq_true rfl) dX2_join_13 (fun H locs I => ?_)
    refine n_zeq (tgt := 32) hx hb dX2_join_16 (by decide) (fun h3 => ?_) (fun h3 => ?_)
    · refine lv_iconst (v := nI (0)) hx hb dX2_join_32 (by decide) ?_
      refine lv_iload hx hb dX2_join_33 (lv_at hl 4 rfl) ?_
      refine lv_bipush (v := nI (16)) hx hb dX2_join_35 (by decide) ?_
      refine x_callSi (rest := [.int (nI (0)), .ref (gA g 5)]) E F I (m_in l g R B (cd, bF T, bF P, fo) O (x4) (N := 16) (by decide)) gX2_join_X2_in rfl hd_X2_in rfl rfl ⟨by decide, by decide⟩ ⟨by decide, by decide⟩ rfl hl.1 rfl (Nat.le_of_ble_eq_true rfl) dX2_join_37 (fun H locs I => ?_)
      refine x_callVi 5 2 (rest := []) (C := RX2) (T0 := TX2) (N := 4) E F I (m_fails l g R B cd T P fo O false (okB 16 x4)) gX2_join_X2_fails rfl (by decide) rfl rfl rfl hd_X2_fails rfl rfl ⟨by decide, by decide⟩ ⟨by decide, by decide⟩ rfl hl.1 rfl (Nat.le_of_ble_eq_true rfl) dX2_join_40 (fun H locs I => ?_)
      refine n_zeq (tgt := 47) hx hb dX2_join_43 (by decide) (fun h4 => ?_) (fun h4 => ?_)
      · exact absurd h4 (by simp)
      · exact x_vret hx hb hr hk F I ⟨rfl, _, _, _, rfl, (fail_c (SL := okI 48 x1 ∧ okI 48 x2 ∧ okI 48 x3) (NU := okI 16 x4) ⟨fun q => absurd q (by decide), fun q => absurd q.2.1 (okB_f h3)⟩ okB_iff h4).elim (fun q => Or.inl ⟨q.1, q.2, rfl⟩) (fun q => Or.inr (Or.inl ⟨q.1, q.2.1, q.2.2, rfl⟩))⟩ dX2_join_46
    · refine lv_iload_n hx hb dX2_join_19 rfl (lv_at hl 3 rfl) ?_
      refine lv_bipush (v := nI (48)) hx hb dX2_join_20 (by decide) ?_
      refine x_callSi (rest := [.ref (gA g 5)]) E F I (m_in l g R B (cd, bF T, bF P, fo) O (x3) (N := 48) (by decide)) gX2_join_X2_in rfl hd_X2_in rfl rfl ⟨by decide, by decide⟩ ⟨by decide, by decide⟩ rfl hl.1 rfl (Nat.le_of_ble_eq_true rfl) dX2_join_22 (fun H locs I => ?_)
      refine n_zeq (tgt := 32) hx hb dX2_join_25 (by decide) (fun h5 => ?_) (fun h5 => ?_)
      · refine lv_iconst (v := nI (0)) hx hb dX2_join_32 (by decide) ?_
        refine lv_iload hx hb dX2_join_33 (lv_at hl 4 rfl) ?_
        refine lv_bipush (v := nI (16)) hx hb dX2_join_35 (by decide) ?_
        refine x_callSi (rest := [.int (nI (0)), .ref (gA g 5)]) E F I (m_in l g R B (cd, bF T, bF P, fo) O (x4) (N := 16) (by decide)) gX2_join_X2_in rfl hd_X2_in rfl rfl ⟨by decide, by decide⟩ ⟨by decide, by decide⟩ rfl hl.1 rfl (Nat.le_of_ble_eq_true rfl) dX2_join_37 (fun H locs I => ?_)
        refine x_callVi 5 2 (rest := []) (C := RX2) (T0 := TX2) (N := 4) E F I (m_fails l g R B cd T P fo O false (okB 16 x4)) gX2_join_X2_fails rfl (by decide) rfl rfl rfl hd_X2_fails rfl rfl ⟨by decide, by decide⟩ ⟨by decide, by decide⟩ rfl hl.1 rfl (Nat.le_of_ble_eq_true rfl) dX2_join_40 (fun H locs I => ?_)
        refine n_zeq (tgt := 47) hx hb dX2_join_43 (by decide) (fun h6 => ?_) (fun h6 => ?_)
        · exact absurd h6 (by simp)
        · exact x_vret hx hb hr hk F I ⟨rfl, _, _, _, rfl, (fail_c (SL := okI 48 x1 ∧ okI 48 x2 ∧ okI 48 x3) (NU := okI 16 x4) ⟨fun q => absurd q (by decide), fun q => absurd q.2.2 (okB_f h5)⟩ okB_iff h6).elim (fun q => Or.inl ⟨q.1, q.2, rfl⟩) (fun q => Or.inr (Or.inl ⟨q.1, q.2.1, q.2.2, rfl⟩))⟩ dX2_join_46
      · refine lv_iconst (v := nI (1)) hx hb dX2_join_28 (by decide) ?_
        refine lv_goto (tgt := 33) hx hb dX2_join_29 (by decide) ?_
        refine lv_iload hx hb dX2_join_33 (lv_at hl 4 rfl) ?_
        refine lv_bipush (v := nI (16)) hx hb dX2_join_35 (by decide) ?_
        refine x_callSi (rest := [.int (nI (1)), .ref (gA g 5)]) E F I (m_in l g R B (cd, bF T, bF P, fo) O (x4) (N := 16) (by decide)) gX2_join_X2_in rfl hd_X2_in rfl rfl ⟨by decide, by decide⟩ ⟨by decide, by decide⟩ rfl hl.1 rfl (Nat.le_of_ble_eq_true rfl) dX2_join_37 (fun H locs I => ?_)
        refine x_callVi 5 2 (rest := []) (C := RX2) (T0 := TX2) (N := 4) E F I (m_fails l g R B cd T P fo O true (okB 16 x4)) gX2_join_X2_fails rfl (by decide) rfl rfl rfl hd_X2_fails rfl rfl ⟨by decide, by decide⟩ ⟨by decide, by decide⟩ rfl hl.1 rfl (Nat.le_of_ble_eq_true rfl) dX2_join_40 (fun H locs I => ?_)
        refine n_zeq (tgt := 47) hx hb dX2_join_43 (by decide) (fun h7 => ?_) (fun h7 => ?_)
        · obtain ⟨hSL, hNU, hcd⟩ := good_c (SL := okI 48 x1 ∧ okI 48 x2 ∧ okI 48 x3) (NU := okI 16 x4) ⟨fun _ => ⟨okB_iff.mp h1, okB_iff.mp h3, okB_iff.mp h5⟩, fun _ => rfl⟩ okB_iff h7
          rw [hcd] at I
          obtain ⟨⟨s0, lt_s0, rfl⟩, ⟨a, lt_a, rfl⟩, ⟨b, lt_b, rfl⟩⟩ := hSL
          obtain ⟨h, lt_h, rfl⟩ := hNU
          have hl : lv_has ls 7 [(0, .ref (gA g 5)), (1, .int (nI (s0))), (2, .int (nI (a))), (3, .int (nI (b))), (4, .int (nI (h)))] := hl
          refine lv_iconst (v := nI (0)) hx hb dX2_join_47 (by decide) ?_
          refine lv_istore (lv' := [(5, .int (nI (0))), (0, .ref (gA g 5)), (1, .int (nI (s0))), (2, .int (nI (a))), (3, .int (nI (b))), (4, .int (nI (h)))]) hx hb dX2_join_48 hl (by decide) rfl (fun ls hl => ?_)
          have loop : ∀ (n i : Nat), i ≤ 1024 → 1024 + 1 ≤ i + n → ∀ (H : Heap) (locs : List Loc) (ls : Array Slot), Iv g (R, B, (0, bF T, bF (fil P (fun k => (h / 2 ^ ((if T (1024 * a + k) then 2 else 0) + (if T (1024 * b + k) then 1 else 0))) % 2 == 1) (i)), fo), O) s H locs → lv_has ls 7 [(0, .ref (gA g 5)), (1, .int (nI (s0))), (2, .int (nI (a))), (3, .int (nI (b))), (4, .int (nI (h))), (5, .int (nI (i)))] → W p l e (rmN 1 60) s m [.ref (gA g 5), .int ((nI s0)), .int ((nI a)), .int ((nI b)), .int ((nI h))].toArray below meth c H locs 0 0 (MQ below (Qs g (fun v' u' => v' = none ∧ ∃ (cd' : Int32) (T' P' : Nat → Bool), u' = (R, B, (cd', bF T', bF P', fo), O) ∧ ((¬ (okI 48 (nI s0) ∧ okI 48 (nI a) ∧ okI 48 (nI b)) ∧ cd' = 1 ∧ T' = T) ∨ ((okI 48 (nI s0) ∧ okI 48 (nI a) ∧ okI 48 (nI b)) ∧ ¬ (okI 16 (nI h)) ∧ cd' = 2 ∧ T' = T) ∨ (cd' = 0 ∧ ∃ s0_ a_ b_ h_ : Nat, s0_ < 48 ∧ a_ < 48 ∧ b_ < 48 ∧ h_ < 16 ∧ (nI s0) = nI s0_ ∧ (nI a) = nI a_ ∧ (nI b) = nI b_ ∧ (nI h) = nI h_ ∧ MW T T' s0_ (fun k => (h_ / 2 ^ ((if T (1024 * a_ + k) then 2 else 0) + (if T (1024 * b_ + k) then 1 else 0))) % 2 == 1))))) [.ref (gA g 5), .int ((nI s0)), .int ((nI a)), .int ((nI b)), .int ((nI h))].toArray s 0 0 (gW g)) (F0 m 50 ls []) := by
            intro n
            induction n with
            | zero => intro i h1 h2; exact absurd h2 (by omega)
            | succ n ih_loop =>
              intro i hi hn H locs ls I hl
              refine lv_iload hx hb dX2_join_50 (lv_at hl 5 rfl) ?_
              refine lv_sipush (v := nI (1024)) hx hb dX2_join_52 (by decide) ?_
              refine n_cge (tgt := 120) hx hb (by omega) (by omega) dX2_join_55 (by decide) (fun h8 => ?_) (fun h8 => ?_)
              · obtain rfl : i = 1024 := by omega
                have hl : lv_has ls 7 [(0, .ref (gA g 5)), (1, .int (nI (s0))), (2, .int (nI (a))), (3, .int (nI (b))), (4, .int (nI (h))), (5, .int (nI (1024)))] := hl
                refine lv_aload_n hx hb dX2_join_120 rfl (lv_at hl 0 rfl) ?_
                refine lv_iload_n hx hb dX2_join_121 rfl (lv_at hl 1 rfl) ?_
                refine x_callVv 5 2 (rest := []) (C := RX2) (T0 := TX2) (N := 4) E F I (m_keep l g R B 0 T (fil P (fun k => (h / 2 ^ ((if T (1024 * a + k) then 2 else 0) + (if T (1024 * b + k) then 1 else 0))) % 2 == 1) 1024) fo O (s0 := s0) (by omega)) gX2_join_X2_keep rfl (by decide) rfl rfl rfl hd_X2_keep rfl rfl ⟨by decide, by decide⟩ ⟨by decide, by decide⟩ rfl hl.1 rfl (Nat.le_of_ble_eq_true rfl) dX2_join_122 (fun H locs I => ?_)
                exact x_vret hx hb hr hk F I ⟨rfl, _, _, _, rfl, Or.inr (Or.inr ⟨rfl, s0, a, b, h, lt_s0, lt_a, lt_b, lt_h, rfl, rfl, rfl, rfl, MW_fil⟩)⟩ dX2_join_125
              · refine lv_aload_n hx hb dX2_join_58 rfl (lv_at hl 0 rfl) ?_
                refine lv_iload_n hx hb dX2_join_59 rfl (lv_at hl 2 rfl) ?_
                refine lv_iload hx hb dX2_join_60 (lv_at hl 5 rfl) ?_
                refine x_callVi 5 2 (rest := []) (C := RX2) (T0 := TX2) (N := 4) E F I (m_of l g R B 0 T (fil P (fun k => (h / 2 ^ ((if T (1024 * a + k) then 2 else 0) + (if T (1024 * b + k) then 1 else 0))) % 2 == 1) (i)) fo O (a := a) (k := i) (by omega) (by omega)) gX2_join_X2_of rfl (by decide) rfl rfl rfl hd_X2_of rfl rfl ⟨by decide, by decide⟩ ⟨by decide, by decide⟩ rfl hl.1 rfl (Nat.le_of_ble_eq_true rfl) dX2_join_62 (fun H locs I => ?_)
                refine n_zeq (tgt := 72) hx hb dX2_join_65 (by decide) (fun h9 => ?_) (fun h9 => ?_)
                · refine lv_iconst (v := nI (0)) hx hb dX2_join_72 (by decide) ?_
                  refine lv_aload_n hx hb dX2_join_73 rfl (lv_at hl 0 rfl) ?_
                  refine lv_iload_n hx hb dX2_join_74 rfl (lv_at hl 3 rfl) ?_
                  refine lv_iload hx hb dX2_join_75 (lv_at hl 5 rfl) ?_
                  refine x_callVi 5 2 (rest := [.int (nI (0))]) (C := RX2) (T0 := TX2) (N := 4) E F I (m_of l g R B 0 T (fil P (fun k => (h / 2 ^ ((if T (1024 * a + k) then 2 else 0) + (if T (1024 * b + k) then 1 else 0))) % 2 == 1) (i)) fo O (a := b) (k := i) (by omega) (by omega)) gX2_join_X2_of rfl (by decide) rfl rfl rfl hd_X2_of rfl rfl ⟨by decide, by decide⟩ ⟨by decide, by decide⟩ rfl hl.1 rfl (Nat.le_of_ble_eq_true rfl) dX2_join_77 (fun H locs I => ?_)
                  refine n_zeq (tgt := 87) hx hb dX2_join_80 (by decide) (fun h10 => ?_) (fun h10 => ?_)
                  · refine lv_iconst (v := nI (0)) hx hb dX2_join_87 (by decide) ?_
                    refine n_iadd hx hb dX2_join_88 ?_
                    refine lv_istore (lv' := [(6, .int (nI (0))), (0, .ref (gA g 5)), (1, .int (nI (s0))), (2, .int (nI (a))), (3, .int (nI (b))), (4, .int (nI (h))), (5, .int (nI (i)))]) hx hb dX2_join_89 hl (by decide) rfl (fun ls hl => ?_)
                    refine lv_aload_n hx hb dX2_join_91 rfl (lv_at hl 1 rfl) ?_
                    refine x_get 5 2 2 (C := RX2) (T := TX2) (N := 4) (v := .ref (gA g 7)) E F I inw_X2_join_X2 (by decide) rfl rfl (by decide) wm_X2_join_f14 rfl dX2_join_92 ?_
                    refine lv_iload hx hb dX2_join_95 (lv_at hl 6 rfl) ?_
                    refine lv_iload hx hb dX2_join_97 (lv_at hl 5 rfl) ?_
                    refine lv_iload hx hb dX2_join_99 (lv_at hl 0 rfl) ?_
                    refine n_ishr hx hb (by omega) (by omega) dX2_join_101 ?_
                    refine lv_iconst (v := nI (1)) hx hb dX2_join_102 (by decide) ?_
                    refine n_iand hx hb dX2_join_103 ?_
                    refine lv_iconst (v := nI (1)) hx hb dX2_join_104 (by decide) ?_
                    rw [show ((h) / 2 ^ (0)) &&& (1) = (((h) / 2 ^ (0))) % 2 from Nat.and_one_is_mod _]
                    refine n_cne (tgt := 112) hx hb (by omega) (by omega) dX2_join_105 (by decide) (fun h11 => ?_) (fun h11 => ?_)
                    · refine lv_iconst (v := nI (0)) hx hb dX2_join_112 (by decide) ?_
                      refine x_zastore 7 (u' := (R, B, (0, bF T, upd (bF (fil P (fun k => (h / 2 ^ ((if T (1024 * a + k) then 2 else 0) + (if T (1024 * b + k) then 1 else 0))) % 2 == 1) (i))) (i) (nI (0)), fo), O)) (i := i) hx hb F I (by decide) (by decide +kernel) rfl rfl ec_o7 (by decide) (by omega) dX2_join_113 (fun H locs I => ?_)
                      refine n_iinc (d := 1) (lv' := [(5, .int (nI (i + 1))), (6, .int (nI (0))), (0, .ref (gA g 5)), (1, .int (nI (s0))), (2, .int (nI (a))), (3, .int (nI (b))), (4, .int (nI (h)))]) hx hb dX2_join_114 rfl hl (j := 6) rfl (by decide) rfl (fun ls hl => ?_)
                      refine lv_goto (tgt := 50) hx hb dX2_join_117 (by decide) ?_
                      exact ih_loop (i + 1) (by omega) (by omega) _ _ ls (fil_step I (by show _ = bI _; simp only [h9, h10, if_true, if_false, Bool.false_eq_true]; rw [show (_ == 1) = false from by simp; omega]; rfl)) (lv_sub hl [2, 3, 4, 5, 6, 0] rfl)
                    · refine lv_iconst (v := nI (1)) hx hb dX2_join_108 (by decide) ?_
                      refine lv_goto (tgt := 113) hx hb dX2_join_109 (by decide) ?_
                      refine x_zastore 7 (u' := (R, B, (0, bF T, upd (bF (fil P (fun k => (h / 2 ^ ((if T (1024 * a + k) then 2 else 0) + (if T (1024 * b + k) then 1 else 0))) % 2 == 1) (i))) (i) (nI (1)), fo), O)) (i := i) hx hb F I (by decide) (by decide +kernel) rfl rfl ec_o7 (by decide) (by omega) dX2_join_113 (fun H locs I => ?_)
                      refine n_iinc (d := 1) (lv' := [(5, .int (nI (i + 1))), (6, .int (nI (0))), (0, .ref (gA g 5)), (1, .int (nI (s0))), (2, .int (nI (a))), (3, .int (nI (b))), (4, .int (nI (h)))]) hx hb dX2_join_114 rfl hl (j := 6) rfl (by decide) rfl (fun ls hl => ?_)
                      refine lv_goto (tgt := 50) hx hb dX2_join_117 (by decide) ?_
                      exact ih_loop (i + 1) (by omega) (by omega) _ _ ls (fil_step I (by show _ = bI _; simp only [h9, h10, if_true, if_false, Bool.false_eq_true]; rw [show (_ == 1) = true from by simp; omega]; rfl)) (lv_sub hl [2, 3, 4, 5, 6, 0] rfl)
                  · refine lv_iconst (v := nI (1)) hx hb dX2_join_83 (by decide) ?_
                    refine lv_goto (tgt := 88) hx hb dX2_join_84 (by decide) ?_
                    refine n_iadd hx hb dX2_join_88 ?_
                    refine lv_istore (lv' := [(6, .int (nI (1))), (0, .ref (gA g 5)), (1, .int (nI (s0))), (2, .int (nI (a))), (3, .int (nI (b))), (4, .int (nI (h))), (5, .int (nI (i)))]) hx hb dX2_join_89 hl (by decide) rfl (fun ls hl => ?_)
                    refine lv_aload_n hx hb dX2_join_91 rfl (lv_at hl 1 rfl) ?_
                    refine x_get 5 2 2 (C := RX2) (T := TX2) (N := 4) (v := .ref (gA g 7)) E F I inw_X2_join_X2 (by decide) rfl rfl (by decide) wm_X2_join_f14 rfl dX2_join_92 ?_
                    refine lv_iload hx hb dX2_join_95 (lv_at hl 6 rfl) ?_
                    refine lv_iload hx hb dX2_join_97 (lv_at hl 5 rfl) ?_
                    refine lv_iload hx hb dX2_join_99 (lv_at hl 0 rfl) ?_
                    refine n_ishr hx hb (by omega) (by omega) dX2_join_101 ?_
                    refine lv_iconst (v := nI (1)) hx hb dX2_join_102 (by decide) ?_
                    refine n_iand hx hb dX2_join_103 ?_
                    refine lv_iconst (v := nI (1)) hx hb dX2_join_104 (by decide) ?_
                    rw [show ((h) / 2 ^ (1)) &&& (1) = (((h) / 2 ^ (1))) % 2 from Nat.and_one_is_mod _]
                    refine n_cne (tgt := 112) hx hb (by omega) (by omega) dX2_join_105 (by decide) (fun h12 => ?_) (fun h12 => ?_)
                    · refine lv_iconst (v := nI (0)) hx hb dX2_join_112 (by decide) ?_
                      refine x_zastore 7 (u' := (R, B, (0, bF T, upd (bF (fil P (fun k => (h / 2 ^ ((if T (1024 * a + k) then 2 else 0) + (if T (1024 * b + k) then 1 else 0))) % 2 == 1) (i))) (i) (nI (0)), fo), O)) (i := i) hx hb F I (by decide) (by decide +kernel) rfl rfl ec_o7 (by decide) (by omega) dX2_join_113 (fun H locs I => ?_)
                      refine n_iinc (d := 1) (lv' := [(5, .int (nI (i + 1))), (6, .int (nI (1))), (0, .ref (gA g 5)), (1, .int (nI (s0))), (2, .int (nI (a))), (3, .int (nI (b))), (4, .int (nI (h)))]) hx hb dX2_join_114 rfl hl (j := 6) rfl (by decide) rfl (fun ls hl => ?_)
                      refine lv_goto (tgt := 50) hx hb dX2_join_117 (by decide) ?_
                      exact ih_loop (i + 1) (by omega) (by omega) _ _ ls (fil_step I (by show _ = bI _; simp only [h9, h10, if_true, if_false, Bool.false_eq_true]; rw [show (_ == 1) = false from by simp; omega]; rfl)) (lv_sub hl [2, 3, 4, 5, 6, 0] rfl)
                    · refine lv_iconst (v := nI (1)) hx hb dX2_join_108 (by decide) ?_
                      refine lv_goto (tgt := 113) hx hb dX2_join_109 (by decide) ?_
                      refine x_zastore 7 (u' := (R, B, (0, bF T, upd (bF (fil P (fun k => (h / 2 ^ ((if T (1024 * a + k) then 2 else 0) + (if T (1024 * b + k) then 1 else 0))) % 2 == 1) (i))) (i) (nI (1)), fo), O)) (i := i) hx hb F I (by decide) (by decide +kernel) rfl rfl ec_o7 (by decide) (by omega) dX2_join_113 (fun H locs I => ?_)
                      refine n_iinc (d := 1) (lv' := [(5, .int (nI (i + 1))), (6, .int (nI (1))), (0, .ref (gA g 5)), (1, .int (nI (s0))), (2, .int (nI (a))), (3, .int (nI (b))), (4, .int (nI (h)))]) hx hb dX2_join_114 rfl hl (j := 6) rfl (by decide) rfl (fun ls hl => ?_)
                      refine lv_goto (tgt := 50) hx hb dX2_join_117 (by decide) ?_
                      exact ih_loop (i + 1) (by omega) (by omega) _ _ ls (fil_step I (by show _ = bI _; simp only [h9, h10, if_true, if_false, Bool.false_eq_true]; rw [show (_ == 1) = true from by simp; omega]; rfl)) (lv_sub hl [2, 3, 4, 5, 6, 0] rfl)
                · refine lv_iconst (v := nI (2)) hx hb dX2_join_68 (by decide) ?_
                  refine lv_goto (tgt := 73) hx hb dX2_join_69 (by decide) ?_
                  refine lv_aload_n hx hb dX2_join_73 rfl (lv_at hl 0 rfl) ?_
                  refine lv_iload_n hx hb dX2_join_74 rfl (lv_at hl 3 rfl) ?_
                  refine lv_iload hx hb dX2_join_75 (lv_at hl 5 rfl) ?_
                  refine x_callVi 5 2 (rest := [.int (nI (2))]) (C := RX2) (T0 := TX2) (N := 4) E F I (m_of l g R B 0 T (fil P (fun k => (h / 2 ^ ((if T (1024 * a + k) then 2 else 0) + (if T (1024 * b + k) then 1 else 0))) % 2 == 1) (i)) fo O (a := b) (k := i) (by omega) (by omega)) gX2_join_X2_of rfl (by decide) rfl rfl rfl hd_X2_of rfl rfl ⟨by decide, by decide⟩ ⟨by decide, by decide⟩ rfl hl.1 rfl (Nat.le_of_ble_eq_true rfl) dX2_join_77 (fun H locs I => ?_)
                  refine n_zeq (tgt := 87) hx hb dX2_join_80 (by decide) (fun h13 => ?_) (fun h13 => ?_)
                  · refine lv_iconst (v := nI (0)) hx hb dX2_join_87 (by decide) ?_
                    refine n_iadd hx hb dX2_join_88 ?_
                    refine lv_istore (lv' := [(6, .int (nI (2))), (0, .ref (gA g 5)), (1, .int (nI (s0))), (2, .int (nI (a))), (3, .int (nI (b))), (4, .int (nI (h))), (5, .int (nI (i)))]) hx hb dX2_join_89 hl (by decide) rfl (fun ls hl => ?_)
                    refine lv_aload_n hx hb dX2_join_91 rfl (lv_at hl 1 rfl) ?_
                    refine x_get 5 2 2 (C := RX2) (T := TX2) (N := 4) (v := .ref (gA g 7)) E F I inw_X2_join_X2 (by decide) rfl rfl (by decide) wm_X2_join_f14 rfl dX2_join_92 ?_
                    refine lv_iload hx hb dX2_join_95 (lv_at hl 6 rfl) ?_
                    refine lv_iload hx hb dX2_join_97 (lv_at hl 5 rfl) ?_
                    refine lv_iload hx hb dX2_join_99 (lv_at hl 0 rfl) ?_
                    refine n_ishr hx hb (by omega) (by omega) dX2_join_101 ?_
                    refine lv_iconst (v := nI (1)) hx hb dX2_join_102 (by decide) ?_
                    refine n_iand hx hb dX2_join_103 ?_
                    refine lv_iconst (v := nI (1)) hx hb dX2_join_104 (by decide) ?_
                    rw [show ((h) / 2 ^ (2)) &&& (1) = (((h) / 2 ^ (2))) % 2 from Nat.and_one_is_mod _]
                    refine n_cne (tgt := 112) hx hb (by omega) (by omega) dX2_join_105 (by decide) (fun h14 => ?_) (fun h14 => ?_)
                    · refine lv_iconst (v := nI (0)) hx hb dX2_join_112 (by decide) ?_
                      refine x_zastore 7 (u' := (R, B, (0, bF T, upd (bF (fil P (fun k => (h / 2 ^ ((if T (1024 * a + k) then 2 else 0) + (if T (1024 * b + k) then 1 else 0))) % 2 == 1) (i))) (i) (nI (0)), fo), O)) (i := i) hx hb F I (by decide) (by decide +kernel) rfl rfl ec_o7 (by decide) (by omega) dX2_join_113 (fun H locs I => ?_)
                      refine n_iinc (d := 1) (lv' := [(5, .int (nI (i + 1))), (6, .int (nI (2))), (0, .ref (gA g 5)), (1, .int (nI (s0))), (2, .int (nI (a))), (3, .int (nI (b))), (4, .int (nI (h)))]) hx hb dX2_join_114 rfl hl (j := 6) rfl (by decide) rfl (fun ls hl => ?_)
                      refine lv_goto (tgt := 50) hx hb dX2_join_117 (by decide) ?_
                      exact ih_loop (i + 1) (by omega) (by omega) _ _ ls (fil_step I (by show _ = bI _; simp only [h9, h13, if_true, if_false, Bool.false_eq_true]; rw [show (_ == 1) = false from by simp; omega]; rfl)) (lv_sub hl [2, 3, 4, 5, 6, 0] rfl)
                    · refine lv_iconst (v := nI (1)) hx hb dX2_join_108 (by decide) ?_
                      refine lv_goto (tgt := 113) hx hb dX2_join_109 (by decide) ?_
                      refine x_zastore 7 (u' := (R, B, (0, bF T, upd (bF (fil P (fun k => (h / 2 ^ ((if T (1024 * a + k) then 2 else 0) + (if T (1024 * b + k) then 1 else 0))) % 2 == 1) (i))) (i) (nI (1)), fo), O)) (i := i) hx hb F I (by decide) (by decide +kernel) rfl rfl ec_o7 (by decide) (by omega) dX2_join_113 (fun H locs I => ?_)
                      refine n_iinc (d := 1) (lv' := [(5, .int (nI (i + 1))), (6, .int (nI (2))), (0, .ref (gA g 5)), (1, .int (nI (s0))), (2, .int (nI (a))), (3, .int (nI (b))), (4, .int (nI (h)))]) hx hb dX2_join_114 rfl hl (j := 6) rfl (by decide) rfl (fun ls hl => ?_)
                      refine lv_goto (tgt := 50) hx hb dX2_join_117 (by decide) ?_
                      exact ih_loop (i + 1) (by omega) (by omega) _ _ ls (fil_step I (by show _ = bI _; simp only [h9, h13, if_true, if_false, Bool.false_eq_true]; rw [show (_ == 1) = true from by simp; omega]; rfl)) (lv_sub hl [2, 3, 4, 5, 6, 0] rfl)
                  · refine lv_iconst (v := nI (1)) hx hb dX2_join_83 (by decide) ?_
                    refine lv_goto (tgt := 88) hx hb dX2_join_84 (by decide) ?_
                    refine n_iadd hx hb dX2_join_88 ?_
                    refine lv_istore (lv' := [(6, .int (nI (3))), (0, .ref (gA g 5)), (1, .int (nI (s0))), (2, .int (nI (a))), (3, .int (nI (b))), (4, .int (nI (h))), (5, .int (nI (i)))]) hx hb dX2_join_89 hl (by decide) rfl (fun ls hl => ?_)
                    refine lv_aload_n hx hb dX2_join_91 rfl (lv_at hl 1 rfl) ?_
                    refine x_get 5 2 2 (C := RX2) (T := TX2) (N := 4) (v := .ref (gA g 7)) E F I inw_X2_join_X2 (by decide) rfl rfl (by decide) wm_X2_join_f14 rfl dX2_join_92 ?_
                    refine lv_iload hx hb dX2_join_95 (lv_at hl 6 rfl) ?_
                    refine lv_iload hx hb dX2_join_97 (lv_at hl 5 rfl) ?_
                    refine lv_iload hx hb dX2_join_99 (lv_at hl 0 rfl) ?_
                    refine n_ishr hx hb (by omega) (by omega) dX2_join_101 ?_
                    refine lv_iconst (v := nI (1)) hx hb dX2_join_102 (by decide) ?_
                    refine n_iand hx hb dX2_join_103 ?_
                    refine lv_iconst (v := nI (1)) hx hb dX2_join_104 (by decide) ?_
                    rw [show ((h) / 2 ^ (3)) &&& (1) = (((h) / 2 ^ (3))) % 2 from Nat.and_one_is_mod _]
                    refine n_cne (tgt := 112) hx hb (by omega) (by omega) dX2_join_105 (by decide) (fun h15 => ?_) (fun h15 => ?_)
                    · refine lv_iconst (v := nI (0)) hx hb dX2_join_112 (by decide) ?_
                      refine x_zastore 7 (u' := (R, B, (0, bF T, upd (bF (fil P (fun k => (h / 2 ^ ((if T (1024 * a + k) then 2 else 0) + (if T (1024 * b + k) then 1 else 0))) % 2 == 1) (i))) (i) (nI (0)), fo), O)) (i := i) hx hb F I (by decide) (by decide +kernel) rfl rfl ec_o7 (by decide) (by omega) dX2_join_113 (fun H locs I => ?_)
                      refine n_iinc (d := 1) (lv' := [(5, .int (nI (i + 1))), (6, .int (nI (3))), (0, .ref (gA g 5)), (1, .int (nI (s0))), (2, .int (nI (a))), (3, .int (nI (b))), (4, .int (nI (h)))]) hx hb dX2_join_114 rfl hl (j := 6) rfl (by decide) rfl (fun ls hl => ?_)
                      refine lv_goto (tgt := 50) hx hb dX2_join_117 (by decide) ?_
                      exact ih_loop (i + 1) (by omega) (by omega) _ _ ls (fil_step I (by show _ = bI _; simp only [h9, h13, if_true, if_false, Bool.false_eq_true]; rw [show (_ == 1) = false from by simp; omega]; rfl)) (lv_sub hl [2, 3, 4, 5, 6, 0] rfl)
                    · refine lv_iconst (v := nI (1)) hx hb dX2_join_108 (by decide) ?_
                      refine lv_goto (tgt := 113) hx hb dX2_join_109 (by decide) ?_
                      refine x_zastore 7 (u' := (R, B, (0, bF T, upd (bF (fil P (fun k => (h / 2 ^ ((if T (1024 * a + k) then 2 else 0) + (if T (1024 * b + k) then 1 else 0))) % 2 == 1) (i))) (i) (nI (1)), fo), O)) (i := i) hx hb F I (by decide) (by decide +kernel) rfl rfl ec_o7 (by decide) (by omega) dX2_join_113 (fun H locs I => ?_)
                      refine n_iinc (d := 1) (lv' := [(5, .int (nI (i + 1))), (6, .int (nI (3))), (0, .ref (gA g 5)), (1, .int (nI (s0))), (2, .int (nI (a))), (3, .int (nI (b))), (4, .int (nI (h)))]) hx hb dX2_join_114 rfl hl (j := 6) rfl (by decide) rfl (fun ls hl => ?_)
                      refine lv_goto (tgt := 50) hx hb dX2_join_117 (by decide) ?_
                      exact ih_loop (i + 1) (by omega) (by omega) _ _ ls (fil_step I (by show _ = bI _; simp only [h9, h13, if_true, if_false, Bool.false_eq_true]; rw [show (_ == 1) = true from by simp; omega]; rfl)) (lv_sub hl [2, 3, 4, 5, 6, 0] rfl)
          exact loop (1024 + 1 - 0) (0) (by omega) (by omega) _ _ ls (by rw [fil_0]; exact I) (lv_sub hl [1, 2, 3, 4, 5, 0] rfl)
        · exact x_vret hx hb hr hk F I ⟨rfl, _, _, _, rfl, (fail_c (SL := okI 48 x1 ∧ okI 48 x2 ∧ okI 48 x3) (NU := okI 16 x4) ⟨fun _ => ⟨okB_iff.mp h1, okB_iff.mp h3, okB_iff.mp h5⟩, fun _ => rfl⟩ okB_iff h7).elim (fun q => Or.inl ⟨q.1, q.2, rfl⟩) (fun q => Or.inr (Or.inl ⟨q.1, q.2.1, q.2.2, rfl⟩))⟩ dX2_join_46
theorem hd_X2_join : yX2_join.cls ≠ "java/lang/invoke/MethodHandle" ∧ yX2_join.cls ≠ "java/lang/invoke/VarHandle" ∧ (parseMethodDescriptor yX2_join.desc).map (fun d => d.parameters.length) = some 4 := by decide +kernel
theorem wm_X2_swap_f14 : Cond.fieldLink RX2 14 "FunctionDeskModel" "fresh" "[Z" ∈ wsX2_swap := by decide +kernel
theorem inw_X2_swap_X2 : ∀ w ∈ wsX20, w ∈ wsX2_swap := by decide +kernel
set_option maxHeartbeats 4000000 in
set_option maxRecDepth 100000 in
theorem m_swap (l : Launch) (g : Geo) (R : Nat → Nat → Int64) (B : Rul) (cd : Int32) (T P : Nat → Bool) (fo : Nat → Int32) (O : Nat → Int64) (x1 : Int32) (x2 : Int32) (x3 : Int32) (x4 : Int32) : Cs l g yX2_swap wsX2_swap (rmN 2 60) [.ref (gA g 5), .int (x1), .int (x2), .int (x3), .int (x4)] (R, B, (cd, bF T, bF P, fo), O) (fun v' u' => v' = none ∧ ∃ (cd' : Int32) (T' P' : Nat → Bool), u' = (R, B, (cd', bF T', bF P', fo), O) ∧ ((¬ (okI 48 x1 ∧ okI 48 x2) ∧ cd' = 1 ∧ T' = T) ∨ ((okI 48 x1 ∧ okI 48 x2) ∧ ¬ (okI 10 x3 ∧ okI 10 x4) ∧ cd' = 2 ∧ T' = T) ∨ (cd' = 0 ∧ ∃ s0_ a_ v_ y_ : Nat, s0_ < 48 ∧ a_ < 48 ∧ v_ < 10 ∧ y_ < 10 ∧ x1 = nI s0_ ∧ x2 = nI a_ ∧ x3 = nI v_ ∧ x4 = nI y_ ∧ MW T T' s0_ (fun k => T (1024 * a_ + wth (wth k v_ ((k &&& bitN y_) != 0)) y_ ((k &&& bitN v_) != 0)))))) := by
  refine Cs.ofW RX2 rfl (by decide) rfl (Nat.le_of_ble_eq_true rfl) ?_
  intro p e s m below meth c E hr hk F I ls hl
  have hx := E.1
  have hb := E.2.1
  have hl : lv_has ls 8 [(0, .ref (gA g 5)), (1, .int (x1)), (2, .int (x2)), (3, .int (x3)), (4, .int (x4))] := hl
  refine lv_aload_n hx hb dX2_swap_0 rfl (lv_at hl 0 rfl) ?_
  refine lv_iload_n hx hb dX2_swap_1 rfl (lv_at hl 1 rfl) ?_
  refine lv_bipush (v := nI (48)) hx hb dX2_swap_2 (by decide) ?_
  refine x_callSi (rest := [.ref (gA g 5)]) E F I (m_in l g R B (cd, bF T, bF P, fo) O (x1) (N := 48) (by decide)) gX2_swap_X2_in rfl hd_X2_in rfl rfl ⟨by decide, by decide⟩ ⟨by decide, by decide⟩ rfl hl.1 rfl (Nat.le_of_ble_eq_true rfl) dX2_swap_4 (fun H locs I => ?_)
  refine n_zeq (tgt := 23) hx hb dX2_swap_7 (by decide) (fun h1 => ?_) (fun h1 => ?_)
  · refine lv_iconst (v := nI (0)) hx hb dX2_swap_23 (by decide) ?_
    refine lv_iload_n hx hb dX2_swap_24 rfl (lv_at hl 3 rfl) ?_
    refine lv_bipush (v := nI (10)) hx hb dX2_swap_25 (by decide) ?_
    refine x_callSi (rest := [.int (nI (0)), .ref (gA g 5)]) E F I (m_in l g R B (cd, bF T, bF P, fo) O (x3) (N := 10) (by decide)) gX2_swap_X2_in rfl hd_X2_in rfl rfl ⟨by decide, by decide⟩ ⟨by decide, by decide⟩ rfl hl.1 rfl (Nat.le_of_ble_eq_true rfl) dX2_swap_27 (fun H locs I => ?_)
    refine n_zeq (tgt := 47) hx hb dX2_swap_30 (by decide) (fun h2 => ?_) (fun h2 => ?_)
    · refine lv_iconst (v := nI (0)) hx hb dX2_swap_47 (by decide) ?_
      refine x_callVi 5 2 (rest := []) (C := RX2) (T0 := TX2) (N := 4) E F I (m_fails l g R B cd T P fo O false false) gX2_swap_X2_fails rfl (by decide) rfl rfl rfl hd_X2_fails rfl rfl ⟨by decide, by decide⟩ ⟨by decide, by decide⟩ rfl hl.1 rfl (Nat.le_of_ble_eq_true rfl) dX2_swap_48 (fun H locs I => ?_)
      refine n_zeq (tgt := 55) hx hb dX2_swap_51 (by decide) (fun h3 => ?_) (fun h3 => ?_)
      · exact absurd h3 (by simp)
      · exact x_vret hx hb hr hk F I ⟨rfl, _, _, _, rfl, (fail_c (SL := okI 48 x1 ∧ okI 48 x2) (NU := okI 10 x3 ∧ okI 10 x4) ⟨fun q => absurd q (by decide), fun q => absurd q.1 (okB_f h1)⟩ ⟨fun q => absurd q (by decide), fun q => absurd q.1 (okB_f h2)⟩ h3).elim (fun q => Or.inl ⟨q.1, q.2, rfl⟩) (fun q => Or.inr (Or.inl ⟨q.1, q.2.1, q.2.2, rfl⟩))⟩ dX2_swap_54
    · refine lv_iload hx hb dX2_swap_33 (lv_at hl 4 rfl) ?_
      refine lv_bipush (v := nI (10)) hx hb dX2_swap_35 (by decide) ?_
      refine x_callSi (rest := [.int (nI (0)), .ref (gA g 5)]) E F I (m_in l g R B (cd, bF T, bF P, fo) O (x4) (N := 10) (by decide)) gX2_swap_X2_in rfl hd_X2_in rfl rfl ⟨by decide, by decide⟩ ⟨by decide, by decide⟩ rfl hl.1 rfl (Nat.le_of_ble_eq_true rfl) dX2_swap_37 (fun H locs I => ?_)
      refine n_zeq (tgt := 47) hx hb dX2_swap_40 (by decide) (fun h4 => ?_) (fun h4 => ?_)
      · refine lv_iconst (v := nI (0)) hx hb dX2_swap_47 (by decide) ?_
        refine x_callVi 5 2 (rest := []) (C := RX2) (T0 := TX2) (N := 4) E F I (m_fails l g R B cd T P fo O false false) gX2_swap_X2_fails rfl (by decide) rfl rfl rfl hd_X2_fails rfl rfl ⟨by decide, by decide⟩ ⟨by decide, by decide⟩ rfl hl.1 rfl (Nat.le_of_ble_eq_true rfl) dX2_swap_48 (fun H locs I => ?_)
        refine n_zeq (tgt := 55) hx hb dX2_swap_51 (by decide) (fun h5 => ?_) (fun h5 => ?_)
        · exact absurd h5 (by simp)
        · exact x_vret hx hb hr hk F I ⟨rfl, _, _, _, rfl, (fail_c (SL := okI 48 x1 ∧ okI 48 x2) (NU := okI 10 x3 ∧ okI 10 x4) ⟨fun q => absurd q (by decide), fun q => absurd q.1 (okB_f h1)⟩ ⟨fun q => absurd q (by decide), fun q => absurd q.2 (okB_f h4)⟩ h5).elim (fun q => Or.inl ⟨q.1, q.2, rfl⟩) (fun q => Or.inr (Or.inl ⟨q.1, q.2.1, q.2.2, rfl⟩))⟩ dX2_swap_54
      · refine lv_iconst (v := nI (1)) hx hb dX2_swap_43 (by decide) ?_
        refine lv_goto (tgt := 48) hx hb dX2_swap_44 (by decide) ?_
        refine x_callVi 5 2 (rest := []) (C := RX2) (T0 := TX2) (N := 4) E F I (m_fails l g R B cd T P fo O false true) gX2_swap_X2_fails rfl (by decide) rfl rfl rfl hd_X2_fails rfl rfl ⟨by decide, by decide⟩ ⟨by decide, by decide⟩ rfl hl.1 rfl (Nat.le_of_ble_eq_true rfl) dX2_swap_48 (fun H locs I => ?_)
        refine n_zeq (tgt := 55) hx hb dX2_swap_51 (by decide) (fun h6 => ?_) (fun h6 => ?_)
        · exact absurd h6 (by simp)
        · exact x_vret hx hb hr hk F I ⟨rfl, _, _, _, rfl, (fail_c (SL := okI 48 x1 ∧ okI 48 x2) (NU := okI 10 x3 ∧ okI 10 x4) ⟨fun q => absurd q (by decide), fun q => absurd q.1 (okB_f h1)⟩ ⟨fun _ => ⟨okB_iff.mp h2, okB_iff.mp h4⟩, fun _ => rfl⟩ h6).elim (fun q => Or.inl ⟨q.1, q.2, rfl⟩) (fun q => Or.inr (Or.inl ⟨q.1, q.2.1, q.2.2, rfl⟩))⟩ dX2_swap_54
  · refine lv_iload_n hx hb dX2_swap_10 rfl (lv_at hl 2 rfl) ?_
    refine lv_bipush (v := nI (48)) hx hb dX2_swap_11 (by decide) ?_
    refine x_callSi (rest := [.ref (gA g 5)]) E F I (m_in l g R B (cd, bF T, bF P, fo) O (x2) (N := 48) (by decide)) gX2_swap_X2_in rfl hd_X2_in rfl rfl ⟨by decide, by decide⟩ ⟨by decide, by decide⟩ rfl hl.1 rfl (Nat.le_of_ble_eq_true rfl) dX2_swap_13 (fun H locs I => ?_)
    refine n_zeq (tgt := 23) hx hb dX2_swap_16 (by decide) (fun h7 => ?_) (fun h7 => ?_)
    · refine lv_iconst (v := nI (0)) hx hb dX2_swap_23 (by decide) ?_
      refine lv_iload_n hx hb dX2_swap_24 rfl (lv_at hl 3 rfl) ?_
      refine lv_bipush (v := nI (10)) hx hb dX2_swap_25 (by decide) ?_
      refine x_callSi (rest := [.int (nI (0)), .ref (gA g 5)]) E F I (m_in l g R B (cd, bF T, bF P, fo) O (x3) (N := 10) (by decide)) gX2_swap_X2_in rfl hd_X2_in rfl rfl ⟨by decide, by decide⟩ ⟨by decide, by decide⟩ rfl hl.1 rfl (Nat.le_of_ble_eq_true rfl) dX2_swap_27 (fun H locs I => ?_)
      refine n_zeq (tgt := 47) hx hb dX2_swap_30 (by decide) (fun h8 => ?_) (fun h8 => ?_)
      · refine lv_iconst (v := nI (0)) hx hb dX2_swap_47 (by decide) ?_
        refine x_callVi 5 2 (rest := []) (C := RX2) (T0 := TX2) (N := 4) E F I (m_fails l g R B cd T P fo O false false) gX2_swap_X2_fails rfl (by decide) rfl rfl rfl hd_X2_fails rfl rfl ⟨by decide, by decide⟩ ⟨by decide, by decide⟩ rfl hl.1 rfl (Nat.le_of_ble_eq_true rfl) dX2_swap_48 (fun H locs I => ?_)
        refine n_zeq (tgt := 55) hx hb dX2_swap_51 (by decide) (fun h9 => ?_) (fun h9 => ?_)
        · exact absurd h9 (by simp)
        · exact x_vret hx hb hr hk F I ⟨rfl, _, _, _, rfl, (fail_c (SL := okI 48 x1 ∧ okI 48 x2) (NU := okI 10 x3 ∧ okI 10 x4) ⟨fun q => absurd q (by decide), fun q => absurd q.2 (okB_f h7)⟩ ⟨fun q => absurd q (by decide), fun q => absurd q.1 (okB_f h8)⟩ h9).elim (fun q => Or.inl ⟨q.1, q.2, rfl⟩) (fun q => Or.inr (Or.inl ⟨q.1, q.2.1, q.2.2, rfl⟩))⟩ dX2_swap_54
      · refine lv_iload hx hb dX2_swap_33 (lv_at hl 4 rfl) ?_
        refine lv_bipush (v := nI (10)) hx hb dX2_swap_35 (by decide) ?_
        refine x_callSi (rest := [.int (nI (0)), .ref (gA g 5)]) E F I (m_in l g R B (cd, bF T, bF P, fo) O (x4) (N := 10) (by decide)) gX2_swap_X2_in rfl hd_X2_in rfl rfl ⟨by decide, by decide⟩ ⟨by decide, by decide⟩ rfl hl.1 rfl (Nat.le_of_ble_eq_true rfl) dX2_swap_37 (fun H locs I => ?_)
        refine n_zeq (tgt := 47) hx hb dX2_swap_40 (by decide) (fun h10 => ?_) (fun h10 => ?_)
        · refine lv_iconst (v := nI (0)) hx hb dX2_swap_47 (by decide) ?_
          refine x_callVi 5 2 (rest := []) (C := RX2) (T0 := TX2) (N := 4) E F I (m_fails l g R B cd T P fo O false false) gX2_swap_X2_fails rfl (by decide) rfl rfl rfl hd_X2_fails rfl rfl ⟨by decide, by decide⟩ ⟨by decide, by decide⟩ rfl hl.1 rfl (Nat.le_of_ble_eq_true rfl) dX2_swap_48 (fun H locs I => ?_)
          refine n_zeq (tgt := 55) hx hb dX2_swap_51 (by decide) (fun h11 => ?_) (fun h11 => ?_)
          · exact absurd h11 (by simp)
          · exact x_vret hx hb hr hk F I ⟨rfl, _, _, _, rfl, (fail_c (SL := okI 48 x1 ∧ okI 48 x2) (NU := okI 10 x3 ∧ okI 10 x4) ⟨fun q => absurd q (by decide), fun q => absurd q.2 (okB_f h7)⟩ ⟨fun q => absurd q (by decide), fun q => absurd q.2 (okB_f h10)⟩ h11).elim (fun q => Or.inl ⟨q.1, q.2, rfl⟩) (fun q => Or.inr (Or.inl ⟨q.1, q.2.1, q.2.2, rfl⟩))⟩ dX2_swap_54
        · refine lv_iconst (v := nI (1)) hx hb dX2_swap_43 (by decide) ?_
          refine lv_goto (tgt := 48) hx hb dX2_swap_44 (by decide) ?_
          refine x_callVi 5 2 (rest := []) (C := RX2) (T0 := TX2) (N := 4) E F I (m_fails l g R B cd T P fo O false true) gX2_swap_X2_fails rfl (by decide) rfl rfl rfl hd_X2_fails rfl rfl ⟨by decide, by decide⟩ ⟨by decide, by decide⟩ rfl hl.1 rfl (Nat.le_of_ble_eq_true rfl) dX2_swap_48 (fun H locs I => ?_)
          refine n_zeq (tgt := 55) hx hb dX2_swap_51 (by decide) (fun h12 => ?_) (fun h12 => ?_)
          · exact absurd h12 (by simp)
          · exact x_vret hx hb hr hk F I ⟨rfl, _, _, _, rfl, (fail_c (SL := okI 48 x1 ∧ okI 48 x2) (NU := okI 10 x3 ∧ okI 10 x4) ⟨fun q => absurd q (by decide), fun q => absurd q.2 (okB_f h7)⟩ ⟨fun _ => ⟨okB_iff.mp h8, okB_iff.mp h10⟩, fun _ => rfl⟩ h12).elim (fun q => Or.inl ⟨q.1, q.2, rfl⟩) (fun q => Or.inr (Or.inl ⟨q.1, q.2.1, q.2.2, rfl⟩))⟩ dX2_swap_54
    · refine lv_iconst (v := nI (1)) hx hb dX2_swap_19 (by decide) ?_
      refine lv_goto (tgt := 24) hx hb dX2_swap_20 (by decide) ?_
      refine lv_iload_n hx hb dX2_swap_24 rfl (lv_at hl 3 rfl) ?_
      refine lv_bipush (v := nI (10)) hx hb dX2_swap_25 (by decide) ?_
      refine x_callSi (rest := [.int (nI (1)), .ref (gA g 5)]) E F I (m_in l g R B (cd, bF T, bF P, fo) O (x3) (N := 10) (by decide)) gX2_swap_X2_in rfl hd_X2_in rfl rfl ⟨by decide, by decide⟩ ⟨by decide, by decide⟩ rfl hl.1 rfl (Nat.le_of_ble_eq_true rfl) dX2_swap_27 (fun H locs I => ?_)
      refine n_zeq (tgt := 47) hx hb dX2_swap_30 (by decide) (fun h13 => ?_) (fun h13 => ?_)
      · refine lv_iconst (v := nI (0)) hx hb dX2_swap_47 (by decide) ?_
        refine x_callVi 5 2 (rest := []) (C := RX2) (T0 := TX2) (N := 4) E F I (m_fails l g R B cd T P fo O true false) gX2_swap_X2_fails rfl (by decide) rfl rfl rfl hd_X2_fails rfl rfl ⟨by decide, by decide⟩ ⟨by decide, by decide⟩ rfl hl.1 rfl (Nat.le_of_ble_eq_true rfl) dX2_swap_48 (fun H locs I => ?_)
        refine n_zeq (tgt := 55) hx hb dX2_swap_51 (by decide) (fun h14 => ?_) (fun h14 => ?_)
        · exact absurd h14 (by simp)
        · exact x_vret hx hb hr hk F I ⟨rfl, _, _, _, rfl, (fail_c (SL := okI 48 x1 ∧ okI 48 x2) (NU := okI 10 x3 ∧ okI 10 x4) ⟨fun _ => ⟨okB_iff.mp h1, okB_iff.mp h7⟩, fun _ => rfl⟩ ⟨fun q => absurd q (by decide), fun q => absurd q.1 (okB_f h13)⟩ h14).elim (fun q => Or.inl ⟨q.1, q.2, rfl⟩) (fun q => Or.inr (Or.inl ⟨q.1, q.2.1, q.2.2, rfl⟩))⟩ dX2_swap_54
      · refine lv_iload hx hb dX2_swap_33 (lv_at hl 4 rfl) ?_
        refine lv_bipush (v := nI (10)) hx hb dX2_swap_35 (by decide) ?_
        refine x_callSi (rest := [.int (nI (1)), .ref (gA g 5)]) E F I (m_in l g R B (cd, bF T, bF P, fo) O (x4) (N := 10) (by decide)) gX2_swap_X2_in rfl hd_X2_in rfl rfl ⟨by decide, by decide⟩ ⟨by decide, by decide⟩ rfl hl.1 rfl (Nat.le_of_ble_eq_true rfl) dX2_swap_37 (fun H locs I => ?_)
        refine n_zeq (tgt := 47) hx hb dX2_swap_40 (by decide) (fun h15 => ?_) (fun h15 => ?_)
        · refine lv_iconst (v := nI (0)) hx hb dX2_swap_47 (by decide) ?_
          refine x_callVi 5 2 (rest := []) (C := RX2) (T0 := TX2) (N := 4) E F I (m_fails l g R B cd T P fo O true false) gX2_swap_X2_fails rfl (by decide) rfl rfl rfl hd_X2_fails rfl rfl ⟨by decide, by decide⟩ ⟨by decide, by decide⟩ rfl hl.1 rfl (Nat.le_of_ble_eq_true rfl) dX2_swap_48 (fun H locs I => ?_)
          refine n_zeq (tgt := 55) hx hb dX2_swap_51 (by decide) (fun h16 => ?_) (fun h16 => ?_)
          · exact absurd h16 (by simp)
          · exact x_vret hx hb hr hk F I ⟨rfl, _, _, _, rfl, (fail_c (SL := okI 48 x1 ∧ okI 48 x2) (NU := okI 10 x3 ∧ okI 10 x4) ⟨fun _ => ⟨okB_iff.mp h1, okB_iff.mp h7⟩, fun _ => rfl⟩ ⟨fun q => absurd q (by decide), fun q => absurd q.2 (okB_f h15)⟩ h16).elim (fun q => Or.inl ⟨q.1, q.2, rfl⟩) (fun q => Or.inr (Or.inl ⟨q.1, q.2.1, q.2.2, rfl⟩))⟩ dX2_swap_54
        · refine lv_iconst (v := nI (1)) hx hb dX2_swap_43 (by decide) ?_
          refine lv_goto (tgt := 48) hx hb dX2_swap_44 (by decide) ?_
          refine x_callVi 5 2 (rest := []) (C := RX2) (T0 := TX2) (N := 4) E F I (m_fails l g R B cd T P fo O true true) gX2_swap_X2_fails rfl (by decide) rfl rfl rfl hd_X2_fails rfl rfl ⟨by decide, by decide⟩ ⟨by decide, by decide⟩ rfl hl.1 rfl (Nat.le_of_ble_eq_true rfl) dX2_swap_48 (fun H locs I => ?_)
          refine n_zeq (tgt := 55) hx hb dX2_swap_51 (by decide) (fun h17 => ?_) (fun h17 => ?_)
          · obtain ⟨hSL, hNU, hcd⟩ := good_c (SL := okI 48 x1 ∧ okI 48 x2) (NU := okI 10 x3 ∧ okI 10 x4) ⟨fun _ => ⟨okB_iff.mp h1, okB_iff.mp h7⟩, fun _ => rfl⟩ ⟨fun _ => ⟨okB_iff.mp h13, okB_iff.mp h15⟩, fun _ => rfl⟩ h17
            rw [hcd] at I
            obtain ⟨⟨s0, lt_s0, rfl⟩, ⟨a, lt_a, rfl⟩⟩ := hSL
            obtain ⟨⟨v, lt_v, rfl⟩, ⟨y, lt_y, rfl⟩⟩ := hNU
            have hl : lv_has ls 8 [(0, .ref (gA g 5)), (1, .int (nI (s0))), (2, .int (nI (a))), (3, .int (nI (v))), (4, .int (nI (y)))] := hl
            refine lv_iconst (v := nI (0)) hx hb dX2_swap_55 (by decide) ?_
            refine lv_istore (lv' := [(5, .int (nI (0))), (0, .ref (gA g 5)), (1, .int (nI (s0))), (2, .int (nI (a))), (3, .int (nI (v))), (4, .int (nI (y)))]) hx hb dX2_swap_56 hl (by decide) rfl (fun ls hl => ?_)
            have loop : ∀ (n i : Nat), i ≤ 1024 → 1024 + 1 ≤ i + n → ∀ (H : Heap) (locs : List Loc) (ls : Array Slot), Iv g (R, B, (0, bF T, bF (fil P (fun k => T (1024 * a + wth (wth k v ((k &&& bitN y) != 0)) y ((k &&& bitN v) != 0))) (i)), fo), O) s H locs → lv_has ls 8 [(0, .ref (gA g 5)), (1, .int (nI (s0))), (2, .int (nI (a))), (3, .int (nI (v))), (4, .int (nI (y))), (5, .int (nI (i)))] → W p l e (rmN 2 60) s m [.ref (gA g 5), .int ((nI s0)), .int ((nI a)), .int ((nI v)), .int ((nI y))].toArray below meth c H locs 0 0 (MQ below (Qs g (fun v' u' => v' = none ∧ ∃ (cd' : Int32) (T' P' : Nat → Bool), u' = (R, B, (cd', bF T', bF P', fo), O) ∧ ((¬ (okI 48 (nI s0) ∧ okI 48 (nI a)) ∧ cd' = 1 ∧ T' = T) ∨ ((okI 48 (nI s0) ∧ okI 48 (nI a)) ∧ ¬ (okI 10 (nI v) ∧ okI 10 (nI y)) ∧ cd' = 2 ∧ T' = T) ∨ (cd' = 0 ∧ ∃ s0_ a_ v_ y_ : Nat, s0_ < 48 ∧ a_ < 48 ∧ v_ < 10 ∧ y_ < 10 ∧ (nI s0) = nI s0_ ∧ (nI a) = nI a_ ∧ (nI v) = nI v_ ∧ (nI y) = nI y_ ∧ MW T T' s0_ (fun k => T (1024 * a_ + wth (wth k v_ ((k &&& bitN y_) != 0)) y_ ((k &&& bitN v_) != 0))))))) [.ref (gA g 5), .int ((nI s0)), .int ((nI a)), .int ((nI v)), .int ((nI y))].toArray s 0 0 (gW g)) (F0 m 58 ls []) := by
              intro n
              induction n with
              | zero => intro i h1 h2; exact absurd h2 (by omega)
              | succ n ih_loop =>
                intro i hi hn H locs ls I hl
                refine lv_iload hx hb dX2_swap_58 (lv_at hl 5 rfl) ?_
                refine lv_sipush (v := nI (1024)) hx hb dX2_swap_60 (by decide) ?_
                refine n_cge (tgt := 134) hx hb (by omega) (by omega) dX2_swap_63 (by decide) (fun h18 => ?_) (fun h18 => ?_)
                · obtain rfl : i = 1024 := by omega
                  have hl : lv_has ls 8 [(0, .ref (gA g 5)), (1, .int (nI (s0))), (2, .int (nI (a))), (3, .int (nI (v))), (4, .int (nI (y))), (5, .int (nI (1024)))] := hl
                  refine lv_aload_n hx hb dX2_swap_134 rfl (lv_at hl 0 rfl) ?_
                  refine lv_iload_n hx hb dX2_swap_135 rfl (lv_at hl 1 rfl) ?_
                  refine x_callVv 5 2 (rest := []) (C := RX2) (T0 := TX2) (N := 4) E F I (m_keep l g R B 0 T (fil P (fun k => T (1024 * a + wth (wth k v ((k &&& bitN y) != 0)) y ((k &&& bitN v) != 0))) 1024) fo O (s0 := s0) (by omega)) gX2_swap_X2_keep rfl (by decide) rfl rfl rfl hd_X2_keep rfl rfl ⟨by decide, by decide⟩ ⟨by decide, by decide⟩ rfl hl.1 rfl (Nat.le_of_ble_eq_true rfl) dX2_swap_136 (fun H locs I => ?_)
                  exact x_vret hx hb hr hk F I ⟨rfl, _, _, _, rfl, Or.inr (Or.inr ⟨rfl, s0, a, v, y, lt_s0, lt_a, lt_v, lt_y, rfl, rfl, rfl, rfl, MW_fil⟩)⟩ dX2_swap_139
                · refine lv_iload hx hb dX2_swap_66 (lv_at hl 5 rfl) ?_
                  refine lv_iload_n hx hb dX2_swap_68 rfl (lv_at hl 3 rfl) ?_
                  refine x_callSi (rest := [.int (nI (i))]) E F I (m_bit l g R B (0, bF T, bF (fil P (fun k => T (1024 * a + wth (wth k v ((k &&& bitN y) != 0)) y ((k &&& bitN v) != 0))) (i)), fo) O (v := v) (by omega)) gX2_swap_X2_bit rfl hd_X2_bit rfl rfl ⟨by decide, by decide⟩ ⟨by decide, by decide⟩ rfl hl.1 rfl (Nat.le_of_ble_eq_true rfl) dX2_swap_69 (fun H locs I => ?_)
                  refine n_iand hx hb dX2_swap_72 ?_
                  refine n_ifle (tgt := 80) hx hb (Nat.lt_of_le_of_lt Nat.and_le_left (by omega)) dX2_swap_73 (by decide) (fun h19 => ?_) (fun h19 => ?_)
                  · refine lv_iconst (v := nI (0)) hx hb dX2_swap_80 (by decide) ?_
                    refine lv_istore (lv' := [(6, .int (nI (0))), (0, .ref (gA g 5)), (1, .int (nI (s0))), (2, .int (nI (a))), (3, .int (nI (v))), (4, .int (nI (y))), (5, .int (nI (i)))]) hx hb dX2_swap_81 hl (by decide) rfl (fun ls hl => ?_)
                    refine lv_iload hx hb dX2_swap_83 (lv_at hl 6 rfl) ?_
                    refine lv_iload hx hb dX2_swap_85 (lv_at hl 5 rfl) ?_
                    refine x_callSi (rest := [.int (nI (i))]) E F I (m_bit l g R B (0, bF T, bF (fil P (fun k => T (1024 * a + wth (wth k v ((k &&& bitN y) != 0)) y ((k &&& bitN v) != 0))) (i)), fo) O (v := y) (by omega)) gX2_swap_X2_bit rfl hd_X2_bit rfl rfl ⟨by decide, by decide⟩ ⟨by decide, by decide⟩ rfl hl.1 rfl (Nat.le_of_ble_eq_true rfl) dX2_swap_87 (fun H locs I => ?_)
                    refine n_iand hx hb dX2_swap_90 ?_
                    refine n_ifle (tgt := 98) hx hb (Nat.lt_of_le_of_lt Nat.and_le_left (by omega)) dX2_swap_91 (by decide) (fun h20 => ?_) (fun h20 => ?_)
                    · refine lv_iconst (v := nI (0)) hx hb dX2_swap_98 (by decide) ?_
                      refine lv_istore (lv' := [(7, .int (nI (0))), (6, .int (nI (0))), (0, .ref (gA g 5)), (1, .int (nI (s0))), (2, .int (nI (a))), (3, .int (nI (v))), (4, .int (nI (y))), (5, .int (nI (i)))]) hx hb dX2_swap_99 hl (by decide) rfl (fun ls hl => ?_)
                      refine lv_aload_n hx hb dX2_swap_101 rfl (lv_at hl 2 rfl) ?_
                      refine x_get 5 2 2 (C := RX2) (T := TX2) (N := 4) (v := .ref (gA g 7)) E F I inw_X2_swap_X2 (by decide) rfl rfl (by decide) wm_X2_swap_f14 rfl dX2_swap_102 ?_
                      refine lv_iload hx hb dX2_swap_105 (lv_at hl 7 rfl) ?_
                      refine lv_aload_n hx hb dX2_swap_107 rfl (lv_at hl 2 rfl) ?_
                      refine lv_iload_n hx hb dX2_swap_108 rfl (lv_at hl 4 rfl) ?_
                      refine lv_iload hx hb dX2_swap_109 (lv_at hl 7 rfl) ?_
                      refine lv_iload_n hx hb dX2_swap_111 rfl (lv_at hl 5 rfl) ?_
                      refine lv_iload hx hb dX2_swap_112 (lv_at hl 0 rfl) ?_
                      refine x_callSi (rest := [.int (nI (a)), .ref (gA g 5), .int (nI (i)), .ref (gA g 7)]) E F I (m_with l g R B (0, bF T, bF (fil P (fun k => T (1024 * a + wth (wth k v ((k &&& bitN y) != 0)) y ((k &&& bitN v) != 0))) (i)), fo) O (k := i) (v := v) false (by omega)) gX2_swap_X2_with rfl hd_X2_with rfl rfl ⟨by decide, by decide⟩ ⟨by decide, by decide⟩ rfl hl.1 rfl (Nat.le_of_ble_eq_true rfl) dX2_swap_114 (fun H locs I => ?_)
                      refine lv_iload hx hb dX2_swap_117 (lv_at hl 6 rfl) ?_
                      refine lv_iload hx hb dX2_swap_119 (lv_at hl 1 rfl) ?_
                      refine x_callSi (rest := [.int (nI (a)), .ref (gA g 5), .int (nI (i)), .ref (gA g 7)]) E F I (m_with l g R B (0, bF T, bF (fil P (fun k => T (1024 * a + wth (wth k v ((k &&& bitN y) != 0)) y ((k &&& bitN v) != 0))) (i)), fo) O (k := wth i v false) (v := y) false (by omega)) gX2_swap_X2_with rfl hd_X2_with rfl rfl ⟨by decide, by decide⟩ ⟨by decide, by decide⟩ rfl hl.1 rfl (Nat.le_of_ble_eq_true rfl) dX2_swap_121 (fun H locs I => ?_)
                      refine x_callVi 5 2 (rest := [.int (nI (i)), .ref (gA g 7)]) (C := RX2) (T0 := TX2) (N := 4) E F I (m_of l g R B 0 T (fil P (fun k => T (1024 * a + wth (wth k v ((k &&& bitN y) != 0)) y ((k &&& bitN v) != 0))) (i)) fo O (a := a) (k := wth (wth i v false) y false) (by omega) (wth_lt (wth_lt (by omega)))) gX2_swap_X2_of rfl (by decide) rfl rfl rfl hd_X2_of rfl rfl ⟨by decide, by decide⟩ ⟨by decide, by decide⟩ rfl hl.1 rfl (Nat.le_of_ble_eq_true rfl) dX2_swap_124 (fun H locs I => ?_)
                      refine x_zastore 7 (u' := (R, B, (0, bF T, upd (bF (fil P (fun k => T (1024 * a + wth (wth k v ((k &&& bitN y) != 0)) y ((k &&& bitN v) != 0))) (i))) (i) (bI (T (1024 * a + (wth (wth i v false) y false)))), fo), O)) (i := i) hx hb F I (by decide) (bI_nar _) rfl rfl ec_o7 (by decide) (by omega) dX2_swap_127 (fun H locs I => ?_)
                      refine n_iinc (d := 1) (lv' := [(5, .int (nI (i + 1))), (7, .int (nI (0))), (6, .int (nI (0))), (0, .ref (gA g 5)), (1, .int (nI (s0))), (2, .int (nI (a))), (3, .int (nI (v))), (4, .int (nI (y)))]) hx hb dX2_swap_128 rfl hl (j := 7) rfl (by decide) rfl (fun ls hl => ?_)
                      refine lv_goto (tgt := 58) hx hb dX2_swap_131 (by decide) ?_
                      exact ih_loop (i + 1) (by omega) (by omega) _ _ ls (fil_step I (by show _ = bI _; rw [show ((i &&& bitN v) != 0) = false from by simp; omega, show ((i &&& bitN y) != 0) = false from by simp; omega])) (lv_sub hl [3, 4, 5, 6, 7, 0] rfl)
                    · refine lv_iconst (v := nI (1)) hx hb dX2_swap_94 (by decide) ?_
                      refine lv_goto (tgt := 99) hx hb dX2_swap_95 (by decide) ?_
                      refine lv_istore (lv' := [(7, .int (nI (1))), (6, .int (nI (0))), (0, .ref (gA g 5)), (1, .int (nI (s0))), (2, .int (nI (a))), (3, .int (nI (v))), (4, .int (nI (y))), (5, .int (nI (i)))]) hx hb dX2_swap_99 hl (by decide) rfl (fun ls hl => ?_)
                      refine lv_aload_n hx hb dX2_swap_101 rfl (lv_at hl 2 rfl) ?_
                      refine x_get 5 2 2 (C := RX2) (T := TX2) (N := 4) (v := .ref (gA g 7)) E F I inw_X2_swap_X2 (by decide) rfl rfl (by decide) wm_X2_swap_f14 rfl dX2_swap_102 ?_
                      refine lv_iload hx hb dX2_swap_105 (lv_at hl 7 rfl) ?_
                      refine lv_aload_n hx hb dX2_swap_107 rfl (lv_at hl 2 rfl) ?_
                      refine lv_iload_n hx hb dX2_swap_108 rfl (lv_at hl 4 rfl) ?_
                      refine lv_iload hx hb dX2_swap_109 (lv_at hl 7 rfl) ?_
                      refine lv_iload_n hx hb dX2_swap_111 rfl (lv_at hl 5 rfl) ?_
                      refine lv_iload hx hb dX2_swap_112 (lv_at hl 0 rfl) ?_
                      refine x_callSi (rest := [.int (nI (a)), .ref (gA g 5), .int (nI (i)), .ref (gA g 7)]) E F I (m_with l g R B (0, bF T, bF (fil P (fun k => T (1024 * a + wth (wth k v ((k &&& bitN y) != 0)) y ((k &&& bitN v) != 0))) (i)), fo) O (k := i) (v := v) true (by omega)) gX2_swap_X2_with rfl hd_X2_with rfl rfl ⟨by decide, by decide⟩ ⟨by decide, by decide⟩ rfl hl.1 rfl (Nat.le_of_ble_eq_true rfl) dX2_swap_114 (fun H locs I => ?_)
                      refine lv_iload hx hb dX2_swap_117 (lv_at hl 6 rfl) ?_
                      refine lv_iload hx hb dX2_swap_119 (lv_at hl 1 rfl) ?_
                      refine x_callSi (rest := [.int (nI (a)), .ref (gA g 5), .int (nI (i)), .ref (gA g 7)]) E F I (m_with l g R B (0, bF T, bF (fil P (fun k => T (1024 * a + wth (wth k v ((k &&& bitN y) != 0)) y ((k &&& bitN v) != 0))) (i)), fo) O (k := wth i v true) (v := y) false (by omega)) gX2_swap_X2_with rfl hd_X2_with rfl rfl ⟨by decide, by decide⟩ ⟨by decide, by decide⟩ rfl hl.1 rfl (Nat.le_of_ble_eq_true rfl) dX2_swap_121 (fun H locs I => ?_)
                      refine x_callVi 5 2 (rest := [.int (nI (i)), .ref (gA g 7)]) (C := RX2) (T0 := TX2) (N := 4) E F I (m_of l g R B 0 T (fil P (fun k => T (1024 * a + wth (wth k v ((k &&& bitN y) != 0)) y ((k &&& bitN v) != 0))) (i)) fo O (a := a) (k := wth (wth i v true) y false) (by omega) (wth_lt (wth_lt (by omega)))) gX2_swap_X2_of rfl (by decide) rfl rfl rfl hd_X2_of rfl rfl ⟨by decide, by decide⟩ ⟨by decide, by decide⟩ rfl hl.1 rfl (Nat.le_of_ble_eq_true rfl) dX2_swap_124 (fun H locs I => ?_)
                      refine x_zastore 7 (u' := (R, B, (0, bF T, upd (bF (fil P (fun k => T (1024 * a + wth (wth k v ((k &&& bitN y) != 0)) y ((k &&& bitN v) != 0))) (i))) (i) (bI (T (1024 * a + (wth (wth i v true) y false)))), fo), O)) (i := i) hx hb F I (by decide) (bI_nar _) rfl rfl ec_o7 (by decide) (by omega) dX2_swap_127 (fun H locs I => ?_)
                      refine n_iinc (d := 1) (lv' := [(5, .int (nI (i + 1))), (7, .int (nI (1))), (6, .int (nI (0))), (0, .ref (gA g 5)), (1, .int (nI (s0))), (2, .int (nI (a))), (3, .int (nI (v))), (4, .int (nI (y)))]) hx hb dX2_swap_128 rfl hl (j := 7) rfl (by decide) rfl (fun ls hl => ?_)
                      refine lv_goto (tgt := 58) hx hb dX2_swap_131 (by decide) ?_
                      exact ih_loop (i + 1) (by omega) (by omega) _ _ ls (fil_step I (by show _ = bI _; rw [show ((i &&& bitN v) != 0) = false from by simp; omega, show ((i &&& bitN y) != 0) = true from by simp; omega])) (lv_sub hl [3, 4, 5, 6, 7, 0] rfl)
                  · refine lv_iconst (v := nI (1)) hx hb dX2_swap_76 (by decide) ?_
                    refine lv_goto (tgt := 81) hx hb dX2_swap_77 (by decide) ?_
                    refine lv_istore (lv' := [(6, .int (nI (1))), (0, .ref (gA g 5)), (1, .int (nI (s0))), (2, .int (nI (a))), (3, .int (nI (v))), (4, .int (nI (y))), (5, .int (nI (i)))]) hx hb dX2_swap_81 hl (by decide) rfl (fun ls hl => ?_)
                    refine lv_iload hx hb dX2_swap_83 (lv_at hl 6 rfl) ?_
                    refine lv_iload hx hb dX2_swap_85 (lv_at hl 5 rfl) ?_
                    refine x_callSi (rest := [.int (nI (i))]) E F I (m_bit l g R B (0, bF T, bF (fil P (fun k => T (1024 * a + wth (wth k v ((k &&& bitN y) != 0)) y ((k &&& bitN v) != 0))) (i)), fo) O (v := y) (by omega)) gX2_swap_X2_bit rfl hd_X2_bit rfl rfl ⟨by decide, by decide⟩ ⟨by decide, by decide⟩ rfl hl.1 rfl (Nat.le_of_ble_eq_true rfl) dX2_swap_87 (fun H locs I => ?_)
                    refine n_iand hx hb dX2_swap_90 ?_
                    refine n_ifle (tgt := 98) hx hb (Nat.lt_of_le_of_lt Nat.and_le_left (by omega)) dX2_swap_91 (by decide) (fun h21 => ?_) (fun h21 => ?_)
                    · refine lv_iconst (v := nI (0)) hx hb dX2_swap_98 (by decide) ?_
                      refine lv_istore (lv' := [(7, .int (nI (0))), (6, .int (nI (1))), (0, .ref (gA g 5)), (1, .int (nI (s0))), (2, .int (nI (a))), (3, .int (nI (v))), (4, .int (nI (y))), (5, .int (nI (i)))]) hx hb dX2_swap_99 hl (by decide) rfl (fun ls hl => ?_)
                      refine lv_aload_n hx hb dX2_swap_101 rfl (lv_at hl 2 rfl) ?_
                      refine x_get 5 2 2 (C := RX2) (T := TX2) (N := 4) (v := .ref (gA g 7)) E F I inw_X2_swap_X2 (by decide) rfl rfl (by decide) wm_X2_swap_f14 rfl dX2_swap_102 ?_
                      refine lv_iload hx hb dX2_swap_105 (lv_at hl 7 rfl) ?_
                      refine lv_aload_n hx hb dX2_swap_107 rfl (lv_at hl 2 rfl) ?_
                      refine lv_iload_n hx hb dX2_swap_108 rfl (lv_at hl 4 rfl) ?_
                      refine lv_iload hx hb dX2_swap_109 (lv_at hl 7 rfl) ?_
                      refine lv_iload_n hx hb dX2_swap_111 rfl (lv_at hl 5 rfl) ?_
                      refine lv_iload hx hb dX2_swap_112 (lv_at hl 0 rfl) ?_
                      refine x_callSi (rest := [.int (nI (a)), .ref (gA g 5), .int (nI (i)), .ref (gA g 7)]) E F I (m_with l g R B (0, bF T, bF (fil P (fun k => T (1024 * a + wth (wth k v ((k &&& bitN y) != 0)) y ((k &&& bitN v) != 0))) (i)), fo) O (k := i) (v := v) false (by omega)) gX2_swap_X2_with rfl hd_X2_with rfl rfl ⟨by decide, by decide⟩ ⟨by decide, by decide⟩ rfl hl.1 rfl (Nat.le_of_ble_eq_true rfl) dX2_swap_114 (fun H locs I => ?_)
                      refine lv_iload hx hb dX2_swap_117 (lv_at hl 6 rfl) ?_
                      refine lv_iload hx hb dX2_swap_119 (lv_at hl 1 rfl) ?_
                      refine x_callSi (rest := [.int (nI (a)), .ref (gA g 5), .int (nI (i)), .ref (gA g 7)]) E F I (m_with l g R B (0, bF T, bF (fil P (fun k => T (1024 * a + wth (wth k v ((k &&& bitN y) != 0)) y ((k &&& bitN v) != 0))) (i)), fo) O (k := wth i v false) (v := y) true (by omega)) gX2_swap_X2_with rfl hd_X2_with rfl rfl ⟨by decide, by decide⟩ ⟨by decide, by decide⟩ rfl hl.1 rfl (Nat.le_of_ble_eq_true rfl) dX2_swap_121 (fun H locs I => ?_)
                      refine x_callVi 5 2 (rest := [.int (nI (i)), .ref (gA g 7)]) (C := RX2) (T0 := TX2) (N := 4) E F I (m_of l g R B 0 T (fil P (fun k => T (1024 * a + wth (wth k v ((k &&& bitN y) != 0)) y ((k &&& bitN v) != 0))) (i)) fo O (a := a) (k := wth (wth i v false) y true) (by omega) (wth_lt (wth_lt (by omega)))) gX2_swap_X2_of rfl (by decide) rfl rfl rfl hd_X2_of rfl rfl ⟨by decide, by decide⟩ ⟨by decide, by decide⟩ rfl hl.1 rfl (Nat.le_of_ble_eq_true rfl) dX2_swap_124 (fun H locs I => ?_)
                      refine x_zastore 7 (u' := (R, B, (0, bF T, upd (bF (fil P (fun k => T (1024 * a + wth (wth k v ((k &&& bitN y) != 0)) y ((k &&& bitN v) != 0))) (i))) (i) (bI (T (1024 * a + (wth (wth i v false) y true)))), fo), O)) (i := i) hx hb F I (by decide) (bI_nar _) rfl rfl ec_o7 (by decide) (by omega) dX2_swap_127 (fun H locs I => ?_)
                      refine n_iinc (d := 1) (lv' := [(5, .int (nI (i + 1))), (7, .int (nI (0))), (6, .int (nI (1))), (0, .ref (gA g 5)), (1, .int (nI (s0))), (2, .int (nI (a))), (3, .int (nI (v))), (4, .int (nI (y)))]) hx hb dX2_swap_128 rfl hl (j := 7) rfl (by decide) rfl (fun ls hl => ?_)
                      refine lv_goto (tgt := 58) hx hb dX2_swap_131 (by decide) ?_
                      exact ih_loop (i + 1) (by omega) (by omega) _ _ ls (fil_step I (by show _ = bI _; rw [show ((i &&& bitN v) != 0) = true from by simp; omega, show ((i &&& bitN y) != 0) = false from by simp; omega])) (lv_sub hl [3, 4, 5, 6, 7, 0] rfl)
                    · refine lv_iconst (v := nI (1)) hx hb dX2_swap_94 (by decide) ?_
                      refine lv_goto (tgt := 99) hx hb dX2_swap_95 (by decide) ?_
                      refine lv_istore (lv' := [(7, .int (nI (1))), (6, .int (nI (1))), (0, .ref (gA g 5)), (1, .int (nI (s0))), (2, .int (nI (a))), (3, .int (nI (v))), (4, .int (nI (y))), (5, .int (nI (i)))]) hx hb dX2_swap_99 hl (by decide) rfl (fun ls hl => ?_)
                      refine lv_aload_n hx hb dX2_swap_101 rfl (lv_at hl 2 rfl) ?_
                      refine x_get 5 2 2 (C := RX2) (T := TX2) (N := 4) (v := .ref (gA g 7)) E F I inw_X2_swap_X2 (by decide) rfl rfl (by decide) wm_X2_swap_f14 rfl dX2_swap_102 ?_
                      refine lv_iload hx hb dX2_swap_105 (lv_at hl 7 rfl) ?_
                      refine lv_aload_n hx hb dX2_swap_107 rfl (lv_at hl 2 rfl) ?_
                      refine lv_iload_n hx hb dX2_swap_108 rfl (lv_at hl 4 rfl) ?_
                      refine lv_iload hx hb dX2_swap_109 (lv_at hl 7 rfl) ?_
                      refine lv_iload_n hx hb dX2_swap_111 rfl (lv_at hl 5 rfl) ?_
                      refine lv_iload hx hb dX2_swap_112 (lv_at hl 0 rfl) ?_
                      refine x_callSi (rest := [.int (nI (a)), .ref (gA g 5), .int (nI (i)), .ref (gA g 7)]) E F I (m_with l g R B (0, bF T, bF (fil P (fun k => T (1024 * a + wth (wth k v ((k &&& bitN y) != 0)) y ((k &&& bitN v) != 0))) (i)), fo) O (k := i) (v := v) true (by omega)) gX2_swap_X2_with rfl hd_X2_with rfl rfl ⟨by decide, by decide⟩ ⟨by decide, by decide⟩ rfl hl.1 rfl (Nat.le_of_ble_eq_true rfl) dX2_swap_114 (fun H locs I => ?_)
                      refine lv_iload hx hb dX2_swap_117 (lv_at hl 6 rfl) ?_
                      refine lv_iload hx hb dX2_swap_119 (lv_at hl 1 rfl) ?_
                      refine x_callSi (rest := [.int (nI (a)), .ref (gA g 5), .int (nI (i)), .ref (gA g 7)]) E F I (m_with l g R B (0, bF T, bF (fil P (fun k => T (1024 * a + wth (wth k v ((k &&& bitN y) != 0)) y ((k &&& bitN v) != 0))) (i)), fo) O (k := wth i v true) (v := y) true (by omega)) gX2_swap_X2_with rfl hd_X2_with rfl rfl ⟨by decide, by decide⟩ ⟨by decide, by decide⟩ rfl hl.1 rfl (Nat.le_of_ble_eq_true rfl) dX2_swap_121 (fun H locs I => ?_)
                      refine x_callVi 5 2 (rest := [.int (nI (i)), .ref (gA g 7)]) (C := RX2) (T0 := TX2) (N := 4) E F I (m_of l g R B 0 T (fil P (fun k => T (1024 * a + wth (wth k v ((k &&& bitN y) != 0)) y ((k &&& bitN v) != 0))) (i)) fo O (a := a) (k := wth (wth i v true) y true) (by omega) (wth_lt (wth_lt (by omega)))) gX2_swap_X2_of rfl (by decide) rfl rfl rfl hd_X2_of rfl rfl ⟨by decide, by decide⟩ ⟨by decide, by decide⟩ rfl hl.1 rfl (Nat.le_of_ble_eq_true rfl) dX2_swap_124 (fun H locs I => ?_)
                      refine x_zastore 7 (u' := (R, B, (0, bF T, upd (bF (fil P (fun k => T (1024 * a + wth (wth k v ((k &&& bitN y) != 0)) y ((k &&& bitN v) != 0))) (i))) (i) (bI (T (1024 * a + (wth (wth i v true) y true)))), fo), O)) (i := i) hx hb F I (by decide) (bI_nar _) rfl rfl ec_o7 (by decide) (by omega) dX2_swap_127 (fun H locs I => ?_)
                      refine n_iinc (d := 1) (lv' := [(5, .int (nI (i + 1))), (7, .int (nI (1))), (6, .int (nI (1))), (0, .ref (gA g 5)), (1, .int (nI (s0))), (2, .int (nI (a))), (3, .int (nI (v))), (4, .int (nI (y)))]) hx hb dX2_swap_128 rfl hl (j := 7) rfl (by decide) rfl (fun ls hl => ?_)
                      refine lv_goto (tgt := 58) hx hb dX2_swap_131 (by decide) ?_
                      exact ih_loop (i + 1) (by omega) (by omega) _ _ ls (fil_step I (by show _ = bI _; rw [show ((i &&& bitN v) != 0) = true from by simp; omega, show ((i &&& bitN y) != 0) = true from by simp; omega])) (lv_sub hl [3, 4, 5, 6, 7, 0] rfl)
            exact loop (1024 + 1 - 0) (0) (by omega) (by omega) _ _ ls (by rw [fil_0]; exact I) (lv_sub hl [1, 2, 3, 4, 5, 0] rfl)
          · exact x_vret hx hb hr hk F I ⟨rfl, _, _, _, rfl, (fail_c (SL := okI 48 x1 ∧ okI 48 x2) (NU := okI 10 x3 ∧ okI 10 x4) ⟨fun _ => ⟨okB_iff.mp h1, okB_iff.mp h7⟩, fun _ => rfl⟩ ⟨fun _ => ⟨okB_iff.mp h13, okB_iff.mp h15⟩, fun _ => rfl⟩ h17).elim (fun q => Or.inl ⟨q.1, q.2, rfl⟩) (fun q => Or.inr (Or.inl ⟨q.1, q.2.1, q.2.2, rfl⟩))⟩ dX2_swap_54
theorem hd_X2_swap : yX2_swap.cls ≠ "java/lang/invoke/MethodHandle" ∧ yX2_swap.cls ≠ "java/lang/invoke/VarHandle" ∧ (parseMethodDescriptor yX2_swap.desc).map (fun d => d.parameters.length) = some 4 := by decide +kernel
