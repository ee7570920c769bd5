theorem wm_X0_enter_f25 : Cond.fieldLink RX0 25 "FunctionDesk$Ruler" "seatsUsed" "I" ∈ wsX0_enter := by decide +kernel
theorem inw_X0_enter_X0 : ∀ w ∈ wsX00, w ∈ wsX0_enter := by decide +kernel
theorem wm_X0_enter_f15 : Cond.fieldLink RX0 15 "FunctionDesk$Ruler" "seats" "[I" ∈ wsX0_enter := by decide +kernel
theorem wm_X0_enter_f11 : Cond.fieldLink RX0 11 "FunctionDesk$Ruler" "waiting" "[I" ∈ wsX0_enter := by decide +kernel
theorem wm_X0_enter_f18 : Cond.fieldLink RX0 18 "FunctionDesk$Ruler" "first" "I" ∈ wsX0_enter := by decide +kernel
theorem wm_X0_enter_f22 : Cond.fieldLink RX0 22 "FunctionDesk$Ruler" "length" "I" ∈ wsX0_enter := by decide +kernel
set_option maxHeartbeats 4000000 in
set_option maxRecDepth 100000 in
theorem r_enter (l : Launch) (g : Geo) (R : Nat → Nat → Int64) (wt se : Nat → Int32) (fi le us : Nat) (M : Mod) (O : Nat → Int64) {lv x ex ct : Nat} {q it : Nat → Nat} (hlv : lv ≤ 10) (hxb : x < 48 * 2 ^ lv) (he : ex ≤ 12) (hu : us = 2 ^ ex) (hfi : fi < 4096) (hle : le ≤ 4096) (hR : RI R lv us se ct q) (hG : Rg wt fi le it) (hcap : (∀ k, k < ct → ¬ Ew R lv (q k) x) → ct < us ∧ le < 4096) : Cs l g yX0_enter wsX0_enter (rmN 2 56) [.ref (gA g 2), .ref (gA g 1), .int (nI (lv)), .int (nI (x))] (R, (wt, se, nI (fi), nI (le), nI (us)), M, O) (fun v' u' => v' = none ∧ (((∃ k, k < ct ∧ Ew R lv (q k) x) ∧ u' = (R, (wt, se, nI (fi), nI (le), nI (us)), M, O)) ∨ ((∀ k, k < ct → ¬ Ew R lv (q k) x) ∧ ∃ (wt' se' : Nat → Int32), u' = (R, (wt', se', nI (fi), nI (le + 1), nI (us)), M, O) ∧ RI R lv us se' (ct + 1) (va_up q ct x) ∧ Rg wt' fi (le + 1) (va_up it le x)))) := by
  refine Cs.ofW RX0 rfl (by decide) rfl (Nat.le_of_ble_eq_true rfl) ?_
  intro p e s m below meth c E hr hk F I ls hl
  have hx := E.1
  have hb := E.2.1
  have hus : 0 < us := by rw [hu]; exact Nat.two_pow_pos ex
  have hus4 : us ≤ 4096 := by rw [hu]; exact (pw2_le he).2
  have hx49 := p48 hlv hxb
  have hl : lv_has ls 6 [(0, .ref (gA g 2)), (1, .ref (gA g 1)), (2, .int (nI (lv))), (3, .int (nI (x)))] := hl
  refine lv_aload_n hx hb dX0_enter_0 rfl (lv_at hl 0 rfl) ?_
  refine lv_aload_n hx hb dX0_enter_1 rfl (lv_at hl 1 rfl) ?_
  refine lv_iload_n hx hb dX0_enter_2 rfl (lv_at hl 2 rfl) ?_
  refine lv_iload_n hx hb dX0_enter_3 rfl (lv_at hl 3 rfl) ?_
  refine x_callVi 2 0 (rest := []) (C := RX0) (T0 := TX0) (N := 5) E F I (r_seatOf l g R wt se (nI (fi)) (nI (le)) us M O (lv := lv) (x := x) (ex := ex) hlv (part_lt hlv hxb) he hu) gX0_enter_X0_seatOf rfl (by decide) rfl rfl rfl hd_X0_seatOf rfl rfl ⟨by decide, by decide⟩ ⟨by decide, by decide⟩ rfl hl.1 rfl (Nat.le_of_ble_eq_true rfl) dX0_enter_4 (fun H locs I => ?_)
  refine lv_istore (lv' := [(4, .int (nI (hsN R lv x % us))), (0, .ref (gA g 2)), (1, .ref (gA g 1)), (2, .int (nI (lv))), (3, .int (nI (x)))]) hx hb dX0_enter_7 hl (by decide) rfl (fun ls hl => ?_)
  refine lv_iconst (v := nI (0)) hx hb dX0_enter_9 (by decide) ?_
  refine lv_istore (lv' := [(5, .int (nI (0))), (4, .int (nI (hsN R lv x % us))), (0, .ref (gA g 2)), (1, .ref (gA g 1)), (2, .int (nI (lv))), (3, .int (nI (x)))]) hx hb dX0_enter_10 hl (by decide) rfl (fun ls hl => ?_)
  have hl : lv_has ls 6 [(5, .int (nI (0))), (4, .int (nI ((hsN R lv x + 0) % us))), (0, .ref (gA g 2)), (1, .ref (gA g 1)), (2, .int (nI (lv))), (3, .int (nI (x)))] := hl
  have loop : ∀ (n i : Nat), i ≤ us → us + 1 ≤ i + n → (∀ t', t' < i → ∃ k, k < ct ∧ se ((hsN R lv x + t') % us) = nI (q k + 1) ∧ ¬ Ew R lv (q k) x) → ∀ (H : Heap) (locs : List Loc) (ls : Array Slot), Iv g (R, (wt, se, nI (fi), nI (le), nI (us)), M, O) s H locs → lv_has ls 6 [(0, .ref (gA g 2)), (1, .ref (gA g 1)), (2, .int (nI (lv))), (3, .int (nI (x))), (4, .int (nI ((hsN R lv x + i) % us))), (5, .int (nI (i)))] → W p l e (rmN 2 56) s m [.ref (gA g 2), .ref (gA g 1), .int (nI (lv)), .int (nI (x))].toArray below meth c H locs 0 0 (MQ below (Qs g (fun v' u' => v' = none ∧ (((∃ k, k < ct ∧ Ew R lv (q k) x) ∧ u' = (R, (wt, se, nI (fi), nI (le), nI (us)), M, O)) ∨ ((∀ k, k < ct → ¬ Ew R lv (q k) x) ∧ ∃ (wt' se' : Nat → Int32), u' = (R, (wt', se', nI (fi), nI (le + 1), nI (us)), M, O) ∧ RI R lv us se' (ct + 1) (va_up q ct x) ∧ Rg wt' fi (le + 1) (va_up it le x))))) [.ref (gA g 2), .ref (gA g 1), .int (nI (lv)), .int (nI (x))].toArray s 0 0 (gW g)) (F0 m 12 ls []) := by
    intro n
    induction n with
    | zero => intro i h1 h2; exact absurd h2 (by omega)
    | succ n ih_loop =>
      intro i hi hn hz H locs ls I hl
      have hsl : (hsN R lv x + i) % us < us := Nat.mod_lt _ hus
      refine lv_iload hx hb dX0_enter_12 (lv_at hl 5 rfl) ?_
      refine lv_aload_n hx hb dX0_enter_14 rfl (lv_at hl 0 rfl) ?_
      refine x_get 2 0 4 (C := RX0) (T := TX0) (N := 5) (v := .int (nI (us))) E F I inw_X0_enter_X0 (by decide) rfl rfl (by decide) wm_X0_enter_f25 rfl dX0_enter_15 ?_
      refine n_cge (tgt := 109) hx hb (by omega) (by omega) dX0_enter_18 (by decide) (fun h1 => ?_) (fun h1 => ?_)
      · exact absurd (hcap (RI_none hlv hR (Or.inr (Nat.le_refl us)) (fun t' h' => hz t' (by omega)))).1 (Nat.not_lt.mpr (RI_full hlv hus hR (fun t' h' => hz t' (by omega))))
      · refine lv_aload_n hx hb dX0_enter_21 rfl (lv_at hl 0 rfl) ?_
        refine x_get 2 0 3 (C := RX0) (T := TX0) (N := 5) (v := .ref (gA g 4)) E F I inw_X0_enter_X0 (by decide) rfl rfl (by decide) wm_X0_enter_f15 rfl dX0_enter_22 ?_
        refine lv_iload hx hb dX0_enter_25 (lv_at hl 4 rfl) ?_
        refine x_iaload 4 (i := (hsN R lv x + i) % us) hx hb F I (by decide) rfl (by decide) (by omega) dX0_enter_27 ?_
        refine lv_if_ne (tgt := 71) hx hb dX0_enter_28 (by decide) (fun h2 => ?_) (fun h2 => ?_)
        · obtain ⟨k, hk9, e9⟩ : ∃ k, k < ct ∧ se ((hsN R lv x + i) % us) = nI (q k + 1) := (hR.1 _ hsl).resolve_left h2
          refine lv_aload_n hx hb dX0_enter_71 rfl (lv_at hl 1 rfl) ?_
          refine lv_iload_n hx hb dX0_enter_72 rfl (lv_at hl 2 rfl) ?_
          refine lv_aload_n hx hb dX0_enter_73 rfl (lv_at hl 0 rfl) ?_
          refine x_get 2 0 3 (C := RX0) (T := TX0) (N := 5) (v := .ref (gA g 4)) E F I inw_X0_enter_X0 (by decide) rfl rfl (by decide) wm_X0_enter_f15 rfl dX0_enter_74 ?_
          refine lv_iload hx hb dX0_enter_77 (lv_at hl 4 rfl) ?_
          refine x_iaload 4 (i := (hsN R lv x + i) % us) hx hb F I (by decide) rfl (by decide) (by omega) dX0_enter_79 ?_
          refine W.eq (g2 := F0 m 80 ls [.int (nI (q k + 1)), .int (nI (lv)), .ref (gA g 1)]) (by rw [← e9]) ?_
          refine lv_iconst (v := nI (1)) hx hb dX0_enter_80 (by decide) ?_
          refine n_isub hx hb (by omega) dX0_enter_81 ?_
          refine W.eq (g2 := F0 m 82 ls [.int (nI (q k)), .int (nI (lv)), .ref (gA g 1)]) rfl ?_
          refine lv_iload_n hx hb dX0_enter_82 rfl (lv_at hl 3 rfl) ?_
          refine x_callSi (rest := []) E F I (r_samePart l g R (wt, se, nI (fi), nI (le), nI (us)) M O (lv := lv) (x := q k) (y := x) (by omega) (part_lt hlv (hR.2.2.2.1 k hk9)) (part_lt hlv hxb)) gX0_enter_X0_samePart rfl hd_X0_samePart rfl rfl ⟨by decide, by decide⟩ ⟨by decide, by decide⟩ rfl hl.1 rfl (Nat.le_of_ble_eq_true rfl) dX0_enter_83 (fun H locs I => ?_)
          refine n_zeq (tgt := 90) hx hb dX0_enter_86 (by decide) (fun h3 => ?_) (fun h3 => ?_)
          · refine lv_iload hx hb dX0_enter_90 (lv_at hl 4 rfl) ?_
            refine lv_iconst (v := nI (1)) hx hb dX0_enter_92 (by decide) ?_
            refine n_iadd hx hb dX0_enter_93 ?_
            refine lv_aload_n hx hb dX0_enter_94 rfl (lv_at hl 0 rfl) ?_
            refine x_get 2 0 4 (C := RX0) (T := TX0) (N := 5) (v := .int (nI (us))) E F I inw_X0_enter_X0 (by decide) rfl rfl (by decide) wm_X0_enter_f25 rfl dX0_enter_95 ?_
            refine lv_iconst (v := nI (1)) hx hb dX0_enter_98 (by decide) ?_
            refine n_isub hx hb (by omega) dX0_enter_99 ?_
            refine n_iand hx hb dX0_enter_100 ?_
            refine lv_istore (lv' := [(4, .int (nI ((((hsN R lv x + i) % us) + (1)) &&& ((us) - (1))))), (0, .ref (gA g 2)), (1, .ref (gA g 1)), (2, .int (nI (lv))), (3, .int (nI (x))), (5, .int (nI (i)))]) hx hb dX0_enter_101 hl (by decide) rfl (fun ls hl => ?_)
            refine n_iinc (d := 1) (lv' := [(5, .int (nI (i + 1))), (4, .int (nI ((((hsN R lv x + i) % us) + (1)) &&& ((us) - (1))))), (0, .ref (gA g 2)), (1, .ref (gA g 1)), (2, .int (nI (lv))), (3, .int (nI (x)))]) hx hb dX0_enter_103 rfl hl (j := 5) rfl (by decide) rfl (fun ls hl => ?_)
            have hl : lv_has ls 6 [(5, .int (nI (i + 1))), (4, .int (nI ((hsN R lv x + (i + 1)) % us))), (0, .ref (gA g 2)), (1, .ref (gA g 1)), (2, .int (nI (lv))), (3, .int (nI (x)))] := by
              rw [← seat_next hu]
              exact hl
            refine lv_goto (tgt := 12) hx hb dX0_enter_106 (by decide) ?_
            exact ih_loop (i + 1) (by omega) (by omega) (fun t' h' => by rcases Nat.lt_or_ge t' i with z | z; exact hz t' z; rw [show t' = i by omega]; exact ⟨k, hk9, e9, fun z => Bool.false_ne_true (h3.symm.trans (pB_t z))⟩) _ _ ls (I) (lv_sub hl [2, 3, 4, 5, 1, 0] rfl)
          · exact x_vret hx hb hr hk F I ⟨rfl, Or.inl ⟨⟨k, hk9, pB_iff.mp h3⟩, rfl⟩⟩ dX0_enter_89
        · have hno := RI_none hlv hR (Or.inl h2) hz
          obtain ⟨hcu, hle4⟩ := hcap hno
          refine lv_aload_n hx hb dX0_enter_31 rfl (lv_at hl 0 rfl) ?_
          refine x_get 2 0 3 (C := RX0) (T := TX0) (N := 5) (v := .ref (gA g 4)) E F I inw_X0_enter_X0 (by decide) rfl rfl (by decide) wm_X0_enter_f15 rfl dX0_enter_32 ?_
          refine lv_iload hx hb dX0_enter_35 (lv_at hl 4 rfl) ?_
          refine lv_iload_n hx hb dX0_enter_37 rfl (lv_at hl 3 rfl) ?_
          refine lv_iconst (v := nI (1)) hx hb dX0_enter_38 (by decide) ?_
          refine n_iadd hx hb dX0_enter_39 ?_
          refine x_iastore 4 (u' := (R, (wt, upd se ((hsN R lv x + i) % us) (nI ((x) + (1))), nI (fi), nI (le), nI (us)), M, O)) (i := (hsN R lv x + i) % us) hx hb F I (by decide) rfl rfl ec_o4 (by decide) (by omega) dX0_enter_40 (fun H locs I => ?_)
          refine lv_aload_n hx hb dX0_enter_41 rfl (lv_at hl 0 rfl) ?_
          refine x_get 2 0 0 (C := RX0) (T := TX0) (N := 5) (v := .ref (gA g 3)) E F I inw_X0_enter_X0 (by decide) rfl rfl (by decide) wm_X0_enter_f11 rfl dX0_enter_42 ?_
          refine lv_aload_n hx hb dX0_enter_45 rfl (lv_at hl 0 rfl) ?_
          refine x_get 2 0 1 (C := RX0) (T := TX0) (N := 5) (v := .int (nI (fi))) E F I inw_X0_enter_X0 (by decide) rfl rfl (by decide) wm_X0_enter_f18 rfl dX0_enter_46 ?_
          refine lv_aload_n hx hb dX0_enter_49 rfl (lv_at hl 0 rfl) ?_
          refine x_get 2 0 2 (C := RX0) (T := TX0) (N := 5) (v := .int (nI (le))) E F I inw_X0_enter_X0 (by decide) rfl rfl (by decide) wm_X0_enter_f22 rfl dX0_enter_50 ?_
          refine n_iadd hx hb dX0_enter_53 ?_
          refine lv_sipush (v := nI (4095)) hx hb dX0_enter_54 (by decide) ?_
          refine n_iand hx hb dX0_enter_57 ?_
          rw [and4095]
          refine W.eq (g2 := F0 m 58 ls [.int (nI ((fi + le) % 4096)), .ref (gA g 3)]) rfl ?_
          refine lv_iload_n hx hb dX0_enter_58 rfl (lv_at hl 3 rfl) ?_
          refine x_iastore 3 (u' := (R, (upd wt ((fi + le) % 4096) (nI (x)), upd se ((hsN R lv x + i) % us) (nI ((x) + (1))), nI (fi), nI (le), nI (us)), M, O)) (i := (fi + le) % 4096) hx hb F I (by decide) rfl rfl ec_o3 (by decide) (by omega) dX0_enter_59 (fun H locs I => ?_)
          refine lv_aload_n hx hb dX0_enter_60 rfl (lv_at hl 0 rfl) ?_
          refine lv_dup hx hb dX0_enter_61 rfl ?_
          refine x_get 2 0 2 (C := RX0) (T := TX0) (N := 5) (v := .int (nI (le))) E F I inw_X0_enter_X0 (by decide) rfl rfl (by decide) wm_X0_enter_f22 rfl dX0_enter_62 ?_
          refine lv_iconst (v := nI (1)) hx hb dX0_enter_65 (by decide) ?_
          refine n_iadd hx hb dX0_enter_66 ?_
          refine x_put 2 0 2 (u' := (R, (upd wt ((fi + le) % 4096) (nI (x)), upd se ((hsN R lv x + i) % us) (nI ((x) + (1))), nI (fi), nI ((le) + (1)), nI (us)), M, O)) (C := RX0) (T := TX0) (N := 5) tyX0 tyX0_ok nmX0 E F I inw_X0_enter_X0 (by decide) rfl rfl ec_o2 rfl (by decide) wm_X0_enter_f22 rfl (by decide +kernel) (Nat.le_of_ble_eq_true rfl) dX0_enter_67 (fun H locs I => ?_)
          exact x_vret hx hb hr hk F I ⟨rfl, Or.inr ⟨hno, _, _, rfl, RI_new hlv hus hR hno hxb (by omega) (by assumption) (fun t' h' => by obtain ⟨k, a1, a2, -⟩ := hz t' h'; rw [a2]; exact nI_q0 (p48 hlv (hR.2.2.2.1 k a1))), Rg_add hG hle4⟩⟩ dX0_enter_70
  exact loop (us + 1 - 0) (0) (by omega) (by omega) (fun t' h' => absurd h' (Nat.not_lt_zero t')) _ _ ls (I) (lv_sub hl [2, 3, 4, 5, 1, 0] rfl)
theorem hd_X0_enter : yX0_enter.cls ≠ "java/lang/invoke/MethodHandle" ∧ yX0_enter.cls ≠ "java/lang/invoke/VarHandle" ∧ (parseMethodDescriptor yX0_enter.desc).map (fun d => d.parameters.length) = some 3 := by decide +kernel
