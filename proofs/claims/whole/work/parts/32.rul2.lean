def zfl (se : Nat → Int32) (i : Nat) : Nat → Int32 := fun j => if j < i then 0 else se j
theorem zfl_0 (se : Nat → Int32) : zfl se 0 = se := by
  funext j
  simp [zfl]
theorem zfl_s (se : Nat → Int32) (i : Nat) : upd (zfl se i) i (nI 0) = zfl se (i + 1) := by
  funext j
  by_cases hj : j = i
  · subst hj
    simp [upd, zfl, nI_0]
  · by_cases h2 : j < i
    · simp [upd, zfl, hj, h2, Nat.lt_succ_of_lt h2]
    · simp [upd, zfl, hj, h2, show ¬ j < i + 1 by omega]
theorem and4095 (x : Nat) : x &&& 4095 = x % 4096 := Nat.and_two_pow_sub_one_eq_mod x 12
theorem wm_X0_clearSeats_f25 : Cond.fieldLink RX0 25 "FunctionDesk$Ruler" "seatsUsed" "I" ∈ wsX0_clearSeats := by decide +kernel
theorem inw_X0_clearSeats_X0 : ∀ w ∈ wsX00, w ∈ wsX0_clearSeats := by decide +kernel
theorem wm_X0_clearSeats_f15 : Cond.fieldLink RX0 15 "FunctionDesk$Ruler" "seats" "[I" ∈ wsX0_clearSeats := by decide +kernel
set_option maxHeartbeats 4000000 in
set_option maxRecDepth 100000 in
theorem r_clearSeats (l : Launch) (g : Geo) (R : Nat → Nat → Int64) (wt se : Nat → Int32) (fi le us : Int32) (M : Mod) (O : Nat → Int64) {pt : Nat} (hpt : pt ≤ 100000) : Cs l g yX0_clearSeats wsX0_clearSeats (rmN 0 0) [.ref (gA g 2), .int (nI (pt))] (R, (wt, se, fi, le, us), M, O) (fun v' u' => v' = none ∧ ∃ (ex : Nat) (se' : Nat → Int32), ex ≤ 12 ∧ (2 * pt ≤ 2 ^ ex ∨ 2 ^ ex = 4096) ∧ (∀ q, q < 2 ^ ex → se' q = 0) ∧ u' = (R, (wt, se', fi, le, nI (2 ^ ex)), M, O)) := by
  refine Cs.ofW RX0 rfl (by decide) rfl (Nat.le_of_ble_eq_true rfl) ?_
  intro p e s m below meth c E hr hk F I ls hl
  have hx := E.1
  have hb := E.2.1
  have hl : lv_has ls 3 [(0, .ref (gA g 2)), (1, .int (nI (pt)))] := hl
  refine lv_aload_n hx hb dX0_clearSeats_0 rfl (lv_at hl 0 rfl) ?_
  refine lv_iconst (v := nI (1)) hx hb dX0_clearSeats_1 (by decide) ?_
  refine x_put 2 0 4 (u' := (R, (wt, se, fi, le, nI (1)), M, O)) (C := RX0) (T := TX0) (N := 5) tyX0 tyX0_ok nmX0 E F I inw_X0_clearSeats_X0 (by decide) rfl rfl ec_o2 rfl (by decide) wm_X0_clearSeats_f25 rfl (by decide +kernel) (Nat.le_of_ble_eq_true rfl) dX0_clearSeats_2 (fun H locs I => ?_)
  have loop : ∀ (n i : Nat), i ≤ 12 → 12 + 1 ≤ i + n → ∀ (H : Heap) (locs : List Loc) (ls : Array Slot), Iv g (R, (wt, se, fi, le, nI (2 ^ (i))), M, O) s H locs → lv_has ls 3 [(0, .ref (gA g 2)), (1, .int (nI (pt)))] → W p l e (rmN 0 0) s m [.ref (gA g 2), .int (nI (pt))].toArray below meth c H locs 0 0 (MQ below (Qs g (fun v' u' => v' = none ∧ ∃ (ex : Nat) (se' : Nat → Int32), ex ≤ 12 ∧ (2 * pt ≤ 2 ^ ex ∨ 2 ^ ex = 4096) ∧ (∀ q, q < 2 ^ ex → se' q = 0) ∧ u' = (R, (wt, se', fi, le, nI (2 ^ ex)), M, O))) [.ref (gA g 2), .int (nI (pt))].toArray s 0 0 (gW g)) (F0 m 5 ls []) := by
    intro n
    induction n with
    | zero => intro i h1 h2; exact absurd h2 (by omega)
    | succ n ih_loop =>
      intro i hi hn H locs ls I hl
      have hpw := pw2_le hi
      refine lv_aload_n hx hb dX0_clearSeats_5 rfl (lv_at hl 0 rfl) ?_
      refine x_get 2 0 4 (C := RX0) (T := TX0) (N := 5) (v := .int (nI (2 ^ (i)))) E F I inw_X0_clearSeats_X0 (by decide) rfl rfl (by decide) wm_X0_clearSeats_f25 rfl dX0_clearSeats_6 ?_
      refine lv_iconst (v := nI (2)) hx hb dX0_clearSeats_9 (by decide) ?_
      refine lv_iload_n hx hb dX0_clearSeats_10 rfl (lv_at hl 1 rfl) ?_
      refine n_imul hx hb dX0_clearSeats_11 ?_
      refine n_cge (tgt := 38) hx hb (by omega) (by omega) dX0_clearSeats_12 (by decide) (fun h1 => ?_) (fun h1 => ?_)
      · refine lv_iconst (v := nI (0)) hx hb dX0_clearSeats_38 (by decide) ?_
        refine lv_istore_n (lv' := [(2, .int (nI (0))), (0, .ref (gA g 2)), (1, .int (nI (pt)))]) hx hb dX0_clearSeats_39 rfl hl (by decide) rfl (fun ls hl => ?_)
        have loop2 : ∀ (n j : Nat), j ≤ (2 ^ i) → (2 ^ i) + 1 ≤ j + n → ∀ (H : Heap) (locs : List Loc) (ls : Array Slot), Iv g (R, (wt, zfl se (j), fi, le, nI (2 ^ (i))), M, O) s H locs → lv_has ls 3 [(0, .ref (gA g 2)), (1, .int (nI (pt))), (2, .int (nI (j)))] → W p l e (rmN 0 0) s m [.ref (gA g 2), .int (nI (pt))].toArray below meth c H locs 0 0 (MQ below (Qs g (fun v' u' => v' = none ∧ ∃ (ex : Nat) (se' : Nat → Int32), ex ≤ 12 ∧ (2 * pt ≤ 2 ^ ex ∨ 2 ^ ex = 4096) ∧ (∀ q, q < 2 ^ ex → se' q = 0) ∧ u' = (R, (wt, se', fi, le, nI (2 ^ ex)), M, O))) [.ref (gA g 2), .int (nI (pt))].toArray s 0 0 (gW g)) (F0 m 40 ls []) := by
          intro n
          induction n with
          | zero => intro j h1 h2; exact absurd h2 (by omega)
          | succ n ih_loop2 =>
            intro j hij hn H locs ls I hl
            refine lv_iload_n hx hb dX0_clearSeats_40 rfl (lv_at hl 2 rfl) ?_
            refine lv_aload_n hx hb dX0_clearSeats_41 rfl (lv_at hl 0 rfl) ?_
            refine x_get 2 0 4 (C := RX0) (T := TX0) (N := 5) (v := .int (nI (2 ^ (i)))) E F I inw_X0_clearSeats_X0 (by decide) rfl rfl (by decide) wm_X0_clearSeats_f25 rfl dX0_clearSeats_42 ?_
            refine n_cge (tgt := 61) hx hb (by omega) (by omega) dX0_clearSeats_45 (by decide) (fun h2 => ?_) (fun h2 => ?_)
            · exact x_vret hx hb hr hk F I ⟨rfl, i, zfl se j, hi, Or.inl h1, fun q hq => by simp [zfl, show q < j by omega], rfl⟩ dX0_clearSeats_61
            · refine lv_aload_n hx hb dX0_clearSeats_48 rfl (lv_at hl 0 rfl) ?_
              refine x_get 2 0 3 (C := RX0) (T := TX0) (N := 5) (v := .ref (gA g 4)) E F I inw_X0_clearSeats_X0 (by decide) rfl rfl (by decide) wm_X0_clearSeats_f15 rfl dX0_clearSeats_49 ?_
              refine lv_iload_n hx hb dX0_clearSeats_52 rfl (lv_at hl 2 rfl) ?_
              refine lv_iconst (v := nI (0)) hx hb dX0_clearSeats_53 (by decide) ?_
              refine x_iastore 4 (u' := (R, (wt, upd (zfl se (j)) (j) (nI (0)), fi, le, nI (2 ^ (i))), M, O)) (i := j) hx hb F I (by decide) rfl rfl ec_o4 (by decide) (by omega) dX0_clearSeats_54 (fun H locs I => ?_)
              refine n_iinc (d := 1) (lv' := [(2, .int (nI (j + 1))), (0, .ref (gA g 2)), (1, .int (nI (pt)))]) hx hb dX0_clearSeats_55 rfl hl (j := 2) rfl (by decide) rfl (fun ls hl => ?_)
              refine lv_goto (tgt := 40) hx hb dX0_clearSeats_58 (by decide) ?_
              exact ih_loop2 (j + 1) (by omega) (by omega) _ _ ls (by rw [← zfl_s]; exact I) (lv_sub hl [1, 2, 0] rfl)
        exact loop2 ((2 ^ i) + 1 - 0) (0) (by omega) (by omega) _ _ ls (by rw [zfl_0]; exact I) (lv_sub hl [1, 2, 0] rfl)
      · refine lv_aload_n hx hb dX0_clearSeats_15 rfl (lv_at hl 0 rfl) ?_
        refine x_get 2 0 4 (C := RX0) (T := TX0) (N := 5) (v := .int (nI (2 ^ (i)))) E F I inw_X0_clearSeats_X0 (by decide) rfl rfl (by decide) wm_X0_clearSeats_f25 rfl dX0_clearSeats_16 ?_
        refine lv_sipush (v := nI (4096)) hx hb dX0_clearSeats_19 (by decide) ?_
        refine n_cge (tgt := 38) hx hb (by omega) (by omega) dX0_clearSeats_22 (by decide) (fun h3 => ?_) (fun h3 => ?_)
        · refine lv_iconst (v := nI (0)) hx hb dX0_clearSeats_38 (by decide) ?_
          refine lv_istore_n (lv' := [(2, .int (nI (0))), (0, .ref (gA g 2)), (1, .int (nI (pt)))]) hx hb dX0_clearSeats_39 rfl hl (by decide) rfl (fun ls hl => ?_)
          have loop2 : ∀ (n j : Nat), j ≤ (2 ^ i) → (2 ^ i) + 1 ≤ j + n → ∀ (H : Heap) (locs : List Loc) (ls : Array Slot), Iv g (R, (wt, zfl se (j), fi, le, nI (2 ^ (i))), M, O) s H locs → lv_has ls 3 [(0, .ref (gA g 2)), (1, .int (nI (pt))), (2, .int (nI (j)))] → W p l e (rmN 0 0) s m [.ref (gA g 2), .int (nI (pt))].toArray below meth c H locs 0 0 (MQ below (Qs g (fun v' u' => v' = none ∧ ∃ (ex : Nat) (se' : Nat → Int32), ex ≤ 12 ∧ (2 * pt ≤ 2 ^ ex ∨ 2 ^ ex = 4096) ∧ (∀ q, q < 2 ^ ex → se' q = 0) ∧ u' = (R, (wt, se', fi, le, nI (2 ^ ex)), M, O))) [.ref (gA g 2), .int (nI (pt))].toArray s 0 0 (gW g)) (F0 m 40 ls []) := by
            intro n
            induction n with
            | zero => intro j h1 h2; exact absurd h2 (by omega)
            | succ n ih_loop2 =>
              intro j hij hn H locs ls I hl
              refine lv_iload_n hx hb dX0_clearSeats_40 rfl (lv_at hl 2 rfl) ?_
              refine lv_aload_n hx hb dX0_clearSeats_41 rfl (lv_at hl 0 rfl) ?_
              refine x_get 2 0 4 (C := RX0) (T := TX0) (N := 5) (v := .int (nI (2 ^ (i)))) E F I inw_X0_clearSeats_X0 (by decide) rfl rfl (by decide) wm_X0_clearSeats_f25 rfl dX0_clearSeats_42 ?_
              refine n_cge (tgt := 61) hx hb (by omega) (by omega) dX0_clearSeats_45 (by decide) (fun h4 => ?_) (fun h4 => ?_)
              · exact x_vret hx hb hr hk F I ⟨rfl, i, zfl se j, hi, Or.inr (by omega), fun q hq => by simp [zfl, show q < j by omega], rfl⟩ dX0_clearSeats_61
              · refine lv_aload_n hx hb dX0_clearSeats_48 rfl (lv_at hl 0 rfl) ?_
                refine x_get 2 0 3 (C := RX0) (T := TX0) (N := 5) (v := .ref (gA g 4)) E F I inw_X0_clearSeats_X0 (by decide) rfl rfl (by decide) wm_X0_clearSeats_f15 rfl dX0_clearSeats_49 ?_
                refine lv_iload_n hx hb dX0_clearSeats_52 rfl (lv_at hl 2 rfl) ?_
                refine lv_iconst (v := nI (0)) hx hb dX0_clearSeats_53 (by decide) ?_
                refine x_iastore 4 (u' := (R, (wt, upd (zfl se (j)) (j) (nI (0)), fi, le, nI (2 ^ (i))), M, O)) (i := j) hx hb F I (by decide) rfl rfl ec_o4 (by decide) (by omega) dX0_clearSeats_54 (fun H locs I => ?_)
                refine n_iinc (d := 1) (lv' := [(2, .int (nI (j + 1))), (0, .ref (gA g 2)), (1, .int (nI (pt)))]) hx hb dX0_clearSeats_55 rfl hl (j := 2) rfl (by decide) rfl (fun ls hl => ?_)
                refine lv_goto (tgt := 40) hx hb dX0_clearSeats_58 (by decide) ?_
                exact ih_loop2 (j + 1) (by omega) (by omega) _ _ ls (by rw [← zfl_s]; exact I) (lv_sub hl [1, 2, 0] rfl)
          exact loop2 ((2 ^ i) + 1 - 0) (0) (by omega) (by omega) _ _ ls (by rw [zfl_0]; exact I) (lv_sub hl [1, 2, 0] rfl)
        · have hlt : i < 12 := by rcases Nat.lt_or_ge i 12 with q | q; exact q; rw [show i = 12 by omega] at h3; omega
          refine lv_aload_n hx hb dX0_clearSeats_25 rfl (lv_at hl 0 rfl) ?_
          refine lv_dup hx hb dX0_clearSeats_26 rfl ?_
          refine x_get 2 0 4 (C := RX0) (T := TX0) (N := 5) (v := .int (nI (2 ^ (i)))) E F I inw_X0_clearSeats_X0 (by decide) rfl rfl (by decide) wm_X0_clearSeats_f25 rfl dX0_clearSeats_27 ?_
          refine lv_iconst (v := nI (2)) hx hb dX0_clearSeats_30 (by decide) ?_
          refine n_imul hx hb dX0_clearSeats_31 ?_
          refine x_put 2 0 4 (u' := (R, (wt, se, fi, le, nI ((2 ^ (i)) * (2))), M, O)) (C := RX0) (T := TX0) (N := 5) tyX0 tyX0_ok nmX0 E F I inw_X0_clearSeats_X0 (by decide) rfl rfl ec_o2 rfl (by decide) wm_X0_clearSeats_f25 rfl (by decide +kernel) (Nat.le_of_ble_eq_true rfl) dX0_clearSeats_32 (fun H locs I => ?_)
          refine lv_goto (tgt := 5) hx hb dX0_clearSeats_35 (by decide) ?_
          exact ih_loop (i + 1) (by omega) (by omega) _ _ ls (by rw [Nat.pow_succ]; exact I) (lv_sub hl [0, 1] rfl)
  exact loop (12 + 1 - 0) (0) (by omega) (by omega) _ _ ls (I) (lv_sub hl [0, 1] rfl)
theorem hd_X0_clearSeats : yX0_clearSeats.cls ≠ "java/lang/invoke/MethodHandle" ∧ yX0_clearSeats.cls ≠ "java/lang/invoke/VarHandle" ∧ (parseMethodDescriptor yX0_clearSeats.desc).map (fun d => d.parameters.length) = some 1 := by decide +kernel
theorem wm_X0_takeFirst_f11 : Cond.fieldLink RX0 11 "FunctionDesk$Ruler" "waiting" "[I" ∈ wsX0_takeFirst := by decide +kernel
theorem inw_X0_takeFirst_X0 : ∀ w ∈ wsX00, w ∈ wsX0_takeFirst := by decide +kernel
theorem wm_X0_takeFirst_f18 : Cond.fieldLink RX0 18 "FunctionDesk$Ruler" "first" "I" ∈ wsX0_takeFirst := by decide +kernel
theorem wm_X0_takeFirst_f22 : Cond.fieldLink RX0 22 "FunctionDesk$Ruler" "length" "I" ∈ wsX0_takeFirst := by decide +kernel
set_option maxHeartbeats 4000000 in
set_option maxRecDepth 100000 in
theorem r_takeFirst (l : Launch) (g : Geo) (R : Nat → Nat → Int64) (wt se : Nat → Int32) (fi le : Nat) (us : Int32) (M : Mod) (O : Nat → Int64) (hfi : fi < 4096) : Cd l g yX0_takeFirst wsX0_takeFirst (rmN 0 0) [.ref (gA g 2)] (R, (wt, se, nI (fi), nI (le + 1), us), M, O) (some (.int (wt fi))) (R, (wt, se, nI ((fi + 1) % 4096), nI (le), us), M, O) := by
  refine Cs.ofW RX0 rfl (by decide) rfl (Nat.le_of_ble_eq_true rfl) ?_
  intro p e s m below meth c E hr hk F I ls hl
  have hx := E.1
  have hb := E.2.1
  have hl : lv_has ls 2 [(0, .ref (gA g 2))] := hl
  refine lv_aload_n hx hb dX0_takeFirst_0 rfl (lv_at hl 0 rfl) ?_
  refine x_get 2 0 0 (C := RX0) (T := TX0) (N := 5) (v := .ref (gA g 3)) E F I inw_X0_takeFirst_X0 (by decide) rfl rfl (by decide) wm_X0_takeFirst_f11 rfl dX0_takeFirst_1 ?_
  refine lv_aload_n hx hb dX0_takeFirst_4 rfl (lv_at hl 0 rfl) ?_
  refine x_get 2 0 1 (C := RX0) (T := TX0) (N := 5) (v := .int (nI (fi))) E F I inw_X0_takeFirst_X0 (by decide) rfl rfl (by decide) wm_X0_takeFirst_f18 rfl dX0_takeFirst_5 ?_
  refine x_iaload 3 (i := fi) hx hb F I (by decide) rfl (by decide) (by omega) dX0_takeFirst_8 ?_
  refine lv_istore_n (lv' := [(1, .int (wt (fi))), (0, .ref (gA g 2))]) hx hb dX0_takeFirst_9 rfl hl (by decide) rfl (fun ls hl => ?_)
  refine lv_aload_n hx hb dX0_takeFirst_10 rfl (lv_at hl 1 rfl) ?_
  refine lv_aload_n hx hb dX0_takeFirst_11 rfl (lv_at hl 1 rfl) ?_
  refine x_get 2 0 1 (C := RX0) (T := TX0) (N := 5) (v := .int (nI (fi))) E F I inw_X0_takeFirst_X0 (by decide) rfl rfl (by decide) wm_X0_takeFirst_f18 rfl dX0_takeFirst_12 ?_
  refine lv_iconst (v := nI (1)) hx hb dX0_takeFirst_15 (by decide) ?_
  refine n_iadd hx hb dX0_takeFirst_16 ?_
  refine lv_sipush (v := nI (4095)) hx hb dX0_takeFirst_17 (by decide) ?_
  refine n_iand hx hb dX0_takeFirst_20 ?_
  refine x_put 2 0 1 (u' := (R, (wt, se, nI (((fi) + (1)) &&& (4095)), nI (le + 1), us), M, O)) (C := RX0) (T := TX0) (N := 5) tyX0 tyX0_ok nmX0 E F I inw_X0_takeFirst_X0 (by decide) rfl rfl ec_o2 rfl (by decide) wm_X0_takeFirst_f18 rfl (by decide +kernel) (Nat.le_of_ble_eq_true rfl) dX0_takeFirst_21 (fun H locs I => ?_)
  rw [and4095] at I
  refine lv_aload_n hx hb dX0_takeFirst_24 rfl (lv_at hl 1 rfl) ?_
  refine lv_dup hx hb dX0_takeFirst_25 rfl ?_
  refine x_get 2 0 2 (C := RX0) (T := TX0) (N := 5) (v := .int (nI (le + 1))) E F I inw_X0_takeFirst_X0 (by decide) rfl rfl (by decide) wm_X0_takeFirst_f22 rfl dX0_takeFirst_26 ?_
  refine lv_iconst (v := nI (1)) hx hb dX0_takeFirst_29 (by decide) ?_
  refine n_isub hx hb (by omega) dX0_takeFirst_30 ?_
  refine x_put 2 0 2 (u' := (R, (wt, se, nI ((fi + 1) % 4096), nI ((le + 1) - (1)), us), M, O)) (C := RX0) (T := TX0) (N := 5) tyX0 tyX0_ok nmX0 E F I inw_X0_takeFirst_X0 (by decide) rfl rfl ec_o2 rfl (by decide) wm_X0_takeFirst_f22 rfl (by decide +kernel) (Nat.le_of_ble_eq_true rfl) dX0_takeFirst_31 (fun H locs I => ?_)
  refine lv_iload_n hx hb dX0_takeFirst_34 rfl (lv_at hl 0 rfl) ?_
  exact x_iret hx hb hr hk F I ⟨rfl, rfl⟩ dX0_takeFirst_35
theorem hd_X0_takeFirst : yX0_takeFirst.cls ≠ "java/lang/invoke/MethodHandle" ∧ yX0_takeFirst.cls ≠ "java/lang/invoke/VarHandle" ∧ (parseMethodDescriptor yX0_takeFirst.desc).map (fun d => d.parameters.length) = some 0 := by decide +kernel
