set_option maxHeartbeats 4000000 in
set_option maxRecDepth 100000 in
theorem m_in (l : Launch) (g : Geo) (R : Nat → Nat → Int64) (B : Rul) (M : Mod) (O : Nat → Int64) (x : Int32) {N : Nat} (hN : N < 2 ^ 31) : Cd l g yX2_in wsX2_in (rmN 0 0) [.int (x), .int (nI (N))] (R, B, M, O) (some (.int (bI (okB N x)))) (R, B, M, O) := by
  refine Cs.ofW RX2 rfl (by decide) rfl (Nat.le_of_ble_eq_true rfl) ?_
  intro p e s m below meth c E hr hk F I ls hl
  have hx := E.1
  have hb := E.2.1
  have hl : lv_has ls 2 [(0, .int (x)), (1, .int (nI (N)))] := hl
  refine lv_iload_n hx hb dX2_in_0 rfl (lv_at hl 0 rfl) ?_
  refine lv_if_lt (tgt := 13) hx hb dX2_in_1 (by decide) (fun h1 => ?_) (fun h1 => ?_)
  · refine lv_iconst (v := nI (0)) hx hb dX2_in_13 (by decide) ?_
    exact x_zret hx hb hr hk F I (by decide +kernel) ⟨by rw [okB, pB_f (okI_neg hN h1)]; rfl, rfl⟩ dX2_in_14
  · refine lv_iload_n hx hb dX2_in_4 rfl (lv_at hl 0 rfl) ?_
    refine lv_iload_n hx hb dX2_in_5 rfl (lv_at hl 1 rfl) ?_
    refine lv_icmp_ge (tgt := 13) hx hb dX2_in_6 (by decide) (fun h2 => ?_) (fun h2 => ?_)
    · refine lv_iconst (v := nI (0)) hx hb dX2_in_13 (by decide) ?_
      exact x_zret hx hb hr hk F I (by decide +kernel) ⟨by rw [okB, pB_f (fun ⟨j, hj, q⟩ => nI_ge hj hN (q ▸ h2))]; rfl, rfl⟩ dX2_in_14
    · refine lv_iconst (v := nI (1)) hx hb dX2_in_9 (by decide) ?_
      refine lv_goto (tgt := 14) hx hb dX2_in_10 (by decide) ?_
      exact x_zret hx hb hr hk F I (by decide +kernel) ⟨by rw [okB, pB_t (okI_of hN h1 h2)]; rfl, rfl⟩ dX2_in_14
theorem hd_X2_in : yX2_in.cls ≠ "java/lang/invoke/MethodHandle" ∧ yX2_in.cls ≠ "java/lang/invoke/VarHandle" ∧ (parseMethodDescriptor yX2_in.desc).map (fun d => d.parameters.length) = some 2 := by decide +kernel
theorem wm_X2_fails_f21 : Cond.fieldLink RX2 21 "FunctionDeskModel" "code" "I" ∈ wsX2_fails := by decide +kernel
theorem inw_X2_fails_X2 : ∀ w ∈ wsX20, w ∈ wsX2_fails := by decide +kernel
set_option maxHeartbeats 4000000 in
set_option maxRecDepth 100000 in
theorem m_fails (l : Launch) (g : Geo) (R : Nat → Nat → Int64) (B : Rul) (cd : Int32) (T P : Nat → Bool) (fo : Nat → Int32) (O : Nat → Int64) (sl nu : Bool) : Cd l g yX2_fails wsX2_fails (rmN 0 0) [.ref (gA g 5), .int (bI (sl)), .int (bI (nu))] (R, B, (cd, bF T, bF P, fo), O) (some (.int (bI (!(sl && nu))))) (R, B, (fcd sl nu, bF T, bF P, fo), O) := by
  refine Cs.ofW RX2 rfl (by decide) rfl (Nat.le_of_ble_eq_true rfl) ?_
  intro p e s m below meth c E hr hk F I ls hl
  have hx := E.1
  have hb := E.2.1
  have hl : lv_has ls 3 [(0, .ref (gA g 5)), (1, .int (bI (sl))), (2, .int (bI (nu)))] := hl
  refine lv_aload_n hx hb dX2_fails_0 rfl (lv_at hl 0 rfl) ?_
  refine lv_iload_n hx hb dX2_fails_1 rfl (lv_at hl 1 rfl) ?_
  refine n_zne (tgt := 9) hx hb dX2_fails_2 (by decide) (fun h1 => ?_) (fun h1 => ?_)
  · refine lv_iload_n hx hb dX2_fails_9 rfl (lv_at hl 2 rfl) ?_
    refine n_zne (tgt := 17) hx hb dX2_fails_10 (by decide) (fun h2 => ?_) (fun h2 => ?_)
    · refine lv_iconst (v := nI (0)) hx hb dX2_fails_17 (by decide) ?_
      refine x_put 5 2 0 (u' := (R, B, (nI (0), bF T, bF P, fo), O)) (C := RX2) (T := TX2) (N := 4) tyX2 tyX2_ok nmX2 E F I inw_X2_fails_X2 (by decide) rfl rfl ec_o5 rfl (by decide) wm_X2_fails_f21 rfl (by decide +kernel) (Nat.le_of_ble_eq_true rfl) dX2_fails_18 (fun H locs I => ?_)
      refine lv_aload_n hx hb dX2_fails_21 rfl (lv_at hl 0 rfl) ?_
      refine x_get 5 2 0 (C := RX2) (T := TX2) (N := 4) (v := .int (nI (0))) E F I inw_X2_fails_X2 (by decide) rfl rfl (by decide) wm_X2_fails_f21 rfl dX2_fails_22 ?_
      refine n_ifle (tgt := 32) hx hb (by decide) dX2_fails_25 (by decide) (fun _ => ?_) (fun q => absurd q (by decide))
      refine lv_iconst (v := nI (0)) hx hb dX2_fails_32 (by decide) ?_
      exact x_zret hx hb hr hk F I (by decide +kernel) ⟨by rw [h1, h2]; rfl, by rw [h1, h2]; rfl⟩ dX2_fails_33
    · refine lv_iconst (v := nI (2)) hx hb dX2_fails_13 (by decide) ?_
      refine lv_goto (tgt := 18) hx hb dX2_fails_14 (by decide) ?_
      refine x_put 5 2 0 (u' := (R, B, (nI (2), bF T, bF P, fo), O)) (C := RX2) (T := TX2) (N := 4) tyX2 tyX2_ok nmX2 E F I inw_X2_fails_X2 (by decide) rfl rfl ec_o5 rfl (by decide) wm_X2_fails_f21 rfl (by decide +kernel) (Nat.le_of_ble_eq_true rfl) dX2_fails_18 (fun H locs I => ?_)
      refine lv_aload_n hx hb dX2_fails_21 rfl (lv_at hl 0 rfl) ?_
      refine x_get 5 2 0 (C := RX2) (T := TX2) (N := 4) (v := .int (nI (2))) E F I inw_X2_fails_X2 (by decide) rfl rfl (by decide) wm_X2_fails_f21 rfl dX2_fails_22 ?_
      refine n_ifle (tgt := 32) hx hb (by decide) dX2_fails_25 (by decide) (fun q => absurd q (by decide)) (fun _ => ?_)
      refine lv_iconst (v := nI (1)) hx hb dX2_fails_28 (by decide) ?_
      refine lv_goto (tgt := 33) hx hb dX2_fails_29 (by decide) ?_
      exact x_zret hx hb hr hk F I (by decide +kernel) ⟨by rw [h1, h2]; rfl, by rw [h1, h2]; rfl⟩ dX2_fails_33
  · refine lv_iconst (v := nI (1)) hx hb dX2_fails_5 (by decide) ?_
    refine lv_goto (tgt := 18) hx hb dX2_fails_6 (by decide) ?_
    refine x_put 5 2 0 (u' := (R, B, (nI (1), bF T, bF P, fo), O)) (C := RX2) (T := TX2) (N := 4) tyX2 tyX2_ok nmX2 E F I inw_X2_fails_X2 (by decide) rfl rfl ec_o5 rfl (by decide) wm_X2_fails_f21 rfl (by decide +kernel) (Nat.le_of_ble_eq_true rfl) dX2_fails_18 (fun H locs I => ?_)
    refine lv_aload_n hx hb dX2_fails_21 rfl (lv_at hl 0 rfl) ?_
    refine x_get 5 2 0 (C := RX2) (T := TX2) (N := 4) (v := .int (nI (1))) E F I inw_X2_fails_X2 (by decide) rfl rfl (by decide) wm_X2_fails_f21 rfl dX2_fails_22 ?_
    refine n_ifle (tgt := 32) hx hb (by decide) dX2_fails_25 (by decide) (fun q => absurd q (by decide)) (fun _ => ?_)
    refine lv_iconst (v := nI (1)) hx hb dX2_fails_28 (by decide) ?_
    refine lv_goto (tgt := 33) hx hb dX2_fails_29 (by decide) ?_
    exact x_zret hx hb hr hk F I (by decide +kernel) ⟨by rw [h1]; rfl, by rw [h1]; rfl⟩ dX2_fails_33
theorem hd_X2_fails : yX2_fails.cls ≠ "java/lang/invoke/MethodHandle" ∧ yX2_fails.cls ≠ "java/lang/invoke/VarHandle" ∧ (parseMethodDescriptor yX2_fails.desc).map (fun d => d.parameters.length) = some 2 := by decide +kernel
theorem wm_X2_of_f8 : Cond.fieldLink RX2 8 "FunctionDeskModel" "table" "[Z" ∈ wsX2_of := by decide +kernel
theorem inw_X2_of_X2 : ∀ w ∈ wsX20, w ∈ wsX2_of := by decide +kernel
set_option maxHeartbeats 4000000 in
set_option maxRecDepth 100000 in
theorem m_of (l : Launch) (g : Geo) (R : Nat → Nat → Int64) (B : Rul) (cd : Int32) (T P : Nat → Bool) (fo : Nat → Int32) (O : Nat → Int64) {a k : Nat} (ha : a < 48) (hp : k < 1024) : Cd l g yX2_of wsX2_of (rmN 0 0) [.ref (gA g 5), .int (nI (a)), .int (nI (k))] (R, B, (cd, bF T, bF P, fo), O) (some (.int (bI (T (1024 * a + k))))) (R, B, (cd, bF T, bF P, fo), O) := by
  refine Cs.ofW RX2 rfl (by decide) rfl (Nat.le_of_ble_eq_true rfl) ?_
  intro p e s m below meth c E hr hk F I ls hl
  have hx := E.1
  have hb := E.2.1
  have hl : lv_has ls 3 [(0, .ref (gA g 5)), (1, .int (nI (a))), (2, .int (nI (k)))] := hl
  refine lv_aload_n hx hb dX2_of_0 rfl (lv_at hl 0 rfl) ?_
  refine x_get 5 2 1 (C := RX2) (T := TX2) (N := 4) (v := .ref (gA g 6)) E F I inw_X2_of_X2 (by decide) rfl rfl (by decide) wm_X2_of_f8 rfl dX2_of_1 ?_
  refine lv_sipush (v := nI (1024)) hx hb dX2_of_4 (by decide) ?_
  refine lv_iload_n hx hb dX2_of_7 rfl (lv_at hl 1 rfl) ?_
  refine n_imul hx hb dX2_of_8 ?_
  refine lv_iload_n hx hb dX2_of_9 rfl (lv_at hl 2 rfl) ?_
  refine n_iadd hx hb dX2_of_10 ?_
  refine x_zaload 6 (i := ((1024) * (a)) + (k)) hx hb F I (by decide) rfl (by decide) (by omega) dX2_of_11 ?_
  exact x_zret hx hb hr hk F I (bI_narrow _) ⟨rfl, rfl⟩ dX2_of_12
theorem hd_X2_of : yX2_of.cls ≠ "java/lang/invoke/MethodHandle" ∧ yX2_of.cls ≠ "java/lang/invoke/VarHandle" ∧ (parseMethodDescriptor yX2_of.desc).map (fun d => d.parameters.length) = some 2 := by decide +kernel
set_option maxHeartbeats 4000000 in
set_option maxRecDepth 100000 in
theorem m_bit (l : Launch) (g : Geo) (R : Nat → Nat → Int64) (B : Rul) (M : Mod) (O : Nat → Int64) {v : Nat} (hv : v < 10) : Cd l g yX2_bit wsX2_bit (rmN 0 0) [.int (nI (v))] (R, B, M, O) (some (.int (nI (bitN v)))) (R, B, M, O) := by
  refine Cs.ofW RX2 rfl (by decide) rfl (Nat.le_of_ble_eq_true rfl) ?_
  intro p e s m below meth c E hr hk F I ls hl
  have hx := E.1
  have hb := E.2.1
  have hl : lv_has ls 1 [(0, .int (nI (v)))] := hl
  refine lv_iconst (v := nI (1)) hx hb dX2_bit_0 (by decide) ?_
  refine lv_bipush (v := nI (9)) hx hb dX2_bit_1 (by decide) ?_
  refine lv_iload_n hx hb dX2_bit_3 rfl (lv_at hl 0 rfl) ?_
  refine n_isub hx hb (by omega) dX2_bit_4 ?_
  refine n_ishl hx hb (by omega) dX2_bit_5 ?_
  exact x_iret hx hb hr hk F I ⟨rfl, rfl⟩ dX2_bit_6
theorem hd_X2_bit : yX2_bit.cls ≠ "java/lang/invoke/MethodHandle" ∧ yX2_bit.cls ≠ "java/lang/invoke/VarHandle" ∧ (parseMethodDescriptor yX2_bit.desc).map (fun d => d.parameters.length) = some 1 := by decide +kernel
set_option maxHeartbeats 4000000 in
set_option maxRecDepth 100000 in
theorem m_with (l : Launch) (g : Geo) (R : Nat → Nat → Int64) (B : Rul) (M : Mod) (O : Nat → Int64) {k v : Nat} (t : Bool) (hv : v < 10) : Cd l g yX2_with wsX2_with (rmN 1 20) [.int (nI (k)), .int (nI (v)), .int (bI (t))] (R, B, M, O) (some (.int (nI (wth k v t)))) (R, B, M, O) := by
  refine Cs.ofW RX2 rfl (by decide) rfl (Nat.le_of_ble_eq_true rfl) ?_
  intro p e s m below meth c E hr hk F I ls hl
  have hx := E.1
  have hb := E.2.1
  have hl : lv_has ls 3 [(0, .int (nI (k))), (1, .int (nI (v))), (2, .int (bI (t)))] := hl
  refine lv_iload_n hx hb dX2_with_0 rfl (lv_at hl 2 rfl) ?_
  refine n_zeq (tgt := 13) hx hb dX2_with_1 (by decide) (fun h1 => ?_) (fun h1 => ?_)
  · refine lv_iload_n hx hb dX2_with_13 rfl (lv_at hl 0 rfl) ?_
    refine lv_iload_n hx hb dX2_with_14 rfl (lv_at hl 1 rfl) ?_
    refine x_callSi (rest := [.int (nI (k))]) E F I (m_bit l g R B M O (v := v) (by omega)) gX2_with_X2_bit rfl hd_X2_bit rfl rfl ⟨by decide, by decide⟩ ⟨by decide, by decide⟩ rfl hl.1 rfl (Nat.le_of_ble_eq_true rfl) dX2_with_15 (fun H locs I => ?_)
    refine lv_iconst (v := nI (4294967295)) hx hb dX2_with_18 (by decide) ?_
    refine n_ixor hx hb dX2_with_19 ?_
    refine n_iand hx hb dX2_with_20 ?_
    exact x_iret hx hb hr hk F I ⟨by simp only [wth, h1, if_true, if_false, Bool.false_eq_true], rfl⟩ dX2_with_21
  · refine lv_iload_n hx hb dX2_with_4 rfl (lv_at hl 0 rfl) ?_
    refine lv_iload_n hx hb dX2_with_5 rfl (lv_at hl 1 rfl) ?_
    refine x_callSi (rest := [.int (nI (k))]) E F I (m_bit l g R B M O (v := v) (by omega)) gX2_with_X2_bit rfl hd_X2_bit rfl rfl ⟨by decide, by decide⟩ ⟨by decide, by decide⟩ rfl hl.1 rfl (Nat.le_of_ble_eq_true rfl) dX2_with_6 (fun H locs I => ?_)
    refine n_ior hx hb dX2_with_9 ?_
    refine lv_goto (tgt := 21) hx hb dX2_with_10 (by decide) ?_
    exact x_iret hx hb hr hk F I ⟨by simp only [wth, h1, if_true, if_false, Bool.false_eq_true], rfl⟩ dX2_with_21
theorem hd_X2_with : yX2_with.cls ≠ "java/lang/invoke/MethodHandle" ∧ yX2_with.cls ≠ "java/lang/invoke/VarHandle" ∧ (parseMethodDescriptor yX2_with.desc).map (fun d => d.parameters.length) = some 3 := by decide +kernel
theorem wm_X2_keep_f8 : Cond.fieldLink RX2 8 "FunctionDeskModel" "table" "[Z" ∈ wsX2_keep := by decide +kernel
theorem inw_X2_keep_X2 : ∀ w ∈ wsX20, w ∈ wsX2_keep := by decide +kernel
theorem wm_X2_keep_f14 : Cond.fieldLink RX2 14 "FunctionDeskModel" "fresh" "[Z" ∈ wsX2_keep := by decide +kernel
set_option maxHeartbeats 4000000 in
set_option maxRecDepth 100000 in
theorem m_keep (l : Launch) (g : Geo) (R : Nat → Nat → Int64) (B : Rul) (cd : Int32) (T P : Nat → Bool) (fo : Nat → Int32) (O : Nat → Int64) {s0 : Nat} (hs : s0 < 48) : Cd l g yX2_keep wsX2_keep (rmN 0 0) [.ref (gA g 5), .int (nI (s0))] (R, B, (cd, bF T, bF P, fo), O) (none) (R, B, (cd, bF (kpT T P s0 1024), bF P, fo), O) := by
  refine Cs.ofW RX2 rfl (by decide) rfl (Nat.le_of_ble_eq_true rfl) ?_
  intro p e s m below meth c E hr hk F I ls hl
  have hx := E.1
  have hb := E.2.1
  have hl : lv_has ls 3 [(0, .ref (gA g 5)), (1, .int (nI (s0)))] := hl
  refine lv_iconst (v := nI (0)) hx hb dX2_keep_0 (by decide) ?_
  refine lv_istore_n (lv' := [(2, .int (nI (0))), (0, .ref (gA g 5)), (1, .int (nI (s0)))]) hx hb dX2_keep_1 rfl hl (by decide) rfl (fun ls hl => ?_)
  have loop : ∀ (n i : Nat), i ≤ 1024 → 1024 + 1 ≤ i + n → ∀ (H : Heap) (locs : List Loc) (ls : Array Slot), Iv g (R, B, (cd, bF (kpT T P s0 (i)), bF P, fo), O) s H locs → lv_has ls 3 [(0, .ref (gA g 5)), (1, .int (nI (s0))), (2, .int (nI (i)))] → W p l e (rmN 0 0) s m [.ref (gA g 5), .int (nI (s0))].toArray below meth c H locs 0 0 (MQ below (Qs g (fun v' u'' => v' = (none) ∧ u'' = (R, B, (cd, bF (kpT T P s0 1024), bF P, fo), O))) [.ref (gA g 5), .int (nI (s0))].toArray s 0 0 (gW g)) (F0 m 2 ls []) := by
    intro n
    induction n with
    | zero => intro i h1 h2; exact absurd h2 (by omega)
    | succ n ih_loop =>
      intro i hi hn H locs ls I hl
      refine lv_iload_n hx hb dX2_keep_2 rfl (lv_at hl 2 rfl) ?_
      refine lv_sipush (v := nI (1024)) hx hb dX2_keep_3 (by decide) ?_
      refine n_cge (tgt := 33) hx hb (by omega) (by omega) dX2_keep_6 (by decide) (fun h1 => ?_) (fun h1 => ?_)
      · obtain rfl : i = 1024 := by omega
        have hl : lv_has ls 3 [(0, .ref (gA g 5)), (1, .int (nI (s0))), (2, .int (nI (1024)))] := hl
        exact x_vret hx hb hr hk F I ⟨rfl, rfl⟩ dX2_keep_33
      · refine lv_aload_n hx hb dX2_keep_9 rfl (lv_at hl 0 rfl) ?_
        refine x_get 5 2 1 (C := RX2) (T := TX2) (N := 4) (v := .ref (gA g 6)) E F I inw_X2_keep_X2 (by decide) rfl rfl (by decide) wm_X2_keep_f8 rfl dX2_keep_10 ?_
        refine lv_sipush (v := nI (1024)) hx hb dX2_keep_13 (by decide) ?_
        refine lv_iload_n hx hb dX2_keep_16 rfl (lv_at hl 1 rfl) ?_
        refine n_imul hx hb dX2_keep_17 ?_
        refine lv_iload_n hx hb dX2_keep_18 rfl (lv_at hl 2 rfl) ?_
        refine n_iadd hx hb dX2_keep_19 ?_
        refine lv_aload_n hx hb dX2_keep_20 rfl (lv_at hl 0 rfl) ?_
        refine x_get 5 2 2 (C := RX2) (T := TX2) (N := 4) (v := .ref (gA g 7)) E F I inw_X2_keep_X2 (by decide) rfl rfl (by decide) wm_X2_keep_f14 rfl dX2_keep_21 ?_
        refine lv_iload_n hx hb dX2_keep_24 rfl (lv_at hl 2 rfl) ?_
        refine x_zaload 7 (i := i) hx hb F I (by decide) rfl (by decide) (by omega) dX2_keep_25 ?_
        refine x_zastore 6 (u' := (R, B, (cd, upd (bF (kpT T P s0 (i))) (((1024) * (s0)) + (i)) (bI (P (i))), bF P, fo), O)) (i := ((1024) * (s0)) + (i)) hx hb F I (by decide) (bI_nar _) rfl rfl ec_o6 (by decide) (by omega) dX2_keep_26 (fun H locs I => ?_)
        refine n_iinc (d := 1) (lv' := [(2, .int (nI (i + 1))), (0, .ref (gA g 5)), (1, .int (nI (s0)))]) hx hb dX2_keep_27 rfl hl (j := 2) rfl (by decide) rfl (fun ls hl => ?_)
        refine lv_goto (tgt := 2) hx hb dX2_keep_30 (by decide) ?_
        exact ih_loop (i + 1) (by omega) (by omega) _ _ ls (by rw [← kpT_s]; exact I) (lv_sub hl [1, 2, 0] rfl)
  exact loop (1024 + 1 - 0) (0) (by omega) (by omega) _ _ ls (by rw [kpT_0]; exact I) (lv_sub hl [1, 2, 0] rfl)
theorem hd_X2_keep : yX2_keep.cls ≠ "java/lang/invoke/MethodHandle" ∧ yX2_keep.cls ≠ "java/lang/invoke/VarHandle" ∧ (parseMethodDescriptor yX2_keep.desc).map (fun d => d.parameters.length) = some 1 := by decide +kernel
