theorem wm_X1_copyRow_ac1 : Cond.methodLink RX1 123 arraycopyName ∈ wsX1_copyRow := by decide +kernel
theorem wm_X1_copyRow_ac2 : Cond.native arraycopyName ∈ wsX1_copyRow := by decide +kernel
theorem wm_X1_copyRow_ac3 : Cond.static arraycopyName ∈ wsX1_copyRow := by decide +kernel
theorem wm_X1_copyRow_ac4 : Cond.initialized "java/lang/System" ∈ wsX1_copyRow := by decide +kernel
set_option maxHeartbeats 4000000 in
set_option maxRecDepth 100000 in
theorem c_copyRow (l : Launch) (g : Geo) (R : Nat → Nat → Int64) (B : Rul) (M : Mod) (O : Nat → Int64) {k j : Nat} (hk2 : k < 52) (hj : j < 52) : Cd l g yX1_copyRow wsX1_copyRow (rmN 1 60) [.ref (gA g (k + 10)), .ref (gA g (j + 10))] (R, B, M, O) (none) (va_up R j (va_cpy (R k) (R j) 0 0 16), B, M, O) := by
  refine Cs.ofW RX1 rfl (by decide) rfl (Nat.le_of_ble_eq_true rfl) ?_
  intro p e s m below meth c E hr hk F I ls hl
  have hx := E.1
  have hb := E.2.1
  have hl : lv_has ls 2 [(0, .ref (gA g (k + 10))), (1, .ref (gA g (j + 10)))] := hl
  refine lv_aload_n hx hb dX1_copyRow_0 rfl (lv_at hl 0 rfl) ?_
  refine lv_iconst (v := nI (0)) hx hb dX1_copyRow_1 (by decide) ?_
  refine lv_aload_n hx hb dX1_copyRow_2 rfl (lv_at hl 1 rfl) ?_
  refine lv_iconst (v := nI (0)) hx hb dX1_copyRow_3 (by decide) ?_
  refine lv_bipush (v := nI (16)) hx hb dX1_copyRow_4 (by decide) ?_
  refine x_copy (k := k) (j := j) E F I hl.1 wm_X1_copyRow_ac1 wm_X1_copyRow_ac2 wm_X1_copyRow_ac3 wm_X1_copyRow_ac4 (by omega) (by omega) (by decide) (Nat.le_of_ble_eq_true rfl) dX1_copyRow_6 (fun H locs I => ?_)
  exact x_vret hx hb hr hk F I ⟨rfl, rfl⟩ dX1_copyRow_9
theorem hd_X1_copyRow : yX1_copyRow.cls ≠ "java/lang/invoke/MethodHandle" ∧ yX1_copyRow.cls ≠ "java/lang/invoke/VarHandle" ∧ (parseMethodDescriptor yX1_copyRow.desc).map (fun d => d.parameters.length) = some 2 := by decide +kernel
set_option maxHeartbeats 4000000 in
set_option maxRecDepth 100000 in
theorem c_isFalse (l : Launch) (g : Geo) (R : Nat → Nat → Int64) (B : Rul) (M : Mod) (O : Nat → Int64) {k : Nat} (hk2 : k < 52) : Cd l g yX1_isFalse wsX1_isFalse (rmN 0 0) [.ref (gA g (k + 10))] (R, B, M, O) (some (.int (bI (isF (R k))))) (R, B, M, O) := by
  refine Cs.ofW RX1 rfl (by decide) rfl (Nat.le_of_ble_eq_true rfl) ?_
  intro p e s m below meth c E hr hk F I ls hl
  have hx := E.1
  have hb := E.2.1
  have hl : lv_has ls 2 [(0, .ref (gA g (k + 10)))] := hl
  refine lv_iconst (v := nI (0)) hx hb dX1_isFalse_0 (by decide) ?_
  refine lv_istore_n (lv' := [(1, .int (nI (0))), (0, .ref (gA g (k + 10)))]) hx hb dX1_isFalse_1 rfl hl (by decide) rfl (fun ls hl => ?_)
  have loop : ∀ (n i : Nat), i ≤ 16 → 16 + 1 ≤ i + n → (∀ j, j < i → R k j = 0) → ∀ (H : Heap) (locs : List Loc) (ls : Array Slot), Iv g (R, B, M, O) s H locs → lv_has ls 2 [(0, .ref (gA g (k + 10))), (1, .int (nI (i)))] → W p l e (rmN 0 0) s m [.ref (gA g (k + 10))].toArray below meth c H locs 0 0 (MQ below (Qs g (fun v' u'' => v' = (some (.int (bI (isF (R k))))) ∧ u'' = (R, B, M, O))) [.ref (gA g (k + 10))].toArray s 0 0 (gW g)) (F0 m 2 ls []) := by
    intro n
    induction n with
    | zero => intro i h1 h2; exact absurd h2 (by omega)
    | succ n ih =>
      intro i hi hn hz H locs ls I hl
      refine lv_iload_n hx hb dX1_isFalse_2 rfl (lv_at hl 1 rfl) ?_
      refine lv_bipush (v := nI (16)) hx hb dX1_isFalse_3 (by decide) ?_
      refine n_cge (tgt := 24) hx hb (by omega) (by omega) dX1_isFalse_5 (by decide) (fun h1 => ?_) (fun h1 => ?_)
      · refine lv_iconst (v := nI (1)) hx hb dX1_isFalse_24 (by decide) ?_
        exact x_zret hx hb hr hk F I (by decide +kernel) ⟨by rw [isF, pB_t (fun j hj => hz j (by omega))]; rfl, rfl⟩ dX1_isFalse_25
      · refine lv_aload_n hx hb dX1_isFalse_8 rfl (lv_at hl 0 rfl) ?_
        refine lv_iload_n hx hb dX1_isFalse_9 rfl (lv_at hl 1 rfl) ?_
        refine x_laload (k := k) (i := i) hx hb F I (by omega) (by omega) dX1_isFalse_10 ?_
        refine lv_lconst (v := 0) hx hb dX1_isFalse_11 (by decide) ?_
        refine n_leq (tgt := 18) hx hb dX1_isFalse_12 dX1_isFalse_13 (by decide) (fun h2 => ?_) (fun h2 => ?_)
        · refine n_iinc (d := 1) (lv' := [(1, .int (nI (i + 1))), (0, .ref (gA g (k + 10)))]) hx hb dX1_isFalse_18 rfl hl (j := 1) rfl (by decide) rfl (fun ls hl => ?_)
          refine lv_goto (tgt := 2) hx hb dX1_isFalse_21 (by decide) ?_
          exact ih (i + 1) (by omega) (by omega) (fun j hj => by rcases Nat.lt_or_ge j i with q | q; exact hz j q; rw [show j = i by omega]; assumption) _ _ ls (I) (lv_sub hl [1, 0] rfl)
        · refine lv_iconst (v := nI (0)) hx hb dX1_isFalse_16 (by decide) ?_
          exact x_zret hx hb hr hk F I (by decide +kernel) ⟨by rw [isF, pB_f (fun q => h2 (q i (by omega)))]; rfl, rfl⟩ dX1_isFalse_17
  exact loop (16 + 1 - 0) (0) (by omega) (by omega) (fun j hj => absurd hj (Nat.not_lt_zero j)) _ _ ls (I) (lv_sub hl [1, 0] rfl)
theorem hd_X1_isFalse : yX1_isFalse.cls ≠ "java/lang/invoke/MethodHandle" ∧ yX1_isFalse.cls ≠ "java/lang/invoke/VarHandle" ∧ (parseMethodDescriptor yX1_isFalse.desc).map (fun d => d.parameters.length) = some 1 := by decide +kernel
set_option maxHeartbeats 4000000 in
set_option maxRecDepth 100000 in
theorem c_changesWith (l : Launch) (g : Geo) (R : Nat → Nat → Int64) (B : Rul) (M : Mod) (O : Nat → Int64) {k v : Nat} (hk2 : k < 52) (hv : v < 10) : Cd l g yX1_changesWith wsX1_changesWith (rmN 2 45) [.ref (gA g (k + 10)), .int (nI (v))] (R, B, M, O) (some (.int (bI (chg (R k) v)))) (R, B, M, O) := by
  refine Cs.ofW RX1 rfl (by decide) rfl (Nat.le_of_ble_eq_true rfl) ?_
  intro p e s m below meth c E hr hk F I ls hl
  have hx := E.1
  have hb := E.2.1
  have hl : lv_has ls 3 [(0, .ref (gA g (k + 10))), (1, .int (nI (v)))] := hl
  refine lv_iconst (v := nI (0)) hx hb dX1_changesWith_0 (by decide) ?_
  refine lv_istore_n (lv' := [(2, .int (nI (0))), (0, .ref (gA g (k + 10))), (1, .int (nI (v)))]) hx hb dX1_changesWith_1 rfl hl (by decide) rfl (fun ls hl => ?_)
  have loop : ∀ (n i : Nat), i ≤ 16 → 16 + 1 ≤ i + n → (∀ j, j < i → R k j = twd (R k) j v) → ∀ (H : Heap) (locs : List Loc) (ls : Array Slot), Iv g (R, B, M, O) s H locs → lv_has ls 3 [(0, .ref (gA g (k + 10))), (1, .int (nI (v))), (2, .int (nI (i)))] → W p l e (rmN 2 45) s m [.ref (gA g (k + 10)), .int (nI (v))].toArray below meth c H locs 0 0 (MQ below (Qs g (fun v' u'' => v' = (some (.int (bI (chg (R k) v)))) ∧ u'' = (R, B, M, O))) [.ref (gA g (k + 10)), .int (nI (v))].toArray s 0 0 (gW g)) (F0 m 2 ls []) := by
    intro n
    induction n with
    | zero => intro i h1 h2; exact absurd h2 (by omega)
    | succ n ih =>
      intro i hi hn hz H locs ls I hl
      refine lv_iload_n hx hb dX1_changesWith_2 rfl (lv_at hl 2 rfl) ?_
      refine lv_bipush (v := nI (16)) hx hb dX1_changesWith_3 (by decide) ?_
      refine n_cge (tgt := 29) hx hb (by omega) (by omega) dX1_changesWith_5 (by decide) (fun h1 => ?_) (fun h1 => ?_)
      · refine lv_iconst (v := nI (0)) hx hb dX1_changesWith_29 (by decide) ?_
        exact x_zret hx hb hr hk F I (by decide +kernel) ⟨by rw [chg, pB_f (fun ⟨j, hj, q⟩ => q (hz j (by omega)))]; rfl, rfl⟩ dX1_changesWith_30
      · refine lv_aload_n hx hb dX1_changesWith_8 rfl (lv_at hl 0 rfl) ?_
        refine lv_iload_n hx hb dX1_changesWith_9 rfl (lv_at hl 2 rfl) ?_
        refine x_laload (k := k) (i := i) hx hb F I (by omega) (by omega) dX1_changesWith_10 ?_
        refine lv_aload_n hx hb dX1_changesWith_11 rfl (lv_at hl 0 rfl) ?_
        refine lv_iload_n hx hb dX1_changesWith_12 rfl (lv_at hl 2 rfl) ?_
        refine lv_iload_n hx hb dX1_changesWith_13 rfl (lv_at hl 1 rfl) ?_
        refine x_callSl (rest := [.long (R (k) (i))]) E F I (c_turnedWord l g R B M O (k := k) (i := i) (v := v) (by omega) (by omega) (by omega)) gX1_changesWith_X1_turnedWord rfl hd_X1_turnedWord rfl rfl ⟨by decide, by decide⟩ ⟨by decide, by decide⟩ rfl hl.1 rfl (Nat.le_of_ble_eq_true rfl) dX1_changesWith_14 (fun H locs I => ?_)
        refine n_leq (tgt := 23) hx hb dX1_changesWith_17 dX1_changesWith_18 (by decide) (fun h2 => ?_) (fun h2 => ?_)
        · refine n_iinc (d := 1) (lv' := [(2, .int (nI (i + 1))), (0, .ref (gA g (k + 10))), (1, .int (nI (v)))]) hx hb dX1_changesWith_23 rfl hl (j := 2) rfl (by decide) rfl (fun ls hl => ?_)
          refine lv_goto (tgt := 2) hx hb dX1_changesWith_26 (by decide) ?_
          exact ih (i + 1) (by omega) (by omega) (fun j hj => by rcases Nat.lt_or_ge j i with q | q; exact hz j q; rw [show j = i by omega]; assumption) _ _ ls (I) (lv_sub hl [1, 2, 0] rfl)
        · refine lv_iconst (v := nI (1)) hx hb dX1_changesWith_21 (by decide) ?_
          exact x_zret hx hb hr hk F I (by decide +kernel) ⟨by rw [chg, pB_t ⟨i, by omega, h2⟩]; rfl, rfl⟩ dX1_changesWith_22
  exact loop (16 + 1 - 0) (0) (by omega) (by omega) (fun j hj => absurd hj (Nat.not_lt_zero j)) _ _ ls (I) (lv_sub hl [1, 2, 0] rfl)
theorem hd_X1_changesWith : yX1_changesWith.cls ≠ "java/lang/invoke/MethodHandle" ∧ yX1_changesWith.cls ≠ "java/lang/invoke/VarHandle" ∧ (parseMethodDescriptor yX1_changesWith.desc).map (fun d => d.parameters.length) = some 2 := by decide +kernel
