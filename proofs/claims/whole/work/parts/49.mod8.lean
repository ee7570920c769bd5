theorem lk10 : ∀ v, v < 10 → 2 ^ v * (1024 / 2 ^ v) = 1024 ∧ 2 ≤ 1024 / 2 ^ v ∧ 2 ^ v ≤ 512 ∧ 1024 / 2 ^ v ≤ 1024 := by decide +kernel
theorem at_le {fr to L K m : Nat} (hLK : K * L = 1024) (hft : fr ≤ to) (hm : m ≤ (to + 1 - fr) * K) : 1024 * fr + m * L ≤ 1024 * (to + 1) := by
  have h := Nat.mul_le_mul_right L hm
  rw [Nat.mul_assoc, hLK] at h
  omega
theorem N_le {fr to K : Nat} (hto : to < 48) (hK : K ≤ 512) : (to + 1 - fr) * K ≤ 24576 := Nat.mul_le_mul (show to + 1 - fr ≤ 48 by omega) hK
def sumN (cs : Nat → Nat) : Nat → Nat
  | 0 => 0
  | v + 1 => sumN cs v + cs v
theorem sumN_up {cs : Nat → Nat} {i c : Nat} : sumN (va_up cs i c) (i + 1) = sumN cs i + c := by
  have h : ∀ j, j ≤ i → sumN (va_up cs i c) j = sumN cs j := by
    intro j
    induction j with
    | zero => intro _; rfl
    | succ j ih => intro hj; rw [sumN, sumN, ih (by omega), va_up_ne _ _ (by omega)]
  rw [sumN, h i (Nat.le_refl i), va_up_self]
def allNum (T : Nat → Bool) (fr to m : Nat) (cs : Nat → Nat) : Prop := ∀ v, v < m → isNum T fr to (1024 / 2 ^ v) (2 ^ v) (cs v)
theorem allNum_s {T : Nat → Bool} {fr to m c : Nat} {cs : Nat → Nat} (h : allNum T fr to m cs) (hc : isNum T fr to (1024 / 2 ^ m) (2 ^ m) c) : allNum T fr to (m + 1) (va_up cs m c) := by
  intro v hv
  rcases Nat.lt_or_ge v m with z | z
  · rw [va_up_ne _ _ (by omega)]
    exact h v z
  · rw [show v = m by omega, va_up_self]
    exact hc
theorem wm_X2_isEqual_f8 : Cond.fieldLink RX2 8 "FunctionDeskModel" "table" "[Z" ∈ wsX2_isEqual := by decide +kernel
theorem inw_X2_isEqual_X2 : ∀ w ∈ wsX20, w ∈ wsX2_isEqual := by decide +kernel
set_option maxHeartbeats 4000000 in
set_option maxRecDepth 100000 in
theorem m_isEqual (l : Launch) (g : Geo) (R : Nat → Nat → Int64) (B : Rul) (cd : Int32) (T P : Nat → Bool) (fo : Nat → Int32) (O : Nat → Int64) {i0 j0 len : Nat} (hi0 : i0 + len ≤ 49152) (hj0 : j0 + len ≤ 49152) : Cd l g yX2_isEqual wsX2_isEqual (rmN 0 0) [.ref (gA g 5), .int (nI (i0)), .int (nI (j0)), .int (nI (len))] (R, B, (cd, bF T, bF P, fo), O) (some (.int (bI (pB (eqT T i0 j0 len))))) (R, B, (cd, bF T, bF P, fo), O) := by
  refine Cs.ofW RX2 rfl (by decide) rfl (Nat.le_of_ble_eq_true rfl) ?_
  intro p e s m below meth c E hr hk F I ls hl
  have hx := E.1
  have hb := E.2.1
  have hl : lv_has ls 5 [(0, .ref (gA g 5)), (1, .int (nI (i0))), (2, .int (nI (j0))), (3, .int (nI (len)))] := hl
  refine lv_iconst (v := nI (0)) hx hb dX2_isEqual_0 (by decide) ?_
  refine lv_istore (lv' := [(4, .int (nI (0))), (0, .ref (gA g 5)), (1, .int (nI (i0))), (2, .int (nI (j0))), (3, .int (nI (len)))]) hx hb dX2_isEqual_1 hl (by decide) rfl (fun ls hl => ?_)
  have loop : ∀ (n i : Nat), i ≤ len → len + 1 ≤ i + n → (∀ k, k < i → T (i0 + k) = T (j0 + k)) → ∀ (H : Heap) (locs : List Loc) (ls : Array Slot), Iv g (R, B, (cd, bF T, bF P, fo), O) s H locs → lv_has ls 5 [(0, .ref (gA g 5)), (1, .int (nI (i0))), (2, .int (nI (j0))), (3, .int (nI (len))), (4, .int (nI (i)))] → W p l e (rmN 0 0) s m [.ref (gA g 5), .int (nI (i0)), .int (nI (j0)), .int (nI (len))].toArray below meth c H locs 0 0 (MQ below (Qs g (fun v' u'' => v' = (some (.int (bI (pB (eqT T i0 j0 len))))) ∧ u'' = (R, B, (cd, bF T, bF P, fo), O))) [.ref (gA g 5), .int (nI (i0)), .int (nI (j0)), .int (nI (len))].toArray s 0 0 (gW g)) (F0 m 3 ls []) := by
    intro n
    induction n with
    | zero => intro i h1 h2; exact absurd h2 (by omega)
    | succ n ih_loop =>
      intro i hi hn hz H locs ls I hl
      refine lv_iload hx hb dX2_isEqual_3 (lv_at hl 4 rfl) ?_
      refine lv_iload_n hx hb dX2_isEqual_5 rfl (lv_at hl 3 rfl) ?_
      refine n_cge (tgt := 36) hx hb (by omega) (by omega) dX2_isEqual_6 (by decide) (fun h1 => ?_) (fun h1 => ?_)
      · refine lv_iload hx hb dX2_isEqual_36 (lv_at hl 4 rfl) ?_
        refine lv_iload_n hx hb dX2_isEqual_38 rfl (lv_at hl 3 rfl) ?_
        refine n_cne (tgt := 46) hx hb (by omega) (by omega) dX2_isEqual_39 (by decide) (fun h2 => ?_) (fun h2 => ?_)
        · refine lv_iconst (v := nI (0)) hx hb dX2_isEqual_46 (by decide) ?_
          exact x_zret hx hb hr hk F I (by decide +kernel) (by exfalso; omega) dX2_isEqual_47
        · refine lv_iconst (v := nI (1)) hx hb dX2_isEqual_42 (by decide) ?_
          refine lv_goto (tgt := 47) hx hb dX2_isEqual_43 (by decide) ?_
          exact x_zret hx hb hr hk F I (by decide +kernel) ⟨by rw [pB_t (P := eqT T i0 j0 len) (fun k hk => hz k (by omega))]; rfl, rfl⟩ dX2_isEqual_47
      · refine lv_aload_n hx hb dX2_isEqual_9 rfl (lv_at hl 0 rfl) ?_
        refine x_get 5 2 1 (C := RX2) (T := TX2) (N := 4) (v := .ref (gA g 6)) E F I inw_X2_isEqual_X2 (by decide) rfl rfl (by decide) wm_X2_isEqual_f8 rfl dX2_isEqual_10 ?_
        refine lv_iload_n hx hb dX2_isEqual_13 rfl (lv_at hl 1 rfl) ?_
        refine lv_iload hx hb dX2_isEqual_14 (lv_at hl 4 rfl) ?_
        refine n_iadd hx hb dX2_isEqual_16 ?_
        refine x_zaload 6 (i := (i0) + (i)) hx hb F I (by decide) rfl (by decide) (by omega) dX2_isEqual_17 ?_
        refine lv_aload_n hx hb dX2_isEqual_18 rfl (lv_at hl 0 rfl) ?_
        refine x_get 5 2 1 (C := RX2) (T := TX2) (N := 4) (v := .ref (gA g 6)) E F I inw_X2_isEqual_X2 (by decide) rfl rfl (by decide) wm_X2_isEqual_f8 rfl dX2_isEqual_19 ?_
        refine lv_iload_n hx hb dX2_isEqual_22 rfl (lv_at hl 2 rfl) ?_
        refine lv_iload hx hb dX2_isEqual_23 (lv_at hl 4 rfl) ?_
        refine n_iadd hx hb dX2_isEqual_25 ?_
        refine x_zaload 6 (i := (j0) + (i)) hx hb F I (by decide) rfl (by decide) (by omega) dX2_isEqual_26 ?_
        refine n_zzne (tgt := 36) hx hb dX2_isEqual_27 (by decide) (fun h3 => ?_) (fun h3 => ?_)
        · refine lv_iload hx hb dX2_isEqual_36 (lv_at hl 4 rfl) ?_
          refine lv_iload_n hx hb dX2_isEqual_38 rfl (lv_at hl 3 rfl) ?_
          refine n_cne (tgt := 46) hx hb (by omega) (by omega) dX2_isEqual_39 (by decide) (fun h4 => ?_) (fun h4 => ?_)
          · refine lv_iconst (v := nI (0)) hx hb dX2_isEqual_46 (by decide) ?_
            exact x_zret hx hb hr hk F I (by decide +kernel) ⟨by rw [pB_f (P := eqT T i0 j0 len) (fun q => h3 (q i (by omega)))]; rfl, rfl⟩ dX2_isEqual_47
          · refine lv_iconst (v := nI (1)) hx hb dX2_isEqual_42 (by decide) ?_
            refine lv_goto (tgt := 47) hx hb dX2_isEqual_43 (by decide) ?_
            exact x_zret hx hb hr hk F I (by decide +kernel) ⟨by rw [pB_t (P := eqT T i0 j0 len) (fun k hk => hz k (by omega))]; rfl, rfl⟩ dX2_isEqual_47
        · refine n_iinc (d := 1) (lv' := [(4, .int (nI (i + 1))), (0, .ref (gA g 5)), (1, .int (nI (i0))), (2, .int (nI (j0))), (3, .int (nI (len)))]) hx hb dX2_isEqual_30 rfl hl (j := 4) rfl (by decide) rfl (fun ls hl => ?_)
          refine lv_goto (tgt := 3) hx hb dX2_isEqual_33 (by decide) ?_
          exact ih_loop (i + 1) (by omega) (by omega) (fun k hk => by rcases Nat.lt_or_ge k i with q | q; exact hz k q; rw [show k = i by omega]; assumption) _ _ ls (I) (lv_sub hl [1, 2, 3, 4, 0] rfl)
  exact loop (len + 1 - 0) (0) (by omega) (by omega) (fun k hk => absurd hk (Nat.not_lt_zero k)) _ _ ls (I) (lv_sub hl [1, 2, 3, 4, 0] rfl)
theorem hd_X2_isEqual : yX2_isEqual.cls ≠ "java/lang/invoke/MethodHandle" ∧ yX2_isEqual.cls ≠ "java/lang/invoke/VarHandle" ∧ (parseMethodDescriptor yX2_isEqual.desc).map (fun d => d.parameters.length) = some 3 := by decide +kernel
theorem wm_X2_nodes_f17 : Cond.fieldLink RX2 17 "FunctionDeskModel" "found" "[I" ∈ wsX2_nodes := by decide +kernel
theorem inw_X2_nodes_X2 : ∀ w ∈ wsX20, w ∈ wsX2_nodes := by decide +kernel
set_option maxHeartbeats 4000000 in
set_option maxRecDepth 100000 in
theorem m_nodes (l : Launch) (g : Geo) (R : Nat → Nat → Int64) (B : Rul) (cd : Int32) (T P : Nat → Bool) (fo : Nat → Int32) (O : Nat → Int64) {fr to v : Nat} (hft : fr ≤ to) (hto : to < 48) (hv : v < 10) : Cs l g yX2_nodes wsX2_nodes (rmN 1 24) [.ref (gA g 5), .int (nI (fr)), .int (nI (to)), .int (nI (v))] (R, B, (cd, bF T, bF P, fo), O) (fun v' u' => ∃ (c : Nat) (fo' : Nat → Int32), v' = some (.int (nI c)) ∧ c ≤ 24576 ∧ isNum T fr to (1024 / 2 ^ v) (2 ^ v) c ∧ u' = (R, B, (cd, bF T, bF P, fo'), O)) := by
  refine Cs.ofW RX2 rfl (by decide) rfl (Nat.le_of_ble_eq_true rfl) ?_
  intro p e s m below meth c E hr hk F I ls hl
  have hx := E.1
  have hb := E.2.1
  have hl : lv_has ls 8 [(0, .ref (gA g 5)), (1, .int (nI (fr))), (2, .int (nI (to))), (3, .int (nI (v)))] := hl
  refine lv_sipush (v := nI (1024)) hx hb dX2_nodes_0 (by decide) ?_
  refine lv_iload_n hx hb dX2_nodes_3 rfl (lv_at hl 3 rfl) ?_
  refine n_ishr hx hb (by omega) (by omega) dX2_nodes_4 ?_
  refine lv_istore (lv' := [(4, .int (nI ((1024) / 2 ^ (v)))), (0, .ref (gA g 5)), (1, .int (nI (fr))), (2, .int (nI (to))), (3, .int (nI (v)))]) hx hb dX2_nodes_5 hl (by decide) rfl (fun ls hl => ?_)
  obtain ⟨hLK, hL2, hK5, hL1⟩ := lk10 v hv
  generalize hLe : 1024 / 2 ^ v = L at hLK hL2 hL1 hl ⊢
  generalize hKe : 2 ^ v = K at hLK hK5 ⊢
  obtain ⟨N, hN⟩ : ∃ N, N = (to + 1 - fr) * K := ⟨_, rfl⟩
  have hN5 : N ≤ 24576 := by rw [hN]; exact N_le hto hK5
  have hl : lv_has ls 8 [(4, .int (nI (L))), (0, .ref (gA g 5)), (1, .int (nI (fr))), (2, .int (nI (to))), (3, .int (nI (v)))] := hl
  refine lv_iconst (v := nI (0)) hx hb dX2_nodes_7 (by decide) ?_
  refine lv_istore (lv' := [(5, .int (nI (0))), (4, .int (nI (L))), (0, .ref (gA g 5)), (1, .int (nI (fr))), (2, .int (nI (to))), (3, .int (nI (v)))]) hx hb dX2_nodes_8 hl (by decide) rfl (fun ls hl => ?_)
  refine lv_sipush (v := nI (1024)) hx hb dX2_nodes_10 (by decide) ?_
  refine lv_iload_n hx hb dX2_nodes_13 rfl (lv_at hl 3 rfl) ?_
  refine n_imul hx hb dX2_nodes_14 ?_
  refine lv_istore (lv' := [(6, .int (nI ((1024) * (fr)))), (5, .int (nI (0))), (4, .int (nI (L))), (0, .ref (gA g 5)), (1, .int (nI (fr))), (2, .int (nI (to))), (3, .int (nI (v)))]) hx hb dX2_nodes_15 hl (by decide) rfl (fun ls hl => ?_)
  have hl : lv_has ls 8 [(6, .int (nI (1024 * fr + 0 * L))), (5, .int (nI (0))), (4, .int (nI (L))), (0, .ref (gA g 5)), (1, .int (nI (fr))), (2, .int (nI (to))), (3, .int (nI (v)))] := by
    rw [show 1024 * fr + 0 * L = (1024) * (fr) from by omega]
    exact hl
  have loop : ∀ (n i : Nat), i ≤ N → N + 1 ≤ i + n → ∀ (ct : Nat) (q : Nat → Nat) (fo : Nat → Int32), TrI T fr L i ct q fo → ∀ (H : Heap) (locs : List Loc) (ls : Array Slot), Iv g (R, B, (cd, bF T, bF P, fo), O) s H locs → lv_has ls 8 [(0, .ref (gA g 5)), (1, .int (nI (fr))), (2, .int (nI (to))), (3, .int (nI (v))), (4, .int (nI (L))), (5, .int (nI (ct))), (6, .int (nI (1024 * fr + i * L)))] → W p l e (rmN 1 24) s m [.ref (gA g 5), .int (nI (fr)), .int (nI (to)), .int (nI (v))].toArray below meth c H locs 0 0 (MQ below (Qs g (fun v' u' => ∃ (c : Nat) (fo' : Nat → Int32), v' = some (.int (nI c)) ∧ c ≤ 24576 ∧ isNum T fr to L K c ∧ u' = (R, B, (cd, bF T, bF P, fo'), O))) [.ref (gA g 5), .int (nI (fr)), .int (nI (to)), .int (nI (v))].toArray s 0 0 (gW g)) (F0 m 17 ls []) := by
    intro n
    induction n with
    | zero => intro i h1 h2; exact absurd h2 (by omega)
    | succ n ih_loop =>
      intro i hi hn ct q fo hT H locs ls I hl
      have hiL := at_le (m := i) hLK hft (by omega)
      refine lv_iload hx hb dX2_nodes_17 (lv_at hl 6 rfl) ?_
      refine lv_sipush (v := nI (1024)) hx hb dX2_nodes_19 (by decide) ?_
      refine lv_iload_n hx hb dX2_nodes_22 rfl (lv_at hl 2 rfl) ?_
      refine lv_iconst (v := nI (1)) hx hb dX2_nodes_23 (by decide) ?_
      refine n_iadd hx hb dX2_nodes_24 ?_
      refine n_imul hx hb dX2_nodes_25 ?_
      refine n_cge (tgt := 123) hx hb (by omega) (by omega) dX2_nodes_26 (by decide) (fun h1 => ?_) (fun h1 => ?_)
      · have hiN : i = N := by rcases Nat.lt_or_ge i N with z | z; exact absurd ((at_lt (m := i) hLK hft).mpr (by omega)) (by omega); omega
        refine lv_iload hx hb dX2_nodes_123 (lv_at hl 5 rfl) ?_
        exact x_iret hx hb hr hk F I ⟨ct, fo, rfl, by have := hT.1; omega, ⟨q, by rw [← hN, ← hiN]; exact hT.2.1⟩, rfl⟩ dX2_nodes_125
      · have hiN : i < N := by have z := (at_lt (m := i) hLK hft).mp (by omega); omega
        have hiL1 := at_le (m := i + 1) hLK hft (by omega)
        have hsm : (i + 1) * L = i * L + L := Nat.succ_mul i L
        have hci : ct ≤ i := hT.1
        refine lv_aload_n hx hb dX2_nodes_29 rfl (lv_at hl 0 rfl) ?_
        refine lv_iload hx hb dX2_nodes_30 (lv_at hl 6 rfl) ?_
        refine lv_iload hx hb dX2_nodes_32 (lv_at hl 6 rfl) ?_
        refine lv_iload hx hb dX2_nodes_34 (lv_at hl 4 rfl) ?_
        refine lv_iconst (v := nI (2)) hx hb dX2_nodes_36 (by decide) ?_
        refine n_idiv hx hb (by omega) (by omega) (by omega) dX2_nodes_37 ?_
        refine n_iadd hx hb dX2_nodes_38 ?_
        refine lv_iload hx hb dX2_nodes_39 (lv_at hl 4 rfl) ?_
        refine lv_iconst (v := nI (2)) hx hb dX2_nodes_41 (by decide) ?_
        refine n_idiv hx hb (by omega) (by omega) (by omega) dX2_nodes_42 ?_
        refine x_callVi 5 2 (rest := []) (C := RX2) (T0 := TX2) (N := 4) E F I (m_isEqual l g R B cd T P fo O (i0 := 1024 * fr + i * L) (j0 := (1024 * fr + i * L) + ((L) / (2))) (len := (L) / (2)) (by omega) (by omega)) gX2_nodes_X2_isEqual rfl (by decide) rfl rfl rfl hd_X2_isEqual rfl rfl ⟨by decide, by decide⟩ ⟨by decide, by decide⟩ rfl hl.1 rfl (Nat.le_of_ble_eq_true rfl) dX2_nodes_43 (fun H locs I => ?_)
        refine n_zeq (tgt := 52) hx hb dX2_nodes_46 (by decide) (fun h2 => ?_) (fun h2 => ?_)
        · refine lv_iconst (v := nI (0)) hx hb dX2_nodes_52 (by decide) ?_
          refine lv_istore (lv' := [(7, .int (nI (0))), (0, .ref (gA g 5)), (1, .int (nI (fr))), (2, .int (nI (to))), (3, .int (nI (v))), (4, .int (nI (L))), (5, .int (nI (ct))), (6, .int (nI (1024 * fr + i * L)))]) hx hb dX2_nodes_53 hl (by decide) rfl (fun ls hl => ?_)
          have loop2 : ∀ (n j : Nat), j ≤ ct → ct + 1 ≤ j + n → (∀ k, k < j → ¬ pE T fr L (q k) i) → ∀ (H : Heap) (locs : List Loc) (ls : Array Slot), Iv g (R, B, (cd, bF T, bF P, fo), O) s H locs → lv_has ls 8 [(0, .ref (gA g 5)), (1, .int (nI (fr))), (2, .int (nI (to))), (3, .int (nI (v))), (4, .int (nI (L))), (5, .int (nI (ct))), (6, .int (nI (1024 * fr + i * L))), (7, .int (nI (j)))] → W p l e (rmN 1 24) s m [.ref (gA g 5), .int (nI (fr)), .int (nI (to)), .int (nI (v))].toArray below meth c H locs 0 0 (MQ below (Qs g (fun v' u' => ∃ (c : Nat) (fo' : Nat → Int32), v' = some (.int (nI c)) ∧ c ≤ 24576 ∧ isNum T fr to L K c ∧ u' = (R, B, (cd, bF T, bF P, fo'), O))) [.ref (gA g 5), .int (nI (fr)), .int (nI (to)), .int (nI (v))].toArray s 0 0 (gW g)) (F0 m 55 ls []) := by
            intro n
            induction n with
            | zero => intro j h1 h2; exact absurd h2 (by omega)
            | succ n ih_loop2 =>
              intro j hij hn hz H locs ls I hl
              refine lv_iload hx hb dX2_nodes_55 (lv_at hl 7 rfl) ?_
              refine lv_iload hx hb dX2_nodes_57 (lv_at hl 5 rfl) ?_
              refine n_cge (tgt := 86) hx hb (by omega) (by omega) dX2_nodes_59 (by decide) (fun h3 => ?_) (fun h3 => ?_)
              · refine lv_aload_n hx hb dX2_nodes_86 rfl (lv_at hl 0 rfl) ?_
                refine x_get 5 2 3 (C := RX2) (T := TX2) (N := 4) (v := .ref (gA g 8)) E F I inw_X2_nodes_X2 (by decide) rfl rfl (by decide) wm_X2_nodes_f17 rfl dX2_nodes_87 ?_
                refine lv_iload hx hb dX2_nodes_90 (lv_at hl 5 rfl) ?_
                refine lv_iload hx hb dX2_nodes_92 (lv_at hl 6 rfl) ?_
                refine x_iastore 8 (u' := (R, B, (cd, bF T, bF P, upd fo (ct) (nI (1024 * fr + i * L))), O)) (i := ct) hx hb F I (by decide) rfl rfl ec_o8 (by decide) (by omega) dX2_nodes_94 (fun H locs I => ?_)
                refine lv_iload hx hb dX2_nodes_95 (lv_at hl 7 rfl) ?_
                refine lv_iload hx hb dX2_nodes_97 (lv_at hl 5 rfl) ?_
                refine n_cne (tgt := 109) hx hb (by omega) (by omega) dX2_nodes_99 (by decide) (fun h4 => ?_) (fun h4 => ?_)
                · exfalso
                  omega
                · refine lv_iload hx hb dX2_nodes_102 (lv_at hl 5 rfl) ?_
                  refine lv_iconst (v := nI (1)) hx hb dX2_nodes_104 (by decide) ?_
                  refine n_iadd hx hb dX2_nodes_105 ?_
                  refine lv_goto (tgt := 111) hx hb dX2_nodes_106 (by decide) ?_
                  refine lv_istore (lv' := [(5, .int (nI ((ct) + (1)))), (0, .ref (gA g 5)), (1, .int (nI (fr))), (2, .int (nI (to))), (3, .int (nI (v))), (4, .int (nI (L))), (6, .int (nI (1024 * fr + i * L))), (7, .int (nI (j)))]) hx hb dX2_nodes_111 hl (by decide) rfl (fun ls hl => ?_)
                  refine lv_iload hx hb dX2_nodes_113 (lv_at hl 6 rfl) ?_
                  refine lv_iload hx hb dX2_nodes_115 (lv_at hl 5 rfl) ?_
                  refine n_iadd hx hb dX2_nodes_117 ?_
                  refine lv_istore (lv' := [(6, .int (nI ((1024 * fr + i * L) + (L)))), (5, .int (nI ((ct) + (1)))), (0, .ref (gA g 5)), (1, .int (nI (fr))), (2, .int (nI (to))), (3, .int (nI (v))), (4, .int (nI (L))), (7, .int (nI (j)))]) hx hb dX2_nodes_118 hl (by decide) rfl (fun ls hl => ?_)
                  have hl : lv_has ls 8 [(6, .int (nI (1024 * fr + (i + 1) * L))), (5, .int (nI ((ct) + (1)))), (0, .ref (gA g 5)), (1, .int (nI (fr))), (2, .int (nI (to))), (3, .int (nI (v))), (4, .int (nI (L))), (7, .int (nI (j)))] := by
                    rw [show 1024 * fr + (i + 1) * L = (1024 * fr + i * L) + (L) from by omega]
                    exact hl
                  refine lv_goto (tgt := 17) hx hb dX2_nodes_120 (by decide) ?_
                  exact ih_loop (i + 1) (by omega) (by omega) (ct + 1) (va_up q ct i) _ (TrI_c hT (fun z => by rw [pB_t z] at h2; cases h2) (fun k hk => hz k (by omega))) _ _ ls (I) (lv_sub hl [2, 3, 4, 5, 6, 1, 0] rfl)
              · refine lv_aload_n hx hb dX2_nodes_62 rfl (lv_at hl 0 rfl) ?_
                refine lv_aload_n hx hb dX2_nodes_63 rfl (lv_at hl 0 rfl) ?_
                refine x_get 5 2 3 (C := RX2) (T := TX2) (N := 4) (v := .ref (gA g 8)) E F I inw_X2_nodes_X2 (by decide) rfl rfl (by decide) wm_X2_nodes_f17 rfl dX2_nodes_64 ?_
                refine lv_iload hx hb dX2_nodes_67 (lv_at hl 7 rfl) ?_
                refine x_iaload 8 (i := j) hx hb F I (by decide) rfl (by decide) (by omega) dX2_nodes_69 ?_
                have e9 : fo j = nI (1024 * fr + q j * L) := hT.2.2 j (by omega)
                refine W.eq (g2 := F0 m 70 ls [.int (nI (1024 * fr + q j * L)), .ref (gA g 5)]) (by rw [← e9]) ?_
                have hqj := (hT.2.1.1 j (by omega)).1
                have hqL := at_le (m := q j + 1) hLK hft (by omega)
                have hsq : (q j + 1) * L = q j * L + L := Nat.succ_mul (q j) L
                refine lv_iload hx hb dX2_nodes_70 (lv_at hl 6 rfl) ?_
                refine lv_iload hx hb dX2_nodes_72 (lv_at hl 4 rfl) ?_
                refine x_callVi 5 2 (rest := []) (C := RX2) (T0 := TX2) (N := 4) E F I (m_isEqual l g R B cd T P fo O (i0 := 1024 * fr + q j * L) (j0 := 1024 * fr + i * L) (len := L) (by omega) (by omega)) gX2_nodes_X2_isEqual rfl (by decide) rfl rfl rfl hd_X2_isEqual rfl rfl ⟨by decide, by decide⟩ ⟨by decide, by decide⟩ rfl hl.1 rfl (Nat.le_of_ble_eq_true rfl) dX2_nodes_74 (fun H locs I => ?_)
                refine n_zne (tgt := 86) hx hb dX2_nodes_77 (by decide) (fun h5 => ?_) (fun h5 => ?_)
                · refine lv_aload_n hx hb dX2_nodes_86 rfl (lv_at hl 0 rfl) ?_
                  refine x_get 5 2 3 (C := RX2) (T := TX2) (N := 4) (v := .ref (gA g 8)) E F I inw_X2_nodes_X2 (by decide) rfl rfl (by decide) wm_X2_nodes_f17 rfl dX2_nodes_87 ?_
                  refine lv_iload hx hb dX2_nodes_90 (lv_at hl 5 rfl) ?_
                  refine lv_iload hx hb dX2_nodes_92 (lv_at hl 6 rfl) ?_
                  refine x_iastore 8 (u' := (R, B, (cd, bF T, bF P, upd fo (ct) (nI (1024 * fr + i * L))), O)) (i := ct) hx hb F I (by decide) rfl rfl ec_o8 (by decide) (by omega) dX2_nodes_94 (fun H locs I => ?_)
                  refine lv_iload hx hb dX2_nodes_95 (lv_at hl 7 rfl) ?_
                  refine lv_iload hx hb dX2_nodes_97 (lv_at hl 5 rfl) ?_
                  refine n_cne (tgt := 109) hx hb (by omega) (by omega) dX2_nodes_99 (by decide) (fun h6 => ?_) (fun h6 => ?_)
                  · refine lv_iload hx hb dX2_nodes_109 (lv_at hl 5 rfl) ?_
                    refine lv_istore (lv' := [(5, .int (nI (ct))), (0, .ref (gA g 5)), (1, .int (nI (fr))), (2, .int (nI (to))), (3, .int (nI (v))), (4, .int (nI (L))), (6, .int (nI (1024 * fr + i * L))), (7, .int (nI (j)))]) hx hb dX2_nodes_111 hl (by decide) rfl (fun ls hl => ?_)
                    refine lv_iload hx hb dX2_nodes_113 (lv_at hl 6 rfl) ?_
                    refine lv_iload hx hb dX2_nodes_115 (lv_at hl 5 rfl) ?_
                    refine n_iadd hx hb dX2_nodes_117 ?_
                    refine lv_istore (lv' := [(6, .int (nI ((1024 * fr + i * L) + (L)))), (5, .int (nI (ct))), (0, .ref (gA g 5)), (1, .int (nI (fr))), (2, .int (nI (to))), (3, .int (nI (v))), (4, .int (nI (L))), (7, .int (nI (j)))]) hx hb dX2_nodes_118 hl (by decide) rfl (fun ls hl => ?_)
                    have hl : lv_has ls 8 [(6, .int (nI (1024 * fr + (i + 1) * L))), (5, .int (nI (ct))), (0, .ref (gA g 5)), (1, .int (nI (fr))), (2, .int (nI (to))), (3, .int (nI (v))), (4, .int (nI (L))), (7, .int (nI (j)))] := by
                      rw [show 1024 * fr + (i + 1) * L = (1024 * fr + i * L) + (L) from by omega]
                      exact hl
                    refine lv_goto (tgt := 17) hx hb dX2_nodes_120 (by decide) ?_
                    exact ih_loop (i + 1) (by omega) (by omega) ct q _ (TrI_b hT (by omega) (pB_iff.mp h5)) _ _ ls (I) (lv_sub hl [2, 3, 4, 5, 6, 1, 0] rfl)
                  · exfalso
                    omega
                · refine n_iinc (d := 1) (lv' := [(7, .int (nI (j + 1))), (0, .ref (gA g 5)), (1, .int (nI (fr))), (2, .int (nI (to))), (3, .int (nI (v))), (4, .int (nI (L))), (5, .int (nI (ct))), (6, .int (nI (1024 * fr + i * L)))]) hx hb dX2_nodes_80 rfl hl (j := 7) rfl (by decide) rfl (fun ls hl => ?_)
                  refine lv_goto (tgt := 55) hx hb dX2_nodes_83 (by decide) ?_
                  exact ih_loop2 (j + 1) (by omega) (by omega) (fun k hk => by rcases Nat.lt_or_ge k j with z | z; exact hz k z; rw [show k = j by omega]; exact fun z => Bool.false_ne_true (h5.symm.trans (pB_t z))) _ _ ls (I) (lv_sub hl [1, 2, 3, 4, 5, 6, 7, 0] rfl)
          exact loop2 (ct + 1 - 0) (0) (by omega) (by omega) (fun k hk => absurd hk (Nat.not_lt_zero k)) _ _ ls (I) (lv_sub hl [1, 2, 3, 4, 5, 6, 7, 0] rfl)
        · refine lv_goto (tgt := 113) hx hb dX2_nodes_49 (by decide) ?_
          refine lv_iload hx hb dX2_nodes_113 (lv_at hl 6 rfl) ?_
          refine lv_iload hx hb dX2_nodes_115 (lv_at hl 4 rfl) ?_
          refine n_iadd hx hb dX2_nodes_117 ?_
          refine lv_istore (lv' := [(6, .int (nI ((1024 * fr + i * L) + (L)))), (0, .ref (gA g 5)), (1, .int (nI (fr))), (2, .int (nI (to))), (3, .int (nI (v))), (4, .int (nI (L))), (5, .int (nI (ct)))]) hx hb dX2_nodes_118 hl (by decide) rfl (fun ls hl => ?_)
          have hl : lv_has ls 8 [(6, .int (nI (1024 * fr + (i + 1) * L))), (0, .ref (gA g 5)), (1, .int (nI (fr))), (2, .int (nI (to))), (3, .int (nI (v))), (4, .int (nI (L))), (5, .int (nI (ct)))] := by
            rw [show 1024 * fr + (i + 1) * L = (1024 * fr + i * L) + (L) from by omega]
            exact hl
          refine lv_goto (tgt := 17) hx hb dX2_nodes_120 (by decide) ?_
          exact ih_loop (i + 1) (by omega) (by omega) ct q fo (TrI_a hT (pB_iff.mp h2)) _ _ ls (I) (lv_sub hl [1, 2, 3, 4, 5, 6, 0] rfl)
  exact loop (N + 1 - 0) (0) (by omega) (by omega) 0 (fun _ => 0) _ (TrI_0 T fr L _ _) _ _ ls (I) (lv_sub hl [3, 4, 5, 6, 2, 1, 0] rfl)
theorem hd_X2_nodes : yX2_nodes.cls ≠ "java/lang/invoke/MethodHandle" ∧ yX2_nodes.cls ≠ "java/lang/invoke/VarHandle" ∧ (parseMethodDescriptor yX2_nodes.desc).map (fun d => d.parameters.length) = some 3 := by decide +kernel
