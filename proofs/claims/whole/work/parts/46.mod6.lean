theorem fail_d {a b : Bool} {SL NU : Prop} (h1 : a = true ↔ SL) (h2 : a = true → (b = true ↔ NU)) (h : (!(a && b)) = true) : (¬ SL ∧ fcd a b = 1) ∨ (SL ∧ ¬ NU ∧ fcd a b = 2) := by
  cases a
  · exact Or.inl ⟨fun q => Bool.false_ne_true (h1.mpr q), rfl⟩
  · cases b
    · exact Or.inr ⟨h1.mp rfl, fun q => Bool.false_ne_true ((h2 rfl).mpr q), rfl⟩
    · cases h
theorem cnt_0 {f : Nat → Bool} {m : Nat} (h : cnt f m = 0) : ∀ j, j < m → f j = false := by
  induction m with
  | zero => intro j hj; exact absurd hj (Nat.not_lt_zero j)
  | succ m ih =>
    rw [cnt] at h
    intro j hj
    rcases Nat.lt_or_ge j m with q | q
    · exact ih (by omega) j q
    · rw [show j = m by omega]
      cases hf : f m
      · rfl
      · rw [hf] at h
        simp at h
theorem cnt_p {f : Nat → Bool} {m : Nat} (h : 0 < cnt f m) : ∃ j, j < m ∧ f j = true := by
  induction m with
  | zero => exact absurd h (Nat.lt_irrefl 0)
  | succ m ih =>
    rw [cnt] at h
    cases hf : f m
    · rw [hf] at h
      obtain ⟨j, h1, h2⟩ := ih (by simpa using h)
      exact ⟨j, by omega, h2⟩
    · exact ⟨m, by omega, hf⟩
def anyX (T : Nat → Bool) (x : Int32) : Prop := ∃ c : Nat, c < 48 ∧ x = nI c ∧ anyT T c
theorem near_lt {T : Nat → Bool} {c i j : Nat} (h : anyT T c) (hi : i < 1024) (hz : ∀ d, d < j → T (1024 * c + (i ^^^ d)) = false) (hj : j ≤ 1024) : j < 1024 := by
  rcases Nat.lt_or_ge j 1024 with q | q
  · exact q
  · obtain ⟨k, hk, ht⟩ := h
    have := hz (i ^^^ k) (Nat.lt_of_lt_of_le (xor1024 hi hk) q)
    rw [← Nat.xor_assoc, Nat.xor_self, Nat.zero_xor, ht] at this
    cases this
def smE (T : Nat → Bool) (a b : Nat) : Nat → Bool
  | 0 => true
  | i + 1 => smE T a b i && (T (1024 * a + i) == T (1024 * b + i))
def dfE (T : Nat → Bool) (a v : Nat) : Nat → Bool
  | 0 => false
  | i + 1 => dfE T a v i || (T (1024 * a + i) != T (1024 * a + (i ^^^ bitN v)))
def dpS (T : Nat → Bool) (a : Nat) : Nat → Nat
  | 0 => 0
  | v + 1 => if dfE T a v 1024 then dpS T a v ||| bitN v else dpS T a v
set_option maxHeartbeats 4000000 in
set_option maxRecDepth 100000 in
theorem m_isSame (l : Launch) (g : Geo) (R : Nat → Nat → Int64) (B : Rul) (cd : Int32) (T P : Nat → Bool) (fo : Nat → Int32) (O : Nat → Int64) (x1 : Int32) (x2 : Int32) : Cs l g yX2_isSame wsX2_isSame (rmN 1 60) [.ref (gA g 5), .int (x1), .int (x2)] (R, B, (cd, bF T, bF P, fo), O) (fun v' u' => ∃ (r cd' : Int32), v' = some (.int r) ∧ u' = (R, B, (cd', bF T, bF P, fo), O) ∧ ((¬ (okI 48 x1 ∧ okI 48 x2) ∧ cd' = 1) ∨ ((okI 48 x1 ∧ okI 48 x2) ∧ ¬ (True) ∧ cd' = 2) ∨ (cd' = 0 ∧ ∃ a_ b_ : Nat, a_ < 48 ∧ b_ < 48 ∧ x1 = nI a_ ∧ x2 = nI b_ ∧ r = bI (smE T a_ b_ 1024)))) := by
  refine Cs.ofW RX2 rfl (by decide) rfl (Nat.le_of_ble_eq_true rfl) ?_
  intro p e s m below meth c E hr hk F I ls hl
  have hx := E.1
  have hb := E.2.1
  have hl : lv_has ls 5 [(0, .ref (gA g 5)), (1, .int (x1)), (2, .int (x2))] := hl
  refine lv_aload_n hx hb dX2_isSame_0 rfl (lv_at hl 0 rfl) ?_
  refine lv_iload_n hx hb dX2_isSame_1 rfl (lv_at hl 1 rfl) ?_
  refine lv_bipush (v := nI (48)) hx hb dX2_isSame_2 (by decide) ?_
  refine x_callSi (rest := [.ref (gA g 5)]) E F I (m_in l g R B (cd, bF T, bF P, fo) O (x1) (N := 48) (by decide)) gX2_isSame_X2_in rfl hd_X2_in rfl rfl ⟨by decide, by decide⟩ ⟨by decide, by decide⟩ rfl hl.1 rfl (Nat.le_of_ble_eq_true rfl) dX2_isSame_4 (fun H locs I => ?_)
  refine n_zeq (tgt := 23) hx hb dX2_isSame_7 (by decide) (fun h1 => ?_) (fun h1 => ?_)
  · refine lv_iconst (v := nI (0)) hx hb dX2_isSame_23 (by decide) ?_
    refine lv_iconst (v := nI (1)) hx hb dX2_isSame_24 (by decide) ?_
    refine x_callVi 5 2 (rest := []) (C := RX2) (T0 := TX2) (N := 4) E F I (m_fails l g R B cd T P fo O false true) gX2_isSame_X2_fails rfl (by decide) rfl rfl rfl hd_X2_fails rfl rfl ⟨by decide, by decide⟩ ⟨by decide, by decide⟩ rfl hl.1 rfl (Nat.le_of_ble_eq_true rfl) dX2_isSame_25 (fun H locs I => ?_)
    refine n_zeq (tgt := 33) hx hb dX2_isSame_28 (by decide) (fun h2 => ?_) (fun h2 => ?_)
    · exact absurd h2 (by simp)
    · refine lv_iconst (v := nI (0)) hx hb dX2_isSame_31 (by decide) ?_
      exact x_zret hx hb hr hk F I (by decide +kernel) ⟨_, _, rfl, rfl, (fail_c (SL := okI 48 x1 ∧ okI 48 x2) (NU := True) ⟨fun q => absurd q (by decide), fun q => absurd q.1 (okB_f h1)⟩ ⟨fun _ => trivial, fun _ => rfl⟩ h2).elim (fun q => Or.inl ⟨q.1, q.2⟩) (fun q => Or.inr (Or.inl ⟨q.1, q.2.1, q.2.2⟩))⟩ dX2_isSame_32
  · refine lv_iload_n hx hb dX2_isSame_10 rfl (lv_at hl 2 rfl) ?_
    refine lv_bipush (v := nI (48)) hx hb dX2_isSame_11 (by decide) ?_
    refine x_callSi (rest := [.ref (gA g 5)]) E F I (m_in l g R B (cd, bF T, bF P, fo) O (x2) (N := 48) (by decide)) gX2_isSame_X2_in rfl hd_X2_in rfl rfl ⟨by decide, by decide⟩ ⟨by decide, by decide⟩ rfl hl.1 rfl (Nat.le_of_ble_eq_true rfl) dX2_isSame_13 (fun H locs I => ?_)
    refine n_zeq (tgt := 23) hx hb dX2_isSame_16 (by decide) (fun h3 => ?_) (fun h3 => ?_)
    · refine lv_iconst (v := nI (0)) hx hb dX2_isSame_23 (by decide) ?_
      refine lv_iconst (v := nI (1)) hx hb dX2_isSame_24 (by decide) ?_
      refine x_callVi 5 2 (rest := []) (C := RX2) (T0 := TX2) (N := 4) E F I (m_fails l g R B cd T P fo O false true) gX2_isSame_X2_fails rfl (by decide) rfl rfl rfl hd_X2_fails rfl rfl ⟨by decide, by decide⟩ ⟨by decide, by decide⟩ rfl hl.1 rfl (Nat.le_of_ble_eq_true rfl) dX2_isSame_25 (fun H locs I => ?_)
      refine n_zeq (tgt := 33) hx hb dX2_isSame_28 (by decide) (fun h4 => ?_) (fun h4 => ?_)
      · exact absurd h4 (by simp)
      · refine lv_iconst (v := nI (0)) hx hb dX2_isSame_31 (by decide) ?_
        exact x_zret hx hb hr hk F I (by decide +kernel) ⟨_, _, rfl, rfl, (fail_c (SL := okI 48 x1 ∧ okI 48 x2) (NU := True) ⟨fun q => absurd q (by decide), fun q => absurd q.2 (okB_f h3)⟩ ⟨fun _ => trivial, fun _ => rfl⟩ h4).elim (fun q => Or.inl ⟨q.1, q.2⟩) (fun q => Or.inr (Or.inl ⟨q.1, q.2.1, q.2.2⟩))⟩ dX2_isSame_32
    · refine lv_iconst (v := nI (1)) hx hb dX2_isSame_19 (by decide) ?_
      refine lv_goto (tgt := 24) hx hb dX2_isSame_20 (by decide) ?_
      refine lv_iconst (v := nI (1)) hx hb dX2_isSame_24 (by decide) ?_
      refine x_callVi 5 2 (rest := []) (C := RX2) (T0 := TX2) (N := 4) E F I (m_fails l g R B cd T P fo O true true) gX2_isSame_X2_fails rfl (by decide) rfl rfl rfl hd_X2_fails rfl rfl ⟨by decide, by decide⟩ ⟨by decide, by decide⟩ rfl hl.1 rfl (Nat.le_of_ble_eq_true rfl) dX2_isSame_25 (fun H locs I => ?_)
      refine n_zeq (tgt := 33) hx hb dX2_isSame_28 (by decide) (fun h5 => ?_) (fun h5 => ?_)
      · obtain ⟨hSL, hNU, hcd⟩ := good_c (SL := okI 48 x1 ∧ okI 48 x2) (NU := True) ⟨fun _ => ⟨okB_iff.mp h1, okB_iff.mp h3⟩, fun _ => rfl⟩ ⟨fun _ => trivial, fun _ => rfl⟩ h5
        rw [hcd] at I
        obtain ⟨⟨a, lt_a, rfl⟩, ⟨b, lt_b, rfl⟩⟩ := hSL
        have hl : lv_has ls 5 [(0, .ref (gA g 5)), (1, .int (nI (a))), (2, .int (nI (b)))] := hl
        refine lv_iconst (v := nI (1)) hx hb dX2_isSame_33 (by decide) ?_
        refine lv_istore_n (lv' := [(3, .int (nI (1))), (0, .ref (gA g 5)), (1, .int (nI (a))), (2, .int (nI (b)))]) hx hb dX2_isSame_34 rfl hl (by decide) rfl (fun ls hl => ?_)
        refine lv_iconst (v := nI (0)) hx hb dX2_isSame_35 (by decide) ?_
        refine lv_istore (lv' := [(4, .int (nI (0))), (3, .int (nI (1))), (0, .ref (gA g 5)), (1, .int (nI (a))), (2, .int (nI (b)))]) hx hb dX2_isSame_36 hl (by decide) rfl (fun ls hl => ?_)
        have loop : ∀ (n i : Nat), i ≤ 1024 → 1024 + 1 ≤ i + n → ∀ (H : Heap) (locs : List Loc) (ls : Array Slot), Iv g (R, B, (0, bF T, bF P, fo), O) s H locs → lv_has ls 5 [(0, .ref (gA g 5)), (1, .int (nI (a))), (2, .int (nI (b))), (3, .int (bI (smE T a b (i)))), (4, .int (nI (i)))] → W p l e (rmN 1 60) s m [.ref (gA g 5), .int ((nI a)), .int ((nI b))].toArray below meth c H locs 0 0 (MQ below (Qs g (fun v' u' => ∃ (r cd' : Int32), v' = some (.int r) ∧ u' = (R, B, (cd', bF T, bF P, fo), O) ∧ ((¬ (okI 48 (nI a) ∧ okI 48 (nI b)) ∧ cd' = 1) ∨ ((okI 48 (nI a) ∧ okI 48 (nI b)) ∧ ¬ (True) ∧ cd' = 2) ∨ (cd' = 0 ∧ ∃ a_ b_ : Nat, a_ < 48 ∧ b_ < 48 ∧ (nI a) = nI a_ ∧ (nI b) = nI b_ ∧ r = bI (smE T a_ b_ 1024))))) [.ref (gA g 5), .int ((nI a)), .int ((nI b))].toArray s 0 0 (gW g)) (F0 m 38 ls []) := by
          intro n
          induction n with
          | zero => intro i h1 h2; exact absurd h2 (by omega)
          | succ n ih_loop =>
            intro i hi hn H locs ls I hl
            refine lv_iload hx hb dX2_isSame_38 (lv_at hl 4 rfl) ?_
            refine lv_sipush (v := nI (1024)) hx hb dX2_isSame_40 (by decide) ?_
            refine n_cge (tgt := 79) hx hb (by omega) (by omega) dX2_isSame_43 (by decide) (fun h6 => ?_) (fun h6 => ?_)
            · obtain rfl : i = 1024 := by omega
              have hl : lv_has ls 5 [(0, .ref (gA g 5)), (1, .int (nI (a))), (2, .int (nI (b))), (3, .int (bI (smE T a b (1024)))), (4, .int (nI (1024)))] := hl
              refine lv_iload_n hx hb dX2_isSame_79 rfl (lv_at hl 3 rfl) ?_
              exact x_zret hx hb hr hk F I (bI_narrow _) ⟨_, _, rfl, rfl, Or.inr (Or.inr ⟨rfl, a, b, lt_a, lt_b, rfl, rfl, rfl⟩)⟩ dX2_isSame_80
            · refine lv_iload_n hx hb dX2_isSame_46 rfl (lv_at hl 3 rfl) ?_
              refine n_zeq (tgt := 71) hx hb dX2_isSame_47 (by decide) (fun h7 => ?_) (fun h7 => ?_)
              · refine lv_iconst (v := nI (0)) hx hb dX2_isSame_71 (by decide) ?_
                refine lv_istore_n (lv' := [(3, .int (nI (0))), (0, .ref (gA g 5)), (1, .int (nI (a))), (2, .int (nI (b))), (4, .int (nI (i)))]) hx hb dX2_isSame_72 rfl hl (by decide) rfl (fun ls hl => ?_)
                refine n_iinc (d := 1) (lv' := [(4, .int (nI (i + 1))), (3, .int (nI (0))), (0, .ref (gA g 5)), (1, .int (nI (a))), (2, .int (nI (b)))]) hx hb dX2_isSame_73 rfl hl (j := 4) rfl (by decide) rfl (fun ls hl => ?_)
                have hl : lv_has ls 5 [(4, .int (nI (i + 1))), (3, .int (bI (smE T a b (i + 1)))), (0, .ref (gA g 5)), (1, .int (nI (a))), (2, .int (nI (b)))] := by
                  rw [show smE T a b (i + 1) = false from by rw [smE]; simp [h7]]
                  exact hl
                refine lv_goto (tgt := 38) hx hb dX2_isSame_76 (by decide) ?_
                exact ih_loop (i + 1) (by omega) (by omega) _ _ ls (I) (lv_sub hl [2, 3, 4, 1, 0] rfl)
              · refine lv_aload_n hx hb dX2_isSame_50 rfl (lv_at hl 0 rfl) ?_
                refine lv_iload_n hx hb dX2_isSame_51 rfl (lv_at hl 1 rfl) ?_
                refine lv_iload hx hb dX2_isSame_52 (lv_at hl 4 rfl) ?_
                refine x_callVi 5 2 (rest := []) (C := RX2) (T0 := TX2) (N := 4) E F I (m_of l g R B 0 T P fo O (a := a) (k := i) (by omega) (by omega)) gX2_isSame_X2_of rfl (by decide) rfl rfl rfl hd_X2_of rfl rfl ⟨by decide, by decide⟩ ⟨by decide, by decide⟩ rfl hl.1 rfl (Nat.le_of_ble_eq_true rfl) dX2_isSame_54 (fun H locs I => ?_)
                refine lv_aload_n hx hb dX2_isSame_57 rfl (lv_at hl 0 rfl) ?_
                refine lv_iload_n hx hb dX2_isSame_58 rfl (lv_at hl 2 rfl) ?_
                refine lv_iload hx hb dX2_isSame_59 (lv_at hl 4 rfl) ?_
                refine x_callVi 5 2 (rest := [.int (bI (T (1024 * a + i)))]) (C := RX2) (T0 := TX2) (N := 4) E F I (m_of l g R B 0 T P fo O (a := b) (k := i) (by omega) (by omega)) gX2_isSame_X2_of rfl (by decide) rfl rfl rfl hd_X2_of rfl rfl ⟨by decide, by decide⟩ ⟨by decide, by decide⟩ rfl hl.1 rfl (Nat.le_of_ble_eq_true rfl) dX2_isSame_61 (fun H locs I => ?_)
                refine n_zzne (tgt := 71) hx hb dX2_isSame_64 (by decide) (fun h8 => ?_) (fun h8 => ?_)
                · refine lv_iconst (v := nI (0)) hx hb dX2_isSame_71 (by decide) ?_
                  refine lv_istore_n (lv' := [(3, .int (nI (0))), (0, .ref (gA g 5)), (1, .int (nI (a))), (2, .int (nI (b))), (4, .int (nI (i)))]) hx hb dX2_isSame_72 rfl hl (by decide) rfl (fun ls hl => ?_)
                  refine n_iinc (d := 1) (lv' := [(4, .int (nI (i + 1))), (3, .int (nI (0))), (0, .ref (gA g 5)), (1, .int (nI (a))), (2, .int (nI (b)))]) hx hb dX2_isSame_73 rfl hl (j := 4) rfl (by decide) rfl (fun ls hl => ?_)
                  have hl : lv_has ls 5 [(4, .int (nI (i + 1))), (3, .int (bI (smE T a b (i + 1)))), (0, .ref (gA g 5)), (1, .int (nI (a))), (2, .int (nI (b)))] := by
                    rw [show smE T a b (i + 1) = false from by rw [smE]; simp [h7, h8]]
                    exact hl
                  refine lv_goto (tgt := 38) hx hb dX2_isSame_76 (by decide) ?_
                  exact ih_loop (i + 1) (by omega) (by omega) _ _ ls (I) (lv_sub hl [2, 3, 4, 1, 0] rfl)
                · refine lv_iconst (v := nI (1)) hx hb dX2_isSame_67 (by decide) ?_
                  refine lv_goto (tgt := 72) hx hb dX2_isSame_68 (by decide) ?_
                  refine lv_istore_n (lv' := [(3, .int (nI (1))), (0, .ref (gA g 5)), (1, .int (nI (a))), (2, .int (nI (b))), (4, .int (nI (i)))]) hx hb dX2_isSame_72 rfl hl (by decide) rfl (fun ls hl => ?_)
                  refine n_iinc (d := 1) (lv' := [(4, .int (nI (i + 1))), (3, .int (nI (1))), (0, .ref (gA g 5)), (1, .int (nI (a))), (2, .int (nI (b)))]) hx hb dX2_isSame_73 rfl hl (j := 4) rfl (by decide) rfl (fun ls hl => ?_)
                  have hl : lv_has ls 5 [(4, .int (nI (i + 1))), (3, .int (bI (smE T a b (i + 1)))), (0, .ref (gA g 5)), (1, .int (nI (a))), (2, .int (nI (b)))] := by
                    rw [show smE T a b (i + 1) = true from by rw [smE]; simp [h7, h8]]
                    exact hl
                  refine lv_goto (tgt := 38) hx hb dX2_isSame_76 (by decide) ?_
                  exact ih_loop (i + 1) (by omega) (by omega) _ _ ls (I) (lv_sub hl [2, 3, 4, 1, 0] rfl)
        exact loop (1024 + 1 - 0) (0) (by omega) (by omega) _ _ ls (I) (lv_sub hl [2, 3, 4, 1, 0] rfl)
      · refine lv_iconst (v := nI (0)) hx hb dX2_isSame_31 (by decide) ?_
        exact x_zret hx hb hr hk F I (by decide +kernel) ⟨_, _, rfl, rfl, (fail_c (SL := okI 48 x1 ∧ okI 48 x2) (NU := True) ⟨fun _ => ⟨okB_iff.mp h1, okB_iff.mp h3⟩, fun _ => rfl⟩ ⟨fun _ => trivial, fun _ => rfl⟩ h5).elim (fun q => Or.inl ⟨q.1, q.2⟩) (fun q => Or.inr (Or.inl ⟨q.1, q.2.1, q.2.2⟩))⟩ dX2_isSame_32
theorem hd_X2_isSame : yX2_isSame.cls ≠ "java/lang/invoke/MethodHandle" ∧ yX2_isSame.cls ≠ "java/lang/invoke/VarHandle" ∧ (parseMethodDescriptor yX2_isSame.desc).map (fun d => d.parameters.length) = some 2 := by decide +kernel
set_option maxHeartbeats 4000000 in
set_option maxRecDepth 100000 in
theorem m_truth (l : Launch) (g : Geo) (R : Nat → Nat → Int64) (B : Rul) (cd : Int32) (T P : Nat → Bool) (fo : Nat → Int32) (O : Nat → Int64) (x1 : Int32) (x2 : Int32) : Cs l g yX2_truth wsX2_truth (rmN 1 60) [.ref (gA g 5), .int (x1), .int (x2)] (R, B, (cd, bF T, bF P, fo), O) (fun v' u' => ∃ (r cd' : Int32), v' = some (.int r) ∧ u' = (R, B, (cd', bF T, bF P, fo), O) ∧ ((¬ (okI 48 x1) ∧ cd' = 1) ∨ ((okI 48 x1) ∧ ¬ (okI 1024 x2) ∧ cd' = 2) ∨ (cd' = 0 ∧ ∃ a_ k_ : Nat, a_ < 48 ∧ k_ < 1024 ∧ x1 = nI a_ ∧ x2 = nI k_ ∧ r = bI (T (1024 * a_ + k_))))) := by
  refine Cs.ofW RX2 rfl (by decide) rfl (Nat.le_of_ble_eq_true rfl) ?_
  intro p e s m below meth c E hr hk F I ls hl
  have hx := E.1
  have hb := E.2.1
  have hl : lv_has ls 3 [(0, .ref (gA g 5)), (1, .int (x1)), (2, .int (x2))] := hl
  refine lv_aload_n hx hb dX2_truth_0 rfl (lv_at hl 0 rfl) ?_
  refine lv_iload_n hx hb dX2_truth_1 rfl (lv_at hl 1 rfl) ?_
  refine lv_bipush (v := nI (48)) hx hb dX2_truth_2 (by decide) ?_
  refine x_callSi (rest := [.ref (gA g 5)]) E F I (m_in l g R B (cd, bF T, bF P, fo) O (x1) (N := 48) (by decide)) gX2_truth_X2_in rfl hd_X2_in rfl rfl ⟨by decide, by decide⟩ ⟨by decide, by decide⟩ rfl hl.1 rfl (Nat.le_of_ble_eq_true rfl) dX2_truth_4 (fun H locs I => ?_)
  refine lv_iload_n hx hb dX2_truth_7 rfl (lv_at hl 2 rfl) ?_
  refine lv_sipush (v := nI (1024)) hx hb dX2_truth_8 (by decide) ?_
  refine x_callSi (rest := [.int (bI (okB 48 x1)), .ref (gA g 5)]) E F I (m_in l g R B (cd, bF T, bF P, fo) O (x2) (N := 1024) (by decide)) gX2_truth_X2_in rfl hd_X2_in rfl rfl ⟨by decide, by decide⟩ ⟨by decide, by decide⟩ rfl hl.1 rfl (Nat.le_of_ble_eq_true rfl) dX2_truth_11 (fun H locs I => ?_)
  refine x_callVi 5 2 (rest := []) (C := RX2) (T0 := TX2) (N := 4) E F I (m_fails l g R B cd T P fo O (okB 48 x1) (okB 1024 x2)) gX2_truth_X2_fails rfl (by decide) rfl rfl rfl hd_X2_fails rfl rfl ⟨by decide, by decide⟩ ⟨by decide, by decide⟩ rfl hl.1 rfl (Nat.le_of_ble_eq_true rfl) dX2_truth_14 (fun H locs I => ?_)
  refine n_zne (tgt := 33) hx hb dX2_truth_17 (by decide) (fun h1 => ?_) (fun h1 => ?_)
  · refine lv_iconst (v := nI (0)) hx hb dX2_truth_33 (by decide) ?_
    exact x_zret hx hb hr hk F I (by decide +kernel) ⟨_, _, rfl, rfl, (fail_c (SL := okI 48 x1) (NU := okI 1024 x2) okB_iff okB_iff h1).elim (fun q => Or.inl ⟨q.1, q.2⟩) (fun q => Or.inr (Or.inl ⟨q.1, q.2.1, q.2.2⟩))⟩ dX2_truth_34
  · obtain ⟨hSL, hNU, hcd⟩ := good_c (SL := okI 48 x1) (NU := okI 1024 x2) okB_iff okB_iff h1
    rw [hcd] at I
    obtain ⟨a, lt_a, rfl⟩ := hSL
    obtain ⟨k, lt_k, rfl⟩ := hNU
    have hl : lv_has ls 3 [(0, .ref (gA g 5)), (1, .int (nI (a))), (2, .int (nI (k)))] := hl
    refine lv_aload_n hx hb dX2_truth_20 rfl (lv_at hl 0 rfl) ?_
    refine lv_iload_n hx hb dX2_truth_21 rfl (lv_at hl 1 rfl) ?_
    refine lv_iload_n hx hb dX2_truth_22 rfl (lv_at hl 2 rfl) ?_
    refine x_callVi 5 2 (rest := []) (C := RX2) (T0 := TX2) (N := 4) E F I (m_of l g R B 0 T P fo O (a := a) (k := k) (by omega) (by omega)) gX2_truth_X2_of rfl (by decide) rfl rfl rfl hd_X2_of rfl rfl ⟨by decide, by decide⟩ ⟨by decide, by decide⟩ rfl hl.1 rfl (Nat.le_of_ble_eq_true rfl) dX2_truth_23 (fun H locs I => ?_)
    refine n_zeq (tgt := 33) hx hb dX2_truth_26 (by decide) (fun h2 => ?_) (fun h2 => ?_)
    · refine lv_iconst (v := nI (0)) hx hb dX2_truth_33 (by decide) ?_
      exact x_zret hx hb hr hk F I (by decide +kernel) ⟨_, _, rfl, rfl, Or.inr (Or.inr ⟨rfl, a, k, lt_a, lt_k, rfl, rfl, by rw [h2]; rfl⟩)⟩ dX2_truth_34
    · refine lv_iconst (v := nI (1)) hx hb dX2_truth_29 (by decide) ?_
      refine lv_goto (tgt := 34) hx hb dX2_truth_30 (by decide) ?_
      exact x_zret hx hb hr hk F I (by decide +kernel) ⟨_, _, rfl, rfl, Or.inr (Or.inr ⟨rfl, a, k, lt_a, lt_k, rfl, rfl, by rw [h2]; rfl⟩)⟩ dX2_truth_34
theorem hd_X2_truth : yX2_truth.cls ≠ "java/lang/invoke/MethodHandle" ∧ yX2_truth.cls ≠ "java/lang/invoke/VarHandle" ∧ (parseMethodDescriptor yX2_truth.desc).map (fun d => d.parameters.length) = some 2 := by decide +kernel
set_option maxHeartbeats 4000000 in
set_option maxRecDepth 100000 in
theorem m_count (l : Launch) (g : Geo) (R : Nat → Nat → Int64) (B : Rul) (cd : Int32) (T P : Nat → Bool) (fo : Nat → Int32) (O : Nat → Int64) (x1 : Int32) : Cs l g yX2_count wsX2_count (rmN 2 60) [.ref (gA g 5), .int (x1)] (R, B, (cd, bF T, bF P, fo), O) (fun v' u' => ∃ (r cd' : Int32), v' = some (.int r) ∧ u' = (R, B, (cd', bF T, bF P, fo), O) ∧ ((¬ (okI 48 x1) ∧ cd' = 1) ∨ ((okI 48 x1) ∧ ¬ (True) ∧ cd' = 2) ∨ (cd' = 0 ∧ ∃ a_ : Nat, a_ < 48 ∧ x1 = nI a_ ∧ r = nI (cnt (fun k => T (1024 * a_ + k)) 1024)))) := by
  refine Cs.ofW RX2 rfl (by decide) rfl (Nat.le_of_ble_eq_true rfl) ?_
  intro p e s m below meth c E hr hk F I ls hl
  have hx := E.1
  have hb := E.2.1
  have hl : lv_has ls 2 [(0, .ref (gA g 5)), (1, .int (x1))] := hl
  refine lv_aload_n hx hb dX2_count_0 rfl (lv_at hl 0 rfl) ?_
  refine lv_iload_n hx hb dX2_count_1 rfl (lv_at hl 1 rfl) ?_
  refine lv_bipush (v := nI (48)) hx hb dX2_count_2 (by decide) ?_
  refine x_callSi (rest := [.ref (gA g 5)]) E F I (m_in l g R B (cd, bF T, bF P, fo) O (x1) (N := 48) (by decide)) gX2_count_X2_in rfl hd_X2_in rfl rfl ⟨by decide, by decide⟩ ⟨by decide, by decide⟩ rfl hl.1 rfl (Nat.le_of_ble_eq_true rfl) dX2_count_4 (fun H locs I => ?_)
  refine lv_iconst (v := nI (1)) hx hb dX2_count_7 (by decide) ?_
  refine x_callVi 5 2 (rest := []) (C := RX2) (T0 := TX2) (N := 4) E F I (m_fails l g R B cd T P fo O (okB 48 x1) true) gX2_count_X2_fails rfl (by decide) rfl rfl rfl hd_X2_fails rfl rfl ⟨by decide, by decide⟩ ⟨by decide, by decide⟩ rfl hl.1 rfl (Nat.le_of_ble_eq_true rfl) dX2_count_8 (fun H locs I => ?_)
  refine n_zeq (tgt := 18) hx hb dX2_count_11 (by decide) (fun h1 => ?_) (fun h1 => ?_)
  · obtain ⟨hSL, hNU, hcd⟩ := good_c (SL := okI 48 x1) (NU := True) okB_iff ⟨fun _ => trivial, fun _ => rfl⟩ h1
    rw [hcd] at I
    obtain ⟨a, lt_a, rfl⟩ := hSL
    have hl : lv_has ls 2 [(0, .ref (gA g 5)), (1, .int (nI (a)))] := hl
    refine lv_aload_n hx hb dX2_count_18 rfl (lv_at hl 0 rfl) ?_
    refine lv_iload_n hx hb dX2_count_19 rfl (lv_at hl 1 rfl) ?_
    refine x_callVi 5 2 (rest := []) (C := RX2) (T0 := TX2) (N := 4) E F I (m_many l g R B 0 T P fo O (a := a) (by omega)) gX2_count_X2_many rfl (by decide) rfl rfl rfl hd_X2_many rfl rfl ⟨by decide, by decide⟩ ⟨by decide, by decide⟩ rfl hl.1 rfl (Nat.le_of_ble_eq_true rfl) dX2_count_20 (fun H locs I => ?_)
    exact x_iret hx hb hr hk F I ⟨_, _, rfl, rfl, Or.inr (Or.inr ⟨rfl, a, lt_a, rfl, rfl⟩)⟩ dX2_count_23
  · refine lv_iconst (v := nI (0)) hx hb dX2_count_14 (by decide) ?_
    refine lv_goto (tgt := 23) hx hb dX2_count_15 (by decide) ?_
    exact x_iret hx hb hr hk F I ⟨_, _, rfl, rfl, (fail_c (SL := okI 48 x1) (NU := True) okB_iff ⟨fun _ => trivial, fun _ => rfl⟩ h1).elim (fun q => Or.inl ⟨q.1, q.2⟩) (fun q => Or.inr (Or.inl ⟨q.1, q.2.1, q.2.2⟩))⟩ dX2_count_23
theorem hd_X2_count : yX2_count.cls ≠ "java/lang/invoke/MethodHandle" ∧ yX2_count.cls ≠ "java/lang/invoke/VarHandle" ∧ (parseMethodDescriptor yX2_count.desc).map (fun d => d.parameters.length) = some 1 := by decide +kernel
set_option maxHeartbeats 4000000 in
set_option maxRecDepth 100000 in
theorem m_next (l : Launch) (g : Geo) (R : Nat → Nat → Int64) (B : Rul) (cd : Int32) (T P : Nat → Bool) (fo : Nat → Int32) (O : Nat → Int64) (x1 : Int32) (x2 : Int32) : Cs l g yX2_next wsX2_next (rmN 1 60) [.ref (gA g 5), .int (x1), .int (x2)] (R, B, (cd, bF T, bF P, fo), O) (fun v' u' => ∃ (r cd' : Int32), v' = some (.int r) ∧ u' = (R, B, (cd', bF T, bF P, fo), O) ∧ ((¬ (okI 48 x1) ∧ cd' = 1) ∨ ((okI 48 x1) ∧ ¬ (okI 1024 x2) ∧ cd' = 2) ∨ (cd' = 0 ∧ ∃ a_ k_ : Nat, a_ < 48 ∧ k_ < 1024 ∧ x1 = nI a_ ∧ x2 = nI k_ ∧ ((∃ q, k_ ≤ q ∧ q < 1024 ∧ T (1024 * a_ + q) = true ∧ (∀ z, k_ ≤ z → z < q → T (1024 * a_ + z) = false) ∧ r = nI q) ∨ ((∀ q, k_ ≤ q → q < 1024 → T (1024 * a_ + q) = false) ∧ r = -1))))) := by
  refine Cs.ofW RX2 rfl (by decide) rfl (Nat.le_of_ble_eq_true rfl) ?_
  intro p e s m below meth c E hr hk F I ls hl
  have hx := E.1
  have hb := E.2.1
  have hl : lv_has ls 4 [(0, .ref (gA g 5)), (1, .int (x1)), (2, .int (x2))] := hl
  refine lv_aload_n hx hb dX2_next_0 rfl (lv_at hl 0 rfl) ?_
  refine lv_iload_n hx hb dX2_next_1 rfl (lv_at hl 1 rfl) ?_
  refine lv_bipush (v := nI (48)) hx hb dX2_next_2 (by decide) ?_
  refine x_callSi (rest := [.ref (gA g 5)]) E F I (m_in l g R B (cd, bF T, bF P, fo) O (x1) (N := 48) (by decide)) gX2_next_X2_in rfl hd_X2_in rfl rfl ⟨by decide, by decide⟩ ⟨by decide, by decide⟩ rfl hl.1 rfl (Nat.le_of_ble_eq_true rfl) dX2_next_4 (fun H locs I => ?_)
  refine lv_iload_n hx hb dX2_next_7 rfl (lv_at hl 2 rfl) ?_
  refine lv_sipush (v := nI (1024)) hx hb dX2_next_8 (by decide) ?_
  refine x_callSi (rest := [.int (bI (okB 48 x1)), .ref (gA g 5)]) E F I (m_in l g R B (cd, bF T, bF P, fo) O (x2) (N := 1024) (by decide)) gX2_next_X2_in rfl hd_X2_in rfl rfl ⟨by decide, by decide⟩ ⟨by decide, by decide⟩ rfl hl.1 rfl (Nat.le_of_ble_eq_true rfl) dX2_next_11 (fun H locs I => ?_)
  refine x_callVi 5 2 (rest := []) (C := RX2) (T0 := TX2) (N := 4) E F I (m_fails l g R B cd T P fo O (okB 48 x1) (okB 1024 x2)) gX2_next_X2_fails rfl (by decide) rfl rfl rfl hd_X2_fails rfl rfl ⟨by decide, by decide⟩ ⟨by decide, by decide⟩ rfl hl.1 rfl (Nat.le_of_ble_eq_true rfl) dX2_next_14 (fun H locs I => ?_)
  refine n_zeq (tgt := 22) hx hb dX2_next_17 (by decide) (fun h1 => ?_) (fun h1 => ?_)
  · obtain ⟨hSL, hNU, hcd⟩ := good_c (SL := okI 48 x1) (NU := okI 1024 x2) okB_iff okB_iff h1
    rw [hcd] at I
    obtain ⟨a, lt_a, rfl⟩ := hSL
    obtain ⟨k, lt_k, rfl⟩ := hNU
    have hl : lv_has ls 4 [(0, .ref (gA g 5)), (1, .int (nI (a))), (2, .int (nI (k)))] := hl
    refine lv_iload_n hx hb dX2_next_22 rfl (lv_at hl 2 rfl) ?_
    refine lv_istore_n (lv' := [(3, .int (nI (k))), (0, .ref (gA g 5)), (1, .int (nI (a))), (2, .int (nI (k)))]) hx hb dX2_next_23 rfl hl (by decide) rfl (fun ls hl => ?_)
    have loop : ∀ (n i : Nat), i ≤ 1024 → 1024 + 1 ≤ i + n → k ≤ i → (∀ q, k ≤ q → q < i → T (1024 * a + q) = false) → ∀ (H : Heap) (locs : List Loc) (ls : Array Slot), Iv g (R, B, (0, bF T, bF P, fo), O) s H locs → lv_has ls 4 [(0, .ref (gA g 5)), (1, .int (nI (a))), (2, .int (nI (k))), (3, .int (nI (i)))] → W p l e (rmN 1 60) s m [.ref (gA g 5), .int ((nI a)), .int ((nI k))].toArray below meth c H locs 0 0 (MQ below (Qs g (fun v' u' => ∃ (r cd' : Int32), v' = some (.int r) ∧ u' = (R, B, (cd', bF T, bF P, fo), O) ∧ ((¬ (okI 48 (nI a)) ∧ cd' = 1) ∨ ((okI 48 (nI a)) ∧ ¬ (okI 1024 (nI k)) ∧ cd' = 2) ∨ (cd' = 0 ∧ ∃ a_ k_ : Nat, a_ < 48 ∧ k_ < 1024 ∧ (nI a) = nI a_ ∧ (nI k) = nI k_ ∧ ((∃ q, k_ ≤ q ∧ q < 1024 ∧ T (1024 * a_ + q) = true ∧ (∀ z, k_ ≤ z → z < q → T (1024 * a_ + z) = false) ∧ r = nI q) ∨ ((∀ q, k_ ≤ q → q < 1024 → T (1024 * a_ + q) = false) ∧ r = -1)))))) [.ref (gA g 5), .int ((nI a)), .int ((nI k))].toArray s 0 0 (gW g)) (F0 m 24 ls []) := by
      intro n
      induction n with
      | zero => intro i h1 h2; exact absurd h2 (by omega)
      | succ n ih_loop =>
        intro i hi hn hki hz H locs ls I hl
        refine lv_iload_n hx hb dX2_next_24 rfl (lv_at hl 3 rfl) ?_
        refine lv_sipush (v := nI (1024)) hx hb dX2_next_25 (by decide) ?_
        refine n_cge (tgt := 46) hx hb (by omega) (by omega) dX2_next_28 (by decide) (fun h2 => ?_) (fun h2 => ?_)
        · refine lv_iload_n hx hb dX2_next_46 rfl (lv_at hl 3 rfl) ?_
          refine lv_sipush (v := nI (1024)) hx hb dX2_next_47 (by decide) ?_
          refine n_cge (tgt := 57) hx hb (by omega) (by omega) dX2_next_50 (by decide) (fun h3 => ?_) (fun h3 => ?_)
          · refine lv_iconst (v := (-1)) hx hb dX2_next_57 (by decide) ?_
            exact x_iret hx hb hr hk F I ⟨_, _, rfl, rfl, Or.inr (Or.inr ⟨rfl, a, k, lt_a, lt_k, rfl, rfl, Or.inr ⟨fun q h5 h6 => hz q h5 (by omega), rfl⟩⟩)⟩ dX2_next_58
          · refine lv_iload_n hx hb dX2_next_53 rfl (lv_at hl 3 rfl) ?_
            refine lv_goto (tgt := 58) hx hb dX2_next_54 (by decide) ?_
            exact x_iret hx hb hr hk F I ⟨_, _, rfl, rfl, Or.inr (Or.inr ⟨rfl, a, k, lt_a, lt_k, rfl, rfl, Or.inl ⟨i, hki, by omega, (by first | assumption | (exfalso; omega)), hz, rfl⟩⟩)⟩ dX2_next_58
        · refine lv_aload_n hx hb dX2_next_31 rfl (lv_at hl 0 rfl) ?_
          refine lv_iload_n hx hb dX2_next_32 rfl (lv_at hl 1 rfl) ?_
          refine lv_iload_n hx hb dX2_next_33 rfl (lv_at hl 3 rfl) ?_
          refine x_callVi 5 2 (rest := []) (C := RX2) (T0 := TX2) (N := 4) E F I (m_of l g R B 0 T P fo O (a := a) (k := i) (by omega) (by omega)) gX2_next_X2_of rfl (by decide) rfl rfl rfl hd_X2_of rfl rfl ⟨by decide, by decide⟩ ⟨by decide, by decide⟩ rfl hl.1 rfl (Nat.le_of_ble_eq_true rfl) dX2_next_34 (fun H locs I => ?_)
          refine n_zne (tgt := 46) hx hb dX2_next_37 (by decide) (fun h4 => ?_) (fun h4 => ?_)
          · refine lv_iload_n hx hb dX2_next_46 rfl (lv_at hl 3 rfl) ?_
            refine lv_sipush (v := nI (1024)) hx hb dX2_next_47 (by decide) ?_
            refine n_cge (tgt := 57) hx hb (by omega) (by omega) dX2_next_50 (by decide) (fun h5 => ?_) (fun h5 => ?_)
            · refine lv_iconst (v := (-1)) hx hb dX2_next_57 (by decide) ?_
              exact x_iret hx hb hr hk F I ⟨_, _, rfl, rfl, Or.inr (Or.inr ⟨rfl, a, k, lt_a, lt_k, rfl, rfl, Or.inr ⟨fun q h5 h6 => hz q h5 (by omega), rfl⟩⟩)⟩ dX2_next_58
            · refine lv_iload_n hx hb dX2_next_53 rfl (lv_at hl 3 rfl) ?_
              refine lv_goto (tgt := 58) hx hb dX2_next_54 (by decide) ?_
              exact x_iret hx hb hr hk F I ⟨_, _, rfl, rfl, Or.inr (Or.inr ⟨rfl, a, k, lt_a, lt_k, rfl, rfl, Or.inl ⟨i, hki, by omega, (by first | assumption | (exfalso; omega)), hz, rfl⟩⟩)⟩ dX2_next_58
          · refine n_iinc (d := 1) (lv' := [(3, .int (nI (i + 1))), (0, .ref (gA g 5)), (1, .int (nI (a))), (2, .int (nI (k)))]) hx hb dX2_next_40 rfl hl (j := 3) rfl (by decide) rfl (fun ls hl => ?_)
            refine lv_goto (tgt := 24) hx hb dX2_next_43 (by decide) ?_
            exact ih_loop (i + 1) (by omega) (by omega) (by omega) (fun q h5 h6 => by rcases Nat.lt_or_ge q i with z | z; exact hz q h5 z; rw [show q = i by omega]; assumption) _ _ ls (I) (lv_sub hl [1, 2, 3, 0] rfl)
    exact loop (1024 + 1 - k) (k) (by omega) (by omega) (Nat.le_refl _) (fun q h5 h6 => absurd h6 (by omega)) _ _ ls (I) (lv_sub hl [1, 2, 3, 0] rfl)
  · refine lv_iconst (v := nI (0)) hx hb dX2_next_20 (by decide) ?_
    exact x_iret hx hb hr hk F I ⟨_, _, rfl, rfl, (fail_c (SL := okI 48 x1) (NU := okI 1024 x2) okB_iff okB_iff h1).elim (fun q => Or.inl ⟨q.1, q.2⟩) (fun q => Or.inr (Or.inl ⟨q.1, q.2.1, q.2.2⟩))⟩ dX2_next_21
theorem hd_X2_next : yX2_next.cls ≠ "java/lang/invoke/MethodHandle" ∧ yX2_next.cls ≠ "java/lang/invoke/VarHandle" ∧ (parseMethodDescriptor yX2_next.desc).map (fun d => d.parameters.length) = some 2 := by decide +kernel
set_option maxHeartbeats 4000000 in
set_option maxRecDepth 100000 in
theorem m_depends (l : Launch) (g : Geo) (R : Nat → Nat → Int64) (B : Rul) (cd : Int32) (T P : Nat → Bool) (fo : Nat → Int32) (O : Nat → Int64) (x1 : Int32) : Cs l g yX2_depends wsX2_depends (rmN 1 60) [.ref (gA g 5), .int (x1)] (R, B, (cd, bF T, bF P, fo), O) (fun v' u' => ∃ (r cd' : Int32), v' = some (.int r) ∧ u' = (R, B, (cd', bF T, bF P, fo), O) ∧ ((¬ (okI 48 x1) ∧ cd' = 1) ∨ ((okI 48 x1) ∧ ¬ (True) ∧ cd' = 2) ∨ (cd' = 0 ∧ ∃ a_ : Nat, a_ < 48 ∧ x1 = nI a_ ∧ r = nI (dpS T a_ 10)))) := by
  refine Cs.ofW RX2 rfl (by decide) rfl (Nat.le_of_ble_eq_true rfl) ?_
  intro p e s m below meth c E hr hk F I ls hl
  have hx := E.1
  have hb := E.2.1
  have hl : lv_has ls 6 [(0, .ref (gA g 5)), (1, .int (x1))] := hl
  refine lv_aload_n hx hb dX2_depends_0 rfl (lv_at hl 0 rfl) ?_
  refine lv_iload_n hx hb dX2_depends_1 rfl (lv_at hl 1 rfl) ?_
  refine lv_bipush (v := nI (48)) hx hb dX2_depends_2 (by decide) ?_
  refine x_callSi (rest := [.ref (gA g 5)]) E F I (m_in l g R B (cd, bF T, bF P, fo) O (x1) (N := 48) (by decide)) gX2_depends_X2_in rfl hd_X2_in rfl rfl ⟨by decide, by decide⟩ ⟨by decide, by decide⟩ rfl hl.1 rfl (Nat.le_of_ble_eq_true rfl) dX2_depends_4 (fun H locs I => ?_)
  refine lv_iconst (v := nI (1)) hx hb dX2_depends_7 (by decide) ?_
  refine x_callVi 5 2 (rest := []) (C := RX2) (T0 := TX2) (N := 4) E F I (m_fails l g R B cd T P fo O (okB 48 x1) true) gX2_depends_X2_fails rfl (by decide) rfl rfl rfl hd_X2_fails rfl rfl ⟨by decide, by decide⟩ ⟨by decide, by decide⟩ rfl hl.1 rfl (Nat.le_of_ble_eq_true rfl) dX2_depends_8 (fun H locs I => ?_)
  refine n_zeq (tgt := 16) hx hb dX2_depends_11 (by decide) (fun h1 => ?_) (fun h1 => ?_)
  · obtain ⟨hSL, hNU, hcd⟩ := good_c (SL := okI 48 x1) (NU := True) okB_iff ⟨fun _ => trivial, fun _ => rfl⟩ h1
    rw [hcd] at I
    obtain ⟨a, lt_a, rfl⟩ := hSL
    have hl : lv_has ls 6 [(0, .ref (gA g 5)), (1, .int (nI (a)))] := hl
    refine lv_iconst (v := nI (0)) hx hb dX2_depends_16 (by decide) ?_
    refine lv_istore_n (lv' := [(2, .int (nI (0))), (0, .ref (gA g 5)), (1, .int (nI (a)))]) hx hb dX2_depends_17 rfl hl (by decide) rfl (fun ls hl => ?_)
    refine lv_iconst (v := nI (0)) hx hb dX2_depends_18 (by decide) ?_
    refine lv_istore_n (lv' := [(3, .int (nI (0))), (2, .int (nI (0))), (0, .ref (gA g 5)), (1, .int (nI (a)))]) hx hb dX2_depends_19 rfl hl (by decide) rfl (fun ls hl => ?_)
    have loop : ∀ (n i : Nat), i ≤ 10 → 10 + 1 ≤ i + n → ∀ (H : Heap) (locs : List Loc) (ls : Array Slot), Iv g (R, B, (0, bF T, bF P, fo), O) s H locs → lv_has ls 6 [(0, .ref (gA g 5)), (1, .int (nI (a))), (2, .int (nI (dpS T a (i)))), (3, .int (nI (i)))] → W p l e (rmN 1 60) s m [.ref (gA g 5), .int ((nI a))].toArray below meth c H locs 0 0 (MQ below (Qs g (fun v' u' => ∃ (r cd' : Int32), v' = some (.int r) ∧ u' = (R, B, (cd', bF T, bF P, fo), O) ∧ ((¬ (okI 48 (nI a)) ∧ cd' = 1) ∨ ((okI 48 (nI a)) ∧ ¬ (True) ∧ cd' = 2) ∨ (cd' = 0 ∧ ∃ a_ : Nat, a_ < 48 ∧ (nI a) = nI a_ ∧ r = nI (dpS T a_ 10))))) [.ref (gA g 5), .int ((nI a))].toArray s 0 0 (gW g)) (F0 m 20 ls []) := by
      intro n
      induction n with
      | zero => intro i h1 h2; exact absurd h2 (by omega)
      | succ n ih_loop =>
        intro i hi hn H locs ls I hl
        refine lv_iload_n hx hb dX2_depends_20 rfl (lv_at hl 3 rfl) ?_
        refine lv_bipush (v := nI (10)) hx hb dX2_depends_21 (by decide) ?_
        refine n_cge (tgt := 102) hx hb (by omega) (by omega) dX2_depends_23 (by decide) (fun h2 => ?_) (fun h2 => ?_)
        · obtain rfl : i = 10 := by omega
          have hl : lv_has ls 6 [(0, .ref (gA g 5)), (1, .int (nI (a))), (2, .int (nI (dpS T a (10)))), (3, .int (nI (10)))] := hl
          refine lv_iload_n hx hb dX2_depends_102 rfl (lv_at hl 2 rfl) ?_
          exact x_iret hx hb hr hk F I ⟨_, _, rfl, rfl, Or.inr (Or.inr ⟨rfl, a, lt_a, rfl, rfl⟩)⟩ dX2_depends_103
        · refine lv_iconst (v := nI (0)) hx hb dX2_depends_26 (by decide) ?_
          refine lv_istore (lv' := [(4, .int (nI (0))), (0, .ref (gA g 5)), (1, .int (nI (a))), (2, .int (nI (dpS T a (i)))), (3, .int (nI (i)))]) hx hb dX2_depends_27 hl (by decide) rfl (fun ls hl => ?_)
          refine lv_iconst (v := nI (0)) hx hb dX2_depends_29 (by decide) ?_
          refine lv_istore (lv' := [(5, .int (nI (0))), (4, .int (nI (0))), (0, .ref (gA g 5)), (1, .int (nI (a))), (2, .int (nI (dpS T a (i)))), (3, .int (nI (i)))]) hx hb dX2_depends_30 hl (by decide) rfl (fun ls hl => ?_)
          have loop2 : ∀ (n j : Nat), j ≤ 1024 → 1024 + 1 ≤ j + n → ∀ (H : Heap) (locs : List Loc) (ls : Array Slot), Iv g (R, B, (0, bF T, bF P, fo), O) s H locs → lv_has ls 6 [(0, .ref (gA g 5)), (1, .int (nI (a))), (2, .int (nI (dpS T a (i)))), (3, .int (nI (i))), (4, .int (bI (dfE T a i (j)))), (5, .int (nI (j)))] → W p l e (rmN 1 60) s m [.ref (gA g 5), .int ((nI a))].toArray below meth c H locs 0 0 (MQ below (Qs g (fun v' u' => ∃ (r cd' : Int32), v' = some (.int r) ∧ u' = (R, B, (cd', bF T, bF P, fo), O) ∧ ((¬ (okI 48 (nI a)) ∧ cd' = 1) ∨ ((okI 48 (nI a)) ∧ ¬ (True) ∧ cd' = 2) ∨ (cd' = 0 ∧ ∃ a_ : Nat, a_ < 48 ∧ (nI a) = nI a_ ∧ r = nI (dpS T a_ 10))))) [.ref (gA g 5), .int ((nI a))].toArray s 0 0 (gW g)) (F0 m 32 ls []) := by
            intro n
            induction n with
            | zero => intro j h1 h2; exact absurd h2 (by omega)
            | succ n ih_loop2 =>
              intro j hij hn H locs ls I hl
              refine lv_iload hx hb dX2_depends_32 (lv_at hl 5 rfl) ?_
              refine lv_sipush (v := nI (1024)) hx hb dX2_depends_34 (by decide) ?_
              refine n_cge (tgt := 80) hx hb (by omega) (by omega) dX2_depends_37 (by decide) (fun h3 => ?_) (fun h3 => ?_)
              · obtain rfl : j = 1024 := by omega
                have hl : lv_has ls 6 [(0, .ref (gA g 5)), (1, .int (nI (a))), (2, .int (nI (dpS T a (i)))), (3, .int (nI (i))), (4, .int (bI (dfE T a i (1024)))), (5, .int (nI (1024)))] := hl
                refine lv_iload hx hb dX2_depends_80 (lv_at hl 4 rfl) ?_
                refine n_zeq (tgt := 94) hx hb dX2_depends_82 (by decide) (fun h4 => ?_) (fun h4 => ?_)
                · refine lv_iload_n hx hb dX2_depends_94 rfl (lv_at hl 2 rfl) ?_
                  refine lv_istore_n (lv' := [(2, .int (nI (dpS T a (i)))), (0, .ref (gA g 5)), (1, .int (nI (a))), (3, .int (nI (i))), (4, .int (bI (dfE T a i (1024)))), (5, .int (nI (1024)))]) hx hb dX2_depends_95 rfl hl (by decide) rfl (fun ls hl => ?_)
                  refine n_iinc (d := 1) (lv' := [(3, .int (nI (i + 1))), (2, .int (nI (dpS T a (i)))), (0, .ref (gA g 5)), (1, .int (nI (a))), (4, .int (bI (dfE T a i (1024)))), (5, .int (nI (1024)))]) hx hb dX2_depends_96 rfl hl (j := 3) rfl (by decide) rfl (fun ls hl => ?_)
                  have hl : lv_has ls 6 [(3, .int (nI (i + 1))), (2, .int (nI (dpS T a (i + 1)))), (0, .ref (gA g 5)), (1, .int (nI (a))), (4, .int (bI (dfE T a i (1024)))), (5, .int (nI (1024)))] := by
                    rw [show dpS T a (i + 1) = dpS T a (i) from by rw [dpS]; simp [h4]]
                    exact hl
                  refine lv_goto (tgt := 20) hx hb dX2_depends_99 (by decide) ?_
                  exact ih_loop (i + 1) (by omega) (by omega) _ _ ls (I) (lv_sub hl [2, 3, 1, 0] rfl)
                · refine lv_iload_n hx hb dX2_depends_85 rfl (lv_at hl 2 rfl) ?_
                  refine lv_iload_n hx hb dX2_depends_86 rfl (lv_at hl 3 rfl) ?_
                  refine x_callSi (rest := [.int (nI (dpS T a (i)))]) E F I (m_bit l g R B (0, bF T, bF P, fo) O (v := i) (by omega)) gX2_depends_X2_bit rfl hd_X2_bit rfl rfl ⟨by decide, by decide⟩ ⟨by decide, by decide⟩ rfl hl.1 rfl (Nat.le_of_ble_eq_true rfl) dX2_depends_87 (fun H locs I => ?_)
                  refine n_ior hx hb dX2_depends_90 ?_
                  refine lv_goto (tgt := 95) hx hb dX2_depends_91 (by decide) ?_
                  refine lv_istore_n (lv' := [(2, .int (nI ((dpS T a (i)) ||| (bitN i)))), (0, .ref (gA g 5)), (1, .int (nI (a))), (3, .int (nI (i))), (4, .int (bI (dfE T a i (1024)))), (5, .int (nI (1024)))]) hx hb dX2_depends_95 rfl hl (by decide) rfl (fun ls hl => ?_)
                  refine n_iinc (d := 1) (lv' := [(3, .int (nI (i + 1))), (2, .int (nI ((dpS T a (i)) ||| (bitN i)))), (0, .ref (gA g 5)), (1, .int (nI (a))), (4, .int (bI (dfE T a i (1024)))), (5, .int (nI (1024)))]) hx hb dX2_depends_96 rfl hl (j := 3) rfl (by decide) rfl (fun ls hl => ?_)
                  have hl : lv_has ls 6 [(3, .int (nI (i + 1))), (2, .int (nI (dpS T a (i + 1)))), (0, .ref (gA g 5)), (1, .int (nI (a))), (4, .int (bI (dfE T a i (1024)))), (5, .int (nI (1024)))] := by
                    rw [show dpS T a (i + 1) = (dpS T a (i)) ||| (bitN i) from by rw [dpS]; simp [h4]]
                    exact hl
                  refine lv_goto (tgt := 20) hx hb dX2_depends_99 (by decide) ?_
                  exact ih_loop (i + 1) (by omega) (by omega) _ _ ls (I) (lv_sub hl [2, 3, 1, 0] rfl)
              · refine lv_iload hx hb dX2_depends_40 (lv_at hl 4 rfl) ?_
                refine n_zne (tgt := 67) hx hb dX2_depends_42 (by decide) (fun h5 => ?_) (fun h5 => ?_)
                · refine lv_iconst (v := nI (1)) hx hb dX2_depends_67 (by decide) ?_
                  refine lv_goto (tgt := 72) hx hb dX2_depends_68 (by decide) ?_
                  refine lv_istore (lv' := [(4, .int (nI (1))), (0, .ref (gA g 5)), (1, .int (nI (a))), (2, .int (nI (dpS T a (i)))), (3, .int (nI (i))), (5, .int (nI (j)))]) hx hb dX2_depends_72 hl (by decide) rfl (fun ls hl => ?_)
                  refine n_iinc (d := 1) (lv' := [(5, .int (nI (j + 1))), (4, .int (nI (1))), (0, .ref (gA g 5)), (1, .int (nI (a))), (2, .int (nI (dpS T a (i)))), (3, .int (nI (i)))]) hx hb dX2_depends_74 rfl hl (j := 5) rfl (by decide) rfl (fun ls hl => ?_)
                  have hl : lv_has ls 6 [(5, .int (nI (j + 1))), (4, .int (bI (dfE T a i (j + 1)))), (0, .ref (gA g 5)), (1, .int (nI (a))), (2, .int (nI (dpS T a (i)))), (3, .int (nI (i)))] := by
                    rw [show dfE T a i (j + 1) = true from by rw [dfE]; simp [h5]]
                    exact hl
                  refine lv_goto (tgt := 32) hx hb dX2_depends_77 (by decide) ?_
                  exact ih_loop2 (j + 1) (by omega) (by omega) _ _ ls (I) (lv_sub hl [2, 3, 4, 5, 1, 0] rfl)
                · refine lv_aload_n hx hb dX2_depends_45 rfl (lv_at hl 0 rfl) ?_
                  refine lv_iload_n hx hb dX2_depends_46 rfl (lv_at hl 1 rfl) ?_
                  refine lv_iload hx hb dX2_depends_47 (lv_at hl 5 rfl) ?_
                  refine x_callVi 5 2 (rest := []) (C := RX2) (T0 := TX2) (N := 4) E F I (m_of l g R B 0 T P fo O (a := a) (k := j) (by omega) (by omega)) gX2_depends_X2_of rfl (by decide) rfl rfl rfl hd_X2_of rfl rfl ⟨by decide, by decide⟩ ⟨by decide, by decide⟩ rfl hl.1 rfl (Nat.le_of_ble_eq_true rfl) dX2_depends_49 (fun H locs I => ?_)
                  refine lv_aload_n hx hb dX2_depends_52 rfl (lv_at hl 0 rfl) ?_
                  refine lv_iload_n hx hb dX2_depends_53 rfl (lv_at hl 1 rfl) ?_
                  refine lv_iload hx hb dX2_depends_54 (lv_at hl 5 rfl) ?_
                  refine lv_iload_n hx hb dX2_depends_56 rfl (lv_at hl 3 rfl) ?_
                  refine x_callSi (rest := [.int (nI (j)), .int (nI (a)), .ref (gA g 5), .int (bI (T (1024 * a + j)))]) E F I (m_bit l g R B (0, bF T, bF P, fo) O (v := i) (by omega)) gX2_depends_X2_bit rfl hd_X2_bit rfl rfl ⟨by decide, by decide⟩ ⟨by decide, by decide⟩ rfl hl.1 rfl (Nat.le_of_ble_eq_true rfl) dX2_depends_57 (fun H locs I => ?_)
                  refine n_ixor hx hb dX2_depends_60 ?_
                  refine x_callVi 5 2 (rest := [.int (bI (T (1024 * a + j)))]) (C := RX2) (T0 := TX2) (N := 4) E F I (m_of l g R B 0 T P fo O (a := a) (k := (j) ^^^ (bitN i)) (by omega) (xor1024 (by omega) bitN_lt)) gX2_depends_X2_of rfl (by decide) rfl rfl rfl hd_X2_of rfl rfl ⟨by decide, by decide⟩ ⟨by decide, by decide⟩ rfl hl.1 rfl (Nat.le_of_ble_eq_true rfl) dX2_depends_61 (fun H locs I => ?_)
                  refine n_zzeq (tgt := 71) hx hb dX2_depends_64 (by decide) (fun h6 => ?_) (fun h6 => ?_)
                  · refine lv_iconst (v := nI (0)) hx hb dX2_depends_71 (by decide) ?_
                    refine lv_istore (lv' := [(4, .int (nI (0))), (0, .ref (gA g 5)), (1, .int (nI (a))), (2, .int (nI (dpS T a (i)))), (3, .int (nI (i))), (5, .int (nI (j)))]) hx hb dX2_depends_72 hl (by decide) rfl (fun ls hl => ?_)
                    refine n_iinc (d := 1) (lv' := [(5, .int (nI (j + 1))), (4, .int (nI (0))), (0, .ref (gA g 5)), (1, .int (nI (a))), (2, .int (nI (dpS T a (i)))), (3, .int (nI (i)))]) hx hb dX2_depends_74 rfl hl (j := 5) rfl (by decide) rfl (fun ls hl => ?_)
                    have hl : lv_has ls 6 [(5, .int (nI (j + 1))), (4, .int (bI (dfE T a i (j + 1)))), (0, .ref (gA g 5)), (1, .int (nI (a))), (2, .int (nI (dpS T a (i)))), (3, .int (nI (i)))] := by
                      rw [show dfE T a i (j + 1) = false from by rw [dfE]; simp [h5, h6]]
                      exact hl
                    refine lv_goto (tgt := 32) hx hb dX2_depends_77 (by decide) ?_
                    exact ih_loop2 (j + 1) (by omega) (by omega) _ _ ls (I) (lv_sub hl [2, 3, 4, 5, 1, 0] rfl)
                  · refine lv_iconst (v := nI (1)) hx hb dX2_depends_67 (by decide) ?_
                    refine lv_goto (tgt := 72) hx hb dX2_depends_68 (by decide) ?_
                    refine lv_istore (lv' := [(4, .int (nI (1))), (0, .ref (gA g 5)), (1, .int (nI (a))), (2, .int (nI (dpS T a (i)))), (3, .int (nI (i))), (5, .int (nI (j)))]) hx hb dX2_depends_72 hl (by decide) rfl (fun ls hl => ?_)
                    refine n_iinc (d := 1) (lv' := [(5, .int (nI (j + 1))), (4, .int (nI (1))), (0, .ref (gA g 5)), (1, .int (nI (a))), (2, .int (nI (dpS T a (i)))), (3, .int (nI (i)))]) hx hb dX2_depends_74 rfl hl (j := 5) rfl (by decide) rfl (fun ls hl => ?_)
                    have hl : lv_has ls 6 [(5, .int (nI (j + 1))), (4, .int (bI (dfE T a i (j + 1)))), (0, .ref (gA g 5)), (1, .int (nI (a))), (2, .int (nI (dpS T a (i)))), (3, .int (nI (i)))] := by
                      rw [show dfE T a i (j + 1) = true from by rw [dfE]; simp [h5, h6]]
                      exact hl
                    refine lv_goto (tgt := 32) hx hb dX2_depends_77 (by decide) ?_
                    exact ih_loop2 (j + 1) (by omega) (by omega) _ _ ls (I) (lv_sub hl [2, 3, 4, 5, 1, 0] rfl)
          exact loop2 (1024 + 1 - 0) (0) (by omega) (by omega) _ _ ls (I) (lv_sub hl [2, 3, 4, 5, 1, 0] rfl)
    exact loop (10 + 1 - 0) (0) (by omega) (by omega) _ _ ls (I) (lv_sub hl [2, 3, 1, 0] rfl)
  · refine lv_iconst (v := nI (0)) hx hb dX2_depends_14 (by decide) ?_
    exact x_iret hx hb hr hk F I ⟨_, _, rfl, rfl, (fail_c (SL := okI 48 x1) (NU := True) okB_iff ⟨fun _ => trivial, fun _ => rfl⟩ h1).elim (fun q => Or.inl ⟨q.1, q.2⟩) (fun q => Or.inr (Or.inl ⟨q.1, q.2.1, q.2.2⟩))⟩ dX2_depends_15
theorem hd_X2_depends : yX2_depends.cls ≠ "java/lang/invoke/MethodHandle" ∧ yX2_depends.cls ≠ "java/lang/invoke/VarHandle" ∧ (parseMethodDescriptor yX2_depends.desc).map (fun d => d.parameters.length) = some 1 := by decide +kernel
