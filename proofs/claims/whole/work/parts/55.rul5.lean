def sumL (cs : Nat → Nat) (lo v : Nat) : Nat := sumN (fun w => if lo ≤ w then cs w else 0) v
theorem sumL_up {cs : Nat → Nat} {lo v c : Nat} : sumL (va_up cs v c) lo (v + 1) = sumL cs lo v + (if lo ≤ v then c else 0) := by
  have h : ∀ j, j ≤ v → sumN (fun w => if lo ≤ w then va_up cs v c w else 0) j = sumN (fun w => if lo ≤ w then cs w else 0) j := by
    intro j
    induction j with
    | zero => intro _; rfl
    | succ j ih => intro hj; rw [sumN, sumN, ih (by omega), va_up_ne _ _ (by omega)]
  unfold sumL
  rw [sumN, h v (Nat.le_refl _), va_up_self]
theorem sumL_a {cs : Nat → Nat} {lo v c : Nat} (h : v < lo) : sumL (va_up cs v c) lo (v + 1) = sumL cs lo v := by rw [sumL_up, if_neg (by omega), Nat.add_zero]
theorem sumL_b {cs : Nat → Nat} {lo v c : Nat} (h : lo ≤ v) : sumL (va_up cs v c) lo (v + 1) = sumL cs lo v + c := by rw [sumL_up, if_pos h]
theorem sumL_all (cs : Nat → Nat) (v : Nat) : sumL cs 0 v = sumN cs v := by
  unfold sumL
  congr 1
theorem sumL_one (cs : Nat → Nat) (v : Nat) : sumL cs v (v + 1) = cs v := by
  have h : ∀ j, j ≤ v → sumN (fun w => if v ≤ w then cs w else 0) j = 0 := by
    intro j
    induction j with
    | zero => intro _; rfl
    | succ j ih => intro hj; rw [sumN, ih (by omega), if_neg (by omega)]
  unfold sumL
  rw [sumN, h v (Nat.le_refl _), if_pos (Nat.le_refl _), Nat.zero_add]
theorem LvI_0 {R : Nat → Nat → Int64} {fr to us ct fi : Nat} {q rit : Nat → Nat} {wt se : Nat → Int32} (hs : HS R fr to 0 us 0 rit wt se fi ct q) (hc : ∀ x, fr ≤ x → x < to + 1 → ∃ i, i < ct ∧ Ew R 0 (q i) x) : LvI R fr to 0 ct q ∧ Rg wt fi ct q := by
  obtain ⟨h1, h2, h3⟩ := hs
  refine ⟨⟨h3, h1.2.2.1, fun x hx1 hx2 => hc x (by omega) (by omega)⟩, fun t ht => ?_⟩
  have := h2 t (by omega)
  simpa using this
theorem wm_X0_nodesOf_f18 : Cond.fieldLink RX0 18 "FunctionDesk$Ruler" "first" "I" ∈ wsX0_nodesOf := by decide +kernel
theorem inw_X0_nodesOf_X0 : ∀ w ∈ wsX00, w ∈ wsX0_nodesOf := by decide +kernel
theorem wm_X0_nodesOf_f22 : Cond.fieldLink RX0 22 "FunctionDesk$Ruler" "length" "I" ∈ wsX0_nodesOf := by decide +kernel
set_option maxHeartbeats 4000000 in
set_option maxRecDepth 100000 in
theorem r_nodesOf (l : Launch) (g : Geo) (R : Nat → Nat → Int64) (wt se : Nat → Int32) (fi le us : Int32) (M : Mod) (O : Nat → Int64) {fr to lo hi : Nat} (hft : fr ≤ to) (hto : to < 48) (hlo : lo < 10) (hhi : hi < 10) : Cs l g yX0_nodesOf wsX0_nodesOf (rmN 4 107) [.ref (gA g 2), .ref (gA g 1), .int (nI (fr)), .int (nI (to)), .int (nI (lo)), .int (nI (hi))] (R, (wt, se, fi, le, us), M, O) (fun v' u' => ∃ (cs : Nat → Nat) (B' : Rul), v' = some (.int (nI (sumL cs lo (hi + 1)))) ∧ allNum (tbl R) fr to (hi + 1) cs ∧ u' = (R, B', M, O)) := by
  refine Cs.ofW RX0 rfl (by decide) rfl (Nat.le_of_ble_eq_true rfl) ?_
  intro p e s m below meth c E hr hk F I ls hl
  have hx := E.1
  have hb := E.2.1
  have hl : lv_has ls 9 [(0, .ref (gA g 2)), (1, .ref (gA g 1)), (2, .int (nI (fr))), (3, .int (nI (to))), (4, .int (nI (lo))), (5, .int (nI (hi)))] := hl
  refine lv_aload_n hx hb dX0_nodesOf_0 rfl (lv_at hl 0 rfl) ?_
  refine lv_iconst (v := nI (0)) hx hb dX0_nodesOf_1 (by decide) ?_
  refine x_put 2 0 1 (u' := (R, (wt, se, nI (0), le, us), M, O)) (C := RX0) (T := TX0) (N := 5) tyX0 tyX0_ok nmX0 E F I inw_X0_nodesOf_X0 (by decide) rfl rfl ec_o2 rfl (by decide) wm_X0_nodesOf_f18 rfl (by decide +kernel) (Nat.le_of_ble_eq_true rfl) dX0_nodesOf_2 (fun H locs I => ?_)
  refine lv_aload_n hx hb dX0_nodesOf_5 rfl (lv_at hl 0 rfl) ?_
  refine lv_iconst (v := nI (0)) hx hb dX0_nodesOf_6 (by decide) ?_
  refine x_put 2 0 2 (u' := (R, (wt, se, nI (0), nI (0), us), M, O)) (C := RX0) (T := TX0) (N := 5) tyX0 tyX0_ok nmX0 E F I inw_X0_nodesOf_X0 (by decide) rfl rfl ec_o2 rfl (by decide) wm_X0_nodesOf_f22 rfl (by decide +kernel) (Nat.le_of_ble_eq_true rfl) dX0_nodesOf_7 (fun H locs I => ?_)
  refine lv_aload_n hx hb dX0_nodesOf_10 rfl (lv_at hl 0 rfl) ?_
  refine lv_iload_n hx hb dX0_nodesOf_11 rfl (lv_at hl 3 rfl) ?_
  refine lv_iload_n hx hb dX0_nodesOf_12 rfl (lv_at hl 2 rfl) ?_
  refine n_isub hx hb (by omega) dX0_nodesOf_13 ?_
  refine lv_iconst (v := nI (1)) hx hb dX0_nodesOf_14 (by decide) ?_
  refine n_iadd hx hb dX0_nodesOf_15 ?_
  refine x_callV 2 0 (rest := []) (C := RX0) (T0 := TX0) (N := 5) E F I (r_clearSeats l g R wt se (nI (0)) (nI (0)) us M O (pt := to - fr + 1) (by omega)) gX0_nodesOf_X0_clearSeats rfl (by decide) rfl rfl rfl hd_X0_clearSeats rfl rfl ⟨by decide, by decide⟩ ⟨by decide, by decide⟩ rfl hl.1 rfl (Nat.le_of_ble_eq_true rfl) dX0_nodesOf_16 (fun v9 u9 H locs hp I => ?_)
  obtain ⟨rfl, ex, se1, hex, hus, hse0, rfl⟩ := hp
  refine W.eq (g2 := F0 m 19 ls []) rfl ?_
  refine lv_iload_n hx hb dX0_nodesOf_19 rfl (lv_at hl 2 rfl) ?_
  refine lv_istore (lv' := [(6, .int (nI (fr))), (0, .ref (gA g 2)), (1, .ref (gA g 1)), (2, .int (nI (fr))), (3, .int (nI (to))), (4, .int (nI (lo))), (5, .int (nI (hi)))]) hx hb dX0_nodesOf_20 hl (by decide) rfl (fun ls hl => ?_)
  have loop : ∀ (n k : Nat), k ≤ (to + 1) → (to + 1) + 1 ≤ k + n → ∀ (wt2 se2 : Nat → Int32) (ct : Nat) (q : Nat → Nat), HS R fr to 0 (2 ^ ex) 0 (fun t => t) wt2 se2 0 ct q → (∀ x, fr ≤ x → x < k → ∃ i, i < ct ∧ Ew R 0 (q i) x) → ct ≤ k - fr → fr ≤ k → ∀ (H : Heap) (locs : List Loc) (ls : Array Slot), Iv g (R, (wt2, se2, nI (0), nI (0 + ct), nI (2 ^ ex)), M, O) s H locs → lv_has ls 9 [(0, .ref (gA g 2)), (1, .ref (gA g 1)), (2, .int (nI (fr))), (3, .int (nI (to))), (4, .int (nI (lo))), (5, .int (nI (hi))), (6, .int (nI (k)))] → W p l e (rmN 4 107) s m [.ref (gA g 2), .ref (gA g 1), .int (nI (fr)), .int (nI (to)), .int (nI (lo)), .int (nI (hi))].toArray below meth c H locs 0 0 (MQ below (Qs g (fun v' u' => ∃ (cs : Nat → Nat) (B' : Rul), v' = some (.int (nI (sumL cs lo (hi + 1)))) ∧ allNum (tbl R) fr to (hi + 1) cs ∧ u' = (R, B', M, O))) [.ref (gA g 2), .ref (gA g 1), .int (nI (fr)), .int (nI (to)), .int (nI (lo)), .int (nI (hi))].toArray s 0 0 (gW g)) (F0 m 22 ls []) := by
    intro n
    induction n with
    | zero => intro k h1 h2; exact absurd h2 (by omega)
    | succ n ih_loop =>
      intro k hik hn wt2 se2 ct q hS hCv hct hfk H locs ls I hl
      refine lv_iload hx hb dX0_nodesOf_22 (lv_at hl 6 rfl) ?_
      refine lv_iload_n hx hb dX0_nodesOf_24 rfl (lv_at hl 3 rfl) ?_
      refine n_cgt (tgt := 42) hx hb (by omega) (by omega) dX0_nodesOf_25 (by decide) (fun h1 => ?_) (fun h1 => ?_)
      · obtain rfl : k = to + 1 := by omega
        obtain ⟨hL0, hG0⟩ := LvI_0 hS hCv
        rw [Nat.zero_add] at I
        refine lv_iconst (v := nI (0)) hx hb dX0_nodesOf_42 (by decide) ?_
        refine lv_istore (lv' := [(6, .int (nI (0))), (0, .ref (gA g 2)), (1, .ref (gA g 1)), (2, .int (nI (fr))), (3, .int (nI (to))), (4, .int (nI (lo))), (5, .int (nI (hi)))]) hx hb dX0_nodesOf_43 hl (by decide) rfl (fun ls hl => ?_)
        refine lv_iconst (v := nI (0)) hx hb dX0_nodesOf_45 (by decide) ?_
        refine lv_istore (lv' := [(7, .int (nI (0))), (6, .int (nI (0))), (0, .ref (gA g 2)), (1, .ref (gA g 1)), (2, .int (nI (fr))), (3, .int (nI (to))), (4, .int (nI (lo))), (5, .int (nI (hi)))]) hx hb dX0_nodesOf_46 hl (by decide) rfl (fun ls hl => ?_)
        have loop2 : ∀ (n v : Nat), v ≤ (hi + 1) → (hi + 1) + 1 ≤ v + n → ∀ (wt3 se3 : Nat → Int32) (fi3 n3 : Nat) (us3 : Int32) (it3 cs : Nat → Nat), fi3 < 4096 → LvI R fr to v n3 it3 → Rg wt3 fi3 n3 it3 → allNum (tbl R) fr to v cs → ∀ (H : Heap) (locs : List Loc) (ls : Array Slot), Iv g (R, (wt3, se3, nI (fi3), nI (n3), us3), M, O) s H locs → lv_has ls 9 [(0, .ref (gA g 2)), (1, .ref (gA g 1)), (2, .int (nI (fr))), (3, .int (nI (to))), (4, .int (nI (lo))), (5, .int (nI (hi))), (6, .int (nI (sumL cs lo (v)))), (7, .int (nI (v)))] → W p l e (rmN 4 107) s m [.ref (gA g 2), .ref (gA g 1), .int (nI (fr)), .int (nI (to)), .int (nI (lo)), .int (nI (hi))].toArray below meth c H locs 0 0 (MQ below (Qs g (fun v' u' => ∃ (cs : Nat → Nat) (B' : Rul), v' = some (.int (nI (sumL cs lo (hi + 1)))) ∧ allNum (tbl R) fr to (hi + 1) cs ∧ u' = (R, B', M, O))) [.ref (gA g 2), .ref (gA g 1), .int (nI (fr)), .int (nI (to)), .int (nI (lo)), .int (nI (hi))].toArray s 0 0 (gW g)) (F0 m 48 ls []) := by
          intro n
          induction n with
          | zero => intro v h1 h2; exact absurd h2 (by omega)
          | succ n ih_loop2 =>
            intro v hiv hn wt3 se3 fi3 n3 us3 it3 cs hf3 hL3 hG3 hA3 H locs ls I hl
            refine lv_iload hx hb dX0_nodesOf_48 (lv_at hl 7 rfl) ?_
            refine lv_iload hx hb dX0_nodesOf_50 (lv_at hl 5 rfl) ?_
            refine n_cgt (tgt := 84) hx hb (by omega) (by omega) dX0_nodesOf_52 (by decide) (fun h2 => ?_) (fun h2 => ?_)
            · refine lv_iload hx hb dX0_nodesOf_84 (lv_at hl 6 rfl) ?_
              obtain rfl : v = hi + 1 := by omega
              exact x_iret hx hb hr hk F I ⟨cs, _, rfl, hA3, rfl⟩ dX0_nodesOf_86
            · refine lv_aload_n hx hb dX0_nodesOf_55 rfl (lv_at hl 0 rfl) ?_
              refine lv_aload_n hx hb dX0_nodesOf_56 rfl (lv_at hl 1 rfl) ?_
              refine lv_iload hx hb dX0_nodesOf_57 (lv_at hl 7 rfl) ?_
              refine x_callV 2 0 (rest := []) (C := RX0) (T0 := TX0) (N := 5) E F I (r_halveAll l g R wt3 se3 fi3 n3 us3 M O (fr := fr) (to := to) (v := v) (it := it3) (by omega) hft hto hf3 hL3 hG3) gX0_nodesOf_X0_halveAll rfl (by decide) rfl rfl rfl hd_X0_halveAll rfl rfl ⟨by decide, by decide⟩ ⟨by decide, by decide⟩ rfl hl.1 rfl (Nat.le_of_ble_eq_true rfl) dX0_nodesOf_59 (fun v9 u9 H locs hp I => ?_)
              obtain ⟨c9, wt4, se4, fi4, n4, us4, it4, rfl, hnum, rfl, hf4, hL4, hG4⟩ := hp
              refine W.eq (g2 := F0 m 62 ls [.int (nI (c9))]) rfl ?_
              refine lv_istore (lv' := [(8, .int (nI (c9))), (0, .ref (gA g 2)), (1, .ref (gA g 1)), (2, .int (nI (fr))), (3, .int (nI (to))), (4, .int (nI (lo))), (5, .int (nI (hi))), (6, .int (nI (sumL cs lo (v)))), (7, .int (nI (v)))]) hx hb dX0_nodesOf_62 hl (by decide) rfl (fun ls hl => ?_)
              refine lv_iload hx hb dX0_nodesOf_64 (lv_at hl 8 rfl) ?_
              refine lv_iload hx hb dX0_nodesOf_66 (lv_at hl 5 rfl) ?_
              refine n_clt (tgt := 78) hx hb (by omega) (by omega) dX0_nodesOf_68 (by decide) (fun h3 => ?_) (fun h3 => ?_)
              · rw [← sumL_a (c := c9) h3] at hl
                refine n_iinc (d := 1) (lv' := [(7, .int (nI (v + 1))), (8, .int (nI (c9))), (0, .ref (gA g 2)), (1, .ref (gA g 1)), (2, .int (nI (fr))), (3, .int (nI (to))), (4, .int (nI (lo))), (5, .int (nI (hi))), (6, .int (nI (sumL (va_up cs v c9) lo (v + 1))))]) hx hb dX0_nodesOf_78 rfl hl (j := 8) rfl (by decide) rfl (fun ls hl => ?_)
                refine lv_goto (tgt := 48) hx hb dX0_nodesOf_81 (by decide) ?_
                exact ih_loop2 (v + 1) (by omega) (by omega) wt4 se4 fi4 n4 us4 it4 (va_up cs v c9) hf4 hL4 hG4 (allNum_s hA3 hnum) _ _ ls (I) (lv_sub hl [2, 3, 4, 5, 6, 7, 8, 0] rfl)
              · refine lv_iload hx hb dX0_nodesOf_71 (lv_at hl 7 rfl) ?_
                refine lv_iload hx hb dX0_nodesOf_73 (lv_at hl 0 rfl) ?_
                refine n_iadd hx hb dX0_nodesOf_75 ?_
                refine lv_istore (lv' := [(6, .int (nI ((sumL cs lo (v)) + (c9)))), (8, .int (nI (c9))), (0, .ref (gA g 2)), (1, .ref (gA g 1)), (2, .int (nI (fr))), (3, .int (nI (to))), (4, .int (nI (lo))), (5, .int (nI (hi))), (7, .int (nI (v)))]) hx hb dX0_nodesOf_76 hl (by decide) rfl (fun ls hl => ?_)
                rw [← sumL_b (c := c9) h3] at hl
                refine n_iinc (d := 1) (lv' := [(7, .int (nI (v + 1))), (6, .int (nI (sumL (va_up cs v c9) lo (v + 1)))), (8, .int (nI (c9))), (0, .ref (gA g 2)), (1, .ref (gA g 1)), (2, .int (nI (fr))), (3, .int (nI (to))), (4, .int (nI (lo))), (5, .int (nI (hi)))]) hx hb dX0_nodesOf_78 rfl hl (j := 8) rfl (by decide) rfl (fun ls hl => ?_)
                refine lv_goto (tgt := 48) hx hb dX0_nodesOf_81 (by decide) ?_
                exact ih_loop2 (v + 1) (by omega) (by omega) wt4 se4 fi4 n4 us4 it4 (va_up cs v c9) hf4 hL4 hG4 (allNum_s hA3 hnum) _ _ ls (I) (lv_sub hl [3, 4, 5, 6, 7, 8, 1, 0] rfl)
        exact loop2 ((hi + 1) + 1 - 0) (0) (by omega) (by omega) wt2 se2 0 ct _ q (fun _ => 0) (by omega) hL0 hG0 (fun v hv => absurd hv (Nat.not_lt_zero v)) _ _ ls (I) (lv_sub hl [2, 3, 4, 5, 6, 7, 1, 0] rfl)
      · refine lv_aload_n hx hb dX0_nodesOf_28 rfl (lv_at hl 0 rfl) ?_
        refine lv_aload_n hx hb dX0_nodesOf_29 rfl (lv_at hl 1 rfl) ?_
        refine lv_iconst (v := nI (0)) hx hb dX0_nodesOf_30 (by decide) ?_
        refine lv_iload hx hb dX0_nodesOf_31 (lv_at hl 6 rfl) ?_
        refine x_callV 2 0 (rest := []) (C := RX0) (T0 := TX0) (N := 5) E F I (r_enter l g R wt2 se2 0 (0 + ct) (2 ^ ex) M O (lv := 0) (x := k) (ex := ex) (ct := ct) (q := q) (it := fun t => if t < 0 then t else q (t - 0)) (by omega) (by omega) hex rfl (by omega) (by omega) hS.1 hS.2.1 (fun hno => by omega)) gX0_nodesOf_X0_enter rfl (by decide) rfl rfl rfl hd_X0_enter rfl rfl ⟨by decide, by decide⟩ ⟨by decide, by decide⟩ rfl hl.1 rfl (Nat.le_of_ble_eq_true rfl) dX0_nodesOf_33 (fun v9 u9 H locs hp I => ?_)
        obtain ⟨rfl, hp⟩ := hp
        obtain ⟨wt3, se3, ct3, q3, rfl, hS3, h31, h32, h33, h34⟩ := HS_enter hS (by constructor <;> omega) hp
        refine W.eq (g2 := F0 m 36 ls []) rfl ?_
        refine n_iinc (d := 1) (lv' := [(6, .int (nI (k + 1))), (0, .ref (gA g 2)), (1, .ref (gA g 1)), (2, .int (nI (fr))), (3, .int (nI (to))), (4, .int (nI (lo))), (5, .int (nI (hi)))]) hx hb dX0_nodesOf_36 rfl hl (j := 6) rfl (by decide) rfl (fun ls hl => ?_)
        refine lv_goto (tgt := 22) hx hb dX0_nodesOf_39 (by decide) ?_
        exact ih_loop (k + 1) (by omega) (by omega) wt3 se3 ct3 q3 hS3 (fun x9 hx9 hx8 => by rcases Nat.lt_or_ge x9 k with z9 | z9; obtain ⟨i9, a9, b9⟩ := hCv x9 hx9 z9; exact ⟨i9, by omega, by rw [h33 i9 a9]; exact b9⟩; rw [show x9 = k by omega]; exact h34) (by omega) (by omega) _ _ ls (I) (lv_sub hl [1, 2, 3, 4, 5, 6, 0] rfl)
  exact loop ((to + 1) + 1 - fr) (fr) (by omega) (by omega) wt se1 0 (fun t => t) (HS_0 hse0 (fun t ht => absurd ht (Nat.not_lt_zero t))) (fun x h1 h2 => absurd h2 (by omega)) (by omega) (by omega) _ _ ls (I) (lv_sub hl [1, 2, 3, 4, 5, 6, 0] rfl)
theorem hd_X0_nodesOf : yX0_nodesOf.cls ≠ "java/lang/invoke/MethodHandle" ∧ yX0_nodesOf.cls ≠ "java/lang/invoke/VarHandle" ∧ (parseMethodDescriptor yX0_nodesOf.desc).map (fun d => d.parameters.length) = some 5 := by decide +kernel
