theorem wm_X0_halveAll_f22 : Cond.fieldLink RX0 22 "FunctionDesk$Ruler" "length" "I" ∈ wsX0_halveAll := by decide +kernel
theorem inw_X0_halveAll_X0 : ∀ w ∈ wsX00, w ∈ wsX0_halveAll := by decide +kernel
set_option maxHeartbeats 4000000 in
set_option maxRecDepth 100000 in
theorem r_halveAll (l : Launch) (g : Geo) (R : Nat → Nat → Int64) (wt se : Nat → Int32) (fi n0 : Nat) (us : Int32) (M : Mod) (O : Nat → Int64) {fr to v : Nat} {it : Nat → Nat} (hv : v < 10) (hft : fr ≤ to) (hto : to < 48) (hfi : fi < 4096) (hI : LvI R fr to v n0 it) (hG : Rg wt fi n0 it) : Cs l g yX0_halveAll wsX0_halveAll (rmN 3 81) [.ref (gA g 2), .ref (gA g 1), .int (nI (v))] (R, (wt, se, nI (fi), nI (n0), us), M, O) (fun v' u' => ∃ (c : Nat) (wt' se' : Nat → Int32) (fi' n' : Nat) (us' : Int32) (it' : Nat → Nat), v' = some (.int (nI c)) ∧ isNum (tbl R) fr to (1024 / 2 ^ v) (2 ^ v) c ∧ u' = (R, (wt', se', nI (fi'), nI (n'), us'), M, O) ∧ fi' < 4096 ∧ LvI R fr to (v + 1) n' it' ∧ Rg wt' fi' n' it') := by
  refine Cs.ofW RX0 rfl (by decide) rfl (Nat.le_of_ble_eq_true rfl) ?_
  intro p e s m below meth c E hr hk F I ls hl
  have hx := E.1
  have hb := E.2.1
  obtain ⟨hnd, hn3⟩ := LvI_le (by omega) hto hI
  have hl : lv_has ls 7 [(0, .ref (gA g 2)), (1, .ref (gA g 1)), (2, .int (nI (v)))] := hl
  refine lv_aload_n hx hb dX0_halveAll_0 rfl (lv_at hl 0 rfl) ?_
  refine x_get 2 0 2 (C := RX0) (T := TX0) (N := 5) (v := .int (nI (n0))) E F I inw_X0_halveAll_X0 (by decide) rfl rfl (by decide) wm_X0_halveAll_f22 rfl dX0_halveAll_1 ?_
  refine lv_istore_n (lv' := [(3, .int (nI (n0))), (0, .ref (gA g 2)), (1, .ref (gA g 1)), (2, .int (nI (v)))]) hx hb dX0_halveAll_4 rfl hl (by decide) rfl (fun ls hl => ?_)
  refine lv_iconst (v := nI (0)) hx hb dX0_halveAll_5 (by decide) ?_
  refine lv_istore (lv' := [(4, .int (nI (0))), (3, .int (nI (n0))), (0, .ref (gA g 2)), (1, .ref (gA g 1)), (2, .int (nI (v)))]) hx hb dX0_halveAll_6 hl (by decide) rfl (fun ls hl => ?_)
  refine lv_aload_n hx hb dX0_halveAll_8 rfl (lv_at hl 2 rfl) ?_
  refine lv_iconst (v := nI (2)) hx hb dX0_halveAll_9 (by decide) ?_
  refine lv_iload_n hx hb dX0_halveAll_10 rfl (lv_at hl 1 rfl) ?_
  refine n_imul hx hb dX0_halveAll_11 ?_
  refine x_callV 2 0 (rest := []) (C := RX0) (T0 := TX0) (N := 5) E F I (r_clearSeats l g R wt se (nI (fi)) (nI (n0)) us M O (pt := (2) * (n0)) (by omega)) gX0_halveAll_X0_clearSeats rfl (by decide) rfl rfl rfl hd_X0_clearSeats rfl rfl ⟨by decide, by decide⟩ ⟨by decide, by decide⟩ rfl hl.1 rfl (Nat.le_of_ble_eq_true rfl) dX0_halveAll_12 (fun v9 u9 H locs hp I => ?_)
  obtain ⟨rfl, ex, se1, hex, hus, hse0, rfl⟩ := hp
  refine W.eq (g2 := F0 m 15 ls []) rfl ?_
  refine lv_iconst (v := nI (0)) hx hb dX0_halveAll_15 (by decide) ?_
  refine lv_istore (lv' := [(5, .int (nI (0))), (4, .int (nI (0))), (3, .int (nI (n0))), (0, .ref (gA g 2)), (1, .ref (gA g 1)), (2, .int (nI (v)))]) hx hb dX0_halveAll_16 hl (by decide) rfl (fun ls hl => ?_)
  have loop : ∀ (n k : Nat), k ≤ n0 → n0 + 1 ≤ k + n → ∀ (wt2 se2 : Nat → Int32) (rm ct cn : Nat) (q jj : Nat → Nat), k + rm = n0 → HS R fr to (v + 1) (2 ^ ex) rm (fun t => it (k + t)) wt2 se2 ((fi + k) % 4096) ct q → Cov R (v + 1) ct q it k → CtI (fun t => ¬ Ew R (v + 1) (2 * it t) (2 * it t + 1)) k cn jj → ct ≤ 2 * k → ∀ (H : Heap) (locs : List Loc) (ls : Array Slot), Iv g (R, (wt2, se2, nI ((fi + k) % 4096), nI (rm + ct), nI (2 ^ ex)), M, O) s H locs → lv_has ls 7 [(0, .ref (gA g 2)), (1, .ref (gA g 1)), (2, .int (nI (v))), (3, .int (nI (n0))), (4, .int (nI (cn))), (5, .int (nI (k)))] → W p l e (rmN 3 81) s m [.ref (gA g 2), .ref (gA g 1), .int (nI (v))].toArray below meth c H locs 0 0 (MQ below (Qs g (fun v' u' => ∃ (c : Nat) (wt' se' : Nat → Int32) (fi' n' : Nat) (us' : Int32) (it' : Nat → Nat), v' = some (.int (nI c)) ∧ isNum (tbl R) fr to (1024 / 2 ^ v) (2 ^ v) c ∧ u' = (R, (wt', se', nI (fi'), nI (n'), us'), M, O) ∧ fi' < 4096 ∧ LvI R fr to (v + 1) n' it' ∧ Rg wt' fi' n' it')) [.ref (gA g 2), .ref (gA g 1), .int (nI (v))].toArray s 0 0 (gW g)) (F0 m 18 ls []) := by
    intro n
    induction n with
    | zero => intro k h1 h2; exact absurd h2 (by omega)
    | succ n ih_loop =>
      intro k hik hn wt2 se2 rm ct cn q jj hkr hS hCv hCt hc2 H locs ls I hl
      refine lv_iload hx hb dX0_halveAll_18 (lv_at hl 5 rfl) ?_
      refine lv_iload_n hx hb dX0_halveAll_20 rfl (lv_at hl 3 rfl) ?_
      refine n_cge (tgt := 79) hx hb (by omega) (by omega) dX0_halveAll_21 (by decide) (fun h1 => ?_) (fun h1 => ?_)
      · refine lv_iload hx hb dX0_halveAll_79 (lv_at hl 4 rfl) ?_
        obtain rfl : k = n0 := by omega
        obtain rfl : rm = 0 := by omega
        obtain ⟨hL1, hG1⟩ := LvI_next (by omega) hI hCv hS
        rw [Nat.zero_add] at I
        exact x_iret hx hb hr hk F I ⟨cn, wt2, se2, (fi + k) % 4096, ct, _, q, rfl, LvI_num (by omega) hft hI hCt, rfl, Nat.mod_lt _ (by decide), hL1, hG1⟩ dX0_halveAll_81
      · obtain ⟨rm1, rfl⟩ : ∃ rm1, rm = rm1 + 1 := ⟨rm - 1, by omega⟩
        rw [show rm1 + 1 + ct = (rm1 + ct) + 1 by omega] at I
        obtain ⟨hw0, hS2⟩ := HS_take2 hS
        obtain ⟨hx2, hx3, hx4⟩ := half_in hto (hI.1 k (by omega))
        have hfk : (fi + k) % 4096 < 4096 := Nat.mod_lt _ (by decide)
        have hfk1 : (fi + (k + 1)) % 4096 < 4096 := Nat.mod_lt _ (by decide)
        refine lv_iconst (v := nI (2)) hx hb dX0_halveAll_24 (by decide) ?_
        refine lv_aload_n hx hb dX0_halveAll_25 rfl (lv_at hl 0 rfl) ?_
        refine x_callVi 2 0 (rest := [.int (nI (2))]) (C := RX0) (T0 := TX0) (N := 5) E F I (r_takeFirst l g R wt2 se2 ((fi + k) % 4096) (rm1 + ct) (nI (2 ^ ex)) M O hfk) gX0_halveAll_X0_takeFirst rfl (by decide) rfl rfl rfl hd_X0_takeFirst rfl rfl ⟨by decide, by decide⟩ ⟨by decide, by decide⟩ rfl hl.1 rfl (Nat.le_of_ble_eq_true rfl) dX0_halveAll_26 (fun H locs I => ?_)
        rw [show ((fi + k) % 4096 + 1) % 4096 = (fi + (k + 1)) % 4096 by omega] at I
        refine W.eq (g2 := F0 m 29 ls [.int (nI (it k)), .int (nI (2))]) (by rw [← hw0]) ?_
        refine n_imul hx hb dX0_halveAll_29 ?_
        refine lv_istore (lv' := [(6, .int (nI ((2) * (it k)))), (0, .ref (gA g 2)), (1, .ref (gA g 1)), (2, .int (nI (v))), (3, .int (nI (n0))), (4, .int (nI (cn))), (5, .int (nI (k)))]) hx hb dX0_halveAll_30 hl (by decide) rfl (fun ls hl => ?_)
        refine lv_aload_n hx hb dX0_halveAll_32 rfl (lv_at hl 1 rfl) ?_
        refine lv_aload_n hx hb dX0_halveAll_33 rfl (lv_at hl 2 rfl) ?_
        refine lv_iload_n hx hb dX0_halveAll_34 rfl (lv_at hl 3 rfl) ?_
        refine lv_iconst (v := nI (1)) hx hb dX0_halveAll_35 (by decide) ?_
        refine n_iadd hx hb dX0_halveAll_36 ?_
        refine lv_iload hx hb dX0_halveAll_37 (lv_at hl 0 rfl) ?_
        refine x_callV 2 0 (rest := []) (C := RX0) (T0 := TX0) (N := 5) E F I (r_enter l g R wt2 se2 ((fi + (k + 1)) % 4096) (rm1 + ct) (2 ^ ex) M O (lv := v + 1) (x := 2 * it k) (ex := ex) (ct := ct) (q := q) (it := fun t => if t < rm1 then it (k + 1 + t) else q (t - rm1)) (by omega) (by omega) hex rfl hfk1 (cap_le (k := k) hnd (by omega) (by omega) (dist_le (by omega) hS2.1.2.2.2.1 hS2.1.2.2.1)) hS2.1 hS2.2.1 (fun hno => cap_ok (k := k) hnd (by omega) (by omega) (HS_cap (by omega) hS2.1 (by omega) hno) hus)) gX0_halveAll_X0_enter rfl (by decide) rfl rfl rfl hd_X0_enter rfl rfl ⟨by decide, by decide⟩ ⟨by decide, by decide⟩ rfl hl.1 rfl (Nat.le_of_ble_eq_true rfl) dX0_halveAll_39 (fun v9 u9 H locs hp I => ?_)
        obtain ⟨rfl, hp⟩ := hp
        obtain ⟨wt3, se3, ct3, q3, rfl, hS3, h31, h32, h33, h34⟩ := HS_enter hS2 hx2 hp
        refine W.eq (g2 := F0 m 42 ls []) rfl ?_
        refine lv_aload_n hx hb dX0_halveAll_42 rfl (lv_at hl 2 rfl) ?_
        refine lv_iload_n hx hb dX0_halveAll_43 rfl (lv_at hl 3 rfl) ?_
        refine lv_iconst (v := nI (1)) hx hb dX0_halveAll_44 (by decide) ?_
        refine n_iadd hx hb dX0_halveAll_45 ?_
        refine lv_iload hx hb dX0_halveAll_46 (lv_at hl 0 rfl) ?_
        refine lv_iload hx hb dX0_halveAll_48 (lv_at hl 0 rfl) ?_
        refine lv_iconst (v := nI (1)) hx hb dX0_halveAll_50 (by decide) ?_
        refine n_iadd hx hb dX0_halveAll_51 ?_
        refine x_callSi (rest := []) E F I (r_samePart l g R (wt3, se3, nI ((fi + (k + 1)) % 4096), nI (rm1 + ct3), nI (2 ^ ex)) M O (lv := (v) + (1)) (x := (2) * (it k)) (y := ((2) * (it k)) + (1)) (by omega) (part_lt (lv := v + 1) (by omega) (by omega)) (part_lt (lv := v + 1) (by omega) hx4)) gX0_halveAll_X0_samePart rfl hd_X0_samePart rfl rfl ⟨by decide, by decide⟩ ⟨by decide, by decide⟩ rfl hl.1 rfl (Nat.le_of_ble_eq_true rfl) dX0_halveAll_52 (fun H locs I => ?_)
        refine n_zne (tgt := 73) hx hb dX0_halveAll_55 (by decide) (fun h2 => ?_) (fun h2 => ?_)
        · refine n_iinc (d := 1) (lv' := [(5, .int (nI (k + 1))), (6, .int (nI ((2) * (it k)))), (0, .ref (gA g 2)), (1, .ref (gA g 1)), (2, .int (nI (v))), (3, .int (nI (n0))), (4, .int (nI (cn)))]) hx hb dX0_halveAll_73 rfl hl (j := 6) rfl (by decide) rfl (fun ls hl => ?_)
          refine lv_goto (tgt := 18) hx hb dX0_halveAll_76 (by decide) ?_
          exact ih_loop (k + 1) (by omega) (by omega) wt3 se3 rm1 ct3 cn q3 jj (by omega) hS3 (Cov_s (Cov_mono hCv h31 h33) h34 (by obtain ⟨i9, a9, b9⟩ := h34; exact ⟨i9, a9, b9.trans (pB_iff.mp h2)⟩)) (CtI_no hCt (fun z => z (pB_iff.mp h2))) (by omega) _ _ ls (I) (lv_sub hl [2, 3, 4, 5, 6, 0] rfl)
        · refine n_iinc (d := 1) (lv' := [(4, .int (nI (cn + 1))), (6, .int (nI ((2) * (it k)))), (0, .ref (gA g 2)), (1, .ref (gA g 1)), (2, .int (nI (v))), (3, .int (nI (n0))), (5, .int (nI (k)))]) hx hb dX0_halveAll_58 rfl hl (j := 5) rfl (by decide) rfl (fun ls hl => ?_)
          refine lv_aload_n hx hb dX0_halveAll_61 rfl (lv_at hl 2 rfl) ?_
          refine lv_aload_n hx hb dX0_halveAll_62 rfl (lv_at hl 3 rfl) ?_
          refine lv_iload_n hx hb dX0_halveAll_63 rfl (lv_at hl 4 rfl) ?_
          refine lv_iconst (v := nI (1)) hx hb dX0_halveAll_64 (by decide) ?_
          refine n_iadd hx hb dX0_halveAll_65 ?_
          refine lv_iload hx hb dX0_halveAll_66 (lv_at hl 1 rfl) ?_
          refine lv_iconst (v := nI (1)) hx hb dX0_halveAll_68 (by decide) ?_
          refine n_iadd hx hb dX0_halveAll_69 ?_
          refine x_callV 2 0 (rest := []) (C := RX0) (T0 := TX0) (N := 5) E F I (r_enter l g R wt3 se3 ((fi + (k + 1)) % 4096) (rm1 + ct3) (2 ^ ex) M O (lv := v + 1) (x := 2 * it k + 1) (ex := ex) (ct := ct3) (q := q3) (it := fun t => if t < rm1 then it (k + 1 + t) else q3 (t - rm1)) (by omega) hx4 hex rfl hfk1 (cap_le (k := k) hnd (by omega) (by omega) (dist_le (by omega) hS3.1.2.2.2.1 hS3.1.2.2.1)) hS3.1 hS3.2.1 (fun hno => cap_ok (k := k) hnd (by omega) (by omega) (HS_cap (by omega) hS3.1 hx4 hno) hus)) gX0_halveAll_X0_enter rfl (by decide) rfl rfl rfl hd_X0_enter rfl rfl ⟨by decide, by decide⟩ ⟨by decide, by decide⟩ rfl hl.1 rfl (Nat.le_of_ble_eq_true rfl) dX0_halveAll_70 (fun v9 u9 H locs hp I => ?_)
          obtain ⟨rfl, hp⟩ := hp
          obtain ⟨wt4, se4, ct4, q4, rfl, hS4, h41, h42, h43, h44⟩ := HS_enter hS3 hx3 hp
          refine W.eq (g2 := F0 m 73 ls []) rfl ?_
          refine n_iinc (d := 1) (lv' := [(5, .int (nI (k + 1))), (4, .int (nI (cn + 1))), (6, .int (nI ((2) * (it k)))), (0, .ref (gA g 2)), (1, .ref (gA g 1)), (2, .int (nI (v))), (3, .int (nI (n0)))]) hx hb dX0_halveAll_73 rfl hl (j := 6) rfl (by decide) rfl (fun ls hl => ?_)
          refine lv_goto (tgt := 18) hx hb dX0_halveAll_76 (by decide) ?_
          exact ih_loop (k + 1) (by omega) (by omega) wt4 se4 rm1 ct4 (cn + 1) q4 (va_up jj cn k) (by omega) hS4 (Cov_s (Cov_mono (Cov_mono hCv h31 h33) h41 h43) (by obtain ⟨i9, a9, b9⟩ := h34; exact ⟨i9, by omega, by rw [h43 i9 a9]; exact b9⟩) h44) (CtI_yes hCt (fun z => Bool.false_ne_true (h2.symm.trans (pB_t z)))) (by omega) _ _ ls (I) (lv_sub hl [3, 4, 5, 6, 1, 0] rfl)
  exact loop (n0 + 1 - 0) (0) (by omega) (by omega) wt se1 n0 0 0 it it (by omega) (by rw [show (fi + 0) % 4096 = fi by omega]; exact HS_0 hse0 (Rg_congr hG (fun t _ => by rw [Nat.zero_add]))) (fun t ht => absurd ht (Nat.not_lt_zero t)) (CtI_0 _ _) (by omega) _ _ ls (by rw [show (fi + 0) % 4096 = fi by omega]; exact I) (lv_sub hl [3, 4, 5, 2, 1, 0] rfl)
theorem hd_X0_halveAll : yX0_halveAll.cls ≠ "java/lang/invoke/MethodHandle" ∧ yX0_halveAll.cls ≠ "java/lang/invoke/VarHandle" ∧ (parseMethodDescriptor yX0_halveAll.desc).map (fun d => d.parameters.length) = some 2 := by decide +kernel
