theorem wm_L_constant_k13 : Cond.classLink RL 13 sIO ∈ wsL_constant := by decide +kernel
set_option maxHeartbeats 4000000 in
set_option maxRecDepth 100000 in
theorem l_constant (l : Launch) (hl0 : l.stackTraces = false) (g : Geo) (R : Nat → Nat → Int64) (B : Rul) (M : Mod) (O : Nat → Int64) (x1 : Int32) (t : Bool) : Ls l g yL_constant wsL_constant (rmX 8 133 5 30) [.ref (gA g 0), .int (x1), .int (bI (t))] (R, B, M, O) (pW (fun v' u' => v' = none ∧ ∃ s0_ : Nat, s0_ < 48 ∧ x1 = nI s0_ ∧ ∃ R', u' = (R', B, M, O) ∧ Upd R R' s0_ (fun _ => if t then -1 else 0)) (fun E0 => (E0 = sIO ∧ ¬ (okI 48 x1))) (R, B, M, O)) := by
  refine Ls.ofW RL rfl (by decide) rfl (Nat.le_of_ble_eq_true rfl) ?_
  intro p e s m below meth c E hr hk ht F I ls hl
  have hx := E.1
  have hb := E.2.1
  have hl : lv_has ls 4 [(0, .ref (gA g 0)), (1, .int (x1)), (2, .int (bI (t)))] := hl
  refine lv_aload_n hx hb dL_constant_0 rfl (lv_at hl 0 rfl) ?_
  refine lv_iload_n hx hb dL_constant_1 rfl (lv_at hl 1 rfl) ?_
  refine lv_iload_n hx hb dL_constant_2 rfl (lv_at hl 2 rfl) ?_
  refine z_callV 0 1 (rest := []) (C := RX1) (T0 := TX1) (N := 6) E F I (c_constant l hl0 g R B M O x1 t) gL_constant_X1_constant rfl (by decide) rfl rfl rfl hd_X1_constant rfl rfl ⟨by decide, by decide⟩ ⟨by decide, by decide⟩ rfl hl.1 rfl (Nat.le_of_ble_eq_true rfl) dL_constant_3 (fun E0 ce q9 H locs hxc I h1 h2 h3 => ?_) (fun v9 u9 H locs hp I => ?_)
  · obtain ⟨rfl, hxc⟩ := hxc
    refine y_catch E.2.2.2.1 [] ⟨0, 6, 9, 13⟩ [] ht (fun z hz => absurd hz List.not_mem_nil) (by decide) (by decide) (E.2.2.2.2 _ wm_L_constant_k13) h1 h2 h3 ?_
    refine lv_astore_n (lv' := [(3, .ref (q9)), (0, .ref (gA g 0)), (1, .int (x1)), (2, .int (bI (t)))]) hx hb dL_constant_9 rfl hl (by decide) rfl (fun ls hl => ?_)
    refine lv_iconst (v := nI (1)) hx hb dL_constant_10 (by decide) ?_
    exact l_iret hx hb hr hk F I (by decide) (by decide) (Or.inr (Or.inl ⟨rfl, ⟨rfl, hxc⟩, rfl⟩)) dL_constant_11
  · have hv9 := hp.1
    subst hv9
    refine W.eq (g2 := F0 m 6 ls []) rfl ?_
    refine lv_goto (tgt := 12) hx hb dL_constant_6 (by decide) ?_
    refine lv_iconst (v := nI (0)) hx hb dL_constant_12 (by decide) ?_
    exact l_iret hx hb hr hk F I (by decide) (by decide) (Or.inl ⟨rfl, hp⟩) dL_constant_13
theorem hd_L_constant : yL_constant.cls ≠ "java/lang/invoke/MethodHandle" ∧ yL_constant.cls ≠ "java/lang/invoke/VarHandle" ∧ (parseMethodDescriptor yL_constant.desc).map (fun d => d.parameters.length) = some 3 := by decide +kernel
theorem wm_L_variable_k13 : Cond.classLink RL 13 sIO ∈ wsL_variable := by decide +kernel
theorem wm_L_variable_k19 : Cond.classLink RL 19 sIA ∈ wsL_variable := by decide +kernel
set_option maxHeartbeats 4000000 in
set_option maxRecDepth 100000 in
theorem l_variable (l : Launch) (hl0 : l.stackTraces = false) (g : Geo) (R : Nat → Nat → Int64) (B : Rul) (M : Mod) (O : Nat → Int64) (x1 : Int32) (x2 : Int32) : Ls l g yL_variable wsL_variable (rmX 8 133 5 30) [.ref (gA g 0), .int (x1), .int (x2)] (R, B, M, O) (pW (fun v' u' => v' = none ∧ ∃ s0_ v_ : Nat, s0_ < 48 ∧ v_ < 10 ∧ x1 = nI s0_ ∧ x2 = nI v_ ∧ ∃ R', u' = (R', B, M, O) ∧ Upd R R' s0_ (fun i => vwd v_ i)) (fun E0 => (E0 = sIO ∧ ¬ (okI 48 x1)) ∨ (E0 = sIA ∧ (okI 48 x1) ∧ ¬ (okI 10 x2))) (R, B, M, O)) := by
  refine Ls.ofW RL rfl (by decide) rfl (Nat.le_of_ble_eq_true rfl) ?_
  intro p e s m below meth c E hr hk ht F I ls hl
  have hx := E.1
  have hb := E.2.1
  have hl : lv_has ls 4 [(0, .ref (gA g 0)), (1, .int (x1)), (2, .int (x2))] := hl
  refine lv_aload_n hx hb dL_variable_0 rfl (lv_at hl 0 rfl) ?_
  refine lv_iload_n hx hb dL_variable_1 rfl (lv_at hl 1 rfl) ?_
  refine lv_iload_n hx hb dL_variable_2 rfl (lv_at hl 2 rfl) ?_
  refine z_callV 0 1 (rest := []) (C := RX1) (T0 := TX1) (N := 6) E F I (c_variable l hl0 g R B M O x1 x2) gL_variable_X1_variable rfl (by decide) rfl rfl rfl hd_X1_variable rfl rfl ⟨by decide, by decide⟩ ⟨by decide, by decide⟩ rfl hl.1 rfl (Nat.le_of_ble_eq_true rfl) dL_variable_3 (fun E0 ce q9 H locs hxc I h1 h2 h3 => ?_) (fun v9 u9 H locs hp I => ?_)
  · rcases hxc with ⟨rfl, hxc⟩ | ⟨rfl, hxc⟩
    · refine y_catch E.2.2.2.1 [] ⟨0, 6, 9, 13⟩ [⟨0, 6, 12, 19⟩] ht (fun z hz => absurd hz List.not_mem_nil) (by decide) (by decide) (E.2.2.2.2 _ wm_L_variable_k13) h1 h2 h3 ?_
      refine lv_astore_n (lv' := [(3, .ref (q9)), (0, .ref (gA g 0)), (1, .int (x1)), (2, .int (x2))]) hx hb dL_variable_9 rfl hl (by decide) rfl (fun ls hl => ?_)
      refine lv_iconst (v := nI (1)) hx hb dL_variable_10 (by decide) ?_
      exact l_iret hx hb hr hk F I (by decide) (by decide) (Or.inr (Or.inl ⟨rfl, Or.inl ⟨rfl, hxc⟩, rfl⟩)) dL_variable_11
    · refine y_catch E.2.2.2.1 [⟨0, 6, 9, 13⟩] ⟨0, 6, 12, 19⟩ [] ht (fun z hz => by rcases List.mem_singleton.mp hz with rfl; exact Or.inr ⟨by decide, sIO, E.2.2.2.2 _ wm_L_variable_k13, F.2.2.2.2.2.2.2.1⟩) (by decide) (by decide) (E.2.2.2.2 _ wm_L_variable_k19) h1 h2 h3 ?_
      refine lv_astore_n (lv' := [(3, .ref (q9)), (0, .ref (gA g 0)), (1, .int (x1)), (2, .int (x2))]) hx hb dL_variable_12 rfl hl (by decide) rfl (fun ls hl => ?_)
      refine lv_iconst (v := nI (2)) hx hb dL_variable_13 (by decide) ?_
      exact l_iret hx hb hr hk F I (by decide) (by decide) (Or.inr (Or.inr ⟨rfl, Or.inr ⟨rfl, hxc⟩, rfl⟩)) dL_variable_14
  · have hv9 := hp.1
    subst hv9
    refine W.eq (g2 := F0 m 6 ls []) rfl ?_
    refine lv_goto (tgt := 15) hx hb dL_variable_6 (by decide) ?_
    refine lv_iconst (v := nI (0)) hx hb dL_variable_15 (by decide) ?_
    exact l_iret hx hb hr hk F I (by decide) (by decide) (Or.inl ⟨rfl, hp⟩) dL_variable_16
theorem hd_L_variable : yL_variable.cls ≠ "java/lang/invoke/MethodHandle" ∧ yL_variable.cls ≠ "java/lang/invoke/VarHandle" ∧ (parseMethodDescriptor yL_variable.desc).map (fun d => d.parameters.length) = some 3 := by decide +kernel
theorem wm_L_join_k13 : Cond.classLink RL 13 sIO ∈ wsL_join := by decide +kernel
theorem wm_L_join_k19 : Cond.classLink RL 19 sIA ∈ wsL_join := by decide +kernel
set_option maxHeartbeats 4000000 in
set_option maxRecDepth 100000 in
theorem l_join (l : Launch) (hl0 : l.stackTraces = false) (g : Geo) (R : Nat → Nat → Int64) (B : Rul) (M : Mod) (O : Nat → Int64) (x1 : Int32) (x2 : Int32) (x3 : Int32) (x4 : Int32) : Ls l g yL_join wsL_join (rmX 8 139 5 30) [.ref (gA g 0), .int (x1), .int (x2), .int (x3), .int (x4)] (R, B, M, O) (pW (fun v' u' => v' = none ∧ ∃ s0_ a_ b_ h_ : Nat, s0_ < 48 ∧ a_ < 48 ∧ b_ < 48 ∧ h_ < 16 ∧ x1 = nI s0_ ∧ x2 = nI a_ ∧ x3 = nI b_ ∧ x4 = nI h_ ∧ ∃ R', u' = (R', B, M, O) ∧ Upd R R' s0_ (fun i => jnw (R a_ i) (R b_ i) h_)) (fun E0 => (E0 = sIO ∧ ¬ (okI 48 x1 ∧ okI 48 x2 ∧ okI 48 x3)) ∨ (E0 = sIA ∧ (okI 48 x1 ∧ okI 48 x2 ∧ okI 48 x3) ∧ ¬ (okI 16 x4))) (R, B, M, O)) := by
  refine Ls.ofW RL rfl (by decide) rfl (Nat.le_of_ble_eq_true rfl) ?_
  intro p e s m below meth c E hr hk ht F I ls hl
  have hx := E.1
  have hb := E.2.1
  have hl : lv_has ls 6 [(0, .ref (gA g 0)), (1, .int (x1)), (2, .int (x2)), (3, .int (x3)), (4, .int (x4))] := hl
  refine lv_aload_n hx hb dL_join_0 rfl (lv_at hl 0 rfl) ?_
  refine lv_iload_n hx hb dL_join_1 rfl (lv_at hl 1 rfl) ?_
  refine lv_iload_n hx hb dL_join_2 rfl (lv_at hl 2 rfl) ?_
  refine lv_iload_n hx hb dL_join_3 rfl (lv_at hl 3 rfl) ?_
  refine lv_iload hx hb dL_join_4 (lv_at hl 4 rfl) ?_
  refine z_callV 0 1 (rest := []) (C := RX1) (T0 := TX1) (N := 6) E F I (c_join l hl0 g R B M O x1 x2 x3 x4) gL_join_X1_join rfl (by decide) rfl rfl rfl hd_X1_join rfl rfl ⟨by decide, by decide⟩ ⟨by decide, by decide⟩ rfl hl.1 rfl (Nat.le_of_ble_eq_true rfl) dL_join_6 (fun E0 ce q9 H locs hxc I h1 h2 h3 => ?_) (fun v9 u9 H locs hp I => ?_)
  · rcases hxc with ⟨rfl, hxc⟩ | ⟨rfl, hxc⟩
    · refine y_catch E.2.2.2.1 [] ⟨0, 9, 12, 13⟩ [⟨0, 9, 16, 19⟩] ht (fun z hz => absurd hz List.not_mem_nil) (by decide) (by decide) (E.2.2.2.2 _ wm_L_join_k13) h1 h2 h3 ?_
      refine lv_astore (lv' := [(5, .ref (q9)), (0, .ref (gA g 0)), (1, .int (x1)), (2, .int (x2)), (3, .int (x3)), (4, .int (x4))]) hx hb dL_join_12 hl (by decide) rfl (fun ls hl => ?_)
      refine lv_iconst (v := nI (1)) hx hb dL_join_14 (by decide) ?_
      exact l_iret hx hb hr hk F I (by decide) (by decide) (Or.inr (Or.inl ⟨rfl, Or.inl ⟨rfl, hxc⟩, rfl⟩)) dL_join_15
    · refine y_catch E.2.2.2.1 [⟨0, 9, 12, 13⟩] ⟨0, 9, 16, 19⟩ [] ht (fun z hz => by rcases List.mem_singleton.mp hz with rfl; exact Or.inr ⟨by decide, sIO, E.2.2.2.2 _ wm_L_join_k13, F.2.2.2.2.2.2.2.1⟩) (by decide) (by decide) (E.2.2.2.2 _ wm_L_join_k19) h1 h2 h3 ?_
      refine lv_astore (lv' := [(5, .ref (q9)), (0, .ref (gA g 0)), (1, .int (x1)), (2, .int (x2)), (3, .int (x3)), (4, .int (x4))]) hx hb dL_join_16 hl (by decide) rfl (fun ls hl => ?_)
      refine lv_iconst (v := nI (2)) hx hb dL_join_18 (by decide) ?_
      exact l_iret hx hb hr hk F I (by decide) (by decide) (Or.inr (Or.inr ⟨rfl, Or.inr ⟨rfl, hxc⟩, rfl⟩)) dL_join_19
  · have hv9 := hp.1
    subst hv9
    refine W.eq (g2 := F0 m 9 ls []) rfl ?_
    refine lv_goto (tgt := 20) hx hb dL_join_9 (by decide) ?_
    refine lv_iconst (v := nI (0)) hx hb dL_join_20 (by decide) ?_
    exact l_iret hx hb hr hk F I (by decide) (by decide) (Or.inl ⟨rfl, hp⟩) dL_join_21
theorem hd_L_join : yL_join.cls ≠ "java/lang/invoke/MethodHandle" ∧ yL_join.cls ≠ "java/lang/invoke/VarHandle" ∧ (parseMethodDescriptor yL_join.desc).map (fun d => d.parameters.length) = some 5 := by decide +kernel
theorem wm_L_choose_k13 : Cond.classLink RL 13 sIO ∈ wsL_choose := by decide +kernel
set_option maxHeartbeats 4000000 in
set_option maxRecDepth 100000 in
theorem l_choose (l : Launch) (hl0 : l.stackTraces = false) (g : Geo) (R : Nat → Nat → Int64) (B : Rul) (M : Mod) (O : Nat → Int64) (x1 : Int32) (x2 : Int32) (x3 : Int32) (x4 : Int32) : Ls l g yL_choose wsL_choose (rmX 8 135 5 30) [.ref (gA g 0), .int (x1), .int (x2), .int (x3), .int (x4)] (R, B, M, O) (pW (fun v' u' => v' = none ∧ ∃ s0_ a_ b_ c0_ : Nat, s0_ < 48 ∧ a_ < 48 ∧ b_ < 48 ∧ c0_ < 48 ∧ x1 = nI s0_ ∧ x2 = nI a_ ∧ x3 = nI b_ ∧ x4 = nI c0_ ∧ ∃ R', u' = (R', B, M, O) ∧ Upd R R' s0_ (fun i => pk3 (R a_ i) (R b_ i) (R c0_ i))) (fun E0 => (E0 = sIO ∧ ¬ (okI 48 x1 ∧ okI 48 x2 ∧ okI 48 x3 ∧ okI 48 x4))) (R, B, M, O)) := by
  refine Ls.ofW RL rfl (by decide) rfl (Nat.le_of_ble_eq_true rfl) ?_
  intro p e s m below meth c E hr hk ht F I ls hl
  have hx := E.1
  have hb := E.2.1
  have hl : lv_has ls 6 [(0, .ref (gA g 0)), (1, .int (x1)), (2, .int (x2)), (3, .int (x3)), (4, .int (x4))] := hl
  refine lv_aload_n hx hb dL_choose_0 rfl (lv_at hl 0 rfl) ?_
  refine lv_iload_n hx hb dL_choose_1 rfl (lv_at hl 1 rfl) ?_
  refine lv_iload_n hx hb dL_choose_2 rfl (lv_at hl 2 rfl) ?_
  refine lv_iload_n hx hb dL_choose_3 rfl (lv_at hl 3 rfl) ?_
  refine lv_iload hx hb dL_choose_4 (lv_at hl 4 rfl) ?_
  refine z_callV 0 1 (rest := []) (C := RX1) (T0 := TX1) (N := 6) E F I (c_choose l hl0 g R B M O x1 x2 x3 x4) gL_choose_X1_choose rfl (by decide) rfl rfl rfl hd_X1_choose rfl rfl ⟨by decide, by decide⟩ ⟨by decide, by decide⟩ rfl hl.1 rfl (Nat.le_of_ble_eq_true rfl) dL_choose_6 (fun E0 ce q9 H locs hxc I h1 h2 h3 => ?_) (fun v9 u9 H locs hp I => ?_)
  · obtain ⟨rfl, hxc⟩ := hxc
    refine y_catch E.2.2.2.1 [] ⟨0, 9, 12, 13⟩ [] ht (fun z hz => absurd hz List.not_mem_nil) (by decide) (by decide) (E.2.2.2.2 _ wm_L_choose_k13) h1 h2 h3 ?_
    refine lv_astore (lv' := [(5, .ref (q9)), (0, .ref (gA g 0)), (1, .int (x1)), (2, .int (x2)), (3, .int (x3)), (4, .int (x4))]) hx hb dL_choose_12 hl (by decide) rfl (fun ls hl => ?_)
    refine lv_iconst (v := nI (1)) hx hb dL_choose_14 (by decide) ?_
    exact l_iret hx hb hr hk F I (by decide) (by decide) (Or.inr (Or.inl ⟨rfl, ⟨rfl, hxc⟩, rfl⟩)) dL_choose_15
  · have hv9 := hp.1
    subst hv9
    refine W.eq (g2 := F0 m 9 ls []) rfl ?_
    refine lv_goto (tgt := 16) hx hb dL_choose_9 (by decide) ?_
    refine lv_iconst (v := nI (0)) hx hb dL_choose_16 (by decide) ?_
    exact l_iret hx hb hr hk F I (by decide) (by decide) (Or.inl ⟨rfl, hp⟩) dL_choose_17
theorem hd_L_choose : yL_choose.cls ≠ "java/lang/invoke/MethodHandle" ∧ yL_choose.cls ≠ "java/lang/invoke/VarHandle" ∧ (parseMethodDescriptor yL_choose.desc).map (fun d => d.parameters.length) = some 5 := by decide +kernel
theorem wm_L_fix_k13 : Cond.classLink RL 13 sIO ∈ wsL_fix := by decide +kernel
theorem wm_L_fix_k19 : Cond.classLink RL 19 sIA ∈ wsL_fix := by decide +kernel
set_option maxHeartbeats 4000000 in
set_option maxRecDepth 100000 in
theorem l_fix (l : Launch) (hl0 : l.stackTraces = false) (g : Geo) (R : Nat → Nat → Int64) (B : Rul) (M : Mod) (O : Nat → Int64) (x1 : Int32) (x2 : Int32) (x3 : Int32) (t : Bool) : Ls l g yL_fix wsL_fix (rmX 8 135 5 30) [.ref (gA g 0), .int (x1), .int (x2), .int (x3), .int (bI (t))] (R, B, M, O) (pW (fun v' u' => v' = none ∧ ∃ s0_ a_ v_ : Nat, s0_ < 48 ∧ a_ < 48 ∧ v_ < 10 ∧ x1 = nI s0_ ∧ x2 = nI a_ ∧ x3 = nI v_ ∧ ∃ R', u' = (R', B, M, O) ∧ Upd R R' s0_ (fun i => wwd (R a_) i v_ (if t then -1 else 0))) (fun E0 => (E0 = sIO ∧ ¬ (okI 48 x1 ∧ okI 48 x2)) ∨ (E0 = sIA ∧ (okI 48 x1 ∧ okI 48 x2) ∧ ¬ (okI 10 x3))) (R, B, M, O)) := by
  refine Ls.ofW RL rfl (by decide) rfl (Nat.le_of_ble_eq_true rfl) ?_
  intro p e s m below meth c E hr hk ht F I ls hl
  have hx := E.1
  have hb := E.2.1
  have hl : lv_has ls 6 [(0, .ref (gA g 0)), (1, .int (x1)), (2, .int (x2)), (3, .int (x3)), (4, .int (bI (t)))] := hl
  refine lv_aload_n hx hb dL_fix_0 rfl (lv_at hl 0 rfl) ?_
  refine lv_iload_n hx hb dL_fix_1 rfl (lv_at hl 1 rfl) ?_
  refine lv_iload_n hx hb dL_fix_2 rfl (lv_at hl 2 rfl) ?_
  refine lv_iload_n hx hb dL_fix_3 rfl (lv_at hl 3 rfl) ?_
  refine lv_iload hx hb dL_fix_4 (lv_at hl 4 rfl) ?_
  refine z_callV 0 1 (rest := []) (C := RX1) (T0 := TX1) (N := 6) E F I (c_fix l hl0 g R B M O x1 x2 x3 t) gL_fix_X1_fix rfl (by decide) rfl rfl rfl hd_X1_fix rfl rfl ⟨by decide, by decide⟩ ⟨by decide, by decide⟩ rfl hl.1 rfl (Nat.le_of_ble_eq_true rfl) dL_fix_6 (fun E0 ce q9 H locs hxc I h1 h2 h3 => ?_) (fun v9 u9 H locs hp I => ?_)
  · rcases hxc with ⟨rfl, hxc⟩ | ⟨rfl, hxc⟩
    · refine y_catch E.2.2.2.1 [] ⟨0, 9, 12, 13⟩ [⟨0, 9, 16, 19⟩] ht (fun z hz => absurd hz List.not_mem_nil) (by decide) (by decide) (E.2.2.2.2 _ wm_L_fix_k13) h1 h2 h3 ?_
      refine lv_astore (lv' := [(5, .ref (q9)), (0, .ref (gA g 0)), (1, .int (x1)), (2, .int (x2)), (3, .int (x3)), (4, .int (bI (t)))]) hx hb dL_fix_12 hl (by decide) rfl (fun ls hl => ?_)
      refine lv_iconst (v := nI (1)) hx hb dL_fix_14 (by decide) ?_
      exact l_iret hx hb hr hk F I (by decide) (by decide) (Or.inr (Or.inl ⟨rfl, Or.inl ⟨rfl, hxc⟩, rfl⟩)) dL_fix_15
    · refine y_catch E.2.2.2.1 [⟨0, 9, 12, 13⟩] ⟨0, 9, 16, 19⟩ [] ht (fun z hz => by rcases List.mem_singleton.mp hz with rfl; exact Or.inr ⟨by decide, sIO, E.2.2.2.2 _ wm_L_fix_k13, F.2.2.2.2.2.2.2.1⟩) (by decide) (by decide) (E.2.2.2.2 _ wm_L_fix_k19) h1 h2 h3 ?_
      refine lv_astore (lv' := [(5, .ref (q9)), (0, .ref (gA g 0)), (1, .int (x1)), (2, .int (x2)), (3, .int (x3)), (4, .int (bI (t)))]) hx hb dL_fix_16 hl (by decide) rfl (fun ls hl => ?_)
      refine lv_iconst (v := nI (2)) hx hb dL_fix_18 (by decide) ?_
      exact l_iret hx hb hr hk F I (by decide) (by decide) (Or.inr (Or.inr ⟨rfl, Or.inr ⟨rfl, hxc⟩, rfl⟩)) dL_fix_19
  · have hv9 := hp.1
    subst hv9
    refine W.eq (g2 := F0 m 9 ls []) rfl ?_
    refine lv_goto (tgt := 20) hx hb dL_fix_9 (by decide) ?_
    refine lv_iconst (v := nI (0)) hx hb dL_fix_20 (by decide) ?_
    exact l_iret hx hb hr hk F I (by decide) (by decide) (Or.inl ⟨rfl, hp⟩) dL_fix_21
theorem hd_L_fix : yL_fix.cls ≠ "java/lang/invoke/MethodHandle" ∧ yL_fix.cls ≠ "java/lang/invoke/VarHandle" ∧ (parseMethodDescriptor yL_fix.desc).map (fun d => d.parameters.length) = some 5 := by decide +kernel
theorem wm_L_some_k13 : Cond.classLink RL 13 sIO ∈ wsL_some := by decide +kernel
theorem wm_L_some_k19 : Cond.classLink RL 19 sIA ∈ wsL_some := by decide +kernel
set_option maxHeartbeats 4000000 in
set_option maxRecDepth 100000 in
theorem l_some (l : Launch) (hl0 : l.stackTraces = false) (g : Geo) (R : Nat → Nat → Int64) (B : Rul) (M : Mod) (O : Nat → Int64) (x1 : Int32) (x2 : Int32) (x3 : Int32) (t : Bool) : Ls l g yL_some wsL_some (rmX 8 135 5 30) [.ref (gA g 0), .int (x1), .int (x2), .int (x3), .int (bI (t))] (R, B, M, O) (pW (fun v' u' => v' = none ∧ ∃ s0_ a_ h_ : Nat, s0_ < 48 ∧ a_ < 48 ∧ h_ < 1024 ∧ x1 = nI s0_ ∧ x2 = nI a_ ∧ x3 = nI h_ ∧ ∃ R', u' = (R', B, M, O) ∧ Upd R R' s0_ (fun i => qrow (R a_) h_ t 10 i)) (fun E0 => (E0 = sIO ∧ ¬ (okI 48 x1 ∧ okI 48 x2)) ∨ (E0 = sIA ∧ (okI 48 x1 ∧ okI 48 x2) ∧ ¬ (okI 1024 x3))) (R, B, M, O)) := by
  refine Ls.ofW RL rfl (by decide) rfl (Nat.le_of_ble_eq_true rfl) ?_
  intro p e s m below meth c E hr hk ht F I ls hl
  have hx := E.1
  have hb := E.2.1
  have hl : lv_has ls 6 [(0, .ref (gA g 0)), (1, .int (x1)), (2, .int (x2)), (3, .int (x3)), (4, .int (bI (t)))] := hl
  refine lv_aload_n hx hb dL_some_0 rfl (lv_at hl 0 rfl) ?_
  refine lv_iload_n hx hb dL_some_1 rfl (lv_at hl 1 rfl) ?_
  refine lv_iload_n hx hb dL_some_2 rfl (lv_at hl 2 rfl) ?_
  refine lv_iload_n hx hb dL_some_3 rfl (lv_at hl 3 rfl) ?_
  refine lv_iload hx hb dL_some_4 (lv_at hl 4 rfl) ?_
  refine z_callV 0 1 (rest := []) (C := RX1) (T0 := TX1) (N := 6) E F I (c_some l hl0 g R B M O x1 x2 x3 t) gL_some_X1_some rfl (by decide) rfl rfl rfl hd_X1_some rfl rfl ⟨by decide, by decide⟩ ⟨by decide, by decide⟩ rfl hl.1 rfl (Nat.le_of_ble_eq_true rfl) dL_some_6 (fun E0 ce q9 H locs hxc I h1 h2 h3 => ?_) (fun v9 u9 H locs hp I => ?_)
  · rcases hxc with ⟨rfl, hxc⟩ | ⟨rfl, hxc⟩
    · refine y_catch E.2.2.2.1 [] ⟨0, 9, 12, 13⟩ [⟨0, 9, 16, 19⟩] ht (fun z hz => absurd hz List.not_mem_nil) (by decide) (by decide) (E.2.2.2.2 _ wm_L_some_k13) h1 h2 h3 ?_
      refine lv_astore (lv' := [(5, .ref (q9)), (0, .ref (gA g 0)), (1, .int (x1)), (2, .int (x2)), (3, .int (x3)), (4, .int (bI (t)))]) hx hb dL_some_12 hl (by decide) rfl (fun ls hl => ?_)
      refine lv_iconst (v := nI (1)) hx hb dL_some_14 (by decide) ?_
      exact l_iret hx hb hr hk F I (by decide) (by decide) (Or.inr (Or.inl ⟨rfl, Or.inl ⟨rfl, hxc⟩, rfl⟩)) dL_some_15
    · refine y_catch E.2.2.2.1 [⟨0, 9, 12, 13⟩] ⟨0, 9, 16, 19⟩ [] ht (fun z hz => by rcases List.mem_singleton.mp hz with rfl; exact Or.inr ⟨by decide, sIO, E.2.2.2.2 _ wm_L_some_k13, F.2.2.2.2.2.2.2.1⟩) (by decide) (by decide) (E.2.2.2.2 _ wm_L_some_k19) h1 h2 h3 ?_
      refine lv_astore (lv' := [(5, .ref (q9)), (0, .ref (gA g 0)), (1, .int (x1)), (2, .int (x2)), (3, .int (x3)), (4, .int (bI (t)))]) hx hb dL_some_16 hl (by decide) rfl (fun ls hl => ?_)
      refine lv_iconst (v := nI (2)) hx hb dL_some_18 (by decide) ?_
      exact l_iret hx hb hr hk F I (by decide) (by decide) (Or.inr (Or.inr ⟨rfl, Or.inr ⟨rfl, hxc⟩, rfl⟩)) dL_some_19
  · have hv9 := hp.1
    subst hv9
    refine W.eq (g2 := F0 m 9 ls []) rfl ?_
    refine lv_goto (tgt := 20) hx hb dL_some_9 (by decide) ?_
    refine lv_iconst (v := nI (0)) hx hb dL_some_20 (by decide) ?_
    exact l_iret hx hb hr hk F I (by decide) (by decide) (Or.inl ⟨rfl, hp⟩) dL_some_21
theorem hd_L_some : yL_some.cls ≠ "java/lang/invoke/MethodHandle" ∧ yL_some.cls ≠ "java/lang/invoke/VarHandle" ∧ (parseMethodDescriptor yL_some.desc).map (fun d => d.parameters.length) = some 5 := by decide +kernel
theorem wm_L_put_k13 : Cond.classLink RL 13 sIO ∈ wsL_put := by decide +kernel
theorem wm_L_put_k19 : Cond.classLink RL 19 sIA ∈ wsL_put := by decide +kernel
set_option maxHeartbeats 4000000 in
set_option maxRecDepth 100000 in
theorem l_put (l : Launch) (hl0 : l.stackTraces = false) (g : Geo) (R : Nat → Nat → Int64) (B : Rul) (M : Mod) (O : Nat → Int64) (x1 : Int32) (x2 : Int32) (x3 : Int32) (x4 : Int32) : Ls l g yL_put wsL_put (rmX 8 135 5 30) [.ref (gA g 0), .int (x1), .int (x2), .int (x3), .int (x4)] (R, B, M, O) (pW (fun v' u' => v' = none ∧ ∃ s0_ a_ v_ b_ : Nat, s0_ < 48 ∧ a_ < 48 ∧ v_ < 10 ∧ b_ < 48 ∧ x1 = nI s0_ ∧ x2 = nI a_ ∧ x3 = nI v_ ∧ x4 = nI b_ ∧ ∃ R', u' = (R', B, M, O) ∧ Upd R R' s0_ (fun i => wwd (R a_) i v_ (R b_ i))) (fun E0 => (E0 = sIO ∧ ¬ (okI 48 x1 ∧ okI 48 x2 ∧ okI 48 x4)) ∨ (E0 = sIA ∧ (okI 48 x1 ∧ okI 48 x2 ∧ okI 48 x4) ∧ ¬ (okI 10 x3))) (R, B, M, O)) := by
  refine Ls.ofW RL rfl (by decide) rfl (Nat.le_of_ble_eq_true rfl) ?_
  intro p e s m below meth c E hr hk ht F I ls hl
  have hx := E.1
  have hb := E.2.1
  have hl : lv_has ls 6 [(0, .ref (gA g 0)), (1, .int (x1)), (2, .int (x2)), (3, .int (x3)), (4, .int (x4))] := hl
  refine lv_aload_n hx hb dL_put_0 rfl (lv_at hl 0 rfl) ?_
  refine lv_iload_n hx hb dL_put_1 rfl (lv_at hl 1 rfl) ?_
  refine lv_iload_n hx hb dL_put_2 rfl (lv_at hl 2 rfl) ?_
  refine lv_iload_n hx hb dL_put_3 rfl (lv_at hl 3 rfl) ?_
  refine lv_iload hx hb dL_put_4 (lv_at hl 4 rfl) ?_
  refine z_callV 0 1 (rest := []) (C := RX1) (T0 := TX1) (N := 6) E F I (c_put l hl0 g R B M O x1 x2 x3 x4) gL_put_X1_put rfl (by decide) rfl rfl rfl hd_X1_put rfl rfl ⟨by decide, by decide⟩ ⟨by decide, by decide⟩ rfl hl.1 rfl (Nat.le_of_ble_eq_true rfl) dL_put_6 (fun E0 ce q9 H locs hxc I h1 h2 h3 => ?_) (fun v9 u9 H locs hp I => ?_)
  · rcases hxc with ⟨rfl, hxc⟩ | ⟨rfl, hxc⟩
    · refine y_catch E.2.2.2.1 [] ⟨0, 9, 12, 13⟩ [⟨0, 9, 16, 19⟩] ht (fun z hz => absurd hz List.not_mem_nil) (by decide) (by decide) (E.2.2.2.2 _ wm_L_put_k13) h1 h2 h3 ?_
      refine lv_astore (lv' := [(5, .ref (q9)), (0, .ref (gA g 0)), (1, .int (x1)), (2, .int (x2)), (3, .int (x3)), (4, .int (x4))]) hx hb dL_put_12 hl (by decide) rfl (fun ls hl => ?_)
      refine lv_iconst (v := nI (1)) hx hb dL_put_14 (by decide) ?_
      exact l_iret hx hb hr hk F I (by decide) (by decide) (Or.inr (Or.inl ⟨rfl, Or.inl ⟨rfl, hxc⟩, rfl⟩)) dL_put_15
    · refine y_catch E.2.2.2.1 [⟨0, 9, 12, 13⟩] ⟨0, 9, 16, 19⟩ [] ht (fun z hz => by rcases List.mem_singleton.mp hz with rfl; exact Or.inr ⟨by decide, sIO, E.2.2.2.2 _ wm_L_put_k13, F.2.2.2.2.2.2.2.1⟩) (by decide) (by decide) (E.2.2.2.2 _ wm_L_put_k19) h1 h2 h3 ?_
      refine lv_astore (lv' := [(5, .ref (q9)), (0, .ref (gA g 0)), (1, .int (x1)), (2, .int (x2)), (3, .int (x3)), (4, .int (x4))]) hx hb dL_put_16 hl (by decide) rfl (fun ls hl => ?_)
      refine lv_iconst (v := nI (2)) hx hb dL_put_18 (by decide) ?_
      exact l_iret hx hb hr hk F I (by decide) (by decide) (Or.inr (Or.inr ⟨rfl, Or.inr ⟨rfl, hxc⟩, rfl⟩)) dL_put_19
  · have hv9 := hp.1
    subst hv9
    refine W.eq (g2 := F0 m 9 ls []) rfl ?_
    refine lv_goto (tgt := 20) hx hb dL_put_9 (by decide) ?_
    refine lv_iconst (v := nI (0)) hx hb dL_put_20 (by decide) ?_
    exact l_iret hx hb hr hk F I (by decide) (by decide) (Or.inl ⟨rfl, hp⟩) dL_put_21
theorem hd_L_put : yL_put.cls ≠ "java/lang/invoke/MethodHandle" ∧ yL_put.cls ≠ "java/lang/invoke/VarHandle" ∧ (parseMethodDescriptor yL_put.desc).map (fun d => d.parameters.length) = some 5 := by decide +kernel
theorem wm_L_swap_k13 : Cond.classLink RL 13 sIO ∈ wsL_swap := by decide +kernel
theorem wm_L_swap_k19 : Cond.classLink RL 19 sIA ∈ wsL_swap := by decide +kernel
set_option maxHeartbeats 4000000 in
set_option maxRecDepth 100000 in
theorem l_swap (l : Launch) (hl0 : l.stackTraces = false) (g : Geo) (R : Nat → Nat → Int64) (B : Rul) (M : Mod) (O : Nat → Int64) (x1 : Int32) (x2 : Int32) (x3 : Int32) (x4 : Int32) : Ls l g yL_swap wsL_swap (rmX 8 137 5 30) [.ref (gA g 0), .int (x1), .int (x2), .int (x3), .int (x4)] (R, B, M, O) (pW (fun v' u' => v' = none ∧ ∃ s0_ a_ v_ z_ : Nat, s0_ < 48 ∧ a_ < 48 ∧ v_ < 10 ∧ z_ < 10 ∧ x1 = nI s0_ ∧ x2 = nI a_ ∧ x3 = nI v_ ∧ x4 = nI z_ ∧ ∃ R', u' = (R', B, M, O) ∧ Upd R R' s0_ (fun i => pk3 (vwd v_ i ^^^ vwd z_ i) (twd (fun j => twd (R a_) j v_) i z_) (R a_ i))) (fun E0 => (E0 = sIO ∧ ¬ (okI 48 x1 ∧ okI 48 x2)) ∨ (E0 = sIA ∧ (okI 48 x1 ∧ okI 48 x2) ∧ ¬ (okI 10 x3 ∧ okI 10 x4))) (R, B, M, O)) := by
  refine Ls.ofW RL rfl (by decide) rfl (Nat.le_of_ble_eq_true rfl) ?_
  intro p e s m below meth c E hr hk ht F I ls hl
  have hx := E.1
  have hb := E.2.1
  have hl : lv_has ls 6 [(0, .ref (gA g 0)), (1, .int (x1)), (2, .int (x2)), (3, .int (x3)), (4, .int (x4))] := hl
  refine lv_aload_n hx hb dL_swap_0 rfl (lv_at hl 0 rfl) ?_
  refine lv_iload_n hx hb dL_swap_1 rfl (lv_at hl 1 rfl) ?_
  refine lv_iload_n hx hb dL_swap_2 rfl (lv_at hl 2 rfl) ?_
  refine lv_iload_n hx hb dL_swap_3 rfl (lv_at hl 3 rfl) ?_
  refine lv_iload hx hb dL_swap_4 (lv_at hl 4 rfl) ?_
  refine z_callV 0 1 (rest := []) (C := RX1) (T0 := TX1) (N := 6) E F I (c_swap l hl0 g R B M O x1 x2 x3 x4) gL_swap_X1_swap rfl (by decide) rfl rfl rfl hd_X1_swap rfl rfl ⟨by decide, by decide⟩ ⟨by decide, by decide⟩ rfl hl.1 rfl (Nat.le_of_ble_eq_true rfl) dL_swap_6 (fun E0 ce q9 H locs hxc I h1 h2 h3 => ?_) (fun v9 u9 H locs hp I => ?_)
  · rcases hxc with ⟨rfl, hxc⟩ | ⟨rfl, hxc⟩
    · refine y_catch E.2.2.2.1 [] ⟨0, 9, 12, 13⟩ [⟨0, 9, 16, 19⟩] ht (fun z hz => absurd hz List.not_mem_nil) (by decide) (by decide) (E.2.2.2.2 _ wm_L_swap_k13) h1 h2 h3 ?_
      refine lv_astore (lv' := [(5, .ref (q9)), (0, .ref (gA g 0)), (1, .int (x1)), (2, .int (x2)), (3, .int (x3)), (4, .int (x4))]) hx hb dL_swap_12 hl (by decide) rfl (fun ls hl => ?_)
      refine lv_iconst (v := nI (1)) hx hb dL_swap_14 (by decide) ?_
      exact l_iret hx hb hr hk F I (by decide) (by decide) (Or.inr (Or.inl ⟨rfl, Or.inl ⟨rfl, hxc⟩, rfl⟩)) dL_swap_15
    · refine y_catch E.2.2.2.1 [⟨0, 9, 12, 13⟩] ⟨0, 9, 16, 19⟩ [] ht (fun z hz => by rcases List.mem_singleton.mp hz with rfl; exact Or.inr ⟨by decide, sIO, E.2.2.2.2 _ wm_L_swap_k13, F.2.2.2.2.2.2.2.1⟩) (by decide) (by decide) (E.2.2.2.2 _ wm_L_swap_k19) h1 h2 h3 ?_
      refine lv_astore (lv' := [(5, .ref (q9)), (0, .ref (gA g 0)), (1, .int (x1)), (2, .int (x2)), (3, .int (x3)), (4, .int (x4))]) hx hb dL_swap_16 hl (by decide) rfl (fun ls hl => ?_)
      refine lv_iconst (v := nI (2)) hx hb dL_swap_18 (by decide) ?_
      exact l_iret hx hb hr hk F I (by decide) (by decide) (Or.inr (Or.inr ⟨rfl, Or.inr ⟨rfl, hxc⟩, rfl⟩)) dL_swap_19
  · have hv9 := hp.1
    subst hv9
    refine W.eq (g2 := F0 m 9 ls []) rfl ?_
    refine lv_goto (tgt := 20) hx hb dL_swap_9 (by decide) ?_
    refine lv_iconst (v := nI (0)) hx hb dL_swap_20 (by decide) ?_
    exact l_iret hx hb hr hk F I (by decide) (by decide) (Or.inl ⟨rfl, hp⟩) dL_swap_21
theorem hd_L_swap : yL_swap.cls ≠ "java/lang/invoke/MethodHandle" ∧ yL_swap.cls ≠ "java/lang/invoke/VarHandle" ∧ (parseMethodDescriptor yL_swap.desc).map (fun d => d.parameters.length) = some 5 := by decide +kernel
theorem wm_L_nearest_k13 : Cond.classLink RL 13 sIO ∈ wsL_nearest := by decide +kernel
theorem wm_L_nearest_k19 : Cond.classLink RL 19 sIA ∈ wsL_nearest := by decide +kernel
set_option maxHeartbeats 4000000 in
set_option maxRecDepth 100000 in
theorem l_nearest (l : Launch) (hl0 : l.stackTraces = false) (g : Geo) (R : Nat → Nat → Int64) (B : Rul) (M : Mod) (O : Nat → Int64) (x1 : Int32) (x2 : Int32) (x3 : Int32) : Ls l g yL_nearest wsL_nearest (rmX 8 134 5 30) [.ref (gA g 0), .int (x1), .int (x2), .int (x3)] (R, B, M, O) (pW (fun v' u' => v' = none ∧ ∃ s0_ a_ c0_ : Nat, s0_ < 48 ∧ a_ < 48 ∧ c0_ < 48 ∧ x1 = nI s0_ ∧ x2 = nI a_ ∧ x3 = nI c0_ ∧ isF (R c0_) = false ∧ ∃ R', u' = (R', B, M, O) ∧ Upd R R' s0_ (fun i => nM (R a_) (R c0_) 10 i)) (fun E0 => (E0 = sIO ∧ ¬ (okI 48 x1 ∧ okI 48 x2 ∧ okI 48 x3)) ∨ (E0 = sIA ∧ (okI 48 x1 ∧ okI 48 x2 ∧ okI 48 x3) ∧ ¬ (¬ isFx R x3))) (R, B, M, O)) := by
  refine Ls.ofW RL rfl (by decide) rfl (Nat.le_of_ble_eq_true rfl) ?_
  intro p e s m below meth c E hr hk ht F I ls hl
  have hx := E.1
  have hb := E.2.1
  have hl : lv_has ls 5 [(0, .ref (gA g 0)), (1, .int (x1)), (2, .int (x2)), (3, .int (x3))] := hl
  refine lv_aload_n hx hb dL_nearest_0 rfl (lv_at hl 0 rfl) ?_
  refine lv_iload_n hx hb dL_nearest_1 rfl (lv_at hl 1 rfl) ?_
  refine lv_iload_n hx hb dL_nearest_2 rfl (lv_at hl 2 rfl) ?_
  refine lv_iload_n hx hb dL_nearest_3 rfl (lv_at hl 3 rfl) ?_
  refine z_callV 0 1 (rest := []) (C := RX1) (T0 := TX1) (N := 6) E F I (c_nearest l hl0 g R B M O x1 x2 x3) gL_nearest_X1_nearest rfl (by decide) rfl rfl rfl hd_X1_nearest rfl rfl ⟨by decide, by decide⟩ ⟨by decide, by decide⟩ rfl hl.1 rfl (Nat.le_of_ble_eq_true rfl) dL_nearest_4 (fun E0 ce q9 H locs hxc I h1 h2 h3 => ?_) (fun v9 u9 H locs hp I => ?_)
  · rcases hxc with ⟨rfl, hxc⟩ | ⟨rfl, hxc⟩
    · refine y_catch E.2.2.2.1 [] ⟨0, 7, 10, 13⟩ [⟨0, 7, 14, 19⟩] ht (fun z hz => absurd hz List.not_mem_nil) (by decide) (by decide) (E.2.2.2.2 _ wm_L_nearest_k13) h1 h2 h3 ?_
      refine lv_astore (lv' := [(4, .ref (q9)), (0, .ref (gA g 0)), (1, .int (x1)), (2, .int (x2)), (3, .int (x3))]) hx hb dL_nearest_10 hl (by decide) rfl (fun ls hl => ?_)
      refine lv_iconst (v := nI (1)) hx hb dL_nearest_12 (by decide) ?_
      exact l_iret hx hb hr hk F I (by decide) (by decide) (Or.inr (Or.inl ⟨rfl, Or.inl ⟨rfl, hxc⟩, rfl⟩)) dL_nearest_13
    · refine y_catch E.2.2.2.1 [⟨0, 7, 10, 13⟩] ⟨0, 7, 14, 19⟩ [] ht (fun z hz => by rcases List.mem_singleton.mp hz with rfl; exact Or.inr ⟨by decide, sIO, E.2.2.2.2 _ wm_L_nearest_k13, F.2.2.2.2.2.2.2.1⟩) (by decide) (by decide) (E.2.2.2.2 _ wm_L_nearest_k19) h1 h2 h3 ?_
      refine lv_astore (lv' := [(4, .ref (q9)), (0, .ref (gA g 0)), (1, .int (x1)), (2, .int (x2)), (3, .int (x3))]) hx hb dL_nearest_14 hl (by decide) rfl (fun ls hl => ?_)
      refine lv_iconst (v := nI (2)) hx hb dL_nearest_16 (by decide) ?_
      exact l_iret hx hb hr hk F I (by decide) (by decide) (Or.inr (Or.inr ⟨rfl, Or.inr ⟨rfl, hxc⟩, rfl⟩)) dL_nearest_17
  · have hv9 := hp.1
    subst hv9
    refine W.eq (g2 := F0 m 7 ls []) rfl ?_
    refine lv_goto (tgt := 18) hx hb dL_nearest_7 (by decide) ?_
    refine lv_iconst (v := nI (0)) hx hb dL_nearest_18 (by decide) ?_
    exact l_iret hx hb hr hk F I (by decide) (by decide) (Or.inl ⟨rfl, hp⟩) dL_nearest_19
theorem hd_L_nearest : yL_nearest.cls ≠ "java/lang/invoke/MethodHandle" ∧ yL_nearest.cls ≠ "java/lang/invoke/VarHandle" ∧ (parseMethodDescriptor yL_nearest.desc).map (fun d => d.parameters.length) = some 4 := by decide +kernel
theorem wm_L_isSame_k13 : Cond.classLink RL 13 sIO ∈ wsL_isSame := by decide +kernel
set_option maxHeartbeats 4000000 in
set_option maxRecDepth 100000 in
theorem l_isSame (l : Launch) (hl0 : l.stackTraces = false) (g : Geo) (R : Nat → Nat → Int64) (B : Rul) (M : Mod) (O : Nat → Int64) (x1 : Int32) (x2 : Int32) : Ls l g yL_isSame wsL_isSame (rmX 8 133 5 30) [.ref (gA g 0), .int (x1), .int (x2), .ref (gA g 9)] (R, B, M, O) (pR (fun v' u' => u' = (R, B, M, O) ∧ ∃ a_ b_ : Nat, a_ < 48 ∧ b_ < 48 ∧ x1 = nI a_ ∧ x2 = nI b_ ∧ v' = some (.int (bI (pB (∀ j, j < 16 → R a_ j = R b_ j))))) (fun E0 => (E0 = sIO ∧ ¬ (okI 48 x1 ∧ okI 48 x2))) (R, B, M, O) cvB) := by
  refine Ls.ofW RL rfl (by decide) rfl (Nat.le_of_ble_eq_true rfl) ?_
  intro p e s m below meth c E hr hk ht F I ls hl
  have hx := E.1
  have hb := E.2.1
  have hl : lv_has ls 5 [(0, .ref (gA g 0)), (1, .int (x1)), (2, .int (x2)), (3, .ref (gA g 9))] := hl
  refine lv_aload_n hx hb dL_isSame_0 rfl (lv_at hl 3 rfl) ?_
  refine lv_iconst (v := nI (0)) hx hb dL_isSame_1 (by decide) ?_
  refine lv_aload_n hx hb dL_isSame_2 rfl (lv_at hl 0 rfl) ?_
  refine lv_iload_n hx hb dL_isSame_3 rfl (lv_at hl 1 rfl) ?_
  refine lv_iload_n hx hb dL_isSame_4 rfl (lv_at hl 2 rfl) ?_
  refine z_callV 0 1 (rest := [.int (nI (0)), .ref (gA g 9)]) (C := RX1) (T0 := TX1) (N := 6) E F I (c_isSame l hl0 g R B M O x1 x2) gL_isSame_X1_isSame rfl (by decide) rfl rfl rfl hd_X1_isSame rfl rfl ⟨by decide, by decide⟩ ⟨by decide, by decide⟩ rfl hl.1 rfl (Nat.le_of_ble_eq_true rfl) dL_isSame_5 (fun E0 ce q9 H locs hxc I h1 h2 h3 => ?_) (fun v9 u9 H locs hp I => ?_)
  · obtain ⟨rfl, hxc⟩ := hxc
    refine y_catch E.2.2.2.1 [] ⟨0, 17, 20, 13⟩ [] ht (fun z hz => absurd hz List.not_mem_nil) (by decide) (by decide) (E.2.2.2.2 _ wm_L_isSame_k13) h1 h2 h3 ?_
    refine lv_astore (lv' := [(4, .ref (q9)), (0, .ref (gA g 0)), (1, .int (x1)), (2, .int (x2)), (3, .ref (gA g 9))]) hx hb dL_isSame_20 hl (by decide) rfl (fun ls hl => ?_)
    refine lv_iconst (v := nI (1)) hx hb dL_isSame_22 (by decide) ?_
    exact l_iret hx hb hr hk F I (by decide) (by decide) (Or.inr (Or.inl ⟨rfl, ⟨rfl, hxc⟩, rfl⟩)) dL_isSame_23
  · obtain ⟨rfl, a9, b9, i1, i2, i3, i4, rfl⟩ := id hp
    refine W.eq (g2 := F0 m 8 ls [.int (bI (pB (∀ j, j < 16 → R a9 j = R b9 j))), .int (nI (0)), .ref (gA g 9)]) rfl ?_
    refine n_zeq (tgt := 15) hx hb dL_isSame_8 (by decide) (fun h1 => ?_) (fun h1 => ?_)
    · refine lv_lconst (v := 0) hx hb dL_isSame_15 (by decide) ?_
      refine x_oastore hx hb F I (by omega) dL_isSame_16 (fun H locs I => ?_)
      refine lv_goto (tgt := 24) hx hb dL_isSame_17 (by decide) ?_
      refine lv_iconst (v := nI (0)) hx hb dL_isSame_24 (by decide) ?_
      exact l_iret hx hb hr hk F I (by decide) (by decide) (Or.inl ⟨rfl, _, _, hp, by simp only [cvB, h1, bI, if_true, if_false, Bool.false_eq_true] <;> rfl⟩) dL_isSame_25
    · refine lv_lconst (v := 1) hx hb dL_isSame_11 (by decide) ?_
      refine lv_goto (tgt := 16) hx hb dL_isSame_12 (by decide) ?_
      refine x_oastore hx hb F I (by omega) dL_isSame_16 (fun H locs I => ?_)
      refine lv_goto (tgt := 24) hx hb dL_isSame_17 (by decide) ?_
      refine lv_iconst (v := nI (0)) hx hb dL_isSame_24 (by decide) ?_
      exact l_iret hx hb hr hk F I (by decide) (by decide) (Or.inl ⟨rfl, _, _, hp, by simp only [cvB, h1, bI, if_true, if_false, Bool.false_eq_true] <;> rfl⟩) dL_isSame_25
theorem hd_L_isSame : yL_isSame.cls ≠ "java/lang/invoke/MethodHandle" ∧ yL_isSame.cls ≠ "java/lang/invoke/VarHandle" ∧ (parseMethodDescriptor yL_isSame.desc).map (fun d => d.parameters.length) = some 4 := by decide +kernel
theorem wm_L_truth_k13 : Cond.classLink RL 13 sIO ∈ wsL_truth := by decide +kernel
theorem wm_L_truth_k19 : Cond.classLink RL 19 sIA ∈ wsL_truth := by decide +kernel
set_option maxHeartbeats 4000000 in
set_option maxRecDepth 100000 in
theorem l_truth (l : Launch) (hl0 : l.stackTraces = false) (g : Geo) (R : Nat → Nat → Int64) (B : Rul) (M : Mod) (O : Nat → Int64) (x1 : Int32) (x2 : Int32) : Ls l g yL_truth wsL_truth (rmX 8 132 5 30) [.ref (gA g 0), .int (x1), .int (x2), .ref (gA g 9)] (R, B, M, O) (pR (fun v' u' => u' = (R, B, M, O) ∧ ∃ a_ k_ : Nat, a_ < 48 ∧ k_ < 1024 ∧ x1 = nI a_ ∧ x2 = nI k_ ∧ v' = some (.int (bI (pB (ush (R a_ (k_ / 64)) (k_ % 64) &&& 1 ≠ 0))))) (fun E0 => (E0 = sIO ∧ ¬ (okI 48 x1)) ∨ (E0 = sIA ∧ (okI 48 x1) ∧ ¬ (okI 1024 x2))) (R, B, M, O) cvB) := by
  refine Ls.ofW RL rfl (by decide) rfl (Nat.le_of_ble_eq_true rfl) ?_
  intro p e s m below meth c E hr hk ht F I ls hl
  have hx := E.1
  have hb := E.2.1
  have hl : lv_has ls 5 [(0, .ref (gA g 0)), (1, .int (x1)), (2, .int (x2)), (3, .ref (gA g 9))] := hl
  refine lv_aload_n hx hb dL_truth_0 rfl (lv_at hl 3 rfl) ?_
  refine lv_iconst (v := nI (0)) hx hb dL_truth_1 (by decide) ?_
  refine lv_aload_n hx hb dL_truth_2 rfl (lv_at hl 0 rfl) ?_
  refine lv_iload_n hx hb dL_truth_3 rfl (lv_at hl 1 rfl) ?_
  refine lv_iload_n hx hb dL_truth_4 rfl (lv_at hl 2 rfl) ?_
  refine z_callV 0 1 (rest := [.int (nI (0)), .ref (gA g 9)]) (C := RX1) (T0 := TX1) (N := 6) E F I (c_truth l hl0 g R B M O x1 x2) gL_truth_X1_truth rfl (by decide) rfl rfl rfl hd_X1_truth rfl rfl ⟨by decide, by decide⟩ ⟨by decide, by decide⟩ rfl hl.1 rfl (Nat.le_of_ble_eq_true rfl) dL_truth_5 (fun E0 ce q9 H locs hxc I h1 h2 h3 => ?_) (fun v9 u9 H locs hp I => ?_)
  · rcases hxc with ⟨rfl, hxc⟩ | ⟨rfl, hxc⟩
    · refine y_catch E.2.2.2.1 [] ⟨0, 17, 20, 13⟩ [⟨0, 17, 24, 19⟩] ht (fun z hz => absurd hz List.not_mem_nil) (by decide) (by decide) (E.2.2.2.2 _ wm_L_truth_k13) h1 h2 h3 ?_
      refine lv_astore (lv' := [(4, .ref (q9)), (0, .ref (gA g 0)), (1, .int (x1)), (2, .int (x2)), (3, .ref (gA g 9))]) hx hb dL_truth_20 hl (by decide) rfl (fun ls hl => ?_)
      refine lv_iconst (v := nI (1)) hx hb dL_truth_22 (by decide) ?_
      exact l_iret hx hb hr hk F I (by decide) (by decide) (Or.inr (Or.inl ⟨rfl, Or.inl ⟨rfl, hxc⟩, rfl⟩)) dL_truth_23
    · refine y_catch E.2.2.2.1 [⟨0, 17, 20, 13⟩] ⟨0, 17, 24, 19⟩ [] ht (fun z hz => by rcases List.mem_singleton.mp hz with rfl; exact Or.inr ⟨by decide, sIO, E.2.2.2.2 _ wm_L_truth_k13, F.2.2.2.2.2.2.2.1⟩) (by decide) (by decide) (E.2.2.2.2 _ wm_L_truth_k19) h1 h2 h3 ?_
      refine lv_astore (lv' := [(4, .ref (q9)), (0, .ref (gA g 0)), (1, .int (x1)), (2, .int (x2)), (3, .ref (gA g 9))]) hx hb dL_truth_24 hl (by decide) rfl (fun ls hl => ?_)
      refine lv_iconst (v := nI (2)) hx hb dL_truth_26 (by decide) ?_
      exact l_iret hx hb hr hk F I (by decide) (by decide) (Or.inr (Or.inr ⟨rfl, Or.inr ⟨rfl, hxc⟩, rfl⟩)) dL_truth_27
  · obtain ⟨rfl, a9, b9, i1, i2, i3, i4, rfl⟩ := id hp
    refine W.eq (g2 := F0 m 8 ls [.int (bI (pB (ush (R a9 (b9 / 64)) (b9 % 64) &&& 1 ≠ 0))), .int (nI (0)), .ref (gA g 9)]) rfl ?_
    refine n_zeq (tgt := 15) hx hb dL_truth_8 (by decide) (fun h1 => ?_) (fun h1 => ?_)
    · refine lv_lconst (v := 0) hx hb dL_truth_15 (by decide) ?_
      refine x_oastore hx hb F I (by omega) dL_truth_16 (fun H locs I => ?_)
      refine lv_goto (tgt := 28) hx hb dL_truth_17 (by decide) ?_
      refine lv_iconst (v := nI (0)) hx hb dL_truth_28 (by decide) ?_
      exact l_iret hx hb hr hk F I (by decide) (by decide) (Or.inl ⟨rfl, _, _, hp, by simp only [cvB, h1, bI, if_true, if_false, Bool.false_eq_true] <;> rfl⟩) dL_truth_29
    · refine lv_lconst (v := 1) hx hb dL_truth_11 (by decide) ?_
      refine lv_goto (tgt := 16) hx hb dL_truth_12 (by decide) ?_
      refine x_oastore hx hb F I (by omega) dL_truth_16 (fun H locs I => ?_)
      refine lv_goto (tgt := 28) hx hb dL_truth_17 (by decide) ?_
      refine lv_iconst (v := nI (0)) hx hb dL_truth_28 (by decide) ?_
      exact l_iret hx hb hr hk F I (by decide) (by decide) (Or.inl ⟨rfl, _, _, hp, by simp only [cvB, h1, bI, if_true, if_false, Bool.false_eq_true] <;> rfl⟩) dL_truth_29
theorem hd_L_truth : yL_truth.cls ≠ "java/lang/invoke/MethodHandle" ∧ yL_truth.cls ≠ "java/lang/invoke/VarHandle" ∧ (parseMethodDescriptor yL_truth.desc).map (fun d => d.parameters.length) = some 4 := by decide +kernel
theorem wm_L_count_k13 : Cond.classLink RL 13 sIO ∈ wsL_count := by decide +kernel
set_option maxHeartbeats 4000000 in
set_option maxRecDepth 100000 in
theorem l_count (l : Launch) (hl0 : l.stackTraces = false) (g : Geo) (R : Nat → Nat → Int64) (B : Rul) (M : Mod) (O : Nat → Int64) (x1 : Int32) : Ls l g yL_count wsL_count (rmX 8 133 5 30) [.ref (gA g 0), .int (x1), .ref (gA g 9)] (R, B, M, O) (pR (fun v' u' => u' = (R, B, M, O) ∧ ∃ a_ : Nat, a_ < 48 ∧ x1 = nI a_ ∧ v' = some (.int (nI (cwd (R a_) 16)))) (fun E0 => (E0 = sIO ∧ ¬ (okI 48 x1))) (R, B, M, O) cvI) := by
  refine Ls.ofW RL rfl (by decide) rfl (Nat.le_of_ble_eq_true rfl) ?_
  intro p e s m below meth c E hr hk ht F I ls hl
  have hx := E.1
  have hb := E.2.1
  have hl : lv_has ls 4 [(0, .ref (gA g 0)), (1, .int (x1)), (2, .ref (gA g 9))] := hl
  refine lv_aload_n hx hb dL_count_0 rfl (lv_at hl 2 rfl) ?_
  refine lv_iconst (v := nI (0)) hx hb dL_count_1 (by decide) ?_
  refine lv_aload_n hx hb dL_count_2 rfl (lv_at hl 0 rfl) ?_
  refine lv_iload_n hx hb dL_count_3 rfl (lv_at hl 1 rfl) ?_
  refine z_callV 0 1 (rest := [.int (nI (0)), .ref (gA g 9)]) (C := RX1) (T0 := TX1) (N := 6) E F I (c_count l hl0 g R B M O x1) gL_count_X1_count rfl (by decide) rfl rfl rfl hd_X1_count rfl rfl ⟨by decide, by decide⟩ ⟨by decide, by decide⟩ rfl hl.1 rfl (Nat.le_of_ble_eq_true rfl) dL_count_4 (fun E0 ce q9 H locs hxc I h1 h2 h3 => ?_) (fun v9 u9 H locs hp I => ?_)
  · obtain ⟨rfl, hxc⟩ := hxc
    refine y_catch E.2.2.2.1 [] ⟨0, 9, 12, 13⟩ [] ht (fun z hz => absurd hz List.not_mem_nil) (by decide) (by decide) (E.2.2.2.2 _ wm_L_count_k13) h1 h2 h3 ?_
    refine lv_astore_n (lv' := [(3, .ref (q9)), (0, .ref (gA g 0)), (1, .int (x1)), (2, .ref (gA g 9))]) hx hb dL_count_12 rfl hl (by decide) rfl (fun ls hl => ?_)
    refine lv_iconst (v := nI (1)) hx hb dL_count_13 (by decide) ?_
    exact l_iret hx hb hr hk F I (by decide) (by decide) (Or.inr (Or.inl ⟨rfl, ⟨rfl, hxc⟩, rfl⟩)) dL_count_14
  · obtain ⟨rfl, a9, i1, i2, rfl⟩ := id hp
    refine W.eq (g2 := F0 m 7 ls [.int (nI (cwd (R a9) 16)), .int (nI (0)), .ref (gA g 9)]) rfl ?_
    refine lv_i2l hx hb dL_count_7 rfl ?_
    refine x_oastore hx hb F I (by omega) dL_count_8 (fun H locs I => ?_)
    refine lv_goto (tgt := 15) hx hb dL_count_9 (by decide) ?_
    refine lv_iconst (v := nI (0)) hx hb dL_count_15 (by decide) ?_
    exact l_iret hx hb hr hk F I (by decide) (by decide) (Or.inl ⟨rfl, _, _, hp, by rfl⟩) dL_count_16
theorem hd_L_count : yL_count.cls ≠ "java/lang/invoke/MethodHandle" ∧ yL_count.cls ≠ "java/lang/invoke/VarHandle" ∧ (parseMethodDescriptor yL_count.desc).map (fun d => d.parameters.length) = some 3 := by decide +kernel
theorem wm_L_next_k13 : Cond.classLink RL 13 sIO ∈ wsL_next := by decide +kernel
theorem wm_L_next_k19 : Cond.classLink RL 19 sIA ∈ wsL_next := by decide +kernel
set_option maxHeartbeats 4000000 in
set_option maxRecDepth 100000 in
theorem l_next (l : Launch) (hl0 : l.stackTraces = false) (g : Geo) (R : Nat → Nat → Int64) (B : Rul) (M : Mod) (O : Nat → Int64) (x1 : Int32) (x2 : Int32) : Ls l g yL_next wsL_next (rmX 8 138 5 30) [.ref (gA g 0), .int (x1), .int (x2), .ref (gA g 9)] (R, B, M, O) (pR (fun v' u' => u' = (R, B, M, O) ∧ ∃ a_ k_ : Nat, a_ < 48 ∧ k_ < 1024 ∧ x1 = nI a_ ∧ x2 = nI k_ ∧ ∃ r : Int32, v' = some (.int r) ∧ ((∃ i, k_ / 64 ≤ i ∧ i < 16 ∧ (∀ j, k_ / 64 ≤ j → j < i → wnx (R a_) k_ j = 0) ∧ wnx (R a_) k_ i ≠ 0 ∧ r = nI (i * 64 + lwb (wnx (R a_) k_ i))) ∨ ((∀ j, k_ / 64 ≤ j → j < 16 → wnx (R a_) k_ j = 0) ∧ r = -1))) (fun E0 => (E0 = sIO ∧ ¬ (okI 48 x1)) ∨ (E0 = sIA ∧ (okI 48 x1) ∧ ¬ (okI 1024 x2))) (R, B, M, O) cvI) := by
  refine Ls.ofW RL rfl (by decide) rfl (Nat.le_of_ble_eq_true rfl) ?_
  intro p e s m below meth c E hr hk ht F I ls hl
  have hx := E.1
  have hb := E.2.1
  have hl : lv_has ls 5 [(0, .ref (gA g 0)), (1, .int (x1)), (2, .int (x2)), (3, .ref (gA g 9))] := hl
  refine lv_aload_n hx hb dL_next_0 rfl (lv_at hl 3 rfl) ?_
  refine lv_iconst (v := nI (0)) hx hb dL_next_1 (by decide) ?_
  refine lv_aload_n hx hb dL_next_2 rfl (lv_at hl 0 rfl) ?_
  refine lv_iload_n hx hb dL_next_3 rfl (lv_at hl 1 rfl) ?_
  refine lv_iload_n hx hb dL_next_4 rfl (lv_at hl 2 rfl) ?_
  refine z_callV 0 1 (rest := [.int (nI (0)), .ref (gA g 9)]) (C := RX1) (T0 := TX1) (N := 6) E F I (c_next l hl0 g R B M O x1 x2) gL_next_X1_next rfl (by decide) rfl rfl rfl hd_X1_next rfl rfl ⟨by decide, by decide⟩ ⟨by decide, by decide⟩ rfl hl.1 rfl (Nat.le_of_ble_eq_true rfl) dL_next_5 (fun E0 ce q9 H locs hxc I h1 h2 h3 => ?_) (fun v9 u9 H locs hp I => ?_)
  · rcases hxc with ⟨rfl, hxc⟩ | ⟨rfl, hxc⟩
    · refine y_catch E.2.2.2.1 [] ⟨0, 10, 13, 13⟩ [⟨0, 10, 17, 19⟩] ht (fun z hz => absurd hz List.not_mem_nil) (by decide) (by decide) (E.2.2.2.2 _ wm_L_next_k13) h1 h2 h3 ?_
      refine lv_astore (lv' := [(4, .ref (q9)), (0, .ref (gA g 0)), (1, .int (x1)), (2, .int (x2)), (3, .ref (gA g 9))]) hx hb dL_next_13 hl (by decide) rfl (fun ls hl => ?_)
      refine lv_iconst (v := nI (1)) hx hb dL_next_15 (by decide) ?_
      exact l_iret hx hb hr hk F I (by decide) (by decide) (Or.inr (Or.inl ⟨rfl, Or.inl ⟨rfl, hxc⟩, rfl⟩)) dL_next_16
    · refine y_catch E.2.2.2.1 [⟨0, 10, 13, 13⟩] ⟨0, 10, 17, 19⟩ [] ht (fun z hz => by rcases List.mem_singleton.mp hz with rfl; exact Or.inr ⟨by decide, sIO, E.2.2.2.2 _ wm_L_next_k13, F.2.2.2.2.2.2.2.1⟩) (by decide) (by decide) (E.2.2.2.2 _ wm_L_next_k19) h1 h2 h3 ?_
      refine lv_astore (lv' := [(4, .ref (q9)), (0, .ref (gA g 0)), (1, .int (x1)), (2, .int (x2)), (3, .ref (gA g 9))]) hx hb dL_next_17 hl (by decide) rfl (fun ls hl => ?_)
      refine lv_iconst (v := nI (2)) hx hb dL_next_19 (by decide) ?_
      exact l_iret hx hb hr hk F I (by decide) (by decide) (Or.inr (Or.inr ⟨rfl, Or.inr ⟨rfl, hxc⟩, rfl⟩)) dL_next_20
  · obtain ⟨rfl, a9, b9, i1, i2, i3, i4, r9, rfl, i5⟩ := id hp
    refine W.eq (g2 := F0 m 8 ls [.int (r9), .int (nI (0)), .ref (gA g 9)]) rfl ?_
    refine lv_i2l hx hb dL_next_8 rfl ?_
    refine x_oastore hx hb F I (by omega) dL_next_9 (fun H locs I => ?_)
    refine lv_goto (tgt := 21) hx hb dL_next_10 (by decide) ?_
    refine lv_iconst (v := nI (0)) hx hb dL_next_21 (by decide) ?_
    exact l_iret hx hb hr hk F I (by decide) (by decide) (Or.inl ⟨rfl, _, _, hp, by rfl⟩) dL_next_22
theorem hd_L_next : yL_next.cls ≠ "java/lang/invoke/MethodHandle" ∧ yL_next.cls ≠ "java/lang/invoke/VarHandle" ∧ (parseMethodDescriptor yL_next.desc).map (fun d => d.parameters.length) = some 4 := by decide +kernel
theorem wm_L_depends_k13 : Cond.classLink RL 13 sIO ∈ wsL_depends := by decide +kernel
set_option maxHeartbeats 4000000 in
set_option maxRecDepth 100000 in
theorem l_depends (l : Launch) (hl0 : l.stackTraces = false) (g : Geo) (R : Nat → Nat → Int64) (B : Rul) (M : Mod) (O : Nat → Int64) (x1 : Int32) : Ls l g yL_depends wsL_depends (rmX 8 133 5 30) [.ref (gA g 0), .int (x1), .ref (gA g 9)] (R, B, M, O) (pR (fun v' u' => u' = (R, B, M, O) ∧ ∃ a_ : Nat, a_ < 48 ∧ x1 = nI a_ ∧ v' = some (.int (nI (dps (R a_) 10)))) (fun E0 => (E0 = sIO ∧ ¬ (okI 48 x1))) (R, B, M, O) cvI) := by
  refine Ls.ofW RL rfl (by decide) rfl (Nat.le_of_ble_eq_true rfl) ?_
  intro p e s m below meth c E hr hk ht F I ls hl
  have hx := E.1
  have hb := E.2.1
  have hl : lv_has ls 4 [(0, .ref (gA g 0)), (1, .int (x1)), (2, .ref (gA g 9))] := hl
  refine lv_aload_n hx hb dL_depends_0 rfl (lv_at hl 2 rfl) ?_
  refine lv_iconst (v := nI (0)) hx hb dL_depends_1 (by decide) ?_
  refine lv_aload_n hx hb dL_depends_2 rfl (lv_at hl 0 rfl) ?_
  refine lv_iload_n hx hb dL_depends_3 rfl (lv_at hl 1 rfl) ?_
  refine z_callV 0 1 (rest := [.int (nI (0)), .ref (gA g 9)]) (C := RX1) (T0 := TX1) (N := 6) E F I (c_depends l hl0 g R B M O x1) gL_depends_X1_depends rfl (by decide) rfl rfl rfl hd_X1_depends rfl rfl ⟨by decide, by decide⟩ ⟨by decide, by decide⟩ rfl hl.1 rfl (Nat.le_of_ble_eq_true rfl) dL_depends_4 (fun E0 ce q9 H locs hxc I h1 h2 h3 => ?_) (fun v9 u9 H locs hp I => ?_)
  · obtain ⟨rfl, hxc⟩ := hxc
    refine y_catch E.2.2.2.1 [] ⟨0, 9, 12, 13⟩ [] ht (fun z hz => absurd hz List.not_mem_nil) (by decide) (by decide) (E.2.2.2.2 _ wm_L_depends_k13) h1 h2 h3 ?_
    refine lv_astore_n (lv' := [(3, .ref (q9)), (0, .ref (gA g 0)), (1, .int (x1)), (2, .ref (gA g 9))]) hx hb dL_depends_12 rfl hl (by decide) rfl (fun ls hl => ?_)
    refine lv_iconst (v := nI (1)) hx hb dL_depends_13 (by decide) ?_
    exact l_iret hx hb hr hk F I (by decide) (by decide) (Or.inr (Or.inl ⟨rfl, ⟨rfl, hxc⟩, rfl⟩)) dL_depends_14
  · obtain ⟨rfl, a9, i1, i2, rfl⟩ := id hp
    refine W.eq (g2 := F0 m 7 ls [.int (nI (dps (R a9) 10)), .int (nI (0)), .ref (gA g 9)]) rfl ?_
    refine lv_i2l hx hb dL_depends_7 rfl ?_
    refine x_oastore hx hb F I (by omega) dL_depends_8 (fun H locs I => ?_)
    refine lv_goto (tgt := 15) hx hb dL_depends_9 (by decide) ?_
    refine lv_iconst (v := nI (0)) hx hb dL_depends_15 (by decide) ?_
    exact l_iret hx hb hr hk F I (by decide) (by decide) (Or.inl ⟨rfl, _, _, hp, by rfl⟩) dL_depends_16
theorem hd_L_depends : yL_depends.cls ≠ "java/lang/invoke/MethodHandle" ∧ yL_depends.cls ≠ "java/lang/invoke/VarHandle" ∧ (parseMethodDescriptor yL_depends.desc).map (fun d => d.parameters.length) = some 3 := by decide +kernel
theorem wm_L_size_k13 : Cond.classLink RL 13 sIO ∈ wsL_size := by decide +kernel
set_option maxHeartbeats 4000000 in
set_option maxRecDepth 100000 in
theorem l_size (l : Launch) (hl0 : l.stackTraces = false) (g : Geo) (R : Nat → Nat → Int64) (B : Rul) (M : Mod) (O : Nat → Int64) (x1 : Int32) : Ls l g yL_size wsL_size (rmX 8 161 5 30) [.ref (gA g 0), .int (x1), .ref (gA g 9)] (R, B, M, O) (pR (fun v' u' => ∃ a_ : Nat, a_ < 48 ∧ x1 = nI a_ ∧ ∃ (cs : Nat → Nat) (B' : Rul), u' = (R, B', M, O) ∧ v' = some (.int (nI (sumN cs 10))) ∧ allNum (tbl R) a_ a_ 10 cs) (fun E0 => (E0 = sIO ∧ ¬ (okI 48 x1))) (R, B, M, O) cvI) := by
  refine Ls.ofW RL rfl (by decide) rfl (Nat.le_of_ble_eq_true rfl) ?_
  intro p e s m below meth c E hr hk ht F I ls hl
  have hx := E.1
  have hb := E.2.1
  have hl : lv_has ls 4 [(0, .ref (gA g 0)), (1, .int (x1)), (2, .ref (gA g 9))] := hl
  refine lv_aload_n hx hb dL_size_0 rfl (lv_at hl 2 rfl) ?_
  refine lv_iconst (v := nI (0)) hx hb dL_size_1 (by decide) ?_
  refine lv_aload_n hx hb dL_size_2 rfl (lv_at hl 0 rfl) ?_
  refine lv_iload_n hx hb dL_size_3 rfl (lv_at hl 1 rfl) ?_
  refine z_callV 0 1 (rest := [.int (nI (0)), .ref (gA g 9)]) (C := RX1) (T0 := TX1) (N := 6) E F I (c_size l hl0 g R B M O x1) gL_size_X1_size rfl (by decide) rfl rfl rfl hd_X1_size rfl rfl ⟨by decide, by decide⟩ ⟨by decide, by decide⟩ rfl hl.1 rfl (Nat.le_of_ble_eq_true rfl) dL_size_4 (fun E0 ce q9 H locs hxc I h1 h2 h3 => ?_) (fun v9 u9 H locs hp I => ?_)
  · obtain ⟨rfl, hxc⟩ := hxc
    refine y_catch E.2.2.2.1 [] ⟨0, 9, 12, 13⟩ [] ht (fun z hz => absurd hz List.not_mem_nil) (by decide) (by decide) (E.2.2.2.2 _ wm_L_size_k13) h1 h2 h3 ?_
    refine lv_astore_n (lv' := [(3, .ref (q9)), (0, .ref (gA g 0)), (1, .int (x1)), (2, .ref (gA g 9))]) hx hb dL_size_12 rfl hl (by decide) rfl (fun ls hl => ?_)
    refine lv_iconst (v := nI (1)) hx hb dL_size_13 (by decide) ?_
    exact l_iret hx hb hr hk F I (by decide) (by decide) (Or.inr (Or.inl ⟨rfl, ⟨rfl, hxc⟩, rfl⟩)) dL_size_14
  · obtain ⟨a9, i1, i2, cs9, B', rfl, rfl, i3⟩ := id hp
    refine W.eq (g2 := F0 m 7 ls [.int (nI (sumN cs9 10)), .int (nI (0)), .ref (gA g 9)]) rfl ?_
    refine lv_i2l hx hb dL_size_7 rfl ?_
    refine x_oastore hx hb F I (by omega) dL_size_8 (fun H locs I => ?_)
    refine lv_goto (tgt := 15) hx hb dL_size_9 (by decide) ?_
    refine lv_iconst (v := nI (0)) hx hb dL_size_15 (by decide) ?_
    exact l_iret hx hb hr hk F I (by decide) (by decide) (Or.inl ⟨rfl, _, _, hp, by rfl⟩) dL_size_16
theorem hd_L_size : yL_size.cls ≠ "java/lang/invoke/MethodHandle" ∧ yL_size.cls ≠ "java/lang/invoke/VarHandle" ∧ (parseMethodDescriptor yL_size.desc).map (fun d => d.parameters.length) = some 3 := by decide +kernel
theorem wm_L_sizes_k13 : Cond.classLink RL 13 sIO ∈ wsL_sizes := by decide +kernel
theorem wm_L_sizes_k19 : Cond.classLink RL 19 sIA ∈ wsL_sizes := by decide +kernel
set_option maxHeartbeats 4000000 in
set_option maxRecDepth 100000 in
theorem l_sizes (l : Launch) (hl0 : l.stackTraces = false) (g : Geo) (R : Nat → Nat → Int64) (B : Rul) (M : Mod) (O : Nat → Int64) (x1 : Int32) (x2 : Int32) : Ls l g yL_sizes wsL_sizes (rmX 8 162 5 30) [.ref (gA g 0), .int (x1), .int (x2), .ref (gA g 9)] (R, B, M, O) (pR (fun v' u' => ∃ a_ b_ : Nat, a_ < 48 ∧ b_ < 48 ∧ x1 = nI a_ ∧ x2 = nI b_ ∧ a_ ≤ b_ ∧ ∃ (cs : Nat → Nat) (B' : Rul), u' = (R, B', M, O) ∧ v' = some (.int (nI (sumN cs 10))) ∧ allNum (tbl R) a_ b_ 10 cs) (fun E0 => (E0 = sIO ∧ ¬ (okI 48 x1 ∧ okI 48 x2)) ∨ (E0 = sIA ∧ (okI 48 x1 ∧ okI 48 x2) ∧ ¬ (x1 ≤ x2))) (R, B, M, O) cvI) := by
  refine Ls.ofW RL rfl (by decide) rfl (Nat.le_of_ble_eq_true rfl) ?_
  intro p e s m below meth c E hr hk ht F I ls hl
  have hx := E.1
  have hb := E.2.1
  have hl : lv_has ls 5 [(0, .ref (gA g 0)), (1, .int (x1)), (2, .int (x2)), (3, .ref (gA g 9))] := hl
  refine lv_aload_n hx hb dL_sizes_0 rfl (lv_at hl 3 rfl) ?_
  refine lv_iconst (v := nI (0)) hx hb dL_sizes_1 (by decide) ?_
  refine lv_aload_n hx hb dL_sizes_2 rfl (lv_at hl 0 rfl) ?_
  refine lv_iload_n hx hb dL_sizes_3 rfl (lv_at hl 1 rfl) ?_
  refine lv_iload_n hx hb dL_sizes_4 rfl (lv_at hl 2 rfl) ?_
  refine z_callV 0 1 (rest := [.int (nI (0)), .ref (gA g 9)]) (C := RX1) (T0 := TX1) (N := 6) E F I (c_sizes l hl0 g R B M O x1 x2) gL_sizes_X1_sizes rfl (by decide) rfl rfl rfl hd_X1_sizes rfl rfl ⟨by decide, by decide⟩ ⟨by decide, by decide⟩ rfl hl.1 rfl (Nat.le_of_ble_eq_true rfl) dL_sizes_5 (fun E0 ce q9 H locs hxc I h1 h2 h3 => ?_) (fun v9 u9 H locs hp I => ?_)
  · rcases hxc with ⟨rfl, hxc⟩ | ⟨rfl, hxc⟩
    · refine y_catch E.2.2.2.1 [] ⟨0, 10, 13, 13⟩ [⟨0, 10, 17, 19⟩] ht (fun z hz => absurd hz List.not_mem_nil) (by decide) (by decide) (E.2.2.2.2 _ wm_L_sizes_k13) h1 h2 h3 ?_
      refine lv_astore (lv' := [(4, .ref (q9)), (0, .ref (gA g 0)), (1, .int (x1)), (2, .int (x2)), (3, .ref (gA g 9))]) hx hb dL_sizes_13 hl (by decide) rfl (fun ls hl => ?_)
      refine lv_iconst (v := nI (1)) hx hb dL_sizes_15 (by decide) ?_
      exact l_iret hx hb hr hk F I (by decide) (by decide) (Or.inr (Or.inl ⟨rfl, Or.inl ⟨rfl, hxc⟩, rfl⟩)) dL_sizes_16
    · refine y_catch E.2.2.2.1 [⟨0, 10, 13, 13⟩] ⟨0, 10, 17, 19⟩ [] ht (fun z hz => by rcases List.mem_singleton.mp hz with rfl; exact Or.inr ⟨by decide, sIO, E.2.2.2.2 _ wm_L_sizes_k13, F.2.2.2.2.2.2.2.1⟩) (by decide) (by decide) (E.2.2.2.2 _ wm_L_sizes_k19) h1 h2 h3 ?_
      refine lv_astore (lv' := [(4, .ref (q9)), (0, .ref (gA g 0)), (1, .int (x1)), (2, .int (x2)), (3, .ref (gA g 9))]) hx hb dL_sizes_17 hl (by decide) rfl (fun ls hl => ?_)
      refine lv_iconst (v := nI (2)) hx hb dL_sizes_19 (by decide) ?_
      exact l_iret hx hb hr hk F I (by decide) (by decide) (Or.inr (Or.inr ⟨rfl, Or.inr ⟨rfl, hxc⟩, rfl⟩)) dL_sizes_20
  · obtain ⟨a9, b9, i1, i2, i3, i4, i5, cs9, B', rfl, rfl, i6⟩ := id hp
    refine W.eq (g2 := F0 m 8 ls [.int (nI (sumN cs9 10)), .int (nI (0)), .ref (gA g 9)]) rfl ?_
    refine lv_i2l hx hb dL_sizes_8 rfl ?_
    refine x_oastore hx hb F I (by omega) dL_sizes_9 (fun H locs I => ?_)
    refine lv_goto (tgt := 21) hx hb dL_sizes_10 (by decide) ?_
    refine lv_iconst (v := nI (0)) hx hb dL_sizes_21 (by decide) ?_
    exact l_iret hx hb hr hk F I (by decide) (by decide) (Or.inl ⟨rfl, _, _, hp, by rfl⟩) dL_sizes_22
theorem hd_L_sizes : yL_sizes.cls ≠ "java/lang/invoke/MethodHandle" ∧ yL_sizes.cls ≠ "java/lang/invoke/VarHandle" ∧ (parseMethodDescriptor yL_sizes.desc).map (fun d => d.parameters.length) = some 4 := by decide +kernel
theorem wm_L_level_k13 : Cond.classLink RL 13 sIO ∈ wsL_level := by decide +kernel
theorem wm_L_level_k19 : Cond.classLink RL 19 sIA ∈ wsL_level := by decide +kernel
set_option maxHeartbeats 4000000 in
set_option maxRecDepth 100000 in
theorem l_level (l : Launch) (hl0 : l.stackTraces = false) (g : Geo) (R : Nat → Nat → Int64) (B : Rul) (M : Mod) (O : Nat → Int64) (x1 : Int32) (x2 : Int32) : Ls l g yL_level wsL_level (rmX 8 162 5 30) [.ref (gA g 0), .int (x1), .int (x2), .ref (gA g 9)] (R, B, M, O) (pR (fun v' u' => ∃ a_ v_ : Nat, a_ < 48 ∧ v_ < 10 ∧ x1 = nI a_ ∧ x2 = nI v_ ∧ ∃ (n1 : Nat) (B' : Rul), u' = (R, B', M, O) ∧ v' = some (.int (nI n1)) ∧ isNum (tbl R) a_ a_ (1024 / 2 ^ v_) (2 ^ v_) n1) (fun E0 => (E0 = sIO ∧ ¬ (okI 48 x1)) ∨ (E0 = sIA ∧ (okI 48 x1) ∧ ¬ (okI 10 x2))) (R, B, M, O) cvI) := by
  refine Ls.ofW RL rfl (by decide) rfl (Nat.le_of_ble_eq_true rfl) ?_
  intro p e s m below meth c E hr hk ht F I ls hl
  have hx := E.1
  have hb := E.2.1
  have hl : lv_has ls 5 [(0, .ref (gA g 0)), (1, .int (x1)), (2, .int (x2)), (3, .ref (gA g 9))] := hl
  refine lv_aload_n hx hb dL_level_0 rfl (lv_at hl 3 rfl) ?_
  refine lv_iconst (v := nI (0)) hx hb dL_level_1 (by decide) ?_
  refine lv_aload_n hx hb dL_level_2 rfl (lv_at hl 0 rfl) ?_
  refine lv_iload_n hx hb dL_level_3 rfl (lv_at hl 1 rfl) ?_
  refine lv_iload_n hx hb dL_level_4 rfl (lv_at hl 2 rfl) ?_
  refine z_callV 0 1 (rest := [.int (nI (0)), .ref (gA g 9)]) (C := RX1) (T0 := TX1) (N := 6) E F I (c_level l hl0 g R B M O x1 x2) gL_level_X1_level rfl (by decide) rfl rfl rfl hd_X1_level rfl rfl ⟨by decide, by decide⟩ ⟨by decide, by decide⟩ rfl hl.1 rfl (Nat.le_of_ble_eq_true rfl) dL_level_5 (fun E0 ce q9 H locs hxc I h1 h2 h3 => ?_) (fun v9 u9 H locs hp I => ?_)
  · rcases hxc with ⟨rfl, hxc⟩ | ⟨rfl, hxc⟩
    · refine y_catch E.2.2.2.1 [] ⟨0, 10, 13, 13⟩ [⟨0, 10, 17, 19⟩] ht (fun z hz => absurd hz List.not_mem_nil) (by decide) (by decide) (E.2.2.2.2 _ wm_L_level_k13) h1 h2 h3 ?_
      refine lv_astore (lv' := [(4, .ref (q9)), (0, .ref (gA g 0)), (1, .int (x1)), (2, .int (x2)), (3, .ref (gA g 9))]) hx hb dL_level_13 hl (by decide) rfl (fun ls hl => ?_)
      refine lv_iconst (v := nI (1)) hx hb dL_level_15 (by decide) ?_
      exact l_iret hx hb hr hk F I (by decide) (by decide) (Or.inr (Or.inl ⟨rfl, Or.inl ⟨rfl, hxc⟩, rfl⟩)) dL_level_16
    · refine y_catch E.2.2.2.1 [⟨0, 10, 13, 13⟩] ⟨0, 10, 17, 19⟩ [] ht (fun z hz => by rcases List.mem_singleton.mp hz with rfl; exact Or.inr ⟨by decide, sIO, E.2.2.2.2 _ wm_L_level_k13, F.2.2.2.2.2.2.2.1⟩) (by decide) (by decide) (E.2.2.2.2 _ wm_L_level_k19) h1 h2 h3 ?_
      refine lv_astore (lv' := [(4, .ref (q9)), (0, .ref (gA g 0)), (1, .int (x1)), (2, .int (x2)), (3, .ref (gA g 9))]) hx hb dL_level_17 hl (by decide) rfl (fun ls hl => ?_)
      refine lv_iconst (v := nI (2)) hx hb dL_level_19 (by decide) ?_
      exact l_iret hx hb hr hk F I (by decide) (by decide) (Or.inr (Or.inr ⟨rfl, Or.inr ⟨rfl, hxc⟩, rfl⟩)) dL_level_20
  · obtain ⟨a9, b9, i1, i2, i3, i4, n9, B', rfl, rfl, i5⟩ := id hp
    refine W.eq (g2 := F0 m 8 ls [.int (nI n9), .int (nI (0)), .ref (gA g 9)]) rfl ?_
    refine lv_i2l hx hb dL_level_8 rfl ?_
    refine x_oastore hx hb F I (by omega) dL_level_9 (fun H locs I => ?_)
    refine lv_goto (tgt := 21) hx hb dL_level_10 (by decide) ?_
    refine lv_iconst (v := nI (0)) hx hb dL_level_21 (by decide) ?_
    exact l_iret hx hb hr hk F I (by decide) (by decide) (Or.inl ⟨rfl, _, _, hp, by rfl⟩) dL_level_22
theorem hd_L_level : yL_level.cls ≠ "java/lang/invoke/MethodHandle" ∧ yL_level.cls ≠ "java/lang/invoke/VarHandle" ∧ (parseMethodDescriptor yL_level.desc).map (fun d => d.parameters.length) = some 4 := by decide +kernel
