theorem nI0e : (0 : Int32) = nI 0 := by decide
theorem nI1e : (1 : Int32) = nI 1 := by decide
theorem nI2e : (2 : Int32) = nI 2 := by decide
/-- a number of the script -/
theorem s_ld {p : Program} {l : Launch} {e : Env} {R : Room} {s : State} {m : MethodId} {args : Array Value} {below : List Frame} {meth : Method} {c : Code} {H : Heap} {locs : List Loc} {cells slots : Nat} {Q : State → Prop} {cc : ByteArray} {pc : Nat} {ls : Array Slot} {rest : List Value} {A : Nat → Prop} {b L i : Nat} {xs : Nat → Int32} (hx : p.tables.exec = Jvm.exec) (hb : c.code = cc) (hX : va_X b L xs s s.heap) (hbl : b < s.heap.size) (hbA : ¬ A b) (hS : va_S A s.heap H locs) (hi : i < L) (hL : L ≤ 2560) (hdg : decode cc pc = .ok (.iaload, 1))
    (kk : W p l e R s m args below meth c H locs cells slots Q (F0 m (pc + 1) ls (.int (xs i) :: rest))) : W p l e R s m args below meth c H locs cells slots Q (F0 m pc ls (.int (nI i) :: .ref b :: rest)) := by
  have e1 : (nI i).toNatClampNeg = i := nI_clamp (by omega)
  refine va_sld hx hb hX hbl hbA hS (vp_in_nI hi (by omega)) hdg ?_
  rw [e1]
  exact kk
theorem near_no {R : Nat → Nat → Int64} {T T1 : Nat → Bool} {x : Int32} {s0 : Nat} {f : Nat → Bool} {C : Prop} (hAg : Ag R T) (hn : ¬ ¬ isFx R x) (hM : MW T T1 s0 f) (hany : anyX T x) : C := by
  exfalso
  refine hn (fun q => ?_)
  obtain ⟨c7, b7, e7, f7⟩ := q
  obtain ⟨c6, b6, e6, f6⟩ := hany
  have e : c7 = c6 := (nI_eq (by omega) (by omega)).mp (e7.symm.trans e6)
  subst e
  rw [(isF_any (hAg c7 b7)).mp f6] at f7
  cases f7
set_option maxHeartbeats 4000000 in
set_option maxRecDepth 100000 in
theorem lc_constant {p : Program} {l : Launch} {e : Env} {s : State} {m : MethodId} {below : List Frame} {meth : Method} {c : Code} {H : Heap} {locs : List Loc} {Q : State → Prop} {ls : Array Slot} {g : Geo} {b L : Nat} {xs : Nat → Int32} {j : Nat} {R : Nat → Nat → Int64} {B : Rul} {cd : Int32} {T P : Nat → Bool} {fo : Nat → Int32} {O : Nat → Int64} (hl0 : l.stackTraces = false) (E : CallFix p m c cL_law 7 s #[Value.ref b] wsL_law RL) (F : Fx g s) (hX : va_X b L xs s s.heap) (hbl : b < s.heap.size) (hbA : ¬ gW g b) (hL : L ≤ 2560) (hjl : 5 * j + 5 ≤ L) (hfc : 62 + 5 * j + 5 ≤ room_1.cells) (hfs : 83840 + 30 * j + 30 ≤ room_1.slots) (hAg : Ag R T) (I : Iv g (R, B, (cd, bF T, bF P, fo), O) s H locs) (hl : lv_has ls 7 [(0, .ref (b)), (1, .ref (gA g 0)), (2, .ref (gA g 5)), (3, .ref (gA g 9)), (4, .int (nI (5 * j)))])
    (kk : ∀ (R : Nat → Nat → Int64) (B : Rul) (cd : Int32) (T P : Nat → Bool) (fo : Nat → Int32) (O : Nat → Int64) (H : Heap) (locs : List Loc) (ls : Array Slot), Ag R T → Iv g (R, B, (cd, bF T, bF P, fo), O) s H locs → lv_has ls 7 [(0, .ref (b)), (1, .ref (gA g 0)), (2, .ref (gA g 5)), (3, .ref (gA g 9)), (4, .int (nI (5 * j)))] → W p l e room_1 s m #[Value.ref b] below meth c H locs (62 + 5 * j + 5) (83840 + 30 * j + 30) Q (F0 m 1278 ls [])) : W p l e room_1 s m #[Value.ref b] below meth c H locs (62 + 5 * j) (83840 + 30 * j) Q (F0 m 120 ls []) := by
  have hx := E.1
  have hb := E.2.1
  refine lv_aload_n hx hb dL_law_120 rfl (lv_at hl 1 rfl) ?_
  refine lv_aload_n hx hb dL_law_121 rfl (lv_at hl 0 rfl) ?_
  refine lv_iload hx hb dL_law_122 (lv_at hl 4 rfl) ?_
  refine lv_iconst (v := nI (1)) hx hb dL_law_124 (by decide) ?_
  refine n_iadd hx hb dL_law_125 ?_
  refine s_ld (i := 5 * j + 1) hx hb hX hbl hbA I.2 (by omega) hL dL_law_126 ?_
  refine lv_aload_n hx hb dL_law_127 rfl (lv_at hl 0 rfl) ?_
  refine lv_iload hx hb dL_law_128 (lv_at hl 4 rfl) ?_
  refine lv_iconst (v := nI (2)) hx hb dL_law_130 (by decide) ?_
  refine n_iadd hx hb dL_law_131 ?_
  refine s_ld (i := 5 * j + 2) hx hb hX hbl hbA I.2 (by omega) hL dL_law_132 ?_
  refine lv_if_eq (tgt := 140) hx hb dL_law_133 (by decide) (fun h1 => ?_) (fun h1 => ?_)
  · refine lv_iconst (v := nI (0)) hx hb dL_law_140 (by decide) ?_
    refine W.eq (g2 := F0 m 141 ls [.int (bI (false)), .int (xs (5 * j + 1)), .ref (gA g 0)]) rfl ?_
    refine l_call (rest := []) E F I (l_constant l hl0 g R B (cd, bF T, bF P, fo) O (xs (5 * j + 1)) false) gL_law_L_constant rfl hd_L_constant rfl rfl ⟨by decide, by decide⟩ ⟨hfc, hfs⟩ rfl hl.1 rfl (Nat.le_of_ble_eq_true rfl) dL_law_141 (fun v9 u9 H locs hp I => ?_)
    rcases hp with ⟨rfl, -, s0, b_s0, e_s0, R1, rfl, hU⟩ | ⟨rfl, hxc, rfl⟩ | ⟨rfl, hxc, rfl⟩
    · refine W.eq (g2 := F0 m 144 ls [.int (nI (0))]) rfl ?_
      refine lv_istore (lv' := [(5, .int (nI (0))), (0, .ref (b)), (1, .ref (gA g 0)), (2, .ref (gA g 5)), (3, .ref (gA g 9)), (4, .int (nI (5 * j)))]) hx hb dL_law_144 hl (by decide) rfl (fun ls hl => ?_)
      refine lv_aload_n hx hb dL_law_146 rfl (lv_at hl 3 rfl) ?_
      refine lv_aload_n hx hb dL_law_147 rfl (lv_at hl 1 rfl) ?_
      refine lv_iload hx hb dL_law_148 (lv_at hl 5 rfl) ?_
      refine lv_iconst (v := nI (1)) hx hb dL_law_150 (by decide) ?_
      refine n_iadd hx hb dL_law_151 ?_
      refine s_ld (i := 5 * j + 1) hx hb hX hbl hbA I.2 (by omega) hL dL_law_152 ?_
      refine lv_aload_n hx hb dL_law_153 rfl (lv_at hl 1 rfl) ?_
      refine lv_iload hx hb dL_law_154 (lv_at hl 5 rfl) ?_
      refine lv_iconst (v := nI (2)) hx hb dL_law_156 (by decide) ?_
      refine n_iadd hx hb dL_law_157 ?_
      refine s_ld (i := 5 * j + 2) hx hb hX hbl hbA I.2 (by omega) hL dL_law_158 ?_
      refine lv_if_eq (tgt := 166) hx hb dL_law_159 (by decide) (fun h2 => ?_) (fun h2 => ?_)
      · refine lv_iconst (v := nI (0)) hx hb dL_law_166 (by decide) ?_
        refine W.eq (g2 := F0 m 167 ls [.int (bI (false)), .int (xs (5 * j + 1)), .ref (gA g 5)]) rfl ?_
        refine x_callV 5 2 (rest := []) (C := RX2) (T0 := TX2) (N := 4) E F I (m_constant l g R1 B cd T P fo O (xs (5 * j + 1)) false) gL_law_X2_constant rfl (by decide) rfl rfl rfl hd_X2_constant rfl rfl ⟨by decide, by decide⟩ ⟨hfc, hfs⟩ rfl hl.1 rfl (Nat.le_of_ble_eq_true rfl) dL_law_167 (fun v8 u8 H locs hp8 I => ?_)
        obtain ⟨rfl, cd1, T1, P1, rfl, hm⟩ := hp8
        refine W.eq (g2 := F0 m 170 ls []) rfl ?_
        rcases hm with ⟨hn8, hc1, hT1⟩ | ⟨hsl8, hn8, hc1, hT1⟩ | ⟨hc1, s08, b_s08, e_s08, hM⟩
        · exact absurd ⟨s0, b_s0, e_s0⟩ hn8
        · exact absurd trivial hn8
        · have q_s0 : s0 = s08 := (nI_eq (by omega) (by omega)).mp (e_s0.symm.trans e_s08)
          subst q_s0
          have hAg1 : Ag R1 T1 := Ag_w hAg hU hM (fun p hp => (pt_c false p).symm)
          refine lv_aload_n hx hb dL_law_170 rfl (lv_at hl 3 rfl) ?_
          refine x_callVi 5 2 (rest := []) (C := RX2) (T0 := TX2) (N := 4) E F I (m_thrown l g R1 B cd1 T1 P1 fo O) gL_law_X2_thrown rfl (by decide) rfl rfl rfl hd_X2_thrown rfl rfl ⟨by decide, by decide⟩ ⟨hfc, hfs⟩ rfl hl.1 rfl (Nat.le_of_ble_eq_true rfl) dL_law_171 (fun H locs I => ?_)
          refine lv_iload hx hb dL_law_174 (lv_at hl 0 rfl) ?_
          refine lv_icmp_eq (tgt := 181) hx hb dL_law_176 (by decide) (fun h3 => ?_) (fun h3 => ?_)
          · refine lv_goto (tgt := 1278) hx hb dL_law_181 (by decide) ?_
            exact kk R1 B cd1 T1 P1 fo O H locs ls hAg1 I (lv_sub hl [1, 2, 3, 4, 5] rfl)
          · exact absurd (hc1.trans nI0e) h3
      · exact absurd h1 h2
    · have hn := hxc.2
      refine W.eq (g2 := F0 m 144 ls [.int (nI (1))]) rfl ?_
      refine lv_istore (lv' := [(5, .int (nI (1))), (0, .ref (b)), (1, .ref (gA g 0)), (2, .ref (gA g 5)), (3, .ref (gA g 9)), (4, .int (nI (5 * j)))]) hx hb dL_law_144 hl (by decide) rfl (fun ls hl => ?_)
      refine lv_aload_n hx hb dL_law_146 rfl (lv_at hl 3 rfl) ?_
      refine lv_aload_n hx hb dL_law_147 rfl (lv_at hl 1 rfl) ?_
      refine lv_iload hx hb dL_law_148 (lv_at hl 5 rfl) ?_
      refine lv_iconst (v := nI (1)) hx hb dL_law_150 (by decide) ?_
      refine n_iadd hx hb dL_law_151 ?_
      refine s_ld (i := 5 * j + 1) hx hb hX hbl hbA I.2 (by omega) hL dL_law_152 ?_
      refine lv_aload_n hx hb dL_law_153 rfl (lv_at hl 1 rfl) ?_
      refine lv_iload hx hb dL_law_154 (lv_at hl 5 rfl) ?_
      refine lv_iconst (v := nI (2)) hx hb dL_law_156 (by decide) ?_
      refine n_iadd hx hb dL_law_157 ?_
      refine s_ld (i := 5 * j + 2) hx hb hX hbl hbA I.2 (by omega) hL dL_law_158 ?_
      refine lv_if_eq (tgt := 166) hx hb dL_law_159 (by decide) (fun h4 => ?_) (fun h4 => ?_)
      · refine lv_iconst (v := nI (0)) hx hb dL_law_166 (by decide) ?_
        refine W.eq (g2 := F0 m 167 ls [.int (bI (false)), .int (xs (5 * j + 1)), .ref (gA g 5)]) rfl ?_
        refine x_callV 5 2 (rest := []) (C := RX2) (T0 := TX2) (N := 4) E F I (m_constant l g R B cd T P fo O (xs (5 * j + 1)) false) gL_law_X2_constant rfl (by decide) rfl rfl rfl hd_X2_constant rfl rfl ⟨by decide, by decide⟩ ⟨hfc, hfs⟩ rfl hl.1 rfl (Nat.le_of_ble_eq_true rfl) dL_law_167 (fun v8 u8 H locs hp8 I => ?_)
        obtain ⟨rfl, cd1, T1, P1, rfl, hm⟩ := hp8
        refine W.eq (g2 := F0 m 170 ls []) rfl ?_
        rcases hm with ⟨hn8, hc1, hT1⟩ | ⟨hsl8, hn8, hc1, hT1⟩ | ⟨hc1, s08, b_s08, e_s08, hM⟩
        · refine lv_aload_n hx hb dL_law_170 rfl (lv_at hl 3 rfl) ?_
          refine x_callVi 5 2 (rest := []) (C := RX2) (T0 := TX2) (N := 4) E F I (m_thrown l g R B cd1 T1 P1 fo O) gL_law_X2_thrown rfl (by decide) rfl rfl rfl hd_X2_thrown rfl rfl ⟨by decide, by decide⟩ ⟨hfc, hfs⟩ rfl hl.1 rfl (Nat.le_of_ble_eq_true rfl) dL_law_171 (fun H locs I => ?_)
          refine lv_iload hx hb dL_law_174 (lv_at hl 0 rfl) ?_
          refine lv_icmp_eq (tgt := 181) hx hb dL_law_176 (by decide) (fun h5 => ?_) (fun h5 => ?_)
          · refine lv_goto (tgt := 1278) hx hb dL_law_181 (by decide) ?_
            exact kk R B cd1 T1 P1 fo O H locs ls (by rw [hT1]; exact hAg) I (lv_sub hl [1, 2, 3, 4, 5] rfl)
          · exact absurd (hc1.trans nI1e) h5
        · exact absurd hsl8 hn
        · exact absurd ⟨s08, b_s08, e_s08⟩ hn
      · exact absurd h1 h4
    · exact absurd hxc.1 (by decide)
  · refine lv_iconst (v := nI (1)) hx hb dL_law_136 (by decide) ?_
    refine lv_goto (tgt := 141) hx hb dL_law_137 (by decide) ?_
    refine W.eq (g2 := F0 m 141 ls [.int (bI (true)), .int (xs (5 * j + 1)), .ref (gA g 0)]) rfl ?_
    refine l_call (rest := []) E F I (l_constant l hl0 g R B (cd, bF T, bF P, fo) O (xs (5 * j + 1)) true) gL_law_L_constant rfl hd_L_constant rfl rfl ⟨by decide, by decide⟩ ⟨hfc, hfs⟩ rfl hl.1 rfl (Nat.le_of_ble_eq_true rfl) dL_law_141 (fun v9 u9 H locs hp I => ?_)
    rcases hp with ⟨rfl, -, s0, b_s0, e_s0, R1, rfl, hU⟩ | ⟨rfl, hxc, rfl⟩ | ⟨rfl, hxc, rfl⟩
    · refine W.eq (g2 := F0 m 144 ls [.int (nI (0))]) rfl ?_
      refine lv_istore (lv' := [(5, .int (nI (0))), (0, .ref (b)), (1, .ref (gA g 0)), (2, .ref (gA g 5)), (3, .ref (gA g 9)), (4, .int (nI (5 * j)))]) hx hb dL_law_144 hl (by decide) rfl (fun ls hl => ?_)
      refine lv_aload_n hx hb dL_law_146 rfl (lv_at hl 3 rfl) ?_
      refine lv_aload_n hx hb dL_law_147 rfl (lv_at hl 1 rfl) ?_
      refine lv_iload hx hb dL_law_148 (lv_at hl 5 rfl) ?_
      refine lv_iconst (v := nI (1)) hx hb dL_law_150 (by decide) ?_
      refine n_iadd hx hb dL_law_151 ?_
      refine s_ld (i := 5 * j + 1) hx hb hX hbl hbA I.2 (by omega) hL dL_law_152 ?_
      refine lv_aload_n hx hb dL_law_153 rfl (lv_at hl 1 rfl) ?_
      refine lv_iload hx hb dL_law_154 (lv_at hl 5 rfl) ?_
      refine lv_iconst (v := nI (2)) hx hb dL_law_156 (by decide) ?_
      refine n_iadd hx hb dL_law_157 ?_
      refine s_ld (i := 5 * j + 2) hx hb hX hbl hbA I.2 (by omega) hL dL_law_158 ?_
      refine lv_if_eq (tgt := 166) hx hb dL_law_159 (by decide) (fun h6 => ?_) (fun h6 => ?_)
      · exact absurd h6 h1
      · refine lv_iconst (v := nI (1)) hx hb dL_law_162 (by decide) ?_
        refine lv_goto (tgt := 167) hx hb dL_law_163 (by decide) ?_
        refine W.eq (g2 := F0 m 167 ls [.int (bI (true)), .int (xs (5 * j + 1)), .ref (gA g 5)]) rfl ?_
        refine x_callV 5 2 (rest := []) (C := RX2) (T0 := TX2) (N := 4) E F I (m_constant l g R1 B cd T P fo O (xs (5 * j + 1)) true) gL_law_X2_constant rfl (by decide) rfl rfl rfl hd_X2_constant rfl rfl ⟨by decide, by decide⟩ ⟨hfc, hfs⟩ rfl hl.1 rfl (Nat.le_of_ble_eq_true rfl) dL_law_167 (fun v8 u8 H locs hp8 I => ?_)
        obtain ⟨rfl, cd1, T1, P1, rfl, hm⟩ := hp8
        refine W.eq (g2 := F0 m 170 ls []) rfl ?_
        rcases hm with ⟨hn8, hc1, hT1⟩ | ⟨hsl8, hn8, hc1, hT1⟩ | ⟨hc1, s08, b_s08, e_s08, hM⟩
        · exact absurd ⟨s0, b_s0, e_s0⟩ hn8
        · exact absurd trivial hn8
        · have q_s0 : s0 = s08 := (nI_eq (by omega) (by omega)).mp (e_s0.symm.trans e_s08)
          subst q_s0
          have hAg1 : Ag R1 T1 := Ag_w hAg hU hM (fun p hp => (pt_c true p).symm)
          refine lv_aload_n hx hb dL_law_170 rfl (lv_at hl 3 rfl) ?_
          refine x_callVi 5 2 (rest := []) (C := RX2) (T0 := TX2) (N := 4) E F I (m_thrown l g R1 B cd1 T1 P1 fo O) gL_law_X2_thrown rfl (by decide) rfl rfl rfl hd_X2_thrown rfl rfl ⟨by decide, by decide⟩ ⟨hfc, hfs⟩ rfl hl.1 rfl (Nat.le_of_ble_eq_true rfl) dL_law_171 (fun H locs I => ?_)
          refine lv_iload hx hb dL_law_174 (lv_at hl 0 rfl) ?_
          refine lv_icmp_eq (tgt := 181) hx hb dL_law_176 (by decide) (fun h7 => ?_) (fun h7 => ?_)
          · refine lv_goto (tgt := 1278) hx hb dL_law_181 (by decide) ?_
            exact kk R1 B cd1 T1 P1 fo O H locs ls hAg1 I (lv_sub hl [1, 2, 3, 4, 5] rfl)
          · exact absurd (hc1.trans nI0e) h7
    · have hn := hxc.2
      refine W.eq (g2 := F0 m 144 ls [.int (nI (1))]) rfl ?_
      refine lv_istore (lv' := [(5, .int (nI (1))), (0, .ref (b)), (1, .ref (gA g 0)), (2, .ref (gA g 5)), (3, .ref (gA g 9)), (4, .int (nI (5 * j)))]) hx hb dL_law_144 hl (by decide) rfl (fun ls hl => ?_)
      refine lv_aload_n hx hb dL_law_146 rfl (lv_at hl 3 rfl) ?_
      refine lv_aload_n hx hb dL_law_147 rfl (lv_at hl 1 rfl) ?_
      refine lv_iload hx hb dL_law_148 (lv_at hl 5 rfl) ?_
      refine lv_iconst (v := nI (1)) hx hb dL_law_150 (by decide) ?_
      refine n_iadd hx hb dL_law_151 ?_
      refine s_ld (i := 5 * j + 1) hx hb hX hbl hbA I.2 (by omega) hL dL_law_152 ?_
      refine lv_aload_n hx hb dL_law_153 rfl (lv_at hl 1 rfl) ?_
      refine lv_iload hx hb dL_law_154 (lv_at hl 5 rfl) ?_
      refine lv_iconst (v := nI (2)) hx hb dL_law_156 (by decide) ?_
      refine n_iadd hx hb dL_law_157 ?_
      refine s_ld (i := 5 * j + 2) hx hb hX hbl hbA I.2 (by omega) hL dL_law_158 ?_
      refine lv_if_eq (tgt := 166) hx hb dL_law_159 (by decide) (fun h8 => ?_) (fun h8 => ?_)
      · exact absurd h8 h1
      · refine lv_iconst (v := nI (1)) hx hb dL_law_162 (by decide) ?_
        refine lv_goto (tgt := 167) hx hb dL_law_163 (by decide) ?_
        refine W.eq (g2 := F0 m 167 ls [.int (bI (true)), .int (xs (5 * j + 1)), .ref (gA g 5)]) rfl ?_
        refine x_callV 5 2 (rest := []) (C := RX2) (T0 := TX2) (N := 4) E F I (m_constant l g R B cd T P fo O (xs (5 * j + 1)) true) gL_law_X2_constant rfl (by decide) rfl rfl rfl hd_X2_constant rfl rfl ⟨by decide, by decide⟩ ⟨hfc, hfs⟩ rfl hl.1 rfl (Nat.le_of_ble_eq_true rfl) dL_law_167 (fun v8 u8 H locs hp8 I => ?_)
        obtain ⟨rfl, cd1, T1, P1, rfl, hm⟩ := hp8
        refine W.eq (g2 := F0 m 170 ls []) rfl ?_
        rcases hm with ⟨hn8, hc1, hT1⟩ | ⟨hsl8, hn8, hc1, hT1⟩ | ⟨hc1, s08, b_s08, e_s08, hM⟩
        · refine lv_aload_n hx hb dL_law_170 rfl (lv_at hl 3 rfl) ?_
          refine x_callVi 5 2 (rest := []) (C := RX2) (T0 := TX2) (N := 4) E F I (m_thrown l g R B cd1 T1 P1 fo O) gL_law_X2_thrown rfl (by decide) rfl rfl rfl hd_X2_thrown rfl rfl ⟨by decide, by decide⟩ ⟨hfc, hfs⟩ rfl hl.1 rfl (Nat.le_of_ble_eq_true rfl) dL_law_171 (fun H locs I => ?_)
          refine lv_iload hx hb dL_law_174 (lv_at hl 0 rfl) ?_
          refine lv_icmp_eq (tgt := 181) hx hb dL_law_176 (by decide) (fun h9 => ?_) (fun h9 => ?_)
          · refine lv_goto (tgt := 1278) hx hb dL_law_181 (by decide) ?_
            exact kk R B cd1 T1 P1 fo O H locs ls (by rw [hT1]; exact hAg) I (lv_sub hl [1, 2, 3, 4, 5] rfl)
          · exact absurd (hc1.trans nI1e) h9
        · exact absurd hsl8 hn
        · exact absurd ⟨s08, b_s08, e_s08⟩ hn
    · exact absurd hxc.1 (by decide)
set_option maxHeartbeats 4000000 in
set_option maxRecDepth 100000 in
theorem lc_variable {p : Program} {l : Launch} {e : Env} {s : State} {m : MethodId} {below : List Frame} {meth : Method} {c : Code} {H : Heap} {locs : List Loc} {Q : State → Prop} {ls : Array Slot} {g : Geo} {b L : Nat} {xs : Nat → Int32} {j : Nat} {R : Nat → Nat → Int64} {B : Rul} {cd : Int32} {T P : Nat → Bool} {fo : Nat → Int32} {O : Nat → Int64} (hl0 : l.stackTraces = false) (E : CallFix p m c cL_law 7 s #[Value.ref b] wsL_law RL) (F : Fx g s) (hX : va_X b L xs s s.heap) (hbl : b < s.heap.size) (hbA : ¬ gW g b) (hL : L ≤ 2560) (hjl : 5 * j + 5 ≤ L) (hfc : 62 + 5 * j + 5 ≤ room_1.cells) (hfs : 83840 + 30 * j + 30 ≤ room_1.slots) (hAg : Ag R T) (I : Iv g (R, B, (cd, bF T, bF P, fo), O) s H locs) (hl : lv_has ls 7 [(0, .ref (b)), (1, .ref (gA g 0)), (2, .ref (gA g 5)), (3, .ref (gA g 9)), (4, .int (nI (5 * j)))])
    (kk : ∀ (R : Nat → Nat → Int64) (B : Rul) (cd : Int32) (T P : Nat → Bool) (fo : Nat → Int32) (O : Nat → Int64) (H : Heap) (locs : List Loc) (ls : Array Slot), Ag R T → Iv g (R, B, (cd, bF T, bF P, fo), O) s H locs → lv_has ls 7 [(0, .ref (b)), (1, .ref (gA g 0)), (2, .ref (gA g 5)), (3, .ref (gA g 9)), (4, .int (nI (5 * j)))] → W p l e room_1 s m #[Value.ref b] below meth c H locs (62 + 5 * j + 5) (83840 + 30 * j + 30) Q (F0 m 1278 ls [])) : W p l e room_1 s m #[Value.ref b] below meth c H locs (62 + 5 * j) (83840 + 30 * j) Q (F0 m 184 ls []) := by
  have hx := E.1
  have hb := E.2.1
  refine lv_aload_n hx hb dL_law_184 rfl (lv_at hl 1 rfl) ?_
  refine lv_aload_n hx hb dL_law_185 rfl (lv_at hl 0 rfl) ?_
  refine lv_iload hx hb dL_law_186 (lv_at hl 4 rfl) ?_
  refine lv_iconst (v := nI (1)) hx hb dL_law_188 (by decide) ?_
  refine n_iadd hx hb dL_law_189 ?_
  refine s_ld (i := 5 * j + 1) hx hb hX hbl hbA I.2 (by omega) hL dL_law_190 ?_
  refine lv_aload_n hx hb dL_law_191 rfl (lv_at hl 0 rfl) ?_
  refine lv_iload hx hb dL_law_192 (lv_at hl 4 rfl) ?_
  refine lv_iconst (v := nI (2)) hx hb dL_law_194 (by decide) ?_
  refine n_iadd hx hb dL_law_195 ?_
  refine s_ld (i := 5 * j + 2) hx hb hX hbl hbA I.2 (by omega) hL dL_law_196 ?_
  refine l_call (rest := []) E F I (l_variable l hl0 g R B (cd, bF T, bF P, fo) O (xs (5 * j + 1)) (xs (5 * j + 2))) gL_law_L_variable rfl hd_L_variable rfl rfl ⟨by decide, by decide⟩ ⟨hfc, hfs⟩ rfl hl.1 rfl (Nat.le_of_ble_eq_true rfl) dL_law_197 (fun v9 u9 H locs hp I => ?_)
  rcases hp with ⟨rfl, -, s0, v, b_s0, b_v, e_s0, e_v, R1, rfl, hU⟩ | ⟨rfl, hxc, rfl⟩ | ⟨rfl, hxc, rfl⟩
  · refine W.eq (g2 := F0 m 200 ls [.int (nI (0))]) rfl ?_
    refine lv_istore (lv' := [(5, .int (nI (0))), (0, .ref (b)), (1, .ref (gA g 0)), (2, .ref (gA g 5)), (3, .ref (gA g 9)), (4, .int (nI (5 * j)))]) hx hb dL_law_200 hl (by decide) rfl (fun ls hl => ?_)
    refine lv_aload_n hx hb dL_law_202 rfl (lv_at hl 3 rfl) ?_
    refine lv_aload_n hx hb dL_law_203 rfl (lv_at hl 1 rfl) ?_
    refine lv_iload hx hb dL_law_204 (lv_at hl 5 rfl) ?_
    refine lv_iconst (v := nI (1)) hx hb dL_law_206 (by decide) ?_
    refine n_iadd hx hb dL_law_207 ?_
    refine s_ld (i := 5 * j + 1) hx hb hX hbl hbA I.2 (by omega) hL dL_law_208 ?_
    refine lv_aload_n hx hb dL_law_209 rfl (lv_at hl 1 rfl) ?_
    refine lv_iload hx hb dL_law_210 (lv_at hl 5 rfl) ?_
    refine lv_iconst (v := nI (2)) hx hb dL_law_212 (by decide) ?_
    refine n_iadd hx hb dL_law_213 ?_
    refine s_ld (i := 5 * j + 2) hx hb hX hbl hbA I.2 (by omega) hL dL_law_214 ?_
    refine x_callV 5 2 (rest := []) (C := RX2) (T0 := TX2) (N := 4) E F I (m_variable l g R1 B cd T P fo O (xs (5 * j + 1)) (xs (5 * j + 2))) gL_law_X2_variable rfl (by decide) rfl rfl rfl hd_X2_variable rfl rfl ⟨by decide, by decide⟩ ⟨hfc, hfs⟩ rfl hl.1 rfl (Nat.le_of_ble_eq_true rfl) dL_law_215 (fun v8 u8 H locs hp8 I => ?_)
    obtain ⟨rfl, cd1, T1, P1, rfl, hm⟩ := hp8
    refine W.eq (g2 := F0 m 218 ls []) rfl ?_
    rcases hm with ⟨hn8, hc1, hT1⟩ | ⟨hsl8, hn8, hc1, hT1⟩ | ⟨hc1, s08, v8, b_s08, b_v8, e_s08, e_v8, hM⟩
    · exact absurd ⟨s0, b_s0, e_s0⟩ hn8
    · exact absurd ⟨v, b_v, e_v⟩ hn8
    · have q_s0 : s0 = s08 := (nI_eq (by omega) (by omega)).mp (e_s0.symm.trans e_s08)
      subst q_s0
      have q_v : v = v8 := (nI_eq (by omega) (by omega)).mp (e_v.symm.trans e_v8)
      subst q_v
      have hAg1 : Ag R1 T1 := Ag_w hAg hU hM (fun p hp => (bit_ne0 v b_v p hp).trans (pt_vw b_v hp).symm)
      refine lv_aload_n hx hb dL_law_218 rfl (lv_at hl 3 rfl) ?_
      refine x_callVi 5 2 (rest := []) (C := RX2) (T0 := TX2) (N := 4) E F I (m_thrown l g R1 B cd1 T1 P1 fo O) gL_law_X2_thrown rfl (by decide) rfl rfl rfl hd_X2_thrown rfl rfl ⟨by decide, by decide⟩ ⟨hfc, hfs⟩ rfl hl.1 rfl (Nat.le_of_ble_eq_true rfl) dL_law_219 (fun H locs I => ?_)
      refine lv_iload hx hb dL_law_222 (lv_at hl 0 rfl) ?_
      refine lv_icmp_eq (tgt := 229) hx hb dL_law_224 (by decide) (fun h1 => ?_) (fun h1 => ?_)
      · refine lv_goto (tgt := 1278) hx hb dL_law_229 (by decide) ?_
        exact kk R1 B cd1 T1 P1 fo O H locs ls hAg1 I (lv_sub hl [1, 2, 3, 4, 5] rfl)
      · exact absurd (hc1.trans nI0e) h1
  · have hn := hxc.resolve_right (fun q => absurd q.1 (by decide))
    have hn := hn.2
    refine W.eq (g2 := F0 m 200 ls [.int (nI (1))]) rfl ?_
    refine lv_istore (lv' := [(5, .int (nI (1))), (0, .ref (b)), (1, .ref (gA g 0)), (2, .ref (gA g 5)), (3, .ref (gA g 9)), (4, .int (nI (5 * j)))]) hx hb dL_law_200 hl (by decide) rfl (fun ls hl => ?_)
    refine lv_aload_n hx hb dL_law_202 rfl (lv_at hl 3 rfl) ?_
    refine lv_aload_n hx hb dL_law_203 rfl (lv_at hl 1 rfl) ?_
    refine lv_iload hx hb dL_law_204 (lv_at hl 5 rfl) ?_
    refine lv_iconst (v := nI (1)) hx hb dL_law_206 (by decide) ?_
    refine n_iadd hx hb dL_law_207 ?_
    refine s_ld (i := 5 * j + 1) hx hb hX hbl hbA I.2 (by omega) hL dL_law_208 ?_
    refine lv_aload_n hx hb dL_law_209 rfl (lv_at hl 1 rfl) ?_
    refine lv_iload hx hb dL_law_210 (lv_at hl 5 rfl) ?_
    refine lv_iconst (v := nI (2)) hx hb dL_law_212 (by decide) ?_
    refine n_iadd hx hb dL_law_213 ?_
    refine s_ld (i := 5 * j + 2) hx hb hX hbl hbA I.2 (by omega) hL dL_law_214 ?_
    refine x_callV 5 2 (rest := []) (C := RX2) (T0 := TX2) (N := 4) E F I (m_variable l g R B cd T P fo O (xs (5 * j + 1)) (xs (5 * j + 2))) gL_law_X2_variable rfl (by decide) rfl rfl rfl hd_X2_variable rfl rfl ⟨by decide, by decide⟩ ⟨hfc, hfs⟩ rfl hl.1 rfl (Nat.le_of_ble_eq_true rfl) dL_law_215 (fun v8 u8 H locs hp8 I => ?_)
    obtain ⟨rfl, cd1, T1, P1, rfl, hm⟩ := hp8
    refine W.eq (g2 := F0 m 218 ls []) rfl ?_
    rcases hm with ⟨hn8, hc1, hT1⟩ | ⟨hsl8, hn8, hc1, hT1⟩ | ⟨hc1, s08, v8, b_s08, b_v8, e_s08, e_v8, hM⟩
    · refine lv_aload_n hx hb dL_law_218 rfl (lv_at hl 3 rfl) ?_
      refine x_callVi 5 2 (rest := []) (C := RX2) (T0 := TX2) (N := 4) E F I (m_thrown l g R B cd1 T1 P1 fo O) gL_law_X2_thrown rfl (by decide) rfl rfl rfl hd_X2_thrown rfl rfl ⟨by decide, by decide⟩ ⟨hfc, hfs⟩ rfl hl.1 rfl (Nat.le_of_ble_eq_true rfl) dL_law_219 (fun H locs I => ?_)
      refine lv_iload hx hb dL_law_222 (lv_at hl 0 rfl) ?_
      refine lv_icmp_eq (tgt := 229) hx hb dL_law_224 (by decide) (fun h2 => ?_) (fun h2 => ?_)
      · refine lv_goto (tgt := 1278) hx hb dL_law_229 (by decide) ?_
        exact kk R B cd1 T1 P1 fo O H locs ls (by rw [hT1]; exact hAg) I (lv_sub hl [1, 2, 3, 4, 5] rfl)
      · exact absurd (hc1.trans nI1e) h2
    · exact absurd hsl8 hn
    · exact absurd ⟨s08, b_s08, e_s08⟩ hn
  · obtain ⟨-, hsl, hn⟩ := hxc.resolve_left (fun q => absurd q.1 (by decide))
    refine W.eq (g2 := F0 m 200 ls [.int (nI (2))]) rfl ?_
    refine lv_istore (lv' := [(5, .int (nI (2))), (0, .ref (b)), (1, .ref (gA g 0)), (2, .ref (gA g 5)), (3, .ref (gA g 9)), (4, .int (nI (5 * j)))]) hx hb dL_law_200 hl (by decide) rfl (fun ls hl => ?_)
    refine lv_aload_n hx hb dL_law_202 rfl (lv_at hl 3 rfl) ?_
    refine lv_aload_n hx hb dL_law_203 rfl (lv_at hl 1 rfl) ?_
    refine lv_iload hx hb dL_law_204 (lv_at hl 5 rfl) ?_
    refine lv_iconst (v := nI (1)) hx hb dL_law_206 (by decide) ?_
    refine n_iadd hx hb dL_law_207 ?_
    refine s_ld (i := 5 * j + 1) hx hb hX hbl hbA I.2 (by omega) hL dL_law_208 ?_
    refine lv_aload_n hx hb dL_law_209 rfl (lv_at hl 1 rfl) ?_
    refine lv_iload hx hb dL_law_210 (lv_at hl 5 rfl) ?_
    refine lv_iconst (v := nI (2)) hx hb dL_law_212 (by decide) ?_
    refine n_iadd hx hb dL_law_213 ?_
    refine s_ld (i := 5 * j + 2) hx hb hX hbl hbA I.2 (by omega) hL dL_law_214 ?_
    refine x_callV 5 2 (rest := []) (C := RX2) (T0 := TX2) (N := 4) E F I (m_variable l g R B cd T P fo O (xs (5 * j + 1)) (xs (5 * j + 2))) gL_law_X2_variable rfl (by decide) rfl rfl rfl hd_X2_variable rfl rfl ⟨by decide, by decide⟩ ⟨hfc, hfs⟩ rfl hl.1 rfl (Nat.le_of_ble_eq_true rfl) dL_law_215 (fun v8 u8 H locs hp8 I => ?_)
    obtain ⟨rfl, cd1, T1, P1, rfl, hm⟩ := hp8
    refine W.eq (g2 := F0 m 218 ls []) rfl ?_
    rcases hm with ⟨hn8, hc1, hT1⟩ | ⟨hsl8, hn8, hc1, hT1⟩ | ⟨hc1, s08, v8, b_s08, b_v8, e_s08, e_v8, hM⟩
    · exact absurd hsl hn8
    · refine lv_aload_n hx hb dL_law_218 rfl (lv_at hl 3 rfl) ?_
      refine x_callVi 5 2 (rest := []) (C := RX2) (T0 := TX2) (N := 4) E F I (m_thrown l g R B cd1 T1 P1 fo O) gL_law_X2_thrown rfl (by decide) rfl rfl rfl hd_X2_thrown rfl rfl ⟨by decide, by decide⟩ ⟨hfc, hfs⟩ rfl hl.1 rfl (Nat.le_of_ble_eq_true rfl) dL_law_219 (fun H locs I => ?_)
      refine lv_iload hx hb dL_law_222 (lv_at hl 0 rfl) ?_
      refine lv_icmp_eq (tgt := 229) hx hb dL_law_224 (by decide) (fun h3 => ?_) (fun h3 => ?_)
      · refine lv_goto (tgt := 1278) hx hb dL_law_229 (by decide) ?_
        exact kk R B cd1 T1 P1 fo O H locs ls (by rw [hT1]; exact hAg) I (lv_sub hl [1, 2, 3, 4, 5] rfl)
      · exact absurd (hc1.trans nI2e) h3
    · exact absurd ⟨v8, b_v8, e_v8⟩ hn
set_option maxHeartbeats 4000000 in
set_option maxRecDepth 100000 in
theorem lc_join {p : Program} {l : Launch} {e : Env} {s : State} {m : MethodId} {below : List Frame} {meth : Method} {c : Code} {H : Heap} {locs : List Loc} {Q : State → Prop} {ls : Array Slot} {g : Geo} {b L : Nat} {xs : Nat → Int32} {j : Nat} {R : Nat → Nat → Int64} {B : Rul} {cd : Int32} {T P : Nat → Bool} {fo : Nat → Int32} {O : Nat → Int64} (hl0 : l.stackTraces = false) (E : CallFix p m c cL_law 7 s #[Value.ref b] wsL_law RL) (F : Fx g s) (hX : va_X b L xs s s.heap) (hbl : b < s.heap.size) (hbA : ¬ gW g b) (hL : L ≤ 2560) (hjl : 5 * j + 5 ≤ L) (hfc : 62 + 5 * j + 5 ≤ room_1.cells) (hfs : 83840 + 30 * j + 30 ≤ room_1.slots) (hAg : Ag R T) (I : Iv g (R, B, (cd, bF T, bF P, fo), O) s H locs) (hl : lv_has ls 7 [(0, .ref (b)), (1, .ref (gA g 0)), (2, .ref (gA g 5)), (3, .ref (gA g 9)), (4, .int (nI (5 * j)))])
    (kk : ∀ (R : Nat → Nat → Int64) (B : Rul) (cd : Int32) (T P : Nat → Bool) (fo : Nat → Int32) (O : Nat → Int64) (H : Heap) (locs : List Loc) (ls : Array Slot), Ag R T → Iv g (R, B, (cd, bF T, bF P, fo), O) s H locs → lv_has ls 7 [(0, .ref (b)), (1, .ref (gA g 0)), (2, .ref (gA g 5)), (3, .ref (gA g 9)), (4, .int (nI (5 * j)))] → W p l e room_1 s m #[Value.ref b] below meth c H locs (62 + 5 * j + 5) (83840 + 30 * j + 30) Q (F0 m 1278 ls [])) : W p l e room_1 s m #[Value.ref b] below meth c H locs (62 + 5 * j) (83840 + 30 * j) Q (F0 m 232 ls []) := by
  have hx := E.1
  have hb := E.2.1
  refine lv_aload_n hx hb dL_law_232 rfl (lv_at hl 1 rfl) ?_
  refine lv_aload_n hx hb dL_law_233 rfl (lv_at hl 0 rfl) ?_
  refine lv_iload hx hb dL_law_234 (lv_at hl 4 rfl) ?_
  refine lv_iconst (v := nI (1)) hx hb dL_law_236 (by decide) ?_
  refine n_iadd hx hb dL_law_237 ?_
  refine s_ld (i := 5 * j + 1) hx hb hX hbl hbA I.2 (by omega) hL dL_law_238 ?_
  refine lv_aload_n hx hb dL_law_239 rfl (lv_at hl 0 rfl) ?_
  refine lv_iload hx hb dL_law_240 (lv_at hl 4 rfl) ?_
  refine lv_iconst (v := nI (2)) hx hb dL_law_242 (by decide) ?_
  refine n_iadd hx hb dL_law_243 ?_
  refine s_ld (i := 5 * j + 2) hx hb hX hbl hbA I.2 (by omega) hL dL_law_244 ?_
  refine lv_aload_n hx hb dL_law_245 rfl (lv_at hl 0 rfl) ?_
  refine lv_iload hx hb dL_law_246 (lv_at hl 4 rfl) ?_
  refine lv_iconst (v := nI (3)) hx hb dL_law_248 (by decide) ?_
  refine n_iadd hx hb dL_law_249 ?_
  refine s_ld (i := 5 * j + 3) hx hb hX hbl hbA I.2 (by omega) hL dL_law_250 ?_
  refine lv_aload_n hx hb dL_law_251 rfl (lv_at hl 0 rfl) ?_
  refine lv_iload hx hb dL_law_252 (lv_at hl 4 rfl) ?_
  refine lv_iconst (v := nI (4)) hx hb dL_law_254 (by decide) ?_
  refine n_iadd hx hb dL_law_255 ?_
  refine s_ld (i := 5 * j + 4) hx hb hX hbl hbA I.2 (by omega) hL dL_law_256 ?_
  refine l_call (rest := []) E F I (l_join l hl0 g R B (cd, bF T, bF P, fo) O (xs (5 * j + 1)) (xs (5 * j + 2)) (xs (5 * j + 3)) (xs (5 * j + 4))) gL_law_L_join rfl hd_L_join rfl rfl ⟨by decide, by decide⟩ ⟨hfc, hfs⟩ rfl hl.1 rfl (Nat.le_of_ble_eq_true rfl) dL_law_257 (fun v9 u9 H locs hp I => ?_)
  rcases hp with ⟨rfl, -, s0, a, b0, h, b_s0, b_a, b_b0, b_h, e_s0, e_a, e_b0, e_h, R1, rfl, hU⟩ | ⟨rfl, hxc, rfl⟩ | ⟨rfl, hxc, rfl⟩
  · refine W.eq (g2 := F0 m 260 ls [.int (nI (0))]) rfl ?_
    refine lv_istore (lv' := [(5, .int (nI (0))), (0, .ref (b)), (1, .ref (gA g 0)), (2, .ref (gA g 5)), (3, .ref (gA g 9)), (4, .int (nI (5 * j)))]) hx hb dL_law_260 hl (by decide) rfl (fun ls hl => ?_)
    refine lv_aload_n hx hb dL_law_262 rfl (lv_at hl 3 rfl) ?_
    refine lv_aload_n hx hb dL_law_263 rfl (lv_at hl 1 rfl) ?_
    refine lv_iload hx hb dL_law_264 (lv_at hl 5 rfl) ?_
    refine lv_iconst (v := nI (1)) hx hb dL_law_266 (by decide) ?_
    refine n_iadd hx hb dL_law_267 ?_
    refine s_ld (i := 5 * j + 1) hx hb hX hbl hbA I.2 (by omega) hL dL_law_268 ?_
    refine lv_aload_n hx hb dL_law_269 rfl (lv_at hl 1 rfl) ?_
    refine lv_iload hx hb dL_law_270 (lv_at hl 5 rfl) ?_
    refine lv_iconst (v := nI (2)) hx hb dL_law_272 (by decide) ?_
    refine n_iadd hx hb dL_law_273 ?_
    refine s_ld (i := 5 * j + 2) hx hb hX hbl hbA I.2 (by omega) hL dL_law_274 ?_
    refine lv_aload_n hx hb dL_law_275 rfl (lv_at hl 1 rfl) ?_
    refine lv_iload hx hb dL_law_276 (lv_at hl 5 rfl) ?_
    refine lv_iconst (v := nI (3)) hx hb dL_law_278 (by decide) ?_
    refine n_iadd hx hb dL_law_279 ?_
    refine s_ld (i := 5 * j + 3) hx hb hX hbl hbA I.2 (by omega) hL dL_law_280 ?_
    refine lv_aload_n hx hb dL_law_281 rfl (lv_at hl 1 rfl) ?_
    refine lv_iload hx hb dL_law_282 (lv_at hl 5 rfl) ?_
    refine lv_iconst (v := nI (4)) hx hb dL_law_284 (by decide) ?_
    refine n_iadd hx hb dL_law_285 ?_
    refine s_ld (i := 5 * j + 4) hx hb hX hbl hbA I.2 (by omega) hL dL_law_286 ?_
    refine x_callV 5 2 (rest := []) (C := RX2) (T0 := TX2) (N := 4) E F I (m_join l g R1 B cd T P fo O (xs (5 * j + 1)) (xs (5 * j + 2)) (xs (5 * j + 3)) (xs (5 * j + 4))) gL_law_X2_join rfl (by decide) rfl rfl rfl hd_X2_join rfl rfl ⟨by decide, by decide⟩ ⟨hfc, hfs⟩ rfl hl.1 rfl (Nat.le_of_ble_eq_true rfl) dL_law_287 (fun v8 u8 H locs hp8 I => ?_)
    obtain ⟨rfl, cd1, T1, P1, rfl, hm⟩ := hp8
    refine W.eq (g2 := F0 m 290 ls []) rfl ?_
    rcases hm with ⟨hn8, hc1, hT1⟩ | ⟨hsl8, hn8, hc1, hT1⟩ | ⟨hc1, s08, a8, b08, h8, b_s08, b_a8, b_b08, b_h8, e_s08, e_a8, e_b08, e_h8, hM⟩
    · exact absurd ⟨⟨s0, b_s0, e_s0⟩, ⟨a, b_a, e_a⟩, ⟨b0, b_b0, e_b0⟩⟩ hn8
    · exact absurd ⟨h, b_h, e_h⟩ hn8
    · have q_s0 : s0 = s08 := (nI_eq (by omega) (by omega)).mp (e_s0.symm.trans e_s08)
      subst q_s0
      have q_a : a = a8 := (nI_eq (by omega) (by omega)).mp (e_a.symm.trans e_a8)
      subst q_a
      have q_b0 : b0 = b08 := (nI_eq (by omega) (by omega)).mp (e_b0.symm.trans e_b08)
      subst q_b0
      have q_h : h = h8 := (nI_eq (by omega) (by omega)).mp (e_h.symm.trans e_h8)
      subst q_h
      have hAg1 : Ag R1 T1 := Ag_w hAg hU hM (fun p hp => by rw [hAg a b_a p hp, hAg b0 b_b0 p hp]; exact (pt_jn b_h).symm)
      refine lv_aload_n hx hb dL_law_290 rfl (lv_at hl 3 rfl) ?_
      refine x_callVi 5 2 (rest := []) (C := RX2) (T0 := TX2) (N := 4) E F I (m_thrown l g R1 B cd1 T1 P1 fo O) gL_law_X2_thrown rfl (by decide) rfl rfl rfl hd_X2_thrown rfl rfl ⟨by decide, by decide⟩ ⟨hfc, hfs⟩ rfl hl.1 rfl (Nat.le_of_ble_eq_true rfl) dL_law_291 (fun H locs I => ?_)
      refine lv_iload hx hb dL_law_294 (lv_at hl 0 rfl) ?_
      refine lv_icmp_eq (tgt := 301) hx hb dL_law_296 (by decide) (fun h1 => ?_) (fun h1 => ?_)
      · refine lv_goto (tgt := 1278) hx hb dL_law_301 (by decide) ?_
        exact kk R1 B cd1 T1 P1 fo O H locs ls hAg1 I (lv_sub hl [1, 2, 3, 4, 5] rfl)
      · exact absurd (hc1.trans nI0e) h1
  · have hn := hxc.resolve_right (fun q => absurd q.1 (by decide))
    have hn := hn.2
    refine W.eq (g2 := F0 m 260 ls [.int (nI (1))]) rfl ?_
    refine lv_istore (lv' := [(5, .int (nI (1))), (0, .ref (b)), (1, .ref (gA g 0)), (2, .ref (gA g 5)), (3, .ref (gA g 9)), (4, .int (nI (5 * j)))]) hx hb dL_law_260 hl (by decide) rfl (fun ls hl => ?_)
    refine lv_aload_n hx hb dL_law_262 rfl (lv_at hl 3 rfl) ?_
    refine lv_aload_n hx hb dL_law_263 rfl (lv_at hl 1 rfl) ?_
    refine lv_iload hx hb dL_law_264 (lv_at hl 5 rfl) ?_
    refine lv_iconst (v := nI (1)) hx hb dL_law_266 (by decide) ?_
    refine n_iadd hx hb dL_law_267 ?_
    refine s_ld (i := 5 * j + 1) hx hb hX hbl hbA I.2 (by omega) hL dL_law_268 ?_
    refine lv_aload_n hx hb dL_law_269 rfl (lv_at hl 1 rfl) ?_
    refine lv_iload hx hb dL_law_270 (lv_at hl 5 rfl) ?_
    refine lv_iconst (v := nI (2)) hx hb dL_law_272 (by decide) ?_
    refine n_iadd hx hb dL_law_273 ?_
    refine s_ld (i := 5 * j + 2) hx hb hX hbl hbA I.2 (by omega) hL dL_law_274 ?_
    refine lv_aload_n hx hb dL_law_275 rfl (lv_at hl 1 rfl) ?_
    refine lv_iload hx hb dL_law_276 (lv_at hl 5 rfl) ?_
    refine lv_iconst (v := nI (3)) hx hb dL_law_278 (by decide) ?_
    refine n_iadd hx hb dL_law_279 ?_
    refine s_ld (i := 5 * j + 3) hx hb hX hbl hbA I.2 (by omega) hL dL_law_280 ?_
    refine lv_aload_n hx hb dL_law_281 rfl (lv_at hl 1 rfl) ?_
    refine lv_iload hx hb dL_law_282 (lv_at hl 5 rfl) ?_
    refine lv_iconst (v := nI (4)) hx hb dL_law_284 (by decide) ?_
    refine n_iadd hx hb dL_law_285 ?_
    refine s_ld (i := 5 * j + 4) hx hb hX hbl hbA I.2 (by omega) hL dL_law_286 ?_
    refine x_callV 5 2 (rest := []) (C := RX2) (T0 := TX2) (N := 4) E F I (m_join l g R B cd T P fo O (xs (5 * j + 1)) (xs (5 * j + 2)) (xs (5 * j + 3)) (xs (5 * j + 4))) gL_law_X2_join rfl (by decide) rfl rfl rfl hd_X2_join rfl rfl ⟨by decide, by decide⟩ ⟨hfc, hfs⟩ rfl hl.1 rfl (Nat.le_of_ble_eq_true rfl) dL_law_287 (fun v8 u8 H locs hp8 I => ?_)
    obtain ⟨rfl, cd1, T1, P1, rfl, hm⟩ := hp8
    refine W.eq (g2 := F0 m 290 ls []) rfl ?_
    rcases hm with ⟨hn8, hc1, hT1⟩ | ⟨hsl8, hn8, hc1, hT1⟩ | ⟨hc1, s08, a8, b08, h8, b_s08, b_a8, b_b08, b_h8, e_s08, e_a8, e_b08, e_h8, hM⟩
    · refine lv_aload_n hx hb dL_law_290 rfl (lv_at hl 3 rfl) ?_
      refine x_callVi 5 2 (rest := []) (C := RX2) (T0 := TX2) (N := 4) E F I (m_thrown l g R B cd1 T1 P1 fo O) gL_law_X2_thrown rfl (by decide) rfl rfl rfl hd_X2_thrown rfl rfl ⟨by decide, by decide⟩ ⟨hfc, hfs⟩ rfl hl.1 rfl (Nat.le_of_ble_eq_true rfl) dL_law_291 (fun H locs I => ?_)
      refine lv_iload hx hb dL_law_294 (lv_at hl 0 rfl) ?_
      refine lv_icmp_eq (tgt := 301) hx hb dL_law_296 (by decide) (fun h2 => ?_) (fun h2 => ?_)
      · refine lv_goto (tgt := 1278) hx hb dL_law_301 (by decide) ?_
        exact kk R B cd1 T1 P1 fo O H locs ls (by rw [hT1]; exact hAg) I (lv_sub hl [1, 2, 3, 4, 5] rfl)
      · exact absurd (hc1.trans nI1e) h2
    · exact absurd hsl8 hn
    · exact absurd ⟨⟨s08, b_s08, e_s08⟩, ⟨a8, b_a8, e_a8⟩, ⟨b08, b_b08, e_b08⟩⟩ hn
  · obtain ⟨-, hsl, hn⟩ := hxc.resolve_left (fun q => absurd q.1 (by decide))
    refine W.eq (g2 := F0 m 260 ls [.int (nI (2))]) rfl ?_
    refine lv_istore (lv' := [(5, .int (nI (2))), (0, .ref (b)), (1, .ref (gA g 0)), (2, .ref (gA g 5)), (3, .ref (gA g 9)), (4, .int (nI (5 * j)))]) hx hb dL_law_260 hl (by decide) rfl (fun ls hl => ?_)
    refine lv_aload_n hx hb dL_law_262 rfl (lv_at hl 3 rfl) ?_
    refine lv_aload_n hx hb dL_law_263 rfl (lv_at hl 1 rfl) ?_
    refine lv_iload hx hb dL_law_264 (lv_at hl 5 rfl) ?_
    refine lv_iconst (v := nI (1)) hx hb dL_law_266 (by decide) ?_
    refine n_iadd hx hb dL_law_267 ?_
    refine s_ld (i := 5 * j + 1) hx hb hX hbl hbA I.2 (by omega) hL dL_law_268 ?_
    refine lv_aload_n hx hb dL_law_269 rfl (lv_at hl 1 rfl) ?_
    refine lv_iload hx hb dL_law_270 (lv_at hl 5 rfl) ?_
    refine lv_iconst (v := nI (2)) hx hb dL_law_272 (by decide) ?_
    refine n_iadd hx hb dL_law_273 ?_
    refine s_ld (i := 5 * j + 2) hx hb hX hbl hbA I.2 (by omega) hL dL_law_274 ?_
    refine lv_aload_n hx hb dL_law_275 rfl (lv_at hl 1 rfl) ?_
    refine lv_iload hx hb dL_law_276 (lv_at hl 5 rfl) ?_
    refine lv_iconst (v := nI (3)) hx hb dL_law_278 (by decide) ?_
    refine n_iadd hx hb dL_law_279 ?_
    refine s_ld (i := 5 * j + 3) hx hb hX hbl hbA I.2 (by omega) hL dL_law_280 ?_
    refine lv_aload_n hx hb dL_law_281 rfl (lv_at hl 1 rfl) ?_
    refine lv_iload hx hb dL_law_282 (lv_at hl 5 rfl) ?_
    refine lv_iconst (v := nI (4)) hx hb dL_law_284 (by decide) ?_
    refine n_iadd hx hb dL_law_285 ?_
    refine s_ld (i := 5 * j + 4) hx hb hX hbl hbA I.2 (by omega) hL dL_law_286 ?_
    refine x_callV 5 2 (rest := []) (C := RX2) (T0 := TX2) (N := 4) E F I (m_join l g R B cd T P fo O (xs (5 * j + 1)) (xs (5 * j + 2)) (xs (5 * j + 3)) (xs (5 * j + 4))) gL_law_X2_join rfl (by decide) rfl rfl rfl hd_X2_join rfl rfl ⟨by decide, by decide⟩ ⟨hfc, hfs⟩ rfl hl.1 rfl (Nat.le_of_ble_eq_true rfl) dL_law_287 (fun v8 u8 H locs hp8 I => ?_)
    obtain ⟨rfl, cd1, T1, P1, rfl, hm⟩ := hp8
    refine W.eq (g2 := F0 m 290 ls []) rfl ?_
    rcases hm with ⟨hn8, hc1, hT1⟩ | ⟨hsl8, hn8, hc1, hT1⟩ | ⟨hc1, s08, a8, b08, h8, b_s08, b_a8, b_b08, b_h8, e_s08, e_a8, e_b08, e_h8, hM⟩
    · exact absurd hsl hn8
    · refine lv_aload_n hx hb dL_law_290 rfl (lv_at hl 3 rfl) ?_
      refine x_callVi 5 2 (rest := []) (C := RX2) (T0 := TX2) (N := 4) E F I (m_thrown l g R B cd1 T1 P1 fo O) gL_law_X2_thrown rfl (by decide) rfl rfl rfl hd_X2_thrown rfl rfl ⟨by decide, by decide⟩ ⟨hfc, hfs⟩ rfl hl.1 rfl (Nat.le_of_ble_eq_true rfl) dL_law_291 (fun H locs I => ?_)
      refine lv_iload hx hb dL_law_294 (lv_at hl 0 rfl) ?_
      refine lv_icmp_eq (tgt := 301) hx hb dL_law_296 (by decide) (fun h3 => ?_) (fun h3 => ?_)
      · refine lv_goto (tgt := 1278) hx hb dL_law_301 (by decide) ?_
        exact kk R B cd1 T1 P1 fo O H locs ls (by rw [hT1]; exact hAg) I (lv_sub hl [1, 2, 3, 4, 5] rfl)
      · exact absurd (hc1.trans nI2e) h3
    · exact absurd ⟨h8, b_h8, e_h8⟩ hn
set_option maxHeartbeats 4000000 in
set_option maxRecDepth 100000 in
theorem lc_choose {p : Program} {l : Launch} {e : Env} {s : State} {m : MethodId} {below : List Frame} {meth : Method} {c : Code} {H : Heap} {locs : List Loc} {Q : State → Prop} {ls : Array Slot} {g : Geo} {b L : Nat} {xs : Nat → Int32} {j : Nat} {R : Nat → Nat → Int64} {B : Rul} {cd : Int32} {T P : Nat → Bool} {fo : Nat → Int32} {O : Nat → Int64} (hl0 : l.stackTraces = false) (E : CallFix p m c cL_law 7 s #[Value.ref b] wsL_law RL) (F : Fx g s) (hX : va_X b L xs s s.heap) (hbl : b < s.heap.size) (hbA : ¬ gW g b) (hL : L ≤ 2560) (hjl : 5 * j + 5 ≤ L) (hfc : 62 + 5 * j + 5 ≤ room_1.cells) (hfs : 83840 + 30 * j + 30 ≤ room_1.slots) (hAg : Ag R T) (I : Iv g (R, B, (cd, bF T, bF P, fo), O) s H locs) (hl : lv_has ls 7 [(0, .ref (b)), (1, .ref (gA g 0)), (2, .ref (gA g 5)), (3, .ref (gA g 9)), (4, .int (nI (5 * j)))])
    (kk : ∀ (R : Nat → Nat → Int64) (B : Rul) (cd : Int32) (T P : Nat → Bool) (fo : Nat → Int32) (O : Nat → Int64) (H : Heap) (locs : List Loc) (ls : Array Slot), Ag R T → Iv g (R, B, (cd, bF T, bF P, fo), O) s H locs → lv_has ls 7 [(0, .ref (b)), (1, .ref (gA g 0)), (2, .ref (gA g 5)), (3, .ref (gA g 9)), (4, .int (nI (5 * j)))] → W p l e room_1 s m #[Value.ref b] below meth c H locs (62 + 5 * j + 5) (83840 + 30 * j + 30) Q (F0 m 1278 ls [])) : W p l e room_1 s m #[Value.ref b] below meth c H locs (62 + 5 * j) (83840 + 30 * j) Q (F0 m 304 ls []) := by
  have hx := E.1
  have hb := E.2.1
  refine lv_aload_n hx hb dL_law_304 rfl (lv_at hl 1 rfl) ?_
  refine lv_aload_n hx hb dL_law_305 rfl (lv_at hl 0 rfl) ?_
  refine lv_iload hx hb dL_law_306 (lv_at hl 4 rfl) ?_
  refine lv_iconst (v := nI (1)) hx hb dL_law_308 (by decide) ?_
  refine n_iadd hx hb dL_law_309 ?_
  refine s_ld (i := 5 * j + 1) hx hb hX hbl hbA I.2 (by omega) hL dL_law_310 ?_
  refine lv_aload_n hx hb dL_law_311 rfl (lv_at hl 0 rfl) ?_
  refine lv_iload hx hb dL_law_312 (lv_at hl 4 rfl) ?_
  refine lv_iconst (v := nI (2)) hx hb dL_law_314 (by decide) ?_
  refine n_iadd hx hb dL_law_315 ?_
  refine s_ld (i := 5 * j + 2) hx hb hX hbl hbA I.2 (by omega) hL dL_law_316 ?_
  refine lv_aload_n hx hb dL_law_317 rfl (lv_at hl 0 rfl) ?_
  refine lv_iload hx hb dL_law_318 (lv_at hl 4 rfl) ?_
  refine lv_iconst (v := nI (3)) hx hb dL_law_320 (by decide) ?_
  refine n_iadd hx hb dL_law_321 ?_
  refine s_ld (i := 5 * j + 3) hx hb hX hbl hbA I.2 (by omega) hL dL_law_322 ?_
  refine lv_aload_n hx hb dL_law_323 rfl (lv_at hl 0 rfl) ?_
  refine lv_iload hx hb dL_law_324 (lv_at hl 4 rfl) ?_
  refine lv_iconst (v := nI (4)) hx hb dL_law_326 (by decide) ?_
  refine n_iadd hx hb dL_law_327 ?_
  refine s_ld (i := 5 * j + 4) hx hb hX hbl hbA I.2 (by omega) hL dL_law_328 ?_
  refine l_call (rest := []) E F I (l_choose l hl0 g R B (cd, bF T, bF P, fo) O (xs (5 * j + 1)) (xs (5 * j + 2)) (xs (5 * j + 3)) (xs (5 * j + 4))) gL_law_L_choose rfl hd_L_choose rfl rfl ⟨by decide, by decide⟩ ⟨hfc, hfs⟩ rfl hl.1 rfl (Nat.le_of_ble_eq_true rfl) dL_law_329 (fun v9 u9 H locs hp I => ?_)
  rcases hp with ⟨rfl, -, s0, a, b0, c0, b_s0, b_a, b_b0, b_c0, e_s0, e_a, e_b0, e_c0, R1, rfl, hU⟩ | ⟨rfl, hxc, rfl⟩ | ⟨rfl, hxc, rfl⟩
  · refine W.eq (g2 := F0 m 332 ls [.int (nI (0))]) rfl ?_
    refine lv_istore (lv' := [(5, .int (nI (0))), (0, .ref (b)), (1, .ref (gA g 0)), (2, .ref (gA g 5)), (3, .ref (gA g 9)), (4, .int (nI (5 * j)))]) hx hb dL_law_332 hl (by decide) rfl (fun ls hl => ?_)
    refine lv_aload_n hx hb dL_law_334 rfl (lv_at hl 3 rfl) ?_
    refine lv_aload_n hx hb dL_law_335 rfl (lv_at hl 1 rfl) ?_
    refine lv_iload hx hb dL_law_336 (lv_at hl 5 rfl) ?_
    refine lv_iconst (v := nI (1)) hx hb dL_law_338 (by decide) ?_
    refine n_iadd hx hb dL_law_339 ?_
    refine s_ld (i := 5 * j + 1) hx hb hX hbl hbA I.2 (by omega) hL dL_law_340 ?_
    refine lv_aload_n hx hb dL_law_341 rfl (lv_at hl 1 rfl) ?_
    refine lv_iload hx hb dL_law_342 (lv_at hl 5 rfl) ?_
    refine lv_iconst (v := nI (2)) hx hb dL_law_344 (by decide) ?_
    refine n_iadd hx hb dL_law_345 ?_
    refine s_ld (i := 5 * j + 2) hx hb hX hbl hbA I.2 (by omega) hL dL_law_346 ?_
    refine lv_aload_n hx hb dL_law_347 rfl (lv_at hl 1 rfl) ?_
    refine lv_iload hx hb dL_law_348 (lv_at hl 5 rfl) ?_
    refine lv_iconst (v := nI (3)) hx hb dL_law_350 (by decide) ?_
    refine n_iadd hx hb dL_law_351 ?_
    refine s_ld (i := 5 * j + 3) hx hb hX hbl hbA I.2 (by omega) hL dL_law_352 ?_
    refine lv_aload_n hx hb dL_law_353 rfl (lv_at hl 1 rfl) ?_
    refine lv_iload hx hb dL_law_354 (lv_at hl 5 rfl) ?_
    refine lv_iconst (v := nI (4)) hx hb dL_law_356 (by decide) ?_
    refine n_iadd hx hb dL_law_357 ?_
    refine s_ld (i := 5 * j + 4) hx hb hX hbl hbA I.2 (by omega) hL dL_law_358 ?_
    refine x_callV 5 2 (rest := []) (C := RX2) (T0 := TX2) (N := 4) E F I (m_choose l g R1 B cd T P fo O (xs (5 * j + 1)) (xs (5 * j + 2)) (xs (5 * j + 3)) (xs (5 * j + 4))) gL_law_X2_choose rfl (by decide) rfl rfl rfl hd_X2_choose rfl rfl ⟨by decide, by decide⟩ ⟨hfc, hfs⟩ rfl hl.1 rfl (Nat.le_of_ble_eq_true rfl) dL_law_359 (fun v8 u8 H locs hp8 I => ?_)
    obtain ⟨rfl, cd1, T1, P1, rfl, hm⟩ := hp8
    refine W.eq (g2 := F0 m 362 ls []) rfl ?_
    rcases hm with ⟨hn8, hc1, hT1⟩ | ⟨hsl8, hn8, hc1, hT1⟩ | ⟨hc1, s08, a8, b08, c08, b_s08, b_a8, b_b08, b_c08, e_s08, e_a8, e_b08, e_c08, hM⟩
    · exact absurd ⟨⟨s0, b_s0, e_s0⟩, ⟨a, b_a, e_a⟩, ⟨b0, b_b0, e_b0⟩, ⟨c0, b_c0, e_c0⟩⟩ hn8
    · exact absurd trivial hn8
    · have q_s0 : s0 = s08 := (nI_eq (by omega) (by omega)).mp (e_s0.symm.trans e_s08)
      subst q_s0
      have q_a : a = a8 := (nI_eq (by omega) (by omega)).mp (e_a.symm.trans e_a8)
      subst q_a
      have q_b0 : b0 = b08 := (nI_eq (by omega) (by omega)).mp (e_b0.symm.trans e_b08)
      subst q_b0
      have q_c0 : c0 = c08 := (nI_eq (by omega) (by omega)).mp (e_c0.symm.trans e_c08)
      subst q_c0
      have hAg1 : Ag R1 T1 := Ag_w hAg hU hM (fun p hp => by rw [hAg a b_a p hp, hAg b0 b_b0 p hp, hAg c0 b_c0 p hp]; exact (pt_pk3 _ _ _ _).symm)
      refine lv_aload_n hx hb dL_law_362 rfl (lv_at hl 3 rfl) ?_
      refine x_callVi 5 2 (rest := []) (C := RX2) (T0 := TX2) (N := 4) E F I (m_thrown l g R1 B cd1 T1 P1 fo O) gL_law_X2_thrown rfl (by decide) rfl rfl rfl hd_X2_thrown rfl rfl ⟨by decide, by decide⟩ ⟨hfc, hfs⟩ rfl hl.1 rfl (Nat.le_of_ble_eq_true rfl) dL_law_363 (fun H locs I => ?_)
      refine lv_iload hx hb dL_law_366 (lv_at hl 0 rfl) ?_
      refine lv_icmp_eq (tgt := 373) hx hb dL_law_368 (by decide) (fun h1 => ?_) (fun h1 => ?_)
      · refine lv_goto (tgt := 1278) hx hb dL_law_373 (by decide) ?_
        exact kk R1 B cd1 T1 P1 fo O H locs ls hAg1 I (lv_sub hl [1, 2, 3, 4, 5] rfl)
      · exact absurd (hc1.trans nI0e) h1
  · have hn := hxc.2
    refine W.eq (g2 := F0 m 332 ls [.int (nI (1))]) rfl ?_
    refine lv_istore (lv' := [(5, .int (nI (1))), (0, .ref (b)), (1, .ref (gA g 0)), (2, .ref (gA g 5)), (3, .ref (gA g 9)), (4, .int (nI (5 * j)))]) hx hb dL_law_332 hl (by decide) rfl (fun ls hl => ?_)
    refine lv_aload_n hx hb dL_law_334 rfl (lv_at hl 3 rfl) ?_
    refine lv_aload_n hx hb dL_law_335 rfl (lv_at hl 1 rfl) ?_
    refine lv_iload hx hb dL_law_336 (lv_at hl 5 rfl) ?_
    refine lv_iconst (v := nI (1)) hx hb dL_law_338 (by decide) ?_
    refine n_iadd hx hb dL_law_339 ?_
    refine s_ld (i := 5 * j + 1) hx hb hX hbl hbA I.2 (by omega) hL dL_law_340 ?_
    refine lv_aload_n hx hb dL_law_341 rfl (lv_at hl 1 rfl) ?_
    refine lv_iload hx hb dL_law_342 (lv_at hl 5 rfl) ?_
    refine lv_iconst (v := nI (2)) hx hb dL_law_344 (by decide) ?_
    refine n_iadd hx hb dL_law_345 ?_
    refine s_ld (i := 5 * j + 2) hx hb hX hbl hbA I.2 (by omega) hL dL_law_346 ?_
    refine lv_aload_n hx hb dL_law_347 rfl (lv_at hl 1 rfl) ?_
    refine lv_iload hx hb dL_law_348 (lv_at hl 5 rfl) ?_
    refine lv_iconst (v := nI (3)) hx hb dL_law_350 (by decide) ?_
    refine n_iadd hx hb dL_law_351 ?_
    refine s_ld (i := 5 * j + 3) hx hb hX hbl hbA I.2 (by omega) hL dL_law_352 ?_
    refine lv_aload_n hx hb dL_law_353 rfl (lv_at hl 1 rfl) ?_
    refine lv_iload hx hb dL_law_354 (lv_at hl 5 rfl) ?_
    refine lv_iconst (v := nI (4)) hx hb dL_law_356 (by decide) ?_
    refine n_iadd hx hb dL_law_357 ?_
    refine s_ld (i := 5 * j + 4) hx hb hX hbl hbA I.2 (by omega) hL dL_law_358 ?_
    refine x_callV 5 2 (rest := []) (C := RX2) (T0 := TX2) (N := 4) E F I (m_choose l g R B cd T P fo O (xs (5 * j + 1)) (xs (5 * j + 2)) (xs (5 * j + 3)) (xs (5 * j + 4))) gL_law_X2_choose rfl (by decide) rfl rfl rfl hd_X2_choose rfl rfl ⟨by decide, by decide⟩ ⟨hfc, hfs⟩ rfl hl.1 rfl (Nat.le_of_ble_eq_true rfl) dL_law_359 (fun v8 u8 H locs hp8 I => ?_)
    obtain ⟨rfl, cd1, T1, P1, rfl, hm⟩ := hp8
    refine W.eq (g2 := F0 m 362 ls []) rfl ?_
    rcases hm with ⟨hn8, hc1, hT1⟩ | ⟨hsl8, hn8, hc1, hT1⟩ | ⟨hc1, s08, a8, b08, c08, b_s08, b_a8, b_b08, b_c08, e_s08, e_a8, e_b08, e_c08, hM⟩
    · refine lv_aload_n hx hb dL_law_362 rfl (lv_at hl 3 rfl) ?_
      refine x_callVi 5 2 (rest := []) (C := RX2) (T0 := TX2) (N := 4) E F I (m_thrown l g R B cd1 T1 P1 fo O) gL_law_X2_thrown rfl (by decide) rfl rfl rfl hd_X2_thrown rfl rfl ⟨by decide, by decide⟩ ⟨hfc, hfs⟩ rfl hl.1 rfl (Nat.le_of_ble_eq_true rfl) dL_law_363 (fun H locs I => ?_)
      refine lv_iload hx hb dL_law_366 (lv_at hl 0 rfl) ?_
      refine lv_icmp_eq (tgt := 373) hx hb dL_law_368 (by decide) (fun h2 => ?_) (fun h2 => ?_)
      · refine lv_goto (tgt := 1278) hx hb dL_law_373 (by decide) ?_
        exact kk R B cd1 T1 P1 fo O H locs ls (by rw [hT1]; exact hAg) I (lv_sub hl [1, 2, 3, 4, 5] rfl)
      · exact absurd (hc1.trans nI1e) h2
    · exact absurd hsl8 hn
    · exact absurd ⟨⟨s08, b_s08, e_s08⟩, ⟨a8, b_a8, e_a8⟩, ⟨b08, b_b08, e_b08⟩, ⟨c08, b_c08, e_c08⟩⟩ hn
  · exact absurd hxc.1 (by decide)
set_option maxHeartbeats 4000000 in
set_option maxRecDepth 100000 in
theorem lc_fix {p : Program} {l : Launch} {e : Env} {s : State} {m : MethodId} {below : List Frame} {meth : Method} {c : Code} {H : Heap} {locs : List Loc} {Q : State → Prop} {ls : Array Slot} {g : Geo} {b L : Nat} {xs : Nat → Int32} {j : Nat} {R : Nat → Nat → Int64} {B : Rul} {cd : Int32} {T P : Nat → Bool} {fo : Nat → Int32} {O : Nat → Int64} (hl0 : l.stackTraces = false) (E : CallFix p m c cL_law 7 s #[Value.ref b] wsL_law RL) (F : Fx g s) (hX : va_X b L xs s s.heap) (hbl : b < s.heap.size) (hbA : ¬ gW g b) (hL : L ≤ 2560) (hjl : 5 * j + 5 ≤ L) (hfc : 62 + 5 * j + 5 ≤ room_1.cells) (hfs : 83840 + 30 * j + 30 ≤ room_1.slots) (hAg : Ag R T) (I : Iv g (R, B, (cd, bF T, bF P, fo), O) s H locs) (hl : lv_has ls 7 [(0, .ref (b)), (1, .ref (gA g 0)), (2, .ref (gA g 5)), (3, .ref (gA g 9)), (4, .int (nI (5 * j)))])
    (kk : ∀ (R : Nat → Nat → Int64) (B : Rul) (cd : Int32) (T P : Nat → Bool) (fo : Nat → Int32) (O : Nat → Int64) (H : Heap) (locs : List Loc) (ls : Array Slot), Ag R T → Iv g (R, B, (cd, bF T, bF P, fo), O) s H locs → lv_has ls 7 [(0, .ref (b)), (1, .ref (gA g 0)), (2, .ref (gA g 5)), (3, .ref (gA g 9)), (4, .int (nI (5 * j)))] → W p l e room_1 s m #[Value.ref b] below meth c H locs (62 + 5 * j + 5) (83840 + 30 * j + 30) Q (F0 m 1278 ls [])) : W p l e room_1 s m #[Value.ref b] below meth c H locs (62 + 5 * j) (83840 + 30 * j) Q (F0 m 376 ls []) := by
  have hx := E.1
  have hb := E.2.1
  refine lv_aload_n hx hb dL_law_376 rfl (lv_at hl 1 rfl) ?_
  refine lv_aload_n hx hb dL_law_377 rfl (lv_at hl 0 rfl) ?_
  refine lv_iload hx hb dL_law_378 (lv_at hl 4 rfl) ?_
  refine lv_iconst (v := nI (1)) hx hb dL_law_380 (by decide) ?_
  refine n_iadd hx hb dL_law_381 ?_
  refine s_ld (i := 5 * j + 1) hx hb hX hbl hbA I.2 (by omega) hL dL_law_382 ?_
  refine lv_aload_n hx hb dL_law_383 rfl (lv_at hl 0 rfl) ?_
  refine lv_iload hx hb dL_law_384 (lv_at hl 4 rfl) ?_
  refine lv_iconst (v := nI (2)) hx hb dL_law_386 (by decide) ?_
  refine n_iadd hx hb dL_law_387 ?_
  refine s_ld (i := 5 * j + 2) hx hb hX hbl hbA I.2 (by omega) hL dL_law_388 ?_
  refine lv_aload_n hx hb dL_law_389 rfl (lv_at hl 0 rfl) ?_
  refine lv_iload hx hb dL_law_390 (lv_at hl 4 rfl) ?_
  refine lv_iconst (v := nI (3)) hx hb dL_law_392 (by decide) ?_
  refine n_iadd hx hb dL_law_393 ?_
  refine s_ld (i := 5 * j + 3) hx hb hX hbl hbA I.2 (by omega) hL dL_law_394 ?_
  refine lv_aload_n hx hb dL_law_395 rfl (lv_at hl 0 rfl) ?_
  refine lv_iload hx hb dL_law_396 (lv_at hl 4 rfl) ?_
  refine lv_iconst (v := nI (4)) hx hb dL_law_398 (by decide) ?_
  refine n_iadd hx hb dL_law_399 ?_
  refine s_ld (i := 5 * j + 4) hx hb hX hbl hbA I.2 (by omega) hL dL_law_400 ?_
  refine lv_if_eq (tgt := 408) hx hb dL_law_401 (by decide) (fun h1 => ?_) (fun h1 => ?_)
  · refine lv_iconst (v := nI (0)) hx hb dL_law_408 (by decide) ?_
    refine W.eq (g2 := F0 m 409 ls [.int (bI (false)), .int (xs (5 * j + 3)), .int (xs (5 * j + 2)), .int (xs (5 * j + 1)), .ref (gA g 0)]) rfl ?_
    refine l_call (rest := []) E F I (l_fix l hl0 g R B (cd, bF T, bF P, fo) O (xs (5 * j + 1)) (xs (5 * j + 2)) (xs (5 * j + 3)) false) gL_law_L_fix rfl hd_L_fix rfl rfl ⟨by decide, by decide⟩ ⟨hfc, hfs⟩ rfl hl.1 rfl (Nat.le_of_ble_eq_true rfl) dL_law_409 (fun v9 u9 H locs hp I => ?_)
    rcases hp with ⟨rfl, -, s0, a, v, b_s0, b_a, b_v, e_s0, e_a, e_v, R1, rfl, hU⟩ | ⟨rfl, hxc, rfl⟩ | ⟨rfl, hxc, rfl⟩
    · refine W.eq (g2 := F0 m 412 ls [.int (nI (0))]) rfl ?_
      refine lv_istore (lv' := [(5, .int (nI (0))), (0, .ref (b)), (1, .ref (gA g 0)), (2, .ref (gA g 5)), (3, .ref (gA g 9)), (4, .int (nI (5 * j)))]) hx hb dL_law_412 hl (by decide) rfl (fun ls hl => ?_)
      refine lv_aload_n hx hb dL_law_414 rfl (lv_at hl 3 rfl) ?_
      refine lv_aload_n hx hb dL_law_415 rfl (lv_at hl 1 rfl) ?_
      refine lv_iload hx hb dL_law_416 (lv_at hl 5 rfl) ?_
      refine lv_iconst (v := nI (1)) hx hb dL_law_418 (by decide) ?_
      refine n_iadd hx hb dL_law_419 ?_
      refine s_ld (i := 5 * j + 1) hx hb hX hbl hbA I.2 (by omega) hL dL_law_420 ?_
      refine lv_aload_n hx hb dL_law_421 rfl (lv_at hl 1 rfl) ?_
      refine lv_iload hx hb dL_law_422 (lv_at hl 5 rfl) ?_
      refine lv_iconst (v := nI (2)) hx hb dL_law_424 (by decide) ?_
      refine n_iadd hx hb dL_law_425 ?_
      refine s_ld (i := 5 * j + 2) hx hb hX hbl hbA I.2 (by omega) hL dL_law_426 ?_
      refine lv_aload_n hx hb dL_law_427 rfl (lv_at hl 1 rfl) ?_
      refine lv_iload hx hb dL_law_428 (lv_at hl 5 rfl) ?_
      refine lv_iconst (v := nI (3)) hx hb dL_law_430 (by decide) ?_
      refine n_iadd hx hb dL_law_431 ?_
      refine s_ld (i := 5 * j + 3) hx hb hX hbl hbA I.2 (by omega) hL dL_law_432 ?_
      refine lv_aload_n hx hb dL_law_433 rfl (lv_at hl 1 rfl) ?_
      refine lv_iload hx hb dL_law_434 (lv_at hl 5 rfl) ?_
      refine lv_iconst (v := nI (4)) hx hb dL_law_436 (by decide) ?_
      refine n_iadd hx hb dL_law_437 ?_
      refine s_ld (i := 5 * j + 4) hx hb hX hbl hbA I.2 (by omega) hL dL_law_438 ?_
      refine lv_if_eq (tgt := 446) hx hb dL_law_439 (by decide) (fun h2 => ?_) (fun h2 => ?_)
      · refine lv_iconst (v := nI (0)) hx hb dL_law_446 (by decide) ?_
        refine W.eq (g2 := F0 m 447 ls [.int (bI (false)), .int (xs (5 * j + 3)), .int (xs (5 * j + 2)), .int (xs (5 * j + 1)), .ref (gA g 5)]) rfl ?_
        refine x_callV 5 2 (rest := []) (C := RX2) (T0 := TX2) (N := 4) E F I (m_fix l g R1 B cd T P fo O (xs (5 * j + 1)) (xs (5 * j + 2)) (xs (5 * j + 3)) false) gL_law_X2_fix rfl (by decide) rfl rfl rfl hd_X2_fix rfl rfl ⟨by decide, by decide⟩ ⟨hfc, hfs⟩ rfl hl.1 rfl (Nat.le_of_ble_eq_true rfl) dL_law_447 (fun v8 u8 H locs hp8 I => ?_)
        obtain ⟨rfl, cd1, T1, P1, rfl, hm⟩ := hp8
        refine W.eq (g2 := F0 m 450 ls []) rfl ?_
        rcases hm with ⟨hn8, hc1, hT1⟩ | ⟨hsl8, hn8, hc1, hT1⟩ | ⟨hc1, s08, a8, v8, b_s08, b_a8, b_v8, e_s08, e_a8, e_v8, hM⟩
        · exact absurd ⟨⟨s0, b_s0, e_s0⟩, ⟨a, b_a, e_a⟩⟩ hn8
        · exact absurd ⟨v, b_v, e_v⟩ hn8
        · have q_s0 : s0 = s08 := (nI_eq (by omega) (by omega)).mp (e_s0.symm.trans e_s08)
          subst q_s0
          have q_a : a = a8 := (nI_eq (by omega) (by omega)).mp (e_a.symm.trans e_a8)
          subst q_a
          have q_v : v = v8 := (nI_eq (by omega) (by omega)).mp (e_v.symm.trans e_v8)
          subst q_v
          have hAg1 : Ag R1 T1 := Ag_w hAg hU hM (fun p hp => by rw [hAg a b_a _ (wth_lt hp)]; have h9 := pt_ww (A := R a) (tw := fun _ => if false then -1 else 0) b_v hp; rw [pt_c] at h9; exact h9.symm)
          refine lv_aload_n hx hb dL_law_450 rfl (lv_at hl 3 rfl) ?_
          refine x_callVi 5 2 (rest := []) (C := RX2) (T0 := TX2) (N := 4) E F I (m_thrown l g R1 B cd1 T1 P1 fo O) gL_law_X2_thrown rfl (by decide) rfl rfl rfl hd_X2_thrown rfl rfl ⟨by decide, by decide⟩ ⟨hfc, hfs⟩ rfl hl.1 rfl (Nat.le_of_ble_eq_true rfl) dL_law_451 (fun H locs I => ?_)
          refine lv_iload hx hb dL_law_454 (lv_at hl 0 rfl) ?_
          refine lv_icmp_eq (tgt := 461) hx hb dL_law_456 (by decide) (fun h3 => ?_) (fun h3 => ?_)
          · refine lv_goto (tgt := 1278) hx hb dL_law_461 (by decide) ?_
            exact kk R1 B cd1 T1 P1 fo O H locs ls hAg1 I (lv_sub hl [1, 2, 3, 4, 5] rfl)
          · exact absurd (hc1.trans nI0e) h3
      · exact absurd h1 h2
    · have hn := hxc.resolve_right (fun q => absurd q.1 (by decide))
      have hn := hn.2
      refine W.eq (g2 := F0 m 412 ls [.int (nI (1))]) rfl ?_
      refine lv_istore (lv' := [(5, .int (nI (1))), (0, .ref (b)), (1, .ref (gA g 0)), (2, .ref (gA g 5)), (3, .ref (gA g 9)), (4, .int (nI (5 * j)))]) hx hb dL_law_412 hl (by decide) rfl (fun ls hl => ?_)
      refine lv_aload_n hx hb dL_law_414 rfl (lv_at hl 3 rfl) ?_
      refine lv_aload_n hx hb dL_law_415 rfl (lv_at hl 1 rfl) ?_
      refine lv_iload hx hb dL_law_416 (lv_at hl 5 rfl) ?_
      refine lv_iconst (v := nI (1)) hx hb dL_law_418 (by decide) ?_
      refine n_iadd hx hb dL_law_419 ?_
      refine s_ld (i := 5 * j + 1) hx hb hX hbl hbA I.2 (by omega) hL dL_law_420 ?_
      refine lv_aload_n hx hb dL_law_421 rfl (lv_at hl 1 rfl) ?_
      refine lv_iload hx hb dL_law_422 (lv_at hl 5 rfl) ?_
      refine lv_iconst (v := nI (2)) hx hb dL_law_424 (by decide) ?_
      refine n_iadd hx hb dL_law_425 ?_
      refine s_ld (i := 5 * j + 2) hx hb hX hbl hbA I.2 (by omega) hL dL_law_426 ?_
      refine lv_aload_n hx hb dL_law_427 rfl (lv_at hl 1 rfl) ?_
      refine lv_iload hx hb dL_law_428 (lv_at hl 5 rfl) ?_
      refine lv_iconst (v := nI (3)) hx hb dL_law_430 (by decide) ?_
      refine n_iadd hx hb dL_law_431 ?_
      refine s_ld (i := 5 * j + 3) hx hb hX hbl hbA I.2 (by omega) hL dL_law_432 ?_
      refine lv_aload_n hx hb dL_law_433 rfl (lv_at hl 1 rfl) ?_
      refine lv_iload hx hb dL_law_434 (lv_at hl 5 rfl) ?_
      refine lv_iconst (v := nI (4)) hx hb dL_law_436 (by decide) ?_
      refine n_iadd hx hb dL_law_437 ?_
      refine s_ld (i := 5 * j + 4) hx hb hX hbl hbA I.2 (by omega) hL dL_law_438 ?_
      refine lv_if_eq (tgt := 446) hx hb dL_law_439 (by decide) (fun h4 => ?_) (fun h4 => ?_)
      · refine lv_iconst (v := nI (0)) hx hb dL_law_446 (by decide) ?_
        refine W.eq (g2 := F0 m 447 ls [.int (bI (false)), .int (xs (5 * j + 3)), .int (xs (5 * j + 2)), .int (xs (5 * j + 1)), .ref (gA g 5)]) rfl ?_
        refine x_callV 5 2 (rest := []) (C := RX2) (T0 := TX2) (N := 4) E F I (m_fix l g R B cd T P fo O (xs (5 * j + 1)) (xs (5 * j + 2)) (xs (5 * j + 3)) false) gL_law_X2_fix rfl (by decide) rfl rfl rfl hd_X2_fix rfl rfl ⟨by decide, by decide⟩ ⟨hfc, hfs⟩ rfl hl.1 rfl (Nat.le_of_ble_eq_true rfl) dL_law_447 (fun v8 u8 H locs hp8 I => ?_)
        obtain ⟨rfl, cd1, T1, P1, rfl, hm⟩ := hp8
        refine W.eq (g2 := F0 m 450 ls []) rfl ?_
        rcases hm with ⟨hn8, hc1, hT1⟩ | ⟨hsl8, hn8, hc1, hT1⟩ | ⟨hc1, s08, a8, v8, b_s08, b_a8, b_v8, e_s08, e_a8, e_v8, hM⟩
        · refine lv_aload_n hx hb dL_law_450 rfl (lv_at hl 3 rfl) ?_
          refine x_callVi 5 2 (rest := []) (C := RX2) (T0 := TX2) (N := 4) E F I (m_thrown l g R B cd1 T1 P1 fo O) gL_law_X2_thrown rfl (by decide) rfl rfl rfl hd_X2_thrown rfl rfl ⟨by decide, by decide⟩ ⟨hfc, hfs⟩ rfl hl.1 rfl (Nat.le_of_ble_eq_true rfl) dL_law_451 (fun H locs I => ?_)
          refine lv_iload hx hb dL_law_454 (lv_at hl 0 rfl) ?_
          refine lv_icmp_eq (tgt := 461) hx hb dL_law_456 (by decide) (fun h5 => ?_) (fun h5 => ?_)
          · refine lv_goto (tgt := 1278) hx hb dL_law_461 (by decide) ?_
            exact kk R B cd1 T1 P1 fo O H locs ls (by rw [hT1]; exact hAg) I (lv_sub hl [1, 2, 3, 4, 5] rfl)
          · exact absurd (hc1.trans nI1e) h5
        · exact absurd hsl8 hn
        · exact absurd ⟨⟨s08, b_s08, e_s08⟩, ⟨a8, b_a8, e_a8⟩⟩ hn
      · exact absurd h1 h4
    · obtain ⟨-, hsl, hn⟩ := hxc.resolve_left (fun q => absurd q.1 (by decide))
      refine W.eq (g2 := F0 m 412 ls [.int (nI (2))]) rfl ?_
      refine lv_istore (lv' := [(5, .int (nI (2))), (0, .ref (b)), (1, .ref (gA g 0)), (2, .ref (gA g 5)), (3, .ref (gA g 9)), (4, .int (nI (5 * j)))]) hx hb dL_law_412 hl (by decide) rfl (fun ls hl => ?_)
      refine lv_aload_n hx hb dL_law_414 rfl (lv_at hl 3 rfl) ?_
      refine lv_aload_n hx hb dL_law_415 rfl (lv_at hl 1 rfl) ?_
      refine lv_iload hx hb dL_law_416 (lv_at hl 5 rfl) ?_
      refine lv_iconst (v := nI (1)) hx hb dL_law_418 (by decide) ?_
      refine n_iadd hx hb dL_law_419 ?_
      refine s_ld (i := 5 * j + 1) hx hb hX hbl hbA I.2 (by omega) hL dL_law_420 ?_
      refine lv_aload_n hx hb dL_law_421 rfl (lv_at hl 1 rfl) ?_
      refine lv_iload hx hb dL_law_422 (lv_at hl 5 rfl) ?_
      refine lv_iconst (v := nI (2)) hx hb dL_law_424 (by decide) ?_
      refine n_iadd hx hb dL_law_425 ?_
      refine s_ld (i := 5 * j + 2) hx hb hX hbl hbA I.2 (by omega) hL dL_law_426 ?_
      refine lv_aload_n hx hb dL_law_427 rfl (lv_at hl 1 rfl) ?_
      refine lv_iload hx hb dL_law_428 (lv_at hl 5 rfl) ?_
      refine lv_iconst (v := nI (3)) hx hb dL_law_430 (by decide) ?_
      refine n_iadd hx hb dL_law_431 ?_
      refine s_ld (i := 5 * j + 3) hx hb hX hbl hbA I.2 (by omega) hL dL_law_432 ?_
      refine lv_aload_n hx hb dL_law_433 rfl (lv_at hl 1 rfl) ?_
      refine lv_iload hx hb dL_law_434 (lv_at hl 5 rfl) ?_
      refine lv_iconst (v := nI (4)) hx hb dL_law_436 (by decide) ?_
      refine n_iadd hx hb dL_law_437 ?_
      refine s_ld (i := 5 * j + 4) hx hb hX hbl hbA I.2 (by omega) hL dL_law_438 ?_
      refine lv_if_eq (tgt := 446) hx hb dL_law_439 (by decide) (fun h6 => ?_) (fun h6 => ?_)
      · refine lv_iconst (v := nI (0)) hx hb dL_law_446 (by decide) ?_
        refine W.eq (g2 := F0 m 447 ls [.int (bI (false)), .int (xs (5 * j + 3)), .int (xs (5 * j + 2)), .int (xs (5 * j + 1)), .ref (gA g 5)]) rfl ?_
        refine x_callV 5 2 (rest := []) (C := RX2) (T0 := TX2) (N := 4) E F I (m_fix l g R B cd T P fo O (xs (5 * j + 1)) (xs (5 * j + 2)) (xs (5 * j + 3)) false) gL_law_X2_fix rfl (by decide) rfl rfl rfl hd_X2_fix rfl rfl ⟨by decide, by decide⟩ ⟨hfc, hfs⟩ rfl hl.1 rfl (Nat.le_of_ble_eq_true rfl) dL_law_447 (fun v8 u8 H locs hp8 I => ?_)
        obtain ⟨rfl, cd1, T1, P1, rfl, hm⟩ := hp8
        refine W.eq (g2 := F0 m 450 ls []) rfl ?_
        rcases hm with ⟨hn8, hc1, hT1⟩ | ⟨hsl8, hn8, hc1, hT1⟩ | ⟨hc1, s08, a8, v8, b_s08, b_a8, b_v8, e_s08, e_a8, e_v8, hM⟩
        · exact absurd hsl hn8
        · refine lv_aload_n hx hb dL_law_450 rfl (lv_at hl 3 rfl) ?_
          refine x_callVi 5 2 (rest := []) (C := RX2) (T0 := TX2) (N := 4) E F I (m_thrown l g R B cd1 T1 P1 fo O) gL_law_X2_thrown rfl (by decide) rfl rfl rfl hd_X2_thrown rfl rfl ⟨by decide, by decide⟩ ⟨hfc, hfs⟩ rfl hl.1 rfl (Nat.le_of_ble_eq_true rfl) dL_law_451 (fun H locs I => ?_)
          refine lv_iload hx hb dL_law_454 (lv_at hl 0 rfl) ?_
          refine lv_icmp_eq (tgt := 461) hx hb dL_law_456 (by decide) (fun h7 => ?_) (fun h7 => ?_)
          · refine lv_goto (tgt := 1278) hx hb dL_law_461 (by decide) ?_
            exact kk R B cd1 T1 P1 fo O H locs ls (by rw [hT1]; exact hAg) I (lv_sub hl [1, 2, 3, 4, 5] rfl)
          · exact absurd (hc1.trans nI2e) h7
        · exact absurd ⟨v8, b_v8, e_v8⟩ hn
      · exact absurd h1 h6
  · refine lv_iconst (v := nI (1)) hx hb dL_law_404 (by decide) ?_
    refine lv_goto (tgt := 409) hx hb dL_law_405 (by decide) ?_
    refine W.eq (g2 := F0 m 409 ls [.int (bI (true)), .int (xs (5 * j + 3)), .int (xs (5 * j + 2)), .int (xs (5 * j + 1)), .ref (gA g 0)]) rfl ?_
    refine l_call (rest := []) E F I (l_fix l hl0 g R B (cd, bF T, bF P, fo) O (xs (5 * j + 1)) (xs (5 * j + 2)) (xs (5 * j + 3)) true) gL_law_L_fix rfl hd_L_fix rfl rfl ⟨by decide, by decide⟩ ⟨hfc, hfs⟩ rfl hl.1 rfl (Nat.le_of_ble_eq_true rfl) dL_law_409 (fun v9 u9 H locs hp I => ?_)
    rcases hp with ⟨rfl, -, s0, a, v, b_s0, b_a, b_v, e_s0, e_a, e_v, R1, rfl, hU⟩ | ⟨rfl, hxc, rfl⟩ | ⟨rfl, hxc, rfl⟩
    · refine W.eq (g2 := F0 m 412 ls [.int (nI (0))]) rfl ?_
      refine lv_istore (lv' := [(5, .int (nI (0))), (0, .ref (b)), (1, .ref (gA g 0)), (2, .ref (gA g 5)), (3, .ref (gA g 9)), (4, .int (nI (5 * j)))]) hx hb dL_law_412 hl (by decide) rfl (fun ls hl => ?_)
      refine lv_aload_n hx hb dL_law_414 rfl (lv_at hl 3 rfl) ?_
      refine lv_aload_n hx hb dL_law_415 rfl (lv_at hl 1 rfl) ?_
      refine lv_iload hx hb dL_law_416 (lv_at hl 5 rfl) ?_
      refine lv_iconst (v := nI (1)) hx hb dL_law_418 (by decide) ?_
      refine n_iadd hx hb dL_law_419 ?_
      refine s_ld (i := 5 * j + 1) hx hb hX hbl hbA I.2 (by omega) hL dL_law_420 ?_
      refine lv_aload_n hx hb dL_law_421 rfl (lv_at hl 1 rfl) ?_
      refine lv_iload hx hb dL_law_422 (lv_at hl 5 rfl) ?_
      refine lv_iconst (v := nI (2)) hx hb dL_law_424 (by decide) ?_
      refine n_iadd hx hb dL_law_425 ?_
      refine s_ld (i := 5 * j + 2) hx hb hX hbl hbA I.2 (by omega) hL dL_law_426 ?_
      refine lv_aload_n hx hb dL_law_427 rfl (lv_at hl 1 rfl) ?_
      refine lv_iload hx hb dL_law_428 (lv_at hl 5 rfl) ?_
      refine lv_iconst (v := nI (3)) hx hb dL_law_430 (by decide) ?_
      refine n_iadd hx hb dL_law_431 ?_
      refine s_ld (i := 5 * j + 3) hx hb hX hbl hbA I.2 (by omega) hL dL_law_432 ?_
      refine lv_aload_n hx hb dL_law_433 rfl (lv_at hl 1 rfl) ?_
      refine lv_iload hx hb dL_law_434 (lv_at hl 5 rfl) ?_
      refine lv_iconst (v := nI (4)) hx hb dL_law_436 (by decide) ?_
      refine n_iadd hx hb dL_law_437 ?_
      refine s_ld (i := 5 * j + 4) hx hb hX hbl hbA I.2 (by omega) hL dL_law_438 ?_
      refine lv_if_eq (tgt := 446) hx hb dL_law_439 (by decide) (fun h8 => ?_) (fun h8 => ?_)
      · exact absurd h8 h1
      · refine lv_iconst (v := nI (1)) hx hb dL_law_442 (by decide) ?_
        refine lv_goto (tgt := 447) hx hb dL_law_443 (by decide) ?_
        refine W.eq (g2 := F0 m 447 ls [.int (bI (true)), .int (xs (5 * j + 3)), .int (xs (5 * j + 2)), .int (xs (5 * j + 1)), .ref (gA g 5)]) rfl ?_
        refine x_callV 5 2 (rest := []) (C := RX2) (T0 := TX2) (N := 4) E F I (m_fix l g R1 B cd T P fo O (xs (5 * j + 1)) (xs (5 * j + 2)) (xs (5 * j + 3)) true) gL_law_X2_fix rfl (by decide) rfl rfl rfl hd_X2_fix rfl rfl ⟨by decide, by decide⟩ ⟨hfc, hfs⟩ rfl hl.1 rfl (Nat.le_of_ble_eq_true rfl) dL_law_447 (fun v8 u8 H locs hp8 I => ?_)
        obtain ⟨rfl, cd1, T1, P1, rfl, hm⟩ := hp8
        refine W.eq (g2 := F0 m 450 ls []) rfl ?_
        rcases hm with ⟨hn8, hc1, hT1⟩ | ⟨hsl8, hn8, hc1, hT1⟩ | ⟨hc1, s08, a8, v8, b_s08, b_a8, b_v8, e_s08, e_a8, e_v8, hM⟩
        · exact absurd ⟨⟨s0, b_s0, e_s0⟩, ⟨a, b_a, e_a⟩⟩ hn8
        · exact absurd ⟨v, b_v, e_v⟩ hn8
        · have q_s0 : s0 = s08 := (nI_eq (by omega) (by omega)).mp (e_s0.symm.trans e_s08)
          subst q_s0
          have q_a : a = a8 := (nI_eq (by omega) (by omega)).mp (e_a.symm.trans e_a8)
          subst q_a
          have q_v : v = v8 := (nI_eq (by omega) (by omega)).mp (e_v.symm.trans e_v8)
          subst q_v
          have hAg1 : Ag R1 T1 := Ag_w hAg hU hM (fun p hp => by rw [hAg a b_a _ (wth_lt hp)]; have h9 := pt_ww (A := R a) (tw := fun _ => if true then -1 else 0) b_v hp; rw [pt_c] at h9; exact h9.symm)
          refine lv_aload_n hx hb dL_law_450 rfl (lv_at hl 3 rfl) ?_
          refine x_callVi 5 2 (rest := []) (C := RX2) (T0 := TX2) (N := 4) E F I (m_thrown l g R1 B cd1 T1 P1 fo O) gL_law_X2_thrown rfl (by decide) rfl rfl rfl hd_X2_thrown rfl rfl ⟨by decide, by decide⟩ ⟨hfc, hfs⟩ rfl hl.1 rfl (Nat.le_of_ble_eq_true rfl) dL_law_451 (fun H locs I => ?_)
          refine lv_iload hx hb dL_law_454 (lv_at hl 0 rfl) ?_
          refine lv_icmp_eq (tgt := 461) hx hb dL_law_456 (by decide) (fun h9 => ?_) (fun h9 => ?_)
          · refine lv_goto (tgt := 1278) hx hb dL_law_461 (by decide) ?_
            exact kk R1 B cd1 T1 P1 fo O H locs ls hAg1 I (lv_sub hl [1, 2, 3, 4, 5] rfl)
          · exact absurd (hc1.trans nI0e) h9
    · have hn := hxc.resolve_right (fun q => absurd q.1 (by decide))
      have hn := hn.2
      refine W.eq (g2 := F0 m 412 ls [.int (nI (1))]) rfl ?_
      refine lv_istore (lv' := [(5, .int (nI (1))), (0, .ref (b)), (1, .ref (gA g 0)), (2, .ref (gA g 5)), (3, .ref (gA g 9)), (4, .int (nI (5 * j)))]) hx hb dL_law_412 hl (by decide) rfl (fun ls hl => ?_)
      refine lv_aload_n hx hb dL_law_414 rfl (lv_at hl 3 rfl) ?_
      refine lv_aload_n hx hb dL_law_415 rfl (lv_at hl 1 rfl) ?_
      refine lv_iload hx hb dL_law_416 (lv_at hl 5 rfl) ?_
      refine lv_iconst (v := nI (1)) hx hb dL_law_418 (by decide) ?_
      refine n_iadd hx hb dL_law_419 ?_
      refine s_ld (i := 5 * j + 1) hx hb hX hbl hbA I.2 (by omega) hL dL_law_420 ?_
      refine lv_aload_n hx hb dL_law_421 rfl (lv_at hl 1 rfl) ?_
      refine lv_iload hx hb dL_law_422 (lv_at hl 5 rfl) ?_
      refine lv_iconst (v := nI (2)) hx hb dL_law_424 (by decide) ?_
      refine n_iadd hx hb dL_law_425 ?_
      refine s_ld (i := 5 * j + 2) hx hb hX hbl hbA I.2 (by omega) hL dL_law_426 ?_
      refine lv_aload_n hx hb dL_law_427 rfl (lv_at hl 1 rfl) ?_
      refine lv_iload hx hb dL_law_428 (lv_at hl 5 rfl) ?_
      refine lv_iconst (v := nI (3)) hx hb dL_law_430 (by decide) ?_
      refine n_iadd hx hb dL_law_431 ?_
      refine s_ld (i := 5 * j + 3) hx hb hX hbl hbA I.2 (by omega) hL dL_law_432 ?_
      refine lv_aload_n hx hb dL_law_433 rfl (lv_at hl 1 rfl) ?_
      refine lv_iload hx hb dL_law_434 (lv_at hl 5 rfl) ?_
      refine lv_iconst (v := nI (4)) hx hb dL_law_436 (by decide) ?_
      refine n_iadd hx hb dL_law_437 ?_
      refine s_ld (i := 5 * j + 4) hx hb hX hbl hbA I.2 (by omega) hL dL_law_438 ?_
      refine lv_if_eq (tgt := 446) hx hb dL_law_439 (by decide) (fun h10 => ?_) (fun h10 => ?_)
      · exact absurd h10 h1
      · refine lv_iconst (v := nI (1)) hx hb dL_law_442 (by decide) ?_
        refine lv_goto (tgt := 447) hx hb dL_law_443 (by decide) ?_
        refine W.eq (g2 := F0 m 447 ls [.int (bI (true)), .int (xs (5 * j + 3)), .int (xs (5 * j + 2)), .int (xs (5 * j + 1)), .ref (gA g 5)]) rfl ?_
        refine x_callV 5 2 (rest := []) (C := RX2) (T0 := TX2) (N := 4) E F I (m_fix l g R B cd T P fo O (xs (5 * j + 1)) (xs (5 * j + 2)) (xs (5 * j + 3)) true) gL_law_X2_fix rfl (by decide) rfl rfl rfl hd_X2_fix rfl rfl ⟨by decide, by decide⟩ ⟨hfc, hfs⟩ rfl hl.1 rfl (Nat.le_of_ble_eq_true rfl) dL_law_447 (fun v8 u8 H locs hp8 I => ?_)
        obtain ⟨rfl, cd1, T1, P1, rfl, hm⟩ := hp8
        refine W.eq (g2 := F0 m 450 ls []) rfl ?_
        rcases hm with ⟨hn8, hc1, hT1⟩ | ⟨hsl8, hn8, hc1, hT1⟩ | ⟨hc1, s08, a8, v8, b_s08, b_a8, b_v8, e_s08, e_a8, e_v8, hM⟩
        · refine lv_aload_n hx hb dL_law_450 rfl (lv_at hl 3 rfl) ?_
          refine x_callVi 5 2 (rest := []) (C := RX2) (T0 := TX2) (N := 4) E F I (m_thrown l g R B cd1 T1 P1 fo O) gL_law_X2_thrown rfl (by decide) rfl rfl rfl hd_X2_thrown rfl rfl ⟨by decide, by decide⟩ ⟨hfc, hfs⟩ rfl hl.1 rfl (Nat.le_of_ble_eq_true rfl) dL_law_451 (fun H locs I => ?_)
          refine lv_iload hx hb dL_law_454 (lv_at hl 0 rfl) ?_
          refine lv_icmp_eq (tgt := 461) hx hb dL_law_456 (by decide) (fun h11 => ?_) (fun h11 => ?_)
          · refine lv_goto (tgt := 1278) hx hb dL_law_461 (by decide) ?_
            exact kk R B cd1 T1 P1 fo O H locs ls (by rw [hT1]; exact hAg) I (lv_sub hl [1, 2, 3, 4, 5] rfl)
          · exact absurd (hc1.trans nI1e) h11
        · exact absurd hsl8 hn
        · exact absurd ⟨⟨s08, b_s08, e_s08⟩, ⟨a8, b_a8, e_a8⟩⟩ hn
    · obtain ⟨-, hsl, hn⟩ := hxc.resolve_left (fun q => absurd q.1 (by decide))
      refine W.eq (g2 := F0 m 412 ls [.int (nI (2))]) rfl ?_
      refine lv_istore (lv' := [(5, .int (nI (2))), (0, .ref (b)), (1, .ref (gA g 0)), (2, .ref (gA g 5)), (3, .ref (gA g 9)), (4, .int (nI (5 * j)))]) hx hb dL_law_412 hl (by decide) rfl (fun ls hl => ?_)
      refine lv_aload_n hx hb dL_law_414 rfl (lv_at hl 3 rfl) ?_
      refine lv_aload_n hx hb dL_law_415 rfl (lv_at hl 1 rfl) ?_
      refine lv_iload hx hb dL_law_416 (lv_at hl 5 rfl) ?_
      refine lv_iconst (v := nI (1)) hx hb dL_law_418 (by decide) ?_
      refine n_iadd hx hb dL_law_419 ?_
      refine s_ld (i := 5 * j + 1) hx hb hX hbl hbA I.2 (by omega) hL dL_law_420 ?_
      refine lv_aload_n hx hb dL_law_421 rfl (lv_at hl 1 rfl) ?_
      refine lv_iload hx hb dL_law_422 (lv_at hl 5 rfl) ?_
      refine lv_iconst (v := nI (2)) hx hb dL_law_424 (by decide) ?_
      refine n_iadd hx hb dL_law_425 ?_
      refine s_ld (i := 5 * j + 2) hx hb hX hbl hbA I.2 (by omega) hL dL_law_426 ?_
      refine lv_aload_n hx hb dL_law_427 rfl (lv_at hl 1 rfl) ?_
      refine lv_iload hx hb dL_law_428 (lv_at hl 5 rfl) ?_
      refine lv_iconst (v := nI (3)) hx hb dL_law_430 (by decide) ?_
      refine n_iadd hx hb dL_law_431 ?_
      refine s_ld (i := 5 * j + 3) hx hb hX hbl hbA I.2 (by omega) hL dL_law_432 ?_
      refine lv_aload_n hx hb dL_law_433 rfl (lv_at hl 1 rfl) ?_
      refine lv_iload hx hb dL_law_434 (lv_at hl 5 rfl) ?_
      refine lv_iconst (v := nI (4)) hx hb dL_law_436 (by decide) ?_
      refine n_iadd hx hb dL_law_437 ?_
      refine s_ld (i := 5 * j + 4) hx hb hX hbl hbA I.2 (by omega) hL dL_law_438 ?_
      refine lv_if_eq (tgt := 446) hx hb dL_law_439 (by decide) (fun h12 => ?_) (fun h12 => ?_)
      · exact absurd h12 h1
      · refine lv_iconst (v := nI (1)) hx hb dL_law_442 (by decide) ?_
        refine lv_goto (tgt := 447) hx hb dL_law_443 (by decide) ?_
        refine W.eq (g2 := F0 m 447 ls [.int (bI (true)), .int (xs (5 * j + 3)), .int (xs (5 * j + 2)), .int (xs (5 * j + 1)), .ref (gA g 5)]) rfl ?_
        refine x_callV 5 2 (rest := []) (C := RX2) (T0 := TX2) (N := 4) E F I (m_fix l g R B cd T P fo O (xs (5 * j + 1)) (xs (5 * j + 2)) (xs (5 * j + 3)) true) gL_law_X2_fix rfl (by decide) rfl rfl rfl hd_X2_fix rfl rfl ⟨by decide, by decide⟩ ⟨hfc, hfs⟩ rfl hl.1 rfl (Nat.le_of_ble_eq_true rfl) dL_law_447 (fun v8 u8 H locs hp8 I => ?_)
        obtain ⟨rfl, cd1, T1, P1, rfl, hm⟩ := hp8
        refine W.eq (g2 := F0 m 450 ls []) rfl ?_
        rcases hm with ⟨hn8, hc1, hT1⟩ | ⟨hsl8, hn8, hc1, hT1⟩ | ⟨hc1, s08, a8, v8, b_s08, b_a8, b_v8, e_s08, e_a8, e_v8, hM⟩
        · exact absurd hsl hn8
        · refine lv_aload_n hx hb dL_law_450 rfl (lv_at hl 3 rfl) ?_
          refine x_callVi 5 2 (rest := []) (C := RX2) (T0 := TX2) (N := 4) E F I (m_thrown l g R B cd1 T1 P1 fo O) gL_law_X2_thrown rfl (by decide) rfl rfl rfl hd_X2_thrown rfl rfl ⟨by decide, by decide⟩ ⟨hfc, hfs⟩ rfl hl.1 rfl (Nat.le_of_ble_eq_true rfl) dL_law_451 (fun H locs I => ?_)
          refine lv_iload hx hb dL_law_454 (lv_at hl 0 rfl) ?_
          refine lv_icmp_eq (tgt := 461) hx hb dL_law_456 (by decide) (fun h13 => ?_) (fun h13 => ?_)
          · refine lv_goto (tgt := 1278) hx hb dL_law_461 (by decide) ?_
            exact kk R B cd1 T1 P1 fo O H locs ls (by rw [hT1]; exact hAg) I (lv_sub hl [1, 2, 3, 4, 5] rfl)
          · exact absurd (hc1.trans nI2e) h13
        · exact absurd ⟨v8, b_v8, e_v8⟩ hn
set_option maxHeartbeats 4000000 in
set_option maxRecDepth 100000 in
theorem lc_some {p : Program} {l : Launch} {e : Env} {s : State} {m : MethodId} {below : List Frame} {meth : Method} {c : Code} {H : Heap} {locs : List Loc} {Q : State → Prop} {ls : Array Slot} {g : Geo} {b L : Nat} {xs : Nat → Int32} {j : Nat} {R : Nat → Nat → Int64} {B : Rul} {cd : Int32} {T P : Nat → Bool} {fo : Nat → Int32} {O : Nat → Int64} (hl0 : l.stackTraces = false) (E : CallFix p m c cL_law 7 s #[Value.ref b] wsL_law RL) (F : Fx g s) (hX : va_X b L xs s s.heap) (hbl : b < s.heap.size) (hbA : ¬ gW g b) (hL : L ≤ 2560) (hjl : 5 * j + 5 ≤ L) (hfc : 62 + 5 * j + 5 ≤ room_1.cells) (hfs : 83840 + 30 * j + 30 ≤ room_1.slots) (hAg : Ag R T) (I : Iv g (R, B, (cd, bF T, bF P, fo), O) s H locs) (hl : lv_has ls 7 [(0, .ref (b)), (1, .ref (gA g 0)), (2, .ref (gA g 5)), (3, .ref (gA g 9)), (4, .int (nI (5 * j)))])
    (kk : ∀ (R : Nat → Nat → Int64) (B : Rul) (cd : Int32) (T P : Nat → Bool) (fo : Nat → Int32) (O : Nat → Int64) (H : Heap) (locs : List Loc) (ls : Array Slot), Ag R T → Iv g (R, B, (cd, bF T, bF P, fo), O) s H locs → lv_has ls 7 [(0, .ref (b)), (1, .ref (gA g 0)), (2, .ref (gA g 5)), (3, .ref (gA g 9)), (4, .int (nI (5 * j)))] → W p l e room_1 s m #[Value.ref b] below meth c H locs (62 + 5 * j + 5) (83840 + 30 * j + 30) Q (F0 m 1278 ls [])) : W p l e room_1 s m #[Value.ref b] below meth c H locs (62 + 5 * j) (83840 + 30 * j) Q (F0 m 464 ls []) := by
  have hx := E.1
  have hb := E.2.1
  refine lv_aload_n hx hb dL_law_464 rfl (lv_at hl 1 rfl) ?_
  refine lv_aload_n hx hb dL_law_465 rfl (lv_at hl 0 rfl) ?_
  refine lv_iload hx hb dL_law_466 (lv_at hl 4 rfl) ?_
  refine lv_iconst (v := nI (1)) hx hb dL_law_468 (by decide) ?_
  refine n_iadd hx hb dL_law_469 ?_
  refine s_ld (i := 5 * j + 1) hx hb hX hbl hbA I.2 (by omega) hL dL_law_470 ?_
  refine lv_aload_n hx hb dL_law_471 rfl (lv_at hl 0 rfl) ?_
  refine lv_iload hx hb dL_law_472 (lv_at hl 4 rfl) ?_
  refine lv_iconst (v := nI (2)) hx hb dL_law_474 (by decide) ?_
  refine n_iadd hx hb dL_law_475 ?_
  refine s_ld (i := 5 * j + 2) hx hb hX hbl hbA I.2 (by omega) hL dL_law_476 ?_
  refine lv_aload_n hx hb dL_law_477 rfl (lv_at hl 0 rfl) ?_
  refine lv_iload hx hb dL_law_478 (lv_at hl 4 rfl) ?_
  refine lv_iconst (v := nI (3)) hx hb dL_law_480 (by decide) ?_
  refine n_iadd hx hb dL_law_481 ?_
  refine s_ld (i := 5 * j + 3) hx hb hX hbl hbA I.2 (by omega) hL dL_law_482 ?_
  refine lv_aload_n hx hb dL_law_483 rfl (lv_at hl 0 rfl) ?_
  refine lv_iload hx hb dL_law_484 (lv_at hl 4 rfl) ?_
  refine lv_iconst (v := nI (4)) hx hb dL_law_486 (by decide) ?_
  refine n_iadd hx hb dL_law_487 ?_
  refine s_ld (i := 5 * j + 4) hx hb hX hbl hbA I.2 (by omega) hL dL_law_488 ?_
  refine lv_if_eq (tgt := 496) hx hb dL_law_489 (by decide) (fun h1 => ?_) (fun h1 => ?_)
  · refine lv_iconst (v := nI (0)) hx hb dL_law_496 (by decide) ?_
    refine W.eq (g2 := F0 m 497 ls [.int (bI (false)), .int (xs (5 * j + 3)), .int (xs (5 * j + 2)), .int (xs (5 * j + 1)), .ref (gA g 0)]) rfl ?_
    refine l_call (rest := []) E F I (l_some l hl0 g R B (cd, bF T, bF P, fo) O (xs (5 * j + 1)) (xs (5 * j + 2)) (xs (5 * j + 3)) false) gL_law_L_some rfl hd_L_some rfl rfl ⟨by decide, by decide⟩ ⟨hfc, hfs⟩ rfl hl.1 rfl (Nat.le_of_ble_eq_true rfl) dL_law_497 (fun v9 u9 H locs hp I => ?_)
    rcases hp with ⟨rfl, -, s0, a, h, b_s0, b_a, b_h, e_s0, e_a, e_h, R1, rfl, hU⟩ | ⟨rfl, hxc, rfl⟩ | ⟨rfl, hxc, rfl⟩
    · refine W.eq (g2 := F0 m 500 ls [.int (nI (0))]) rfl ?_
      refine lv_istore (lv' := [(5, .int (nI (0))), (0, .ref (b)), (1, .ref (gA g 0)), (2, .ref (gA g 5)), (3, .ref (gA g 9)), (4, .int (nI (5 * j)))]) hx hb dL_law_500 hl (by decide) rfl (fun ls hl => ?_)
      refine lv_aload_n hx hb dL_law_502 rfl (lv_at hl 3 rfl) ?_
      refine lv_aload_n hx hb dL_law_503 rfl (lv_at hl 1 rfl) ?_
      refine lv_iload hx hb dL_law_504 (lv_at hl 5 rfl) ?_
      refine lv_iconst (v := nI (1)) hx hb dL_law_506 (by decide) ?_
      refine n_iadd hx hb dL_law_507 ?_
      refine s_ld (i := 5 * j + 1) hx hb hX hbl hbA I.2 (by omega) hL dL_law_508 ?_
      refine lv_aload_n hx hb dL_law_509 rfl (lv_at hl 1 rfl) ?_
      refine lv_iload hx hb dL_law_510 (lv_at hl 5 rfl) ?_
      refine lv_iconst (v := nI (2)) hx hb dL_law_512 (by decide) ?_
      refine n_iadd hx hb dL_law_513 ?_
      refine s_ld (i := 5 * j + 2) hx hb hX hbl hbA I.2 (by omega) hL dL_law_514 ?_
      refine lv_aload_n hx hb dL_law_515 rfl (lv_at hl 1 rfl) ?_
      refine lv_iload hx hb dL_law_516 (lv_at hl 5 rfl) ?_
      refine lv_iconst (v := nI (3)) hx hb dL_law_518 (by decide) ?_
      refine n_iadd hx hb dL_law_519 ?_
      refine s_ld (i := 5 * j + 3) hx hb hX hbl hbA I.2 (by omega) hL dL_law_520 ?_
      refine lv_aload_n hx hb dL_law_521 rfl (lv_at hl 1 rfl) ?_
      refine lv_iload hx hb dL_law_522 (lv_at hl 5 rfl) ?_
      refine lv_iconst (v := nI (4)) hx hb dL_law_524 (by decide) ?_
      refine n_iadd hx hb dL_law_525 ?_
      refine s_ld (i := 5 * j + 4) hx hb hX hbl hbA I.2 (by omega) hL dL_law_526 ?_
      refine lv_if_eq (tgt := 534) hx hb dL_law_527 (by decide) (fun h2 => ?_) (fun h2 => ?_)
      · refine lv_iconst (v := nI (0)) hx hb dL_law_534 (by decide) ?_
        refine W.eq (g2 := F0 m 535 ls [.int (bI (false)), .int (xs (5 * j + 3)), .int (xs (5 * j + 2)), .int (xs (5 * j + 1)), .ref (gA g 5)]) rfl ?_
        refine x_callV 5 2 (rest := []) (C := RX2) (T0 := TX2) (N := 4) E F I (m_some l g R1 B cd T P fo O (xs (5 * j + 1)) (xs (5 * j + 2)) (xs (5 * j + 3)) false) gL_law_X2_some rfl (by decide) rfl rfl rfl hd_X2_some rfl rfl ⟨by decide, by decide⟩ ⟨hfc, hfs⟩ rfl hl.1 rfl (Nat.le_of_ble_eq_true rfl) dL_law_535 (fun v8 u8 H locs hp8 I => ?_)
        obtain ⟨rfl, cd1, T1, P1, rfl, hm⟩ := hp8
        refine W.eq (g2 := F0 m 538 ls []) rfl ?_
        rcases hm with ⟨hn8, hc1, hT1⟩ | ⟨hsl8, hn8, hc1, hT1⟩ | ⟨hc1, s08, a8, h8, b_s08, b_a8, b_h8, e_s08, e_a8, e_h8, hM⟩
        · exact absurd ⟨⟨s0, b_s0, e_s0⟩, ⟨a, b_a, e_a⟩⟩ hn8
        · exact absurd ⟨h, b_h, e_h⟩ hn8
        · have q_s0 : s0 = s08 := (nI_eq (by omega) (by omega)).mp (e_s0.symm.trans e_s08)
          subst q_s0
          have q_a : a = a8 := (nI_eq (by omega) (by omega)).mp (e_a.symm.trans e_a8)
          subst q_a
          have q_h : h = h8 := (nI_eq (by omega) (by omega)).mp (e_h.symm.trans e_h8)
          subst q_h
          have hAg1 : Ag R1 T1 := Ag_w hAg hU hM (fun p hp => op_some (hAg a b_a) b_h hp)
          refine lv_aload_n hx hb dL_law_538 rfl (lv_at hl 3 rfl) ?_
          refine x_callVi 5 2 (rest := []) (C := RX2) (T0 := TX2) (N := 4) E F I (m_thrown l g R1 B cd1 T1 P1 fo O) gL_law_X2_thrown rfl (by decide) rfl rfl rfl hd_X2_thrown rfl rfl ⟨by decide, by decide⟩ ⟨hfc, hfs⟩ rfl hl.1 rfl (Nat.le_of_ble_eq_true rfl) dL_law_539 (fun H locs I => ?_)
          refine lv_iload hx hb dL_law_542 (lv_at hl 0 rfl) ?_
          refine lv_icmp_eq (tgt := 549) hx hb dL_law_544 (by decide) (fun h3 => ?_) (fun h3 => ?_)
          · refine lv_goto (tgt := 1278) hx hb dL_law_549 (by decide) ?_
            exact kk R1 B cd1 T1 P1 fo O H locs ls hAg1 I (lv_sub hl [1, 2, 3, 4, 5] rfl)
          · exact absurd (hc1.trans nI0e) h3
      · exact absurd h1 h2
    · have hn := hxc.resolve_right (fun q => absurd q.1 (by decide))
      have hn := hn.2
      refine W.eq (g2 := F0 m 500 ls [.int (nI (1))]) rfl ?_
      refine lv_istore (lv' := [(5, .int (nI (1))), (0, .ref (b)), (1, .ref (gA g 0)), (2, .ref (gA g 5)), (3, .ref (gA g 9)), (4, .int (nI (5 * j)))]) hx hb dL_law_500 hl (by decide) rfl (fun ls hl => ?_)
      refine lv_aload_n hx hb dL_law_502 rfl (lv_at hl 3 rfl) ?_
      refine lv_aload_n hx hb dL_law_503 rfl (lv_at hl 1 rfl) ?_
      refine lv_iload hx hb dL_law_504 (lv_at hl 5 rfl) ?_
      refine lv_iconst (v := nI (1)) hx hb dL_law_506 (by decide) ?_
      refine n_iadd hx hb dL_law_507 ?_
      refine s_ld (i := 5 * j + 1) hx hb hX hbl hbA I.2 (by omega) hL dL_law_508 ?_
      refine lv_aload_n hx hb dL_law_509 rfl (lv_at hl 1 rfl) ?_
      refine lv_iload hx hb dL_law_510 (lv_at hl 5 rfl) ?_
      refine lv_iconst (v := nI (2)) hx hb dL_law_512 (by decide) ?_
      refine n_iadd hx hb dL_law_513 ?_
      refine s_ld (i := 5 * j + 2) hx hb hX hbl hbA I.2 (by omega) hL dL_law_514 ?_
      refine lv_aload_n hx hb dL_law_515 rfl (lv_at hl 1 rfl) ?_
      refine lv_iload hx hb dL_law_516 (lv_at hl 5 rfl) ?_
      refine lv_iconst (v := nI (3)) hx hb dL_law_518 (by decide) ?_
      refine n_iadd hx hb dL_law_519 ?_
      refine s_ld (i := 5 * j + 3) hx hb hX hbl hbA I.2 (by omega) hL dL_law_520 ?_
      refine lv_aload_n hx hb dL_law_521 rfl (lv_at hl 1 rfl) ?_
      refine lv_iload hx hb dL_law_522 (lv_at hl 5 rfl) ?_
      refine lv_iconst (v := nI (4)) hx hb dL_law_524 (by decide) ?_
      refine n_iadd hx hb dL_law_525 ?_
      refine s_ld (i := 5 * j + 4) hx hb hX hbl hbA I.2 (by omega) hL dL_law_526 ?_
      refine lv_if_eq (tgt := 534) hx hb dL_law_527 (by decide) (fun h4 => ?_) (fun h4 => ?_)
      · refine lv_iconst (v := nI (0)) hx hb dL_law_534 (by decide) ?_
        refine W.eq (g2 := F0 m 535 ls [.int (bI (false)), .int (xs (5 * j + 3)), .int (xs (5 * j + 2)), .int (xs (5 * j + 1)), .ref (gA g 5)]) rfl ?_
        refine x_callV 5 2 (rest := []) (C := RX2) (T0 := TX2) (N := 4) E F I (m_some l g R B cd T P fo O (xs (5 * j + 1)) (xs (5 * j + 2)) (xs (5 * j + 3)) false) gL_law_X2_some rfl (by decide) rfl rfl rfl hd_X2_some rfl rfl ⟨by decide, by decide⟩ ⟨hfc, hfs⟩ rfl hl.1 rfl (Nat.le_of_ble_eq_true rfl) dL_law_535 (fun v8 u8 H locs hp8 I => ?_)
        obtain ⟨rfl, cd1, T1, P1, rfl, hm⟩ := hp8
        refine W.eq (g2 := F0 m 538 ls []) rfl ?_
        rcases hm with ⟨hn8, hc1, hT1⟩ | ⟨hsl8, hn8, hc1, hT1⟩ | ⟨hc1, s08, a8, h8, b_s08, b_a8, b_h8, e_s08, e_a8, e_h8, hM⟩
        · refine lv_aload_n hx hb dL_law_538 rfl (lv_at hl 3 rfl) ?_
          refine x_callVi 5 2 (rest := []) (C := RX2) (T0 := TX2) (N := 4) E F I (m_thrown l g R B cd1 T1 P1 fo O) gL_law_X2_thrown rfl (by decide) rfl rfl rfl hd_X2_thrown rfl rfl ⟨by decide, by decide⟩ ⟨hfc, hfs⟩ rfl hl.1 rfl (Nat.le_of_ble_eq_true rfl) dL_law_539 (fun H locs I => ?_)
          refine lv_iload hx hb dL_law_542 (lv_at hl 0 rfl) ?_
          refine lv_icmp_eq (tgt := 549) hx hb dL_law_544 (by decide) (fun h5 => ?_) (fun h5 => ?_)
          · refine lv_goto (tgt := 1278) hx hb dL_law_549 (by decide) ?_
            exact kk R B cd1 T1 P1 fo O H locs ls (by rw [hT1]; exact hAg) I (lv_sub hl [1, 2, 3, 4, 5] rfl)
          · exact absurd (hc1.trans nI1e) h5
        · exact absurd hsl8 hn
        · exact absurd ⟨⟨s08, b_s08, e_s08⟩, ⟨a8, b_a8, e_a8⟩⟩ hn
      · exact absurd h1 h4
    · obtain ⟨-, hsl, hn⟩ := hxc.resolve_left (fun q => absurd q.1 (by decide))
      refine W.eq (g2 := F0 m 500 ls [.int (nI (2))]) rfl ?_
      refine lv_istore (lv' := [(5, .int (nI (2))), (0, .ref (b)), (1, .ref (gA g 0)), (2, .ref (gA g 5)), (3, .ref (gA g 9)), (4, .int (nI (5 * j)))]) hx hb dL_law_500 hl (by decide) rfl (fun ls hl => ?_)
      refine lv_aload_n hx hb dL_law_502 rfl (lv_at hl 3 rfl) ?_
      refine lv_aload_n hx hb dL_law_503 rfl (lv_at hl 1 rfl) ?_
      refine lv_iload hx hb dL_law_504 (lv_at hl 5 rfl) ?_
      refine lv_iconst (v := nI (1)) hx hb dL_law_506 (by decide) ?_
      refine n_iadd hx hb dL_law_507 ?_
      refine s_ld (i := 5 * j + 1) hx hb hX hbl hbA I.2 (by omega) hL dL_law_508 ?_
      refine lv_aload_n hx hb dL_law_509 rfl (lv_at hl 1 rfl) ?_
      refine lv_iload hx hb dL_law_510 (lv_at hl 5 rfl) ?_
      refine lv_iconst (v := nI (2)) hx hb dL_law_512 (by decide) ?_
      refine n_iadd hx hb dL_law_513 ?_
      refine s_ld (i := 5 * j + 2) hx hb hX hbl hbA I.2 (by omega) hL dL_law_514 ?_
      refine lv_aload_n hx hb dL_law_515 rfl (lv_at hl 1 rfl) ?_
      refine lv_iload hx hb dL_law_516 (lv_at hl 5 rfl) ?_
      refine lv_iconst (v := nI (3)) hx hb dL_law_518 (by decide) ?_
      refine n_iadd hx hb dL_law_519 ?_
      refine s_ld (i := 5 * j + 3) hx hb hX hbl hbA I.2 (by omega) hL dL_law_520 ?_
      refine lv_aload_n hx hb dL_law_521 rfl (lv_at hl 1 rfl) ?_
      refine lv_iload hx hb dL_law_522 (lv_at hl 5 rfl) ?_
      refine lv_iconst (v := nI (4)) hx hb dL_law_524 (by decide) ?_
      refine n_iadd hx hb dL_law_525 ?_
      refine s_ld (i := 5 * j + 4) hx hb hX hbl hbA I.2 (by omega) hL dL_law_526 ?_
      refine lv_if_eq (tgt := 534) hx hb dL_law_527 (by decide) (fun h6 => ?_) (fun h6 => ?_)
      · refine lv_iconst (v := nI (0)) hx hb dL_law_534 (by decide) ?_
        refine W.eq (g2 := F0 m 535 ls [.int (bI (false)), .int (xs (5 * j + 3)), .int (xs (5 * j + 2)), .int (xs (5 * j + 1)), .ref (gA g 5)]) rfl ?_
        refine x_callV 5 2 (rest := []) (C := RX2) (T0 := TX2) (N := 4) E F I (m_some l g R B cd T P fo O (xs (5 * j + 1)) (xs (5 * j + 2)) (xs (5 * j + 3)) false) gL_law_X2_some rfl (by decide) rfl rfl rfl hd_X2_some rfl rfl ⟨by decide, by decide⟩ ⟨hfc, hfs⟩ rfl hl.1 rfl (Nat.le_of_ble_eq_true rfl) dL_law_535 (fun v8 u8 H locs hp8 I => ?_)
        obtain ⟨rfl, cd1, T1, P1, rfl, hm⟩ := hp8
        refine W.eq (g2 := F0 m 538 ls []) rfl ?_
        rcases hm with ⟨hn8, hc1, hT1⟩ | ⟨hsl8, hn8, hc1, hT1⟩ | ⟨hc1, s08, a8, h8, b_s08, b_a8, b_h8, e_s08, e_a8, e_h8, hM⟩
        · exact absurd hsl hn8
        · refine lv_aload_n hx hb dL_law_538 rfl (lv_at hl 3 rfl) ?_
          refine x_callVi 5 2 (rest := []) (C := RX2) (T0 := TX2) (N := 4) E F I (m_thrown l g R B cd1 T1 P1 fo O) gL_law_X2_thrown rfl (by decide) rfl rfl rfl hd_X2_thrown rfl rfl ⟨by decide, by decide⟩ ⟨hfc, hfs⟩ rfl hl.1 rfl (Nat.le_of_ble_eq_true rfl) dL_law_539 (fun H locs I => ?_)
          refine lv_iload hx hb dL_law_542 (lv_at hl 0 rfl) ?_
          refine lv_icmp_eq (tgt := 549) hx hb dL_law_544 (by decide) (fun h7 => ?_) (fun h7 => ?_)
          · refine lv_goto (tgt := 1278) hx hb dL_law_549 (by decide) ?_
            exact kk R B cd1 T1 P1 fo O H locs ls (by rw [hT1]; exact hAg) I (lv_sub hl [1, 2, 3, 4, 5] rfl)
          · exact absurd (hc1.trans nI2e) h7
        · exact absurd ⟨h8, b_h8, e_h8⟩ hn
      · exact absurd h1 h6
  · refine lv_iconst (v := nI (1)) hx hb dL_law_492 (by decide) ?_
    refine lv_goto (tgt := 497) hx hb dL_law_493 (by decide) ?_
    refine W.eq (g2 := F0 m 497 ls [.int (bI (true)), .int (xs (5 * j + 3)), .int (xs (5 * j + 2)), .int (xs (5 * j + 1)), .ref (gA g 0)]) rfl ?_
    refine l_call (rest := []) E F I (l_some l hl0 g R B (cd, bF T, bF P, fo) O (xs (5 * j + 1)) (xs (5 * j + 2)) (xs (5 * j + 3)) true) gL_law_L_some rfl hd_L_some rfl rfl ⟨by decide, by decide⟩ ⟨hfc, hfs⟩ rfl hl.1 rfl (Nat.le_of_ble_eq_true rfl) dL_law_497 (fun v9 u9 H locs hp I => ?_)
    rcases hp with ⟨rfl, -, s0, a, h, b_s0, b_a, b_h, e_s0, e_a, e_h, R1, rfl, hU⟩ | ⟨rfl, hxc, rfl⟩ | ⟨rfl, hxc, rfl⟩
    · refine W.eq (g2 := F0 m 500 ls [.int (nI (0))]) rfl ?_
      refine lv_istore (lv' := [(5, .int (nI (0))), (0, .ref (b)), (1, .ref (gA g 0)), (2, .ref (gA g 5)), (3, .ref (gA g 9)), (4, .int (nI (5 * j)))]) hx hb dL_law_500 hl (by decide) rfl (fun ls hl => ?_)
      refine lv_aload_n hx hb dL_law_502 rfl (lv_at hl 3 rfl) ?_
      refine lv_aload_n hx hb dL_law_503 rfl (lv_at hl 1 rfl) ?_
      refine lv_iload hx hb dL_law_504 (lv_at hl 5 rfl) ?_
      refine lv_iconst (v := nI (1)) hx hb dL_law_506 (by decide) ?_
      refine n_iadd hx hb dL_law_507 ?_
      refine s_ld (i := 5 * j + 1) hx hb hX hbl hbA I.2 (by omega) hL dL_law_508 ?_
      refine lv_aload_n hx hb dL_law_509 rfl (lv_at hl 1 rfl) ?_
      refine lv_iload hx hb dL_law_510 (lv_at hl 5 rfl) ?_
      refine lv_iconst (v := nI (2)) hx hb dL_law_512 (by decide) ?_
      refine n_iadd hx hb dL_law_513 ?_
      refine s_ld (i := 5 * j + 2) hx hb hX hbl hbA I.2 (by omega) hL dL_law_514 ?_
      refine lv_aload_n hx hb dL_law_515 rfl (lv_at hl 1 rfl) ?_
      refine lv_iload hx hb dL_law_516 (lv_at hl 5 rfl) ?_
      refine lv_iconst (v := nI (3)) hx hb dL_law_518 (by decide) ?_
      refine n_iadd hx hb dL_law_519 ?_
      refine s_ld (i := 5 * j + 3) hx hb hX hbl hbA I.2 (by omega) hL dL_law_520 ?_
      refine lv_aload_n hx hb dL_law_521 rfl (lv_at hl 1 rfl) ?_
      refine lv_iload hx hb dL_law_522 (lv_at hl 5 rfl) ?_
      refine lv_iconst (v := nI (4)) hx hb dL_law_524 (by decide) ?_
      refine n_iadd hx hb dL_law_525 ?_
      refine s_ld (i := 5 * j + 4) hx hb hX hbl hbA I.2 (by omega) hL dL_law_526 ?_
      refine lv_if_eq (tgt := 534) hx hb dL_law_527 (by decide) (fun h8 => ?_) (fun h8 => ?_)
      · exact absurd h8 h1
      · refine lv_iconst (v := nI (1)) hx hb dL_law_530 (by decide) ?_
        refine lv_goto (tgt := 535) hx hb dL_law_531 (by decide) ?_
        refine W.eq (g2 := F0 m 535 ls [.int (bI (true)), .int (xs (5 * j + 3)), .int (xs (5 * j + 2)), .int (xs (5 * j + 1)), .ref (gA g 5)]) rfl ?_
        refine x_callV 5 2 (rest := []) (C := RX2) (T0 := TX2) (N := 4) E F I (m_some l g R1 B cd T P fo O (xs (5 * j + 1)) (xs (5 * j + 2)) (xs (5 * j + 3)) true) gL_law_X2_some rfl (by decide) rfl rfl rfl hd_X2_some rfl rfl ⟨by decide, by decide⟩ ⟨hfc, hfs⟩ rfl hl.1 rfl (Nat.le_of_ble_eq_true rfl) dL_law_535 (fun v8 u8 H locs hp8 I => ?_)
        obtain ⟨rfl, cd1, T1, P1, rfl, hm⟩ := hp8
        refine W.eq (g2 := F0 m 538 ls []) rfl ?_
        rcases hm with ⟨hn8, hc1, hT1⟩ | ⟨hsl8, hn8, hc1, hT1⟩ | ⟨hc1, s08, a8, h8, b_s08, b_a8, b_h8, e_s08, e_a8, e_h8, hM⟩
        · exact absurd ⟨⟨s0, b_s0, e_s0⟩, ⟨a, b_a, e_a⟩⟩ hn8
        · exact absurd ⟨h, b_h, e_h⟩ hn8
        · have q_s0 : s0 = s08 := (nI_eq (by omega) (by omega)).mp (e_s0.symm.trans e_s08)
          subst q_s0
          have q_a : a = a8 := (nI_eq (by omega) (by omega)).mp (e_a.symm.trans e_a8)
          subst q_a
          have q_h : h = h8 := (nI_eq (by omega) (by omega)).mp (e_h.symm.trans e_h8)
          subst q_h
          have hAg1 : Ag R1 T1 := Ag_w hAg hU hM (fun p hp => op_some (hAg a b_a) b_h hp)
          refine lv_aload_n hx hb dL_law_538 rfl (lv_at hl 3 rfl) ?_
          refine x_callVi 5 2 (rest := []) (C := RX2) (T0 := TX2) (N := 4) E F I (m_thrown l g R1 B cd1 T1 P1 fo O) gL_law_X2_thrown rfl (by decide) rfl rfl rfl hd_X2_thrown rfl rfl ⟨by decide, by decide⟩ ⟨hfc, hfs⟩ rfl hl.1 rfl (Nat.le_of_ble_eq_true rfl) dL_law_539 (fun H locs I => ?_)
          refine lv_iload hx hb dL_law_542 (lv_at hl 0 rfl) ?_
          refine lv_icmp_eq (tgt := 549) hx hb dL_law_544 (by decide) (fun h9 => ?_) (fun h9 => ?_)
          · refine lv_goto (tgt := 1278) hx hb dL_law_549 (by decide) ?_
            exact kk R1 B cd1 T1 P1 fo O H locs ls hAg1 I (lv_sub hl [1, 2, 3, 4, 5] rfl)
          · exact absurd (hc1.trans nI0e) h9
    · have hn := hxc.resolve_right (fun q => absurd q.1 (by decide))
      have hn := hn.2
      refine W.eq (g2 := F0 m 500 ls [.int (nI (1))]) rfl ?_
      refine lv_istore (lv' := [(5, .int (nI (1))), (0, .ref (b)), (1, .ref (gA g 0)), (2, .ref (gA g 5)), (3, .ref (gA g 9)), (4, .int (nI (5 * j)))]) hx hb dL_law_500 hl (by decide) rfl (fun ls hl => ?_)
      refine lv_aload_n hx hb dL_law_502 rfl (lv_at hl 3 rfl) ?_
      refine lv_aload_n hx hb dL_law_503 rfl (lv_at hl 1 rfl) ?_
      refine lv_iload hx hb dL_law_504 (lv_at hl 5 rfl) ?_
      refine lv_iconst (v := nI (1)) hx hb dL_law_506 (by decide) ?_
      refine n_iadd hx hb dL_law_507 ?_
      refine s_ld (i := 5 * j + 1) hx hb hX hbl hbA I.2 (by omega) hL dL_law_508 ?_
      refine lv_aload_n hx hb dL_law_509 rfl (lv_at hl 1 rfl) ?_
      refine lv_iload hx hb dL_law_510 (lv_at hl 5 rfl) ?_
      refine lv_iconst (v := nI (2)) hx hb dL_law_512 (by decide) ?_
      refine n_iadd hx hb dL_law_513 ?_
      refine s_ld (i := 5 * j + 2) hx hb hX hbl hbA I.2 (by omega) hL dL_law_514 ?_
      refine lv_aload_n hx hb dL_law_515 rfl (lv_at hl 1 rfl) ?_
      refine lv_iload hx hb dL_law_516 (lv_at hl 5 rfl) ?_
      refine lv_iconst (v := nI (3)) hx hb dL_law_518 (by decide) ?_
      refine n_iadd hx hb dL_law_519 ?_
      refine s_ld (i := 5 * j + 3) hx hb hX hbl hbA I.2 (by omega) hL dL_law_520 ?_
      refine lv_aload_n hx hb dL_law_521 rfl (lv_at hl 1 rfl) ?_
      refine lv_iload hx hb dL_law_522 (lv_at hl 5 rfl) ?_
      refine lv_iconst (v := nI (4)) hx hb dL_law_524 (by decide) ?_
      refine n_iadd hx hb dL_law_525 ?_
      refine s_ld (i := 5 * j + 4) hx hb hX hbl hbA I.2 (by omega) hL dL_law_526 ?_
      refine lv_if_eq (tgt := 534) hx hb dL_law_527 (by decide) (fun h10 => ?_) (fun h10 => ?_)
      · exact absurd h10 h1
      · refine lv_iconst (v := nI (1)) hx hb dL_law_530 (by decide) ?_
        refine lv_goto (tgt := 535) hx hb dL_law_531 (by decide) ?_
        refine W.eq (g2 := F0 m 535 ls [.int (bI (true)), .int (xs (5 * j + 3)), .int (xs (5 * j + 2)), .int (xs (5 * j + 1)), .ref (gA g 5)]) rfl ?_
        refine x_callV 5 2 (rest := []) (C := RX2) (T0 := TX2) (N := 4) E F I (m_some l g R B cd T P fo O (xs (5 * j + 1)) (xs (5 * j + 2)) (xs (5 * j + 3)) true) gL_law_X2_some rfl (by decide) rfl rfl rfl hd_X2_some rfl rfl ⟨by decide, by decide⟩ ⟨hfc, hfs⟩ rfl hl.1 rfl (Nat.le_of_ble_eq_true rfl) dL_law_535 (fun v8 u8 H locs hp8 I => ?_)
        obtain ⟨rfl, cd1, T1, P1, rfl, hm⟩ := hp8
        refine W.eq (g2 := F0 m 538 ls []) rfl ?_
        rcases hm with ⟨hn8, hc1, hT1⟩ | ⟨hsl8, hn8, hc1, hT1⟩ | ⟨hc1, s08, a8, h8, b_s08, b_a8, b_h8, e_s08, e_a8, e_h8, hM⟩
        · refine lv_aload_n hx hb dL_law_538 rfl (lv_at hl 3 rfl) ?_
          refine x_callVi 5 2 (rest := []) (C := RX2) (T0 := TX2) (N := 4) E F I (m_thrown l g R B cd1 T1 P1 fo O) gL_law_X2_thrown rfl (by decide) rfl rfl rfl hd_X2_thrown rfl rfl ⟨by decide, by decide⟩ ⟨hfc, hfs⟩ rfl hl.1 rfl (Nat.le_of_ble_eq_true rfl) dL_law_539 (fun H locs I => ?_)
          refine lv_iload hx hb dL_law_542 (lv_at hl 0 rfl) ?_
          refine lv_icmp_eq (tgt := 549) hx hb dL_law_544 (by decide) (fun h11 => ?_) (fun h11 => ?_)
          · refine lv_goto (tgt := 1278) hx hb dL_law_549 (by decide) ?_
            exact kk R B cd1 T1 P1 fo O H locs ls (by rw [hT1]; exact hAg) I (lv_sub hl [1, 2, 3, 4, 5] rfl)
          · exact absurd (hc1.trans nI1e) h11
        · exact absurd hsl8 hn
        · exact absurd ⟨⟨s08, b_s08, e_s08⟩, ⟨a8, b_a8, e_a8⟩⟩ hn
    · obtain ⟨-, hsl, hn⟩ := hxc.resolve_left (fun q => absurd q.1 (by decide))
      refine W.eq (g2 := F0 m 500 ls [.int (nI (2))]) rfl ?_
      refine lv_istore (lv' := [(5, .int (nI (2))), (0, .ref (b)), (1, .ref (gA g 0)), (2, .ref (gA g 5)), (3, .ref (gA g 9)), (4, .int (nI (5 * j)))]) hx hb dL_law_500 hl (by decide) rfl (fun ls hl => ?_)
      refine lv_aload_n hx hb dL_law_502 rfl (lv_at hl 3 rfl) ?_
      refine lv_aload_n hx hb dL_law_503 rfl (lv_at hl 1 rfl) ?_
      refine lv_iload hx hb dL_law_504 (lv_at hl 5 rfl) ?_
      refine lv_iconst (v := nI (1)) hx hb dL_law_506 (by decide) ?_
      refine n_iadd hx hb dL_law_507 ?_
      refine s_ld (i := 5 * j + 1) hx hb hX hbl hbA I.2 (by omega) hL dL_law_508 ?_
      refine lv_aload_n hx hb dL_law_509 rfl (lv_at hl 1 rfl) ?_
      refine lv_iload hx hb dL_law_510 (lv_at hl 5 rfl) ?_
      refine lv_iconst (v := nI (2)) hx hb dL_law_512 (by decide) ?_
      refine n_iadd hx hb dL_law_513 ?_
      refine s_ld (i := 5 * j + 2) hx hb hX hbl hbA I.2 (by omega) hL dL_law_514 ?_
      refine lv_aload_n hx hb dL_law_515 rfl (lv_at hl 1 rfl) ?_
      refine lv_iload hx hb dL_law_516 (lv_at hl 5 rfl) ?_
      refine lv_iconst (v := nI (3)) hx hb dL_law_518 (by decide) ?_
      refine n_iadd hx hb dL_law_519 ?_
      refine s_ld (i := 5 * j + 3) hx hb hX hbl hbA I.2 (by omega) hL dL_law_520 ?_
      refine lv_aload_n hx hb dL_law_521 rfl (lv_at hl 1 rfl) ?_
      refine lv_iload hx hb dL_law_522 (lv_at hl 5 rfl) ?_
      refine lv_iconst (v := nI (4)) hx hb dL_law_524 (by decide) ?_
      refine n_iadd hx hb dL_law_525 ?_
      refine s_ld (i := 5 * j + 4) hx hb hX hbl hbA I.2 (by omega) hL dL_law_526 ?_
      refine lv_if_eq (tgt := 534) hx hb dL_law_527 (by decide) (fun h12 => ?_) (fun h12 => ?_)
      · exact absurd h12 h1
      · refine lv_iconst (v := nI (1)) hx hb dL_law_530 (by decide) ?_
        refine lv_goto (tgt := 535) hx hb dL_law_531 (by decide) ?_
        refine W.eq (g2 := F0 m 535 ls [.int (bI (true)), .int (xs (5 * j + 3)), .int (xs (5 * j + 2)), .int (xs (5 * j + 1)), .ref (gA g 5)]) rfl ?_
        refine x_callV 5 2 (rest := []) (C := RX2) (T0 := TX2) (N := 4) E F I (m_some l g R B cd T P fo O (xs (5 * j + 1)) (xs (5 * j + 2)) (xs (5 * j + 3)) true) gL_law_X2_some rfl (by decide) rfl rfl rfl hd_X2_some rfl rfl ⟨by decide, by decide⟩ ⟨hfc, hfs⟩ rfl hl.1 rfl (Nat.le_of_ble_eq_true rfl) dL_law_535 (fun v8 u8 H locs hp8 I => ?_)
        obtain ⟨rfl, cd1, T1, P1, rfl, hm⟩ := hp8
        refine W.eq (g2 := F0 m 538 ls []) rfl ?_
        rcases hm with ⟨hn8, hc1, hT1⟩ | ⟨hsl8, hn8, hc1, hT1⟩ | ⟨hc1, s08, a8, h8, b_s08, b_a8, b_h8, e_s08, e_a8, e_h8, hM⟩
        · exact absurd hsl hn8
        · refine lv_aload_n hx hb dL_law_538 rfl (lv_at hl 3 rfl) ?_
          refine x_callVi 5 2 (rest := []) (C := RX2) (T0 := TX2) (N := 4) E F I (m_thrown l g R B cd1 T1 P1 fo O) gL_law_X2_thrown rfl (by decide) rfl rfl rfl hd_X2_thrown rfl rfl ⟨by decide, by decide⟩ ⟨hfc, hfs⟩ rfl hl.1 rfl (Nat.le_of_ble_eq_true rfl) dL_law_539 (fun H locs I => ?_)
          refine lv_iload hx hb dL_law_542 (lv_at hl 0 rfl) ?_
          refine lv_icmp_eq (tgt := 549) hx hb dL_law_544 (by decide) (fun h13 => ?_) (fun h13 => ?_)
          · refine lv_goto (tgt := 1278) hx hb dL_law_549 (by decide) ?_
            exact kk R B cd1 T1 P1 fo O H locs ls (by rw [hT1]; exact hAg) I (lv_sub hl [1, 2, 3, 4, 5] rfl)
          · exact absurd (hc1.trans nI2e) h13
        · exact absurd ⟨h8, b_h8, e_h8⟩ hn
set_option maxHeartbeats 4000000 in
set_option maxRecDepth 100000 in
theorem lc_put {p : Program} {l : Launch} {e : Env} {s : State} {m : MethodId} {below : List Frame} {meth : Method} {c : Code} {H : Heap} {locs : List Loc} {Q : State → Prop} {ls : Array Slot} {g : Geo} {b L : Nat} {xs : Nat → Int32} {j : Nat} {R : Nat → Nat → Int64} {B : Rul} {cd : Int32} {T P : Nat → Bool} {fo : Nat → Int32} {O : Nat → Int64} (hl0 : l.stackTraces = false) (E : CallFix p m c cL_law 7 s #[Value.ref b] wsL_law RL) (F : Fx g s) (hX : va_X b L xs s s.heap) (hbl : b < s.heap.size) (hbA : ¬ gW g b) (hL : L ≤ 2560) (hjl : 5 * j + 5 ≤ L) (hfc : 62 + 5 * j + 5 ≤ room_1.cells) (hfs : 83840 + 30 * j + 30 ≤ room_1.slots) (hAg : Ag R T) (I : Iv g (R, B, (cd, bF T, bF P, fo), O) s H locs) (hl : lv_has ls 7 [(0, .ref (b)), (1, .ref (gA g 0)), (2, .ref (gA g 5)), (3, .ref (gA g 9)), (4, .int (nI (5 * j)))])
    (kk : ∀ (R : Nat → Nat → Int64) (B : Rul) (cd : Int32) (T P : Nat → Bool) (fo : Nat → Int32) (O : Nat → Int64) (H : Heap) (locs : List Loc) (ls : Array Slot), Ag R T → Iv g (R, B, (cd, bF T, bF P, fo), O) s H locs → lv_has ls 7 [(0, .ref (b)), (1, .ref (gA g 0)), (2, .ref (gA g 5)), (3, .ref (gA g 9)), (4, .int (nI (5 * j)))] → W p l e room_1 s m #[Value.ref b] below meth c H locs (62 + 5 * j + 5) (83840 + 30 * j + 30) Q (F0 m 1278 ls [])) : W p l e room_1 s m #[Value.ref b] below meth c H locs (62 + 5 * j) (83840 + 30 * j) Q (F0 m 552 ls []) := by
  have hx := E.1
  have hb := E.2.1
  refine lv_aload_n hx hb dL_law_552 rfl (lv_at hl 1 rfl) ?_
  refine lv_aload_n hx hb dL_law_553 rfl (lv_at hl 0 rfl) ?_
  refine lv_iload hx hb dL_law_554 (lv_at hl 4 rfl) ?_
  refine lv_iconst (v := nI (1)) hx hb dL_law_556 (by decide) ?_
  refine n_iadd hx hb dL_law_557 ?_
  refine s_ld (i := 5 * j + 1) hx hb hX hbl hbA I.2 (by omega) hL dL_law_558 ?_
  refine lv_aload_n hx hb dL_law_559 rfl (lv_at hl 0 rfl) ?_
  refine lv_iload hx hb dL_law_560 (lv_at hl 4 rfl) ?_
  refine lv_iconst (v := nI (2)) hx hb dL_law_562 (by decide) ?_
  refine n_iadd hx hb dL_law_563 ?_
  refine s_ld (i := 5 * j + 2) hx hb hX hbl hbA I.2 (by omega) hL dL_law_564 ?_
  refine lv_aload_n hx hb dL_law_565 rfl (lv_at hl 0 rfl) ?_
  refine lv_iload hx hb dL_law_566 (lv_at hl 4 rfl) ?_
  refine lv_iconst (v := nI (3)) hx hb dL_law_568 (by decide) ?_
  refine n_iadd hx hb dL_law_569 ?_
  refine s_ld (i := 5 * j + 3) hx hb hX hbl hbA I.2 (by omega) hL dL_law_570 ?_
  refine lv_aload_n hx hb dL_law_571 rfl (lv_at hl 0 rfl) ?_
  refine lv_iload hx hb dL_law_572 (lv_at hl 4 rfl) ?_
  refine lv_iconst (v := nI (4)) hx hb dL_law_574 (by decide) ?_
  refine n_iadd hx hb dL_law_575 ?_
  refine s_ld (i := 5 * j + 4) hx hb hX hbl hbA I.2 (by omega) hL dL_law_576 ?_
  refine l_call (rest := []) E F I (l_put l hl0 g R B (cd, bF T, bF P, fo) O (xs (5 * j + 1)) (xs (5 * j + 2)) (xs (5 * j + 3)) (xs (5 * j + 4))) gL_law_L_put rfl hd_L_put rfl rfl ⟨by decide, by decide⟩ ⟨hfc, hfs⟩ rfl hl.1 rfl (Nat.le_of_ble_eq_true rfl) dL_law_577 (fun v9 u9 H locs hp I => ?_)
  rcases hp with ⟨rfl, -, s0, a, v, b0, b_s0, b_a, b_v, b_b0, e_s0, e_a, e_v, e_b0, R1, rfl, hU⟩ | ⟨rfl, hxc, rfl⟩ | ⟨rfl, hxc, rfl⟩
  · refine W.eq (g2 := F0 m 580 ls [.int (nI (0))]) rfl ?_
    refine lv_istore (lv' := [(5, .int (nI (0))), (0, .ref (b)), (1, .ref (gA g 0)), (2, .ref (gA g 5)), (3, .ref (gA g 9)), (4, .int (nI (5 * j)))]) hx hb dL_law_580 hl (by decide) rfl (fun ls hl => ?_)
    refine lv_aload_n hx hb dL_law_582 rfl (lv_at hl 3 rfl) ?_
    refine lv_aload_n hx hb dL_law_583 rfl (lv_at hl 1 rfl) ?_
    refine lv_iload hx hb dL_law_584 (lv_at hl 5 rfl) ?_
    refine lv_iconst (v := nI (1)) hx hb dL_law_586 (by decide) ?_
    refine n_iadd hx hb dL_law_587 ?_
    refine s_ld (i := 5 * j + 1) hx hb hX hbl hbA I.2 (by omega) hL dL_law_588 ?_
    refine lv_aload_n hx hb dL_law_589 rfl (lv_at hl 1 rfl) ?_
    refine lv_iload hx hb dL_law_590 (lv_at hl 5 rfl) ?_
    refine lv_iconst (v := nI (2)) hx hb dL_law_592 (by decide) ?_
    refine n_iadd hx hb dL_law_593 ?_
    refine s_ld (i := 5 * j + 2) hx hb hX hbl hbA I.2 (by omega) hL dL_law_594 ?_
    refine lv_aload_n hx hb dL_law_595 rfl (lv_at hl 1 rfl) ?_
    refine lv_iload hx hb dL_law_596 (lv_at hl 5 rfl) ?_
    refine lv_iconst (v := nI (3)) hx hb dL_law_598 (by decide) ?_
    refine n_iadd hx hb dL_law_599 ?_
    refine s_ld (i := 5 * j + 3) hx hb hX hbl hbA I.2 (by omega) hL dL_law_600 ?_
    refine lv_aload_n hx hb dL_law_601 rfl (lv_at hl 1 rfl) ?_
    refine lv_iload hx hb dL_law_602 (lv_at hl 5 rfl) ?_
    refine lv_iconst (v := nI (4)) hx hb dL_law_604 (by decide) ?_
    refine n_iadd hx hb dL_law_605 ?_
    refine s_ld (i := 5 * j + 4) hx hb hX hbl hbA I.2 (by omega) hL dL_law_606 ?_
    refine x_callV 5 2 (rest := []) (C := RX2) (T0 := TX2) (N := 4) E F I (m_put l g R1 B cd T P fo O (xs (5 * j + 1)) (xs (5 * j + 2)) (xs (5 * j + 3)) (xs (5 * j + 4))) gL_law_X2_put rfl (by decide) rfl rfl rfl hd_X2_put rfl rfl ⟨by decide, by decide⟩ ⟨hfc, hfs⟩ rfl hl.1 rfl (Nat.le_of_ble_eq_true rfl) dL_law_607 (fun v8 u8 H locs hp8 I => ?_)
    obtain ⟨rfl, cd1, T1, P1, rfl, hm⟩ := hp8
    refine W.eq (g2 := F0 m 610 ls []) rfl ?_
    rcases hm with ⟨hn8, hc1, hT1⟩ | ⟨hsl8, hn8, hc1, hT1⟩ | ⟨hc1, s08, a8, v8, b08, b_s08, b_a8, b_v8, b_b08, e_s08, e_a8, e_v8, e_b08, hM⟩
    · exact absurd ⟨⟨s0, b_s0, e_s0⟩, ⟨a, b_a, e_a⟩, ⟨b0, b_b0, e_b0⟩⟩ hn8
    · exact absurd ⟨v, b_v, e_v⟩ hn8
    · have q_s0 : s0 = s08 := (nI_eq (by omega) (by omega)).mp (e_s0.symm.trans e_s08)
      subst q_s0
      have q_a : a = a8 := (nI_eq (by omega) (by omega)).mp (e_a.symm.trans e_a8)
      subst q_a
      have q_v : v = v8 := (nI_eq (by omega) (by omega)).mp (e_v.symm.trans e_v8)
      subst q_v
      have q_b0 : b0 = b08 := (nI_eq (by omega) (by omega)).mp (e_b0.symm.trans e_b08)
      subst q_b0
      have hAg1 : Ag R1 T1 := Ag_w hAg hU hM (fun p hp => by rw [hAg b0 b_b0 p hp, hAg a b_a _ (wth_lt hp)]; exact (pt_ww (tw := R b0) b_v hp).symm)
      refine lv_aload_n hx hb dL_law_610 rfl (lv_at hl 3 rfl) ?_
      refine x_callVi 5 2 (rest := []) (C := RX2) (T0 := TX2) (N := 4) E F I (m_thrown l g R1 B cd1 T1 P1 fo O) gL_law_X2_thrown rfl (by decide) rfl rfl rfl hd_X2_thrown rfl rfl ⟨by decide, by decide⟩ ⟨hfc, hfs⟩ rfl hl.1 rfl (Nat.le_of_ble_eq_true rfl) dL_law_611 (fun H locs I => ?_)
      refine lv_iload hx hb dL_law_614 (lv_at hl 0 rfl) ?_
      refine lv_icmp_eq (tgt := 621) hx hb dL_law_616 (by decide) (fun h1 => ?_) (fun h1 => ?_)
      · refine lv_goto (tgt := 1278) hx hb dL_law_621 (by decide) ?_
        exact kk R1 B cd1 T1 P1 fo O H locs ls hAg1 I (lv_sub hl [1, 2, 3, 4, 5] rfl)
      · exact absurd (hc1.trans nI0e) h1
  · have hn := hxc.resolve_right (fun q => absurd q.1 (by decide))
    have hn := hn.2
    refine W.eq (g2 := F0 m 580 ls [.int (nI (1))]) rfl ?_
    refine lv_istore (lv' := [(5, .int (nI (1))), (0, .ref (b)), (1, .ref (gA g 0)), (2, .ref (gA g 5)), (3, .ref (gA g 9)), (4, .int (nI (5 * j)))]) hx hb dL_law_580 hl (by decide) rfl (fun ls hl => ?_)
    refine lv_aload_n hx hb dL_law_582 rfl (lv_at hl 3 rfl) ?_
    refine lv_aload_n hx hb dL_law_583 rfl (lv_at hl 1 rfl) ?_
    refine lv_iload hx hb dL_law_584 (lv_at hl 5 rfl) ?_
    refine lv_iconst (v := nI (1)) hx hb dL_law_586 (by decide) ?_
    refine n_iadd hx hb dL_law_587 ?_
    refine s_ld (i := 5 * j + 1) hx hb hX hbl hbA I.2 (by omega) hL dL_law_588 ?_
    refine lv_aload_n hx hb dL_law_589 rfl (lv_at hl 1 rfl) ?_
    refine lv_iload hx hb dL_law_590 (lv_at hl 5 rfl) ?_
    refine lv_iconst (v := nI (2)) hx hb dL_law_592 (by decide) ?_
    refine n_iadd hx hb dL_law_593 ?_
    refine s_ld (i := 5 * j + 2) hx hb hX hbl hbA I.2 (by omega) hL dL_law_594 ?_
    refine lv_aload_n hx hb dL_law_595 rfl (lv_at hl 1 rfl) ?_
    refine lv_iload hx hb dL_law_596 (lv_at hl 5 rfl) ?_
    refine lv_iconst (v := nI (3)) hx hb dL_law_598 (by decide) ?_
    refine n_iadd hx hb dL_law_599 ?_
    refine s_ld (i := 5 * j + 3) hx hb hX hbl hbA I.2 (by omega) hL dL_law_600 ?_
    refine lv_aload_n hx hb dL_law_601 rfl (lv_at hl 1 rfl) ?_
    refine lv_iload hx hb dL_law_602 (lv_at hl 5 rfl) ?_
    refine lv_iconst (v := nI (4)) hx hb dL_law_604 (by decide) ?_
    refine n_iadd hx hb dL_law_605 ?_
    refine s_ld (i := 5 * j + 4) hx hb hX hbl hbA I.2 (by omega) hL dL_law_606 ?_
    refine x_callV 5 2 (rest := []) (C := RX2) (T0 := TX2) (N := 4) E F I (m_put l g R B cd T P fo O (xs (5 * j + 1)) (xs (5 * j + 2)) (xs (5 * j + 3)) (xs (5 * j + 4))) gL_law_X2_put rfl (by decide) rfl rfl rfl hd_X2_put rfl rfl ⟨by decide, by decide⟩ ⟨hfc, hfs⟩ rfl hl.1 rfl (Nat.le_of_ble_eq_true rfl) dL_law_607 (fun v8 u8 H locs hp8 I => ?_)
    obtain ⟨rfl, cd1, T1, P1, rfl, hm⟩ := hp8
    refine W.eq (g2 := F0 m 610 ls []) rfl ?_
    rcases hm with ⟨hn8, hc1, hT1⟩ | ⟨hsl8, hn8, hc1, hT1⟩ | ⟨hc1, s08, a8, v8, b08, b_s08, b_a8, b_v8, b_b08, e_s08, e_a8, e_v8, e_b08, hM⟩
    · refine lv_aload_n hx hb dL_law_610 rfl (lv_at hl 3 rfl) ?_
      refine x_callVi 5 2 (rest := []) (C := RX2) (T0 := TX2) (N := 4) E F I (m_thrown l g R B cd1 T1 P1 fo O) gL_law_X2_thrown rfl (by decide) rfl rfl rfl hd_X2_thrown rfl rfl ⟨by decide, by decide⟩ ⟨hfc, hfs⟩ rfl hl.1 rfl (Nat.le_of_ble_eq_true rfl) dL_law_611 (fun H locs I => ?_)
      refine lv_iload hx hb dL_law_614 (lv_at hl 0 rfl) ?_
      refine lv_icmp_eq (tgt := 621) hx hb dL_law_616 (by decide) (fun h2 => ?_) (fun h2 => ?_)
      · refine lv_goto (tgt := 1278) hx hb dL_law_621 (by decide) ?_
        exact kk R B cd1 T1 P1 fo O H locs ls (by rw [hT1]; exact hAg) I (lv_sub hl [1, 2, 3, 4, 5] rfl)
      · exact absurd (hc1.trans nI1e) h2
    · exact absurd hsl8 hn
    · exact absurd ⟨⟨s08, b_s08, e_s08⟩, ⟨a8, b_a8, e_a8⟩, ⟨b08, b_b08, e_b08⟩⟩ hn
  · obtain ⟨-, hsl, hn⟩ := hxc.resolve_left (fun q => absurd q.1 (by decide))
    refine W.eq (g2 := F0 m 580 ls [.int (nI (2))]) rfl ?_
    refine lv_istore (lv' := [(5, .int (nI (2))), (0, .ref (b)), (1, .ref (gA g 0)), (2, .ref (gA g 5)), (3, .ref (gA g 9)), (4, .int (nI (5 * j)))]) hx hb dL_law_580 hl (by decide) rfl (fun ls hl => ?_)
    refine lv_aload_n hx hb dL_law_582 rfl (lv_at hl 3 rfl) ?_
    refine lv_aload_n hx hb dL_law_583 rfl (lv_at hl 1 rfl) ?_
    refine lv_iload hx hb dL_law_584 (lv_at hl 5 rfl) ?_
    refine lv_iconst (v := nI (1)) hx hb dL_law_586 (by decide) ?_
    refine n_iadd hx hb dL_law_587 ?_
    refine s_ld (i := 5 * j + 1) hx hb hX hbl hbA I.2 (by omega) hL dL_law_588 ?_
    refine lv_aload_n hx hb dL_law_589 rfl (lv_at hl 1 rfl) ?_
    refine lv_iload hx hb dL_law_590 (lv_at hl 5 rfl) ?_
    refine lv_iconst (v := nI (2)) hx hb dL_law_592 (by decide) ?_
    refine n_iadd hx hb dL_law_593 ?_
    refine s_ld (i := 5 * j + 2) hx hb hX hbl hbA I.2 (by omega) hL dL_law_594 ?_
    refine lv_aload_n hx hb dL_law_595 rfl (lv_at hl 1 rfl) ?_
    refine lv_iload hx hb dL_law_596 (lv_at hl 5 rfl) ?_
    refine lv_iconst (v := nI (3)) hx hb dL_law_598 (by decide) ?_
    refine n_iadd hx hb dL_law_599 ?_
    refine s_ld (i := 5 * j + 3) hx hb hX hbl hbA I.2 (by omega) hL dL_law_600 ?_
    refine lv_aload_n hx hb dL_law_601 rfl (lv_at hl 1 rfl) ?_
    refine lv_iload hx hb dL_law_602 (lv_at hl 5 rfl) ?_
    refine lv_iconst (v := nI (4)) hx hb dL_law_604 (by decide) ?_
    refine n_iadd hx hb dL_law_605 ?_
    refine s_ld (i := 5 * j + 4) hx hb hX hbl hbA I.2 (by omega) hL dL_law_606 ?_
    refine x_callV 5 2 (rest := []) (C := RX2) (T0 := TX2) (N := 4) E F I (m_put l g R B cd T P fo O (xs (5 * j + 1)) (xs (5 * j + 2)) (xs (5 * j + 3)) (xs (5 * j + 4))) gL_law_X2_put rfl (by decide) rfl rfl rfl hd_X2_put rfl rfl ⟨by decide, by decide⟩ ⟨hfc, hfs⟩ rfl hl.1 rfl (Nat.le_of_ble_eq_true rfl) dL_law_607 (fun v8 u8 H locs hp8 I => ?_)
    obtain ⟨rfl, cd1, T1, P1, rfl, hm⟩ := hp8
    refine W.eq (g2 := F0 m 610 ls []) rfl ?_
    rcases hm with ⟨hn8, hc1, hT1⟩ | ⟨hsl8, hn8, hc1, hT1⟩ | ⟨hc1, s08, a8, v8, b08, b_s08, b_a8, b_v8, b_b08, e_s08, e_a8, e_v8, e_b08, hM⟩
    · exact absurd hsl hn8
    · refine lv_aload_n hx hb dL_law_610 rfl (lv_at hl 3 rfl) ?_
      refine x_callVi 5 2 (rest := []) (C := RX2) (T0 := TX2) (N := 4) E F I (m_thrown l g R B cd1 T1 P1 fo O) gL_law_X2_thrown rfl (by decide) rfl rfl rfl hd_X2_thrown rfl rfl ⟨by decide, by decide⟩ ⟨hfc, hfs⟩ rfl hl.1 rfl (Nat.le_of_ble_eq_true rfl) dL_law_611 (fun H locs I => ?_)
      refine lv_iload hx hb dL_law_614 (lv_at hl 0 rfl) ?_
      refine lv_icmp_eq (tgt := 621) hx hb dL_law_616 (by decide) (fun h3 => ?_) (fun h3 => ?_)
      · refine lv_goto (tgt := 1278) hx hb dL_law_621 (by decide) ?_
        exact kk R B cd1 T1 P1 fo O H locs ls (by rw [hT1]; exact hAg) I (lv_sub hl [1, 2, 3, 4, 5] rfl)
      · exact absurd (hc1.trans nI2e) h3
    · exact absurd ⟨v8, b_v8, e_v8⟩ hn
set_option maxHeartbeats 4000000 in
set_option maxRecDepth 100000 in
theorem lc_swap {p : Program} {l : Launch} {e : Env} {s : State} {m : MethodId} {below : List Frame} {meth : Method} {c : Code} {H : Heap} {locs : List Loc} {Q : State → Prop} {ls : Array Slot} {g : Geo} {b L : Nat} {xs : Nat → Int32} {j : Nat} {R : Nat → Nat → Int64} {B : Rul} {cd : Int32} {T P : Nat → Bool} {fo : Nat → Int32} {O : Nat → Int64} (hl0 : l.stackTraces = false) (E : CallFix p m c cL_law 7 s #[Value.ref b] wsL_law RL) (F : Fx g s) (hX : va_X b L xs s s.heap) (hbl : b < s.heap.size) (hbA : ¬ gW g b) (hL : L ≤ 2560) (hjl : 5 * j + 5 ≤ L) (hfc : 62 + 5 * j + 5 ≤ room_1.cells) (hfs : 83840 + 30 * j + 30 ≤ room_1.slots) (hAg : Ag R T) (I : Iv g (R, B, (cd, bF T, bF P, fo), O) s H locs) (hl : lv_has ls 7 [(0, .ref (b)), (1, .ref (gA g 0)), (2, .ref (gA g 5)), (3, .ref (gA g 9)), (4, .int (nI (5 * j)))])
    (kk : ∀ (R : Nat → Nat → Int64) (B : Rul) (cd : Int32) (T P : Nat → Bool) (fo : Nat → Int32) (O : Nat → Int64) (H : Heap) (locs : List Loc) (ls : Array Slot), Ag R T → Iv g (R, B, (cd, bF T, bF P, fo), O) s H locs → lv_has ls 7 [(0, .ref (b)), (1, .ref (gA g 0)), (2, .ref (gA g 5)), (3, .ref (gA g 9)), (4, .int (nI (5 * j)))] → W p l e room_1 s m #[Value.ref b] below meth c H locs (62 + 5 * j + 5) (83840 + 30 * j + 30) Q (F0 m 1278 ls [])) : W p l e room_1 s m #[Value.ref b] below meth c H locs (62 + 5 * j) (83840 + 30 * j) Q (F0 m 624 ls []) := by
  have hx := E.1
  have hb := E.2.1
  refine lv_aload_n hx hb dL_law_624 rfl (lv_at hl 1 rfl) ?_
  refine lv_aload_n hx hb dL_law_625 rfl (lv_at hl 0 rfl) ?_
  refine lv_iload hx hb dL_law_626 (lv_at hl 4 rfl) ?_
  refine lv_iconst (v := nI (1)) hx hb dL_law_628 (by decide) ?_
  refine n_iadd hx hb dL_law_629 ?_
  refine s_ld (i := 5 * j + 1) hx hb hX hbl hbA I.2 (by omega) hL dL_law_630 ?_
  refine lv_aload_n hx hb dL_law_631 rfl (lv_at hl 0 rfl) ?_
  refine lv_iload hx hb dL_law_632 (lv_at hl 4 rfl) ?_
  refine lv_iconst (v := nI (2)) hx hb dL_law_634 (by decide) ?_
  refine n_iadd hx hb dL_law_635 ?_
  refine s_ld (i := 5 * j + 2) hx hb hX hbl hbA I.2 (by omega) hL dL_law_636 ?_
  refine lv_aload_n hx hb dL_law_637 rfl (lv_at hl 0 rfl) ?_
  refine lv_iload hx hb dL_law_638 (lv_at hl 4 rfl) ?_
  refine lv_iconst (v := nI (3)) hx hb dL_law_640 (by decide) ?_
  refine n_iadd hx hb dL_law_641 ?_
  refine s_ld (i := 5 * j + 3) hx hb hX hbl hbA I.2 (by omega) hL dL_law_642 ?_
  refine lv_aload_n hx hb dL_law_643 rfl (lv_at hl 0 rfl) ?_
  refine lv_iload hx hb dL_law_644 (lv_at hl 4 rfl) ?_
  refine lv_iconst (v := nI (4)) hx hb dL_law_646 (by decide) ?_
  refine n_iadd hx hb dL_law_647 ?_
  refine s_ld (i := 5 * j + 4) hx hb hX hbl hbA I.2 (by omega) hL dL_law_648 ?_
  refine l_call (rest := []) E F I (l_swap l hl0 g R B (cd, bF T, bF P, fo) O (xs (5 * j + 1)) (xs (5 * j + 2)) (xs (5 * j + 3)) (xs (5 * j + 4))) gL_law_L_swap rfl hd_L_swap rfl rfl ⟨by decide, by decide⟩ ⟨hfc, hfs⟩ rfl hl.1 rfl (Nat.le_of_ble_eq_true rfl) dL_law_649 (fun v9 u9 H locs hp I => ?_)
  rcases hp with ⟨rfl, -, s0, a, v, z, b_s0, b_a, b_v, b_z, e_s0, e_a, e_v, e_z, R1, rfl, hU⟩ | ⟨rfl, hxc, rfl⟩ | ⟨rfl, hxc, rfl⟩
  · refine W.eq (g2 := F0 m 652 ls [.int (nI (0))]) rfl ?_
    refine lv_istore (lv' := [(5, .int (nI (0))), (0, .ref (b)), (1, .ref (gA g 0)), (2, .ref (gA g 5)), (3, .ref (gA g 9)), (4, .int (nI (5 * j)))]) hx hb dL_law_652 hl (by decide) rfl (fun ls hl => ?_)
    refine lv_aload_n hx hb dL_law_654 rfl (lv_at hl 3 rfl) ?_
    refine lv_aload_n hx hb dL_law_655 rfl (lv_at hl 1 rfl) ?_
    refine lv_iload hx hb dL_law_656 (lv_at hl 5 rfl) ?_
    refine lv_iconst (v := nI (1)) hx hb dL_law_658 (by decide) ?_
    refine n_iadd hx hb dL_law_659 ?_
    refine s_ld (i := 5 * j + 1) hx hb hX hbl hbA I.2 (by omega) hL dL_law_660 ?_
    refine lv_aload_n hx hb dL_law_661 rfl (lv_at hl 1 rfl) ?_
    refine lv_iload hx hb dL_law_662 (lv_at hl 5 rfl) ?_
    refine lv_iconst (v := nI (2)) hx hb dL_law_664 (by decide) ?_
    refine n_iadd hx hb dL_law_665 ?_
    refine s_ld (i := 5 * j + 2) hx hb hX hbl hbA I.2 (by omega) hL dL_law_666 ?_
    refine lv_aload_n hx hb dL_law_667 rfl (lv_at hl 1 rfl) ?_
    refine lv_iload hx hb dL_law_668 (lv_at hl 5 rfl) ?_
    refine lv_iconst (v := nI (3)) hx hb dL_law_670 (by decide) ?_
    refine n_iadd hx hb dL_law_671 ?_
    refine s_ld (i := 5 * j + 3) hx hb hX hbl hbA I.2 (by omega) hL dL_law_672 ?_
    refine lv_aload_n hx hb dL_law_673 rfl (lv_at hl 1 rfl) ?_
    refine lv_iload hx hb dL_law_674 (lv_at hl 5 rfl) ?_
    refine lv_iconst (v := nI (4)) hx hb dL_law_676 (by decide) ?_
    refine n_iadd hx hb dL_law_677 ?_
    refine s_ld (i := 5 * j + 4) hx hb hX hbl hbA I.2 (by omega) hL dL_law_678 ?_
    refine x_callV 5 2 (rest := []) (C := RX2) (T0 := TX2) (N := 4) E F I (m_swap l g R1 B cd T P fo O (xs (5 * j + 1)) (xs (5 * j + 2)) (xs (5 * j + 3)) (xs (5 * j + 4))) gL_law_X2_swap rfl (by decide) rfl rfl rfl hd_X2_swap rfl rfl ⟨by decide, by decide⟩ ⟨hfc, hfs⟩ rfl hl.1 rfl (Nat.le_of_ble_eq_true rfl) dL_law_679 (fun v8 u8 H locs hp8 I => ?_)
    obtain ⟨rfl, cd1, T1, P1, rfl, hm⟩ := hp8
    refine W.eq (g2 := F0 m 682 ls []) rfl ?_
    rcases hm with ⟨hn8, hc1, hT1⟩ | ⟨hsl8, hn8, hc1, hT1⟩ | ⟨hc1, s08, a8, v8, z8, b_s08, b_a8, b_v8, b_z8, e_s08, e_a8, e_v8, e_z8, hM⟩
    · exact absurd ⟨⟨s0, b_s0, e_s0⟩, ⟨a, b_a, e_a⟩⟩ hn8
    · exact absurd ⟨⟨v, b_v, e_v⟩, ⟨z, b_z, e_z⟩⟩ hn8
    · have q_s0 : s0 = s08 := (nI_eq (by omega) (by omega)).mp (e_s0.symm.trans e_s08)
      subst q_s0
      have q_a : a = a8 := (nI_eq (by omega) (by omega)).mp (e_a.symm.trans e_a8)
      subst q_a
      have q_v : v = v8 := (nI_eq (by omega) (by omega)).mp (e_v.symm.trans e_v8)
      subst q_v
      have q_z : z = z8 := (nI_eq (by omega) (by omega)).mp (e_z.symm.trans e_z8)
      subst q_z
      have hAg1 : Ag R1 T1 := Ag_w hAg hU hM (fun p hp => by rw [hAg a b_a _ (wth_lt (wth_lt hp))]; exact (pt_sw b_v b_z hp).symm)
      refine lv_aload_n hx hb dL_law_682 rfl (lv_at hl 3 rfl) ?_
      refine x_callVi 5 2 (rest := []) (C := RX2) (T0 := TX2) (N := 4) E F I (m_thrown l g R1 B cd1 T1 P1 fo O) gL_law_X2_thrown rfl (by decide) rfl rfl rfl hd_X2_thrown rfl rfl ⟨by decide, by decide⟩ ⟨hfc, hfs⟩ rfl hl.1 rfl (Nat.le_of_ble_eq_true rfl) dL_law_683 (fun H locs I => ?_)
      refine lv_iload hx hb dL_law_686 (lv_at hl 0 rfl) ?_
      refine lv_icmp_eq (tgt := 693) hx hb dL_law_688 (by decide) (fun h1 => ?_) (fun h1 => ?_)
      · refine lv_goto (tgt := 1278) hx hb dL_law_693 (by decide) ?_
        exact kk R1 B cd1 T1 P1 fo O H locs ls hAg1 I (lv_sub hl [1, 2, 3, 4, 5] rfl)
      · exact absurd (hc1.trans nI0e) h1
  · have hn := hxc.resolve_right (fun q => absurd q.1 (by decide))
    have hn := hn.2
    refine W.eq (g2 := F0 m 652 ls [.int (nI (1))]) rfl ?_
    refine lv_istore (lv' := [(5, .int (nI (1))), (0, .ref (b)), (1, .ref (gA g 0)), (2, .ref (gA g 5)), (3, .ref (gA g 9)), (4, .int (nI (5 * j)))]) hx hb dL_law_652 hl (by decide) rfl (fun ls hl => ?_)
    refine lv_aload_n hx hb dL_law_654 rfl (lv_at hl 3 rfl) ?_
    refine lv_aload_n hx hb dL_law_655 rfl (lv_at hl 1 rfl) ?_
    refine lv_iload hx hb dL_law_656 (lv_at hl 5 rfl) ?_
    refine lv_iconst (v := nI (1)) hx hb dL_law_658 (by decide) ?_
    refine n_iadd hx hb dL_law_659 ?_
    refine s_ld (i := 5 * j + 1) hx hb hX hbl hbA I.2 (by omega) hL dL_law_660 ?_
    refine lv_aload_n hx hb dL_law_661 rfl (lv_at hl 1 rfl) ?_
    refine lv_iload hx hb dL_law_662 (lv_at hl 5 rfl) ?_
    refine lv_iconst (v := nI (2)) hx hb dL_law_664 (by decide) ?_
    refine n_iadd hx hb dL_law_665 ?_
    refine s_ld (i := 5 * j + 2) hx hb hX hbl hbA I.2 (by omega) hL dL_law_666 ?_
    refine lv_aload_n hx hb dL_law_667 rfl (lv_at hl 1 rfl) ?_
    refine lv_iload hx hb dL_law_668 (lv_at hl 5 rfl) ?_
    refine lv_iconst (v := nI (3)) hx hb dL_law_670 (by decide) ?_
    refine n_iadd hx hb dL_law_671 ?_
    refine s_ld (i := 5 * j + 3) hx hb hX hbl hbA I.2 (by omega) hL dL_law_672 ?_
    refine lv_aload_n hx hb dL_law_673 rfl (lv_at hl 1 rfl) ?_
    refine lv_iload hx hb dL_law_674 (lv_at hl 5 rfl) ?_
    refine lv_iconst (v := nI (4)) hx hb dL_law_676 (by decide) ?_
    refine n_iadd hx hb dL_law_677 ?_
    refine s_ld (i := 5 * j + 4) hx hb hX hbl hbA I.2 (by omega) hL dL_law_678 ?_
    refine x_callV 5 2 (rest := []) (C := RX2) (T0 := TX2) (N := 4) E F I (m_swap l g R B cd T P fo O (xs (5 * j + 1)) (xs (5 * j + 2)) (xs (5 * j + 3)) (xs (5 * j + 4))) gL_law_X2_swap rfl (by decide) rfl rfl rfl hd_X2_swap rfl rfl ⟨by decide, by decide⟩ ⟨hfc, hfs⟩ rfl hl.1 rfl (Nat.le_of_ble_eq_true rfl) dL_law_679 (fun v8 u8 H locs hp8 I => ?_)
    obtain ⟨rfl, cd1, T1, P1, rfl, hm⟩ := hp8
    refine W.eq (g2 := F0 m 682 ls []) rfl ?_
    rcases hm with ⟨hn8, hc1, hT1⟩ | ⟨hsl8, hn8, hc1, hT1⟩ | ⟨hc1, s08, a8, v8, z8, b_s08, b_a8, b_v8, b_z8, e_s08, e_a8, e_v8, e_z8, hM⟩
    · refine lv_aload_n hx hb dL_law_682 rfl (lv_at hl 3 rfl) ?_
      refine x_callVi 5 2 (rest := []) (C := RX2) (T0 := TX2) (N := 4) E F I (m_thrown l g R B cd1 T1 P1 fo O) gL_law_X2_thrown rfl (by decide) rfl rfl rfl hd_X2_thrown rfl rfl ⟨by decide, by decide⟩ ⟨hfc, hfs⟩ rfl hl.1 rfl (Nat.le_of_ble_eq_true rfl) dL_law_683 (fun H locs I => ?_)
      refine lv_iload hx hb dL_law_686 (lv_at hl 0 rfl) ?_
      refine lv_icmp_eq (tgt := 693) hx hb dL_law_688 (by decide) (fun h2 => ?_) (fun h2 => ?_)
      · refine lv_goto (tgt := 1278) hx hb dL_law_693 (by decide) ?_
        exact kk R B cd1 T1 P1 fo O H locs ls (by rw [hT1]; exact hAg) I (lv_sub hl [1, 2, 3, 4, 5] rfl)
      · exact absurd (hc1.trans nI1e) h2
    · exact absurd hsl8 hn
    · exact absurd ⟨⟨s08, b_s08, e_s08⟩, ⟨a8, b_a8, e_a8⟩⟩ hn
  · obtain ⟨-, hsl, hn⟩ := hxc.resolve_left (fun q => absurd q.1 (by decide))
    refine W.eq (g2 := F0 m 652 ls [.int (nI (2))]) rfl ?_
    refine lv_istore (lv' := [(5, .int (nI (2))), (0, .ref (b)), (1, .ref (gA g 0)), (2, .ref (gA g 5)), (3, .ref (gA g 9)), (4, .int (nI (5 * j)))]) hx hb dL_law_652 hl (by decide) rfl (fun ls hl => ?_)
    refine lv_aload_n hx hb dL_law_654 rfl (lv_at hl 3 rfl) ?_
    refine lv_aload_n hx hb dL_law_655 rfl (lv_at hl 1 rfl) ?_
    refine lv_iload hx hb dL_law_656 (lv_at hl 5 rfl) ?_
    refine lv_iconst (v := nI (1)) hx hb dL_law_658 (by decide) ?_
    refine n_iadd hx hb dL_law_659 ?_
    refine s_ld (i := 5 * j + 1) hx hb hX hbl hbA I.2 (by omega) hL dL_law_660 ?_
    refine lv_aload_n hx hb dL_law_661 rfl (lv_at hl 1 rfl) ?_
    refine lv_iload hx hb dL_law_662 (lv_at hl 5 rfl) ?_
    refine lv_iconst (v := nI (2)) hx hb dL_law_664 (by decide) ?_
    refine n_iadd hx hb dL_law_665 ?_
    refine s_ld (i := 5 * j + 2) hx hb hX hbl hbA I.2 (by omega) hL dL_law_666 ?_
    refine lv_aload_n hx hb dL_law_667 rfl (lv_at hl 1 rfl) ?_
    refine lv_iload hx hb dL_law_668 (lv_at hl 5 rfl) ?_
    refine lv_iconst (v := nI (3)) hx hb dL_law_670 (by decide) ?_
    refine n_iadd hx hb dL_law_671 ?_
    refine s_ld (i := 5 * j + 3) hx hb hX hbl hbA I.2 (by omega) hL dL_law_672 ?_
    refine lv_aload_n hx hb dL_law_673 rfl (lv_at hl 1 rfl) ?_
    refine lv_iload hx hb dL_law_674 (lv_at hl 5 rfl) ?_
    refine lv_iconst (v := nI (4)) hx hb dL_law_676 (by decide) ?_
    refine n_iadd hx hb dL_law_677 ?_
    refine s_ld (i := 5 * j + 4) hx hb hX hbl hbA I.2 (by omega) hL dL_law_678 ?_
    refine x_callV 5 2 (rest := []) (C := RX2) (T0 := TX2) (N := 4) E F I (m_swap l g R B cd T P fo O (xs (5 * j + 1)) (xs (5 * j + 2)) (xs (5 * j + 3)) (xs (5 * j + 4))) gL_law_X2_swap rfl (by decide) rfl rfl rfl hd_X2_swap rfl rfl ⟨by decide, by decide⟩ ⟨hfc, hfs⟩ rfl hl.1 rfl (Nat.le_of_ble_eq_true rfl) dL_law_679 (fun v8 u8 H locs hp8 I => ?_)
    obtain ⟨rfl, cd1, T1, P1, rfl, hm⟩ := hp8
    refine W.eq (g2 := F0 m 682 ls []) rfl ?_
    rcases hm with ⟨hn8, hc1, hT1⟩ | ⟨hsl8, hn8, hc1, hT1⟩ | ⟨hc1, s08, a8, v8, z8, b_s08, b_a8, b_v8, b_z8, e_s08, e_a8, e_v8, e_z8, hM⟩
    · exact absurd hsl hn8
    · refine lv_aload_n hx hb dL_law_682 rfl (lv_at hl 3 rfl) ?_
      refine x_callVi 5 2 (rest := []) (C := RX2) (T0 := TX2) (N := 4) E F I (m_thrown l g R B cd1 T1 P1 fo O) gL_law_X2_thrown rfl (by decide) rfl rfl rfl hd_X2_thrown rfl rfl ⟨by decide, by decide⟩ ⟨hfc, hfs⟩ rfl hl.1 rfl (Nat.le_of_ble_eq_true rfl) dL_law_683 (fun H locs I => ?_)
      refine lv_iload hx hb dL_law_686 (lv_at hl 0 rfl) ?_
      refine lv_icmp_eq (tgt := 693) hx hb dL_law_688 (by decide) (fun h3 => ?_) (fun h3 => ?_)
      · refine lv_goto (tgt := 1278) hx hb dL_law_693 (by decide) ?_
        exact kk R B cd1 T1 P1 fo O H locs ls (by rw [hT1]; exact hAg) I (lv_sub hl [1, 2, 3, 4, 5] rfl)
      · exact absurd (hc1.trans nI2e) h3
    · exact absurd ⟨⟨v8, b_v8, e_v8⟩, ⟨z8, b_z8, e_z8⟩⟩ hn
set_option maxHeartbeats 4000000 in
set_option maxRecDepth 100000 in
theorem lc_nearest {p : Program} {l : Launch} {e : Env} {s : State} {m : MethodId} {below : List Frame} {meth : Method} {c : Code} {H : Heap} {locs : List Loc} {Q : State → Prop} {ls : Array Slot} {g : Geo} {b L : Nat} {xs : Nat → Int32} {j : Nat} {R : Nat → Nat → Int64} {B : Rul} {cd : Int32} {T P : Nat → Bool} {fo : Nat → Int32} {O : Nat → Int64} (hl0 : l.stackTraces = false) (E : CallFix p m c cL_law 7 s #[Value.ref b] wsL_law RL) (F : Fx g s) (hX : va_X b L xs s s.heap) (hbl : b < s.heap.size) (hbA : ¬ gW g b) (hL : L ≤ 2560) (hjl : 5 * j + 5 ≤ L) (hfc : 62 + 5 * j + 5 ≤ room_1.cells) (hfs : 83840 + 30 * j + 30 ≤ room_1.slots) (hAg : Ag R T) (I : Iv g (R, B, (cd, bF T, bF P, fo), O) s H locs) (hl : lv_has ls 7 [(0, .ref (b)), (1, .ref (gA g 0)), (2, .ref (gA g 5)), (3, .ref (gA g 9)), (4, .int (nI (5 * j)))])
    (kk : ∀ (R : Nat → Nat → Int64) (B : Rul) (cd : Int32) (T P : Nat → Bool) (fo : Nat → Int32) (O : Nat → Int64) (H : Heap) (locs : List Loc) (ls : Array Slot), Ag R T → Iv g (R, B, (cd, bF T, bF P, fo), O) s H locs → lv_has ls 7 [(0, .ref (b)), (1, .ref (gA g 0)), (2, .ref (gA g 5)), (3, .ref (gA g 9)), (4, .int (nI (5 * j)))] → W p l e room_1 s m #[Value.ref b] below meth c H locs (62 + 5 * j + 5) (83840 + 30 * j + 30) Q (F0 m 1278 ls [])) : W p l e room_1 s m #[Value.ref b] below meth c H locs (62 + 5 * j) (83840 + 30 * j) Q (F0 m 696 ls []) := by
  have hx := E.1
  have hb := E.2.1
  refine lv_aload_n hx hb dL_law_696 rfl (lv_at hl 1 rfl) ?_
  refine lv_aload_n hx hb dL_law_697 rfl (lv_at hl 0 rfl) ?_
  refine lv_iload hx hb dL_law_698 (lv_at hl 4 rfl) ?_
  refine lv_iconst (v := nI (1)) hx hb dL_law_700 (by decide) ?_
  refine n_iadd hx hb dL_law_701 ?_
  refine s_ld (i := 5 * j + 1) hx hb hX hbl hbA I.2 (by omega) hL dL_law_702 ?_
  refine lv_aload_n hx hb dL_law_703 rfl (lv_at hl 0 rfl) ?_
  refine lv_iload hx hb dL_law_704 (lv_at hl 4 rfl) ?_
  refine lv_iconst (v := nI (2)) hx hb dL_law_706 (by decide) ?_
  refine n_iadd hx hb dL_law_707 ?_
  refine s_ld (i := 5 * j + 2) hx hb hX hbl hbA I.2 (by omega) hL dL_law_708 ?_
  refine lv_aload_n hx hb dL_law_709 rfl (lv_at hl 0 rfl) ?_
  refine lv_iload hx hb dL_law_710 (lv_at hl 4 rfl) ?_
  refine lv_iconst (v := nI (3)) hx hb dL_law_712 (by decide) ?_
  refine n_iadd hx hb dL_law_713 ?_
  refine s_ld (i := 5 * j + 3) hx hb hX hbl hbA I.2 (by omega) hL dL_law_714 ?_
  refine l_call (rest := []) E F I (l_nearest l hl0 g R B (cd, bF T, bF P, fo) O (xs (5 * j + 1)) (xs (5 * j + 2)) (xs (5 * j + 3))) gL_law_L_nearest rfl hd_L_nearest rfl rfl ⟨by decide, by decide⟩ ⟨hfc, hfs⟩ rfl hl.1 rfl (Nat.le_of_ble_eq_true rfl) dL_law_715 (fun v9 u9 H locs hp I => ?_)
  rcases hp with ⟨rfl, -, s0, a, c0, b_s0, b_a, b_c0, e_s0, e_a, e_c0, hnf, R1, rfl, hU⟩ | ⟨rfl, hxc, rfl⟩ | ⟨rfl, hxc, rfl⟩
  · refine W.eq (g2 := F0 m 718 ls [.int (nI (0))]) rfl ?_
    refine lv_istore (lv' := [(5, .int (nI (0))), (0, .ref (b)), (1, .ref (gA g 0)), (2, .ref (gA g 5)), (3, .ref (gA g 9)), (4, .int (nI (5 * j)))]) hx hb dL_law_718 hl (by decide) rfl (fun ls hl => ?_)
    refine lv_aload_n hx hb dL_law_720 rfl (lv_at hl 3 rfl) ?_
    refine lv_aload_n hx hb dL_law_721 rfl (lv_at hl 1 rfl) ?_
    refine lv_iload hx hb dL_law_722 (lv_at hl 5 rfl) ?_
    refine lv_iconst (v := nI (1)) hx hb dL_law_724 (by decide) ?_
    refine n_iadd hx hb dL_law_725 ?_
    refine s_ld (i := 5 * j + 1) hx hb hX hbl hbA I.2 (by omega) hL dL_law_726 ?_
    refine lv_aload_n hx hb dL_law_727 rfl (lv_at hl 1 rfl) ?_
    refine lv_iload hx hb dL_law_728 (lv_at hl 5 rfl) ?_
    refine lv_iconst (v := nI (2)) hx hb dL_law_730 (by decide) ?_
    refine n_iadd hx hb dL_law_731 ?_
    refine s_ld (i := 5 * j + 2) hx hb hX hbl hbA I.2 (by omega) hL dL_law_732 ?_
    refine lv_aload_n hx hb dL_law_733 rfl (lv_at hl 1 rfl) ?_
    refine lv_iload hx hb dL_law_734 (lv_at hl 5 rfl) ?_
    refine lv_iconst (v := nI (3)) hx hb dL_law_736 (by decide) ?_
    refine n_iadd hx hb dL_law_737 ?_
    refine s_ld (i := 5 * j + 3) hx hb hX hbl hbA I.2 (by omega) hL dL_law_738 ?_
    refine x_callV 5 2 (rest := []) (C := RX2) (T0 := TX2) (N := 4) E F I (m_nearest l g R1 B cd T P fo O (xs (5 * j + 1)) (xs (5 * j + 2)) (xs (5 * j + 3))) gL_law_X2_nearest rfl (by decide) rfl rfl rfl hd_X2_nearest rfl rfl ⟨by decide, by decide⟩ ⟨hfc, hfs⟩ rfl hl.1 rfl (Nat.le_of_ble_eq_true rfl) dL_law_739 (fun v8 u8 H locs hp8 I => ?_)
    obtain ⟨rfl, cd1, T1, P1, rfl, hm⟩ := hp8
    refine W.eq (g2 := F0 m 742 ls []) rfl ?_
    rcases hm with ⟨hn8, hc1, hT1⟩ | ⟨hsl8, hn8, hc1, hT1⟩ | ⟨hc1, s08, a8, c08, b_s08, b_a8, b_c08, e_s08, e_a8, e_c08, hany8, hM⟩
    · exact absurd ⟨⟨s0, b_s0, e_s0⟩, ⟨a, b_a, e_a⟩, ⟨c0, b_c0, e_c0⟩⟩ hn8
    · exact absurd ⟨c0, b_c0, e_c0, (isF_any (hAg c0 b_c0)).mpr hnf⟩ hn8
    · have q_s0 : s0 = s08 := (nI_eq (by omega) (by omega)).mp (e_s0.symm.trans e_s08)
      subst q_s0
      have q_a : a = a8 := (nI_eq (by omega) (by omega)).mp (e_a.symm.trans e_a8)
      subst q_a
      have q_c0 : c0 = c08 := (nI_eq (by omega) (by omega)).mp (e_c0.symm.trans e_c08)
      subst q_c0
      have hAg1 : Ag R1 T1 := Ag_w hAg hU hM (fun p hp => op_near (hAg a b_a) (hAg c0 b_c0) ((isF_any (hAg c0 b_c0)).mpr hnf) hp)
      refine lv_aload_n hx hb dL_law_742 rfl (lv_at hl 3 rfl) ?_
      refine x_callVi 5 2 (rest := []) (C := RX2) (T0 := TX2) (N := 4) E F I (m_thrown l g R1 B cd1 T1 P1 fo O) gL_law_X2_thrown rfl (by decide) rfl rfl rfl hd_X2_thrown rfl rfl ⟨by decide, by decide⟩ ⟨hfc, hfs⟩ rfl hl.1 rfl (Nat.le_of_ble_eq_true rfl) dL_law_743 (fun H locs I => ?_)
      refine lv_iload hx hb dL_law_746 (lv_at hl 0 rfl) ?_
      refine lv_icmp_eq (tgt := 753) hx hb dL_law_748 (by decide) (fun h1 => ?_) (fun h1 => ?_)
      · refine lv_goto (tgt := 1278) hx hb dL_law_753 (by decide) ?_
        exact kk R1 B cd1 T1 P1 fo O H locs ls hAg1 I (lv_sub hl [1, 2, 3, 4, 5] rfl)
      · exact absurd (hc1.trans nI0e) h1
  · have hn := hxc.resolve_right (fun q => absurd q.1 (by decide))
    have hn := hn.2
    refine W.eq (g2 := F0 m 718 ls [.int (nI (1))]) rfl ?_
    refine lv_istore (lv' := [(5, .int (nI (1))), (0, .ref (b)), (1, .ref (gA g 0)), (2, .ref (gA g 5)), (3, .ref (gA g 9)), (4, .int (nI (5 * j)))]) hx hb dL_law_718 hl (by decide) rfl (fun ls hl => ?_)
    refine lv_aload_n hx hb dL_law_720 rfl (lv_at hl 3 rfl) ?_
    refine lv_aload_n hx hb dL_law_721 rfl (lv_at hl 1 rfl) ?_
    refine lv_iload hx hb dL_law_722 (lv_at hl 5 rfl) ?_
    refine lv_iconst (v := nI (1)) hx hb dL_law_724 (by decide) ?_
    refine n_iadd hx hb dL_law_725 ?_
    refine s_ld (i := 5 * j + 1) hx hb hX hbl hbA I.2 (by omega) hL dL_law_726 ?_
    refine lv_aload_n hx hb dL_law_727 rfl (lv_at hl 1 rfl) ?_
    refine lv_iload hx hb dL_law_728 (lv_at hl 5 rfl) ?_
    refine lv_iconst (v := nI (2)) hx hb dL_law_730 (by decide) ?_
    refine n_iadd hx hb dL_law_731 ?_
    refine s_ld (i := 5 * j + 2) hx hb hX hbl hbA I.2 (by omega) hL dL_law_732 ?_
    refine lv_aload_n hx hb dL_law_733 rfl (lv_at hl 1 rfl) ?_
    refine lv_iload hx hb dL_law_734 (lv_at hl 5 rfl) ?_
    refine lv_iconst (v := nI (3)) hx hb dL_law_736 (by decide) ?_
    refine n_iadd hx hb dL_law_737 ?_
    refine s_ld (i := 5 * j + 3) hx hb hX hbl hbA I.2 (by omega) hL dL_law_738 ?_
    refine x_callV 5 2 (rest := []) (C := RX2) (T0 := TX2) (N := 4) E F I (m_nearest l g R B cd T P fo O (xs (5 * j + 1)) (xs (5 * j + 2)) (xs (5 * j + 3))) gL_law_X2_nearest rfl (by decide) rfl rfl rfl hd_X2_nearest rfl rfl ⟨by decide, by decide⟩ ⟨hfc, hfs⟩ rfl hl.1 rfl (Nat.le_of_ble_eq_true rfl) dL_law_739 (fun v8 u8 H locs hp8 I => ?_)
    obtain ⟨rfl, cd1, T1, P1, rfl, hm⟩ := hp8
    refine W.eq (g2 := F0 m 742 ls []) rfl ?_
    rcases hm with ⟨hn8, hc1, hT1⟩ | ⟨hsl8, hn8, hc1, hT1⟩ | ⟨hc1, s08, a8, c08, b_s08, b_a8, b_c08, e_s08, e_a8, e_c08, hany8, hM⟩
    · refine lv_aload_n hx hb dL_law_742 rfl (lv_at hl 3 rfl) ?_
      refine x_callVi 5 2 (rest := []) (C := RX2) (T0 := TX2) (N := 4) E F I (m_thrown l g R B cd1 T1 P1 fo O) gL_law_X2_thrown rfl (by decide) rfl rfl rfl hd_X2_thrown rfl rfl ⟨by decide, by decide⟩ ⟨hfc, hfs⟩ rfl hl.1 rfl (Nat.le_of_ble_eq_true rfl) dL_law_743 (fun H locs I => ?_)
      refine lv_iload hx hb dL_law_746 (lv_at hl 0 rfl) ?_
      refine lv_icmp_eq (tgt := 753) hx hb dL_law_748 (by decide) (fun h2 => ?_) (fun h2 => ?_)
      · refine lv_goto (tgt := 1278) hx hb dL_law_753 (by decide) ?_
        exact kk R B cd1 T1 P1 fo O H locs ls (by rw [hT1]; exact hAg) I (lv_sub hl [1, 2, 3, 4, 5] rfl)
      · exact absurd (hc1.trans nI1e) h2
    · exact absurd hsl8 hn
    · exact absurd ⟨⟨s08, b_s08, e_s08⟩, ⟨a8, b_a8, e_a8⟩, ⟨c08, b_c08, e_c08⟩⟩ hn
  · obtain ⟨-, hsl, hn⟩ := hxc.resolve_left (fun q => absurd q.1 (by decide))
    refine W.eq (g2 := F0 m 718 ls [.int (nI (2))]) rfl ?_
    refine lv_istore (lv' := [(5, .int (nI (2))), (0, .ref (b)), (1, .ref (gA g 0)), (2, .ref (gA g 5)), (3, .ref (gA g 9)), (4, .int (nI (5 * j)))]) hx hb dL_law_718 hl (by decide) rfl (fun ls hl => ?_)
    refine lv_aload_n hx hb dL_law_720 rfl (lv_at hl 3 rfl) ?_
    refine lv_aload_n hx hb dL_law_721 rfl (lv_at hl 1 rfl) ?_
    refine lv_iload hx hb dL_law_722 (lv_at hl 5 rfl) ?_
    refine lv_iconst (v := nI (1)) hx hb dL_law_724 (by decide) ?_
    refine n_iadd hx hb dL_law_725 ?_
    refine s_ld (i := 5 * j + 1) hx hb hX hbl hbA I.2 (by omega) hL dL_law_726 ?_
    refine lv_aload_n hx hb dL_law_727 rfl (lv_at hl 1 rfl) ?_
    refine lv_iload hx hb dL_law_728 (lv_at hl 5 rfl) ?_
    refine lv_iconst (v := nI (2)) hx hb dL_law_730 (by decide) ?_
    refine n_iadd hx hb dL_law_731 ?_
    refine s_ld (i := 5 * j + 2) hx hb hX hbl hbA I.2 (by omega) hL dL_law_732 ?_
    refine lv_aload_n hx hb dL_law_733 rfl (lv_at hl 1 rfl) ?_
    refine lv_iload hx hb dL_law_734 (lv_at hl 5 rfl) ?_
    refine lv_iconst (v := nI (3)) hx hb dL_law_736 (by decide) ?_
    refine n_iadd hx hb dL_law_737 ?_
    refine s_ld (i := 5 * j + 3) hx hb hX hbl hbA I.2 (by omega) hL dL_law_738 ?_
    refine x_callV 5 2 (rest := []) (C := RX2) (T0 := TX2) (N := 4) E F I (m_nearest l g R B cd T P fo O (xs (5 * j + 1)) (xs (5 * j + 2)) (xs (5 * j + 3))) gL_law_X2_nearest rfl (by decide) rfl rfl rfl hd_X2_nearest rfl rfl ⟨by decide, by decide⟩ ⟨hfc, hfs⟩ rfl hl.1 rfl (Nat.le_of_ble_eq_true rfl) dL_law_739 (fun v8 u8 H locs hp8 I => ?_)
    obtain ⟨rfl, cd1, T1, P1, rfl, hm⟩ := hp8
    refine W.eq (g2 := F0 m 742 ls []) rfl ?_
    rcases hm with ⟨hn8, hc1, hT1⟩ | ⟨hsl8, hn8, hc1, hT1⟩ | ⟨hc1, s08, a8, c08, b_s08, b_a8, b_c08, e_s08, e_a8, e_c08, hany8, hM⟩
    · exact absurd hsl hn8
    · refine lv_aload_n hx hb dL_law_742 rfl (lv_at hl 3 rfl) ?_
      refine x_callVi 5 2 (rest := []) (C := RX2) (T0 := TX2) (N := 4) E F I (m_thrown l g R B cd1 T1 P1 fo O) gL_law_X2_thrown rfl (by decide) rfl rfl rfl hd_X2_thrown rfl rfl ⟨by decide, by decide⟩ ⟨hfc, hfs⟩ rfl hl.1 rfl (Nat.le_of_ble_eq_true rfl) dL_law_743 (fun H locs I => ?_)
      refine lv_iload hx hb dL_law_746 (lv_at hl 0 rfl) ?_
      refine lv_icmp_eq (tgt := 753) hx hb dL_law_748 (by decide) (fun h3 => ?_) (fun h3 => ?_)
      · refine lv_goto (tgt := 1278) hx hb dL_law_753 (by decide) ?_
        exact kk R B cd1 T1 P1 fo O H locs ls (by rw [hT1]; exact hAg) I (lv_sub hl [1, 2, 3, 4, 5] rfl)
      · exact absurd (hc1.trans nI2e) h3
    · exact near_no hAg hn hM ⟨c08, b_c08, e_c08, hany8⟩
set_option maxHeartbeats 4000000 in
set_option maxRecDepth 100000 in
theorem lc_isSame {p : Program} {l : Launch} {e : Env} {s : State} {m : MethodId} {below : List Frame} {meth : Method} {c : Code} {H : Heap} {locs : List Loc} {Q : State → Prop} {ls : Array Slot} {g : Geo} {b L : Nat} {xs : Nat → Int32} {j : Nat} {R : Nat → Nat → Int64} {B : Rul} {cd : Int32} {T P : Nat → Bool} {fo : Nat → Int32} {O : Nat → Int64} (hl0 : l.stackTraces = false) (E : CallFix p m c cL_law 7 s #[Value.ref b] wsL_law RL) (F : Fx g s) (hX : va_X b L xs s s.heap) (hbl : b < s.heap.size) (hbA : ¬ gW g b) (hL : L ≤ 2560) (hjl : 5 * j + 5 ≤ L) (hfc : 62 + 5 * j + 5 ≤ room_1.cells) (hfs : 83840 + 30 * j + 30 ≤ room_1.slots) (hAg : Ag R T) (I : Iv g (R, B, (cd, bF T, bF P, fo), O) s H locs) (hl : lv_has ls 7 [(0, .ref (b)), (1, .ref (gA g 0)), (2, .ref (gA g 5)), (3, .ref (gA g 9)), (4, .int (nI (5 * j)))])
    (kk : ∀ (R : Nat → Nat → Int64) (B : Rul) (cd : Int32) (T P : Nat → Bool) (fo : Nat → Int32) (O : Nat → Int64) (H : Heap) (locs : List Loc) (ls : Array Slot), Ag R T → Iv g (R, B, (cd, bF T, bF P, fo), O) s H locs → lv_has ls 7 [(0, .ref (b)), (1, .ref (gA g 0)), (2, .ref (gA g 5)), (3, .ref (gA g 9)), (4, .int (nI (5 * j)))] → W p l e room_1 s m #[Value.ref b] below meth c H locs (62 + 5 * j + 5) (83840 + 30 * j + 30) Q (F0 m 1278 ls [])) : W p l e room_1 s m #[Value.ref b] below meth c H locs (62 + 5 * j) (83840 + 30 * j) Q (F0 m 756 ls []) := by
  have hx := E.1
  have hb := E.2.1
  refine lv_aload_n hx hb dL_law_756 rfl (lv_at hl 1 rfl) ?_
  refine lv_aload_n hx hb dL_law_757 rfl (lv_at hl 0 rfl) ?_
  refine lv_iload hx hb dL_law_758 (lv_at hl 4 rfl) ?_
  refine lv_iconst (v := nI (1)) hx hb dL_law_760 (by decide) ?_
  refine n_iadd hx hb dL_law_761 ?_
  refine s_ld (i := 5 * j + 1) hx hb hX hbl hbA I.2 (by omega) hL dL_law_762 ?_
  refine lv_aload_n hx hb dL_law_763 rfl (lv_at hl 0 rfl) ?_
  refine lv_iload hx hb dL_law_764 (lv_at hl 4 rfl) ?_
  refine lv_iconst (v := nI (2)) hx hb dL_law_766 (by decide) ?_
  refine n_iadd hx hb dL_law_767 ?_
  refine s_ld (i := 5 * j + 2) hx hb hX hbl hbA I.2 (by omega) hL dL_law_768 ?_
  refine lv_aload_n hx hb dL_law_769 rfl (lv_at hl 3 rfl) ?_
  refine l_call (rest := []) E F I (l_isSame l hl0 g R B (cd, bF T, bF P, fo) O (xs (5 * j + 1)) (xs (5 * j + 2))) gL_law_L_isSame rfl hd_L_isSame rfl rfl ⟨by decide, by decide⟩ ⟨hfc, hfs⟩ rfl hl.1 rfl (Nat.le_of_ble_eq_true rfl) dL_law_770 (fun v9 u9 H locs hp I => ?_)
  rcases hp with ⟨rfl, r9, u1, hq, rfl⟩ | ⟨rfl, hxc, rfl⟩ | ⟨rfl, hxc, rfl⟩
  · obtain ⟨rfl, a, b0, b_a, b_b0, e_a, e_b0, hv⟩ := hq
    have ev := Value.int.inj (Option.some.inj hv)
    have I : Iv g (R, B, (cd, bF T, bF P, fo), vp_updL O 0 (cvB r9)) s H locs := I
    refine W.eq (g2 := F0 m 773 ls [.int (nI (0))]) rfl ?_
    refine lv_istore (lv' := [(5, .int (nI (0))), (0, .ref (b)), (1, .ref (gA g 0)), (2, .ref (gA g 5)), (3, .ref (gA g 9)), (4, .int (nI (5 * j)))]) hx hb dL_law_773 hl (by decide) rfl (fun ls hl => ?_)
    refine lv_aload_n hx hb dL_law_775 rfl (lv_at hl 3 rfl) ?_
    refine lv_aload_n hx hb dL_law_776 rfl (lv_at hl 1 rfl) ?_
    refine lv_iload hx hb dL_law_777 (lv_at hl 5 rfl) ?_
    refine lv_iconst (v := nI (1)) hx hb dL_law_779 (by decide) ?_
    refine n_iadd hx hb dL_law_780 ?_
    refine s_ld (i := 5 * j + 1) hx hb hX hbl hbA I.2 (by omega) hL dL_law_781 ?_
    refine lv_aload_n hx hb dL_law_782 rfl (lv_at hl 1 rfl) ?_
    refine lv_iload hx hb dL_law_783 (lv_at hl 5 rfl) ?_
    refine lv_iconst (v := nI (2)) hx hb dL_law_785 (by decide) ?_
    refine n_iadd hx hb dL_law_786 ?_
    refine s_ld (i := 5 * j + 2) hx hb hX hbl hbA I.2 (by omega) hL dL_law_787 ?_
    refine x_callV 5 2 (rest := []) (C := RX2) (T0 := TX2) (N := 4) E F I (m_isSame l g R B cd T P fo (vp_updL O 0 (cvB r9)) (xs (5 * j + 1)) (xs (5 * j + 2))) gL_law_X2_isSame rfl (by decide) rfl rfl rfl hd_X2_isSame rfl rfl ⟨by decide, by decide⟩ ⟨hfc, hfs⟩ rfl hl.1 rfl (Nat.le_of_ble_eq_true rfl) dL_law_788 (fun v8 u8 H locs hp8 I => ?_)
    obtain ⟨r8, cd1, rfl, rfl, hm⟩ := hp8
    refine W.eq (g2 := F0 m 791 ls [.int (r8)]) rfl ?_
    rcases hm with ⟨hn8, hc1⟩ | ⟨hsl8, hn8, hc1⟩ | ⟨hc1, a8, b08, b_a8, b_b08, e_a8, e_b08, hres⟩
    · exact absurd ⟨⟨a, b_a, e_a⟩, ⟨b0, b_b0, e_b0⟩⟩ hn8
    · exact absurd trivial hn8
    · have q_a : a = a8 := (nI_eq (by omega) (by omega)).mp (e_a.symm.trans e_a8)
      subst q_a
      have q_b0 : b0 = b08 := (nI_eq (by omega) (by omega)).mp (e_b0.symm.trans e_b08)
      subst q_b0
      have hrr : r9 = r8 := ev.trans (by rw [hres, op_same (hAg a b_a) (hAg b0 b_b0)])
      refine lv_istore (lv' := [(6, .int (r8)), (5, .int (nI (0))), (0, .ref (b)), (1, .ref (gA g 0)), (2, .ref (gA g 5)), (3, .ref (gA g 9)), (4, .int (nI (5 * j)))]) hx hb dL_law_791 hl (by decide) rfl (fun ls hl => ?_)
      refine lv_aload_n hx hb dL_law_793 rfl (lv_at hl 4 rfl) ?_
      refine x_callVi 5 2 (rest := []) (C := RX2) (T0 := TX2) (N := 4) E F I (m_thrown l g R B cd1 T P fo (vp_updL O 0 (cvB r9))) gL_law_X2_thrown rfl (by decide) rfl rfl rfl hd_X2_thrown rfl rfl ⟨by decide, by decide⟩ ⟨hfc, hfs⟩ rfl hl.1 rfl (Nat.le_of_ble_eq_true rfl) dL_law_794 (fun H locs I => ?_)
      refine lv_iload hx hb dL_law_797 (lv_at hl 1 rfl) ?_
      refine lv_icmp_eq (tgt := 804) hx hb dL_law_799 (by decide) (fun h1 => ?_) (fun h1 => ?_)
      · refine lv_iload hx hb dL_law_804 (lv_at hl 1 rfl) ?_
        refine n_ifne (tgt := 828) hx hb (by decide) dL_law_806 (by decide) (fun q => absurd q (by decide)) (fun _ => ?_)
        refine lv_aload_n hx hb dL_law_809 rfl (lv_at hl 5 rfl) ?_
        refine lv_iconst (v := nI (0)) hx hb dL_law_810 (by decide) ?_
        refine x_oaload hx hb F I (by omega) dL_law_811 ?_
        refine lv_iload hx hb dL_law_812 (lv_at hl 0 rfl) ?_
        refine lv_if_eq (tgt := 821) hx hb dL_law_814 (by decide) (fun h3 => ?_) (fun h3 => ?_)
        · refine lv_lconst (v := 0) hx hb dL_law_821 (by decide) ?_
          refine n_leq (tgt := 828) hx hb dL_law_822 dL_law_823 (by decide) (fun h4 => ?_) (fun h4 => ?_)
          · refine lv_goto (tgt := 1278) hx hb dL_law_828 (by decide) ?_
            exact kk R B cd1 T P fo (vp_updL O 0 (cvB r9)) H locs ls hAg I (lv_sub hl [2, 3, 4, 5, 6] rfl)
          · exact absurd (by show vp_updL O 0 (cvB r9) 0 = _; rw [pk_uLs, hrr]; simp [cvB, h3]) h4
        · refine lv_lconst (v := 1) hx hb dL_law_817 (by decide) ?_
          refine lv_goto (tgt := 822) hx hb dL_law_818 (by decide) ?_
          refine n_leq (tgt := 828) hx hb dL_law_822 dL_law_823 (by decide) (fun h5 => ?_) (fun h5 => ?_)
          · refine lv_goto (tgt := 1278) hx hb dL_law_828 (by decide) ?_
            exact kk R B cd1 T P fo (vp_updL O 0 (cvB r9)) H locs ls hAg I (lv_sub hl [2, 3, 4, 5, 6] rfl)
          · exact absurd (by show vp_updL O 0 (cvB r9) 0 = _; rw [pk_uLs, hrr]; simp [cvB, h3]) h5
      · exact absurd (hc1.trans nI0e) h1
  · have hn := hxc.2
    refine W.eq (g2 := F0 m 773 ls [.int (nI (1))]) rfl ?_
    refine lv_istore (lv' := [(5, .int (nI (1))), (0, .ref (b)), (1, .ref (gA g 0)), (2, .ref (gA g 5)), (3, .ref (gA g 9)), (4, .int (nI (5 * j)))]) hx hb dL_law_773 hl (by decide) rfl (fun ls hl => ?_)
    refine lv_aload_n hx hb dL_law_775 rfl (lv_at hl 3 rfl) ?_
    refine lv_aload_n hx hb dL_law_776 rfl (lv_at hl 1 rfl) ?_
    refine lv_iload hx hb dL_law_777 (lv_at hl 5 rfl) ?_
    refine lv_iconst (v := nI (1)) hx hb dL_law_779 (by decide) ?_
    refine n_iadd hx hb dL_law_780 ?_
    refine s_ld (i := 5 * j + 1) hx hb hX hbl hbA I.2 (by omega) hL dL_law_781 ?_
    refine lv_aload_n hx hb dL_law_782 rfl (lv_at hl 1 rfl) ?_
    refine lv_iload hx hb dL_law_783 (lv_at hl 5 rfl) ?_
    refine lv_iconst (v := nI (2)) hx hb dL_law_785 (by decide) ?_
    refine n_iadd hx hb dL_law_786 ?_
    refine s_ld (i := 5 * j + 2) hx hb hX hbl hbA I.2 (by omega) hL dL_law_787 ?_
    refine x_callV 5 2 (rest := []) (C := RX2) (T0 := TX2) (N := 4) E F I (m_isSame l g R B cd T P fo O (xs (5 * j + 1)) (xs (5 * j + 2))) gL_law_X2_isSame rfl (by decide) rfl rfl rfl hd_X2_isSame rfl rfl ⟨by decide, by decide⟩ ⟨hfc, hfs⟩ rfl hl.1 rfl (Nat.le_of_ble_eq_true rfl) dL_law_788 (fun v8 u8 H locs hp8 I => ?_)
    obtain ⟨r8, cd1, rfl, rfl, hm⟩ := hp8
    refine W.eq (g2 := F0 m 791 ls [.int (r8)]) rfl ?_
    rcases hm with ⟨hn8, hc1⟩ | ⟨hsl8, hn8, hc1⟩ | ⟨hc1, a8, b08, b_a8, b_b08, e_a8, e_b08, hres⟩
    · refine lv_istore (lv' := [(6, .int (r8)), (5, .int (nI (1))), (0, .ref (b)), (1, .ref (gA g 0)), (2, .ref (gA g 5)), (3, .ref (gA g 9)), (4, .int (nI (5 * j)))]) hx hb dL_law_791 hl (by decide) rfl (fun ls hl => ?_)
      refine lv_aload_n hx hb dL_law_793 rfl (lv_at hl 4 rfl) ?_
      refine x_callVi 5 2 (rest := []) (C := RX2) (T0 := TX2) (N := 4) E F I (m_thrown l g R B cd1 T P fo O) gL_law_X2_thrown rfl (by decide) rfl rfl rfl hd_X2_thrown rfl rfl ⟨by decide, by decide⟩ ⟨hfc, hfs⟩ rfl hl.1 rfl (Nat.le_of_ble_eq_true rfl) dL_law_794 (fun H locs I => ?_)
      refine lv_iload hx hb dL_law_797 (lv_at hl 1 rfl) ?_
      refine lv_icmp_eq (tgt := 804) hx hb dL_law_799 (by decide) (fun h6 => ?_) (fun h6 => ?_)
      · refine lv_iload hx hb dL_law_804 (lv_at hl 1 rfl) ?_
        refine n_ifne (tgt := 828) hx hb (by decide) dL_law_806 (by decide) (fun _ => ?_) (fun q => absurd q (by decide))
        refine lv_goto (tgt := 1278) hx hb dL_law_828 (by decide) ?_
        exact kk R B cd1 T P fo O H locs ls hAg I (lv_sub hl [2, 3, 4, 5, 6] rfl)
      · exact absurd (hc1.trans nI1e) h6
    · exact absurd hsl8 hn
    · exact absurd ⟨⟨a8, b_a8, e_a8⟩, ⟨b08, b_b08, e_b08⟩⟩ hn
  · exact absurd hxc.1 (by decide)
set_option maxHeartbeats 4000000 in
set_option maxRecDepth 100000 in
theorem lc_truth {p : Program} {l : Launch} {e : Env} {s : State} {m : MethodId} {below : List Frame} {meth : Method} {c : Code} {H : Heap} {locs : List Loc} {Q : State → Prop} {ls : Array Slot} {g : Geo} {b L : Nat} {xs : Nat → Int32} {j : Nat} {R : Nat → Nat → Int64} {B : Rul} {cd : Int32} {T P : Nat → Bool} {fo : Nat → Int32} {O : Nat → Int64} (hl0 : l.stackTraces = false) (E : CallFix p m c cL_law 7 s #[Value.ref b] wsL_law RL) (F : Fx g s) (hX : va_X b L xs s s.heap) (hbl : b < s.heap.size) (hbA : ¬ gW g b) (hL : L ≤ 2560) (hjl : 5 * j + 5 ≤ L) (hfc : 62 + 5 * j + 5 ≤ room_1.cells) (hfs : 83840 + 30 * j + 30 ≤ room_1.slots) (hAg : Ag R T) (I : Iv g (R, B, (cd, bF T, bF P, fo), O) s H locs) (hl : lv_has ls 7 [(0, .ref (b)), (1, .ref (gA g 0)), (2, .ref (gA g 5)), (3, .ref (gA g 9)), (4, .int (nI (5 * j)))])
    (kk : ∀ (R : Nat → Nat → Int64) (B : Rul) (cd : Int32) (T P : Nat → Bool) (fo : Nat → Int32) (O : Nat → Int64) (H : Heap) (locs : List Loc) (ls : Array Slot), Ag R T → Iv g (R, B, (cd, bF T, bF P, fo), O) s H locs → lv_has ls 7 [(0, .ref (b)), (1, .ref (gA g 0)), (2, .ref (gA g 5)), (3, .ref (gA g 9)), (4, .int (nI (5 * j)))] → W p l e room_1 s m #[Value.ref b] below meth c H locs (62 + 5 * j + 5) (83840 + 30 * j + 30) Q (F0 m 1278 ls [])) : W p l e room_1 s m #[Value.ref b] below meth c H locs (62 + 5 * j) (83840 + 30 * j) Q (F0 m 831 ls []) := by
  have hx := E.1
  have hb := E.2.1
  refine lv_aload_n hx hb dL_law_831 rfl (lv_at hl 1 rfl) ?_
  refine lv_aload_n hx hb dL_law_832 rfl (lv_at hl 0 rfl) ?_
  refine lv_iload hx hb dL_law_833 (lv_at hl 4 rfl) ?_
  refine lv_iconst (v := nI (1)) hx hb dL_law_835 (by decide) ?_
  refine n_iadd hx hb dL_law_836 ?_
  refine s_ld (i := 5 * j + 1) hx hb hX hbl hbA I.2 (by omega) hL dL_law_837 ?_
  refine lv_aload_n hx hb dL_law_838 rfl (lv_at hl 0 rfl) ?_
  refine lv_iload hx hb dL_law_839 (lv_at hl 4 rfl) ?_
  refine lv_iconst (v := nI (2)) hx hb dL_law_841 (by decide) ?_
  refine n_iadd hx hb dL_law_842 ?_
  refine s_ld (i := 5 * j + 2) hx hb hX hbl hbA I.2 (by omega) hL dL_law_843 ?_
  refine lv_aload_n hx hb dL_law_844 rfl (lv_at hl 3 rfl) ?_
  refine l_call (rest := []) E F I (l_truth l hl0 g R B (cd, bF T, bF P, fo) O (xs (5 * j + 1)) (xs (5 * j + 2))) gL_law_L_truth rfl hd_L_truth rfl rfl ⟨by decide, by decide⟩ ⟨hfc, hfs⟩ rfl hl.1 rfl (Nat.le_of_ble_eq_true rfl) dL_law_845 (fun v9 u9 H locs hp I => ?_)
  rcases hp with ⟨rfl, r9, u1, hq, rfl⟩ | ⟨rfl, hxc, rfl⟩ | ⟨rfl, hxc, rfl⟩
  · obtain ⟨rfl, a, k, b_a, b_k, e_a, e_k, hv⟩ := hq
    have ev := Value.int.inj (Option.some.inj hv)
    have I : Iv g (R, B, (cd, bF T, bF P, fo), vp_updL O 0 (cvB r9)) s H locs := I
    refine W.eq (g2 := F0 m 848 ls [.int (nI (0))]) rfl ?_
    refine lv_istore (lv' := [(5, .int (nI (0))), (0, .ref (b)), (1, .ref (gA g 0)), (2, .ref (gA g 5)), (3, .ref (gA g 9)), (4, .int (nI (5 * j)))]) hx hb dL_law_848 hl (by decide) rfl (fun ls hl => ?_)
    refine lv_aload_n hx hb dL_law_850 rfl (lv_at hl 3 rfl) ?_
    refine lv_aload_n hx hb dL_law_851 rfl (lv_at hl 1 rfl) ?_
    refine lv_iload hx hb dL_law_852 (lv_at hl 5 rfl) ?_
    refine lv_iconst (v := nI (1)) hx hb dL_law_854 (by decide) ?_
    refine n_iadd hx hb dL_law_855 ?_
    refine s_ld (i := 5 * j + 1) hx hb hX hbl hbA I.2 (by omega) hL dL_law_856 ?_
    refine lv_aload_n hx hb dL_law_857 rfl (lv_at hl 1 rfl) ?_
    refine lv_iload hx hb dL_law_858 (lv_at hl 5 rfl) ?_
    refine lv_iconst (v := nI (2)) hx hb dL_law_860 (by decide) ?_
    refine n_iadd hx hb dL_law_861 ?_
    refine s_ld (i := 5 * j + 2) hx hb hX hbl hbA I.2 (by omega) hL dL_law_862 ?_
    refine x_callV 5 2 (rest := []) (C := RX2) (T0 := TX2) (N := 4) E F I (m_truth l g R B cd T P fo (vp_updL O 0 (cvB r9)) (xs (5 * j + 1)) (xs (5 * j + 2))) gL_law_X2_truth rfl (by decide) rfl rfl rfl hd_X2_truth rfl rfl ⟨by decide, by decide⟩ ⟨hfc, hfs⟩ rfl hl.1 rfl (Nat.le_of_ble_eq_true rfl) dL_law_863 (fun v8 u8 H locs hp8 I => ?_)
    obtain ⟨r8, cd1, rfl, rfl, hm⟩ := hp8
    refine W.eq (g2 := F0 m 866 ls [.int (r8)]) rfl ?_
    rcases hm with ⟨hn8, hc1⟩ | ⟨hsl8, hn8, hc1⟩ | ⟨hc1, a8, k8, b_a8, b_k8, e_a8, e_k8, hres⟩
    · exact absurd ⟨a, b_a, e_a⟩ hn8
    · exact absurd ⟨k, b_k, e_k⟩ hn8
    · have q_a : a = a8 := (nI_eq (by omega) (by omega)).mp (e_a.symm.trans e_a8)
      subst q_a
      have q_k : k = k8 := (nI_eq (by omega) (by omega)).mp (e_k.symm.trans e_k8)
      subst q_k
      have hrr : r9 = r8 := ev.trans (by rw [hres, hAg a b_a k b_k, op_truth])
      refine lv_istore (lv' := [(6, .int (r8)), (5, .int (nI (0))), (0, .ref (b)), (1, .ref (gA g 0)), (2, .ref (gA g 5)), (3, .ref (gA g 9)), (4, .int (nI (5 * j)))]) hx hb dL_law_866 hl (by decide) rfl (fun ls hl => ?_)
      refine lv_aload_n hx hb dL_law_868 rfl (lv_at hl 4 rfl) ?_
      refine x_callVi 5 2 (rest := []) (C := RX2) (T0 := TX2) (N := 4) E F I (m_thrown l g R B cd1 T P fo (vp_updL O 0 (cvB r9))) gL_law_X2_thrown rfl (by decide) rfl rfl rfl hd_X2_thrown rfl rfl ⟨by decide, by decide⟩ ⟨hfc, hfs⟩ rfl hl.1 rfl (Nat.le_of_ble_eq_true rfl) dL_law_869 (fun H locs I => ?_)
      refine lv_iload hx hb dL_law_872 (lv_at hl 1 rfl) ?_
      refine lv_icmp_eq (tgt := 879) hx hb dL_law_874 (by decide) (fun h1 => ?_) (fun h1 => ?_)
      · refine lv_iload hx hb dL_law_879 (lv_at hl 1 rfl) ?_
        refine n_ifne (tgt := 903) hx hb (by decide) dL_law_881 (by decide) (fun q => absurd q (by decide)) (fun _ => ?_)
        refine lv_aload_n hx hb dL_law_884 rfl (lv_at hl 5 rfl) ?_
        refine lv_iconst (v := nI (0)) hx hb dL_law_885 (by decide) ?_
        refine x_oaload hx hb F I (by omega) dL_law_886 ?_
        refine lv_iload hx hb dL_law_887 (lv_at hl 0 rfl) ?_
        refine lv_if_eq (tgt := 896) hx hb dL_law_889 (by decide) (fun h3 => ?_) (fun h3 => ?_)
        · refine lv_lconst (v := 0) hx hb dL_law_896 (by decide) ?_
          refine n_leq (tgt := 903) hx hb dL_law_897 dL_law_898 (by decide) (fun h4 => ?_) (fun h4 => ?_)
          · refine lv_goto (tgt := 1278) hx hb dL_law_903 (by decide) ?_
            exact kk R B cd1 T P fo (vp_updL O 0 (cvB r9)) H locs ls hAg I (lv_sub hl [2, 3, 4, 5, 6] rfl)
          · exact absurd (by show vp_updL O 0 (cvB r9) 0 = _; rw [pk_uLs, hrr]; simp [cvB, h3]) h4
        · refine lv_lconst (v := 1) hx hb dL_law_892 (by decide) ?_
          refine lv_goto (tgt := 897) hx hb dL_law_893 (by decide) ?_
          refine n_leq (tgt := 903) hx hb dL_law_897 dL_law_898 (by decide) (fun h5 => ?_) (fun h5 => ?_)
          · refine lv_goto (tgt := 1278) hx hb dL_law_903 (by decide) ?_
            exact kk R B cd1 T P fo (vp_updL O 0 (cvB r9)) H locs ls hAg I (lv_sub hl [2, 3, 4, 5, 6] rfl)
          · exact absurd (by show vp_updL O 0 (cvB r9) 0 = _; rw [pk_uLs, hrr]; simp [cvB, h3]) h5
      · exact absurd (hc1.trans nI0e) h1
  · have hn := hxc.resolve_right (fun q => absurd q.1 (by decide))
    have hn := hn.2
    refine W.eq (g2 := F0 m 848 ls [.int (nI (1))]) rfl ?_
    refine lv_istore (lv' := [(5, .int (nI (1))), (0, .ref (b)), (1, .ref (gA g 0)), (2, .ref (gA g 5)), (3, .ref (gA g 9)), (4, .int (nI (5 * j)))]) hx hb dL_law_848 hl (by decide) rfl (fun ls hl => ?_)
    refine lv_aload_n hx hb dL_law_850 rfl (lv_at hl 3 rfl) ?_
    refine lv_aload_n hx hb dL_law_851 rfl (lv_at hl 1 rfl) ?_
    refine lv_iload hx hb dL_law_852 (lv_at hl 5 rfl) ?_
    refine lv_iconst (v := nI (1)) hx hb dL_law_854 (by decide) ?_
    refine n_iadd hx hb dL_law_855 ?_
    refine s_ld (i := 5 * j + 1) hx hb hX hbl hbA I.2 (by omega) hL dL_law_856 ?_
    refine lv_aload_n hx hb dL_law_857 rfl (lv_at hl 1 rfl) ?_
    refine lv_iload hx hb dL_law_858 (lv_at hl 5 rfl) ?_
    refine lv_iconst (v := nI (2)) hx hb dL_law_860 (by decide) ?_
    refine n_iadd hx hb dL_law_861 ?_
    refine s_ld (i := 5 * j + 2) hx hb hX hbl hbA I.2 (by omega) hL dL_law_862 ?_
    refine x_callV 5 2 (rest := []) (C := RX2) (T0 := TX2) (N := 4) E F I (m_truth l g R B cd T P fo O (xs (5 * j + 1)) (xs (5 * j + 2))) gL_law_X2_truth rfl (by decide) rfl rfl rfl hd_X2_truth rfl rfl ⟨by decide, by decide⟩ ⟨hfc, hfs⟩ rfl hl.1 rfl (Nat.le_of_ble_eq_true rfl) dL_law_863 (fun v8 u8 H locs hp8 I => ?_)
    obtain ⟨r8, cd1, rfl, rfl, hm⟩ := hp8
    refine W.eq (g2 := F0 m 866 ls [.int (r8)]) rfl ?_
    rcases hm with ⟨hn8, hc1⟩ | ⟨hsl8, hn8, hc1⟩ | ⟨hc1, a8, k8, b_a8, b_k8, e_a8, e_k8, hres⟩
    · refine lv_istore (lv' := [(6, .int (r8)), (5, .int (nI (1))), (0, .ref (b)), (1, .ref (gA g 0)), (2, .ref (gA g 5)), (3, .ref (gA g 9)), (4, .int (nI (5 * j)))]) hx hb dL_law_866 hl (by decide) rfl (fun ls hl => ?_)
      refine lv_aload_n hx hb dL_law_868 rfl (lv_at hl 4 rfl) ?_
      refine x_callVi 5 2 (rest := []) (C := RX2) (T0 := TX2) (N := 4) E F I (m_thrown l g R B cd1 T P fo O) gL_law_X2_thrown rfl (by decide) rfl rfl rfl hd_X2_thrown rfl rfl ⟨by decide, by decide⟩ ⟨hfc, hfs⟩ rfl hl.1 rfl (Nat.le_of_ble_eq_true rfl) dL_law_869 (fun H locs I => ?_)
      refine lv_iload hx hb dL_law_872 (lv_at hl 1 rfl) ?_
      refine lv_icmp_eq (tgt := 879) hx hb dL_law_874 (by decide) (fun h6 => ?_) (fun h6 => ?_)
      · refine lv_iload hx hb dL_law_879 (lv_at hl 1 rfl) ?_
        refine n_ifne (tgt := 903) hx hb (by decide) dL_law_881 (by decide) (fun _ => ?_) (fun q => absurd q (by decide))
        refine lv_goto (tgt := 1278) hx hb dL_law_903 (by decide) ?_
        exact kk R B cd1 T P fo O H locs ls hAg I (lv_sub hl [2, 3, 4, 5, 6] rfl)
      · exact absurd (hc1.trans nI1e) h6
    · exact absurd hsl8 hn
    · exact absurd ⟨a8, b_a8, e_a8⟩ hn
  · obtain ⟨-, hsl, hn⟩ := hxc.resolve_left (fun q => absurd q.1 (by decide))
    refine W.eq (g2 := F0 m 848 ls [.int (nI (2))]) rfl ?_
    refine lv_istore (lv' := [(5, .int (nI (2))), (0, .ref (b)), (1, .ref (gA g 0)), (2, .ref (gA g 5)), (3, .ref (gA g 9)), (4, .int (nI (5 * j)))]) hx hb dL_law_848 hl (by decide) rfl (fun ls hl => ?_)
    refine lv_aload_n hx hb dL_law_850 rfl (lv_at hl 3 rfl) ?_
    refine lv_aload_n hx hb dL_law_851 rfl (lv_at hl 1 rfl) ?_
    refine lv_iload hx hb dL_law_852 (lv_at hl 5 rfl) ?_
    refine lv_iconst (v := nI (1)) hx hb dL_law_854 (by decide) ?_
    refine n_iadd hx hb dL_law_855 ?_
    refine s_ld (i := 5 * j + 1) hx hb hX hbl hbA I.2 (by omega) hL dL_law_856 ?_
    refine lv_aload_n hx hb dL_law_857 rfl (lv_at hl 1 rfl) ?_
    refine lv_iload hx hb dL_law_858 (lv_at hl 5 rfl) ?_
    refine lv_iconst (v := nI (2)) hx hb dL_law_860 (by decide) ?_
    refine n_iadd hx hb dL_law_861 ?_
    refine s_ld (i := 5 * j + 2) hx hb hX hbl hbA I.2 (by omega) hL dL_law_862 ?_
    refine x_callV 5 2 (rest := []) (C := RX2) (T0 := TX2) (N := 4) E F I (m_truth l g R B cd T P fo O (xs (5 * j + 1)) (xs (5 * j + 2))) gL_law_X2_truth rfl (by decide) rfl rfl rfl hd_X2_truth rfl rfl ⟨by decide, by decide⟩ ⟨hfc, hfs⟩ rfl hl.1 rfl (Nat.le_of_ble_eq_true rfl) dL_law_863 (fun v8 u8 H locs hp8 I => ?_)
    obtain ⟨r8, cd1, rfl, rfl, hm⟩ := hp8
    refine W.eq (g2 := F0 m 866 ls [.int (r8)]) rfl ?_
    rcases hm with ⟨hn8, hc1⟩ | ⟨hsl8, hn8, hc1⟩ | ⟨hc1, a8, k8, b_a8, b_k8, e_a8, e_k8, hres⟩
    · exact absurd hsl hn8
    · refine lv_istore (lv' := [(6, .int (r8)), (5, .int (nI (2))), (0, .ref (b)), (1, .ref (gA g 0)), (2, .ref (gA g 5)), (3, .ref (gA g 9)), (4, .int (nI (5 * j)))]) hx hb dL_law_866 hl (by decide) rfl (fun ls hl => ?_)
      refine lv_aload_n hx hb dL_law_868 rfl (lv_at hl 4 rfl) ?_
      refine x_callVi 5 2 (rest := []) (C := RX2) (T0 := TX2) (N := 4) E F I (m_thrown l g R B cd1 T P fo O) gL_law_X2_thrown rfl (by decide) rfl rfl rfl hd_X2_thrown rfl rfl ⟨by decide, by decide⟩ ⟨hfc, hfs⟩ rfl hl.1 rfl (Nat.le_of_ble_eq_true rfl) dL_law_869 (fun H locs I => ?_)
      refine lv_iload hx hb dL_law_872 (lv_at hl 1 rfl) ?_
      refine lv_icmp_eq (tgt := 879) hx hb dL_law_874 (by decide) (fun h8 => ?_) (fun h8 => ?_)
      · refine lv_iload hx hb dL_law_879 (lv_at hl 1 rfl) ?_
        refine n_ifne (tgt := 903) hx hb (by decide) dL_law_881 (by decide) (fun _ => ?_) (fun q => absurd q (by decide))
        refine lv_goto (tgt := 1278) hx hb dL_law_903 (by decide) ?_
        exact kk R B cd1 T P fo O H locs ls hAg I (lv_sub hl [2, 3, 4, 5, 6] rfl)
      · exact absurd (hc1.trans nI2e) h8
    · exact absurd ⟨k8, b_k8, e_k8⟩ hn
set_option maxHeartbeats 4000000 in
set_option maxRecDepth 100000 in
theorem lc_count {p : Program} {l : Launch} {e : Env} {s : State} {m : MethodId} {below : List Frame} {meth : Method} {c : Code} {H : Heap} {locs : List Loc} {Q : State → Prop} {ls : Array Slot} {g : Geo} {b L : Nat} {xs : Nat → Int32} {j : Nat} {R : Nat → Nat → Int64} {B : Rul} {cd : Int32} {T P : Nat → Bool} {fo : Nat → Int32} {O : Nat → Int64} (hl0 : l.stackTraces = false) (E : CallFix p m c cL_law 7 s #[Value.ref b] wsL_law RL) (F : Fx g s) (hX : va_X b L xs s s.heap) (hbl : b < s.heap.size) (hbA : ¬ gW g b) (hL : L ≤ 2560) (hjl : 5 * j + 5 ≤ L) (hfc : 62 + 5 * j + 5 ≤ room_1.cells) (hfs : 83840 + 30 * j + 30 ≤ room_1.slots) (hAg : Ag R T) (I : Iv g (R, B, (cd, bF T, bF P, fo), O) s H locs) (hl : lv_has ls 7 [(0, .ref (b)), (1, .ref (gA g 0)), (2, .ref (gA g 5)), (3, .ref (gA g 9)), (4, .int (nI (5 * j)))])
    (kk : ∀ (R : Nat → Nat → Int64) (B : Rul) (cd : Int32) (T P : Nat → Bool) (fo : Nat → Int32) (O : Nat → Int64) (H : Heap) (locs : List Loc) (ls : Array Slot), Ag R T → Iv g (R, B, (cd, bF T, bF P, fo), O) s H locs → lv_has ls 7 [(0, .ref (b)), (1, .ref (gA g 0)), (2, .ref (gA g 5)), (3, .ref (gA g 9)), (4, .int (nI (5 * j)))] → W p l e room_1 s m #[Value.ref b] below meth c H locs (62 + 5 * j + 5) (83840 + 30 * j + 30) Q (F0 m 1278 ls [])) : W p l e room_1 s m #[Value.ref b] below meth c H locs (62 + 5 * j) (83840 + 30 * j) Q (F0 m 906 ls []) := by
  have hx := E.1
  have hb := E.2.1
  refine lv_aload_n hx hb dL_law_906 rfl (lv_at hl 1 rfl) ?_
  refine lv_aload_n hx hb dL_law_907 rfl (lv_at hl 0 rfl) ?_
  refine lv_iload hx hb dL_law_908 (lv_at hl 4 rfl) ?_
  refine lv_iconst (v := nI (1)) hx hb dL_law_910 (by decide) ?_
  refine n_iadd hx hb dL_law_911 ?_
  refine s_ld (i := 5 * j + 1) hx hb hX hbl hbA I.2 (by omega) hL dL_law_912 ?_
  refine lv_aload_n hx hb dL_law_913 rfl (lv_at hl 3 rfl) ?_
  refine l_call (rest := []) E F I (l_count l hl0 g R B (cd, bF T, bF P, fo) O (xs (5 * j + 1))) gL_law_L_count rfl hd_L_count rfl rfl ⟨by decide, by decide⟩ ⟨hfc, hfs⟩ rfl hl.1 rfl (Nat.le_of_ble_eq_true rfl) dL_law_914 (fun v9 u9 H locs hp I => ?_)
  rcases hp with ⟨rfl, r9, u1, hq, rfl⟩ | ⟨rfl, hxc, rfl⟩ | ⟨rfl, hxc, rfl⟩
  · obtain ⟨rfl, a, b_a, e_a, hv⟩ := hq
    have ev := Value.int.inj (Option.some.inj hv)
    have I : Iv g (R, B, (cd, bF T, bF P, fo), vp_updL O 0 (cvI r9)) s H locs := I
    refine W.eq (g2 := F0 m 917 ls [.int (nI (0))]) rfl ?_
    refine lv_istore (lv' := [(5, .int (nI (0))), (0, .ref (b)), (1, .ref (gA g 0)), (2, .ref (gA g 5)), (3, .ref (gA g 9)), (4, .int (nI (5 * j)))]) hx hb dL_law_917 hl (by decide) rfl (fun ls hl => ?_)
    refine lv_aload_n hx hb dL_law_919 rfl (lv_at hl 3 rfl) ?_
    refine lv_aload_n hx hb dL_law_920 rfl (lv_at hl 1 rfl) ?_
    refine lv_iload hx hb dL_law_921 (lv_at hl 5 rfl) ?_
    refine lv_iconst (v := nI (1)) hx hb dL_law_923 (by decide) ?_
    refine n_iadd hx hb dL_law_924 ?_
    refine s_ld (i := 5 * j + 1) hx hb hX hbl hbA I.2 (by omega) hL dL_law_925 ?_
    refine x_callV 5 2 (rest := []) (C := RX2) (T0 := TX2) (N := 4) E F I (m_count l g R B cd T P fo (vp_updL O 0 (cvI r9)) (xs (5 * j + 1))) gL_law_X2_count rfl (by decide) rfl rfl rfl hd_X2_count rfl rfl ⟨by decide, by decide⟩ ⟨hfc, hfs⟩ rfl hl.1 rfl (Nat.le_of_ble_eq_true rfl) dL_law_926 (fun v8 u8 H locs hp8 I => ?_)
    obtain ⟨r8, cd1, rfl, rfl, hm⟩ := hp8
    refine W.eq (g2 := F0 m 929 ls [.int (r8)]) rfl ?_
    rcases hm with ⟨hn8, hc1⟩ | ⟨hsl8, hn8, hc1⟩ | ⟨hc1, a8, b_a8, e_a8, hres⟩
    · exact absurd ⟨a, b_a, e_a⟩ hn8
    · exact absurd trivial hn8
    · have q_a : a = a8 := (nI_eq (by omega) (by omega)).mp (e_a.symm.trans e_a8)
      subst q_a
      have hrr : r9 = r8 := ev.trans (by rw [hres, op_count (hAg a b_a)])
      refine lv_istore (lv' := [(6, .int (r8)), (5, .int (nI (0))), (0, .ref (b)), (1, .ref (gA g 0)), (2, .ref (gA g 5)), (3, .ref (gA g 9)), (4, .int (nI (5 * j)))]) hx hb dL_law_929 hl (by decide) rfl (fun ls hl => ?_)
      refine lv_aload_n hx hb dL_law_931 rfl (lv_at hl 4 rfl) ?_
      refine x_callVi 5 2 (rest := []) (C := RX2) (T0 := TX2) (N := 4) E F I (m_thrown l g R B cd1 T P fo (vp_updL O 0 (cvI r9))) gL_law_X2_thrown rfl (by decide) rfl rfl rfl hd_X2_thrown rfl rfl ⟨by decide, by decide⟩ ⟨hfc, hfs⟩ rfl hl.1 rfl (Nat.le_of_ble_eq_true rfl) dL_law_932 (fun H locs I => ?_)
      refine lv_iload hx hb dL_law_935 (lv_at hl 1 rfl) ?_
      refine lv_icmp_eq (tgt := 942) hx hb dL_law_937 (by decide) (fun h1 => ?_) (fun h1 => ?_)
      · refine lv_iload hx hb dL_law_942 (lv_at hl 1 rfl) ?_
        refine n_ifne (tgt := 959) hx hb (by decide) dL_law_944 (by decide) (fun q => absurd q (by decide)) (fun _ => ?_)
        refine lv_aload_n hx hb dL_law_947 rfl (lv_at hl 5 rfl) ?_
        refine lv_iconst (v := nI (0)) hx hb dL_law_948 (by decide) ?_
        refine x_oaload hx hb F I (by omega) dL_law_949 ?_
        refine lv_iload hx hb dL_law_950 (lv_at hl 0 rfl) ?_
        refine lv_i2l hx hb dL_law_952 rfl ?_
        refine n_leq (tgt := 959) hx hb dL_law_953 dL_law_954 (by decide) (fun h3 => ?_) (fun h3 => ?_)
        · refine lv_goto (tgt := 1278) hx hb dL_law_959 (by decide) ?_
          exact kk R B cd1 T P fo (vp_updL O 0 (cvI r9)) H locs ls hAg I (lv_sub hl [2, 3, 4, 5, 6] rfl)
        · exact absurd (by show vp_updL O 0 (cvI r9) 0 = _; rw [pk_uLs, hrr]; rfl) h3
      · exact absurd (hc1.trans nI0e) h1
  · have hn := hxc.2
    refine W.eq (g2 := F0 m 917 ls [.int (nI (1))]) rfl ?_
    refine lv_istore (lv' := [(5, .int (nI (1))), (0, .ref (b)), (1, .ref (gA g 0)), (2, .ref (gA g 5)), (3, .ref (gA g 9)), (4, .int (nI (5 * j)))]) hx hb dL_law_917 hl (by decide) rfl (fun ls hl => ?_)
    refine lv_aload_n hx hb dL_law_919 rfl (lv_at hl 3 rfl) ?_
    refine lv_aload_n hx hb dL_law_920 rfl (lv_at hl 1 rfl) ?_
    refine lv_iload hx hb dL_law_921 (lv_at hl 5 rfl) ?_
    refine lv_iconst (v := nI (1)) hx hb dL_law_923 (by decide) ?_
    refine n_iadd hx hb dL_law_924 ?_
    refine s_ld (i := 5 * j + 1) hx hb hX hbl hbA I.2 (by omega) hL dL_law_925 ?_
    refine x_callV 5 2 (rest := []) (C := RX2) (T0 := TX2) (N := 4) E F I (m_count l g R B cd T P fo O (xs (5 * j + 1))) gL_law_X2_count rfl (by decide) rfl rfl rfl hd_X2_count rfl rfl ⟨by decide, by decide⟩ ⟨hfc, hfs⟩ rfl hl.1 rfl (Nat.le_of_ble_eq_true rfl) dL_law_926 (fun v8 u8 H locs hp8 I => ?_)
    obtain ⟨r8, cd1, rfl, rfl, hm⟩ := hp8
    refine W.eq (g2 := F0 m 929 ls [.int (r8)]) rfl ?_
    rcases hm with ⟨hn8, hc1⟩ | ⟨hsl8, hn8, hc1⟩ | ⟨hc1, a8, b_a8, e_a8, hres⟩
    · refine lv_istore (lv' := [(6, .int (r8)), (5, .int (nI (1))), (0, .ref (b)), (1, .ref (gA g 0)), (2, .ref (gA g 5)), (3, .ref (gA g 9)), (4, .int (nI (5 * j)))]) hx hb dL_law_929 hl (by decide) rfl (fun ls hl => ?_)
      refine lv_aload_n hx hb dL_law_931 rfl (lv_at hl 4 rfl) ?_
      refine x_callVi 5 2 (rest := []) (C := RX2) (T0 := TX2) (N := 4) E F I (m_thrown l g R B cd1 T P fo O) gL_law_X2_thrown rfl (by decide) rfl rfl rfl hd_X2_thrown rfl rfl ⟨by decide, by decide⟩ ⟨hfc, hfs⟩ rfl hl.1 rfl (Nat.le_of_ble_eq_true rfl) dL_law_932 (fun H locs I => ?_)
      refine lv_iload hx hb dL_law_935 (lv_at hl 1 rfl) ?_
      refine lv_icmp_eq (tgt := 942) hx hb dL_law_937 (by decide) (fun h4 => ?_) (fun h4 => ?_)
      · refine lv_iload hx hb dL_law_942 (lv_at hl 1 rfl) ?_
        refine n_ifne (tgt := 959) hx hb (by decide) dL_law_944 (by decide) (fun _ => ?_) (fun q => absurd q (by decide))
        refine lv_goto (tgt := 1278) hx hb dL_law_959 (by decide) ?_
        exact kk R B cd1 T P fo O H locs ls hAg I (lv_sub hl [2, 3, 4, 5, 6] rfl)
      · exact absurd (hc1.trans nI1e) h4
    · exact absurd hsl8 hn
    · exact absurd ⟨a8, b_a8, e_a8⟩ hn
  · exact absurd hxc.1 (by decide)
set_option maxHeartbeats 4000000 in
set_option maxRecDepth 100000 in
theorem lc_next {p : Program} {l : Launch} {e : Env} {s : State} {m : MethodId} {below : List Frame} {meth : Method} {c : Code} {H : Heap} {locs : List Loc} {Q : State → Prop} {ls : Array Slot} {g : Geo} {b L : Nat} {xs : Nat → Int32} {j : Nat} {R : Nat → Nat → Int64} {B : Rul} {cd : Int32} {T P : Nat → Bool} {fo : Nat → Int32} {O : Nat → Int64} (hl0 : l.stackTraces = false) (E : CallFix p m c cL_law 7 s #[Value.ref b] wsL_law RL) (F : Fx g s) (hX : va_X b L xs s s.heap) (hbl : b < s.heap.size) (hbA : ¬ gW g b) (hL : L ≤ 2560) (hjl : 5 * j + 5 ≤ L) (hfc : 62 + 5 * j + 5 ≤ room_1.cells) (hfs : 83840 + 30 * j + 30 ≤ room_1.slots) (hAg : Ag R T) (I : Iv g (R, B, (cd, bF T, bF P, fo), O) s H locs) (hl : lv_has ls 7 [(0, .ref (b)), (1, .ref (gA g 0)), (2, .ref (gA g 5)), (3, .ref (gA g 9)), (4, .int (nI (5 * j)))])
    (kk : ∀ (R : Nat → Nat → Int64) (B : Rul) (cd : Int32) (T P : Nat → Bool) (fo : Nat → Int32) (O : Nat → Int64) (H : Heap) (locs : List Loc) (ls : Array Slot), Ag R T → Iv g (R, B, (cd, bF T, bF P, fo), O) s H locs → lv_has ls 7 [(0, .ref (b)), (1, .ref (gA g 0)), (2, .ref (gA g 5)), (3, .ref (gA g 9)), (4, .int (nI (5 * j)))] → W p l e room_1 s m #[Value.ref b] below meth c H locs (62 + 5 * j + 5) (83840 + 30 * j + 30) Q (F0 m 1278 ls [])) : W p l e room_1 s m #[Value.ref b] below meth c H locs (62 + 5 * j) (83840 + 30 * j) Q (F0 m 962 ls []) := by
  have hx := E.1
  have hb := E.2.1
  refine lv_aload_n hx hb dL_law_962 rfl (lv_at hl 1 rfl) ?_
  refine lv_aload_n hx hb dL_law_963 rfl (lv_at hl 0 rfl) ?_
  refine lv_iload hx hb dL_law_964 (lv_at hl 4 rfl) ?_
  refine lv_iconst (v := nI (1)) hx hb dL_law_966 (by decide) ?_
  refine n_iadd hx hb dL_law_967 ?_
  refine s_ld (i := 5 * j + 1) hx hb hX hbl hbA I.2 (by omega) hL dL_law_968 ?_
  refine lv_aload_n hx hb dL_law_969 rfl (lv_at hl 0 rfl) ?_
  refine lv_iload hx hb dL_law_970 (lv_at hl 4 rfl) ?_
  refine lv_iconst (v := nI (2)) hx hb dL_law_972 (by decide) ?_
  refine n_iadd hx hb dL_law_973 ?_
  refine s_ld (i := 5 * j + 2) hx hb hX hbl hbA I.2 (by omega) hL dL_law_974 ?_
  refine lv_aload_n hx hb dL_law_975 rfl (lv_at hl 3 rfl) ?_
  refine l_call (rest := []) E F I (l_next l hl0 g R B (cd, bF T, bF P, fo) O (xs (5 * j + 1)) (xs (5 * j + 2))) gL_law_L_next rfl hd_L_next rfl rfl ⟨by decide, by decide⟩ ⟨hfc, hfs⟩ rfl hl.1 rfl (Nat.le_of_ble_eq_true rfl) dL_law_976 (fun v9 u9 H locs hp I => ?_)
  rcases hp with ⟨rfl, r9, u1, hq, rfl⟩ | ⟨rfl, hxc, rfl⟩ | ⟨rfl, hxc, rfl⟩
  · obtain ⟨rfl, a, k, b_a, b_k, e_a, e_k, r7, hv, hc9⟩ := hq
    have ev := Value.int.inj (Option.some.inj hv)
    have I : Iv g (R, B, (cd, bF T, bF P, fo), vp_updL O 0 (cvI r9)) s H locs := I
    refine W.eq (g2 := F0 m 979 ls [.int (nI (0))]) rfl ?_
    refine lv_istore (lv' := [(5, .int (nI (0))), (0, .ref (b)), (1, .ref (gA g 0)), (2, .ref (gA g 5)), (3, .ref (gA g 9)), (4, .int (nI (5 * j)))]) hx hb dL_law_979 hl (by decide) rfl (fun ls hl => ?_)
    refine lv_aload_n hx hb dL_law_981 rfl (lv_at hl 3 rfl) ?_
    refine lv_aload_n hx hb dL_law_982 rfl (lv_at hl 1 rfl) ?_
    refine lv_iload hx hb dL_law_983 (lv_at hl 5 rfl) ?_
    refine lv_iconst (v := nI (1)) hx hb dL_law_985 (by decide) ?_
    refine n_iadd hx hb dL_law_986 ?_
    refine s_ld (i := 5 * j + 1) hx hb hX hbl hbA I.2 (by omega) hL dL_law_987 ?_
    refine lv_aload_n hx hb dL_law_988 rfl (lv_at hl 1 rfl) ?_
    refine lv_iload hx hb dL_law_989 (lv_at hl 5 rfl) ?_
    refine lv_iconst (v := nI (2)) hx hb dL_law_991 (by decide) ?_
    refine n_iadd hx hb dL_law_992 ?_
    refine s_ld (i := 5 * j + 2) hx hb hX hbl hbA I.2 (by omega) hL dL_law_993 ?_
    refine x_callV 5 2 (rest := []) (C := RX2) (T0 := TX2) (N := 4) E F I (m_next l g R B cd T P fo (vp_updL O 0 (cvI r9)) (xs (5 * j + 1)) (xs (5 * j + 2))) gL_law_X2_next rfl (by decide) rfl rfl rfl hd_X2_next rfl rfl ⟨by decide, by decide⟩ ⟨hfc, hfs⟩ rfl hl.1 rfl (Nat.le_of_ble_eq_true rfl) dL_law_994 (fun v8 u8 H locs hp8 I => ?_)
    obtain ⟨r8, cd1, rfl, rfl, hm⟩ := hp8
    refine W.eq (g2 := F0 m 997 ls [.int (r8)]) rfl ?_
    rcases hm with ⟨hn8, hc1⟩ | ⟨hsl8, hn8, hc1⟩ | ⟨hc1, a8, k8, b_a8, b_k8, e_a8, e_k8, hres⟩
    · exact absurd ⟨a, b_a, e_a⟩ hn8
    · exact absurd ⟨k, b_k, e_k⟩ hn8
    · have q_a : a = a8 := (nI_eq (by omega) (by omega)).mp (e_a.symm.trans e_a8)
      subst q_a
      have q_k : k = k8 := (nI_eq (by omega) (by omega)).mp (e_k.symm.trans e_k8)
      subst q_k
      have hrr : r9 = r8 := op_next b_k (hAg a b_a) (by rw [ev]; exact hc9) hres
      refine lv_istore (lv' := [(6, .int (r8)), (5, .int (nI (0))), (0, .ref (b)), (1, .ref (gA g 0)), (2, .ref (gA g 5)), (3, .ref (gA g 9)), (4, .int (nI (5 * j)))]) hx hb dL_law_997 hl (by decide) rfl (fun ls hl => ?_)
      refine lv_aload_n hx hb dL_law_999 rfl (lv_at hl 4 rfl) ?_
      refine x_callVi 5 2 (rest := []) (C := RX2) (T0 := TX2) (N := 4) E F I (m_thrown l g R B cd1 T P fo (vp_updL O 0 (cvI r9))) gL_law_X2_thrown rfl (by decide) rfl rfl rfl hd_X2_thrown rfl rfl ⟨by decide, by decide⟩ ⟨hfc, hfs⟩ rfl hl.1 rfl (Nat.le_of_ble_eq_true rfl) dL_law_1000 (fun H locs I => ?_)
      refine lv_iload hx hb dL_law_1003 (lv_at hl 1 rfl) ?_
      refine lv_icmp_eq (tgt := 1010) hx hb dL_law_1005 (by decide) (fun h1 => ?_) (fun h1 => ?_)
      · refine lv_iload hx hb dL_law_1010 (lv_at hl 1 rfl) ?_
        refine n_ifne (tgt := 1027) hx hb (by decide) dL_law_1012 (by decide) (fun q => absurd q (by decide)) (fun _ => ?_)
        refine lv_aload_n hx hb dL_law_1015 rfl (lv_at hl 5 rfl) ?_
        refine lv_iconst (v := nI (0)) hx hb dL_law_1016 (by decide) ?_
        refine x_oaload hx hb F I (by omega) dL_law_1017 ?_
        refine lv_iload hx hb dL_law_1018 (lv_at hl 0 rfl) ?_
        refine lv_i2l hx hb dL_law_1020 rfl ?_
        refine n_leq (tgt := 1027) hx hb dL_law_1021 dL_law_1022 (by decide) (fun h3 => ?_) (fun h3 => ?_)
        · refine lv_goto (tgt := 1278) hx hb dL_law_1027 (by decide) ?_
          exact kk R B cd1 T P fo (vp_updL O 0 (cvI r9)) H locs ls hAg I (lv_sub hl [2, 3, 4, 5, 6] rfl)
        · exact absurd (by show vp_updL O 0 (cvI r9) 0 = _; rw [pk_uLs, hrr]; rfl) h3
      · exact absurd (hc1.trans nI0e) h1
  · have hn := hxc.resolve_right (fun q => absurd q.1 (by decide))
    have hn := hn.2
    refine W.eq (g2 := F0 m 979 ls [.int (nI (1))]) rfl ?_
    refine lv_istore (lv' := [(5, .int (nI (1))), (0, .ref (b)), (1, .ref (gA g 0)), (2, .ref (gA g 5)), (3, .ref (gA g 9)), (4, .int (nI (5 * j)))]) hx hb dL_law_979 hl (by decide) rfl (fun ls hl => ?_)
    refine lv_aload_n hx hb dL_law_981 rfl (lv_at hl 3 rfl) ?_
    refine lv_aload_n hx hb dL_law_982 rfl (lv_at hl 1 rfl) ?_
    refine lv_iload hx hb dL_law_983 (lv_at hl 5 rfl) ?_
    refine lv_iconst (v := nI (1)) hx hb dL_law_985 (by decide) ?_
    refine n_iadd hx hb dL_law_986 ?_
    refine s_ld (i := 5 * j + 1) hx hb hX hbl hbA I.2 (by omega) hL dL_law_987 ?_
    refine lv_aload_n hx hb dL_law_988 rfl (lv_at hl 1 rfl) ?_
    refine lv_iload hx hb dL_law_989 (lv_at hl 5 rfl) ?_
    refine lv_iconst (v := nI (2)) hx hb dL_law_991 (by decide) ?_
    refine n_iadd hx hb dL_law_992 ?_
    refine s_ld (i := 5 * j + 2) hx hb hX hbl hbA I.2 (by omega) hL dL_law_993 ?_
    refine x_callV 5 2 (rest := []) (C := RX2) (T0 := TX2) (N := 4) E F I (m_next l g R B cd T P fo O (xs (5 * j + 1)) (xs (5 * j + 2))) gL_law_X2_next rfl (by decide) rfl rfl rfl hd_X2_next rfl rfl ⟨by decide, by decide⟩ ⟨hfc, hfs⟩ rfl hl.1 rfl (Nat.le_of_ble_eq_true rfl) dL_law_994 (fun v8 u8 H locs hp8 I => ?_)
    obtain ⟨r8, cd1, rfl, rfl, hm⟩ := hp8
    refine W.eq (g2 := F0 m 997 ls [.int (r8)]) rfl ?_
    rcases hm with ⟨hn8, hc1⟩ | ⟨hsl8, hn8, hc1⟩ | ⟨hc1, a8, k8, b_a8, b_k8, e_a8, e_k8, hres⟩
    · refine lv_istore (lv' := [(6, .int (r8)), (5, .int (nI (1))), (0, .ref (b)), (1, .ref (gA g 0)), (2, .ref (gA g 5)), (3, .ref (gA g 9)), (4, .int (nI (5 * j)))]) hx hb dL_law_997 hl (by decide) rfl (fun ls hl => ?_)
      refine lv_aload_n hx hb dL_law_999 rfl (lv_at hl 4 rfl) ?_
      refine x_callVi 5 2 (rest := []) (C := RX2) (T0 := TX2) (N := 4) E F I (m_thrown l g R B cd1 T P fo O) gL_law_X2_thrown rfl (by decide) rfl rfl rfl hd_X2_thrown rfl rfl ⟨by decide, by decide⟩ ⟨hfc, hfs⟩ rfl hl.1 rfl (Nat.le_of_ble_eq_true rfl) dL_law_1000 (fun H locs I => ?_)
      refine lv_iload hx hb dL_law_1003 (lv_at hl 1 rfl) ?_
      refine lv_icmp_eq (tgt := 1010) hx hb dL_law_1005 (by decide) (fun h4 => ?_) (fun h4 => ?_)
      · refine lv_iload hx hb dL_law_1010 (lv_at hl 1 rfl) ?_
        refine n_ifne (tgt := 1027) hx hb (by decide) dL_law_1012 (by decide) (fun _ => ?_) (fun q => absurd q (by decide))
        refine lv_goto (tgt := 1278) hx hb dL_law_1027 (by decide) ?_
        exact kk R B cd1 T P fo O H locs ls hAg I (lv_sub hl [2, 3, 4, 5, 6] rfl)
      · exact absurd (hc1.trans nI1e) h4
    · exact absurd hsl8 hn
    · exact absurd ⟨a8, b_a8, e_a8⟩ hn
  · obtain ⟨-, hsl, hn⟩ := hxc.resolve_left (fun q => absurd q.1 (by decide))
    refine W.eq (g2 := F0 m 979 ls [.int (nI (2))]) rfl ?_
    refine lv_istore (lv' := [(5, .int (nI (2))), (0, .ref (b)), (1, .ref (gA g 0)), (2, .ref (gA g 5)), (3, .ref (gA g 9)), (4, .int (nI (5 * j)))]) hx hb dL_law_979 hl (by decide) rfl (fun ls hl => ?_)
    refine lv_aload_n hx hb dL_law_981 rfl (lv_at hl 3 rfl) ?_
    refine lv_aload_n hx hb dL_law_982 rfl (lv_at hl 1 rfl) ?_
    refine lv_iload hx hb dL_law_983 (lv_at hl 5 rfl) ?_
    refine lv_iconst (v := nI (1)) hx hb dL_law_985 (by decide) ?_
    refine n_iadd hx hb dL_law_986 ?_
    refine s_ld (i := 5 * j + 1) hx hb hX hbl hbA I.2 (by omega) hL dL_law_987 ?_
    refine lv_aload_n hx hb dL_law_988 rfl (lv_at hl 1 rfl) ?_
    refine lv_iload hx hb dL_law_989 (lv_at hl 5 rfl) ?_
    refine lv_iconst (v := nI (2)) hx hb dL_law_991 (by decide) ?_
    refine n_iadd hx hb dL_law_992 ?_
    refine s_ld (i := 5 * j + 2) hx hb hX hbl hbA I.2 (by omega) hL dL_law_993 ?_
    refine x_callV 5 2 (rest := []) (C := RX2) (T0 := TX2) (N := 4) E F I (m_next l g R B cd T P fo O (xs (5 * j + 1)) (xs (5 * j + 2))) gL_law_X2_next rfl (by decide) rfl rfl rfl hd_X2_next rfl rfl ⟨by decide, by decide⟩ ⟨hfc, hfs⟩ rfl hl.1 rfl (Nat.le_of_ble_eq_true rfl) dL_law_994 (fun v8 u8 H locs hp8 I => ?_)
    obtain ⟨r8, cd1, rfl, rfl, hm⟩ := hp8
    refine W.eq (g2 := F0 m 997 ls [.int (r8)]) rfl ?_
    rcases hm with ⟨hn8, hc1⟩ | ⟨hsl8, hn8, hc1⟩ | ⟨hc1, a8, k8, b_a8, b_k8, e_a8, e_k8, hres⟩
    · exact absurd hsl hn8
    · refine lv_istore (lv' := [(6, .int (r8)), (5, .int (nI (2))), (0, .ref (b)), (1, .ref (gA g 0)), (2, .ref (gA g 5)), (3, .ref (gA g 9)), (4, .int (nI (5 * j)))]) hx hb dL_law_997 hl (by decide) rfl (fun ls hl => ?_)
      refine lv_aload_n hx hb dL_law_999 rfl (lv_at hl 4 rfl) ?_
      refine x_callVi 5 2 (rest := []) (C := RX2) (T0 := TX2) (N := 4) E F I (m_thrown l g R B cd1 T P fo O) gL_law_X2_thrown rfl (by decide) rfl rfl rfl hd_X2_thrown rfl rfl ⟨by decide, by decide⟩ ⟨hfc, hfs⟩ rfl hl.1 rfl (Nat.le_of_ble_eq_true rfl) dL_law_1000 (fun H locs I => ?_)
      refine lv_iload hx hb dL_law_1003 (lv_at hl 1 rfl) ?_
      refine lv_icmp_eq (tgt := 1010) hx hb dL_law_1005 (by decide) (fun h6 => ?_) (fun h6 => ?_)
      · refine lv_iload hx hb dL_law_1010 (lv_at hl 1 rfl) ?_
        refine n_ifne (tgt := 1027) hx hb (by decide) dL_law_1012 (by decide) (fun _ => ?_) (fun q => absurd q (by decide))
        refine lv_goto (tgt := 1278) hx hb dL_law_1027 (by decide) ?_
        exact kk R B cd1 T P fo O H locs ls hAg I (lv_sub hl [2, 3, 4, 5, 6] rfl)
      · exact absurd (hc1.trans nI2e) h6
    · exact absurd ⟨k8, b_k8, e_k8⟩ hn
set_option maxHeartbeats 4000000 in
set_option maxRecDepth 100000 in
theorem lc_depends {p : Program} {l : Launch} {e : Env} {s : State} {m : MethodId} {below : List Frame} {meth : Method} {c : Code} {H : Heap} {locs : List Loc} {Q : State → Prop} {ls : Array Slot} {g : Geo} {b L : Nat} {xs : Nat → Int32} {j : Nat} {R : Nat → Nat → Int64} {B : Rul} {cd : Int32} {T P : Nat → Bool} {fo : Nat → Int32} {O : Nat → Int64} (hl0 : l.stackTraces = false) (E : CallFix p m c cL_law 7 s #[Value.ref b] wsL_law RL) (F : Fx g s) (hX : va_X b L xs s s.heap) (hbl : b < s.heap.size) (hbA : ¬ gW g b) (hL : L ≤ 2560) (hjl : 5 * j + 5 ≤ L) (hfc : 62 + 5 * j + 5 ≤ room_1.cells) (hfs : 83840 + 30 * j + 30 ≤ room_1.slots) (hAg : Ag R T) (I : Iv g (R, B, (cd, bF T, bF P, fo), O) s H locs) (hl : lv_has ls 7 [(0, .ref (b)), (1, .ref (gA g 0)), (2, .ref (gA g 5)), (3, .ref (gA g 9)), (4, .int (nI (5 * j)))])
    (kk : ∀ (R : Nat → Nat → Int64) (B : Rul) (cd : Int32) (T P : Nat → Bool) (fo : Nat → Int32) (O : Nat → Int64) (H : Heap) (locs : List Loc) (ls : Array Slot), Ag R T → Iv g (R, B, (cd, bF T, bF P, fo), O) s H locs → lv_has ls 7 [(0, .ref (b)), (1, .ref (gA g 0)), (2, .ref (gA g 5)), (3, .ref (gA g 9)), (4, .int (nI (5 * j)))] → W p l e room_1 s m #[Value.ref b] below meth c H locs (62 + 5 * j + 5) (83840 + 30 * j + 30) Q (F0 m 1278 ls [])) : W p l e room_1 s m #[Value.ref b] below meth c H locs (62 + 5 * j) (83840 + 30 * j) Q (F0 m 1030 ls []) := by
  have hx := E.1
  have hb := E.2.1
  refine lv_aload_n hx hb dL_law_1030 rfl (lv_at hl 1 rfl) ?_
  refine lv_aload_n hx hb dL_law_1031 rfl (lv_at hl 0 rfl) ?_
  refine lv_iload hx hb dL_law_1032 (lv_at hl 4 rfl) ?_
  refine lv_iconst (v := nI (1)) hx hb dL_law_1034 (by decide) ?_
  refine n_iadd hx hb dL_law_1035 ?_
  refine s_ld (i := 5 * j + 1) hx hb hX hbl hbA I.2 (by omega) hL dL_law_1036 ?_
  refine lv_aload_n hx hb dL_law_1037 rfl (lv_at hl 3 rfl) ?_
  refine l_call (rest := []) E F I (l_depends l hl0 g R B (cd, bF T, bF P, fo) O (xs (5 * j + 1))) gL_law_L_depends rfl hd_L_depends rfl rfl ⟨by decide, by decide⟩ ⟨hfc, hfs⟩ rfl hl.1 rfl (Nat.le_of_ble_eq_true rfl) dL_law_1038 (fun v9 u9 H locs hp I => ?_)
  rcases hp with ⟨rfl, r9, u1, hq, rfl⟩ | ⟨rfl, hxc, rfl⟩ | ⟨rfl, hxc, rfl⟩
  · obtain ⟨rfl, a, b_a, e_a, hv⟩ := hq
    have ev := Value.int.inj (Option.some.inj hv)
    have I : Iv g (R, B, (cd, bF T, bF P, fo), vp_updL O 0 (cvI r9)) s H locs := I
    refine W.eq (g2 := F0 m 1041 ls [.int (nI (0))]) rfl ?_
    refine lv_istore (lv' := [(5, .int (nI (0))), (0, .ref (b)), (1, .ref (gA g 0)), (2, .ref (gA g 5)), (3, .ref (gA g 9)), (4, .int (nI (5 * j)))]) hx hb dL_law_1041 hl (by decide) rfl (fun ls hl => ?_)
    refine lv_aload_n hx hb dL_law_1043 rfl (lv_at hl 3 rfl) ?_
    refine lv_aload_n hx hb dL_law_1044 rfl (lv_at hl 1 rfl) ?_
    refine lv_iload hx hb dL_law_1045 (lv_at hl 5 rfl) ?_
    refine lv_iconst (v := nI (1)) hx hb dL_law_1047 (by decide) ?_
    refine n_iadd hx hb dL_law_1048 ?_
    refine s_ld (i := 5 * j + 1) hx hb hX hbl hbA I.2 (by omega) hL dL_law_1049 ?_
    refine x_callV 5 2 (rest := []) (C := RX2) (T0 := TX2) (N := 4) E F I (m_depends l g R B cd T P fo (vp_updL O 0 (cvI r9)) (xs (5 * j + 1))) gL_law_X2_depends rfl (by decide) rfl rfl rfl hd_X2_depends rfl rfl ⟨by decide, by decide⟩ ⟨hfc, hfs⟩ rfl hl.1 rfl (Nat.le_of_ble_eq_true rfl) dL_law_1050 (fun v8 u8 H locs hp8 I => ?_)
    obtain ⟨r8, cd1, rfl, rfl, hm⟩ := hp8
    refine W.eq (g2 := F0 m 1053 ls [.int (r8)]) rfl ?_
    rcases hm with ⟨hn8, hc1⟩ | ⟨hsl8, hn8, hc1⟩ | ⟨hc1, a8, b_a8, e_a8, hres⟩
    · exact absurd ⟨a, b_a, e_a⟩ hn8
    · exact absurd trivial hn8
    · have q_a : a = a8 := (nI_eq (by omega) (by omega)).mp (e_a.symm.trans e_a8)
      subst q_a
      have hrr : r9 = r8 := ev.trans (by rw [hres, op_dep (hAg a b_a) 10 (Nat.le_refl 10)])
      refine lv_istore (lv' := [(6, .int (r8)), (5, .int (nI (0))), (0, .ref (b)), (1, .ref (gA g 0)), (2, .ref (gA g 5)), (3, .ref (gA g 9)), (4, .int (nI (5 * j)))]) hx hb dL_law_1053 hl (by decide) rfl (fun ls hl => ?_)
      refine lv_aload_n hx hb dL_law_1055 rfl (lv_at hl 4 rfl) ?_
      refine x_callVi 5 2 (rest := []) (C := RX2) (T0 := TX2) (N := 4) E F I (m_thrown l g R B cd1 T P fo (vp_updL O 0 (cvI r9))) gL_law_X2_thrown rfl (by decide) rfl rfl rfl hd_X2_thrown rfl rfl ⟨by decide, by decide⟩ ⟨hfc, hfs⟩ rfl hl.1 rfl (Nat.le_of_ble_eq_true rfl) dL_law_1056 (fun H locs I => ?_)
      refine lv_iload hx hb dL_law_1059 (lv_at hl 1 rfl) ?_
      refine lv_icmp_eq (tgt := 1066) hx hb dL_law_1061 (by decide) (fun h1 => ?_) (fun h1 => ?_)
      · refine lv_iload hx hb dL_law_1066 (lv_at hl 1 rfl) ?_
        refine n_ifne (tgt := 1083) hx hb (by decide) dL_law_1068 (by decide) (fun q => absurd q (by decide)) (fun _ => ?_)
        refine lv_aload_n hx hb dL_law_1071 rfl (lv_at hl 5 rfl) ?_
        refine lv_iconst (v := nI (0)) hx hb dL_law_1072 (by decide) ?_
        refine x_oaload hx hb F I (by omega) dL_law_1073 ?_
        refine lv_iload hx hb dL_law_1074 (lv_at hl 0 rfl) ?_
        refine lv_i2l hx hb dL_law_1076 rfl ?_
        refine n_leq (tgt := 1083) hx hb dL_law_1077 dL_law_1078 (by decide) (fun h3 => ?_) (fun h3 => ?_)
        · refine lv_goto (tgt := 1278) hx hb dL_law_1083 (by decide) ?_
          exact kk R B cd1 T P fo (vp_updL O 0 (cvI r9)) H locs ls hAg I (lv_sub hl [2, 3, 4, 5, 6] rfl)
        · exact absurd (by show vp_updL O 0 (cvI r9) 0 = _; rw [pk_uLs, hrr]; rfl) h3
      · exact absurd (hc1.trans nI0e) h1
  · have hn := hxc.2
    refine W.eq (g2 := F0 m 1041 ls [.int (nI (1))]) rfl ?_
    refine lv_istore (lv' := [(5, .int (nI (1))), (0, .ref (b)), (1, .ref (gA g 0)), (2, .ref (gA g 5)), (3, .ref (gA g 9)), (4, .int (nI (5 * j)))]) hx hb dL_law_1041 hl (by decide) rfl (fun ls hl => ?_)
    refine lv_aload_n hx hb dL_law_1043 rfl (lv_at hl 3 rfl) ?_
    refine lv_aload_n hx hb dL_law_1044 rfl (lv_at hl 1 rfl) ?_
    refine lv_iload hx hb dL_law_1045 (lv_at hl 5 rfl) ?_
    refine lv_iconst (v := nI (1)) hx hb dL_law_1047 (by decide) ?_
    refine n_iadd hx hb dL_law_1048 ?_
    refine s_ld (i := 5 * j + 1) hx hb hX hbl hbA I.2 (by omega) hL dL_law_1049 ?_
    refine x_callV 5 2 (rest := []) (C := RX2) (T0 := TX2) (N := 4) E F I (m_depends l g R B cd T P fo O (xs (5 * j + 1))) gL_law_X2_depends rfl (by decide) rfl rfl rfl hd_X2_depends rfl rfl ⟨by decide, by decide⟩ ⟨hfc, hfs⟩ rfl hl.1 rfl (Nat.le_of_ble_eq_true rfl) dL_law_1050 (fun v8 u8 H locs hp8 I => ?_)
    obtain ⟨r8, cd1, rfl, rfl, hm⟩ := hp8
    refine W.eq (g2 := F0 m 1053 ls [.int (r8)]) rfl ?_
    rcases hm with ⟨hn8, hc1⟩ | ⟨hsl8, hn8, hc1⟩ | ⟨hc1, a8, b_a8, e_a8, hres⟩
    · refine lv_istore (lv' := [(6, .int (r8)), (5, .int (nI (1))), (0, .ref (b)), (1, .ref (gA g 0)), (2, .ref (gA g 5)), (3, .ref (gA g 9)), (4, .int (nI (5 * j)))]) hx hb dL_law_1053 hl (by decide) rfl (fun ls hl => ?_)
      refine lv_aload_n hx hb dL_law_1055 rfl (lv_at hl 4 rfl) ?_
      refine x_callVi 5 2 (rest := []) (C := RX2) (T0 := TX2) (N := 4) E F I (m_thrown l g R B cd1 T P fo O) gL_law_X2_thrown rfl (by decide) rfl rfl rfl hd_X2_thrown rfl rfl ⟨by decide, by decide⟩ ⟨hfc, hfs⟩ rfl hl.1 rfl (Nat.le_of_ble_eq_true rfl) dL_law_1056 (fun H locs I => ?_)
      refine lv_iload hx hb dL_law_1059 (lv_at hl 1 rfl) ?_
      refine lv_icmp_eq (tgt := 1066) hx hb dL_law_1061 (by decide) (fun h4 => ?_) (fun h4 => ?_)
      · refine lv_iload hx hb dL_law_1066 (lv_at hl 1 rfl) ?_
        refine n_ifne (tgt := 1083) hx hb (by decide) dL_law_1068 (by decide) (fun _ => ?_) (fun q => absurd q (by decide))
        refine lv_goto (tgt := 1278) hx hb dL_law_1083 (by decide) ?_
        exact kk R B cd1 T P fo O H locs ls hAg I (lv_sub hl [2, 3, 4, 5, 6] rfl)
      · exact absurd (hc1.trans nI1e) h4
    · exact absurd hsl8 hn
    · exact absurd ⟨a8, b_a8, e_a8⟩ hn
  · exact absurd hxc.1 (by decide)
set_option maxHeartbeats 4000000 in
set_option maxRecDepth 100000 in
theorem lc_size {p : Program} {l : Launch} {e : Env} {s : State} {m : MethodId} {below : List Frame} {meth : Method} {c : Code} {H : Heap} {locs : List Loc} {Q : State → Prop} {ls : Array Slot} {g : Geo} {b L : Nat} {xs : Nat → Int32} {j : Nat} {R : Nat → Nat → Int64} {B : Rul} {cd : Int32} {T P : Nat → Bool} {fo : Nat → Int32} {O : Nat → Int64} (hl0 : l.stackTraces = false) (E : CallFix p m c cL_law 7 s #[Value.ref b] wsL_law RL) (F : Fx g s) (hX : va_X b L xs s s.heap) (hbl : b < s.heap.size) (hbA : ¬ gW g b) (hL : L ≤ 2560) (hjl : 5 * j + 5 ≤ L) (hfc : 62 + 5 * j + 5 ≤ room_1.cells) (hfs : 83840 + 30 * j + 30 ≤ room_1.slots) (hAg : Ag R T) (I : Iv g (R, B, (cd, bF T, bF P, fo), O) s H locs) (hl : lv_has ls 7 [(0, .ref (b)), (1, .ref (gA g 0)), (2, .ref (gA g 5)), (3, .ref (gA g 9)), (4, .int (nI (5 * j)))])
    (kk : ∀ (R : Nat → Nat → Int64) (B : Rul) (cd : Int32) (T P : Nat → Bool) (fo : Nat → Int32) (O : Nat → Int64) (H : Heap) (locs : List Loc) (ls : Array Slot), Ag R T → Iv g (R, B, (cd, bF T, bF P, fo), O) s H locs → lv_has ls 7 [(0, .ref (b)), (1, .ref (gA g 0)), (2, .ref (gA g 5)), (3, .ref (gA g 9)), (4, .int (nI (5 * j)))] → W p l e room_1 s m #[Value.ref b] below meth c H locs (62 + 5 * j + 5) (83840 + 30 * j + 30) Q (F0 m 1278 ls [])) : W p l e room_1 s m #[Value.ref b] below meth c H locs (62 + 5 * j) (83840 + 30 * j) Q (F0 m 1086 ls []) := by
  have hx := E.1
  have hb := E.2.1
  refine lv_aload_n hx hb dL_law_1086 rfl (lv_at hl 1 rfl) ?_
  refine lv_aload_n hx hb dL_law_1087 rfl (lv_at hl 0 rfl) ?_
  refine lv_iload hx hb dL_law_1088 (lv_at hl 4 rfl) ?_
  refine lv_iconst (v := nI (1)) hx hb dL_law_1090 (by decide) ?_
  refine n_iadd hx hb dL_law_1091 ?_
  refine s_ld (i := 5 * j + 1) hx hb hX hbl hbA I.2 (by omega) hL dL_law_1092 ?_
  refine lv_aload_n hx hb dL_law_1093 rfl (lv_at hl 3 rfl) ?_
  refine l_call (rest := []) E F I (l_size l hl0 g R B (cd, bF T, bF P, fo) O (xs (5 * j + 1))) gL_law_L_size rfl hd_L_size rfl rfl ⟨by decide, by decide⟩ ⟨hfc, hfs⟩ rfl hl.1 rfl (Nat.le_of_ble_eq_true rfl) dL_law_1094 (fun v9 u9 H locs hp I => ?_)
  rcases hp with ⟨rfl, r9, u1, hq, rfl⟩ | ⟨rfl, hxc, rfl⟩ | ⟨rfl, hxc, rfl⟩
  · obtain ⟨a, b_a, e_a, cs9, B1, rfl, hv, hall9⟩ := hq
    have ev := Value.int.inj (Option.some.inj hv)
    have I : Iv g (R, B1, (cd, bF T, bF P, fo), vp_updL O 0 (cvI r9)) s H locs := I
    refine W.eq (g2 := F0 m 1097 ls [.int (nI (0))]) rfl ?_
    refine lv_istore (lv' := [(5, .int (nI (0))), (0, .ref (b)), (1, .ref (gA g 0)), (2, .ref (gA g 5)), (3, .ref (gA g 9)), (4, .int (nI (5 * j)))]) hx hb dL_law_1097 hl (by decide) rfl (fun ls hl => ?_)
    refine lv_aload_n hx hb dL_law_1099 rfl (lv_at hl 3 rfl) ?_
    refine lv_aload_n hx hb dL_law_1100 rfl (lv_at hl 1 rfl) ?_
    refine lv_iload hx hb dL_law_1101 (lv_at hl 5 rfl) ?_
    refine lv_iconst (v := nI (1)) hx hb dL_law_1103 (by decide) ?_
    refine n_iadd hx hb dL_law_1104 ?_
    refine s_ld (i := 5 * j + 1) hx hb hX hbl hbA I.2 (by omega) hL dL_law_1105 ?_
    refine x_callV 5 2 (rest := []) (C := RX2) (T0 := TX2) (N := 4) E F I (m_size l g R B1 cd T P fo (vp_updL O 0 (cvI r9)) (xs (5 * j + 1))) gL_law_X2_size rfl (by decide) rfl rfl rfl hd_X2_size rfl rfl ⟨by decide, by decide⟩ ⟨hfc, hfs⟩ rfl hl.1 rfl (Nat.le_of_ble_eq_true rfl) dL_law_1106 (fun v8 u8 H locs hp8 I => ?_)
    obtain ⟨r8, cd1, fo1, rfl, rfl, hm⟩ := hp8
    refine W.eq (g2 := F0 m 1109 ls [.int (r8)]) rfl ?_
    rcases hm with ⟨hn8, hc1⟩ | ⟨hsl8, hn8, hc1⟩ | ⟨hc1, a8, b_a8, e_a8, cs8, hall8, hres⟩
    · exact absurd ⟨a, b_a, e_a⟩ hn8
    · exact absurd trivial hn8
    · have q_a : a = a8 := (nI_eq (by omega) (by omega)).mp (e_a.symm.trans e_a8)
      subst q_a
      have hrr : r9 = r8 := ev.trans (by rw [hres, op_all hAg (Nat.le_refl a) b_a hall9 hall8])
      refine lv_istore (lv' := [(6, .int (r8)), (5, .int (nI (0))), (0, .ref (b)), (1, .ref (gA g 0)), (2, .ref (gA g 5)), (3, .ref (gA g 9)), (4, .int (nI (5 * j)))]) hx hb dL_law_1109 hl (by decide) rfl (fun ls hl => ?_)
      refine lv_aload_n hx hb dL_law_1111 rfl (lv_at hl 4 rfl) ?_
      refine x_callVi 5 2 (rest := []) (C := RX2) (T0 := TX2) (N := 4) E F I (m_thrown l g R B1 cd1 T P fo1 (vp_updL O 0 (cvI r9))) gL_law_X2_thrown rfl (by decide) rfl rfl rfl hd_X2_thrown rfl rfl ⟨by decide, by decide⟩ ⟨hfc, hfs⟩ rfl hl.1 rfl (Nat.le_of_ble_eq_true rfl) dL_law_1112 (fun H locs I => ?_)
      refine lv_iload hx hb dL_law_1115 (lv_at hl 1 rfl) ?_
      refine lv_icmp_eq (tgt := 1122) hx hb dL_law_1117 (by decide) (fun h1 => ?_) (fun h1 => ?_)
      · refine lv_iload hx hb dL_law_1122 (lv_at hl 1 rfl) ?_
        refine n_ifne (tgt := 1139) hx hb (by decide) dL_law_1124 (by decide) (fun q => absurd q (by decide)) (fun _ => ?_)
        refine lv_aload_n hx hb dL_law_1127 rfl (lv_at hl 5 rfl) ?_
        refine lv_iconst (v := nI (0)) hx hb dL_law_1128 (by decide) ?_
        refine x_oaload hx hb F I (by omega) dL_law_1129 ?_
        refine lv_iload hx hb dL_law_1130 (lv_at hl 0 rfl) ?_
        refine lv_i2l hx hb dL_law_1132 rfl ?_
        refine n_leq (tgt := 1139) hx hb dL_law_1133 dL_law_1134 (by decide) (fun h3 => ?_) (fun h3 => ?_)
        · refine lv_goto (tgt := 1278) hx hb dL_law_1139 (by decide) ?_
          exact kk R B1 cd1 T P fo1 (vp_updL O 0 (cvI r9)) H locs ls hAg I (lv_sub hl [2, 3, 4, 5, 6] rfl)
        · exact absurd (by show vp_updL O 0 (cvI r9) 0 = _; rw [pk_uLs, hrr]; rfl) h3
      · exact absurd (hc1.trans nI0e) h1
  · have hn := hxc.2
    refine W.eq (g2 := F0 m 1097 ls [.int (nI (1))]) rfl ?_
    refine lv_istore (lv' := [(5, .int (nI (1))), (0, .ref (b)), (1, .ref (gA g 0)), (2, .ref (gA g 5)), (3, .ref (gA g 9)), (4, .int (nI (5 * j)))]) hx hb dL_law_1097 hl (by decide) rfl (fun ls hl => ?_)
    refine lv_aload_n hx hb dL_law_1099 rfl (lv_at hl 3 rfl) ?_
    refine lv_aload_n hx hb dL_law_1100 rfl (lv_at hl 1 rfl) ?_
    refine lv_iload hx hb dL_law_1101 (lv_at hl 5 rfl) ?_
    refine lv_iconst (v := nI (1)) hx hb dL_law_1103 (by decide) ?_
    refine n_iadd hx hb dL_law_1104 ?_
    refine s_ld (i := 5 * j + 1) hx hb hX hbl hbA I.2 (by omega) hL dL_law_1105 ?_
    refine x_callV 5 2 (rest := []) (C := RX2) (T0 := TX2) (N := 4) E F I (m_size l g R B cd T P fo O (xs (5 * j + 1))) gL_law_X2_size rfl (by decide) rfl rfl rfl hd_X2_size rfl rfl ⟨by decide, by decide⟩ ⟨hfc, hfs⟩ rfl hl.1 rfl (Nat.le_of_ble_eq_true rfl) dL_law_1106 (fun v8 u8 H locs hp8 I => ?_)
    obtain ⟨r8, cd1, fo1, rfl, rfl, hm⟩ := hp8
    refine W.eq (g2 := F0 m 1109 ls [.int (r8)]) rfl ?_
    rcases hm with ⟨hn8, hc1⟩ | ⟨hsl8, hn8, hc1⟩ | ⟨hc1, a8, b_a8, e_a8, cs8, hall8, hres⟩
    · refine lv_istore (lv' := [(6, .int (r8)), (5, .int (nI (1))), (0, .ref (b)), (1, .ref (gA g 0)), (2, .ref (gA g 5)), (3, .ref (gA g 9)), (4, .int (nI (5 * j)))]) hx hb dL_law_1109 hl (by decide) rfl (fun ls hl => ?_)
      refine lv_aload_n hx hb dL_law_1111 rfl (lv_at hl 4 rfl) ?_
      refine x_callVi 5 2 (rest := []) (C := RX2) (T0 := TX2) (N := 4) E F I (m_thrown l g R B cd1 T P fo1 O) gL_law_X2_thrown rfl (by decide) rfl rfl rfl hd_X2_thrown rfl rfl ⟨by decide, by decide⟩ ⟨hfc, hfs⟩ rfl hl.1 rfl (Nat.le_of_ble_eq_true rfl) dL_law_1112 (fun H locs I => ?_)
      refine lv_iload hx hb dL_law_1115 (lv_at hl 1 rfl) ?_
      refine lv_icmp_eq (tgt := 1122) hx hb dL_law_1117 (by decide) (fun h4 => ?_) (fun h4 => ?_)
      · refine lv_iload hx hb dL_law_1122 (lv_at hl 1 rfl) ?_
        refine n_ifne (tgt := 1139) hx hb (by decide) dL_law_1124 (by decide) (fun _ => ?_) (fun q => absurd q (by decide))
        refine lv_goto (tgt := 1278) hx hb dL_law_1139 (by decide) ?_
        exact kk R B cd1 T P fo1 O H locs ls hAg I (lv_sub hl [2, 3, 4, 5, 6] rfl)
      · exact absurd (hc1.trans nI1e) h4
    · exact absurd hsl8 hn
    · exact absurd ⟨a8, b_a8, e_a8⟩ hn
  · exact absurd hxc.1 (by decide)
set_option maxHeartbeats 4000000 in
set_option maxRecDepth 100000 in
theorem lc_sizes {p : Program} {l : Launch} {e : Env} {s : State} {m : MethodId} {below : List Frame} {meth : Method} {c : Code} {H : Heap} {locs : List Loc} {Q : State → Prop} {ls : Array Slot} {g : Geo} {b L : Nat} {xs : Nat → Int32} {j : Nat} {R : Nat → Nat → Int64} {B : Rul} {cd : Int32} {T P : Nat → Bool} {fo : Nat → Int32} {O : Nat → Int64} (hl0 : l.stackTraces = false) (E : CallFix p m c cL_law 7 s #[Value.ref b] wsL_law RL) (F : Fx g s) (hX : va_X b L xs s s.heap) (hbl : b < s.heap.size) (hbA : ¬ gW g b) (hL : L ≤ 2560) (hjl : 5 * j + 5 ≤ L) (hfc : 62 + 5 * j + 5 ≤ room_1.cells) (hfs : 83840 + 30 * j + 30 ≤ room_1.slots) (hAg : Ag R T) (I : Iv g (R, B, (cd, bF T, bF P, fo), O) s H locs) (hl : lv_has ls 7 [(0, .ref (b)), (1, .ref (gA g 0)), (2, .ref (gA g 5)), (3, .ref (gA g 9)), (4, .int (nI (5 * j)))])
    (kk : ∀ (R : Nat → Nat → Int64) (B : Rul) (cd : Int32) (T P : Nat → Bool) (fo : Nat → Int32) (O : Nat → Int64) (H : Heap) (locs : List Loc) (ls : Array Slot), Ag R T → Iv g (R, B, (cd, bF T, bF P, fo), O) s H locs → lv_has ls 7 [(0, .ref (b)), (1, .ref (gA g 0)), (2, .ref (gA g 5)), (3, .ref (gA g 9)), (4, .int (nI (5 * j)))] → W p l e room_1 s m #[Value.ref b] below meth c H locs (62 + 5 * j + 5) (83840 + 30 * j + 30) Q (F0 m 1278 ls [])) : W p l e room_1 s m #[Value.ref b] below meth c H locs (62 + 5 * j) (83840 + 30 * j) Q (F0 m 1142 ls []) := by
  have hx := E.1
  have hb := E.2.1
  refine lv_aload_n hx hb dL_law_1142 rfl (lv_at hl 1 rfl) ?_
  refine lv_aload_n hx hb dL_law_1143 rfl (lv_at hl 0 rfl) ?_
  refine lv_iload hx hb dL_law_1144 (lv_at hl 4 rfl) ?_
  refine lv_iconst (v := nI (1)) hx hb dL_law_1146 (by decide) ?_
  refine n_iadd hx hb dL_law_1147 ?_
  refine s_ld (i := 5 * j + 1) hx hb hX hbl hbA I.2 (by omega) hL dL_law_1148 ?_
  refine lv_aload_n hx hb dL_law_1149 rfl (lv_at hl 0 rfl) ?_
  refine lv_iload hx hb dL_law_1150 (lv_at hl 4 rfl) ?_
  refine lv_iconst (v := nI (2)) hx hb dL_law_1152 (by decide) ?_
  refine n_iadd hx hb dL_law_1153 ?_
  refine s_ld (i := 5 * j + 2) hx hb hX hbl hbA I.2 (by omega) hL dL_law_1154 ?_
  refine lv_aload_n hx hb dL_law_1155 rfl (lv_at hl 3 rfl) ?_
  refine l_call (rest := []) E F I (l_sizes l hl0 g R B (cd, bF T, bF P, fo) O (xs (5 * j + 1)) (xs (5 * j + 2))) gL_law_L_sizes rfl hd_L_sizes rfl rfl ⟨by decide, by decide⟩ ⟨hfc, hfs⟩ rfl hl.1 rfl (Nat.le_of_ble_eq_true rfl) dL_law_1156 (fun v9 u9 H locs hp I => ?_)
  rcases hp with ⟨rfl, r9, u1, hq, rfl⟩ | ⟨rfl, hxc, rfl⟩ | ⟨rfl, hxc, rfl⟩
  · obtain ⟨a, b0, b_a, b_b0, e_a, e_b0, hab, cs9, B1, rfl, hv, hall9⟩ := hq
    have ev := Value.int.inj (Option.some.inj hv)
    have I : Iv g (R, B1, (cd, bF T, bF P, fo), vp_updL O 0 (cvI r9)) s H locs := I
    refine W.eq (g2 := F0 m 1159 ls [.int (nI (0))]) rfl ?_
    refine lv_istore (lv' := [(5, .int (nI (0))), (0, .ref (b)), (1, .ref (gA g 0)), (2, .ref (gA g 5)), (3, .ref (gA g 9)), (4, .int (nI (5 * j)))]) hx hb dL_law_1159 hl (by decide) rfl (fun ls hl => ?_)
    refine lv_aload_n hx hb dL_law_1161 rfl (lv_at hl 3 rfl) ?_
    refine lv_aload_n hx hb dL_law_1162 rfl (lv_at hl 1 rfl) ?_
    refine lv_iload hx hb dL_law_1163 (lv_at hl 5 rfl) ?_
    refine lv_iconst (v := nI (1)) hx hb dL_law_1165 (by decide) ?_
    refine n_iadd hx hb dL_law_1166 ?_
    refine s_ld (i := 5 * j + 1) hx hb hX hbl hbA I.2 (by omega) hL dL_law_1167 ?_
    refine lv_aload_n hx hb dL_law_1168 rfl (lv_at hl 1 rfl) ?_
    refine lv_iload hx hb dL_law_1169 (lv_at hl 5 rfl) ?_
    refine lv_iconst (v := nI (2)) hx hb dL_law_1171 (by decide) ?_
    refine n_iadd hx hb dL_law_1172 ?_
    refine s_ld (i := 5 * j + 2) hx hb hX hbl hbA I.2 (by omega) hL dL_law_1173 ?_
    refine x_callV 5 2 (rest := []) (C := RX2) (T0 := TX2) (N := 4) E F I (m_sizes l g R B1 cd T P fo (vp_updL O 0 (cvI r9)) (xs (5 * j + 1)) (xs (5 * j + 2))) gL_law_X2_sizes rfl (by decide) rfl rfl rfl hd_X2_sizes rfl rfl ⟨by decide, by decide⟩ ⟨hfc, hfs⟩ rfl hl.1 rfl (Nat.le_of_ble_eq_true rfl) dL_law_1174 (fun v8 u8 H locs hp8 I => ?_)
    obtain ⟨r8, cd1, fo1, rfl, rfl, hm⟩ := hp8
    refine W.eq (g2 := F0 m 1177 ls [.int (r8)]) rfl ?_
    rcases hm with ⟨hn8, hc1⟩ | ⟨hsl8, hn8, hc1⟩ | ⟨hc1, a8, b08, b_a8, b_b08, e_a8, e_b08, hab8, cs8, hall8, hres⟩
    · exact absurd ⟨⟨a, b_a, e_a⟩, ⟨b0, b_b0, e_b0⟩⟩ hn8
    · exact absurd (by rw [e_a, e_b0]; exact nI_le hab (by omega)) hn8
    · have q_a : a = a8 := (nI_eq (by omega) (by omega)).mp (e_a.symm.trans e_a8)
      subst q_a
      have q_b0 : b0 = b08 := (nI_eq (by omega) (by omega)).mp (e_b0.symm.trans e_b08)
      subst q_b0
      have hrr : r9 = r8 := ev.trans (by rw [hres, op_all hAg hab b_b0 hall9 hall8])
      refine lv_istore (lv' := [(6, .int (r8)), (5, .int (nI (0))), (0, .ref (b)), (1, .ref (gA g 0)), (2, .ref (gA g 5)), (3, .ref (gA g 9)), (4, .int (nI (5 * j)))]) hx hb dL_law_1177 hl (by decide) rfl (fun ls hl => ?_)
      refine lv_aload_n hx hb dL_law_1179 rfl (lv_at hl 4 rfl) ?_
      refine x_callVi 5 2 (rest := []) (C := RX2) (T0 := TX2) (N := 4) E F I (m_thrown l g R B1 cd1 T P fo1 (vp_updL O 0 (cvI r9))) gL_law_X2_thrown rfl (by decide) rfl rfl rfl hd_X2_thrown rfl rfl ⟨by decide, by decide⟩ ⟨hfc, hfs⟩ rfl hl.1 rfl (Nat.le_of_ble_eq_true rfl) dL_law_1180 (fun H locs I => ?_)
      refine lv_iload hx hb dL_law_1183 (lv_at hl 1 rfl) ?_
      refine lv_icmp_eq (tgt := 1190) hx hb dL_law_1185 (by decide) (fun h1 => ?_) (fun h1 => ?_)
      · refine lv_iload hx hb dL_law_1190 (lv_at hl 1 rfl) ?_
        refine n_ifne (tgt := 1207) hx hb (by decide) dL_law_1192 (by decide) (fun q => absurd q (by decide)) (fun _ => ?_)
        refine lv_aload_n hx hb dL_law_1195 rfl (lv_at hl 5 rfl) ?_
        refine lv_iconst (v := nI (0)) hx hb dL_law_1196 (by decide) ?_
        refine x_oaload hx hb F I (by omega) dL_law_1197 ?_
        refine lv_iload hx hb dL_law_1198 (lv_at hl 0 rfl) ?_
        refine lv_i2l hx hb dL_law_1200 rfl ?_
        refine n_leq (tgt := 1207) hx hb dL_law_1201 dL_law_1202 (by decide) (fun h3 => ?_) (fun h3 => ?_)
        · refine lv_goto (tgt := 1278) hx hb dL_law_1207 (by decide) ?_
          exact kk R B1 cd1 T P fo1 (vp_updL O 0 (cvI r9)) H locs ls hAg I (lv_sub hl [2, 3, 4, 5, 6] rfl)
        · exact absurd (by show vp_updL O 0 (cvI r9) 0 = _; rw [pk_uLs, hrr]; rfl) h3
      · exact absurd (hc1.trans nI0e) h1
  · have hn := hxc.resolve_right (fun q => absurd q.1 (by decide))
    have hn := hn.2
    refine W.eq (g2 := F0 m 1159 ls [.int (nI (1))]) rfl ?_
    refine lv_istore (lv' := [(5, .int (nI (1))), (0, .ref (b)), (1, .ref (gA g 0)), (2, .ref (gA g 5)), (3, .ref (gA g 9)), (4, .int (nI (5 * j)))]) hx hb dL_law_1159 hl (by decide) rfl (fun ls hl => ?_)
    refine lv_aload_n hx hb dL_law_1161 rfl (lv_at hl 3 rfl) ?_
    refine lv_aload_n hx hb dL_law_1162 rfl (lv_at hl 1 rfl) ?_
    refine lv_iload hx hb dL_law_1163 (lv_at hl 5 rfl) ?_
    refine lv_iconst (v := nI (1)) hx hb dL_law_1165 (by decide) ?_
    refine n_iadd hx hb dL_law_1166 ?_
    refine s_ld (i := 5 * j + 1) hx hb hX hbl hbA I.2 (by omega) hL dL_law_1167 ?_
    refine lv_aload_n hx hb dL_law_1168 rfl (lv_at hl 1 rfl) ?_
    refine lv_iload hx hb dL_law_1169 (lv_at hl 5 rfl) ?_
    refine lv_iconst (v := nI (2)) hx hb dL_law_1171 (by decide) ?_
    refine n_iadd hx hb dL_law_1172 ?_
    refine s_ld (i := 5 * j + 2) hx hb hX hbl hbA I.2 (by omega) hL dL_law_1173 ?_
    refine x_callV 5 2 (rest := []) (C := RX2) (T0 := TX2) (N := 4) E F I (m_sizes l g R B cd T P fo O (xs (5 * j + 1)) (xs (5 * j + 2))) gL_law_X2_sizes rfl (by decide) rfl rfl rfl hd_X2_sizes rfl rfl ⟨by decide, by decide⟩ ⟨hfc, hfs⟩ rfl hl.1 rfl (Nat.le_of_ble_eq_true rfl) dL_law_1174 (fun v8 u8 H locs hp8 I => ?_)
    obtain ⟨r8, cd1, fo1, rfl, rfl, hm⟩ := hp8
    refine W.eq (g2 := F0 m 1177 ls [.int (r8)]) rfl ?_
    rcases hm with ⟨hn8, hc1⟩ | ⟨hsl8, hn8, hc1⟩ | ⟨hc1, a8, b08, b_a8, b_b08, e_a8, e_b08, hab8, cs8, hall8, hres⟩
    · refine lv_istore (lv' := [(6, .int (r8)), (5, .int (nI (1))), (0, .ref (b)), (1, .ref (gA g 0)), (2, .ref (gA g 5)), (3, .ref (gA g 9)), (4, .int (nI (5 * j)))]) hx hb dL_law_1177 hl (by decide) rfl (fun ls hl => ?_)
      refine lv_aload_n hx hb dL_law_1179 rfl (lv_at hl 4 rfl) ?_
      refine x_callVi 5 2 (rest := []) (C := RX2) (T0 := TX2) (N := 4) E F I (m_thrown l g R B cd1 T P fo1 O) gL_law_X2_thrown rfl (by decide) rfl rfl rfl hd_X2_thrown rfl rfl ⟨by decide, by decide⟩ ⟨hfc, hfs⟩ rfl hl.1 rfl (Nat.le_of_ble_eq_true rfl) dL_law_1180 (fun H locs I => ?_)
      refine lv_iload hx hb dL_law_1183 (lv_at hl 1 rfl) ?_
      refine lv_icmp_eq (tgt := 1190) hx hb dL_law_1185 (by decide) (fun h4 => ?_) (fun h4 => ?_)
      · refine lv_iload hx hb dL_law_1190 (lv_at hl 1 rfl) ?_
        refine n_ifne (tgt := 1207) hx hb (by decide) dL_law_1192 (by decide) (fun _ => ?_) (fun q => absurd q (by decide))
        refine lv_goto (tgt := 1278) hx hb dL_law_1207 (by decide) ?_
        exact kk R B cd1 T P fo1 O H locs ls hAg I (lv_sub hl [2, 3, 4, 5, 6] rfl)
      · exact absurd (hc1.trans nI1e) h4
    · exact absurd hsl8 hn
    · exact absurd ⟨⟨a8, b_a8, e_a8⟩, ⟨b08, b_b08, e_b08⟩⟩ hn
  · obtain ⟨-, hsl, hn⟩ := hxc.resolve_left (fun q => absurd q.1 (by decide))
    refine W.eq (g2 := F0 m 1159 ls [.int (nI (2))]) rfl ?_
    refine lv_istore (lv' := [(5, .int (nI (2))), (0, .ref (b)), (1, .ref (gA g 0)), (2, .ref (gA g 5)), (3, .ref (gA g 9)), (4, .int (nI (5 * j)))]) hx hb dL_law_1159 hl (by decide) rfl (fun ls hl => ?_)
    refine lv_aload_n hx hb dL_law_1161 rfl (lv_at hl 3 rfl) ?_
    refine lv_aload_n hx hb dL_law_1162 rfl (lv_at hl 1 rfl) ?_
    refine lv_iload hx hb dL_law_1163 (lv_at hl 5 rfl) ?_
    refine lv_iconst (v := nI (1)) hx hb dL_law_1165 (by decide) ?_
    refine n_iadd hx hb dL_law_1166 ?_
    refine s_ld (i := 5 * j + 1) hx hb hX hbl hbA I.2 (by omega) hL dL_law_1167 ?_
    refine lv_aload_n hx hb dL_law_1168 rfl (lv_at hl 1 rfl) ?_
    refine lv_iload hx hb dL_law_1169 (lv_at hl 5 rfl) ?_
    refine lv_iconst (v := nI (2)) hx hb dL_law_1171 (by decide) ?_
    refine n_iadd hx hb dL_law_1172 ?_
    refine s_ld (i := 5 * j + 2) hx hb hX hbl hbA I.2 (by omega) hL dL_law_1173 ?_
    refine x_callV 5 2 (rest := []) (C := RX2) (T0 := TX2) (N := 4) E F I (m_sizes l g R B cd T P fo O (xs (5 * j + 1)) (xs (5 * j + 2))) gL_law_X2_sizes rfl (by decide) rfl rfl rfl hd_X2_sizes rfl rfl ⟨by decide, by decide⟩ ⟨hfc, hfs⟩ rfl hl.1 rfl (Nat.le_of_ble_eq_true rfl) dL_law_1174 (fun v8 u8 H locs hp8 I => ?_)
    obtain ⟨r8, cd1, fo1, rfl, rfl, hm⟩ := hp8
    refine W.eq (g2 := F0 m 1177 ls [.int (r8)]) rfl ?_
    rcases hm with ⟨hn8, hc1⟩ | ⟨hsl8, hn8, hc1⟩ | ⟨hc1, a8, b08, b_a8, b_b08, e_a8, e_b08, hab8, cs8, hall8, hres⟩
    · exact absurd hsl hn8
    · refine lv_istore (lv' := [(6, .int (r8)), (5, .int (nI (2))), (0, .ref (b)), (1, .ref (gA g 0)), (2, .ref (gA g 5)), (3, .ref (gA g 9)), (4, .int (nI (5 * j)))]) hx hb dL_law_1177 hl (by decide) rfl (fun ls hl => ?_)
      refine lv_aload_n hx hb dL_law_1179 rfl (lv_at hl 4 rfl) ?_
      refine x_callVi 5 2 (rest := []) (C := RX2) (T0 := TX2) (N := 4) E F I (m_thrown l g R B cd1 T P fo1 O) gL_law_X2_thrown rfl (by decide) rfl rfl rfl hd_X2_thrown rfl rfl ⟨by decide, by decide⟩ ⟨hfc, hfs⟩ rfl hl.1 rfl (Nat.le_of_ble_eq_true rfl) dL_law_1180 (fun H locs I => ?_)
      refine lv_iload hx hb dL_law_1183 (lv_at hl 1 rfl) ?_
      refine lv_icmp_eq (tgt := 1190) hx hb dL_law_1185 (by decide) (fun h6 => ?_) (fun h6 => ?_)
      · refine lv_iload hx hb dL_law_1190 (lv_at hl 1 rfl) ?_
        refine n_ifne (tgt := 1207) hx hb (by decide) dL_law_1192 (by decide) (fun _ => ?_) (fun q => absurd q (by decide))
        refine lv_goto (tgt := 1278) hx hb dL_law_1207 (by decide) ?_
        exact kk R B cd1 T P fo1 O H locs ls hAg I (lv_sub hl [2, 3, 4, 5, 6] rfl)
      · exact absurd (hc1.trans nI2e) h6
    · exact absurd (by rw [e_a8, e_b08]; exact nI_le hab8 (by omega)) hn
set_option maxHeartbeats 4000000 in
set_option maxRecDepth 100000 in
theorem lc_level {p : Program} {l : Launch} {e : Env} {s : State} {m : MethodId} {below : List Frame} {meth : Method} {c : Code} {H : Heap} {locs : List Loc} {Q : State → Prop} {ls : Array Slot} {g : Geo} {b L : Nat} {xs : Nat → Int32} {j : Nat} {R : Nat → Nat → Int64} {B : Rul} {cd : Int32} {T P : Nat → Bool} {fo : Nat → Int32} {O : Nat → Int64} (hl0 : l.stackTraces = false) (E : CallFix p m c cL_law 7 s #[Value.ref b] wsL_law RL) (F : Fx g s) (hX : va_X b L xs s s.heap) (hbl : b < s.heap.size) (hbA : ¬ gW g b) (hL : L ≤ 2560) (hjl : 5 * j + 5 ≤ L) (hfc : 62 + 5 * j + 5 ≤ room_1.cells) (hfs : 83840 + 30 * j + 30 ≤ room_1.slots) (hAg : Ag R T) (I : Iv g (R, B, (cd, bF T, bF P, fo), O) s H locs) (hl : lv_has ls 7 [(0, .ref (b)), (1, .ref (gA g 0)), (2, .ref (gA g 5)), (3, .ref (gA g 9)), (4, .int (nI (5 * j)))])
    (kk : ∀ (R : Nat → Nat → Int64) (B : Rul) (cd : Int32) (T P : Nat → Bool) (fo : Nat → Int32) (O : Nat → Int64) (H : Heap) (locs : List Loc) (ls : Array Slot), Ag R T → Iv g (R, B, (cd, bF T, bF P, fo), O) s H locs → lv_has ls 7 [(0, .ref (b)), (1, .ref (gA g 0)), (2, .ref (gA g 5)), (3, .ref (gA g 9)), (4, .int (nI (5 * j)))] → W p l e room_1 s m #[Value.ref b] below meth c H locs (62 + 5 * j + 5) (83840 + 30 * j + 30) Q (F0 m 1278 ls [])) : W p l e room_1 s m #[Value.ref b] below meth c H locs (62 + 5 * j) (83840 + 30 * j) Q (F0 m 1210 ls []) := by
  have hx := E.1
  have hb := E.2.1
  refine lv_aload_n hx hb dL_law_1210 rfl (lv_at hl 1 rfl) ?_
  refine lv_aload_n hx hb dL_law_1211 rfl (lv_at hl 0 rfl) ?_
  refine lv_iload hx hb dL_law_1212 (lv_at hl 4 rfl) ?_
  refine lv_iconst (v := nI (1)) hx hb dL_law_1214 (by decide) ?_
  refine n_iadd hx hb dL_law_1215 ?_
  refine s_ld (i := 5 * j + 1) hx hb hX hbl hbA I.2 (by omega) hL dL_law_1216 ?_
  refine lv_aload_n hx hb dL_law_1217 rfl (lv_at hl 0 rfl) ?_
  refine lv_iload hx hb dL_law_1218 (lv_at hl 4 rfl) ?_
  refine lv_iconst (v := nI (2)) hx hb dL_law_1220 (by decide) ?_
  refine n_iadd hx hb dL_law_1221 ?_
  refine s_ld (i := 5 * j + 2) hx hb hX hbl hbA I.2 (by omega) hL dL_law_1222 ?_
  refine lv_aload_n hx hb dL_law_1223 rfl (lv_at hl 3 rfl) ?_
  refine l_call (rest := []) E F I (l_level l hl0 g R B (cd, bF T, bF P, fo) O (xs (5 * j + 1)) (xs (5 * j + 2))) gL_law_L_level rfl hd_L_level rfl rfl ⟨by decide, by decide⟩ ⟨hfc, hfs⟩ rfl hl.1 rfl (Nat.le_of_ble_eq_true rfl) dL_law_1224 (fun v9 u9 H locs hp I => ?_)
  rcases hp with ⟨rfl, r9, u1, hq, rfl⟩ | ⟨rfl, hxc, rfl⟩ | ⟨rfl, hxc, rfl⟩
  · obtain ⟨a, v, b_a, b_v, e_a, e_v, n9, B1, rfl, hv, hnum9⟩ := hq
    have ev := Value.int.inj (Option.some.inj hv)
    have I : Iv g (R, B1, (cd, bF T, bF P, fo), vp_updL O 0 (cvI r9)) s H locs := I
    refine W.eq (g2 := F0 m 1227 ls [.int (nI (0))]) rfl ?_
    refine lv_istore (lv' := [(5, .int (nI (0))), (0, .ref (b)), (1, .ref (gA g 0)), (2, .ref (gA g 5)), (3, .ref (gA g 9)), (4, .int (nI (5 * j)))]) hx hb dL_law_1227 hl (by decide) rfl (fun ls hl => ?_)
    refine lv_aload_n hx hb dL_law_1229 rfl (lv_at hl 3 rfl) ?_
    refine lv_aload_n hx hb dL_law_1230 rfl (lv_at hl 1 rfl) ?_
    refine lv_iload hx hb dL_law_1231 (lv_at hl 5 rfl) ?_
    refine lv_iconst (v := nI (1)) hx hb dL_law_1233 (by decide) ?_
    refine n_iadd hx hb dL_law_1234 ?_
    refine s_ld (i := 5 * j + 1) hx hb hX hbl hbA I.2 (by omega) hL dL_law_1235 ?_
    refine lv_aload_n hx hb dL_law_1236 rfl (lv_at hl 1 rfl) ?_
    refine lv_iload hx hb dL_law_1237 (lv_at hl 5 rfl) ?_
    refine lv_iconst (v := nI (2)) hx hb dL_law_1239 (by decide) ?_
    refine n_iadd hx hb dL_law_1240 ?_
    refine s_ld (i := 5 * j + 2) hx hb hX hbl hbA I.2 (by omega) hL dL_law_1241 ?_
    refine x_callV 5 2 (rest := []) (C := RX2) (T0 := TX2) (N := 4) E F I (m_level l g R B1 cd T P fo (vp_updL O 0 (cvI r9)) (xs (5 * j + 1)) (xs (5 * j + 2))) gL_law_X2_level rfl (by decide) rfl rfl rfl hd_X2_level rfl rfl ⟨by decide, by decide⟩ ⟨hfc, hfs⟩ rfl hl.1 rfl (Nat.le_of_ble_eq_true rfl) dL_law_1242 (fun v8 u8 H locs hp8 I => ?_)
    obtain ⟨r8, cd1, fo1, rfl, rfl, hm⟩ := hp8
    refine W.eq (g2 := F0 m 1245 ls [.int (r8)]) rfl ?_
    rcases hm with ⟨hn8, hc1⟩ | ⟨hsl8, hn8, hc1⟩ | ⟨hc1, a8, v8, b_a8, b_v8, e_a8, e_v8, n8, hnum8, hres⟩
    · exact absurd ⟨a, b_a, e_a⟩ hn8
    · exact absurd ⟨v, b_v, e_v⟩ hn8
    · have q_a : a = a8 := (nI_eq (by omega) (by omega)).mp (e_a.symm.trans e_a8)
      subst q_a
      have q_v : v = v8 := (nI_eq (by omega) (by omega)).mp (e_v.symm.trans e_v8)
      subst q_v
      have hrr : r9 = r8 := ev.trans (by rw [hres, op_num hAg b_v (Nat.le_refl a) b_a hnum9 hnum8])
      refine lv_istore (lv' := [(6, .int (r8)), (5, .int (nI (0))), (0, .ref (b)), (1, .ref (gA g 0)), (2, .ref (gA g 5)), (3, .ref (gA g 9)), (4, .int (nI (5 * j)))]) hx hb dL_law_1245 hl (by decide) rfl (fun ls hl => ?_)
      refine lv_aload_n hx hb dL_law_1247 rfl (lv_at hl 4 rfl) ?_
      refine x_callVi 5 2 (rest := []) (C := RX2) (T0 := TX2) (N := 4) E F I (m_thrown l g R B1 cd1 T P fo1 (vp_updL O 0 (cvI r9))) gL_law_X2_thrown rfl (by decide) rfl rfl rfl hd_X2_thrown rfl rfl ⟨by decide, by decide⟩ ⟨hfc, hfs⟩ rfl hl.1 rfl (Nat.le_of_ble_eq_true rfl) dL_law_1248 (fun H locs I => ?_)
      refine lv_iload hx hb dL_law_1251 (lv_at hl 1 rfl) ?_
      refine lv_icmp_eq (tgt := 1258) hx hb dL_law_1253 (by decide) (fun h1 => ?_) (fun h1 => ?_)
      · refine lv_iload hx hb dL_law_1258 (lv_at hl 1 rfl) ?_
        refine n_ifne (tgt := 1275) hx hb (by decide) dL_law_1260 (by decide) (fun q => absurd q (by decide)) (fun _ => ?_)
        refine lv_aload_n hx hb dL_law_1263 rfl (lv_at hl 5 rfl) ?_
        refine lv_iconst (v := nI (0)) hx hb dL_law_1264 (by decide) ?_
        refine x_oaload hx hb F I (by omega) dL_law_1265 ?_
        refine lv_iload hx hb dL_law_1266 (lv_at hl 0 rfl) ?_
        refine lv_i2l hx hb dL_law_1268 rfl ?_
        refine n_leq (tgt := 1275) hx hb dL_law_1269 dL_law_1270 (by decide) (fun h3 => ?_) (fun h3 => ?_)
        · refine lv_goto (tgt := 1278) hx hb dL_law_1275 (by decide) ?_
          exact kk R B1 cd1 T P fo1 (vp_updL O 0 (cvI r9)) H locs ls hAg I (lv_sub hl [2, 3, 4, 5, 6] rfl)
        · exact absurd (by show vp_updL O 0 (cvI r9) 0 = _; rw [pk_uLs, hrr]; rfl) h3
      · exact absurd (hc1.trans nI0e) h1
  · have hn := hxc.resolve_right (fun q => absurd q.1 (by decide))
    have hn := hn.2
    refine W.eq (g2 := F0 m 1227 ls [.int (nI (1))]) rfl ?_
    refine lv_istore (lv' := [(5, .int (nI (1))), (0, .ref (b)), (1, .ref (gA g 0)), (2, .ref (gA g 5)), (3, .ref (gA g 9)), (4, .int (nI (5 * j)))]) hx hb dL_law_1227 hl (by decide) rfl (fun ls hl => ?_)
    refine lv_aload_n hx hb dL_law_1229 rfl (lv_at hl 3 rfl) ?_
    refine lv_aload_n hx hb dL_law_1230 rfl (lv_at hl 1 rfl) ?_
    refine lv_iload hx hb dL_law_1231 (lv_at hl 5 rfl) ?_
    refine lv_iconst (v := nI (1)) hx hb dL_law_1233 (by decide) ?_
    refine n_iadd hx hb dL_law_1234 ?_
    refine s_ld (i := 5 * j + 1) hx hb hX hbl hbA I.2 (by omega) hL dL_law_1235 ?_
    refine lv_aload_n hx hb dL_law_1236 rfl (lv_at hl 1 rfl) ?_
    refine lv_iload hx hb dL_law_1237 (lv_at hl 5 rfl) ?_
    refine lv_iconst (v := nI (2)) hx hb dL_law_1239 (by decide) ?_
    refine n_iadd hx hb dL_law_1240 ?_
    refine s_ld (i := 5 * j + 2) hx hb hX hbl hbA I.2 (by omega) hL dL_law_1241 ?_
    refine x_callV 5 2 (rest := []) (C := RX2) (T0 := TX2) (N := 4) E F I (m_level l g R B cd T P fo O (xs (5 * j + 1)) (xs (5 * j + 2))) gL_law_X2_level rfl (by decide) rfl rfl rfl hd_X2_level rfl rfl ⟨by decide, by decide⟩ ⟨hfc, hfs⟩ rfl hl.1 rfl (Nat.le_of_ble_eq_true rfl) dL_law_1242 (fun v8 u8 H locs hp8 I => ?_)
    obtain ⟨r8, cd1, fo1, rfl, rfl, hm⟩ := hp8
    refine W.eq (g2 := F0 m 1245 ls [.int (r8)]) rfl ?_
    rcases hm with ⟨hn8, hc1⟩ | ⟨hsl8, hn8, hc1⟩ | ⟨hc1, a8, v8, b_a8, b_v8, e_a8, e_v8, n8, hnum8, hres⟩
    · refine lv_istore (lv' := [(6, .int (r8)), (5, .int (nI (1))), (0, .ref (b)), (1, .ref (gA g 0)), (2, .ref (gA g 5)), (3, .ref (gA g 9)), (4, .int (nI (5 * j)))]) hx hb dL_law_1245 hl (by decide) rfl (fun ls hl => ?_)
      refine lv_aload_n hx hb dL_law_1247 rfl (lv_at hl 4 rfl) ?_
      refine x_callVi 5 2 (rest := []) (C := RX2) (T0 := TX2) (N := 4) E F I (m_thrown l g R B cd1 T P fo1 O) gL_law_X2_thrown rfl (by decide) rfl rfl rfl hd_X2_thrown rfl rfl ⟨by decide, by decide⟩ ⟨hfc, hfs⟩ rfl hl.1 rfl (Nat.le_of_ble_eq_true rfl) dL_law_1248 (fun H locs I => ?_)
      refine lv_iload hx hb dL_law_1251 (lv_at hl 1 rfl) ?_
      refine lv_icmp_eq (tgt := 1258) hx hb dL_law_1253 (by decide) (fun h4 => ?_) (fun h4 => ?_)
      · refine lv_iload hx hb dL_law_1258 (lv_at hl 1 rfl) ?_
        refine n_ifne (tgt := 1275) hx hb (by decide) dL_law_1260 (by decide) (fun _ => ?_) (fun q => absurd q (by decide))
        refine lv_goto (tgt := 1278) hx hb dL_law_1275 (by decide) ?_
        exact kk R B cd1 T P fo1 O H locs ls hAg I (lv_sub hl [2, 3, 4, 5, 6] rfl)
      · exact absurd (hc1.trans nI1e) h4
    · exact absurd hsl8 hn
    · exact absurd ⟨a8, b_a8, e_a8⟩ hn
  · obtain ⟨-, hsl, hn⟩ := hxc.resolve_left (fun q => absurd q.1 (by decide))
    refine W.eq (g2 := F0 m 1227 ls [.int (nI (2))]) rfl ?_
    refine lv_istore (lv' := [(5, .int (nI (2))), (0, .ref (b)), (1, .ref (gA g 0)), (2, .ref (gA g 5)), (3, .ref (gA g 9)), (4, .int (nI (5 * j)))]) hx hb dL_law_1227 hl (by decide) rfl (fun ls hl => ?_)
    refine lv_aload_n hx hb dL_law_1229 rfl (lv_at hl 3 rfl) ?_
    refine lv_aload_n hx hb dL_law_1230 rfl (lv_at hl 1 rfl) ?_
    refine lv_iload hx hb dL_law_1231 (lv_at hl 5 rfl) ?_
    refine lv_iconst (v := nI (1)) hx hb dL_law_1233 (by decide) ?_
    refine n_iadd hx hb dL_law_1234 ?_
    refine s_ld (i := 5 * j + 1) hx hb hX hbl hbA I.2 (by omega) hL dL_law_1235 ?_
    refine lv_aload_n hx hb dL_law_1236 rfl (lv_at hl 1 rfl) ?_
    refine lv_iload hx hb dL_law_1237 (lv_at hl 5 rfl) ?_
    refine lv_iconst (v := nI (2)) hx hb dL_law_1239 (by decide) ?_
    refine n_iadd hx hb dL_law_1240 ?_
    refine s_ld (i := 5 * j + 2) hx hb hX hbl hbA I.2 (by omega) hL dL_law_1241 ?_
    refine x_callV 5 2 (rest := []) (C := RX2) (T0 := TX2) (N := 4) E F I (m_level l g R B cd T P fo O (xs (5 * j + 1)) (xs (5 * j + 2))) gL_law_X2_level rfl (by decide) rfl rfl rfl hd_X2_level rfl rfl ⟨by decide, by decide⟩ ⟨hfc, hfs⟩ rfl hl.1 rfl (Nat.le_of_ble_eq_true rfl) dL_law_1242 (fun v8 u8 H locs hp8 I => ?_)
    obtain ⟨r8, cd1, fo1, rfl, rfl, hm⟩ := hp8
    refine W.eq (g2 := F0 m 1245 ls [.int (r8)]) rfl ?_
    rcases hm with ⟨hn8, hc1⟩ | ⟨hsl8, hn8, hc1⟩ | ⟨hc1, a8, v8, b_a8, b_v8, e_a8, e_v8, n8, hnum8, hres⟩
    · exact absurd hsl hn8
    · refine lv_istore (lv' := [(6, .int (r8)), (5, .int (nI (2))), (0, .ref (b)), (1, .ref (gA g 0)), (2, .ref (gA g 5)), (3, .ref (gA g 9)), (4, .int (nI (5 * j)))]) hx hb dL_law_1245 hl (by decide) rfl (fun ls hl => ?_)
      refine lv_aload_n hx hb dL_law_1247 rfl (lv_at hl 4 rfl) ?_
      refine x_callVi 5 2 (rest := []) (C := RX2) (T0 := TX2) (N := 4) E F I (m_thrown l g R B cd1 T P fo1 O) gL_law_X2_thrown rfl (by decide) rfl rfl rfl hd_X2_thrown rfl rfl ⟨by decide, by decide⟩ ⟨hfc, hfs⟩ rfl hl.1 rfl (Nat.le_of_ble_eq_true rfl) dL_law_1248 (fun H locs I => ?_)
      refine lv_iload hx hb dL_law_1251 (lv_at hl 1 rfl) ?_
      refine lv_icmp_eq (tgt := 1258) hx hb dL_law_1253 (by decide) (fun h6 => ?_) (fun h6 => ?_)
      · refine lv_iload hx hb dL_law_1258 (lv_at hl 1 rfl) ?_
        refine n_ifne (tgt := 1275) hx hb (by decide) dL_law_1260 (by decide) (fun _ => ?_) (fun q => absurd q (by decide))
        refine lv_goto (tgt := 1278) hx hb dL_law_1275 (by decide) ?_
        exact kk R B cd1 T P fo1 O H locs ls hAg I (lv_sub hl [2, 3, 4, 5, 6] rfl)
      · exact absurd (hc1.trans nI2e) h6
    · exact absurd ⟨v8, b_v8, e_v8⟩ hn
