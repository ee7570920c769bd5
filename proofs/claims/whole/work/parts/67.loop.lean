def R_law : String := "FunctionDeskLaw"
def lw_P (b : Addr) (xs : List Int32) (args : Array Value) (s : State) : Prop := args = #[.ref b] ∧ s.IntsAt b xs ∧ xs.length ≤ 2560 ∧ (Jvm.Cond.and given_1 narrow_1).before args s = true
def lw_Q (_ : Array Value) (s : State) (o : Outcome) (t : State) : Prop := o = .returned (some (.int 1)) ∧ Framed s o t [] 601024 7293034
def lw_Z (below : List Frame) (a : Array Value) (s : State) : State → Prop := fun t => ∃ o, t.status = .running ∧ Ended t below o ∧ lw_Q a s o t
/-- the law's own end, with 1 on the stack, nothing written that was there before, its room as the claim has it -/
theorem lw_ret {p : Program} {l : Launch} {e : Env} {s : State} {m : MethodId} {below : List Frame} {meth : Method} {c : Code} {b : Nat} (hx : p.tables.exec = Jvm.exec) (hb : c.code = code) (hr : meth.sig.returnType = ret) (hlocks : meth.locks = false) {pc : Nat} {H : Heap} {ls : Array Slot} (hdg : decode code pc = .ok (.ireturn, 1)) : W p l e room_1 s m #[Value.ref b] below meth c H [] 601024 7293034 (lw_Z below #[Value.ref b] s) (F0 m pc ls [.int 1]) := by
  intro T hT X
  obtain ⟨fs, hret, hrun, hended, hW, hframe⟩ := X.leave (v := some (.int 1)) (hlocks := hlocks) (fun h => by rw [hr] at h; cases h)
  have hmeth' : T.vm.method? m = some meth := X.method'
  refine ⟨T.setFrames fs, ?_, .returned (some (.int 1)), hrun, hended, rfl, ⟨_, rfl⟩, hW, hframe⟩
  jvm_step X.here [X.here.top, hx, hb, hdg, hmeth', hr, ret, narrow_b1]
  (try refine ⟨rfl, ?_⟩); (try refine ⟨rfl, ?_⟩)
  first | (intro acts; rw [hret _ acts rfl rfl rfl]) | rw [hret _ _ rfl rfl rfl]
  exact Steps.refl _
/-- what holds at the law's entry: the machine, the code, the tables' words (any of lw_tbl by 'hts w (by decide +kernel)'), the script of L ints xs at the cell b, what the Statement gives of the start (any of its parts by flat_of_before) -/
def lw_At (p : Program) (s : State) (m : MethodId) (meth : Method) (c : Code) (b L : Nat) (xs : Nat → Int32) : Prop :=
  p.tables.exec = Jvm.exec ∧ c.code = code ∧ meth.sig.returnType = ret ∧ c.maxLocals = 7 ∧ s.vm.findClass R_law = some m.cls ∧ (∀ w ∈ lw_tbl, w.before #[Value.ref b] s = true) ∧ va_X b L xs s s.heap ∧ b < s.heap.size ∧ meth.locks = false ∧ (Jvm.Cond.and given_1 narrow_1).before #[Value.ref b] s = true
set_option maxHeartbeats 4000000 in
set_option maxRecDepth 100000 in
theorem law_step {p : Program} {l : Launch} {e : Env} {s : State} {m : MethodId} {below : List Frame} {meth : Method} {c : Code} {g : Geo} {b L : Nat} {xs : Nat → Int32} (hl0 : l.stackTraces = false) (E : CallFix p m c cL_law 7 s #[Value.ref b] wsL_law RL) (hr : meth.sig.returnType = ret) (hlocks : meth.locks = false) (F : Fx g s) (hX : va_X b L xs s s.heap) (hbl : b < s.heap.size) (hgW : ∀ q, gW g q → s.heap.size ≤ q) (hL : L ≤ 2560) {j : Nat} (hj : 5 * j ≤ 2560)
    (kk : 5 * j + 5 ≤ L → ∀ (R : Nat → Nat → Int64) (B : Rul) (cd : Int32) (T P : Nat → Bool) (fo : Nat → Int32) (O : Nat → Int64) (H : Heap) (locs : List Loc) (ls : Array Slot), Ag R T → Iv g (R, B, (cd, bF T, bF P, fo), O) s H locs → lv_has ls 7 [(0, .ref (b)), (1, .ref (gA g 0)), (2, .ref (gA g 5)), (3, .ref (gA g 9)), (4, .int (nI (5 * (j + 1))))] → W p l e room_1 s m #[Value.ref b] below meth c H locs (62 + 5 * (j + 1)) (83840 + 30 * (j + 1)) (lw_Z below #[Value.ref b] s) (F0 m 23 ls [])) :
    ∀ (R : Nat → Nat → Int64) (B : Rul) (cd : Int32) (T P : Nat → Bool) (fo : Nat → Int32) (O : Nat → Int64) (H : Heap) (locs : List Loc) (ls : Array Slot), Ag R T → Iv g (R, B, (cd, bF T, bF P, fo), O) s H locs → lv_has ls 7 [(0, .ref (b)), (1, .ref (gA g 0)), (2, .ref (gA g 5)), (3, .ref (gA g 9)), (4, .int (nI (5 * j)))] → W p l e room_1 s m #[Value.ref b] below meth c H locs (62 + 5 * j) (83840 + 30 * j) (lw_Z below #[Value.ref b] s) (F0 m 23 ls []) := by
  rw [show 62 + 5 * (j + 1) = 62 + 5 * j + 5 by omega, show 83840 + 30 * (j + 1) = 83840 + 30 * j + 30 by omega, show 5 * (j + 1) = 5 * j + 5 by omega] at kk
  intro R B cd T P fo O H locs ls hAg I hl
  have hx := E.1
  have hb := E.2.1
  have hbA : ¬ gW g b := fun h => absurd (hgW b h) (by omega)
  have hcc : room_1.cells = 601024 := rfl
  have hcs : room_1.slots = 7293034 := rfl
  refine lv_iload hx hb dL_law_23 (lv_at hl 4 rfl) ?_
  refine lv_aload_n hx hb dL_law_25 rfl (lv_at hl 0 rfl) ?_
  refine va_slen hx hb hX hbl hbA I.2 dL_law_26 ?_
  refine lv_iconst (v := nI 5) hx hb dL_law_27 (by decide) ?_
  refine lv_isub hx hb dL_law_28 ?_
  refine lv_icmp_gt (tgt := 1284) hx hb dL_law_29 (by decide) (fun h => ?_) (fun h => ?_)
  · refine lv_iconst (v := 1) hx hb dL_law_1284 (by decide) ?_
    refine va_forget (fun q hq => hgW _ (I.2.2.2 q hq)) ?_
    refine W.widen (k := 601024) (n := 7293034) (by omega) (by omega) ?_
    exact lw_ret hx hb hr hlocks dL_law_1285
  · have hjl : 5 * j + 5 ≤ L := by
      rw [Int32.lt_iff_toInt_lt, show Int32.ofNat L = nI L from rfl, pk_sub_toInt (by omega) (by omega), nI_toInt (by omega)] at h
      omega
    have hfc : 62 + 5 * j + 5 ≤ room_1.cells := by omega
    have hfs : 83840 + 30 * j + 30 ≤ room_1.slots := by omega
    refine lv_aload_n hx hb dL_law_32 rfl (lv_at hl 0 rfl) ?_
    refine lv_iload hx hb dL_law_33 (lv_at hl 4 rfl) ?_
    refine s_ld (i := 5 * j) hx hb hX hbl hbA I.2 (by omega) hL dL_law_35 ?_
    refine lv_bipush (v := 31) hx hb dL_law_36 (by decide) ?_
    refine lv_iand hx hb dL_law_38 ?_
    obtain ⟨k, hk, ek⟩ := pk_andE (xs (5 * j)) (m := 31) 5 (by decide)
    rw [ek]
    have k9 : ∀ (R : Nat → Nat → Int64) (B : Rul) (cd : Int32) (T P : Nat → Bool) (fo : Nat → Int32) (O : Nat → Int64) (H : Heap) (locs : List Loc) (ls : Array Slot), Ag R T → Iv g (R, B, (cd, bF T, bF P, fo), O) s H locs → lv_has ls 7 [(0, .ref (b)), (1, .ref (gA g 0)), (2, .ref (gA g 5)), (3, .ref (gA g 9)), (4, .int (nI (5 * j)))] → W p l e room_1 s m #[Value.ref b] below meth c H locs (62 + 5 * j + 5) (83840 + 30 * j + 30) (lw_Z below #[Value.ref b] s) (F0 m 1278 ls []) := by
      intro R B cd T P fo O H locs ls hAg I hl
      refine n_iinc (j := 4) (d := 5) (a := 5 * j) (lv' := [(4, .int (nI (5 * j + 5))), (0, .ref (b)), (1, .ref (gA g 0)), (2, .ref (gA g 5)), (3, .ref (gA g 9))]) hx hb dL_law_1278 rfl hl rfl (by decide) rfl (fun ls hl => ?_)
      refine lv_goto (tgt := 23) hx hb dL_law_1281 (by decide) ?_
      exact kk hjl R B cd T P fo O H locs ls hAg I (lv_sub hl [1, 2, 3, 4, 0] rfl)
    rcases (show k = 0 ∨ k = 1 ∨ k = 2 ∨ k = 3 ∨ k = 4 ∨ k = 5 ∨ k = 6 ∨ k = 7 ∨ k = 8 ∨ k = 9 ∨ k = 10 ∨ k = 11 ∨ k = 12 ∨ k = 13 ∨ k = 14 ∨ k = 15 ∨ k = 16 ∨ 17 ≤ k by omega) with rfl | rfl | rfl | rfl | rfl | rfl | rfl | rfl | rfl | rfl | rfl | rfl | rfl | rfl | rfl | rfl | rfl | h17
    · refine lv_tableIn (off := 81) (tgt := 120) hx hb dL_law_39 (by decide) (by decide) rfl (by decide) ?_
      exact lc_constant hl0 E F hX hbl hbA hL hjl hfc hfs hAg I hl k9
    · refine lv_tableIn (off := 145) (tgt := 184) hx hb dL_law_39 (by decide) (by decide) rfl (by decide) ?_
      exact lc_variable hl0 E F hX hbl hbA hL hjl hfc hfs hAg I hl k9
    · refine lv_tableIn (off := 193) (tgt := 232) hx hb dL_law_39 (by decide) (by decide) rfl (by decide) ?_
      exact lc_join hl0 E F hX hbl hbA hL hjl hfc hfs hAg I hl k9
    · refine lv_tableIn (off := 265) (tgt := 304) hx hb dL_law_39 (by decide) (by decide) rfl (by decide) ?_
      exact lc_choose hl0 E F hX hbl hbA hL hjl hfc hfs hAg I hl k9
    · refine lv_tableIn (off := 337) (tgt := 376) hx hb dL_law_39 (by decide) (by decide) rfl (by decide) ?_
      exact lc_fix hl0 E F hX hbl hbA hL hjl hfc hfs hAg I hl k9
    · refine lv_tableIn (off := 425) (tgt := 464) hx hb dL_law_39 (by decide) (by decide) rfl (by decide) ?_
      exact lc_some hl0 E F hX hbl hbA hL hjl hfc hfs hAg I hl k9
    · refine lv_tableIn (off := 513) (tgt := 552) hx hb dL_law_39 (by decide) (by decide) rfl (by decide) ?_
      exact lc_put hl0 E F hX hbl hbA hL hjl hfc hfs hAg I hl k9
    · refine lv_tableIn (off := 585) (tgt := 624) hx hb dL_law_39 (by decide) (by decide) rfl (by decide) ?_
      exact lc_swap hl0 E F hX hbl hbA hL hjl hfc hfs hAg I hl k9
    · refine lv_tableIn (off := 657) (tgt := 696) hx hb dL_law_39 (by decide) (by decide) rfl (by decide) ?_
      exact lc_nearest hl0 E F hX hbl hbA hL hjl hfc hfs hAg I hl k9
    · refine lv_tableIn (off := 717) (tgt := 756) hx hb dL_law_39 (by decide) (by decide) rfl (by decide) ?_
      exact lc_isSame hl0 E F hX hbl hbA hL hjl hfc hfs hAg I hl k9
    · refine lv_tableIn (off := 792) (tgt := 831) hx hb dL_law_39 (by decide) (by decide) rfl (by decide) ?_
      exact lc_truth hl0 E F hX hbl hbA hL hjl hfc hfs hAg I hl k9
    · refine lv_tableIn (off := 867) (tgt := 906) hx hb dL_law_39 (by decide) (by decide) rfl (by decide) ?_
      exact lc_count hl0 E F hX hbl hbA hL hjl hfc hfs hAg I hl k9
    · refine lv_tableIn (off := 923) (tgt := 962) hx hb dL_law_39 (by decide) (by decide) rfl (by decide) ?_
      exact lc_next hl0 E F hX hbl hbA hL hjl hfc hfs hAg I hl k9
    · refine lv_tableIn (off := 991) (tgt := 1030) hx hb dL_law_39 (by decide) (by decide) rfl (by decide) ?_
      exact lc_depends hl0 E F hX hbl hbA hL hjl hfc hfs hAg I hl k9
    · refine lv_tableIn (off := 1047) (tgt := 1086) hx hb dL_law_39 (by decide) (by decide) rfl (by decide) ?_
      exact lc_size hl0 E F hX hbl hbA hL hjl hfc hfs hAg I hl k9
    · refine lv_tableIn (off := 1103) (tgt := 1142) hx hb dL_law_39 (by decide) (by decide) rfl (by decide) ?_
      exact lc_sizes hl0 E F hX hbl hbA hL hjl hfc hfs hAg I hl k9
    · refine lv_tableIn (off := 1171) (tgt := 1210) hx hb dL_law_39 (by decide) (by decide) rfl (by decide) ?_
      exact lc_level hl0 E F hX hbl hbA hL hjl hfc hfs hAg I hl k9
    · refine lv_tableOut (tgt := 1278) hx hb dL_law_39 (Or.inr (by rw [nI_toInt (by omega)]; omega)) (by decide) ?_
      refine W.widen (k := 62 + 5 * j + 5) (n := 83840 + 30 * j + 30) (by omega) (by omega) ?_
      exact k9 R B cd T P fo O H locs ls hAg I hl
theorem law_loop {p : Program} {l : Launch} {e : Env} {s : State} {m : MethodId} {below : List Frame} {meth : Method} {c : Code} {g : Geo} {b L : Nat} {xs : Nat → Int32} (hl0 : l.stackTraces = false) (E : CallFix p m c cL_law 7 s #[Value.ref b] wsL_law RL) (hr : meth.sig.returnType = ret) (hlocks : meth.locks = false) (F : Fx g s) (hX : va_X b L xs s s.heap) (hbl : b < s.heap.size) (hgW : ∀ q, gW g q → s.heap.size ≤ q) (hL : L ≤ 2560) : ∀ (n j : Nat), L ≤ 5 * j + n → 5 * j ≤ 2560 →
    ∀ (R : Nat → Nat → Int64) (B : Rul) (cd : Int32) (T P : Nat → Bool) (fo : Nat → Int32) (O : Nat → Int64) (H : Heap) (locs : List Loc) (ls : Array Slot), Ag R T → Iv g (R, B, (cd, bF T, bF P, fo), O) s H locs → lv_has ls 7 [(0, .ref (b)), (1, .ref (gA g 0)), (2, .ref (gA g 5)), (3, .ref (gA g 9)), (4, .int (nI (5 * j)))] → W p l e room_1 s m #[Value.ref b] below meth c H locs (62 + 5 * j) (83840 + 30 * j) (lw_Z below #[Value.ref b] s) (F0 m 23 ls []) := by
  intro n
  induction n with
  | zero => exact fun j hn hj => law_step hl0 E hr hlocks F hX hbl hgW hL hj (fun h => absurd h (by omega))
  | succ n ih => exact fun j hn hj => law_step hl0 E hr hlocks F hX hbl hgW hL hj (fun h => ih (j + 1) (by omega) (by omega))
