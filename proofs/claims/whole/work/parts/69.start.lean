theorem nb_long_1 : 1 * componentBytes .long ≤ 536870912 := by decide +kernel
theorem nn_1 : ¬ (1 : Int32) < 0 := by decide +kernel
theorem nc_1 : (1 : Int32).toNatClampNeg = 1 := by decide +kernel
/-- the classes of the desk, its ruler and the reference, as the tables have them -/
theorem d_of {s : State} {b : Nat} (hts : ∀ w ∈ lw_tbl, w.before #[Value.ref b] s = true) : ∃ D : va_G, va_K D vwCl [] s := by
  obtain ⟨c0, i0, k0⟩ := u_known (C := RX0) (T := TX0) (N := 5) hts inX0 (hts _ tin_n0)
  obtain ⟨c1, i1, k1⟩ := u_known (C := RX1) (T := TX1) (N := 6) hts inX1 (hts _ tin_n1)
  obtain ⟨c2, i2, k2⟩ := u_known (C := RX2) (T := TX2) (N := 4) hts inX2 (hts _ tin_n2)
  refine ⟨(fun k => match k with | 0 => c0 | 1 => c1 | _ => c2, fun k => match k with | 0 => i0 | 1 => i1 | _ => i2), fun c q hq => ?_, fun k q h => by simp at h⟩
  rcases c with _ | _ | _ | c
  · cases hq; exact k0
  · cases hq; exact k1
  · cases hq; exact k2
  · simp [vwCl] at hq
/-- where the world's cell k stands in the list of the law's beginning -/
def psL (k : Nat) : Nat := if k < 10 then k else if k < 58 then k + 4 else k - 48
theorem psL_inj {i j : Nat} (hi : i < 62) (hj : j < 62) (h : psL i = psL j) : i = j := by
  unfold psL at h
  split at h <;> split at h <;> (try split at h) <;> (try split at h) <;> omega
/-- the first world -/
def uL : Wd := (fun _ _ => 0, (fun _ => 0, fun _ => 0, 0, 0, 1), (0, bF (fun _ => false), bF (fun _ => false), fun _ => 0), fun _ => 0)
theorem uL_Ag : Ag (fun _ _ => 0) (fun _ => false) := fun a _ p _ => (pt_c false p).symm
def adL (h0 q1 q2 q3 q4 q5 qr r3 r4 qm t1 t2 t3 qo : Nat) (r : Nat → Nat) (k : Nat) : Nat := match k with
  | 0 => h0 | 1 => q1 | 2 => qr | 3 => r3 | 4 => r4 | 5 => qm | 6 => t1 | 7 => t2 | 8 => t3 | 9 => qo
  | k + 10 => if k < 48 then r k else match k - 48 with | 0 => q2 | 1 => q3 | 2 => q4 | _ => q5
set_option maxHeartbeats 1000000 in
theorem ps_at (D : va_G) (h0 q1 q2 q3 q4 q5 qr r3 r4 qm t1 t2 t3 qo : Nat) (r : Nat → Nat) (cI cy cZ cQ : ClassId) (B : Nat) {k : Nat} (hk : k < 62) : ([(h0, .inr (1, [.ref q1, .ref q2, .ref q3, .ref q4, .ref q5, .ref qr])), (q1, .inl (cQ, 48, .inr (.inr (.inr (.inr (fun i => if i < 48 then some (r i) else none)))))), (qr, .inr (0, [.ref r3, .int 0, .int 0, .ref r4, .int 1])), (r3, .inl (cI, 4096, .inl (fun _ => 0))), (r4, .inl (cI, 4096, .inl (fun _ => 0))), (qm, .inr (2, [.int 0, .ref t1, .ref t2, .ref t3])), (t1, .inl (cZ, 49152, .inl (fun _ => 0))), (t2, .inl (cZ, 1024, .inl (fun _ => 0))), (t3, .inl (cI, 24576, .inl (fun _ => 0))), (qo, .inl (cy, 1, .inr (.inl (fun _ => 0)))), (q2, .inl (cy, 16, .inr (.inl (fun _ => 0)))), (q3, .inl (cy, 16, .inr (.inl (fun _ => 0)))), (q4, .inl (cy, 16, .inr (.inl (fun _ => 0)))), (q5, .inl (cy, 16, .inr (.inl (fun _ => 0))))] ++ va_pl ((List.range 48).map r) (fun _ => .inl (cy, 16, .inr (.inl (fun _ => 0)))) : va_W)[psL k]? = some (gA ((D, adL h0 q1 q2 q3 q4 q5 qr r3 r4 qm t1 t2 t3 qo r, (cI, cy, cZ, cQ), B) : Geo) k, ec ((D, adL h0 q1 q2 q3 q4 q5 qr r3 r4 qm t1 t2 t3 qo r, (cI, cy, cZ, cQ), B) : Geo) uL k) := by
  by_cases h1 : k < 10
  · rcases (show k = 0 ∨ k = 1 ∨ k = 2 ∨ k = 3 ∨ k = 4 ∨ k = 5 ∨ k = 6 ∨ k = 7 ∨ k = 8 ∨ k = 9 by omega) with rfl | rfl | rfl | rfl | rfl | rfl | rfl | rfl | rfl | rfl
    · rfl
    · refine congrArg some (congrArg (fun z => ((q1, .inl (cQ, 48, .inr (.inr (.inr (.inr z))))) : Nat × va_E)) (funext fun i => ?_))
      by_cases hi : i < 48
      · rw [if_pos hi, if_pos hi]
        show some (r i) = some (if i < 48 then r i else _)
        rw [if_pos hi]
      · rw [if_neg hi, if_neg hi]
    all_goals rfl
  · by_cases h2 : k < 58
    · obtain ⟨i, rfl⟩ : ∃ i, k = i + 10 := ⟨k - 10, by omega⟩
      have hi : i < 48 := by omega
      have e1 : psL (i + 10) = i + 14 := by unfold psL; rw [if_neg h1, if_pos h2]
      rw [e1, List.getElem?_append_right (by show 14 ≤ i + 14; omega)]
      show (va_pl ((List.range 48).map r) (fun _ => .inl (cy, 16, .inr (.inl (fun _ => 0)))))[i + 14 - 14]? = some (if i < 48 then r i else _, _)
      rw [if_pos hi, Nat.add_sub_cancel]
      unfold va_pl
      rw [List.getElem?_map, List.getElem?_map, List.getElem?_range hi]
      rfl
    · rcases (show k = 58 ∨ k = 59 ∨ k = 60 ∨ k = 61 by omega) with rfl | rfl | rfl | rfl <;> rfl
/-- from the world as the constructors leave it: all is there for the loop -/
theorem law_enter {p : Program} {l : Launch} {e : Env} {s : State} {m : MethodId} {below : List Frame} {meth : Method} {c : Code} {b L : Nat} {xs : Nat → Int32} (hl0 : l.stackTraces = false) (E : CallFix p m c cL_law 7 s #[Value.ref b] wsL_law RL) (hr : meth.sig.returnType = ret) (hlocks : meth.locks = false) (hts : ∀ w ∈ lw_tbl, w.before #[Value.ref b] s = true) (hgv : (Jvm.Cond.and given_1 narrow_1).before #[Value.ref b] s = true) (hX : va_X b L xs s s.heap) (hbl : b < s.heap.size) (hL : L ≤ 2560)
    {D : va_G} {h0 q1 q2 q3 q4 q5 qr r3 r4 qm t1 t2 t3 qo : Nat} {r : Nat → Nat} {cI cy cZ cQ : ClassId} {H : Heap} {locs : List Loc} {ls : Array Slot} (hK : va_K D vwCl [(cI, .int), (cy, .long), (cZ, .boolean), (cQ, .array .long)] s) (hP : va_P D vwCl ([(h0, .inr (1, [.ref q1, .ref q2, .ref q3, .ref q4, .ref q5, .ref qr])), (q1, .inl (cQ, 48, .inr (.inr (.inr (.inr (fun i => if i < 48 then some (r i) else none)))))), (qr, .inr (0, [.ref r3, .int 0, .int 0, .ref r4, .int 1])), (r3, .inl (cI, 4096, .inl (fun _ => 0))), (r4, .inl (cI, 4096, .inl (fun _ => 0))), (qm, .inr (2, [.int 0, .ref t1, .ref t2, .ref t3])), (t1, .inl (cZ, 49152, .inl (fun _ => 0))), (t2, .inl (cZ, 1024, .inl (fun _ => 0))), (t3, .inl (cI, 24576, .inl (fun _ => 0))), (qo, .inl (cy, 1, .inr (.inl (fun _ => 0)))), (q2, .inl (cy, 16, .inr (.inl (fun _ => 0)))), (q3, .inl (cy, 16, .inr (.inl (fun _ => 0)))), (q4, .inl (cy, 16, .inr (.inl (fun _ => 0)))), (q5, .inl (cy, 16, .inr (.inl (fun _ => 0))))] ++ va_pl ((List.range 48).map r) (fun _ => .inl (cy, 16, .inr (.inl (fun _ => 0))))) H) (hD : va_D (fun q => s.heap.size ≤ q) ([(h0, .inr (1, [.ref q1, .ref q2, .ref q3, .ref q4, .ref q5, .ref qr])), (q1, .inl (cQ, 48, .inr (.inr (.inr (.inr (fun i => if i < 48 then some (r i) else none)))))), (qr, .inr (0, [.ref r3, .int 0, .int 0, .ref r4, .int 1])), (r3, .inl (cI, 4096, .inl (fun _ => 0))), (r4, .inl (cI, 4096, .inl (fun _ => 0))), (qm, .inr (2, [.int 0, .ref t1, .ref t2, .ref t3])), (t1, .inl (cZ, 49152, .inl (fun _ => 0))), (t2, .inl (cZ, 1024, .inl (fun _ => 0))), (t3, .inl (cI, 24576, .inl (fun _ => 0))), (qo, .inl (cy, 1, .inr (.inl (fun _ => 0)))), (q2, .inl (cy, 16, .inr (.inl (fun _ => 0)))), (q3, .inl (cy, 16, .inr (.inl (fun _ => 0)))), (q4, .inl (cy, 16, .inr (.inl (fun _ => 0)))), (q5, .inl (cy, 16, .inr (.inl (fun _ => 0))))] ++ va_pl ((List.range 48).map r) (fun _ => .inl (cy, 16, .inr (.inl (fun _ => 0)))))) (hS : va_S (fun q => s.heap.size ≤ q) s.heap H locs) (hl : lv_has ls 7 [(0, .ref b), (1, .ref h0), (2, .ref qm), (3, .ref qo), (4, .int (nI 0))]) : W p l e room_1 s m #[Value.ref b] below meth c H locs 62 83840 (lw_Z below #[Value.ref b] s) (F0 m 23 ls []) := by
  obtain ⟨B, hB⟩ := bv_ref hgv
  generalize hg : ((D, adL h0 q1 q2 q3 q4 q5 qr r3 r4 qm t1 t2 t3 qo r, (cI, cy, cZ, cQ), B) : Geo) = g
  have hat : ∀ k, k < 62 → ([(h0, .inr (1, [.ref q1, .ref q2, .ref q3, .ref q4, .ref q5, .ref qr])), (q1, .inl (cQ, 48, .inr (.inr (.inr (.inr (fun i => if i < 48 then some (r i) else none)))))), (qr, .inr (0, [.ref r3, .int 0, .int 0, .ref r4, .int 1])), (r3, .inl (cI, 4096, .inl (fun _ => 0))), (r4, .inl (cI, 4096, .inl (fun _ => 0))), (qm, .inr (2, [.int 0, .ref t1, .ref t2, .ref t3])), (t1, .inl (cZ, 49152, .inl (fun _ => 0))), (t2, .inl (cZ, 1024, .inl (fun _ => 0))), (t3, .inl (cI, 24576, .inl (fun _ => 0))), (qo, .inl (cy, 1, .inr (.inl (fun _ => 0)))), (q2, .inl (cy, 16, .inr (.inl (fun _ => 0)))), (q3, .inl (cy, 16, .inr (.inl (fun _ => 0)))), (q4, .inl (cy, 16, .inr (.inl (fun _ => 0)))), (q5, .inl (cy, 16, .inr (.inl (fun _ => 0))))] ++ va_pl ((List.range 48).map r) (fun _ => .inl (cy, 16, .inr (.inl (fun _ => 0)))) : va_W)[psL k]? = some (gA g k, ec g uL k) := fun k hk => by rw [← hg]; exact ps_at D h0 q1 q2 q3 q4 q5 qr r3 r4 qm t1 t2 t3 qo r cI cy cZ cQ B hk
  have hd : ∀ i j : Nat, i < 62 → j < 62 → gA g i = gA g j → i = j := fun i j hi hj h => psL_inj hi hj (hD.1 _ _ _ _ (hat i hi) (hat j hj) h)
  have hgW : ∀ q, gW g q → s.heap.size ≤ q := fun q h => by
    obtain ⟨k, hk, rfl⟩ := h
    exact hD.2 _ _ (hat k hk)
  have F : Fx g s := fx_of hts hgv (by rw [← hg]; exact hK) hd (fun a ha h => absurd (hgW a h) (by omega)) (by rw [← hg]; exact hB)
  have hPg : va_P (gD g) vwCl (wl g uL) H := fun k q hk => by
    obtain ⟨h1, rfl⟩ := wl_in hk
    have := hP _ _ (hat k h1)
    rw [← hg] at this ⊢
    exact this
  refine va_forget (fun q hq => hS.2.2 q hq) ?_
  have I : Iv g uL s H [] := ⟨hPg, hS.1, fun q h1 h2 => hS.2.1 q h1 (by omega), fun _ h => by cases h⟩
  exact law_loop hl0 E hr hlocks F hX hbl hgW hL L 0 (by omega) (by omega) _ _ _ _ _ _ _ H [] ls uL_Ag I (by rw [← hg]; exact hl)
set_option maxHeartbeats 4000000 in
set_option maxRecDepth 100000 in
theorem whole_start {p : Program} {e : Env} {s : State} {m : MethodId} {below : List Frame} {meth : Method} {c : Code} (l : Launch) (hl0 : l.stackTraces = false) {b L : Nat} {xs : Nat → Int32} (hL : L ≤ 2560) (C0 : lw_At p s m meth c b L xs) : W p l e room_1 s m #[Value.ref b] below meth c s.heap [] 0 0 (lw_Z below #[Value.ref b] s) (entryFrame m ([Value.ref b] : List Value).toArray 7) := by
  obtain ⟨hx, hb, hr, hml, hown, hts, hX, hbl, hlocks, hgv⟩ := C0
  have htw : ∀ w ∈ wsL_law, w.before #[Value.ref b] s = true := fun w hw => hts w (wsL_law_in w hw)
  have E : CallFix p m c cL_law 7 s #[Value.ref b] wsL_law RL := ⟨hx, hb, hml, hown, htw⟩
  obtain ⟨D, hK⟩ := d_of hts
  have hO : va_AOA .long s := hts _ tin_ao
  obtain ⟨R0, hR0, hRc, hRs⟩ : ∃ R0 : Room, room_1 = R0 ∧ R0.cells = 601024 ∧ R0.slots = 7293034 := ⟨_, rfl, rfl, rfl⟩
  have hRf : R0.frames = 11 ∧ R0.locals = 402 := by rw [← hR0]; exact ⟨rfl, rfl⟩
  obtain ⟨A, hAe⟩ : ∃ A : Nat → Prop, A = fun q => s.heap.size ≤ q := ⟨_, rfl⟩
  have hA : ∀ q : Nat, s.heap.size ≤ q → A q := fun q h => by rw [hAe]; exact h
  have hS : va_S A s.heap s.heap [] := va_S.rf
  have hP : va_P D vwCl [] s.heap := fun k q h => by simp at h
  have hD : va_D A [] := ⟨fun i j p q h => by simp at h, fun k q h => by simp at h⟩
  have hl := lv_entry ([.ref b]) (n := 7) (Nat.le_of_ble_eq_true rfl)
  rw [lg_entry_eq]
  generalize (lg_sl ([.ref b]) ++ List.replicate (7 - (lg_sl ([.ref b])).length) Slot.unset).toArray = ls at hl ⊢
  have hl : lv_has ls 7 [(0, .ref b)] := hl
  have ke : ∀ {h0 q1 q2 q3 q4 q5 qr r3 r4 qm t1 t2 t3 qo : Nat} {r : Nat → Nat} {cI cy cZ cQ : ClassId} {H : Heap} {locs : List Loc} {ls : Array Slot}, va_K D vwCl [(cI, .int), (cy, .long), (cZ, .boolean), (cQ, .array .long)] s → va_P D vwCl ([(h0, .inr (1, [.ref q1, .ref q2, .ref q3, .ref q4, .ref q5, .ref qr])), (q1, .inl (cQ, 48, .inr (.inr (.inr (.inr (fun i => if i < 48 then some (r i) else none)))))), (qr, .inr (0, [.ref r3, .int 0, .int 0, .ref r4, .int 1])), (r3, .inl (cI, 4096, .inl (fun _ => 0))), (r4, .inl (cI, 4096, .inl (fun _ => 0))), (qm, .inr (2, [.int 0, .ref t1, .ref t2, .ref t3])), (t1, .inl (cZ, 49152, .inl (fun _ => 0))), (t2, .inl (cZ, 1024, .inl (fun _ => 0))), (t3, .inl (cI, 24576, .inl (fun _ => 0))), (qo, .inl (cy, 1, .inr (.inl (fun _ => 0)))), (q2, .inl (cy, 16, .inr (.inl (fun _ => 0)))), (q3, .inl (cy, 16, .inr (.inl (fun _ => 0)))), (q4, .inl (cy, 16, .inr (.inl (fun _ => 0)))), (q5, .inl (cy, 16, .inr (.inl (fun _ => 0))))] ++ va_pl ((List.range 48).map r) (fun _ => .inl (cy, 16, .inr (.inl (fun _ => 0))))) H → va_D A ([(h0, .inr (1, [.ref q1, .ref q2, .ref q3, .ref q4, .ref q5, .ref qr])), (q1, .inl (cQ, 48, .inr (.inr (.inr (.inr (fun i => if i < 48 then some (r i) else none)))))), (qr, .inr (0, [.ref r3, .int 0, .int 0, .ref r4, .int 1])), (r3, .inl (cI, 4096, .inl (fun _ => 0))), (r4, .inl (cI, 4096, .inl (fun _ => 0))), (qm, .inr (2, [.int 0, .ref t1, .ref t2, .ref t3])), (t1, .inl (cZ, 49152, .inl (fun _ => 0))), (t2, .inl (cZ, 1024, .inl (fun _ => 0))), (t3, .inl (cI, 24576, .inl (fun _ => 0))), (qo, .inl (cy, 1, .inr (.inl (fun _ => 0)))), (q2, .inl (cy, 16, .inr (.inl (fun _ => 0)))), (q3, .inl (cy, 16, .inr (.inl (fun _ => 0)))), (q4, .inl (cy, 16, .inr (.inl (fun _ => 0)))), (q5, .inl (cy, 16, .inr (.inl (fun _ => 0))))] ++ va_pl ((List.range 48).map r) (fun _ => .inl (cy, 16, .inr (.inl (fun _ => 0))))) → va_S A s.heap H locs → lv_has ls 7 [(0, .ref b), (1, .ref h0), (2, .ref qm), (3, .ref qo), (4, .int (nI 0))] → W p l e room_1 s m #[Value.ref b] below meth c H locs 62 83840 (lw_Z below #[Value.ref b] s) (F0 m 23 ls []) := by
    intro h0 q1 q2 q3 q4 q5 qr r3 r4 qm t1 t2 t3 qo r cI cy cZ cQ H locs ls hK hP hD hS hl
    rw [hAe] at hD hS
    exact law_enter hl0 E hr hlocks hts hgv hX hbl hL hK hP hD hS hl
  rw [hR0] at ke ⊢
  have b2 : 0 + 1 ≤ R0.cells := by rw [hRc]; decide
  have b3 : 0 + 6 ≤ R0.slots := by rw [hRs]; decide
  refine va_new (ci := 1) (fs := [.null, .null, .null, .null, .null, .null]) (C := RX1) (T := TX1) (N := 6) hx hb htw inlX1 tyX1 tyX1_ok hown (hts _ tin_c1) (hts _ tin_n1) (hts _ tin_i1) hK hP hD hS hA rfl (fun j hj => by rcases (show j = 0 ∨ j = 1 ∨ j = 2 ∨ j = 3 ∨ j = 4 ∨ j = 5 by omega) with rfl | rfl | rfl | rfl | rfl | rfl <;> rfl) b2 b3 dL_law_0 (fun h0 H hP hD hS => ?_)
  have hP : va_P D vwCl ([(h0, .inr (1, [.null, .null, .null, .null, .null, .null]))]) H := hP
  have hD : va_D A ([(h0, .inr (1, [.null, .null, .null, .null, .null, .null]))]) := hD
  refine W.widen (k := 1) (n := 6) (Nat.le_refl 1) (Nat.le_refl 6) ?_
  refine lv_dup hx hb dL_law_3 rfl ?_
  have hPc := hP.sub (ws' := [(h0, .inr (1, [.null, .null, .null, .null, .null, .null]))]) [0] rfl
  have hDc := hD.sub (ws' := [(h0, .inr (1, [.null, .null, .null, .null, .null, .null]))]) [0] (by decide) rfl
  have hKc := hK.sub (tys' := []) [] rfl
  have hFc := va_free (wc := [(h0, .inr (1, [.null, .null, .null, .null, .null, .null]))]) hD hS hA [0] rfl
  have b2 : 1 + 56 ≤ R0.cells := by rw [hRc]; decide
  have b3 : 6 + 9077 ≤ R0.slots := by rw [hRs]; decide
  refine va_callv (va_runI (As := []) (rest := [.ref h0]) E (i_X1_init l D h0 H.size) (cwI 0 htw gL_law_X1_init rfl rfl rfl (hts _ tin_i1) (hts _ tin_m1) (hts _ tin_s1) rfl (by decide +kernel) ⟨by rw [hRf.1]; exact Nat.le_of_ble_eq_true rfl, by rw [hRf.2]; exact Nat.le_of_ble_eq_true rfl⟩) ⟨fun a U g mk q => by obtain ⟨q0, q1, qP, qK, qD, qO⟩ := q; exact ⟨q0, q1, qP, va_K.moved (u := U) (U := U.calling g mk a) (Vm.Alike.refl U.vm) qK, qD, va_AOA.moved (u := U) (U := U.calling g mk a) (Vm.Alike.refl U.vm) qO⟩, fun U hU hW => ⟨rfl, by rw [hU], by rw [hU]; exact hPc, va_K.moved hW.alike hKc, hDc.weaken (fun _ _ _ _ => trivial), va_AOA.moved hW.alike hO⟩⟩ rfl rfl hl.1 rfl (lv_room (Nat.le_of_ble_eq_true rfl)) dL_law_4 ⟨b2, b3⟩) hS (fun q _ h => hFc q h) hFc (fun u t H1 locs ht hvm hw hB hz1 hk1 hS => ?_)
  obtain ⟨q1, q2, q3, q4, q5, qr, r3, r4, r, cy, cQ, cI, hP1, hK1, hD1⟩ := hB
  rw [ht] at hP1
  have hK1 := va_K.moved hvm.symm hK1
  generalize H1 = H at hP1 hS ⊢
  have hP := hP1
  have hD := hD1.weaken (B := A) (fun _ q _ h => hFc q.1 h)
  have hP : va_P D vwCl ([(h0, .inr (1, [.ref q1, .ref q2, .ref q3, .ref q4, .ref q5, .ref qr])), (q1, .inl (cQ, 48, .inr (.inr (.inr (.inr (fun i => if i < 48 then some (r i) else none)))))), (q2, .inl (cy, 16, .inr (.inl (fun _ => 0)))), (q3, .inl (cy, 16, .inr (.inl (fun _ => 0)))), (q4, .inl (cy, 16, .inr (.inl (fun _ => 0)))), (q5, .inl (cy, 16, .inr (.inl (fun _ => 0)))), (qr, .inr (0, [.ref r3, .int 0, .int 0, .ref r4, .int 1])), (r3, .inl (cI, 4096, .inl (fun _ => 0))), (r4, .inl (cI, 4096, .inl (fun _ => 0)))] ++ va_pl ((List.range 48).map r) (fun _ => .inl (cy, 16, .inr (.inl (fun _ => 0))))) H := hP
  have hD : va_D A ([(h0, .inr (1, [.ref q1, .ref q2, .ref q3, .ref q4, .ref q5, .ref qr])), (q1, .inl (cQ, 48, .inr (.inr (.inr (.inr (fun i => if i < 48 then some (r i) else none)))))), (q2, .inl (cy, 16, .inr (.inl (fun _ => 0)))), (q3, .inl (cy, 16, .inr (.inl (fun _ => 0)))), (q4, .inl (cy, 16, .inr (.inl (fun _ => 0)))), (q5, .inl (cy, 16, .inr (.inl (fun _ => 0)))), (qr, .inr (0, [.ref r3, .int 0, .int 0, .ref r4, .int 1])), (r3, .inl (cI, 4096, .inl (fun _ => 0))), (r4, .inl (cI, 4096, .inl (fun _ => 0)))] ++ va_pl ((List.range 48).map r) (fun _ => .inl (cy, 16, .inr (.inl (fun _ => 0))))) := hD
  have hK : va_K D vwCl [(cy, .long), (cQ, .array .long), (cI, .int)] s := hK1
  refine W.widen (k := 57) (n := 9083) (Nat.le_refl 57) (Nat.le_refl 9083) ?_
  refine lv_astore_n (i := 1) (lv' := [(1, .ref h0), (0, .ref b)]) hx hb dL_law_7 rfl hl (by decide) rfl (fun ls hl => ?_)
  have b2 : 57 + 1 ≤ R0.cells := by rw [hRc]; decide
  have b3 : 9083 + 4 ≤ R0.slots := by rw [hRs]; decide
  refine va_new (ci := 2) (fs := [.int 0, .null, .null, .null]) (C := RX2) (T := TX2) (N := 4) hx hb htw inlX2 tyX2 tyX2_ok hown (hts _ tin_c2) (hts _ tin_n2) (hts _ tin_i2) hK hP hD hS hA rfl (fun j hj => by rcases (show j = 0 ∨ j = 1 ∨ j = 2 ∨ j = 3 by omega) with rfl | rfl | rfl | rfl <;> rfl) b2 b3 dL_law_8 (fun qm H hP hD hS => ?_)
  have hP := va_P.swap hP
  have hD := va_D.swap hD
  have hP : va_P D vwCl ([(h0, .inr (1, [.ref q1, .ref q2, .ref q3, .ref q4, .ref q5, .ref qr])), (q1, .inl (cQ, 48, .inr (.inr (.inr (.inr (fun i => if i < 48 then some (r i) else none)))))), (q2, .inl (cy, 16, .inr (.inl (fun _ => 0)))), (q3, .inl (cy, 16, .inr (.inl (fun _ => 0)))), (q4, .inl (cy, 16, .inr (.inl (fun _ => 0)))), (q5, .inl (cy, 16, .inr (.inl (fun _ => 0)))), (qr, .inr (0, [.ref r3, .int 0, .int 0, .ref r4, .int 1])), (r3, .inl (cI, 4096, .inl (fun _ => 0))), (r4, .inl (cI, 4096, .inl (fun _ => 0))), (qm, .inr (2, [.int 0, .null, .null, .null]))] ++ va_pl ((List.range 48).map r) (fun _ => .inl (cy, 16, .inr (.inl (fun _ => 0))))) H := hP
  have hD : va_D A ([(h0, .inr (1, [.ref q1, .ref q2, .ref q3, .ref q4, .ref q5, .ref qr])), (q1, .inl (cQ, 48, .inr (.inr (.inr (.inr (fun i => if i < 48 then some (r i) else none)))))), (q2, .inl (cy, 16, .inr (.inl (fun _ => 0)))), (q3, .inl (cy, 16, .inr (.inl (fun _ => 0)))), (q4, .inl (cy, 16, .inr (.inl (fun _ => 0)))), (q5, .inl (cy, 16, .inr (.inl (fun _ => 0)))), (qr, .inr (0, [.ref r3, .int 0, .int 0, .ref r4, .int 1])), (r3, .inl (cI, 4096, .inl (fun _ => 0))), (r4, .inl (cI, 4096, .inl (fun _ => 0))), (qm, .inr (2, [.int 0, .null, .null, .null]))] ++ va_pl ((List.range 48).map r) (fun _ => .inl (cy, 16, .inr (.inl (fun _ => 0))))) := hD
  refine W.widen (k := 58) (n := 9087) (Nat.le_refl 58) (Nat.le_refl 9087) ?_
  refine lv_dup hx hb dL_law_11 rfl ?_
  have hPc := hP.sub (ws' := [(qm, .inr (2, [.int 0, .null, .null, .null]))]) [9] rfl
  have hDc := hD.sub (ws' := [(qm, .inr (2, [.int 0, .null, .null, .null]))]) [9] (by decide) rfl
  have hKc := hK.sub (tys' := []) [] rfl
  have hFc := va_free (wc := [(qm, .inr (2, [.int 0, .null, .null, .null]))]) hD hS hA [9] rfl
  have b2 : 58 + 3 ≤ R0.cells := by rw [hRc]; decide
  have b3 : 9087 + 74752 ≤ R0.slots := by rw [hRs]; decide
  refine va_callv (va_runI (As := []) (rest := [.ref qm]) E (i_X2_init l D qm H.size) (cwI 0 htw gL_law_X2_init rfl rfl rfl (hts _ tin_i2) (hts _ tin_m2) (hts _ tin_s2) rfl (by decide +kernel) ⟨by rw [hRf.1]; exact Nat.le_of_ble_eq_true rfl, by rw [hRf.2]; exact Nat.le_of_ble_eq_true rfl⟩) ⟨fun a U g mk q => by obtain ⟨q0, q1, qP, qK, qD⟩ := q; exact ⟨q0, q1, qP, va_K.moved (u := U) (U := U.calling g mk a) (Vm.Alike.refl U.vm) qK, qD⟩, fun U hU hW => ⟨rfl, by rw [hU], by rw [hU]; exact hPc, va_K.moved hW.alike hKc, hDc.weaken (fun _ _ _ _ => trivial)⟩⟩ rfl rfl hl.1 rfl (lv_room (Nat.le_of_ble_eq_true rfl)) dL_law_12 ⟨b2, b3⟩) hS (fun q _ h => hFc q h) hFc (fun u t H1 locs ht hvm hw hB hz1 hk1 hS => ?_)
  obtain ⟨t1, t2, t3, cZ, cJ, hP1, hK1, hD1⟩ := hB
  rw [ht] at hP1
  have hK1 := va_K.moved hvm.symm hK1
  obtain ⟨hP, hD⟩ := va_joinQ (X := [(h0, .inr (1, [.ref q1, .ref q2, .ref q3, .ref q4, .ref q5, .ref qr])), (q1, .inl (cQ, 48, .inr (.inr (.inr (.inr (fun i => if i < 48 then some (r i) else none)))))), (q2, .inl (cy, 16, .inr (.inl (fun _ => 0)))), (q3, .inl (cy, 16, .inr (.inl (fun _ => 0)))), (q4, .inl (cy, 16, .inr (.inl (fun _ => 0)))), (q5, .inl (cy, 16, .inr (.inl (fun _ => 0)))), (qr, .inr (0, [.ref r3, .int 0, .int 0, .ref r4, .int 1])), (r3, .inl (cI, 4096, .inl (fun _ => 0))), (r4, .inl (cI, 4096, .inl (fun _ => 0))), (qm, .inr (2, [.int 0, .null, .null, .null]))]) (wr := [(h0, .inr (1, [.ref q1, .ref q2, .ref q3, .ref q4, .ref q5, .ref qr])), (q1, .inl (cQ, 48, .inr (.inr (.inr (.inr (fun i => if i < 48 then some (r i) else none)))))), (q2, .inl (cy, 16, .inr (.inl (fun _ => 0)))), (q3, .inl (cy, 16, .inr (.inl (fun _ => 0)))), (q4, .inl (cy, 16, .inr (.inl (fun _ => 0)))), (q5, .inl (cy, 16, .inr (.inl (fun _ => 0)))), (qr, .inr (0, [.ref r3, .int 0, .int 0, .ref r4, .int 1])), (r3, .inl (cI, 4096, .inl (fun _ => 0))), (r4, .inl (cI, 4096, .inl (fun _ => 0)))]) (w1 := [(qm, .inr (2, [.int 0, .ref t1, .ref t2, .ref t3])), (t1, .inl (cZ, 49152, .inl (fun _ => 0))), (t2, .inl (cZ, 1024, .inl (fun _ => 0))), (t3, .inl (cJ, 24576, .inl (fun _ => 0)))]) (pl := va_pl ((List.range 48).map r) (fun _ => .inl (cy, 16, .inr (.inl (fun _ => 0))))) hP hD [9] [0, 1, 2, 3, 4, 5, 6, 7, 8] rfl rfl (by decide) (by decide) hk1 hFc hP1 hD1
  have hK := hK.app hK1
  generalize H1 = H at hP hS ⊢
  have hP : va_P D vwCl ([(h0, .inr (1, [.ref q1, .ref q2, .ref q3, .ref q4, .ref q5, .ref qr])), (q1, .inl (cQ, 48, .inr (.inr (.inr (.inr (fun i => if i < 48 then some (r i) else none)))))), (q2, .inl (cy, 16, .inr (.inl (fun _ => 0)))), (q3, .inl (cy, 16, .inr (.inl (fun _ => 0)))), (q4, .inl (cy, 16, .inr (.inl (fun _ => 0)))), (q5, .inl (cy, 16, .inr (.inl (fun _ => 0)))), (qr, .inr (0, [.ref r3, .int 0, .int 0, .ref r4, .int 1])), (r3, .inl (cI, 4096, .inl (fun _ => 0))), (r4, .inl (cI, 4096, .inl (fun _ => 0))), (qm, .inr (2, [.int 0, .ref t1, .ref t2, .ref t3])), (t1, .inl (cZ, 49152, .inl (fun _ => 0))), (t2, .inl (cZ, 1024, .inl (fun _ => 0))), (t3, .inl (cJ, 24576, .inl (fun _ => 0)))] ++ va_pl ((List.range 48).map r) (fun _ => .inl (cy, 16, .inr (.inl (fun _ => 0))))) H := hP
  have hD : va_D A ([(h0, .inr (1, [.ref q1, .ref q2, .ref q3, .ref q4, .ref q5, .ref qr])), (q1, .inl (cQ, 48, .inr (.inr (.inr (.inr (fun i => if i < 48 then some (r i) else none)))))), (q2, .inl (cy, 16, .inr (.inl (fun _ => 0)))), (q3, .inl (cy, 16, .inr (.inl (fun _ => 0)))), (q4, .inl (cy, 16, .inr (.inl (fun _ => 0)))), (q5, .inl (cy, 16, .inr (.inl (fun _ => 0)))), (qr, .inr (0, [.ref r3, .int 0, .int 0, .ref r4, .int 1])), (r3, .inl (cI, 4096, .inl (fun _ => 0))), (r4, .inl (cI, 4096, .inl (fun _ => 0))), (qm, .inr (2, [.int 0, .ref t1, .ref t2, .ref t3])), (t1, .inl (cZ, 49152, .inl (fun _ => 0))), (t2, .inl (cZ, 1024, .inl (fun _ => 0))), (t3, .inl (cJ, 24576, .inl (fun _ => 0)))] ++ va_pl ((List.range 48).map r) (fun _ => .inl (cy, 16, .inr (.inl (fun _ => 0))))) := hD
  have hK : va_K D vwCl [(cy, .long), (cQ, .array .long), (cI, .int), (cZ, .boolean), (cJ, .int)] s := hK
  have e9 : some cI = some cJ := (show s.vm.findClass _ = some cI from (hK.2 2 _ rfl).2).symm.trans (show s.vm.findClass _ = some cJ from (hK.2 4 _ rfl).2)
  cases Option.some.inj e9
  refine W.widen (k := 61) (n := 83839) (Nat.le_refl 61) (Nat.le_refl 83839) ?_
  refine lv_astore_n (i := 2) (lv' := [(2, .ref qm), (1, .ref h0), (0, .ref b)]) hx hb dL_law_15 rfl hl (by decide) rfl (fun ls hl => ?_)
  refine lv_iconst (v := 1) hx hb dL_law_16 (by decide) ?_
  have b1 : 1 * componentBytes .long ≤ 536870912 := nb_long_1
  have b2 : 61 + 1 ≤ R0.cells := by rw [hRc]; decide
  have b3 : 83839 + 1 ≤ R0.slots := by rw [hRs]; decide
  refine va_newa (atype := .long) (ty := .long) (a0 := (1, .inr (.inl (fun _ => 0)))) (N' := 1) hx hb (hts _ tin_al) rfl hK hP hD hS hA (fun cA => cel_long cA 1) nn_1 nc_1 b1 b2 b3 dL_law_17 (fun qo cO H hK hP hD hS => ?_)
  have hP := va_P.swap hP
  have hD := va_D.swap hD
  have hP : va_P D vwCl ([(h0, .inr (1, [.ref q1, .ref q2, .ref q3, .ref q4, .ref q5, .ref qr])), (q1, .inl (cQ, 48, .inr (.inr (.inr (.inr (fun i => if i < 48 then some (r i) else none)))))), (q2, .inl (cy, 16, .inr (.inl (fun _ => 0)))), (q3, .inl (cy, 16, .inr (.inl (fun _ => 0)))), (q4, .inl (cy, 16, .inr (.inl (fun _ => 0)))), (q5, .inl (cy, 16, .inr (.inl (fun _ => 0)))), (qr, .inr (0, [.ref r3, .int 0, .int 0, .ref r4, .int 1])), (r3, .inl (cI, 4096, .inl (fun _ => 0))), (r4, .inl (cI, 4096, .inl (fun _ => 0))), (qm, .inr (2, [.int 0, .ref t1, .ref t2, .ref t3])), (t1, .inl (cZ, 49152, .inl (fun _ => 0))), (t2, .inl (cZ, 1024, .inl (fun _ => 0))), (t3, .inl (cI, 24576, .inl (fun _ => 0))), (qo, .inl (cO, 1, .inr (.inl (fun _ => 0))))] ++ va_pl ((List.range 48).map r) (fun _ => .inl (cy, 16, .inr (.inl (fun _ => 0))))) H := hP
  have hD : va_D A ([(h0, .inr (1, [.ref q1, .ref q2, .ref q3, .ref q4, .ref q5, .ref qr])), (q1, .inl (cQ, 48, .inr (.inr (.inr (.inr (fun i => if i < 48 then some (r i) else none)))))), (q2, .inl (cy, 16, .inr (.inl (fun _ => 0)))), (q3, .inl (cy, 16, .inr (.inl (fun _ => 0)))), (q4, .inl (cy, 16, .inr (.inl (fun _ => 0)))), (q5, .inl (cy, 16, .inr (.inl (fun _ => 0)))), (qr, .inr (0, [.ref r3, .int 0, .int 0, .ref r4, .int 1])), (r3, .inl (cI, 4096, .inl (fun _ => 0))), (r4, .inl (cI, 4096, .inl (fun _ => 0))), (qm, .inr (2, [.int 0, .ref t1, .ref t2, .ref t3])), (t1, .inl (cZ, 49152, .inl (fun _ => 0))), (t2, .inl (cZ, 1024, .inl (fun _ => 0))), (t3, .inl (cI, 24576, .inl (fun _ => 0))), (qo, .inl (cO, 1, .inr (.inl (fun _ => 0))))] ++ va_pl ((List.range 48).map r) (fun _ => .inl (cy, 16, .inr (.inl (fun _ => 0))))) := hD
  have hK : va_K D vwCl [(cy, .long), (cQ, .array .long), (cI, .int), (cZ, .boolean), (cI, .int), (cO, .long)] s := hK
  have e9 : some cy = some cO := (show s.vm.findClass _ = some cy from (hK.2 0 _ rfl).2).symm.trans (show s.vm.findClass _ = some cO from (hK.2 5 _ rfl).2)
  cases Option.some.inj e9
  refine W.widen (k := 62) (n := 83840) (Nat.le_refl 62) (Nat.le_refl 83840) ?_
  refine lv_astore_n (i := 3) (lv' := [(3, .ref qo), (2, .ref qm), (1, .ref h0), (0, .ref b)]) hx hb dL_law_19 rfl hl (by decide) rfl (fun ls hl => ?_)
  refine lv_iconst (v := nI 0) hx hb dL_law_20 (by decide) ?_
  refine lv_istore (lv' := [(4, .int (nI 0)), (3, .ref qo), (2, .ref qm), (1, .ref h0), (0, .ref b)]) hx hb dL_law_21 hl (by decide) rfl (fun ls hl => ?_)
  have hP := va_P.part (cx := [(h0, .inr (1, [.ref q1, .ref q2, .ref q3, .ref q4, .ref q5, .ref qr])), (q1, .inl (cQ, 48, .inr (.inr (.inr (.inr (fun i => if i < 48 then some (r i) else none)))))), (qr, .inr (0, [.ref r3, .int 0, .int 0, .ref r4, .int 1])), (r3, .inl (cI, 4096, .inl (fun _ => 0))), (r4, .inl (cI, 4096, .inl (fun _ => 0))), (qm, .inr (2, [.int 0, .ref t1, .ref t2, .ref t3])), (t1, .inl (cZ, 49152, .inl (fun _ => 0))), (t2, .inl (cZ, 1024, .inl (fun _ => 0))), (t3, .inl (cI, 24576, .inl (fun _ => 0))), (qo, .inl (cy, 1, .inr (.inl (fun _ => 0)))), (q2, .inl (cy, 16, .inr (.inl (fun _ => 0)))), (q3, .inl (cy, 16, .inr (.inl (fun _ => 0)))), (q4, .inl (cy, 16, .inr (.inl (fun _ => 0)))), (q5, .inl (cy, 16, .inr (.inl (fun _ => 0))))]) hP [0, 1, 6, 7, 8, 9, 10, 11, 12, 13, 2, 3, 4, 5] rfl
  have hD := va_D.part (cx := [(h0, .inr (1, [.ref q1, .ref q2, .ref q3, .ref q4, .ref q5, .ref qr])), (q1, .inl (cQ, 48, .inr (.inr (.inr (.inr (fun i => if i < 48 then some (r i) else none)))))), (qr, .inr (0, [.ref r3, .int 0, .int 0, .ref r4, .int 1])), (r3, .inl (cI, 4096, .inl (fun _ => 0))), (r4, .inl (cI, 4096, .inl (fun _ => 0))), (qm, .inr (2, [.int 0, .ref t1, .ref t2, .ref t3])), (t1, .inl (cZ, 49152, .inl (fun _ => 0))), (t2, .inl (cZ, 1024, .inl (fun _ => 0))), (t3, .inl (cI, 24576, .inl (fun _ => 0))), (qo, .inl (cy, 1, .inr (.inl (fun _ => 0)))), (q2, .inl (cy, 16, .inr (.inl (fun _ => 0)))), (q3, .inl (cy, 16, .inr (.inl (fun _ => 0)))), (q4, .inl (cy, 16, .inr (.inl (fun _ => 0)))), (q5, .inl (cy, 16, .inr (.inl (fun _ => 0))))]) hD [0, 1, 6, 7, 8, 9, 10, 11, 12, 13, 2, 3, 4, 5] (by decide) rfl
  exact ke (hK.sub (tys' := [(cI, .int), (cy, .long), (cZ, .boolean), (cQ, .array .long)]) [2, 0, 3, 1] rfl) hP hD hS (lv_sub hl [4, 3, 2, 1, 0] rfl)
