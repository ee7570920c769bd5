/-! rows over the one world -/
abbrev Cd (l : Launch) (g : Geo) (y : MethodName) (ws : List Cond) (rm : Room) (As : List Value) (u : Wd) (v : Option Value) (u' : Wd) : Prop := Cs l g y ws rm As u (fun v' u'' => v' = v ∧ u'' = u')
theorem ec_oR {g : Geo} {R R' : Nat → Nat → Int64} {B : Rul} {M : Mod} {O : Nat → Int64} {k : Nat} (hR : ∀ j, j ≠ k → R' j = R j) : ∀ j, j ≠ k + 10 → ec g (R', B, M, O) j = ec g (R, B, M, O) j := by
  intro j hj
  match j with
  | 0 => rfl
  | 1 => rfl
  | 2 => rfl
  | 3 => rfl
  | 4 => rfl
  | 5 => rfl
  | 6 => rfl
  | 7 => rfl
  | 8 => rfl
  | 9 => rfl
  | j + 10 => rw [ec_row, ec_row]; show Sum.inl (_, _, Sum.inr (Sum.inl (R' j))) = Sum.inl (_, _, Sum.inr (Sum.inl (R j))); rw [hR j (fun h => hj (by rw [h]))]
theorem ec_o2 {g : Geo} {R : Nat → Nat → Int64} {w e : Nat → Int32} {a b c a' b' c' : Int32} {M : Mod} {O : Nat → Int64} : ∀ j, j ≠ 2 → ec g (R, (w, e, a', b', c'), M, O) j = ec g (R, (w, e, a, b, c), M, O) j := by
  intro j hj
  match j, hj with
  | 0, _ => rfl
  | 1, _ => rfl
  | 2, h => exact absurd rfl h
  | 3, _ => rfl
  | 4, _ => rfl
  | 5, _ => rfl
  | 6, _ => rfl
  | 7, _ => rfl
  | 8, _ => rfl
  | 9, _ => rfl
  | _ + 10, _ => rfl
theorem ec_o3 {g : Geo} {R : Nat → Nat → Int64} {w w' : Nat → Int32} {B : (Nat → Int32) × Int32 × Int32 × Int32} {M : Mod} {O : Nat → Int64} : ∀ j, j ≠ 3 → ec g (R, (w', B), M, O) j = ec g (R, (w, B), M, O) j := by
  intro j hj
  match j, hj with
  | 0, _ => rfl
  | 1, _ => rfl
  | 2, _ => rfl
  | 3, h => exact absurd rfl h
  | 4, _ => rfl
  | 5, _ => rfl
  | 6, _ => rfl
  | 7, _ => rfl
  | 8, _ => rfl
  | 9, _ => rfl
  | _ + 10, _ => rfl
theorem ec_o4 {g : Geo} {R : Nat → Nat → Int64} {w e e' : Nat → Int32} {B : Int32 × Int32 × Int32} {M : Mod} {O : Nat → Int64} : ∀ j, j ≠ 4 → ec g (R, (w, e', B), M, O) j = ec g (R, (w, e, B), M, O) j := by
  intro j hj
  match j, hj with
  | 0, _ => rfl
  | 1, _ => rfl
  | 2, _ => rfl
  | 3, _ => rfl
  | 4, h => exact absurd rfl h
  | 5, _ => rfl
  | 6, _ => rfl
  | 7, _ => rfl
  | 8, _ => rfl
  | 9, _ => rfl
  | _ + 10, _ => rfl
theorem ec_o5 {g : Geo} {R : Nat → Nat → Int64} {B : Rul} {a a' : Int32} {M : (Nat → Int32) × (Nat → Int32) × (Nat → Int32)} {O : Nat → Int64} : ∀ j, j ≠ 5 → ec g (R, B, (a', M), O) j = ec g (R, B, (a, M), O) j := by
  intro j hj
  match j, hj with
  | 0, _ => rfl
  | 1, _ => rfl
  | 2, _ => rfl
  | 3, _ => rfl
  | 4, _ => rfl
  | 5, h => exact absurd rfl h
  | 6, _ => rfl
  | 7, _ => rfl
  | 8, _ => rfl
  | 9, _ => rfl
  | _ + 10, _ => rfl
theorem ec_o6 {g : Geo} {R : Nat → Nat → Int64} {B : Rul} {a : Int32} {t t' : Nat → Int32} {M : (Nat → Int32) × (Nat → Int32)} {O : Nat → Int64} : ∀ j, j ≠ 6 → ec g (R, B, (a, t', M), O) j = ec g (R, B, (a, t, M), O) j := by
  intro j hj
  match j, hj with
  | 0, _ => rfl
  | 1, _ => rfl
  | 2, _ => rfl
  | 3, _ => rfl
  | 4, _ => rfl
  | 5, _ => rfl
  | 6, h => exact absurd rfl h
  | 7, _ => rfl
  | 8, _ => rfl
  | 9, _ => rfl
  | _ + 10, _ => rfl
theorem ec_o7 {g : Geo} {R : Nat → Nat → Int64} {B : Rul} {a : Int32} {t f f' : Nat → Int32} {M : Nat → Int32} {O : Nat → Int64} : ∀ j, j ≠ 7 → ec g (R, B, (a, t, f', M), O) j = ec g (R, B, (a, t, f, M), O) j := by
  intro j hj
  match j, hj with
  | 0, _ => rfl
  | 1, _ => rfl
  | 2, _ => rfl
  | 3, _ => rfl
  | 4, _ => rfl
  | 5, _ => rfl
  | 6, _ => rfl
  | 7, h => exact absurd rfl h
  | 8, _ => rfl
  | 9, _ => rfl
  | _ + 10, _ => rfl
theorem ec_o8 {g : Geo} {R : Nat → Nat → Int64} {B : Rul} {a : Int32} {t f z z' : Nat → Int32} {O : Nat → Int64} : ∀ j, j ≠ 8 → ec g (R, B, (a, t, f, z'), O) j = ec g (R, B, (a, t, f, z), O) j := by
  intro j hj
  match j, hj with
  | 0, _ => rfl
  | 1, _ => rfl
  | 2, _ => rfl
  | 3, _ => rfl
  | 4, _ => rfl
  | 5, _ => rfl
  | 6, _ => rfl
  | 7, _ => rfl
  | 8, h => exact absurd rfl h
  | 9, _ => rfl
  | _ + 10, _ => rfl
theorem ec_o9 {g : Geo} {R : Nat → Nat → Int64} {B : Rul} {M : Mod} {O O' : Nat → Int64} : ∀ j, j ≠ 9 → ec g (R, B, M, O') j = ec g (R, B, M, O) j := by
  intro j hj
  match j, hj with
  | 0, _ => rfl
  | 1, _ => rfl
  | 2, _ => rfl
  | 3, _ => rfl
  | 4, _ => rfl
  | 5, _ => rfl
  | 6, _ => rfl
  | 7, _ => rfl
  | 8, _ => rfl
  | 9, h => exact absurd rfl h
  | _ + 10, _ => rfl
section XW
variable {p : Program} {l : Launch} {e : Env} {R : Room} {s : State} {m : MethodId} {args : Array Value} {below : List Frame} {meth : Method} {c : Code} {H : Heap} {locs : List Loc} {cells slots : Nat} {Q : State → Prop}
variable {cc : ByteArray} {pc nL : Nat} {ls : Array Slot} {rest st0 : List Value} {g : Geo} {u : Wd} {Ts : List Cond} {own : String}
/-! reads -/
theorem x_laload {k i : Nat} (hx : p.tables.exec = Jvm.exec) (hb : c.code = cc) (F : Fx g s) (I : Iv g u s H locs) (hk : k < 52) (hi : i < 16) (hdg : decode cc pc = .ok (.laload, 1))
    (kk : W p l e R s m args below meth c H locs cells slots Q (F0 m (pc + 1) ls (.long (u.1 k i) :: rest))) : W p l e R s m args below meth c H locs cells slots Q (F0 m pc ls (.int (nI i) :: .ref (gA g (k + 10)) :: rest)) := by
  have e1 : (nI i).toNatClampNeg = i := nI_clamp (by omega)
  refine va_lald hx hb F.1 I.1 (k + 10) 1 (by rw [wl_at g u (by omega), ec_row]) rfl (vp_in_nI hi (by decide)) hdg ?_
  rw [e1]
  exact kk
theorem x_iaload (q : Nat) {n i : Nat} {f : Nat → Int32} (hx : p.tables.exec = Jvm.exec) (hb : c.code = cc) (F : Fx g s) (I : Iv g u s H locs) (hq : q < 62) (he : ec g u q = .inl (gI g, n, .inl f)) (hn : n < 2 ^ 31) (hi : i < n) (hdg : decode cc pc = .ok (.iaload, 1))
    (kk : W p l e R s m args below meth c H locs cells slots Q (F0 m (pc + 1) ls (.int (f i) :: rest))) : W p l e R s m args below meth c H locs cells slots Q (F0 m pc ls (.int (nI i) :: .ref (gA g q) :: rest)) := by
  have e1 : (nI i).toNatClampNeg = i := nI_clamp (by omega)
  refine va_iald hx hb F.1 I.1 q 0 (by rw [wl_at g u hq, he]) rfl (vp_in_nI hi hn) hdg ?_
  rw [e1]
  exact kk
theorem x_zaload (q : Nat) {n i : Nat} {f : Nat → Int32} (hx : p.tables.exec = Jvm.exec) (hb : c.code = cc) (F : Fx g s) (I : Iv g u s H locs) (hq : q < 62) (he : ec g u q = .inl (gZ g, n, .inl f)) (hn : n < 2 ^ 31) (hi : i < n) (hdg : decode cc pc = .ok (.baload, 1))
    (kk : W p l e R s m args below meth c H locs cells slots Q (F0 m (pc + 1) ls (.int (f i) :: rest))) : W p l e R s m args below meth c H locs cells slots Q (F0 m pc ls (.int (nI i) :: .ref (gA g q) :: rest)) := by
  have e1 : (nI i).toNatClampNeg = i := nI_clamp (by omega)
  refine va_zald hx hb F.1 I.1 q 2 (by rw [wl_at g u hq, he]) rfl (vp_in_nI hi hn) hdg ?_
  rw [e1]
  exact kk
theorem x_oaload {i : Nat} (hx : p.tables.exec = Jvm.exec) (hb : c.code = cc) (F : Fx g s) (I : Iv g u s H locs) (hi : i < 1) (hdg : decode cc pc = .ok (.laload, 1))
    (kk : W p l e R s m args below meth c H locs cells slots Q (F0 m (pc + 1) ls (.long (u.2.2.2 i) :: rest))) : W p l e R s m args below meth c H locs cells slots Q (F0 m pc ls (.int (nI i) :: .ref (gA g 9) :: rest)) := by
  have e1 : (nI i).toNatClampNeg = i := nI_clamp (by omega)
  refine va_lald hx hb F.1 I.1 9 1 (by rw [wl_at g u (by omega)]; rfl) rfl (vp_in_nI hi (by decide)) hdg ?_
  rw [e1]
  exact kk
theorem x_aaload {i : Nat} (hx : p.tables.exec = Jvm.exec) (hb : c.code = cc) (F : Fx g s) (I : Iv g u s H locs) (hi : i < 48) (hdg : decode cc pc = .ok (.aaload, 1))
    (kk : W p l e R s m args below meth c H locs cells slots Q (F0 m (pc + 1) ls (.ref (gA g (i + 10)) :: rest))) : W p l e R s m args below meth c H locs cells slots Q (F0 m pc ls (.int (nI i) :: .ref (gA g 1) :: rest)) := by
  have e1 : (nI i).toNatClampNeg = i := nI_clamp (by omega)
  have hc : H[gA g 1]? = some (arrV (gQ g) 48 (fun j => va_rf (if j < 48 then some (gA g (j + 10)) else none))) := I.1 1 _ (wl_at g u (by omega))
  have ha : s.isArrayOf (arrV (gQ g) 48 (fun j => va_rf (if j < 48 then some (gA g (j + 10)) else none))) (.array .long) := (F.1.2 3 (gQ g, .array .long) rfl).1 48 _
  have hv : (arrV (gQ g) 48 (fun j => va_rf (if j < 48 then some (gA g (j + 10)) else none))).slots[(nI i).toNatClampNeg]? = some (.ref (gA g (i + 10))) := by
    rw [e1, arrV_read _ _ hi]
    simp [hi, va_rf]
  exact W.aald hx hb hc ha rfl (fun q => by cases q) (by rw [arrV_size]; exact vp_in_nI hi (by decide)) hv rfl rfl hdg kk
theorem x_bv {i : Nat} (hx : p.tables.exec = Jvm.exec) (hb : c.code = cc) (F : Fx g s) (I : Iv g u s H locs) (hi : i < 6) (hdg : decode cc pc = .ok (.laload, 1))
    (kk : W p l e R s m args below meth c H locs cells slots Q (F0 m (pc + 1) ls (.long (bvL i) :: rest))) : W p l e R s m args below meth c H locs cells slots Q (F0 m pc ls (.int (nI i) :: .ref (gB g) :: rest)) :=
  va_tl hx hb F.2.2.2.1 I.2 (vp_in_nI hi (by decide)) (v := .long (bvL i)) (by rw [nI_clamp (by omega)]) hdg kk
theorem x_getbv {index : Nat} (E : CallFix p m c cc nL s args Ts own) (F : Fx g s) (I : Iv g u s H locs) (hl : Cond.fieldLink own index "FunctionDesk" "BIT_VARIABLES" "[J" ∈ Ts) (hdg : decode cc pc = .ok (.getstatic index, 3))
    (kk : W p l e R s m args below meth c H locs cells slots Q (F0 m (pc + 3) ls (.ref (gB g) :: rest))) : W p l e R s m args below meth c H locs cells slots Q (F0 m pc ls rest) :=
  va_gets E.1 E.2.1 F.2.2.1 I.2 E.2.2.2.1 (E.2.2.2.2 _ hl) (fun _ h => h) hdg kk
theorem x_get (q ci k : Nat) {N index : Nat} {C : String} {T : u_T} {fs : List Value} {v : Value} (E : CallFix p m c cc nL s args Ts own) (F : Fx g s) (I : Iv g u s H locs) (hin : ∀ w ∈ u_ws C T N, w ∈ Ts) (hq : q < 62) (he : ec g u q = .inr (ci, fs)) (hc : vwCl[ci]? = some (C, T, N)) (hk : k < N) (hl : Cond.fieldLink own index (T k).1 (T k).2.1 (T k).2.2.1 ∈ Ts) (hv : fs[k]? = some v) (hdg : decode cc pc = .ok (.getfield index, 3))
    (kk : W p l e R s m args below meth c H locs cells slots Q (F0 m (pc + 3) ls (v :: rest))) : W p l e R s m args below meth c H locs cells slots Q (F0 m pc ls (.ref (gA g q) :: rest)) :=
  va_get (D := gD g) (ci := ci) (C := C) (T := T) (N := N) E.1 E.2.1 E.2.2.2.2 hin E.2.2.2.1 F.1 I.1 q (by rw [wl_at g u hq, he]) hc k hk (E.2.2.2.2 _ hl) (fun _ h => h) hv hdg kk
/-! stores -/
theorem x_lastore {k i : Nat} {x : Int64} {Rw : Nat → Nat → Int64} {B : Rul} {M : Mod} {O : Nat → Int64} (hx : p.tables.exec = Jvm.exec) (hb : c.code = cc) (F : Fx g s) (I : Iv g (Rw, B, M, O) s H locs) (hk : k < 52) (hi : i < 16) (hdg : decode cc pc = .ok (.lastore, 1))
    (kk : ∀ (H1 : Heap) (locs1 : List Loc), Iv g (va_up Rw k (vp_updL (Rw k) i x), B, M, O) s H1 locs1 → W p l e R s m args below meth c H1 locs1 cells slots Q (F0 m (pc + 1) ls rest)) : W p l e R s m args below meth c H locs cells slots Q (F0 m pc ls (.long x :: .int (nI i) :: .ref (gA g (k + 10)) :: rest)) := by
  have e1 : (nI i).toNatClampNeg = i := nI_clamp (by omega)
  refine va_last hx hb F.1 I.1 (F.D _) I.2 (k + 10) 1 (by rw [wl_at g _ (by omega), ec_row]) rfl (vp_in_nI hi (by decide)) hdg (fun H1 locs1 hP _ hS => kk H1 locs1 ⟨?_, hS⟩)
  rw [e1, wl_set (u' := (va_up Rw k (vp_updL (Rw k) i x), B, M, O)) (by omega) (by rw [ec_row]; show Sum.inl (_, _, Sum.inr (Sum.inl (va_up Rw k _ k))) = _; rw [va_up_self]) (ec_oR (fun j hj => va_up_ne _ _ hj))] at hP
  exact hP
theorem x_oastore {i : Nat} {x : Int64} {Rw : Nat → Nat → Int64} {B : Rul} {M : Mod} {O : Nat → Int64} (hx : p.tables.exec = Jvm.exec) (hb : c.code = cc) (F : Fx g s) (I : Iv g (Rw, B, M, O) s H locs) (hi : i < 1) (hdg : decode cc pc = .ok (.lastore, 1))
    (kk : ∀ (H1 : Heap) (locs1 : List Loc), Iv g (Rw, B, M, vp_updL O i x) s H1 locs1 → W p l e R s m args below meth c H1 locs1 cells slots Q (F0 m (pc + 1) ls rest)) : W p l e R s m args below meth c H locs cells slots Q (F0 m pc ls (.long x :: .int (nI i) :: .ref (gA g 9) :: rest)) := by
  have e1 : (nI i).toNatClampNeg = i := nI_clamp (by omega)
  refine va_last hx hb F.1 I.1 (F.D _) I.2 9 1 (by rw [wl_at g _ (by omega)]; rfl) rfl (vp_in_nI hi (by decide)) hdg (fun H1 locs1 hP _ hS => kk H1 locs1 ⟨?_, hS⟩)
  have hP2 : va_P (gD g) vwCl ((wl g (Rw, B, M, O)).set 9 (gA g 9, ec g (Rw, B, M, vp_updL O i x) 9)) H1 := by
    rw [e1] at hP
    exact hP
  rw [wl_set (g := g) (u := (Rw, B, M, O)) (u' := (Rw, B, M, vp_updL O i x)) (k := 9) (by omega) rfl ec_o9] at hP2
  exact hP2
theorem x_iastore (q : Nat) {u' : Wd} {n i : Nat} {f : Nat → Int32} {x : Int32} (hx : p.tables.exec = Jvm.exec) (hb : c.code = cc) (F : Fx g s) (I : Iv g u s H locs) (hq : q < 62) (he : ec g u q = .inl (gI g, n, .inl f)) (he' : ec g u' q = .inl (gI g, n, .inl (upd f i x))) (ho : ∀ j, j ≠ q → ec g u' j = ec g u j) (hn : n < 2 ^ 31) (hi : i < n) (hdg : decode cc pc = .ok (.iastore, 1))
    (kk : ∀ (H1 : Heap) (locs1 : List Loc), Iv g u' s H1 locs1 → W p l e R s m args below meth c H1 locs1 cells slots Q (F0 m (pc + 1) ls rest)) : W p l e R s m args below meth c H locs cells slots Q (F0 m pc ls (.int x :: .int (nI i) :: .ref (gA g q) :: rest)) := by
  have e1 : (nI i).toNatClampNeg = i := nI_clamp (by omega)
  refine va_iast hx hb F.1 I.1 (F.D _) I.2 q 0 (by rw [wl_at g _ hq, he]) rfl (vp_in_nI hi hn) hdg (fun H1 locs1 hP _ hS => kk H1 locs1 ⟨?_, hS⟩)
  rw [e1, wl_set (u' := u') hq he' ho] at hP
  exact hP
theorem x_zastore (q : Nat) {u' : Wd} {n i : Nat} {f : Nat → Int32} {x : Int32} (hx : p.tables.exec = Jvm.exec) (hb : c.code = cc) (F : Fx g s) (I : Iv g u s H locs) (hq : q < 62) (hz : vp_nar .boolean x = x) (he : ec g u q = .inl (gZ g, n, .inl f)) (he' : ec g u' q = .inl (gZ g, n, .inl (upd f i x))) (ho : ∀ j, j ≠ q → ec g u' j = ec g u j) (hn : n < 2 ^ 31) (hi : i < n) (hdg : decode cc pc = .ok (.bastore, 1))
    (kk : ∀ (H1 : Heap) (locs1 : List Loc), Iv g u' s H1 locs1 → W p l e R s m args below meth c H1 locs1 cells slots Q (F0 m (pc + 1) ls rest)) : W p l e R s m args below meth c H locs cells slots Q (F0 m pc ls (.int x :: .int (nI i) :: .ref (gA g q) :: rest)) := by
  have e1 : (nI i).toNatClampNeg = i := nI_clamp (by omega)
  refine va_zast hx hb F.1 I.1 (F.D _) I.2 q 2 (by rw [wl_at g _ hq, he]) rfl (vp_in_nI hi hn) hdg (fun H1 locs1 hP _ hS => kk H1 locs1 ⟨?_, hS⟩)
  rw [e1, hz, wl_set (u' := u') hq he' ho] at hP
  exact hP
theorem x_put (q ci k : Nat) {u' : Wd} {N index : Nat} {C : String} {T : u_T} {fs : List Value} {v : Int32} (ty0 : Nat → FieldType) (hty : ∀ k, k < N → parseFieldDescriptor (T k).2.2.1 = some (ty0 k)) (hnm : ∀ a, a < N → ∀ b, b < N → a ≠ b → (T a).2.1 ≠ (T b).2.1) (E : CallFix p m c cc nL s args Ts own) (F : Fx g s) (I : Iv g u s H locs) (hin : ∀ w ∈ u_ws C T N, w ∈ Ts) (hq : q < 62) (he : ec g u q = .inr (ci, fs)) (he' : ec g u' q = .inr (ci, fs.set k (.int v))) (ho : ∀ j, j ≠ q → ec g u' j = ec g u j) (hc : vwCl[ci]? = some (C, T, N)) (hk : k < N) (hl : Cond.fieldLink own index (T k).1 (T k).2.1 (T k).2.2.1 ∈ Ts) (hfin : (T k).2.2.2 = false) (hd : parseFieldDescriptor (T k).2.2.1 = some .int) (hlen : k < fs.length) (hdg : decode cc pc = .ok (.putfield index, 3))
    (kk : ∀ (H1 : Heap) (locs1 : List Loc), Iv g u' s H1 locs1 → W p l e R s m args below meth c H1 locs1 cells slots Q (F0 m (pc + 3) ls rest)) : W p l e R s m args below meth c H locs cells slots Q (F0 m pc ls (.int v :: .ref (gA g q) :: rest)) := by
  refine va_put (D := gD g) (ci := ci) (v := .int v) (ty := .int) (C := C) (T := T) (N := N) E.1 E.2.1 E.2.2.2.2 hin ty0 hty hnm E.2.2.2.1 F.1 I.1 (F.D _) I.2 q (by rw [wl_at g u hq, he]) hc k hk (E.2.2.2.2 _ hl) (fun _ h => h) hfin hd rfl rfl hlen hdg (fun H1 locs1 hP _ hS => kk H1 locs1 ⟨?_, hS⟩)
  rw [wl_set (u' := u') hq he' ho] at hP
  exact hP
theorem x_copy {k j index : Nat} {Rw : Nat → Nat → Int64} {B : Rul} {M : Mod} {O : Nat → Int64} (E : CallFix p m c cc nL s args Ts own) (F : Fx g s) (I : Iv g (Rw, B, M, O) s H locs) (hz : ls.size = nL) (hl1 : Cond.methodLink own index arraycopyName ∈ Ts) (hl2 : Cond.native arraycopyName ∈ Ts) (hl3 : Cond.static arraycopyName ∈ Ts) (hl4 : Cond.initialized "java/lang/System" ∈ Ts) (hk : k < 52) (hj : j < 52) (hframes : 1 ≤ R.frames) (hlocals : (rest.map fun v => v.category).sum + (nativeFrameWords "java/lang/System" "arraycopy" 5 + 11) ≤ R.locals) (hdg : decode cc pc = .ok (.invokestatic index, 3))
    (kk : ∀ (H1 : Heap) (locs1 : List Loc), Iv g (va_up Rw j (va_cpy (Rw k) (Rw j) 0 0 16), B, M, O) s H1 locs1 → W p l e R s m args below meth c H1 locs1 cells slots Q (F0 m (pc + 3) ls rest)) : W p l e R s m args below meth c H locs cells slots Q (F0 m pc ls (.int (nI 16) :: .int (nI 0) :: .ref (gA g (j + 10)) :: .int (nI 0) :: .ref (gA g (k + 10)) :: rest)) := by
  have c0 : (nI 0).toNatClampNeg = 0 := nI_clamp (by decide)
  have c16 : (nI 16).toNatClampNeg = 16 := nI_clamp (by decide)
  refine va_copyl E.1 E.2.1 (E.2.2.1.trans hz.symm) E.2.2.2.1 (E.2.2.2.2 _ hl1) (E.2.2.2.2 _ hl2) (E.2.2.2.2 _ hl3) (E.2.2.2.2 _ hl4) F.1 I.1 (F.D _) I.2 (k + 10) (j + 10) 1 1 (ty := .long) (by rw [wl_at g _ (by omega), ec_row]) (by rw [wl_at g _ (by omega), ec_row]) rfl rfl rfl (by decide) (by decide) (by decide) (by rw [c0, c16]; decide) (by rw [c0, c16]; decide) (fun _ _ => rfl) hframes hlocals hdg (fun H1 locs1 hP _ hS => kk H1 locs1 ⟨?_, hS⟩)
  rw [c0, c16, wl_set (u' := (va_up Rw j (va_cpy (Rw k) (Rw j) 0 0 16), B, M, O)) (by omega) (by rw [ec_row]; show Sum.inl (_, _, Sum.inr (Sum.inl (va_up Rw j _ j))) = _; rw [va_up_self]) (ec_oR (fun i hi => va_up_ne _ _ hi))] at hP
  exact hP
/-! calls -/
theorem x_callS {y : MethodName} {ws ws' : List Cond} {rm' : Room} {bytes : ByteArray} {maxL n index : Nat} {ret : Option FieldType} {As : List Value} {post : Option Value → Wd → Prop} (E : CallFix p m c cc nL s args Ts own) (F : Fx g s) (I : Iv g u s H locs) (hC : Cs l g y ws rm' As u post) (hG : GoodIn Ts (va_wsS own index y ws)) (hw : ws = Cond.code y bytes maxL ret :: ws')
    (hd : y.cls ≠ "java/lang/invoke/MethodHandle" ∧ y.cls ≠ "java/lang/invoke/VarHandle" ∧ (parseMethodDescriptor y.desc).map (fun d => d.parameters.length) = some n) (hc0 : rm'.cells = 0) (hs0 : rm'.slots = 0) (hR : rm'.frames + 1 ≤ R.frames ∧ 8 + (maxL + 11) + rm'.locals ≤ R.locals) (hf : cells ≤ R.cells ∧ slots ≤ R.slots) (hn : As.length = n) (hz : ls.size = nL) (hst : st0 = As.reverse ++ rest) (hW : (rest.map fun v => v.category).sum ≤ 8) (hdg : decode cc pc = .ok (.invokestatic index, 3))
    (kk : ∀ (v : Option Value) (u' : Wd) (H1 : Heap) (locs1 : List Loc), post v u' → Iv g u' s H1 locs1 → W p l e R s m args below meth c H1 locs1 cells slots Q (F0 m (pc + 3) ls (v.toList ++ rest))) : W p l e R s m args below meth c H locs cells slots Q (F0 m pc ls st0) := by
  intro T hT X
  obtain ⟨v, st₀, t, T', L, h0, X', hL, e1, e2, ⟨⟨v2, u', hv, hp, hh⟩, hF⟩, st⟩ := va_runS (rest := rest) (g := F0 m pc ls st0) E hC (va_cwS n E.2.2.2.2 hG hw hc0 hs0 hd hR) ⟨Hw.blind g u As, fun U hU hW => ⟨rfl, I.at F hU hW⟩⟩ rfl hn hz hst (by show 2 * 0 + _ ≤ 8; omega) hdg hf T hT X
  cases hv
  obtain ⟨-, -, k3⟩ := vx_keep h0 e1 I.2 (fun _ _ h => h) (fun _ h => h) hL hF
  obtain ⟨t2, a1, b1⟩ := kk v u' T'.heap (locs ++ L) hp ⟨by rw [e1]; exact hh.1, k3⟩ T' rfl X'
  exact ⟨t2, st t2 a1, b1⟩
theorem x_callV {y : MethodName} {ws ws' : List Cond} {rm' : Room} {bytes : ByteArray} {maxL n index : Nat} {ret : Option FieldType} {As : List Value} {C : String} {post : Option Value → Wd → Prop} (q ci : Nat) {fs : List Value} {T0 : u_T} {N : Nat} (E : CallFix p m c cc nL s args Ts own) (F : Fx g s) (I : Iv g u s H locs) (hC : Cs l g y ws rm' (.ref (gA g q) :: As) u post) (hG : GoodIn Ts (wsV own index C y ws)) (hw : ws = Cond.code y bytes maxL ret :: ws') (hq : q < 62) (he : ec g u q = .inr (ci, fs)) (hc : vwCl[ci]? = some (C, T0, N)) (hyc : y.cls = C)
    (hd : y.cls ≠ "java/lang/invoke/MethodHandle" ∧ y.cls ≠ "java/lang/invoke/VarHandle" ∧ (parseMethodDescriptor y.desc).map (fun d => d.parameters.length) = some n) (hc0 : rm'.cells = 0) (hs0 : rm'.slots = 0) (hR : rm'.frames + 1 ≤ R.frames ∧ 8 + (maxL + 11) + rm'.locals ≤ R.locals) (hf : cells ≤ R.cells ∧ slots ≤ R.slots) (hn : As.length = n) (hz : ls.size = nL) (hst : st0 = As.reverse ++ .ref (gA g q) :: rest) (hW : (rest.map fun v => v.category).sum ≤ 8) (hdg : decode cc pc = .ok (.invokevirtual index, 3))
    (kk : ∀ (v : Option Value) (u' : Wd) (H1 : Heap) (locs1 : List Loc), post v u' → Iv g u' s H1 locs1 → W p l e R s m args below meth c H1 locs1 cells slots Q (F0 m (pc + 3) ls (v.toList ++ rest))) : W p l e R s m args below meth c H locs cells slots Q (F0 m pc ls st0) := by
  intro T hT X
  obtain ⟨v, st₀, t, T', L, h0, X', hL, e1, e2, ⟨⟨v2, u', hv, hp, hh⟩, hF⟩, st⟩ := va_runV (rest := rest) (g := F0 m pc ls st0) (As := As) E hC (cwV n E.2.2.2.2 hG hw hc0 hs0 ⟨hyc, hd⟩ hR) ⟨Hw.blind g u _, va_recv F.1 I.1 hc (by rw [wl_at g u hq, he]), fun U hU hW => ⟨rfl, I.at F hU hW⟩⟩ rfl hn hz hst (by show 2 * 0 + _ ≤ 8; omega) hdg hf T hT X
  cases hv
  obtain ⟨-, -, k3⟩ := vx_keep h0 e1 I.2 (fun _ _ h => h) (fun _ h => h) hL hF
  obtain ⟨t2, a1, b1⟩ := kk v u' T'.heap (locs ++ L) hp ⟨by rw [e1]; exact hh.1, k3⟩ T' rfl X'
  exact ⟨t2, st t2 a1, b1⟩
theorem x_callSi {y : MethodName} {ws ws' : List Cond} {rm' : Room} {bytes : ByteArray} {maxL n index : Nat} {ret : Option FieldType} {As : List Value} {r : Int32} {u1 : Wd} (E : CallFix p m c cc nL s args Ts own) (F : Fx g s) (I : Iv g u s H locs) (hC : Cd l g y ws rm' As u (some (.int r)) u1) (hG : GoodIn Ts (va_wsS own index y ws)) (hw : ws = Cond.code y bytes maxL ret :: ws')
    (hd : y.cls ≠ "java/lang/invoke/MethodHandle" ∧ y.cls ≠ "java/lang/invoke/VarHandle" ∧ (parseMethodDescriptor y.desc).map (fun d => d.parameters.length) = some n) (hc0 : rm'.cells = 0) (hs0 : rm'.slots = 0) (hR : rm'.frames + 1 ≤ R.frames ∧ 8 + (maxL + 11) + rm'.locals ≤ R.locals) (hf : cells ≤ R.cells ∧ slots ≤ R.slots) (hn : As.length = n) (hz : ls.size = nL) (hst : st0 = As.reverse ++ rest) (hW : (rest.map fun v => v.category).sum ≤ 8) (hdg : decode cc pc = .ok (.invokestatic index, 3))
    (kk : ∀ (H1 : Heap) (locs1 : List Loc), Iv g u1 s H1 locs1 → W p l e R s m args below meth c H1 locs1 cells slots Q (F0 m (pc + 3) ls (.int r :: rest))) : W p l e R s m args below meth c H locs cells slots Q (F0 m pc ls st0) :=
  x_callS E F I hC hG hw hd hc0 hs0 hR hf hn hz hst hW hdg (fun v u2 H1 locs1 hp I1 => by obtain ⟨rfl, rfl⟩ := hp; exact kk H1 locs1 I1)
theorem x_callSl {y : MethodName} {ws ws' : List Cond} {rm' : Room} {bytes : ByteArray} {maxL n index : Nat} {ret : Option FieldType} {As : List Value} {r : Int64} {u1 : Wd} (E : CallFix p m c cc nL s args Ts own) (F : Fx g s) (I : Iv g u s H locs) (hC : Cd l g y ws rm' As u (some (.long r)) u1) (hG : GoodIn Ts (va_wsS own index y ws)) (hw : ws = Cond.code y bytes maxL ret :: ws')
    (hd : y.cls ≠ "java/lang/invoke/MethodHandle" ∧ y.cls ≠ "java/lang/invoke/VarHandle" ∧ (parseMethodDescriptor y.desc).map (fun d => d.parameters.length) = some n) (hc0 : rm'.cells = 0) (hs0 : rm'.slots = 0) (hR : rm'.frames + 1 ≤ R.frames ∧ 8 + (maxL + 11) + rm'.locals ≤ R.locals) (hf : cells ≤ R.cells ∧ slots ≤ R.slots) (hn : As.length = n) (hz : ls.size = nL) (hst : st0 = As.reverse ++ rest) (hW : (rest.map fun v => v.category).sum ≤ 8) (hdg : decode cc pc = .ok (.invokestatic index, 3))
    (kk : ∀ (H1 : Heap) (locs1 : List Loc), Iv g u1 s H1 locs1 → W p l e R s m args below meth c H1 locs1 cells slots Q (F0 m (pc + 3) ls (.long r :: rest))) : W p l e R s m args below meth c H locs cells slots Q (F0 m pc ls st0) :=
  x_callS E F I hC hG hw hd hc0 hs0 hR hf hn hz hst hW hdg (fun v u2 H1 locs1 hp I1 => by obtain ⟨rfl, rfl⟩ := hp; exact kk H1 locs1 I1)
theorem x_callSv {y : MethodName} {ws ws' : List Cond} {rm' : Room} {bytes : ByteArray} {maxL n index : Nat} {ret : Option FieldType} {As : List Value} {u1 : Wd} (E : CallFix p m c cc nL s args Ts own) (F : Fx g s) (I : Iv g u s H locs) (hC : Cd l g y ws rm' As u (none) u1) (hG : GoodIn Ts (va_wsS own index y ws)) (hw : ws = Cond.code y bytes maxL ret :: ws')
    (hd : y.cls ≠ "java/lang/invoke/MethodHandle" ∧ y.cls ≠ "java/lang/invoke/VarHandle" ∧ (parseMethodDescriptor y.desc).map (fun d => d.parameters.length) = some n) (hc0 : rm'.cells = 0) (hs0 : rm'.slots = 0) (hR : rm'.frames + 1 ≤ R.frames ∧ 8 + (maxL + 11) + rm'.locals ≤ R.locals) (hf : cells ≤ R.cells ∧ slots ≤ R.slots) (hn : As.length = n) (hz : ls.size = nL) (hst : st0 = As.reverse ++ rest) (hW : (rest.map fun v => v.category).sum ≤ 8) (hdg : decode cc pc = .ok (.invokestatic index, 3))
    (kk : ∀ (H1 : Heap) (locs1 : List Loc), Iv g u1 s H1 locs1 → W p l e R s m args below meth c H1 locs1 cells slots Q (F0 m (pc + 3) ls (rest))) : W p l e R s m args below meth c H locs cells slots Q (F0 m pc ls st0) :=
  x_callS E F I hC hG hw hd hc0 hs0 hR hf hn hz hst hW hdg (fun v u2 H1 locs1 hp I1 => by obtain ⟨rfl, rfl⟩ := hp; exact kk H1 locs1 I1)
theorem x_callVi {y : MethodName} {ws ws' : List Cond} {rm' : Room} {bytes : ByteArray} {maxL n index : Nat} {ret : Option FieldType} {As : List Value} {C : String} {r : Int32} {u1 : Wd} (q ci : Nat) {fs : List Value} {T0 : u_T} {N : Nat} (E : CallFix p m c cc nL s args Ts own) (F : Fx g s) (I : Iv g u s H locs) (hC : Cd l g y ws rm' (.ref (gA g q) :: As) u (some (.int r)) u1) (hG : GoodIn Ts (wsV own index C y ws)) (hw : ws = Cond.code y bytes maxL ret :: ws') (hq : q < 62) (he : ec g u q = .inr (ci, fs)) (hc : vwCl[ci]? = some (C, T0, N)) (hyc : y.cls = C)
    (hd : y.cls ≠ "java/lang/invoke/MethodHandle" ∧ y.cls ≠ "java/lang/invoke/VarHandle" ∧ (parseMethodDescriptor y.desc).map (fun d => d.parameters.length) = some n) (hc0 : rm'.cells = 0) (hs0 : rm'.slots = 0) (hR : rm'.frames + 1 ≤ R.frames ∧ 8 + (maxL + 11) + rm'.locals ≤ R.locals) (hf : cells ≤ R.cells ∧ slots ≤ R.slots) (hn : As.length = n) (hz : ls.size = nL) (hst : st0 = As.reverse ++ .ref (gA g q) :: rest) (hW : (rest.map fun v => v.category).sum ≤ 8) (hdg : decode cc pc = .ok (.invokevirtual index, 3))
    (kk : ∀ (H1 : Heap) (locs1 : List Loc), Iv g u1 s H1 locs1 → W p l e R s m args below meth c H1 locs1 cells slots Q (F0 m (pc + 3) ls (.int r :: rest))) : W p l e R s m args below meth c H locs cells slots Q (F0 m pc ls st0) :=
  x_callV q ci E F I hC hG hw hq he hc hyc hd hc0 hs0 hR hf hn hz hst hW hdg (fun v u2 H1 locs1 hp I1 => by obtain ⟨rfl, rfl⟩ := hp; exact kk H1 locs1 I1)
theorem x_callVl {y : MethodName} {ws ws' : List Cond} {rm' : Room} {bytes : ByteArray} {maxL n index : Nat} {ret : Option FieldType} {As : List Value} {C : String} {r : Int64} {u1 : Wd} (q ci : Nat) {fs : List Value} {T0 : u_T} {N : Nat} (E : CallFix p m c cc nL s args Ts own) (F : Fx g s) (I : Iv g u s H locs) (hC : Cd l g y ws rm' (.ref (gA g q) :: As) u (some (.long r)) u1) (hG : GoodIn Ts (wsV own index C y ws)) (hw : ws = Cond.code y bytes maxL ret :: ws') (hq : q < 62) (he : ec g u q = .inr (ci, fs)) (hc : vwCl[ci]? = some (C, T0, N)) (hyc : y.cls = C)
    (hd : y.cls ≠ "java/lang/invoke/MethodHandle" ∧ y.cls ≠ "java/lang/invoke/VarHandle" ∧ (parseMethodDescriptor y.desc).map (fun d => d.parameters.length) = some n) (hc0 : rm'.cells = 0) (hs0 : rm'.slots = 0) (hR : rm'.frames + 1 ≤ R.frames ∧ 8 + (maxL + 11) + rm'.locals ≤ R.locals) (hf : cells ≤ R.cells ∧ slots ≤ R.slots) (hn : As.length = n) (hz : ls.size = nL) (hst : st0 = As.reverse ++ .ref (gA g q) :: rest) (hW : (rest.map fun v => v.category).sum ≤ 8) (hdg : decode cc pc = .ok (.invokevirtual index, 3))
    (kk : ∀ (H1 : Heap) (locs1 : List Loc), Iv g u1 s H1 locs1 → W p l e R s m args below meth c H1 locs1 cells slots Q (F0 m (pc + 3) ls (.long r :: rest))) : W p l e R s m args below meth c H locs cells slots Q (F0 m pc ls st0) :=
  x_callV q ci E F I hC hG hw hq he hc hyc hd hc0 hs0 hR hf hn hz hst hW hdg (fun v u2 H1 locs1 hp I1 => by obtain ⟨rfl, rfl⟩ := hp; exact kk H1 locs1 I1)
theorem x_callVv {y : MethodName} {ws ws' : List Cond} {rm' : Room} {bytes : ByteArray} {maxL n index : Nat} {ret : Option FieldType} {As : List Value} {C : String} {u1 : Wd} (q ci : Nat) {fs : List Value} {T0 : u_T} {N : Nat} (E : CallFix p m c cc nL s args Ts own) (F : Fx g s) (I : Iv g u s H locs) (hC : Cd l g y ws rm' (.ref (gA g q) :: As) u (none) u1) (hG : GoodIn Ts (wsV own index C y ws)) (hw : ws = Cond.code y bytes maxL ret :: ws') (hq : q < 62) (he : ec g u q = .inr (ci, fs)) (hc : vwCl[ci]? = some (C, T0, N)) (hyc : y.cls = C)
    (hd : y.cls ≠ "java/lang/invoke/MethodHandle" ∧ y.cls ≠ "java/lang/invoke/VarHandle" ∧ (parseMethodDescriptor y.desc).map (fun d => d.parameters.length) = some n) (hc0 : rm'.cells = 0) (hs0 : rm'.slots = 0) (hR : rm'.frames + 1 ≤ R.frames ∧ 8 + (maxL + 11) + rm'.locals ≤ R.locals) (hf : cells ≤ R.cells ∧ slots ≤ R.slots) (hn : As.length = n) (hz : ls.size = nL) (hst : st0 = As.reverse ++ .ref (gA g q) :: rest) (hW : (rest.map fun v => v.category).sum ≤ 8) (hdg : decode cc pc = .ok (.invokevirtual index, 3))
    (kk : ∀ (H1 : Heap) (locs1 : List Loc), Iv g u1 s H1 locs1 → W p l e R s m args below meth c H1 locs1 cells slots Q (F0 m (pc + 3) ls (rest))) : W p l e R s m args below meth c H locs cells slots Q (F0 m pc ls st0) :=
  x_callV q ci E F I hC hG hw hq he hc hyc hd hc0 hs0 hR hf hn hz hst hW hdg (fun v u2 H1 locs1 hp I1 => by obtain ⟨rfl, rfl⟩ := hp; exact kk H1 locs1 I1)
end XW
