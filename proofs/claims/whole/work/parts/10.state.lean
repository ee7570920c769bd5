/-! THE ONE WORLD: all cells of the desk, its ruler, the reference and the law's row, at the addresses gA g 0 .. gA g 61; what they hold is u -/
abbrev Geo : Type := va_G × (Nat → Nat) × (ClassId × ClassId × ClassId × ClassId) × Nat
abbrev gD (g : Geo) : va_G := g.1
abbrev gA (g : Geo) : Nat → Nat := g.2.1
abbrev gI (g : Geo) : ClassId := g.2.2.1.1
abbrev gJ (g : Geo) : ClassId := g.2.2.1.2.1
abbrev gZ (g : Geo) : ClassId := g.2.2.1.2.2.1
abbrev gQ (g : Geo) : ClassId := g.2.2.1.2.2.2
abbrev gB (g : Geo) : Nat := g.2.2.2
/-- the ruler: waiting, seats, first, length, seatsUsed -/
abbrev Rul : Type := (Nat → Int32) × (Nat → Int32) × Int32 × Int32 × Int32
/-- the reference: code, table, fresh, found -/
abbrev Mod : Type := Int32 × (Nat → Int32) × (Nat → Int32) × (Nat → Int32)
/-- rows 0 .. 47 the slots, 48 made, 49 madeNext, 50 found, 51 foundNext; the ruler; the reference; the law's out -/
abbrev Wd : Type := (Nat → Nat → Int64) × Rul × Mod × (Nat → Int64)
def ec (g : Geo) (u : Wd) (k : Nat) : va_E := match k with
  | 0 => .inr (1, [.ref (gA g 1), .ref (gA g 58), .ref (gA g 59), .ref (gA g 60), .ref (gA g 61), .ref (gA g 2)])
  | 1 => .inl (gQ g, 48, .inr (.inr (.inr (.inr (fun i => if i < 48 then some (gA g (i + 10)) else none)))))
  | 2 => .inr (0, [.ref (gA g 3), .int u.2.1.2.2.1, .int u.2.1.2.2.2.1, .ref (gA g 4), .int u.2.1.2.2.2.2])
  | 3 => .inl (gI g, 4096, .inl u.2.1.1)
  | 4 => .inl (gI g, 4096, .inl u.2.1.2.1)
  | 5 => .inr (2, [.int u.2.2.1.1, .ref (gA g 6), .ref (gA g 7), .ref (gA g 8)])
  | 6 => .inl (gZ g, 49152, .inl u.2.2.1.2.1)
  | 7 => .inl (gZ g, 1024, .inl u.2.2.1.2.2.1)
  | 8 => .inl (gI g, 24576, .inl u.2.2.1.2.2.2)
  | 9 => .inl (gJ g, 1, .inr (.inl u.2.2.2))
  | k + 10 => .inl (gJ g, 16, .inr (.inl (u.1 k)))
theorem ec_row (g : Geo) (u : Wd) (k : Nat) : ec g u (k + 10) = .inl (gJ g, 16, .inr (.inl (u.1 k))) := rfl
def wl (g : Geo) (u : Wd) : va_W := (List.range 62).map (fun k => (gA g k, ec g u k))
theorem wl_at (g : Geo) (u : Wd) {k : Nat} (h : k < 62) : (wl g u)[k]? = some (gA g k, ec g u k) := by
  unfold wl
  rw [List.getElem?_map, List.getElem?_range h]
  rfl
theorem wl_no (g : Geo) (u : Wd) {k : Nat} (h : ¬ k < 62) : (wl g u)[k]? = none := by
  unfold wl
  rw [List.getElem?_eq_none]
  rw [List.length_map, List.length_range]
  omega
theorem wl_in {g : Geo} {u : Wd} {k : Nat} {q : Nat × va_E} (h : (wl g u)[k]? = some q) : k < 62 ∧ q = (gA g k, ec g u k) := by
  by_cases hk : k < 62
  · rw [wl_at g u hk] at h
    exact ⟨hk, (Option.some.inj h).symm⟩
  · rw [wl_no g u hk] at h
    cases h
theorem wl_set {g : Geo} {u u' : Wd} {k : Nat} {x : va_E} (h : k < 62) (he : ec g u' k = x) (ho : ∀ j, j ≠ k → ec g u' j = ec g u j) : (wl g u).set k (gA g k, x) = wl g u' := by
  apply List.ext_getElem?
  intro j
  by_cases hj : j = k
  · subst hj
    rw [List.getElem?_set_self, wl_at g u' h, he]
    unfold wl
    rw [List.length_map, List.length_range]
    exact h
  · rw [List.getElem?_set_ne (Ne.symm hj)]
    by_cases hl : j < 62
    · rw [wl_at g u hl, wl_at g u' hl, ho j hj]
    · rw [wl_no g u hl, wl_no g u' hl]
/-- the world's addresses -/
def gW (g : Geo) : Nat → Prop := fun q => ∃ k, k < 62 ∧ q = gA g k
theorem gW_in (g : Geo) {k : Nat} (h : k < 62) : gW g (gA g k) := ⟨k, h, rfl⟩
/-- the table BIT_VARIABLES -/
def bvL (k : Nat) : Int64 := match k with
  | 0 => -4294967296
  | 1 => -281470681808896
  | 2 => -71777214294589696
  | 3 => -1085102592571150096
  | 4 => -3689348814741910324
  | _ => -6148914691236517206
abbrev tysG (g : Geo) : List (ClassId × FieldType) := [(gI g, .int), (gJ g, .long), (gZ g, .boolean), (gQ g, .array .long)]
abbrev sIO : String := "java/lang/IndexOutOfBoundsException"
abbrev sIA : String := "java/lang/IllegalArgumentException"
/-- the strings of the class's throws -/
def strL : List (Nat × String) := [(49, "how is not 0 .. 15"), (69, "the set is not 0 .. 1023"), (87, "no point to go to"), (112, "from is above to"), (116, "there is no such slot"), (119, "the variable is not 0 .. 9"), (121, "the point is not 0 .. 1023")]
def Strs (U : State) : Prop := ∀ x ∈ strL, ∃ a : Nat, vk_R RX1 x.1 x.2 a U
/-- the words of the throws that aren't of the good kind -/
def ngL : List Cond := (vx_atS RX1 118 sIO ["java/lang/RuntimeException", "java/lang/Exception"] ++ vx_atS RX1 51 sIA ["java/lang/RuntimeException", "java/lang/Exception"]).filter (fun w => !goodWord w)
def isDC (w : Cond) : Bool := match w with
  | .declares _ => true
  | .castable _ _ => true
  | _ => false
set_option maxRecDepth 20000 in
theorem ngL_dc : ∀ w ∈ ngL, isDC w = true := by decide +kernel
def Ngs (U : State) : Prop := ∀ w ∈ ngL, va_Nw w U
theorem Ngs.moved {s U : State} (hW : s.WarmedH U.vm) (h : Ngs s) : Ngs U := by
  intro w hw
  have h1 := h w hw
  have h2 := ngL_dc w hw
  cases w with
  | declares x => exact va_Nw.warmD hW h1
  | castable a b => exact va_Nw.warmC hW h1
  | _ => cases h2
/-- what is fixed of a state: classes, addresses apart, statics -/
def Fx (g : Geo) (U : State) : Prop := va_K (gD g) vwCl (tysG g) U ∧ (∀ i j : Nat, i < 62 → j < 62 → gA g i = gA g j → i = j) ∧ va_Z "FunctionDesk" "BIT_VARIABLES" "[J" (.ref (gB g)) (gW g) U U.heap ∧ va_T .long (gB g) 6 (fun j => .long (bvL j)) (gW g) U U.heap
  ∧ vx_Zq Bundle.tN "UNASSIGNED_STACK" Bundle.steD (gW g) U U.heap ∧ vx_Zq Bundle.tN "SUPPRESSED_SENTINEL" Bundle.listD (gW g) U U.heap ∧ Strs U ∧ va_Nc sIA sIO U ∧ Ngs U
theorem Fx.moved {g : Geo} {u U : State} (h : Fx g u) (hW : u.WarmedH U.vm) (hq : ∀ a : Nat, a < u.heap.size → ¬ gW g a → U.heap[a]? = u.heap[a]?) : Fx g U :=
  ⟨va_K.moved hW.alike h.1, h.2.1, va_Z.moved hW.alike (h.2.2.1.kept hq), va_T.moved hW.alike (h.2.2.2.1.kept hq), vx_Zq.moved hW.alike (h.2.2.2.2.1.kept hq), vx_Zq.moved hW.alike (h.2.2.2.2.2.1.kept hq), fun x hx => (h.2.2.2.2.2.2.1 x hx).imp (fun _ h => vk_R.warm hW h), va_Nc.moved hW.alike h.2.2.2.2.2.2.2.1, Ngs.moved hW h.2.2.2.2.2.2.2.2⟩
/-- a state holds the world u -/
def Hw (g : Geo) (u : Wd) (U : State) : Prop := va_P (gD g) vwCl (wl g u) U.heap ∧ Fx g U
theorem Hw.calling {g : Geo} {u : Wd} {U : State} (h : Hw g u U) (f : JFrame) (mk : MethodId) (a : Array Value) : Hw g u (U.calling f mk a) :=
  ⟨h.1, h.2.moved (U := U.calling f mk a) (State.WarmedH.refl U) (fun _ _ _ => rfl)⟩
/-- within a body: the heap holds u, and nothing but the world has changed -/
def Iv (g : Geo) (u : Wd) (s : State) (H : Heap) (locs : List Loc) : Prop := va_P (gD g) vwCl (wl g u) H ∧ va_S (gW g) s.heap H locs
theorem Fx.D {g : Geo} {s : State} (h : Fx g s) (u : Wd) : va_D (gW g) (wl g u) :=
  ⟨fun i j p q hi hj e => by
    obtain ⟨hi1, rfl⟩ := wl_in hi
    obtain ⟨hj1, rfl⟩ := wl_in hj
    exact h.2.1 i j hi1 hj1 e, fun k q hk => by
    obtain ⟨hk1, rfl⟩ := wl_in hk
    exact gW_in g hk1⟩
theorem Iv.start {g : Geo} {u : Wd} {s : State} (h : Hw g u s) : Iv g u s s.heap [] := ⟨h.1, va_S.rf⟩
theorem Iv.at {g : Geo} {u : Wd} {s t : State} {H : Heap} {locs : List Loc} (F : Fx g s) (h : Iv g u s H locs) (ht : t.heap = H) (hW : s.WarmedH t.vm) : Hw g u t :=
  ⟨by rw [ht]; exact h.1, F.moved hW (fun a h1 h2 => by rw [ht]; exact h.2.2.1 a h1 h2)⟩
theorem Iv.F {g : Geo} {u : Wd} {s t : State} {H : Heap} {locs : List Loc} (h : Iv g u s H locs) (ht : t.heap = H) : va_F (gW g) s t := h.2.F ht
/-! CONTRACTS -/
def Qs (g : Geo) (post : Option Value → Wd → Prop) : Array Value → State → Outcome → State → Prop := fun _ st oc t => (∃ (v : Option Value) (u : Wd), oc = .returned v ∧ post v u ∧ Hw g u t) ∧ va_F (gW g) st t
/-- from the world u with these arguments the method returns; 'post answer world' -/
def Cs (l : Launch) (g : Geo) (y : MethodName) (ws : List Cond) (rm : Room) (As : List Value) (u : Wd) (post : Option Value → Wd → Prop) : Prop := Met l y ws rm (va_Pc As (Hw g u)) (Qs g post) 0 0 (gW g)
abbrev rmN (f n : Nat) : Room := { frames := f, cells := 0, slots := 0, locals := n }
theorem Hw.blind (g : Geo) (u : Wd) (As : List Value) : FrameBlind (va_Pc As (Hw g u)) := fun _ _ f mk h => ⟨h.1, h.2.calling f mk _⟩
set_option maxHeartbeats 1000000 in
theorem Cs.ofW {l : Launch} {g : Geo} {y : MethodName} {ws ws' : List Cond} {rm : Room} {As : List Value} {u : Wd} {post : Option Value → Wd → Prop} {cc : ByteArray} {maxL : Nat} {ret : Option FieldType} (own : String) (ho : y.cls = own) (hy : plainName y.cls = true) (hw : ws = Cond.code y cc maxL ret :: ws') (hn : (lg_sl As).length ≤ maxL)
    (body : ∀ (p : Program) (e : Env) (s : State) (m : MethodId) (below : List Frame) (meth : Method) (c : Code), CallFix p m c cc maxL s As.toArray ws own → meth.sig.returnType = ret → meth.locks = false → Fx g s → Iv g u s s.heap [] → ∀ ls : Array Slot, lv_has ls maxL (lv_args 0 As) →
      W p l e rm s m As.toArray below meth c s.heap [] 0 0 (MQ below (Qs g post) As.toArray s 0 0 (gW g)) (F0 m 0 ls [])) : Cs l g y ws rm As u post := by
  refine Met.ofW (cc := cc) (maxL := maxL) (ret := ret) hy hw ?_
  intro p e s m args below meth c s₁ B hml hv
  obtain ⟨rfl, hH⟩ := hv
  have hown : s.vm.findClass y.cls = some m.cls := findClass_of_methodNamed B.named
  have hl := lv_entry As (n := maxL) hn
  rw [lg_entry_eq]
  exact body p e s m below meth c ⟨B.exec, B.bytes, hml, by rw [← ho]; exact hown, atoms_spec (ws := ws) B.pre⟩ B.returns B.notSynchronized hH.2 (Iv.start hH) _ hl
section XR
variable {p : Program} {l : Launch} {e : Env} {R : Room} {s : State} {m : MethodId} {args : Array Value} {below : List Frame} {meth : Method} {c : Code} {H : Heap} {locs : List Loc} {cells slots : Nat} {Q : State → Prop}
variable {cc : ByteArray} {pc nL : Nat} {ls : Array Slot} {rest : List Value} {g : Geo} {u : Wd} {Ts : List Cond} {own : String} {post : Option Value → Wd → Prop}
/-! ends -/
theorem x_iret {v : Int32} (hx : p.tables.exec = Jvm.exec) (hb : c.code = cc) (hr : meth.sig.returnType = some .int) (hk : meth.locks = false) (F : Fx g s) (I : Iv g u s H locs) (hp : post (some (.int v)) u) (hdg : decode cc pc = .ok (.ireturn, 1)) : W p l e R s m args below meth c H locs 0 0 (MQ below (Qs g post) args s 0 0 (gW g)) (F0 m pc ls [.int v]) :=
  W.iret hx hb hr (fun t ht hW => ⟨⟨_, u, rfl, hp, I.at F ht hW⟩, I.F ht⟩) I.2.2.2 hdg (hlocks := hk)
theorem x_lret {v : Int64} (hx : p.tables.exec = Jvm.exec) (hb : c.code = cc) (hr : meth.sig.returnType = some .long) (hk : meth.locks = false) (F : Fx g s) (I : Iv g u s H locs) (hp : post (some (.long v)) u) (hdg : decode cc pc = .ok (.lreturn, 1)) : W p l e R s m args below meth c H locs 0 0 (MQ below (Qs g post) args s 0 0 (gW g)) (F0 m pc ls [.long v]) :=
  W.lret hx hb hr (fun t ht hW => ⟨⟨_, u, rfl, hp, I.at F ht hW⟩, I.F ht⟩) I.2.2.2 hdg (hlocks := hk)
theorem x_vret (hx : p.tables.exec = Jvm.exec) (hb : c.code = cc) (hr : meth.sig.returnType = none) (hk : meth.locks = false) (F : Fx g s) (I : Iv g u s H locs) (hp : post none u) (hdg : decode cc pc = .ok (.return_, 1)) : W p l e R s m args below meth c H locs 0 0 (MQ below (Qs g post) args s 0 0 (gW g)) (F0 m pc ls []) :=
  W.vret hx hb hr (fun t ht hW => ⟨⟨_, u, rfl, hp, I.at F ht hW⟩, I.F ht⟩) I.2.2.2 hdg (hlocks := hk)
theorem x_zret {v : Int32} (hx : p.tables.exec = Jvm.exec) (hb : c.code = cc) (hr : meth.sig.returnType = some .boolean) (hk : meth.locks = false) (F : Fx g s) (I : Iv g u s H locs) (hn : narrow .boolean (.int v) = .int v) (hp : post (some (.int v)) u) (hdg : decode cc pc = .ok (.ireturn, 1)) : W p l e R s m args below meth c H locs 0 0 (MQ below (Qs g post) args s 0 0 (gW g)) (F0 m pc ls [.int v]) :=
  W.zret hx hb hr hn (fun t ht hW => ⟨⟨_, u, rfl, hp, I.at F ht hW⟩, I.F ht⟩) I.2.2.2 hdg (hlocks := hk)
end XR
