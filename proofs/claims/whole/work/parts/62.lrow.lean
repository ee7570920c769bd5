/-! the law's own methods: they call one of the class's, and tell what it threw -/
theorem asg_self (vm : Vm) (c : ClassId) : vm.assignable c c = true := by
  show vm.assignableAux (255 + 1) c c = true
  rw [Vm.assignableAux]
  simp only [beq_self_eq_true, Bool.true_or]
/-- from the world u with these arguments the method returns; 'post answer world'; 5 cells of 30 slots at the most are new -/
def Ls (l : Launch) (g : Geo) (y : MethodName) (ws : List Cond) (rm : Room) (As : List Value) (u : Wd) (post : Option Value → Wd → Prop) : Prop := Met l y ws rm (va_Pc As (Hw g u)) (Qs g post) 5 30 (gW g)
set_option maxHeartbeats 1000000 in
theorem Ls.ofW {l : Launch} {g : Geo} {y : MethodName} {ws ws' : List Cond} {rm : Room} {As : List Value} {u : Wd} {post : Option Value → Wd → Prop} {cc : ByteArray} {maxL : Nat} {ret : Option FieldType} {hh : List (Nat × Nat × Nat × Nat)} (own : String) (ho : y.cls = own) (hy : plainName y.cls = true) (hw : ws = Cond.codeWith y cc maxL ret hh :: ws') (hn : (lg_sl As).length ≤ maxL)
    (body : ∀ (p : Program) (e : Env) (s : State) (m : MethodId) (below : List Frame) (meth : Method) (c : Code), CallFix p m c cc maxL s As.toArray ws own → meth.sig.returnType = ret → meth.locks = false → c.exceptionTable.toList = tableOf hh → Fx g s → Iv g u s s.heap [] → ∀ ls : Array Slot, lv_has ls maxL (lv_args 0 As) →
      W p l e rm s m As.toArray below meth c s.heap [] 0 0 (MQ below (Qs g post) As.toArray s 5 30 (gW g)) (F0 m 0 ls [])) : Ls l g y ws rm As u post := by
  refine va_MetW (cc := cc) (maxL := maxL) (ret := ret) (hh := hh) hy hw ?_
  intro p e s m args below meth c s₁ B hml hv
  obtain ⟨rfl, hH⟩ := hv
  have hown : s.vm.findClass y.cls = some m.cls := findClass_of_methodNamed B.named
  have hl := lv_entry As (n := maxL) hn
  have ht := vx_table (x := y) B (atoms_spec (ws := ws) B.pre _ (by rw [hw]; exact List.mem_cons_self))
  rw [lg_entry_eq]
  exact body p e s m below meth c ⟨B.exec, B.bytes, hml, by rw [← ho]; exact hown, atoms_spec (ws := ws) B.pre⟩ B.returns B.notSynchronized ht hH.2 (Iv.start hH) _ hl
section XL
variable {p : Program} {l : Launch} {e : Env} {R : Room} {s : State} {m : MethodId} {args : Array Value} {below : List Frame} {meth : Method} {c : Code} {H : Heap} {locs : List Loc} {cells slots mc ms : Nat} {Q : State → Prop}
variable {cc : ByteArray} {pc nL : Nat} {ls : Array Slot} {rest st0 : List Value} {g : Geo} {u u0 : Wd} {Ts : List Cond} {own : String} {post : Option Value → Wd → Prop} {xc : String → Prop}
theorem l_iret {v : Int32} (hx : p.tables.exec = Jvm.exec) (hb : c.code = cc) (hr : meth.sig.returnType = some .int) (hk : meth.locks = false) (F : Fx g s) (I : Iv g u s H locs) (hc : cells ≤ mc) (hs : slots ≤ ms) (hp : post (some (.int v)) u) (hdg : decode cc pc = .ok (.ireturn, 1)) : W p l e R s m args below meth c H locs cells slots (MQ below (Qs g post) args s mc ms (gW g)) (F0 m pc ls [.int v]) :=
  W.widen hc hs (W.iret hx hb hr (fun t ht hW => ⟨⟨_, u, rfl, hp, I.at F ht hW⟩, I.F ht⟩) I.2.2.2 hdg (hlocks := hk))
/-- caught by the row x of this method's table, which names its class; the rows ahead name others -/
theorem y_catch {E0 : String} {ce : Cell} {q : Addr} (hown : s.vm.findClass own = some m.cls) (pre : List ExceptionTableEntry) (x : ExceptionTableEntry) (suf : List ExceptionTableEntry) (hsplit : c.exceptionTable.toList = pre ++ x :: suf)
    (hpass : ∀ z ∈ pre, covers z pc = false ∨ (z.catchType ≠ 0 ∧ ∃ nm : String, (Cond.classLink own z.catchType nm).before args s = true ∧ va_Nc E0 nm s)) (hx : covers x pc = true) (h0 : x.catchType ≠ 0)
    (hlink : (Cond.classLink own x.catchType E0).before args s = true) (hcell : H[q]? = some ce) (hv : ce.vm = .none) (hcl : s.vm.findClass E0 = some ce.cls)
    (kk : W p l e R s m args below meth c H locs cells slots Q (F0 m x.handlerPc ls [.ref q])) : vx_W p l e R s m args below meth c H locs cells slots Q (F0 m pc ls rest) q := by
  intro T hT X
  have hpl : e.platform.magicAccessors = ({} : Platform).magicAccessors := by rw [X.admits.platform]
  obtain ⟨c5, hc5, hcl5⟩ := Cond.classLink_spec hown hlink e.platform hpl
  cases Option.some.inj (hcl.symm.trans hc5)
  obtain ⟨vm', X', st⟩ := X.thenCaughtThrough q (g := F0 m pc ls rest) rfl (Steps.refl _) (by rw [hT]; exact hcell) (by rw [hv]; rfl) (by obtain ⟨k9, h9, -⟩ := Vm.findClass_spec hcl; exact ⟨k9, h9⟩) pre x suf hsplit
    (fun z hz => by
      rcases hpass z hz with h | ⟨hz0, nm, hl1, hn1⟩
      · exact Or.inl h
      · obtain ⟨c6, hc6, hcl6⟩ := Cond.classLink_spec hown hl1 e.platform hpl
        obtain ⟨a8, b8, h1, h2, h3⟩ := hn1
        cases Option.some.inj (h1.symm.trans hcl)
        cases Option.some.inj (h2.symm.trans hc6)
        exact Or.inr ⟨hz0, _, hcl6, h3⟩) hx (Or.inr ⟨h0, ce.cls, hcl5, asg_self _ _⟩)
  obtain ⟨t, a1, b1⟩ := kk (T.setVm vm') hT X'
  exact ⟨t, st.trans a1, b1⟩
/-- a virtual call that may throw -/
theorem z_callV {y : MethodName} {ws ws' : List Cond} {rm' : Room} {bytes : ByteArray} {maxL n index mc1 ms1 : Nat} {ret : Option FieldType} {As : List Value} {C : String} {post1 : Option Value → Wd → Prop} {xc1 : String → Prop} (q ci : Nat) {fs : List Value} {T0 : u_T} {N : Nat} (E : CallFix p m c cc nL s args Ts own) (F : Fx g s) (I : Iv g u s H locs) (hC : Xs l g y ws rm' (.ref (gA g q) :: As) u post1 xc1 mc1 ms1) (hG : GoodIn Ts (wsV own index C y ws)) (hw : ws = Cond.code y bytes maxL ret :: ws') (hq : q < 62) (he : ec g u q = .inr (ci, fs)) (hc : vwCl[ci]? = some (C, T0, N)) (hyc : y.cls = C)
    (hd : y.cls ≠ "java/lang/invoke/MethodHandle" ∧ y.cls ≠ "java/lang/invoke/VarHandle" ∧ (parseMethodDescriptor y.desc).map (fun d => d.parameters.length) = some n) (hc0 : rm'.cells = mc1) (hs0 : rm'.slots = ms1) (hR : rm'.frames + 1 ≤ R.frames ∧ 8 + (maxL + 11) + rm'.locals ≤ R.locals) (hf : cells + mc1 ≤ R.cells ∧ slots + ms1 ≤ R.slots) (hn : As.length = n) (hz : ls.size = nL) (hst : st0 = As.reverse ++ .ref (gA g q) :: rest) (hW : (rest.map fun v => v.category).sum ≤ 8) (hdg : decode cc pc = .ok (.invokevirtual index, 3))
    (kx : ∀ (E0 : String) (ce : Cell) (q : Addr) (H1 : Heap) (locs1 : List Loc), xc1 E0 → Iv g u s H1 locs1 → H1[q]? = some ce → ce.vm = .none → s.vm.findClass E0 = some ce.cls → vx_W p l e R s m args below meth c H1 locs1 (cells + mc1) (slots + ms1) Q (F0 m pc ls rest) q)
    (kk : ∀ (v : Option Value) (u' : Wd) (H1 : Heap) (locs1 : List Loc), post1 v u' → Iv g u' s H1 locs1 → W p l e R s m args below meth c H1 locs1 (cells + mc1) (slots + ms1) Q (F0 m (pc + 3) ls (v.toList ++ rest))) : W p l e R s m args below meth c H locs cells slots Q (F0 m pc ls st0) := by
  intro T hT X
  rcases vx_runV (rest := rest) (g := F0 m pc ls st0) (As := As) E hC (cwV n E.2.2.2.2 hG hw hc0 hs0 ⟨hyc, hd⟩ hR) ⟨Hw.blind g u _, va_recv F.1 I.1 hc (by rw [wl_at g u hq, he]), fun U hU hW => ⟨rfl, I.at F hU hW⟩⟩ rfl hn hz hst (by show 2 * 0 + _ ≤ 8; omega) hdg hf T hT X with ⟨v, st₀, t, T', L, h0, X', hL, e1, e2, ⟨⟨v2, u', hv, hp, hh⟩, hF⟩, st⟩ | ⟨q, st₀, t, T', L, E0, ce, h0, X', hL, e1, e2, ⟨hxc, hPt, hF⟩, hce, hcv, hcl, st⟩
  · cases hv
    obtain ⟨-, -, k3⟩ := vx_keep h0 e1 I.2 (fun _ _ h => h) (fun _ h => h) hL hF
    obtain ⟨t2, a1, b1⟩ := kk v u' T'.heap (locs ++ L) hp ⟨by rw [e1]; exact hh.1, k3⟩ T' rfl X'
    exact ⟨t2, st t2 a1, b1⟩
  · obtain ⟨-, -, k3⟩ := vx_keep h0 e1 I.2 (fun _ _ h => h) (fun _ h => h) hL hF
    obtain ⟨t2, a1, b1⟩ := kx E0 ce q T'.heap (locs ++ L) hxc ⟨by rw [e1]; exact hPt, k3⟩ (by rw [e1]; exact hce) hcv hcl T' rfl X'
    exact ⟨t2, st.trans a1, b1⟩
/-- a static call of one of these -/
theorem l_call {y : MethodName} {ws ws' : List Cond} {rm' : Room} {bytes : ByteArray} {maxL n index : Nat} {ret : Option FieldType} {hh : List (Nat × Nat × Nat × Nat)} {As : List Value} {post : Option Value → Wd → Prop} (E : CallFix p m c cc nL s args Ts own) (F : Fx g s) (I : Iv g u s H locs) (hC : Ls l g y ws rm' As u post) (hG : GoodIn Ts (va_wsS own index y ws)) (hw : ws = Cond.codeWith y bytes maxL ret hh :: ws')
    (hd : y.cls ≠ "java/lang/invoke/MethodHandle" ∧ y.cls ≠ "java/lang/invoke/VarHandle" ∧ (parseMethodDescriptor y.desc).map (fun d => d.parameters.length) = some n) (hc0 : rm'.cells = 5) (hs0 : rm'.slots = 30) (hR : rm'.frames + 1 ≤ R.frames ∧ 8 + (maxL + 11) + rm'.locals ≤ R.locals) (hf : cells + 5 ≤ R.cells ∧ slots + 30 ≤ R.slots) (hn : As.length = n) (hz : ls.size = nL) (hst : st0 = As.reverse ++ rest) (hW : (rest.map fun v => v.category).sum ≤ 8) (hdg : decode cc pc = .ok (.invokestatic index, 3))
    (kk : ∀ (v : Option Value) (u' : Wd) (H1 : Heap) (locs1 : List Loc), post v u' → Iv g u' s H1 locs1 → W p l e R s m args below meth c H1 locs1 (cells + 5) (slots + 30) Q (F0 m (pc + 3) ls (v.toList ++ rest))) : W p l e R s m args below meth c H locs cells slots Q (F0 m pc ls st0) := by
  intro T hT X
  obtain ⟨v, st₀, t, T', L, h0, X', hL, e1, e2, ⟨⟨v2, u', hv, hp, hh⟩, hF⟩, st⟩ := vx_runSW (rest := rest) (g := F0 m pc ls st0) E hC (vx_cwSW n E.2.2.2.2 hG hw hc0 hs0 hd hR) ⟨Hw.blind g u As, fun U hU hW => ⟨rfl, I.at F hU hW⟩⟩ rfl hn hz hst (by show 2 * 0 + _ ≤ 8; omega) hdg hf T hT X
  cases hv
  obtain ⟨-, -, k3⟩ := vx_keep h0 e1 I.2 (fun _ _ h => h) (fun _ h => h) hL hF
  obtain ⟨t2, a1, b1⟩ := kk v u' T'.heap (locs ++ L) hp ⟨by rw [e1]; exact hh.1, k3⟩ T' rfl X'
  exact ⟨t2, st t2 a1, b1⟩
end XL
/-- what a method of the law that returns nothing tells -/
def pW (post : Option Value → Wd → Prop) (xc : String → Prop) (u : Wd) : Option Value → Wd → Prop := fun v' u' => (v' = some (.int (nI 0)) ∧ post none u') ∨ (v' = some (.int (nI 1)) ∧ xc sIO ∧ u' = u) ∨ (v' = some (.int (nI 2)) ∧ xc sIA ∧ u' = u)
/-- and one that lays an answer into the row out -/
def pR (post : Option Value → Wd → Prop) (xc : String → Prop) (u : Wd) (cv : Int32 → Int64) : Option Value → Wd → Prop := fun v' u' => (v' = some (.int (nI 0)) ∧ ∃ (r : Int32) (u1 : Wd), post (some (.int r)) u1 ∧ u' = (u1.1, u1.2.1, u1.2.2.1, vp_updL u1.2.2.2 0 (cv r))) ∨ (v' = some (.int (nI 1)) ∧ xc sIO ∧ u' = u) ∨ (v' = some (.int (nI 2)) ∧ xc sIA ∧ u' = u)
def cvB (r : Int32) : Int64 := if r = 0 then 0 else 1
def cvI (r : Int32) : Int64 := r.toInt64
