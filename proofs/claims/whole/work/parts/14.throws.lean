/-! methods that may throw: the world is then as it was -/
def Xq (g : Geo) (u : Wd) (xc : String → Prop) : String → State → State → Prop := fun E st t => xc E ∧ va_P (gD g) vwCl (wl g u) t.heap ∧ va_F (gW g) st t
/-- from u with these arguments the method returns ('post answer world'), or throws an exception of a class that xc names, and then the world is still u; mc cells of ms slots at the most are new -/
def Xs (l : Launch) (g : Geo) (y : MethodName) (ws : List Cond) (rm : Room) (As : List Value) (u : Wd) (post : Option Value → Wd → Prop) (xc : String → Prop) (mc ms : Nat) : Prop := vx_Met l y ws rm (va_Pc As (Hw g u)) (Qs g post) (Xq g u xc) mc ms (gW g)
abbrev rmX (f n mc ms : Nat) : Room := { frames := f, cells := mc, slots := ms, locals := n }
abbrev nmsX : List String := ["java/lang/RuntimeException", "java/lang/Exception"]
set_option maxHeartbeats 1000000 in
theorem Xs.ofW {l : Launch} {g : Geo} {y : MethodName} {ws ws' : List Cond} {rm : Room} {As : List Value} {u : Wd} {post : Option Value → Wd → Prop} {xc : String → Prop} {mc ms : Nat} {cc : ByteArray} {maxL : Nat} {ret : Option FieldType} (own : String) (ho : y.cls = own) (hy : plainName y.cls = true) (hw : ws = Cond.code y cc maxL ret :: ws') (hn : (lg_sl As).length ≤ maxL)
    (body : ∀ (p : Program) (e : Env) (s : State) (m : MethodId) (below : List Frame) (meth : Method) (c : Code), CallFix p m c cc maxL s As.toArray ws own → meth.sig.returnType = ret → meth.locks = false → (∀ x ∈ c.exceptionTable.toList, False) → Fx g s → Iv g u s s.heap [] → ∀ ls : Array Slot, lv_has ls maxL (lv_args 0 As) →
      W p l e rm s m As.toArray below meth c s.heap [] 0 0 (vx_MQ below (Qs g post) (Xq g u xc) As.toArray s mc ms (gW g)) (F0 m 0 ls [])) : Xs l g y ws rm As u post xc mc ms := by
  refine vx_ofW (cc := cc) (maxL := maxL) (ret := ret) hy hw ?_
  intro p e s m args below meth c s₁ B hml ht hv
  obtain ⟨rfl, hH⟩ := hv
  have hown : s.vm.findClass y.cls = some m.cls := findClass_of_methodNamed B.named
  have hl := lv_entry As (n := maxL) hn
  rw [lg_entry_eq]
  exact body p e s m below meth c ⟨B.exec, B.bytes, hml, by rw [← ho]; exact hown, atoms_spec (ws := ws) B.pre⟩ B.returns B.notSynchronized ht hH.2 (Iv.start hH) _ hl
section XT
variable {p : Program} {l : Launch} {e : Env} {R : Room} {s : State} {m : MethodId} {args : Array Value} {below : List Frame} {meth : Method} {c : Code} {H : Heap} {locs : List Loc} {cells slots mc ms : Nat} {Q : State → Prop}
variable {cc : ByteArray} {pc nL : Nat} {ls : Array Slot} {rest st0 : List Value} {g : Geo} {u u0 : Wd} {Ts : List Cond} {own : String} {post : Option Value → Wd → Prop} {xc : String → Prop}
theorem y_iret {v : Int32} (hx : p.tables.exec = Jvm.exec) (hb : c.code = cc) (hr : meth.sig.returnType = some .int) (hk : meth.locks = false) (F : Fx g s) (I : Iv g u s H locs) (hc : cells ≤ mc) (hs : slots ≤ ms) (hp : post (some (.int v)) u) (hdg : decode cc pc = .ok (.ireturn, 1)) : W p l e R s m args below meth c H locs cells slots (vx_MQ below (Qs g post) (Xq g u0 xc) args s mc ms (gW g)) (F0 m pc ls [.int v]) :=
  vx_ret (W.widen hc hs (W.iret hx hb hr (fun t ht hW => ⟨⟨_, u, rfl, hp, I.at F ht hW⟩, I.F ht⟩) I.2.2.2 hdg (hlocks := hk)))
theorem y_vret (hx : p.tables.exec = Jvm.exec) (hb : c.code = cc) (hr : meth.sig.returnType = none) (hk : meth.locks = false) (F : Fx g s) (I : Iv g u s H locs) (hc : cells ≤ mc) (hs : slots ≤ ms) (hp : post none u) (hdg : decode cc pc = .ok (.return_, 1)) : W p l e R s m args below meth c H locs cells slots (vx_MQ below (Qs g post) (Xq g u0 xc) args s mc ms (gW g)) (F0 m pc ls []) :=
  vx_ret (W.widen hc hs (W.vret hx hb hr (fun t ht hW => ⟨⟨_, u, rfl, hp, I.at F ht hW⟩, I.F ht⟩) I.2.2.2 hdg (hlocks := hk)))
theorem y_zret {v : Int32} (hx : p.tables.exec = Jvm.exec) (hb : c.code = cc) (hr : meth.sig.returnType = some .boolean) (hk : meth.locks = false) (F : Fx g s) (I : Iv g u s H locs) (hn : narrow .boolean (.int v) = .int v) (hc : cells ≤ mc) (hs : slots ≤ ms) (hp : post (some (.int v)) u) (hdg : decode cc pc = .ok (.ireturn, 1)) : W p l e R s m args below meth c H locs cells slots (vx_MQ below (Qs g post) (Xq g u0 xc) args s mc ms (gW g)) (F0 m pc ls [.int v]) :=
  vx_ret (W.widen hc hs (W.zret hx hb hr hn (fun t ht hW => ⟨⟨_, u, rfl, hp, I.at F ht hW⟩, I.F ht⟩) I.2.2.2 hdg (hlocks := hk)))
/-- an exception of a callee goes on to the caller -/
theorem y_out {E0 : String} {ce : Cell} {q : Addr} (ht : ∀ x ∈ c.exceptionTable.toList, False) (hk : meth.locks = false) (I : Iv g u s H locs) (hcell : H[q]? = some ce) (hv : ce.vm = .none) (hcl : s.vm.findClass E0 = some ce.cls) (hxc : xc E0) (hc : cells ≤ mc) (hs : slots ≤ ms) :
    vx_W p l e R s m args below meth c H locs cells slots (vx_MQ below (Qs g post) (Xq g u xc) args s mc ms (gW g)) (F0 m pc ls rest) q :=
  vx_out (fun x h => (ht x h).elim) hk hcell hv hcl (fun t hT _ => ⟨hxc, by rw [hT]; exact I.1, I.F hT⟩) I.2.2.2 hc hs
/-- new E("text"), thrown -/
theorem y_throw {cls text : String} {ik is ic : Nat} (hl0 : l.stackTraces = false) (E : CallFix p m c cc nL s args Ts RX1) (F : Fx g s) (I : Iv g u s H locs) (ht : ∀ x ∈ c.exceptionTable.toList, False) (hk : meth.locks = false) (hz : ls.size = nL) (hcls : Bundle.fit cls = true) (hkl : Cond.classLink RX1 ik cls ∈ Ts) (hini : Cond.initialized cls ∈ Ts) (hstr : (is, text) ∈ strL) (hg1 : ∀ w ∈ (vx_atS RX1 ic cls nmsX).filter goodWord, w ∈ Ts) (hg2 : ∀ w ∈ (vx_atS RX1 ic cls nmsX).filter (fun w => !goodWord w), w ∈ ngL) (hg3 : ∀ w ∈ ngL, w.onTables = true)
    (hgood : ∀ w ∈ Cond.classLink RX1 ik cls :: Cond.initialized cls :: vx_atS RX1 ic cls nmsX, vx_ot w = true)
    (d0 : decode cc pc = .ok (.new ik, 3)) (d3 : decode cc (pc + 3) = .ok (.dup, 1)) (d4 : decode cc (pc + 4) = .ok (.ldc is, 2)) (d6 : decode cc (pc + 6) = .ok (.invokespecial ic, 3)) (d9 : decode cc (pc + 9) = .ok (.athrow, 1))
    (hRf : 5 < R.frames) (hRl : (rest.map fun v => v.category).sum + 82 ≤ R.locals) (hRc : cells + 1 ≤ R.cells) (hRs : slots + 6 ≤ R.slots) (hxc : xc cls) (hc : cells + 1 ≤ mc) (hs : slots + 6 ≤ ms) :
    W p l e R s m args below meth c H locs cells slots (vx_MQ below (Qs g post) (Xq g u xc) args s mc ms (gW g)) (F0 m pc ls rest) := by
  obtain ⟨sa, hsa⟩ := F.2.2.2.2.2.2.1 (is, text) hstr
  refine vx_throwS (names := nmsX) (sa := sa) E.1 E.2.1 hl0 E.2.2.2.1 hcls (by decide +kernel) (E.2.2.2.2 _ hkl) (E.2.2.2.2 _ hini) hsa (vx_hat (fun w hw => E.2.2.2.2 _ (hg1 w hw)) hg2 (fun w hw => va_Nw.use (hg3 w hw) (F.2.2.2.2.2.2.2.2 w hw))) hgood F.2.2.2.2.1 F.2.2.2.2.2.1 I.2 (hz.trans E.2.2.1.symm) d0 d3 d4 d6 d9 (fun x h => (ht x h).elim) hRf hRl hRc hRs hk (fun t _ h1 h2 => ⟨hxc, I.1.kept (fun k q hq => h2 q.1 ((I.1 k q hq).lt)), Nat.le_trans I.2.1 h1, fun q h3 h4 => (h2 q (Nat.lt_of_lt_of_le h3 I.2.1)).trans (I.2.2.1 q h3 h4)⟩) I.2.2.2 hc hs
/-- a static call that may throw -/
theorem z_callS {y : MethodName} {ws ws' : List Cond} {rm' : Room} {bytes : ByteArray} {maxL n index mc1 ms1 : Nat} {ret : Option FieldType} {As : List Value} {post1 : Option Value → Wd → Prop} {xc1 : String → Prop} (E : CallFix p m c cc nL s args Ts own) (F : Fx g s) (I : Iv g u s H locs) (hC : Xs l g y ws rm' As u post1 xc1 mc1 ms1) (hG : GoodIn Ts (va_wsS own index y ws)) (hw : ws = Cond.code y bytes maxL ret :: ws')
    (hd : y.cls ≠ "java/lang/invoke/MethodHandle" ∧ y.cls ≠ "java/lang/invoke/VarHandle" ∧ (parseMethodDescriptor y.desc).map (fun d => d.parameters.length) = some n) (hc0 : rm'.cells = mc1) (hs0 : rm'.slots = ms1) (hR : rm'.frames + 1 ≤ R.frames ∧ 8 + (maxL + 11) + rm'.locals ≤ R.locals) (hf : cells + mc1 ≤ R.cells ∧ slots + ms1 ≤ R.slots) (hn : As.length = n) (hz : ls.size = nL) (hst : st0 = As.reverse ++ rest) (hW : (rest.map fun v => v.category).sum ≤ 8) (hdg : decode cc pc = .ok (.invokestatic index, 3))
    (kx : ∀ (E0 : String) (ce : Cell) (q : Addr) (H1 : Heap) (locs1 : List Loc), xc1 E0 → Iv g u s H1 locs1 → H1[q]? = some ce → ce.vm = .none → s.vm.findClass E0 = some ce.cls → vx_W p l e R s m args below meth c H1 locs1 (cells + mc1) (slots + ms1) Q (F0 m pc ls rest) q)
    (kk : ∀ (v : Option Value) (u' : Wd) (H1 : Heap) (locs1 : List Loc), post1 v u' → Iv g u' s H1 locs1 → W p l e R s m args below meth c H1 locs1 (cells + mc1) (slots + ms1) Q (F0 m (pc + 3) ls (v.toList ++ rest))) : W p l e R s m args below meth c H locs cells slots Q (F0 m pc ls st0) := by
  intro T hT X
  rcases vx_runS (rest := rest) (g := F0 m pc ls st0) E hC (va_cwS n E.2.2.2.2 hG hw hc0 hs0 hd hR) ⟨Hw.blind g u As, fun U hU hW => ⟨rfl, I.at F hU hW⟩⟩ rfl hn hz hst (by show 2 * 0 + _ ≤ 8; omega) hdg hf T hT X with ⟨v, st₀, t, T', L, h0, X', hL, e1, e2, ⟨⟨v2, u', hv, hp, hh⟩, hF⟩, st⟩ | ⟨q, st₀, t, T', L, E0, ce, h0, X', hL, e1, e2, ⟨hxc, hPt, hF⟩, hce, hcv, hcl, st⟩
  · cases hv
    obtain ⟨-, -, k3⟩ := vx_keep h0 e1 I.2 (fun _ _ h => h) (fun _ h => h) hL hF
    obtain ⟨t2, a1, b1⟩ := kk v u' T'.heap (locs ++ L) hp ⟨by rw [e1]; exact hh.1, k3⟩ T' rfl X'
    exact ⟨t2, st t2 a1, b1⟩
  · obtain ⟨-, -, k3⟩ := vx_keep h0 e1 I.2 (fun _ _ h => h) (fun _ h => h) hL hF
    obtain ⟨t2, a1, b1⟩ := kx E0 ce q T'.heap (locs ++ L) hxc ⟨by rw [e1]; exact hPt, k3⟩ (by rw [e1]; exact hce) hcv hcl T' rfl X'
    exact ⟨t2, st.trans a1, b1⟩
end XT
set_option maxRecDepth 20000 in
theorem ngL_on : ∀ w ∈ ngL, w.onTables = true := by decide +kernel
set_option maxRecDepth 20000 in
theorem ng_IO : ∀ w ∈ (vx_atS RX1 118 sIO nmsX).filter (fun w => !goodWord w), w ∈ ngL := by decide +kernel
set_option maxRecDepth 20000 in
theorem ng_IA : ∀ w ∈ (vx_atS RX1 51 sIA nmsX).filter (fun w => !goodWord w), w ∈ ngL := by decide +kernel
set_option maxRecDepth 20000 in
theorem ot_IO : ∀ w ∈ Cond.classLink RX1 114 sIO :: Cond.initialized sIO :: vx_atS RX1 118 sIO nmsX, vx_ot w = true := by decide +kernel
set_option maxRecDepth 20000 in
theorem ot_IA : ∀ w ∈ Cond.classLink RX1 47 sIA :: Cond.initialized sIA :: vx_atS RX1 51 sIA nmsX, vx_ot w = true := by decide +kernel
section XT2
variable {p : Program} {l : Launch} {e : Env} {R : Room} {s : State} {m : MethodId} {args : Array Value} {below : List Frame} {meth : Method} {c : Code} {H : Heap} {locs : List Loc} {cells slots mc ms : Nat} {Q : State → Prop}
variable {cc : ByteArray} {pc nL : Nat} {ls : Array Slot} {rest st0 : List Value} {g : Geo} {u u0 : Wd} {Ts : List Cond} {own : String} {post : Option Value → Wd → Prop} {xc : String → Prop}
/-- a check: it returns and has done nothing, or throws -/
theorem z_check {y : MethodName} {ws ws' : List Cond} {rm' : Room} {bytes : ByteArray} {maxL n index mc1 ms1 : Nat} {ret : Option FieldType} {As : List Value} {ok : Prop} {xc1 : String → Prop} (E : CallFix p m c cc nL s args Ts own) (F : Fx g s) (I : Iv g u s H locs) (hC : Xs l g y ws rm' As u (fun v' u' => v' = none ∧ u' = u ∧ ok) xc1 mc1 ms1) (hG : GoodIn Ts (va_wsS own index y ws)) (hw : ws = Cond.code y bytes maxL ret :: ws')
    (hd : y.cls ≠ "java/lang/invoke/MethodHandle" ∧ y.cls ≠ "java/lang/invoke/VarHandle" ∧ (parseMethodDescriptor y.desc).map (fun d => d.parameters.length) = some n) (hc0 : rm'.cells = mc1) (hs0 : rm'.slots = ms1) (hR : rm'.frames + 1 ≤ R.frames ∧ 8 + (maxL + 11) + rm'.locals ≤ R.locals) (hf : cells + mc1 ≤ R.cells ∧ slots + ms1 ≤ R.slots) (hn : As.length = n) (hz : ls.size = nL) (hst : st0 = As.reverse ++ rest) (hW : (rest.map fun v => v.category).sum ≤ 8) (hdg : decode cc pc = .ok (.invokestatic index, 3))
    (kx : ∀ (E0 : String) (ce : Cell) (q : Addr) (H1 : Heap) (locs1 : List Loc), xc1 E0 → Iv g u s H1 locs1 → H1[q]? = some ce → ce.vm = .none → s.vm.findClass E0 = some ce.cls → vx_W p l e R s m args below meth c H1 locs1 (cells + mc1) (slots + ms1) Q (F0 m pc ls rest) q)
    (kk : ok → ∀ (H1 : Heap) (locs1 : List Loc), Iv g u s H1 locs1 → W p l e R s m args below meth c H1 locs1 (cells + mc1) (slots + ms1) Q (F0 m (pc + 3) ls rest)) : W p l e R s m args below meth c H locs cells slots Q (F0 m pc ls st0) :=
  z_callS E F I hC hG hw hd hc0 hs0 hR hf hn hz hst hW hdg kx (fun v u' H1 locs1 hp I1 => by obtain ⟨rfl, rfl, h⟩ := hp; exact kk h H1 locs1 I1)
end XT2
