section NR4
variable {p : Program} {l : Launch} {e : Env} {R : Room} {s : State} {m : MethodId} {args : Array Value} {below : List Frame} {meth : Method} {c : Code} {H : Heap} {locs : List Loc} {cells slots : Nat} {Q : State → Prop}
variable {cc : ByteArray} {pc : Nat} {ls : Array Slot} {rest : List Value}
theorem n_zzne {x y : Bool} {off : Int} {tgt : Nat} (hx : p.tables.exec = Jvm.exec) (hb : c.code = cc) (hdg : decode cc pc = .ok (.if_icmp .ne off, 3)) (ht : (pc : Int) + off = (tgt : Int)) (kt : x ≠ y → W p l e R s m args below meth c H locs cells slots Q (F0 m tgt ls rest)) (kf : x = y → W p l e R s m args below meth c H locs cells slots Q (F0 m (pc + 3) ls rest)) : W p l e R s m args below meth c H locs cells slots Q (F0 m pc ls (.int (bI y) :: .int (bI x) :: rest)) :=
  lv_icmp_ne hx hb hdg ht (fun h => kt (fun q => h (by rw [q]))) (fun h => kf (bI_inj.mp h))
theorem n_zzeq {x y : Bool} {off : Int} {tgt : Nat} (hx : p.tables.exec = Jvm.exec) (hb : c.code = cc) (hdg : decode cc pc = .ok (.if_icmp .eq off, 3)) (ht : (pc : Int) + off = (tgt : Int)) (kt : x = y → W p l e R s m args below meth c H locs cells slots Q (F0 m tgt ls rest)) (kf : x ≠ y → W p l e R s m args below meth c H locs cells slots Q (F0 m (pc + 3) ls rest)) : W p l e R s m args below meth c H locs cells slots Q (F0 m pc ls (.int (bI y) :: .int (bI x) :: rest)) :=
  lv_icmp_eq hx hb hdg ht (fun h => kt (bI_inj.mp h)) (fun h => kf (fun q => h (by rw [q])))
end NR4
/-- 'some' of the reference: the first j points looked at -/
def sAcc (T : Nat → Bool) (a h : Nat) (ev : Bool) (k : Nat) : Nat → Bool
  | 0 => ev
  | j + 1 => if j &&& (h ^^^ 4294967295) = k &&& (h ^^^ 4294967295) then (if ev then sAcc T a h ev k j && T (1024 * a + j) else sAcc T a h ev k j || T (1024 * a + j)) else sAcc T a h ev k j
/-- 'nearest' of the reference -/
noncomputable def nrF (T : Nat → Bool) (a c k : Nat) : Bool := pB (∃ d, T (1024 * c + (k ^^^ d)) = true ∧ (∀ d', d' < d → T (1024 * c + (k ^^^ d')) = false) ∧ T (1024 * a + (k ^^^ d)) = true)
theorem nrF_at {T : Nat → Bool} {a c k d : Nat} (h1 : T (1024 * c + (k ^^^ d)) = true) (h2 : ∀ d', d' < d → T (1024 * c + (k ^^^ d')) = false) : nrF T a c k = T (1024 * a + (k ^^^ d)) := by
  cases h : T (1024 * a + (k ^^^ d))
  · refine pB_f (fun ⟨d', q1, q2, q3⟩ => ?_)
    rcases Nat.lt_trichotomy d d' with z | z | z
    · rw [q2 d z] at h1
      cases h1
    · subst z
      rw [h] at q3
      cases q3
    · rw [h2 d' z] at q1
      cases q1
  · exact pB_t ⟨d, h1, h2, h⟩
def anyT (T : Nat → Bool) (c : Nat) : Prop := ∃ k, k < 1024 ∧ T (1024 * c + k) = true
theorem xor1024 {i j : Nat} (hi : i < 1024) (hj : j < 1024) : i ^^^ j < 1024 := Nat.xor_lt_two_pow (n := 10) hi hj
