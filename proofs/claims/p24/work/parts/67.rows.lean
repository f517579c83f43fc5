-- ===== the law's own cells: four rows of ints
abbrev ob_wG (t : Nat → ClassId) (xg : Nat) (fg : Nat → Int32) : va_W := [(xg, .inl (t 0, 60, .inl fg))]
abbrev ob_wH (t : Nat → ClassId) (xh : Nat) (fh : Nat → Int32) : va_W := [(xh, .inl (t 0, 64, .inl fh))]
abbrev ob_wE (t : Nat → ClassId) (xe : Nat) (fe : Nat → Int32) : va_W := [(xe, .inl (t 0, 60, .inl fe))]
abbrev ob_wV (t : Nat → ClassId) (xm : Nat) (fm : Nat → Int32) : va_W := [(xm, .inl (t 0, 6, .inl fm))]
section
variable {p : Program} {l : Launch} {e : Env} {R : Room} {s : State} {m : MethodId} {args : Array Value} {below : List Frame} {meth : Method} {c : Code} {H : Heap} {locs : List Loc} {cells slots : Nat} {Q : State → Prop}
variable {cc : ByteArray} {pc : Nat} {ls : Array Slot} {rest : List Value}
theorem ob_nif_eq (hexec : p.tables.exec = Jvm.exec) (hb : c.code = cc) {x : Nat} (hx : x ≤ 1073741824) {off : Int} {tgt : Nat} (hdg : decode cc pc = .ok (.ifCond .eq off, 3)) (ht : (pc : Int) + off = (tgt : Int))
    (kt : x = 0 → W p l e R s m args below meth c H locs cells slots Q (F0 m tgt ls rest)) (kf : ¬ x = 0 → W p l e R s m args below meth c H locs cells slots Q (F0 m (pc + 3) ls rest)) : W p l e R s m args below meth c H locs cells slots Q (F0 m pc ls (.int (nI x) :: rest)) :=
  lv_if_eq hexec hb hdg ht (fun h => kt ((nI_eq (ob_nlt hx) (show 0 < 2 ^ 31 by decide)).mp h)) (fun h => kf (fun q => h (by rw [q]; rfl)))
theorem ob_nif_ne (hexec : p.tables.exec = Jvm.exec) (hb : c.code = cc) {x : Nat} (hx : x ≤ 1073741824) {off : Int} {tgt : Nat} (hdg : decode cc pc = .ok (.ifCond .ne off, 3)) (ht : (pc : Int) + off = (tgt : Int))
    (kt : ¬ x = 0 → W p l e R s m args below meth c H locs cells slots Q (F0 m tgt ls rest)) (kf : x = 0 → W p l e R s m args below meth c H locs cells slots Q (F0 m (pc + 3) ls rest)) : W p l e R s m args below meth c H locs cells slots Q (F0 m pc ls (.int (nI x) :: rest)) :=
  lv_if_ne hexec hb hdg ht (fun h => kt (fun q => h (by rw [q]; rfl))) (fun h => kf ((nI_eq (ob_nlt hx) (show 0 < 2 ^ 31 by decide)).mp h))
theorem ob_nif_gt (hexec : p.tables.exec = Jvm.exec) (hb : c.code = cc) {x : Nat} (hx : x ≤ 1073741824) {off : Int} {tgt : Nat} (hdg : decode cc pc = .ok (.ifCond .gt off, 3)) (ht : (pc : Int) + off = (tgt : Int))
    (kt : 0 < x → W p l e R s m args below meth c H locs cells slots Q (F0 m tgt ls rest)) (kf : x = 0 → W p l e R s m args below meth c H locs cells slots Q (F0 m (pc + 3) ls rest)) : W p l e R s m args below meth c H locs cells slots Q (F0 m pc ls (.int (nI x) :: rest)) :=
  lv_if_gt hexec hb hdg ht (fun h => kt ((nI_ltI (show 0 < 2 ^ 31 by decide) (ob_nlt hx)).mp h)) (fun h => kf (by
    have : ¬ 0 < x := fun q => h ((nI_ltI (show 0 < 2 ^ 31 by decide) (ob_nlt hx)).mpr q)
    omega))
theorem ob_nif_le (hexec : p.tables.exec = Jvm.exec) (hb : c.code = cc) {x : Nat} (hx : x ≤ 1073741824) {off : Int} {tgt : Nat} (hdg : decode cc pc = .ok (.ifCond .le off, 3)) (ht : (pc : Int) + off = (tgt : Int))
    (kt : x = 0 → W p l e R s m args below meth c H locs cells slots Q (F0 m tgt ls rest)) (kf : 0 < x → W p l e R s m args below meth c H locs cells slots Q (F0 m (pc + 3) ls rest)) : W p l e R s m args below meth c H locs cells slots Q (F0 m pc ls (.int (nI x) :: rest)) :=
  lv_if_le hexec hb hdg ht (fun h => kt (by
    have : ¬ 0 < x := fun q => nI_nle q (ob_nlt hx) h
    omega)) (fun h => kf (by
    rcases Nat.eq_zero_or_pos x with q | q
    · exact absurd (by rw [q]; decide) h
    · exact q))
theorem ob_nif_lt (hexec : p.tables.exec = Jvm.exec) (hb : c.code = cc) {x : Nat} (hx : x ≤ 1073741824) {off : Int} {tgt : Nat} (hdg : decode cc pc = .ok (.ifCond .lt off, 3)) (ht : (pc : Int) + off = (tgt : Int))
    (kt : False → W p l e R s m args below meth c H locs cells slots Q (F0 m tgt ls rest)) (kf : True → W p l e R s m args below meth c H locs cells slots Q (F0 m (pc + 3) ls rest)) : W p l e R s m args below meth c H locs cells slots Q (F0 m pc ls (.int (nI x) :: rest)) :=
  lv_if_lt hexec hb hdg ht (fun h => kt (nI_pos (ob_nlt hx) h)) (fun _ => kf trivial)
theorem ob_nif_ge (hexec : p.tables.exec = Jvm.exec) (hb : c.code = cc) {x : Nat} (hx : x ≤ 1073741824) {off : Int} {tgt : Nat} (hdg : decode cc pc = .ok (.ifCond .ge off, 3)) (ht : (pc : Int) + off = (tgt : Int))
    (kt : True → W p l e R s m args below meth c H locs cells slots Q (F0 m tgt ls rest)) (kf : False → W p l e R s m args below meth c H locs cells slots Q (F0 m (pc + 3) ls rest)) : W p l e R s m args below meth c H locs cells slots Q (F0 m pc ls (.int (nI x) :: rest)) :=
  lv_if_ge hexec hb hdg ht (fun _ => kt trivial) (fun h => kf (h (nI_pos' (ob_nlt hx))))
theorem ob_runN {mc ms : Nat} {g : JFrame} {Qa : State → Outcome → State → Prop} {free : Addr → Prop} (h : vx_Run p l e R s m args below meth c H locs cells slots mc ms g rest Qa (fun _ _ _ => False) free) : va_Run p l e R s m args below meth c H locs cells slots mc ms g rest Qa free := fun T hT X => by
  rcases h T hT X with h | ⟨q, st₀, t, T', L, E, ce, h0, X', hL, e1, e2, hf, -⟩
  · exact h
  · exact hf.elim
end
/-- which thrown classes aren't which -/
def ob_nc (U : State) : Prop := va_Nc "java/lang/IllegalStateException" "java/lang/IllegalArgumentException" U ∧ va_Nc "java/lang/IllegalArgumentException" "java/lang/IndexOutOfBoundsException" U ∧ va_Nc "java/lang/IllegalStateException" "java/lang/IndexOutOfBoundsException" U
theorem ob_nc.moved {u U : State} (hvm : u.vm.Alike U.vm) (h : ob_nc u) : ob_nc U := ⟨h.1.moved hvm, h.2.1.moved hvm, h.2.2.moved hvm⟩
/-- what a throw needs, and that the statics' cells are none of A -/
def ob_exA (A : Nat → Prop) (sa : Nat → Nat) (U : State) (H : Heap) : Prop := vx_Zq Bundle.tN "UNASSIGNED_STACK" Bundle.steD A U H ∧ vx_Zq Bundle.tN "SUPPRESSED_SENTINEL" Bundle.listD A U H ∧ ob_ex sa U H
theorem ob_exA.warm {A : Nat → Prop} {sa : Nat → Nat} {s U : State} {H : Heap} (hW : s.WarmedH U.vm) (h : ob_exA A sa s H) : ob_exA A sa U H := ⟨vx_Zq.moved hW.alike h.1, vx_Zq.moved hW.alike h.2.1, ob_ex.warm hW h.2.2⟩
theorem ob_exA.call {A : Nat → Prop} {sa : Nat → Nat} {U : State} {H : Heap} {g : JFrame} {mk : MethodId} {a : Array Value} (h : ob_exA A sa U H) : ob_exA A sa (U.calling g mk a) H := ⟨vx_Zq.moved (u := U) (U := U.calling g mk a) (Vm.Alike.refl U.vm) h.1, vx_Zq.moved (u := U) (U := U.calling g mk a) (Vm.Alike.refl U.vm) h.2.1, h.2.2.call⟩
theorem ob_exN {A A' : Nat → Prop} {sa : Nat → Nat} {s : State} {H : Heap} {locs : List Loc} (h : ob_exA A sa s s.heap) (hS : va_S A s.heap H locs) (hF : ∀ q, A' q → A q) : ob_exA A' sa s H := by
  have h1 := vx_Zq.kept h.1 (fun a ha hn => hS.2.1 a ha hn)
  have h2 := vx_Zq.kept h.2.1 (fun a ha hn => hS.2.1 a ha hn)
  exact ⟨h1.narrow hF, h2.narrow hF, h1.narrow (fun _ z => z.elim), h2.narrow (fun _ z => z.elim), h.2.2.2.2⟩
/-- the start of a method whose callees throw and are caught -/
def ob_PY (D : va_G) (t : Nat → ClassId) (ws : va_W) (sz : Nat) (sa : Nat → Nat) (av : List Value) : Array Value → State → Prop := va_Pc av (fun U => U.heap.size = sz ∧ va_P D vwCl ws U.heap ∧ ob_kx D t U ∧ va_D (fun _ => True) ws ∧ ob_exA (va_A ws sz) sa U U.heap ∧ ob_nc U)
theorem ob_pYS {D : va_G} {t : Nat → ClassId} {sa : Nat → Nat} {ws : va_W} {A : Nat → Prop} {H : Heap} {s : State} {As : List Value} (hP : va_P D vwCl ws H) (hD : va_D A ws) (hk : ob_kx D t s) (hE : ob_exA (va_A ws H.size) sa s H) (hN : ob_nc s) : PreS s H (ob_PY D t ws H.size sa As) As :=
  ⟨fun a U g mk q => ⟨q.1, q.2.1, q.2.2.1, q.2.2.2.1.call, q.2.2.2.2.1, q.2.2.2.2.2.1.call, ob_nc.moved (u := U) (U := U.calling g mk a) (Vm.Alike.refl U.vm) q.2.2.2.2.2.2⟩, fun U hU hW => ⟨rfl, by rw [hU], by rw [hU]; exact hP, hk.warm hW, hD.weaken (fun _ _ _ _ => trivial), by rw [hU]; exact hE.warm hW, hN.moved hW.alike⟩⟩
-- ===== small words
theorem ob_bi_t {b : Bool} (h : b = true) : ob_bi b = nI 1 := by rw [h]; rfl
theorem ob_bi_f {b : Bool} (h : b = false) : ob_bi b = nI 0 := by rw [h]; rfl
