abbrev vwCl : List vw_C := [(RX0, TX0, 3), (RX1, TX1, 9), (RX2, TX2, 5), (RX3, TX3, 1), (RX4, TX4, 4)]
-- booleans as ints
def ob_bi (b : Bool) : Int32 := if b then 1 else 0
theorem ob_bi0 {b : Bool} : ob_bi b = 0 ↔ b = false := by cases b <;> simp [ob_bi]
theorem ob_narZ (b : Bool) : narrow .boolean (.int (ob_bi b)) = .int (ob_bi b) := by cases b <;> rfl
theorem ob_fitZ (b : Bool) : fits .boolean (.int (ob_bi b)) = true := by cases b <;> rfl
theorem ob_vnarZ (b : Bool) : vp_nar .boolean (ob_bi b) = ob_bi b := by cases b <;> rfl
-- the array classes: int, long, boolean, array of int
abbrev ob_Ty (t : Nat → ClassId) : List (ClassId × FieldType) := [(t 0, .int), (t 1, .long), (t 2, .boolean), (t 3, .array .int)]
/-- the links to private methods of the nest -/
def ob_nst (U : State) : Prop := va_Nw (.methodLinkNest RX0 23 yX4_bit RX4) U ∧ va_Nw (.methodLinkNest RX0 31 yX4_hasBit RX4) U ∧ va_Nw (.methodLinkNest RX1 46 yX4_hasBit RX4) U ∧ va_Nw (.methodLinkNest RX1 69 yX4_bit RX4) U ∧ va_Nw (.methodLinkNest RX2 41 yX4_isWithin RX4) U ∧ va_Nw (.methodLinkNest RX3 17 yX4_isClock RX4) U
/-- what every contract knows of the tables -/
def ob_kx (D : va_G) (t : Nat → ClassId) (U : State) : Prop := va_K D vwCl (ob_Ty t) U ∧ ob_nst U
theorem ob_nst.warm {s U : State} (hW : s.WarmedH U.vm) (h : ob_nst s) : ob_nst U := ⟨va_Nw.warmM hW h.1, va_Nw.warmM hW h.2.1, va_Nw.warmM hW h.2.2.1, va_Nw.warmM hW h.2.2.2.1, va_Nw.warmM hW h.2.2.2.2.1, va_Nw.warmM hW h.2.2.2.2.2⟩
theorem ob_nst.same {s U : State} (hv : s.vm = U.vm) (h : ob_nst s) : ob_nst U := ⟨va_Nw.same rfl hv h.1, va_Nw.same rfl hv h.2.1, va_Nw.same rfl hv h.2.2.1, va_Nw.same rfl hv h.2.2.2.1, va_Nw.same rfl hv h.2.2.2.2.1, va_Nw.same rfl hv h.2.2.2.2.2⟩
theorem ob_kx.warm {D : va_G} {t : Nat → ClassId} {s U : State} (hW : s.WarmedH U.vm) (h : ob_kx D t s) : ob_kx D t U := ⟨va_K.moved hW.alike h.1, h.2.warm hW⟩
theorem ob_kx.call {D : va_G} {t : Nat → ClassId} {U : State} {g : JFrame} {mk : MethodId} {a : Array Value} (h : ob_kx D t U) : ob_kx D t (U.calling g mk a) := ⟨va_K.moved (u := U) (U := U.calling g mk a) (Vm.Alike.refl U.vm) h.1, h.2.same rfl⟩
/-- the start of a method that only reads -/
def ob_Pp (D : va_G) (t : Nat → ClassId) (ws : va_W) (av : List Value) : Array Value → State → Prop := va_Pc av (fun U => va_P D vwCl ws U.heap ∧ ob_kx D t U)
theorem ob_preS {D : va_G} {t : Nat → ClassId} {ws : va_W} {H : Heap} {s : State} {av : List Value} (hP : va_P D vwCl ws H) (hk : ob_kx D t s) : PreS s H (ob_Pp D t ws av) av :=
  ⟨fun a U g mk q => ⟨q.1, q.2.1, q.2.2.call⟩, fun U hU hW => ⟨rfl, by rw [hU]; exact hP, hk.warm hW⟩⟩
theorem ob_preV {D : va_G} {t : Nat → ClassId} {ws : va_W} {H : Heap} {s : State} {As : List Value} {b q0 ci : Nat} {q : vw_C} {fs : List Value} (hP : va_P D vwCl ws H) (hk : ob_kx D t s) (hc : vwCl[ci]? = some q) (he : ws[q0]? = some (b, .inr (ci, fs))) : PreV s H q.1 b (ob_Pp D t ws (.ref b :: As)) As :=
  ⟨fun a U g mk q => ⟨q.1, q.2.1, q.2.2.call⟩, va_recv hk.1 hP hc he, fun U hU hW => ⟨rfl, by rw [hU]; exact hP, hk.warm hW⟩⟩
/-- the start of a method that writes -/
def ob_Pm (D : va_G) (t : Nat → ClassId) (ws : va_W) (sz : Nat) (av : List Value) : Array Value → State → Prop := va_Pc av (fun U => U.heap.size = sz ∧ va_P D vwCl ws U.heap ∧ ob_kx D t U ∧ va_D (fun _ => True) ws)
theorem ob_pmS {D : va_G} {t : Nat → ClassId} {ws : va_W} {A : Nat → Prop} {H : Heap} {s : State} {av : List Value} (hP : va_P D vwCl ws H) (hD : va_D A ws) (hk : ob_kx D t s) : PreS s H (ob_Pm D t ws H.size av) av :=
  ⟨fun a U g mk q => ⟨q.1, q.2.1, q.2.2.1, q.2.2.2.1.call, q.2.2.2.2⟩, fun U hU hW => ⟨rfl, by rw [hU], by rw [hU]; exact hP, hk.warm hW, hD.weaken (fun _ _ _ _ => trivial)⟩⟩
theorem ob_pmV {D : va_G} {t : Nat → ClassId} {ws : va_W} {A : Nat → Prop} {H : Heap} {s : State} {As : List Value} {b q0 ci : Nat} {q : vw_C} {fs : List Value} (hP : va_P D vwCl ws H) (hD : va_D A ws) (hk : ob_kx D t s) (hc : vwCl[ci]? = some q) (he : ws[q0]? = some (b, .inr (ci, fs))) : PreV s H q.1 b (ob_Pm D t ws H.size (.ref b :: As)) As :=
  ⟨fun a U g mk q => ⟨q.1, q.2.1, q.2.2.1, q.2.2.2.1.call, q.2.2.2.2⟩, va_recv hk.1 hP hc he, fun U hU hW => ⟨rfl, by rw [hU], by rw [hU]; exact hP, hk.warm hW, hD.weaken (fun _ _ _ _ => trivial)⟩⟩
-- behind a call: the callee's cells in their places
def ob_mg : va_W → va_W → List (Option Nat) → List (Option (Nat × va_E))
  | a :: ws, w1, none :: s => some a :: ob_mg ws w1 s
  | _ :: ws, w1, some j :: s => w1[j]? :: ob_mg ws w1 s
  | _, _, _ => []
theorem ob_mg_get : ∀ (ws w1 : va_W) (sel : List (Option Nat)) (k : Nat) (q : Nat × va_E), (ob_mg ws w1 sel)[k]? = some (some q) → (sel[k]? = some none ∧ ws[k]? = some q) ∨ ∃ j : Nat, w1[j]? = some q
  | [], w1, sel, k, q, h => by simp [ob_mg] at h
  | _ :: _, w1, [], k, q, h => by simp [ob_mg] at h
  | a :: ws, w1, none :: s, 0, q, h => by
    simp [ob_mg] at h
    exact Or.inl ⟨rfl, by simp [h]⟩
  | a :: ws, w1, none :: s, k + 1, q, h => by
    simp only [ob_mg, List.getElem?_cons_succ] at h ⊢
    exact ob_mg_get ws w1 s k q h
  | a :: ws, w1, some j :: s, 0, q, h => by
    simp [ob_mg] at h
    exact Or.inr ⟨j, h⟩
  | a :: ws, w1, some j :: s, k + 1, q, h => by
    simp only [ob_mg, List.getElem?_cons_succ] at h ⊢
    exact ob_mg_get ws w1 s k q h
theorem ob_jn {A0 : Nat → Prop} {D : va_G} {cl : List vw_C} {ws ws' wc w1 : va_W} {H H1 : Heap} (hP : va_P D cl ws H) (hD : va_D A0 ws) (sel : List (Option Nat)) (isC : List Nat) (hC : isC.map (fun i => ws[i]?) = wc.map some) (hs : isC.all (fun i => sel[i]? != some none) = true)
    (hk : ∀ q : Nat, q < H.size → ¬ va_A wc H.size q → H1[q]? = H[q]?) (hP1 : va_P D cl w1 H1) (hm : ws'.map some = ob_mg ws w1 sel) : va_P D cl ws' H1 := by
  intro k q hq
  have h1 : (ob_mg ws w1 sel)[k]? = some (some q) := by rw [← hm, List.getElem?_map, hq]; rfl
  rcases ob_mg_get _ _ _ _ _ h1 with ⟨hn, hw⟩ | ⟨j, hj⟩
  · refine (hP k q hw).kept (hk q.1 (hP k q hw).lt (fun h => ?_))
    rcases h with ⟨k2, e, h⟩ | h
    · have h2 : (isC.map (fun i => ws[i]?))[k2]? = some (some (q.1, e)) := by rw [hC, List.getElem?_map, h]; rfl
      rw [List.getElem?_map] at h2
      cases hi : isC[k2]? with
      | none => rw [hi] at h2; cases h2
      | some i =>
        rw [hi] at h2
        have hij := hD.1 i k (q.1, e) q (Option.some.inj h2) hw rfl
        subst hij
        have := List.all_eq_true.mp hs i (List.mem_of_getElem? hi)
        rw [hn] at this
        simp at this
    · exact absurd (hP k q hw).lt (Nat.not_lt.mpr h)
  · exact hP1 j q hj
theorem ob_ds {A : Nat → Prop} {ws ws' : va_W} (hD : va_D A ws) (h : ws'.map (fun q => q.1) = ws.map (fun q => q.1)) : va_D A ws' := by
  have key : ∀ (k : Nat) (q : Nat × va_E), ws'[k]? = some q → ∃ p, ws[k]? = some p ∧ p.1 = q.1 := by
    intro k q hk
    have h1 : (ws'.map (fun q => q.1))[k]? = some q.1 := by rw [List.getElem?_map, hk]; rfl
    rw [h, List.getElem?_map] at h1
    cases hp : ws[k]? with
    | none => rw [hp] at h1; cases h1
    | some p => rw [hp] at h1; exact ⟨p, rfl, Option.some.inj h1⟩
  refine ⟨fun i j p q hi hj hpq => ?_, fun k q hk => ?_⟩
  · obtain ⟨p', h1, e1⟩ := key i p hi
    obtain ⟨q', h2, e2⟩ := key j q hj
    exact hD.1 i j p' q' h1 h2 (e1.trans (hpq.trans e2.symm))
  · obtain ⟨p, h1, e1⟩ := key k q hk
    rw [← e1]
    exact hD.2 k p h1
theorem ob_th {D : va_G} {ws : va_W} {H : Heap} {t9 : State} (ht : t9.heap = H) (h : va_P D vwCl ws H) : va_P D vwCl ws t9.heap := by rw [ht]; exact h
theorem ob_nlt {n : Nat} (h : n ≤ 1073741824) : n < 2 ^ 31 := Nat.lt_of_le_of_lt h (by decide)
section OBW
variable {p : Program} {l : Launch} {e : Env} {R : Room} {s : State} {m : MethodId} {args : Array Value} {below : List Frame} {meth : Method} {c : Code} {H : Heap} {locs : List Loc} {cells slots : Nat} {Q : State → Prop}
variable {cc : ByteArray} {pc : Nat} {ls : Array Slot} {rest : List Value} {D : va_G} {cl : List vw_C} {A : Nat → Prop} {a : Nat} {tys : List (ClassId × FieldType)} {ws : va_W} {H0 : Heap}
theorem ob_if_eq (hexec : p.tables.exec = Jvm.exec) (hb : c.code = cc) {b : Bool} {off : Int} {tgt : Nat} (hdg : decode cc pc = .ok (.ifCond .eq off, 3)) (ht : (pc : Int) + off = (tgt : Int))
    (kt : b = false → W p l e R s m args below meth c H locs cells slots Q (F0 m tgt ls rest)) (kf : b = true → W p l e R s m args below meth c H locs cells slots Q (F0 m (pc + 3) ls rest)) : W p l e R s m args below meth c H locs cells slots Q (F0 m pc ls (.int (ob_bi b) :: rest)) :=
  lv_if_eq hexec hb hdg ht (fun h => kt (ob_bi0.mp h)) (fun h => kf (by cases b with | true => rfl | false => exact absurd rfl h))
theorem ob_if_ne (hexec : p.tables.exec = Jvm.exec) (hb : c.code = cc) {b : Bool} {off : Int} {tgt : Nat} (hdg : decode cc pc = .ok (.ifCond .ne off, 3)) (ht : (pc : Int) + off = (tgt : Int))
    (kt : b = true → W p l e R s m args below meth c H locs cells slots Q (F0 m tgt ls rest)) (kf : b = false → W p l e R s m args below meth c H locs cells slots Q (F0 m (pc + 3) ls rest)) : W p l e R s m args below meth c H locs cells slots Q (F0 m pc ls (.int (ob_bi b) :: rest)) :=
  lv_if_ne hexec hb hdg ht (fun h => kt (by cases b with | true => rfl | false => exact absurd rfl h)) (fun h => kf (ob_bi0.mp h))
theorem ob_bcmp_eq (hexec : p.tables.exec = Jvm.exec) (hb : c.code = cc) {b : Bool} {off : Int} {tgt : Nat} (hdg : decode cc pc = .ok (.if_icmp .eq off, 3)) (ht : (pc : Int) + off = (tgt : Int))
    (kt : b = true → W p l e R s m args below meth c H locs cells slots Q (F0 m tgt ls rest)) (kf : b = false → W p l e R s m args below meth c H locs cells slots Q (F0 m (pc + 3) ls rest)) : W p l e R s m args below meth c H locs cells slots Q (F0 m pc ls (.int (nI 1) :: .int (ob_bi b) :: rest)) :=
  lv_icmp_eq hexec hb hdg ht (fun h => kt (by cases b with | true => rfl | false => exact absurd h (by decide))) (fun h => kf (by cases b with | true => exact absurd rfl h | false => rfl))
theorem ob_bcmp_ne (hexec : p.tables.exec = Jvm.exec) (hb : c.code = cc) {b : Bool} {off : Int} {tgt : Nat} (hdg : decode cc pc = .ok (.if_icmp .ne off, 3)) (ht : (pc : Int) + off = (tgt : Int))
    (kt : b = false → W p l e R s m args below meth c H locs cells slots Q (F0 m tgt ls rest)) (kf : b = true → W p l e R s m args below meth c H locs cells slots Q (F0 m (pc + 3) ls rest)) : W p l e R s m args below meth c H locs cells slots Q (F0 m pc ls (.int (nI 1) :: .int (ob_bi b) :: rest)) :=
  lv_icmp_ne hexec hb hdg ht (fun h => kt (by cases b with | true => exact absurd rfl h | false => rfl)) (fun h => kf (by cases b with | true => rfl | false => exact absurd h (by decide)))
theorem ob_icmp_ge (hexec : p.tables.exec = Jvm.exec) (hb : c.code = cc) {x y : Nat} (hx : x ≤ 1073741824) (hy : y ≤ 1073741824) {off : Int} {tgt : Nat} (hdg : decode cc pc = .ok (.if_icmp .ge off, 3)) (ht : (pc : Int) + off = (tgt : Int))
    (kt : y ≤ x → W p l e R s m args below meth c H locs cells slots Q (F0 m tgt ls rest)) (kf : x < y → W p l e R s m args below meth c H locs cells slots Q (F0 m (pc + 3) ls rest)) : W p l e R s m args below meth c H locs cells slots Q (F0 m pc ls (.int (nI y) :: .int (nI x) :: rest)) :=
  lv_icmp_ge hexec hb hdg ht (fun h => kt ((nI_leI (ob_nlt hy) (ob_nlt hx)).mp h)) (fun h => kf (Nat.not_le.mp (fun q => h ((nI_leI (ob_nlt hy) (ob_nlt hx)).mpr q))))
theorem ob_icmp_gt (hexec : p.tables.exec = Jvm.exec) (hb : c.code = cc) {x y : Nat} (hx : x ≤ 1073741824) (hy : y ≤ 1073741824) {off : Int} {tgt : Nat} (hdg : decode cc pc = .ok (.if_icmp .gt off, 3)) (ht : (pc : Int) + off = (tgt : Int))
    (kt : y < x → W p l e R s m args below meth c H locs cells slots Q (F0 m tgt ls rest)) (kf : x ≤ y → W p l e R s m args below meth c H locs cells slots Q (F0 m (pc + 3) ls rest)) : W p l e R s m args below meth c H locs cells slots Q (F0 m pc ls (.int (nI y) :: .int (nI x) :: rest)) :=
  lv_icmp_gt hexec hb hdg ht (fun h => kt ((nI_ltI (ob_nlt hy) (ob_nlt hx)).mp h)) (fun h => kf (Nat.not_lt.mp (fun q => h ((nI_ltI (ob_nlt hy) (ob_nlt hx)).mpr q))))
theorem ob_icmp_lt (hexec : p.tables.exec = Jvm.exec) (hb : c.code = cc) {x y : Nat} (hx : x ≤ 1073741824) (hy : y ≤ 1073741824) {off : Int} {tgt : Nat} (hdg : decode cc pc = .ok (.if_icmp .lt off, 3)) (ht : (pc : Int) + off = (tgt : Int))
    (kt : x < y → W p l e R s m args below meth c H locs cells slots Q (F0 m tgt ls rest)) (kf : y ≤ x → W p l e R s m args below meth c H locs cells slots Q (F0 m (pc + 3) ls rest)) : W p l e R s m args below meth c H locs cells slots Q (F0 m pc ls (.int (nI y) :: .int (nI x) :: rest)) :=
  lv_icmp_lt hexec hb hdg ht (fun h => kt ((nI_ltI (ob_nlt hx) (ob_nlt hy)).mp h)) (fun h => kf (Nat.not_lt.mp (fun q => h ((nI_ltI (ob_nlt hx) (ob_nlt hy)).mpr q))))
theorem ob_icmp_le (hexec : p.tables.exec = Jvm.exec) (hb : c.code = cc) {x y : Nat} (hx : x ≤ 1073741824) (hy : y ≤ 1073741824) {off : Int} {tgt : Nat} (hdg : decode cc pc = .ok (.if_icmp .le off, 3)) (ht : (pc : Int) + off = (tgt : Int))
    (kt : x ≤ y → W p l e R s m args below meth c H locs cells slots Q (F0 m tgt ls rest)) (kf : y < x → W p l e R s m args below meth c H locs cells slots Q (F0 m (pc + 3) ls rest)) : W p l e R s m args below meth c H locs cells slots Q (F0 m pc ls (.int (nI y) :: .int (nI x) :: rest)) :=
  lv_icmp_le hexec hb hdg ht (fun h => kt ((nI_leI (ob_nlt hx) (ob_nlt hy)).mp h)) (fun h => kf (Nat.not_le.mp (fun q => h ((nI_leI (ob_nlt hx) (ob_nlt hy)).mpr q))))
theorem ob_icmp_eq (hexec : p.tables.exec = Jvm.exec) (hb : c.code = cc) {x y : Nat} (hx : x ≤ 1073741824) (hy : y ≤ 1073741824) {off : Int} {tgt : Nat} (hdg : decode cc pc = .ok (.if_icmp .eq off, 3)) (ht : (pc : Int) + off = (tgt : Int))
    (kt : x = y → W p l e R s m args below meth c H locs cells slots Q (F0 m tgt ls rest)) (kf : ¬ x = y → W p l e R s m args below meth c H locs cells slots Q (F0 m (pc + 3) ls rest)) : W p l e R s m args below meth c H locs cells slots Q (F0 m pc ls (.int (nI y) :: .int (nI x) :: rest)) :=
  lv_icmp_eq hexec hb hdg ht (fun h => kt ((nI_eq (ob_nlt hx) (ob_nlt hy)).mp h)) (fun h => kf (fun q => h ((nI_eq (ob_nlt hx) (ob_nlt hy)).mpr q)))
theorem ob_icmp_ne (hexec : p.tables.exec = Jvm.exec) (hb : c.code = cc) {x y : Nat} (hx : x ≤ 1073741824) (hy : y ≤ 1073741824) {off : Int} {tgt : Nat} (hdg : decode cc pc = .ok (.if_icmp .ne off, 3)) (ht : (pc : Int) + off = (tgt : Int))
    (kt : ¬ x = y → W p l e R s m args below meth c H locs cells slots Q (F0 m tgt ls rest)) (kf : x = y → W p l e R s m args below meth c H locs cells slots Q (F0 m (pc + 3) ls rest)) : W p l e R s m args below meth c H locs cells slots Q (F0 m pc ls (.int (nI y) :: .int (nI x) :: rest)) :=
  lv_icmp_ne hexec hb hdg ht (fun h => kt (fun q => h ((nI_eq (ob_nlt hx) (ob_nlt hy)).mpr q))) (fun h => kf ((nI_eq (ob_nlt hx) (ob_nlt hy)).mp h))
theorem ob_inc (hexec : p.tables.exec = Jvm.exec) (hb : c.code = cc) {i nL k x : Nat} {lv lv' : List (Nat × Value)} (hdg : decode cc pc = .ok (.iinc i 1, 3)) (h : lv_has ls nL lv) (hk : lv[k]? = some (i, .int (nI x))) (hn : i < nL) (hl : (i, Value.int (nI (x + 1))) :: lv.filter (fun q => !(q.1 == i) && !(q.1 + 1 == i && q.2.category == 2)) = lv')
    (kk : ∀ ls' : Array Slot, lv_has ls' nL lv' → W p l e R s m args below meth c H locs cells slots Q (F0 m (pc + 3) ls' rest)) : W p l e R s m args below meth c H locs cells slots Q (F0 m pc ls rest) :=
  lv_iinc hexec hb hdg h hk (nI_1 x) hn hl kk
theorem ob_iald (hexec : p.tables.exec = Jvm.exec) (hb : c.code = cc) (hK : va_K D cl tys s) (hP : va_P D cl ws H) (q0 t0 : Nat) {cA : ClassId} {n : Nat} {f : Nat → Int32} (ha : ws[q0]? = some (a, .inl (cA, n, .inl f))) (ht : tys[t0]? = some (cA, .int)) {k : Nat} (hkn : k < n) (hn : n ≤ 1073741824) (hdg : decode cc pc = .ok (.iaload, 1))
    (kk : W p l e R s m args below meth c H locs cells slots Q (F0 m (pc + 1) ls (.int (f k) :: rest))) : W p l e R s m args below meth c H locs cells slots Q (F0 m pc ls (.int (nI k) :: .ref a :: rest)) :=
  va_iald hexec hb hK hP q0 t0 ha ht (vp_in_nI hkn (ob_nlt hn)) hdg (by rw [nI_clamp (Nat.lt_trans hkn (ob_nlt hn))]; exact kk)
theorem ob_zald (hexec : p.tables.exec = Jvm.exec) (hb : c.code = cc) (hK : va_K D cl tys s) (hP : va_P D cl ws H) (q0 t0 : Nat) {cA : ClassId} {n : Nat} {f : Nat → Int32} (ha : ws[q0]? = some (a, .inl (cA, n, .inl f))) (ht : tys[t0]? = some (cA, .boolean)) {k : Nat} (hkn : k < n) (hn : n ≤ 1073741824) (hdg : decode cc pc = .ok (.baload, 1))
    (kk : W p l e R s m args below meth c H locs cells slots Q (F0 m (pc + 1) ls (.int (f k) :: rest))) : W p l e R s m args below meth c H locs cells slots Q (F0 m pc ls (.int (nI k) :: .ref a :: rest)) :=
  va_zald hexec hb hK hP q0 t0 ha ht (vp_in_nI hkn (ob_nlt hn)) hdg (by rw [nI_clamp (Nat.lt_trans hkn (ob_nlt hn))]; exact kk)
theorem ob_lald (hexec : p.tables.exec = Jvm.exec) (hb : c.code = cc) (hK : va_K D cl tys s) (hP : va_P D cl ws H) (q0 t0 : Nat) {cA : ClassId} {n : Nat} {f : Nat → Int64} (ha : ws[q0]? = some (a, .inl (cA, n, .inr (.inl f)))) (ht : tys[t0]? = some (cA, .long)) {k : Nat} (hkn : k < n) (hn : n ≤ 1073741824) (hdg : decode cc pc = .ok (.laload, 1))
    (kk : W p l e R s m args below meth c H locs cells slots Q (F0 m (pc + 1) ls (.long (f k) :: rest))) : W p l e R s m args below meth c H locs cells slots Q (F0 m pc ls (.int (nI k) :: .ref a :: rest)) :=
  va_lald hexec hb hK hP q0 t0 ha ht (vp_in_nI hkn (ob_nlt hn)) hdg (by rw [nI_clamp (Nat.lt_trans hkn (ob_nlt hn))]; exact kk)
theorem ob_iast (hexec : p.tables.exec = Jvm.exec) (hb : c.code = cc) (hK : va_K D cl tys s) (hP : va_P D cl ws H) (hD : va_D A ws) (hS : va_S A H0 H locs) (q0 t0 : Nat) {cA : ClassId} {n : Nat} {f : Nat → Int32} (ha : ws[q0]? = some (a, .inl (cA, n, .inl f))) (ht : tys[t0]? = some (cA, .int)) {k : Nat} {x : Int32} (hkn : k < n) (hn : n ≤ 1073741824) (hdg : decode cc pc = .ok (.iastore, 1))
    (kk : ∀ (H1 : Heap) (locs1 : List Loc), va_P D cl (ws.set q0 (a, .inl (cA, n, .inl (upd f k x)))) H1 → va_D A (ws.set q0 (a, .inl (cA, n, .inl (upd f k x)))) → va_S A H0 H1 locs1 → W p l e R s m args below meth c H1 locs1 cells slots Q (F0 m (pc + 1) ls rest)) : W p l e R s m args below meth c H locs cells slots Q (F0 m pc ls (.int x :: .int (nI k) :: .ref a :: rest)) :=
  va_iast hexec hb hK hP hD hS q0 t0 ha ht (vp_in_nI hkn (ob_nlt hn)) hdg (by rw [nI_clamp (Nat.lt_trans hkn (ob_nlt hn))]; exact kk)
theorem ob_zast (hexec : p.tables.exec = Jvm.exec) (hb : c.code = cc) (hK : va_K D cl tys s) (hP : va_P D cl ws H) (hD : va_D A ws) (hS : va_S A H0 H locs) (q0 t0 : Nat) {cA : ClassId} {n : Nat} {f : Nat → Int32} (ha : ws[q0]? = some (a, .inl (cA, n, .inl f))) (ht : tys[t0]? = some (cA, .boolean)) {k : Nat} {b : Bool} (hkn : k < n) (hn : n ≤ 1073741824) (hdg : decode cc pc = .ok (.bastore, 1))
    (kk : ∀ (H1 : Heap) (locs1 : List Loc), va_P D cl (ws.set q0 (a, .inl (cA, n, .inl (upd f k (ob_bi b))))) H1 → va_D A (ws.set q0 (a, .inl (cA, n, .inl (upd f k (ob_bi b))))) → va_S A H0 H1 locs1 → W p l e R s m args below meth c H1 locs1 cells slots Q (F0 m (pc + 1) ls rest)) : W p l e R s m args below meth c H locs cells slots Q (F0 m pc ls (.int (ob_bi b) :: .int (nI k) :: .ref a :: rest)) :=
  va_zast hexec hb hK hP hD hS q0 t0 ha ht (vp_in_nI hkn (ob_nlt hn)) hdg (by rw [nI_clamp (Nat.lt_trans hkn (ob_nlt hn)), ob_vnarZ]; exact kk)
theorem ob_last (hexec : p.tables.exec = Jvm.exec) (hb : c.code = cc) (hK : va_K D cl tys s) (hP : va_P D cl ws H) (hD : va_D A ws) (hS : va_S A H0 H locs) (q0 t0 : Nat) {cA : ClassId} {n : Nat} {f : Nat → Int64} (ha : ws[q0]? = some (a, .inl (cA, n, .inr (.inl f)))) (ht : tys[t0]? = some (cA, .long)) {k : Nat} {x : Int64} (hkn : k < n) (hn : n ≤ 1073741824) (hdg : decode cc pc = .ok (.lastore, 1))
    (kk : ∀ (H1 : Heap) (locs1 : List Loc), va_P D cl (ws.set q0 (a, .inl (cA, n, .inr (.inl (vp_updL f k x))))) H1 → va_D A (ws.set q0 (a, .inl (cA, n, .inr (.inl (vp_updL f k x))))) → va_S A H0 H1 locs1 → W p l e R s m args below meth c H1 locs1 cells slots Q (F0 m (pc + 1) ls rest)) : W p l e R s m args below meth c H locs cells slots Q (F0 m pc ls (.long x :: .int (nI k) :: .ref a :: rest)) :=
  va_last hexec hb hK hP hD hS q0 t0 ha ht (vp_in_nI hkn (ob_nlt hn)) hdg (by rw [nI_clamp (Nat.lt_trans hkn (ob_nlt hn))]; exact kk)
/-- a row of an array of arrays -/
theorem ob_aald (hexec : p.tables.exec = Jvm.exec) (hb : c.code = cc) (hK : va_K D cl tys s) (hP : va_P D cl ws H) (q0 t0 : Nat) {cA : ClassId} {n : Nat} {f : Nat → Option Nat} (ha : ws[q0]? = some (a, .inl (cA, n, .inr (.inr (.inr (.inr f)))))) {ty : FieldType} (ht : tys[t0]? = some (cA, ty)) (hty : ty.isReference = true) {k r : Nat} (hkn : k < n) (hn : n ≤ 1073741824) (hr : f k = some r) (hdg : decode cc pc = .ok (.aaload, 1))
    (kk : W p l e R s m args below meth c H locs cells slots Q (F0 m (pc + 1) ls (.ref r :: rest))) : W p l e R s m args below meth c H locs cells slots Q (F0 m pc ls (.int (nI k) :: .ref a :: rest)) := by
  have hsz : (vp_cell cA (n, .inr (.inr (.inr (.inr f))))).slots.size = n := by rw [vp_cell_q, arrV_size]
  have hk2 : (nI k).toNatClampNeg = k := nI_clamp (Nat.lt_trans hkn (ob_nlt hn))
  exact W.aald (v := .ref r) hexec hb (hP q0 _ ha) ((hK.2 t0 _ ht).1 n (fun j => va_rf (f j))) hty (by rw [vp_cell_q]; exact fun h => by cases h) (by rw [hsz]; exact vp_in_nI hkn (ob_nlt hn)) (by rw [hk2, vp_cell_q, arrV_read _ _ hkn]; show some (va_rf (f k)) = _; rw [hr]; rfl) rfl rfl hdg kk
end OBW
