/-- two names of one array class are one -/
theorem ob_ce {D : va_G} {cl : List vw_C} {tys : List (ClassId × FieldType)} {s : State} {c1 c2 : ClassId} {ty : FieldType} (hK : va_K D cl tys s) (i j : Nat) (h1 : tys[i]? = some (c1, ty)) (h2 : tys[j]? = some (c2, ty)) (hr : ∀ C, ty ≠ .object C) : c1 = c2 := by
  have a := (hK.2 i _ h1).2
  have b := (hK.2 j _ h2).2
  cases ty with
  | object C => exact absurd rfl (hr C)
  | _ => exact Option.some.inj (Eq.trans (Eq.symm a) b)
theorem va_AOA.moved {t : FieldType} {u U : State} (hvm : u.vm.Alike U.vm) (h : va_AOA t u) : va_AOA t U := by
  have h2 : (Cond.arrayOver (.array t)).before #[] (u.setVm U.vm) = true := by rw [Cond.arrayOver_setVmC hvm]; exact h
  exact h2
/-- the start of a constructor -/
def ob_Pk (D : va_G) (t : Nat → ClassId) (ws : va_W) (sz : Nat) (av : List Value) : Array Value → State → Prop := va_Pc av (fun U => U.heap.size = sz ∧ va_P D vwCl ws U.heap ∧ ob_kx D t U ∧ va_D (fun _ => True) ws ∧ va_AOA .int U)
theorem ob_pkS {D : va_G} {t : Nat → ClassId} {ws : va_W} {A : Nat → Prop} {H : Heap} {s : State} {av : List Value} (hP : va_P D vwCl ws H) (hD : va_D A ws) (hk : ob_kx D t s) (hO : va_AOA .int s) : PreS s H (ob_Pk D t ws H.size av) av :=
  ⟨fun a U g mk q => ⟨q.1, q.2.1, q.2.2.1, q.2.2.2.1.call, q.2.2.2.2.1, va_AOA.moved (u := U) (U := U.calling g mk a) (Vm.Alike.refl U.vm) q.2.2.2.2.2⟩, fun U hU hW => ⟨rfl, by rw [hU], by rw [hU]; exact hP, hk.warm hW, hD.weaken (fun _ _ _ _ => trivial), va_AOA.moved hW.alike hO⟩⟩
def ob_ad (l : List Nat) : Nat → Nat := fun k => l.getD k 0
def ob_iI (i : Nat) (M : Nat → Nat → Int32) : Nat → Nat → Nat → Int32
  | 0 => M
  | j + 1 => ob_up2 (ob_iI i M j) i j (if i = j then nI 0 else 1000000)
def ob_iO (M : Nat → Nat → Int32) : Nat → Nat → Nat → Int32
  | 0 => M
  | i + 1 => ob_iI i (ob_iO M i) 5
def ob_bd0 (k : Nat) : Int32 := if nI (k % 6) = 0 then nI 0 else 1000000
def ob_adg (h q : Nat) (r : Nat → Nat) : Nat → Nat
  | 0 => h
  | 1 => q
  | k + 2 => r k
theorem ob_adg_2 (h q : Nat) (r : Nat → Nat) (i : Nat) : ob_adg h q r (2 + i) = r i := by rw [Nat.add_comm]; rfl
theorem ob_adg_f (h q : Nat) (r : Nat → Nat) (n : Nat) : (fun i => if i < n then some (ob_adg h q r (2 + i)) else none) = (fun i => if i < n then some (r i) else none) := funext fun i => by rw [ob_adg_2]
set_option maxRecDepth 100000 in
set_option maxHeartbeats 8000000 in
theorem c_X1_init (l : Launch) (D : va_G) (t : Nat → ClassId) (sz h0 : Nat) : Met l yX1_init wsX1_init ({ frames := 1, cells := 8, slots := 4306, locals := 12 } : Room) (ob_Pk D t ([(h0, .inr (1, [.null, .null, .null, .null, .null, .null, .null, .null, .int 0]))]) sz [.ref h0]) (va_Qv (fun _ : Unit => True) (fun (_ : Unit) (t9 : State) => ∃ al : Nat → Nat, al 0 = h0 ∧ va_P D vwCl (ob_wL t al 0 (fun _ => 0) (fun _ => 0) (fun _ => 0) (fun _ => 0) (fun _ => 0) (fun _ => 0) (fun _ => 0) (fun _ => 0)) t9.heap ∧ va_D (va_A ([(h0, .inr (1, [.null, .null, .null, .null, .null, .null, .null, .null, .int 0]))]) sz) (ob_wL t al 0 (fun _ => 0) (fun _ => 0) (fun _ => 0) (fun _ => 0) (fun _ => 0) (fun _ => 0) (fun _ => 0) (fun _ => 0))) (va_A ([(h0, .inr (1, [.null, .null, .null, .null, .null, .null, .null, .null, .int 0]))]) sz)) 8 4306 (va_A ([(h0, .inr (1, [.null, .null, .null, .null, .null, .null, .null, .null, .int 0]))]) sz) := by
  refine Met.ofW (cc := cX1_init) (maxL := 1) (ret := none) (by decide) rfl ?_
  intro p e s m args below meth c s₁ B hml hv
  obtain ⟨rfl, hsz, hP, hk, hD0, hO⟩ := hv
  have hx := B.exec
  have hb := B.bytes
  have hr := B.returns
  have hts := atoms_spec (ws := wsX1_init) B.pre
  have hown : s.vm.findClass RX1 = some m.cls := findClass_of_methodNamed B.named
  have hlocks := B.notSynchronized
  have hin : meth.name = "<init>" := (name_of_methodNamed B.named B.method).1
  have hK := hk.1
  have hD : va_D (va_A ([(h0, .inr (1, [.null, .null, .null, .null, .null, .null, .null, .null, .int 0]))]) sz) ([(h0, .inr (1, [.null, .null, .null, .null, .null, .null, .null, .null, .int 0]))]) := hD0.self (sz := sz)
  have hA : ∀ q : Nat, s.heap.size ≤ q → (va_A ([(h0, .inr (1, [.null, .null, .null, .null, .null, .null, .null, .null, .int 0]))]) sz) q := fun q h => Or.inr (hsz ▸ h)
  have hS : va_S (va_A ([(h0, .inr (1, [.null, .null, .null, .null, .null, .null, .null, .null, .int 0]))]) sz) s.heap s.heap [] := va_S.rf
  have hl := lv_entry [.ref h0] (n := 1) (Nat.le_of_ble_eq_true rfl)
  rw [lg_entry_eq]
  generalize (lg_sl [.ref h0] ++ List.replicate (1 - (lg_sl [.ref h0]).length) Slot.unset).toArray = ls at hl ⊢
  have hl : lv_has ls 1 [(0, .ref h0)] := hl
  have hP : va_P D vwCl [(h0, .inr (1, [.null, .null, .null, .null, .null, .null, .null, .null, .int 0]))] s.heap := hP
  refine lv_aload_n hx hb dX1_init_0 rfl (lv_at hl 0 rfl) ?_
  refine W.objInit hx hb hown (hts (Cond.methodLink RX1 3 objectInit) (List.mem_of_getElem? (i := 1) rfl)) (hts (Cond.instanceMethod objectInit) (List.mem_of_getElem? (i := 2) rfl)) (hts (Cond.code objectInit ⟨#[0xb1]⟩ 1 none) (List.mem_of_getElem? (i := 3) rfl)) rfl (by rw [hml]; exact hl.1) rfl dX1_init_1 (Nat.le_of_ble_eq_true rfl) (Nat.le_of_ble_eq_true rfl) ?_
  refine W.eq (g2 := F0 m 4 ls []) rfl ?_
  refine lv_aload_n hx hb dX1_init_4 rfl (lv_at hl 0 rfl) ?_
  refine lv_bipush (v := nI 30) hx hb dX1_init_5 (by decide) ?_
  refine va_newa (atype := .int) (ty := .int) (N' := 30) (a0 := (30, .inl (fun _ => 0))) hx hb (hts (Cond.arrayClass .int) (List.mem_of_getElem? (i := 4) rfl)) rfl hK hP hD hS hA (fun _ => rfl) (by decide) (by decide) (by decide) (Nat.le_of_ble_eq_true rfl) (Nat.le_of_ble_eq_true rfl) dX1_init_7 (fun q7 cA H hK9 hP hD hS => ?_)
  obtain rfl : t 0 = cA := ob_ce hK9 0 4 rfl rfl (fun _ h => by cases h)
  refine W.widen (k := 1) (n := 30) (Nat.le_of_ble_eq_true rfl) (Nat.le_of_ble_eq_true rfl) ?_
  have hP : va_P D vwCl ([(h0, .inr (1, [.null, .null, .null, .null, .null, .null, .null, .null, .int 0])), (q7, .inl (t 0, 30, .inl (fun _ => 0)))]) H := hP
  have hD : va_D (va_A ([(h0, .inr (1, [.null, .null, .null, .null, .null, .null, .null, .null, .int 0]))]) sz) ([(h0, .inr (1, [.null, .null, .null, .null, .null, .null, .null, .null, .int 0])), (q7, .inl (t 0, 30, .inl (fun _ => 0)))]) := hD
  refine va_putF (ci := 1) (v := .ref q7) (ty := .array .int) (C := RX1) (T := TX1) (N := 9) hx hb hts (fun w h => List.mem_cons_of_mem _ (List.mem_append_right _ (h))) tyX1 tyX1_ok nmX1 hown hK hP hD hS 0 rfl rfl 0 (by decide) (hts (Cond.fieldLink RX1 9 "OutageBook$Log" "clocks" "[I") (List.mem_of_getElem? (i := 5) rfl)) (fun _ h9 => h9) rfl hin rfl (by decide +kernel) rfl rfl (Nat.le_of_ble_eq_true rfl) dX1_init_9 (fun H locs hP hD hS => ?_)
  have hP : va_P D vwCl ([(h0, .inr (1, [.ref q7, .null, .null, .null, .null, .null, .null, .null, .int 0])), (q7, .inl (t 0, 30, .inl (fun _ => 0)))]) H := hP
  have hD : va_D (va_A ([(h0, .inr (1, [.null, .null, .null, .null, .null, .null, .null, .null, .int 0]))]) sz) ([(h0, .inr (1, [.ref q7, .null, .null, .null, .null, .null, .null, .null, .int 0])), (q7, .inl (t 0, 30, .inl (fun _ => 0)))]) := hD
  refine lv_aload_n hx hb dX1_init_12 rfl (lv_at hl 0 rfl) ?_
  refine lv_bipush (v := nI 30) hx hb dX1_init_13 (by decide) ?_
  refine va_newa (atype := .int) (ty := .int) (N' := 30) (a0 := (30, .inl (fun _ => 0))) hx hb (hts (Cond.arrayClass .int) (List.mem_of_getElem? (i := 4) rfl)) rfl hK hP hD hS hA (fun _ => rfl) (by decide) (by decide) (by decide) (Nat.le_of_ble_eq_true rfl) (Nat.le_of_ble_eq_true rfl) dX1_init_15 (fun q15 cA H hK9 hP hD hS => ?_)
  obtain rfl : t 0 = cA := ob_ce hK9 0 4 rfl rfl (fun _ h => by cases h)
  refine W.widen (k := 2) (n := 60) (Nat.le_of_ble_eq_true rfl) (Nat.le_of_ble_eq_true rfl) ?_
  have hP : va_P D vwCl ([(h0, .inr (1, [.ref q7, .null, .null, .null, .null, .null, .null, .null, .int 0])), (q7, .inl (t 0, 30, .inl (fun _ => 0))), (q15, .inl (t 0, 30, .inl (fun _ => 0)))]) H := hP
  have hD : va_D (va_A ([(h0, .inr (1, [.null, .null, .null, .null, .null, .null, .null, .null, .int 0]))]) sz) ([(h0, .inr (1, [.ref q7, .null, .null, .null, .null, .null, .null, .null, .int 0])), (q7, .inl (t 0, 30, .inl (fun _ => 0))), (q15, .inl (t 0, 30, .inl (fun _ => 0)))]) := hD
  refine va_putF (ci := 1) (v := .ref q15) (ty := .array .int) (C := RX1) (T := TX1) (N := 9) hx hb hts (fun w h => List.mem_cons_of_mem _ (List.mem_append_right _ (h))) tyX1 tyX1_ok nmX1 hown hK hP hD hS 0 rfl rfl 1 (by decide) (hts (Cond.fieldLink RX1 15 "OutageBook$Log" "readings" "[I") (List.mem_of_getElem? (i := 6) rfl)) (fun _ h9 => h9) rfl hin rfl (by decide +kernel) rfl rfl (Nat.le_of_ble_eq_true rfl) dX1_init_17 (fun H locs hP hD hS => ?_)
  have hP : va_P D vwCl ([(h0, .inr (1, [.ref q7, .ref q15, .null, .null, .null, .null, .null, .null, .int 0])), (q7, .inl (t 0, 30, .inl (fun _ => 0))), (q15, .inl (t 0, 30, .inl (fun _ => 0)))]) H := hP
  have hD : va_D (va_A ([(h0, .inr (1, [.null, .null, .null, .null, .null, .null, .null, .null, .int 0]))]) sz) ([(h0, .inr (1, [.ref q7, .ref q15, .null, .null, .null, .null, .null, .null, .int 0])), (q7, .inl (t 0, 30, .inl (fun _ => 0))), (q15, .inl (t 0, 30, .inl (fun _ => 0)))]) := hD
  refine lv_aload_n hx hb dX1_init_20 rfl (lv_at hl 0 rfl) ?_
  refine lv_bipush (v := nI 30) hx hb dX1_init_21 (by decide) ?_
  refine va_newa (atype := .int) (ty := .int) (N' := 30) (a0 := (30, .inl (fun _ => 0))) hx hb (hts (Cond.arrayClass .int) (List.mem_of_getElem? (i := 4) rfl)) rfl hK hP hD hS hA (fun _ => rfl) (by decide) (by decide) (by decide) (Nat.le_of_ble_eq_true rfl) (Nat.le_of_ble_eq_true rfl) dX1_init_23 (fun q23 cA H hK9 hP hD hS => ?_)
  obtain rfl : t 0 = cA := ob_ce hK9 0 4 rfl rfl (fun _ h => by cases h)
  refine W.widen (k := 3) (n := 90) (Nat.le_of_ble_eq_true rfl) (Nat.le_of_ble_eq_true rfl) ?_
  have hP : va_P D vwCl ([(h0, .inr (1, [.ref q7, .ref q15, .null, .null, .null, .null, .null, .null, .int 0])), (q7, .inl (t 0, 30, .inl (fun _ => 0))), (q15, .inl (t 0, 30, .inl (fun _ => 0))), (q23, .inl (t 0, 30, .inl (fun _ => 0)))]) H := hP
  have hD : va_D (va_A ([(h0, .inr (1, [.null, .null, .null, .null, .null, .null, .null, .null, .int 0]))]) sz) ([(h0, .inr (1, [.ref q7, .ref q15, .null, .null, .null, .null, .null, .null, .int 0])), (q7, .inl (t 0, 30, .inl (fun _ => 0))), (q15, .inl (t 0, 30, .inl (fun _ => 0))), (q23, .inl (t 0, 30, .inl (fun _ => 0)))]) := hD
  refine va_putF (ci := 1) (v := .ref q23) (ty := .array .int) (C := RX1) (T := TX1) (N := 9) hx hb hts (fun w h => List.mem_cons_of_mem _ (List.mem_append_right _ (h))) tyX1 tyX1_ok nmX1 hown hK hP hD hS 0 rfl rfl 2 (by decide) (hts (Cond.fieldLink RX1 18 "OutageBook$Log" "services" "[I") (List.mem_of_getElem? (i := 7) rfl)) (fun _ h9 => h9) rfl hin rfl (by decide +kernel) rfl rfl (Nat.le_of_ble_eq_true rfl) dX1_init_25 (fun H locs hP hD hS => ?_)
  have hP : va_P D vwCl ([(h0, .inr (1, [.ref q7, .ref q15, .ref q23, .null, .null, .null, .null, .null, .int 0])), (q7, .inl (t 0, 30, .inl (fun _ => 0))), (q15, .inl (t 0, 30, .inl (fun _ => 0))), (q23, .inl (t 0, 30, .inl (fun _ => 0)))]) H := hP
  have hD : va_D (va_A ([(h0, .inr (1, [.null, .null, .null, .null, .null, .null, .null, .null, .int 0]))]) sz) ([(h0, .inr (1, [.ref q7, .ref q15, .ref q23, .null, .null, .null, .null, .null, .int 0])), (q7, .inl (t 0, 30, .inl (fun _ => 0))), (q15, .inl (t 0, 30, .inl (fun _ => 0))), (q23, .inl (t 0, 30, .inl (fun _ => 0)))]) := hD
  refine lv_aload_n hx hb dX1_init_28 rfl (lv_at hl 0 rfl) ?_
  refine lv_bipush (v := nI 30) hx hb dX1_init_29 (by decide) ?_
  refine va_newa (atype := .boolean) (ty := .boolean) (N' := 30) (a0 := (30, .inl (fun _ => 0))) hx hb (hts (Cond.arrayClass .boolean) (List.mem_of_getElem? (i := 8) rfl)) rfl hK hP hD hS hA (fun _ => rfl) (by decide) (by decide) (by decide) (Nat.le_of_ble_eq_true rfl) (Nat.le_of_ble_eq_true rfl) dX1_init_31 (fun q31 cA H hK9 hP hD hS => ?_)
  obtain rfl : t 2 = cA := ob_ce hK9 2 4 rfl rfl (fun _ h => by cases h)
  refine W.widen (k := 4) (n := 120) (Nat.le_of_ble_eq_true rfl) (Nat.le_of_ble_eq_true rfl) ?_
  have hP : va_P D vwCl ([(h0, .inr (1, [.ref q7, .ref q15, .ref q23, .null, .null, .null, .null, .null, .int 0])), (q7, .inl (t 0, 30, .inl (fun _ => 0))), (q15, .inl (t 0, 30, .inl (fun _ => 0))), (q23, .inl (t 0, 30, .inl (fun _ => 0))), (q31, .inl (t 2, 30, .inl (fun _ => 0)))]) H := hP
  have hD : va_D (va_A ([(h0, .inr (1, [.null, .null, .null, .null, .null, .null, .null, .null, .int 0]))]) sz) ([(h0, .inr (1, [.ref q7, .ref q15, .ref q23, .null, .null, .null, .null, .null, .int 0])), (q7, .inl (t 0, 30, .inl (fun _ => 0))), (q15, .inl (t 0, 30, .inl (fun _ => 0))), (q23, .inl (t 0, 30, .inl (fun _ => 0))), (q31, .inl (t 2, 30, .inl (fun _ => 0)))]) := hD
  refine va_putF (ci := 1) (v := .ref q31) (ty := .array .boolean) (C := RX1) (T := TX1) (N := 9) hx hb hts (fun w h => List.mem_cons_of_mem _ (List.mem_append_right _ (h))) tyX1 tyX1_ok nmX1 hown hK hP hD hS 0 rfl rfl 3 (by decide) (hts (Cond.fieldLink RX1 21 "OutageBook$Log" "arePublic" "[Z") (List.mem_of_getElem? (i := 9) rfl)) (fun _ h9 => h9) rfl hin rfl (by decide +kernel) rfl rfl (Nat.le_of_ble_eq_true rfl) dX1_init_33 (fun H locs hP hD hS => ?_)
  have hP : va_P D vwCl ([(h0, .inr (1, [.ref q7, .ref q15, .ref q23, .ref q31, .null, .null, .null, .null, .int 0])), (q7, .inl (t 0, 30, .inl (fun _ => 0))), (q15, .inl (t 0, 30, .inl (fun _ => 0))), (q23, .inl (t 0, 30, .inl (fun _ => 0))), (q31, .inl (t 2, 30, .inl (fun _ => 0)))]) H := hP
  have hD : va_D (va_A ([(h0, .inr (1, [.null, .null, .null, .null, .null, .null, .null, .null, .int 0]))]) sz) ([(h0, .inr (1, [.ref q7, .ref q15, .ref q23, .ref q31, .null, .null, .null, .null, .int 0])), (q7, .inl (t 0, 30, .inl (fun _ => 0))), (q15, .inl (t 0, 30, .inl (fun _ => 0))), (q23, .inl (t 0, 30, .inl (fun _ => 0))), (q31, .inl (t 2, 30, .inl (fun _ => 0)))]) := hD
  refine lv_aload_n hx hb dX1_init_36 rfl (lv_at hl 0 rfl) ?_
  refine lv_bipush (v := nI 30) hx hb dX1_init_37 (by decide) ?_
  refine va_newa (atype := .int) (ty := .int) (N' := 30) (a0 := (30, .inl (fun _ => 0))) hx hb (hts (Cond.arrayClass .int) (List.mem_of_getElem? (i := 4) rfl)) rfl hK hP hD hS hA (fun _ => rfl) (by decide) (by decide) (by decide) (Nat.le_of_ble_eq_true rfl) (Nat.le_of_ble_eq_true rfl) dX1_init_39 (fun q39 cA H hK9 hP hD hS => ?_)
  obtain rfl : t 0 = cA := ob_ce hK9 0 4 rfl rfl (fun _ h => by cases h)
  refine W.widen (k := 5) (n := 150) (Nat.le_of_ble_eq_true rfl) (Nat.le_of_ble_eq_true rfl) ?_
  have hP : va_P D vwCl ([(h0, .inr (1, [.ref q7, .ref q15, .ref q23, .ref q31, .null, .null, .null, .null, .int 0])), (q7, .inl (t 0, 30, .inl (fun _ => 0))), (q15, .inl (t 0, 30, .inl (fun _ => 0))), (q23, .inl (t 0, 30, .inl (fun _ => 0))), (q31, .inl (t 2, 30, .inl (fun _ => 0))), (q39, .inl (t 0, 30, .inl (fun _ => 0)))]) H := hP
  have hD : va_D (va_A ([(h0, .inr (1, [.null, .null, .null, .null, .null, .null, .null, .null, .int 0]))]) sz) ([(h0, .inr (1, [.ref q7, .ref q15, .ref q23, .ref q31, .null, .null, .null, .null, .int 0])), (q7, .inl (t 0, 30, .inl (fun _ => 0))), (q15, .inl (t 0, 30, .inl (fun _ => 0))), (q23, .inl (t 0, 30, .inl (fun _ => 0))), (q31, .inl (t 2, 30, .inl (fun _ => 0))), (q39, .inl (t 0, 30, .inl (fun _ => 0)))]) := hD
  refine va_putF (ci := 1) (v := .ref q39) (ty := .array .int) (C := RX1) (T := TX1) (N := 9) hx hb hts (fun w h => List.mem_cons_of_mem _ (List.mem_append_right _ (h))) tyX1 tyX1_ok nmX1 hown hK hP hD hS 0 rfl rfl 4 (by decide) (hts (Cond.fieldLink RX1 25 "OutageBook$Log" "balances" "[I") (List.mem_of_getElem? (i := 10) rfl)) (fun _ h9 => h9) rfl hin rfl (by decide +kernel) rfl rfl (Nat.le_of_ble_eq_true rfl) dX1_init_41 (fun H locs hP hD hS => ?_)
  have hP : va_P D vwCl ([(h0, .inr (1, [.ref q7, .ref q15, .ref q23, .ref q31, .ref q39, .null, .null, .null, .int 0])), (q7, .inl (t 0, 30, .inl (fun _ => 0))), (q15, .inl (t 0, 30, .inl (fun _ => 0))), (q23, .inl (t 0, 30, .inl (fun _ => 0))), (q31, .inl (t 2, 30, .inl (fun _ => 0))), (q39, .inl (t 0, 30, .inl (fun _ => 0)))]) H := hP
  have hD : va_D (va_A ([(h0, .inr (1, [.null, .null, .null, .null, .null, .null, .null, .null, .int 0]))]) sz) ([(h0, .inr (1, [.ref q7, .ref q15, .ref q23, .ref q31, .ref q39, .null, .null, .null, .int 0])), (q7, .inl (t 0, 30, .inl (fun _ => 0))), (q15, .inl (t 0, 30, .inl (fun _ => 0))), (q23, .inl (t 0, 30, .inl (fun _ => 0))), (q31, .inl (t 2, 30, .inl (fun _ => 0))), (q39, .inl (t 0, 30, .inl (fun _ => 0)))]) := hD
  refine lv_aload_n hx hb dX1_init_44 rfl (lv_at hl 0 rfl) ?_
  refine lv_bipush (v := nI 30) hx hb dX1_init_45 (by decide) ?_
  refine va_newa (atype := .int) (ty := .int) (N' := 30) (a0 := (30, .inl (fun _ => 0))) hx hb (hts (Cond.arrayClass .int) (List.mem_of_getElem? (i := 4) rfl)) rfl hK hP hD hS hA (fun _ => rfl) (by decide) (by decide) (by decide) (Nat.le_of_ble_eq_true rfl) (Nat.le_of_ble_eq_true rfl) dX1_init_47 (fun q47 cA H hK9 hP hD hS => ?_)
  obtain rfl : t 0 = cA := ob_ce hK9 0 4 rfl rfl (fun _ h => by cases h)
  refine W.widen (k := 6) (n := 180) (Nat.le_of_ble_eq_true rfl) (Nat.le_of_ble_eq_true rfl) ?_
  have hP : va_P D vwCl ([(h0, .inr (1, [.ref q7, .ref q15, .ref q23, .ref q31, .ref q39, .null, .null, .null, .int 0])), (q7, .inl (t 0, 30, .inl (fun _ => 0))), (q15, .inl (t 0, 30, .inl (fun _ => 0))), (q23, .inl (t 0, 30, .inl (fun _ => 0))), (q31, .inl (t 2, 30, .inl (fun _ => 0))), (q39, .inl (t 0, 30, .inl (fun _ => 0))), (q47, .inl (t 0, 30, .inl (fun _ => 0)))]) H := hP
  have hD : va_D (va_A ([(h0, .inr (1, [.null, .null, .null, .null, .null, .null, .null, .null, .int 0]))]) sz) ([(h0, .inr (1, [.ref q7, .ref q15, .ref q23, .ref q31, .ref q39, .null, .null, .null, .int 0])), (q7, .inl (t 0, 30, .inl (fun _ => 0))), (q15, .inl (t 0, 30, .inl (fun _ => 0))), (q23, .inl (t 0, 30, .inl (fun _ => 0))), (q31, .inl (t 2, 30, .inl (fun _ => 0))), (q39, .inl (t 0, 30, .inl (fun _ => 0))), (q47, .inl (t 0, 30, .inl (fun _ => 0)))]) := hD
  refine va_putF (ci := 1) (v := .ref q47) (ty := .array .int) (C := RX1) (T := TX1) (N := 9) hx hb hts (fun w h => List.mem_cons_of_mem _ (List.mem_append_right _ (h))) tyX1 tyX1_ok nmX1 hown hK hP hD hS 0 rfl rfl 5 (by decide) (hts (Cond.fieldLink RX1 28 "OutageBook$Log" "before" "[I") (List.mem_of_getElem? (i := 11) rfl)) (fun _ h9 => h9) rfl hin rfl (by decide +kernel) rfl rfl (Nat.le_of_ble_eq_true rfl) dX1_init_49 (fun H locs hP hD hS => ?_)
  have hP : va_P D vwCl ([(h0, .inr (1, [.ref q7, .ref q15, .ref q23, .ref q31, .ref q39, .ref q47, .null, .null, .int 0])), (q7, .inl (t 0, 30, .inl (fun _ => 0))), (q15, .inl (t 0, 30, .inl (fun _ => 0))), (q23, .inl (t 0, 30, .inl (fun _ => 0))), (q31, .inl (t 2, 30, .inl (fun _ => 0))), (q39, .inl (t 0, 30, .inl (fun _ => 0))), (q47, .inl (t 0, 30, .inl (fun _ => 0)))]) H := hP
  have hD : va_D (va_A ([(h0, .inr (1, [.null, .null, .null, .null, .null, .null, .null, .null, .int 0]))]) sz) ([(h0, .inr (1, [.ref q7, .ref q15, .ref q23, .ref q31, .ref q39, .ref q47, .null, .null, .int 0])), (q7, .inl (t 0, 30, .inl (fun _ => 0))), (q15, .inl (t 0, 30, .inl (fun _ => 0))), (q23, .inl (t 0, 30, .inl (fun _ => 0))), (q31, .inl (t 2, 30, .inl (fun _ => 0))), (q39, .inl (t 0, 30, .inl (fun _ => 0))), (q47, .inl (t 0, 30, .inl (fun _ => 0)))]) := hD
  refine lv_aload_n hx hb dX1_init_52 rfl (lv_at hl 0 rfl) ?_
  refine lv_bipush (v := nI 30) hx hb dX1_init_53 (by decide) ?_
  refine va_newa (atype := .int) (ty := .int) (N' := 30) (a0 := (30, .inl (fun _ => 0))) hx hb (hts (Cond.arrayClass .int) (List.mem_of_getElem? (i := 4) rfl)) rfl hK hP hD hS hA (fun _ => rfl) (by decide) (by decide) (by decide) (Nat.le_of_ble_eq_true rfl) (Nat.le_of_ble_eq_true rfl) dX1_init_55 (fun q55 cA H hK9 hP hD hS => ?_)
  obtain rfl : t 0 = cA := ob_ce hK9 0 4 rfl rfl (fun _ h => by cases h)
  refine W.widen (k := 7) (n := 210) (Nat.le_of_ble_eq_true rfl) (Nat.le_of_ble_eq_true rfl) ?_
  have hP : va_P D vwCl ([(h0, .inr (1, [.ref q7, .ref q15, .ref q23, .ref q31, .ref q39, .ref q47, .null, .null, .int 0])), (q7, .inl (t 0, 30, .inl (fun _ => 0))), (q15, .inl (t 0, 30, .inl (fun _ => 0))), (q23, .inl (t 0, 30, .inl (fun _ => 0))), (q31, .inl (t 2, 30, .inl (fun _ => 0))), (q39, .inl (t 0, 30, .inl (fun _ => 0))), (q47, .inl (t 0, 30, .inl (fun _ => 0))), (q55, .inl (t 0, 30, .inl (fun _ => 0)))]) H := hP
  have hD : va_D (va_A ([(h0, .inr (1, [.null, .null, .null, .null, .null, .null, .null, .null, .int 0]))]) sz) ([(h0, .inr (1, [.ref q7, .ref q15, .ref q23, .ref q31, .ref q39, .ref q47, .null, .null, .int 0])), (q7, .inl (t 0, 30, .inl (fun _ => 0))), (q15, .inl (t 0, 30, .inl (fun _ => 0))), (q23, .inl (t 0, 30, .inl (fun _ => 0))), (q31, .inl (t 2, 30, .inl (fun _ => 0))), (q39, .inl (t 0, 30, .inl (fun _ => 0))), (q47, .inl (t 0, 30, .inl (fun _ => 0))), (q55, .inl (t 0, 30, .inl (fun _ => 0)))]) := hD
  refine va_putF (ci := 1) (v := .ref q55) (ty := .array .int) (C := RX1) (T := TX1) (N := 9) hx hb hts (fun w h => List.mem_cons_of_mem _ (List.mem_append_right _ (h))) tyX1 tyX1_ok nmX1 hown hK hP hD hS 0 rfl rfl 6 (by decide) (hts (Cond.fieldLink RX1 31 "OutageBook$Log" "order" "[I") (List.mem_of_getElem? (i := 12) rfl)) (fun _ h9 => h9) rfl hin rfl (by decide +kernel) rfl rfl (Nat.le_of_ble_eq_true rfl) dX1_init_57 (fun H locs hP hD hS => ?_)
  have hP : va_P D vwCl ([(h0, .inr (1, [.ref q7, .ref q15, .ref q23, .ref q31, .ref q39, .ref q47, .ref q55, .null, .int 0])), (q7, .inl (t 0, 30, .inl (fun _ => 0))), (q15, .inl (t 0, 30, .inl (fun _ => 0))), (q23, .inl (t 0, 30, .inl (fun _ => 0))), (q31, .inl (t 2, 30, .inl (fun _ => 0))), (q39, .inl (t 0, 30, .inl (fun _ => 0))), (q47, .inl (t 0, 30, .inl (fun _ => 0))), (q55, .inl (t 0, 30, .inl (fun _ => 0)))]) H := hP
  have hD : va_D (va_A ([(h0, .inr (1, [.null, .null, .null, .null, .null, .null, .null, .null, .int 0]))]) sz) ([(h0, .inr (1, [.ref q7, .ref q15, .ref q23, .ref q31, .ref q39, .ref q47, .ref q55, .null, .int 0])), (q7, .inl (t 0, 30, .inl (fun _ => 0))), (q15, .inl (t 0, 30, .inl (fun _ => 0))), (q23, .inl (t 0, 30, .inl (fun _ => 0))), (q31, .inl (t 2, 30, .inl (fun _ => 0))), (q39, .inl (t 0, 30, .inl (fun _ => 0))), (q47, .inl (t 0, 30, .inl (fun _ => 0))), (q55, .inl (t 0, 30, .inl (fun _ => 0)))]) := hD
  refine lv_aload_n hx hb dX1_init_60 rfl (lv_at hl 0 rfl) ?_
  refine lv_sipush (v := nI 4096) hx hb dX1_init_61 (by decide) ?_
  refine va_newa (atype := .long) (ty := .long) (N' := 4096) (a0 := (4096, .inr (.inl (fun _ => 0)))) hx hb (hts (Cond.arrayClass .long) (List.mem_of_getElem? (i := 13) rfl)) rfl hK hP hD hS hA (fun _ => rfl) (by decide) (by decide) (by decide) (Nat.le_of_ble_eq_true rfl) (Nat.le_of_ble_eq_true rfl) dX1_init_64 (fun q64 cA H hK9 hP hD hS => ?_)
  obtain rfl : t 1 = cA := ob_ce hK9 1 4 rfl rfl (fun _ h => by cases h)
  refine W.widen (k := 8) (n := 4306) (Nat.le_of_ble_eq_true rfl) (Nat.le_of_ble_eq_true rfl) ?_
  have hP : va_P D vwCl ([(h0, .inr (1, [.ref q7, .ref q15, .ref q23, .ref q31, .ref q39, .ref q47, .ref q55, .null, .int 0])), (q7, .inl (t 0, 30, .inl (fun _ => 0))), (q15, .inl (t 0, 30, .inl (fun _ => 0))), (q23, .inl (t 0, 30, .inl (fun _ => 0))), (q31, .inl (t 2, 30, .inl (fun _ => 0))), (q39, .inl (t 0, 30, .inl (fun _ => 0))), (q47, .inl (t 0, 30, .inl (fun _ => 0))), (q55, .inl (t 0, 30, .inl (fun _ => 0))), (q64, .inl (t 1, 4096, .inr (.inl (fun _ => 0))))]) H := hP
  have hD : va_D (va_A ([(h0, .inr (1, [.null, .null, .null, .null, .null, .null, .null, .null, .int 0]))]) sz) ([(h0, .inr (1, [.ref q7, .ref q15, .ref q23, .ref q31, .ref q39, .ref q47, .ref q55, .null, .int 0])), (q7, .inl (t 0, 30, .inl (fun _ => 0))), (q15, .inl (t 0, 30, .inl (fun _ => 0))), (q23, .inl (t 0, 30, .inl (fun _ => 0))), (q31, .inl (t 2, 30, .inl (fun _ => 0))), (q39, .inl (t 0, 30, .inl (fun _ => 0))), (q47, .inl (t 0, 30, .inl (fun _ => 0))), (q55, .inl (t 0, 30, .inl (fun _ => 0))), (q64, .inl (t 1, 4096, .inr (.inl (fun _ => 0))))]) := hD
  refine va_putF (ci := 1) (v := .ref q64) (ty := .array .long) (C := RX1) (T := TX1) (N := 9) hx hb hts (fun w h => List.mem_cons_of_mem _ (List.mem_append_right _ (h))) tyX1 tyX1_ok nmX1 hown hK hP hD hS 0 rfl rfl 7 (by decide) (hts (Cond.fieldLink RX1 34 "OutageBook$Log" "beginnings" "[J") (List.mem_of_getElem? (i := 14) rfl)) (fun _ h9 => h9) rfl hin rfl (by decide +kernel) rfl rfl (Nat.le_of_ble_eq_true rfl) dX1_init_66 (fun H locs hP hD hS => ?_)
  have hP : va_P D vwCl ([(h0, .inr (1, [.ref q7, .ref q15, .ref q23, .ref q31, .ref q39, .ref q47, .ref q55, .ref q64, .int 0])), (q7, .inl (t 0, 30, .inl (fun _ => 0))), (q15, .inl (t 0, 30, .inl (fun _ => 0))), (q23, .inl (t 0, 30, .inl (fun _ => 0))), (q31, .inl (t 2, 30, .inl (fun _ => 0))), (q39, .inl (t 0, 30, .inl (fun _ => 0))), (q47, .inl (t 0, 30, .inl (fun _ => 0))), (q55, .inl (t 0, 30, .inl (fun _ => 0))), (q64, .inl (t 1, 4096, .inr (.inl (fun _ => 0))))]) H := hP
  have hD : va_D (va_A ([(h0, .inr (1, [.null, .null, .null, .null, .null, .null, .null, .null, .int 0]))]) sz) ([(h0, .inr (1, [.ref q7, .ref q15, .ref q23, .ref q31, .ref q39, .ref q47, .ref q55, .ref q64, .int 0])), (q7, .inl (t 0, 30, .inl (fun _ => 0))), (q15, .inl (t 0, 30, .inl (fun _ => 0))), (q23, .inl (t 0, 30, .inl (fun _ => 0))), (q31, .inl (t 2, 30, .inl (fun _ => 0))), (q39, .inl (t 0, 30, .inl (fun _ => 0))), (q47, .inl (t 0, 30, .inl (fun _ => 0))), (q55, .inl (t 0, 30, .inl (fun _ => 0))), (q64, .inl (t 1, 4096, .inr (.inl (fun _ => 0))))]) := hD
  refine lv_aload_n hx hb dX1_init_69 rfl (lv_at hl 0 rfl) ?_
  refine lv_iconst (v := nI 0) hx hb dX1_init_70 (by decide) ?_
  refine va_put (ci := 1) (v := .int (nI 0)) (ty := .int) (C := RX1) (T := TX1) (N := 9) hx hb hts (fun w h => List.mem_cons_of_mem _ (List.mem_append_right _ (h))) tyX1 tyX1_ok nmX1 hown hK hP hD hS 0 rfl rfl 8 (by decide) (hts (Cond.fieldLink RX1 38 "OutageBook$Log" "count" "I") (List.mem_of_getElem? (i := 15) rfl)) (fun _ h9 => h9) rfl (by decide +kernel) rfl rfl (Nat.le_of_ble_eq_true rfl) dX1_init_71 (fun H locs hP hD hS => ?_)
  have hP : va_P D vwCl ([(h0, .inr (1, [.ref q7, .ref q15, .ref q23, .ref q31, .ref q39, .ref q47, .ref q55, .ref q64, .int (nI 0)])), (q7, .inl (t 0, 30, .inl (fun _ => 0))), (q15, .inl (t 0, 30, .inl (fun _ => 0))), (q23, .inl (t 0, 30, .inl (fun _ => 0))), (q31, .inl (t 2, 30, .inl (fun _ => 0))), (q39, .inl (t 0, 30, .inl (fun _ => 0))), (q47, .inl (t 0, 30, .inl (fun _ => 0))), (q55, .inl (t 0, 30, .inl (fun _ => 0))), (q64, .inl (t 1, 4096, .inr (.inl (fun _ => 0))))]) H := hP
  have hD : va_D (va_A ([(h0, .inr (1, [.null, .null, .null, .null, .null, .null, .null, .null, .int 0]))]) sz) ([(h0, .inr (1, [.ref q7, .ref q15, .ref q23, .ref q31, .ref q39, .ref q47, .ref q55, .ref q64, .int (nI 0)])), (q7, .inl (t 0, 30, .inl (fun _ => 0))), (q15, .inl (t 0, 30, .inl (fun _ => 0))), (q23, .inl (t 0, 30, .inl (fun _ => 0))), (q31, .inl (t 2, 30, .inl (fun _ => 0))), (q39, .inl (t 0, 30, .inl (fun _ => 0))), (q47, .inl (t 0, 30, .inl (fun _ => 0))), (q55, .inl (t 0, 30, .inl (fun _ => 0))), (q64, .inl (t 1, 4096, .inr (.inl (fun _ => 0))))]) := hD
  obtain ⟨al, had⟩ : ∃ z : Nat → Nat, z = ob_ad [h0, q7, q15, q23, q31, q39, q47, q55, q64] := ⟨_, rfl⟩
  have e0 : al 0 = h0 := by rw [had]; rfl
  have hP : va_P D vwCl (ob_wL t al 0 (fun _ => 0) (fun _ => 0) (fun _ => 0) (fun _ => 0) (fun _ => 0) (fun _ => 0) (fun _ => 0) (fun _ => 0)) H := by rw [had]; exact hP
  have hD : va_D (va_A ([(h0, .inr (1, [.null, .null, .null, .null, .null, .null, .null, .null, .int 0]))]) sz) (ob_wL t al 0 (fun _ => 0) (fun _ => 0) (fun _ => 0) (fun _ => 0) (fun _ => 0) (fun _ => 0) (fun _ => 0) (fun _ => 0)) := by rw [had]; exact hD
  exact W.vret hx hb hr (fun t9 ht hW => ⟨⟨(), rfl, trivial, al, e0, ob_th ht hP, hD⟩, hS.F ht⟩) hS.2.2 dX1_init_74

set_option maxRecDepth 100000 in
set_option maxHeartbeats 8000000 in
theorem c_X2_init (l : Launch) (D : va_G) (t : Nat → ClassId) (sz h0 : Nat) : Met l yX2_init wsX2_init ({ frames := 1, cells := 4, slots := 160, locals := 12 } : Room) (ob_Pk D t ([(h0, .inr (2, [.null, .null, .null, .null, .int 0]))]) sz [.ref h0]) (va_Qv (fun _ : Unit => True) (fun (_ : Unit) (t9 : State) => ∃ am : Nat → Nat, am 0 = h0 ∧ va_P D vwCl (ob_wM t am 0 (fun _ => 0) (fun _ => 0) (fun _ => 0) (fun _ => 0)) t9.heap ∧ va_D (va_A ([(h0, .inr (2, [.null, .null, .null, .null, .int 0]))]) sz) (ob_wM t am 0 (fun _ => 0) (fun _ => 0) (fun _ => 0) (fun _ => 0))) (va_A ([(h0, .inr (2, [.null, .null, .null, .null, .int 0]))]) sz)) 4 160 (va_A ([(h0, .inr (2, [.null, .null, .null, .null, .int 0]))]) sz) := by
  refine Met.ofW (cc := cX2_init) (maxL := 1) (ret := none) (by decide) rfl ?_
  intro p e s m args below meth c s₁ B hml hv
  obtain ⟨rfl, hsz, hP, hk, hD0, hO⟩ := hv
  have hx := B.exec
  have hb := B.bytes
  have hr := B.returns
  have hts := atoms_spec (ws := wsX2_init) B.pre
  have hown : s.vm.findClass RX2 = some m.cls := findClass_of_methodNamed B.named
  have hlocks := B.notSynchronized
  have hin : meth.name = "<init>" := (name_of_methodNamed B.named B.method).1
  have hK := hk.1
  have hD : va_D (va_A ([(h0, .inr (2, [.null, .null, .null, .null, .int 0]))]) sz) ([(h0, .inr (2, [.null, .null, .null, .null, .int 0]))]) := hD0.self (sz := sz)
  have hA : ∀ q : Nat, s.heap.size ≤ q → (va_A ([(h0, .inr (2, [.null, .null, .null, .null, .int 0]))]) sz) q := fun q h => Or.inr (hsz ▸ h)
  have hS : va_S (va_A ([(h0, .inr (2, [.null, .null, .null, .null, .int 0]))]) sz) s.heap s.heap [] := va_S.rf
  have hl := lv_entry [.ref h0] (n := 1) (Nat.le_of_ble_eq_true rfl)
  rw [lg_entry_eq]
  generalize (lg_sl [.ref h0] ++ List.replicate (1 - (lg_sl [.ref h0]).length) Slot.unset).toArray = ls at hl ⊢
  have hl : lv_has ls 1 [(0, .ref h0)] := hl
  have hP : va_P D vwCl [(h0, .inr (2, [.null, .null, .null, .null, .int 0]))] s.heap := hP
  refine lv_aload_n hx hb dX2_init_0 rfl (lv_at hl 0 rfl) ?_
  refine W.objInit hx hb hown (hts (Cond.methodLink RX2 3 objectInit) (List.mem_of_getElem? (i := 1) rfl)) (hts (Cond.instanceMethod objectInit) (List.mem_of_getElem? (i := 2) rfl)) (hts (Cond.code objectInit ⟨#[0xb1]⟩ 1 none) (List.mem_of_getElem? (i := 3) rfl)) rfl (by rw [hml]; exact hl.1) rfl dX2_init_1 (Nat.le_of_ble_eq_true rfl) (Nat.le_of_ble_eq_true rfl) ?_
  refine W.eq (g2 := F0 m 4 ls []) rfl ?_
  refine lv_aload_n hx hb dX2_init_4 rfl (lv_at hl 0 rfl) ?_
  refine lv_bipush (v := nI 40) hx hb dX2_init_5 (by decide) ?_
  refine va_newa (atype := .int) (ty := .int) (N' := 40) (a0 := (40, .inl (fun _ => 0))) hx hb (hts (Cond.arrayClass .int) (List.mem_of_getElem? (i := 4) rfl)) rfl hK hP hD hS hA (fun _ => rfl) (by decide) (by decide) (by decide) (Nat.le_of_ble_eq_true rfl) (Nat.le_of_ble_eq_true rfl) dX2_init_7 (fun q7 cA H hK9 hP hD hS => ?_)
  obtain rfl : t 0 = cA := ob_ce hK9 0 4 rfl rfl (fun _ h => by cases h)
  refine W.widen (k := 1) (n := 40) (Nat.le_of_ble_eq_true rfl) (Nat.le_of_ble_eq_true rfl) ?_
  have hP : va_P D vwCl ([(h0, .inr (2, [.null, .null, .null, .null, .int 0])), (q7, .inl (t 0, 40, .inl (fun _ => 0)))]) H := hP
  have hD : va_D (va_A ([(h0, .inr (2, [.null, .null, .null, .null, .int 0]))]) sz) ([(h0, .inr (2, [.null, .null, .null, .null, .int 0])), (q7, .inl (t 0, 40, .inl (fun _ => 0)))]) := hD
  refine va_putF (ci := 2) (v := .ref q7) (ty := .array .int) (C := RX2) (T := TX2) (N := 5) hx hb hts (fun w h => List.mem_cons_of_mem _ (List.mem_append_right _ (h))) tyX2 tyX2_ok nmX2 hown hK hP hD hS 0 rfl rfl 0 (by decide) (hts (Cond.fieldLink RX2 9 "OutageBook$Measures" "services" "[I") (List.mem_of_getElem? (i := 5) rfl)) (fun _ h9 => h9) rfl hin rfl (by decide +kernel) rfl rfl (Nat.le_of_ble_eq_true rfl) dX2_init_9 (fun H locs hP hD hS => ?_)
  have hP : va_P D vwCl ([(h0, .inr (2, [.ref q7, .null, .null, .null, .int 0])), (q7, .inl (t 0, 40, .inl (fun _ => 0)))]) H := hP
  have hD : va_D (va_A ([(h0, .inr (2, [.null, .null, .null, .null, .int 0]))]) sz) ([(h0, .inr (2, [.ref q7, .null, .null, .null, .int 0])), (q7, .inl (t 0, 40, .inl (fun _ => 0)))]) := hD
  refine lv_aload_n hx hb dX2_init_12 rfl (lv_at hl 0 rfl) ?_
  refine lv_bipush (v := nI 40) hx hb dX2_init_13 (by decide) ?_
  refine va_newa (atype := .int) (ty := .int) (N' := 40) (a0 := (40, .inl (fun _ => 0))) hx hb (hts (Cond.arrayClass .int) (List.mem_of_getElem? (i := 4) rfl)) rfl hK hP hD hS hA (fun _ => rfl) (by decide) (by decide) (by decide) (Nat.le_of_ble_eq_true rfl) (Nat.le_of_ble_eq_true rfl) dX2_init_15 (fun q15 cA H hK9 hP hD hS => ?_)
  obtain rfl : t 0 = cA := ob_ce hK9 0 4 rfl rfl (fun _ h => by cases h)
  refine W.widen (k := 2) (n := 80) (Nat.le_of_ble_eq_true rfl) (Nat.le_of_ble_eq_true rfl) ?_
  have hP : va_P D vwCl ([(h0, .inr (2, [.ref q7, .null, .null, .null, .int 0])), (q7, .inl (t 0, 40, .inl (fun _ => 0))), (q15, .inl (t 0, 40, .inl (fun _ => 0)))]) H := hP
  have hD : va_D (va_A ([(h0, .inr (2, [.null, .null, .null, .null, .int 0]))]) sz) ([(h0, .inr (2, [.ref q7, .null, .null, .null, .int 0])), (q7, .inl (t 0, 40, .inl (fun _ => 0))), (q15, .inl (t 0, 40, .inl (fun _ => 0)))]) := hD
  refine va_putF (ci := 2) (v := .ref q15) (ty := .array .int) (C := RX2) (T := TX2) (N := 5) hx hb hts (fun w h => List.mem_cons_of_mem _ (List.mem_append_right _ (h))) tyX2 tyX2_ok nmX2 hown hK hP hD hS 0 rfl rfl 1 (by decide) (hts (Cond.fieldLink RX2 15 "OutageBook$Measures" "starts" "[I") (List.mem_of_getElem? (i := 6) rfl)) (fun _ h9 => h9) rfl hin rfl (by decide +kernel) rfl rfl (Nat.le_of_ble_eq_true rfl) dX2_init_17 (fun H locs hP hD hS => ?_)
  have hP : va_P D vwCl ([(h0, .inr (2, [.ref q7, .ref q15, .null, .null, .int 0])), (q7, .inl (t 0, 40, .inl (fun _ => 0))), (q15, .inl (t 0, 40, .inl (fun _ => 0)))]) H := hP
  have hD : va_D (va_A ([(h0, .inr (2, [.null, .null, .null, .null, .int 0]))]) sz) ([(h0, .inr (2, [.ref q7, .ref q15, .null, .null, .int 0])), (q7, .inl (t 0, 40, .inl (fun _ => 0))), (q15, .inl (t 0, 40, .inl (fun _ => 0)))]) := hD
  refine lv_aload_n hx hb dX2_init_20 rfl (lv_at hl 0 rfl) ?_
  refine lv_bipush (v := nI 40) hx hb dX2_init_21 (by decide) ?_
  refine va_newa (atype := .int) (ty := .int) (N' := 40) (a0 := (40, .inl (fun _ => 0))) hx hb (hts (Cond.arrayClass .int) (List.mem_of_getElem? (i := 4) rfl)) rfl hK hP hD hS hA (fun _ => rfl) (by decide) (by decide) (by decide) (Nat.le_of_ble_eq_true rfl) (Nat.le_of_ble_eq_true rfl) dX2_init_23 (fun q23 cA H hK9 hP hD hS => ?_)
  obtain rfl : t 0 = cA := ob_ce hK9 0 4 rfl rfl (fun _ h => by cases h)
  refine W.widen (k := 3) (n := 120) (Nat.le_of_ble_eq_true rfl) (Nat.le_of_ble_eq_true rfl) ?_
  have hP : va_P D vwCl ([(h0, .inr (2, [.ref q7, .ref q15, .null, .null, .int 0])), (q7, .inl (t 0, 40, .inl (fun _ => 0))), (q15, .inl (t 0, 40, .inl (fun _ => 0))), (q23, .inl (t 0, 40, .inl (fun _ => 0)))]) H := hP
  have hD : va_D (va_A ([(h0, .inr (2, [.null, .null, .null, .null, .int 0]))]) sz) ([(h0, .inr (2, [.ref q7, .ref q15, .null, .null, .int 0])), (q7, .inl (t 0, 40, .inl (fun _ => 0))), (q15, .inl (t 0, 40, .inl (fun _ => 0))), (q23, .inl (t 0, 40, .inl (fun _ => 0)))]) := hD
  refine va_putF (ci := 2) (v := .ref q23) (ty := .array .int) (C := RX2) (T := TX2) (N := 5) hx hb hts (fun w h => List.mem_cons_of_mem _ (List.mem_append_right _ (h))) tyX2 tyX2_ok nmX2 hown hK hP hD hS 0 rfl rfl 2 (by decide) (hts (Cond.fieldLink RX2 18 "OutageBook$Measures" "ends" "[I") (List.mem_of_getElem? (i := 7) rfl)) (fun _ h9 => h9) rfl hin rfl (by decide +kernel) rfl rfl (Nat.le_of_ble_eq_true rfl) dX2_init_25 (fun H locs hP hD hS => ?_)
  have hP : va_P D vwCl ([(h0, .inr (2, [.ref q7, .ref q15, .ref q23, .null, .int 0])), (q7, .inl (t 0, 40, .inl (fun _ => 0))), (q15, .inl (t 0, 40, .inl (fun _ => 0))), (q23, .inl (t 0, 40, .inl (fun _ => 0)))]) H := hP
  have hD : va_D (va_A ([(h0, .inr (2, [.null, .null, .null, .null, .int 0]))]) sz) ([(h0, .inr (2, [.ref q7, .ref q15, .ref q23, .null, .int 0])), (q7, .inl (t 0, 40, .inl (fun _ => 0))), (q15, .inl (t 0, 40, .inl (fun _ => 0))), (q23, .inl (t 0, 40, .inl (fun _ => 0)))]) := hD
  refine lv_aload_n hx hb dX2_init_28 rfl (lv_at hl 0 rfl) ?_
  refine lv_bipush (v := nI 40) hx hb dX2_init_29 (by decide) ?_
  refine va_newa (atype := .int) (ty := .int) (N' := 40) (a0 := (40, .inl (fun _ => 0))) hx hb (hts (Cond.arrayClass .int) (List.mem_of_getElem? (i := 4) rfl)) rfl hK hP hD hS hA (fun _ => rfl) (by decide) (by decide) (by decide) (Nat.le_of_ble_eq_true rfl) (Nat.le_of_ble_eq_true rfl) dX2_init_31 (fun q31 cA H hK9 hP hD hS => ?_)
  obtain rfl : t 0 = cA := ob_ce hK9 0 4 rfl rfl (fun _ h => by cases h)
  refine W.widen (k := 4) (n := 160) (Nat.le_of_ble_eq_true rfl) (Nat.le_of_ble_eq_true rfl) ?_
  have hP : va_P D vwCl ([(h0, .inr (2, [.ref q7, .ref q15, .ref q23, .null, .int 0])), (q7, .inl (t 0, 40, .inl (fun _ => 0))), (q15, .inl (t 0, 40, .inl (fun _ => 0))), (q23, .inl (t 0, 40, .inl (fun _ => 0))), (q31, .inl (t 0, 40, .inl (fun _ => 0)))]) H := hP
  have hD : va_D (va_A ([(h0, .inr (2, [.null, .null, .null, .null, .int 0]))]) sz) ([(h0, .inr (2, [.ref q7, .ref q15, .ref q23, .null, .int 0])), (q7, .inl (t 0, 40, .inl (fun _ => 0))), (q15, .inl (t 0, 40, .inl (fun _ => 0))), (q23, .inl (t 0, 40, .inl (fun _ => 0))), (q31, .inl (t 0, 40, .inl (fun _ => 0)))]) := hD
  refine va_putF (ci := 2) (v := .ref q31) (ty := .array .int) (C := RX2) (T := TX2) (N := 5) hx hb hts (fun w h => List.mem_cons_of_mem _ (List.mem_append_right _ (h))) tyX2 tyX2_ok nmX2 hown hK hP hD hS 0 rfl rfl 3 (by decide) (hts (Cond.fieldLink RX2 21 "OutageBook$Measures" "percents" "[I") (List.mem_of_getElem? (i := 8) rfl)) (fun _ h9 => h9) rfl hin rfl (by decide +kernel) rfl rfl (Nat.le_of_ble_eq_true rfl) dX2_init_33 (fun H locs hP hD hS => ?_)
  have hP : va_P D vwCl ([(h0, .inr (2, [.ref q7, .ref q15, .ref q23, .ref q31, .int 0])), (q7, .inl (t 0, 40, .inl (fun _ => 0))), (q15, .inl (t 0, 40, .inl (fun _ => 0))), (q23, .inl (t 0, 40, .inl (fun _ => 0))), (q31, .inl (t 0, 40, .inl (fun _ => 0)))]) H := hP
  have hD : va_D (va_A ([(h0, .inr (2, [.null, .null, .null, .null, .int 0]))]) sz) ([(h0, .inr (2, [.ref q7, .ref q15, .ref q23, .ref q31, .int 0])), (q7, .inl (t 0, 40, .inl (fun _ => 0))), (q15, .inl (t 0, 40, .inl (fun _ => 0))), (q23, .inl (t 0, 40, .inl (fun _ => 0))), (q31, .inl (t 0, 40, .inl (fun _ => 0)))]) := hD
  refine lv_aload_n hx hb dX2_init_36 rfl (lv_at hl 0 rfl) ?_
  refine lv_iconst (v := nI 0) hx hb dX2_init_37 (by decide) ?_
  refine va_put (ci := 2) (v := .int (nI 0)) (ty := .int) (C := RX2) (T := TX2) (N := 5) hx hb hts (fun w h => List.mem_cons_of_mem _ (List.mem_append_right _ (h))) tyX2 tyX2_ok nmX2 hown hK hP hD hS 0 rfl rfl 4 (by decide) (hts (Cond.fieldLink RX2 24 "OutageBook$Measures" "count" "I") (List.mem_of_getElem? (i := 9) rfl)) (fun _ h9 => h9) rfl (by decide +kernel) rfl rfl (Nat.le_of_ble_eq_true rfl) dX2_init_38 (fun H locs hP hD hS => ?_)
  have hP : va_P D vwCl ([(h0, .inr (2, [.ref q7, .ref q15, .ref q23, .ref q31, .int (nI 0)])), (q7, .inl (t 0, 40, .inl (fun _ => 0))), (q15, .inl (t 0, 40, .inl (fun _ => 0))), (q23, .inl (t 0, 40, .inl (fun _ => 0))), (q31, .inl (t 0, 40, .inl (fun _ => 0)))]) H := hP
  have hD : va_D (va_A ([(h0, .inr (2, [.null, .null, .null, .null, .int 0]))]) sz) ([(h0, .inr (2, [.ref q7, .ref q15, .ref q23, .ref q31, .int (nI 0)])), (q7, .inl (t 0, 40, .inl (fun _ => 0))), (q15, .inl (t 0, 40, .inl (fun _ => 0))), (q23, .inl (t 0, 40, .inl (fun _ => 0))), (q31, .inl (t 0, 40, .inl (fun _ => 0)))]) := hD
  obtain ⟨am, had⟩ : ∃ z : Nat → Nat, z = ob_ad [h0, q7, q15, q23, q31] := ⟨_, rfl⟩
  have e0 : am 0 = h0 := by rw [had]; rfl
  have hP : va_P D vwCl (ob_wM t am 0 (fun _ => 0) (fun _ => 0) (fun _ => 0) (fun _ => 0)) H := by rw [had]; exact hP
  have hD : va_D (va_A ([(h0, .inr (2, [.null, .null, .null, .null, .int 0]))]) sz) (ob_wM t am 0 (fun _ => 0) (fun _ => 0) (fun _ => 0) (fun _ => 0)) := by rw [had]; exact hD
  exact W.vret hx hb hr (fun t9 ht hW => ⟨⟨(), rfl, trivial, am, e0, ob_th ht hP, hD⟩, hS.F ht⟩) hS.2.2 dX2_init_41

set_option maxRecDepth 100000 in
set_option maxHeartbeats 8000000 in
theorem c_X0_init (l : Launch) (D : va_G) (t : Nat → ClassId) (sz h0 : Nat) : Met l yX0_init wsX0_init ({ frames := 1, cells := 17, slots := 272, locals := 12 } : Room) (ob_Pk D t ([(h0, .inr (0, [.null, .int 0, .int 0]))]) sz [.ref h0]) (va_Qv (fun _ : Unit => True) (fun (_ : Unit) (t9 : State) => ∃ ac : Nat → Nat, ac 0 = h0 ∧ va_P D vwCl (ob_wC t ac 0 (nI 0) (fun _ _ => 0)) t9.heap ∧ va_D (va_A ([(h0, .inr (0, [.null, .int 0, .int 0]))]) sz) (ob_wC t ac 0 (nI 0) (fun _ _ => 0))) (va_A ([(h0, .inr (0, [.null, .int 0, .int 0]))]) sz)) 17 272 (va_A ([(h0, .inr (0, [.null, .int 0, .int 0]))]) sz) := by
  refine Met.ofW (cc := cX0_init) (maxL := 1) (ret := none) (by decide) rfl ?_
  intro p e s m args below meth c s₁ B hml hv
  obtain ⟨rfl, hsz, hP, hk, hD0, hO⟩ := hv
  have hx := B.exec
  have hb := B.bytes
  have hr := B.returns
  have hts := atoms_spec (ws := wsX0_init) B.pre
  have hown : s.vm.findClass RX0 = some m.cls := findClass_of_methodNamed B.named
  have hlocks := B.notSynchronized
  have hin : meth.name = "<init>" := (name_of_methodNamed B.named B.method).1
  have hK := hk.1
  have hD : va_D (va_A ([(h0, .inr (0, [.null, .int 0, .int 0]))]) sz) ([(h0, .inr (0, [.null, .int 0, .int 0]))]) := hD0.self (sz := sz)
  have hA : ∀ q : Nat, s.heap.size ≤ q → (va_A ([(h0, .inr (0, [.null, .int 0, .int 0]))]) sz) q := fun q h => Or.inr (hsz ▸ h)
  have hS : va_S (va_A ([(h0, .inr (0, [.null, .int 0, .int 0]))]) sz) s.heap s.heap [] := va_S.rf
  have hl := lv_entry [.ref h0] (n := 1) (Nat.le_of_ble_eq_true rfl)
  rw [lg_entry_eq]
  generalize (lg_sl [.ref h0] ++ List.replicate (1 - (lg_sl [.ref h0]).length) Slot.unset).toArray = ls at hl ⊢
  have hl : lv_has ls 1 [(0, .ref h0)] := hl
  have hP : va_P D vwCl [(h0, .inr (0, [.null, .int 0, .int 0]))] s.heap := hP
  refine lv_aload_n hx hb dX0_init_0 rfl (lv_at hl 0 rfl) ?_
  refine W.objInit hx hb hown (hts (Cond.methodLink RX0 3 objectInit) (List.mem_of_getElem? (i := 1) rfl)) (hts (Cond.instanceMethod objectInit) (List.mem_of_getElem? (i := 2) rfl)) (hts (Cond.code objectInit ⟨#[0xb1]⟩ 1 none) (List.mem_of_getElem? (i := 3) rfl)) rfl (by rw [hml]; exact hl.1) rfl dX0_init_1 (Nat.le_of_ble_eq_true rfl) (Nat.le_of_ble_eq_true rfl) ?_
  refine W.eq (g2 := F0 m 4 ls []) rfl ?_
  refine lv_aload_n hx hb dX0_init_4 rfl (lv_at hl 0 rfl) ?_
  refine lv_bipush (v := nI 16) hx hb dX0_init_5 (by decide) ?_
  refine lv_bipush (v := nI 16) hx hb dX0_init_7 (by decide) ?_
  have hcy : s.vm.findClass (FieldType.array .int).toString = some (t 0) := (hK.2 0 _ rfl).2
  have hP : va_P D vwCl ([(h0, .inr (0, [.null, .int 0, .int 0]))] ++ va_pl [] (fun _ => .inr (0, []))) s.heap := by rw [show va_pl [] (fun _ => .inr (0, [])) = [] from rfl, List.append_nil]; exact hP
  have hD : va_D (va_A ([(h0, .inr (0, [.null, .int 0, .int 0]))]) sz) ([(h0, .inr (0, [.null, .int 0, .int 0]))] ++ va_pl [] (fun _ => .inr (0, []))) := by rw [show va_pl [] (fun _ => .inr (0, [])) = [] from rfl, List.append_nil]; exact hD
  refine va_mna (ty := .int) (N' := 16) (K' := 16) (z := (16, .inl (fun _ => 0))) hx hb hown (hts (Cond.classLink RX0 9 "[[I") (List.mem_of_getElem? (i := 4) rfl)) hO (hts (Cond.arrayClass .int) (List.mem_of_getElem? (i := 5) rfl)) hcy hK hP hD hS hA (by decide) (by decide) (by decide) (by decide) (by decide) (by decide) (by decide) rfl rfl (Nat.le_of_ble_eq_true rfl) (Nat.le_of_ble_eq_true rfl) (fun cA => (arrV_new cA 16 (.int 0))) dX0_init_9 (fun q9 r cA H hr1 hr2 hK9 hP hD hS => ?_)
  obtain rfl : t 3 = cA := ob_ce hK9 3 4 rfl rfl (fun _ h => by cases h)
  rw [← vr_rows (fun _ _ h => absurd h List.not_mem_nil)] at hP hD
  refine W.widen (k := 17) (n := 272) (Nat.le_of_ble_eq_true rfl) (Nat.le_of_ble_eq_true rfl) ?_
  have hP : va_P D vwCl ([(h0, .inr (0, [.null, .int 0, .int 0])), (q9, .inl (t 3, 16, .inr (.inr (.inr (.inr (fun i => if i < 16 then some (r i) else none)))))), (r 0, .inl (t 0, 16, .inl (fun _ => 0))), (r 1, .inl (t 0, 16, .inl (fun _ => 0))), (r 2, .inl (t 0, 16, .inl (fun _ => 0))), (r 3, .inl (t 0, 16, .inl (fun _ => 0))), (r 4, .inl (t 0, 16, .inl (fun _ => 0))), (r 5, .inl (t 0, 16, .inl (fun _ => 0))), (r 6, .inl (t 0, 16, .inl (fun _ => 0))), (r 7, .inl (t 0, 16, .inl (fun _ => 0))), (r 8, .inl (t 0, 16, .inl (fun _ => 0))), (r 9, .inl (t 0, 16, .inl (fun _ => 0))), (r 10, .inl (t 0, 16, .inl (fun _ => 0))), (r 11, .inl (t 0, 16, .inl (fun _ => 0))), (r 12, .inl (t 0, 16, .inl (fun _ => 0))), (r 13, .inl (t 0, 16, .inl (fun _ => 0))), (r 14, .inl (t 0, 16, .inl (fun _ => 0))), (r 15, .inl (t 0, 16, .inl (fun _ => 0)))]) H := hP
  have hD : va_D (va_A ([(h0, .inr (0, [.null, .int 0, .int 0]))]) sz) ([(h0, .inr (0, [.null, .int 0, .int 0])), (q9, .inl (t 3, 16, .inr (.inr (.inr (.inr (fun i => if i < 16 then some (r i) else none)))))), (r 0, .inl (t 0, 16, .inl (fun _ => 0))), (r 1, .inl (t 0, 16, .inl (fun _ => 0))), (r 2, .inl (t 0, 16, .inl (fun _ => 0))), (r 3, .inl (t 0, 16, .inl (fun _ => 0))), (r 4, .inl (t 0, 16, .inl (fun _ => 0))), (r 5, .inl (t 0, 16, .inl (fun _ => 0))), (r 6, .inl (t 0, 16, .inl (fun _ => 0))), (r 7, .inl (t 0, 16, .inl (fun _ => 0))), (r 8, .inl (t 0, 16, .inl (fun _ => 0))), (r 9, .inl (t 0, 16, .inl (fun _ => 0))), (r 10, .inl (t 0, 16, .inl (fun _ => 0))), (r 11, .inl (t 0, 16, .inl (fun _ => 0))), (r 12, .inl (t 0, 16, .inl (fun _ => 0))), (r 13, .inl (t 0, 16, .inl (fun _ => 0))), (r 14, .inl (t 0, 16, .inl (fun _ => 0))), (r 15, .inl (t 0, 16, .inl (fun _ => 0)))]) := hD
  refine va_putF (ci := 0) (v := .ref q9) (ty := .array (.array .int)) (C := RX0) (T := TX0) (N := 3) hx hb hts (fun w h => List.mem_cons_of_mem _ (List.mem_append_right _ (h))) tyX0 tyX0_ok nmX0 hown hK hP hD hS 0 rfl rfl 0 (by decide) (hts (Cond.fieldLink RX0 11 "OutageBook$Causes" "weights" "[[I") (List.mem_of_getElem? (i := 6) rfl)) (fun _ h9 => h9) rfl hin rfl (by decide +kernel) rfl rfl (Nat.le_of_ble_eq_true rfl) dX0_init_13 (fun H locs hP hD hS => ?_)
  have hP : va_P D vwCl ([(h0, .inr (0, [.ref q9, .int 0, .int 0])), (q9, .inl (t 3, 16, .inr (.inr (.inr (.inr (fun i => if i < 16 then some (r i) else none)))))), (r 0, .inl (t 0, 16, .inl (fun _ => 0))), (r 1, .inl (t 0, 16, .inl (fun _ => 0))), (r 2, .inl (t 0, 16, .inl (fun _ => 0))), (r 3, .inl (t 0, 16, .inl (fun _ => 0))), (r 4, .inl (t 0, 16, .inl (fun _ => 0))), (r 5, .inl (t 0, 16, .inl (fun _ => 0))), (r 6, .inl (t 0, 16, .inl (fun _ => 0))), (r 7, .inl (t 0, 16, .inl (fun _ => 0))), (r 8, .inl (t 0, 16, .inl (fun _ => 0))), (r 9, .inl (t 0, 16, .inl (fun _ => 0))), (r 10, .inl (t 0, 16, .inl (fun _ => 0))), (r 11, .inl (t 0, 16, .inl (fun _ => 0))), (r 12, .inl (t 0, 16, .inl (fun _ => 0))), (r 13, .inl (t 0, 16, .inl (fun _ => 0))), (r 14, .inl (t 0, 16, .inl (fun _ => 0))), (r 15, .inl (t 0, 16, .inl (fun _ => 0)))]) H := hP
  have hD : va_D (va_A ([(h0, .inr (0, [.null, .int 0, .int 0]))]) sz) ([(h0, .inr (0, [.ref q9, .int 0, .int 0])), (q9, .inl (t 3, 16, .inr (.inr (.inr (.inr (fun i => if i < 16 then some (r i) else none)))))), (r 0, .inl (t 0, 16, .inl (fun _ => 0))), (r 1, .inl (t 0, 16, .inl (fun _ => 0))), (r 2, .inl (t 0, 16, .inl (fun _ => 0))), (r 3, .inl (t 0, 16, .inl (fun _ => 0))), (r 4, .inl (t 0, 16, .inl (fun _ => 0))), (r 5, .inl (t 0, 16, .inl (fun _ => 0))), (r 6, .inl (t 0, 16, .inl (fun _ => 0))), (r 7, .inl (t 0, 16, .inl (fun _ => 0))), (r 8, .inl (t 0, 16, .inl (fun _ => 0))), (r 9, .inl (t 0, 16, .inl (fun _ => 0))), (r 10, .inl (t 0, 16, .inl (fun _ => 0))), (r 11, .inl (t 0, 16, .inl (fun _ => 0))), (r 12, .inl (t 0, 16, .inl (fun _ => 0))), (r 13, .inl (t 0, 16, .inl (fun _ => 0))), (r 14, .inl (t 0, 16, .inl (fun _ => 0))), (r 15, .inl (t 0, 16, .inl (fun _ => 0)))]) := hD
  refine lv_aload_n hx hb dX0_init_16 rfl (lv_at hl 0 rfl) ?_
  refine lv_iconst (v := nI 0) hx hb dX0_init_17 (by decide) ?_
  refine va_put (ci := 0) (v := .int (nI 0)) (ty := .int) (C := RX0) (T := TX0) (N := 3) hx hb hts (fun w h => List.mem_cons_of_mem _ (List.mem_append_right _ (h))) tyX0 tyX0_ok nmX0 hown hK hP hD hS 0 rfl rfl 1 (by decide) (hts (Cond.fieldLink RX0 16 "OutageBook$Causes" "standing" "I") (List.mem_of_getElem? (i := 7) rfl)) (fun _ h9 => h9) rfl (by decide +kernel) rfl rfl (Nat.le_of_ble_eq_true rfl) dX0_init_18 (fun H locs hP hD hS => ?_)
  have hP : va_P D vwCl ([(h0, .inr (0, [.ref q9, .int (nI 0), .int 0])), (q9, .inl (t 3, 16, .inr (.inr (.inr (.inr (fun i => if i < 16 then some (r i) else none)))))), (r 0, .inl (t 0, 16, .inl (fun _ => 0))), (r 1, .inl (t 0, 16, .inl (fun _ => 0))), (r 2, .inl (t 0, 16, .inl (fun _ => 0))), (r 3, .inl (t 0, 16, .inl (fun _ => 0))), (r 4, .inl (t 0, 16, .inl (fun _ => 0))), (r 5, .inl (t 0, 16, .inl (fun _ => 0))), (r 6, .inl (t 0, 16, .inl (fun _ => 0))), (r 7, .inl (t 0, 16, .inl (fun _ => 0))), (r 8, .inl (t 0, 16, .inl (fun _ => 0))), (r 9, .inl (t 0, 16, .inl (fun _ => 0))), (r 10, .inl (t 0, 16, .inl (fun _ => 0))), (r 11, .inl (t 0, 16, .inl (fun _ => 0))), (r 12, .inl (t 0, 16, .inl (fun _ => 0))), (r 13, .inl (t 0, 16, .inl (fun _ => 0))), (r 14, .inl (t 0, 16, .inl (fun _ => 0))), (r 15, .inl (t 0, 16, .inl (fun _ => 0)))]) H := hP
  have hD : va_D (va_A ([(h0, .inr (0, [.null, .int 0, .int 0]))]) sz) ([(h0, .inr (0, [.ref q9, .int (nI 0), .int 0])), (q9, .inl (t 3, 16, .inr (.inr (.inr (.inr (fun i => if i < 16 then some (r i) else none)))))), (r 0, .inl (t 0, 16, .inl (fun _ => 0))), (r 1, .inl (t 0, 16, .inl (fun _ => 0))), (r 2, .inl (t 0, 16, .inl (fun _ => 0))), (r 3, .inl (t 0, 16, .inl (fun _ => 0))), (r 4, .inl (t 0, 16, .inl (fun _ => 0))), (r 5, .inl (t 0, 16, .inl (fun _ => 0))), (r 6, .inl (t 0, 16, .inl (fun _ => 0))), (r 7, .inl (t 0, 16, .inl (fun _ => 0))), (r 8, .inl (t 0, 16, .inl (fun _ => 0))), (r 9, .inl (t 0, 16, .inl (fun _ => 0))), (r 10, .inl (t 0, 16, .inl (fun _ => 0))), (r 11, .inl (t 0, 16, .inl (fun _ => 0))), (r 12, .inl (t 0, 16, .inl (fun _ => 0))), (r 13, .inl (t 0, 16, .inl (fun _ => 0))), (r 14, .inl (t 0, 16, .inl (fun _ => 0))), (r 15, .inl (t 0, 16, .inl (fun _ => 0)))]) := hD
  refine lv_aload_n hx hb dX0_init_21 rfl (lv_at hl 0 rfl) ?_
  refine lv_iconst (v := nI 0) hx hb dX0_init_22 (by decide) ?_
  refine va_put (ci := 0) (v := .int (nI 0)) (ty := .int) (C := RX0) (T := TX0) (N := 3) hx hb hts (fun w h => List.mem_cons_of_mem _ (List.mem_append_right _ (h))) tyX0 tyX0_ok nmX0 hown hK hP hD hS 0 rfl rfl 2 (by decide) (hts (Cond.fieldLink RX0 20 "OutageBook$Causes" "count" "I") (List.mem_of_getElem? (i := 8) rfl)) (fun _ h9 => h9) rfl (by decide +kernel) rfl rfl (Nat.le_of_ble_eq_true rfl) dX0_init_23 (fun H locs hP hD hS => ?_)
  have hP : va_P D vwCl ([(h0, .inr (0, [.ref q9, .int (nI 0), .int (nI 0)])), (q9, .inl (t 3, 16, .inr (.inr (.inr (.inr (fun i => if i < 16 then some (r i) else none)))))), (r 0, .inl (t 0, 16, .inl (fun _ => 0))), (r 1, .inl (t 0, 16, .inl (fun _ => 0))), (r 2, .inl (t 0, 16, .inl (fun _ => 0))), (r 3, .inl (t 0, 16, .inl (fun _ => 0))), (r 4, .inl (t 0, 16, .inl (fun _ => 0))), (r 5, .inl (t 0, 16, .inl (fun _ => 0))), (r 6, .inl (t 0, 16, .inl (fun _ => 0))), (r 7, .inl (t 0, 16, .inl (fun _ => 0))), (r 8, .inl (t 0, 16, .inl (fun _ => 0))), (r 9, .inl (t 0, 16, .inl (fun _ => 0))), (r 10, .inl (t 0, 16, .inl (fun _ => 0))), (r 11, .inl (t 0, 16, .inl (fun _ => 0))), (r 12, .inl (t 0, 16, .inl (fun _ => 0))), (r 13, .inl (t 0, 16, .inl (fun _ => 0))), (r 14, .inl (t 0, 16, .inl (fun _ => 0))), (r 15, .inl (t 0, 16, .inl (fun _ => 0)))]) H := hP
  have hD : va_D (va_A ([(h0, .inr (0, [.null, .int 0, .int 0]))]) sz) ([(h0, .inr (0, [.ref q9, .int (nI 0), .int (nI 0)])), (q9, .inl (t 3, 16, .inr (.inr (.inr (.inr (fun i => if i < 16 then some (r i) else none)))))), (r 0, .inl (t 0, 16, .inl (fun _ => 0))), (r 1, .inl (t 0, 16, .inl (fun _ => 0))), (r 2, .inl (t 0, 16, .inl (fun _ => 0))), (r 3, .inl (t 0, 16, .inl (fun _ => 0))), (r 4, .inl (t 0, 16, .inl (fun _ => 0))), (r 5, .inl (t 0, 16, .inl (fun _ => 0))), (r 6, .inl (t 0, 16, .inl (fun _ => 0))), (r 7, .inl (t 0, 16, .inl (fun _ => 0))), (r 8, .inl (t 0, 16, .inl (fun _ => 0))), (r 9, .inl (t 0, 16, .inl (fun _ => 0))), (r 10, .inl (t 0, 16, .inl (fun _ => 0))), (r 11, .inl (t 0, 16, .inl (fun _ => 0))), (r 12, .inl (t 0, 16, .inl (fun _ => 0))), (r 13, .inl (t 0, 16, .inl (fun _ => 0))), (r 14, .inl (t 0, 16, .inl (fun _ => 0))), (r 15, .inl (t 0, 16, .inl (fun _ => 0)))]) := hD
  obtain ⟨ac, had⟩ : ∃ z : Nat → Nat, z = ob_adg h0 q9 r := ⟨_, rfl⟩
  have e0 : ac 0 = h0 := by rw [had]; rfl
  rw [← ob_adg_f h0 q9 r 16] at hP hD
  have hP : va_P D vwCl (ob_wC t ac 0 (nI 0) (fun _ _ => 0)) H := by rw [had]; exact hP
  have hD : va_D (va_A ([(h0, .inr (0, [.null, .int 0, .int 0]))]) sz) (ob_wC t ac 0 (nI 0) (fun _ _ => 0)) := by rw [had]; exact hD
  exact W.vret hx hb hr (fun t9 ht hW => ⟨⟨(), rfl, trivial, ac, e0, ob_th ht hP, hD⟩, hS.F ht⟩) hS.2.2 dX0_init_26

set_option maxRecDepth 100000 in
set_option maxHeartbeats 8000000 in
theorem c_X3_init (l : Launch) (D : va_G) (t : Nat → ClassId) (sz h0 : Nat) : Met l yX3_init wsX3_init ({ frames := 1, cells := 6, slots := 30, locals := 12 } : Room) (ob_Pk D t ([(h0, .inr (3, [.null]))]) sz [.ref h0]) (va_Qv (fun _ : Unit => True) (fun (_ : Unit) (t9 : State) => ∃ ao : Nat → Nat, ao 0 = h0 ∧ va_P D vwCl (ob_wO t ao (ob_iO (fun _ _ => 0) 5)) t9.heap ∧ va_D (va_A ([(h0, .inr (3, [.null]))]) sz) (ob_wO t ao (ob_iO (fun _ _ => 0) 5))) (va_A ([(h0, .inr (3, [.null]))]) sz)) 6 30 (va_A ([(h0, .inr (3, [.null]))]) sz) := by
  refine Met.ofW (cc := cX3_init) (maxL := 3) (ret := none) (by decide) rfl ?_
  intro p e s m args below meth c s₁ B hml hv
  obtain ⟨rfl, hsz, hP, hk, hD0, hO⟩ := hv
  have hx := B.exec
  have hb := B.bytes
  have hr := B.returns
  have hts := atoms_spec (ws := wsX3_init) B.pre
  have hown : s.vm.findClass RX3 = some m.cls := findClass_of_methodNamed B.named
  have hlocks := B.notSynchronized
  have hin : meth.name = "<init>" := (name_of_methodNamed B.named B.method).1
  have hK := hk.1
  have hD : va_D (va_A ([(h0, .inr (3, [.null]))]) sz) ([(h0, .inr (3, [.null]))]) := hD0.self (sz := sz)
  have hA : ∀ q : Nat, s.heap.size ≤ q → (va_A ([(h0, .inr (3, [.null]))]) sz) q := fun q h => Or.inr (hsz ▸ h)
  have hS : va_S (va_A ([(h0, .inr (3, [.null]))]) sz) s.heap s.heap [] := va_S.rf
  have hl := lv_entry [.ref h0] (n := 3) (Nat.le_of_ble_eq_true rfl)
  rw [lg_entry_eq]
  generalize (lg_sl [.ref h0] ++ List.replicate (3 - (lg_sl [.ref h0]).length) Slot.unset).toArray = ls at hl ⊢
  have hl : lv_has ls 3 [(0, .ref h0)] := hl
  have hP : va_P D vwCl [(h0, .inr (3, [.null]))] s.heap := hP
  refine lv_aload_n hx hb dX3_init_0 rfl (lv_at hl 0 rfl) ?_
  refine W.objInit hx hb hown (hts (Cond.methodLink RX3 3 objectInit) (List.mem_of_getElem? (i := 1) rfl)) (hts (Cond.instanceMethod objectInit) (List.mem_of_getElem? (i := 2) rfl)) (hts (Cond.code objectInit ⟨#[0xb1]⟩ 1 none) (List.mem_of_getElem? (i := 3) rfl)) rfl (by rw [hml]; exact hl.1) rfl dX3_init_1 (Nat.le_of_ble_eq_true rfl) (Nat.le_of_ble_eq_true rfl) ?_
  refine W.eq (g2 := F0 m 4 ls []) rfl ?_
  refine lv_aload_n hx hb dX3_init_4 rfl (lv_at hl 0 rfl) ?_
  refine lv_iconst (v := nI 5) hx hb dX3_init_5 (by decide) ?_
  refine lv_iconst (v := nI 5) hx hb dX3_init_6 (by decide) ?_
  have hcy : s.vm.findClass (FieldType.array .int).toString = some (t 0) := (hK.2 0 _ rfl).2
  have hP : va_P D vwCl ([(h0, .inr (3, [.null]))] ++ va_pl [] (fun _ => .inr (0, []))) s.heap := by rw [show va_pl [] (fun _ => .inr (0, [])) = [] from rfl, List.append_nil]; exact hP
  have hD : va_D (va_A ([(h0, .inr (3, [.null]))]) sz) ([(h0, .inr (3, [.null]))] ++ va_pl [] (fun _ => .inr (0, []))) := by rw [show va_pl [] (fun _ => .inr (0, [])) = [] from rfl, List.append_nil]; exact hD
  refine va_mna (ty := .int) (N' := 5) (K' := 5) (z := (5, .inl (fun _ => 0))) hx hb hown (hts (Cond.classLink RX3 9 "[[I") (List.mem_of_getElem? (i := 4) rfl)) hO (hts (Cond.arrayClass .int) (List.mem_of_getElem? (i := 5) rfl)) hcy hK hP hD hS hA (by decide) (by decide) (by decide) (by decide) (by decide) (by decide) (by decide) rfl rfl (Nat.le_of_ble_eq_true rfl) (Nat.le_of_ble_eq_true rfl) (fun cA => (arrV_new cA 5 (.int 0))) dX3_init_7 (fun q7 r cA H hr1 hr2 hK9 hP hD hS => ?_)
  obtain rfl : t 3 = cA := ob_ce hK9 3 4 rfl rfl (fun _ h => by cases h)
  rw [← vr_rows (fun _ _ h => absurd h List.not_mem_nil)] at hP hD
  refine W.widen (k := 6) (n := 30) (Nat.le_of_ble_eq_true rfl) (Nat.le_of_ble_eq_true rfl) ?_
  have hP : va_P D vwCl ([(h0, .inr (3, [.null])), (q7, .inl (t 3, 5, .inr (.inr (.inr (.inr (fun i => if i < 5 then some (r i) else none)))))), (r 0, .inl (t 0, 5, .inl (fun _ => 0))), (r 1, .inl (t 0, 5, .inl (fun _ => 0))), (r 2, .inl (t 0, 5, .inl (fun _ => 0))), (r 3, .inl (t 0, 5, .inl (fun _ => 0))), (r 4, .inl (t 0, 5, .inl (fun _ => 0)))]) H := hP
  have hD : va_D (va_A ([(h0, .inr (3, [.null]))]) sz) ([(h0, .inr (3, [.null])), (q7, .inl (t 3, 5, .inr (.inr (.inr (.inr (fun i => if i < 5 then some (r i) else none)))))), (r 0, .inl (t 0, 5, .inl (fun _ => 0))), (r 1, .inl (t 0, 5, .inl (fun _ => 0))), (r 2, .inl (t 0, 5, .inl (fun _ => 0))), (r 3, .inl (t 0, 5, .inl (fun _ => 0))), (r 4, .inl (t 0, 5, .inl (fun _ => 0)))]) := hD
  refine va_putF (ci := 3) (v := .ref q7) (ty := .array (.array .int)) (C := RX3) (T := TX3) (N := 1) hx hb hts (fun w h => List.mem_cons_of_mem _ (List.mem_append_right _ (h))) tyX3 tyX3_ok nmX3 hown hK hP hD hS 0 rfl rfl 0 (by decide) (hts (Cond.fieldLink RX3 11 "OutageBook$Offsets" "differences" "[[I") (List.mem_of_getElem? (i := 6) rfl)) (fun _ h9 => h9) rfl hin rfl (by decide +kernel) rfl rfl (Nat.le_of_ble_eq_true rfl) dX3_init_11 (fun H locs hP hD hS => ?_)
  have hP : va_P D vwCl ([(h0, .inr (3, [.ref q7])), (q7, .inl (t 3, 5, .inr (.inr (.inr (.inr (fun i => if i < 5 then some (r i) else none)))))), (r 0, .inl (t 0, 5, .inl (fun _ => 0))), (r 1, .inl (t 0, 5, .inl (fun _ => 0))), (r 2, .inl (t 0, 5, .inl (fun _ => 0))), (r 3, .inl (t 0, 5, .inl (fun _ => 0))), (r 4, .inl (t 0, 5, .inl (fun _ => 0)))]) H := hP
  have hD : va_D (va_A ([(h0, .inr (3, [.null]))]) sz) ([(h0, .inr (3, [.ref q7])), (q7, .inl (t 3, 5, .inr (.inr (.inr (.inr (fun i => if i < 5 then some (r i) else none)))))), (r 0, .inl (t 0, 5, .inl (fun _ => 0))), (r 1, .inl (t 0, 5, .inl (fun _ => 0))), (r 2, .inl (t 0, 5, .inl (fun _ => 0))), (r 3, .inl (t 0, 5, .inl (fun _ => 0))), (r 4, .inl (t 0, 5, .inl (fun _ => 0)))]) := hD
  obtain ⟨ao, had⟩ : ∃ z : Nat → Nat, z = ob_adg h0 q7 r := ⟨_, rfl⟩
  have e0 : ao 0 = h0 := by rw [had]; rfl
  rw [← ob_adg_f h0 q7 r 5] at hP hD
  have hP : va_P D vwCl (ob_wO t ao (fun _ _ => 0)) H := by rw [had]; exact hP
  have hD : va_D (va_A ([(h0, .inr (3, [.null]))]) sz) (ob_wO t ao (fun _ _ => 0)) := by rw [had]; exact hD
  rw [← e0] at hl
  refine lv_iconst (v := nI 0) hx hb dX3_init_14 (by decide) ?_
  refine lv_istore_n (lv' := [(1, .int (nI 0)), (0, .ref (ao 0))]) hx hb dX3_init_15 rfl hl (by decide) rfl (fun ls hl => ?_)
  have k16 : ∀ fu : Nat, ∀ (i : Nat) (N8 : Nat → Nat → Int32), 5 - i < fu → (i ≤ 5) → (N8 = ob_iO (fun _ _ => 0) i) → ∀ (H : Heap) (locs : List Loc), va_P D vwCl (ob_wO t ao N8) H → va_D (va_A ([(h0, .inr (3, [.null]))]) sz) (ob_wO t ao N8) → va_S (va_A ([(h0, .inr (3, [.null]))]) sz) s.heap H locs → ∀ ls : Array Slot, lv_has ls 3 [(0, .ref (ao 0)), (1, .int (nI i))] → W p l e (headSpec wsX3_init ({ frames := 1, cells := 6, slots := 30, locals := 12 } : Room)).room s m ([.ref h0] : List Value).toArray below meth c H locs 6 30 (MQ below (va_Qv (fun _ : Unit => True) (fun (_ : Unit) (t9 : State) => ∃ ao : Nat → Nat, ao 0 = h0 ∧ va_P D vwCl (ob_wO t ao (ob_iO (fun _ _ => 0) 5)) t9.heap ∧ va_D (va_A ([(h0, .inr (3, [.null]))]) sz) (ob_wO t ao (ob_iO (fun _ _ => 0) 5))) (va_A ([(h0, .inr (3, [.null]))]) sz)) ([.ref h0] : List Value).toArray s 6 30 (va_A ([(h0, .inr (3, [.null]))]) sz)) (F0 m 16 ls []) := by
    intro fu
    induction fu with
    | zero => intro i N8 hfu; exact absurd hfu (Nat.not_lt_zero _)
    | succ fu ih =>
      intro i N8 hfu hi h8 H locs hP hD hS ls hl
      have ih16 := ih
      refine lv_iload_n hx hb dX3_init_16 rfl (lv_at hl 1 rfl) ?_
      refine lv_iconst (v := nI 5) hx hb dX3_init_17 (by decide) ?_
      refine ob_icmp_ge (tgt := 59) hx hb (by omega) (by omega) dX3_init_18 (by decide) (fun c18 => ?_) (fun c18 => ?_)
      · exact W.vret hx hb hr (fun t9 ht hW => ⟨⟨(), rfl, trivial, ao, e0, ob_th ht (by rw [h8, show i = 5 by omega] at hP; exact hP), ob_dO hD⟩, hS.F ht⟩) hS.2.2 dX3_init_59
      · refine lv_iconst (v := nI 0) hx hb dX3_init_21 (by decide) ?_
        refine lv_istore_n (lv' := [(2, .int (nI 0)), (0, .ref (ao 0)), (1, .int (nI i))]) hx hb dX3_init_22 rfl hl (by decide) rfl (fun ls hl => ?_)
        have k23 : ∀ fu : Nat, ∀ (j : Nat) (N9 : Nat → Nat → Int32), 5 - j < fu → (j ≤ 5) → (N9 = ob_iI i N8 j) → ∀ (H : Heap) (locs : List Loc), va_P D vwCl (ob_wO t ao N9) H → va_D (va_A ([(h0, .inr (3, [.null]))]) sz) (ob_wO t ao N9) → va_S (va_A ([(h0, .inr (3, [.null]))]) sz) s.heap H locs → ∀ ls : Array Slot, lv_has ls 3 [(0, .ref (ao 0)), (1, .int (nI i)), (2, .int (nI j))] → W p l e (headSpec wsX3_init ({ frames := 1, cells := 6, slots := 30, locals := 12 } : Room)).room s m ([.ref h0] : List Value).toArray below meth c H locs 6 30 (MQ below (va_Qv (fun _ : Unit => True) (fun (_ : Unit) (t9 : State) => ∃ ao : Nat → Nat, ao 0 = h0 ∧ va_P D vwCl (ob_wO t ao (ob_iO (fun _ _ => 0) 5)) t9.heap ∧ va_D (va_A ([(h0, .inr (3, [.null]))]) sz) (ob_wO t ao (ob_iO (fun _ _ => 0) 5))) (va_A ([(h0, .inr (3, [.null]))]) sz)) ([.ref h0] : List Value).toArray s 6 30 (va_A ([(h0, .inr (3, [.null]))]) sz)) (F0 m 23 ls []) := by
          intro fu
          induction fu with
          | zero => intro j N9 hfu; exact absurd hfu (Nat.not_lt_zero _)
          | succ fu ih =>
            intro j N9 hfu hj h9 H locs hP hD hS ls hl
            have ih23 := ih
            refine lv_iload_n hx hb dX3_init_23 rfl (lv_at hl 2 rfl) ?_
            refine lv_iconst (v := nI 5) hx hb dX3_init_24 (by decide) ?_
            refine ob_icmp_ge (tgt := 53) hx hb (by omega) (by omega) dX3_init_25 (by decide) (fun c25 => ?_) (fun c25 => ?_)
            · refine ob_inc (k := 1) (lv' := [(1, .int (nI (i + 1))), (0, .ref (ao 0)), (2, .int (nI j))]) hx hb dX3_init_53 hl rfl (by decide) rfl (fun ls hl => ?_)
              refine lv_goto (tgt := 16) hx hb dX3_init_56 (by decide) ?_
              exact ih16 (i + 1) N9 (by omega) (by omega) (by first | (rfl; done) | (rw [h9, show j = 5 by omega, h8]; rfl)) _ _ hP (ob_dO hD) hS _ (lv_sub hl [1, 0] rfl)
            · refine lv_aload_n hx hb dX3_init_28 rfl (lv_at hl 0 rfl) ?_
              refine va_get (ci := 3) (C := RX3) (T := TX3) (N := 1) hx hb hts (fun w h => List.mem_cons_of_mem _ (List.mem_append_right _ (h))) hown hK hP 0 rfl rfl 0 (by decide) (hts (Cond.fieldLink RX3 11 "OutageBook$Offsets" "differences" "[[I") (List.mem_of_getElem? (i := 6) rfl)) (fun _ h9 => h9) rfl dX3_init_29 ?_
              refine lv_iload_n hx hb dX3_init_32 rfl (lv_at hl 1 rfl) ?_
              refine ob_aald (r := ao (2 + i)) hx hb hK hP 1 3 rfl rfl rfl (show i < 5 from (by omega)) (by decide) (if_pos (by omega)) dX3_init_33 ?_
              refine lv_iload_n hx hb dX3_init_34 rfl (lv_at hl 2 rfl) ?_
              refine lv_iload_n hx hb dX3_init_35 rfl (lv_at hl 1 rfl) ?_
              refine lv_iload_n hx hb dX3_init_36 rfl (lv_at hl 2 rfl) ?_
              refine ob_icmp_ne (tgt := 44) hx hb (by omega) (by omega) dX3_init_37 (by decide) (fun c37 => ?_) (fun c37 => ?_)
              · refine lv_ldc (v := 1000000) hx hb hown (hts (Cond.constant RX3 16 (1000000)) (List.mem_of_getElem? (i := 7) rfl)) dX3_init_44 ?_
                refine ob_iast hx hb hK hP hD hS (2 + i) 0 (ob_rO (by omega)) rfl (by omega) (by decide) dX3_init_46 (fun H locs hP hD hS => ?_)
                rw [ob_sO (by omega)] at hP hD
                have hP : va_P D vwCl (ob_wO t ao (ob_up2 N9 i j 1000000)) H := hP
                have hD : va_D (va_A ([(h0, .inr (3, [.null]))]) sz) (ob_wO t ao (ob_up2 N9 i j 1000000)) := hD
                refine ob_inc (k := 2) (lv' := [(2, .int (nI (j + 1))), (0, .ref (ao 0)), (1, .int (nI i))]) hx hb dX3_init_47 hl rfl (by decide) rfl (fun ls hl => ?_)
                refine lv_goto (tgt := 23) hx hb dX3_init_50 (by decide) ?_
                exact ih23 (j + 1) (ob_up2 N9 i j 1000000) (by omega) (by omega) (by first | (rfl; done) | (rw [ob_iI, ← h9, if_neg c37]; done) | (rw [ob_iI, ← h9, if_pos c37]; done)) _ _ hP (ob_dO hD) hS _ (lv_sub hl [1, 2, 0] rfl)
              · refine lv_iconst (v := nI 0) hx hb dX3_init_40 (by decide) ?_
                refine lv_goto (tgt := 46) hx hb dX3_init_41 (by decide) ?_
                refine ob_iast hx hb hK hP hD hS (2 + i) 0 (ob_rO (by omega)) rfl (by omega) (by decide) dX3_init_46 (fun H locs hP hD hS => ?_)
                rw [ob_sO (by omega)] at hP hD
                have hP : va_P D vwCl (ob_wO t ao (ob_up2 N9 i j (nI 0))) H := hP
                have hD : va_D (va_A ([(h0, .inr (3, [.null]))]) sz) (ob_wO t ao (ob_up2 N9 i j (nI 0))) := hD
                refine ob_inc (k := 2) (lv' := [(2, .int (nI (j + 1))), (0, .ref (ao 0)), (1, .int (nI i))]) hx hb dX3_init_47 hl rfl (by decide) rfl (fun ls hl => ?_)
                refine lv_goto (tgt := 23) hx hb dX3_init_50 (by decide) ?_
                exact ih23 (j + 1) (ob_up2 N9 i j (nI 0)) (by omega) (by omega) (by first | (rfl; done) | (rw [ob_iI, ← h9, if_neg c37]; done) | (rw [ob_iI, ← h9, if_pos c37]; done)) _ _ hP (ob_dO hD) hS _ (lv_sub hl [1, 2, 0] rfl)
        exact k23 _ 0 N8 (Nat.lt_succ_self _) (by omega) (by first | (rfl; done) | (rw [ob_iI, ← h9, if_neg c37]; done) | (rw [ob_iI, ← h9, if_pos c37]; done)) _ _ hP (ob_dO hD) hS _ (lv_sub hl [1, 2, 0] rfl)
  exact k16 _ 0 (fun _ _ => 0) (Nat.lt_succ_self _) (by omega) (by first | (rfl; done) | (rw [h9, show j = 5 by omega, h8]; rfl)) _ _ hP (ob_dO hD) hS _ (lv_sub hl [1, 0] rfl)
