/-- the start of OutageBook() -/
def ob_Pb (D : va_G) (t : Nat → ClassId) (ws : va_W) (sz : Nat) (av : List Value) : Array Value → State → Prop := va_Pc av (fun U => U.heap.size = sz ∧ va_P D vwCl ws U.heap ∧ ob_kx D t U ∧ va_D (fun _ => True) ws ∧ va_AOA .int U ∧ va_Nw (.methodLinkNest RX4 18 yX1_init RX4) U ∧ va_Nw (.methodLinkNest RX4 25 yX2_init RX4) U ∧ va_Nw (.methodLinkNest RX4 32 yX0_init RX4) U)
theorem ob_pbS {D : va_G} {t : Nat → ClassId} {ws : va_W} {A : Nat → Prop} {H : Heap} {s : State} {av : List Value} (hP : va_P D vwCl ws H) (hD : va_D A ws) (hk : ob_kx D t s) (hO : va_AOA .int s) (n1 : va_Nw (.methodLinkNest RX4 18 yX1_init RX4) s) (n2 : va_Nw (.methodLinkNest RX4 25 yX2_init RX4) s) (n3 : va_Nw (.methodLinkNest RX4 32 yX0_init RX4) s) : PreS s H (ob_Pb D t ws H.size av) av :=
  ⟨fun a U g mk q => ⟨q.1, q.2.1, q.2.2.1, q.2.2.2.1.call, q.2.2.2.2.1, va_AOA.moved (u := U) (U := U.calling g mk a) (Vm.Alike.refl U.vm) q.2.2.2.2.2.1, va_Nw.same (u := U) (U := U.calling g mk a) rfl rfl q.2.2.2.2.2.2.1, va_Nw.same (u := U) (U := U.calling g mk a) rfl rfl q.2.2.2.2.2.2.2.1, va_Nw.same (u := U) (U := U.calling g mk a) rfl rfl q.2.2.2.2.2.2.2.2⟩, fun U hU hW => ⟨rfl, by rw [hU], by rw [hU]; exact hP, hk.warm hW, hD.weaken (fun _ _ _ _ => trivial), va_AOA.moved hW.alike hO, va_Nw.warmM hW n1, va_Nw.warmM hW n2, va_Nw.warmM hW n3⟩⟩
set_option maxRecDepth 100000 in
set_option maxHeartbeats 8000000 in
theorem c_X4_init (l : Launch) (D : va_G) (t : Nat → ClassId) (sz h0 : Nat) : Met l yX4_init wsX4_init ({ frames := 2, cells := 39, slots := 4786, locals := 34 } : Room) (ob_Pb D t ([(h0, .inr (4, [.null, .null, .null, .null]))]) sz [.ref h0]) (va_Qv (fun _ : Unit => True) (fun (_ : Unit) (t9 : State) => ∃ ao al am ac : Nat → Nat, va_P D vwCl (ob_wX h0 ao al am ac ++ ob_wO t ao (ob_iO (fun _ _ => 0) 5) ++ ob_wL t al 0 (fun _ => 0) (fun _ => 0) (fun _ => 0) (fun _ => 0) (fun _ => 0) (fun _ => 0) (fun _ => 0) (fun _ => 0) ++ ob_wM t am 0 (fun _ => 0) (fun _ => 0) (fun _ => 0) (fun _ => 0) ++ ob_wC t ac 0 (nI 0) (fun _ _ => 0)) t9.heap ∧ va_D (va_A ([(h0, .inr (4, [.null, .null, .null, .null]))]) sz) (ob_wX h0 ao al am ac ++ ob_wO t ao (ob_iO (fun _ _ => 0) 5) ++ ob_wL t al 0 (fun _ => 0) (fun _ => 0) (fun _ => 0) (fun _ => 0) (fun _ => 0) (fun _ => 0) (fun _ => 0) (fun _ => 0) ++ ob_wM t am 0 (fun _ => 0) (fun _ => 0) (fun _ => 0) (fun _ => 0) ++ ob_wC t ac 0 (nI 0) (fun _ _ => 0))) (va_A ([(h0, .inr (4, [.null, .null, .null, .null]))]) sz)) 39 4786 (va_A ([(h0, .inr (4, [.null, .null, .null, .null]))]) sz) := by
  refine Met.ofW (cc := cX4_init) (maxL := 1) (ret := none) (by decide) rfl ?_
  intro p e s m args below meth c s₁ B hml hv
  obtain ⟨rfl, hsz, hP, hk, hD0, hO, n1, n2, n3⟩ := hv
  have hx := B.exec
  have hb := B.bytes
  have hr := B.returns
  have hts := atoms_spec (ws := wsX4_init) B.pre
  have hown : s.vm.findClass RX4 = some m.cls := findClass_of_methodNamed B.named
  have hlocks := B.notSynchronized
  have hin : meth.name = "<init>" := (name_of_methodNamed B.named B.method).1
  have hK := hk.1
  have hD : va_D (va_A ([(h0, .inr (4, [.null, .null, .null, .null]))]) sz) ([(h0, .inr (4, [.null, .null, .null, .null]))]) := hD0.self (sz := sz)
  have hA : ∀ q : Nat, s.heap.size ≤ q → (va_A ([(h0, .inr (4, [.null, .null, .null, .null]))]) sz) q := fun q h => Or.inr (hsz ▸ h)
  have hS : va_S (va_A ([(h0, .inr (4, [.null, .null, .null, .null]))]) sz) s.heap s.heap [] := va_S.rf
  have hl := lv_entry [.ref h0] (n := 1) (Nat.le_of_ble_eq_true rfl)
  rw [lg_entry_eq]
  generalize (lg_sl [.ref h0] ++ List.replicate (1 - (lg_sl [.ref h0]).length) Slot.unset).toArray = ls at hl ⊢
  have hl : lv_has ls 1 [(0, .ref h0)] := hl
  have hP : va_P D vwCl [(h0, .inr (4, [.null, .null, .null, .null]))] s.heap := hP
  refine lv_aload_n hx hb dX4_init_0 rfl (lv_at hl 0 rfl) ?_
  refine W.objInit hx hb hown (hts (Cond.methodLink RX4 1 objectInit) (List.mem_of_getElem? (i := 1) rfl)) (hts (Cond.instanceMethod objectInit) (List.mem_of_getElem? (i := 2) rfl)) (hts (Cond.code objectInit ⟨#[0xb1]⟩ 1 none) (List.mem_of_getElem? (i := 3) rfl)) rfl (by rw [hml]; exact hl.1) rfl dX4_init_1 (Nat.le_of_ble_eq_true rfl) (Nat.le_of_ble_eq_true rfl) ?_
  refine W.eq (g2 := F0 m 4 ls []) rfl ?_
  refine lv_aload_n hx hb dX4_init_4 rfl (lv_at hl 0 rfl) ?_
  refine va_new (ci := 3) (fs := [.null]) (C := RX3) (T := TX3) (N := 1) hx hb hts (fun w h => List.mem_cons_of_mem _ (List.mem_append_left _ (List.mem_append_left _ (List.mem_append_left _ (List.mem_append_left _ (List.mem_append_right _ (h))))))) tyX3 tyX3_ok hown (hts (Cond.classLink RX4 7 RX3) (List.mem_of_getElem? (i := 4) rfl)) (hts (Cond.instantiable RX3 1) (List.mem_of_getElem? (i := 5) rfl)) (hts (Cond.initialized RX3) (List.mem_of_getElem? (i := 6) rfl)) hK hP hD hS hA rfl (fun j hj => by match j, hj with | 0, _ => rfl | n + 1, h => exact absurd h (by omega)) (Nat.le_of_ble_eq_true rfl) (Nat.le_of_ble_eq_true rfl) dX4_init_5 (fun q5 H hP hD hS => ?_)
  refine W.widen (k := 1) (n := 1) (Nat.le_of_ble_eq_true rfl) (Nat.le_of_ble_eq_true rfl) ?_
  have hP : va_P D vwCl (([(h0, .inr (4, [.null, .null, .null, .null]))]) ++ [(q5, .inr (3, [.null]))]) H := hP
  have hD : va_D (va_A ([(h0, .inr (4, [.null, .null, .null, .null]))]) sz) (([(h0, .inr (4, [.null, .null, .null, .null]))]) ++ [(q5, .inr (3, [.null]))]) := hD
  refine lv_dup hx hb dX4_init_8 rfl ?_
  have hPc := hP.sub (ws' := [(q5, .inr (3, [.null]))]) [1] rfl
  have hDc := hD.sub (ws' := [(q5, .inr (3, [.null]))]) [1] (by decide) rfl
  have hFc := va_free (wc := [(q5, .inr (3, [.null]))]) hD hS hA [1] rfl
  refine va_callv (va_runI (As := []) (rest := [.ref q5, .ref h0]) ⟨hx, hb, hml, hown, hts⟩ (c_X3_init l D t H.size q5) (cwI 0 hts gX4_init_X3_init rfl rfl rfl (hts (Cond.initialized RX3) (List.mem_of_getElem? (i := 6) rfl)) (hts (Cond.methodLink RX4 9 yX3_init) (List.mem_of_getElem? (i := 20) rfl)) (hts (Cond.instanceMethod yX3_init) (List.mem_of_getElem? (i := 21) rfl)) rfl (by decide +kernel) ⟨Nat.le_of_ble_eq_true rfl, Nat.le_of_ble_eq_true rfl⟩) (ob_pkS hPc hDc hk hO) rfl rfl hl.1 rfl (lv_room (Nat.le_of_ble_eq_true rfl)) dX4_init_9 ⟨Nat.le_of_ble_eq_true rfl, Nat.le_of_ble_eq_true rfl⟩) hS (fun q _ h => hFc q h) hFc (fun u9 t9 H1 locs ht hvm hw9 hB hz1 hk1 hS => ?_)
  refine W.widen (k := 7) (n := 31) (Nat.le_of_ble_eq_true rfl) (Nat.le_of_ble_eq_true rfl) ?_
  obtain ⟨ao, e5, hP1, hD1⟩ := hB
  rw [ht] at hP1
  obtain ⟨hP2, hD2⟩ := va_join (wr := [(h0, .inr (4, [.null, .null, .null, .null]))]) (w1 := ob_wO t ao (ob_iO (fun _ _ => 0) 5)) hP hD [1] [0] rfl rfl (by decide) (by decide) hk1 hFc hP1 hD1
  subst e5
  generalize H1 = H at hP2 hS ⊢
  have hP := hP2
  have hD := hD2
  refine va_putF (ci := 4) (v := .ref (ao 0)) (ty := .object "OutageBook$Offsets") (C := RX4) (T := TX4) (N := 4) hx hb hts (fun w h => List.mem_cons_of_mem _ (List.mem_append_left _ (List.mem_append_left _ (List.mem_append_left _ (List.mem_append_right _ (h)))))) tyX4 tyX4_ok nmX4 hown hK hP hD hS 0 rfl rfl 0 (by decide) (hts (Cond.fieldLink RX4 10 "OutageBook" "offsets" "LOutageBook$Offsets;") (List.mem_of_getElem? (i := 7) rfl)) (fun _ h9 => h9) rfl hin rfl (by decide +kernel) rfl rfl (Nat.le_of_ble_eq_true rfl) dX4_init_12 (fun H locs hP hD hS => ?_)
  have hP : va_P D vwCl ([(h0, .inr (4, [.ref (ao 0), .null, .null, .null]))] ++ ob_wO t ao (ob_iO (fun _ _ => 0) 5)) H := hP
  have hD : va_D (va_A ([(h0, .inr (4, [.null, .null, .null, .null]))]) sz) ([(h0, .inr (4, [.ref (ao 0), .null, .null, .null]))] ++ ob_wO t ao (ob_iO (fun _ _ => 0) 5)) := hD
  refine lv_aload_n hx hb dX4_init_15 rfl (lv_at hl 0 rfl) ?_
  refine va_new (ci := 1) (fs := [.null, .null, .null, .null, .null, .null, .null, .null, .int 0]) (C := RX1) (T := TX1) (N := 9) hx hb hts (fun w h => List.mem_cons_of_mem _ (List.mem_append_left _ (List.mem_append_left _ (List.mem_append_right _ (h))))) tyX1 tyX1_ok hown (hts (Cond.classLink RX4 16 RX1) (List.mem_of_getElem? (i := 8) rfl)) (hts (Cond.instantiable RX1 9) (List.mem_of_getElem? (i := 9) rfl)) (hts (Cond.initialized RX1) (List.mem_of_getElem? (i := 10) rfl)) hK hP hD hS hA rfl (fun j hj => by match j, hj with | 0, _ => rfl | 1, _ => rfl | 2, _ => rfl | 3, _ => rfl | 4, _ => rfl | 5, _ => rfl | 6, _ => rfl | 7, _ => rfl | 8, _ => rfl | n + 9, h => exact absurd h (by omega)) (Nat.le_of_ble_eq_true rfl) (Nat.le_of_ble_eq_true rfl) dX4_init_16 (fun q16 H hP hD hS => ?_)
  refine W.widen (k := 8) (n := 40) (Nat.le_of_ble_eq_true rfl) (Nat.le_of_ble_eq_true rfl) ?_
  have hP : va_P D vwCl (([(h0, .inr (4, [.ref (ao 0), .null, .null, .null]))] ++ ob_wO t ao (ob_iO (fun _ _ => 0) 5)) ++ [(q16, .inr (1, [.null, .null, .null, .null, .null, .null, .null, .null, .int 0]))]) H := hP
  have hD : va_D (va_A ([(h0, .inr (4, [.null, .null, .null, .null]))]) sz) (([(h0, .inr (4, [.ref (ao 0), .null, .null, .null]))] ++ ob_wO t ao (ob_iO (fun _ _ => 0) 5)) ++ [(q16, .inr (1, [.null, .null, .null, .null, .null, .null, .null, .null, .int 0]))]) := hD
  refine lv_dup hx hb dX4_init_19 rfl ?_
  have hPc := hP.sub (ws' := [(q16, .inr (1, [.null, .null, .null, .null, .null, .null, .null, .null, .int 0]))]) [8] rfl
  have hDc := hD.sub (ws' := [(q16, .inr (1, [.null, .null, .null, .null, .null, .null, .null, .null, .int 0]))]) [8] (by decide) rfl
  have hFc := va_free (wc := [(q16, .inr (1, [.null, .null, .null, .null, .null, .null, .null, .null, .int 0]))]) hD hS hA [8] rfl
  refine va_callv (va_runIN (As := []) (rest := [.ref q16, .ref h0]) ⟨hx, hb, hml, hown, hts⟩ (c_X1_init l D t H.size q16) ⟨va_cnB 0 hts gX4_init_X1_init_n18 rfl rfl rfl n1 (hts (Cond.initialized RX1) (List.mem_of_getElem? (i := 10) rfl)) (by decide +kernel) ⟨Nat.le_of_ble_eq_true rfl, Nat.le_of_ble_eq_true rfl⟩, rfl, (hts (Cond.instanceMethod yX1_init) (List.mem_of_getElem? (i := 28) rfl))⟩ (ob_pkS hPc hDc hk hO) rfl rfl hl.1 rfl (lv_room (Nat.le_of_ble_eq_true rfl)) dX4_init_20 ⟨Nat.le_of_ble_eq_true rfl, Nat.le_of_ble_eq_true rfl⟩) hS (fun q _ h => hFc q h) hFc (fun u9 t9 H1 locs ht hvm hw9 hB hz1 hk1 hS => ?_)
  refine W.widen (k := 16) (n := 4346) (Nat.le_of_ble_eq_true rfl) (Nat.le_of_ble_eq_true rfl) ?_
  obtain ⟨al, e16, hP1, hD1⟩ := hB
  rw [ht] at hP1
  obtain ⟨hP2, hD2⟩ := va_join (wr := [(h0, .inr (4, [.ref (ao 0), .null, .null, .null]))] ++ ob_wO t ao (ob_iO (fun _ _ => 0) 5)) (w1 := ob_wL t al 0 (fun _ => 0) (fun _ => 0) (fun _ => 0) (fun _ => 0) (fun _ => 0) (fun _ => 0) (fun _ => 0) (fun _ => 0)) hP hD [8] [0, 1, 2, 3, 4, 5, 6, 7] rfl rfl (by decide) (by decide) hk1 hFc hP1 hD1
  subst e16
  generalize H1 = H at hP2 hS ⊢
  have hP := hP2
  have hD := hD2
  refine va_putF (ci := 4) (v := .ref (al 0)) (ty := .object "OutageBook$Log") (C := RX4) (T := TX4) (N := 4) hx hb hts (fun w h => List.mem_cons_of_mem _ (List.mem_append_left _ (List.mem_append_left _ (List.mem_append_left _ (List.mem_append_right _ (h)))))) tyX4 tyX4_ok nmX4 hown hK hP hD hS 0 rfl rfl 1 (by decide) (hts (Cond.fieldLink RX4 19 "OutageBook" "log" "LOutageBook$Log;") (List.mem_of_getElem? (i := 11) rfl)) (fun _ h9 => h9) rfl hin rfl (by decide +kernel) rfl rfl (Nat.le_of_ble_eq_true rfl) dX4_init_23 (fun H locs hP hD hS => ?_)
  have hP : va_P D vwCl ([(h0, .inr (4, [.ref (ao 0), .ref (al 0), .null, .null]))] ++ ob_wO t ao (ob_iO (fun _ _ => 0) 5) ++ ob_wL t al 0 (fun _ => 0) (fun _ => 0) (fun _ => 0) (fun _ => 0) (fun _ => 0) (fun _ => 0) (fun _ => 0) (fun _ => 0)) H := hP
  have hD : va_D (va_A ([(h0, .inr (4, [.null, .null, .null, .null]))]) sz) ([(h0, .inr (4, [.ref (ao 0), .ref (al 0), .null, .null]))] ++ ob_wO t ao (ob_iO (fun _ _ => 0) 5) ++ ob_wL t al 0 (fun _ => 0) (fun _ => 0) (fun _ => 0) (fun _ => 0) (fun _ => 0) (fun _ => 0) (fun _ => 0) (fun _ => 0)) := hD
  refine lv_aload_n hx hb dX4_init_26 rfl (lv_at hl 0 rfl) ?_
  refine va_new (ci := 2) (fs := [.null, .null, .null, .null, .int 0]) (C := RX2) (T := TX2) (N := 5) hx hb hts (fun w h => List.mem_cons_of_mem _ (List.mem_append_left _ (List.mem_append_right _ (h)))) tyX2 tyX2_ok hown (hts (Cond.classLink RX4 23 RX2) (List.mem_of_getElem? (i := 12) rfl)) (hts (Cond.instantiable RX2 5) (List.mem_of_getElem? (i := 13) rfl)) (hts (Cond.initialized RX2) (List.mem_of_getElem? (i := 14) rfl)) hK hP hD hS hA rfl (fun j hj => by match j, hj with | 0, _ => rfl | 1, _ => rfl | 2, _ => rfl | 3, _ => rfl | 4, _ => rfl | n + 5, h => exact absurd h (by omega)) (Nat.le_of_ble_eq_true rfl) (Nat.le_of_ble_eq_true rfl) dX4_init_27 (fun q27 H hP hD hS => ?_)
  refine W.widen (k := 17) (n := 4351) (Nat.le_of_ble_eq_true rfl) (Nat.le_of_ble_eq_true rfl) ?_
  have hP : va_P D vwCl (([(h0, .inr (4, [.ref (ao 0), .ref (al 0), .null, .null]))] ++ ob_wO t ao (ob_iO (fun _ _ => 0) 5) ++ ob_wL t al 0 (fun _ => 0) (fun _ => 0) (fun _ => 0) (fun _ => 0) (fun _ => 0) (fun _ => 0) (fun _ => 0) (fun _ => 0)) ++ [(q27, .inr (2, [.null, .null, .null, .null, .int 0]))]) H := hP
  have hD : va_D (va_A ([(h0, .inr (4, [.null, .null, .null, .null]))]) sz) (([(h0, .inr (4, [.ref (ao 0), .ref (al 0), .null, .null]))] ++ ob_wO t ao (ob_iO (fun _ _ => 0) 5) ++ ob_wL t al 0 (fun _ => 0) (fun _ => 0) (fun _ => 0) (fun _ => 0) (fun _ => 0) (fun _ => 0) (fun _ => 0) (fun _ => 0)) ++ [(q27, .inr (2, [.null, .null, .null, .null, .int 0]))]) := hD
  refine lv_dup hx hb dX4_init_30 rfl ?_
  have hPc := hP.sub (ws' := [(q27, .inr (2, [.null, .null, .null, .null, .int 0]))]) [17] rfl
  have hDc := hD.sub (ws' := [(q27, .inr (2, [.null, .null, .null, .null, .int 0]))]) [17] (by decide) rfl
  have hFc := va_free (wc := [(q27, .inr (2, [.null, .null, .null, .null, .int 0]))]) hD hS hA [17] rfl
  refine va_callv (va_runIN (As := []) (rest := [.ref q27, .ref h0]) ⟨hx, hb, hml, hown, hts⟩ (c_X2_init l D t H.size q27) ⟨va_cnB 0 hts gX4_init_X2_init_n25 rfl rfl rfl n2 (hts (Cond.initialized RX2) (List.mem_of_getElem? (i := 14) rfl)) (by decide +kernel) ⟨Nat.le_of_ble_eq_true rfl, Nat.le_of_ble_eq_true rfl⟩, rfl, (hts (Cond.instanceMethod yX2_init) (List.mem_of_getElem? (i := 42) rfl))⟩ (ob_pkS hPc hDc hk hO) rfl rfl hl.1 rfl (lv_room (Nat.le_of_ble_eq_true rfl)) dX4_init_31 ⟨Nat.le_of_ble_eq_true rfl, Nat.le_of_ble_eq_true rfl⟩) hS (fun q _ h => hFc q h) hFc (fun u9 t9 H1 locs ht hvm hw9 hB hz1 hk1 hS => ?_)
  refine W.widen (k := 21) (n := 4511) (Nat.le_of_ble_eq_true rfl) (Nat.le_of_ble_eq_true rfl) ?_
  obtain ⟨am, e27, hP1, hD1⟩ := hB
  rw [ht] at hP1
  obtain ⟨hP2, hD2⟩ := va_join (wr := [(h0, .inr (4, [.ref (ao 0), .ref (al 0), .null, .null]))] ++ ob_wO t ao (ob_iO (fun _ _ => 0) 5) ++ ob_wL t al 0 (fun _ => 0) (fun _ => 0) (fun _ => 0) (fun _ => 0) (fun _ => 0) (fun _ => 0) (fun _ => 0) (fun _ => 0)) (w1 := ob_wM t am 0 (fun _ => 0) (fun _ => 0) (fun _ => 0) (fun _ => 0)) hP hD [17] [0, 1, 2, 3, 4, 5, 6, 7, 8, 9, 10, 11, 12, 13, 14, 15, 16] rfl rfl (by decide) (by decide) hk1 hFc hP1 hD1
  subst e27
  generalize H1 = H at hP2 hS ⊢
  have hP := hP2
  have hD := hD2
  refine va_putF (ci := 4) (v := .ref (am 0)) (ty := .object "OutageBook$Measures") (C := RX4) (T := TX4) (N := 4) hx hb hts (fun w h => List.mem_cons_of_mem _ (List.mem_append_left _ (List.mem_append_left _ (List.mem_append_left _ (List.mem_append_right _ (h)))))) tyX4 tyX4_ok nmX4 hown hK hP hD hS 0 rfl rfl 2 (by decide) (hts (Cond.fieldLink RX4 26 "OutageBook" "measures" "LOutageBook$Measures;") (List.mem_of_getElem? (i := 15) rfl)) (fun _ h9 => h9) rfl hin rfl (by decide +kernel) rfl rfl (Nat.le_of_ble_eq_true rfl) dX4_init_34 (fun H locs hP hD hS => ?_)
  have hP : va_P D vwCl ([(h0, .inr (4, [.ref (ao 0), .ref (al 0), .ref (am 0), .null]))] ++ ob_wO t ao (ob_iO (fun _ _ => 0) 5) ++ ob_wL t al 0 (fun _ => 0) (fun _ => 0) (fun _ => 0) (fun _ => 0) (fun _ => 0) (fun _ => 0) (fun _ => 0) (fun _ => 0) ++ ob_wM t am 0 (fun _ => 0) (fun _ => 0) (fun _ => 0) (fun _ => 0)) H := hP
  have hD : va_D (va_A ([(h0, .inr (4, [.null, .null, .null, .null]))]) sz) ([(h0, .inr (4, [.ref (ao 0), .ref (al 0), .ref (am 0), .null]))] ++ ob_wO t ao (ob_iO (fun _ _ => 0) 5) ++ ob_wL t al 0 (fun _ => 0) (fun _ => 0) (fun _ => 0) (fun _ => 0) (fun _ => 0) (fun _ => 0) (fun _ => 0) (fun _ => 0) ++ ob_wM t am 0 (fun _ => 0) (fun _ => 0) (fun _ => 0) (fun _ => 0)) := hD
  refine lv_aload_n hx hb dX4_init_37 rfl (lv_at hl 0 rfl) ?_
  refine va_new (ci := 0) (fs := [.null, .int 0, .int 0]) (C := RX0) (T := TX0) (N := 3) hx hb hts (fun w h => List.mem_cons_of_mem _ (List.mem_append_right _ (h))) tyX0 tyX0_ok hown (hts (Cond.classLink RX4 30 RX0) (List.mem_of_getElem? (i := 16) rfl)) (hts (Cond.instantiable RX0 3) (List.mem_of_getElem? (i := 17) rfl)) (hts (Cond.initialized RX0) (List.mem_of_getElem? (i := 18) rfl)) hK hP hD hS hA rfl (fun j hj => by match j, hj with | 0, _ => rfl | 1, _ => rfl | 2, _ => rfl | n + 3, h => exact absurd h (by omega)) (Nat.le_of_ble_eq_true rfl) (Nat.le_of_ble_eq_true rfl) dX4_init_38 (fun q38 H hP hD hS => ?_)
  refine W.widen (k := 22) (n := 4514) (Nat.le_of_ble_eq_true rfl) (Nat.le_of_ble_eq_true rfl) ?_
  have hP : va_P D vwCl (([(h0, .inr (4, [.ref (ao 0), .ref (al 0), .ref (am 0), .null]))] ++ ob_wO t ao (ob_iO (fun _ _ => 0) 5) ++ ob_wL t al 0 (fun _ => 0) (fun _ => 0) (fun _ => 0) (fun _ => 0) (fun _ => 0) (fun _ => 0) (fun _ => 0) (fun _ => 0) ++ ob_wM t am 0 (fun _ => 0) (fun _ => 0) (fun _ => 0) (fun _ => 0)) ++ [(q38, .inr (0, [.null, .int 0, .int 0]))]) H := hP
  have hD : va_D (va_A ([(h0, .inr (4, [.null, .null, .null, .null]))]) sz) (([(h0, .inr (4, [.ref (ao 0), .ref (al 0), .ref (am 0), .null]))] ++ ob_wO t ao (ob_iO (fun _ _ => 0) 5) ++ ob_wL t al 0 (fun _ => 0) (fun _ => 0) (fun _ => 0) (fun _ => 0) (fun _ => 0) (fun _ => 0) (fun _ => 0) (fun _ => 0) ++ ob_wM t am 0 (fun _ => 0) (fun _ => 0) (fun _ => 0) (fun _ => 0)) ++ [(q38, .inr (0, [.null, .int 0, .int 0]))]) := hD
  refine lv_dup hx hb dX4_init_41 rfl ?_
  have hPc := hP.sub (ws' := [(q38, .inr (0, [.null, .int 0, .int 0]))]) [22] rfl
  have hDc := hD.sub (ws' := [(q38, .inr (0, [.null, .int 0, .int 0]))]) [22] (by decide) rfl
  have hFc := va_free (wc := [(q38, .inr (0, [.null, .int 0, .int 0]))]) hD hS hA [22] rfl
  refine va_callv (va_runIN (As := []) (rest := [.ref q38, .ref h0]) ⟨hx, hb, hml, hown, hts⟩ (c_X0_init l D t H.size q38) ⟨va_cnB 0 hts gX4_init_X0_init_n32 rfl rfl rfl n3 (hts (Cond.initialized RX0) (List.mem_of_getElem? (i := 18) rfl)) (by decide +kernel) ⟨Nat.le_of_ble_eq_true rfl, Nat.le_of_ble_eq_true rfl⟩, rfl, (hts (Cond.instanceMethod yX0_init) (List.mem_of_getElem? (i := 50) rfl))⟩ (ob_pkS hPc hDc hk hO) rfl rfl hl.1 rfl (lv_room (Nat.le_of_ble_eq_true rfl)) dX4_init_42 ⟨Nat.le_of_ble_eq_true rfl, Nat.le_of_ble_eq_true rfl⟩) hS (fun q _ h => hFc q h) hFc (fun u9 t9 H1 locs ht hvm hw9 hB hz1 hk1 hS => ?_)
  refine W.widen (k := 39) (n := 4786) (Nat.le_of_ble_eq_true rfl) (Nat.le_of_ble_eq_true rfl) ?_
  obtain ⟨ac, e38, hP1, hD1⟩ := hB
  rw [ht] at hP1
  obtain ⟨hP2, hD2⟩ := va_join (wr := [(h0, .inr (4, [.ref (ao 0), .ref (al 0), .ref (am 0), .null]))] ++ ob_wO t ao (ob_iO (fun _ _ => 0) 5) ++ ob_wL t al 0 (fun _ => 0) (fun _ => 0) (fun _ => 0) (fun _ => 0) (fun _ => 0) (fun _ => 0) (fun _ => 0) (fun _ => 0) ++ ob_wM t am 0 (fun _ => 0) (fun _ => 0) (fun _ => 0) (fun _ => 0)) (w1 := ob_wC t ac 0 (nI 0) (fun _ _ => 0)) hP hD [22] [0, 1, 2, 3, 4, 5, 6, 7, 8, 9, 10, 11, 12, 13, 14, 15, 16, 17, 18, 19, 20, 21] rfl rfl (by decide) (by decide) hk1 hFc hP1 hD1
  subst e38
  generalize H1 = H at hP2 hS ⊢
  have hP := hP2
  have hD := hD2
  refine va_putF (ci := 4) (v := .ref (ac 0)) (ty := .object "OutageBook$Causes") (C := RX4) (T := TX4) (N := 4) hx hb hts (fun w h => List.mem_cons_of_mem _ (List.mem_append_left _ (List.mem_append_left _ (List.mem_append_left _ (List.mem_append_right _ (h)))))) tyX4 tyX4_ok nmX4 hown hK hP hD hS 0 rfl rfl 3 (by decide) (hts (Cond.fieldLink RX4 33 "OutageBook" "causes" "LOutageBook$Causes;") (List.mem_of_getElem? (i := 19) rfl)) (fun _ h9 => h9) rfl hin rfl (by decide +kernel) rfl rfl (Nat.le_of_ble_eq_true rfl) dX4_init_45 (fun H locs hP hD hS => ?_)
  have hP : va_P D vwCl ([(h0, .inr (4, [.ref (ao 0), .ref (al 0), .ref (am 0), .ref (ac 0)]))] ++ ob_wO t ao (ob_iO (fun _ _ => 0) 5) ++ ob_wL t al 0 (fun _ => 0) (fun _ => 0) (fun _ => 0) (fun _ => 0) (fun _ => 0) (fun _ => 0) (fun _ => 0) (fun _ => 0) ++ ob_wM t am 0 (fun _ => 0) (fun _ => 0) (fun _ => 0) (fun _ => 0) ++ ob_wC t ac 0 (nI 0) (fun _ _ => 0)) H := hP
  have hD : va_D (va_A ([(h0, .inr (4, [.null, .null, .null, .null]))]) sz) ([(h0, .inr (4, [.ref (ao 0), .ref (al 0), .ref (am 0), .ref (ac 0)]))] ++ ob_wO t ao (ob_iO (fun _ _ => 0) 5) ++ ob_wL t al 0 (fun _ => 0) (fun _ => 0) (fun _ => 0) (fun _ => 0) (fun _ => 0) (fun _ => 0) (fun _ => 0) (fun _ => 0) ++ ob_wM t am 0 (fun _ => 0) (fun _ => 0) (fun _ => 0) (fun _ => 0) ++ ob_wC t ac 0 (nI 0) (fun _ _ => 0)) := hD
  exact W.vret hx hb hr (fun t9 ht hW => ⟨⟨(), rfl, trivial, ao, al, am, ac, ob_th ht hP, hD⟩, hS.F ht⟩) hS.2.2 dX4_init_48
