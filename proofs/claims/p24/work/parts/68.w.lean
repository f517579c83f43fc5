set_option maxRecDepth 100000 in
set_option maxHeartbeats 8000000 in
theorem y_mark_ok (l : Launch) (hl9 : l.stackTraces = false) (sa : Nat → Nat) (D : va_G) (t : Nat → ClassId) (sz : Nat) (ax : Nat) (ao al am ac : Nat → Nat) (M : Nat → Nat → Int32) (n : Nat) (cl rd sv pb ba bf od : Nat → Int32) (bg : Nat → Int64) (x1 x2 x3 x4 x5 : Int32) (hn : n ≤ 30) (hz : (ob_z2 (ob_wi x1 (nI 0) (nI 4) && (ob_wi x3 (nI 0) (nI 4) && (!decide (x1 = x3) && (ob_wi x2 (nI 0) (nI 10000) && (ob_wi x4 (nI 0) (nI 10000) && ob_wi x5 (nI 0) (nI 1000)))))) (decide (-(x4 - x2 + x5) ≤ ob_ms M x3 x1) && decide (-(x5 - (x4 - x2)) ≤ ob_ms M x1 x3))) = 0) : vx_Met l yL_mark wsL_mark ({ frames := 7, cells := 1, slots := 6, locals := 161 } : Room) (ob_PY D t (ob_wX ax ao al am ac ++ ob_wO t ao M ++ ob_wL t al n cl rd sv pb ba bf od bg) sz sa [.ref ax, .int x1, .int x2, .int x3, .int x4, .int x5]) (va_Qi (fun (r : Int32) (_ : Unit) => r = nI 0) (fun (_ : Unit) (t9 : State) => va_P D vwCl (ob_wX ax ao al am ac ++ ob_wO t ao (ob_mk M x1.toNatClampNeg x3.toNatClampNeg x2 x4 x5) ++ ob_wL t al n cl rd sv pb ba (ob_bf2 (ob_mk M x1.toNatClampNeg x3.toNatClampNeg x2 x4 x5) cl rd n bf n) (ob_od2 (ob_bf2 (ob_mk M x1.toNatClampNeg x3.toNatClampNeg x2 x4 x5) cl rd n bf n) n od n) bg) t9.heap) (va_A (ob_wX ax ao al am ac ++ ob_wO t ao M ++ ob_wL t al n cl rd sv pb ba bf od bg) sz)) (fun _ _ _ => False) 1 6 (va_A (ob_wX ax ao al am ac ++ ob_wO t ao M ++ ob_wL t al n cl rd sv pb ba bf od bg) sz) := by
  refine vx_ofWH (cc := cL_mark) (maxL := 7) (ret := (some .int)) (hh := [(0, 12, 13, 15), (0, 12, 18, 18)]) (by decide) rfl ?_
  intro p e s m args below meth c s₁ B hml hv
  obtain ⟨rfl, hsz, hP, hk, hD0, hE9, hN⟩ := hv
  have hE := hE9.2.2
  have hx := B.exec
  have hb := B.bytes
  have hr := B.returns
  have hts := atoms_spec (ws := wsL_mark) B.pre
  have hown : s.vm.findClass RL = some m.cls := findClass_of_methodNamed B.named
  have hlocks := B.notSynchronized
  have hK := hk.1
  have htab := vx_table (x := yL_mark) B (hts (Cond.codeWith yL_mark cL_mark 7 (some .int) [(0, 12, 13, 15), (0, 12, 18, 18)]) (List.mem_of_getElem? (i := 0) rfl))
  have hD : va_D (va_A (ob_wX ax ao al am ac ++ ob_wO t ao M ++ ob_wL t al n cl rd sv pb ba bf od bg) sz) (ob_wX ax ao al am ac ++ ob_wO t ao M ++ ob_wL t al n cl rd sv pb ba bf od bg) := hD0.self (sz := sz)
  have hA : ∀ q : Nat, s.heap.size ≤ q → (va_A (ob_wX ax ao al am ac ++ ob_wO t ao M ++ ob_wL t al n cl rd sv pb ba bf od bg) sz) q := fun q h => Or.inr (hsz ▸ h)
  have hS : va_S (va_A (ob_wX ax ao al am ac ++ ob_wO t ao M ++ ob_wL t al n cl rd sv pb ba bf od bg) sz) s.heap s.heap [] := va_S.rf
  have hl := lv_entry [.ref ax, .int x1, .int x2, .int x3, .int x4, .int x5] (n := 7) (Nat.le_of_ble_eq_true rfl)
  rw [lg_entry_eq]
  generalize (lg_sl [.ref ax, .int x1, .int x2, .int x3, .int x4, .int x5] ++ List.replicate (7 - (lg_sl [.ref ax, .int x1, .int x2, .int x3, .int x4, .int x5]).length) Slot.unset).toArray = ls at hl ⊢
  have hl : lv_has ls 7 [(0, .ref ax), (1, .int x1), (2, .int x2), (3, .int x3), (4, .int x4), (5, .int x5)] := hl
  have hP : va_P D vwCl (ob_wX ax ao al am ac ++ ob_wO t ao M ++ ob_wL t al n cl rd sv pb ba bf od bg) s.heap := hP
  refine lv_aload_n hx hb dL_mark_0 rfl (lv_at hl 0 rfl) ?_
  refine lv_iload_n hx hb dL_mark_1 rfl (lv_at hl 1 rfl) ?_
  refine lv_iload_n hx hb dL_mark_2 rfl (lv_at hl 2 rfl) ?_
  refine lv_iload_n hx hb dL_mark_3 rfl (lv_at hl 3 rfl) ?_
  refine lv_iload hx hb dL_mark_4 (lv_at hl 4 rfl) ?_
  refine lv_iload hx hb dL_mark_6 (lv_at hl 5 rfl) ?_
  have hFc := va_free (wc := ob_wX ax ao al am ac ++ ob_wO t ao M ++ ob_wL t al n cl rd sv pb ba bf od bg) hD hS hA [0, 1, 2, 3, 4, 5, 6, 7, 8, 9, 10, 11, 12, 13, 14, 15, 16] rfl
  refine vx_callv (vx_runV (As := [.int x1, .int x2, .int x3, .int x4, .int x5]) (rest := []) ⟨hx, hb, hml, hown, hts⟩ (c_X4_mark l hl9 sa D t s.heap.size ax ao al am ac M n cl rd sv pb ba bf od bg x1 x2 x3 x4 x5 hn) (cwV 5 hts gL_mark_X4_mark rfl rfl rfl (by decide +kernel) ⟨Nat.le_of_ble_eq_true rfl, Nat.le_of_ble_eq_true rfl⟩) (ob_pxV (ci := 4) (q0 := 0) hP hD hk hE rfl rfl) rfl rfl hl.1 rfl (lv_room (Nat.le_of_ble_eq_true rfl)) dL_mark_8 ⟨Nat.le_of_ble_eq_true rfl, Nat.le_of_ble_eq_true rfl⟩) hS (fun q _ h => hFc q h) hFc (fun _ _ h => h.elim) (fun E9 ce9 q9 u9 t9 H1 locs ht hvm hpx hBX hz1 hk1 hS hce hcv hcl => ?_) (fun u9 t9 H1 locs ht hvm hw9 hB hz1 hk1 hS => ?_)
  · obtain ⟨i9, hz9, -⟩ := hBX
    exact absurd (hz9.symm.trans hz) (Nat.succ_ne_zero _)
  · rw [ht] at hB
    have hP := ob_jn (ws' := ob_wX ax ao al am ac ++ ob_wO t ao (ob_mk M x1.toNatClampNeg x3.toNatClampNeg x2 x4 x5) ++ ob_wL t al n cl rd sv pb ba (ob_bf2 (ob_mk M x1.toNatClampNeg x3.toNatClampNeg x2 x4 x5) cl rd n bf n) (ob_od2 (ob_bf2 (ob_mk M x1.toNatClampNeg x3.toNatClampNeg x2 x4 x5) cl rd n bf n) n od n) bg) hP hD [some 0, some 1, some 2, some 3, some 4, some 5, some 6, some 7, some 8, some 9, some 10, some 11, some 12, some 13, some 14, some 15, some 16] [0, 1, 2, 3, 4, 5, 6, 7, 8, 9, 10, 11, 12, 13, 14, 15, 16] rfl rfl hk1 hB rfl
    generalize H1 = H at hP hS ⊢
    refine lv_iconst (v := nI 0) hx hb dL_mark_11 (by decide) ?_
    exact vx_ret (W.iret (v := nI 0) hx hb hr (fun t9 ht hW => ⟨⟨nI 0, (), rfl, rfl, ob_th ht hP⟩, hS.F ht⟩) hS.2.2 dL_mark_12)

set_option maxRecDepth 100000 in
set_option maxHeartbeats 8000000 in
theorem y_mark_no0 (l : Launch) (hl9 : l.stackTraces = false) (sa : Nat → Nat) (D : va_G) (t : Nat → ClassId) (sz : Nat) (ax : Nat) (ao al am ac : Nat → Nat) (M : Nat → Nat → Int32) (n : Nat) (cl rd sv pb ba bf od : Nat → Int32) (bg : Nat → Int64) (x1 x2 x3 x4 x5 : Int32) (hn : n ≤ 30) (hz : (ob_z2 (ob_wi x1 (nI 0) (nI 4) && (ob_wi x3 (nI 0) (nI 4) && (!decide (x1 = x3) && (ob_wi x2 (nI 0) (nI 10000) && (ob_wi x4 (nI 0) (nI 10000) && ob_wi x5 (nI 0) (nI 1000)))))) (decide (-(x4 - x2 + x5) ≤ ob_ms M x3 x1) && decide (-(x5 - (x4 - x2)) ≤ ob_ms M x1 x3))) = 1) : vx_Met l yL_mark wsL_mark ({ frames := 7, cells := 1, slots := 6, locals := 161 } : Room) (ob_PY D t (ob_wX ax ao al am ac ++ ob_wO t ao M ++ ob_wL t al n cl rd sv pb ba bf od bg) sz sa [.ref ax, .int x1, .int x2, .int x3, .int x4, .int x5]) (va_Qi (fun (r : Int32) (_ : Unit) => r = (-3000002)) (fun (_ : Unit) (t9 : State) => va_P D vwCl (ob_wX ax ao al am ac ++ ob_wO t ao M ++ ob_wL t al n cl rd sv pb ba bf od bg) t9.heap) (va_A (ob_wX ax ao al am ac ++ ob_wO t ao M ++ ob_wL t al n cl rd sv pb ba bf od bg) sz)) (fun _ _ _ => False) 1 6 (va_A (ob_wX ax ao al am ac ++ ob_wO t ao M ++ ob_wL t al n cl rd sv pb ba bf od bg) sz) := by
  refine vx_ofWH (cc := cL_mark) (maxL := 7) (ret := (some .int)) (hh := [(0, 12, 13, 15), (0, 12, 18, 18)]) (by decide) rfl ?_
  intro p e s m args below meth c s₁ B hml hv
  obtain ⟨rfl, hsz, hP, hk, hD0, hE9, hN⟩ := hv
  have hE := hE9.2.2
  have hx := B.exec
  have hb := B.bytes
  have hr := B.returns
  have hts := atoms_spec (ws := wsL_mark) B.pre
  have hown : s.vm.findClass RL = some m.cls := findClass_of_methodNamed B.named
  have hlocks := B.notSynchronized
  have hK := hk.1
  have htab := vx_table (x := yL_mark) B (hts (Cond.codeWith yL_mark cL_mark 7 (some .int) [(0, 12, 13, 15), (0, 12, 18, 18)]) (List.mem_of_getElem? (i := 0) rfl))
  have hD : va_D (va_A (ob_wX ax ao al am ac ++ ob_wO t ao M ++ ob_wL t al n cl rd sv pb ba bf od bg) sz) (ob_wX ax ao al am ac ++ ob_wO t ao M ++ ob_wL t al n cl rd sv pb ba bf od bg) := hD0.self (sz := sz)
  have hA : ∀ q : Nat, s.heap.size ≤ q → (va_A (ob_wX ax ao al am ac ++ ob_wO t ao M ++ ob_wL t al n cl rd sv pb ba bf od bg) sz) q := fun q h => Or.inr (hsz ▸ h)
  have hS : va_S (va_A (ob_wX ax ao al am ac ++ ob_wO t ao M ++ ob_wL t al n cl rd sv pb ba bf od bg) sz) s.heap s.heap [] := va_S.rf
  have hl := lv_entry [.ref ax, .int x1, .int x2, .int x3, .int x4, .int x5] (n := 7) (Nat.le_of_ble_eq_true rfl)
  rw [lg_entry_eq]
  generalize (lg_sl [.ref ax, .int x1, .int x2, .int x3, .int x4, .int x5] ++ List.replicate (7 - (lg_sl [.ref ax, .int x1, .int x2, .int x3, .int x4, .int x5]).length) Slot.unset).toArray = ls at hl ⊢
  have hl : lv_has ls 7 [(0, .ref ax), (1, .int x1), (2, .int x2), (3, .int x3), (4, .int x4), (5, .int x5)] := hl
  have hP : va_P D vwCl (ob_wX ax ao al am ac ++ ob_wO t ao M ++ ob_wL t al n cl rd sv pb ba bf od bg) s.heap := hP
  refine lv_aload_n hx hb dL_mark_0 rfl (lv_at hl 0 rfl) ?_
  refine lv_iload_n hx hb dL_mark_1 rfl (lv_at hl 1 rfl) ?_
  refine lv_iload_n hx hb dL_mark_2 rfl (lv_at hl 2 rfl) ?_
  refine lv_iload_n hx hb dL_mark_3 rfl (lv_at hl 3 rfl) ?_
  refine lv_iload hx hb dL_mark_4 (lv_at hl 4 rfl) ?_
  refine lv_iload hx hb dL_mark_6 (lv_at hl 5 rfl) ?_
  have hFc := va_free (wc := ob_wX ax ao al am ac ++ ob_wO t ao M ++ ob_wL t al n cl rd sv pb ba bf od bg) hD hS hA [0, 1, 2, 3, 4, 5, 6, 7, 8, 9, 10, 11, 12, 13, 14, 15, 16] rfl
  refine vx_callv (vx_runV (As := [.int x1, .int x2, .int x3, .int x4, .int x5]) (rest := []) ⟨hx, hb, hml, hown, hts⟩ (c_X4_mark l hl9 sa D t s.heap.size ax ao al am ac M n cl rd sv pb ba bf od bg x1 x2 x3 x4 x5 hn) (cwV 5 hts gL_mark_X4_mark rfl rfl rfl (by decide +kernel) ⟨Nat.le_of_ble_eq_true rfl, Nat.le_of_ble_eq_true rfl⟩) (ob_pxV (ci := 4) (q0 := 0) hP hD hk hE rfl rfl) rfl rfl hl.1 rfl (lv_room (Nat.le_of_ble_eq_true rfl)) dL_mark_8 ⟨Nat.le_of_ble_eq_true rfl, Nat.le_of_ble_eq_true rfl⟩) hS (fun q _ h => hFc q h) hFc (fun _ _ h => h.elim) (fun E9 ce9 q9 u9 t9 H1 locs ht hvm hpx hBX hz1 hk1 hS hce hcv hcl => ?_) (fun u9 t9 H1 locs ht hvm hw9 hB hz1 hk1 hS => ?_)
  · obtain ⟨i9, hz9, hi9⟩ := hBX
    obtain rfl : i9 = 0 := Nat.succ.inj (hz9.symm.trans hz)
    cases hi9
    have hP := hP.kept (fun k q h => hk1 q.1 (hP k q h).lt id)
    refine vx_catch (own := RL) (name := "java/lang/IllegalArgumentException") hown [] ⟨0, 12, 13, 15⟩ [⟨0, 12, 18, 18⟩] (by rw [htab]; rfl) (fun z h => absurd h List.not_mem_nil) rfl (by decide) (hts (Cond.classLink RL 15 "java/lang/IllegalArgumentException") (List.mem_of_getElem? (i := 1) rfl)) (va_Nw.use rfl hE.2.2.1) hce hcv hcl ?_
    refine lv_astore (lv' := [(6, .ref q9), (0, .ref ax), (1, .int x1), (2, .int x2), (3, .int x3), (4, .int x4), (5, .int x5)]) hx hb dL_mark_13 hl (by decide) rfl (fun ls hl => ?_)
    refine lv_ldc (v := (-3000002)) hx hb hown (hts (Cond.constant RL 17 (-3000002)) (List.mem_of_getElem? (i := 3) rfl)) dL_mark_15 ?_
    exact vx_ret (W.iret (v := (-3000002)) hx hb hr (fun t9 ht hW => ⟨⟨(-3000002), (), rfl, rfl, ob_th ht hP⟩, hS.F ht⟩) hS.2.2 dL_mark_17)
  · exact absurd (hw9.symm.trans hz) (by decide)

set_option maxRecDepth 100000 in
set_option maxHeartbeats 8000000 in
theorem y_mark_no1 (l : Launch) (hl9 : l.stackTraces = false) (sa : Nat → Nat) (D : va_G) (t : Nat → ClassId) (sz : Nat) (ax : Nat) (ao al am ac : Nat → Nat) (M : Nat → Nat → Int32) (n : Nat) (cl rd sv pb ba bf od : Nat → Int32) (bg : Nat → Int64) (x1 x2 x3 x4 x5 : Int32) (hn : n ≤ 30) (hz : (ob_z2 (ob_wi x1 (nI 0) (nI 4) && (ob_wi x3 (nI 0) (nI 4) && (!decide (x1 = x3) && (ob_wi x2 (nI 0) (nI 10000) && (ob_wi x4 (nI 0) (nI 10000) && ob_wi x5 (nI 0) (nI 1000)))))) (decide (-(x4 - x2 + x5) ≤ ob_ms M x3 x1) && decide (-(x5 - (x4 - x2)) ≤ ob_ms M x1 x3))) = 2) : vx_Met l yL_mark wsL_mark ({ frames := 7, cells := 1, slots := 6, locals := 161 } : Room) (ob_PY D t (ob_wX ax ao al am ac ++ ob_wO t ao M ++ ob_wL t al n cl rd sv pb ba bf od bg) sz sa [.ref ax, .int x1, .int x2, .int x3, .int x4, .int x5]) (va_Qi (fun (r : Int32) (_ : Unit) => r = (-3000003)) (fun (_ : Unit) (t9 : State) => va_P D vwCl (ob_wX ax ao al am ac ++ ob_wO t ao M ++ ob_wL t al n cl rd sv pb ba bf od bg) t9.heap) (va_A (ob_wX ax ao al am ac ++ ob_wO t ao M ++ ob_wL t al n cl rd sv pb ba bf od bg) sz)) (fun _ _ _ => False) 1 6 (va_A (ob_wX ax ao al am ac ++ ob_wO t ao M ++ ob_wL t al n cl rd sv pb ba bf od bg) sz) := by
  refine vx_ofWH (cc := cL_mark) (maxL := 7) (ret := (some .int)) (hh := [(0, 12, 13, 15), (0, 12, 18, 18)]) (by decide) rfl ?_
  intro p e s m args below meth c s₁ B hml hv
  obtain ⟨rfl, hsz, hP, hk, hD0, hE9, hN⟩ := hv
  have hE := hE9.2.2
  have hx := B.exec
  have hb := B.bytes
  have hr := B.returns
  have hts := atoms_spec (ws := wsL_mark) B.pre
  have hown : s.vm.findClass RL = some m.cls := findClass_of_methodNamed B.named
  have hlocks := B.notSynchronized
  have hK := hk.1
  have htab := vx_table (x := yL_mark) B (hts (Cond.codeWith yL_mark cL_mark 7 (some .int) [(0, 12, 13, 15), (0, 12, 18, 18)]) (List.mem_of_getElem? (i := 0) rfl))
  have hD : va_D (va_A (ob_wX ax ao al am ac ++ ob_wO t ao M ++ ob_wL t al n cl rd sv pb ba bf od bg) sz) (ob_wX ax ao al am ac ++ ob_wO t ao M ++ ob_wL t al n cl rd sv pb ba bf od bg) := hD0.self (sz := sz)
  have hA : ∀ q : Nat, s.heap.size ≤ q → (va_A (ob_wX ax ao al am ac ++ ob_wO t ao M ++ ob_wL t al n cl rd sv pb ba bf od bg) sz) q := fun q h => Or.inr (hsz ▸ h)
  have hS : va_S (va_A (ob_wX ax ao al am ac ++ ob_wO t ao M ++ ob_wL t al n cl rd sv pb ba bf od bg) sz) s.heap s.heap [] := va_S.rf
  have hl := lv_entry [.ref ax, .int x1, .int x2, .int x3, .int x4, .int x5] (n := 7) (Nat.le_of_ble_eq_true rfl)
  rw [lg_entry_eq]
  generalize (lg_sl [.ref ax, .int x1, .int x2, .int x3, .int x4, .int x5] ++ List.replicate (7 - (lg_sl [.ref ax, .int x1, .int x2, .int x3, .int x4, .int x5]).length) Slot.unset).toArray = ls at hl ⊢
  have hl : lv_has ls 7 [(0, .ref ax), (1, .int x1), (2, .int x2), (3, .int x3), (4, .int x4), (5, .int x5)] := hl
  have hP : va_P D vwCl (ob_wX ax ao al am ac ++ ob_wO t ao M ++ ob_wL t al n cl rd sv pb ba bf od bg) s.heap := hP
  refine lv_aload_n hx hb dL_mark_0 rfl (lv_at hl 0 rfl) ?_
  refine lv_iload_n hx hb dL_mark_1 rfl (lv_at hl 1 rfl) ?_
  refine lv_iload_n hx hb dL_mark_2 rfl (lv_at hl 2 rfl) ?_
  refine lv_iload_n hx hb dL_mark_3 rfl (lv_at hl 3 rfl) ?_
  refine lv_iload hx hb dL_mark_4 (lv_at hl 4 rfl) ?_
  refine lv_iload hx hb dL_mark_6 (lv_at hl 5 rfl) ?_
  have hFc := va_free (wc := ob_wX ax ao al am ac ++ ob_wO t ao M ++ ob_wL t al n cl rd sv pb ba bf od bg) hD hS hA [0, 1, 2, 3, 4, 5, 6, 7, 8, 9, 10, 11, 12, 13, 14, 15, 16] rfl
  refine vx_callv (vx_runV (As := [.int x1, .int x2, .int x3, .int x4, .int x5]) (rest := []) ⟨hx, hb, hml, hown, hts⟩ (c_X4_mark l hl9 sa D t s.heap.size ax ao al am ac M n cl rd sv pb ba bf od bg x1 x2 x3 x4 x5 hn) (cwV 5 hts gL_mark_X4_mark rfl rfl rfl (by decide +kernel) ⟨Nat.le_of_ble_eq_true rfl, Nat.le_of_ble_eq_true rfl⟩) (ob_pxV (ci := 4) (q0 := 0) hP hD hk hE rfl rfl) rfl rfl hl.1 rfl (lv_room (Nat.le_of_ble_eq_true rfl)) dL_mark_8 ⟨Nat.le_of_ble_eq_true rfl, Nat.le_of_ble_eq_true rfl⟩) hS (fun q _ h => hFc q h) hFc (fun _ _ h => h.elim) (fun E9 ce9 q9 u9 t9 H1 locs ht hvm hpx hBX hz1 hk1 hS hce hcv hcl => ?_) (fun u9 t9 H1 locs ht hvm hw9 hB hz1 hk1 hS => ?_)
  · obtain ⟨i9, hz9, hi9⟩ := hBX
    obtain rfl : i9 = 1 := Nat.succ.inj (hz9.symm.trans hz)
    cases hi9
    have hP := hP.kept (fun k q h => hk1 q.1 (hP k q h).lt id)
    refine vx_catch (own := RL) (name := "java/lang/IllegalStateException") hown [⟨0, 12, 13, 15⟩] ⟨0, 12, 18, 18⟩ [] (by rw [htab]; rfl) (List.forall_mem_cons.mpr ⟨Or.inr ⟨(by decide), "java/lang/IllegalArgumentException", (hts (Cond.classLink RL 15 "java/lang/IllegalArgumentException") (List.mem_of_getElem? (i := 1) rfl)), hN.1⟩, (fun z h => absurd h List.not_mem_nil)⟩) rfl (by decide) (hts (Cond.classLink RL 18 "java/lang/IllegalStateException") (List.mem_of_getElem? (i := 2) rfl)) (va_Nw.use rfl hE.2.2.2.1) hce hcv hcl ?_
    refine lv_astore (lv' := [(6, .ref q9), (0, .ref ax), (1, .int x1), (2, .int x2), (3, .int x3), (4, .int x4), (5, .int x5)]) hx hb dL_mark_18 hl (by decide) rfl (fun ls hl => ?_)
    refine lv_ldc (v := (-3000003)) hx hb hown (hts (Cond.constant RL 20 (-3000003)) (List.mem_of_getElem? (i := 4) rfl)) dL_mark_20 ?_
    exact vx_ret (W.iret (v := (-3000003)) hx hb hr (fun t9 ht hW => ⟨⟨(-3000003), (), rfl, rfl, ob_th ht hP⟩, hS.F ht⟩) hS.2.2 dL_mark_22)
  · exact absurd (hw9.symm.trans hz) (by decide)

set_option maxRecDepth 100000 in
set_option maxHeartbeats 8000000 in
theorem y_add0_ok (l : Launch) (hl9 : l.stackTraces = false) (sa : Nat → Nat) (D : va_G) (t : Nat → ClassId) (sz : Nat) (ax : Nat) (ao al am ac : Nat → Nat) (M : Nat → Nat → Int32) (n : Nat) (cl rd sv pb ba bf od : Nat → Int32) (bg : Nat → Int64)   (y1 y2 y3 y4 : Int32) (hn : n ≤ 30) (hz : (ob_z2 (ob_wi y1 (nI 0) (nI 4) && (ob_wi y2 (nI 0) (nI 10000) && ob_wi y3 (nI 0) (nI 5))) (decide (n < 30))) = 0) : vx_Met l yL_add wsL_add ({ frames := 7, cells := 1, slots := 6, locals := 160 } : Room) (ob_PY D t (ob_wX ax ao al am ac ++ ob_wO t ao M ++ ob_wL t al n cl rd sv pb ba bf od bg) sz sa [.ref ax, .int (nI 0), .int y1, .int y2, .int y3, .int y4]) (va_Qi (fun (r : Int32) (_ : Unit) => r = nI n) (fun (_ : Unit) (t9 : State) => va_P D vwCl (ob_wX ax ao al am ac ++ ob_wO t ao M ++ ob_wL t al (n + 1) (upd cl n y1) (upd rd n y2) (upd sv n y3) (upd pb n (ob_bi (decide (y4 = nI 1)))) ba (ob_bf2 M (upd cl n y1) (upd rd n y2) (n + 1) bf (n + 1)) (ob_od2 (ob_bf2 M (upd cl n y1) (upd rd n y2) (n + 1) bf (n + 1)) (n + 1) od (n + 1)) bg) t9.heap) (va_A (ob_wX ax ao al am ac ++ ob_wO t ao M ++ ob_wL t al n cl rd sv pb ba bf od bg) sz)) (fun _ _ _ => False) 1 6 (va_A (ob_wX ax ao al am ac ++ ob_wO t ao M ++ ob_wL t al n cl rd sv pb ba bf od bg) sz) := by
  refine vx_ofWH (cc := cL_add) (maxL := 7) (ret := (some .int)) (hh := [(0, 48, 49, 15), (0, 48, 54, 18)]) (by decide) rfl ?_
  intro p e s m args below meth c s₁ B hml hv
  obtain ⟨rfl, hsz, hP, hk, hD0, hE9, hN⟩ := hv
  have hE := hE9.2.2
  have hx := B.exec
  have hb := B.bytes
  have hr := B.returns
  have hts := atoms_spec (ws := wsL_add) B.pre
  have hown : s.vm.findClass RL = some m.cls := findClass_of_methodNamed B.named
  have hlocks := B.notSynchronized
  have hK := hk.1
  have htab := vx_table (x := yL_add) B (hts (Cond.codeWith yL_add cL_add 7 (some .int) [(0, 48, 49, 15), (0, 48, 54, 18)]) (List.mem_of_getElem? (i := 0) rfl))
  have hD : va_D (va_A (ob_wX ax ao al am ac ++ ob_wO t ao M ++ ob_wL t al n cl rd sv pb ba bf od bg) sz) (ob_wX ax ao al am ac ++ ob_wO t ao M ++ ob_wL t al n cl rd sv pb ba bf od bg) := hD0.self (sz := sz)
  have hA : ∀ q : Nat, s.heap.size ≤ q → (va_A (ob_wX ax ao al am ac ++ ob_wO t ao M ++ ob_wL t al n cl rd sv pb ba bf od bg) sz) q := fun q h => Or.inr (hsz ▸ h)
  have hS : va_S (va_A (ob_wX ax ao al am ac ++ ob_wO t ao M ++ ob_wL t al n cl rd sv pb ba bf od bg) sz) s.heap s.heap [] := va_S.rf
  have hl := lv_entry [.ref ax, .int (nI 0), .int y1, .int y2, .int y3, .int y4] (n := 7) (Nat.le_of_ble_eq_true rfl)
  rw [lg_entry_eq]
  generalize (lg_sl [.ref ax, .int (nI 0), .int y1, .int y2, .int y3, .int y4] ++ List.replicate (7 - (lg_sl [.ref ax, .int (nI 0), .int y1, .int y2, .int y3, .int y4]).length) Slot.unset).toArray = ls at hl ⊢
  have hl : lv_has ls 7 [(0, .ref ax), (1, .int (nI 0)), (2, .int y1), (3, .int y2), (4, .int y3), (5, .int y4)] := hl
  have hP : va_P D vwCl (ob_wX ax ao al am ac ++ ob_wO t ao M ++ ob_wL t al n cl rd sv pb ba bf od bg) s.heap := hP
  refine lv_iload_n hx hb dL_add_0 rfl (lv_at hl 1 rfl) ?_
  refine lv_if_ne (tgt := 26) hx hb dL_add_1 (by decide) (fun c9 => absurd c9 (by decide)) (fun _ => ?_)
  refine lv_aload_n hx hb dL_add_4 rfl (lv_at hl 0 rfl) ?_
  refine lv_iload_n hx hb dL_add_5 rfl (lv_at hl 2 rfl) ?_
  refine lv_iload_n hx hb dL_add_6 rfl (lv_at hl 3 rfl) ?_
  refine lv_iload hx hb dL_add_7 (lv_at hl 4 rfl) ?_
  refine lv_iload hx hb dL_add_9 (lv_at hl 5 rfl) ?_
  refine lv_iconst (v := nI 1) hx hb dL_add_11 (by decide) ?_
  have kj : W p l e (headSpec wsL_add ({ frames := 7, cells := 1, slots := 6, locals := 160 } : Room)).room s m ([.ref ax, .int (nI 0), .int y1, .int y2, .int y3, .int y4] : List Value).toArray below meth c s.heap [] 0 0 (vx_MQ below (va_Qi (fun (r : Int32) (_ : Unit) => r = nI n) (fun (_ : Unit) (t9 : State) => va_P D vwCl (ob_wX ax ao al am ac ++ ob_wO t ao M ++ ob_wL t al (n + 1) (upd cl n y1) (upd rd n y2) (upd sv n y3) (upd pb n (ob_bi (decide (y4 = nI 1)))) ba (ob_bf2 M (upd cl n y1) (upd rd n y2) (n + 1) bf (n + 1)) (ob_od2 (ob_bf2 M (upd cl n y1) (upd rd n y2) (n + 1) bf (n + 1)) (n + 1) od (n + 1)) bg) t9.heap) (va_A (ob_wX ax ao al am ac ++ ob_wO t ao M ++ ob_wL t al n cl rd sv pb ba bf od bg) sz)) (fun _ _ _ => False) ([.ref ax, .int (nI 0), .int y1, .int y2, .int y3, .int y4] : List Value).toArray s 1 6 (va_A (ob_wX ax ao al am ac ++ ob_wO t ao M ++ ob_wL t al n cl rd sv pb ba bf od bg) sz)) (F0 m 20 ls [.int (ob_bi (decide (y4 = nI 1))), .int y3, .int y2, .int y1, .ref ax]) → W p l e (headSpec wsL_add ({ frames := 7, cells := 1, slots := 6, locals := 160 } : Room)).room s m ([.ref ax, .int (nI 0), .int y1, .int y2, .int y3, .int y4] : List Value).toArray below meth c s.heap [] 0 0 (vx_MQ below (va_Qi (fun (r : Int32) (_ : Unit) => r = nI n) (fun (_ : Unit) (t9 : State) => va_P D vwCl (ob_wX ax ao al am ac ++ ob_wO t ao M ++ ob_wL t al (n + 1) (upd cl n y1) (upd rd n y2) (upd sv n y3) (upd pb n (ob_bi (decide (y4 = nI 1)))) ba (ob_bf2 M (upd cl n y1) (upd rd n y2) (n + 1) bf (n + 1)) (ob_od2 (ob_bf2 M (upd cl n y1) (upd rd n y2) (n + 1) bf (n + 1)) (n + 1) od (n + 1)) bg) t9.heap) (va_A (ob_wX ax ao al am ac ++ ob_wO t ao M ++ ob_wL t al n cl rd sv pb ba bf od bg) sz)) (fun _ _ _ => False) ([.ref ax, .int (nI 0), .int y1, .int y2, .int y3, .int y4] : List Value).toArray s 1 6 (va_A (ob_wX ax ao al am ac ++ ob_wO t ao M ++ ob_wL t al n cl rd sv pb ba bf od bg) sz)) (F0 m 12 ls [.int (nI 1), .int y4, .int y3, .int y2, .int y1, .ref ax]) := fun kj => by
    refine lv_icmp_ne (tgt := 19) hx hb dL_add_12 (by decide) (fun c9 => ?_) (fun c9 => ?_)
    · refine lv_iconst (v := ob_bi (decide (y4 = nI 1))) hx hb dL_add_19 (by rw [decide_eq_false c9]; rfl) ?_
      exact kj
    · refine lv_iconst (v := ob_bi (decide (y4 = nI 1))) hx hb dL_add_15 (by rw [decide_eq_true c9]; rfl) ?_
      refine lv_goto (tgt := 20) hx hb dL_add_16 (by decide) ?_
      exact kj
  refine kj ?_
  have hFc := va_free (wc := ob_wX ax ao al am ac ++ ob_wO t ao M ++ ob_wL t al n cl rd sv pb ba bf od bg) hD hS hA [0, 1, 2, 3, 4, 5, 6, 7, 8, 9, 10, 11, 12, 13, 14, 15, 16] rfl
  refine vx_calli (vx_runV (As := [.int y1, .int y2, .int y3, .int (ob_bi (decide (y4 = nI 1)))]) (rest := []) ⟨hx, hb, hml, hown, hts⟩ (c_X4_write l hl9 sa D t s.heap.size ax ao al am ac M n cl rd sv pb ba bf od bg y1 y2 y3 (decide (y4 = nI 1)) hn) (cwV 4 hts gL_add_X4_write rfl rfl rfl (by decide +kernel) ⟨Nat.le_of_ble_eq_true rfl, Nat.le_of_ble_eq_true rfl⟩) (ob_pxV (ci := 4) (q0 := 0) hP hD hk hE rfl rfl) rfl rfl hl.1 rfl (lv_room (Nat.le_of_ble_eq_true rfl)) dL_add_20 ⟨Nat.le_of_ble_eq_true rfl, Nat.le_of_ble_eq_true rfl⟩) hS (fun q _ h => hFc q h) hFc (fun _ _ h => h.elim) (fun E9 ce9 q9 u9 t9 H1 locs ht hvm hpx hBX hz1 hk1 hS hce hcv hcl => ?_) (fun r9 u9 t9 H1 locs ht hvm hw9 hB hz1 hk1 hS => ?_)
  · obtain ⟨i9, hz9, -⟩ := hBX
    exact absurd (hz9.symm.trans hz) (Nat.succ_ne_zero _)
  · rw [ht] at hB
    obtain ⟨-, hp9⟩ := hw9
    have hP := ob_jn (ws' := ob_wX ax ao al am ac ++ ob_wO t ao M ++ ob_wL t al (n + 1) (upd cl n y1) (upd rd n y2) (upd sv n y3) (upd pb n (ob_bi (decide (y4 = nI 1)))) ba (ob_bf2 M (upd cl n y1) (upd rd n y2) (n + 1) bf (n + 1)) (ob_od2 (ob_bf2 M (upd cl n y1) (upd rd n y2) (n + 1) bf (n + 1)) (n + 1) od (n + 1)) bg) hP hD [some 0, some 1, some 2, some 3, some 4, some 5, some 6, some 7, some 8, some 9, some 10, some 11, some 12, some 13, some 14, some 15, some 16] [0, 1, 2, 3, 4, 5, 6, 7, 8, 9, 10, 11, 12, 13, 14, 15, 16] rfl rfl hk1 hB rfl
    generalize H1 = H at hP hS ⊢
    refine lv_goto (tgt := 48) hx hb dL_add_23 (by decide) ?_
    exact vx_ret (W.iret (v := r9) hx hb hr (fun t9 ht hW => ⟨⟨r9, (), rfl, hp9, ob_th ht hP⟩, hS.F ht⟩) hS.2.2 dL_add_48)

set_option maxRecDepth 100000 in
set_option maxHeartbeats 8000000 in
theorem y_add0_no0 (l : Launch) (hl9 : l.stackTraces = false) (sa : Nat → Nat) (D : va_G) (t : Nat → ClassId) (sz : Nat) (ax : Nat) (ao al am ac : Nat → Nat) (M : Nat → Nat → Int32) (n : Nat) (cl rd sv pb ba bf od : Nat → Int32) (bg : Nat → Int64)   (y1 y2 y3 y4 : Int32) (hn : n ≤ 30) (hz : (ob_z2 (ob_wi y1 (nI 0) (nI 4) && (ob_wi y2 (nI 0) (nI 10000) && ob_wi y3 (nI 0) (nI 5))) (decide (n < 30))) = 1) : vx_Met l yL_add wsL_add ({ frames := 7, cells := 1, slots := 6, locals := 160 } : Room) (ob_PY D t (ob_wX ax ao al am ac ++ ob_wO t ao M ++ ob_wL t al n cl rd sv pb ba bf od bg) sz sa [.ref ax, .int (nI 0), .int y1, .int y2, .int y3, .int y4]) (va_Qi (fun (r : Int32) (_ : Unit) => r = (-3000002)) (fun (_ : Unit) (t9 : State) => va_P D vwCl (ob_wX ax ao al am ac ++ ob_wO t ao M ++ ob_wL t al n cl rd sv pb ba bf od bg) t9.heap) (va_A (ob_wX ax ao al am ac ++ ob_wO t ao M ++ ob_wL t al n cl rd sv pb ba bf od bg) sz)) (fun _ _ _ => False) 1 6 (va_A (ob_wX ax ao al am ac ++ ob_wO t ao M ++ ob_wL t al n cl rd sv pb ba bf od bg) sz) := by
  refine vx_ofWH (cc := cL_add) (maxL := 7) (ret := (some .int)) (hh := [(0, 48, 49, 15), (0, 48, 54, 18)]) (by decide) rfl ?_
  intro p e s m args below meth c s₁ B hml hv
  obtain ⟨rfl, hsz, hP, hk, hD0, hE9, hN⟩ := hv
  have hE := hE9.2.2
  have hx := B.exec
  have hb := B.bytes
  have hr := B.returns
  have hts := atoms_spec (ws := wsL_add) B.pre
  have hown : s.vm.findClass RL = some m.cls := findClass_of_methodNamed B.named
  have hlocks := B.notSynchronized
  have hK := hk.1
  have htab := vx_table (x := yL_add) B (hts (Cond.codeWith yL_add cL_add 7 (some .int) [(0, 48, 49, 15), (0, 48, 54, 18)]) (List.mem_of_getElem? (i := 0) rfl))
  have hD : va_D (va_A (ob_wX ax ao al am ac ++ ob_wO t ao M ++ ob_wL t al n cl rd sv pb ba bf od bg) sz) (ob_wX ax ao al am ac ++ ob_wO t ao M ++ ob_wL t al n cl rd sv pb ba bf od bg) := hD0.self (sz := sz)
  have hA : ∀ q : Nat, s.heap.size ≤ q → (va_A (ob_wX ax ao al am ac ++ ob_wO t ao M ++ ob_wL t al n cl rd sv pb ba bf od bg) sz) q := fun q h => Or.inr (hsz ▸ h)
  have hS : va_S (va_A (ob_wX ax ao al am ac ++ ob_wO t ao M ++ ob_wL t al n cl rd sv pb ba bf od bg) sz) s.heap s.heap [] := va_S.rf
  have hl := lv_entry [.ref ax, .int (nI 0), .int y1, .int y2, .int y3, .int y4] (n := 7) (Nat.le_of_ble_eq_true rfl)
  rw [lg_entry_eq]
  generalize (lg_sl [.ref ax, .int (nI 0), .int y1, .int y2, .int y3, .int y4] ++ List.replicate (7 - (lg_sl [.ref ax, .int (nI 0), .int y1, .int y2, .int y3, .int y4]).length) Slot.unset).toArray = ls at hl ⊢
  have hl : lv_has ls 7 [(0, .ref ax), (1, .int (nI 0)), (2, .int y1), (3, .int y2), (4, .int y3), (5, .int y4)] := hl
  have hP : va_P D vwCl (ob_wX ax ao al am ac ++ ob_wO t ao M ++ ob_wL t al n cl rd sv pb ba bf od bg) s.heap := hP
  refine lv_iload_n hx hb dL_add_0 rfl (lv_at hl 1 rfl) ?_
  refine lv_if_ne (tgt := 26) hx hb dL_add_1 (by decide) (fun c9 => absurd c9 (by decide)) (fun _ => ?_)
  refine lv_aload_n hx hb dL_add_4 rfl (lv_at hl 0 rfl) ?_
  refine lv_iload_n hx hb dL_add_5 rfl (lv_at hl 2 rfl) ?_
  refine lv_iload_n hx hb dL_add_6 rfl (lv_at hl 3 rfl) ?_
  refine lv_iload hx hb dL_add_7 (lv_at hl 4 rfl) ?_
  refine lv_iload hx hb dL_add_9 (lv_at hl 5 rfl) ?_
  refine lv_iconst (v := nI 1) hx hb dL_add_11 (by decide) ?_
  have kj : W p l e (headSpec wsL_add ({ frames := 7, cells := 1, slots := 6, locals := 160 } : Room)).room s m ([.ref ax, .int (nI 0), .int y1, .int y2, .int y3, .int y4] : List Value).toArray below meth c s.heap [] 0 0 (vx_MQ below (va_Qi (fun (r : Int32) (_ : Unit) => r = (-3000002)) (fun (_ : Unit) (t9 : State) => va_P D vwCl (ob_wX ax ao al am ac ++ ob_wO t ao M ++ ob_wL t al n cl rd sv pb ba bf od bg) t9.heap) (va_A (ob_wX ax ao al am ac ++ ob_wO t ao M ++ ob_wL t al n cl rd sv pb ba bf od bg) sz)) (fun _ _ _ => False) ([.ref ax, .int (nI 0), .int y1, .int y2, .int y3, .int y4] : List Value).toArray s 1 6 (va_A (ob_wX ax ao al am ac ++ ob_wO t ao M ++ ob_wL t al n cl rd sv pb ba bf od bg) sz)) (F0 m 20 ls [.int (ob_bi (decide (y4 = nI 1))), .int y3, .int y2, .int y1, .ref ax]) → W p l e (headSpec wsL_add ({ frames := 7, cells := 1, slots := 6, locals := 160 } : Room)).room s m ([.ref ax, .int (nI 0), .int y1, .int y2, .int y3, .int y4] : List Value).toArray below meth c s.heap [] 0 0 (vx_MQ below (va_Qi (fun (r : Int32) (_ : Unit) => r = (-3000002)) (fun (_ : Unit) (t9 : State) => va_P D vwCl (ob_wX ax ao al am ac ++ ob_wO t ao M ++ ob_wL t al n cl rd sv pb ba bf od bg) t9.heap) (va_A (ob_wX ax ao al am ac ++ ob_wO t ao M ++ ob_wL t al n cl rd sv pb ba bf od bg) sz)) (fun _ _ _ => False) ([.ref ax, .int (nI 0), .int y1, .int y2, .int y3, .int y4] : List Value).toArray s 1 6 (va_A (ob_wX ax ao al am ac ++ ob_wO t ao M ++ ob_wL t al n cl rd sv pb ba bf od bg) sz)) (F0 m 12 ls [.int (nI 1), .int y4, .int y3, .int y2, .int y1, .ref ax]) := fun kj => by
    refine lv_icmp_ne (tgt := 19) hx hb dL_add_12 (by decide) (fun c9 => ?_) (fun c9 => ?_)
    · refine lv_iconst (v := ob_bi (decide (y4 = nI 1))) hx hb dL_add_19 (by rw [decide_eq_false c9]; rfl) ?_
      exact kj
    · refine lv_iconst (v := ob_bi (decide (y4 = nI 1))) hx hb dL_add_15 (by rw [decide_eq_true c9]; rfl) ?_
      refine lv_goto (tgt := 20) hx hb dL_add_16 (by decide) ?_
      exact kj
  refine kj ?_
  have hFc := va_free (wc := ob_wX ax ao al am ac ++ ob_wO t ao M ++ ob_wL t al n cl rd sv pb ba bf od bg) hD hS hA [0, 1, 2, 3, 4, 5, 6, 7, 8, 9, 10, 11, 12, 13, 14, 15, 16] rfl
  refine vx_calli (vx_runV (As := [.int y1, .int y2, .int y3, .int (ob_bi (decide (y4 = nI 1)))]) (rest := []) ⟨hx, hb, hml, hown, hts⟩ (c_X4_write l hl9 sa D t s.heap.size ax ao al am ac M n cl rd sv pb ba bf od bg y1 y2 y3 (decide (y4 = nI 1)) hn) (cwV 4 hts gL_add_X4_write rfl rfl rfl (by decide +kernel) ⟨Nat.le_of_ble_eq_true rfl, Nat.le_of_ble_eq_true rfl⟩) (ob_pxV (ci := 4) (q0 := 0) hP hD hk hE rfl rfl) rfl rfl hl.1 rfl (lv_room (Nat.le_of_ble_eq_true rfl)) dL_add_20 ⟨Nat.le_of_ble_eq_true rfl, Nat.le_of_ble_eq_true rfl⟩) hS (fun q _ h => hFc q h) hFc (fun _ _ h => h.elim) (fun E9 ce9 q9 u9 t9 H1 locs ht hvm hpx hBX hz1 hk1 hS hce hcv hcl => ?_) (fun r9 u9 t9 H1 locs ht hvm hw9 hB hz1 hk1 hS => ?_)
  · obtain ⟨i9, hz9, hi9⟩ := hBX
    obtain rfl : i9 = 0 := Nat.succ.inj (hz9.symm.trans hz)
    cases hi9
    have hP := hP.kept (fun k q h => hk1 q.1 (hP k q h).lt id)
    refine vx_catch (own := RL) (name := "java/lang/IllegalArgumentException") hown [] ⟨0, 48, 49, 15⟩ [⟨0, 48, 54, 18⟩] (by rw [htab]; rfl) (fun z h => absurd h List.not_mem_nil) rfl (by decide) (hts (Cond.classLink RL 15 "java/lang/IllegalArgumentException") (List.mem_of_getElem? (i := 1) rfl)) (va_Nw.use rfl hE.2.2.1) hce hcv hcl ?_
    refine lv_astore (lv' := [(6, .ref q9), (0, .ref ax), (1, .int (nI 0)), (2, .int y1), (3, .int y2), (4, .int y3), (5, .int y4)]) hx hb dL_add_49 hl (by decide) rfl (fun ls hl => ?_)
    refine lv_ldc (v := (-3000002)) hx hb hown (hts (Cond.constant RL 17 (-3000002)) (List.mem_of_getElem? (i := 3) rfl)) dL_add_51 ?_
    exact vx_ret (W.iret (v := (-3000002)) hx hb hr (fun t9 ht hW => ⟨⟨(-3000002), (), rfl, rfl, ob_th ht hP⟩, hS.F ht⟩) hS.2.2 dL_add_53)
  · exact absurd (hw9.1.symm.trans hz) (by decide)

set_option maxRecDepth 100000 in
set_option maxHeartbeats 8000000 in
theorem y_add1_ok (l : Launch) (hl9 : l.stackTraces = false) (sa : Nat → Nat) (D : va_G) (t : Nat → ClassId) (sz : Nat) (ax : Nat) (ao al am ac : Nat → Nat) (mn : Nat) (ms mf mt mp : Nat → Int32)  (y1 y2 y3 y4 : Int32) (hmn : mn ≤ 40) (hz : (ob_z2 (ob_wi y1 (nI 0) (nI 5) && (ob_wi y4 (nI 0) (nI 100) && (ob_wi y2 (nI 0) (nI 10000) && ob_wi y3 y2 (nI 10000)))) (decide (mn < 40))) = 0) : vx_Met l yL_add wsL_add ({ frames := 7, cells := 1, slots := 6, locals := 106 } : Room) (ob_PY D t (ob_wX ax ao al am ac ++ ob_wM t am mn ms mf mt mp) sz sa [.ref ax, .int (nI 1), .int y1, .int y2, .int y3, .int y4]) (va_Qi (fun (r : Int32) (_ : Unit) => r = nI mn) (fun (_ : Unit) (t9 : State) => va_P D vwCl (ob_wX ax ao al am ac ++ ob_wM t am (mn + 1) (upd ms mn y1) (upd mf mn y2) (upd mt mn y3) (upd mp mn y4)) t9.heap) (va_A (ob_wX ax ao al am ac ++ ob_wM t am mn ms mf mt mp) sz)) (fun _ _ _ => False) 1 6 (va_A (ob_wX ax ao al am ac ++ ob_wM t am mn ms mf mt mp) sz) := by
  refine vx_ofWH (cc := cL_add) (maxL := 7) (ret := (some .int)) (hh := [(0, 48, 49, 15), (0, 48, 54, 18)]) (by decide) rfl ?_
  intro p e s m args below meth c s₁ B hml hv
  obtain ⟨rfl, hsz, hP, hk, hD0, hE9, hN⟩ := hv
  have hE := hE9.2.2
  have hx := B.exec
  have hb := B.bytes
  have hr := B.returns
  have hts := atoms_spec (ws := wsL_add) B.pre
  have hown : s.vm.findClass RL = some m.cls := findClass_of_methodNamed B.named
  have hlocks := B.notSynchronized
  have hK := hk.1
  have htab := vx_table (x := yL_add) B (hts (Cond.codeWith yL_add cL_add 7 (some .int) [(0, 48, 49, 15), (0, 48, 54, 18)]) (List.mem_of_getElem? (i := 0) rfl))
  have hD : va_D (va_A (ob_wX ax ao al am ac ++ ob_wM t am mn ms mf mt mp) sz) (ob_wX ax ao al am ac ++ ob_wM t am mn ms mf mt mp) := hD0.self (sz := sz)
  have hA : ∀ q : Nat, s.heap.size ≤ q → (va_A (ob_wX ax ao al am ac ++ ob_wM t am mn ms mf mt mp) sz) q := fun q h => Or.inr (hsz ▸ h)
  have hS : va_S (va_A (ob_wX ax ao al am ac ++ ob_wM t am mn ms mf mt mp) sz) s.heap s.heap [] := va_S.rf
  have hl := lv_entry [.ref ax, .int (nI 1), .int y1, .int y2, .int y3, .int y4] (n := 7) (Nat.le_of_ble_eq_true rfl)
  rw [lg_entry_eq]
  generalize (lg_sl [.ref ax, .int (nI 1), .int y1, .int y2, .int y3, .int y4] ++ List.replicate (7 - (lg_sl [.ref ax, .int (nI 1), .int y1, .int y2, .int y3, .int y4]).length) Slot.unset).toArray = ls at hl ⊢
  have hl : lv_has ls 7 [(0, .ref ax), (1, .int (nI 1)), (2, .int y1), (3, .int y2), (4, .int y3), (5, .int y4)] := hl
  have hP : va_P D vwCl (ob_wX ax ao al am ac ++ ob_wM t am mn ms mf mt mp) s.heap := hP
  refine lv_iload_n hx hb dL_add_0 rfl (lv_at hl 1 rfl) ?_
  refine lv_if_ne (tgt := 26) hx hb dL_add_1 (by decide) (fun _ => ?_) (fun c9 => absurd c9 (by decide))
  refine lv_iload_n hx hb dL_add_26 rfl (lv_at hl 1 rfl) ?_
  refine lv_iconst (v := nI 1) hx hb dL_add_27 (by decide) ?_
  refine lv_icmp_ne (tgt := 44) hx hb dL_add_28 (by decide) (fun c9 => absurd c9 (by decide)) (fun _ => ?_)
  refine lv_aload_n hx hb dL_add_31 rfl (lv_at hl 0 rfl) ?_
  refine lv_iload_n hx hb dL_add_32 rfl (lv_at hl 2 rfl) ?_
  refine lv_iload_n hx hb dL_add_33 rfl (lv_at hl 3 rfl) ?_
  refine lv_iload hx hb dL_add_34 (lv_at hl 4 rfl) ?_
  refine lv_iload hx hb dL_add_36 (lv_at hl 5 rfl) ?_
  have hFc := va_free (wc := ob_wX ax ao al am ac ++ ob_wM t am mn ms mf mt mp) hD hS hA [0, 1, 2, 3, 4, 5] rfl
  refine vx_calli (vx_runV (As := [.int y1, .int y2, .int y3, .int y4]) (rest := []) ⟨hx, hb, hml, hown, hts⟩ (c_X4_measure l hl9 sa D t s.heap.size ax ao al am ac mn ms mf mt mp y1 y2 y3 y4 hmn) (cwV 4 hts gL_add_X4_measure rfl rfl rfl (by decide +kernel) ⟨Nat.le_of_ble_eq_true rfl, Nat.le_of_ble_eq_true rfl⟩) (ob_pxV (ci := 4) (q0 := 0) hP hD hk hE rfl rfl) rfl rfl hl.1 rfl (lv_room (Nat.le_of_ble_eq_true rfl)) dL_add_38 ⟨Nat.le_of_ble_eq_true rfl, Nat.le_of_ble_eq_true rfl⟩) hS (fun q _ h => hFc q h) hFc (fun _ _ h => h.elim) (fun E9 ce9 q9 u9 t9 H1 locs ht hvm hpx hBX hz1 hk1 hS hce hcv hcl => ?_) (fun r9 u9 t9 H1 locs ht hvm hw9 hB hz1 hk1 hS => ?_)
  · obtain ⟨i9, hz9, -⟩ := hBX
    exact absurd (hz9.symm.trans hz) (Nat.succ_ne_zero _)
  · rw [ht] at hB
    obtain ⟨-, hp9⟩ := hw9
    have hP := ob_jn (ws' := ob_wX ax ao al am ac ++ ob_wM t am (mn + 1) (upd ms mn y1) (upd mf mn y2) (upd mt mn y3) (upd mp mn y4)) hP hD [some 0, some 1, some 2, some 3, some 4, some 5] [0, 1, 2, 3, 4, 5] rfl rfl hk1 hB rfl
    generalize H1 = H at hP hS ⊢
    refine lv_goto (tgt := 48) hx hb dL_add_41 (by decide) ?_
    exact vx_ret (W.iret (v := r9) hx hb hr (fun t9 ht hW => ⟨⟨r9, (), rfl, hp9, ob_th ht hP⟩, hS.F ht⟩) hS.2.2 dL_add_48)

set_option maxRecDepth 100000 in
set_option maxHeartbeats 8000000 in
theorem y_add1_no0 (l : Launch) (hl9 : l.stackTraces = false) (sa : Nat → Nat) (D : va_G) (t : Nat → ClassId) (sz : Nat) (ax : Nat) (ao al am ac : Nat → Nat) (mn : Nat) (ms mf mt mp : Nat → Int32)  (y1 y2 y3 y4 : Int32) (hmn : mn ≤ 40) (hz : (ob_z2 (ob_wi y1 (nI 0) (nI 5) && (ob_wi y4 (nI 0) (nI 100) && (ob_wi y2 (nI 0) (nI 10000) && ob_wi y3 y2 (nI 10000)))) (decide (mn < 40))) = 1) : vx_Met l yL_add wsL_add ({ frames := 7, cells := 1, slots := 6, locals := 106 } : Room) (ob_PY D t (ob_wX ax ao al am ac ++ ob_wM t am mn ms mf mt mp) sz sa [.ref ax, .int (nI 1), .int y1, .int y2, .int y3, .int y4]) (va_Qi (fun (r : Int32) (_ : Unit) => r = (-3000002)) (fun (_ : Unit) (t9 : State) => va_P D vwCl (ob_wX ax ao al am ac ++ ob_wM t am mn ms mf mt mp) t9.heap) (va_A (ob_wX ax ao al am ac ++ ob_wM t am mn ms mf mt mp) sz)) (fun _ _ _ => False) 1 6 (va_A (ob_wX ax ao al am ac ++ ob_wM t am mn ms mf mt mp) sz) := by
  refine vx_ofWH (cc := cL_add) (maxL := 7) (ret := (some .int)) (hh := [(0, 48, 49, 15), (0, 48, 54, 18)]) (by decide) rfl ?_
  intro p e s m args below meth c s₁ B hml hv
  obtain ⟨rfl, hsz, hP, hk, hD0, hE9, hN⟩ := hv
  have hE := hE9.2.2
  have hx := B.exec
  have hb := B.bytes
  have hr := B.returns
  have hts := atoms_spec (ws := wsL_add) B.pre
  have hown : s.vm.findClass RL = some m.cls := findClass_of_methodNamed B.named
  have hlocks := B.notSynchronized
  have hK := hk.1
  have htab := vx_table (x := yL_add) B (hts (Cond.codeWith yL_add cL_add 7 (some .int) [(0, 48, 49, 15), (0, 48, 54, 18)]) (List.mem_of_getElem? (i := 0) rfl))
  have hD : va_D (va_A (ob_wX ax ao al am ac ++ ob_wM t am mn ms mf mt mp) sz) (ob_wX ax ao al am ac ++ ob_wM t am mn ms mf mt mp) := hD0.self (sz := sz)
  have hA : ∀ q : Nat, s.heap.size ≤ q → (va_A (ob_wX ax ao al am ac ++ ob_wM t am mn ms mf mt mp) sz) q := fun q h => Or.inr (hsz ▸ h)
  have hS : va_S (va_A (ob_wX ax ao al am ac ++ ob_wM t am mn ms mf mt mp) sz) s.heap s.heap [] := va_S.rf
  have hl := lv_entry [.ref ax, .int (nI 1), .int y1, .int y2, .int y3, .int y4] (n := 7) (Nat.le_of_ble_eq_true rfl)
  rw [lg_entry_eq]
  generalize (lg_sl [.ref ax, .int (nI 1), .int y1, .int y2, .int y3, .int y4] ++ List.replicate (7 - (lg_sl [.ref ax, .int (nI 1), .int y1, .int y2, .int y3, .int y4]).length) Slot.unset).toArray = ls at hl ⊢
  have hl : lv_has ls 7 [(0, .ref ax), (1, .int (nI 1)), (2, .int y1), (3, .int y2), (4, .int y3), (5, .int y4)] := hl
  have hP : va_P D vwCl (ob_wX ax ao al am ac ++ ob_wM t am mn ms mf mt mp) s.heap := hP
  refine lv_iload_n hx hb dL_add_0 rfl (lv_at hl 1 rfl) ?_
  refine lv_if_ne (tgt := 26) hx hb dL_add_1 (by decide) (fun _ => ?_) (fun c9 => absurd c9 (by decide))
  refine lv_iload_n hx hb dL_add_26 rfl (lv_at hl 1 rfl) ?_
  refine lv_iconst (v := nI 1) hx hb dL_add_27 (by decide) ?_
  refine lv_icmp_ne (tgt := 44) hx hb dL_add_28 (by decide) (fun c9 => absurd c9 (by decide)) (fun _ => ?_)
  refine lv_aload_n hx hb dL_add_31 rfl (lv_at hl 0 rfl) ?_
  refine lv_iload_n hx hb dL_add_32 rfl (lv_at hl 2 rfl) ?_
  refine lv_iload_n hx hb dL_add_33 rfl (lv_at hl 3 rfl) ?_
  refine lv_iload hx hb dL_add_34 (lv_at hl 4 rfl) ?_
  refine lv_iload hx hb dL_add_36 (lv_at hl 5 rfl) ?_
  have hFc := va_free (wc := ob_wX ax ao al am ac ++ ob_wM t am mn ms mf mt mp) hD hS hA [0, 1, 2, 3, 4, 5] rfl
  refine vx_calli (vx_runV (As := [.int y1, .int y2, .int y3, .int y4]) (rest := []) ⟨hx, hb, hml, hown, hts⟩ (c_X4_measure l hl9 sa D t s.heap.size ax ao al am ac mn ms mf mt mp y1 y2 y3 y4 hmn) (cwV 4 hts gL_add_X4_measure rfl rfl rfl (by decide +kernel) ⟨Nat.le_of_ble_eq_true rfl, Nat.le_of_ble_eq_true rfl⟩) (ob_pxV (ci := 4) (q0 := 0) hP hD hk hE rfl rfl) rfl rfl hl.1 rfl (lv_room (Nat.le_of_ble_eq_true rfl)) dL_add_38 ⟨Nat.le_of_ble_eq_true rfl, Nat.le_of_ble_eq_true rfl⟩) hS (fun q _ h => hFc q h) hFc (fun _ _ h => h.elim) (fun E9 ce9 q9 u9 t9 H1 locs ht hvm hpx hBX hz1 hk1 hS hce hcv hcl => ?_) (fun r9 u9 t9 H1 locs ht hvm hw9 hB hz1 hk1 hS => ?_)
  · obtain ⟨i9, hz9, hi9⟩ := hBX
    obtain rfl : i9 = 0 := Nat.succ.inj (hz9.symm.trans hz)
    cases hi9
    have hP := hP.kept (fun k q h => hk1 q.1 (hP k q h).lt id)
    refine vx_catch (own := RL) (name := "java/lang/IllegalArgumentException") hown [] ⟨0, 48, 49, 15⟩ [⟨0, 48, 54, 18⟩] (by rw [htab]; rfl) (fun z h => absurd h List.not_mem_nil) rfl (by decide) (hts (Cond.classLink RL 15 "java/lang/IllegalArgumentException") (List.mem_of_getElem? (i := 1) rfl)) (va_Nw.use rfl hE.2.2.1) hce hcv hcl ?_
    refine lv_astore (lv' := [(6, .ref q9), (0, .ref ax), (1, .int (nI 1)), (2, .int y1), (3, .int y2), (4, .int y3), (5, .int y4)]) hx hb dL_add_49 hl (by decide) rfl (fun ls hl => ?_)
    refine lv_ldc (v := (-3000002)) hx hb hown (hts (Cond.constant RL 17 (-3000002)) (List.mem_of_getElem? (i := 3) rfl)) dL_add_51 ?_
    exact vx_ret (W.iret (v := (-3000002)) hx hb hr (fun t9 ht hW => ⟨⟨(-3000002), (), rfl, rfl, ob_th ht hP⟩, hS.F ht⟩) hS.2.2 dL_add_53)
  · exact absurd (hw9.1.symm.trans hz) (by decide)

set_option maxRecDepth 100000 in
set_option maxHeartbeats 8000000 in
theorem y_add2_ok (l : Launch) (hl9 : l.stackTraces = false) (sa : Nat → Nat) (D : va_G) (t : Nat → ClassId) (sz : Nat) (ax : Nat) (ao al am ac : Nat → Nat) (cn : Nat) (st : Int32) (Wt : Nat → Nat → Int32) (y1 y2 y3 y4 : Int32) (hcn : cn ≤ 16) (hz : (ob_z1 (decide (cn < 16))) = 0) : vx_Met l yL_add wsL_add ({ frames := 7, cells := 1, slots := 6, locals := 102 } : Room) (ob_PY D t (ob_wX ax ao al am ac ++ ob_wC t ac cn st Wt) sz sa [.ref ax, .int (nI 2), .int y1, .int y2, .int y3, .int y4]) (va_Qi (fun (r : Int32) (_ : Unit) => r = nI cn) (fun (_ : Unit) (t9 : State) => va_P D vwCl (ob_wX ax ao al am ac ++ ob_wC t ac (cn + 1) (st ||| ob_bit (nI cn)) Wt) t9.heap) (va_A (ob_wX ax ao al am ac ++ ob_wC t ac cn st Wt) sz)) (fun _ _ _ => False) 1 6 (va_A (ob_wX ax ao al am ac ++ ob_wC t ac cn st Wt) sz) := by
  refine vx_ofWH (cc := cL_add) (maxL := 7) (ret := (some .int)) (hh := [(0, 48, 49, 15), (0, 48, 54, 18)]) (by decide) rfl ?_
  intro p e s m args below meth c s₁ B hml hv
  obtain ⟨rfl, hsz, hP, hk, hD0, hE9, hN⟩ := hv
  have hE := hE9.2.2
  have hx := B.exec
  have hb := B.bytes
  have hr := B.returns
  have hts := atoms_spec (ws := wsL_add) B.pre
  have hown : s.vm.findClass RL = some m.cls := findClass_of_methodNamed B.named
  have hlocks := B.notSynchronized
  have hK := hk.1
  have htab := vx_table (x := yL_add) B (hts (Cond.codeWith yL_add cL_add 7 (some .int) [(0, 48, 49, 15), (0, 48, 54, 18)]) (List.mem_of_getElem? (i := 0) rfl))
  have hD : va_D (va_A (ob_wX ax ao al am ac ++ ob_wC t ac cn st Wt) sz) (ob_wX ax ao al am ac ++ ob_wC t ac cn st Wt) := hD0.self (sz := sz)
  have hA : ∀ q : Nat, s.heap.size ≤ q → (va_A (ob_wX ax ao al am ac ++ ob_wC t ac cn st Wt) sz) q := fun q h => Or.inr (hsz ▸ h)
  have hS : va_S (va_A (ob_wX ax ao al am ac ++ ob_wC t ac cn st Wt) sz) s.heap s.heap [] := va_S.rf
  have hl := lv_entry [.ref ax, .int (nI 2), .int y1, .int y2, .int y3, .int y4] (n := 7) (Nat.le_of_ble_eq_true rfl)
  rw [lg_entry_eq]
  generalize (lg_sl [.ref ax, .int (nI 2), .int y1, .int y2, .int y3, .int y4] ++ List.replicate (7 - (lg_sl [.ref ax, .int (nI 2), .int y1, .int y2, .int y3, .int y4]).length) Slot.unset).toArray = ls at hl ⊢
  have hl : lv_has ls 7 [(0, .ref ax), (1, .int (nI 2)), (2, .int y1), (3, .int y2), (4, .int y3), (5, .int y4)] := hl
  have hP : va_P D vwCl (ob_wX ax ao al am ac ++ ob_wC t ac cn st Wt) s.heap := hP
  refine lv_iload_n hx hb dL_add_0 rfl (lv_at hl 1 rfl) ?_
  refine lv_if_ne (tgt := 26) hx hb dL_add_1 (by decide) (fun _ => ?_) (fun c9 => absurd c9 (by decide))
  refine lv_iload_n hx hb dL_add_26 rfl (lv_at hl 1 rfl) ?_
  refine lv_iconst (v := nI 1) hx hb dL_add_27 (by decide) ?_
  refine lv_icmp_ne (tgt := 44) hx hb dL_add_28 (by decide) (fun _ => ?_) (fun c9 => absurd c9 (by decide))
  refine lv_aload_n hx hb dL_add_44 rfl (lv_at hl 0 rfl) ?_
  have hFc := va_free (wc := ob_wX ax ao al am ac ++ ob_wC t ac cn st Wt) hD hS hA [0, 1, 2, 3, 4, 5, 6, 7, 8, 9, 10, 11, 12, 13, 14, 15, 16, 17, 18] rfl
  refine vx_calli (vx_runV (As := []) (rest := []) ⟨hx, hb, hml, hown, hts⟩ (c_X4_addCause l hl9 sa D t s.heap.size ax ao al am ac cn st Wt hcn) (cwV 0 hts gL_add_X4_addCause rfl rfl rfl (by decide +kernel) ⟨Nat.le_of_ble_eq_true rfl, Nat.le_of_ble_eq_true rfl⟩) (ob_pxV (ci := 4) (q0 := 0) hP hD hk hE rfl rfl) rfl rfl hl.1 rfl (lv_room (Nat.le_of_ble_eq_true rfl)) dL_add_45 ⟨Nat.le_of_ble_eq_true rfl, Nat.le_of_ble_eq_true rfl⟩) hS (fun q _ h => hFc q h) hFc (fun _ _ h => h.elim) (fun E9 ce9 q9 u9 t9 H1 locs ht hvm hpx hBX hz1 hk1 hS hce hcv hcl => ?_) (fun r9 u9 t9 H1 locs ht hvm hw9 hB hz1 hk1 hS => ?_)
  · obtain ⟨i9, hz9, -⟩ := hBX
    exact absurd (hz9.symm.trans hz) (Nat.succ_ne_zero _)
  · rw [ht] at hB
    obtain ⟨-, hp9⟩ := hw9
    have hP := ob_jn (ws' := ob_wX ax ao al am ac ++ ob_wC t ac (cn + 1) (st ||| ob_bit (nI cn)) Wt) hP hD [some 0, some 1, some 2, some 3, some 4, some 5, some 6, some 7, some 8, some 9, some 10, some 11, some 12, some 13, some 14, some 15, some 16, some 17, some 18] [0, 1, 2, 3, 4, 5, 6, 7, 8, 9, 10, 11, 12, 13, 14, 15, 16, 17, 18] rfl rfl hk1 hB rfl
    generalize H1 = H at hP hS ⊢
    exact vx_ret (W.iret (v := r9) hx hb hr (fun t9 ht hW => ⟨⟨r9, (), rfl, hp9, ob_th ht hP⟩, hS.F ht⟩) hS.2.2 dL_add_48)

set_option maxRecDepth 100000 in
set_option maxHeartbeats 8000000 in
theorem y_act0_ok (l : Launch) (hl9 : l.stackTraces = false) (sa : Nat → Nat) (D : va_G) (t : Nat → ClassId) (sz : Nat) (ax : Nat) (ao al am ac : Nat → Nat) (n : Nat) (cl rd sv pb ba bf od : Nat → Int32) (bg : Nat → Int64)   (y1 y2 y3 : Int32) (hn : n ≤ 30) (hz : (ob_z2 (ob_hd n y1) (ob_wi y2 (nI 1) (nI 100))) = 0) : vx_Met l yL_act wsL_act ({ frames := 7, cells := 1, slots := 6, locals := 105 } : Room) (ob_PY D t (ob_wX ax ao al am ac ++ ob_wL t al n cl rd sv pb ba bf od bg) sz sa [.ref ax, .int (nI 0), .int y1, .int y2, .int y3]) (va_Qi (fun (r : Int32) (_ : Unit) => r = ba y1.toNatClampNeg + if (decide (y3 = nI 1)) then y2 else -y2) (fun (_ : Unit) (t9 : State) => va_P D vwCl (ob_wX ax ao al am ac ++ ob_wL t al n cl rd sv pb (upd ba y1.toNatClampNeg (ba y1.toNatClampNeg + if (decide (y3 = nI 1)) then y2 else -y2)) bf od bg) t9.heap) (va_A (ob_wX ax ao al am ac ++ ob_wL t al n cl rd sv pb ba bf od bg) sz)) (fun _ _ _ => False) 1 6 (va_A (ob_wX ax ao al am ac ++ ob_wL t al n cl rd sv pb ba bf od bg) sz) := by
  refine vx_ofWH (cc := cL_act) (maxL := 6) (ret := (some .int)) (hh := [(0, 217, 218, 79), (0, 217, 223, 15), (0, 217, 228, 18)]) (by decide) rfl ?_
  intro p e s m args below meth c s₁ B hml hv
  obtain ⟨rfl, hsz, hP, hk, hD0, hE9, hN⟩ := hv
  have hE := hE9.2.2
  have hx := B.exec
  have hb := B.bytes
  have hr := B.returns
  have hts := atoms_spec (ws := wsL_act) B.pre
  have hown : s.vm.findClass RL = some m.cls := findClass_of_methodNamed B.named
  have hlocks := B.notSynchronized
  have hK := hk.1
  have htab := vx_table (x := yL_act) B (hts (Cond.codeWith yL_act cL_act 6 (some .int) [(0, 217, 218, 79), (0, 217, 223, 15), (0, 217, 228, 18)]) (List.mem_of_getElem? (i := 0) rfl))
  have hD : va_D (va_A (ob_wX ax ao al am ac ++ ob_wL t al n cl rd sv pb ba bf od bg) sz) (ob_wX ax ao al am ac ++ ob_wL t al n cl rd sv pb ba bf od bg) := hD0.self (sz := sz)
  have hA : ∀ q : Nat, s.heap.size ≤ q → (va_A (ob_wX ax ao al am ac ++ ob_wL t al n cl rd sv pb ba bf od bg) sz) q := fun q h => Or.inr (hsz ▸ h)
  have hS : va_S (va_A (ob_wX ax ao al am ac ++ ob_wL t al n cl rd sv pb ba bf od bg) sz) s.heap s.heap [] := va_S.rf
  have hl := lv_entry [.ref ax, .int (nI 0), .int y1, .int y2, .int y3] (n := 6) (Nat.le_of_ble_eq_true rfl)
  rw [lg_entry_eq]
  generalize (lg_sl [.ref ax, .int (nI 0), .int y1, .int y2, .int y3] ++ List.replicate (6 - (lg_sl [.ref ax, .int (nI 0), .int y1, .int y2, .int y3]).length) Slot.unset).toArray = ls at hl ⊢
  have hl : lv_has ls 6 [(0, .ref ax), (1, .int (nI 0)), (2, .int y1), (3, .int y2), (4, .int y3)] := hl
  have hP : va_P D vwCl (ob_wX ax ao al am ac ++ ob_wL t al n cl rd sv pb ba bf od bg) s.heap := hP
  refine lv_iload_n hx hb dL_act_0 rfl (lv_at hl 1 rfl) ?_
  refine lv_if_ne (tgt := 24) hx hb dL_act_1 (by decide) (fun c9 => absurd c9 (by decide)) (fun _ => ?_)
  refine lv_aload_n hx hb dL_act_4 rfl (lv_at hl 0 rfl) ?_
  refine lv_iload_n hx hb dL_act_5 rfl (lv_at hl 2 rfl) ?_
  refine lv_iload_n hx hb dL_act_6 rfl (lv_at hl 3 rfl) ?_
  refine lv_iload hx hb dL_act_7 (lv_at hl 4 rfl) ?_
  refine lv_iconst (v := nI 1) hx hb dL_act_9 (by decide) ?_
  have kj : W p l e (headSpec wsL_act ({ frames := 7, cells := 1, slots := 6, locals := 105 } : Room)).room s m ([.ref ax, .int (nI 0), .int y1, .int y2, .int y3] : List Value).toArray below meth c s.heap [] 0 0 (vx_MQ below (va_Qi (fun (r : Int32) (_ : Unit) => r = ba y1.toNatClampNeg + if (decide (y3 = nI 1)) then y2 else -y2) (fun (_ : Unit) (t9 : State) => va_P D vwCl (ob_wX ax ao al am ac ++ ob_wL t al n cl rd sv pb (upd ba y1.toNatClampNeg (ba y1.toNatClampNeg + if (decide (y3 = nI 1)) then y2 else -y2)) bf od bg) t9.heap) (va_A (ob_wX ax ao al am ac ++ ob_wL t al n cl rd sv pb ba bf od bg) sz)) (fun _ _ _ => False) ([.ref ax, .int (nI 0), .int y1, .int y2, .int y3] : List Value).toArray s 1 6 (va_A (ob_wX ax ao al am ac ++ ob_wL t al n cl rd sv pb ba bf od bg) sz)) (F0 m 18 ls [.int (ob_bi (decide (y3 = nI 1))), .int y2, .int y1, .ref ax]) → W p l e (headSpec wsL_act ({ frames := 7, cells := 1, slots := 6, locals := 105 } : Room)).room s m ([.ref ax, .int (nI 0), .int y1, .int y2, .int y3] : List Value).toArray below meth c s.heap [] 0 0 (vx_MQ below (va_Qi (fun (r : Int32) (_ : Unit) => r = ba y1.toNatClampNeg + if (decide (y3 = nI 1)) then y2 else -y2) (fun (_ : Unit) (t9 : State) => va_P D vwCl (ob_wX ax ao al am ac ++ ob_wL t al n cl rd sv pb (upd ba y1.toNatClampNeg (ba y1.toNatClampNeg + if (decide (y3 = nI 1)) then y2 else -y2)) bf od bg) t9.heap) (va_A (ob_wX ax ao al am ac ++ ob_wL t al n cl rd sv pb ba bf od bg) sz)) (fun _ _ _ => False) ([.ref ax, .int (nI 0), .int y1, .int y2, .int y3] : List Value).toArray s 1 6 (va_A (ob_wX ax ao al am ac ++ ob_wL t al n cl rd sv pb ba bf od bg) sz)) (F0 m 10 ls [.int (nI 1), .int y3, .int y2, .int y1, .ref ax]) := fun kj => by
    refine lv_icmp_ne (tgt := 17) hx hb dL_act_10 (by decide) (fun c9 => ?_) (fun c9 => ?_)
    · refine lv_iconst (v := ob_bi (decide (y3 = nI 1))) hx hb dL_act_17 (by rw [decide_eq_false c9]; rfl) ?_
      exact kj
    · refine lv_iconst (v := ob_bi (decide (y3 = nI 1))) hx hb dL_act_13 (by rw [decide_eq_true c9]; rfl) ?_
      refine lv_goto (tgt := 18) hx hb dL_act_14 (by decide) ?_
      exact kj
  refine kj ?_
  have hFc := va_free (wc := ob_wX ax ao al am ac ++ ob_wL t al n cl rd sv pb ba bf od bg) hD hS hA [0, 1, 2, 3, 4, 5, 6, 7, 8, 9] rfl
  refine vx_calli (vx_runV (As := [.int y1, .int y2, .int (ob_bi (decide (y3 = nI 1)))]) (rest := []) ⟨hx, hb, hml, hown, hts⟩ (c_X4_argue l hl9 sa D t s.heap.size ax ao al am ac n cl rd sv pb ba bf od bg y1 y2 (decide (y3 = nI 1)) hn) (cwV 3 hts gL_act_X4_argue rfl rfl rfl (by decide +kernel) ⟨Nat.le_of_ble_eq_true rfl, Nat.le_of_ble_eq_true rfl⟩) (ob_pxV (ci := 4) (q0 := 0) hP hD hk hE rfl rfl) rfl rfl hl.1 rfl (lv_room (Nat.le_of_ble_eq_true rfl)) dL_act_18 ⟨Nat.le_of_ble_eq_true rfl, Nat.le_of_ble_eq_true rfl⟩) hS (fun q _ h => hFc q h) hFc (fun _ _ h => h.elim) (fun E9 ce9 q9 u9 t9 H1 locs ht hvm hpx hBX hz1 hk1 hS hce hcv hcl => ?_) (fun r9 u9 t9 H1 locs ht hvm hw9 hB hz1 hk1 hS => ?_)
  · obtain ⟨i9, hz9, -⟩ := hBX
    exact absurd (hz9.symm.trans hz) (Nat.succ_ne_zero _)
  · rw [ht] at hB
    obtain ⟨-, hp9⟩ := hw9
    have hP := ob_jn (ws' := ob_wX ax ao al am ac ++ ob_wL t al n cl rd sv pb (upd ba y1.toNatClampNeg (ba y1.toNatClampNeg + if (decide (y3 = nI 1)) then y2 else -y2)) bf od bg) hP hD [some 0, some 1, some 2, some 3, some 4, some 5, some 6, some 7, some 8, some 9] [0, 1, 2, 3, 4, 5, 6, 7, 8, 9] rfl rfl hk1 hB rfl
    generalize H1 = H at hP hS ⊢
    refine lv_goto (tgt := 217) hx hb dL_act_21 (by decide) ?_
    exact vx_ret (W.iret (v := r9) hx hb hr (fun t9 ht hW => ⟨⟨r9, (), rfl, hp9, ob_th ht hP⟩, hS.F ht⟩) hS.2.2 dL_act_217)

set_option maxRecDepth 100000 in
set_option maxHeartbeats 8000000 in
theorem y_act0_no0 (l : Launch) (hl9 : l.stackTraces = false) (sa : Nat → Nat) (D : va_G) (t : Nat → ClassId) (sz : Nat) (ax : Nat) (ao al am ac : Nat → Nat) (n : Nat) (cl rd sv pb ba bf od : Nat → Int32) (bg : Nat → Int64)   (y1 y2 y3 : Int32) (hn : n ≤ 30) (hz : (ob_z2 (ob_hd n y1) (ob_wi y2 (nI 1) (nI 100))) = 1) : vx_Met l yL_act wsL_act ({ frames := 7, cells := 1, slots := 6, locals := 105 } : Room) (ob_PY D t (ob_wX ax ao al am ac ++ ob_wL t al n cl rd sv pb ba bf od bg) sz sa [.ref ax, .int (nI 0), .int y1, .int y2, .int y3]) (va_Qi (fun (r : Int32) (_ : Unit) => r = (-3000001)) (fun (_ : Unit) (t9 : State) => va_P D vwCl (ob_wX ax ao al am ac ++ ob_wL t al n cl rd sv pb ba bf od bg) t9.heap) (va_A (ob_wX ax ao al am ac ++ ob_wL t al n cl rd sv pb ba bf od bg) sz)) (fun _ _ _ => False) 1 6 (va_A (ob_wX ax ao al am ac ++ ob_wL t al n cl rd sv pb ba bf od bg) sz) := by
  refine vx_ofWH (cc := cL_act) (maxL := 6) (ret := (some .int)) (hh := [(0, 217, 218, 79), (0, 217, 223, 15), (0, 217, 228, 18)]) (by decide) rfl ?_
  intro p e s m args below meth c s₁ B hml hv
  obtain ⟨rfl, hsz, hP, hk, hD0, hE9, hN⟩ := hv
  have hE := hE9.2.2
  have hx := B.exec
  have hb := B.bytes
  have hr := B.returns
  have hts := atoms_spec (ws := wsL_act) B.pre
  have hown : s.vm.findClass RL = some m.cls := findClass_of_methodNamed B.named
  have hlocks := B.notSynchronized
  have hK := hk.1
  have htab := vx_table (x := yL_act) B (hts (Cond.codeWith yL_act cL_act 6 (some .int) [(0, 217, 218, 79), (0, 217, 223, 15), (0, 217, 228, 18)]) (List.mem_of_getElem? (i := 0) rfl))
  have hD : va_D (va_A (ob_wX ax ao al am ac ++ ob_wL t al n cl rd sv pb ba bf od bg) sz) (ob_wX ax ao al am ac ++ ob_wL t al n cl rd sv pb ba bf od bg) := hD0.self (sz := sz)
  have hA : ∀ q : Nat, s.heap.size ≤ q → (va_A (ob_wX ax ao al am ac ++ ob_wL t al n cl rd sv pb ba bf od bg) sz) q := fun q h => Or.inr (hsz ▸ h)
  have hS : va_S (va_A (ob_wX ax ao al am ac ++ ob_wL t al n cl rd sv pb ba bf od bg) sz) s.heap s.heap [] := va_S.rf
  have hl := lv_entry [.ref ax, .int (nI 0), .int y1, .int y2, .int y3] (n := 6) (Nat.le_of_ble_eq_true rfl)
  rw [lg_entry_eq]
  generalize (lg_sl [.ref ax, .int (nI 0), .int y1, .int y2, .int y3] ++ List.replicate (6 - (lg_sl [.ref ax, .int (nI 0), .int y1, .int y2, .int y3]).length) Slot.unset).toArray = ls at hl ⊢
  have hl : lv_has ls 6 [(0, .ref ax), (1, .int (nI 0)), (2, .int y1), (3, .int y2), (4, .int y3)] := hl
  have hP : va_P D vwCl (ob_wX ax ao al am ac ++ ob_wL t al n cl rd sv pb ba bf od bg) s.heap := hP
  refine lv_iload_n hx hb dL_act_0 rfl (lv_at hl 1 rfl) ?_
  refine lv_if_ne (tgt := 24) hx hb dL_act_1 (by decide) (fun c9 => absurd c9 (by decide)) (fun _ => ?_)
  refine lv_aload_n hx hb dL_act_4 rfl (lv_at hl 0 rfl) ?_
  refine lv_iload_n hx hb dL_act_5 rfl (lv_at hl 2 rfl) ?_
  refine lv_iload_n hx hb dL_act_6 rfl (lv_at hl 3 rfl) ?_
  refine lv_iload hx hb dL_act_7 (lv_at hl 4 rfl) ?_
  refine lv_iconst (v := nI 1) hx hb dL_act_9 (by decide) ?_
  have kj : W p l e (headSpec wsL_act ({ frames := 7, cells := 1, slots := 6, locals := 105 } : Room)).room s m ([.ref ax, .int (nI 0), .int y1, .int y2, .int y3] : List Value).toArray below meth c s.heap [] 0 0 (vx_MQ below (va_Qi (fun (r : Int32) (_ : Unit) => r = (-3000001)) (fun (_ : Unit) (t9 : State) => va_P D vwCl (ob_wX ax ao al am ac ++ ob_wL t al n cl rd sv pb ba bf od bg) t9.heap) (va_A (ob_wX ax ao al am ac ++ ob_wL t al n cl rd sv pb ba bf od bg) sz)) (fun _ _ _ => False) ([.ref ax, .int (nI 0), .int y1, .int y2, .int y3] : List Value).toArray s 1 6 (va_A (ob_wX ax ao al am ac ++ ob_wL t al n cl rd sv pb ba bf od bg) sz)) (F0 m 18 ls [.int (ob_bi (decide (y3 = nI 1))), .int y2, .int y1, .ref ax]) → W p l e (headSpec wsL_act ({ frames := 7, cells := 1, slots := 6, locals := 105 } : Room)).room s m ([.ref ax, .int (nI 0), .int y1, .int y2, .int y3] : List Value).toArray below meth c s.heap [] 0 0 (vx_MQ below (va_Qi (fun (r : Int32) (_ : Unit) => r = (-3000001)) (fun (_ : Unit) (t9 : State) => va_P D vwCl (ob_wX ax ao al am ac ++ ob_wL t al n cl rd sv pb ba bf od bg) t9.heap) (va_A (ob_wX ax ao al am ac ++ ob_wL t al n cl rd sv pb ba bf od bg) sz)) (fun _ _ _ => False) ([.ref ax, .int (nI 0), .int y1, .int y2, .int y3] : List Value).toArray s 1 6 (va_A (ob_wX ax ao al am ac ++ ob_wL t al n cl rd sv pb ba bf od bg) sz)) (F0 m 10 ls [.int (nI 1), .int y3, .int y2, .int y1, .ref ax]) := fun kj => by
    refine lv_icmp_ne (tgt := 17) hx hb dL_act_10 (by decide) (fun c9 => ?_) (fun c9 => ?_)
    · refine lv_iconst (v := ob_bi (decide (y3 = nI 1))) hx hb dL_act_17 (by rw [decide_eq_false c9]; rfl) ?_
      exact kj
    · refine lv_iconst (v := ob_bi (decide (y3 = nI 1))) hx hb dL_act_13 (by rw [decide_eq_true c9]; rfl) ?_
      refine lv_goto (tgt := 18) hx hb dL_act_14 (by decide) ?_
      exact kj
  refine kj ?_
  have hFc := va_free (wc := ob_wX ax ao al am ac ++ ob_wL t al n cl rd sv pb ba bf od bg) hD hS hA [0, 1, 2, 3, 4, 5, 6, 7, 8, 9] rfl
  refine vx_calli (vx_runV (As := [.int y1, .int y2, .int (ob_bi (decide (y3 = nI 1)))]) (rest := []) ⟨hx, hb, hml, hown, hts⟩ (c_X4_argue l hl9 sa D t s.heap.size ax ao al am ac n cl rd sv pb ba bf od bg y1 y2 (decide (y3 = nI 1)) hn) (cwV 3 hts gL_act_X4_argue rfl rfl rfl (by decide +kernel) ⟨Nat.le_of_ble_eq_true rfl, Nat.le_of_ble_eq_true rfl⟩) (ob_pxV (ci := 4) (q0 := 0) hP hD hk hE rfl rfl) rfl rfl hl.1 rfl (lv_room (Nat.le_of_ble_eq_true rfl)) dL_act_18 ⟨Nat.le_of_ble_eq_true rfl, Nat.le_of_ble_eq_true rfl⟩) hS (fun q _ h => hFc q h) hFc (fun _ _ h => h.elim) (fun E9 ce9 q9 u9 t9 H1 locs ht hvm hpx hBX hz1 hk1 hS hce hcv hcl => ?_) (fun r9 u9 t9 H1 locs ht hvm hw9 hB hz1 hk1 hS => ?_)
  · obtain ⟨i9, hz9, hi9⟩ := hBX
    obtain rfl : i9 = 0 := Nat.succ.inj (hz9.symm.trans hz)
    cases hi9
    have hP := hP.kept (fun k q h => hk1 q.1 (hP k q h).lt id)
    refine vx_catch (own := RL) (name := "java/lang/IndexOutOfBoundsException") hown [] ⟨0, 217, 218, 79⟩ [⟨0, 217, 223, 15⟩, ⟨0, 217, 228, 18⟩] (by rw [htab]; rfl) (fun z h => absurd h List.not_mem_nil) rfl (by decide) (hts (Cond.classLink RL 79 "java/lang/IndexOutOfBoundsException") (List.mem_of_getElem? (i := 1) rfl)) (va_Nw.use rfl hE.2.2.2.2.1) hce hcv hcl ?_
    refine lv_astore (lv' := [(5, .ref q9), (0, .ref ax), (1, .int (nI 0)), (2, .int y1), (3, .int y2), (4, .int y3)]) hx hb dL_act_218 hl (by decide) rfl (fun ls hl => ?_)
    refine lv_ldc (v := (-3000001)) hx hb hown (hts (Cond.constant RL 81 (-3000001)) (List.mem_of_getElem? (i := 4) rfl)) dL_act_220 ?_
    exact vx_ret (W.iret (v := (-3000001)) hx hb hr (fun t9 ht hW => ⟨⟨(-3000001), (), rfl, rfl, ob_th ht hP⟩, hS.F ht⟩) hS.2.2 dL_act_222)
  · exact absurd (hw9.1.symm.trans hz) (by decide)

set_option maxRecDepth 100000 in
set_option maxHeartbeats 8000000 in
theorem y_act0_no1 (l : Launch) (hl9 : l.stackTraces = false) (sa : Nat → Nat) (D : va_G) (t : Nat → ClassId) (sz : Nat) (ax : Nat) (ao al am ac : Nat → Nat) (n : Nat) (cl rd sv pb ba bf od : Nat → Int32) (bg : Nat → Int64)   (y1 y2 y3 : Int32) (hn : n ≤ 30) (hz : (ob_z2 (ob_hd n y1) (ob_wi y2 (nI 1) (nI 100))) = 2) : vx_Met l yL_act wsL_act ({ frames := 7, cells := 1, slots := 6, locals := 105 } : Room) (ob_PY D t (ob_wX ax ao al am ac ++ ob_wL t al n cl rd sv pb ba bf od bg) sz sa [.ref ax, .int (nI 0), .int y1, .int y2, .int y3]) (va_Qi (fun (r : Int32) (_ : Unit) => r = (-3000002)) (fun (_ : Unit) (t9 : State) => va_P D vwCl (ob_wX ax ao al am ac ++ ob_wL t al n cl rd sv pb ba bf od bg) t9.heap) (va_A (ob_wX ax ao al am ac ++ ob_wL t al n cl rd sv pb ba bf od bg) sz)) (fun _ _ _ => False) 1 6 (va_A (ob_wX ax ao al am ac ++ ob_wL t al n cl rd sv pb ba bf od bg) sz) := by
  refine vx_ofWH (cc := cL_act) (maxL := 6) (ret := (some .int)) (hh := [(0, 217, 218, 79), (0, 217, 223, 15), (0, 217, 228, 18)]) (by decide) rfl ?_
  intro p e s m args below meth c s₁ B hml hv
  obtain ⟨rfl, hsz, hP, hk, hD0, hE9, hN⟩ := hv
  have hE := hE9.2.2
  have hx := B.exec
  have hb := B.bytes
  have hr := B.returns
  have hts := atoms_spec (ws := wsL_act) B.pre
  have hown : s.vm.findClass RL = some m.cls := findClass_of_methodNamed B.named
  have hlocks := B.notSynchronized
  have hK := hk.1
  have htab := vx_table (x := yL_act) B (hts (Cond.codeWith yL_act cL_act 6 (some .int) [(0, 217, 218, 79), (0, 217, 223, 15), (0, 217, 228, 18)]) (List.mem_of_getElem? (i := 0) rfl))
  have hD : va_D (va_A (ob_wX ax ao al am ac ++ ob_wL t al n cl rd sv pb ba bf od bg) sz) (ob_wX ax ao al am ac ++ ob_wL t al n cl rd sv pb ba bf od bg) := hD0.self (sz := sz)
  have hA : ∀ q : Nat, s.heap.size ≤ q → (va_A (ob_wX ax ao al am ac ++ ob_wL t al n cl rd sv pb ba bf od bg) sz) q := fun q h => Or.inr (hsz ▸ h)
  have hS : va_S (va_A (ob_wX ax ao al am ac ++ ob_wL t al n cl rd sv pb ba bf od bg) sz) s.heap s.heap [] := va_S.rf
  have hl := lv_entry [.ref ax, .int (nI 0), .int y1, .int y2, .int y3] (n := 6) (Nat.le_of_ble_eq_true rfl)
  rw [lg_entry_eq]
  generalize (lg_sl [.ref ax, .int (nI 0), .int y1, .int y2, .int y3] ++ List.replicate (6 - (lg_sl [.ref ax, .int (nI 0), .int y1, .int y2, .int y3]).length) Slot.unset).toArray = ls at hl ⊢
  have hl : lv_has ls 6 [(0, .ref ax), (1, .int (nI 0)), (2, .int y1), (3, .int y2), (4, .int y3)] := hl
  have hP : va_P D vwCl (ob_wX ax ao al am ac ++ ob_wL t al n cl rd sv pb ba bf od bg) s.heap := hP
  refine lv_iload_n hx hb dL_act_0 rfl (lv_at hl 1 rfl) ?_
  refine lv_if_ne (tgt := 24) hx hb dL_act_1 (by decide) (fun c9 => absurd c9 (by decide)) (fun _ => ?_)
  refine lv_aload_n hx hb dL_act_4 rfl (lv_at hl 0 rfl) ?_
  refine lv_iload_n hx hb dL_act_5 rfl (lv_at hl 2 rfl) ?_
  refine lv_iload_n hx hb dL_act_6 rfl (lv_at hl 3 rfl) ?_
  refine lv_iload hx hb dL_act_7 (lv_at hl 4 rfl) ?_
  refine lv_iconst (v := nI 1) hx hb dL_act_9 (by decide) ?_
  have kj : W p l e (headSpec wsL_act ({ frames := 7, cells := 1, slots := 6, locals := 105 } : Room)).room s m ([.ref ax, .int (nI 0), .int y1, .int y2, .int y3] : List Value).toArray below meth c s.heap [] 0 0 (vx_MQ below (va_Qi (fun (r : Int32) (_ : Unit) => r = (-3000002)) (fun (_ : Unit) (t9 : State) => va_P D vwCl (ob_wX ax ao al am ac ++ ob_wL t al n cl rd sv pb ba bf od bg) t9.heap) (va_A (ob_wX ax ao al am ac ++ ob_wL t al n cl rd sv pb ba bf od bg) sz)) (fun _ _ _ => False) ([.ref ax, .int (nI 0), .int y1, .int y2, .int y3] : List Value).toArray s 1 6 (va_A (ob_wX ax ao al am ac ++ ob_wL t al n cl rd sv pb ba bf od bg) sz)) (F0 m 18 ls [.int (ob_bi (decide (y3 = nI 1))), .int y2, .int y1, .ref ax]) → W p l e (headSpec wsL_act ({ frames := 7, cells := 1, slots := 6, locals := 105 } : Room)).room s m ([.ref ax, .int (nI 0), .int y1, .int y2, .int y3] : List Value).toArray below meth c s.heap [] 0 0 (vx_MQ below (va_Qi (fun (r : Int32) (_ : Unit) => r = (-3000002)) (fun (_ : Unit) (t9 : State) => va_P D vwCl (ob_wX ax ao al am ac ++ ob_wL t al n cl rd sv pb ba bf od bg) t9.heap) (va_A (ob_wX ax ao al am ac ++ ob_wL t al n cl rd sv pb ba bf od bg) sz)) (fun _ _ _ => False) ([.ref ax, .int (nI 0), .int y1, .int y2, .int y3] : List Value).toArray s 1 6 (va_A (ob_wX ax ao al am ac ++ ob_wL t al n cl rd sv pb ba bf od bg) sz)) (F0 m 10 ls [.int (nI 1), .int y3, .int y2, .int y1, .ref ax]) := fun kj => by
    refine lv_icmp_ne (tgt := 17) hx hb dL_act_10 (by decide) (fun c9 => ?_) (fun c9 => ?_)
    · refine lv_iconst (v := ob_bi (decide (y3 = nI 1))) hx hb dL_act_17 (by rw [decide_eq_false c9]; rfl) ?_
      exact kj
    · refine lv_iconst (v := ob_bi (decide (y3 = nI 1))) hx hb dL_act_13 (by rw [decide_eq_true c9]; rfl) ?_
      refine lv_goto (tgt := 18) hx hb dL_act_14 (by decide) ?_
      exact kj
  refine kj ?_
  have hFc := va_free (wc := ob_wX ax ao al am ac ++ ob_wL t al n cl rd sv pb ba bf od bg) hD hS hA [0, 1, 2, 3, 4, 5, 6, 7, 8, 9] rfl
  refine vx_calli (vx_runV (As := [.int y1, .int y2, .int (ob_bi (decide (y3 = nI 1)))]) (rest := []) ⟨hx, hb, hml, hown, hts⟩ (c_X4_argue l hl9 sa D t s.heap.size ax ao al am ac n cl rd sv pb ba bf od bg y1 y2 (decide (y3 = nI 1)) hn) (cwV 3 hts gL_act_X4_argue rfl rfl rfl (by decide +kernel) ⟨Nat.le_of_ble_eq_true rfl, Nat.le_of_ble_eq_true rfl⟩) (ob_pxV (ci := 4) (q0 := 0) hP hD hk hE rfl rfl) rfl rfl hl.1 rfl (lv_room (Nat.le_of_ble_eq_true rfl)) dL_act_18 ⟨Nat.le_of_ble_eq_true rfl, Nat.le_of_ble_eq_true rfl⟩) hS (fun q _ h => hFc q h) hFc (fun _ _ h => h.elim) (fun E9 ce9 q9 u9 t9 H1 locs ht hvm hpx hBX hz1 hk1 hS hce hcv hcl => ?_) (fun r9 u9 t9 H1 locs ht hvm hw9 hB hz1 hk1 hS => ?_)
  · obtain ⟨i9, hz9, hi9⟩ := hBX
    obtain rfl : i9 = 1 := Nat.succ.inj (hz9.symm.trans hz)
    cases hi9
    have hP := hP.kept (fun k q h => hk1 q.1 (hP k q h).lt id)
    refine vx_catch (own := RL) (name := "java/lang/IllegalArgumentException") hown [⟨0, 217, 218, 79⟩] ⟨0, 217, 223, 15⟩ [⟨0, 217, 228, 18⟩] (by rw [htab]; rfl) (List.forall_mem_cons.mpr ⟨Or.inr ⟨(by decide), "java/lang/IndexOutOfBoundsException", (hts (Cond.classLink RL 79 "java/lang/IndexOutOfBoundsException") (List.mem_of_getElem? (i := 1) rfl)), hN.2.1⟩, (fun z h => absurd h List.not_mem_nil)⟩) rfl (by decide) (hts (Cond.classLink RL 15 "java/lang/IllegalArgumentException") (List.mem_of_getElem? (i := 2) rfl)) (va_Nw.use rfl hE.2.2.1) hce hcv hcl ?_
    refine lv_astore (lv' := [(5, .ref q9), (0, .ref ax), (1, .int (nI 0)), (2, .int y1), (3, .int y2), (4, .int y3)]) hx hb dL_act_223 hl (by decide) rfl (fun ls hl => ?_)
    refine lv_ldc (v := (-3000002)) hx hb hown (hts (Cond.constant RL 17 (-3000002)) (List.mem_of_getElem? (i := 5) rfl)) dL_act_225 ?_
    exact vx_ret (W.iret (v := (-3000002)) hx hb hr (fun t9 ht hW => ⟨⟨(-3000002), (), rfl, rfl, ob_th ht hP⟩, hS.F ht⟩) hS.2.2 dL_act_227)
  · exact absurd (hw9.1.symm.trans hz) (by decide)

set_option maxRecDepth 100000 in
set_option maxHeartbeats 8000000 in
theorem y_act1_ok (l : Launch) (hl9 : l.stackTraces = false) (sa : Nat → Nat) (D : va_G) (t : Nat → ClassId) (sz : Nat) (ax : Nat) (ao al am ac : Nat → Nat) (cn : Nat) (st : Int32) (Wt : Nat → Nat → Int32)  (y1 y2 y3 : Int32) (hcn : cn ≤ 16) (hz : (ob_z4 (ob_hd cn y1 && ob_hd cn y2) (!decide (y1 = y2) && ob_wi y3 (nI 0) (nI 100)) ((!decide (y3 ≤ 0)) && ob_hb (ob_rcO Wt cn (ob_bit (nI cn) - nI 1) y2 cn) y1)) = 0) : vx_Met l yL_act wsL_act ({ frames := 7, cells := 1, slots := 6, locals := 136 } : Room) (ob_PY D t (ob_wX ax ao al am ac ++ ob_wC t ac cn st Wt) sz sa [.ref ax, .int (nI 1), .int y1, .int y2, .int y3]) (va_Qi (fun (r : Int32) (_ : Unit) => r = Wt y1.toNatClampNeg y2.toNatClampNeg) (fun (_ : Unit) (t9 : State) => va_P D vwCl (ob_wX ax ao al am ac ++ ob_wC t ac cn st (ob_up2 Wt y1.toNatClampNeg y2.toNatClampNeg y3)) t9.heap) (va_A (ob_wX ax ao al am ac ++ ob_wC t ac cn st Wt) sz)) (fun _ _ _ => False) 1 6 (va_A (ob_wX ax ao al am ac ++ ob_wC t ac cn st Wt) sz) := by
  refine vx_ofWH (cc := cL_act) (maxL := 6) (ret := (some .int)) (hh := [(0, 217, 218, 79), (0, 217, 223, 15), (0, 217, 228, 18)]) (by decide) rfl ?_
  intro p e s m args below meth c s₁ B hml hv
  obtain ⟨rfl, hsz, hP, hk, hD0, hE9, hN⟩ := hv
  have hE := hE9.2.2
  have hx := B.exec
  have hb := B.bytes
  have hr := B.returns
  have hts := atoms_spec (ws := wsL_act) B.pre
  have hown : s.vm.findClass RL = some m.cls := findClass_of_methodNamed B.named
  have hlocks := B.notSynchronized
  have hK := hk.1
  have htab := vx_table (x := yL_act) B (hts (Cond.codeWith yL_act cL_act 6 (some .int) [(0, 217, 218, 79), (0, 217, 223, 15), (0, 217, 228, 18)]) (List.mem_of_getElem? (i := 0) rfl))
  have hD : va_D (va_A (ob_wX ax ao al am ac ++ ob_wC t ac cn st Wt) sz) (ob_wX ax ao al am ac ++ ob_wC t ac cn st Wt) := hD0.self (sz := sz)
  have hA : ∀ q : Nat, s.heap.size ≤ q → (va_A (ob_wX ax ao al am ac ++ ob_wC t ac cn st Wt) sz) q := fun q h => Or.inr (hsz ▸ h)
  have hS : va_S (va_A (ob_wX ax ao al am ac ++ ob_wC t ac cn st Wt) sz) s.heap s.heap [] := va_S.rf
  have hl := lv_entry [.ref ax, .int (nI 1), .int y1, .int y2, .int y3] (n := 6) (Nat.le_of_ble_eq_true rfl)
  rw [lg_entry_eq]
  generalize (lg_sl [.ref ax, .int (nI 1), .int y1, .int y2, .int y3] ++ List.replicate (6 - (lg_sl [.ref ax, .int (nI 1), .int y1, .int y2, .int y3]).length) Slot.unset).toArray = ls at hl ⊢
  have hl : lv_has ls 6 [(0, .ref ax), (1, .int (nI 1)), (2, .int y1), (3, .int y2), (4, .int y3)] := hl
  have hP : va_P D vwCl (ob_wX ax ao al am ac ++ ob_wC t ac cn st Wt) s.heap := hP
  refine lv_iload_n hx hb dL_act_0 rfl (lv_at hl 1 rfl) ?_
  refine lv_if_ne (tgt := 24) hx hb dL_act_1 (by decide) (fun _ => ?_) (fun c9 => absurd c9 (by decide))
  refine lv_iload_n hx hb dL_act_24 rfl (lv_at hl 1 rfl) ?_
  refine lv_iconst (v := nI 1) hx hb dL_act_25 (by decide) ?_
  refine lv_icmp_ne (tgt := 40) hx hb dL_act_26 (by decide) (fun c9 => absurd c9 (by decide)) (fun _ => ?_)
  refine lv_aload_n hx hb dL_act_29 rfl (lv_at hl 0 rfl) ?_
  refine lv_iload_n hx hb dL_act_30 rfl (lv_at hl 2 rfl) ?_
  refine lv_iload_n hx hb dL_act_31 rfl (lv_at hl 3 rfl) ?_
  refine lv_iload hx hb dL_act_32 (lv_at hl 4 rfl) ?_
  have hFc := va_free (wc := ob_wX ax ao al am ac ++ ob_wC t ac cn st Wt) hD hS hA [0, 1, 2, 3, 4, 5, 6, 7, 8, 9, 10, 11, 12, 13, 14, 15, 16, 17, 18] rfl
  refine vx_calli (vx_runV (As := [.int y1, .int y2, .int y3]) (rest := []) ⟨hx, hb, hml, hown, hts⟩ (c_X4_argueReason l hl9 sa D t s.heap.size ax ao al am ac cn st Wt y1 y2 y3 hcn) (cwV 3 hts gL_act_X4_argueReason rfl rfl rfl (by decide +kernel) ⟨Nat.le_of_ble_eq_true rfl, Nat.le_of_ble_eq_true rfl⟩) (ob_pxV (ci := 4) (q0 := 0) hP hD hk hE rfl rfl) rfl rfl hl.1 rfl (lv_room (Nat.le_of_ble_eq_true rfl)) dL_act_34 ⟨Nat.le_of_ble_eq_true rfl, Nat.le_of_ble_eq_true rfl⟩) hS (fun q _ h => hFc q h) hFc (fun _ _ h => h.elim) (fun E9 ce9 q9 u9 t9 H1 locs ht hvm hpx hBX hz1 hk1 hS hce hcv hcl => ?_) (fun r9 u9 t9 H1 locs ht hvm hw9 hB hz1 hk1 hS => ?_)
  · obtain ⟨i9, hz9, -⟩ := hBX
    exact absurd (hz9.symm.trans hz) (Nat.succ_ne_zero _)
  · rw [ht] at hB
    obtain ⟨-, hp9⟩ := hw9
    have hP := ob_jn (ws' := ob_wX ax ao al am ac ++ ob_wC t ac cn st (ob_up2 Wt y1.toNatClampNeg y2.toNatClampNeg y3)) hP hD [some 0, some 1, some 2, some 3, some 4, some 5, some 6, some 7, some 8, some 9, some 10, some 11, some 12, some 13, some 14, some 15, some 16, some 17, some 18] [0, 1, 2, 3, 4, 5, 6, 7, 8, 9, 10, 11, 12, 13, 14, 15, 16, 17, 18] rfl rfl hk1 hB rfl
    generalize H1 = H at hP hS ⊢
    refine lv_goto (tgt := 217) hx hb dL_act_37 (by decide) ?_
    exact vx_ret (W.iret (v := r9) hx hb hr (fun t9 ht hW => ⟨⟨r9, (), rfl, hp9, ob_th ht hP⟩, hS.F ht⟩) hS.2.2 dL_act_217)

set_option maxRecDepth 100000 in
set_option maxHeartbeats 8000000 in
theorem y_act1_no0 (l : Launch) (hl9 : l.stackTraces = false) (sa : Nat → Nat) (D : va_G) (t : Nat → ClassId) (sz : Nat) (ax : Nat) (ao al am ac : Nat → Nat) (cn : Nat) (st : Int32) (Wt : Nat → Nat → Int32)  (y1 y2 y3 : Int32) (hcn : cn ≤ 16) (hz : (ob_z4 (ob_hd cn y1 && ob_hd cn y2) (!decide (y1 = y2) && ob_wi y3 (nI 0) (nI 100)) ((!decide (y3 ≤ 0)) && ob_hb (ob_rcO Wt cn (ob_bit (nI cn) - nI 1) y2 cn) y1)) = 1) : vx_Met l yL_act wsL_act ({ frames := 7, cells := 1, slots := 6, locals := 136 } : Room) (ob_PY D t (ob_wX ax ao al am ac ++ ob_wC t ac cn st Wt) sz sa [.ref ax, .int (nI 1), .int y1, .int y2, .int y3]) (va_Qi (fun (r : Int32) (_ : Unit) => r = (-3000001)) (fun (_ : Unit) (t9 : State) => va_P D vwCl (ob_wX ax ao al am ac ++ ob_wC t ac cn st Wt) t9.heap) (va_A (ob_wX ax ao al am ac ++ ob_wC t ac cn st Wt) sz)) (fun _ _ _ => False) 1 6 (va_A (ob_wX ax ao al am ac ++ ob_wC t ac cn st Wt) sz) := by
  refine vx_ofWH (cc := cL_act) (maxL := 6) (ret := (some .int)) (hh := [(0, 217, 218, 79), (0, 217, 223, 15), (0, 217, 228, 18)]) (by decide) rfl ?_
  intro p e s m args below meth c s₁ B hml hv
  obtain ⟨rfl, hsz, hP, hk, hD0, hE9, hN⟩ := hv
  have hE := hE9.2.2
  have hx := B.exec
  have hb := B.bytes
  have hr := B.returns
  have hts := atoms_spec (ws := wsL_act) B.pre
  have hown : s.vm.findClass RL = some m.cls := findClass_of_methodNamed B.named
  have hlocks := B.notSynchronized
  have hK := hk.1
  have htab := vx_table (x := yL_act) B (hts (Cond.codeWith yL_act cL_act 6 (some .int) [(0, 217, 218, 79), (0, 217, 223, 15), (0, 217, 228, 18)]) (List.mem_of_getElem? (i := 0) rfl))
  have hD : va_D (va_A (ob_wX ax ao al am ac ++ ob_wC t ac cn st Wt) sz) (ob_wX ax ao al am ac ++ ob_wC t ac cn st Wt) := hD0.self (sz := sz)
  have hA : ∀ q : Nat, s.heap.size ≤ q → (va_A (ob_wX ax ao al am ac ++ ob_wC t ac cn st Wt) sz) q := fun q h => Or.inr (hsz ▸ h)
  have hS : va_S (va_A (ob_wX ax ao al am ac ++ ob_wC t ac cn st Wt) sz) s.heap s.heap [] := va_S.rf
  have hl := lv_entry [.ref ax, .int (nI 1), .int y1, .int y2, .int y3] (n := 6) (Nat.le_of_ble_eq_true rfl)
  rw [lg_entry_eq]
  generalize (lg_sl [.ref ax, .int (nI 1), .int y1, .int y2, .int y3] ++ List.replicate (6 - (lg_sl [.ref ax, .int (nI 1), .int y1, .int y2, .int y3]).length) Slot.unset).toArray = ls at hl ⊢
  have hl : lv_has ls 6 [(0, .ref ax), (1, .int (nI 1)), (2, .int y1), (3, .int y2), (4, .int y3)] := hl
  have hP : va_P D vwCl (ob_wX ax ao al am ac ++ ob_wC t ac cn st Wt) s.heap := hP
  refine lv_iload_n hx hb dL_act_0 rfl (lv_at hl 1 rfl) ?_
  refine lv_if_ne (tgt := 24) hx hb dL_act_1 (by decide) (fun _ => ?_) (fun c9 => absurd c9 (by decide))
  refine lv_iload_n hx hb dL_act_24 rfl (lv_at hl 1 rfl) ?_
  refine lv_iconst (v := nI 1) hx hb dL_act_25 (by decide) ?_
  refine lv_icmp_ne (tgt := 40) hx hb dL_act_26 (by decide) (fun c9 => absurd c9 (by decide)) (fun _ => ?_)
  refine lv_aload_n hx hb dL_act_29 rfl (lv_at hl 0 rfl) ?_
  refine lv_iload_n hx hb dL_act_30 rfl (lv_at hl 2 rfl) ?_
  refine lv_iload_n hx hb dL_act_31 rfl (lv_at hl 3 rfl) ?_
  refine lv_iload hx hb dL_act_32 (lv_at hl 4 rfl) ?_
  have hFc := va_free (wc := ob_wX ax ao al am ac ++ ob_wC t ac cn st Wt) hD hS hA [0, 1, 2, 3, 4, 5, 6, 7, 8, 9, 10, 11, 12, 13, 14, 15, 16, 17, 18] rfl
  refine vx_calli (vx_runV (As := [.int y1, .int y2, .int y3]) (rest := []) ⟨hx, hb, hml, hown, hts⟩ (c_X4_argueReason l hl9 sa D t s.heap.size ax ao al am ac cn st Wt y1 y2 y3 hcn) (cwV 3 hts gL_act_X4_argueReason rfl rfl rfl (by decide +kernel) ⟨Nat.le_of_ble_eq_true rfl, Nat.le_of_ble_eq_true rfl⟩) (ob_pxV (ci := 4) (q0 := 0) hP hD hk hE rfl rfl) rfl rfl hl.1 rfl (lv_room (Nat.le_of_ble_eq_true rfl)) dL_act_34 ⟨Nat.le_of_ble_eq_true rfl, Nat.le_of_ble_eq_true rfl⟩) hS (fun q _ h => hFc q h) hFc (fun _ _ h => h.elim) (fun E9 ce9 q9 u9 t9 H1 locs ht hvm hpx hBX hz1 hk1 hS hce hcv hcl => ?_) (fun r9 u9 t9 H1 locs ht hvm hw9 hB hz1 hk1 hS => ?_)
  · obtain ⟨i9, hz9, hi9⟩ := hBX
    obtain rfl : i9 = 0 := Nat.succ.inj (hz9.symm.trans hz)
    cases hi9
    have hP := hP.kept (fun k q h => hk1 q.1 (hP k q h).lt id)
    refine vx_catch (own := RL) (name := "java/lang/IndexOutOfBoundsException") hown [] ⟨0, 217, 218, 79⟩ [⟨0, 217, 223, 15⟩, ⟨0, 217, 228, 18⟩] (by rw [htab]; rfl) (fun z h => absurd h List.not_mem_nil) rfl (by decide) (hts (Cond.classLink RL 79 "java/lang/IndexOutOfBoundsException") (List.mem_of_getElem? (i := 1) rfl)) (va_Nw.use rfl hE.2.2.2.2.1) hce hcv hcl ?_
    refine lv_astore (lv' := [(5, .ref q9), (0, .ref ax), (1, .int (nI 1)), (2, .int y1), (3, .int y2), (4, .int y3)]) hx hb dL_act_218 hl (by decide) rfl (fun ls hl => ?_)
    refine lv_ldc (v := (-3000001)) hx hb hown (hts (Cond.constant RL 81 (-3000001)) (List.mem_of_getElem? (i := 4) rfl)) dL_act_220 ?_
    exact vx_ret (W.iret (v := (-3000001)) hx hb hr (fun t9 ht hW => ⟨⟨(-3000001), (), rfl, rfl, ob_th ht hP⟩, hS.F ht⟩) hS.2.2 dL_act_222)
  · exact absurd (hw9.1.symm.trans hz) (by decide)

set_option maxRecDepth 100000 in
set_option maxHeartbeats 8000000 in
theorem y_act1_no1 (l : Launch) (hl9 : l.stackTraces = false) (sa : Nat → Nat) (D : va_G) (t : Nat → ClassId) (sz : Nat) (ax : Nat) (ao al am ac : Nat → Nat) (cn : Nat) (st : Int32) (Wt : Nat → Nat → Int32)  (y1 y2 y3 : Int32) (hcn : cn ≤ 16) (hz : (ob_z4 (ob_hd cn y1 && ob_hd cn y2) (!decide (y1 = y2) && ob_wi y3 (nI 0) (nI 100)) ((!decide (y3 ≤ 0)) && ob_hb (ob_rcO Wt cn (ob_bit (nI cn) - nI 1) y2 cn) y1)) = 2) : vx_Met l yL_act wsL_act ({ frames := 7, cells := 1, slots := 6, locals := 136 } : Room) (ob_PY D t (ob_wX ax ao al am ac ++ ob_wC t ac cn st Wt) sz sa [.ref ax, .int (nI 1), .int y1, .int y2, .int y3]) (va_Qi (fun (r : Int32) (_ : Unit) => r = (-3000002)) (fun (_ : Unit) (t9 : State) => va_P D vwCl (ob_wX ax ao al am ac ++ ob_wC t ac cn st Wt) t9.heap) (va_A (ob_wX ax ao al am ac ++ ob_wC t ac cn st Wt) sz)) (fun _ _ _ => False) 1 6 (va_A (ob_wX ax ao al am ac ++ ob_wC t ac cn st Wt) sz) := by
  refine vx_ofWH (cc := cL_act) (maxL := 6) (ret := (some .int)) (hh := [(0, 217, 218, 79), (0, 217, 223, 15), (0, 217, 228, 18)]) (by decide) rfl ?_
  intro p e s m args below meth c s₁ B hml hv
  obtain ⟨rfl, hsz, hP, hk, hD0, hE9, hN⟩ := hv
  have hE := hE9.2.2
  have hx := B.exec
  have hb := B.bytes
  have hr := B.returns
  have hts := atoms_spec (ws := wsL_act) B.pre
  have hown : s.vm.findClass RL = some m.cls := findClass_of_methodNamed B.named
  have hlocks := B.notSynchronized
  have hK := hk.1
  have htab := vx_table (x := yL_act) B (hts (Cond.codeWith yL_act cL_act 6 (some .int) [(0, 217, 218, 79), (0, 217, 223, 15), (0, 217, 228, 18)]) (List.mem_of_getElem? (i := 0) rfl))
  have hD : va_D (va_A (ob_wX ax ao al am ac ++ ob_wC t ac cn st Wt) sz) (ob_wX ax ao al am ac ++ ob_wC t ac cn st Wt) := hD0.self (sz := sz)
  have hA : ∀ q : Nat, s.heap.size ≤ q → (va_A (ob_wX ax ao al am ac ++ ob_wC t ac cn st Wt) sz) q := fun q h => Or.inr (hsz ▸ h)
  have hS : va_S (va_A (ob_wX ax ao al am ac ++ ob_wC t ac cn st Wt) sz) s.heap s.heap [] := va_S.rf
  have hl := lv_entry [.ref ax, .int (nI 1), .int y1, .int y2, .int y3] (n := 6) (Nat.le_of_ble_eq_true rfl)
  rw [lg_entry_eq]
  generalize (lg_sl [.ref ax, .int (nI 1), .int y1, .int y2, .int y3] ++ List.replicate (6 - (lg_sl [.ref ax, .int (nI 1), .int y1, .int y2, .int y3]).length) Slot.unset).toArray = ls at hl ⊢
  have hl : lv_has ls 6 [(0, .ref ax), (1, .int (nI 1)), (2, .int y1), (3, .int y2), (4, .int y3)] := hl
  have hP : va_P D vwCl (ob_wX ax ao al am ac ++ ob_wC t ac cn st Wt) s.heap := hP
  refine lv_iload_n hx hb dL_act_0 rfl (lv_at hl 1 rfl) ?_
  refine lv_if_ne (tgt := 24) hx hb dL_act_1 (by decide) (fun _ => ?_) (fun c9 => absurd c9 (by decide))
  refine lv_iload_n hx hb dL_act_24 rfl (lv_at hl 1 rfl) ?_
  refine lv_iconst (v := nI 1) hx hb dL_act_25 (by decide) ?_
  refine lv_icmp_ne (tgt := 40) hx hb dL_act_26 (by decide) (fun c9 => absurd c9 (by decide)) (fun _ => ?_)
  refine lv_aload_n hx hb dL_act_29 rfl (lv_at hl 0 rfl) ?_
  refine lv_iload_n hx hb dL_act_30 rfl (lv_at hl 2 rfl) ?_
  refine lv_iload_n hx hb dL_act_31 rfl (lv_at hl 3 rfl) ?_
  refine lv_iload hx hb dL_act_32 (lv_at hl 4 rfl) ?_
  have hFc := va_free (wc := ob_wX ax ao al am ac ++ ob_wC t ac cn st Wt) hD hS hA [0, 1, 2, 3, 4, 5, 6, 7, 8, 9, 10, 11, 12, 13, 14, 15, 16, 17, 18] rfl
  refine vx_calli (vx_runV (As := [.int y1, .int y2, .int y3]) (rest := []) ⟨hx, hb, hml, hown, hts⟩ (c_X4_argueReason l hl9 sa D t s.heap.size ax ao al am ac cn st Wt y1 y2 y3 hcn) (cwV 3 hts gL_act_X4_argueReason rfl rfl rfl (by decide +kernel) ⟨Nat.le_of_ble_eq_true rfl, Nat.le_of_ble_eq_true rfl⟩) (ob_pxV (ci := 4) (q0 := 0) hP hD hk hE rfl rfl) rfl rfl hl.1 rfl (lv_room (Nat.le_of_ble_eq_true rfl)) dL_act_34 ⟨Nat.le_of_ble_eq_true rfl, Nat.le_of_ble_eq_true rfl⟩) hS (fun q _ h => hFc q h) hFc (fun _ _ h => h.elim) (fun E9 ce9 q9 u9 t9 H1 locs ht hvm hpx hBX hz1 hk1 hS hce hcv hcl => ?_) (fun r9 u9 t9 H1 locs ht hvm hw9 hB hz1 hk1 hS => ?_)
  · obtain ⟨i9, hz9, hi9⟩ := hBX
    obtain rfl : i9 = 1 := Nat.succ.inj (hz9.symm.trans hz)
    cases hi9
    have hP := hP.kept (fun k q h => hk1 q.1 (hP k q h).lt id)
    refine vx_catch (own := RL) (name := "java/lang/IllegalArgumentException") hown [⟨0, 217, 218, 79⟩] ⟨0, 217, 223, 15⟩ [⟨0, 217, 228, 18⟩] (by rw [htab]; rfl) (List.forall_mem_cons.mpr ⟨Or.inr ⟨(by decide), "java/lang/IndexOutOfBoundsException", (hts (Cond.classLink RL 79 "java/lang/IndexOutOfBoundsException") (List.mem_of_getElem? (i := 1) rfl)), hN.2.1⟩, (fun z h => absurd h List.not_mem_nil)⟩) rfl (by decide) (hts (Cond.classLink RL 15 "java/lang/IllegalArgumentException") (List.mem_of_getElem? (i := 2) rfl)) (va_Nw.use rfl hE.2.2.1) hce hcv hcl ?_
    refine lv_astore (lv' := [(5, .ref q9), (0, .ref ax), (1, .int (nI 1)), (2, .int y1), (3, .int y2), (4, .int y3)]) hx hb dL_act_223 hl (by decide) rfl (fun ls hl => ?_)
    refine lv_ldc (v := (-3000002)) hx hb hown (hts (Cond.constant RL 17 (-3000002)) (List.mem_of_getElem? (i := 5) rfl)) dL_act_225 ?_
    exact vx_ret (W.iret (v := (-3000002)) hx hb hr (fun t9 ht hW => ⟨⟨(-3000002), (), rfl, rfl, ob_th ht hP⟩, hS.F ht⟩) hS.2.2 dL_act_227)
  · exact absurd (hw9.1.symm.trans hz) (by decide)

set_option maxRecDepth 100000 in
set_option maxHeartbeats 8000000 in
theorem y_act1_no2 (l : Launch) (hl9 : l.stackTraces = false) (sa : Nat → Nat) (D : va_G) (t : Nat → ClassId) (sz : Nat) (ax : Nat) (ao al am ac : Nat → Nat) (cn : Nat) (st : Int32) (Wt : Nat → Nat → Int32)  (y1 y2 y3 : Int32) (hcn : cn ≤ 16) (hz : (ob_z4 (ob_hd cn y1 && ob_hd cn y2) (!decide (y1 = y2) && ob_wi y3 (nI 0) (nI 100)) ((!decide (y3 ≤ 0)) && ob_hb (ob_rcO Wt cn (ob_bit (nI cn) - nI 1) y2 cn) y1)) = 3) : vx_Met l yL_act wsL_act ({ frames := 7, cells := 1, slots := 6, locals := 136 } : Room) (ob_PY D t (ob_wX ax ao al am ac ++ ob_wC t ac cn st Wt) sz sa [.ref ax, .int (nI 1), .int y1, .int y2, .int y3]) (va_Qi (fun (r : Int32) (_ : Unit) => r = (-3000003)) (fun (_ : Unit) (t9 : State) => va_P D vwCl (ob_wX ax ao al am ac ++ ob_wC t ac cn st Wt) t9.heap) (va_A (ob_wX ax ao al am ac ++ ob_wC t ac cn st Wt) sz)) (fun _ _ _ => False) 1 6 (va_A (ob_wX ax ao al am ac ++ ob_wC t ac cn st Wt) sz) := by
  refine vx_ofWH (cc := cL_act) (maxL := 6) (ret := (some .int)) (hh := [(0, 217, 218, 79), (0, 217, 223, 15), (0, 217, 228, 18)]) (by decide) rfl ?_
  intro p e s m args below meth c s₁ B hml hv
  obtain ⟨rfl, hsz, hP, hk, hD0, hE9, hN⟩ := hv
  have hE := hE9.2.2
  have hx := B.exec
  have hb := B.bytes
  have hr := B.returns
  have hts := atoms_spec (ws := wsL_act) B.pre
  have hown : s.vm.findClass RL = some m.cls := findClass_of_methodNamed B.named
  have hlocks := B.notSynchronized
  have hK := hk.1
  have htab := vx_table (x := yL_act) B (hts (Cond.codeWith yL_act cL_act 6 (some .int) [(0, 217, 218, 79), (0, 217, 223, 15), (0, 217, 228, 18)]) (List.mem_of_getElem? (i := 0) rfl))
  have hD : va_D (va_A (ob_wX ax ao al am ac ++ ob_wC t ac cn st Wt) sz) (ob_wX ax ao al am ac ++ ob_wC t ac cn st Wt) := hD0.self (sz := sz)
  have hA : ∀ q : Nat, s.heap.size ≤ q → (va_A (ob_wX ax ao al am ac ++ ob_wC t ac cn st Wt) sz) q := fun q h => Or.inr (hsz ▸ h)
  have hS : va_S (va_A (ob_wX ax ao al am ac ++ ob_wC t ac cn st Wt) sz) s.heap s.heap [] := va_S.rf
  have hl := lv_entry [.ref ax, .int (nI 1), .int y1, .int y2, .int y3] (n := 6) (Nat.le_of_ble_eq_true rfl)
  rw [lg_entry_eq]
  generalize (lg_sl [.ref ax, .int (nI 1), .int y1, .int y2, .int y3] ++ List.replicate (6 - (lg_sl [.ref ax, .int (nI 1), .int y1, .int y2, .int y3]).length) Slot.unset).toArray = ls at hl ⊢
  have hl : lv_has ls 6 [(0, .ref ax), (1, .int (nI 1)), (2, .int y1), (3, .int y2), (4, .int y3)] := hl
  have hP : va_P D vwCl (ob_wX ax ao al am ac ++ ob_wC t ac cn st Wt) s.heap := hP
  refine lv_iload_n hx hb dL_act_0 rfl (lv_at hl 1 rfl) ?_
  refine lv_if_ne (tgt := 24) hx hb dL_act_1 (by decide) (fun _ => ?_) (fun c9 => absurd c9 (by decide))
  refine lv_iload_n hx hb dL_act_24 rfl (lv_at hl 1 rfl) ?_
  refine lv_iconst (v := nI 1) hx hb dL_act_25 (by decide) ?_
  refine lv_icmp_ne (tgt := 40) hx hb dL_act_26 (by decide) (fun c9 => absurd c9 (by decide)) (fun _ => ?_)
  refine lv_aload_n hx hb dL_act_29 rfl (lv_at hl 0 rfl) ?_
  refine lv_iload_n hx hb dL_act_30 rfl (lv_at hl 2 rfl) ?_
  refine lv_iload_n hx hb dL_act_31 rfl (lv_at hl 3 rfl) ?_
  refine lv_iload hx hb dL_act_32 (lv_at hl 4 rfl) ?_
  have hFc := va_free (wc := ob_wX ax ao al am ac ++ ob_wC t ac cn st Wt) hD hS hA [0, 1, 2, 3, 4, 5, 6, 7, 8, 9, 10, 11, 12, 13, 14, 15, 16, 17, 18] rfl
  refine vx_calli (vx_runV (As := [.int y1, .int y2, .int y3]) (rest := []) ⟨hx, hb, hml, hown, hts⟩ (c_X4_argueReason l hl9 sa D t s.heap.size ax ao al am ac cn st Wt y1 y2 y3 hcn) (cwV 3 hts gL_act_X4_argueReason rfl rfl rfl (by decide +kernel) ⟨Nat.le_of_ble_eq_true rfl, Nat.le_of_ble_eq_true rfl⟩) (ob_pxV (ci := 4) (q0 := 0) hP hD hk hE rfl rfl) rfl rfl hl.1 rfl (lv_room (Nat.le_of_ble_eq_true rfl)) dL_act_34 ⟨Nat.le_of_ble_eq_true rfl, Nat.le_of_ble_eq_true rfl⟩) hS (fun q _ h => hFc q h) hFc (fun _ _ h => h.elim) (fun E9 ce9 q9 u9 t9 H1 locs ht hvm hpx hBX hz1 hk1 hS hce hcv hcl => ?_) (fun r9 u9 t9 H1 locs ht hvm hw9 hB hz1 hk1 hS => ?_)
  · obtain ⟨i9, hz9, hi9⟩ := hBX
    obtain rfl : i9 = 2 := Nat.succ.inj (hz9.symm.trans hz)
    cases hi9
    have hP := hP.kept (fun k q h => hk1 q.1 (hP k q h).lt id)
    refine vx_catch (own := RL) (name := "java/lang/IllegalStateException") hown [⟨0, 217, 218, 79⟩, ⟨0, 217, 223, 15⟩] ⟨0, 217, 228, 18⟩ [] (by rw [htab]; rfl) (List.forall_mem_cons.mpr ⟨Or.inr ⟨(by decide), "java/lang/IndexOutOfBoundsException", (hts (Cond.classLink RL 79 "java/lang/IndexOutOfBoundsException") (List.mem_of_getElem? (i := 1) rfl)), hN.2.2⟩, (List.forall_mem_cons.mpr ⟨Or.inr ⟨(by decide), "java/lang/IllegalArgumentException", (hts (Cond.classLink RL 15 "java/lang/IllegalArgumentException") (List.mem_of_getElem? (i := 2) rfl)), hN.1⟩, (fun z h => absurd h List.not_mem_nil)⟩)⟩) rfl (by decide) (hts (Cond.classLink RL 18 "java/lang/IllegalStateException") (List.mem_of_getElem? (i := 3) rfl)) (va_Nw.use rfl hE.2.2.2.1) hce hcv hcl ?_
    refine lv_astore (lv' := [(5, .ref q9), (0, .ref ax), (1, .int (nI 1)), (2, .int y1), (3, .int y2), (4, .int y3)]) hx hb dL_act_228 hl (by decide) rfl (fun ls hl => ?_)
    refine lv_ldc (v := (-3000003)) hx hb hown (hts (Cond.constant RL 20 (-3000003)) (List.mem_of_getElem? (i := 6) rfl)) dL_act_230 ?_
    exact vx_ret (W.iret (v := (-3000003)) hx hb hr (fun t9 ht hW => ⟨⟨(-3000003), (), rfl, rfl, ob_th ht hP⟩, hS.F ht⟩) hS.2.2 dL_act_232)
  · exact absurd (hw9.1.symm.trans hz) (by decide)

set_option maxRecDepth 100000 in
set_option maxHeartbeats 8000000 in
theorem y_act2_ok (l : Launch) (hl9 : l.stackTraces = false) (sa : Nat → Nat) (D : va_G) (t : Nat → ClassId) (sz : Nat) (ax : Nat) (ao al am ac : Nat → Nat) (cn : Nat) (st : Int32) (Wt : Nat → Nat → Int32)   (y1 y2 y3 : Int32) (hcn : cn ≤ 16) (hz : (ob_z1 (ob_hd cn y1)) = 0) : vx_Met l yL_act wsL_act ({ frames := 7, cells := 1, slots := 6, locals := 104 } : Room) (ob_PY D t (ob_wX ax ao al am ac ++ ob_wC t ac cn st Wt) sz sa [.ref ax, .int (nI 2), .int y1, .int y2, .int y3]) (va_Qi (fun (r : Int32) (_ : Unit) => r = ob_bi (ob_hb st y1)) (fun (_ : Unit) (t9 : State) => va_P D vwCl (ob_wX ax ao al am ac ++ ob_wC t ac cn (if (decide (y2 = nI 1)) then st ||| ob_bit y1 else st &&& (ob_bit y1 ^^^ (-1))) Wt) t9.heap) (va_A (ob_wX ax ao al am ac ++ ob_wC t ac cn st Wt) sz)) (fun _ _ _ => False) 1 6 (va_A (ob_wX ax ao al am ac ++ ob_wC t ac cn st Wt) sz) := by
  refine vx_ofWH (cc := cL_act) (maxL := 6) (ret := (some .int)) (hh := [(0, 217, 218, 79), (0, 217, 223, 15), (0, 217, 228, 18)]) (by decide) rfl ?_
  intro p e s m args below meth c s₁ B hml hv
  obtain ⟨rfl, hsz, hP, hk, hD0, hE9, hN⟩ := hv
  have hE := hE9.2.2
  have hx := B.exec
  have hb := B.bytes
  have hr := B.returns
  have hts := atoms_spec (ws := wsL_act) B.pre
  have hown : s.vm.findClass RL = some m.cls := findClass_of_methodNamed B.named
  have hlocks := B.notSynchronized
  have hK := hk.1
  have htab := vx_table (x := yL_act) B (hts (Cond.codeWith yL_act cL_act 6 (some .int) [(0, 217, 218, 79), (0, 217, 223, 15), (0, 217, 228, 18)]) (List.mem_of_getElem? (i := 0) rfl))
  have hD : va_D (va_A (ob_wX ax ao al am ac ++ ob_wC t ac cn st Wt) sz) (ob_wX ax ao al am ac ++ ob_wC t ac cn st Wt) := hD0.self (sz := sz)
  have hA : ∀ q : Nat, s.heap.size ≤ q → (va_A (ob_wX ax ao al am ac ++ ob_wC t ac cn st Wt) sz) q := fun q h => Or.inr (hsz ▸ h)
  have hS : va_S (va_A (ob_wX ax ao al am ac ++ ob_wC t ac cn st Wt) sz) s.heap s.heap [] := va_S.rf
  have hl := lv_entry [.ref ax, .int (nI 2), .int y1, .int y2, .int y3] (n := 6) (Nat.le_of_ble_eq_true rfl)
  rw [lg_entry_eq]
  generalize (lg_sl [.ref ax, .int (nI 2), .int y1, .int y2, .int y3] ++ List.replicate (6 - (lg_sl [.ref ax, .int (nI 2), .int y1, .int y2, .int y3]).length) Slot.unset).toArray = ls at hl ⊢
  have hl : lv_has ls 6 [(0, .ref ax), (1, .int (nI 2)), (2, .int y1), (3, .int y2), (4, .int y3)] := hl
  have hP : va_P D vwCl (ob_wX ax ao al am ac ++ ob_wC t ac cn st Wt) s.heap := hP
  refine lv_iload_n hx hb dL_act_0 rfl (lv_at hl 1 rfl) ?_
  refine lv_if_ne (tgt := 24) hx hb dL_act_1 (by decide) (fun _ => ?_) (fun c9 => absurd c9 (by decide))
  refine lv_iload_n hx hb dL_act_24 rfl (lv_at hl 1 rfl) ?_
  refine lv_iconst (v := nI 1) hx hb dL_act_25 (by decide) ?_
  refine lv_icmp_ne (tgt := 40) hx hb dL_act_26 (by decide) (fun _ => ?_) (fun c9 => absurd c9 (by decide))
  refine lv_iload_n hx hb dL_act_40 rfl (lv_at hl 1 rfl) ?_
  refine lv_iconst (v := nI 2) hx hb dL_act_41 (by decide) ?_
  refine lv_icmp_ne (tgt := 71) hx hb dL_act_42 (by decide) (fun c9 => absurd c9 (by decide)) (fun _ => ?_)
  refine lv_aload_n hx hb dL_act_45 rfl (lv_at hl 0 rfl) ?_
  refine lv_iload_n hx hb dL_act_46 rfl (lv_at hl 2 rfl) ?_
  refine lv_iload_n hx hb dL_act_47 rfl (lv_at hl 3 rfl) ?_
  refine lv_iconst (v := nI 1) hx hb dL_act_48 (by decide) ?_
  have kj : W p l e (headSpec wsL_act ({ frames := 7, cells := 1, slots := 6, locals := 104 } : Room)).room s m ([.ref ax, .int (nI 2), .int y1, .int y2, .int y3] : List Value).toArray below meth c s.heap [] 0 0 (vx_MQ below (va_Qi (fun (r : Int32) (_ : Unit) => r = ob_bi (ob_hb st y1)) (fun (_ : Unit) (t9 : State) => va_P D vwCl (ob_wX ax ao al am ac ++ ob_wC t ac cn (if (decide (y2 = nI 1)) then st ||| ob_bit y1 else st &&& (ob_bit y1 ^^^ (-1))) Wt) t9.heap) (va_A (ob_wX ax ao al am ac ++ ob_wC t ac cn st Wt) sz)) (fun _ _ _ => False) ([.ref ax, .int (nI 2), .int y1, .int y2, .int y3] : List Value).toArray s 1 6 (va_A (ob_wX ax ao al am ac ++ ob_wC t ac cn st Wt) sz)) (F0 m 57 ls [.int (ob_bi (decide (y2 = nI 1))), .int y1, .ref ax]) → W p l e (headSpec wsL_act ({ frames := 7, cells := 1, slots := 6, locals := 104 } : Room)).room s m ([.ref ax, .int (nI 2), .int y1, .int y2, .int y3] : List Value).toArray below meth c s.heap [] 0 0 (vx_MQ below (va_Qi (fun (r : Int32) (_ : Unit) => r = ob_bi (ob_hb st y1)) (fun (_ : Unit) (t9 : State) => va_P D vwCl (ob_wX ax ao al am ac ++ ob_wC t ac cn (if (decide (y2 = nI 1)) then st ||| ob_bit y1 else st &&& (ob_bit y1 ^^^ (-1))) Wt) t9.heap) (va_A (ob_wX ax ao al am ac ++ ob_wC t ac cn st Wt) sz)) (fun _ _ _ => False) ([.ref ax, .int (nI 2), .int y1, .int y2, .int y3] : List Value).toArray s 1 6 (va_A (ob_wX ax ao al am ac ++ ob_wC t ac cn st Wt) sz)) (F0 m 49 ls [.int (nI 1), .int y2, .int y1, .ref ax]) := fun kj => by
    refine lv_icmp_ne (tgt := 56) hx hb dL_act_49 (by decide) (fun c9 => ?_) (fun c9 => ?_)
    · refine lv_iconst (v := ob_bi (decide (y2 = nI 1))) hx hb dL_act_56 (by rw [decide_eq_false c9]; rfl) ?_
      exact kj
    · refine lv_iconst (v := ob_bi (decide (y2 = nI 1))) hx hb dL_act_52 (by rw [decide_eq_true c9]; rfl) ?_
      refine lv_goto (tgt := 57) hx hb dL_act_53 (by decide) ?_
      exact kj
  refine kj ?_
  have hFc := va_free (wc := ob_wX ax ao al am ac ++ ob_wC t ac cn st Wt) hD hS hA [0, 1, 2, 3, 4, 5, 6, 7, 8, 9, 10, 11, 12, 13, 14, 15, 16, 17, 18] rfl
  refine vx_calli (vx_runV (As := [.int y1, .int (ob_bi (decide (y2 = nI 1)))]) (rest := []) ⟨hx, hb, hml, hown, hts⟩ (c_X4_setStanding l hl9 sa D t s.heap.size ax ao al am ac cn st Wt y1 (decide (y2 = nI 1)) hcn) (cwV 2 hts gL_act_X4_setStanding rfl rfl rfl (by decide +kernel) ⟨Nat.le_of_ble_eq_true rfl, Nat.le_of_ble_eq_true rfl⟩) (ob_pxV (ci := 4) (q0 := 0) hP hD hk hE rfl rfl) rfl rfl hl.1 rfl (lv_room (Nat.le_of_ble_eq_true rfl)) dL_act_57 ⟨Nat.le_of_ble_eq_true rfl, Nat.le_of_ble_eq_true rfl⟩) hS (fun q _ h => hFc q h) hFc (fun _ _ h => h.elim) (fun E9 ce9 q9 u9 t9 H1 locs ht hvm hpx hBX hz1 hk1 hS hce hcv hcl => ?_) (fun r9 u9 t9 H1 locs ht hvm hw9 hB hz1 hk1 hS => ?_)
  · obtain ⟨i9, hz9, -⟩ := hBX
    exact absurd (hz9.symm.trans hz) (Nat.succ_ne_zero _)
  · rw [ht] at hB
    obtain ⟨-, hp9⟩ := hw9
    have hP := ob_jn (ws' := ob_wX ax ao al am ac ++ ob_wC t ac cn (if (decide (y2 = nI 1)) then st ||| ob_bit y1 else st &&& (ob_bit y1 ^^^ (-1))) Wt) hP hD [some 0, some 1, some 2, some 3, some 4, some 5, some 6, some 7, some 8, some 9, some 10, some 11, some 12, some 13, some 14, some 15, some 16, some 17, some 18] [0, 1, 2, 3, 4, 5, 6, 7, 8, 9, 10, 11, 12, 13, 14, 15, 16, 17, 18] rfl rfl hk1 hB rfl
    generalize H1 = H at hP hS ⊢
    subst hp9
    refine ob_if_eq (tgt := 67) hx hb dL_act_60 (by decide) (fun c9 => ?_) (fun c9 => ?_)
    · refine lv_iconst (v := nI 0) hx hb dL_act_67 (by decide) ?_
      refine lv_goto (tgt := 217) hx hb dL_act_68 (by decide) ?_
      exact vx_ret (W.iret (v := nI 0) hx hb hr (fun t9 ht hW => ⟨⟨nI 0, (), rfl, (by rw [c9]; rfl), ob_th ht hP⟩, hS.F ht⟩) hS.2.2 dL_act_217)
    · refine lv_iconst (v := nI 1) hx hb dL_act_63 (by decide) ?_
      refine lv_goto (tgt := 217) hx hb dL_act_64 (by decide) ?_
      exact vx_ret (W.iret (v := nI 1) hx hb hr (fun t9 ht hW => ⟨⟨nI 1, (), rfl, (by rw [c9]; rfl), ob_th ht hP⟩, hS.F ht⟩) hS.2.2 dL_act_217)

set_option maxRecDepth 100000 in
set_option maxHeartbeats 8000000 in
theorem y_act2_no0 (l : Launch) (hl9 : l.stackTraces = false) (sa : Nat → Nat) (D : va_G) (t : Nat → ClassId) (sz : Nat) (ax : Nat) (ao al am ac : Nat → Nat) (cn : Nat) (st : Int32) (Wt : Nat → Nat → Int32)   (y1 y2 y3 : Int32) (hcn : cn ≤ 16) (hz : (ob_z1 (ob_hd cn y1)) = 1) : vx_Met l yL_act wsL_act ({ frames := 7, cells := 1, slots := 6, locals := 104 } : Room) (ob_PY D t (ob_wX ax ao al am ac ++ ob_wC t ac cn st Wt) sz sa [.ref ax, .int (nI 2), .int y1, .int y2, .int y3]) (va_Qi (fun (r : Int32) (_ : Unit) => r = (-3000001)) (fun (_ : Unit) (t9 : State) => va_P D vwCl (ob_wX ax ao al am ac ++ ob_wC t ac cn st Wt) t9.heap) (va_A (ob_wX ax ao al am ac ++ ob_wC t ac cn st Wt) sz)) (fun _ _ _ => False) 1 6 (va_A (ob_wX ax ao al am ac ++ ob_wC t ac cn st Wt) sz) := by
  refine vx_ofWH (cc := cL_act) (maxL := 6) (ret := (some .int)) (hh := [(0, 217, 218, 79), (0, 217, 223, 15), (0, 217, 228, 18)]) (by decide) rfl ?_
  intro p e s m args below meth c s₁ B hml hv
  obtain ⟨rfl, hsz, hP, hk, hD0, hE9, hN⟩ := hv
  have hE := hE9.2.2
  have hx := B.exec
  have hb := B.bytes
  have hr := B.returns
  have hts := atoms_spec (ws := wsL_act) B.pre
  have hown : s.vm.findClass RL = some m.cls := findClass_of_methodNamed B.named
  have hlocks := B.notSynchronized
  have hK := hk.1
  have htab := vx_table (x := yL_act) B (hts (Cond.codeWith yL_act cL_act 6 (some .int) [(0, 217, 218, 79), (0, 217, 223, 15), (0, 217, 228, 18)]) (List.mem_of_getElem? (i := 0) rfl))
  have hD : va_D (va_A (ob_wX ax ao al am ac ++ ob_wC t ac cn st Wt) sz) (ob_wX ax ao al am ac ++ ob_wC t ac cn st Wt) := hD0.self (sz := sz)
  have hA : ∀ q : Nat, s.heap.size ≤ q → (va_A (ob_wX ax ao al am ac ++ ob_wC t ac cn st Wt) sz) q := fun q h => Or.inr (hsz ▸ h)
  have hS : va_S (va_A (ob_wX ax ao al am ac ++ ob_wC t ac cn st Wt) sz) s.heap s.heap [] := va_S.rf
  have hl := lv_entry [.ref ax, .int (nI 2), .int y1, .int y2, .int y3] (n := 6) (Nat.le_of_ble_eq_true rfl)
  rw [lg_entry_eq]
  generalize (lg_sl [.ref ax, .int (nI 2), .int y1, .int y2, .int y3] ++ List.replicate (6 - (lg_sl [.ref ax, .int (nI 2), .int y1, .int y2, .int y3]).length) Slot.unset).toArray = ls at hl ⊢
  have hl : lv_has ls 6 [(0, .ref ax), (1, .int (nI 2)), (2, .int y1), (3, .int y2), (4, .int y3)] := hl
  have hP : va_P D vwCl (ob_wX ax ao al am ac ++ ob_wC t ac cn st Wt) s.heap := hP
  refine lv_iload_n hx hb dL_act_0 rfl (lv_at hl 1 rfl) ?_
  refine lv_if_ne (tgt := 24) hx hb dL_act_1 (by decide) (fun _ => ?_) (fun c9 => absurd c9 (by decide))
  refine lv_iload_n hx hb dL_act_24 rfl (lv_at hl 1 rfl) ?_
  refine lv_iconst (v := nI 1) hx hb dL_act_25 (by decide) ?_
  refine lv_icmp_ne (tgt := 40) hx hb dL_act_26 (by decide) (fun _ => ?_) (fun c9 => absurd c9 (by decide))
  refine lv_iload_n hx hb dL_act_40 rfl (lv_at hl 1 rfl) ?_
  refine lv_iconst (v := nI 2) hx hb dL_act_41 (by decide) ?_
  refine lv_icmp_ne (tgt := 71) hx hb dL_act_42 (by decide) (fun c9 => absurd c9 (by decide)) (fun _ => ?_)
  refine lv_aload_n hx hb dL_act_45 rfl (lv_at hl 0 rfl) ?_
  refine lv_iload_n hx hb dL_act_46 rfl (lv_at hl 2 rfl) ?_
  refine lv_iload_n hx hb dL_act_47 rfl (lv_at hl 3 rfl) ?_
  refine lv_iconst (v := nI 1) hx hb dL_act_48 (by decide) ?_
  have kj : W p l e (headSpec wsL_act ({ frames := 7, cells := 1, slots := 6, locals := 104 } : Room)).room s m ([.ref ax, .int (nI 2), .int y1, .int y2, .int y3] : List Value).toArray below meth c s.heap [] 0 0 (vx_MQ below (va_Qi (fun (r : Int32) (_ : Unit) => r = (-3000001)) (fun (_ : Unit) (t9 : State) => va_P D vwCl (ob_wX ax ao al am ac ++ ob_wC t ac cn st Wt) t9.heap) (va_A (ob_wX ax ao al am ac ++ ob_wC t ac cn st Wt) sz)) (fun _ _ _ => False) ([.ref ax, .int (nI 2), .int y1, .int y2, .int y3] : List Value).toArray s 1 6 (va_A (ob_wX ax ao al am ac ++ ob_wC t ac cn st Wt) sz)) (F0 m 57 ls [.int (ob_bi (decide (y2 = nI 1))), .int y1, .ref ax]) → W p l e (headSpec wsL_act ({ frames := 7, cells := 1, slots := 6, locals := 104 } : Room)).room s m ([.ref ax, .int (nI 2), .int y1, .int y2, .int y3] : List Value).toArray below meth c s.heap [] 0 0 (vx_MQ below (va_Qi (fun (r : Int32) (_ : Unit) => r = (-3000001)) (fun (_ : Unit) (t9 : State) => va_P D vwCl (ob_wX ax ao al am ac ++ ob_wC t ac cn st Wt) t9.heap) (va_A (ob_wX ax ao al am ac ++ ob_wC t ac cn st Wt) sz)) (fun _ _ _ => False) ([.ref ax, .int (nI 2), .int y1, .int y2, .int y3] : List Value).toArray s 1 6 (va_A (ob_wX ax ao al am ac ++ ob_wC t ac cn st Wt) sz)) (F0 m 49 ls [.int (nI 1), .int y2, .int y1, .ref ax]) := fun kj => by
    refine lv_icmp_ne (tgt := 56) hx hb dL_act_49 (by decide) (fun c9 => ?_) (fun c9 => ?_)
    · refine lv_iconst (v := ob_bi (decide (y2 = nI 1))) hx hb dL_act_56 (by rw [decide_eq_false c9]; rfl) ?_
      exact kj
    · refine lv_iconst (v := ob_bi (decide (y2 = nI 1))) hx hb dL_act_52 (by rw [decide_eq_true c9]; rfl) ?_
      refine lv_goto (tgt := 57) hx hb dL_act_53 (by decide) ?_
      exact kj
  refine kj ?_
  have hFc := va_free (wc := ob_wX ax ao al am ac ++ ob_wC t ac cn st Wt) hD hS hA [0, 1, 2, 3, 4, 5, 6, 7, 8, 9, 10, 11, 12, 13, 14, 15, 16, 17, 18] rfl
  refine vx_calli (vx_runV (As := [.int y1, .int (ob_bi (decide (y2 = nI 1)))]) (rest := []) ⟨hx, hb, hml, hown, hts⟩ (c_X4_setStanding l hl9 sa D t s.heap.size ax ao al am ac cn st Wt y1 (decide (y2 = nI 1)) hcn) (cwV 2 hts gL_act_X4_setStanding rfl rfl rfl (by decide +kernel) ⟨Nat.le_of_ble_eq_true rfl, Nat.le_of_ble_eq_true rfl⟩) (ob_pxV (ci := 4) (q0 := 0) hP hD hk hE rfl rfl) rfl rfl hl.1 rfl (lv_room (Nat.le_of_ble_eq_true rfl)) dL_act_57 ⟨Nat.le_of_ble_eq_true rfl, Nat.le_of_ble_eq_true rfl⟩) hS (fun q _ h => hFc q h) hFc (fun _ _ h => h.elim) (fun E9 ce9 q9 u9 t9 H1 locs ht hvm hpx hBX hz1 hk1 hS hce hcv hcl => ?_) (fun r9 u9 t9 H1 locs ht hvm hw9 hB hz1 hk1 hS => ?_)
  · obtain ⟨i9, hz9, hi9⟩ := hBX
    obtain rfl : i9 = 0 := Nat.succ.inj (hz9.symm.trans hz)
    cases hi9
    have hP := hP.kept (fun k q h => hk1 q.1 (hP k q h).lt id)
    refine vx_catch (own := RL) (name := "java/lang/IndexOutOfBoundsException") hown [] ⟨0, 217, 218, 79⟩ [⟨0, 217, 223, 15⟩, ⟨0, 217, 228, 18⟩] (by rw [htab]; rfl) (fun z h => absurd h List.not_mem_nil) rfl (by decide) (hts (Cond.classLink RL 79 "java/lang/IndexOutOfBoundsException") (List.mem_of_getElem? (i := 1) rfl)) (va_Nw.use rfl hE.2.2.2.2.1) hce hcv hcl ?_
    refine lv_astore (lv' := [(5, .ref q9), (0, .ref ax), (1, .int (nI 2)), (2, .int y1), (3, .int y2), (4, .int y3)]) hx hb dL_act_218 hl (by decide) rfl (fun ls hl => ?_)
    refine lv_ldc (v := (-3000001)) hx hb hown (hts (Cond.constant RL 81 (-3000001)) (List.mem_of_getElem? (i := 4) rfl)) dL_act_220 ?_
    exact vx_ret (W.iret (v := (-3000001)) hx hb hr (fun t9 ht hW => ⟨⟨(-3000001), (), rfl, rfl, ob_th ht hP⟩, hS.F ht⟩) hS.2.2 dL_act_222)
  · exact absurd (hw9.1.symm.trans hz) (by decide)

set_option maxRecDepth 100000 in
set_option maxHeartbeats 8000000 in
theorem y_act3_no0 (l : Launch) (hl9 : l.stackTraces = false) (sa : Nat → Nat) (D : va_G) (t : Nat → ClassId) (sz : Nat) (ax : Nat) (ao al am ac : Nat → Nat) (n : Nat) (cl rd sv pb ba bf od : Nat → Int32) (bg : Nat → Int64)  (y1 y2 y3 : Int32) (hn : n ≤ 30) (hz : (ob_z1 (ob_hd n y1 && ob_hd n y2)) = 1) : vx_Met l yL_act wsL_act ({ frames := 7, cells := 1, slots := 6, locals := 104 } : Room) (ob_PY D t (ob_wX ax ao al am ac ++ ob_wL t al n cl rd sv pb ba bf od bg) sz sa [.ref ax, .int (nI 3), .int y1, .int y2, .int y3]) (va_Qi (fun (r : Int32) (_ : Unit) => r = (-3000001)) (fun (_ : Unit) (t9 : State) => va_P D vwCl (ob_wX ax ao al am ac ++ ob_wL t al n cl rd sv pb ba bf od bg) t9.heap) (va_A (ob_wX ax ao al am ac ++ ob_wL t al n cl rd sv pb ba bf od bg) sz)) (fun _ _ _ => False) 1 6 (va_A (ob_wX ax ao al am ac ++ ob_wL t al n cl rd sv pb ba bf od bg) sz) := by
  refine vx_ofWH (cc := cL_act) (maxL := 6) (ret := (some .int)) (hh := [(0, 217, 218, 79), (0, 217, 223, 15), (0, 217, 228, 18)]) (by decide) rfl ?_
  intro p e s m args below meth c s₁ B hml hv
  obtain ⟨rfl, hsz, hP, hk, hD0, hE9, hN⟩ := hv
  have hE := hE9.2.2
  have hx := B.exec
  have hb := B.bytes
  have hr := B.returns
  have hts := atoms_spec (ws := wsL_act) B.pre
  have hown : s.vm.findClass RL = some m.cls := findClass_of_methodNamed B.named
  have hlocks := B.notSynchronized
  have hK := hk.1
  have htab := vx_table (x := yL_act) B (hts (Cond.codeWith yL_act cL_act 6 (some .int) [(0, 217, 218, 79), (0, 217, 223, 15), (0, 217, 228, 18)]) (List.mem_of_getElem? (i := 0) rfl))
  have hD : va_D (va_A (ob_wX ax ao al am ac ++ ob_wL t al n cl rd sv pb ba bf od bg) sz) (ob_wX ax ao al am ac ++ ob_wL t al n cl rd sv pb ba bf od bg) := hD0.self (sz := sz)
  have hA : ∀ q : Nat, s.heap.size ≤ q → (va_A (ob_wX ax ao al am ac ++ ob_wL t al n cl rd sv pb ba bf od bg) sz) q := fun q h => Or.inr (hsz ▸ h)
  have hS : va_S (va_A (ob_wX ax ao al am ac ++ ob_wL t al n cl rd sv pb ba bf od bg) sz) s.heap s.heap [] := va_S.rf
  have hl := lv_entry [.ref ax, .int (nI 3), .int y1, .int y2, .int y3] (n := 6) (Nat.le_of_ble_eq_true rfl)
  rw [lg_entry_eq]
  generalize (lg_sl [.ref ax, .int (nI 3), .int y1, .int y2, .int y3] ++ List.replicate (6 - (lg_sl [.ref ax, .int (nI 3), .int y1, .int y2, .int y3]).length) Slot.unset).toArray = ls at hl ⊢
  have hl : lv_has ls 6 [(0, .ref ax), (1, .int (nI 3)), (2, .int y1), (3, .int y2), (4, .int y3)] := hl
  have hP : va_P D vwCl (ob_wX ax ao al am ac ++ ob_wL t al n cl rd sv pb ba bf od bg) s.heap := hP
  refine lv_iload_n hx hb dL_act_0 rfl (lv_at hl 1 rfl) ?_
  refine lv_if_ne (tgt := 24) hx hb dL_act_1 (by decide) (fun _ => ?_) (fun c9 => absurd c9 (by decide))
  refine lv_iload_n hx hb dL_act_24 rfl (lv_at hl 1 rfl) ?_
  refine lv_iconst (v := nI 1) hx hb dL_act_25 (by decide) ?_
  refine lv_icmp_ne (tgt := 40) hx hb dL_act_26 (by decide) (fun _ => ?_) (fun c9 => absurd c9 (by decide))
  refine lv_iload_n hx hb dL_act_40 rfl (lv_at hl 1 rfl) ?_
  refine lv_iconst (v := nI 2) hx hb dL_act_41 (by decide) ?_
  refine lv_icmp_ne (tgt := 71) hx hb dL_act_42 (by decide) (fun _ => ?_) (fun c9 => absurd c9 (by decide))
  refine lv_iload_n hx hb dL_act_71 rfl (lv_at hl 1 rfl) ?_
  refine lv_iconst (v := nI 3) hx hb dL_act_72 (by decide) ?_
  refine lv_icmp_ne (tgt := 93) hx hb dL_act_73 (by decide) (fun c9 => absurd c9 (by decide)) (fun _ => ?_)
  refine lv_aload_n hx hb dL_act_76 rfl (lv_at hl 0 rfl) ?_
  refine lv_iload_n hx hb dL_act_77 rfl (lv_at hl 2 rfl) ?_
  refine lv_iload_n hx hb dL_act_78 rfl (lv_at hl 3 rfl) ?_
  have hFc := va_free (wc := ob_wX ax ao al am ac ++ ob_wL t al n cl rd sv pb ba bf od bg) hD hS hA [0, 1, 2, 3, 4, 5, 6, 7, 8, 9] rfl
  refine vx_calli (vx_runV (As := [.int y1, .int y2]) (rest := []) ⟨hx, hb, hml, hown, hts⟩ (c_X4_mustComeBefore l hl9 sa D t s.heap.size ax ao al am ac n cl rd sv pb ba bf od bg y1 y2 hn) (cwV 2 hts gL_act_X4_mustComeBefore rfl rfl rfl (by decide +kernel) ⟨Nat.le_of_ble_eq_true rfl, Nat.le_of_ble_eq_true rfl⟩) (ob_pxV (ci := 4) (q0 := 0) hP hD hk hE rfl rfl) rfl rfl hl.1 rfl (lv_room (Nat.le_of_ble_eq_true rfl)) dL_act_79 ⟨Nat.le_of_ble_eq_true rfl, Nat.le_of_ble_eq_true rfl⟩) hS (fun q _ h => hFc q h) hFc (fun _ _ h => h.elim) (fun E9 ce9 q9 u9 t9 H1 locs ht hvm hpx hBX hz1 hk1 hS hce hcv hcl => ?_) (fun r9 u9 t9 H1 locs ht hvm hw9 hB hz1 hk1 hS => ?_)
  · obtain ⟨i9, hz9, hi9⟩ := hBX
    obtain rfl : i9 = 0 := Nat.succ.inj (hz9.symm.trans hz)
    cases hi9
    have hP := hP.kept (fun k q h => hk1 q.1 (hP k q h).lt id)
    refine vx_catch (own := RL) (name := "java/lang/IndexOutOfBoundsException") hown [] ⟨0, 217, 218, 79⟩ [⟨0, 217, 223, 15⟩, ⟨0, 217, 228, 18⟩] (by rw [htab]; rfl) (fun z h => absurd h List.not_mem_nil) rfl (by decide) (hts (Cond.classLink RL 79 "java/lang/IndexOutOfBoundsException") (List.mem_of_getElem? (i := 1) rfl)) (va_Nw.use rfl hE.2.2.2.2.1) hce hcv hcl ?_
    refine lv_astore (lv' := [(5, .ref q9), (0, .ref ax), (1, .int (nI 3)), (2, .int y1), (3, .int y2), (4, .int y3)]) hx hb dL_act_218 hl (by decide) rfl (fun ls hl => ?_)
    refine lv_ldc (v := (-3000001)) hx hb hown (hts (Cond.constant RL 81 (-3000001)) (List.mem_of_getElem? (i := 4) rfl)) dL_act_220 ?_
    exact vx_ret (W.iret (v := (-3000001)) hx hb hr (fun t9 ht hW => ⟨⟨(-3000001), (), rfl, rfl, ob_th ht hP⟩, hS.F ht⟩) hS.2.2 dL_act_222)
  · exact absurd (hw9.1.symm.trans hz) (by decide)

set_option maxRecDepth 100000 in
set_option maxHeartbeats 8000000 in
theorem y_act4_no0 (l : Launch) (hl9 : l.stackTraces = false) (sa : Nat → Nat) (D : va_G) (t : Nat → ClassId) (sz : Nat) (ax : Nat) (ao al am ac : Nat → Nat) (n : Nat) (cl rd sv pb ba bf od : Nat → Int32) (bg : Nat → Int64)  (y1 y2 y3 : Int32) (hn : n ≤ 30) (hz : (ob_z1 (ob_hd n y1)) = 1) : vx_Met l yL_act wsL_act ({ frames := 7, cells := 1, slots := 6, locals := 103 } : Room) (ob_PY D t (ob_wX ax ao al am ac ++ ob_wL t al n cl rd sv pb ba bf od bg) sz sa [.ref ax, .int (nI 4), .int y1, .int y2, .int y3]) (va_Qi (fun (r : Int32) (_ : Unit) => r = (-3000001)) (fun (_ : Unit) (t9 : State) => va_P D vwCl (ob_wX ax ao al am ac ++ ob_wL t al n cl rd sv pb ba bf od bg) t9.heap) (va_A (ob_wX ax ao al am ac ++ ob_wL t al n cl rd sv pb ba bf od bg) sz)) (fun _ _ _ => False) 1 6 (va_A (ob_wX ax ao al am ac ++ ob_wL t al n cl rd sv pb ba bf od bg) sz) := by
  refine vx_ofWH (cc := cL_act) (maxL := 6) (ret := (some .int)) (hh := [(0, 217, 218, 79), (0, 217, 223, 15), (0, 217, 228, 18)]) (by decide) rfl ?_
  intro p e s m args below meth c s₁ B hml hv
  obtain ⟨rfl, hsz, hP, hk, hD0, hE9, hN⟩ := hv
  have hE := hE9.2.2
  have hx := B.exec
  have hb := B.bytes
  have hr := B.returns
  have hts := atoms_spec (ws := wsL_act) B.pre
  have hown : s.vm.findClass RL = some m.cls := findClass_of_methodNamed B.named
  have hlocks := B.notSynchronized
  have hK := hk.1
  have htab := vx_table (x := yL_act) B (hts (Cond.codeWith yL_act cL_act 6 (some .int) [(0, 217, 218, 79), (0, 217, 223, 15), (0, 217, 228, 18)]) (List.mem_of_getElem? (i := 0) rfl))
  have hD : va_D (va_A (ob_wX ax ao al am ac ++ ob_wL t al n cl rd sv pb ba bf od bg) sz) (ob_wX ax ao al am ac ++ ob_wL t al n cl rd sv pb ba bf od bg) := hD0.self (sz := sz)
  have hA : ∀ q : Nat, s.heap.size ≤ q → (va_A (ob_wX ax ao al am ac ++ ob_wL t al n cl rd sv pb ba bf od bg) sz) q := fun q h => Or.inr (hsz ▸ h)
  have hS : va_S (va_A (ob_wX ax ao al am ac ++ ob_wL t al n cl rd sv pb ba bf od bg) sz) s.heap s.heap [] := va_S.rf
  have hl := lv_entry [.ref ax, .int (nI 4), .int y1, .int y2, .int y3] (n := 6) (Nat.le_of_ble_eq_true rfl)
  rw [lg_entry_eq]
  generalize (lg_sl [.ref ax, .int (nI 4), .int y1, .int y2, .int y3] ++ List.replicate (6 - (lg_sl [.ref ax, .int (nI 4), .int y1, .int y2, .int y3]).length) Slot.unset).toArray = ls at hl ⊢
  have hl : lv_has ls 6 [(0, .ref ax), (1, .int (nI 4)), (2, .int y1), (3, .int y2), (4, .int y3)] := hl
  have hP : va_P D vwCl (ob_wX ax ao al am ac ++ ob_wL t al n cl rd sv pb ba bf od bg) s.heap := hP
  refine lv_iload_n hx hb dL_act_0 rfl (lv_at hl 1 rfl) ?_
  refine lv_if_ne (tgt := 24) hx hb dL_act_1 (by decide) (fun _ => ?_) (fun c9 => absurd c9 (by decide))
  refine lv_iload_n hx hb dL_act_24 rfl (lv_at hl 1 rfl) ?_
  refine lv_iconst (v := nI 1) hx hb dL_act_25 (by decide) ?_
  refine lv_icmp_ne (tgt := 40) hx hb dL_act_26 (by decide) (fun _ => ?_) (fun c9 => absurd c9 (by decide))
  refine lv_iload_n hx hb dL_act_40 rfl (lv_at hl 1 rfl) ?_
  refine lv_iconst (v := nI 2) hx hb dL_act_41 (by decide) ?_
  refine lv_icmp_ne (tgt := 71) hx hb dL_act_42 (by decide) (fun _ => ?_) (fun c9 => absurd c9 (by decide))
  refine lv_iload_n hx hb dL_act_71 rfl (lv_at hl 1 rfl) ?_
  refine lv_iconst (v := nI 3) hx hb dL_act_72 (by decide) ?_
  refine lv_icmp_ne (tgt := 93) hx hb dL_act_73 (by decide) (fun _ => ?_) (fun c9 => absurd c9 (by decide))
  refine lv_iload_n hx hb dL_act_93 rfl (lv_at hl 1 rfl) ?_
  refine lv_iconst (v := nI 4) hx hb dL_act_94 (by decide) ?_
  refine lv_icmp_ne (tgt := 106) hx hb dL_act_95 (by decide) (fun c9 => absurd c9 (by decide)) (fun _ => ?_)
  refine lv_aload_n hx hb dL_act_98 rfl (lv_at hl 0 rfl) ?_
  refine lv_iload_n hx hb dL_act_99 rfl (lv_at hl 2 rfl) ?_
  have hFc := va_free (wc := ob_wX ax ao al am ac ++ ob_wL t al n cl rd sv pb ba bf od bg) hD hS hA [0, 1, 2, 3, 4, 5, 6, 7, 8, 9] rfl
  refine vx_calli (vx_runV (As := [.int y1]) (rest := []) ⟨hx, hb, hml, hown, hts⟩ (c_X4_lineAt l hl9 sa D t s.heap.size ax ao al am ac n cl rd sv pb ba bf od bg y1 hn) (cwV 1 hts gL_act_X4_lineAt rfl rfl rfl (by decide +kernel) ⟨Nat.le_of_ble_eq_true rfl, Nat.le_of_ble_eq_true rfl⟩) (ob_pxV (ci := 4) (q0 := 0) hP hD hk hE rfl rfl) rfl rfl hl.1 rfl (lv_room (Nat.le_of_ble_eq_true rfl)) dL_act_100 ⟨Nat.le_of_ble_eq_true rfl, Nat.le_of_ble_eq_true rfl⟩) hS (fun q _ h => hFc q h) hFc (fun _ _ h => h.elim) (fun E9 ce9 q9 u9 t9 H1 locs ht hvm hpx hBX hz1 hk1 hS hce hcv hcl => ?_) (fun r9 u9 t9 H1 locs ht hvm hw9 hB hz1 hk1 hS => ?_)
  · obtain ⟨i9, hz9, hi9⟩ := hBX
    obtain rfl : i9 = 0 := Nat.succ.inj (hz9.symm.trans hz)
    cases hi9
    have hP := hP.kept (fun k q h => hk1 q.1 (hP k q h).lt id)
    refine vx_catch (own := RL) (name := "java/lang/IndexOutOfBoundsException") hown [] ⟨0, 217, 218, 79⟩ [⟨0, 217, 223, 15⟩, ⟨0, 217, 228, 18⟩] (by rw [htab]; rfl) (fun z h => absurd h List.not_mem_nil) rfl (by decide) (hts (Cond.classLink RL 79 "java/lang/IndexOutOfBoundsException") (List.mem_of_getElem? (i := 1) rfl)) (va_Nw.use rfl hE.2.2.2.2.1) hce hcv hcl ?_
    refine lv_astore (lv' := [(5, .ref q9), (0, .ref ax), (1, .int (nI 4)), (2, .int y1), (3, .int y2), (4, .int y3)]) hx hb dL_act_218 hl (by decide) rfl (fun ls hl => ?_)
    refine lv_ldc (v := (-3000001)) hx hb hown (hts (Cond.constant RL 81 (-3000001)) (List.mem_of_getElem? (i := 4) rfl)) dL_act_220 ?_
    exact vx_ret (W.iret (v := (-3000001)) hx hb hr (fun t9 ht hW => ⟨⟨(-3000001), (), rfl, rfl, ob_th ht hP⟩, hS.F ht⟩) hS.2.2 dL_act_222)
  · exact absurd (hw9.1.symm.trans hz) (by decide)

set_option maxRecDepth 100000 in
set_option maxHeartbeats 8000000 in
theorem y_act5_no0 (l : Launch) (hl9 : l.stackTraces = false) (sa : Nat → Nat) (D : va_G) (t : Nat → ClassId) (sz : Nat) (ax : Nat) (ao al am ac : Nat → Nat) (n : Nat) (cl rd sv pb ba bf od : Nat → Int32) (bg : Nat → Int64)  (y1 y2 y3 : Int32) (hn : n ≤ 30) (hz : (ob_z1 (ob_hd n y1)) = 1) : vx_Met l yL_act wsL_act ({ frames := 7, cells := 1, slots := 6, locals := 103 } : Room) (ob_PY D t (ob_wX ax ao al am ac ++ ob_wL t al n cl rd sv pb ba bf od bg) sz sa [.ref ax, .int (nI 5), .int y1, .int y2, .int y3]) (va_Qi (fun (r : Int32) (_ : Unit) => r = (-3000001)) (fun (_ : Unit) (t9 : State) => va_P D vwCl (ob_wX ax ao al am ac ++ ob_wL t al n cl rd sv pb ba bf od bg) t9.heap) (va_A (ob_wX ax ao al am ac ++ ob_wL t al n cl rd sv pb ba bf od bg) sz)) (fun _ _ _ => False) 1 6 (va_A (ob_wX ax ao al am ac ++ ob_wL t al n cl rd sv pb ba bf od bg) sz) := by
  refine vx_ofWH (cc := cL_act) (maxL := 6) (ret := (some .int)) (hh := [(0, 217, 218, 79), (0, 217, 223, 15), (0, 217, 228, 18)]) (by decide) rfl ?_
  intro p e s m args below meth c s₁ B hml hv
  obtain ⟨rfl, hsz, hP, hk, hD0, hE9, hN⟩ := hv
  have hE := hE9.2.2
  have hx := B.exec
  have hb := B.bytes
  have hr := B.returns
  have hts := atoms_spec (ws := wsL_act) B.pre
  have hown : s.vm.findClass RL = some m.cls := findClass_of_methodNamed B.named
  have hlocks := B.notSynchronized
  have hK := hk.1
  have htab := vx_table (x := yL_act) B (hts (Cond.codeWith yL_act cL_act 6 (some .int) [(0, 217, 218, 79), (0, 217, 223, 15), (0, 217, 228, 18)]) (List.mem_of_getElem? (i := 0) rfl))
  have hD : va_D (va_A (ob_wX ax ao al am ac ++ ob_wL t al n cl rd sv pb ba bf od bg) sz) (ob_wX ax ao al am ac ++ ob_wL t al n cl rd sv pb ba bf od bg) := hD0.self (sz := sz)
  have hA : ∀ q : Nat, s.heap.size ≤ q → (va_A (ob_wX ax ao al am ac ++ ob_wL t al n cl rd sv pb ba bf od bg) sz) q := fun q h => Or.inr (hsz ▸ h)
  have hS : va_S (va_A (ob_wX ax ao al am ac ++ ob_wL t al n cl rd sv pb ba bf od bg) sz) s.heap s.heap [] := va_S.rf
  have hl := lv_entry [.ref ax, .int (nI 5), .int y1, .int y2, .int y3] (n := 6) (Nat.le_of_ble_eq_true rfl)
  rw [lg_entry_eq]
  generalize (lg_sl [.ref ax, .int (nI 5), .int y1, .int y2, .int y3] ++ List.replicate (6 - (lg_sl [.ref ax, .int (nI 5), .int y1, .int y2, .int y3]).length) Slot.unset).toArray = ls at hl ⊢
  have hl : lv_has ls 6 [(0, .ref ax), (1, .int (nI 5)), (2, .int y1), (3, .int y2), (4, .int y3)] := hl
  have hP : va_P D vwCl (ob_wX ax ao al am ac ++ ob_wL t al n cl rd sv pb ba bf od bg) s.heap := hP
  refine lv_iload_n hx hb dL_act_0 rfl (lv_at hl 1 rfl) ?_
  refine lv_if_ne (tgt := 24) hx hb dL_act_1 (by decide) (fun _ => ?_) (fun c9 => absurd c9 (by decide))
  refine lv_iload_n hx hb dL_act_24 rfl (lv_at hl 1 rfl) ?_
  refine lv_iconst (v := nI 1) hx hb dL_act_25 (by decide) ?_
  refine lv_icmp_ne (tgt := 40) hx hb dL_act_26 (by decide) (fun _ => ?_) (fun c9 => absurd c9 (by decide))
  refine lv_iload_n hx hb dL_act_40 rfl (lv_at hl 1 rfl) ?_
  refine lv_iconst (v := nI 2) hx hb dL_act_41 (by decide) ?_
  refine lv_icmp_ne (tgt := 71) hx hb dL_act_42 (by decide) (fun _ => ?_) (fun c9 => absurd c9 (by decide))
  refine lv_iload_n hx hb dL_act_71 rfl (lv_at hl 1 rfl) ?_
  refine lv_iconst (v := nI 3) hx hb dL_act_72 (by decide) ?_
  refine lv_icmp_ne (tgt := 93) hx hb dL_act_73 (by decide) (fun _ => ?_) (fun c9 => absurd c9 (by decide))
  refine lv_iload_n hx hb dL_act_93 rfl (lv_at hl 1 rfl) ?_
  refine lv_iconst (v := nI 4) hx hb dL_act_94 (by decide) ?_
  refine lv_icmp_ne (tgt := 106) hx hb dL_act_95 (by decide) (fun _ => ?_) (fun c9 => absurd c9 (by decide))
  refine lv_iload_n hx hb dL_act_106 rfl (lv_at hl 1 rfl) ?_
  refine lv_iconst (v := nI 5) hx hb dL_act_107 (by decide) ?_
  refine lv_icmp_ne (tgt := 127) hx hb dL_act_108 (by decide) (fun c9 => absurd c9 (by decide)) (fun _ => ?_)
  refine lv_aload_n hx hb dL_act_111 rfl (lv_at hl 0 rfl) ?_
  refine lv_iload_n hx hb dL_act_112 rfl (lv_at hl 2 rfl) ?_
  have hFc := va_free (wc := ob_wX ax ao al am ac ++ ob_wL t al n cl rd sv pb ba bf od bg) hD hS hA [0, 1, 2, 3, 4, 5, 6, 7, 8, 9] rfl
  refine vx_calli (vx_runV (As := [.int y1]) (rest := []) ⟨hx, hb, hml, hown, hts⟩ (c_X4_isDoubtful l hl9 sa D t s.heap.size ax ao al am ac n cl rd sv pb ba bf od bg y1 hn) (cwV 1 hts gL_act_X4_isDoubtful rfl rfl rfl (by decide +kernel) ⟨Nat.le_of_ble_eq_true rfl, Nat.le_of_ble_eq_true rfl⟩) (ob_pxV (ci := 4) (q0 := 0) hP hD hk hE rfl rfl) rfl rfl hl.1 rfl (lv_room (Nat.le_of_ble_eq_true rfl)) dL_act_113 ⟨Nat.le_of_ble_eq_true rfl, Nat.le_of_ble_eq_true rfl⟩) hS (fun q _ h => hFc q h) hFc (fun _ _ h => h.elim) (fun E9 ce9 q9 u9 t9 H1 locs ht hvm hpx hBX hz1 hk1 hS hce hcv hcl => ?_) (fun r9 u9 t9 H1 locs ht hvm hw9 hB hz1 hk1 hS => ?_)
  · obtain ⟨i9, hz9, hi9⟩ := hBX
    obtain rfl : i9 = 0 := Nat.succ.inj (hz9.symm.trans hz)
    cases hi9
    have hP := hP.kept (fun k q h => hk1 q.1 (hP k q h).lt id)
    refine vx_catch (own := RL) (name := "java/lang/IndexOutOfBoundsException") hown [] ⟨0, 217, 218, 79⟩ [⟨0, 217, 223, 15⟩, ⟨0, 217, 228, 18⟩] (by rw [htab]; rfl) (fun z h => absurd h List.not_mem_nil) rfl (by decide) (hts (Cond.classLink RL 79 "java/lang/IndexOutOfBoundsException") (List.mem_of_getElem? (i := 1) rfl)) (va_Nw.use rfl hE.2.2.2.2.1) hce hcv hcl ?_
    refine lv_astore (lv' := [(5, .ref q9), (0, .ref ax), (1, .int (nI 5)), (2, .int y1), (3, .int y2), (4, .int y3)]) hx hb dL_act_218 hl (by decide) rfl (fun ls hl => ?_)
    refine lv_ldc (v := (-3000001)) hx hb hown (hts (Cond.constant RL 81 (-3000001)) (List.mem_of_getElem? (i := 4) rfl)) dL_act_220 ?_
    exact vx_ret (W.iret (v := (-3000001)) hx hb hr (fun t9 ht hW => ⟨⟨(-3000001), (), rfl, rfl, ob_th ht hP⟩, hS.F ht⟩) hS.2.2 dL_act_222)
  · exact absurd (hw9.1.symm.trans hz) (by decide)

set_option maxRecDepth 100000 in
set_option maxHeartbeats 8000000 in
theorem y_act6_no0 (l : Launch) (hl9 : l.stackTraces = false) (sa : Nat → Nat) (D : va_G) (t : Nat → ClassId) (sz : Nat) (ax : Nat) (ao al am ac : Nat → Nat) (n : Nat) (cl rd sv pb ba bf od : Nat → Int32) (bg : Nat → Int64) (pm : Nat → Nat)  (y1 y2 y3 : Int32) (hn : n ≤ 30) (hpm : ∀ k, k < n → od k = nI (pm k) ∧ pm k < n) (hz : (ob_z1 (ob_sx (ob_is n pb ba od) y1 n)) = 1) : vx_Met l yL_act wsL_act ({ frames := 7, cells := 1, slots := 6, locals := 104 } : Room) (ob_PY D t (ob_wX ax ao al am ac ++ ob_wL t al n cl rd sv pb ba bf od bg) sz sa [.ref ax, .int (nI 6), .int y1, .int y2, .int y3]) (va_Qi (fun (r : Int32) (_ : Unit) => r = (-3000001)) (fun (_ : Unit) (t9 : State) => va_P D vwCl (ob_wX ax ao al am ac ++ ob_wL t al n cl rd sv pb ba bf od bg) t9.heap) (va_A (ob_wX ax ao al am ac ++ ob_wL t al n cl rd sv pb ba bf od bg) sz)) (fun _ _ _ => False) 1 6 (va_A (ob_wX ax ao al am ac ++ ob_wL t al n cl rd sv pb ba bf od bg) sz) := by
  refine vx_ofWH (cc := cL_act) (maxL := 6) (ret := (some .int)) (hh := [(0, 217, 218, 79), (0, 217, 223, 15), (0, 217, 228, 18)]) (by decide) rfl ?_
  intro p e s m args below meth c s₁ B hml hv
  obtain ⟨rfl, hsz, hP, hk, hD0, hE9, hN⟩ := hv
  have hE := hE9.2.2
  have hx := B.exec
  have hb := B.bytes
  have hr := B.returns
  have hts := atoms_spec (ws := wsL_act) B.pre
  have hown : s.vm.findClass RL = some m.cls := findClass_of_methodNamed B.named
  have hlocks := B.notSynchronized
  have hK := hk.1
  have htab := vx_table (x := yL_act) B (hts (Cond.codeWith yL_act cL_act 6 (some .int) [(0, 217, 218, 79), (0, 217, 223, 15), (0, 217, 228, 18)]) (List.mem_of_getElem? (i := 0) rfl))
  have hD : va_D (va_A (ob_wX ax ao al am ac ++ ob_wL t al n cl rd sv pb ba bf od bg) sz) (ob_wX ax ao al am ac ++ ob_wL t al n cl rd sv pb ba bf od bg) := hD0.self (sz := sz)
  have hA : ∀ q : Nat, s.heap.size ≤ q → (va_A (ob_wX ax ao al am ac ++ ob_wL t al n cl rd sv pb ba bf od bg) sz) q := fun q h => Or.inr (hsz ▸ h)
  have hS : va_S (va_A (ob_wX ax ao al am ac ++ ob_wL t al n cl rd sv pb ba bf od bg) sz) s.heap s.heap [] := va_S.rf
  have hl := lv_entry [.ref ax, .int (nI 6), .int y1, .int y2, .int y3] (n := 6) (Nat.le_of_ble_eq_true rfl)
  rw [lg_entry_eq]
  generalize (lg_sl [.ref ax, .int (nI 6), .int y1, .int y2, .int y3] ++ List.replicate (6 - (lg_sl [.ref ax, .int (nI 6), .int y1, .int y2, .int y3]).length) Slot.unset).toArray = ls at hl ⊢
  have hl : lv_has ls 6 [(0, .ref ax), (1, .int (nI 6)), (2, .int y1), (3, .int y2), (4, .int y3)] := hl
  have hP : va_P D vwCl (ob_wX ax ao al am ac ++ ob_wL t al n cl rd sv pb ba bf od bg) s.heap := hP
  refine lv_iload_n hx hb dL_act_0 rfl (lv_at hl 1 rfl) ?_
  refine lv_if_ne (tgt := 24) hx hb dL_act_1 (by decide) (fun _ => ?_) (fun c9 => absurd c9 (by decide))
  refine lv_iload_n hx hb dL_act_24 rfl (lv_at hl 1 rfl) ?_
  refine lv_iconst (v := nI 1) hx hb dL_act_25 (by decide) ?_
  refine lv_icmp_ne (tgt := 40) hx hb dL_act_26 (by decide) (fun _ => ?_) (fun c9 => absurd c9 (by decide))
  refine lv_iload_n hx hb dL_act_40 rfl (lv_at hl 1 rfl) ?_
  refine lv_iconst (v := nI 2) hx hb dL_act_41 (by decide) ?_
  refine lv_icmp_ne (tgt := 71) hx hb dL_act_42 (by decide) (fun _ => ?_) (fun c9 => absurd c9 (by decide))
  refine lv_iload_n hx hb dL_act_71 rfl (lv_at hl 1 rfl) ?_
  refine lv_iconst (v := nI 3) hx hb dL_act_72 (by decide) ?_
  refine lv_icmp_ne (tgt := 93) hx hb dL_act_73 (by decide) (fun _ => ?_) (fun c9 => absurd c9 (by decide))
  refine lv_iload_n hx hb dL_act_93 rfl (lv_at hl 1 rfl) ?_
  refine lv_iconst (v := nI 4) hx hb dL_act_94 (by decide) ?_
  refine lv_icmp_ne (tgt := 106) hx hb dL_act_95 (by decide) (fun _ => ?_) (fun c9 => absurd c9 (by decide))
  refine lv_iload_n hx hb dL_act_106 rfl (lv_at hl 1 rfl) ?_
  refine lv_iconst (v := nI 5) hx hb dL_act_107 (by decide) ?_
  refine lv_icmp_ne (tgt := 127) hx hb dL_act_108 (by decide) (fun _ => ?_) (fun c9 => absurd c9 (by decide))
  refine lv_iload_n hx hb dL_act_127 rfl (lv_at hl 1 rfl) ?_
  refine lv_bipush (v := nI 6) hx hb dL_act_128 (by decide) ?_
  refine lv_icmp_ne (tgt := 141) hx hb dL_act_130 (by decide) (fun c9 => absurd c9 (by decide)) (fun _ => ?_)
  refine lv_aload_n hx hb dL_act_133 rfl (lv_at hl 0 rfl) ?_
  refine lv_iload_n hx hb dL_act_134 rfl (lv_at hl 2 rfl) ?_
  have hFc := va_free (wc := ob_wX ax ao al am ac ++ ob_wL t al n cl rd sv pb ba bf od bg) hD hS hA [0, 1, 2, 3, 4, 5, 6, 7, 8, 9] rfl
  refine vx_calli (vx_runV (As := [.int y1]) (rest := []) ⟨hx, hb, hml, hown, hts⟩ (c_X4_storyAt l hl9 sa D t s.heap.size ax ao al am ac n cl rd sv pb ba bf od bg pm y1 hn hpm) (cwV 1 hts gL_act_X4_storyAt rfl rfl rfl (by decide +kernel) ⟨Nat.le_of_ble_eq_true rfl, Nat.le_of_ble_eq_true rfl⟩) (ob_pxV (ci := 4) (q0 := 0) hP hD hk hE rfl rfl) rfl rfl hl.1 rfl (lv_room (Nat.le_of_ble_eq_true rfl)) dL_act_135 ⟨Nat.le_of_ble_eq_true rfl, Nat.le_of_ble_eq_true rfl⟩) hS (fun q _ h => hFc q h) hFc (fun _ _ h => h.elim) (fun E9 ce9 q9 u9 t9 H1 locs ht hvm hpx hBX hz1 hk1 hS hce hcv hcl => ?_) (fun r9 u9 t9 H1 locs ht hvm hw9 hB hz1 hk1 hS => ?_)
  · obtain ⟨i9, hz9, hi9⟩ := hBX
    obtain rfl : i9 = 0 := Nat.succ.inj (hz9.symm.trans hz)
    cases hi9
    have hP := hP.kept (fun k q h => hk1 q.1 (hP k q h).lt id)
    refine vx_catch (own := RL) (name := "java/lang/IndexOutOfBoundsException") hown [] ⟨0, 217, 218, 79⟩ [⟨0, 217, 223, 15⟩, ⟨0, 217, 228, 18⟩] (by rw [htab]; rfl) (fun z h => absurd h List.not_mem_nil) rfl (by decide) (hts (Cond.classLink RL 79 "java/lang/IndexOutOfBoundsException") (List.mem_of_getElem? (i := 1) rfl)) (va_Nw.use rfl hE.2.2.2.2.1) hce hcv hcl ?_
    refine lv_astore (lv' := [(5, .ref q9), (0, .ref ax), (1, .int (nI 6)), (2, .int y1), (3, .int y2), (4, .int y3)]) hx hb dL_act_218 hl (by decide) rfl (fun ls hl => ?_)
    refine lv_ldc (v := (-3000001)) hx hb hown (hts (Cond.constant RL 81 (-3000001)) (List.mem_of_getElem? (i := 4) rfl)) dL_act_220 ?_
    exact vx_ret (W.iret (v := (-3000001)) hx hb hr (fun t9 ht hW => ⟨⟨(-3000001), (), rfl, rfl, ob_th ht hP⟩, hS.F ht⟩) hS.2.2 dL_act_222)
  · exact absurd (hw9.1.symm.trans hz) (by decide)

set_option maxRecDepth 100000 in
set_option maxHeartbeats 8000000 in
theorem y_act7_no0 (l : Launch) (hl9 : l.stackTraces = false) (sa : Nat → Nat) (D : va_G) (t : Nat → ClassId) (sz : Nat) (ax : Nat) (ao al am ac : Nat → Nat) (M : Nat → Nat → Int32) (n : Nat) (cl rd sv pb ba bf od : Nat → Int32) (bg : Nat → Int64)  (y1 y2 y3 : Int32) (hn : n ≤ 30) (hz : (ob_z1 (ob_hd n y1)) = 1) : vx_Met l yL_act wsL_act ({ frames := 7, cells := 1, slots := 6, locals := 108 } : Room) (ob_PY D t (ob_wX ax ao al am ac ++ ob_wO t ao M ++ ob_wL t al n cl rd sv pb ba bf od bg) sz sa [.ref ax, .int (nI 7), .int y1, .int y2, .int y3]) (va_Qi (fun (r : Int32) (_ : Unit) => r = (-3000001)) (fun (_ : Unit) (t9 : State) => va_P D vwCl (ob_wX ax ao al am ac ++ ob_wO t ao M ++ ob_wL t al n cl rd sv pb ba bf od bg) t9.heap) (va_A (ob_wX ax ao al am ac ++ ob_wO t ao M ++ ob_wL t al n cl rd sv pb ba bf od bg) sz)) (fun _ _ _ => False) 1 6 (va_A (ob_wX ax ao al am ac ++ ob_wO t ao M ++ ob_wL t al n cl rd sv pb ba bf od bg) sz) := by
  refine vx_ofWH (cc := cL_act) (maxL := 6) (ret := (some .int)) (hh := [(0, 217, 218, 79), (0, 217, 223, 15), (0, 217, 228, 18)]) (by decide) rfl ?_
  intro p e s m args below meth c s₁ B hml hv
  obtain ⟨rfl, hsz, hP, hk, hD0, hE9, hN⟩ := hv
  have hE := hE9.2.2
  have hx := B.exec
  have hb := B.bytes
  have hr := B.returns
  have hts := atoms_spec (ws := wsL_act) B.pre
  have hown : s.vm.findClass RL = some m.cls := findClass_of_methodNamed B.named
  have hlocks := B.notSynchronized
  have hK := hk.1
  have htab := vx_table (x := yL_act) B (hts (Cond.codeWith yL_act cL_act 6 (some .int) [(0, 217, 218, 79), (0, 217, 223, 15), (0, 217, 228, 18)]) (List.mem_of_getElem? (i := 0) rfl))
  have hD : va_D (va_A (ob_wX ax ao al am ac ++ ob_wO t ao M ++ ob_wL t al n cl rd sv pb ba bf od bg) sz) (ob_wX ax ao al am ac ++ ob_wO t ao M ++ ob_wL t al n cl rd sv pb ba bf od bg) := hD0.self (sz := sz)
  have hA : ∀ q : Nat, s.heap.size ≤ q → (va_A (ob_wX ax ao al am ac ++ ob_wO t ao M ++ ob_wL t al n cl rd sv pb ba bf od bg) sz) q := fun q h => Or.inr (hsz ▸ h)
  have hS : va_S (va_A (ob_wX ax ao al am ac ++ ob_wO t ao M ++ ob_wL t al n cl rd sv pb ba bf od bg) sz) s.heap s.heap [] := va_S.rf
  have hl := lv_entry [.ref ax, .int (nI 7), .int y1, .int y2, .int y3] (n := 6) (Nat.le_of_ble_eq_true rfl)
  rw [lg_entry_eq]
  generalize (lg_sl [.ref ax, .int (nI 7), .int y1, .int y2, .int y3] ++ List.replicate (6 - (lg_sl [.ref ax, .int (nI 7), .int y1, .int y2, .int y3]).length) Slot.unset).toArray = ls at hl ⊢
  have hl : lv_has ls 6 [(0, .ref ax), (1, .int (nI 7)), (2, .int y1), (3, .int y2), (4, .int y3)] := hl
  have hP : va_P D vwCl (ob_wX ax ao al am ac ++ ob_wO t ao M ++ ob_wL t al n cl rd sv pb ba bf od bg) s.heap := hP
  refine lv_iload_n hx hb dL_act_0 rfl (lv_at hl 1 rfl) ?_
  refine lv_if_ne (tgt := 24) hx hb dL_act_1 (by decide) (fun _ => ?_) (fun c9 => absurd c9 (by decide))
  refine lv_iload_n hx hb dL_act_24 rfl (lv_at hl 1 rfl) ?_
  refine lv_iconst (v := nI 1) hx hb dL_act_25 (by decide) ?_
  refine lv_icmp_ne (tgt := 40) hx hb dL_act_26 (by decide) (fun _ => ?_) (fun c9 => absurd c9 (by decide))
  refine lv_iload_n hx hb dL_act_40 rfl (lv_at hl 1 rfl) ?_
  refine lv_iconst (v := nI 2) hx hb dL_act_41 (by decide) ?_
  refine lv_icmp_ne (tgt := 71) hx hb dL_act_42 (by decide) (fun _ => ?_) (fun c9 => absurd c9 (by decide))
  refine lv_iload_n hx hb dL_act_71 rfl (lv_at hl 1 rfl) ?_
  refine lv_iconst (v := nI 3) hx hb dL_act_72 (by decide) ?_
  refine lv_icmp_ne (tgt := 93) hx hb dL_act_73 (by decide) (fun _ => ?_) (fun c9 => absurd c9 (by decide))
  refine lv_iload_n hx hb dL_act_93 rfl (lv_at hl 1 rfl) ?_
  refine lv_iconst (v := nI 4) hx hb dL_act_94 (by decide) ?_
  refine lv_icmp_ne (tgt := 106) hx hb dL_act_95 (by decide) (fun _ => ?_) (fun c9 => absurd c9 (by decide))
  refine lv_iload_n hx hb dL_act_106 rfl (lv_at hl 1 rfl) ?_
  refine lv_iconst (v := nI 5) hx hb dL_act_107 (by decide) ?_
  refine lv_icmp_ne (tgt := 127) hx hb dL_act_108 (by decide) (fun _ => ?_) (fun c9 => absurd c9 (by decide))
  refine lv_iload_n hx hb dL_act_127 rfl (lv_at hl 1 rfl) ?_
  refine lv_bipush (v := nI 6) hx hb dL_act_128 (by decide) ?_
  refine lv_icmp_ne (tgt := 141) hx hb dL_act_130 (by decide) (fun _ => ?_) (fun c9 => absurd c9 (by decide))
  refine lv_iload_n hx hb dL_act_141 rfl (lv_at hl 1 rfl) ?_
  refine lv_bipush (v := nI 7) hx hb dL_act_142 (by decide) ?_
  refine lv_icmp_ne (tgt := 155) hx hb dL_act_144 (by decide) (fun c9 => absurd c9 (by decide)) (fun _ => ?_)
  refine lv_aload_n hx hb dL_act_147 rfl (lv_at hl 0 rfl) ?_
  refine lv_iload_n hx hb dL_act_148 rfl (lv_at hl 2 rfl) ?_
  have hFc := va_free (wc := ob_wX ax ao al am ac ++ ob_wO t ao M ++ ob_wL t al n cl rd sv pb ba bf od bg) hD hS hA [0, 1, 2, 3, 4, 5, 6, 7, 8, 9, 10, 11, 12, 13, 14, 15, 16] rfl
  refine vx_calli (vx_runV (As := [.int y1]) (rest := []) ⟨hx, hb, hml, hown, hts⟩ (c_X4_earliest l hl9 sa D t s.heap.size ax ao al am ac M n cl rd sv pb ba bf od bg y1 hn) (cwV 1 hts gL_act_X4_earliest rfl rfl rfl (by decide +kernel) ⟨Nat.le_of_ble_eq_true rfl, Nat.le_of_ble_eq_true rfl⟩) (ob_pxV (ci := 4) (q0 := 0) hP hD hk hE rfl rfl) rfl rfl hl.1 rfl (lv_room (Nat.le_of_ble_eq_true rfl)) dL_act_149 ⟨Nat.le_of_ble_eq_true rfl, Nat.le_of_ble_eq_true rfl⟩) hS (fun q _ h => hFc q h) hFc (fun _ _ h => h.elim) (fun E9 ce9 q9 u9 t9 H1 locs ht hvm hpx hBX hz1 hk1 hS hce hcv hcl => ?_) (fun r9 u9 t9 H1 locs ht hvm hw9 hB hz1 hk1 hS => ?_)
  · obtain ⟨i9, hz9, hi9⟩ := hBX
    obtain rfl : i9 = 0 := Nat.succ.inj (hz9.symm.trans hz)
    cases hi9
    have hP := hP.kept (fun k q h => hk1 q.1 (hP k q h).lt id)
    refine vx_catch (own := RL) (name := "java/lang/IndexOutOfBoundsException") hown [] ⟨0, 217, 218, 79⟩ [⟨0, 217, 223, 15⟩, ⟨0, 217, 228, 18⟩] (by rw [htab]; rfl) (fun z h => absurd h List.not_mem_nil) rfl (by decide) (hts (Cond.classLink RL 79 "java/lang/IndexOutOfBoundsException") (List.mem_of_getElem? (i := 1) rfl)) (va_Nw.use rfl hE.2.2.2.2.1) hce hcv hcl ?_
    refine lv_astore (lv' := [(5, .ref q9), (0, .ref ax), (1, .int (nI 7)), (2, .int y1), (3, .int y2), (4, .int y3)]) hx hb dL_act_218 hl (by decide) rfl (fun ls hl => ?_)
    refine lv_ldc (v := (-3000001)) hx hb hown (hts (Cond.constant RL 81 (-3000001)) (List.mem_of_getElem? (i := 4) rfl)) dL_act_220 ?_
    exact vx_ret (W.iret (v := (-3000001)) hx hb hr (fun t9 ht hW => ⟨⟨(-3000001), (), rfl, rfl, ob_th ht hP⟩, hS.F ht⟩) hS.2.2 dL_act_222)
  · exact absurd (hw9.1.symm.trans hz) (by decide)

set_option maxRecDepth 100000 in
set_option maxHeartbeats 8000000 in
theorem y_act8_no0 (l : Launch) (hl9 : l.stackTraces = false) (sa : Nat → Nat) (D : va_G) (t : Nat → ClassId) (sz : Nat) (ax : Nat) (ao al am ac : Nat → Nat) (cn : Nat) (st : Int32) (Wt : Nat → Nat → Int32)  (y1 y2 y3 : Int32) (hcn : cn ≤ 16) (hz : (ob_z1 (ob_hd cn y1)) = 1) : vx_Met l yL_act wsL_act ({ frames := 7, cells := 1, slots := 6, locals := 136 } : Room) (ob_PY D t (ob_wX ax ao al am ac ++ ob_wC t ac cn st Wt) sz sa [.ref ax, .int (nI 8), .int y1, .int y2, .int y3]) (va_Qi (fun (r : Int32) (_ : Unit) => r = (-3000001)) (fun (_ : Unit) (t9 : State) => va_P D vwCl (ob_wX ax ao al am ac ++ ob_wC t ac cn st Wt) t9.heap) (va_A (ob_wX ax ao al am ac ++ ob_wC t ac cn st Wt) sz)) (fun _ _ _ => False) 1 6 (va_A (ob_wX ax ao al am ac ++ ob_wC t ac cn st Wt) sz) := by
  refine vx_ofWH (cc := cL_act) (maxL := 6) (ret := (some .int)) (hh := [(0, 217, 218, 79), (0, 217, 223, 15), (0, 217, 228, 18)]) (by decide) rfl ?_
  intro p e s m args below meth c s₁ B hml hv
  obtain ⟨rfl, hsz, hP, hk, hD0, hE9, hN⟩ := hv
  have hE := hE9.2.2
  have hx := B.exec
  have hb := B.bytes
  have hr := B.returns
  have hts := atoms_spec (ws := wsL_act) B.pre
  have hown : s.vm.findClass RL = some m.cls := findClass_of_methodNamed B.named
  have hlocks := B.notSynchronized
  have hK := hk.1
  have htab := vx_table (x := yL_act) B (hts (Cond.codeWith yL_act cL_act 6 (some .int) [(0, 217, 218, 79), (0, 217, 223, 15), (0, 217, 228, 18)]) (List.mem_of_getElem? (i := 0) rfl))
  have hD : va_D (va_A (ob_wX ax ao al am ac ++ ob_wC t ac cn st Wt) sz) (ob_wX ax ao al am ac ++ ob_wC t ac cn st Wt) := hD0.self (sz := sz)
  have hA : ∀ q : Nat, s.heap.size ≤ q → (va_A (ob_wX ax ao al am ac ++ ob_wC t ac cn st Wt) sz) q := fun q h => Or.inr (hsz ▸ h)
  have hS : va_S (va_A (ob_wX ax ao al am ac ++ ob_wC t ac cn st Wt) sz) s.heap s.heap [] := va_S.rf
  have hl := lv_entry [.ref ax, .int (nI 8), .int y1, .int y2, .int y3] (n := 6) (Nat.le_of_ble_eq_true rfl)
  rw [lg_entry_eq]
  generalize (lg_sl [.ref ax, .int (nI 8), .int y1, .int y2, .int y3] ++ List.replicate (6 - (lg_sl [.ref ax, .int (nI 8), .int y1, .int y2, .int y3]).length) Slot.unset).toArray = ls at hl ⊢
  have hl : lv_has ls 6 [(0, .ref ax), (1, .int (nI 8)), (2, .int y1), (3, .int y2), (4, .int y3)] := hl
  have hP : va_P D vwCl (ob_wX ax ao al am ac ++ ob_wC t ac cn st Wt) s.heap := hP
  refine lv_iload_n hx hb dL_act_0 rfl (lv_at hl 1 rfl) ?_
  refine lv_if_ne (tgt := 24) hx hb dL_act_1 (by decide) (fun _ => ?_) (fun c9 => absurd c9 (by decide))
  refine lv_iload_n hx hb dL_act_24 rfl (lv_at hl 1 rfl) ?_
  refine lv_iconst (v := nI 1) hx hb dL_act_25 (by decide) ?_
  refine lv_icmp_ne (tgt := 40) hx hb dL_act_26 (by decide) (fun _ => ?_) (fun c9 => absurd c9 (by decide))
  refine lv_iload_n hx hb dL_act_40 rfl (lv_at hl 1 rfl) ?_
  refine lv_iconst (v := nI 2) hx hb dL_act_41 (by decide) ?_
  refine lv_icmp_ne (tgt := 71) hx hb dL_act_42 (by decide) (fun _ => ?_) (fun c9 => absurd c9 (by decide))
  refine lv_iload_n hx hb dL_act_71 rfl (lv_at hl 1 rfl) ?_
  refine lv_iconst (v := nI 3) hx hb dL_act_72 (by decide) ?_
  refine lv_icmp_ne (tgt := 93) hx hb dL_act_73 (by decide) (fun _ => ?_) (fun c9 => absurd c9 (by decide))
  refine lv_iload_n hx hb dL_act_93 rfl (lv_at hl 1 rfl) ?_
  refine lv_iconst (v := nI 4) hx hb dL_act_94 (by decide) ?_
  refine lv_icmp_ne (tgt := 106) hx hb dL_act_95 (by decide) (fun _ => ?_) (fun c9 => absurd c9 (by decide))
  refine lv_iload_n hx hb dL_act_106 rfl (lv_at hl 1 rfl) ?_
  refine lv_iconst (v := nI 5) hx hb dL_act_107 (by decide) ?_
  refine lv_icmp_ne (tgt := 127) hx hb dL_act_108 (by decide) (fun _ => ?_) (fun c9 => absurd c9 (by decide))
  refine lv_iload_n hx hb dL_act_127 rfl (lv_at hl 1 rfl) ?_
  refine lv_bipush (v := nI 6) hx hb dL_act_128 (by decide) ?_
  refine lv_icmp_ne (tgt := 141) hx hb dL_act_130 (by decide) (fun _ => ?_) (fun c9 => absurd c9 (by decide))
  refine lv_iload_n hx hb dL_act_141 rfl (lv_at hl 1 rfl) ?_
  refine lv_bipush (v := nI 7) hx hb dL_act_142 (by decide) ?_
  refine lv_icmp_ne (tgt := 155) hx hb dL_act_144 (by decide) (fun _ => ?_) (fun c9 => absurd c9 (by decide))
  refine lv_iload_n hx hb dL_act_155 rfl (lv_at hl 1 rfl) ?_
  refine lv_bipush (v := nI 8) hx hb dL_act_156 (by decide) ?_
  refine lv_icmp_ne (tgt := 169) hx hb dL_act_158 (by decide) (fun c9 => absurd c9 (by decide)) (fun _ => ?_)
  refine lv_aload_n hx hb dL_act_161 rfl (lv_at hl 0 rfl) ?_
  refine lv_iload_n hx hb dL_act_162 rfl (lv_at hl 2 rfl) ?_
  have hFc := va_free (wc := ob_wX ax ao al am ac ++ ob_wC t ac cn st Wt) hD hS hA [0, 1, 2, 3, 4, 5, 6, 7, 8, 9, 10, 11, 12, 13, 14, 15, 16, 17, 18] rfl
  refine vx_calli (vx_runV (As := [.int y1]) (rest := []) ⟨hx, hb, hml, hown, hts⟩ (c_X4_roots l hl9 sa D t s.heap.size ax ao al am ac cn st Wt y1 hcn) (cwV 1 hts gL_act_X4_roots rfl rfl rfl (by decide +kernel) ⟨Nat.le_of_ble_eq_true rfl, Nat.le_of_ble_eq_true rfl⟩) (ob_pxV (ci := 4) (q0 := 0) hP hD hk hE rfl rfl) rfl rfl hl.1 rfl (lv_room (Nat.le_of_ble_eq_true rfl)) dL_act_163 ⟨Nat.le_of_ble_eq_true rfl, Nat.le_of_ble_eq_true rfl⟩) hS (fun q _ h => hFc q h) hFc (fun _ _ h => h.elim) (fun E9 ce9 q9 u9 t9 H1 locs ht hvm hpx hBX hz1 hk1 hS hce hcv hcl => ?_) (fun r9 u9 t9 H1 locs ht hvm hw9 hB hz1 hk1 hS => ?_)
  · obtain ⟨i9, hz9, hi9⟩ := hBX
    obtain rfl : i9 = 0 := Nat.succ.inj (hz9.symm.trans hz)
    cases hi9
    have hP := hP.kept (fun k q h => hk1 q.1 (hP k q h).lt id)
    refine vx_catch (own := RL) (name := "java/lang/IndexOutOfBoundsException") hown [] ⟨0, 217, 218, 79⟩ [⟨0, 217, 223, 15⟩, ⟨0, 217, 228, 18⟩] (by rw [htab]; rfl) (fun z h => absurd h List.not_mem_nil) rfl (by decide) (hts (Cond.classLink RL 79 "java/lang/IndexOutOfBoundsException") (List.mem_of_getElem? (i := 1) rfl)) (va_Nw.use rfl hE.2.2.2.2.1) hce hcv hcl ?_
    refine lv_astore (lv' := [(5, .ref q9), (0, .ref ax), (1, .int (nI 8)), (2, .int y1), (3, .int y2), (4, .int y3)]) hx hb dL_act_218 hl (by decide) rfl (fun ls hl => ?_)
    refine lv_ldc (v := (-3000001)) hx hb hown (hts (Cond.constant RL 81 (-3000001)) (List.mem_of_getElem? (i := 4) rfl)) dL_act_220 ?_
    exact vx_ret (W.iret (v := (-3000001)) hx hb hr (fun t9 ht hW => ⟨⟨(-3000001), (), rfl, rfl, ob_th ht hP⟩, hS.F ht⟩) hS.2.2 dL_act_222)
  · exact absurd (hw9.1.symm.trans hz) (by decide)

set_option maxRecDepth 100000 in
set_option maxHeartbeats 8000000 in
theorem y_act9_no0 (l : Launch) (hl9 : l.stackTraces = false) (sa : Nat → Nat) (D : va_G) (t : Nat → ClassId) (sz : Nat) (ax : Nat) (ao al am ac : Nat → Nat) (cn : Nat) (st : Int32) (Wt : Nat → Nat → Int32)  (y1 y2 y3 : Int32) (hcn : cn ≤ 16) (hz : (ob_z1 (ob_hd cn y1)) = 1) : vx_Met l yL_act wsL_act ({ frames := 7, cells := 1, slots := 6, locals := 103 } : Room) (ob_PY D t (ob_wX ax ao al am ac ++ ob_wC t ac cn st Wt) sz sa [.ref ax, .int (nI 9), .int y1, .int y2, .int y3]) (va_Qi (fun (r : Int32) (_ : Unit) => r = (-3000001)) (fun (_ : Unit) (t9 : State) => va_P D vwCl (ob_wX ax ao al am ac ++ ob_wC t ac cn st Wt) t9.heap) (va_A (ob_wX ax ao al am ac ++ ob_wC t ac cn st Wt) sz)) (fun _ _ _ => False) 1 6 (va_A (ob_wX ax ao al am ac ++ ob_wC t ac cn st Wt) sz) := by
  refine vx_ofWH (cc := cL_act) (maxL := 6) (ret := (some .int)) (hh := [(0, 217, 218, 79), (0, 217, 223, 15), (0, 217, 228, 18)]) (by decide) rfl ?_
  intro p e s m args below meth c s₁ B hml hv
  obtain ⟨rfl, hsz, hP, hk, hD0, hE9, hN⟩ := hv
  have hE := hE9.2.2
  have hx := B.exec
  have hb := B.bytes
  have hr := B.returns
  have hts := atoms_spec (ws := wsL_act) B.pre
  have hown : s.vm.findClass RL = some m.cls := findClass_of_methodNamed B.named
  have hlocks := B.notSynchronized
  have hK := hk.1
  have htab := vx_table (x := yL_act) B (hts (Cond.codeWith yL_act cL_act 6 (some .int) [(0, 217, 218, 79), (0, 217, 223, 15), (0, 217, 228, 18)]) (List.mem_of_getElem? (i := 0) rfl))
  have hD : va_D (va_A (ob_wX ax ao al am ac ++ ob_wC t ac cn st Wt) sz) (ob_wX ax ao al am ac ++ ob_wC t ac cn st Wt) := hD0.self (sz := sz)
  have hA : ∀ q : Nat, s.heap.size ≤ q → (va_A (ob_wX ax ao al am ac ++ ob_wC t ac cn st Wt) sz) q := fun q h => Or.inr (hsz ▸ h)
  have hS : va_S (va_A (ob_wX ax ao al am ac ++ ob_wC t ac cn st Wt) sz) s.heap s.heap [] := va_S.rf
  have hl := lv_entry [.ref ax, .int (nI 9), .int y1, .int y2, .int y3] (n := 6) (Nat.le_of_ble_eq_true rfl)
  rw [lg_entry_eq]
  generalize (lg_sl [.ref ax, .int (nI 9), .int y1, .int y2, .int y3] ++ List.replicate (6 - (lg_sl [.ref ax, .int (nI 9), .int y1, .int y2, .int y3]).length) Slot.unset).toArray = ls at hl ⊢
  have hl : lv_has ls 6 [(0, .ref ax), (1, .int (nI 9)), (2, .int y1), (3, .int y2), (4, .int y3)] := hl
  have hP : va_P D vwCl (ob_wX ax ao al am ac ++ ob_wC t ac cn st Wt) s.heap := hP
  refine lv_iload_n hx hb dL_act_0 rfl (lv_at hl 1 rfl) ?_
  refine lv_if_ne (tgt := 24) hx hb dL_act_1 (by decide) (fun _ => ?_) (fun c9 => absurd c9 (by decide))
  refine lv_iload_n hx hb dL_act_24 rfl (lv_at hl 1 rfl) ?_
  refine lv_iconst (v := nI 1) hx hb dL_act_25 (by decide) ?_
  refine lv_icmp_ne (tgt := 40) hx hb dL_act_26 (by decide) (fun _ => ?_) (fun c9 => absurd c9 (by decide))
  refine lv_iload_n hx hb dL_act_40 rfl (lv_at hl 1 rfl) ?_
  refine lv_iconst (v := nI 2) hx hb dL_act_41 (by decide) ?_
  refine lv_icmp_ne (tgt := 71) hx hb dL_act_42 (by decide) (fun _ => ?_) (fun c9 => absurd c9 (by decide))
  refine lv_iload_n hx hb dL_act_71 rfl (lv_at hl 1 rfl) ?_
  refine lv_iconst (v := nI 3) hx hb dL_act_72 (by decide) ?_
  refine lv_icmp_ne (tgt := 93) hx hb dL_act_73 (by decide) (fun _ => ?_) (fun c9 => absurd c9 (by decide))
  refine lv_iload_n hx hb dL_act_93 rfl (lv_at hl 1 rfl) ?_
  refine lv_iconst (v := nI 4) hx hb dL_act_94 (by decide) ?_
  refine lv_icmp_ne (tgt := 106) hx hb dL_act_95 (by decide) (fun _ => ?_) (fun c9 => absurd c9 (by decide))
  refine lv_iload_n hx hb dL_act_106 rfl (lv_at hl 1 rfl) ?_
  refine lv_iconst (v := nI 5) hx hb dL_act_107 (by decide) ?_
  refine lv_icmp_ne (tgt := 127) hx hb dL_act_108 (by decide) (fun _ => ?_) (fun c9 => absurd c9 (by decide))
  refine lv_iload_n hx hb dL_act_127 rfl (lv_at hl 1 rfl) ?_
  refine lv_bipush (v := nI 6) hx hb dL_act_128 (by decide) ?_
  refine lv_icmp_ne (tgt := 141) hx hb dL_act_130 (by decide) (fun _ => ?_) (fun c9 => absurd c9 (by decide))
  refine lv_iload_n hx hb dL_act_141 rfl (lv_at hl 1 rfl) ?_
  refine lv_bipush (v := nI 7) hx hb dL_act_142 (by decide) ?_
  refine lv_icmp_ne (tgt := 155) hx hb dL_act_144 (by decide) (fun _ => ?_) (fun c9 => absurd c9 (by decide))
  refine lv_iload_n hx hb dL_act_155 rfl (lv_at hl 1 rfl) ?_
  refine lv_bipush (v := nI 8) hx hb dL_act_156 (by decide) ?_
  refine lv_icmp_ne (tgt := 169) hx hb dL_act_158 (by decide) (fun _ => ?_) (fun c9 => absurd c9 (by decide))
  refine lv_iload_n hx hb dL_act_169 rfl (lv_at hl 1 rfl) ?_
  refine lv_bipush (v := nI 9) hx hb dL_act_170 (by decide) ?_
  refine lv_icmp_ne (tgt := 183) hx hb dL_act_172 (by decide) (fun c9 => absurd c9 (by decide)) (fun _ => ?_)
  refine lv_aload_n hx hb dL_act_175 rfl (lv_at hl 0 rfl) ?_
  refine lv_iload_n hx hb dL_act_176 rfl (lv_at hl 2 rfl) ?_
  have hFc := va_free (wc := ob_wX ax ao al am ac ++ ob_wC t ac cn st Wt) hD hS hA [0, 1, 2, 3, 4, 5, 6, 7, 8, 9, 10, 11, 12, 13, 14, 15, 16, 17, 18] rfl
  refine vx_calli (vx_runV (As := [.int y1]) (rest := []) ⟨hx, hb, hml, hown, hts⟩ (c_X4_mainReason l hl9 sa D t s.heap.size ax ao al am ac cn st Wt y1 hcn) (cwV 1 hts gL_act_X4_mainReason rfl rfl rfl (by decide +kernel) ⟨Nat.le_of_ble_eq_true rfl, Nat.le_of_ble_eq_true rfl⟩) (ob_pxV (ci := 4) (q0 := 0) hP hD hk hE rfl rfl) rfl rfl hl.1 rfl (lv_room (Nat.le_of_ble_eq_true rfl)) dL_act_177 ⟨Nat.le_of_ble_eq_true rfl, Nat.le_of_ble_eq_true rfl⟩) hS (fun q _ h => hFc q h) hFc (fun _ _ h => h.elim) (fun E9 ce9 q9 u9 t9 H1 locs ht hvm hpx hBX hz1 hk1 hS hce hcv hcl => ?_) (fun r9 u9 t9 H1 locs ht hvm hw9 hB hz1 hk1 hS => ?_)
  · obtain ⟨i9, hz9, hi9⟩ := hBX
    obtain rfl : i9 = 0 := Nat.succ.inj (hz9.symm.trans hz)
    cases hi9
    have hP := hP.kept (fun k q h => hk1 q.1 (hP k q h).lt id)
    refine vx_catch (own := RL) (name := "java/lang/IndexOutOfBoundsException") hown [] ⟨0, 217, 218, 79⟩ [⟨0, 217, 223, 15⟩, ⟨0, 217, 228, 18⟩] (by rw [htab]; rfl) (fun z h => absurd h List.not_mem_nil) rfl (by decide) (hts (Cond.classLink RL 79 "java/lang/IndexOutOfBoundsException") (List.mem_of_getElem? (i := 1) rfl)) (va_Nw.use rfl hE.2.2.2.2.1) hce hcv hcl ?_
    refine lv_astore (lv' := [(5, .ref q9), (0, .ref ax), (1, .int (nI 9)), (2, .int y1), (3, .int y2), (4, .int y3)]) hx hb dL_act_218 hl (by decide) rfl (fun ls hl => ?_)
    refine lv_ldc (v := (-3000001)) hx hb hown (hts (Cond.constant RL 81 (-3000001)) (List.mem_of_getElem? (i := 4) rfl)) dL_act_220 ?_
    exact vx_ret (W.iret (v := (-3000001)) hx hb hr (fun t9 ht hW => ⟨⟨(-3000001), (), rfl, rfl, ob_th ht hP⟩, hS.F ht⟩) hS.2.2 dL_act_222)
  · exact absurd (hw9.1.symm.trans hz) (by decide)

set_option maxRecDepth 100000 in
set_option maxHeartbeats 8000000 in
theorem y_act10_no0 (l : Launch) (hl9 : l.stackTraces = false) (sa : Nat → Nat) (D : va_G) (t : Nat → ClassId) (sz : Nat) (ax : Nat) (ao al am ac : Nat → Nat) (M : Nat → Nat → Int32) (n : Nat) (cl rd sv pb ba bf od : Nat → Int32) (bg : Nat → Int64)  (y1 y2 y3 : Int32) (hz : (ob_z1 (ob_wi y1 (nI 0) (nI 4) && ob_wi y2 (nI 0) (nI 4))) = 1) : vx_Met l yL_act wsL_act ({ frames := 7, cells := 1, slots := 6, locals := 104 } : Room) (ob_PY D t (ob_wX ax ao al am ac ++ ob_wO t ao M ++ ob_wL t al n cl rd sv pb ba bf od bg) sz sa [.ref ax, .int (nI 10), .int y1, .int y2, .int y3]) (va_Qi (fun (r : Int32) (_ : Unit) => r = (-3000002)) (fun (_ : Unit) (t9 : State) => va_P D vwCl (ob_wX ax ao al am ac ++ ob_wO t ao M ++ ob_wL t al n cl rd sv pb ba bf od bg) t9.heap) (va_A (ob_wX ax ao al am ac ++ ob_wO t ao M ++ ob_wL t al n cl rd sv pb ba bf od bg) sz)) (fun _ _ _ => False) 1 6 (va_A (ob_wX ax ao al am ac ++ ob_wO t ao M ++ ob_wL t al n cl rd sv pb ba bf od bg) sz) := by
  refine vx_ofWH (cc := cL_act) (maxL := 6) (ret := (some .int)) (hh := [(0, 217, 218, 79), (0, 217, 223, 15), (0, 217, 228, 18)]) (by decide) rfl ?_
  intro p e s m args below meth c s₁ B hml hv
  obtain ⟨rfl, hsz, hP, hk, hD0, hE9, hN⟩ := hv
  have hE := hE9.2.2
  have hx := B.exec
  have hb := B.bytes
  have hr := B.returns
  have hts := atoms_spec (ws := wsL_act) B.pre
  have hown : s.vm.findClass RL = some m.cls := findClass_of_methodNamed B.named
  have hlocks := B.notSynchronized
  have hK := hk.1
  have htab := vx_table (x := yL_act) B (hts (Cond.codeWith yL_act cL_act 6 (some .int) [(0, 217, 218, 79), (0, 217, 223, 15), (0, 217, 228, 18)]) (List.mem_of_getElem? (i := 0) rfl))
  have hD : va_D (va_A (ob_wX ax ao al am ac ++ ob_wO t ao M ++ ob_wL t al n cl rd sv pb ba bf od bg) sz) (ob_wX ax ao al am ac ++ ob_wO t ao M ++ ob_wL t al n cl rd sv pb ba bf od bg) := hD0.self (sz := sz)
  have hA : ∀ q : Nat, s.heap.size ≤ q → (va_A (ob_wX ax ao al am ac ++ ob_wO t ao M ++ ob_wL t al n cl rd sv pb ba bf od bg) sz) q := fun q h => Or.inr (hsz ▸ h)
  have hS : va_S (va_A (ob_wX ax ao al am ac ++ ob_wO t ao M ++ ob_wL t al n cl rd sv pb ba bf od bg) sz) s.heap s.heap [] := va_S.rf
  have hl := lv_entry [.ref ax, .int (nI 10), .int y1, .int y2, .int y3] (n := 6) (Nat.le_of_ble_eq_true rfl)
  rw [lg_entry_eq]
  generalize (lg_sl [.ref ax, .int (nI 10), .int y1, .int y2, .int y3] ++ List.replicate (6 - (lg_sl [.ref ax, .int (nI 10), .int y1, .int y2, .int y3]).length) Slot.unset).toArray = ls at hl ⊢
  have hl : lv_has ls 6 [(0, .ref ax), (1, .int (nI 10)), (2, .int y1), (3, .int y2), (4, .int y3)] := hl
  have hP : va_P D vwCl (ob_wX ax ao al am ac ++ ob_wO t ao M ++ ob_wL t al n cl rd sv pb ba bf od bg) s.heap := hP
  refine lv_iload_n hx hb dL_act_0 rfl (lv_at hl 1 rfl) ?_
  refine lv_if_ne (tgt := 24) hx hb dL_act_1 (by decide) (fun _ => ?_) (fun c9 => absurd c9 (by decide))
  refine lv_iload_n hx hb dL_act_24 rfl (lv_at hl 1 rfl) ?_
  refine lv_iconst (v := nI 1) hx hb dL_act_25 (by decide) ?_
  refine lv_icmp_ne (tgt := 40) hx hb dL_act_26 (by decide) (fun _ => ?_) (fun c9 => absurd c9 (by decide))
  refine lv_iload_n hx hb dL_act_40 rfl (lv_at hl 1 rfl) ?_
  refine lv_iconst (v := nI 2) hx hb dL_act_41 (by decide) ?_
  refine lv_icmp_ne (tgt := 71) hx hb dL_act_42 (by decide) (fun _ => ?_) (fun c9 => absurd c9 (by decide))
  refine lv_iload_n hx hb dL_act_71 rfl (lv_at hl 1 rfl) ?_
  refine lv_iconst (v := nI 3) hx hb dL_act_72 (by decide) ?_
  refine lv_icmp_ne (tgt := 93) hx hb dL_act_73 (by decide) (fun _ => ?_) (fun c9 => absurd c9 (by decide))
  refine lv_iload_n hx hb dL_act_93 rfl (lv_at hl 1 rfl) ?_
  refine lv_iconst (v := nI 4) hx hb dL_act_94 (by decide) ?_
  refine lv_icmp_ne (tgt := 106) hx hb dL_act_95 (by decide) (fun _ => ?_) (fun c9 => absurd c9 (by decide))
  refine lv_iload_n hx hb dL_act_106 rfl (lv_at hl 1 rfl) ?_
  refine lv_iconst (v := nI 5) hx hb dL_act_107 (by decide) ?_
  refine lv_icmp_ne (tgt := 127) hx hb dL_act_108 (by decide) (fun _ => ?_) (fun c9 => absurd c9 (by decide))
  refine lv_iload_n hx hb dL_act_127 rfl (lv_at hl 1 rfl) ?_
  refine lv_bipush (v := nI 6) hx hb dL_act_128 (by decide) ?_
  refine lv_icmp_ne (tgt := 141) hx hb dL_act_130 (by decide) (fun _ => ?_) (fun c9 => absurd c9 (by decide))
  refine lv_iload_n hx hb dL_act_141 rfl (lv_at hl 1 rfl) ?_
  refine lv_bipush (v := nI 7) hx hb dL_act_142 (by decide) ?_
  refine lv_icmp_ne (tgt := 155) hx hb dL_act_144 (by decide) (fun _ => ?_) (fun c9 => absurd c9 (by decide))
  refine lv_iload_n hx hb dL_act_155 rfl (lv_at hl 1 rfl) ?_
  refine lv_bipush (v := nI 8) hx hb dL_act_156 (by decide) ?_
  refine lv_icmp_ne (tgt := 169) hx hb dL_act_158 (by decide) (fun _ => ?_) (fun c9 => absurd c9 (by decide))
  refine lv_iload_n hx hb dL_act_169 rfl (lv_at hl 1 rfl) ?_
  refine lv_bipush (v := nI 9) hx hb dL_act_170 (by decide) ?_
  refine lv_icmp_ne (tgt := 183) hx hb dL_act_172 (by decide) (fun _ => ?_) (fun c9 => absurd c9 (by decide))
  refine lv_iload_n hx hb dL_act_183 rfl (lv_at hl 1 rfl) ?_
  refine lv_bipush (v := nI 10) hx hb dL_act_184 (by decide) ?_
  refine lv_icmp_ne (tgt := 198) hx hb dL_act_186 (by decide) (fun c9 => absurd c9 (by decide)) (fun _ => ?_)
  refine lv_aload_n hx hb dL_act_189 rfl (lv_at hl 0 rfl) ?_
  refine lv_iload_n hx hb dL_act_190 rfl (lv_at hl 2 rfl) ?_
  refine lv_iload_n hx hb dL_act_191 rfl (lv_at hl 3 rfl) ?_
  have hFc := va_free (wc := ob_wX ax ao al am ac ++ ob_wO t ao M ++ ob_wL t al n cl rd sv pb ba bf od bg) hD hS hA [0, 1, 2, 3, 4, 5, 6, 7, 8, 9, 10, 11, 12, 13, 14, 15, 16] rfl
  refine vx_calli (vx_runV (As := [.int y1, .int y2]) (rest := []) ⟨hx, hb, hml, hown, hts⟩ (c_X4_greatest l hl9 sa D t s.heap.size ax ao al am ac M n cl rd sv pb ba bf od bg y1 y2) (cwV 2 hts gL_act_X4_greatest rfl rfl rfl (by decide +kernel) ⟨Nat.le_of_ble_eq_true rfl, Nat.le_of_ble_eq_true rfl⟩) (ob_pxV (ci := 4) (q0 := 0) hP hD hk hE rfl rfl) rfl rfl hl.1 rfl (lv_room (Nat.le_of_ble_eq_true rfl)) dL_act_192 ⟨Nat.le_of_ble_eq_true rfl, Nat.le_of_ble_eq_true rfl⟩) hS (fun q _ h => hFc q h) hFc (fun _ _ h => h.elim) (fun E9 ce9 q9 u9 t9 H1 locs ht hvm hpx hBX hz1 hk1 hS hce hcv hcl => ?_) (fun r9 u9 t9 H1 locs ht hvm hw9 hB hz1 hk1 hS => ?_)
  · obtain ⟨i9, hz9, hi9⟩ := hBX
    obtain rfl : i9 = 0 := Nat.succ.inj (hz9.symm.trans hz)
    cases hi9
    have hP := hP.kept (fun k q h => hk1 q.1 (hP k q h).lt id)
    refine vx_catch (own := RL) (name := "java/lang/IllegalArgumentException") hown [⟨0, 217, 218, 79⟩] ⟨0, 217, 223, 15⟩ [⟨0, 217, 228, 18⟩] (by rw [htab]; rfl) (List.forall_mem_cons.mpr ⟨Or.inr ⟨(by decide), "java/lang/IndexOutOfBoundsException", (hts (Cond.classLink RL 79 "java/lang/IndexOutOfBoundsException") (List.mem_of_getElem? (i := 1) rfl)), hN.2.1⟩, (fun z h => absurd h List.not_mem_nil)⟩) rfl (by decide) (hts (Cond.classLink RL 15 "java/lang/IllegalArgumentException") (List.mem_of_getElem? (i := 2) rfl)) (va_Nw.use rfl hE.2.2.1) hce hcv hcl ?_
    refine lv_astore (lv' := [(5, .ref q9), (0, .ref ax), (1, .int (nI 10)), (2, .int y1), (3, .int y2), (4, .int y3)]) hx hb dL_act_223 hl (by decide) rfl (fun ls hl => ?_)
    refine lv_ldc (v := (-3000002)) hx hb hown (hts (Cond.constant RL 17 (-3000002)) (List.mem_of_getElem? (i := 5) rfl)) dL_act_225 ?_
    exact vx_ret (W.iret (v := (-3000002)) hx hb hr (fun t9 ht hW => ⟨⟨(-3000002), (), rfl, rfl, ob_th ht hP⟩, hS.F ht⟩) hS.2.2 dL_act_227)
  · exact absurd (hw9.1.symm.trans hz) (by decide)

set_option maxRecDepth 100000 in
set_option maxHeartbeats 8000000 in
theorem y_act11_no0 (l : Launch) (hl9 : l.stackTraces = false) (sa : Nat → Nat) (D : va_G) (t : Nat → ClassId) (sz : Nat) (ax : Nat) (ao al am ac : Nat → Nat) (n : Nat) (cl rd sv pb ba bf od : Nat → Int32) (bg : Nat → Int64)  (y1 y2 y3 : Int32) (hn : n ≤ 30) (hz : (ob_z1 (ob_wi y1 (nI 0) (nI 5))) = 1) : vx_Met l yL_act wsL_act ({ frames := 7, cells := 1, slots := 6, locals := 103 } : Room) (ob_PY D t (ob_wX ax ao al am ac ++ ob_wL t al n cl rd sv pb ba bf od bg) sz sa [.ref ax, .int (nI 11), .int y1, .int y2, .int y3]) (va_Qi (fun (r : Int32) (_ : Unit) => r = (-3000002)) (fun (_ : Unit) (t9 : State) => va_P D vwCl (ob_wX ax ao al am ac ++ ob_wL t al n cl rd sv pb ba bf od bg) t9.heap) (va_A (ob_wX ax ao al am ac ++ ob_wL t al n cl rd sv pb ba bf od bg) sz)) (fun _ _ _ => False) 1 6 (va_A (ob_wX ax ao al am ac ++ ob_wL t al n cl rd sv pb ba bf od bg) sz) := by
  refine vx_ofWH (cc := cL_act) (maxL := 6) (ret := (some .int)) (hh := [(0, 217, 218, 79), (0, 217, 223, 15), (0, 217, 228, 18)]) (by decide) rfl ?_
  intro p e s m args below meth c s₁ B hml hv
  obtain ⟨rfl, hsz, hP, hk, hD0, hE9, hN⟩ := hv
  have hE := hE9.2.2
  have hx := B.exec
  have hb := B.bytes
  have hr := B.returns
  have hts := atoms_spec (ws := wsL_act) B.pre
  have hown : s.vm.findClass RL = some m.cls := findClass_of_methodNamed B.named
  have hlocks := B.notSynchronized
  have hK := hk.1
  have htab := vx_table (x := yL_act) B (hts (Cond.codeWith yL_act cL_act 6 (some .int) [(0, 217, 218, 79), (0, 217, 223, 15), (0, 217, 228, 18)]) (List.mem_of_getElem? (i := 0) rfl))
  have hD : va_D (va_A (ob_wX ax ao al am ac ++ ob_wL t al n cl rd sv pb ba bf od bg) sz) (ob_wX ax ao al am ac ++ ob_wL t al n cl rd sv pb ba bf od bg) := hD0.self (sz := sz)
  have hA : ∀ q : Nat, s.heap.size ≤ q → (va_A (ob_wX ax ao al am ac ++ ob_wL t al n cl rd sv pb ba bf od bg) sz) q := fun q h => Or.inr (hsz ▸ h)
  have hS : va_S (va_A (ob_wX ax ao al am ac ++ ob_wL t al n cl rd sv pb ba bf od bg) sz) s.heap s.heap [] := va_S.rf
  have hl := lv_entry [.ref ax, .int (nI 11), .int y1, .int y2, .int y3] (n := 6) (Nat.le_of_ble_eq_true rfl)
  rw [lg_entry_eq]
  generalize (lg_sl [.ref ax, .int (nI 11), .int y1, .int y2, .int y3] ++ List.replicate (6 - (lg_sl [.ref ax, .int (nI 11), .int y1, .int y2, .int y3]).length) Slot.unset).toArray = ls at hl ⊢
  have hl : lv_has ls 6 [(0, .ref ax), (1, .int (nI 11)), (2, .int y1), (3, .int y2), (4, .int y3)] := hl
  have hP : va_P D vwCl (ob_wX ax ao al am ac ++ ob_wL t al n cl rd sv pb ba bf od bg) s.heap := hP
  refine lv_iload_n hx hb dL_act_0 rfl (lv_at hl 1 rfl) ?_
  refine lv_if_ne (tgt := 24) hx hb dL_act_1 (by decide) (fun _ => ?_) (fun c9 => absurd c9 (by decide))
  refine lv_iload_n hx hb dL_act_24 rfl (lv_at hl 1 rfl) ?_
  refine lv_iconst (v := nI 1) hx hb dL_act_25 (by decide) ?_
  refine lv_icmp_ne (tgt := 40) hx hb dL_act_26 (by decide) (fun _ => ?_) (fun c9 => absurd c9 (by decide))
  refine lv_iload_n hx hb dL_act_40 rfl (lv_at hl 1 rfl) ?_
  refine lv_iconst (v := nI 2) hx hb dL_act_41 (by decide) ?_
  refine lv_icmp_ne (tgt := 71) hx hb dL_act_42 (by decide) (fun _ => ?_) (fun c9 => absurd c9 (by decide))
  refine lv_iload_n hx hb dL_act_71 rfl (lv_at hl 1 rfl) ?_
  refine lv_iconst (v := nI 3) hx hb dL_act_72 (by decide) ?_
  refine lv_icmp_ne (tgt := 93) hx hb dL_act_73 (by decide) (fun _ => ?_) (fun c9 => absurd c9 (by decide))
  refine lv_iload_n hx hb dL_act_93 rfl (lv_at hl 1 rfl) ?_
  refine lv_iconst (v := nI 4) hx hb dL_act_94 (by decide) ?_
  refine lv_icmp_ne (tgt := 106) hx hb dL_act_95 (by decide) (fun _ => ?_) (fun c9 => absurd c9 (by decide))
  refine lv_iload_n hx hb dL_act_106 rfl (lv_at hl 1 rfl) ?_
  refine lv_iconst (v := nI 5) hx hb dL_act_107 (by decide) ?_
  refine lv_icmp_ne (tgt := 127) hx hb dL_act_108 (by decide) (fun _ => ?_) (fun c9 => absurd c9 (by decide))
  refine lv_iload_n hx hb dL_act_127 rfl (lv_at hl 1 rfl) ?_
  refine lv_bipush (v := nI 6) hx hb dL_act_128 (by decide) ?_
  refine lv_icmp_ne (tgt := 141) hx hb dL_act_130 (by decide) (fun _ => ?_) (fun c9 => absurd c9 (by decide))
  refine lv_iload_n hx hb dL_act_141 rfl (lv_at hl 1 rfl) ?_
  refine lv_bipush (v := nI 7) hx hb dL_act_142 (by decide) ?_
  refine lv_icmp_ne (tgt := 155) hx hb dL_act_144 (by decide) (fun _ => ?_) (fun c9 => absurd c9 (by decide))
  refine lv_iload_n hx hb dL_act_155 rfl (lv_at hl 1 rfl) ?_
  refine lv_bipush (v := nI 8) hx hb dL_act_156 (by decide) ?_
  refine lv_icmp_ne (tgt := 169) hx hb dL_act_158 (by decide) (fun _ => ?_) (fun c9 => absurd c9 (by decide))
  refine lv_iload_n hx hb dL_act_169 rfl (lv_at hl 1 rfl) ?_
  refine lv_bipush (v := nI 9) hx hb dL_act_170 (by decide) ?_
  refine lv_icmp_ne (tgt := 183) hx hb dL_act_172 (by decide) (fun _ => ?_) (fun c9 => absurd c9 (by decide))
  refine lv_iload_n hx hb dL_act_183 rfl (lv_at hl 1 rfl) ?_
  refine lv_bipush (v := nI 10) hx hb dL_act_184 (by decide) ?_
  refine lv_icmp_ne (tgt := 198) hx hb dL_act_186 (by decide) (fun _ => ?_) (fun c9 => absurd c9 (by decide))
  refine lv_iload_n hx hb dL_act_198 rfl (lv_at hl 1 rfl) ?_
  refine lv_bipush (v := nI 11) hx hb dL_act_199 (by decide) ?_
  refine lv_icmp_ne (tgt := 212) hx hb dL_act_201 (by decide) (fun c9 => absurd c9 (by decide)) (fun _ => ?_)
  refine lv_aload_n hx hb dL_act_204 rfl (lv_at hl 0 rfl) ?_
  refine lv_iload_n hx hb dL_act_205 rfl (lv_at hl 2 rfl) ?_
  have hFc := va_free (wc := ob_wX ax ao al am ac ++ ob_wL t al n cl rd sv pb ba bf od bg) hD hS hA [0, 1, 2, 3, 4, 5, 6, 7, 8, 9] rfl
  refine vx_calli (vx_runV (As := [.int y1]) (rest := []) ⟨hx, hb, hml, hown, hts⟩ (c_X4_firstOf l hl9 sa D t s.heap.size ax ao al am ac n cl rd sv pb ba bf od bg y1 hn) (cwV 1 hts gL_act_X4_firstOf rfl rfl rfl (by decide +kernel) ⟨Nat.le_of_ble_eq_true rfl, Nat.le_of_ble_eq_true rfl⟩) (ob_pxV (ci := 4) (q0 := 0) hP hD hk hE rfl rfl) rfl rfl hl.1 rfl (lv_room (Nat.le_of_ble_eq_true rfl)) dL_act_206 ⟨Nat.le_of_ble_eq_true rfl, Nat.le_of_ble_eq_true rfl⟩) hS (fun q _ h => hFc q h) hFc (fun _ _ h => h.elim) (fun E9 ce9 q9 u9 t9 H1 locs ht hvm hpx hBX hz1 hk1 hS hce hcv hcl => ?_) (fun r9 u9 t9 H1 locs ht hvm hw9 hB hz1 hk1 hS => ?_)
  · obtain ⟨i9, hz9, hi9⟩ := hBX
    obtain rfl : i9 = 0 := Nat.succ.inj (hz9.symm.trans hz)
    cases hi9
    have hP := hP.kept (fun k q h => hk1 q.1 (hP k q h).lt id)
    refine vx_catch (own := RL) (name := "java/lang/IllegalArgumentException") hown [⟨0, 217, 218, 79⟩] ⟨0, 217, 223, 15⟩ [⟨0, 217, 228, 18⟩] (by rw [htab]; rfl) (List.forall_mem_cons.mpr ⟨Or.inr ⟨(by decide), "java/lang/IndexOutOfBoundsException", (hts (Cond.classLink RL 79 "java/lang/IndexOutOfBoundsException") (List.mem_of_getElem? (i := 1) rfl)), hN.2.1⟩, (fun z h => absurd h List.not_mem_nil)⟩) rfl (by decide) (hts (Cond.classLink RL 15 "java/lang/IllegalArgumentException") (List.mem_of_getElem? (i := 2) rfl)) (va_Nw.use rfl hE.2.2.1) hce hcv hcl ?_
    refine lv_astore (lv' := [(5, .ref q9), (0, .ref ax), (1, .int (nI 11)), (2, .int y1), (3, .int y2), (4, .int y3)]) hx hb dL_act_223 hl (by decide) rfl (fun ls hl => ?_)
    refine lv_ldc (v := (-3000002)) hx hb hown (hts (Cond.constant RL 17 (-3000002)) (List.mem_of_getElem? (i := 5) rfl)) dL_act_225 ?_
    exact vx_ret (W.iret (v := (-3000002)) hx hb hr (fun t9 ht hW => ⟨⟨(-3000002), (), rfl, rfl, ob_th ht hP⟩, hS.F ht⟩) hS.2.2 dL_act_227)
  · exact absurd (hw9.1.symm.trans hz) (by decide)

set_option maxRecDepth 100000 in
set_option maxHeartbeats 8000000 in
theorem y_act12_no0 (l : Launch) (hl9 : l.stackTraces = false) (sa : Nat → Nat) (D : va_G) (t : Nat → ClassId) (sz : Nat) (ax : Nat) (ao al am ac : Nat → Nat) (mn : Nat) (ms mf mt mp : Nat → Int32)  (y1 y2 y3 : Int32) (hmn : mn ≤ 40) (hz : (ob_z1 (ob_wi y1 (nI 0) (nI 5))) = 1) : vx_Met l yL_act wsL_act ({ frames := 7, cells := 1, slots := 6, locals := 103 } : Room) (ob_PY D t (ob_wX ax ao al am ac ++ ob_wM t am mn ms mf mt mp) sz sa [.ref ax, .int (nI 12), .int y1, .int y2, .int y3]) (va_Qi (fun (r : Int32) (_ : Unit) => r = (-3000002)) (fun (_ : Unit) (t9 : State) => va_P D vwCl (ob_wX ax ao al am ac ++ ob_wM t am mn ms mf mt mp) t9.heap) (va_A (ob_wX ax ao al am ac ++ ob_wM t am mn ms mf mt mp) sz)) (fun _ _ _ => False) 1 6 (va_A (ob_wX ax ao al am ac ++ ob_wM t am mn ms mf mt mp) sz) := by
  refine vx_ofWH (cc := cL_act) (maxL := 6) (ret := (some .int)) (hh := [(0, 217, 218, 79), (0, 217, 223, 15), (0, 217, 228, 18)]) (by decide) rfl ?_
  intro p e s m args below meth c s₁ B hml hv
  obtain ⟨rfl, hsz, hP, hk, hD0, hE9, hN⟩ := hv
  have hE := hE9.2.2
  have hx := B.exec
  have hb := B.bytes
  have hr := B.returns
  have hts := atoms_spec (ws := wsL_act) B.pre
  have hown : s.vm.findClass RL = some m.cls := findClass_of_methodNamed B.named
  have hlocks := B.notSynchronized
  have hK := hk.1
  have htab := vx_table (x := yL_act) B (hts (Cond.codeWith yL_act cL_act 6 (some .int) [(0, 217, 218, 79), (0, 217, 223, 15), (0, 217, 228, 18)]) (List.mem_of_getElem? (i := 0) rfl))
  have hD : va_D (va_A (ob_wX ax ao al am ac ++ ob_wM t am mn ms mf mt mp) sz) (ob_wX ax ao al am ac ++ ob_wM t am mn ms mf mt mp) := hD0.self (sz := sz)
  have hA : ∀ q : Nat, s.heap.size ≤ q → (va_A (ob_wX ax ao al am ac ++ ob_wM t am mn ms mf mt mp) sz) q := fun q h => Or.inr (hsz ▸ h)
  have hS : va_S (va_A (ob_wX ax ao al am ac ++ ob_wM t am mn ms mf mt mp) sz) s.heap s.heap [] := va_S.rf
  have hl := lv_entry [.ref ax, .int (nI 12), .int y1, .int y2, .int y3] (n := 6) (Nat.le_of_ble_eq_true rfl)
  rw [lg_entry_eq]
  generalize (lg_sl [.ref ax, .int (nI 12), .int y1, .int y2, .int y3] ++ List.replicate (6 - (lg_sl [.ref ax, .int (nI 12), .int y1, .int y2, .int y3]).length) Slot.unset).toArray = ls at hl ⊢
  have hl : lv_has ls 6 [(0, .ref ax), (1, .int (nI 12)), (2, .int y1), (3, .int y2), (4, .int y3)] := hl
  have hP : va_P D vwCl (ob_wX ax ao al am ac ++ ob_wM t am mn ms mf mt mp) s.heap := hP
  refine lv_iload_n hx hb dL_act_0 rfl (lv_at hl 1 rfl) ?_
  refine lv_if_ne (tgt := 24) hx hb dL_act_1 (by decide) (fun _ => ?_) (fun c9 => absurd c9 (by decide))
  refine lv_iload_n hx hb dL_act_24 rfl (lv_at hl 1 rfl) ?_
  refine lv_iconst (v := nI 1) hx hb dL_act_25 (by decide) ?_
  refine lv_icmp_ne (tgt := 40) hx hb dL_act_26 (by decide) (fun _ => ?_) (fun c9 => absurd c9 (by decide))
  refine lv_iload_n hx hb dL_act_40 rfl (lv_at hl 1 rfl) ?_
  refine lv_iconst (v := nI 2) hx hb dL_act_41 (by decide) ?_
  refine lv_icmp_ne (tgt := 71) hx hb dL_act_42 (by decide) (fun _ => ?_) (fun c9 => absurd c9 (by decide))
  refine lv_iload_n hx hb dL_act_71 rfl (lv_at hl 1 rfl) ?_
  refine lv_iconst (v := nI 3) hx hb dL_act_72 (by decide) ?_
  refine lv_icmp_ne (tgt := 93) hx hb dL_act_73 (by decide) (fun _ => ?_) (fun c9 => absurd c9 (by decide))
  refine lv_iload_n hx hb dL_act_93 rfl (lv_at hl 1 rfl) ?_
  refine lv_iconst (v := nI 4) hx hb dL_act_94 (by decide) ?_
  refine lv_icmp_ne (tgt := 106) hx hb dL_act_95 (by decide) (fun _ => ?_) (fun c9 => absurd c9 (by decide))
  refine lv_iload_n hx hb dL_act_106 rfl (lv_at hl 1 rfl) ?_
  refine lv_iconst (v := nI 5) hx hb dL_act_107 (by decide) ?_
  refine lv_icmp_ne (tgt := 127) hx hb dL_act_108 (by decide) (fun _ => ?_) (fun c9 => absurd c9 (by decide))
  refine lv_iload_n hx hb dL_act_127 rfl (lv_at hl 1 rfl) ?_
  refine lv_bipush (v := nI 6) hx hb dL_act_128 (by decide) ?_
  refine lv_icmp_ne (tgt := 141) hx hb dL_act_130 (by decide) (fun _ => ?_) (fun c9 => absurd c9 (by decide))
  refine lv_iload_n hx hb dL_act_141 rfl (lv_at hl 1 rfl) ?_
  refine lv_bipush (v := nI 7) hx hb dL_act_142 (by decide) ?_
  refine lv_icmp_ne (tgt := 155) hx hb dL_act_144 (by decide) (fun _ => ?_) (fun c9 => absurd c9 (by decide))
  refine lv_iload_n hx hb dL_act_155 rfl (lv_at hl 1 rfl) ?_
  refine lv_bipush (v := nI 8) hx hb dL_act_156 (by decide) ?_
  refine lv_icmp_ne (tgt := 169) hx hb dL_act_158 (by decide) (fun _ => ?_) (fun c9 => absurd c9 (by decide))
  refine lv_iload_n hx hb dL_act_169 rfl (lv_at hl 1 rfl) ?_
  refine lv_bipush (v := nI 9) hx hb dL_act_170 (by decide) ?_
  refine lv_icmp_ne (tgt := 183) hx hb dL_act_172 (by decide) (fun _ => ?_) (fun c9 => absurd c9 (by decide))
  refine lv_iload_n hx hb dL_act_183 rfl (lv_at hl 1 rfl) ?_
  refine lv_bipush (v := nI 10) hx hb dL_act_184 (by decide) ?_
  refine lv_icmp_ne (tgt := 198) hx hb dL_act_186 (by decide) (fun _ => ?_) (fun c9 => absurd c9 (by decide))
  refine lv_iload_n hx hb dL_act_198 rfl (lv_at hl 1 rfl) ?_
  refine lv_bipush (v := nI 11) hx hb dL_act_199 (by decide) ?_
  refine lv_icmp_ne (tgt := 212) hx hb dL_act_201 (by decide) (fun _ => ?_) (fun c9 => absurd c9 (by decide))
  refine lv_aload_n hx hb dL_act_212 rfl (lv_at hl 0 rfl) ?_
  refine lv_iload_n hx hb dL_act_213 rfl (lv_at hl 2 rfl) ?_
  have hFc := va_free (wc := ob_wX ax ao al am ac ++ ob_wM t am mn ms mf mt mp) hD hS hA [0, 1, 2, 3, 4, 5] rfl
  refine vx_calli (vx_runV (As := [.int y1]) (rest := []) ⟨hx, hb, hml, hown, hts⟩ (c_X4_impact l hl9 sa D t s.heap.size ax ao al am ac mn ms mf mt mp y1 hmn) (cwV 1 hts gL_act_X4_impact rfl rfl rfl (by decide +kernel) ⟨Nat.le_of_ble_eq_true rfl, Nat.le_of_ble_eq_true rfl⟩) (ob_pxV (ci := 4) (q0 := 0) hP hD hk hE rfl rfl) rfl rfl hl.1 rfl (lv_room (Nat.le_of_ble_eq_true rfl)) dL_act_214 ⟨Nat.le_of_ble_eq_true rfl, Nat.le_of_ble_eq_true rfl⟩) hS (fun q _ h => hFc q h) hFc (fun _ _ h => h.elim) (fun E9 ce9 q9 u9 t9 H1 locs ht hvm hpx hBX hz1 hk1 hS hce hcv hcl => ?_) (fun r9 u9 t9 H1 locs ht hvm hw9 hB hz1 hk1 hS => ?_)
  · obtain ⟨i9, hz9, hi9⟩ := hBX
    obtain rfl : i9 = 0 := Nat.succ.inj (hz9.symm.trans hz)
    cases hi9
    have hP := hP.kept (fun k q h => hk1 q.1 (hP k q h).lt id)
    refine vx_catch (own := RL) (name := "java/lang/IllegalArgumentException") hown [⟨0, 217, 218, 79⟩] ⟨0, 217, 223, 15⟩ [⟨0, 217, 228, 18⟩] (by rw [htab]; rfl) (List.forall_mem_cons.mpr ⟨Or.inr ⟨(by decide), "java/lang/IndexOutOfBoundsException", (hts (Cond.classLink RL 79 "java/lang/IndexOutOfBoundsException") (List.mem_of_getElem? (i := 1) rfl)), hN.2.1⟩, (fun z h => absurd h List.not_mem_nil)⟩) rfl (by decide) (hts (Cond.classLink RL 15 "java/lang/IllegalArgumentException") (List.mem_of_getElem? (i := 2) rfl)) (va_Nw.use rfl hE.2.2.1) hce hcv hcl ?_
    refine lv_astore (lv' := [(5, .ref q9), (0, .ref ax), (1, .int (nI 12)), (2, .int y1), (3, .int y2), (4, .int y3)]) hx hb dL_act_223 hl (by decide) rfl (fun ls hl => ?_)
    refine lv_ldc (v := (-3000002)) hx hb hown (hts (Cond.constant RL 17 (-3000002)) (List.mem_of_getElem? (i := 5) rfl)) dL_act_225 ?_
    exact vx_ret (W.iret (v := (-3000002)) hx hb hr (fun t9 ht hW => ⟨⟨(-3000002), (), rfl, rfl, ob_th ht hP⟩, hS.F ht⟩) hS.2.2 dL_act_227)
  · exact absurd (hw9.1.symm.trans hz) (by decide)

set_option maxRecDepth 100000 in
set_option maxHeartbeats 8000000 in
theorem y_orders_ok (l : Launch) (hl9 : l.stackTraces = false) (sa : Nat → Nat) (D : va_G) (t : Nat → ClassId) (sz : Nat) (ax : Nat) (ao al am ac : Nat → Nat) (n : Nat) (cl rd sv pb ba bf od : Nat → Int32) (bg : Nat → Int64) (hn : n ≤ 30) (hz : (ob_z1 (decide (n ≤ 12))) = 0) : vx_Met l yL_orders wsL_orders ({ frames := 7, cells := 1, slots := 6, locals := 102 } : Room) (ob_PY D t (ob_wX ax ao al am ac ++ ob_wL t al n cl rd sv pb ba bf od bg) sz sa [.ref ax]) (va_Ql (fun (r : Int64) (_ : Unit) => r = ob_F bf n bg (2 ^ n) (2 ^ n - 1)) (fun (_ : Unit) (t9 : State) => va_P D vwCl (ob_wX ax ao al am ac ++ ob_wL t al n cl rd sv pb ba bf od (ob_F bf n bg (2 ^ n))) t9.heap) (va_A (ob_wX ax ao al am ac ++ ob_wL t al n cl rd sv pb ba bf od bg) sz)) (fun _ _ _ => False) 1 6 (va_A (ob_wX ax ao al am ac ++ ob_wL t al n cl rd sv pb ba bf od bg) sz) := by
  refine vx_ofWH (cc := cL_orders) (maxL := 2) (ret := (some .long)) (hh := [(0, 4, 5, 18)]) (by decide) rfl ?_
  intro p e s m args below meth c s₁ B hml hv
  obtain ⟨rfl, hsz, hP, hk, hD0, hE9, hN⟩ := hv
  have hE := hE9.2.2
  have hx := B.exec
  have hb := B.bytes
  have hr := B.returns
  have hts := atoms_spec (ws := wsL_orders) B.pre
  have hown : s.vm.findClass RL = some m.cls := findClass_of_methodNamed B.named
  have hlocks := B.notSynchronized
  have hK := hk.1
  have htab := vx_table (x := yL_orders) B (hts (Cond.codeWith yL_orders cL_orders 2 (some .long) [(0, 4, 5, 18)]) (List.mem_of_getElem? (i := 0) rfl))
  have hD : va_D (va_A (ob_wX ax ao al am ac ++ ob_wL t al n cl rd sv pb ba bf od bg) sz) (ob_wX ax ao al am ac ++ ob_wL t al n cl rd sv pb ba bf od bg) := hD0.self (sz := sz)
  have hA : ∀ q : Nat, s.heap.size ≤ q → (va_A (ob_wX ax ao al am ac ++ ob_wL t al n cl rd sv pb ba bf od bg) sz) q := fun q h => Or.inr (hsz ▸ h)
  have hS : va_S (va_A (ob_wX ax ao al am ac ++ ob_wL t al n cl rd sv pb ba bf od bg) sz) s.heap s.heap [] := va_S.rf
  have hl := lv_entry [.ref ax] (n := 2) (Nat.le_of_ble_eq_true rfl)
  rw [lg_entry_eq]
  generalize (lg_sl [.ref ax] ++ List.replicate (2 - (lg_sl [.ref ax]).length) Slot.unset).toArray = ls at hl ⊢
  have hl : lv_has ls 2 [(0, .ref ax)] := hl
  have hP : va_P D vwCl (ob_wX ax ao al am ac ++ ob_wL t al n cl rd sv pb ba bf od bg) s.heap := hP
  refine lv_aload_n hx hb dL_orders_0 rfl (lv_at hl 0 rfl) ?_
  have hFc := va_free (wc := ob_wX ax ao al am ac ++ ob_wL t al n cl rd sv pb ba bf od bg) hD hS hA [0, 1, 2, 3, 4, 5, 6, 7, 8, 9] rfl
  refine vx_calll (vx_runV (As := []) (rest := []) ⟨hx, hb, hml, hown, hts⟩ (c_X4_orders l hl9 sa D t s.heap.size ax ao al am ac n cl rd sv pb ba bf od bg hn) (cwV 0 hts gL_orders_X4_orders rfl rfl rfl (by decide +kernel) ⟨Nat.le_of_ble_eq_true rfl, Nat.le_of_ble_eq_true rfl⟩) (ob_pxV (ci := 4) (q0 := 0) hP hD hk hE rfl rfl) rfl rfl hl.1 rfl (lv_room (Nat.le_of_ble_eq_true rfl)) dL_orders_1 ⟨Nat.le_of_ble_eq_true rfl, Nat.le_of_ble_eq_true rfl⟩) hS (fun q _ h => hFc q h) hFc (fun _ _ h => h.elim) (fun E9 ce9 q9 u9 t9 H1 locs ht hvm hpx hBX hz1 hk1 hS hce hcv hcl => ?_) (fun r9 u9 t9 H1 locs ht hvm hw9 hB hz1 hk1 hS => ?_)
  · obtain ⟨i9, hz9, -⟩ := hBX
    exact absurd (hz9.symm.trans hz) (Nat.succ_ne_zero _)
  · rw [ht] at hB
    obtain ⟨-, hp9⟩ := hw9
    have hP := ob_jn (ws' := ob_wX ax ao al am ac ++ ob_wL t al n cl rd sv pb ba bf od (ob_F bf n bg (2 ^ n))) hP hD [some 0, some 1, some 2, some 3, some 4, some 5, some 6, some 7, some 8, some 9] [0, 1, 2, 3, 4, 5, 6, 7, 8, 9] rfl rfl hk1 hB rfl
    generalize H1 = H at hP hS ⊢
    exact vx_ret (W.lret (v := r9) hx hb hr (fun t9 ht hW => ⟨⟨r9, (), rfl, hp9, ob_th ht hP⟩, hS.F ht⟩) hS.2.2 dL_orders_4)
