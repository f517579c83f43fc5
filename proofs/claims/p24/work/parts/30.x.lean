set_option maxRecDepth 100000 in
set_option maxHeartbeats 4000000 in
theorem c_X1_earliestTime (l : Launch) (D : va_G) (t : Nat → ClassId) (al : Nat → Nat) (n : Nat) (cl rd sv pb ba bf od : Nat → Int32) (bg : Nat → Int64) (ao : Nat → Nat) (M : Nat → Nat → Int32) (x : Int32) (hn : n ≤ 30) : Met l yX1_earliestTime wsX1_earliestTime ({ frames := 3, cells := 0, slots := 0, locals := 64 } : Room) (ob_Pp D t (ob_wL t al n cl rd sv pb ba bf od bg ++ ob_wO t ao M) [.ref (al 0), .int x, .ref (ao 0)]) (vp_Si (fun r : Int32 => r = ob_et n M cl rd x)) 0 0 (fun _ => False) := by
  refine Met.ofW (cc := cX1_earliestTime) (maxL := 4) (ret := (some .int)) (by decide) rfl ?_
  intro p e s m args below meth c s₁ B hml hv
  obtain ⟨rfl, hP, hk⟩ := hv
  have hx := B.exec
  have hb := B.bytes
  have hr := B.returns
  have hts := atoms_spec (ws := wsX1_earliestTime) B.pre
  have hown : s.vm.findClass RX1 = some m.cls := findClass_of_methodNamed B.named
  have hlocks := B.notSynchronized
  have hK := hk.1
  have hl := lv_entry [.ref (al 0), .int x, .ref (ao 0)] (n := 4) (Nat.le_of_ble_eq_true rfl)
  rw [lg_entry_eq]
  generalize (lg_sl [.ref (al 0), .int x, .ref (ao 0)] ++ List.replicate (4 - (lg_sl [.ref (al 0), .int x, .ref (ao 0)]).length) Slot.unset).toArray = ls at hl ⊢
  have hl : lv_has ls 4 [(0, .ref (al 0)), (1, .int x), (2, .ref (ao 0))] := hl
  refine lv_aload_n hx hb dX1_earliestTime_0 rfl (lv_at hl 0 rfl) ?_
  refine lv_iload_n hx hb dX1_earliestTime_1 rfl (lv_at hl 1 rfl) ?_
  refine vp_callSi (va_Run.run (va_runV (As := [.int x]) (rest := []) ⟨hx, hb, hml, hown, hts⟩ (c_X1_holds l D t al n cl rd sv pb ba bf od bg x (by first | assumption | omega)) (cwV 1 hts gX1_earliestTime_X1_holds rfl rfl rfl (by decide +kernel) ⟨Nat.le_of_ble_eq_true rfl, Nat.le_of_ble_eq_true rfl⟩) (ob_preV (ci := 1) (q0 := 0) (hP.sub [0, 1, 2, 3, 4, 5, 6, 7, 8] rfl) hk rfl rfl) rfl rfl hl.1 rfl (lv_room (Nat.le_of_ble_eq_true rfl)) dX1_earliestTime_2 ⟨Nat.le_of_ble_eq_true rfl, Nat.le_of_ble_eq_true rfl⟩)) (fun r9 hr9 => ?_)
  subst hr9
  refine ob_if_ne (tgt := 11) hx hb dX1_earliestTime_5 (by decide) (fun c5 => ?_) (fun c5 => ?_)
  · obtain ⟨j, hj, rfl⟩ := ob_hd_t c5
    refine lv_aload_n hx hb dX1_earliestTime_11 rfl (lv_at hl 2 rfl) ?_
    refine lv_iconst (v := nI 0) hx hb dX1_earliestTime_12 (by decide) ?_
    refine lv_aload_n hx hb dX1_earliestTime_13 rfl (lv_at hl 0 rfl) ?_
    refine va_get (ci := 1) (C := RX1) (T := TX1) (N := 9) hx hb hts (fun w h => List.mem_cons_of_mem _ (List.mem_append_left _ (List.mem_append_right _ (h)))) hown hK hP 0 rfl rfl 0 (by decide) (hts (Cond.fieldLink RX1 9 "OutageBook$Log" "clocks" "[I") (List.mem_of_getElem? (i := 2) rfl)) (fun _ h9 => h9) rfl dX1_earliestTime_14 ?_
    refine lv_iload_n hx hb dX1_earliestTime_17 rfl (lv_at hl 1 rfl) ?_
    refine ob_iald hx hb hK hP 1 0 rfl rfl (by omega) (by decide) dX1_earliestTime_18 ?_
    refine vp_callSi (va_Run.run (va_runV (As := [.int (nI 0), .int (cl j)]) (rest := []) ⟨hx, hb, hml, hown, hts⟩ (c_X3_most l D t ao M (nI 0) (cl j)) (cwV 2 hts gX1_earliestTime_X3_most rfl rfl rfl (by decide +kernel) ⟨Nat.le_of_ble_eq_true rfl, Nat.le_of_ble_eq_true rfl⟩) (ob_preV (ci := 3) (q0 := 0) (hP.sub [9, 10, 11, 12, 13, 14, 15] rfl) hk rfl rfl) rfl rfl hl.1 rfl (lv_room (Nat.le_of_ble_eq_true rfl)) dX1_earliestTime_19 ⟨Nat.le_of_ble_eq_true rfl, Nat.le_of_ble_eq_true rfl⟩)) (fun r9 hr9 => ?_)
    subst hr9
    refine lv_istore_n (lv' := [(3, .int (ob_ms M (nI 0) (cl j))), (0, .ref (al 0)), (1, .int (nI j)), (2, .ref (ao 0))]) hx hb dX1_earliestTime_22 rfl hl (by decide) rfl (fun ls hl => ?_)
    refine lv_iload_n hx hb dX1_earliestTime_23 rfl (lv_at hl 0 rfl) ?_
    refine lv_ldc (v := 1000000) hx hb hown (hts (Cond.constant RX1 57 (1000000)) (List.mem_of_getElem? (i := 3) rfl)) dX1_earliestTime_24 ?_
    refine lv_icmp_ge (tgt := 40) hx hb dX1_earliestTime_26 (by decide) (fun c26 => ?_) (fun c26 => ?_)
    · refine lv_ldc (v := -1000000) hx hb hown (hts (Cond.constant RX1 50 (-1000000)) (List.mem_of_getElem? (i := 1) rfl)) dX1_earliestTime_40 ?_
      exact W.iret (v := -1000000) hx hb hr (fun t9 ht hW => ⟨-1000000, rfl, (by first | (unfold ob_et; rw [c5]; rfl; done) | (unfold ob_et; rw [c5, ob_cl (show j ≤ 1073741824 by omega), if_pos rfl, if_pos c26]; done) | (unfold ob_et; rw [c5, ob_cl (show j ≤ 1073741824 by omega), if_pos rfl, if_neg c26]; done)), ht⟩) (fun _ h => absurd h List.not_mem_nil) dX1_earliestTime_42
    · refine lv_aload_n hx hb dX1_earliestTime_29 rfl (lv_at hl 1 rfl) ?_
      refine va_get (ci := 1) (C := RX1) (T := TX1) (N := 9) hx hb hts (fun w h => List.mem_cons_of_mem _ (List.mem_append_left _ (List.mem_append_right _ (h)))) hown hK hP 0 rfl rfl 1 (by decide) (hts (Cond.fieldLink RX1 15 "OutageBook$Log" "readings" "[I") (List.mem_of_getElem? (i := 4) rfl)) (fun _ h9 => h9) rfl dX1_earliestTime_30 ?_
      refine lv_iload_n hx hb dX1_earliestTime_33 rfl (lv_at hl 2 rfl) ?_
      refine ob_iald hx hb hK hP 2 0 rfl rfl (by omega) (by decide) dX1_earliestTime_34 ?_
      refine lv_iload_n hx hb dX1_earliestTime_35 rfl (lv_at hl 0 rfl) ?_
      refine lv_isub hx hb dX1_earliestTime_36 ?_
      refine lv_goto (tgt := 42) hx hb dX1_earliestTime_37 (by decide) ?_
      exact W.iret (v := (rd j) - (ob_ms M (nI 0) (cl j))) hx hb hr (fun t9 ht hW => ⟨(rd j) - (ob_ms M (nI 0) (cl j)), rfl, (by first | (unfold ob_et; rw [c5]; rfl; done) | (unfold ob_et; rw [c5, ob_cl (show j ≤ 1073741824 by omega), if_pos rfl, if_pos c26]; done) | (unfold ob_et; rw [c5, ob_cl (show j ≤ 1073741824 by omega), if_pos rfl, if_neg c26]; done)), ht⟩) (fun _ h => absurd h List.not_mem_nil) dX1_earliestTime_42
  · refine lv_ldc (v := -1000000) hx hb hown (hts (Cond.constant RX1 50 (-1000000)) (List.mem_of_getElem? (i := 1) rfl)) dX1_earliestTime_8 ?_
    exact W.iret (v := -1000000) hx hb hr (fun t9 ht hW => ⟨-1000000, rfl, (by first | (unfold ob_et; rw [c5]; rfl; done) | (unfold ob_et; rw [c5, ob_cl (show j ≤ 1073741824 by omega), if_pos rfl, if_pos c26]; done) | (unfold ob_et; rw [c5, ob_cl (show j ≤ 1073741824 by omega), if_pos rfl, if_neg c26]; done)), ht⟩) (fun _ h => absurd h List.not_mem_nil) dX1_earliestTime_10

set_option maxRecDepth 100000 in
set_option maxHeartbeats 4000000 in
theorem c_X4_mark (l : Launch) (hl9 : l.stackTraces = false) (sa : Nat → Nat) (D : va_G) (t : Nat → ClassId) (sz : Nat) (ax : Nat) (ao al am ac : Nat → Nat) (M : Nat → Nat → Int32) (n : Nat) (cl rd sv pb ba bf od : Nat → Int32) (bg : Nat → Int64) (x1 x2 x3 x4 x5 : Int32) (hn : n ≤ 30) : vx_Met l yX4_mark wsX4_mark ({ frames := 6, cells := 1, slots := 6, locals := 135 } : Room) (ob_Px D t (ob_wX ax ao al am ac ++ ob_wO t ao M ++ ob_wL t al n cl rd sv pb ba bf od bg) sz sa [.ref ax, .int x1, .int x2, .int x3, .int x4, .int x5]) (va_Qv (fun _ : Unit => ob_z2 (ob_wi x1 (nI 0) (nI 4) && (ob_wi x3 (nI 0) (nI 4) && (!decide (x1 = x3) && (ob_wi x2 (nI 0) (nI 10000) && (ob_wi x4 (nI 0) (nI 10000) && ob_wi x5 (nI 0) (nI 1000)))))) (decide (-(x4 - x2 + x5) ≤ ob_ms M x3 x1) && decide (-(x5 - (x4 - x2)) ≤ ob_ms M x1 x3)) = 0) (fun (_ : Unit) (t9 : State) => va_P D vwCl (ob_wX ax ao al am ac ++ ob_wO t ao (ob_mk M x1.toNatClampNeg x3.toNatClampNeg x2 x4 x5) ++ ob_wL t al n cl rd sv pb ba (ob_bf2 (ob_mk M x1.toNatClampNeg x3.toNatClampNeg x2 x4 x5) cl rd n bf n) (ob_od2 (ob_bf2 (ob_mk M x1.toNatClampNeg x3.toNatClampNeg x2 x4 x5) cl rd n bf n) n od n) bg) t9.heap) (va_A (ob_wX ax ao al am ac ++ ob_wO t ao M ++ ob_wL t al n cl rd sv pb ba bf od bg) sz)) (vx_X (fun _ : Unit => True) (fun (E9 : String) (_ : Unit) (_ : State) => ∃ i : Nat, ob_z2 (ob_wi x1 (nI 0) (nI 4) && (ob_wi x3 (nI 0) (nI 4) && (!decide (x1 = x3) && (ob_wi x2 (nI 0) (nI 10000) && (ob_wi x4 (nI 0) (nI 10000) && ob_wi x5 (nI 0) (nI 1000)))))) (decide (-(x4 - x2 + x5) ≤ ob_ms M x3 x1) && decide (-(x5 - (x4 - x2)) ≤ ob_ms M x1 x3)) = i + 1 ∧ ["java/lang/IllegalArgumentException", "java/lang/IllegalStateException"][i]? = some E9) (fun _ => False)) 1 6 (va_A (ob_wX ax ao al am ac ++ ob_wO t ao M ++ ob_wL t al n cl rd sv pb ba bf od bg) sz) := by
  refine vx_ofW (cc := cX4_mark) (maxL := 7) (ret := none) (by decide) rfl ?_
  intro p e s m args below meth c s₁ B hml hext hv
  obtain ⟨rfl, hsz, hP, hk, hD0, hE⟩ := hv
  have hx := B.exec
  have hb := B.bytes
  have hr := B.returns
  have hts := atoms_spec (ws := wsX4_mark) B.pre
  have hown : s.vm.findClass RX4 = some m.cls := findClass_of_methodNamed B.named
  have hlocks := B.notSynchronized
  have hK := hk.1
  have hD : va_D (va_A (ob_wX ax ao al am ac ++ ob_wO t ao M ++ ob_wL t al n cl rd sv pb ba bf od bg) sz) (ob_wX ax ao al am ac ++ ob_wO t ao M ++ ob_wL t al n cl rd sv pb ba bf od bg) := hD0.self (sz := sz)
  have hA : ∀ q : Nat, s.heap.size ≤ q → (va_A (ob_wX ax ao al am ac ++ ob_wO t ao M ++ ob_wL t al n cl rd sv pb ba bf od bg) sz) q := fun q h => Or.inr (hsz ▸ h)
  have hS : va_S (va_A (ob_wX ax ao al am ac ++ ob_wO t ao M ++ ob_wL t al n cl rd sv pb ba bf od bg) sz) s.heap s.heap [] := va_S.rf
  have hl := lv_entry [.ref ax, .int x1, .int x2, .int x3, .int x4, .int x5] (n := 7) (Nat.le_of_ble_eq_true rfl)
  rw [lg_entry_eq]
  generalize (lg_sl [.ref ax, .int x1, .int x2, .int x3, .int x4, .int x5] ++ List.replicate (7 - (lg_sl [.ref ax, .int x1, .int x2, .int x3, .int x4, .int x5]).length) Slot.unset).toArray = ls at hl ⊢
  have hl : lv_has ls 7 [(0, .ref ax), (1, .int x1), (2, .int x2), (3, .int x3), (4, .int x4), (5, .int x5)] := hl
  have hP : va_P D vwCl (ob_wX ax ao al am ac ++ ob_wO t ao M ++ ob_wL t al n cl rd sv pb ba bf od bg) s.heap := hP
  refine lv_iload_n hx hb dX4_mark_0 rfl (lv_at hl 1 rfl) ?_
  refine vp_callSi (va_Run.run (va_runS (As := [.int x1]) (rest := []) ⟨hx, hb, hml, hown, hts⟩ (c_X4_isClock l D t x1) (va_cwS 1 hts gX4_mark_X4_isClock rfl rfl rfl (by decide +kernel) ⟨Nat.le_of_ble_eq_true rfl, Nat.le_of_ble_eq_true rfl⟩) (ob_preS (hP.sub [] rfl) hk) rfl rfl hl.1 rfl (lv_room (Nat.le_of_ble_eq_true rfl)) dX4_mark_1 ⟨Nat.le_of_ble_eq_true rfl, Nat.le_of_ble_eq_true rfl⟩)) (fun r9 hr9 => ?_)
  subst hr9
  refine ob_if_eq (tgt := 19) hx hb dX4_mark_4 (by decide) (fun c4 => ?_) (fun c4 => ?_)
  · exact vx_throwS (A := fun _ => False) (names := ["java/lang/RuntimeException", "java/lang/Exception"]) (sa := sa 0) (text := "a mark needs two different clocks") hx hb hl9 hown (by decide +kernel) (by decide +kernel) (hts (Cond.classLink RX4 41 "java/lang/IllegalArgumentException") (List.mem_of_getElem? (i := 1) rfl)) (hts (Cond.initialized "java/lang/IllegalArgumentException") (List.mem_of_getElem? (i := 2) rfl)) (hE.2.2.2.2.2.2.2.2 0 (43, "a mark needs two different clocks") rfl) (vx_hat (fun w h => hts w (List.mem_cons_of_mem _ (List.mem_append_left _ (List.mem_append_right _ (h))))) (ob_ng0) (vx_c (va_Nw.use rfl hE.2.2.1) (vx_c (va_Nw.use rfl hE.2.2.2.2.2.1) (vx_c (va_Nw.use rfl hE.2.2.2.2.2.2.1) (vx_c (va_Nw.use rfl hE.2.2.2.2.2.2.2.1) vx_n))))) (ob_gd0 41) hE.1 hE.2.1 va_S.rf (hl.1.trans hml.symm) dX4_mark_19 dX4_mark_22 dX4_mark_23 dX4_mark_25 dX4_mark_28 (fun x9 h9 => (hext x9 h9).elim) (by decide) (by decide) (by decide) (by decide) hlocks (fun t9 _ h1 h2 => ⟨(), trivial, ⟨0, (by first | (rw [c4]; rfl; done) | (rw [c4, c11]; rfl; done) | (rw [c4, c11, decide_eq_true c16]; rfl; done) | (rw [c4, c11, decide_eq_false c16, c33]; rfl; done) | (rw [c4, c11, decide_eq_false c16, c33, c41]; rfl; done) | (rw [c4, c11, decide_eq_false c16, c33, c41, c63]; rfl; done) | (rw [c4, c11, decide_eq_false c16, c33, c41, c63, c96]; rfl; done) | (rw [c4, c11, decide_eq_false c16, c33, c41, c63, c96, c113]; rfl; done)), rfl⟩, h1, fun q hq _ => h2 q hq⟩) (fun _ h => absurd h List.not_mem_nil) (by decide) (by decide)
  · refine lv_iload_n hx hb dX4_mark_7 rfl (lv_at hl 3 rfl) ?_
    refine vp_callSi (va_Run.run (va_runS (As := [.int x3]) (rest := []) ⟨hx, hb, hml, hown, hts⟩ (c_X4_isClock l D t x3) (va_cwS 1 hts gX4_mark_X4_isClock rfl rfl rfl (by decide +kernel) ⟨Nat.le_of_ble_eq_true rfl, Nat.le_of_ble_eq_true rfl⟩) (ob_preS (hP.sub [] rfl) hk) rfl rfl hl.1 rfl (lv_room (Nat.le_of_ble_eq_true rfl)) dX4_mark_8 ⟨Nat.le_of_ble_eq_true rfl, Nat.le_of_ble_eq_true rfl⟩)) (fun r9 hr9 => ?_)
    subst hr9
    refine ob_if_eq (tgt := 19) hx hb dX4_mark_11 (by decide) (fun c11 => ?_) (fun c11 => ?_)
    · exact vx_throwS (A := fun _ => False) (names := ["java/lang/RuntimeException", "java/lang/Exception"]) (sa := sa 0) (text := "a mark needs two different clocks") hx hb hl9 hown (by decide +kernel) (by decide +kernel) (hts (Cond.classLink RX4 41 "java/lang/IllegalArgumentException") (List.mem_of_getElem? (i := 1) rfl)) (hts (Cond.initialized "java/lang/IllegalArgumentException") (List.mem_of_getElem? (i := 2) rfl)) (hE.2.2.2.2.2.2.2.2 0 (43, "a mark needs two different clocks") rfl) (vx_hat (fun w h => hts w (List.mem_cons_of_mem _ (List.mem_append_left _ (List.mem_append_right _ (h))))) (ob_ng0) (vx_c (va_Nw.use rfl hE.2.2.1) (vx_c (va_Nw.use rfl hE.2.2.2.2.2.1) (vx_c (va_Nw.use rfl hE.2.2.2.2.2.2.1) (vx_c (va_Nw.use rfl hE.2.2.2.2.2.2.2.1) vx_n))))) (ob_gd0 41) hE.1 hE.2.1 va_S.rf (hl.1.trans hml.symm) dX4_mark_19 dX4_mark_22 dX4_mark_23 dX4_mark_25 dX4_mark_28 (fun x9 h9 => (hext x9 h9).elim) (by decide) (by decide) (by decide) (by decide) hlocks (fun t9 _ h1 h2 => ⟨(), trivial, ⟨0, (by first | (rw [c4]; rfl; done) | (rw [c4, c11]; rfl; done) | (rw [c4, c11, decide_eq_true c16]; rfl; done) | (rw [c4, c11, decide_eq_false c16, c33]; rfl; done) | (rw [c4, c11, decide_eq_false c16, c33, c41]; rfl; done) | (rw [c4, c11, decide_eq_false c16, c33, c41, c63]; rfl; done) | (rw [c4, c11, decide_eq_false c16, c33, c41, c63, c96]; rfl; done) | (rw [c4, c11, decide_eq_false c16, c33, c41, c63, c96, c113]; rfl; done)), rfl⟩, h1, fun q hq _ => h2 q hq⟩) (fun _ h => absurd h List.not_mem_nil) (by decide) (by decide)
    · refine lv_iload_n hx hb dX4_mark_14 rfl (lv_at hl 1 rfl) ?_
      refine lv_iload_n hx hb dX4_mark_15 rfl (lv_at hl 3 rfl) ?_
      refine lv_icmp_ne (tgt := 29) hx hb dX4_mark_16 (by decide) (fun c16 => ?_) (fun c16 => ?_)
      · refine lv_iload_n hx hb dX4_mark_29 rfl (lv_at hl 2 rfl) ?_
        refine vp_callSi (va_Run.run (va_runS (As := [.int x2]) (rest := []) ⟨hx, hb, hml, hown, hts⟩ (c_X4_isReading l D t x2) (va_cwS 1 hts gX4_mark_X4_isReading rfl rfl rfl (by decide +kernel) ⟨Nat.le_of_ble_eq_true rfl, Nat.le_of_ble_eq_true rfl⟩) (ob_preS (hP.sub [] rfl) hk) rfl rfl hl.1 rfl (lv_room (Nat.le_of_ble_eq_true rfl)) dX4_mark_30 ⟨Nat.le_of_ble_eq_true rfl, Nat.le_of_ble_eq_true rfl⟩)) (fun r9 hr9 => ?_)
        subst hr9
        refine ob_if_eq (tgt := 44) hx hb dX4_mark_33 (by decide) (fun c33 => ?_) (fun c33 => ?_)
        · exact vx_throwS (A := fun _ => False) (names := ["java/lang/RuntimeException", "java/lang/Exception"]) (sa := sa 1) (text := "no such reading") hx hb hl9 hown (by decide +kernel) (by decide +kernel) (hts (Cond.classLink RX4 41 "java/lang/IllegalArgumentException") (List.mem_of_getElem? (i := 1) rfl)) (hts (Cond.initialized "java/lang/IllegalArgumentException") (List.mem_of_getElem? (i := 2) rfl)) (hE.2.2.2.2.2.2.2.2 1 (51, "no such reading") rfl) (vx_hat (fun w h => hts w (List.mem_cons_of_mem _ (List.mem_append_left _ (List.mem_append_right _ (h))))) (ob_ng0) (vx_c (va_Nw.use rfl hE.2.2.1) (vx_c (va_Nw.use rfl hE.2.2.2.2.2.1) (vx_c (va_Nw.use rfl hE.2.2.2.2.2.2.1) (vx_c (va_Nw.use rfl hE.2.2.2.2.2.2.2.1) vx_n))))) (ob_gd0 41) hE.1 hE.2.1 va_S.rf (hl.1.trans hml.symm) dX4_mark_44 dX4_mark_47 dX4_mark_48 dX4_mark_50 dX4_mark_53 (fun x9 h9 => (hext x9 h9).elim) (by decide) (by decide) (by decide) (by decide) hlocks (fun t9 _ h1 h2 => ⟨(), trivial, ⟨0, (by first | (rw [c4]; rfl; done) | (rw [c4, c11]; rfl; done) | (rw [c4, c11, decide_eq_true c16]; rfl; done) | (rw [c4, c11, decide_eq_false c16, c33]; rfl; done) | (rw [c4, c11, decide_eq_false c16, c33, c41]; rfl; done) | (rw [c4, c11, decide_eq_false c16, c33, c41, c63]; rfl; done) | (rw [c4, c11, decide_eq_false c16, c33, c41, c63, c96]; rfl; done) | (rw [c4, c11, decide_eq_false c16, c33, c41, c63, c96, c113]; rfl; done)), rfl⟩, h1, fun q hq _ => h2 q hq⟩) (fun _ h => absurd h List.not_mem_nil) (by decide) (by decide)
        · refine lv_iload hx hb dX4_mark_36 (lv_at hl 4 rfl) ?_
          refine vp_callSi (va_Run.run (va_runS (As := [.int x4]) (rest := []) ⟨hx, hb, hml, hown, hts⟩ (c_X4_isReading l D t x4) (va_cwS 1 hts gX4_mark_X4_isReading rfl rfl rfl (by decide +kernel) ⟨Nat.le_of_ble_eq_true rfl, Nat.le_of_ble_eq_true rfl⟩) (ob_preS (hP.sub [] rfl) hk) rfl rfl hl.1 rfl (lv_room (Nat.le_of_ble_eq_true rfl)) dX4_mark_38 ⟨Nat.le_of_ble_eq_true rfl, Nat.le_of_ble_eq_true rfl⟩)) (fun r9 hr9 => ?_)
          subst hr9
          refine ob_if_ne (tgt := 54) hx hb dX4_mark_41 (by decide) (fun c41 => ?_) (fun c41 => ?_)
          · refine lv_iload hx hb dX4_mark_54 (lv_at hl 5 rfl) ?_
            refine lv_iconst (v := nI 0) hx hb dX4_mark_56 (by decide) ?_
            refine lv_sipush (v := nI 1000) hx hb dX4_mark_57 (by decide) ?_
            refine vp_callSi (va_Run.run (va_runS (As := [.int x5, .int (nI 0), .int (nI 1000)]) (rest := []) ⟨hx, hb, hml, hown, hts⟩ (c_X4_isWithin l D t x5 (nI 0) (nI 1000)) (va_cwS 3 hts gX4_mark_X4_isWithin rfl rfl rfl (by decide +kernel) ⟨Nat.le_of_ble_eq_true rfl, Nat.le_of_ble_eq_true rfl⟩) (ob_preS (hP.sub [] rfl) hk) rfl rfl hl.1 rfl (lv_room (Nat.le_of_ble_eq_true rfl)) dX4_mark_60 ⟨Nat.le_of_ble_eq_true rfl, Nat.le_of_ble_eq_true rfl⟩)) (fun r9 hr9 => ?_)
            subst hr9
            refine ob_if_ne (tgt := 76) hx hb dX4_mark_63 (by decide) (fun c63 => ?_) (fun c63 => ?_)
            · refine lv_iload hx hb dX4_mark_76 (lv_at hl 4 rfl) ?_
              refine lv_iload_n hx hb dX4_mark_78 rfl (lv_at hl 2 rfl) ?_
              refine lv_isub hx hb dX4_mark_79 ?_
              refine lv_istore (lv' := [(6, .int (x4 - x2)), (0, .ref ax), (1, .int x1), (2, .int x2), (3, .int x3), (4, .int x4), (5, .int x5)]) hx hb dX4_mark_80 hl (by decide) rfl (fun ls hl => ?_)
              refine lv_aload_n hx hb dX4_mark_82 rfl (lv_at hl 1 rfl) ?_
              refine va_get (ci := 4) (C := RX4) (T := TX4) (N := 4) hx hb hts (fun w h => List.mem_cons_of_mem _ (List.mem_append_left _ (List.mem_append_left _ (List.mem_append_left _ (List.mem_append_left _ (List.mem_append_right _ (h))))))) hown hK hP 0 rfl rfl 0 (by decide) (hts (Cond.fieldLink RX4 10 "OutageBook" "offsets" "LOutageBook$Offsets;") (List.mem_of_getElem? (i := 5) rfl)) (fun _ h9 => h9) rfl dX4_mark_83 ?_
              refine lv_iload_n hx hb dX4_mark_86 rfl (lv_at hl 2 rfl) ?_
              refine lv_iload_n hx hb dX4_mark_87 rfl (lv_at hl 4 rfl) ?_
              refine lv_iload hx hb dX4_mark_88 (lv_at hl 0 rfl) ?_
              refine lv_iload hx hb dX4_mark_90 (lv_at hl 6 rfl) ?_
              refine lv_iadd hx hb dX4_mark_92 ?_
              refine vp_callSi (va_Run.run (va_runV (As := [.int x1, .int x3, .int ((x4 - x2) + x5)]) (rest := []) ⟨hx, hb, hml, hown, hts⟩ (c_X3_allows l D t ao M x1 x3 ((x4 - x2) + x5)) (cwV 3 hts gX4_mark_X3_allows rfl rfl rfl (by decide +kernel) ⟨Nat.le_of_ble_eq_true rfl, Nat.le_of_ble_eq_true rfl⟩) (ob_preV (ci := 3) (q0 := 0) (hP.sub [1, 2, 3, 4, 5, 6, 7] rfl) hk rfl rfl) rfl rfl hl.1 rfl (lv_room (Nat.le_of_ble_eq_true rfl)) dX4_mark_93 ⟨Nat.le_of_ble_eq_true rfl, Nat.le_of_ble_eq_true rfl⟩)) (fun r9 hr9 => ?_)
              subst hr9
              refine ob_if_eq (tgt := 116) hx hb dX4_mark_96 (by decide) (fun c96 => ?_) (fun c96 => ?_)
              · exact vx_throwS (A := fun _ => False) (names := ["java/lang/RuntimeException", "java/lang/Exception"]) (sa := sa 3) (text := "no values would be possible") hx hb hl9 hown (by decide +kernel) (by decide +kernel) (hts (Cond.classLink RX4 62 "java/lang/IllegalStateException") (List.mem_of_getElem? (i := 3) rfl)) (hts (Cond.initialized "java/lang/IllegalStateException") (List.mem_of_getElem? (i := 4) rfl)) (hE.2.2.2.2.2.2.2.2 3 (64, "no values would be possible") rfl) (vx_hat (fun w h => hts w (List.mem_cons_of_mem _ (List.mem_append_right _ (h)))) (ob_ng1) (vx_c (va_Nw.use rfl hE.2.2.2.1) (vx_c (va_Nw.use rfl hE.2.2.2.2.2.1) (vx_c (va_Nw.use rfl hE.2.2.2.2.2.2.1) (vx_c (va_Nw.use rfl hE.2.2.2.2.2.2.2.1) vx_n))))) (ob_gd1 62) hE.1 hE.2.1 va_S.rf (hl.1.trans hml.symm) dX4_mark_116 dX4_mark_119 dX4_mark_120 dX4_mark_122 dX4_mark_125 (fun x9 h9 => (hext x9 h9).elim) (by decide) (by decide) (by decide) (by decide) hlocks (fun t9 _ h1 h2 => ⟨(), trivial, ⟨1, (by first | (rw [c4]; rfl; done) | (rw [c4, c11]; rfl; done) | (rw [c4, c11, decide_eq_true c16]; rfl; done) | (rw [c4, c11, decide_eq_false c16, c33]; rfl; done) | (rw [c4, c11, decide_eq_false c16, c33, c41]; rfl; done) | (rw [c4, c11, decide_eq_false c16, c33, c41, c63]; rfl; done) | (rw [c4, c11, decide_eq_false c16, c33, c41, c63, c96]; rfl; done) | (rw [c4, c11, decide_eq_false c16, c33, c41, c63, c96, c113]; rfl; done)), rfl⟩, h1, fun q hq _ => h2 q hq⟩) (fun _ h => absurd h List.not_mem_nil) (by decide) (by decide)
              · refine lv_aload_n hx hb dX4_mark_99 rfl (lv_at hl 1 rfl) ?_
                refine va_get (ci := 4) (C := RX4) (T := TX4) (N := 4) hx hb hts (fun w h => List.mem_cons_of_mem _ (List.mem_append_left _ (List.mem_append_left _ (List.mem_append_left _ (List.mem_append_left _ (List.mem_append_right _ (h))))))) hown hK hP 0 rfl rfl 0 (by decide) (hts (Cond.fieldLink RX4 10 "OutageBook" "offsets" "LOutageBook$Offsets;") (List.mem_of_getElem? (i := 5) rfl)) (fun _ h9 => h9) rfl dX4_mark_100 ?_
                refine lv_iload_n hx hb dX4_mark_103 rfl (lv_at hl 4 rfl) ?_
                refine lv_iload_n hx hb dX4_mark_104 rfl (lv_at hl 2 rfl) ?_
                refine lv_iload hx hb dX4_mark_105 (lv_at hl 6 rfl) ?_
                refine lv_iload hx hb dX4_mark_107 (lv_at hl 0 rfl) ?_
                refine lv_isub hx hb dX4_mark_109 ?_
                refine vp_callSi (va_Run.run (va_runV (As := [.int x3, .int x1, .int (x5 - (x4 - x2))]) (rest := []) ⟨hx, hb, hml, hown, hts⟩ (c_X3_allows l D t ao M x3 x1 (x5 - (x4 - x2))) (cwV 3 hts gX4_mark_X3_allows rfl rfl rfl (by decide +kernel) ⟨Nat.le_of_ble_eq_true rfl, Nat.le_of_ble_eq_true rfl⟩) (ob_preV (ci := 3) (q0 := 0) (hP.sub [1, 2, 3, 4, 5, 6, 7] rfl) hk rfl rfl) rfl rfl hl.1 rfl (lv_room (Nat.le_of_ble_eq_true rfl)) dX4_mark_110 ⟨Nat.le_of_ble_eq_true rfl, Nat.le_of_ble_eq_true rfl⟩)) (fun r9 hr9 => ?_)
                subst hr9
                refine ob_if_ne (tgt := 126) hx hb dX4_mark_113 (by decide) (fun c113 => ?_) (fun c113 => ?_)
                · obtain ⟨a1, ha1, e1⟩ := ob_wi_t c4
                  obtain ⟨a3, ha3, e3⟩ := ob_wi_t c11
                  rw [e1, e3] at hl
                  refine lv_aload_n hx hb dX4_mark_126 rfl (lv_at hl 1 rfl) ?_
                  refine va_get (ci := 4) (C := RX4) (T := TX4) (N := 4) hx hb hts (fun w h => List.mem_cons_of_mem _ (List.mem_append_left _ (List.mem_append_left _ (List.mem_append_left _ (List.mem_append_left _ (List.mem_append_right _ (h))))))) hown hK hP 0 rfl rfl 0 (by decide) (hts (Cond.fieldLink RX4 10 "OutageBook" "offsets" "LOutageBook$Offsets;") (List.mem_of_getElem? (i := 5) rfl)) (fun _ h9 => h9) rfl dX4_mark_127 ?_
                  refine lv_iload_n hx hb dX4_mark_130 rfl (lv_at hl 2 rfl) ?_
                  refine lv_iload_n hx hb dX4_mark_131 rfl (lv_at hl 4 rfl) ?_
                  refine lv_iload hx hb dX4_mark_132 (lv_at hl 0 rfl) ?_
                  refine lv_iload hx hb dX4_mark_134 (lv_at hl 6 rfl) ?_
                  refine lv_iadd hx hb dX4_mark_136 ?_
                  have hFc := va_free (wc := ob_wO t ao M) hD hS hA [1, 2, 3, 4, 5, 6, 7] rfl
                  refine va_callv (va_runV (As := [.int (nI a1), .int (nI a3), .int ((x4 - x2) + x5)]) (rest := []) ⟨hx, hb, hml, hown, hts⟩ (c_X3_bound l D t s.heap.size ao M a1 a3 ((x4 - x2) + x5) ha1 ha3) (cwV 3 hts gX4_mark_X3_bound rfl rfl rfl (by decide +kernel) ⟨Nat.le_of_ble_eq_true rfl, Nat.le_of_ble_eq_true rfl⟩) (ob_pmV (ci := 3) (q0 := 0) (hP.sub [1, 2, 3, 4, 5, 6, 7] rfl) (hD.sub [1, 2, 3, 4, 5, 6, 7] (by decide) rfl) hk rfl rfl) rfl rfl hl.1 rfl (lv_room (Nat.le_of_ble_eq_true rfl)) dX4_mark_137 ⟨Nat.le_of_ble_eq_true rfl, Nat.le_of_ble_eq_true rfl⟩) hS (fun q _ h => hFc q h) hFc (fun u9 t9 H1 locs ht hvm hw9 hB hz1 hk1 hS => ?_)
                  rw [ht] at hB
                  have hP := ob_jn (ws' := ob_wX ax ao al am ac ++ ob_wO t ao (ob_bO a1 a3 ((x4 - x2) + x5) M 5) ++ ob_wL t al n cl rd sv pb ba bf od bg) hP hD [none, some 0, some 1, some 2, some 3, some 4, some 5, some 6, none, none, none, none, none, none, none, none, none] [1, 2, 3, 4, 5, 6, 7] rfl rfl hk1 hB rfl
                  have hD : va_D (va_A (ob_wX ax ao al am ac ++ ob_wO t ao M ++ ob_wL t al n cl rd sv pb ba bf od bg) sz) (ob_wX ax ao al am ac ++ ob_wO t ao (ob_bO a1 a3 ((x4 - x2) + x5) M 5) ++ ob_wL t al n cl rd sv pb ba bf od bg) := ob_dXOL hD
                  generalize H1 = H at hP hS ⊢
                  refine lv_aload_n hx hb dX4_mark_140 rfl (lv_at hl 1 rfl) ?_
                  refine va_get (ci := 4) (C := RX4) (T := TX4) (N := 4) hx hb hts (fun w h => List.mem_cons_of_mem _ (List.mem_append_left _ (List.mem_append_left _ (List.mem_append_left _ (List.mem_append_left _ (List.mem_append_right _ (h))))))) hown hK hP 0 rfl rfl 0 (by decide) (hts (Cond.fieldLink RX4 10 "OutageBook" "offsets" "LOutageBook$Offsets;") (List.mem_of_getElem? (i := 5) rfl)) (fun _ h9 => h9) rfl dX4_mark_141 ?_
                  refine lv_iload_n hx hb dX4_mark_144 rfl (lv_at hl 4 rfl) ?_
                  refine lv_iload_n hx hb dX4_mark_145 rfl (lv_at hl 2 rfl) ?_
                  refine lv_iload hx hb dX4_mark_146 (lv_at hl 6 rfl) ?_
                  refine lv_iload hx hb dX4_mark_148 (lv_at hl 0 rfl) ?_
                  refine lv_isub hx hb dX4_mark_150 ?_
                  have hFc := va_free (wc := ob_wO t ao (ob_bO a1 a3 ((x4 - x2) + x5) M 5)) hD hS hA [1, 2, 3, 4, 5, 6, 7] rfl
                  refine va_callv (va_runV (As := [.int (nI a3), .int (nI a1), .int (x5 - (x4 - x2))]) (rest := []) ⟨hx, hb, hml, hown, hts⟩ (c_X3_bound l D t H.size ao (ob_bO a1 a3 ((x4 - x2) + x5) M 5) a3 a1 (x5 - (x4 - x2)) (by first | assumption | omega) (by first | assumption | omega)) (cwV 3 hts gX4_mark_X3_bound rfl rfl rfl (by decide +kernel) ⟨Nat.le_of_ble_eq_true rfl, Nat.le_of_ble_eq_true rfl⟩) (ob_pmV (ci := 3) (q0 := 0) (hP.sub [1, 2, 3, 4, 5, 6, 7] rfl) (hD.sub [1, 2, 3, 4, 5, 6, 7] (by decide) rfl) hk rfl rfl) rfl rfl hl.1 rfl (lv_room (Nat.le_of_ble_eq_true rfl)) dX4_mark_151 ⟨Nat.le_of_ble_eq_true rfl, Nat.le_of_ble_eq_true rfl⟩) hS (fun q _ h => hFc q h) hFc (fun u9 t9 H1 locs ht hvm hw9 hB hz1 hk1 hS => ?_)
                  rw [ht] at hB
                  have hP := ob_jn (ws' := ob_wX ax ao al am ac ++ ob_wO t ao (ob_bO a3 a1 (x5 - (x4 - x2)) (ob_bO a1 a3 ((x4 - x2) + x5) M 5) 5) ++ ob_wL t al n cl rd sv pb ba bf od bg) hP hD [none, some 0, some 1, some 2, some 3, some 4, some 5, some 6, none, none, none, none, none, none, none, none, none] [1, 2, 3, 4, 5, 6, 7] rfl rfl hk1 hB rfl
                  have hD : va_D (va_A (ob_wX ax ao al am ac ++ ob_wO t ao M ++ ob_wL t al n cl rd sv pb ba bf od bg) sz) (ob_wX ax ao al am ac ++ ob_wO t ao (ob_bO a3 a1 (x5 - (x4 - x2)) (ob_bO a1 a3 ((x4 - x2) + x5) M 5) 5) ++ ob_wL t al n cl rd sv pb ba bf od bg) := ob_dXOL hD
                  generalize H1 = H at hP hS ⊢
                  refine lv_aload_n hx hb dX4_mark_154 rfl (lv_at hl 1 rfl) ?_
                  refine va_get (ci := 4) (C := RX4) (T := TX4) (N := 4) hx hb hts (fun w h => List.mem_cons_of_mem _ (List.mem_append_left _ (List.mem_append_left _ (List.mem_append_left _ (List.mem_append_left _ (List.mem_append_right _ (h))))))) hown hK hP 0 rfl rfl 1 (by decide) (hts (Cond.fieldLink RX4 19 "OutageBook" "log" "LOutageBook$Log;") (List.mem_of_getElem? (i := 6) rfl)) (fun _ h9 => h9) rfl dX4_mark_155 ?_
                  refine lv_aload_n hx hb dX4_mark_158 rfl (lv_at hl 1 rfl) ?_
                  refine va_get (ci := 4) (C := RX4) (T := TX4) (N := 4) hx hb hts (fun w h => List.mem_cons_of_mem _ (List.mem_append_left _ (List.mem_append_left _ (List.mem_append_left _ (List.mem_append_left _ (List.mem_append_right _ (h))))))) hown hK hP 0 rfl rfl 0 (by decide) (hts (Cond.fieldLink RX4 10 "OutageBook" "offsets" "LOutageBook$Offsets;") (List.mem_of_getElem? (i := 5) rfl)) (fun _ h9 => h9) rfl dX4_mark_159 ?_
                  have hFc := va_free (wc := ob_wL t al n cl rd sv pb ba bf od bg ++ ob_wO t ao (ob_bO a3 a1 (x5 - (x4 - x2)) (ob_bO a1 a3 ((x4 - x2) + x5) M 5) 5)) hD hS hA [8, 9, 10, 11, 12, 13, 14, 15, 16, 1, 2, 3, 4, 5, 6, 7] rfl
                  refine va_callv (va_runV (As := [.ref (ao 0)]) (rest := []) ⟨hx, hb, hml, hown, hts⟩ (c_X1_arrange l D t H.size al n cl rd sv pb ba bf od bg ao (ob_bO a3 a1 (x5 - (x4 - x2)) (ob_bO a1 a3 ((x4 - x2) + x5) M 5) 5) (by first | assumption | omega)) (cwV 1 hts gX4_mark_X1_arrange rfl rfl rfl (by decide +kernel) ⟨Nat.le_of_ble_eq_true rfl, Nat.le_of_ble_eq_true rfl⟩) (ob_pmV (ci := 1) (q0 := 0) (hP.sub [8, 9, 10, 11, 12, 13, 14, 15, 16, 1, 2, 3, 4, 5, 6, 7] rfl) (hD.sub [8, 9, 10, 11, 12, 13, 14, 15, 16, 1, 2, 3, 4, 5, 6, 7] (by decide) rfl) hk rfl rfl) rfl rfl hl.1 rfl (lv_room (Nat.le_of_ble_eq_true rfl)) dX4_mark_162 ⟨Nat.le_of_ble_eq_true rfl, Nat.le_of_ble_eq_true rfl⟩) hS (fun q _ h => hFc q h) hFc (fun u9 t9 H1 locs ht hvm hw9 hB hz1 hk1 hS => ?_)
                  rw [ht] at hB
                  have hP := ob_jn (ws' := ob_wX ax ao al am ac ++ ob_wO t ao (ob_bO a3 a1 (x5 - (x4 - x2)) (ob_bO a1 a3 ((x4 - x2) + x5) M 5) 5) ++ ob_wL t al n cl rd sv pb ba (ob_bf2 (ob_bO a3 a1 (x5 - (x4 - x2)) (ob_bO a1 a3 ((x4 - x2) + x5) M 5) 5) cl rd n bf n) (ob_od2 (ob_bf2 (ob_bO a3 a1 (x5 - (x4 - x2)) (ob_bO a1 a3 ((x4 - x2) + x5) M 5) 5) cl rd n bf n) n od n) bg) hP hD [none, some 9, some 10, some 11, some 12, some 13, some 14, some 15, some 0, some 1, some 2, some 3, some 4, some 5, some 6, some 7, some 8] [8, 9, 10, 11, 12, 13, 14, 15, 16, 1, 2, 3, 4, 5, 6, 7] rfl rfl hk1 hB rfl
                  have hD : va_D (va_A (ob_wX ax ao al am ac ++ ob_wO t ao M ++ ob_wL t al n cl rd sv pb ba bf od bg) sz) (ob_wX ax ao al am ac ++ ob_wO t ao (ob_bO a3 a1 (x5 - (x4 - x2)) (ob_bO a1 a3 ((x4 - x2) + x5) M 5) 5) ++ ob_wL t al n cl rd sv pb ba (ob_bf2 (ob_bO a3 a1 (x5 - (x4 - x2)) (ob_bO a1 a3 ((x4 - x2) + x5) M 5) 5) cl rd n bf n) (ob_od2 (ob_bf2 (ob_bO a3 a1 (x5 - (x4 - x2)) (ob_bO a1 a3 ((x4 - x2) + x5) M 5) 5) cl rd n bf n) n od n) bg) := ob_dXOL hD
                  generalize H1 = H at hP hS ⊢
                  refine W.widen (k := 1) (n := 6) (Nat.le_of_ble_eq_true rfl) (Nat.le_of_ble_eq_true rfl) ?_
                  exact vx_ret (W.vret hx hb hr (fun t9 ht hW => ⟨⟨(), rfl, (by first | (rw [c4]; rfl; done) | (rw [c4, c11]; rfl; done) | (rw [c4, c11, decide_eq_true c16]; rfl; done) | (rw [c4, c11, decide_eq_false c16, c33]; rfl; done) | (rw [c4, c11, decide_eq_false c16, c33, c41]; rfl; done) | (rw [c4, c11, decide_eq_false c16, c33, c41, c63]; rfl; done) | (rw [c4, c11, decide_eq_false c16, c33, c41, c63, c96]; rfl; done) | (rw [c4, c11, decide_eq_false c16, c33, c41, c63, c96, c113]; rfl; done)), ob_th ht (by rw [e1, e3, ob_cl (show a1 ≤ 1073741824 by omega), ob_cl (show a3 ≤ 1073741824 by omega)]; exact hP)⟩, hS.F ht⟩) hS.2.2 dX4_mark_165)
                · exact vx_throwS (A := fun _ => False) (names := ["java/lang/RuntimeException", "java/lang/Exception"]) (sa := sa 3) (text := "no values would be possible") hx hb hl9 hown (by decide +kernel) (by decide +kernel) (hts (Cond.classLink RX4 62 "java/lang/IllegalStateException") (List.mem_of_getElem? (i := 3) rfl)) (hts (Cond.initialized "java/lang/IllegalStateException") (List.mem_of_getElem? (i := 4) rfl)) (hE.2.2.2.2.2.2.2.2 3 (64, "no values would be possible") rfl) (vx_hat (fun w h => hts w (List.mem_cons_of_mem _ (List.mem_append_right _ (h)))) (ob_ng1) (vx_c (va_Nw.use rfl hE.2.2.2.1) (vx_c (va_Nw.use rfl hE.2.2.2.2.2.1) (vx_c (va_Nw.use rfl hE.2.2.2.2.2.2.1) (vx_c (va_Nw.use rfl hE.2.2.2.2.2.2.2.1) vx_n))))) (ob_gd1 62) hE.1 hE.2.1 va_S.rf (hl.1.trans hml.symm) dX4_mark_116 dX4_mark_119 dX4_mark_120 dX4_mark_122 dX4_mark_125 (fun x9 h9 => (hext x9 h9).elim) (by decide) (by decide) (by decide) (by decide) hlocks (fun t9 _ h1 h2 => ⟨(), trivial, ⟨1, (by first | (rw [c4]; rfl; done) | (rw [c4, c11]; rfl; done) | (rw [c4, c11, decide_eq_true c16]; rfl; done) | (rw [c4, c11, decide_eq_false c16, c33]; rfl; done) | (rw [c4, c11, decide_eq_false c16, c33, c41]; rfl; done) | (rw [c4, c11, decide_eq_false c16, c33, c41, c63]; rfl; done) | (rw [c4, c11, decide_eq_false c16, c33, c41, c63, c96]; rfl; done) | (rw [c4, c11, decide_eq_false c16, c33, c41, c63, c96, c113]; rfl; done)), rfl⟩, h1, fun q hq _ => h2 q hq⟩) (fun _ h => absurd h List.not_mem_nil) (by decide) (by decide)
            · exact vx_throwS (A := fun _ => False) (names := ["java/lang/RuntimeException", "java/lang/Exception"]) (sa := sa 2) (text := "no such slack") hx hb hl9 hown (by decide +kernel) (by decide +kernel) (hts (Cond.classLink RX4 41 "java/lang/IllegalArgumentException") (List.mem_of_getElem? (i := 1) rfl)) (hts (Cond.initialized "java/lang/IllegalArgumentException") (List.mem_of_getElem? (i := 2) rfl)) (hE.2.2.2.2.2.2.2.2 2 (57, "no such slack") rfl) (vx_hat (fun w h => hts w (List.mem_cons_of_mem _ (List.mem_append_left _ (List.mem_append_right _ (h))))) (ob_ng0) (vx_c (va_Nw.use rfl hE.2.2.1) (vx_c (va_Nw.use rfl hE.2.2.2.2.2.1) (vx_c (va_Nw.use rfl hE.2.2.2.2.2.2.1) (vx_c (va_Nw.use rfl hE.2.2.2.2.2.2.2.1) vx_n))))) (ob_gd0 41) hE.1 hE.2.1 va_S.rf (hl.1.trans hml.symm) dX4_mark_66 dX4_mark_69 dX4_mark_70 dX4_mark_72 dX4_mark_75 (fun x9 h9 => (hext x9 h9).elim) (by decide) (by decide) (by decide) (by decide) hlocks (fun t9 _ h1 h2 => ⟨(), trivial, ⟨0, (by first | (rw [c4]; rfl; done) | (rw [c4, c11]; rfl; done) | (rw [c4, c11, decide_eq_true c16]; rfl; done) | (rw [c4, c11, decide_eq_false c16, c33]; rfl; done) | (rw [c4, c11, decide_eq_false c16, c33, c41]; rfl; done) | (rw [c4, c11, decide_eq_false c16, c33, c41, c63]; rfl; done) | (rw [c4, c11, decide_eq_false c16, c33, c41, c63, c96]; rfl; done) | (rw [c4, c11, decide_eq_false c16, c33, c41, c63, c96, c113]; rfl; done)), rfl⟩, h1, fun q hq _ => h2 q hq⟩) (fun _ h => absurd h List.not_mem_nil) (by decide) (by decide)
          · exact vx_throwS (A := fun _ => False) (names := ["java/lang/RuntimeException", "java/lang/Exception"]) (sa := sa 1) (text := "no such reading") hx hb hl9 hown (by decide +kernel) (by decide +kernel) (hts (Cond.classLink RX4 41 "java/lang/IllegalArgumentException") (List.mem_of_getElem? (i := 1) rfl)) (hts (Cond.initialized "java/lang/IllegalArgumentException") (List.mem_of_getElem? (i := 2) rfl)) (hE.2.2.2.2.2.2.2.2 1 (51, "no such reading") rfl) (vx_hat (fun w h => hts w (List.mem_cons_of_mem _ (List.mem_append_left _ (List.mem_append_right _ (h))))) (ob_ng0) (vx_c (va_Nw.use rfl hE.2.2.1) (vx_c (va_Nw.use rfl hE.2.2.2.2.2.1) (vx_c (va_Nw.use rfl hE.2.2.2.2.2.2.1) (vx_c (va_Nw.use rfl hE.2.2.2.2.2.2.2.1) vx_n))))) (ob_gd0 41) hE.1 hE.2.1 va_S.rf (hl.1.trans hml.symm) dX4_mark_44 dX4_mark_47 dX4_mark_48 dX4_mark_50 dX4_mark_53 (fun x9 h9 => (hext x9 h9).elim) (by decide) (by decide) (by decide) (by decide) hlocks (fun t9 _ h1 h2 => ⟨(), trivial, ⟨0, (by first | (rw [c4]; rfl; done) | (rw [c4, c11]; rfl; done) | (rw [c4, c11, decide_eq_true c16]; rfl; done) | (rw [c4, c11, decide_eq_false c16, c33]; rfl; done) | (rw [c4, c11, decide_eq_false c16, c33, c41]; rfl; done) | (rw [c4, c11, decide_eq_false c16, c33, c41, c63]; rfl; done) | (rw [c4, c11, decide_eq_false c16, c33, c41, c63, c96]; rfl; done) | (rw [c4, c11, decide_eq_false c16, c33, c41, c63, c96, c113]; rfl; done)), rfl⟩, h1, fun q hq _ => h2 q hq⟩) (fun _ h => absurd h List.not_mem_nil) (by decide) (by decide)
      · exact vx_throwS (A := fun _ => False) (names := ["java/lang/RuntimeException", "java/lang/Exception"]) (sa := sa 0) (text := "a mark needs two different clocks") hx hb hl9 hown (by decide +kernel) (by decide +kernel) (hts (Cond.classLink RX4 41 "java/lang/IllegalArgumentException") (List.mem_of_getElem? (i := 1) rfl)) (hts (Cond.initialized "java/lang/IllegalArgumentException") (List.mem_of_getElem? (i := 2) rfl)) (hE.2.2.2.2.2.2.2.2 0 (43, "a mark needs two different clocks") rfl) (vx_hat (fun w h => hts w (List.mem_cons_of_mem _ (List.mem_append_left _ (List.mem_append_right _ (h))))) (ob_ng0) (vx_c (va_Nw.use rfl hE.2.2.1) (vx_c (va_Nw.use rfl hE.2.2.2.2.2.1) (vx_c (va_Nw.use rfl hE.2.2.2.2.2.2.1) (vx_c (va_Nw.use rfl hE.2.2.2.2.2.2.2.1) vx_n))))) (ob_gd0 41) hE.1 hE.2.1 va_S.rf (hl.1.trans hml.symm) dX4_mark_19 dX4_mark_22 dX4_mark_23 dX4_mark_25 dX4_mark_28 (fun x9 h9 => (hext x9 h9).elim) (by decide) (by decide) (by decide) (by decide) hlocks (fun t9 _ h1 h2 => ⟨(), trivial, ⟨0, (by first | (rw [c4]; rfl; done) | (rw [c4, c11]; rfl; done) | (rw [c4, c11, decide_eq_true c16]; rfl; done) | (rw [c4, c11, decide_eq_false c16, c33]; rfl; done) | (rw [c4, c11, decide_eq_false c16, c33, c41]; rfl; done) | (rw [c4, c11, decide_eq_false c16, c33, c41, c63]; rfl; done) | (rw [c4, c11, decide_eq_false c16, c33, c41, c63, c96]; rfl; done) | (rw [c4, c11, decide_eq_false c16, c33, c41, c63, c96, c113]; rfl; done)), rfl⟩, h1, fun q hq _ => h2 q hq⟩) (fun _ h => absurd h List.not_mem_nil) (by decide) (by decide)

set_option maxRecDepth 100000 in
set_option maxHeartbeats 4000000 in
theorem c_X4_greatest (l : Launch) (hl9 : l.stackTraces = false) (sa : Nat → Nat) (D : va_G) (t : Nat → ClassId) (sz : Nat) (ax : Nat) (ao al am ac : Nat → Nat) (M : Nat → Nat → Int32) (n : Nat) (cl rd sv pb ba bf od : Nat → Int32) (bg : Nat → Int64) (x1 x2 : Int32) : vx_Met l yX4_greatest wsX4_greatest ({ frames := 6, cells := 1, slots := 6, locals := 82 } : Room) (ob_Px D t (ob_wX ax ao al am ac ++ ob_wO t ao M ++ ob_wL t al n cl rd sv pb ba bf od bg) sz sa [.ref ax, .int x1, .int x2]) (va_Qi (fun (r : Int32) (_ : Unit) => ob_z1 (ob_wi x1 (nI 0) (nI 4) && ob_wi x2 (nI 0) (nI 4)) = 0 ∧ (r = ob_ms M x1 x2)) (fun (_ : Unit) (t9 : State) => va_P D vwCl (ob_wX ax ao al am ac ++ ob_wO t ao M ++ ob_wL t al n cl rd sv pb ba bf od bg) t9.heap) (va_A (ob_wX ax ao al am ac ++ ob_wO t ao M ++ ob_wL t al n cl rd sv pb ba bf od bg) sz)) (vx_X (fun _ : Unit => True) (fun (E9 : String) (_ : Unit) (_ : State) => ∃ i : Nat, ob_z1 (ob_wi x1 (nI 0) (nI 4) && ob_wi x2 (nI 0) (nI 4)) = i + 1 ∧ ["java/lang/IllegalArgumentException"][i]? = some E9) (fun _ => False)) 1 6 (va_A (ob_wX ax ao al am ac ++ ob_wO t ao M ++ ob_wL t al n cl rd sv pb ba bf od bg) sz) := by
  refine vx_ofW (cc := cX4_greatest) (maxL := 3) (ret := (some .int)) (by decide) rfl ?_
  intro p e s m args below meth c s₁ B hml hext hv
  obtain ⟨rfl, hsz, hP, hk, hD0, hE⟩ := hv
  have hx := B.exec
  have hb := B.bytes
  have hr := B.returns
  have hts := atoms_spec (ws := wsX4_greatest) B.pre
  have hown : s.vm.findClass RX4 = some m.cls := findClass_of_methodNamed B.named
  have hlocks := B.notSynchronized
  have hK := hk.1
  have hD : va_D (va_A (ob_wX ax ao al am ac ++ ob_wO t ao M ++ ob_wL t al n cl rd sv pb ba bf od bg) sz) (ob_wX ax ao al am ac ++ ob_wO t ao M ++ ob_wL t al n cl rd sv pb ba bf od bg) := hD0.self (sz := sz)
  have hA : ∀ q : Nat, s.heap.size ≤ q → (va_A (ob_wX ax ao al am ac ++ ob_wO t ao M ++ ob_wL t al n cl rd sv pb ba bf od bg) sz) q := fun q h => Or.inr (hsz ▸ h)
  have hS : va_S (va_A (ob_wX ax ao al am ac ++ ob_wO t ao M ++ ob_wL t al n cl rd sv pb ba bf od bg) sz) s.heap s.heap [] := va_S.rf
  have hl := lv_entry [.ref ax, .int x1, .int x2] (n := 3) (Nat.le_of_ble_eq_true rfl)
  rw [lg_entry_eq]
  generalize (lg_sl [.ref ax, .int x1, .int x2] ++ List.replicate (3 - (lg_sl [.ref ax, .int x1, .int x2]).length) Slot.unset).toArray = ls at hl ⊢
  have hl : lv_has ls 3 [(0, .ref ax), (1, .int x1), (2, .int x2)] := hl
  have hP : va_P D vwCl (ob_wX ax ao al am ac ++ ob_wO t ao M ++ ob_wL t al n cl rd sv pb ba bf od bg) s.heap := hP
  refine lv_iload_n hx hb dX4_greatest_0 rfl (lv_at hl 1 rfl) ?_
  refine vp_callSi (va_Run.run (va_runS (As := [.int x1]) (rest := []) ⟨hx, hb, hml, hown, hts⟩ (c_X4_isClock l D t x1) (va_cwS 1 hts gX4_greatest_X4_isClock rfl rfl rfl (by decide +kernel) ⟨Nat.le_of_ble_eq_true rfl, Nat.le_of_ble_eq_true rfl⟩) (ob_preS (hP.sub [] rfl) hk) rfl rfl hl.1 rfl (lv_room (Nat.le_of_ble_eq_true rfl)) dX4_greatest_1 ⟨Nat.le_of_ble_eq_true rfl, Nat.le_of_ble_eq_true rfl⟩)) (fun r9 hr9 => ?_)
  subst hr9
  refine ob_if_eq (tgt := 14) hx hb dX4_greatest_4 (by decide) (fun c4 => ?_) (fun c4 => ?_)
  · exact vx_throwS (A := fun _ => False) (names := ["java/lang/RuntimeException", "java/lang/Exception"]) (sa := sa 4) (text := "no such clock") hx hb hl9 hown (by decide +kernel) (by decide +kernel) (hts (Cond.classLink RX4 41 "java/lang/IllegalArgumentException") (List.mem_of_getElem? (i := 1) rfl)) (hts (Cond.initialized "java/lang/IllegalArgumentException") (List.mem_of_getElem? (i := 2) rfl)) (hE.2.2.2.2.2.2.2.2 4 (75, "no such clock") rfl) (vx_hat (fun w h => hts w (List.mem_cons_of_mem _ (List.mem_append_right _ (h)))) (ob_ng0) (vx_c (va_Nw.use rfl hE.2.2.1) (vx_c (va_Nw.use rfl hE.2.2.2.2.2.1) (vx_c (va_Nw.use rfl hE.2.2.2.2.2.2.1) (vx_c (va_Nw.use rfl hE.2.2.2.2.2.2.2.1) vx_n))))) (ob_gd0 41) hE.1 hE.2.1 va_S.rf (hl.1.trans hml.symm) dX4_greatest_14 dX4_greatest_17 dX4_greatest_18 dX4_greatest_20 dX4_greatest_23 (fun x9 h9 => (hext x9 h9).elim) (by decide) (by decide) (by decide) (by decide) hlocks (fun t9 _ h1 h2 => ⟨(), trivial, ⟨0, (by first | (rw [c4]; rfl; done) | (rw [c4, c11]; rfl; done)), rfl⟩, h1, fun q hq _ => h2 q hq⟩) (fun _ h => absurd h List.not_mem_nil) (by decide) (by decide)
  · refine lv_iload_n hx hb dX4_greatest_7 rfl (lv_at hl 2 rfl) ?_
    refine vp_callSi (va_Run.run (va_runS (As := [.int x2]) (rest := []) ⟨hx, hb, hml, hown, hts⟩ (c_X4_isClock l D t x2) (va_cwS 1 hts gX4_greatest_X4_isClock rfl rfl rfl (by decide +kernel) ⟨Nat.le_of_ble_eq_true rfl, Nat.le_of_ble_eq_true rfl⟩) (ob_preS (hP.sub [] rfl) hk) rfl rfl hl.1 rfl (lv_room (Nat.le_of_ble_eq_true rfl)) dX4_greatest_8 ⟨Nat.le_of_ble_eq_true rfl, Nat.le_of_ble_eq_true rfl⟩)) (fun r9 hr9 => ?_)
    subst hr9
    refine ob_if_ne (tgt := 24) hx hb dX4_greatest_11 (by decide) (fun c11 => ?_) (fun c11 => ?_)
    · refine lv_aload_n hx hb dX4_greatest_24 rfl (lv_at hl 0 rfl) ?_
      refine va_get (ci := 4) (C := RX4) (T := TX4) (N := 4) hx hb hts (fun w h => List.mem_cons_of_mem _ (List.mem_append_left _ (List.mem_append_left _ (List.mem_append_right _ (h))))) hown hK hP 0 rfl rfl 0 (by decide) (hts (Cond.fieldLink RX4 10 "OutageBook" "offsets" "LOutageBook$Offsets;") (List.mem_of_getElem? (i := 3) rfl)) (fun _ h9 => h9) rfl dX4_greatest_25 ?_
      refine lv_iload_n hx hb dX4_greatest_28 rfl (lv_at hl 1 rfl) ?_
      refine lv_iload_n hx hb dX4_greatest_29 rfl (lv_at hl 2 rfl) ?_
      refine vp_callSi (va_Run.run (va_runV (As := [.int x1, .int x2]) (rest := []) ⟨hx, hb, hml, hown, hts⟩ (c_X3_most l D t ao M x1 x2) (cwV 2 hts gX4_greatest_X3_most rfl rfl rfl (by decide +kernel) ⟨Nat.le_of_ble_eq_true rfl, Nat.le_of_ble_eq_true rfl⟩) (ob_preV (ci := 3) (q0 := 0) (hP.sub [1, 2, 3, 4, 5, 6, 7] rfl) hk rfl rfl) rfl rfl hl.1 rfl (lv_room (Nat.le_of_ble_eq_true rfl)) dX4_greatest_30 ⟨Nat.le_of_ble_eq_true rfl, Nat.le_of_ble_eq_true rfl⟩)) (fun r9 hr9 => ?_)
      subst hr9
      refine W.widen (k := 1) (n := 6) (Nat.le_of_ble_eq_true rfl) (Nat.le_of_ble_eq_true rfl) ?_
      exact vx_ret (W.iret (v := ob_ms M x1 x2) hx hb hr (fun t9 ht hW => ⟨⟨ob_ms M x1 x2, (), rfl, ⟨(by first | (rw [c4]; rfl; done) | (rw [c4, c11]; rfl; done)), rfl⟩, ob_th ht hP⟩, hS.F ht⟩) hS.2.2 dX4_greatest_33)
    · exact vx_throwS (A := fun _ => False) (names := ["java/lang/RuntimeException", "java/lang/Exception"]) (sa := sa 4) (text := "no such clock") hx hb hl9 hown (by decide +kernel) (by decide +kernel) (hts (Cond.classLink RX4 41 "java/lang/IllegalArgumentException") (List.mem_of_getElem? (i := 1) rfl)) (hts (Cond.initialized "java/lang/IllegalArgumentException") (List.mem_of_getElem? (i := 2) rfl)) (hE.2.2.2.2.2.2.2.2 4 (75, "no such clock") rfl) (vx_hat (fun w h => hts w (List.mem_cons_of_mem _ (List.mem_append_right _ (h)))) (ob_ng0) (vx_c (va_Nw.use rfl hE.2.2.1) (vx_c (va_Nw.use rfl hE.2.2.2.2.2.1) (vx_c (va_Nw.use rfl hE.2.2.2.2.2.2.1) (vx_c (va_Nw.use rfl hE.2.2.2.2.2.2.2.1) vx_n))))) (ob_gd0 41) hE.1 hE.2.1 va_S.rf (hl.1.trans hml.symm) dX4_greatest_14 dX4_greatest_17 dX4_greatest_18 dX4_greatest_20 dX4_greatest_23 (fun x9 h9 => (hext x9 h9).elim) (by decide) (by decide) (by decide) (by decide) hlocks (fun t9 _ h1 h2 => ⟨(), trivial, ⟨0, (by first | (rw [c4]; rfl; done) | (rw [c4, c11]; rfl; done)), rfl⟩, h1, fun q hq _ => h2 q hq⟩) (fun _ h => absurd h List.not_mem_nil) (by decide) (by decide)

set_option maxRecDepth 100000 in
set_option maxHeartbeats 4000000 in
theorem c_X4_write (l : Launch) (hl9 : l.stackTraces = false) (sa : Nat → Nat) (D : va_G) (t : Nat → ClassId) (sz : Nat) (ax : Nat) (ao al am ac : Nat → Nat) (M : Nat → Nat → Int32) (n : Nat) (cl rd sv pb ba bf od : Nat → Int32) (bg : Nat → Int64) (x1 x2 x3 : Int32) (b4 : Bool) (hn : n ≤ 30) : vx_Met l yX4_write wsX4_write ({ frames := 6, cells := 1, slots := 6, locals := 135 } : Room) (ob_Px D t (ob_wX ax ao al am ac ++ ob_wO t ao M ++ ob_wL t al n cl rd sv pb ba bf od bg) sz sa [.ref ax, .int x1, .int x2, .int x3, .int (ob_bi b4)]) (va_Qi (fun (r : Int32) (_ : Unit) => ob_z2 (ob_wi x1 (nI 0) (nI 4) && (ob_wi x2 (nI 0) (nI 10000) && ob_wi x3 (nI 0) (nI 5))) (decide (n < 30)) = 0 ∧ (r = nI n)) (fun (_ : Unit) (t9 : State) => va_P D vwCl (ob_wX ax ao al am ac ++ ob_wO t ao M ++ ob_wL t al (n + 1) (upd cl n x1) (upd rd n x2) (upd sv n x3) (upd pb n (ob_bi b4)) ba (ob_bf2 M (upd cl n x1) (upd rd n x2) (n + 1) bf (n + 1)) (ob_od2 (ob_bf2 M (upd cl n x1) (upd rd n x2) (n + 1) bf (n + 1)) (n + 1) od (n + 1)) bg) t9.heap) (va_A (ob_wX ax ao al am ac ++ ob_wO t ao M ++ ob_wL t al n cl rd sv pb ba bf od bg) sz)) (vx_X (fun _ : Unit => True) (fun (E9 : String) (_ : Unit) (_ : State) => ∃ i : Nat, ob_z2 (ob_wi x1 (nI 0) (nI 4) && (ob_wi x2 (nI 0) (nI 10000) && ob_wi x3 (nI 0) (nI 5))) (decide (n < 30)) = i + 1 ∧ ["java/lang/IllegalArgumentException", "java/lang/IllegalStateException"][i]? = some E9) (fun _ => False)) 1 6 (va_A (ob_wX ax ao al am ac ++ ob_wO t ao M ++ ob_wL t al n cl rd sv pb ba bf od bg) sz) := by
  refine vx_ofW (cc := cX4_write) (maxL := 6) (ret := (some .int)) (by decide) rfl ?_
  intro p e s m args below meth c s₁ B hml hext hv
  obtain ⟨rfl, hsz, hP, hk, hD0, hE⟩ := hv
  have hx := B.exec
  have hb := B.bytes
  have hr := B.returns
  have hts := atoms_spec (ws := wsX4_write) B.pre
  have hown : s.vm.findClass RX4 = some m.cls := findClass_of_methodNamed B.named
  have hlocks := B.notSynchronized
  have hK := hk.1
  have hD : va_D (va_A (ob_wX ax ao al am ac ++ ob_wO t ao M ++ ob_wL t al n cl rd sv pb ba bf od bg) sz) (ob_wX ax ao al am ac ++ ob_wO t ao M ++ ob_wL t al n cl rd sv pb ba bf od bg) := hD0.self (sz := sz)
  have hA : ∀ q : Nat, s.heap.size ≤ q → (va_A (ob_wX ax ao al am ac ++ ob_wO t ao M ++ ob_wL t al n cl rd sv pb ba bf od bg) sz) q := fun q h => Or.inr (hsz ▸ h)
  have hS : va_S (va_A (ob_wX ax ao al am ac ++ ob_wO t ao M ++ ob_wL t al n cl rd sv pb ba bf od bg) sz) s.heap s.heap [] := va_S.rf
  have hl := lv_entry [.ref ax, .int x1, .int x2, .int x3, .int (ob_bi b4)] (n := 6) (Nat.le_of_ble_eq_true rfl)
  rw [lg_entry_eq]
  generalize (lg_sl [.ref ax, .int x1, .int x2, .int x3, .int (ob_bi b4)] ++ List.replicate (6 - (lg_sl [.ref ax, .int x1, .int x2, .int x3, .int (ob_bi b4)]).length) Slot.unset).toArray = ls at hl ⊢
  have hl : lv_has ls 6 [(0, .ref ax), (1, .int x1), (2, .int x2), (3, .int x3), (4, .int (ob_bi b4))] := hl
  have hP : va_P D vwCl (ob_wX ax ao al am ac ++ ob_wO t ao M ++ ob_wL t al n cl rd sv pb ba bf od bg) s.heap := hP
  refine lv_iload_n hx hb dX4_write_0 rfl (lv_at hl 1 rfl) ?_
  refine vp_callSi (va_Run.run (va_runS (As := [.int x1]) (rest := []) ⟨hx, hb, hml, hown, hts⟩ (c_X4_isClock l D t x1) (va_cwS 1 hts gX4_write_X4_isClock rfl rfl rfl (by decide +kernel) ⟨Nat.le_of_ble_eq_true rfl, Nat.le_of_ble_eq_true rfl⟩) (ob_preS (hP.sub [] rfl) hk) rfl rfl hl.1 rfl (lv_room (Nat.le_of_ble_eq_true rfl)) dX4_write_1 ⟨Nat.le_of_ble_eq_true rfl, Nat.le_of_ble_eq_true rfl⟩)) (fun r9 hr9 => ?_)
  subst hr9
  refine ob_if_eq (tgt := 21) hx hb dX4_write_4 (by decide) (fun c4 => ?_) (fun c4 => ?_)
  · exact vx_throwS (A := fun _ => False) (names := ["java/lang/RuntimeException", "java/lang/Exception"]) (sa := sa 5) (text := "no such clock, reading or service") hx hb hl9 hown (by decide +kernel) (by decide +kernel) (hts (Cond.classLink RX4 41 "java/lang/IllegalArgumentException") (List.mem_of_getElem? (i := 1) rfl)) (hts (Cond.initialized "java/lang/IllegalArgumentException") (List.mem_of_getElem? (i := 2) rfl)) (hE.2.2.2.2.2.2.2.2 5 (84, "no such clock, reading or service") rfl) (vx_hat (fun w h => hts w (List.mem_cons_of_mem _ (List.mem_append_left _ (List.mem_append_right _ (h))))) (ob_ng0) (vx_c (va_Nw.use rfl hE.2.2.1) (vx_c (va_Nw.use rfl hE.2.2.2.2.2.1) (vx_c (va_Nw.use rfl hE.2.2.2.2.2.2.1) (vx_c (va_Nw.use rfl hE.2.2.2.2.2.2.2.1) vx_n))))) (ob_gd0 41) hE.1 hE.2.1 va_S.rf (hl.1.trans hml.symm) dX4_write_21 dX4_write_24 dX4_write_25 dX4_write_27 dX4_write_30 (fun x9 h9 => (hext x9 h9).elim) (by decide) (by decide) (by decide) (by decide) hlocks (fun t9 _ h1 h2 => ⟨(), trivial, ⟨0, (by first | (rw [c4]; rfl; done) | (rw [c4, c11]; rfl; done) | (rw [c4, c11, c18]; rfl; done) | (rw [c4, c11, c18, decide_eq_false (Nat.not_lt.mpr c40)]; rfl; done) | (rw [c4, c11, c18, decide_eq_true c40]; rfl; done)), rfl⟩, h1, fun q hq _ => h2 q hq⟩) (fun _ h => absurd h List.not_mem_nil) (by decide) (by decide)
  · refine lv_iload_n hx hb dX4_write_7 rfl (lv_at hl 2 rfl) ?_
    refine vp_callSi (va_Run.run (va_runS (As := [.int x2]) (rest := []) ⟨hx, hb, hml, hown, hts⟩ (c_X4_isReading l D t x2) (va_cwS 1 hts gX4_write_X4_isReading rfl rfl rfl (by decide +kernel) ⟨Nat.le_of_ble_eq_true rfl, Nat.le_of_ble_eq_true rfl⟩) (ob_preS (hP.sub [] rfl) hk) rfl rfl hl.1 rfl (lv_room (Nat.le_of_ble_eq_true rfl)) dX4_write_8 ⟨Nat.le_of_ble_eq_true rfl, Nat.le_of_ble_eq_true rfl⟩)) (fun r9 hr9 => ?_)
    subst hr9
    refine ob_if_eq (tgt := 21) hx hb dX4_write_11 (by decide) (fun c11 => ?_) (fun c11 => ?_)
    · exact vx_throwS (A := fun _ => False) (names := ["java/lang/RuntimeException", "java/lang/Exception"]) (sa := sa 5) (text := "no such clock, reading or service") hx hb hl9 hown (by decide +kernel) (by decide +kernel) (hts (Cond.classLink RX4 41 "java/lang/IllegalArgumentException") (List.mem_of_getElem? (i := 1) rfl)) (hts (Cond.initialized "java/lang/IllegalArgumentException") (List.mem_of_getElem? (i := 2) rfl)) (hE.2.2.2.2.2.2.2.2 5 (84, "no such clock, reading or service") rfl) (vx_hat (fun w h => hts w (List.mem_cons_of_mem _ (List.mem_append_left _ (List.mem_append_right _ (h))))) (ob_ng0) (vx_c (va_Nw.use rfl hE.2.2.1) (vx_c (va_Nw.use rfl hE.2.2.2.2.2.1) (vx_c (va_Nw.use rfl hE.2.2.2.2.2.2.1) (vx_c (va_Nw.use rfl hE.2.2.2.2.2.2.2.1) vx_n))))) (ob_gd0 41) hE.1 hE.2.1 va_S.rf (hl.1.trans hml.symm) dX4_write_21 dX4_write_24 dX4_write_25 dX4_write_27 dX4_write_30 (fun x9 h9 => (hext x9 h9).elim) (by decide) (by decide) (by decide) (by decide) hlocks (fun t9 _ h1 h2 => ⟨(), trivial, ⟨0, (by first | (rw [c4]; rfl; done) | (rw [c4, c11]; rfl; done) | (rw [c4, c11, c18]; rfl; done) | (rw [c4, c11, c18, decide_eq_false (Nat.not_lt.mpr c40)]; rfl; done) | (rw [c4, c11, c18, decide_eq_true c40]; rfl; done)), rfl⟩, h1, fun q hq _ => h2 q hq⟩) (fun _ h => absurd h List.not_mem_nil) (by decide) (by decide)
    · refine lv_iload_n hx hb dX4_write_14 rfl (lv_at hl 3 rfl) ?_
      refine vp_callSi (va_Run.run (va_runS (As := [.int x3]) (rest := []) ⟨hx, hb, hml, hown, hts⟩ (c_X4_isService l D t x3) (va_cwS 1 hts gX4_write_X4_isService rfl rfl rfl (by decide +kernel) ⟨Nat.le_of_ble_eq_true rfl, Nat.le_of_ble_eq_true rfl⟩) (ob_preS (hP.sub [] rfl) hk) rfl rfl hl.1 rfl (lv_room (Nat.le_of_ble_eq_true rfl)) dX4_write_15 ⟨Nat.le_of_ble_eq_true rfl, Nat.le_of_ble_eq_true rfl⟩)) (fun r9 hr9 => ?_)
      subst hr9
      refine ob_if_ne (tgt := 31) hx hb dX4_write_18 (by decide) (fun c18 => ?_) (fun c18 => ?_)
      · refine lv_aload_n hx hb dX4_write_31 rfl (lv_at hl 0 rfl) ?_
        refine va_get (ci := 4) (C := RX4) (T := TX4) (N := 4) hx hb hts (fun w h => List.mem_cons_of_mem _ (List.mem_append_left _ (List.mem_append_left _ (List.mem_append_left _ (List.mem_append_left _ (List.mem_append_right _ (h))))))) hown hK hP 0 rfl rfl 1 (by decide) (hts (Cond.fieldLink RX4 19 "OutageBook" "log" "LOutageBook$Log;") (List.mem_of_getElem? (i := 5) rfl)) (fun _ h9 => h9) rfl dX4_write_32 ?_
        refine vp_callSi (va_Run.run (va_runV (As := []) (rest := []) ⟨hx, hb, hml, hown, hts⟩ (c_X1_size l D t al n cl rd sv pb ba bf od bg) (cwV 0 hts gX4_write_X1_size rfl rfl rfl (by decide +kernel) ⟨Nat.le_of_ble_eq_true rfl, Nat.le_of_ble_eq_true rfl⟩) (ob_preV (ci := 1) (q0 := 0) (hP.sub [8, 9, 10, 11, 12, 13, 14, 15, 16] rfl) hk rfl rfl) rfl rfl hl.1 rfl (lv_room (Nat.le_of_ble_eq_true rfl)) dX4_write_35 ⟨Nat.le_of_ble_eq_true rfl, Nat.le_of_ble_eq_true rfl⟩)) (fun r9 hr9 => ?_)
        subst hr9
        refine lv_bipush (v := nI 30) hx hb dX4_write_38 (by decide) ?_
        refine ob_icmp_lt (tgt := 53) hx hb (by omega) (by omega) dX4_write_40 (by decide) (fun c40 => ?_) (fun c40 => ?_)
        · refine lv_aload_n hx hb dX4_write_53 rfl (lv_at hl 0 rfl) ?_
          refine va_get (ci := 4) (C := RX4) (T := TX4) (N := 4) hx hb hts (fun w h => List.mem_cons_of_mem _ (List.mem_append_left _ (List.mem_append_left _ (List.mem_append_left _ (List.mem_append_left _ (List.mem_append_right _ (h))))))) hown hK hP 0 rfl rfl 1 (by decide) (hts (Cond.fieldLink RX4 19 "OutageBook" "log" "LOutageBook$Log;") (List.mem_of_getElem? (i := 5) rfl)) (fun _ h9 => h9) rfl dX4_write_54 ?_
          refine lv_iload_n hx hb dX4_write_57 rfl (lv_at hl 1 rfl) ?_
          refine lv_iload_n hx hb dX4_write_58 rfl (lv_at hl 2 rfl) ?_
          refine lv_iload_n hx hb dX4_write_59 rfl (lv_at hl 3 rfl) ?_
          refine lv_iload hx hb dX4_write_60 (lv_at hl 4 rfl) ?_
          have hFc := va_free (wc := ob_wL t al n cl rd sv pb ba bf od bg) hD hS hA [8, 9, 10, 11, 12, 13, 14, 15, 16] rfl
          refine va_calli (va_runV (As := [.int x1, .int x2, .int x3, .int (ob_bi b4)]) (rest := []) ⟨hx, hb, hml, hown, hts⟩ (c_X1_add l D t s.heap.size al n cl rd sv pb ba bf od bg x1 x2 x3 b4 (by first | assumption | omega)) (cwV 4 hts gX4_write_X1_add rfl rfl rfl (by decide +kernel) ⟨Nat.le_of_ble_eq_true rfl, Nat.le_of_ble_eq_true rfl⟩) (ob_pmV (ci := 1) (q0 := 0) (hP.sub [8, 9, 10, 11, 12, 13, 14, 15, 16] rfl) (hD.sub [8, 9, 10, 11, 12, 13, 14, 15, 16] (by decide) rfl) hk rfl rfl) rfl rfl hl.1 rfl (lv_room (Nat.le_of_ble_eq_true rfl)) dX4_write_62 ⟨Nat.le_of_ble_eq_true rfl, Nat.le_of_ble_eq_true rfl⟩) hS (fun q _ h => hFc q h) hFc (fun r9 u9 t9 H1 locs ht hvm hw9 hB hz1 hk1 hS => ?_)
          rw [ht] at hB
          have hP := ob_jn (ws' := ob_wX ax ao al am ac ++ ob_wO t ao M ++ ob_wL t al (n + 1) (upd cl n x1) (upd rd n x2) (upd sv n x3) (upd pb n (ob_bi b4)) ba bf od bg) hP hD [none, none, none, none, none, none, none, none, some 0, some 1, some 2, some 3, some 4, some 5, some 6, some 7, some 8] [8, 9, 10, 11, 12, 13, 14, 15, 16] rfl rfl hk1 hB rfl
          have hD : va_D (va_A (ob_wX ax ao al am ac ++ ob_wO t ao M ++ ob_wL t al n cl rd sv pb ba bf od bg) sz) (ob_wX ax ao al am ac ++ ob_wO t ao M ++ ob_wL t al (n + 1) (upd cl n x1) (upd rd n x2) (upd sv n x3) (upd pb n (ob_bi b4)) ba bf od bg) := ob_dXOL hD
          generalize H1 = H at hP hS ⊢
          subst hw9
          refine lv_istore (lv' := [(5, .int (nI n)), (0, .ref ax), (1, .int x1), (2, .int x2), (3, .int x3), (4, .int (ob_bi b4))]) hx hb dX4_write_65 hl (by decide) rfl (fun ls hl => ?_)
          refine lv_aload_n hx hb dX4_write_67 rfl (lv_at hl 1 rfl) ?_
          refine va_get (ci := 4) (C := RX4) (T := TX4) (N := 4) hx hb hts (fun w h => List.mem_cons_of_mem _ (List.mem_append_left _ (List.mem_append_left _ (List.mem_append_left _ (List.mem_append_left _ (List.mem_append_right _ (h))))))) hown hK hP 0 rfl rfl 1 (by decide) (hts (Cond.fieldLink RX4 19 "OutageBook" "log" "LOutageBook$Log;") (List.mem_of_getElem? (i := 5) rfl)) (fun _ h9 => h9) rfl dX4_write_68 ?_
          refine lv_aload_n hx hb dX4_write_71 rfl (lv_at hl 1 rfl) ?_
          refine va_get (ci := 4) (C := RX4) (T := TX4) (N := 4) hx hb hts (fun w h => List.mem_cons_of_mem _ (List.mem_append_left _ (List.mem_append_left _ (List.mem_append_left _ (List.mem_append_left _ (List.mem_append_right _ (h))))))) hown hK hP 0 rfl rfl 0 (by decide) (hts (Cond.fieldLink RX4 10 "OutageBook" "offsets" "LOutageBook$Offsets;") (List.mem_of_getElem? (i := 6) rfl)) (fun _ h9 => h9) rfl dX4_write_72 ?_
          have hFc := va_free (wc := ob_wL t al (n + 1) (upd cl n x1) (upd rd n x2) (upd sv n x3) (upd pb n (ob_bi b4)) ba bf od bg ++ ob_wO t ao M) hD hS hA [8, 9, 10, 11, 12, 13, 14, 15, 16, 1, 2, 3, 4, 5, 6, 7] rfl
          refine va_callv (va_runV (As := [.ref (ao 0)]) (rest := []) ⟨hx, hb, hml, hown, hts⟩ (c_X1_arrange l D t H.size al (n + 1) (upd cl n x1) (upd rd n x2) (upd sv n x3) (upd pb n (ob_bi b4)) ba bf od bg ao M (by first | assumption | omega)) (cwV 1 hts gX4_write_X1_arrange rfl rfl rfl (by decide +kernel) ⟨Nat.le_of_ble_eq_true rfl, Nat.le_of_ble_eq_true rfl⟩) (ob_pmV (ci := 1) (q0 := 0) (hP.sub [8, 9, 10, 11, 12, 13, 14, 15, 16, 1, 2, 3, 4, 5, 6, 7] rfl) (hD.sub [8, 9, 10, 11, 12, 13, 14, 15, 16, 1, 2, 3, 4, 5, 6, 7] (by decide) rfl) hk rfl rfl) rfl rfl hl.1 rfl (lv_room (Nat.le_of_ble_eq_true rfl)) dX4_write_75 ⟨Nat.le_of_ble_eq_true rfl, Nat.le_of_ble_eq_true rfl⟩) hS (fun q _ h => hFc q h) hFc (fun u9 t9 H1 locs ht hvm hw9 hB hz1 hk1 hS => ?_)
          rw [ht] at hB
          have hP := ob_jn (ws' := ob_wX ax ao al am ac ++ ob_wO t ao M ++ ob_wL t al (n + 1) (upd cl n x1) (upd rd n x2) (upd sv n x3) (upd pb n (ob_bi b4)) ba (ob_bf2 M (upd cl n x1) (upd rd n x2) (n + 1) bf (n + 1)) (ob_od2 (ob_bf2 M (upd cl n x1) (upd rd n x2) (n + 1) bf (n + 1)) (n + 1) od (n + 1)) bg) hP hD [none, some 9, some 10, some 11, some 12, some 13, some 14, some 15, some 0, some 1, some 2, some 3, some 4, some 5, some 6, some 7, some 8] [8, 9, 10, 11, 12, 13, 14, 15, 16, 1, 2, 3, 4, 5, 6, 7] rfl rfl hk1 hB rfl
          have hD : va_D (va_A (ob_wX ax ao al am ac ++ ob_wO t ao M ++ ob_wL t al n cl rd sv pb ba bf od bg) sz) (ob_wX ax ao al am ac ++ ob_wO t ao M ++ ob_wL t al (n + 1) (upd cl n x1) (upd rd n x2) (upd sv n x3) (upd pb n (ob_bi b4)) ba (ob_bf2 M (upd cl n x1) (upd rd n x2) (n + 1) bf (n + 1)) (ob_od2 (ob_bf2 M (upd cl n x1) (upd rd n x2) (n + 1) bf (n + 1)) (n + 1) od (n + 1)) bg) := ob_dXOL hD
          generalize H1 = H at hP hS ⊢
          refine lv_iload hx hb dX4_write_78 (lv_at hl 0 rfl) ?_
          refine W.widen (k := 1) (n := 6) (Nat.le_of_ble_eq_true rfl) (Nat.le_of_ble_eq_true rfl) ?_
          exact vx_ret (W.iret (v := nI n) hx hb hr (fun t9 ht hW => ⟨⟨nI n, (), rfl, ⟨(by first | (rw [c4]; rfl; done) | (rw [c4, c11]; rfl; done) | (rw [c4, c11, c18]; rfl; done) | (rw [c4, c11, c18, decide_eq_false (Nat.not_lt.mpr c40)]; rfl; done) | (rw [c4, c11, c18, decide_eq_true c40]; rfl; done)), rfl⟩, ob_th ht hP⟩, hS.F ht⟩) hS.2.2 dX4_write_80)
        · exact vx_throwS (A := fun _ => False) (names := ["java/lang/RuntimeException", "java/lang/Exception"]) (sa := sa 6) (text := "no room for a line") hx hb hl9 hown (by decide +kernel) (by decide +kernel) (hts (Cond.classLink RX4 62 "java/lang/IllegalStateException") (List.mem_of_getElem? (i := 3) rfl)) (hts (Cond.initialized "java/lang/IllegalStateException") (List.mem_of_getElem? (i := 4) rfl)) (hE.2.2.2.2.2.2.2.2 6 (90, "no room for a line") rfl) (vx_hat (fun w h => hts w (List.mem_cons_of_mem _ (List.mem_append_right _ (h)))) (ob_ng1) (vx_c (va_Nw.use rfl hE.2.2.2.1) (vx_c (va_Nw.use rfl hE.2.2.2.2.2.1) (vx_c (va_Nw.use rfl hE.2.2.2.2.2.2.1) (vx_c (va_Nw.use rfl hE.2.2.2.2.2.2.2.1) vx_n))))) (ob_gd1 62) hE.1 hE.2.1 va_S.rf (hl.1.trans hml.symm) dX4_write_43 dX4_write_46 dX4_write_47 dX4_write_49 dX4_write_52 (fun x9 h9 => (hext x9 h9).elim) (by decide) (by decide) (by decide) (by decide) hlocks (fun t9 _ h1 h2 => ⟨(), trivial, ⟨1, (by first | (rw [c4]; rfl; done) | (rw [c4, c11]; rfl; done) | (rw [c4, c11, c18]; rfl; done) | (rw [c4, c11, c18, decide_eq_false (Nat.not_lt.mpr c40)]; rfl; done) | (rw [c4, c11, c18, decide_eq_true c40]; rfl; done)), rfl⟩, h1, fun q hq _ => h2 q hq⟩) (fun _ h => absurd h List.not_mem_nil) (by decide) (by decide)
      · exact vx_throwS (A := fun _ => False) (names := ["java/lang/RuntimeException", "java/lang/Exception"]) (sa := sa 5) (text := "no such clock, reading or service") hx hb hl9 hown (by decide +kernel) (by decide +kernel) (hts (Cond.classLink RX4 41 "java/lang/IllegalArgumentException") (List.mem_of_getElem? (i := 1) rfl)) (hts (Cond.initialized "java/lang/IllegalArgumentException") (List.mem_of_getElem? (i := 2) rfl)) (hE.2.2.2.2.2.2.2.2 5 (84, "no such clock, reading or service") rfl) (vx_hat (fun w h => hts w (List.mem_cons_of_mem _ (List.mem_append_left _ (List.mem_append_right _ (h))))) (ob_ng0) (vx_c (va_Nw.use rfl hE.2.2.1) (vx_c (va_Nw.use rfl hE.2.2.2.2.2.1) (vx_c (va_Nw.use rfl hE.2.2.2.2.2.2.1) (vx_c (va_Nw.use rfl hE.2.2.2.2.2.2.2.1) vx_n))))) (ob_gd0 41) hE.1 hE.2.1 va_S.rf (hl.1.trans hml.symm) dX4_write_21 dX4_write_24 dX4_write_25 dX4_write_27 dX4_write_30 (fun x9 h9 => (hext x9 h9).elim) (by decide) (by decide) (by decide) (by decide) hlocks (fun t9 _ h1 h2 => ⟨(), trivial, ⟨0, (by first | (rw [c4]; rfl; done) | (rw [c4, c11]; rfl; done) | (rw [c4, c11, c18]; rfl; done) | (rw [c4, c11, c18, decide_eq_false (Nat.not_lt.mpr c40)]; rfl; done) | (rw [c4, c11, c18, decide_eq_true c40]; rfl; done)), rfl⟩, h1, fun q hq _ => h2 q hq⟩) (fun _ h => absurd h List.not_mem_nil) (by decide) (by decide)

set_option maxRecDepth 100000 in
set_option maxHeartbeats 4000000 in
theorem c_X4_lines (l : Launch) (D : va_G) (t : Nat → ClassId) (ax : Nat) (ao al am ac : Nat → Nat) (n : Nat) (cl rd sv pb ba bf od : Nat → Int32) (bg : Nat → Int64) : Met l yX4_lines wsX4_lines ({ frames := 1, cells := 0, slots := 0, locals := 20 } : Room) (ob_Pp D t (ob_wX ax ao al am ac ++ ob_wL t al n cl rd sv pb ba bf od bg) [.ref ax]) (vp_Si (fun r : Int32 => r = nI n)) 0 0 (fun _ => False) := by
  refine Met.ofW (cc := cX4_lines) (maxL := 1) (ret := (some .int)) (by decide) rfl ?_
  intro p e s m args below meth c s₁ B hml hv
  obtain ⟨rfl, hP, hk⟩ := hv
  have hx := B.exec
  have hb := B.bytes
  have hr := B.returns
  have hts := atoms_spec (ws := wsX4_lines) B.pre
  have hown : s.vm.findClass RX4 = some m.cls := findClass_of_methodNamed B.named
  have hlocks := B.notSynchronized
  have hK := hk.1
  have hl := lv_entry [.ref ax] (n := 1) (Nat.le_of_ble_eq_true rfl)
  rw [lg_entry_eq]
  generalize (lg_sl [.ref ax] ++ List.replicate (1 - (lg_sl [.ref ax]).length) Slot.unset).toArray = ls at hl ⊢
  have hl : lv_has ls 1 [(0, .ref ax)] := hl
  refine lv_aload_n hx hb dX4_lines_0 rfl (lv_at hl 0 rfl) ?_
  refine va_get (ci := 4) (C := RX4) (T := TX4) (N := 4) hx hb hts (fun w h => List.mem_cons_of_mem _ (List.mem_append_left _ (List.mem_append_right _ (h)))) hown hK hP 0 rfl rfl 1 (by decide) (hts (Cond.fieldLink RX4 19 "OutageBook" "log" "LOutageBook$Log;") (List.mem_of_getElem? (i := 1) rfl)) (fun _ h9 => h9) rfl dX4_lines_1 ?_
  refine vp_callSi (va_Run.run (va_runV (As := []) (rest := []) ⟨hx, hb, hml, hown, hts⟩ (c_X1_size l D t al n cl rd sv pb ba bf od bg) (cwV 0 hts gX4_lines_X1_size rfl rfl rfl (by decide +kernel) ⟨Nat.le_of_ble_eq_true rfl, Nat.le_of_ble_eq_true rfl⟩) (ob_preV (ci := 1) (q0 := 0) (hP.sub [1, 2, 3, 4, 5, 6, 7, 8, 9] rfl) hk rfl rfl) rfl rfl hl.1 rfl (lv_room (Nat.le_of_ble_eq_true rfl)) dX4_lines_4 ⟨Nat.le_of_ble_eq_true rfl, Nat.le_of_ble_eq_true rfl⟩)) (fun r9 hr9 => ?_)
  subst hr9
  exact W.iret (v := nI n) hx hb hr (fun t9 ht hW => ⟨nI n, rfl, rfl, ht⟩) (fun _ h => absurd h List.not_mem_nil) dX4_lines_7

set_option maxRecDepth 100000 in
set_option maxHeartbeats 4000000 in
theorem c_X4_story (l : Launch) (D : va_G) (t : Nat → ClassId) (ax : Nat) (ao al am ac : Nat → Nat) (n : Nat) (cl rd sv pb ba bf od : Nat → Int32) (bg : Nat → Int64) (hn : n ≤ 30) : Met l yX4_story wsX4_story ({ frames := 3, cells := 0, slots := 0, locals := 64 } : Room) (ob_Pp D t (ob_wX ax ao al am ac ++ ob_wL t al n cl rd sv pb ba bf od bg) [.ref ax]) (vp_Si (fun r : Int32 => r = nI (ob_ct (ob_is n pb ba od) n))) 0 0 (fun _ => False) := by
  refine Met.ofW (cc := cX4_story) (maxL := 1) (ret := (some .int)) (by decide) rfl ?_
  intro p e s m args below meth c s₁ B hml hv
  obtain ⟨rfl, hP, hk⟩ := hv
  have hx := B.exec
  have hb := B.bytes
  have hr := B.returns
  have hts := atoms_spec (ws := wsX4_story) B.pre
  have hown : s.vm.findClass RX4 = some m.cls := findClass_of_methodNamed B.named
  have hlocks := B.notSynchronized
  have hK := hk.1
  have hl := lv_entry [.ref ax] (n := 1) (Nat.le_of_ble_eq_true rfl)
  rw [lg_entry_eq]
  generalize (lg_sl [.ref ax] ++ List.replicate (1 - (lg_sl [.ref ax]).length) Slot.unset).toArray = ls at hl ⊢
  have hl : lv_has ls 1 [(0, .ref ax)] := hl
  refine lv_aload_n hx hb dX4_story_0 rfl (lv_at hl 0 rfl) ?_
  refine va_get (ci := 4) (C := RX4) (T := TX4) (N := 4) hx hb hts (fun w h => List.mem_cons_of_mem _ (List.mem_append_left _ (List.mem_append_right _ (h)))) hown hK hP 0 rfl rfl 1 (by decide) (hts (Cond.fieldLink RX4 19 "OutageBook" "log" "LOutageBook$Log;") (List.mem_of_getElem? (i := 1) rfl)) (fun _ h9 => h9) rfl dX4_story_1 ?_
  refine vp_callSi (va_Run.run (va_runV (As := []) (rest := []) ⟨hx, hb, hml, hown, hts⟩ (c_X1_storySize l D t al n cl rd sv pb ba bf od bg (by first | assumption | omega)) (cwV 0 hts gX4_story_X1_storySize rfl rfl rfl (by decide +kernel) ⟨Nat.le_of_ble_eq_true rfl, Nat.le_of_ble_eq_true rfl⟩) (ob_preV (ci := 1) (q0 := 0) (hP.sub [1, 2, 3, 4, 5, 6, 7, 8, 9] rfl) hk rfl rfl) rfl rfl hl.1 rfl (lv_room (Nat.le_of_ble_eq_true rfl)) dX4_story_4 ⟨Nat.le_of_ble_eq_true rfl, Nat.le_of_ble_eq_true rfl⟩)) (fun r9 hr9 => ?_)
  subst hr9
  exact W.iret (v := nI (ob_ct (ob_is n pb ba od) n)) hx hb hr (fun t9 ht hW => ⟨nI (ob_ct (ob_is n pb ba od) n), rfl, rfl, ht⟩) (fun _ h => absurd h List.not_mem_nil) dX4_story_7

set_option maxRecDepth 100000 in
set_option maxHeartbeats 4000000 in
theorem c_X4_mustComeBefore (l : Launch) (hl9 : l.stackTraces = false) (sa : Nat → Nat) (D : va_G) (t : Nat → ClassId) (sz : Nat) (ax : Nat) (ao al am ac : Nat → Nat) (n : Nat) (cl rd sv pb ba bf od : Nat → Int32) (bg : Nat → Int64) (x1 x2 : Int32) (hn : n ≤ 30) : vx_Met l yX4_mustComeBefore wsX4_mustComeBefore ({ frames := 6, cells := 1, slots := 6, locals := 82 } : Room) (ob_Px D t (ob_wX ax ao al am ac ++ ob_wL t al n cl rd sv pb ba bf od bg) sz sa [.ref ax, .int x1, .int x2]) (va_Qi (fun (r : Int32) (_ : Unit) => ob_z1 (ob_hd n x1 && ob_hd n x2) = 0 ∧ (r = ob_bi (ob_hd n x2 && ob_hb (bf x2.toNatClampNeg) x1))) (fun (_ : Unit) (t9 : State) => va_P D vwCl (ob_wX ax ao al am ac ++ ob_wL t al n cl rd sv pb ba bf od bg) t9.heap) (va_A (ob_wX ax ao al am ac ++ ob_wL t al n cl rd sv pb ba bf od bg) sz)) (vx_X (fun _ : Unit => True) (fun (E9 : String) (_ : Unit) (_ : State) => ∃ i : Nat, ob_z1 (ob_hd n x1 && ob_hd n x2) = i + 1 ∧ ["java/lang/IndexOutOfBoundsException"][i]? = some E9) (fun _ => False)) 1 6 (va_A (ob_wX ax ao al am ac ++ ob_wL t al n cl rd sv pb ba bf od bg) sz) := by
  refine vx_ofW (cc := cX4_mustComeBefore) (maxL := 3) (ret := (some .boolean)) (by decide) rfl ?_
  intro p e s m args below meth c s₁ B hml hext hv
  obtain ⟨rfl, hsz, hP, hk, hD0, hE⟩ := hv
  have hx := B.exec
  have hb := B.bytes
  have hr := B.returns
  have hts := atoms_spec (ws := wsX4_mustComeBefore) B.pre
  have hown : s.vm.findClass RX4 = some m.cls := findClass_of_methodNamed B.named
  have hlocks := B.notSynchronized
  have hK := hk.1
  have hD : va_D (va_A (ob_wX ax ao al am ac ++ ob_wL t al n cl rd sv pb ba bf od bg) sz) (ob_wX ax ao al am ac ++ ob_wL t al n cl rd sv pb ba bf od bg) := hD0.self (sz := sz)
  have hA : ∀ q : Nat, s.heap.size ≤ q → (va_A (ob_wX ax ao al am ac ++ ob_wL t al n cl rd sv pb ba bf od bg) sz) q := fun q h => Or.inr (hsz ▸ h)
  have hS : va_S (va_A (ob_wX ax ao al am ac ++ ob_wL t al n cl rd sv pb ba bf od bg) sz) s.heap s.heap [] := va_S.rf
  have hl := lv_entry [.ref ax, .int x1, .int x2] (n := 3) (Nat.le_of_ble_eq_true rfl)
  rw [lg_entry_eq]
  generalize (lg_sl [.ref ax, .int x1, .int x2] ++ List.replicate (3 - (lg_sl [.ref ax, .int x1, .int x2]).length) Slot.unset).toArray = ls at hl ⊢
  have hl : lv_has ls 3 [(0, .ref ax), (1, .int x1), (2, .int x2)] := hl
  have hP : va_P D vwCl (ob_wX ax ao al am ac ++ ob_wL t al n cl rd sv pb ba bf od bg) s.heap := hP
  refine lv_aload_n hx hb dX4_mustComeBefore_0 rfl (lv_at hl 0 rfl) ?_
  refine va_get (ci := 4) (C := RX4) (T := TX4) (N := 4) hx hb hts (fun w h => List.mem_cons_of_mem _ (List.mem_append_left _ (List.mem_append_left _ (List.mem_append_right _ (h))))) hown hK hP 0 rfl rfl 1 (by decide) (hts (Cond.fieldLink RX4 19 "OutageBook" "log" "LOutageBook$Log;") (List.mem_of_getElem? (i := 3) rfl)) (fun _ h9 => h9) rfl dX4_mustComeBefore_1 ?_
  refine lv_iload_n hx hb dX4_mustComeBefore_4 rfl (lv_at hl 1 rfl) ?_
  refine vp_callSi (va_Run.run (va_runV (As := [.int x1]) (rest := []) ⟨hx, hb, hml, hown, hts⟩ (c_X1_holds l D t al n cl rd sv pb ba bf od bg x1 (by first | assumption | omega)) (cwV 1 hts gX4_mustComeBefore_X1_holds rfl rfl rfl (by decide +kernel) ⟨Nat.le_of_ble_eq_true rfl, Nat.le_of_ble_eq_true rfl⟩) (ob_preV (ci := 1) (q0 := 0) (hP.sub [1, 2, 3, 4, 5, 6, 7, 8, 9] rfl) hk rfl rfl) rfl rfl hl.1 rfl (lv_room (Nat.le_of_ble_eq_true rfl)) dX4_mustComeBefore_5 ⟨Nat.le_of_ble_eq_true rfl, Nat.le_of_ble_eq_true rfl⟩)) (fun r9 hr9 => ?_)
  subst hr9
  refine ob_if_eq (tgt := 22) hx hb dX4_mustComeBefore_8 (by decide) (fun c8 => ?_) (fun c8 => ?_)
  · exact vx_throwS (A := fun _ => False) (names := ["java/lang/RuntimeException", "java/lang/Exception"]) (sa := sa 7) (text := "no such line") hx hb hl9 hown (by decide +kernel) (by decide +kernel) (hts (Cond.classLink RX4 99 "java/lang/IndexOutOfBoundsException") (List.mem_of_getElem? (i := 1) rfl)) (hts (Cond.initialized "java/lang/IndexOutOfBoundsException") (List.mem_of_getElem? (i := 2) rfl)) (hE.2.2.2.2.2.2.2.2 7 (101, "no such line") rfl) (vx_hat (fun w h => hts w (List.mem_cons_of_mem _ (List.mem_append_right _ (h)))) (ob_ng2) (vx_c (va_Nw.use rfl hE.2.2.2.2.1) (vx_c (va_Nw.use rfl hE.2.2.2.2.2.1) (vx_c (va_Nw.use rfl hE.2.2.2.2.2.2.1) (vx_c (va_Nw.use rfl hE.2.2.2.2.2.2.2.1) vx_n))))) (ob_gd2 99) hE.1 hE.2.1 va_S.rf (hl.1.trans hml.symm) dX4_mustComeBefore_22 dX4_mustComeBefore_25 dX4_mustComeBefore_26 dX4_mustComeBefore_28 dX4_mustComeBefore_31 (fun x9 h9 => (hext x9 h9).elim) (by decide) (by decide) (by decide) (by decide) hlocks (fun t9 _ h1 h2 => ⟨(), trivial, ⟨0, (by first | (rw [c8]; rfl; done) | (rw [c8, c19]; rfl; done)), rfl⟩, h1, fun q hq _ => h2 q hq⟩) (fun _ h => absurd h List.not_mem_nil) (by decide) (by decide)
  · refine lv_aload_n hx hb dX4_mustComeBefore_11 rfl (lv_at hl 0 rfl) ?_
    refine va_get (ci := 4) (C := RX4) (T := TX4) (N := 4) hx hb hts (fun w h => List.mem_cons_of_mem _ (List.mem_append_left _ (List.mem_append_left _ (List.mem_append_right _ (h))))) hown hK hP 0 rfl rfl 1 (by decide) (hts (Cond.fieldLink RX4 19 "OutageBook" "log" "LOutageBook$Log;") (List.mem_of_getElem? (i := 3) rfl)) (fun _ h9 => h9) rfl dX4_mustComeBefore_12 ?_
    refine lv_iload_n hx hb dX4_mustComeBefore_15 rfl (lv_at hl 2 rfl) ?_
    refine vp_callSi (va_Run.run (va_runV (As := [.int x2]) (rest := []) ⟨hx, hb, hml, hown, hts⟩ (c_X1_holds l D t al n cl rd sv pb ba bf od bg x2 (by first | assumption | omega)) (cwV 1 hts gX4_mustComeBefore_X1_holds rfl rfl rfl (by decide +kernel) ⟨Nat.le_of_ble_eq_true rfl, Nat.le_of_ble_eq_true rfl⟩) (ob_preV (ci := 1) (q0 := 0) (hP.sub [1, 2, 3, 4, 5, 6, 7, 8, 9] rfl) hk rfl rfl) rfl rfl hl.1 rfl (lv_room (Nat.le_of_ble_eq_true rfl)) dX4_mustComeBefore_16 ⟨Nat.le_of_ble_eq_true rfl, Nat.le_of_ble_eq_true rfl⟩)) (fun r9 hr9 => ?_)
    subst hr9
    refine ob_if_ne (tgt := 32) hx hb dX4_mustComeBefore_19 (by decide) (fun c19 => ?_) (fun c19 => ?_)
    · refine lv_aload_n hx hb dX4_mustComeBefore_32 rfl (lv_at hl 0 rfl) ?_
      refine va_get (ci := 4) (C := RX4) (T := TX4) (N := 4) hx hb hts (fun w h => List.mem_cons_of_mem _ (List.mem_append_left _ (List.mem_append_left _ (List.mem_append_right _ (h))))) hown hK hP 0 rfl rfl 1 (by decide) (hts (Cond.fieldLink RX4 19 "OutageBook" "log" "LOutageBook$Log;") (List.mem_of_getElem? (i := 3) rfl)) (fun _ h9 => h9) rfl dX4_mustComeBefore_33 ?_
      refine lv_iload_n hx hb dX4_mustComeBefore_36 rfl (lv_at hl 1 rfl) ?_
      refine lv_iload_n hx hb dX4_mustComeBefore_37 rfl (lv_at hl 2 rfl) ?_
      refine vp_callSi (va_Run.run (va_runV (As := [.int x1, .int x2]) (rest := []) ⟨hx, hb, hml, hown, hts⟩ (c_X1_isBefore l D t al n cl rd sv pb ba bf od bg x1 x2 (by first | assumption | omega)) (cwV 2 hts gX4_mustComeBefore_X1_isBefore rfl rfl rfl (by decide +kernel) ⟨Nat.le_of_ble_eq_true rfl, Nat.le_of_ble_eq_true rfl⟩) (ob_preV (ci := 1) (q0 := 0) (hP.sub [1, 2, 3, 4, 5, 6, 7, 8, 9] rfl) hk rfl rfl) rfl rfl hl.1 rfl (lv_room (Nat.le_of_ble_eq_true rfl)) dX4_mustComeBefore_38 ⟨Nat.le_of_ble_eq_true rfl, Nat.le_of_ble_eq_true rfl⟩)) (fun r9 hr9 => ?_)
      subst hr9
      refine W.widen (k := 1) (n := 6) (Nat.le_of_ble_eq_true rfl) (Nat.le_of_ble_eq_true rfl) ?_
      exact vx_ret (W.zret (v := ob_bi (ob_hd n x2 && ob_hb (bf x2.toNatClampNeg) x1)) hx hb hr (ob_narZ _) (fun t9 ht hW => ⟨⟨ob_bi (ob_hd n x2 && ob_hb (bf x2.toNatClampNeg) x1), (), rfl, ⟨(by first | (rw [c8]; rfl; done) | (rw [c8, c19]; rfl; done)), rfl⟩, ob_th ht hP⟩, hS.F ht⟩) hS.2.2 dX4_mustComeBefore_41)
    · exact vx_throwS (A := fun _ => False) (names := ["java/lang/RuntimeException", "java/lang/Exception"]) (sa := sa 7) (text := "no such line") hx hb hl9 hown (by decide +kernel) (by decide +kernel) (hts (Cond.classLink RX4 99 "java/lang/IndexOutOfBoundsException") (List.mem_of_getElem? (i := 1) rfl)) (hts (Cond.initialized "java/lang/IndexOutOfBoundsException") (List.mem_of_getElem? (i := 2) rfl)) (hE.2.2.2.2.2.2.2.2 7 (101, "no such line") rfl) (vx_hat (fun w h => hts w (List.mem_cons_of_mem _ (List.mem_append_right _ (h)))) (ob_ng2) (vx_c (va_Nw.use rfl hE.2.2.2.2.1) (vx_c (va_Nw.use rfl hE.2.2.2.2.2.1) (vx_c (va_Nw.use rfl hE.2.2.2.2.2.2.1) (vx_c (va_Nw.use rfl hE.2.2.2.2.2.2.2.1) vx_n))))) (ob_gd2 99) hE.1 hE.2.1 va_S.rf (hl.1.trans hml.symm) dX4_mustComeBefore_22 dX4_mustComeBefore_25 dX4_mustComeBefore_26 dX4_mustComeBefore_28 dX4_mustComeBefore_31 (fun x9 h9 => (hext x9 h9).elim) (by decide) (by decide) (by decide) (by decide) hlocks (fun t9 _ h1 h2 => ⟨(), trivial, ⟨0, (by first | (rw [c8]; rfl; done) | (rw [c8, c19]; rfl; done)), rfl⟩, h1, fun q hq _ => h2 q hq⟩) (fun _ h => absurd h List.not_mem_nil) (by decide) (by decide)

set_option maxRecDepth 100000 in
set_option maxHeartbeats 4000000 in
theorem c_X4_lineAt (l : Launch) (hl9 : l.stackTraces = false) (sa : Nat → Nat) (D : va_G) (t : Nat → ClassId) (sz : Nat) (ax : Nat) (ao al am ac : Nat → Nat) (n : Nat) (cl rd sv pb ba bf od : Nat → Int32) (bg : Nat → Int64) (x : Int32) (hn : n ≤ 30) : vx_Met l yX4_lineAt wsX4_lineAt ({ frames := 6, cells := 1, slots := 6, locals := 82 } : Room) (ob_Px D t (ob_wX ax ao al am ac ++ ob_wL t al n cl rd sv pb ba bf od bg) sz sa [.ref ax, .int x]) (va_Qi (fun (r : Int32) (_ : Unit) => ob_z1 (ob_hd n x) = 0 ∧ (r = ob_at n od x)) (fun (_ : Unit) (t9 : State) => va_P D vwCl (ob_wX ax ao al am ac ++ ob_wL t al n cl rd sv pb ba bf od bg) t9.heap) (va_A (ob_wX ax ao al am ac ++ ob_wL t al n cl rd sv pb ba bf od bg) sz)) (vx_X (fun _ : Unit => True) (fun (E9 : String) (_ : Unit) (_ : State) => ∃ i : Nat, ob_z1 (ob_hd n x) = i + 1 ∧ ["java/lang/IndexOutOfBoundsException"][i]? = some E9) (fun _ => False)) 1 6 (va_A (ob_wX ax ao al am ac ++ ob_wL t al n cl rd sv pb ba bf od bg) sz) := by
  refine vx_ofW (cc := cX4_lineAt) (maxL := 2) (ret := (some .int)) (by decide) rfl ?_
  intro p e s m args below meth c s₁ B hml hext hv
  obtain ⟨rfl, hsz, hP, hk, hD0, hE⟩ := hv
  have hx := B.exec
  have hb := B.bytes
  have hr := B.returns
  have hts := atoms_spec (ws := wsX4_lineAt) B.pre
  have hown : s.vm.findClass RX4 = some m.cls := findClass_of_methodNamed B.named
  have hlocks := B.notSynchronized
  have hK := hk.1
  have hD : va_D (va_A (ob_wX ax ao al am ac ++ ob_wL t al n cl rd sv pb ba bf od bg) sz) (ob_wX ax ao al am ac ++ ob_wL t al n cl rd sv pb ba bf od bg) := hD0.self (sz := sz)
  have hA : ∀ q : Nat, s.heap.size ≤ q → (va_A (ob_wX ax ao al am ac ++ ob_wL t al n cl rd sv pb ba bf od bg) sz) q := fun q h => Or.inr (hsz ▸ h)
  have hS : va_S (va_A (ob_wX ax ao al am ac ++ ob_wL t al n cl rd sv pb ba bf od bg) sz) s.heap s.heap [] := va_S.rf
  have hl := lv_entry [.ref ax, .int x] (n := 2) (Nat.le_of_ble_eq_true rfl)
  rw [lg_entry_eq]
  generalize (lg_sl [.ref ax, .int x] ++ List.replicate (2 - (lg_sl [.ref ax, .int x]).length) Slot.unset).toArray = ls at hl ⊢
  have hl : lv_has ls 2 [(0, .ref ax), (1, .int x)] := hl
  have hP : va_P D vwCl (ob_wX ax ao al am ac ++ ob_wL t al n cl rd sv pb ba bf od bg) s.heap := hP
  refine lv_aload_n hx hb dX4_lineAt_0 rfl (lv_at hl 0 rfl) ?_
  refine va_get (ci := 4) (C := RX4) (T := TX4) (N := 4) hx hb hts (fun w h => List.mem_cons_of_mem _ (List.mem_append_left _ (List.mem_append_left _ (List.mem_append_right _ (h))))) hown hK hP 0 rfl rfl 1 (by decide) (hts (Cond.fieldLink RX4 19 "OutageBook" "log" "LOutageBook$Log;") (List.mem_of_getElem? (i := 3) rfl)) (fun _ h9 => h9) rfl dX4_lineAt_1 ?_
  refine lv_iload_n hx hb dX4_lineAt_4 rfl (lv_at hl 1 rfl) ?_
  refine vp_callSi (va_Run.run (va_runV (As := [.int x]) (rest := []) ⟨hx, hb, hml, hown, hts⟩ (c_X1_holds l D t al n cl rd sv pb ba bf od bg x (by first | assumption | omega)) (cwV 1 hts gX4_lineAt_X1_holds rfl rfl rfl (by decide +kernel) ⟨Nat.le_of_ble_eq_true rfl, Nat.le_of_ble_eq_true rfl⟩) (ob_preV (ci := 1) (q0 := 0) (hP.sub [1, 2, 3, 4, 5, 6, 7, 8, 9] rfl) hk rfl rfl) rfl rfl hl.1 rfl (lv_room (Nat.le_of_ble_eq_true rfl)) dX4_lineAt_5 ⟨Nat.le_of_ble_eq_true rfl, Nat.le_of_ble_eq_true rfl⟩)) (fun r9 hr9 => ?_)
  subst hr9
  refine ob_if_ne (tgt := 21) hx hb dX4_lineAt_8 (by decide) (fun c8 => ?_) (fun c8 => ?_)
  · refine lv_aload_n hx hb dX4_lineAt_21 rfl (lv_at hl 0 rfl) ?_
    refine va_get (ci := 4) (C := RX4) (T := TX4) (N := 4) hx hb hts (fun w h => List.mem_cons_of_mem _ (List.mem_append_left _ (List.mem_append_left _ (List.mem_append_right _ (h))))) hown hK hP 0 rfl rfl 1 (by decide) (hts (Cond.fieldLink RX4 19 "OutageBook" "log" "LOutageBook$Log;") (List.mem_of_getElem? (i := 3) rfl)) (fun _ h9 => h9) rfl dX4_lineAt_22 ?_
    refine lv_iload_n hx hb dX4_lineAt_25 rfl (lv_at hl 1 rfl) ?_
    refine vp_callSi (va_Run.run (va_runV (As := [.int x]) (rest := []) ⟨hx, hb, hml, hown, hts⟩ (c_X1_at l D t al n cl rd sv pb ba bf od bg x (by first | assumption | omega)) (cwV 1 hts gX4_lineAt_X1_at rfl rfl rfl (by decide +kernel) ⟨Nat.le_of_ble_eq_true rfl, Nat.le_of_ble_eq_true rfl⟩) (ob_preV (ci := 1) (q0 := 0) (hP.sub [1, 2, 3, 4, 5, 6, 7, 8, 9] rfl) hk rfl rfl) rfl rfl hl.1 rfl (lv_room (Nat.le_of_ble_eq_true rfl)) dX4_lineAt_26 ⟨Nat.le_of_ble_eq_true rfl, Nat.le_of_ble_eq_true rfl⟩)) (fun r9 hr9 => ?_)
    subst hr9
    refine W.widen (k := 1) (n := 6) (Nat.le_of_ble_eq_true rfl) (Nat.le_of_ble_eq_true rfl) ?_
    exact vx_ret (W.iret (v := ob_at n od x) hx hb hr (fun t9 ht hW => ⟨⟨ob_at n od x, (), rfl, ⟨(by rw [c8]; rfl), rfl⟩, ob_th ht hP⟩, hS.F ht⟩) hS.2.2 dX4_lineAt_29)
  · exact vx_throwS (A := fun _ => False) (names := ["java/lang/RuntimeException", "java/lang/Exception"]) (sa := sa 8) (text := "no such place") hx hb hl9 hown (by decide +kernel) (by decide +kernel) (hts (Cond.classLink RX4 99 "java/lang/IndexOutOfBoundsException") (List.mem_of_getElem? (i := 1) rfl)) (hts (Cond.initialized "java/lang/IndexOutOfBoundsException") (List.mem_of_getElem? (i := 2) rfl)) (hE.2.2.2.2.2.2.2.2 8 (108, "no such place") rfl) (vx_hat (fun w h => hts w (List.mem_cons_of_mem _ (List.mem_append_right _ (h)))) (ob_ng2) (vx_c (va_Nw.use rfl hE.2.2.2.2.1) (vx_c (va_Nw.use rfl hE.2.2.2.2.2.1) (vx_c (va_Nw.use rfl hE.2.2.2.2.2.2.1) (vx_c (va_Nw.use rfl hE.2.2.2.2.2.2.2.1) vx_n))))) (ob_gd2 99) hE.1 hE.2.1 va_S.rf (hl.1.trans hml.symm) dX4_lineAt_11 dX4_lineAt_14 dX4_lineAt_15 dX4_lineAt_17 dX4_lineAt_20 (fun x9 h9 => (hext x9 h9).elim) (by decide) (by decide) (by decide) (by decide) hlocks (fun t9 _ h1 h2 => ⟨(), trivial, ⟨0, (by rw [c8]; rfl), rfl⟩, h1, fun q hq _ => h2 q hq⟩) (fun _ h => absurd h List.not_mem_nil) (by decide) (by decide)

set_option maxRecDepth 100000 in
set_option maxHeartbeats 4000000 in
theorem c_X4_orders (l : Launch) (hl9 : l.stackTraces = false) (sa : Nat → Nat) (D : va_G) (t : Nat → ClassId) (sz : Nat) (ax : Nat) (ao al am ac : Nat → Nat) (n : Nat) (cl rd sv pb ba bf od : Nat → Int32) (bg : Nat → Int64) (hn : n ≤ 30) : vx_Met l yX4_orders wsX4_orders ({ frames := 6, cells := 1, slots := 6, locals := 82 } : Room) (ob_Px D t (ob_wX ax ao al am ac ++ ob_wL t al n cl rd sv pb ba bf od bg) sz sa [.ref ax]) (va_Ql (fun (r : Int64) (_ : Unit) => ob_z1 (decide (n ≤ 12)) = 0 ∧ (r = ob_F bf n bg (2 ^ n) (2 ^ n - 1))) (fun (_ : Unit) (t9 : State) => va_P D vwCl (ob_wX ax ao al am ac ++ ob_wL t al n cl rd sv pb ba bf od (ob_F bf n bg (2 ^ n))) t9.heap) (va_A (ob_wX ax ao al am ac ++ ob_wL t al n cl rd sv pb ba bf od bg) sz)) (vx_X (fun _ : Unit => True) (fun (E9 : String) (_ : Unit) (_ : State) => ∃ i : Nat, ob_z1 (decide (n ≤ 12)) = i + 1 ∧ ["java/lang/IllegalStateException"][i]? = some E9) (fun _ => False)) 1 6 (va_A (ob_wX ax ao al am ac ++ ob_wL t al n cl rd sv pb ba bf od bg) sz) := by
  refine vx_ofW (cc := cX4_orders) (maxL := 1) (ret := (some .long)) (by decide) rfl ?_
  intro p e s m args below meth c s₁ B hml hext hv
  obtain ⟨rfl, hsz, hP, hk, hD0, hE⟩ := hv
  have hx := B.exec
  have hb := B.bytes
  have hr := B.returns
  have hts := atoms_spec (ws := wsX4_orders) B.pre
  have hown : s.vm.findClass RX4 = some m.cls := findClass_of_methodNamed B.named
  have hlocks := B.notSynchronized
  have hK := hk.1
  have hD : va_D (va_A (ob_wX ax ao al am ac ++ ob_wL t al n cl rd sv pb ba bf od bg) sz) (ob_wX ax ao al am ac ++ ob_wL t al n cl rd sv pb ba bf od bg) := hD0.self (sz := sz)
  have hA : ∀ q : Nat, s.heap.size ≤ q → (va_A (ob_wX ax ao al am ac ++ ob_wL t al n cl rd sv pb ba bf od bg) sz) q := fun q h => Or.inr (hsz ▸ h)
  have hS : va_S (va_A (ob_wX ax ao al am ac ++ ob_wL t al n cl rd sv pb ba bf od bg) sz) s.heap s.heap [] := va_S.rf
  have hl := lv_entry [.ref ax] (n := 1) (Nat.le_of_ble_eq_true rfl)
  rw [lg_entry_eq]
  generalize (lg_sl [.ref ax] ++ List.replicate (1 - (lg_sl [.ref ax]).length) Slot.unset).toArray = ls at hl ⊢
  have hl : lv_has ls 1 [(0, .ref ax)] := hl
  have hP : va_P D vwCl (ob_wX ax ao al am ac ++ ob_wL t al n cl rd sv pb ba bf od bg) s.heap := hP
  refine lv_aload_n hx hb dX4_orders_0 rfl (lv_at hl 0 rfl) ?_
  refine va_get (ci := 4) (C := RX4) (T := TX4) (N := 4) hx hb hts (fun w h => List.mem_cons_of_mem _ (List.mem_append_left _ (List.mem_append_left _ (List.mem_append_right _ (h))))) hown hK hP 0 rfl rfl 1 (by decide) (hts (Cond.fieldLink RX4 19 "OutageBook" "log" "LOutageBook$Log;") (List.mem_of_getElem? (i := 3) rfl)) (fun _ h9 => h9) rfl dX4_orders_1 ?_
  refine vp_callSi (va_Run.run (va_runV (As := []) (rest := []) ⟨hx, hb, hml, hown, hts⟩ (c_X1_size l D t al n cl rd sv pb ba bf od bg) (cwV 0 hts gX4_orders_X1_size rfl rfl rfl (by decide +kernel) ⟨Nat.le_of_ble_eq_true rfl, Nat.le_of_ble_eq_true rfl⟩) (ob_preV (ci := 1) (q0 := 0) (hP.sub [1, 2, 3, 4, 5, 6, 7, 8, 9] rfl) hk rfl rfl) rfl rfl hl.1 rfl (lv_room (Nat.le_of_ble_eq_true rfl)) dX4_orders_4 ⟨Nat.le_of_ble_eq_true rfl, Nat.le_of_ble_eq_true rfl⟩)) (fun r9 hr9 => ?_)
  subst hr9
  refine lv_bipush (v := nI 12) hx hb dX4_orders_7 (by decide) ?_
  refine ob_icmp_le (tgt := 22) hx hb (by omega) (by omega) dX4_orders_9 (by decide) (fun c9 => ?_) (fun c9 => ?_)
  · refine lv_aload_n hx hb dX4_orders_22 rfl (lv_at hl 0 rfl) ?_
    refine va_get (ci := 4) (C := RX4) (T := TX4) (N := 4) hx hb hts (fun w h => List.mem_cons_of_mem _ (List.mem_append_left _ (List.mem_append_left _ (List.mem_append_right _ (h))))) hown hK hP 0 rfl rfl 1 (by decide) (hts (Cond.fieldLink RX4 19 "OutageBook" "log" "LOutageBook$Log;") (List.mem_of_getElem? (i := 3) rfl)) (fun _ h9 => h9) rfl dX4_orders_23 ?_
    have hFc := va_free (wc := ob_wL t al n cl rd sv pb ba bf od bg) hD hS hA [1, 2, 3, 4, 5, 6, 7, 8, 9] rfl
    refine va_calll (va_runV (As := []) (rest := []) ⟨hx, hb, hml, hown, hts⟩ (c_X1_countOrders l D t s.heap.size al n cl rd sv pb ba bf od bg c9) (cwV 0 hts gX4_orders_X1_countOrders rfl rfl rfl (by decide +kernel) ⟨Nat.le_of_ble_eq_true rfl, Nat.le_of_ble_eq_true rfl⟩) (ob_pmV (ci := 1) (q0 := 0) (hP.sub [1, 2, 3, 4, 5, 6, 7, 8, 9] rfl) (hD.sub [1, 2, 3, 4, 5, 6, 7, 8, 9] (by decide) rfl) hk rfl rfl) rfl rfl hl.1 rfl (lv_room (Nat.le_of_ble_eq_true rfl)) dX4_orders_26 ⟨Nat.le_of_ble_eq_true rfl, Nat.le_of_ble_eq_true rfl⟩) hS (fun q _ h => hFc q h) hFc (fun r9 u9 t9 H1 locs ht hvm hw9 hB hz1 hk1 hS => ?_)
    rw [ht] at hB
    have hP := ob_jn (ws' := ob_wX ax ao al am ac ++ ob_wL t al n cl rd sv pb ba bf od (ob_F bf n bg (2 ^ n))) hP hD [none, some 0, some 1, some 2, some 3, some 4, some 5, some 6, some 7, some 8] [1, 2, 3, 4, 5, 6, 7, 8, 9] rfl rfl hk1 hB rfl
    have hD : va_D (va_A (ob_wX ax ao al am ac ++ ob_wL t al n cl rd sv pb ba bf od bg) sz) (ob_wX ax ao al am ac ++ ob_wL t al n cl rd sv pb ba bf od (ob_F bf n bg (2 ^ n))) := ob_dXL hD
    generalize H1 = H at hP hS ⊢
    subst hw9
    refine W.widen (k := 1) (n := 6) (Nat.le_of_ble_eq_true rfl) (Nat.le_of_ble_eq_true rfl) ?_
    exact vx_ret (W.lret (v := ob_F bf n bg (2 ^ n) (2 ^ n - 1)) hx hb hr (fun t9 ht hW => ⟨⟨ob_F bf n bg (2 ^ n) (2 ^ n - 1), (), rfl, ⟨(by first | (rw [decide_eq_true c9]; rfl; done) | (rw [decide_eq_false (Nat.not_le.mpr c9)]; rfl; done)), rfl⟩, ob_th ht hP⟩, hS.F ht⟩) hS.2.2 dX4_orders_29)
  · exact vx_throwS (A := fun _ => False) (names := ["java/lang/RuntimeException", "java/lang/Exception"]) (sa := sa 9) (text := "too many lines") hx hb hl9 hown (by decide +kernel) (by decide +kernel) (hts (Cond.classLink RX4 62 "java/lang/IllegalStateException") (List.mem_of_getElem? (i := 1) rfl)) (hts (Cond.initialized "java/lang/IllegalStateException") (List.mem_of_getElem? (i := 2) rfl)) (hE.2.2.2.2.2.2.2.2 9 (114, "too many lines") rfl) (vx_hat (fun w h => hts w (List.mem_cons_of_mem _ (List.mem_append_right _ (h)))) (ob_ng1) (vx_c (va_Nw.use rfl hE.2.2.2.1) (vx_c (va_Nw.use rfl hE.2.2.2.2.2.1) (vx_c (va_Nw.use rfl hE.2.2.2.2.2.2.1) (vx_c (va_Nw.use rfl hE.2.2.2.2.2.2.2.1) vx_n))))) (ob_gd1 62) hE.1 hE.2.1 va_S.rf (hl.1.trans hml.symm) dX4_orders_12 dX4_orders_15 dX4_orders_16 dX4_orders_18 dX4_orders_21 (fun x9 h9 => (hext x9 h9).elim) (by decide) (by decide) (by decide) (by decide) hlocks (fun t9 _ h1 h2 => ⟨(), trivial, ⟨0, (by first | (rw [decide_eq_true c9]; rfl; done) | (rw [decide_eq_false (Nat.not_le.mpr c9)]; rfl; done)), rfl⟩, h1, fun q hq _ => h2 q hq⟩) (fun _ h => absurd h List.not_mem_nil) (by decide) (by decide)

set_option maxRecDepth 100000 in
set_option maxHeartbeats 4000000 in
theorem c_X4_argue (l : Launch) (hl9 : l.stackTraces = false) (sa : Nat → Nat) (D : va_G) (t : Nat → ClassId) (sz : Nat) (ax : Nat) (ao al am ac : Nat → Nat) (n : Nat) (cl rd sv pb ba bf od : Nat → Int32) (bg : Nat → Int64) (x1 x2 : Int32) (b3 : Bool) (hn : n ≤ 30) : vx_Met l yX4_argue wsX4_argue ({ frames := 6, cells := 1, slots := 6, locals := 82 } : Room) (ob_Px D t (ob_wX ax ao al am ac ++ ob_wL t al n cl rd sv pb ba bf od bg) sz sa [.ref ax, .int x1, .int x2, .int (ob_bi b3)]) (va_Qi (fun (r : Int32) (_ : Unit) => ob_z2 (ob_hd n x1) (ob_wi x2 (nI 1) (nI 100)) = 0 ∧ (r = ba x1.toNatClampNeg + if b3 then x2 else -x2)) (fun (_ : Unit) (t9 : State) => va_P D vwCl (ob_wX ax ao al am ac ++ ob_wL t al n cl rd sv pb (upd ba x1.toNatClampNeg (ba x1.toNatClampNeg + if b3 then x2 else -x2)) bf od bg) t9.heap) (va_A (ob_wX ax ao al am ac ++ ob_wL t al n cl rd sv pb ba bf od bg) sz)) (vx_X (fun _ : Unit => True) (fun (E9 : String) (_ : Unit) (_ : State) => ∃ i : Nat, ob_z2 (ob_hd n x1) (ob_wi x2 (nI 1) (nI 100)) = i + 1 ∧ ["java/lang/IndexOutOfBoundsException", "java/lang/IllegalArgumentException"][i]? = some E9) (fun _ => False)) 1 6 (va_A (ob_wX ax ao al am ac ++ ob_wL t al n cl rd sv pb ba bf od bg) sz) := by
  refine vx_ofW (cc := cX4_argue) (maxL := 4) (ret := (some .int)) (by decide) rfl ?_
  intro p e s m args below meth c s₁ B hml hext hv
  obtain ⟨rfl, hsz, hP, hk, hD0, hE⟩ := hv
  have hx := B.exec
  have hb := B.bytes
  have hr := B.returns
  have hts := atoms_spec (ws := wsX4_argue) B.pre
  have hown : s.vm.findClass RX4 = some m.cls := findClass_of_methodNamed B.named
  have hlocks := B.notSynchronized
  have hK := hk.1
  have hD : va_D (va_A (ob_wX ax ao al am ac ++ ob_wL t al n cl rd sv pb ba bf od bg) sz) (ob_wX ax ao al am ac ++ ob_wL t al n cl rd sv pb ba bf od bg) := hD0.self (sz := sz)
  have hA : ∀ q : Nat, s.heap.size ≤ q → (va_A (ob_wX ax ao al am ac ++ ob_wL t al n cl rd sv pb ba bf od bg) sz) q := fun q h => Or.inr (hsz ▸ h)
  have hS : va_S (va_A (ob_wX ax ao al am ac ++ ob_wL t al n cl rd sv pb ba bf od bg) sz) s.heap s.heap [] := va_S.rf
  have hl := lv_entry [.ref ax, .int x1, .int x2, .int (ob_bi b3)] (n := 4) (Nat.le_of_ble_eq_true rfl)
  rw [lg_entry_eq]
  generalize (lg_sl [.ref ax, .int x1, .int x2, .int (ob_bi b3)] ++ List.replicate (4 - (lg_sl [.ref ax, .int x1, .int x2, .int (ob_bi b3)]).length) Slot.unset).toArray = ls at hl ⊢
  have hl : lv_has ls 4 [(0, .ref ax), (1, .int x1), (2, .int x2), (3, .int (ob_bi b3))] := hl
  have hP : va_P D vwCl (ob_wX ax ao al am ac ++ ob_wL t al n cl rd sv pb ba bf od bg) s.heap := hP
  refine lv_aload_n hx hb dX4_argue_0 rfl (lv_at hl 0 rfl) ?_
  refine va_get (ci := 4) (C := RX4) (T := TX4) (N := 4) hx hb hts (fun w h => List.mem_cons_of_mem _ (List.mem_append_left _ (List.mem_append_left _ (List.mem_append_left _ (List.mem_append_right _ (h)))))) hown hK hP 0 rfl rfl 1 (by decide) (hts (Cond.fieldLink RX4 19 "OutageBook" "log" "LOutageBook$Log;") (List.mem_of_getElem? (i := 5) rfl)) (fun _ h9 => h9) rfl dX4_argue_1 ?_
  refine lv_iload_n hx hb dX4_argue_4 rfl (lv_at hl 1 rfl) ?_
  refine vp_callSi (va_Run.run (va_runV (As := [.int x1]) (rest := []) ⟨hx, hb, hml, hown, hts⟩ (c_X1_holds l D t al n cl rd sv pb ba bf od bg x1 (by first | assumption | omega)) (cwV 1 hts gX4_argue_X1_holds rfl rfl rfl (by decide +kernel) ⟨Nat.le_of_ble_eq_true rfl, Nat.le_of_ble_eq_true rfl⟩) (ob_preV (ci := 1) (q0 := 0) (hP.sub [1, 2, 3, 4, 5, 6, 7, 8, 9] rfl) hk rfl rfl) rfl rfl hl.1 rfl (lv_room (Nat.le_of_ble_eq_true rfl)) dX4_argue_5 ⟨Nat.le_of_ble_eq_true rfl, Nat.le_of_ble_eq_true rfl⟩)) (fun r9 hr9 => ?_)
  subst hr9
  refine ob_if_ne (tgt := 21) hx hb dX4_argue_8 (by decide) (fun c8 => ?_) (fun c8 => ?_)
  · refine lv_iload_n hx hb dX4_argue_21 rfl (lv_at hl 2 rfl) ?_
    refine lv_iconst (v := nI 1) hx hb dX4_argue_22 (by decide) ?_
    refine lv_bipush (v := nI 100) hx hb dX4_argue_23 (by decide) ?_
    refine vp_callSi (va_Run.run (va_runS (As := [.int x2, .int (nI 1), .int (nI 100)]) (rest := []) ⟨hx, hb, hml, hown, hts⟩ (c_X4_isWithin l D t x2 (nI 1) (nI 100)) (va_cwS 3 hts gX4_argue_X4_isWithin rfl rfl rfl (by decide +kernel) ⟨Nat.le_of_ble_eq_true rfl, Nat.le_of_ble_eq_true rfl⟩) (ob_preS (hP.sub [] rfl) hk) rfl rfl hl.1 rfl (lv_room (Nat.le_of_ble_eq_true rfl)) dX4_argue_25 ⟨Nat.le_of_ble_eq_true rfl, Nat.le_of_ble_eq_true rfl⟩)) (fun r9 hr9 => ?_)
    subst hr9
    refine ob_if_ne (tgt := 41) hx hb dX4_argue_28 (by decide) (fun c28 => ?_) (fun c28 => ?_)
    · obtain ⟨j, hj, e1⟩ := ob_hd_t c8
      rw [e1] at hl
      refine lv_aload_n hx hb dX4_argue_41 rfl (lv_at hl 0 rfl) ?_
      refine va_get (ci := 4) (C := RX4) (T := TX4) (N := 4) hx hb hts (fun w h => List.mem_cons_of_mem _ (List.mem_append_left _ (List.mem_append_left _ (List.mem_append_left _ (List.mem_append_right _ (h)))))) hown hK hP 0 rfl rfl 1 (by decide) (hts (Cond.fieldLink RX4 19 "OutageBook" "log" "LOutageBook$Log;") (List.mem_of_getElem? (i := 5) rfl)) (fun _ h9 => h9) rfl dX4_argue_42 ?_
      refine lv_iload_n hx hb dX4_argue_45 rfl (lv_at hl 1 rfl) ?_
      have k56 : ∀ (v : Int32), (v = if b3 then x2 else -x2) → ∀ ls : Array Slot, lv_has ls 4 [(0, .ref ax), (1, .int (nI j)), (2, .int x2), (3, .int (ob_bi b3))] → W p l e (headSpec wsX4_argue ({ frames := 6, cells := 1, slots := 6, locals := 82 } : Room)).room s m ([.ref ax, .int x1, .int x2, .int (ob_bi b3)] : List Value).toArray below meth c s.heap [] 0 0 (vx_MQ below (va_Qi (fun (r : Int32) (_ : Unit) => ob_z2 (ob_hd n x1) (ob_wi x2 (nI 1) (nI 100)) = 0 ∧ (r = ba x1.toNatClampNeg + if b3 then x2 else -x2)) (fun (_ : Unit) (t9 : State) => va_P D vwCl (ob_wX ax ao al am ac ++ ob_wL t al n cl rd sv pb (upd ba x1.toNatClampNeg (ba x1.toNatClampNeg + if b3 then x2 else -x2)) bf od bg) t9.heap) (va_A (ob_wX ax ao al am ac ++ ob_wL t al n cl rd sv pb ba bf od bg) sz)) (vx_X (fun _ : Unit => True) (fun (E9 : String) (_ : Unit) (_ : State) => ∃ i : Nat, ob_z2 (ob_hd n x1) (ob_wi x2 (nI 1) (nI 100)) = i + 1 ∧ ["java/lang/IndexOutOfBoundsException", "java/lang/IllegalArgumentException"][i]? = some E9) (fun _ => False)) ([.ref ax, .int x1, .int x2, .int (ob_bi b3)] : List Value).toArray s 1 6 (va_A (ob_wX ax ao al am ac ++ ob_wL t al n cl rd sv pb ba bf od bg) sz)) (F0 m 56 ls [.int v, .int (nI j), .ref (al 0)]) := by
        intro v hv ls hl
        have hFc := va_free (wc := ob_wL t al n cl rd sv pb ba bf od bg) hD hS hA [1, 2, 3, 4, 5, 6, 7, 8, 9] rfl
        refine va_calli (va_runV (As := [.int (nI j), .int v]) (rest := []) ⟨hx, hb, hml, hown, hts⟩ (c_X1_weigh l D t s.heap.size al n cl rd sv pb ba bf od bg j v hn hj) (cwV 2 hts gX4_argue_X1_weigh rfl rfl rfl (by decide +kernel) ⟨Nat.le_of_ble_eq_true rfl, Nat.le_of_ble_eq_true rfl⟩) (ob_pmV (ci := 1) (q0 := 0) (hP.sub [1, 2, 3, 4, 5, 6, 7, 8, 9] rfl) (hD.sub [1, 2, 3, 4, 5, 6, 7, 8, 9] (by decide) rfl) hk rfl rfl) rfl rfl hl.1 rfl (lv_room (Nat.le_of_ble_eq_true rfl)) dX4_argue_56 ⟨Nat.le_of_ble_eq_true rfl, Nat.le_of_ble_eq_true rfl⟩) hS (fun q _ h => hFc q h) hFc (fun r9 u9 t9 H1 locs ht hvm hw9 hB hz1 hk1 hS => ?_)
        rw [ht] at hB
        have hP := ob_jn (ws' := ob_wX ax ao al am ac ++ ob_wL t al n cl rd sv pb (upd ba j (ba j + v)) bf od bg) hP hD [none, some 0, some 1, some 2, some 3, some 4, some 5, some 6, some 7, some 8] [1, 2, 3, 4, 5, 6, 7, 8, 9] rfl rfl hk1 hB rfl
        have hD : va_D (va_A (ob_wX ax ao al am ac ++ ob_wL t al n cl rd sv pb ba bf od bg) sz) (ob_wX ax ao al am ac ++ ob_wL t al n cl rd sv pb (upd ba j (ba j + v)) bf od bg) := ob_dXL hD
        generalize H1 = H at hP hS ⊢
        subst hw9
        refine W.widen (k := 1) (n := 6) (Nat.le_of_ble_eq_true rfl) (Nat.le_of_ble_eq_true rfl) ?_
        exact vx_ret (W.iret (v := ba j + v) hx hb hr (fun t9 ht hW => ⟨⟨ba j + v, (), rfl, ⟨(by first | (rw [c8]; rfl; done) | (rw [c8, c28]; rfl; done)), (by rw [e1, ob_cl (show j ≤ 1073741824 by omega), ← hv])⟩, ob_th ht (by rw [e1, ob_cl (show j ≤ 1073741824 by omega), ← hv]; exact hP)⟩, hS.F ht⟩) hS.2.2 dX4_argue_59)
      refine lv_iload_n hx hb dX4_argue_46 rfl (lv_at hl 3 rfl) ?_
      refine ob_if_eq (tgt := 54) hx hb dX4_argue_47 (by decide) (fun c47 => ?_) (fun c47 => ?_)
      · refine lv_iload_n hx hb dX4_argue_54 rfl (lv_at hl 2 rfl) ?_
        refine lv_ineg hx hb dX4_argue_55 ?_
        exact k56 (-x2) (by rw [c47]; rfl) _ (lv_sub hl [0, 1, 2, 3] rfl)
      · refine lv_iload_n hx hb dX4_argue_50 rfl (lv_at hl 2 rfl) ?_
        refine lv_goto (tgt := 56) hx hb dX4_argue_51 (by decide) ?_
        exact k56 x2 (by rw [c47]; rfl) _ (lv_sub hl [0, 1, 2, 3] rfl)
    · exact vx_throwS (A := fun _ => False) (names := ["java/lang/RuntimeException", "java/lang/Exception"]) (sa := sa 10) (text := "no such weight") hx hb hl9 hown (by decide +kernel) (by decide +kernel) (hts (Cond.classLink RX4 41 "java/lang/IllegalArgumentException") (List.mem_of_getElem? (i := 3) rfl)) (hts (Cond.initialized "java/lang/IllegalArgumentException") (List.mem_of_getElem? (i := 4) rfl)) (hE.2.2.2.2.2.2.2.2 10 (120, "no such weight") rfl) (vx_hat (fun w h => hts w (List.mem_cons_of_mem _ (List.mem_append_right _ (h)))) (ob_ng0) (vx_c (va_Nw.use rfl hE.2.2.1) (vx_c (va_Nw.use rfl hE.2.2.2.2.2.1) (vx_c (va_Nw.use rfl hE.2.2.2.2.2.2.1) (vx_c (va_Nw.use rfl hE.2.2.2.2.2.2.2.1) vx_n))))) (ob_gd0 41) hE.1 hE.2.1 va_S.rf (hl.1.trans hml.symm) dX4_argue_31 dX4_argue_34 dX4_argue_35 dX4_argue_37 dX4_argue_40 (fun x9 h9 => (hext x9 h9).elim) (by decide) (by decide) (by decide) (by decide) hlocks (fun t9 _ h1 h2 => ⟨(), trivial, ⟨1, (by first | (rw [c8]; rfl; done) | (rw [c8, c28]; rfl; done)), rfl⟩, h1, fun q hq _ => h2 q hq⟩) (fun _ h => absurd h List.not_mem_nil) (by decide) (by decide)
  · exact vx_throwS (A := fun _ => False) (names := ["java/lang/RuntimeException", "java/lang/Exception"]) (sa := sa 7) (text := "no such line") hx hb hl9 hown (by decide +kernel) (by decide +kernel) (hts (Cond.classLink RX4 99 "java/lang/IndexOutOfBoundsException") (List.mem_of_getElem? (i := 1) rfl)) (hts (Cond.initialized "java/lang/IndexOutOfBoundsException") (List.mem_of_getElem? (i := 2) rfl)) (hE.2.2.2.2.2.2.2.2 7 (101, "no such line") rfl) (vx_hat (fun w h => hts w (List.mem_cons_of_mem _ (List.mem_append_left _ (List.mem_append_right _ (h))))) (ob_ng2) (vx_c (va_Nw.use rfl hE.2.2.2.2.1) (vx_c (va_Nw.use rfl hE.2.2.2.2.2.1) (vx_c (va_Nw.use rfl hE.2.2.2.2.2.2.1) (vx_c (va_Nw.use rfl hE.2.2.2.2.2.2.2.1) vx_n))))) (ob_gd2 99) hE.1 hE.2.1 va_S.rf (hl.1.trans hml.symm) dX4_argue_11 dX4_argue_14 dX4_argue_15 dX4_argue_17 dX4_argue_20 (fun x9 h9 => (hext x9 h9).elim) (by decide) (by decide) (by decide) (by decide) hlocks (fun t9 _ h1 h2 => ⟨(), trivial, ⟨0, (by first | (rw [c8]; rfl; done) | (rw [c8, c28]; rfl; done)), rfl⟩, h1, fun q hq _ => h2 q hq⟩) (fun _ h => absurd h List.not_mem_nil) (by decide) (by decide)

set_option maxRecDepth 100000 in
set_option maxHeartbeats 4000000 in
theorem c_X4_isDoubtful (l : Launch) (hl9 : l.stackTraces = false) (sa : Nat → Nat) (D : va_G) (t : Nat → ClassId) (sz : Nat) (ax : Nat) (ao al am ac : Nat → Nat) (n : Nat) (cl rd sv pb ba bf od : Nat → Int32) (bg : Nat → Int64) (x : Int32) (hn : n ≤ 30) : vx_Met l yX4_isDoubtful wsX4_isDoubtful ({ frames := 6, cells := 1, slots := 6, locals := 82 } : Room) (ob_Px D t (ob_wX ax ao al am ac ++ ob_wL t al n cl rd sv pb ba bf od bg) sz sa [.ref ax, .int x]) (va_Qi (fun (r : Int32) (_ : Unit) => ob_z1 (ob_hd n x) = 0 ∧ (r = ob_bi (ob_hd n x && decide (ba x.toNatClampNeg < 0)))) (fun (_ : Unit) (t9 : State) => va_P D vwCl (ob_wX ax ao al am ac ++ ob_wL t al n cl rd sv pb ba bf od bg) t9.heap) (va_A (ob_wX ax ao al am ac ++ ob_wL t al n cl rd sv pb ba bf od bg) sz)) (vx_X (fun _ : Unit => True) (fun (E9 : String) (_ : Unit) (_ : State) => ∃ i : Nat, ob_z1 (ob_hd n x) = i + 1 ∧ ["java/lang/IndexOutOfBoundsException"][i]? = some E9) (fun _ => False)) 1 6 (va_A (ob_wX ax ao al am ac ++ ob_wL t al n cl rd sv pb ba bf od bg) sz) := by
  refine vx_ofW (cc := cX4_isDoubtful) (maxL := 2) (ret := (some .boolean)) (by decide) rfl ?_
  intro p e s m args below meth c s₁ B hml hext hv
  obtain ⟨rfl, hsz, hP, hk, hD0, hE⟩ := hv
  have hx := B.exec
  have hb := B.bytes
  have hr := B.returns
  have hts := atoms_spec (ws := wsX4_isDoubtful) B.pre
  have hown : s.vm.findClass RX4 = some m.cls := findClass_of_methodNamed B.named
  have hlocks := B.notSynchronized
  have hK := hk.1
  have hD : va_D (va_A (ob_wX ax ao al am ac ++ ob_wL t al n cl rd sv pb ba bf od bg) sz) (ob_wX ax ao al am ac ++ ob_wL t al n cl rd sv pb ba bf od bg) := hD0.self (sz := sz)
  have hA : ∀ q : Nat, s.heap.size ≤ q → (va_A (ob_wX ax ao al am ac ++ ob_wL t al n cl rd sv pb ba bf od bg) sz) q := fun q h => Or.inr (hsz ▸ h)
  have hS : va_S (va_A (ob_wX ax ao al am ac ++ ob_wL t al n cl rd sv pb ba bf od bg) sz) s.heap s.heap [] := va_S.rf
  have hl := lv_entry [.ref ax, .int x] (n := 2) (Nat.le_of_ble_eq_true rfl)
  rw [lg_entry_eq]
  generalize (lg_sl [.ref ax, .int x] ++ List.replicate (2 - (lg_sl [.ref ax, .int x]).length) Slot.unset).toArray = ls at hl ⊢
  have hl : lv_has ls 2 [(0, .ref ax), (1, .int x)] := hl
  have hP : va_P D vwCl (ob_wX ax ao al am ac ++ ob_wL t al n cl rd sv pb ba bf od bg) s.heap := hP
  refine lv_aload_n hx hb dX4_isDoubtful_0 rfl (lv_at hl 0 rfl) ?_
  refine va_get (ci := 4) (C := RX4) (T := TX4) (N := 4) hx hb hts (fun w h => List.mem_cons_of_mem _ (List.mem_append_left _ (List.mem_append_left _ (List.mem_append_right _ (h))))) hown hK hP 0 rfl rfl 1 (by decide) (hts (Cond.fieldLink RX4 19 "OutageBook" "log" "LOutageBook$Log;") (List.mem_of_getElem? (i := 3) rfl)) (fun _ h9 => h9) rfl dX4_isDoubtful_1 ?_
  refine lv_iload_n hx hb dX4_isDoubtful_4 rfl (lv_at hl 1 rfl) ?_
  refine vp_callSi (va_Run.run (va_runV (As := [.int x]) (rest := []) ⟨hx, hb, hml, hown, hts⟩ (c_X1_holds l D t al n cl rd sv pb ba bf od bg x (by first | assumption | omega)) (cwV 1 hts gX4_isDoubtful_X1_holds rfl rfl rfl (by decide +kernel) ⟨Nat.le_of_ble_eq_true rfl, Nat.le_of_ble_eq_true rfl⟩) (ob_preV (ci := 1) (q0 := 0) (hP.sub [1, 2, 3, 4, 5, 6, 7, 8, 9] rfl) hk rfl rfl) rfl rfl hl.1 rfl (lv_room (Nat.le_of_ble_eq_true rfl)) dX4_isDoubtful_5 ⟨Nat.le_of_ble_eq_true rfl, Nat.le_of_ble_eq_true rfl⟩)) (fun r9 hr9 => ?_)
  subst hr9
  refine ob_if_ne (tgt := 21) hx hb dX4_isDoubtful_8 (by decide) (fun c8 => ?_) (fun c8 => ?_)
  · refine lv_aload_n hx hb dX4_isDoubtful_21 rfl (lv_at hl 0 rfl) ?_
    refine va_get (ci := 4) (C := RX4) (T := TX4) (N := 4) hx hb hts (fun w h => List.mem_cons_of_mem _ (List.mem_append_left _ (List.mem_append_left _ (List.mem_append_right _ (h))))) hown hK hP 0 rfl rfl 1 (by decide) (hts (Cond.fieldLink RX4 19 "OutageBook" "log" "LOutageBook$Log;") (List.mem_of_getElem? (i := 3) rfl)) (fun _ h9 => h9) rfl dX4_isDoubtful_22 ?_
    refine lv_iload_n hx hb dX4_isDoubtful_25 rfl (lv_at hl 1 rfl) ?_
    refine vp_callSi (va_Run.run (va_runV (As := [.int x]) (rest := []) ⟨hx, hb, hml, hown, hts⟩ (c_X1_isDoubted l D t al n cl rd sv pb ba bf od bg x (by first | assumption | omega)) (cwV 1 hts gX4_isDoubtful_X1_isDoubted rfl rfl rfl (by decide +kernel) ⟨Nat.le_of_ble_eq_true rfl, Nat.le_of_ble_eq_true rfl⟩) (ob_preV (ci := 1) (q0 := 0) (hP.sub [1, 2, 3, 4, 5, 6, 7, 8, 9] rfl) hk rfl rfl) rfl rfl hl.1 rfl (lv_room (Nat.le_of_ble_eq_true rfl)) dX4_isDoubtful_26 ⟨Nat.le_of_ble_eq_true rfl, Nat.le_of_ble_eq_true rfl⟩)) (fun r9 hr9 => ?_)
    subst hr9
    refine W.widen (k := 1) (n := 6) (Nat.le_of_ble_eq_true rfl) (Nat.le_of_ble_eq_true rfl) ?_
    exact vx_ret (W.zret (v := ob_bi (ob_hd n x && decide (ba x.toNatClampNeg < 0))) hx hb hr (ob_narZ _) (fun t9 ht hW => ⟨⟨ob_bi (ob_hd n x && decide (ba x.toNatClampNeg < 0)), (), rfl, ⟨(by rw [c8]; rfl), rfl⟩, ob_th ht hP⟩, hS.F ht⟩) hS.2.2 dX4_isDoubtful_29)
  · exact vx_throwS (A := fun _ => False) (names := ["java/lang/RuntimeException", "java/lang/Exception"]) (sa := sa 7) (text := "no such line") hx hb hl9 hown (by decide +kernel) (by decide +kernel) (hts (Cond.classLink RX4 99 "java/lang/IndexOutOfBoundsException") (List.mem_of_getElem? (i := 1) rfl)) (hts (Cond.initialized "java/lang/IndexOutOfBoundsException") (List.mem_of_getElem? (i := 2) rfl)) (hE.2.2.2.2.2.2.2.2 7 (101, "no such line") rfl) (vx_hat (fun w h => hts w (List.mem_cons_of_mem _ (List.mem_append_right _ (h)))) (ob_ng2) (vx_c (va_Nw.use rfl hE.2.2.2.2.1) (vx_c (va_Nw.use rfl hE.2.2.2.2.2.1) (vx_c (va_Nw.use rfl hE.2.2.2.2.2.2.1) (vx_c (va_Nw.use rfl hE.2.2.2.2.2.2.2.1) vx_n))))) (ob_gd2 99) hE.1 hE.2.1 va_S.rf (hl.1.trans hml.symm) dX4_isDoubtful_11 dX4_isDoubtful_14 dX4_isDoubtful_15 dX4_isDoubtful_17 dX4_isDoubtful_20 (fun x9 h9 => (hext x9 h9).elim) (by decide) (by decide) (by decide) (by decide) hlocks (fun t9 _ h1 h2 => ⟨(), trivial, ⟨0, (by rw [c8]; rfl), rfl⟩, h1, fun q hq _ => h2 q hq⟩) (fun _ h => absurd h List.not_mem_nil) (by decide) (by decide)

set_option maxRecDepth 100000 in
set_option maxHeartbeats 4000000 in
theorem c_X4_storyAt (l : Launch) (hl9 : l.stackTraces = false) (sa : Nat → Nat) (D : va_G) (t : Nat → ClassId) (sz : Nat) (ax : Nat) (ao al am ac : Nat → Nat) (n : Nat) (cl rd sv pb ba bf od : Nat → Int32) (bg : Nat → Int64) (pm : Nat → Nat) (x : Int32) (hn : n ≤ 30) (hpm : ∀ k, k < n → od k = nI (pm k) ∧ pm k < n) : vx_Met l yX4_storyAt wsX4_storyAt ({ frames := 6, cells := 1, slots := 6, locals := 82 } : Room) (ob_Px D t (ob_wX ax ao al am ac ++ ob_wL t al n cl rd sv pb ba bf od bg) sz sa [.ref ax, .int x]) (va_Qi (fun (r : Int32) (_ : Unit) => ob_z1 (ob_sx (ob_is n pb ba od) x n) = 0 ∧ (∃ k, k < n ∧ ob_is n pb ba od k = true ∧ nI (ob_ct (ob_is n pb ba od) k) = x ∧ r = od k)) (fun (_ : Unit) (t9 : State) => va_P D vwCl (ob_wX ax ao al am ac ++ ob_wL t al n cl rd sv pb ba bf od bg) t9.heap) (va_A (ob_wX ax ao al am ac ++ ob_wL t al n cl rd sv pb ba bf od bg) sz)) (vx_X (fun _ : Unit => True) (fun (E9 : String) (_ : Unit) (_ : State) => ∃ i : Nat, ob_z1 (ob_sx (ob_is n pb ba od) x n) = i + 1 ∧ ["java/lang/IndexOutOfBoundsException"][i]? = some E9) (fun _ => False)) 1 6 (va_A (ob_wX ax ao al am ac ++ ob_wL t al n cl rd sv pb ba bf od bg) sz) := by
  refine vx_ofW (cc := cX4_storyAt) (maxL := 3) (ret := (some .int)) (by decide) rfl ?_
  intro p e s m args below meth c s₁ B hml hext hv
  obtain ⟨rfl, hsz, hP, hk, hD0, hE⟩ := hv
  have hx := B.exec
  have hb := B.bytes
  have hr := B.returns
  have hts := atoms_spec (ws := wsX4_storyAt) B.pre
  have hown : s.vm.findClass RX4 = some m.cls := findClass_of_methodNamed B.named
  have hlocks := B.notSynchronized
  have hK := hk.1
  have hD : va_D (va_A (ob_wX ax ao al am ac ++ ob_wL t al n cl rd sv pb ba bf od bg) sz) (ob_wX ax ao al am ac ++ ob_wL t al n cl rd sv pb ba bf od bg) := hD0.self (sz := sz)
  have hA : ∀ q : Nat, s.heap.size ≤ q → (va_A (ob_wX ax ao al am ac ++ ob_wL t al n cl rd sv pb ba bf od bg) sz) q := fun q h => Or.inr (hsz ▸ h)
  have hS : va_S (va_A (ob_wX ax ao al am ac ++ ob_wL t al n cl rd sv pb ba bf od bg) sz) s.heap s.heap [] := va_S.rf
  have hl := lv_entry [.ref ax, .int x] (n := 3) (Nat.le_of_ble_eq_true rfl)
  rw [lg_entry_eq]
  generalize (lg_sl [.ref ax, .int x] ++ List.replicate (3 - (lg_sl [.ref ax, .int x]).length) Slot.unset).toArray = ls at hl ⊢
  have hl : lv_has ls 3 [(0, .ref ax), (1, .int x)] := hl
  have hP : va_P D vwCl (ob_wX ax ao al am ac ++ ob_wL t al n cl rd sv pb ba bf od bg) s.heap := hP
  refine lv_aload_n hx hb dX4_storyAt_0 rfl (lv_at hl 0 rfl) ?_
  refine va_get (ci := 4) (C := RX4) (T := TX4) (N := 4) hx hb hts (fun w h => List.mem_cons_of_mem _ (List.mem_append_left _ (List.mem_append_left _ (List.mem_append_right _ (h))))) hown hK hP 0 rfl rfl 1 (by decide) (hts (Cond.fieldLink RX4 19 "OutageBook" "log" "LOutageBook$Log;") (List.mem_of_getElem? (i := 3) rfl)) (fun _ h9 => h9) rfl dX4_storyAt_1 ?_
  refine lv_iload_n hx hb dX4_storyAt_4 rfl (lv_at hl 1 rfl) ?_
  refine vp_callSi (va_Run.run (va_runV (As := [.int x]) (rest := []) ⟨hx, hb, hml, hown, hts⟩ (c_X1_storyLine l D t al n cl rd sv pb ba bf od bg x (by first | assumption | omega)) (cwV 1 hts gX4_storyAt_X1_storyLine rfl rfl rfl (by decide +kernel) ⟨Nat.le_of_ble_eq_true rfl, Nat.le_of_ble_eq_true rfl⟩) (ob_preV (ci := 1) (q0 := 0) (hP.sub [1, 2, 3, 4, 5, 6, 7, 8, 9] rfl) hk rfl rfl) rfl rfl hl.1 rfl (lv_room (Nat.le_of_ble_eq_true rfl)) dX4_storyAt_5 ⟨Nat.le_of_ble_eq_true rfl, Nat.le_of_ble_eq_true rfl⟩)) (fun r5 e5 => ?_)
  refine lv_istore_n (lv' := [(2, .int r5), (0, .ref ax), (1, .int x)]) hx hb dX4_storyAt_8 rfl hl (by decide) rfl (fun ls hl => ?_)
  refine lv_iload_n hx hb dX4_storyAt_9 rfl (lv_at hl 0 rfl) ?_
  refine lv_iconst (v := (-1)) hx hb dX4_storyAt_10 (by decide) ?_
  refine lv_icmp_ne (tgt := 24) hx hb dX4_storyAt_11 (by decide) (fun c11 => ?_) (fun c11 => ?_)
  · refine lv_iload_n hx hb dX4_storyAt_24 rfl (lv_at hl 0 rfl) ?_
    refine W.widen (k := 1) (n := 6) (Nat.le_of_ble_eq_true rfl) (Nat.le_of_ble_eq_true rfl) ?_
    exact vx_ret (W.iret (v := r5) hx hb hr (fun t9 ht hW => ⟨⟨r5, (), rfl, ⟨(by rcases e5 with ⟨k, h1, h2, h3, h4⟩ | ⟨h1, h2⟩; rw [ob_sx_t h2 h3 h1]; rfl; exact absurd h2 c11), (by rcases e5 with h | h; exact h; exact absurd h.2 c11)⟩, ob_th ht hP⟩, hS.F ht⟩) hS.2.2 dX4_storyAt_25)
  · exact vx_throwS (A := fun _ => False) (names := ["java/lang/RuntimeException", "java/lang/Exception"]) (sa := sa 8) (text := "no such place") hx hb hl9 hown (by decide +kernel) (by decide +kernel) (hts (Cond.classLink RX4 99 "java/lang/IndexOutOfBoundsException") (List.mem_of_getElem? (i := 1) rfl)) (hts (Cond.initialized "java/lang/IndexOutOfBoundsException") (List.mem_of_getElem? (i := 2) rfl)) (hE.2.2.2.2.2.2.2.2 8 (108, "no such place") rfl) (vx_hat (fun w h => hts w (List.mem_cons_of_mem _ (List.mem_append_right _ (h)))) (ob_ng2) (vx_c (va_Nw.use rfl hE.2.2.2.2.1) (vx_c (va_Nw.use rfl hE.2.2.2.2.2.1) (vx_c (va_Nw.use rfl hE.2.2.2.2.2.2.1) (vx_c (va_Nw.use rfl hE.2.2.2.2.2.2.2.1) vx_n))))) (ob_gd2 99) hE.1 hE.2.1 va_S.rf (hl.1.trans hml.symm) dX4_storyAt_14 dX4_storyAt_17 dX4_storyAt_18 dX4_storyAt_20 dX4_storyAt_23 (fun x9 h9 => (hext x9 h9).elim) (by decide) (by decide) (by decide) (by decide) hlocks (fun t9 _ h1 h2 => ⟨(), trivial, ⟨0, (by rcases e5 with ⟨k, h1, h2, h3, h4⟩ | ⟨h1, h2⟩; exact absurd ((hpm k h1).1.symm.trans (h4.symm.trans c11)) (ob_nIm1 (by have := (hpm k h1).2; omega)); rw [ob_sx_f h1]; rfl), rfl⟩, h1, fun q hq _ => h2 q hq⟩) (fun _ h => absurd h List.not_mem_nil) (by decide) (by decide)

set_option maxRecDepth 100000 in
set_option maxHeartbeats 4000000 in
theorem c_X4_earliest (l : Launch) (hl9 : l.stackTraces = false) (sa : Nat → Nat) (D : va_G) (t : Nat → ClassId) (sz : Nat) (ax : Nat) (ao al am ac : Nat → Nat) (M : Nat → Nat → Int32) (n : Nat) (cl rd sv pb ba bf od : Nat → Int32) (bg : Nat → Int64) (x : Int32) (hn : n ≤ 30) : vx_Met l yX4_earliest wsX4_earliest ({ frames := 6, cells := 1, slots := 6, locals := 87 } : Room) (ob_Px D t (ob_wX ax ao al am ac ++ ob_wO t ao M ++ ob_wL t al n cl rd sv pb ba bf od bg) sz sa [.ref ax, .int x]) (va_Qi (fun (r : Int32) (_ : Unit) => ob_z1 (ob_hd n x) = 0 ∧ (r = ob_et n M cl rd x)) (fun (_ : Unit) (t9 : State) => va_P D vwCl (ob_wX ax ao al am ac ++ ob_wO t ao M ++ ob_wL t al n cl rd sv pb ba bf od bg) t9.heap) (va_A (ob_wX ax ao al am ac ++ ob_wO t ao M ++ ob_wL t al n cl rd sv pb ba bf od bg) sz)) (vx_X (fun _ : Unit => True) (fun (E9 : String) (_ : Unit) (_ : State) => ∃ i : Nat, ob_z1 (ob_hd n x) = i + 1 ∧ ["java/lang/IndexOutOfBoundsException"][i]? = some E9) (fun _ => False)) 1 6 (va_A (ob_wX ax ao al am ac ++ ob_wO t ao M ++ ob_wL t al n cl rd sv pb ba bf od bg) sz) := by
  refine vx_ofW (cc := cX4_earliest) (maxL := 2) (ret := (some .int)) (by decide) rfl ?_
  intro p e s m args below meth c s₁ B hml hext hv
  obtain ⟨rfl, hsz, hP, hk, hD0, hE⟩ := hv
  have hx := B.exec
  have hb := B.bytes
  have hr := B.returns
  have hts := atoms_spec (ws := wsX4_earliest) B.pre
  have hown : s.vm.findClass RX4 = some m.cls := findClass_of_methodNamed B.named
  have hlocks := B.notSynchronized
  have hK := hk.1
  have hD : va_D (va_A (ob_wX ax ao al am ac ++ ob_wO t ao M ++ ob_wL t al n cl rd sv pb ba bf od bg) sz) (ob_wX ax ao al am ac ++ ob_wO t ao M ++ ob_wL t al n cl rd sv pb ba bf od bg) := hD0.self (sz := sz)
  have hA : ∀ q : Nat, s.heap.size ≤ q → (va_A (ob_wX ax ao al am ac ++ ob_wO t ao M ++ ob_wL t al n cl rd sv pb ba bf od bg) sz) q := fun q h => Or.inr (hsz ▸ h)
  have hS : va_S (va_A (ob_wX ax ao al am ac ++ ob_wO t ao M ++ ob_wL t al n cl rd sv pb ba bf od bg) sz) s.heap s.heap [] := va_S.rf
  have hl := lv_entry [.ref ax, .int x] (n := 2) (Nat.le_of_ble_eq_true rfl)
  rw [lg_entry_eq]
  generalize (lg_sl [.ref ax, .int x] ++ List.replicate (2 - (lg_sl [.ref ax, .int x]).length) Slot.unset).toArray = ls at hl ⊢
  have hl : lv_has ls 2 [(0, .ref ax), (1, .int x)] := hl
  have hP : va_P D vwCl (ob_wX ax ao al am ac ++ ob_wO t ao M ++ ob_wL t al n cl rd sv pb ba bf od bg) s.heap := hP
  refine lv_aload_n hx hb dX4_earliest_0 rfl (lv_at hl 0 rfl) ?_
  refine va_get (ci := 4) (C := RX4) (T := TX4) (N := 4) hx hb hts (fun w h => List.mem_cons_of_mem _ (List.mem_append_left _ (List.mem_append_left _ (List.mem_append_left _ (List.mem_append_right _ (h)))))) hown hK hP 0 rfl rfl 1 (by decide) (hts (Cond.fieldLink RX4 19 "OutageBook" "log" "LOutageBook$Log;") (List.mem_of_getElem? (i := 3) rfl)) (fun _ h9 => h9) rfl dX4_earliest_1 ?_
  refine lv_iload_n hx hb dX4_earliest_4 rfl (lv_at hl 1 rfl) ?_
  refine vp_callSi (va_Run.run (va_runV (As := [.int x]) (rest := []) ⟨hx, hb, hml, hown, hts⟩ (c_X1_holds l D t al n cl rd sv pb ba bf od bg x (by first | assumption | omega)) (cwV 1 hts gX4_earliest_X1_holds rfl rfl rfl (by decide +kernel) ⟨Nat.le_of_ble_eq_true rfl, Nat.le_of_ble_eq_true rfl⟩) (ob_preV (ci := 1) (q0 := 0) (hP.sub [8, 9, 10, 11, 12, 13, 14, 15, 16] rfl) hk rfl rfl) rfl rfl hl.1 rfl (lv_room (Nat.le_of_ble_eq_true rfl)) dX4_earliest_5 ⟨Nat.le_of_ble_eq_true rfl, Nat.le_of_ble_eq_true rfl⟩)) (fun r9 hr9 => ?_)
  subst hr9
  refine ob_if_ne (tgt := 21) hx hb dX4_earliest_8 (by decide) (fun c8 => ?_) (fun c8 => ?_)
  · refine lv_aload_n hx hb dX4_earliest_21 rfl (lv_at hl 0 rfl) ?_
    refine va_get (ci := 4) (C := RX4) (T := TX4) (N := 4) hx hb hts (fun w h => List.mem_cons_of_mem _ (List.mem_append_left _ (List.mem_append_left _ (List.mem_append_left _ (List.mem_append_right _ (h)))))) hown hK hP 0 rfl rfl 1 (by decide) (hts (Cond.fieldLink RX4 19 "OutageBook" "log" "LOutageBook$Log;") (List.mem_of_getElem? (i := 3) rfl)) (fun _ h9 => h9) rfl dX4_earliest_22 ?_
    refine lv_iload_n hx hb dX4_earliest_25 rfl (lv_at hl 1 rfl) ?_
    refine lv_aload_n hx hb dX4_earliest_26 rfl (lv_at hl 0 rfl) ?_
    refine va_get (ci := 4) (C := RX4) (T := TX4) (N := 4) hx hb hts (fun w h => List.mem_cons_of_mem _ (List.mem_append_left _ (List.mem_append_left _ (List.mem_append_left _ (List.mem_append_right _ (h)))))) hown hK hP 0 rfl rfl 0 (by decide) (hts (Cond.fieldLink RX4 10 "OutageBook" "offsets" "LOutageBook$Offsets;") (List.mem_of_getElem? (i := 4) rfl)) (fun _ h9 => h9) rfl dX4_earliest_27 ?_
    refine vp_callSi (va_Run.run (va_runV (As := [.int x, .ref (ao 0)]) (rest := []) ⟨hx, hb, hml, hown, hts⟩ (c_X1_earliestTime l D t al n cl rd sv pb ba bf od bg ao M x (by first | assumption | omega)) (cwV 2 hts gX4_earliest_X1_earliestTime rfl rfl rfl (by decide +kernel) ⟨Nat.le_of_ble_eq_true rfl, Nat.le_of_ble_eq_true rfl⟩) (ob_preV (ci := 1) (q0 := 0) (hP.sub [8, 9, 10, 11, 12, 13, 14, 15, 16, 1, 2, 3, 4, 5, 6, 7] rfl) hk rfl rfl) rfl rfl hl.1 rfl (lv_room (Nat.le_of_ble_eq_true rfl)) dX4_earliest_30 ⟨Nat.le_of_ble_eq_true rfl, Nat.le_of_ble_eq_true rfl⟩)) (fun r9 hr9 => ?_)
    subst hr9
    refine W.widen (k := 1) (n := 6) (Nat.le_of_ble_eq_true rfl) (Nat.le_of_ble_eq_true rfl) ?_
    exact vx_ret (W.iret (v := ob_et n M cl rd x) hx hb hr (fun t9 ht hW => ⟨⟨ob_et n M cl rd x, (), rfl, ⟨(by rw [c8]; rfl), rfl⟩, ob_th ht hP⟩, hS.F ht⟩) hS.2.2 dX4_earliest_33)
  · exact vx_throwS (A := fun _ => False) (names := ["java/lang/RuntimeException", "java/lang/Exception"]) (sa := sa 7) (text := "no such line") hx hb hl9 hown (by decide +kernel) (by decide +kernel) (hts (Cond.classLink RX4 99 "java/lang/IndexOutOfBoundsException") (List.mem_of_getElem? (i := 1) rfl)) (hts (Cond.initialized "java/lang/IndexOutOfBoundsException") (List.mem_of_getElem? (i := 2) rfl)) (hE.2.2.2.2.2.2.2.2 7 (101, "no such line") rfl) (vx_hat (fun w h => hts w (List.mem_cons_of_mem _ (List.mem_append_right _ (h)))) (ob_ng2) (vx_c (va_Nw.use rfl hE.2.2.2.2.1) (vx_c (va_Nw.use rfl hE.2.2.2.2.2.1) (vx_c (va_Nw.use rfl hE.2.2.2.2.2.2.1) (vx_c (va_Nw.use rfl hE.2.2.2.2.2.2.2.1) vx_n))))) (ob_gd2 99) hE.1 hE.2.1 va_S.rf (hl.1.trans hml.symm) dX4_earliest_11 dX4_earliest_14 dX4_earliest_15 dX4_earliest_17 dX4_earliest_20 (fun x9 h9 => (hext x9 h9).elim) (by decide) (by decide) (by decide) (by decide) hlocks (fun t9 _ h1 h2 => ⟨(), trivial, ⟨0, (by rw [c8]; rfl), rfl⟩, h1, fun q hq _ => h2 q hq⟩) (fun _ h => absurd h List.not_mem_nil) (by decide) (by decide)

set_option maxRecDepth 100000 in
set_option maxHeartbeats 4000000 in
theorem c_X4_firstOf (l : Launch) (hl9 : l.stackTraces = false) (sa : Nat → Nat) (D : va_G) (t : Nat → ClassId) (sz : Nat) (ax : Nat) (ao al am ac : Nat → Nat) (n : Nat) (cl rd sv pb ba bf od : Nat → Int32) (bg : Nat → Int64) (x : Int32) (hn : n ≤ 30) : vx_Met l yX4_firstOf wsX4_firstOf ({ frames := 6, cells := 1, slots := 6, locals := 82 } : Room) (ob_Px D t (ob_wX ax ao al am ac ++ ob_wL t al n cl rd sv pb ba bf od bg) sz sa [.ref ax, .int x]) (va_Qi (fun (r : Int32) (_ : Unit) => ob_z1 (ob_wi x (nI 0) (nI 5)) = 0 ∧ ((∃ k, k < n ∧ ob_fp n sv od x k = true ∧ (∀ j, j < k → ob_fp n sv od x j = false) ∧ r = od k) ∨ ((∀ j, j < n → ob_fp n sv od x j = false) ∧ r = -1))) (fun (_ : Unit) (t9 : State) => va_P D vwCl (ob_wX ax ao al am ac ++ ob_wL t al n cl rd sv pb ba bf od bg) t9.heap) (va_A (ob_wX ax ao al am ac ++ ob_wL t al n cl rd sv pb ba bf od bg) sz)) (vx_X (fun _ : Unit => True) (fun (E9 : String) (_ : Unit) (_ : State) => ∃ i : Nat, ob_z1 (ob_wi x (nI 0) (nI 5)) = i + 1 ∧ ["java/lang/IllegalArgumentException"][i]? = some E9) (fun _ => False)) 1 6 (va_A (ob_wX ax ao al am ac ++ ob_wL t al n cl rd sv pb ba bf od bg) sz) := by
  refine vx_ofW (cc := cX4_firstOf) (maxL := 2) (ret := (some .int)) (by decide) rfl ?_
  intro p e s m args below meth c s₁ B hml hext hv
  obtain ⟨rfl, hsz, hP, hk, hD0, hE⟩ := hv
  have hx := B.exec
  have hb := B.bytes
  have hr := B.returns
  have hts := atoms_spec (ws := wsX4_firstOf) B.pre
  have hown : s.vm.findClass RX4 = some m.cls := findClass_of_methodNamed B.named
  have hlocks := B.notSynchronized
  have hK := hk.1
  have hD : va_D (va_A (ob_wX ax ao al am ac ++ ob_wL t al n cl rd sv pb ba bf od bg) sz) (ob_wX ax ao al am ac ++ ob_wL t al n cl rd sv pb ba bf od bg) := hD0.self (sz := sz)
  have hA : ∀ q : Nat, s.heap.size ≤ q → (va_A (ob_wX ax ao al am ac ++ ob_wL t al n cl rd sv pb ba bf od bg) sz) q := fun q h => Or.inr (hsz ▸ h)
  have hS : va_S (va_A (ob_wX ax ao al am ac ++ ob_wL t al n cl rd sv pb ba bf od bg) sz) s.heap s.heap [] := va_S.rf
  have hl := lv_entry [.ref ax, .int x] (n := 2) (Nat.le_of_ble_eq_true rfl)
  rw [lg_entry_eq]
  generalize (lg_sl [.ref ax, .int x] ++ List.replicate (2 - (lg_sl [.ref ax, .int x]).length) Slot.unset).toArray = ls at hl ⊢
  have hl : lv_has ls 2 [(0, .ref ax), (1, .int x)] := hl
  have hP : va_P D vwCl (ob_wX ax ao al am ac ++ ob_wL t al n cl rd sv pb ba bf od bg) s.heap := hP
  refine lv_iload_n hx hb dX4_firstOf_0 rfl (lv_at hl 1 rfl) ?_
  refine vp_callSi (va_Run.run (va_runS (As := [.int x]) (rest := []) ⟨hx, hb, hml, hown, hts⟩ (c_X4_isService l D t x) (va_cwS 1 hts gX4_firstOf_X4_isService rfl rfl rfl (by decide +kernel) ⟨Nat.le_of_ble_eq_true rfl, Nat.le_of_ble_eq_true rfl⟩) (ob_preS (hP.sub [] rfl) hk) rfl rfl hl.1 rfl (lv_room (Nat.le_of_ble_eq_true rfl)) dX4_firstOf_1 ⟨Nat.le_of_ble_eq_true rfl, Nat.le_of_ble_eq_true rfl⟩)) (fun r9 hr9 => ?_)
  subst hr9
  refine ob_if_ne (tgt := 17) hx hb dX4_firstOf_4 (by decide) (fun c4 => ?_) (fun c4 => ?_)
  · refine lv_aload_n hx hb dX4_firstOf_17 rfl (lv_at hl 0 rfl) ?_
    refine va_get (ci := 4) (C := RX4) (T := TX4) (N := 4) hx hb hts (fun w h => List.mem_cons_of_mem _ (List.mem_append_left _ (List.mem_append_left _ (List.mem_append_right _ (h))))) hown hK hP 0 rfl rfl 1 (by decide) (hts (Cond.fieldLink RX4 19 "OutageBook" "log" "LOutageBook$Log;") (List.mem_of_getElem? (i := 3) rfl)) (fun _ h9 => h9) rfl dX4_firstOf_18 ?_
    refine lv_iload_n hx hb dX4_firstOf_21 rfl (lv_at hl 1 rfl) ?_
    refine vp_callSi (va_Run.run (va_runV (As := [.int x]) (rest := []) ⟨hx, hb, hml, hown, hts⟩ (c_X1_firstLine l D t al n cl rd sv pb ba bf od bg x (by first | assumption | omega)) (cwV 1 hts gX4_firstOf_X1_firstLine rfl rfl rfl (by decide +kernel) ⟨Nat.le_of_ble_eq_true rfl, Nat.le_of_ble_eq_true rfl⟩) (ob_preV (ci := 1) (q0 := 0) (hP.sub [1, 2, 3, 4, 5, 6, 7, 8, 9] rfl) hk rfl rfl) rfl rfl hl.1 rfl (lv_room (Nat.le_of_ble_eq_true rfl)) dX4_firstOf_22 ⟨Nat.le_of_ble_eq_true rfl, Nat.le_of_ble_eq_true rfl⟩)) (fun r22 e22 => ?_)
    refine W.widen (k := 1) (n := 6) (Nat.le_of_ble_eq_true rfl) (Nat.le_of_ble_eq_true rfl) ?_
    exact vx_ret (W.iret (v := r22) hx hb hr (fun t9 ht hW => ⟨⟨r22, (), rfl, ⟨(by rw [c4]; rfl), e22⟩, ob_th ht hP⟩, hS.F ht⟩) hS.2.2 dX4_firstOf_25)
  · exact vx_throwS (A := fun _ => False) (names := ["java/lang/RuntimeException", "java/lang/Exception"]) (sa := sa 11) (text := "no such service") hx hb hl9 hown (by decide +kernel) (by decide +kernel) (hts (Cond.classLink RX4 41 "java/lang/IllegalArgumentException") (List.mem_of_getElem? (i := 1) rfl)) (hts (Cond.initialized "java/lang/IllegalArgumentException") (List.mem_of_getElem? (i := 2) rfl)) (hE.2.2.2.2.2.2.2.2 11 (138, "no such service") rfl) (vx_hat (fun w h => hts w (List.mem_cons_of_mem _ (List.mem_append_right _ (h)))) (ob_ng0) (vx_c (va_Nw.use rfl hE.2.2.1) (vx_c (va_Nw.use rfl hE.2.2.2.2.2.1) (vx_c (va_Nw.use rfl hE.2.2.2.2.2.2.1) (vx_c (va_Nw.use rfl hE.2.2.2.2.2.2.2.1) vx_n))))) (ob_gd0 41) hE.1 hE.2.1 va_S.rf (hl.1.trans hml.symm) dX4_firstOf_7 dX4_firstOf_10 dX4_firstOf_11 dX4_firstOf_13 dX4_firstOf_16 (fun x9 h9 => (hext x9 h9).elim) (by decide) (by decide) (by decide) (by decide) hlocks (fun t9 _ h1 h2 => ⟨(), trivial, ⟨0, (by rw [c4]; rfl), rfl⟩, h1, fun q hq _ => h2 q hq⟩) (fun _ h => absurd h List.not_mem_nil) (by decide) (by decide)

set_option maxRecDepth 100000 in
set_option maxHeartbeats 4000000 in
theorem c_X4_measure (l : Launch) (hl9 : l.stackTraces = false) (sa : Nat → Nat) (D : va_G) (t : Nat → ClassId) (sz : Nat) (ax : Nat) (ao al am ac : Nat → Nat) (mn : Nat) (ms mf mt mp : Nat → Int32) (x1 x2 x3 x4 : Int32) (hmn : mn ≤ 40) : vx_Met l yX4_measure wsX4_measure ({ frames := 6, cells := 1, slots := 6, locals := 82 } : Room) (ob_Px D t (ob_wX ax ao al am ac ++ ob_wM t am mn ms mf mt mp) sz sa [.ref ax, .int x1, .int x2, .int x3, .int x4]) (va_Qi (fun (r : Int32) (_ : Unit) => ob_z2 (ob_wi x1 (nI 0) (nI 5) && (ob_wi x4 (nI 0) (nI 100) && (ob_wi x2 (nI 0) (nI 10000) && ob_wi x3 x2 (nI 10000)))) (decide (mn < 40)) = 0 ∧ (r = nI mn)) (fun (_ : Unit) (t9 : State) => va_P D vwCl (ob_wX ax ao al am ac ++ ob_wM t am (mn + 1) (upd ms mn x1) (upd mf mn x2) (upd mt mn x3) (upd mp mn x4)) t9.heap) (va_A (ob_wX ax ao al am ac ++ ob_wM t am mn ms mf mt mp) sz)) (vx_X (fun _ : Unit => True) (fun (E9 : String) (_ : Unit) (_ : State) => ∃ i : Nat, ob_z2 (ob_wi x1 (nI 0) (nI 5) && (ob_wi x4 (nI 0) (nI 100) && (ob_wi x2 (nI 0) (nI 10000) && ob_wi x3 x2 (nI 10000)))) (decide (mn < 40)) = i + 1 ∧ ["java/lang/IllegalArgumentException", "java/lang/IllegalStateException"][i]? = some E9) (fun _ => False)) 1 6 (va_A (ob_wX ax ao al am ac ++ ob_wM t am mn ms mf mt mp) sz) := by
  refine vx_ofW (cc := cX4_measure) (maxL := 5) (ret := (some .int)) (by decide) rfl ?_
  intro p e s m args below meth c s₁ B hml hext hv
  obtain ⟨rfl, hsz, hP, hk, hD0, hE⟩ := hv
  have hx := B.exec
  have hb := B.bytes
  have hr := B.returns
  have hts := atoms_spec (ws := wsX4_measure) B.pre
  have hown : s.vm.findClass RX4 = some m.cls := findClass_of_methodNamed B.named
  have hlocks := B.notSynchronized
  have hK := hk.1
  have hD : va_D (va_A (ob_wX ax ao al am ac ++ ob_wM t am mn ms mf mt mp) sz) (ob_wX ax ao al am ac ++ ob_wM t am mn ms mf mt mp) := hD0.self (sz := sz)
  have hA : ∀ q : Nat, s.heap.size ≤ q → (va_A (ob_wX ax ao al am ac ++ ob_wM t am mn ms mf mt mp) sz) q := fun q h => Or.inr (hsz ▸ h)
  have hS : va_S (va_A (ob_wX ax ao al am ac ++ ob_wM t am mn ms mf mt mp) sz) s.heap s.heap [] := va_S.rf
  have hl := lv_entry [.ref ax, .int x1, .int x2, .int x3, .int x4] (n := 5) (Nat.le_of_ble_eq_true rfl)
  rw [lg_entry_eq]
  generalize (lg_sl [.ref ax, .int x1, .int x2, .int x3, .int x4] ++ List.replicate (5 - (lg_sl [.ref ax, .int x1, .int x2, .int x3, .int x4]).length) Slot.unset).toArray = ls at hl ⊢
  have hl : lv_has ls 5 [(0, .ref ax), (1, .int x1), (2, .int x2), (3, .int x3), (4, .int x4)] := hl
  have hP : va_P D vwCl (ob_wX ax ao al am ac ++ ob_wM t am mn ms mf mt mp) s.heap := hP
  refine lv_iload_n hx hb dX4_measure_0 rfl (lv_at hl 1 rfl) ?_
  refine vp_callSi (va_Run.run (va_runS (As := [.int x1]) (rest := []) ⟨hx, hb, hml, hown, hts⟩ (c_X4_isService l D t x1) (va_cwS 1 hts gX4_measure_X4_isService rfl rfl rfl (by decide +kernel) ⟨Nat.le_of_ble_eq_true rfl, Nat.le_of_ble_eq_true rfl⟩) (ob_preS (hP.sub [] rfl) hk) rfl rfl hl.1 rfl (lv_room (Nat.le_of_ble_eq_true rfl)) dX4_measure_1 ⟨Nat.le_of_ble_eq_true rfl, Nat.le_of_ble_eq_true rfl⟩)) (fun r9 hr9 => ?_)
  subst hr9
  refine ob_if_eq (tgt := 18) hx hb dX4_measure_4 (by decide) (fun c4 => ?_) (fun c4 => ?_)
  · exact vx_throwS (A := fun _ => False) (names := ["java/lang/RuntimeException", "java/lang/Exception"]) (sa := sa 12) (text := "no such service or percentage") hx hb hl9 hown (by decide +kernel) (by decide +kernel) (hts (Cond.classLink RX4 41 "java/lang/IllegalArgumentException") (List.mem_of_getElem? (i := 1) rfl)) (hts (Cond.initialized "java/lang/IllegalArgumentException") (List.mem_of_getElem? (i := 2) rfl)) (hE.2.2.2.2.2.2.2.2 12 (143, "no such service or percentage") rfl) (vx_hat (fun w h => hts w (List.mem_cons_of_mem _ (List.mem_append_left _ (List.mem_append_right _ (h))))) (ob_ng0) (vx_c (va_Nw.use rfl hE.2.2.1) (vx_c (va_Nw.use rfl hE.2.2.2.2.2.1) (vx_c (va_Nw.use rfl hE.2.2.2.2.2.2.1) (vx_c (va_Nw.use rfl hE.2.2.2.2.2.2.2.1) vx_n))))) (ob_gd0 41) hE.1 hE.2.1 va_S.rf (hl.1.trans hml.symm) dX4_measure_18 dX4_measure_21 dX4_measure_22 dX4_measure_24 dX4_measure_27 (fun x9 h9 => (hext x9 h9).elim) (by decide) (by decide) (by decide) (by decide) hlocks (fun t9 _ h1 h2 => ⟨(), trivial, ⟨0, (by first | (rw [c4]; rfl; done) | (rw [c4, c15]; rfl; done) | (rw [c4, c15, c36]; rfl; done) | (rw [c4, c15, c36, c47]; rfl; done) | (rw [c4, c15, c36, c47, decide_eq_false (Nat.not_lt.mpr c69)]; rfl; done) | (rw [c4, c15, c36, c47, decide_eq_true c69]; rfl; done)), rfl⟩, h1, fun q hq _ => h2 q hq⟩) (fun _ h => absurd h List.not_mem_nil) (by decide) (by decide)
  · refine lv_iload hx hb dX4_measure_7 (lv_at hl 4 rfl) ?_
    refine lv_iconst (v := nI 0) hx hb dX4_measure_9 (by decide) ?_
    refine lv_bipush (v := nI 100) hx hb dX4_measure_10 (by decide) ?_
    refine vp_callSi (va_Run.run (va_runS (As := [.int x4, .int (nI 0), .int (nI 100)]) (rest := []) ⟨hx, hb, hml, hown, hts⟩ (c_X4_isWithin l D t x4 (nI 0) (nI 100)) (va_cwS 3 hts gX4_measure_X4_isWithin rfl rfl rfl (by decide +kernel) ⟨Nat.le_of_ble_eq_true rfl, Nat.le_of_ble_eq_true rfl⟩) (ob_preS (hP.sub [] rfl) hk) rfl rfl hl.1 rfl (lv_room (Nat.le_of_ble_eq_true rfl)) dX4_measure_12 ⟨Nat.le_of_ble_eq_true rfl, Nat.le_of_ble_eq_true rfl⟩)) (fun r9 hr9 => ?_)
    subst hr9
    refine ob_if_ne (tgt := 28) hx hb dX4_measure_15 (by decide) (fun c15 => ?_) (fun c15 => ?_)
    · refine lv_iload_n hx hb dX4_measure_28 rfl (lv_at hl 2 rfl) ?_
      refine lv_iconst (v := nI 0) hx hb dX4_measure_29 (by decide) ?_
      refine lv_sipush (v := nI 10000) hx hb dX4_measure_30 (by decide) ?_
      refine vp_callSi (va_Run.run (va_runS (As := [.int x2, .int (nI 0), .int (nI 10000)]) (rest := []) ⟨hx, hb, hml, hown, hts⟩ (c_X4_isWithin l D t x2 (nI 0) (nI 10000)) (va_cwS 3 hts gX4_measure_X4_isWithin rfl rfl rfl (by decide +kernel) ⟨Nat.le_of_ble_eq_true rfl, Nat.le_of_ble_eq_true rfl⟩) (ob_preS (hP.sub [] rfl) hk) rfl rfl hl.1 rfl (lv_room (Nat.le_of_ble_eq_true rfl)) dX4_measure_33 ⟨Nat.le_of_ble_eq_true rfl, Nat.le_of_ble_eq_true rfl⟩)) (fun r9 hr9 => ?_)
      subst hr9
      refine ob_if_eq (tgt := 50) hx hb dX4_measure_36 (by decide) (fun c36 => ?_) (fun c36 => ?_)
      · exact vx_throwS (A := fun _ => False) (names := ["java/lang/RuntimeException", "java/lang/Exception"]) (sa := sa 13) (text := "no such minutes") hx hb hl9 hown (by decide +kernel) (by decide +kernel) (hts (Cond.classLink RX4 41 "java/lang/IllegalArgumentException") (List.mem_of_getElem? (i := 1) rfl)) (hts (Cond.initialized "java/lang/IllegalArgumentException") (List.mem_of_getElem? (i := 2) rfl)) (hE.2.2.2.2.2.2.2.2 13 (145, "no such minutes") rfl) (vx_hat (fun w h => hts w (List.mem_cons_of_mem _ (List.mem_append_left _ (List.mem_append_right _ (h))))) (ob_ng0) (vx_c (va_Nw.use rfl hE.2.2.1) (vx_c (va_Nw.use rfl hE.2.2.2.2.2.1) (vx_c (va_Nw.use rfl hE.2.2.2.2.2.2.1) (vx_c (va_Nw.use rfl hE.2.2.2.2.2.2.2.1) vx_n))))) (ob_gd0 41) hE.1 hE.2.1 va_S.rf (hl.1.trans hml.symm) dX4_measure_50 dX4_measure_53 dX4_measure_54 dX4_measure_56 dX4_measure_59 (fun x9 h9 => (hext x9 h9).elim) (by decide) (by decide) (by decide) (by decide) hlocks (fun t9 _ h1 h2 => ⟨(), trivial, ⟨0, (by first | (rw [c4]; rfl; done) | (rw [c4, c15]; rfl; done) | (rw [c4, c15, c36]; rfl; done) | (rw [c4, c15, c36, c47]; rfl; done) | (rw [c4, c15, c36, c47, decide_eq_false (Nat.not_lt.mpr c69)]; rfl; done) | (rw [c4, c15, c36, c47, decide_eq_true c69]; rfl; done)), rfl⟩, h1, fun q hq _ => h2 q hq⟩) (fun _ h => absurd h List.not_mem_nil) (by decide) (by decide)
      · refine lv_iload_n hx hb dX4_measure_39 rfl (lv_at hl 3 rfl) ?_
        refine lv_iload_n hx hb dX4_measure_40 rfl (lv_at hl 2 rfl) ?_
        refine lv_sipush (v := nI 10000) hx hb dX4_measure_41 (by decide) ?_
        refine vp_callSi (va_Run.run (va_runS (As := [.int x3, .int x2, .int (nI 10000)]) (rest := []) ⟨hx, hb, hml, hown, hts⟩ (c_X4_isWithin l D t x3 x2 (nI 10000)) (va_cwS 3 hts gX4_measure_X4_isWithin rfl rfl rfl (by decide +kernel) ⟨Nat.le_of_ble_eq_true rfl, Nat.le_of_ble_eq_true rfl⟩) (ob_preS (hP.sub [] rfl) hk) rfl rfl hl.1 rfl (lv_room (Nat.le_of_ble_eq_true rfl)) dX4_measure_44 ⟨Nat.le_of_ble_eq_true rfl, Nat.le_of_ble_eq_true rfl⟩)) (fun r9 hr9 => ?_)
        subst hr9
        refine ob_if_ne (tgt := 60) hx hb dX4_measure_47 (by decide) (fun c47 => ?_) (fun c47 => ?_)
        · refine lv_aload_n hx hb dX4_measure_60 rfl (lv_at hl 0 rfl) ?_
          refine va_get (ci := 4) (C := RX4) (T := TX4) (N := 4) hx hb hts (fun w h => List.mem_cons_of_mem _ (List.mem_append_left _ (List.mem_append_left _ (List.mem_append_left _ (List.mem_append_right _ (h)))))) hown hK hP 0 rfl rfl 2 (by decide) (hts (Cond.fieldLink RX4 26 "OutageBook" "measures" "LOutageBook$Measures;") (List.mem_of_getElem? (i := 5) rfl)) (fun _ h9 => h9) rfl dX4_measure_61 ?_
          refine vp_callSi (va_Run.run (va_runV (As := []) (rest := []) ⟨hx, hb, hml, hown, hts⟩ (c_X2_size l D t am mn ms mf mt mp) (cwV 0 hts gX4_measure_X2_size rfl rfl rfl (by decide +kernel) ⟨Nat.le_of_ble_eq_true rfl, Nat.le_of_ble_eq_true rfl⟩) (ob_preV (ci := 2) (q0 := 0) (hP.sub [1, 2, 3, 4, 5] rfl) hk rfl rfl) rfl rfl hl.1 rfl (lv_room (Nat.le_of_ble_eq_true rfl)) dX4_measure_64 ⟨Nat.le_of_ble_eq_true rfl, Nat.le_of_ble_eq_true rfl⟩)) (fun r9 hr9 => ?_)
          subst hr9
          refine lv_bipush (v := nI 40) hx hb dX4_measure_67 (by decide) ?_
          refine ob_icmp_lt (tgt := 82) hx hb (by omega) (by omega) dX4_measure_69 (by decide) (fun c69 => ?_) (fun c69 => ?_)
          · refine lv_aload_n hx hb dX4_measure_82 rfl (lv_at hl 0 rfl) ?_
            refine va_get (ci := 4) (C := RX4) (T := TX4) (N := 4) hx hb hts (fun w h => List.mem_cons_of_mem _ (List.mem_append_left _ (List.mem_append_left _ (List.mem_append_left _ (List.mem_append_right _ (h)))))) hown hK hP 0 rfl rfl 2 (by decide) (hts (Cond.fieldLink RX4 26 "OutageBook" "measures" "LOutageBook$Measures;") (List.mem_of_getElem? (i := 5) rfl)) (fun _ h9 => h9) rfl dX4_measure_83 ?_
            refine lv_iload_n hx hb dX4_measure_86 rfl (lv_at hl 1 rfl) ?_
            refine lv_iload_n hx hb dX4_measure_87 rfl (lv_at hl 2 rfl) ?_
            refine lv_iload_n hx hb dX4_measure_88 rfl (lv_at hl 3 rfl) ?_
            refine lv_iload hx hb dX4_measure_89 (lv_at hl 4 rfl) ?_
            have hFc := va_free (wc := ob_wM t am mn ms mf mt mp) hD hS hA [1, 2, 3, 4, 5] rfl
            refine va_calli (va_runV (As := [.int x1, .int x2, .int x3, .int x4]) (rest := []) ⟨hx, hb, hml, hown, hts⟩ (c_X2_add l D t s.heap.size am mn ms mf mt mp x1 x2 x3 x4 (by first | assumption | omega)) (cwV 4 hts gX4_measure_X2_add rfl rfl rfl (by decide +kernel) ⟨Nat.le_of_ble_eq_true rfl, Nat.le_of_ble_eq_true rfl⟩) (ob_pmV (ci := 2) (q0 := 0) (hP.sub [1, 2, 3, 4, 5] rfl) (hD.sub [1, 2, 3, 4, 5] (by decide) rfl) hk rfl rfl) rfl rfl hl.1 rfl (lv_room (Nat.le_of_ble_eq_true rfl)) dX4_measure_91 ⟨Nat.le_of_ble_eq_true rfl, Nat.le_of_ble_eq_true rfl⟩) hS (fun q _ h => hFc q h) hFc (fun r9 u9 t9 H1 locs ht hvm hw9 hB hz1 hk1 hS => ?_)
            rw [ht] at hB
            have hP := ob_jn (ws' := ob_wX ax ao al am ac ++ ob_wM t am (mn + 1) (upd ms mn x1) (upd mf mn x2) (upd mt mn x3) (upd mp mn x4)) hP hD [none, some 0, some 1, some 2, some 3, some 4] [1, 2, 3, 4, 5] rfl rfl hk1 hB rfl
            have hD : va_D (va_A (ob_wX ax ao al am ac ++ ob_wM t am mn ms mf mt mp) sz) (ob_wX ax ao al am ac ++ ob_wM t am (mn + 1) (upd ms mn x1) (upd mf mn x2) (upd mt mn x3) (upd mp mn x4)) := ob_dXM hD
            generalize H1 = H at hP hS ⊢
            subst hw9
            refine W.widen (k := 1) (n := 6) (Nat.le_of_ble_eq_true rfl) (Nat.le_of_ble_eq_true rfl) ?_
            exact vx_ret (W.iret (v := nI mn) hx hb hr (fun t9 ht hW => ⟨⟨nI mn, (), rfl, ⟨(by first | (rw [c4]; rfl; done) | (rw [c4, c15]; rfl; done) | (rw [c4, c15, c36]; rfl; done) | (rw [c4, c15, c36, c47]; rfl; done) | (rw [c4, c15, c36, c47, decide_eq_false (Nat.not_lt.mpr c69)]; rfl; done) | (rw [c4, c15, c36, c47, decide_eq_true c69]; rfl; done)), rfl⟩, ob_th ht hP⟩, hS.F ht⟩) hS.2.2 dX4_measure_94)
          · exact vx_throwS (A := fun _ => False) (names := ["java/lang/RuntimeException", "java/lang/Exception"]) (sa := sa 14) (text := "no room for a measure") hx hb hl9 hown (by decide +kernel) (by decide +kernel) (hts (Cond.classLink RX4 62 "java/lang/IllegalStateException") (List.mem_of_getElem? (i := 3) rfl)) (hts (Cond.initialized "java/lang/IllegalStateException") (List.mem_of_getElem? (i := 4) rfl)) (hE.2.2.2.2.2.2.2.2 14 (148, "no room for a measure") rfl) (vx_hat (fun w h => hts w (List.mem_cons_of_mem _ (List.mem_append_right _ (h)))) (ob_ng1) (vx_c (va_Nw.use rfl hE.2.2.2.1) (vx_c (va_Nw.use rfl hE.2.2.2.2.2.1) (vx_c (va_Nw.use rfl hE.2.2.2.2.2.2.1) (vx_c (va_Nw.use rfl hE.2.2.2.2.2.2.2.1) vx_n))))) (ob_gd1 62) hE.1 hE.2.1 va_S.rf (hl.1.trans hml.symm) dX4_measure_72 dX4_measure_75 dX4_measure_76 dX4_measure_78 dX4_measure_81 (fun x9 h9 => (hext x9 h9).elim) (by decide) (by decide) (by decide) (by decide) hlocks (fun t9 _ h1 h2 => ⟨(), trivial, ⟨1, (by first | (rw [c4]; rfl; done) | (rw [c4, c15]; rfl; done) | (rw [c4, c15, c36]; rfl; done) | (rw [c4, c15, c36, c47]; rfl; done) | (rw [c4, c15, c36, c47, decide_eq_false (Nat.not_lt.mpr c69)]; rfl; done) | (rw [c4, c15, c36, c47, decide_eq_true c69]; rfl; done)), rfl⟩, h1, fun q hq _ => h2 q hq⟩) (fun _ h => absurd h List.not_mem_nil) (by decide) (by decide)
        · exact vx_throwS (A := fun _ => False) (names := ["java/lang/RuntimeException", "java/lang/Exception"]) (sa := sa 13) (text := "no such minutes") hx hb hl9 hown (by decide +kernel) (by decide +kernel) (hts (Cond.classLink RX4 41 "java/lang/IllegalArgumentException") (List.mem_of_getElem? (i := 1) rfl)) (hts (Cond.initialized "java/lang/IllegalArgumentException") (List.mem_of_getElem? (i := 2) rfl)) (hE.2.2.2.2.2.2.2.2 13 (145, "no such minutes") rfl) (vx_hat (fun w h => hts w (List.mem_cons_of_mem _ (List.mem_append_left _ (List.mem_append_right _ (h))))) (ob_ng0) (vx_c (va_Nw.use rfl hE.2.2.1) (vx_c (va_Nw.use rfl hE.2.2.2.2.2.1) (vx_c (va_Nw.use rfl hE.2.2.2.2.2.2.1) (vx_c (va_Nw.use rfl hE.2.2.2.2.2.2.2.1) vx_n))))) (ob_gd0 41) hE.1 hE.2.1 va_S.rf (hl.1.trans hml.symm) dX4_measure_50 dX4_measure_53 dX4_measure_54 dX4_measure_56 dX4_measure_59 (fun x9 h9 => (hext x9 h9).elim) (by decide) (by decide) (by decide) (by decide) hlocks (fun t9 _ h1 h2 => ⟨(), trivial, ⟨0, (by first | (rw [c4]; rfl; done) | (rw [c4, c15]; rfl; done) | (rw [c4, c15, c36]; rfl; done) | (rw [c4, c15, c36, c47]; rfl; done) | (rw [c4, c15, c36, c47, decide_eq_false (Nat.not_lt.mpr c69)]; rfl; done) | (rw [c4, c15, c36, c47, decide_eq_true c69]; rfl; done)), rfl⟩, h1, fun q hq _ => h2 q hq⟩) (fun _ h => absurd h List.not_mem_nil) (by decide) (by decide)
    · exact vx_throwS (A := fun _ => False) (names := ["java/lang/RuntimeException", "java/lang/Exception"]) (sa := sa 12) (text := "no such service or percentage") hx hb hl9 hown (by decide +kernel) (by decide +kernel) (hts (Cond.classLink RX4 41 "java/lang/IllegalArgumentException") (List.mem_of_getElem? (i := 1) rfl)) (hts (Cond.initialized "java/lang/IllegalArgumentException") (List.mem_of_getElem? (i := 2) rfl)) (hE.2.2.2.2.2.2.2.2 12 (143, "no such service or percentage") rfl) (vx_hat (fun w h => hts w (List.mem_cons_of_mem _ (List.mem_append_left _ (List.mem_append_right _ (h))))) (ob_ng0) (vx_c (va_Nw.use rfl hE.2.2.1) (vx_c (va_Nw.use rfl hE.2.2.2.2.2.1) (vx_c (va_Nw.use rfl hE.2.2.2.2.2.2.1) (vx_c (va_Nw.use rfl hE.2.2.2.2.2.2.2.1) vx_n))))) (ob_gd0 41) hE.1 hE.2.1 va_S.rf (hl.1.trans hml.symm) dX4_measure_18 dX4_measure_21 dX4_measure_22 dX4_measure_24 dX4_measure_27 (fun x9 h9 => (hext x9 h9).elim) (by decide) (by decide) (by decide) (by decide) hlocks (fun t9 _ h1 h2 => ⟨(), trivial, ⟨0, (by first | (rw [c4]; rfl; done) | (rw [c4, c15]; rfl; done) | (rw [c4, c15, c36]; rfl; done) | (rw [c4, c15, c36, c47]; rfl; done) | (rw [c4, c15, c36, c47, decide_eq_false (Nat.not_lt.mpr c69)]; rfl; done) | (rw [c4, c15, c36, c47, decide_eq_true c69]; rfl; done)), rfl⟩, h1, fun q hq _ => h2 q hq⟩) (fun _ h => absurd h List.not_mem_nil) (by decide) (by decide)

set_option maxRecDepth 100000 in
set_option maxHeartbeats 4000000 in
theorem c_X4_impact (l : Launch) (hl9 : l.stackTraces = false) (sa : Nat → Nat) (D : va_G) (t : Nat → ClassId) (sz : Nat) (ax : Nat) (ao al am ac : Nat → Nat) (mn : Nat) (ms mf mt mp : Nat → Int32) (x : Int32) (hmn : mn ≤ 40) : vx_Met l yX4_impact wsX4_impact ({ frames := 6, cells := 1, slots := 6, locals := 82 } : Room) (ob_Px D t (ob_wX ax ao al am ac ++ ob_wM t am mn ms mf mt mp) sz sa [.ref ax, .int x]) (va_Qi (fun (r : Int32) (_ : Unit) => ob_z1 (ob_wi x (nI 0) (nI 5)) = 0 ∧ (r = (ob_sw ms mf mt mp mn x (2 * mn + 1)).1)) (fun (_ : Unit) (t9 : State) => va_P D vwCl (ob_wX ax ao al am ac ++ ob_wM t am mn ms mf mt mp) t9.heap) (va_A (ob_wX ax ao al am ac ++ ob_wM t am mn ms mf mt mp) sz)) (vx_X (fun _ : Unit => True) (fun (E9 : String) (_ : Unit) (_ : State) => ∃ i : Nat, ob_z1 (ob_wi x (nI 0) (nI 5)) = i + 1 ∧ ["java/lang/IllegalArgumentException"][i]? = some E9) (fun _ => False)) 1 6 (va_A (ob_wX ax ao al am ac ++ ob_wM t am mn ms mf mt mp) sz) := by
  refine vx_ofW (cc := cX4_impact) (maxL := 2) (ret := (some .int)) (by decide) rfl ?_
  intro p e s m args below meth c s₁ B hml hext hv
  obtain ⟨rfl, hsz, hP, hk, hD0, hE⟩ := hv
  have hx := B.exec
  have hb := B.bytes
  have hr := B.returns
  have hts := atoms_spec (ws := wsX4_impact) B.pre
  have hown : s.vm.findClass RX4 = some m.cls := findClass_of_methodNamed B.named
  have hlocks := B.notSynchronized
  have hK := hk.1
  have hD : va_D (va_A (ob_wX ax ao al am ac ++ ob_wM t am mn ms mf mt mp) sz) (ob_wX ax ao al am ac ++ ob_wM t am mn ms mf mt mp) := hD0.self (sz := sz)
  have hA : ∀ q : Nat, s.heap.size ≤ q → (va_A (ob_wX ax ao al am ac ++ ob_wM t am mn ms mf mt mp) sz) q := fun q h => Or.inr (hsz ▸ h)
  have hS : va_S (va_A (ob_wX ax ao al am ac ++ ob_wM t am mn ms mf mt mp) sz) s.heap s.heap [] := va_S.rf
  have hl := lv_entry [.ref ax, .int x] (n := 2) (Nat.le_of_ble_eq_true rfl)
  rw [lg_entry_eq]
  generalize (lg_sl [.ref ax, .int x] ++ List.replicate (2 - (lg_sl [.ref ax, .int x]).length) Slot.unset).toArray = ls at hl ⊢
  have hl : lv_has ls 2 [(0, .ref ax), (1, .int x)] := hl
  have hP : va_P D vwCl (ob_wX ax ao al am ac ++ ob_wM t am mn ms mf mt mp) s.heap := hP
  refine lv_iload_n hx hb dX4_impact_0 rfl (lv_at hl 1 rfl) ?_
  refine vp_callSi (va_Run.run (va_runS (As := [.int x]) (rest := []) ⟨hx, hb, hml, hown, hts⟩ (c_X4_isService l D t x) (va_cwS 1 hts gX4_impact_X4_isService rfl rfl rfl (by decide +kernel) ⟨Nat.le_of_ble_eq_true rfl, Nat.le_of_ble_eq_true rfl⟩) (ob_preS (hP.sub [] rfl) hk) rfl rfl hl.1 rfl (lv_room (Nat.le_of_ble_eq_true rfl)) dX4_impact_1 ⟨Nat.le_of_ble_eq_true rfl, Nat.le_of_ble_eq_true rfl⟩)) (fun r9 hr9 => ?_)
  subst hr9
  refine ob_if_ne (tgt := 17) hx hb dX4_impact_4 (by decide) (fun c4 => ?_) (fun c4 => ?_)
  · refine lv_aload_n hx hb dX4_impact_17 rfl (lv_at hl 0 rfl) ?_
    refine va_get (ci := 4) (C := RX4) (T := TX4) (N := 4) hx hb hts (fun w h => List.mem_cons_of_mem _ (List.mem_append_left _ (List.mem_append_left _ (List.mem_append_right _ (h))))) hown hK hP 0 rfl rfl 2 (by decide) (hts (Cond.fieldLink RX4 26 "OutageBook" "measures" "LOutageBook$Measures;") (List.mem_of_getElem? (i := 3) rfl)) (fun _ h9 => h9) rfl dX4_impact_18 ?_
    refine lv_iload_n hx hb dX4_impact_21 rfl (lv_at hl 1 rfl) ?_
    refine vp_callSi (va_Run.run (va_runV (As := [.int x]) (rest := []) ⟨hx, hb, hml, hown, hts⟩ (c_X2_sumOfWorst l D t am mn ms mf mt mp x (by first | assumption | omega)) (cwV 1 hts gX4_impact_X2_sumOfWorst rfl rfl rfl (by decide +kernel) ⟨Nat.le_of_ble_eq_true rfl, Nat.le_of_ble_eq_true rfl⟩) (ob_preV (ci := 2) (q0 := 0) (hP.sub [1, 2, 3, 4, 5] rfl) hk rfl rfl) rfl rfl hl.1 rfl (lv_room (Nat.le_of_ble_eq_true rfl)) dX4_impact_22 ⟨Nat.le_of_ble_eq_true rfl, Nat.le_of_ble_eq_true rfl⟩)) (fun r9 hr9 => ?_)
    subst hr9
    refine W.widen (k := 1) (n := 6) (Nat.le_of_ble_eq_true rfl) (Nat.le_of_ble_eq_true rfl) ?_
    exact vx_ret (W.iret (v := (ob_sw ms mf mt mp mn x (2 * mn + 1)).1) hx hb hr (fun t9 ht hW => ⟨⟨(ob_sw ms mf mt mp mn x (2 * mn + 1)).1, (), rfl, ⟨(by rw [c4]; rfl), rfl⟩, ob_th ht hP⟩, hS.F ht⟩) hS.2.2 dX4_impact_25)
  · exact vx_throwS (A := fun _ => False) (names := ["java/lang/RuntimeException", "java/lang/Exception"]) (sa := sa 11) (text := "no such service") hx hb hl9 hown (by decide +kernel) (by decide +kernel) (hts (Cond.classLink RX4 41 "java/lang/IllegalArgumentException") (List.mem_of_getElem? (i := 1) rfl)) (hts (Cond.initialized "java/lang/IllegalArgumentException") (List.mem_of_getElem? (i := 2) rfl)) (hE.2.2.2.2.2.2.2.2 11 (138, "no such service") rfl) (vx_hat (fun w h => hts w (List.mem_cons_of_mem _ (List.mem_append_right _ (h)))) (ob_ng0) (vx_c (va_Nw.use rfl hE.2.2.1) (vx_c (va_Nw.use rfl hE.2.2.2.2.2.1) (vx_c (va_Nw.use rfl hE.2.2.2.2.2.2.1) (vx_c (va_Nw.use rfl hE.2.2.2.2.2.2.2.1) vx_n))))) (ob_gd0 41) hE.1 hE.2.1 va_S.rf (hl.1.trans hml.symm) dX4_impact_7 dX4_impact_10 dX4_impact_11 dX4_impact_13 dX4_impact_16 (fun x9 h9 => (hext x9 h9).elim) (by decide) (by decide) (by decide) (by decide) hlocks (fun t9 _ h1 h2 => ⟨(), trivial, ⟨0, (by rw [c4]; rfl), rfl⟩, h1, fun q hq _ => h2 q hq⟩) (fun _ h => absurd h List.not_mem_nil) (by decide) (by decide)

set_option maxRecDepth 100000 in
set_option maxHeartbeats 4000000 in
theorem c_X4_minutes (l : Launch) (D : va_G) (t : Nat → ClassId) (ax : Nat) (ao al am ac : Nat → Nat) (mn : Nat) (ms mf mt mp : Nat → Int32) (hmn : mn ≤ 40) : Met l yX4_minutes wsX4_minutes ({ frames := 3, cells := 0, slots := 0, locals := 71 } : Room) (ob_Pp D t (ob_wX ax ao al am ac ++ ob_wM t am mn ms mf mt mp) [.ref ax]) (vp_Si (fun r : Int32 => r = (ob_fm ms mf mt mp mn (2 * mn + 1)).1)) 0 0 (fun _ => False) := by
  refine Met.ofW (cc := cX4_minutes) (maxL := 1) (ret := (some .int)) (by decide) rfl ?_
  intro p e s m args below meth c s₁ B hml hv
  obtain ⟨rfl, hP, hk⟩ := hv
  have hx := B.exec
  have hb := B.bytes
  have hr := B.returns
  have hts := atoms_spec (ws := wsX4_minutes) B.pre
  have hown : s.vm.findClass RX4 = some m.cls := findClass_of_methodNamed B.named
  have hlocks := B.notSynchronized
  have hK := hk.1
  have hl := lv_entry [.ref ax] (n := 1) (Nat.le_of_ble_eq_true rfl)
  rw [lg_entry_eq]
  generalize (lg_sl [.ref ax] ++ List.replicate (1 - (lg_sl [.ref ax]).length) Slot.unset).toArray = ls at hl ⊢
  have hl : lv_has ls 1 [(0, .ref ax)] := hl
  refine lv_aload_n hx hb dX4_minutes_0 rfl (lv_at hl 0 rfl) ?_
  refine va_get (ci := 4) (C := RX4) (T := TX4) (N := 4) hx hb hts (fun w h => List.mem_cons_of_mem _ (List.mem_append_left _ (List.mem_append_right _ (h)))) hown hK hP 0 rfl rfl 2 (by decide) (hts (Cond.fieldLink RX4 26 "OutageBook" "measures" "LOutageBook$Measures;") (List.mem_of_getElem? (i := 1) rfl)) (fun _ h9 => h9) rfl dX4_minutes_1 ?_
  refine vp_callSi (va_Run.run (va_runV (As := []) (rest := []) ⟨hx, hb, hml, hown, hts⟩ (c_X2_failedMinutes l D t am mn ms mf mt mp (by first | assumption | omega)) (cwV 0 hts gX4_minutes_X2_failedMinutes rfl rfl rfl (by decide +kernel) ⟨Nat.le_of_ble_eq_true rfl, Nat.le_of_ble_eq_true rfl⟩) (ob_preV (ci := 2) (q0 := 0) (hP.sub [1, 2, 3, 4, 5] rfl) hk rfl rfl) rfl rfl hl.1 rfl (lv_room (Nat.le_of_ble_eq_true rfl)) dX4_minutes_4 ⟨Nat.le_of_ble_eq_true rfl, Nat.le_of_ble_eq_true rfl⟩)) (fun r9 hr9 => ?_)
  subst hr9
  exact W.iret (v := (ob_fm ms mf mt mp mn (2 * mn + 1)).1) hx hb hr (fun t9 ht hW => ⟨(ob_fm ms mf mt mp mn (2 * mn + 1)).1, rfl, rfl, ht⟩) (fun _ h => absurd h List.not_mem_nil) dX4_minutes_7

set_option maxRecDepth 100000 in
set_option maxHeartbeats 4000000 in
theorem c_X4_addCause (l : Launch) (hl9 : l.stackTraces = false) (sa : Nat → Nat) (D : va_G) (t : Nat → ClassId) (sz : Nat) (ax : Nat) (ao al am ac : Nat → Nat) (cn : Nat) (st : Int32) (Wt : Nat → Nat → Int32) (hcn : cn ≤ 16) : vx_Met l yX4_addCause wsX4_addCause ({ frames := 6, cells := 1, slots := 6, locals := 82 } : Room) (ob_Px D t (ob_wX ax ao al am ac ++ ob_wC t ac cn st Wt) sz sa [.ref ax]) (va_Qi (fun (r : Int32) (_ : Unit) => ob_z1 (decide (cn < 16)) = 0 ∧ (r = nI cn)) (fun (_ : Unit) (t9 : State) => va_P D vwCl (ob_wX ax ao al am ac ++ ob_wC t ac (cn + 1) (st ||| ob_bit (nI cn)) Wt) t9.heap) (va_A (ob_wX ax ao al am ac ++ ob_wC t ac cn st Wt) sz)) (vx_X (fun _ : Unit => True) (fun (E9 : String) (_ : Unit) (_ : State) => ∃ i : Nat, ob_z1 (decide (cn < 16)) = i + 1 ∧ ["java/lang/IllegalStateException"][i]? = some E9) (fun _ => False)) 1 6 (va_A (ob_wX ax ao al am ac ++ ob_wC t ac cn st Wt) sz) := by
  refine vx_ofW (cc := cX4_addCause) (maxL := 1) (ret := (some .int)) (by decide) rfl ?_
  intro p e s m args below meth c s₁ B hml hext hv
  obtain ⟨rfl, hsz, hP, hk, hD0, hE⟩ := hv
  have hx := B.exec
  have hb := B.bytes
  have hr := B.returns
  have hts := atoms_spec (ws := wsX4_addCause) B.pre
  have hown : s.vm.findClass RX4 = some m.cls := findClass_of_methodNamed B.named
  have hlocks := B.notSynchronized
  have hK := hk.1
  have hD : va_D (va_A (ob_wX ax ao al am ac ++ ob_wC t ac cn st Wt) sz) (ob_wX ax ao al am ac ++ ob_wC t ac cn st Wt) := hD0.self (sz := sz)
  have hA : ∀ q : Nat, s.heap.size ≤ q → (va_A (ob_wX ax ao al am ac ++ ob_wC t ac cn st Wt) sz) q := fun q h => Or.inr (hsz ▸ h)
  have hS : va_S (va_A (ob_wX ax ao al am ac ++ ob_wC t ac cn st Wt) sz) s.heap s.heap [] := va_S.rf
  have hl := lv_entry [.ref ax] (n := 1) (Nat.le_of_ble_eq_true rfl)
  rw [lg_entry_eq]
  generalize (lg_sl [.ref ax] ++ List.replicate (1 - (lg_sl [.ref ax]).length) Slot.unset).toArray = ls at hl ⊢
  have hl : lv_has ls 1 [(0, .ref ax)] := hl
  have hP : va_P D vwCl (ob_wX ax ao al am ac ++ ob_wC t ac cn st Wt) s.heap := hP
  refine lv_aload_n hx hb dX4_addCause_0 rfl (lv_at hl 0 rfl) ?_
  refine va_get (ci := 4) (C := RX4) (T := TX4) (N := 4) hx hb hts (fun w h => List.mem_cons_of_mem _ (List.mem_append_left _ (List.mem_append_left _ (List.mem_append_right _ (h))))) hown hK hP 0 rfl rfl 3 (by decide) (hts (Cond.fieldLink RX4 33 "OutageBook" "causes" "LOutageBook$Causes;") (List.mem_of_getElem? (i := 3) rfl)) (fun _ h9 => h9) rfl dX4_addCause_1 ?_
  refine vp_callSi (va_Run.run (va_runV (As := []) (rest := []) ⟨hx, hb, hml, hown, hts⟩ (c_X0_size l D t ac cn st Wt) (cwV 0 hts gX4_addCause_X0_size rfl rfl rfl (by decide +kernel) ⟨Nat.le_of_ble_eq_true rfl, Nat.le_of_ble_eq_true rfl⟩) (ob_preV (ci := 0) (q0 := 0) (hP.sub [1, 2, 3, 4, 5, 6, 7, 8, 9, 10, 11, 12, 13, 14, 15, 16, 17, 18] rfl) hk rfl rfl) rfl rfl hl.1 rfl (lv_room (Nat.le_of_ble_eq_true rfl)) dX4_addCause_4 ⟨Nat.le_of_ble_eq_true rfl, Nat.le_of_ble_eq_true rfl⟩)) (fun r9 hr9 => ?_)
  subst hr9
  refine lv_bipush (v := nI 16) hx hb dX4_addCause_7 (by decide) ?_
  refine ob_icmp_lt (tgt := 22) hx hb (by omega) (by omega) dX4_addCause_9 (by decide) (fun c9 => ?_) (fun c9 => ?_)
  · refine lv_aload_n hx hb dX4_addCause_22 rfl (lv_at hl 0 rfl) ?_
    refine va_get (ci := 4) (C := RX4) (T := TX4) (N := 4) hx hb hts (fun w h => List.mem_cons_of_mem _ (List.mem_append_left _ (List.mem_append_left _ (List.mem_append_right _ (h))))) hown hK hP 0 rfl rfl 3 (by decide) (hts (Cond.fieldLink RX4 33 "OutageBook" "causes" "LOutageBook$Causes;") (List.mem_of_getElem? (i := 3) rfl)) (fun _ h9 => h9) rfl dX4_addCause_23 ?_
    have hFc := va_free (wc := ob_wC t ac cn st Wt) hD hS hA [1, 2, 3, 4, 5, 6, 7, 8, 9, 10, 11, 12, 13, 14, 15, 16, 17, 18] rfl
    refine va_calli (va_runV (As := []) (rest := []) ⟨hx, hb, hml, hown, hts⟩ (c_X0_add l D t s.heap.size ac cn st Wt (by first | assumption | omega)) (cwV 0 hts gX4_addCause_X0_add rfl rfl rfl (by decide +kernel) ⟨Nat.le_of_ble_eq_true rfl, Nat.le_of_ble_eq_true rfl⟩) (ob_pmV (ci := 0) (q0 := 0) (hP.sub [1, 2, 3, 4, 5, 6, 7, 8, 9, 10, 11, 12, 13, 14, 15, 16, 17, 18] rfl) (hD.sub [1, 2, 3, 4, 5, 6, 7, 8, 9, 10, 11, 12, 13, 14, 15, 16, 17, 18] (by decide) rfl) hk rfl rfl) rfl rfl hl.1 rfl (lv_room (Nat.le_of_ble_eq_true rfl)) dX4_addCause_26 ⟨Nat.le_of_ble_eq_true rfl, Nat.le_of_ble_eq_true rfl⟩) hS (fun q _ h => hFc q h) hFc (fun r9 u9 t9 H1 locs ht hvm hw9 hB hz1 hk1 hS => ?_)
    rw [ht] at hB
    have hP := ob_jn (ws' := ob_wX ax ao al am ac ++ ob_wC t ac (cn + 1) (st ||| ob_bit (nI cn)) Wt) hP hD [none, some 0, some 1, some 2, some 3, some 4, some 5, some 6, some 7, some 8, some 9, some 10, some 11, some 12, some 13, some 14, some 15, some 16, some 17] [1, 2, 3, 4, 5, 6, 7, 8, 9, 10, 11, 12, 13, 14, 15, 16, 17, 18] rfl rfl hk1 hB rfl
    have hD : va_D (va_A (ob_wX ax ao al am ac ++ ob_wC t ac cn st Wt) sz) (ob_wX ax ao al am ac ++ ob_wC t ac (cn + 1) (st ||| ob_bit (nI cn)) Wt) := ob_dXC hD
    generalize H1 = H at hP hS ⊢
    subst hw9
    refine W.widen (k := 1) (n := 6) (Nat.le_of_ble_eq_true rfl) (Nat.le_of_ble_eq_true rfl) ?_
    exact vx_ret (W.iret (v := nI cn) hx hb hr (fun t9 ht hW => ⟨⟨nI cn, (), rfl, ⟨(by first | (rw [decide_eq_true c9]; rfl; done) | (rw [decide_eq_false (Nat.not_lt.mpr c9)]; rfl; done)), rfl⟩, ob_th ht hP⟩, hS.F ht⟩) hS.2.2 dX4_addCause_29)
  · exact vx_throwS (A := fun _ => False) (names := ["java/lang/RuntimeException", "java/lang/Exception"]) (sa := sa 15) (text := "no room for a cause") hx hb hl9 hown (by decide +kernel) (by decide +kernel) (hts (Cond.classLink RX4 62 "java/lang/IllegalStateException") (List.mem_of_getElem? (i := 1) rfl)) (hts (Cond.initialized "java/lang/IllegalStateException") (List.mem_of_getElem? (i := 2) rfl)) (hE.2.2.2.2.2.2.2.2 15 (160, "no room for a cause") rfl) (vx_hat (fun w h => hts w (List.mem_cons_of_mem _ (List.mem_append_right _ (h)))) (ob_ng1) (vx_c (va_Nw.use rfl hE.2.2.2.1) (vx_c (va_Nw.use rfl hE.2.2.2.2.2.1) (vx_c (va_Nw.use rfl hE.2.2.2.2.2.2.1) (vx_c (va_Nw.use rfl hE.2.2.2.2.2.2.2.1) vx_n))))) (ob_gd1 62) hE.1 hE.2.1 va_S.rf (hl.1.trans hml.symm) dX4_addCause_12 dX4_addCause_15 dX4_addCause_16 dX4_addCause_18 dX4_addCause_21 (fun x9 h9 => (hext x9 h9).elim) (by decide) (by decide) (by decide) (by decide) hlocks (fun t9 _ h1 h2 => ⟨(), trivial, ⟨0, (by first | (rw [decide_eq_true c9]; rfl; done) | (rw [decide_eq_false (Nat.not_lt.mpr c9)]; rfl; done)), rfl⟩, h1, fun q hq _ => h2 q hq⟩) (fun _ h => absurd h List.not_mem_nil) (by decide) (by decide)

set_option maxRecDepth 100000 in
set_option maxHeartbeats 4000000 in
theorem c_X4_argueReason (l : Launch) (hl9 : l.stackTraces = false) (sa : Nat → Nat) (D : va_G) (t : Nat → ClassId) (sz : Nat) (ax : Nat) (ao al am ac : Nat → Nat) (cn : Nat) (st : Int32) (Wt : Nat → Nat → Int32) (x1 x2 x3 : Int32) (hcn : cn ≤ 16) : vx_Met l yX4_argueReason wsX4_argueReason ({ frames := 6, cells := 1, slots := 6, locals := 113 } : Room) (ob_Px D t (ob_wX ax ao al am ac ++ ob_wC t ac cn st Wt) sz sa [.ref ax, .int x1, .int x2, .int x3]) (va_Qi (fun (r : Int32) (_ : Unit) => ob_z4 (ob_hd cn x1 && ob_hd cn x2) (!decide (x1 = x2) && ob_wi x3 (nI 0) (nI 100)) ((!decide (x3 ≤ 0)) && ob_hb (ob_rcO Wt cn (ob_bit (nI cn) - nI 1) x2 cn) x1) = 0 ∧ (r = Wt x1.toNatClampNeg x2.toNatClampNeg)) (fun (_ : Unit) (t9 : State) => va_P D vwCl (ob_wX ax ao al am ac ++ ob_wC t ac cn st (ob_up2 Wt x1.toNatClampNeg x2.toNatClampNeg x3)) t9.heap) (va_A (ob_wX ax ao al am ac ++ ob_wC t ac cn st Wt) sz)) (vx_X (fun _ : Unit => True) (fun (E9 : String) (_ : Unit) (_ : State) => ∃ i : Nat, ob_z4 (ob_hd cn x1 && ob_hd cn x2) (!decide (x1 = x2) && ob_wi x3 (nI 0) (nI 100)) ((!decide (x3 ≤ 0)) && ob_hb (ob_rcO Wt cn (ob_bit (nI cn) - nI 1) x2 cn) x1) = i + 1 ∧ ["java/lang/IndexOutOfBoundsException", "java/lang/IllegalArgumentException", "java/lang/IllegalStateException"][i]? = some E9) (fun _ => False)) 1 6 (va_A (ob_wX ax ao al am ac ++ ob_wC t ac cn st Wt) sz) := by
  refine vx_ofW (cc := cX4_argueReason) (maxL := 4) (ret := (some .int)) (by decide) rfl ?_
  intro p e s m args below meth c s₁ B hml hext hv
  obtain ⟨rfl, hsz, hP, hk, hD0, hE⟩ := hv
  have hx := B.exec
  have hb := B.bytes
  have hr := B.returns
  have hts := atoms_spec (ws := wsX4_argueReason) B.pre
  have hown : s.vm.findClass RX4 = some m.cls := findClass_of_methodNamed B.named
  have hlocks := B.notSynchronized
  have hK := hk.1
  have hD : va_D (va_A (ob_wX ax ao al am ac ++ ob_wC t ac cn st Wt) sz) (ob_wX ax ao al am ac ++ ob_wC t ac cn st Wt) := hD0.self (sz := sz)
  have hA : ∀ q : Nat, s.heap.size ≤ q → (va_A (ob_wX ax ao al am ac ++ ob_wC t ac cn st Wt) sz) q := fun q h => Or.inr (hsz ▸ h)
  have hS : va_S (va_A (ob_wX ax ao al am ac ++ ob_wC t ac cn st Wt) sz) s.heap s.heap [] := va_S.rf
  have hl := lv_entry [.ref ax, .int x1, .int x2, .int x3] (n := 4) (Nat.le_of_ble_eq_true rfl)
  rw [lg_entry_eq]
  generalize (lg_sl [.ref ax, .int x1, .int x2, .int x3] ++ List.replicate (4 - (lg_sl [.ref ax, .int x1, .int x2, .int x3]).length) Slot.unset).toArray = ls at hl ⊢
  have hl : lv_has ls 4 [(0, .ref ax), (1, .int x1), (2, .int x2), (3, .int x3)] := hl
  have hP : va_P D vwCl (ob_wX ax ao al am ac ++ ob_wC t ac cn st Wt) s.heap := hP
  refine lv_aload_n hx hb dX4_argueReason_0 rfl (lv_at hl 0 rfl) ?_
  refine va_get (ci := 4) (C := RX4) (T := TX4) (N := 4) hx hb hts (fun w h => List.mem_cons_of_mem _ (List.mem_append_left _ (List.mem_append_left _ (List.mem_append_left _ (List.mem_append_left _ (List.mem_append_right _ (h))))))) hown hK hP 0 rfl rfl 3 (by decide) (hts (Cond.fieldLink RX4 33 "OutageBook" "causes" "LOutageBook$Causes;") (List.mem_of_getElem? (i := 7) rfl)) (fun _ h9 => h9) rfl dX4_argueReason_1 ?_
  refine lv_iload_n hx hb dX4_argueReason_4 rfl (lv_at hl 1 rfl) ?_
  refine vp_callSi (va_Run.run (va_runV (As := [.int x1]) (rest := []) ⟨hx, hb, hml, hown, hts⟩ (c_X0_holds l D t ac cn st Wt x1 (by first | assumption | omega)) (cwV 1 hts gX4_argueReason_X0_holds rfl rfl rfl (by decide +kernel) ⟨Nat.le_of_ble_eq_true rfl, Nat.le_of_ble_eq_true rfl⟩) (ob_preV (ci := 0) (q0 := 0) (hP.sub [1, 2, 3, 4, 5, 6, 7, 8, 9, 10, 11, 12, 13, 14, 15, 16, 17, 18] rfl) hk rfl rfl) rfl rfl hl.1 rfl (lv_room (Nat.le_of_ble_eq_true rfl)) dX4_argueReason_5 ⟨Nat.le_of_ble_eq_true rfl, Nat.le_of_ble_eq_true rfl⟩)) (fun r9 hr9 => ?_)
  subst hr9
  refine ob_if_eq (tgt := 22) hx hb dX4_argueReason_8 (by decide) (fun c8 => ?_) (fun c8 => ?_)
  · exact vx_throwS (A := fun _ => False) (names := ["java/lang/RuntimeException", "java/lang/Exception"]) (sa := sa 16) (text := "no such cause") hx hb hl9 hown (by decide +kernel) (by decide +kernel) (hts (Cond.classLink RX4 99 "java/lang/IndexOutOfBoundsException") (List.mem_of_getElem? (i := 1) rfl)) (hts (Cond.initialized "java/lang/IndexOutOfBoundsException") (List.mem_of_getElem? (i := 2) rfl)) (hE.2.2.2.2.2.2.2.2 16 (165, "no such cause") rfl) (vx_hat (fun w h => hts w (List.mem_cons_of_mem _ (List.mem_append_left _ (List.mem_append_left _ (List.mem_append_right _ (h)))))) (ob_ng2) (vx_c (va_Nw.use rfl hE.2.2.2.2.1) (vx_c (va_Nw.use rfl hE.2.2.2.2.2.1) (vx_c (va_Nw.use rfl hE.2.2.2.2.2.2.1) (vx_c (va_Nw.use rfl hE.2.2.2.2.2.2.2.1) vx_n))))) (ob_gd2 99) hE.1 hE.2.1 va_S.rf (hl.1.trans hml.symm) dX4_argueReason_22 dX4_argueReason_25 dX4_argueReason_26 dX4_argueReason_28 dX4_argueReason_31 (fun x9 h9 => (hext x9 h9).elim) (by decide) (by decide) (by decide) (by decide) hlocks (fun t9 _ h1 h2 => ⟨(), trivial, ⟨0, (by first | (rw [c8]; rfl; done) | (rw [c8, c19]; rfl; done) | (rw [c8, c19, decide_eq_true c34]; rfl; done) | (rw [c8, c19, decide_eq_false c34, c44]; rfl; done) | (rw [c8, c19, decide_eq_false c34, c44, decide_eq_true c58]; rfl; done) | (rw [c8, c19, decide_eq_false c34, c44, decide_eq_false c58, c70]; rfl; done)), rfl⟩, h1, fun q hq _ => h2 q hq⟩) (fun _ h => absurd h List.not_mem_nil) (by decide) (by decide)
  · refine lv_aload_n hx hb dX4_argueReason_11 rfl (lv_at hl 0 rfl) ?_
    refine va_get (ci := 4) (C := RX4) (T := TX4) (N := 4) hx hb hts (fun w h => List.mem_cons_of_mem _ (List.mem_append_left _ (List.mem_append_left _ (List.mem_append_left _ (List.mem_append_left _ (List.mem_append_right _ (h))))))) hown hK hP 0 rfl rfl 3 (by decide) (hts (Cond.fieldLink RX4 33 "OutageBook" "causes" "LOutageBook$Causes;") (List.mem_of_getElem? (i := 7) rfl)) (fun _ h9 => h9) rfl dX4_argueReason_12 ?_
    refine lv_iload_n hx hb dX4_argueReason_15 rfl (lv_at hl 2 rfl) ?_
    refine vp_callSi (va_Run.run (va_runV (As := [.int x2]) (rest := []) ⟨hx, hb, hml, hown, hts⟩ (c_X0_holds l D t ac cn st Wt x2 (by first | assumption | omega)) (cwV 1 hts gX4_argueReason_X0_holds rfl rfl rfl (by decide +kernel) ⟨Nat.le_of_ble_eq_true rfl, Nat.le_of_ble_eq_true rfl⟩) (ob_preV (ci := 0) (q0 := 0) (hP.sub [1, 2, 3, 4, 5, 6, 7, 8, 9, 10, 11, 12, 13, 14, 15, 16, 17, 18] rfl) hk rfl rfl) rfl rfl hl.1 rfl (lv_room (Nat.le_of_ble_eq_true rfl)) dX4_argueReason_16 ⟨Nat.le_of_ble_eq_true rfl, Nat.le_of_ble_eq_true rfl⟩)) (fun r9 hr9 => ?_)
    subst hr9
    refine ob_if_ne (tgt := 32) hx hb dX4_argueReason_19 (by decide) (fun c19 => ?_) (fun c19 => ?_)
    · refine lv_iload_n hx hb dX4_argueReason_32 rfl (lv_at hl 1 rfl) ?_
      refine lv_iload_n hx hb dX4_argueReason_33 rfl (lv_at hl 2 rfl) ?_
      refine lv_icmp_eq (tgt := 47) hx hb dX4_argueReason_34 (by decide) (fun c34 => ?_) (fun c34 => ?_)
      · exact vx_throwS (A := fun _ => False) (names := ["java/lang/RuntimeException", "java/lang/Exception"]) (sa := sa 17) (text := "no such weight, or one cause twice") hx hb hl9 hown (by decide +kernel) (by decide +kernel) (hts (Cond.classLink RX4 41 "java/lang/IllegalArgumentException") (List.mem_of_getElem? (i := 3) rfl)) (hts (Cond.initialized "java/lang/IllegalArgumentException") (List.mem_of_getElem? (i := 4) rfl)) (hE.2.2.2.2.2.2.2.2 17 (167, "no such weight, or one cause twice") rfl) (vx_hat (fun w h => hts w (List.mem_cons_of_mem _ (List.mem_append_left _ (List.mem_append_right _ (h))))) (ob_ng0) (vx_c (va_Nw.use rfl hE.2.2.1) (vx_c (va_Nw.use rfl hE.2.2.2.2.2.1) (vx_c (va_Nw.use rfl hE.2.2.2.2.2.2.1) (vx_c (va_Nw.use rfl hE.2.2.2.2.2.2.2.1) vx_n))))) (ob_gd0 41) hE.1 hE.2.1 va_S.rf (hl.1.trans hml.symm) dX4_argueReason_47 dX4_argueReason_50 dX4_argueReason_51 dX4_argueReason_53 dX4_argueReason_56 (fun x9 h9 => (hext x9 h9).elim) (by decide) (by decide) (by decide) (by decide) hlocks (fun t9 _ h1 h2 => ⟨(), trivial, ⟨1, (by first | (rw [c8]; rfl; done) | (rw [c8, c19]; rfl; done) | (rw [c8, c19, decide_eq_true c34]; rfl; done) | (rw [c8, c19, decide_eq_false c34, c44]; rfl; done) | (rw [c8, c19, decide_eq_false c34, c44, decide_eq_true c58]; rfl; done) | (rw [c8, c19, decide_eq_false c34, c44, decide_eq_false c58, c70]; rfl; done)), rfl⟩, h1, fun q hq _ => h2 q hq⟩) (fun _ h => absurd h List.not_mem_nil) (by decide) (by decide)
      · refine lv_iload_n hx hb dX4_argueReason_37 rfl (lv_at hl 3 rfl) ?_
        refine lv_iconst (v := nI 0) hx hb dX4_argueReason_38 (by decide) ?_
        refine lv_bipush (v := nI 100) hx hb dX4_argueReason_39 (by decide) ?_
        refine vp_callSi (va_Run.run (va_runS (As := [.int x3, .int (nI 0), .int (nI 100)]) (rest := []) ⟨hx, hb, hml, hown, hts⟩ (c_X4_isWithin l D t x3 (nI 0) (nI 100)) (va_cwS 3 hts gX4_argueReason_X4_isWithin rfl rfl rfl (by decide +kernel) ⟨Nat.le_of_ble_eq_true rfl, Nat.le_of_ble_eq_true rfl⟩) (ob_preS (hP.sub [] rfl) hk) rfl rfl hl.1 rfl (lv_room (Nat.le_of_ble_eq_true rfl)) dX4_argueReason_41 ⟨Nat.le_of_ble_eq_true rfl, Nat.le_of_ble_eq_true rfl⟩)) (fun r9 hr9 => ?_)
        subst hr9
        refine ob_if_ne (tgt := 57) hx hb dX4_argueReason_44 (by decide) (fun c44 => ?_) (fun c44 => ?_)
        · refine lv_iload_n hx hb dX4_argueReason_57 rfl (lv_at hl 3 rfl) ?_
          refine lv_if_le (tgt := 83) hx hb dX4_argueReason_58 (by decide) (fun c58 => ?_) (fun c58 => ?_)
          · obtain ⟨j1, hj1, e1⟩ := ob_hd_t c8
            obtain ⟨j2, hj2, e2⟩ := ob_hd_t c19
            rw [e1, e2] at hl
            refine lv_aload_n hx hb dX4_argueReason_83 rfl (lv_at hl 0 rfl) ?_
            refine va_get (ci := 4) (C := RX4) (T := TX4) (N := 4) hx hb hts (fun w h => List.mem_cons_of_mem _ (List.mem_append_left _ (List.mem_append_left _ (List.mem_append_left _ (List.mem_append_left _ (List.mem_append_right _ (h))))))) hown hK hP 0 rfl rfl 3 (by decide) (hts (Cond.fieldLink RX4 33 "OutageBook" "causes" "LOutageBook$Causes;") (List.mem_of_getElem? (i := 7) rfl)) (fun _ h9 => h9) rfl dX4_argueReason_84 ?_
            refine lv_iload_n hx hb dX4_argueReason_87 rfl (lv_at hl 1 rfl) ?_
            refine lv_iload_n hx hb dX4_argueReason_88 rfl (lv_at hl 2 rfl) ?_
            refine lv_iload_n hx hb dX4_argueReason_89 rfl (lv_at hl 3 rfl) ?_
            have hFc := va_free (wc := ob_wC t ac cn st Wt) hD hS hA [1, 2, 3, 4, 5, 6, 7, 8, 9, 10, 11, 12, 13, 14, 15, 16, 17, 18] rfl
            refine va_calli (va_runV (As := [.int (nI j1), .int (nI j2), .int x3]) (rest := []) ⟨hx, hb, hml, hown, hts⟩ (c_X0_replaceWeight l D t s.heap.size ac cn st Wt j1 j2 x3 hcn hj1 hj2) (cwV 3 hts gX4_argueReason_X0_replaceWeight rfl rfl rfl (by decide +kernel) ⟨Nat.le_of_ble_eq_true rfl, Nat.le_of_ble_eq_true rfl⟩) (ob_pmV (ci := 0) (q0 := 0) (hP.sub [1, 2, 3, 4, 5, 6, 7, 8, 9, 10, 11, 12, 13, 14, 15, 16, 17, 18] rfl) (hD.sub [1, 2, 3, 4, 5, 6, 7, 8, 9, 10, 11, 12, 13, 14, 15, 16, 17, 18] (by decide) rfl) hk rfl rfl) rfl rfl hl.1 rfl (lv_room (Nat.le_of_ble_eq_true rfl)) dX4_argueReason_90 ⟨Nat.le_of_ble_eq_true rfl, Nat.le_of_ble_eq_true rfl⟩) hS (fun q _ h => hFc q h) hFc (fun r9 u9 t9 H1 locs ht hvm hw9 hB hz1 hk1 hS => ?_)
            rw [ht] at hB
            have hP := ob_jn (ws' := ob_wX ax ao al am ac ++ ob_wC t ac cn st (ob_up2 Wt j1 j2 x3)) hP hD [none, some 0, some 1, some 2, some 3, some 4, some 5, some 6, some 7, some 8, some 9, some 10, some 11, some 12, some 13, some 14, some 15, some 16, some 17] [1, 2, 3, 4, 5, 6, 7, 8, 9, 10, 11, 12, 13, 14, 15, 16, 17, 18] rfl rfl hk1 hB rfl
            have hD : va_D (va_A (ob_wX ax ao al am ac ++ ob_wC t ac cn st Wt) sz) (ob_wX ax ao al am ac ++ ob_wC t ac cn st (ob_up2 Wt j1 j2 x3)) := ob_dXC hD
            generalize H1 = H at hP hS ⊢
            subst hw9
            refine W.widen (k := 1) (n := 6) (Nat.le_of_ble_eq_true rfl) (Nat.le_of_ble_eq_true rfl) ?_
            exact vx_ret (W.iret (v := Wt j1 j2) hx hb hr (fun t9 ht hW => ⟨⟨Wt j1 j2, (), rfl, ⟨(by first | (rw [c8]; rfl; done) | (rw [c8, c19]; rfl; done) | (rw [c8, c19, decide_eq_true c34]; rfl; done) | (rw [c8, c19, decide_eq_false c34, c44]; rfl; done) | (rw [c8, c19, decide_eq_false c34, c44, decide_eq_true c58]; rfl; done) | (rw [c8, c19, decide_eq_false c34, c44, decide_eq_false c58, c70]; rfl; done)), (by rw [e1, e2, ob_cl (show j1 ≤ 1073741824 by omega), ob_cl (show j2 ≤ 1073741824 by omega)])⟩, ob_th ht (by rw [e1, e2, ob_cl (show j1 ≤ 1073741824 by omega), ob_cl (show j2 ≤ 1073741824 by omega)]; exact hP)⟩, hS.F ht⟩) hS.2.2 dX4_argueReason_93)
          · refine lv_aload_n hx hb dX4_argueReason_61 rfl (lv_at hl 0 rfl) ?_
            refine va_get (ci := 4) (C := RX4) (T := TX4) (N := 4) hx hb hts (fun w h => List.mem_cons_of_mem _ (List.mem_append_left _ (List.mem_append_left _ (List.mem_append_left _ (List.mem_append_left _ (List.mem_append_right _ (h))))))) hown hK hP 0 rfl rfl 3 (by decide) (hts (Cond.fieldLink RX4 33 "OutageBook" "causes" "LOutageBook$Causes;") (List.mem_of_getElem? (i := 7) rfl)) (fun _ h9 => h9) rfl dX4_argueReason_62 ?_
            refine lv_iload_n hx hb dX4_argueReason_65 rfl (lv_at hl 2 rfl) ?_
            refine lv_iload_n hx hb dX4_argueReason_66 rfl (lv_at hl 1 rfl) ?_
            refine vp_callSi (va_Run.run (va_runV (As := [.int x2, .int x1]) (rest := []) ⟨hx, hb, hml, hown, hts⟩ (c_X0_isBecauseOf l D t ac cn st Wt x2 x1 (by first | assumption | omega)) (cwV 2 hts gX4_argueReason_X0_isBecauseOf rfl rfl rfl (by decide +kernel) ⟨Nat.le_of_ble_eq_true rfl, Nat.le_of_ble_eq_true rfl⟩) (ob_preV (ci := 0) (q0 := 0) (hP.sub [1, 2, 3, 4, 5, 6, 7, 8, 9, 10, 11, 12, 13, 14, 15, 16, 17, 18] rfl) hk rfl rfl) rfl rfl hl.1 rfl (lv_room (Nat.le_of_ble_eq_true rfl)) dX4_argueReason_67 ⟨Nat.le_of_ble_eq_true rfl, Nat.le_of_ble_eq_true rfl⟩)) (fun r9 hr9 => ?_)
            subst hr9
            refine ob_if_eq (tgt := 83) hx hb dX4_argueReason_70 (by decide) (fun c70 => ?_) (fun c70 => ?_)
            · obtain ⟨j1, hj1, e1⟩ := ob_hd_t c8
              obtain ⟨j2, hj2, e2⟩ := ob_hd_t c19
              rw [e1, e2] at hl
              refine lv_aload_n hx hb dX4_argueReason_83 rfl (lv_at hl 0 rfl) ?_
              refine va_get (ci := 4) (C := RX4) (T := TX4) (N := 4) hx hb hts (fun w h => List.mem_cons_of_mem _ (List.mem_append_left _ (List.mem_append_left _ (List.mem_append_left _ (List.mem_append_left _ (List.mem_append_right _ (h))))))) hown hK hP 0 rfl rfl 3 (by decide) (hts (Cond.fieldLink RX4 33 "OutageBook" "causes" "LOutageBook$Causes;") (List.mem_of_getElem? (i := 7) rfl)) (fun _ h9 => h9) rfl dX4_argueReason_84 ?_
              refine lv_iload_n hx hb dX4_argueReason_87 rfl (lv_at hl 1 rfl) ?_
              refine lv_iload_n hx hb dX4_argueReason_88 rfl (lv_at hl 2 rfl) ?_
              refine lv_iload_n hx hb dX4_argueReason_89 rfl (lv_at hl 3 rfl) ?_
              have hFc := va_free (wc := ob_wC t ac cn st Wt) hD hS hA [1, 2, 3, 4, 5, 6, 7, 8, 9, 10, 11, 12, 13, 14, 15, 16, 17, 18] rfl
              refine va_calli (va_runV (As := [.int (nI j1), .int (nI j2), .int x3]) (rest := []) ⟨hx, hb, hml, hown, hts⟩ (c_X0_replaceWeight l D t s.heap.size ac cn st Wt j1 j2 x3 hcn hj1 hj2) (cwV 3 hts gX4_argueReason_X0_replaceWeight rfl rfl rfl (by decide +kernel) ⟨Nat.le_of_ble_eq_true rfl, Nat.le_of_ble_eq_true rfl⟩) (ob_pmV (ci := 0) (q0 := 0) (hP.sub [1, 2, 3, 4, 5, 6, 7, 8, 9, 10, 11, 12, 13, 14, 15, 16, 17, 18] rfl) (hD.sub [1, 2, 3, 4, 5, 6, 7, 8, 9, 10, 11, 12, 13, 14, 15, 16, 17, 18] (by decide) rfl) hk rfl rfl) rfl rfl hl.1 rfl (lv_room (Nat.le_of_ble_eq_true rfl)) dX4_argueReason_90 ⟨Nat.le_of_ble_eq_true rfl, Nat.le_of_ble_eq_true rfl⟩) hS (fun q _ h => hFc q h) hFc (fun r9 u9 t9 H1 locs ht hvm hw9 hB hz1 hk1 hS => ?_)
              rw [ht] at hB
              have hP := ob_jn (ws' := ob_wX ax ao al am ac ++ ob_wC t ac cn st (ob_up2 Wt j1 j2 x3)) hP hD [none, some 0, some 1, some 2, some 3, some 4, some 5, some 6, some 7, some 8, some 9, some 10, some 11, some 12, some 13, some 14, some 15, some 16, some 17] [1, 2, 3, 4, 5, 6, 7, 8, 9, 10, 11, 12, 13, 14, 15, 16, 17, 18] rfl rfl hk1 hB rfl
              have hD : va_D (va_A (ob_wX ax ao al am ac ++ ob_wC t ac cn st Wt) sz) (ob_wX ax ao al am ac ++ ob_wC t ac cn st (ob_up2 Wt j1 j2 x3)) := ob_dXC hD
              generalize H1 = H at hP hS ⊢
              subst hw9
              refine W.widen (k := 1) (n := 6) (Nat.le_of_ble_eq_true rfl) (Nat.le_of_ble_eq_true rfl) ?_
              exact vx_ret (W.iret (v := Wt j1 j2) hx hb hr (fun t9 ht hW => ⟨⟨Wt j1 j2, (), rfl, ⟨(by first | (rw [c8]; rfl; done) | (rw [c8, c19]; rfl; done) | (rw [c8, c19, decide_eq_true c34]; rfl; done) | (rw [c8, c19, decide_eq_false c34, c44]; rfl; done) | (rw [c8, c19, decide_eq_false c34, c44, decide_eq_true c58]; rfl; done) | (rw [c8, c19, decide_eq_false c34, c44, decide_eq_false c58, c70]; rfl; done)), (by rw [e1, e2, ob_cl (show j1 ≤ 1073741824 by omega), ob_cl (show j2 ≤ 1073741824 by omega)])⟩, ob_th ht (by rw [e1, e2, ob_cl (show j1 ≤ 1073741824 by omega), ob_cl (show j2 ≤ 1073741824 by omega)]; exact hP)⟩, hS.F ht⟩) hS.2.2 dX4_argueReason_93)
            · exact vx_throwS (A := fun _ => False) (names := ["java/lang/RuntimeException", "java/lang/Exception"]) (sa := sa 18) (text := "the reason is because of the cause") hx hb hl9 hown (by decide +kernel) (by decide +kernel) (hts (Cond.classLink RX4 62 "java/lang/IllegalStateException") (List.mem_of_getElem? (i := 5) rfl)) (hts (Cond.initialized "java/lang/IllegalStateException") (List.mem_of_getElem? (i := 6) rfl)) (hE.2.2.2.2.2.2.2.2 18 (172, "the reason is because of the cause") rfl) (vx_hat (fun w h => hts w (List.mem_cons_of_mem _ (List.mem_append_right _ (h)))) (ob_ng1) (vx_c (va_Nw.use rfl hE.2.2.2.1) (vx_c (va_Nw.use rfl hE.2.2.2.2.2.1) (vx_c (va_Nw.use rfl hE.2.2.2.2.2.2.1) (vx_c (va_Nw.use rfl hE.2.2.2.2.2.2.2.1) vx_n))))) (ob_gd1 62) hE.1 hE.2.1 va_S.rf (hl.1.trans hml.symm) dX4_argueReason_73 dX4_argueReason_76 dX4_argueReason_77 dX4_argueReason_79 dX4_argueReason_82 (fun x9 h9 => (hext x9 h9).elim) (by decide) (by decide) (by decide) (by decide) hlocks (fun t9 _ h1 h2 => ⟨(), trivial, ⟨2, (by first | (rw [c8]; rfl; done) | (rw [c8, c19]; rfl; done) | (rw [c8, c19, decide_eq_true c34]; rfl; done) | (rw [c8, c19, decide_eq_false c34, c44]; rfl; done) | (rw [c8, c19, decide_eq_false c34, c44, decide_eq_true c58]; rfl; done) | (rw [c8, c19, decide_eq_false c34, c44, decide_eq_false c58, c70]; rfl; done)), rfl⟩, h1, fun q hq _ => h2 q hq⟩) (fun _ h => absurd h List.not_mem_nil) (by decide) (by decide)
        · exact vx_throwS (A := fun _ => False) (names := ["java/lang/RuntimeException", "java/lang/Exception"]) (sa := sa 17) (text := "no such weight, or one cause twice") hx hb hl9 hown (by decide +kernel) (by decide +kernel) (hts (Cond.classLink RX4 41 "java/lang/IllegalArgumentException") (List.mem_of_getElem? (i := 3) rfl)) (hts (Cond.initialized "java/lang/IllegalArgumentException") (List.mem_of_getElem? (i := 4) rfl)) (hE.2.2.2.2.2.2.2.2 17 (167, "no such weight, or one cause twice") rfl) (vx_hat (fun w h => hts w (List.mem_cons_of_mem _ (List.mem_append_left _ (List.mem_append_right _ (h))))) (ob_ng0) (vx_c (va_Nw.use rfl hE.2.2.1) (vx_c (va_Nw.use rfl hE.2.2.2.2.2.1) (vx_c (va_Nw.use rfl hE.2.2.2.2.2.2.1) (vx_c (va_Nw.use rfl hE.2.2.2.2.2.2.2.1) vx_n))))) (ob_gd0 41) hE.1 hE.2.1 va_S.rf (hl.1.trans hml.symm) dX4_argueReason_47 dX4_argueReason_50 dX4_argueReason_51 dX4_argueReason_53 dX4_argueReason_56 (fun x9 h9 => (hext x9 h9).elim) (by decide) (by decide) (by decide) (by decide) hlocks (fun t9 _ h1 h2 => ⟨(), trivial, ⟨1, (by first | (rw [c8]; rfl; done) | (rw [c8, c19]; rfl; done) | (rw [c8, c19, decide_eq_true c34]; rfl; done) | (rw [c8, c19, decide_eq_false c34, c44]; rfl; done) | (rw [c8, c19, decide_eq_false c34, c44, decide_eq_true c58]; rfl; done) | (rw [c8, c19, decide_eq_false c34, c44, decide_eq_false c58, c70]; rfl; done)), rfl⟩, h1, fun q hq _ => h2 q hq⟩) (fun _ h => absurd h List.not_mem_nil) (by decide) (by decide)
    · exact vx_throwS (A := fun _ => False) (names := ["java/lang/RuntimeException", "java/lang/Exception"]) (sa := sa 16) (text := "no such cause") hx hb hl9 hown (by decide +kernel) (by decide +kernel) (hts (Cond.classLink RX4 99 "java/lang/IndexOutOfBoundsException") (List.mem_of_getElem? (i := 1) rfl)) (hts (Cond.initialized "java/lang/IndexOutOfBoundsException") (List.mem_of_getElem? (i := 2) rfl)) (hE.2.2.2.2.2.2.2.2 16 (165, "no such cause") rfl) (vx_hat (fun w h => hts w (List.mem_cons_of_mem _ (List.mem_append_left _ (List.mem_append_left _ (List.mem_append_right _ (h)))))) (ob_ng2) (vx_c (va_Nw.use rfl hE.2.2.2.2.1) (vx_c (va_Nw.use rfl hE.2.2.2.2.2.1) (vx_c (va_Nw.use rfl hE.2.2.2.2.2.2.1) (vx_c (va_Nw.use rfl hE.2.2.2.2.2.2.2.1) vx_n))))) (ob_gd2 99) hE.1 hE.2.1 va_S.rf (hl.1.trans hml.symm) dX4_argueReason_22 dX4_argueReason_25 dX4_argueReason_26 dX4_argueReason_28 dX4_argueReason_31 (fun x9 h9 => (hext x9 h9).elim) (by decide) (by decide) (by decide) (by decide) hlocks (fun t9 _ h1 h2 => ⟨(), trivial, ⟨0, (by first | (rw [c8]; rfl; done) | (rw [c8, c19]; rfl; done) | (rw [c8, c19, decide_eq_true c34]; rfl; done) | (rw [c8, c19, decide_eq_false c34, c44]; rfl; done) | (rw [c8, c19, decide_eq_false c34, c44, decide_eq_true c58]; rfl; done) | (rw [c8, c19, decide_eq_false c34, c44, decide_eq_false c58, c70]; rfl; done)), rfl⟩, h1, fun q hq _ => h2 q hq⟩) (fun _ h => absurd h List.not_mem_nil) (by decide) (by decide)

set_option maxRecDepth 100000 in
set_option maxHeartbeats 4000000 in
theorem c_X4_setStanding (l : Launch) (hl9 : l.stackTraces = false) (sa : Nat → Nat) (D : va_G) (t : Nat → ClassId) (sz : Nat) (ax : Nat) (ao al am ac : Nat → Nat) (cn : Nat) (st : Int32) (Wt : Nat → Nat → Int32) (x : Int32) (b2 : Bool) (hcn : cn ≤ 16) : vx_Met l yX4_setStanding wsX4_setStanding ({ frames := 6, cells := 1, slots := 6, locals := 82 } : Room) (ob_Px D t (ob_wX ax ao al am ac ++ ob_wC t ac cn st Wt) sz sa [.ref ax, .int x, .int (ob_bi b2)]) (va_Qi (fun (r : Int32) (_ : Unit) => ob_z1 (ob_hd cn x) = 0 ∧ (r = ob_bi (ob_hb st x))) (fun (_ : Unit) (t9 : State) => va_P D vwCl (ob_wX ax ao al am ac ++ ob_wC t ac cn (if b2 then st ||| ob_bit x else st &&& (ob_bit x ^^^ (-1))) Wt) t9.heap) (va_A (ob_wX ax ao al am ac ++ ob_wC t ac cn st Wt) sz)) (vx_X (fun _ : Unit => True) (fun (E9 : String) (_ : Unit) (_ : State) => ∃ i : Nat, ob_z1 (ob_hd cn x) = i + 1 ∧ ["java/lang/IndexOutOfBoundsException"][i]? = some E9) (fun _ => False)) 1 6 (va_A (ob_wX ax ao al am ac ++ ob_wC t ac cn st Wt) sz) := by
  refine vx_ofW (cc := cX4_setStanding) (maxL := 3) (ret := (some .boolean)) (by decide) rfl ?_
  intro p e s m args below meth c s₁ B hml hext hv
  obtain ⟨rfl, hsz, hP, hk, hD0, hE⟩ := hv
  have hx := B.exec
  have hb := B.bytes
  have hr := B.returns
  have hts := atoms_spec (ws := wsX4_setStanding) B.pre
  have hown : s.vm.findClass RX4 = some m.cls := findClass_of_methodNamed B.named
  have hlocks := B.notSynchronized
  have hK := hk.1
  have hD : va_D (va_A (ob_wX ax ao al am ac ++ ob_wC t ac cn st Wt) sz) (ob_wX ax ao al am ac ++ ob_wC t ac cn st Wt) := hD0.self (sz := sz)
  have hA : ∀ q : Nat, s.heap.size ≤ q → (va_A (ob_wX ax ao al am ac ++ ob_wC t ac cn st Wt) sz) q := fun q h => Or.inr (hsz ▸ h)
  have hS : va_S (va_A (ob_wX ax ao al am ac ++ ob_wC t ac cn st Wt) sz) s.heap s.heap [] := va_S.rf
  have hl := lv_entry [.ref ax, .int x, .int (ob_bi b2)] (n := 3) (Nat.le_of_ble_eq_true rfl)
  rw [lg_entry_eq]
  generalize (lg_sl [.ref ax, .int x, .int (ob_bi b2)] ++ List.replicate (3 - (lg_sl [.ref ax, .int x, .int (ob_bi b2)]).length) Slot.unset).toArray = ls at hl ⊢
  have hl : lv_has ls 3 [(0, .ref ax), (1, .int x), (2, .int (ob_bi b2))] := hl
  have hP : va_P D vwCl (ob_wX ax ao al am ac ++ ob_wC t ac cn st Wt) s.heap := hP
  refine lv_aload_n hx hb dX4_setStanding_0 rfl (lv_at hl 0 rfl) ?_
  refine va_get (ci := 4) (C := RX4) (T := TX4) (N := 4) hx hb hts (fun w h => List.mem_cons_of_mem _ (List.mem_append_left _ (List.mem_append_left _ (List.mem_append_right _ (h))))) hown hK hP 0 rfl rfl 3 (by decide) (hts (Cond.fieldLink RX4 33 "OutageBook" "causes" "LOutageBook$Causes;") (List.mem_of_getElem? (i := 3) rfl)) (fun _ h9 => h9) rfl dX4_setStanding_1 ?_
  refine lv_iload_n hx hb dX4_setStanding_4 rfl (lv_at hl 1 rfl) ?_
  refine vp_callSi (va_Run.run (va_runV (As := [.int x]) (rest := []) ⟨hx, hb, hml, hown, hts⟩ (c_X0_holds l D t ac cn st Wt x (by first | assumption | omega)) (cwV 1 hts gX4_setStanding_X0_holds rfl rfl rfl (by decide +kernel) ⟨Nat.le_of_ble_eq_true rfl, Nat.le_of_ble_eq_true rfl⟩) (ob_preV (ci := 0) (q0 := 0) (hP.sub [1, 2, 3, 4, 5, 6, 7, 8, 9, 10, 11, 12, 13, 14, 15, 16, 17, 18] rfl) hk rfl rfl) rfl rfl hl.1 rfl (lv_room (Nat.le_of_ble_eq_true rfl)) dX4_setStanding_5 ⟨Nat.le_of_ble_eq_true rfl, Nat.le_of_ble_eq_true rfl⟩)) (fun r9 hr9 => ?_)
  subst hr9
  refine ob_if_ne (tgt := 21) hx hb dX4_setStanding_8 (by decide) (fun c8 => ?_) (fun c8 => ?_)
  · refine lv_aload_n hx hb dX4_setStanding_21 rfl (lv_at hl 0 rfl) ?_
    refine va_get (ci := 4) (C := RX4) (T := TX4) (N := 4) hx hb hts (fun w h => List.mem_cons_of_mem _ (List.mem_append_left _ (List.mem_append_left _ (List.mem_append_right _ (h))))) hown hK hP 0 rfl rfl 3 (by decide) (hts (Cond.fieldLink RX4 33 "OutageBook" "causes" "LOutageBook$Causes;") (List.mem_of_getElem? (i := 3) rfl)) (fun _ h9 => h9) rfl dX4_setStanding_22 ?_
    refine lv_iload_n hx hb dX4_setStanding_25 rfl (lv_at hl 1 rfl) ?_
    refine lv_iload_n hx hb dX4_setStanding_26 rfl (lv_at hl 2 rfl) ?_
    have hFc := va_free (wc := ob_wC t ac cn st Wt) hD hS hA [1, 2, 3, 4, 5, 6, 7, 8, 9, 10, 11, 12, 13, 14, 15, 16, 17, 18] rfl
    refine va_calli (va_runV (As := [.int x, .int (ob_bi b2)]) (rest := []) ⟨hx, hb, hml, hown, hts⟩ (c_X0_replaceStanding l D t s.heap.size ac cn st Wt x b2) (cwV 2 hts gX4_setStanding_X0_replaceStanding rfl rfl rfl (by decide +kernel) ⟨Nat.le_of_ble_eq_true rfl, Nat.le_of_ble_eq_true rfl⟩) (ob_pmV (ci := 0) (q0 := 0) (hP.sub [1, 2, 3, 4, 5, 6, 7, 8, 9, 10, 11, 12, 13, 14, 15, 16, 17, 18] rfl) (hD.sub [1, 2, 3, 4, 5, 6, 7, 8, 9, 10, 11, 12, 13, 14, 15, 16, 17, 18] (by decide) rfl) hk rfl rfl) rfl rfl hl.1 rfl (lv_room (Nat.le_of_ble_eq_true rfl)) dX4_setStanding_27 ⟨Nat.le_of_ble_eq_true rfl, Nat.le_of_ble_eq_true rfl⟩) hS (fun q _ h => hFc q h) hFc (fun r9 u9 t9 H1 locs ht hvm hw9 hB hz1 hk1 hS => ?_)
    rw [ht] at hB
    have hP := ob_jn (ws' := ob_wX ax ao al am ac ++ ob_wC t ac cn (if b2 then st ||| ob_bit x else st &&& (ob_bit x ^^^ (-1))) Wt) hP hD [none, some 0, some 1, some 2, some 3, some 4, some 5, some 6, some 7, some 8, some 9, some 10, some 11, some 12, some 13, some 14, some 15, some 16, some 17] [1, 2, 3, 4, 5, 6, 7, 8, 9, 10, 11, 12, 13, 14, 15, 16, 17, 18] rfl rfl hk1 hB rfl
    have hD : va_D (va_A (ob_wX ax ao al am ac ++ ob_wC t ac cn st Wt) sz) (ob_wX ax ao al am ac ++ ob_wC t ac cn (if b2 then st ||| ob_bit x else st &&& (ob_bit x ^^^ (-1))) Wt) := ob_dXC hD
    generalize H1 = H at hP hS ⊢
    subst hw9
    refine W.widen (k := 1) (n := 6) (Nat.le_of_ble_eq_true rfl) (Nat.le_of_ble_eq_true rfl) ?_
    exact vx_ret (W.zret (v := ob_bi (ob_hb st x)) hx hb hr (ob_narZ _) (fun t9 ht hW => ⟨⟨ob_bi (ob_hb st x), (), rfl, ⟨(by rw [c8]; rfl), rfl⟩, ob_th ht hP⟩, hS.F ht⟩) hS.2.2 dX4_setStanding_30)
  · exact vx_throwS (A := fun _ => False) (names := ["java/lang/RuntimeException", "java/lang/Exception"]) (sa := sa 16) (text := "no such cause") hx hb hl9 hown (by decide +kernel) (by decide +kernel) (hts (Cond.classLink RX4 99 "java/lang/IndexOutOfBoundsException") (List.mem_of_getElem? (i := 1) rfl)) (hts (Cond.initialized "java/lang/IndexOutOfBoundsException") (List.mem_of_getElem? (i := 2) rfl)) (hE.2.2.2.2.2.2.2.2 16 (165, "no such cause") rfl) (vx_hat (fun w h => hts w (List.mem_cons_of_mem _ (List.mem_append_right _ (h)))) (ob_ng2) (vx_c (va_Nw.use rfl hE.2.2.2.2.1) (vx_c (va_Nw.use rfl hE.2.2.2.2.2.1) (vx_c (va_Nw.use rfl hE.2.2.2.2.2.2.1) (vx_c (va_Nw.use rfl hE.2.2.2.2.2.2.2.1) vx_n))))) (ob_gd2 99) hE.1 hE.2.1 va_S.rf (hl.1.trans hml.symm) dX4_setStanding_11 dX4_setStanding_14 dX4_setStanding_15 dX4_setStanding_17 dX4_setStanding_20 (fun x9 h9 => (hext x9 h9).elim) (by decide) (by decide) (by decide) (by decide) hlocks (fun t9 _ h1 h2 => ⟨(), trivial, ⟨0, (by rw [c8]; rfl), rfl⟩, h1, fun q hq _ => h2 q hq⟩) (fun _ h => absurd h List.not_mem_nil) (by decide) (by decide)

set_option maxRecDepth 100000 in
set_option maxHeartbeats 4000000 in
theorem c_X4_roots (l : Launch) (hl9 : l.stackTraces = false) (sa : Nat → Nat) (D : va_G) (t : Nat → ClassId) (sz : Nat) (ax : Nat) (ao al am ac : Nat → Nat) (cn : Nat) (st : Int32) (Wt : Nat → Nat → Int32) (x : Int32) (hcn : cn ≤ 16) : vx_Met l yX4_roots wsX4_roots ({ frames := 6, cells := 1, slots := 6, locals := 115 } : Room) (ob_Px D t (ob_wX ax ao al am ac ++ ob_wC t ac cn st Wt) sz sa [.ref ax, .int x]) (va_Qi (fun (r : Int32) (_ : Unit) => ob_z1 (ob_hd cn x) = 0 ∧ (r = if ob_hb st x then ob_rt st Wt cn (ob_rcO Wt cn st x cn) cn else nI 0)) (fun (_ : Unit) (t9 : State) => va_P D vwCl (ob_wX ax ao al am ac ++ ob_wC t ac cn st Wt) t9.heap) (va_A (ob_wX ax ao al am ac ++ ob_wC t ac cn st Wt) sz)) (vx_X (fun _ : Unit => True) (fun (E9 : String) (_ : Unit) (_ : State) => ∃ i : Nat, ob_z1 (ob_hd cn x) = i + 1 ∧ ["java/lang/IndexOutOfBoundsException"][i]? = some E9) (fun _ => False)) 1 6 (va_A (ob_wX ax ao al am ac ++ ob_wC t ac cn st Wt) sz) := by
  refine vx_ofW (cc := cX4_roots) (maxL := 2) (ret := (some .int)) (by decide) rfl ?_
  intro p e s m args below meth c s₁ B hml hext hv
  obtain ⟨rfl, hsz, hP, hk, hD0, hE⟩ := hv
  have hx := B.exec
  have hb := B.bytes
  have hr := B.returns
  have hts := atoms_spec (ws := wsX4_roots) B.pre
  have hown : s.vm.findClass RX4 = some m.cls := findClass_of_methodNamed B.named
  have hlocks := B.notSynchronized
  have hK := hk.1
  have hD : va_D (va_A (ob_wX ax ao al am ac ++ ob_wC t ac cn st Wt) sz) (ob_wX ax ao al am ac ++ ob_wC t ac cn st Wt) := hD0.self (sz := sz)
  have hA : ∀ q : Nat, s.heap.size ≤ q → (va_A (ob_wX ax ao al am ac ++ ob_wC t ac cn st Wt) sz) q := fun q h => Or.inr (hsz ▸ h)
  have hS : va_S (va_A (ob_wX ax ao al am ac ++ ob_wC t ac cn st Wt) sz) s.heap s.heap [] := va_S.rf
  have hl := lv_entry [.ref ax, .int x] (n := 2) (Nat.le_of_ble_eq_true rfl)
  rw [lg_entry_eq]
  generalize (lg_sl [.ref ax, .int x] ++ List.replicate (2 - (lg_sl [.ref ax, .int x]).length) Slot.unset).toArray = ls at hl ⊢
  have hl : lv_has ls 2 [(0, .ref ax), (1, .int x)] := hl
  have hP : va_P D vwCl (ob_wX ax ao al am ac ++ ob_wC t ac cn st Wt) s.heap := hP
  refine lv_aload_n hx hb dX4_roots_0 rfl (lv_at hl 0 rfl) ?_
  refine va_get (ci := 4) (C := RX4) (T := TX4) (N := 4) hx hb hts (fun w h => List.mem_cons_of_mem _ (List.mem_append_left _ (List.mem_append_left _ (List.mem_append_right _ (h))))) hown hK hP 0 rfl rfl 3 (by decide) (hts (Cond.fieldLink RX4 33 "OutageBook" "causes" "LOutageBook$Causes;") (List.mem_of_getElem? (i := 3) rfl)) (fun _ h9 => h9) rfl dX4_roots_1 ?_
  refine lv_iload_n hx hb dX4_roots_4 rfl (lv_at hl 1 rfl) ?_
  refine vp_callSi (va_Run.run (va_runV (As := [.int x]) (rest := []) ⟨hx, hb, hml, hown, hts⟩ (c_X0_holds l D t ac cn st Wt x (by first | assumption | omega)) (cwV 1 hts gX4_roots_X0_holds rfl rfl rfl (by decide +kernel) ⟨Nat.le_of_ble_eq_true rfl, Nat.le_of_ble_eq_true rfl⟩) (ob_preV (ci := 0) (q0 := 0) (hP.sub [1, 2, 3, 4, 5, 6, 7, 8, 9, 10, 11, 12, 13, 14, 15, 16, 17, 18] rfl) hk rfl rfl) rfl rfl hl.1 rfl (lv_room (Nat.le_of_ble_eq_true rfl)) dX4_roots_5 ⟨Nat.le_of_ble_eq_true rfl, Nat.le_of_ble_eq_true rfl⟩)) (fun r9 hr9 => ?_)
  subst hr9
  refine ob_if_ne (tgt := 21) hx hb dX4_roots_8 (by decide) (fun c8 => ?_) (fun c8 => ?_)
  · refine lv_aload_n hx hb dX4_roots_21 rfl (lv_at hl 0 rfl) ?_
    refine va_get (ci := 4) (C := RX4) (T := TX4) (N := 4) hx hb hts (fun w h => List.mem_cons_of_mem _ (List.mem_append_left _ (List.mem_append_left _ (List.mem_append_right _ (h))))) hown hK hP 0 rfl rfl 3 (by decide) (hts (Cond.fieldLink RX4 33 "OutageBook" "causes" "LOutageBook$Causes;") (List.mem_of_getElem? (i := 3) rfl)) (fun _ h9 => h9) rfl dX4_roots_22 ?_
    refine lv_iload_n hx hb dX4_roots_25 rfl (lv_at hl 1 rfl) ?_
    refine vp_callSi (va_Run.run (va_runV (As := [.int x]) (rest := []) ⟨hx, hb, hml, hown, hts⟩ (c_X0_rootsUnder l D t ac cn st Wt x (by first | assumption | omega)) (cwV 1 hts gX4_roots_X0_rootsUnder rfl rfl rfl (by decide +kernel) ⟨Nat.le_of_ble_eq_true rfl, Nat.le_of_ble_eq_true rfl⟩) (ob_preV (ci := 0) (q0 := 0) (hP.sub [1, 2, 3, 4, 5, 6, 7, 8, 9, 10, 11, 12, 13, 14, 15, 16, 17, 18] rfl) hk rfl rfl) rfl rfl hl.1 rfl (lv_room (Nat.le_of_ble_eq_true rfl)) dX4_roots_26 ⟨Nat.le_of_ble_eq_true rfl, Nat.le_of_ble_eq_true rfl⟩)) (fun r9 hr9 => ?_)
    subst hr9
    refine W.widen (k := 1) (n := 6) (Nat.le_of_ble_eq_true rfl) (Nat.le_of_ble_eq_true rfl) ?_
    exact vx_ret (W.iret (v := if ob_hb st x then ob_rt st Wt cn (ob_rcO Wt cn st x cn) cn else nI 0) hx hb hr (fun t9 ht hW => ⟨⟨if ob_hb st x then ob_rt st Wt cn (ob_rcO Wt cn st x cn) cn else nI 0, (), rfl, ⟨(by rw [c8]; rfl), rfl⟩, ob_th ht hP⟩, hS.F ht⟩) hS.2.2 dX4_roots_29)
  · exact vx_throwS (A := fun _ => False) (names := ["java/lang/RuntimeException", "java/lang/Exception"]) (sa := sa 16) (text := "no such cause") hx hb hl9 hown (by decide +kernel) (by decide +kernel) (hts (Cond.classLink RX4 99 "java/lang/IndexOutOfBoundsException") (List.mem_of_getElem? (i := 1) rfl)) (hts (Cond.initialized "java/lang/IndexOutOfBoundsException") (List.mem_of_getElem? (i := 2) rfl)) (hE.2.2.2.2.2.2.2.2 16 (165, "no such cause") rfl) (vx_hat (fun w h => hts w (List.mem_cons_of_mem _ (List.mem_append_right _ (h)))) (ob_ng2) (vx_c (va_Nw.use rfl hE.2.2.2.2.1) (vx_c (va_Nw.use rfl hE.2.2.2.2.2.1) (vx_c (va_Nw.use rfl hE.2.2.2.2.2.2.1) (vx_c (va_Nw.use rfl hE.2.2.2.2.2.2.2.1) vx_n))))) (ob_gd2 99) hE.1 hE.2.1 va_S.rf (hl.1.trans hml.symm) dX4_roots_11 dX4_roots_14 dX4_roots_15 dX4_roots_17 dX4_roots_20 (fun x9 h9 => (hext x9 h9).elim) (by decide) (by decide) (by decide) (by decide) hlocks (fun t9 _ h1 h2 => ⟨(), trivial, ⟨0, (by rw [c8]; rfl), rfl⟩, h1, fun q hq _ => h2 q hq⟩) (fun _ h => absurd h List.not_mem_nil) (by decide) (by decide)

set_option maxRecDepth 100000 in
set_option maxHeartbeats 4000000 in
theorem c_X4_mainReason (l : Launch) (hl9 : l.stackTraces = false) (sa : Nat → Nat) (D : va_G) (t : Nat → ClassId) (sz : Nat) (ax : Nat) (ao al am ac : Nat → Nat) (cn : Nat) (st : Int32) (Wt : Nat → Nat → Int32) (x : Int32) (hcn : cn ≤ 16) : vx_Met l yX4_mainReason wsX4_mainReason ({ frames := 6, cells := 1, slots := 6, locals := 82 } : Room) (ob_Px D t (ob_wX ax ao al am ac ++ ob_wC t ac cn st Wt) sz sa [.ref ax, .int x]) (va_Qi (fun (r : Int32) (_ : Unit) => ob_z1 (ob_hd cn x) = 0 ∧ (r = (ob_wr st Wt cn x cn).1)) (fun (_ : Unit) (t9 : State) => va_P D vwCl (ob_wX ax ao al am ac ++ ob_wC t ac cn st Wt) t9.heap) (va_A (ob_wX ax ao al am ac ++ ob_wC t ac cn st Wt) sz)) (vx_X (fun _ : Unit => True) (fun (E9 : String) (_ : Unit) (_ : State) => ∃ i : Nat, ob_z1 (ob_hd cn x) = i + 1 ∧ ["java/lang/IndexOutOfBoundsException"][i]? = some E9) (fun _ => False)) 1 6 (va_A (ob_wX ax ao al am ac ++ ob_wC t ac cn st Wt) sz) := by
  refine vx_ofW (cc := cX4_mainReason) (maxL := 2) (ret := (some .int)) (by decide) rfl ?_
  intro p e s m args below meth c s₁ B hml hext hv
  obtain ⟨rfl, hsz, hP, hk, hD0, hE⟩ := hv
  have hx := B.exec
  have hb := B.bytes
  have hr := B.returns
  have hts := atoms_spec (ws := wsX4_mainReason) B.pre
  have hown : s.vm.findClass RX4 = some m.cls := findClass_of_methodNamed B.named
  have hlocks := B.notSynchronized
  have hK := hk.1
  have hD : va_D (va_A (ob_wX ax ao al am ac ++ ob_wC t ac cn st Wt) sz) (ob_wX ax ao al am ac ++ ob_wC t ac cn st Wt) := hD0.self (sz := sz)
  have hA : ∀ q : Nat, s.heap.size ≤ q → (va_A (ob_wX ax ao al am ac ++ ob_wC t ac cn st Wt) sz) q := fun q h => Or.inr (hsz ▸ h)
  have hS : va_S (va_A (ob_wX ax ao al am ac ++ ob_wC t ac cn st Wt) sz) s.heap s.heap [] := va_S.rf
  have hl := lv_entry [.ref ax, .int x] (n := 2) (Nat.le_of_ble_eq_true rfl)
  rw [lg_entry_eq]
  generalize (lg_sl [.ref ax, .int x] ++ List.replicate (2 - (lg_sl [.ref ax, .int x]).length) Slot.unset).toArray = ls at hl ⊢
  have hl : lv_has ls 2 [(0, .ref ax), (1, .int x)] := hl
  have hP : va_P D vwCl (ob_wX ax ao al am ac ++ ob_wC t ac cn st Wt) s.heap := hP
  refine lv_aload_n hx hb dX4_mainReason_0 rfl (lv_at hl 0 rfl) ?_
  refine va_get (ci := 4) (C := RX4) (T := TX4) (N := 4) hx hb hts (fun w h => List.mem_cons_of_mem _ (List.mem_append_left _ (List.mem_append_left _ (List.mem_append_right _ (h))))) hown hK hP 0 rfl rfl 3 (by decide) (hts (Cond.fieldLink RX4 33 "OutageBook" "causes" "LOutageBook$Causes;") (List.mem_of_getElem? (i := 3) rfl)) (fun _ h9 => h9) rfl dX4_mainReason_1 ?_
  refine lv_iload_n hx hb dX4_mainReason_4 rfl (lv_at hl 1 rfl) ?_
  refine vp_callSi (va_Run.run (va_runV (As := [.int x]) (rest := []) ⟨hx, hb, hml, hown, hts⟩ (c_X0_holds l D t ac cn st Wt x (by first | assumption | omega)) (cwV 1 hts gX4_mainReason_X0_holds rfl rfl rfl (by decide +kernel) ⟨Nat.le_of_ble_eq_true rfl, Nat.le_of_ble_eq_true rfl⟩) (ob_preV (ci := 0) (q0 := 0) (hP.sub [1, 2, 3, 4, 5, 6, 7, 8, 9, 10, 11, 12, 13, 14, 15, 16, 17, 18] rfl) hk rfl rfl) rfl rfl hl.1 rfl (lv_room (Nat.le_of_ble_eq_true rfl)) dX4_mainReason_5 ⟨Nat.le_of_ble_eq_true rfl, Nat.le_of_ble_eq_true rfl⟩)) (fun r9 hr9 => ?_)
  subst hr9
  refine ob_if_ne (tgt := 21) hx hb dX4_mainReason_8 (by decide) (fun c8 => ?_) (fun c8 => ?_)
  · refine lv_aload_n hx hb dX4_mainReason_21 rfl (lv_at hl 0 rfl) ?_
    refine va_get (ci := 4) (C := RX4) (T := TX4) (N := 4) hx hb hts (fun w h => List.mem_cons_of_mem _ (List.mem_append_left _ (List.mem_append_left _ (List.mem_append_right _ (h))))) hown hK hP 0 rfl rfl 3 (by decide) (hts (Cond.fieldLink RX4 33 "OutageBook" "causes" "LOutageBook$Causes;") (List.mem_of_getElem? (i := 3) rfl)) (fun _ h9 => h9) rfl dX4_mainReason_22 ?_
    refine lv_iload_n hx hb dX4_mainReason_25 rfl (lv_at hl 1 rfl) ?_
    refine vp_callSi (va_Run.run (va_runV (As := [.int x]) (rest := []) ⟨hx, hb, hml, hown, hts⟩ (c_X0_weightiestReason l D t ac cn st Wt x (by first | assumption | omega)) (cwV 1 hts gX4_mainReason_X0_weightiestReason rfl rfl rfl (by decide +kernel) ⟨Nat.le_of_ble_eq_true rfl, Nat.le_of_ble_eq_true rfl⟩) (ob_preV (ci := 0) (q0 := 0) (hP.sub [1, 2, 3, 4, 5, 6, 7, 8, 9, 10, 11, 12, 13, 14, 15, 16, 17, 18] rfl) hk rfl rfl) rfl rfl hl.1 rfl (lv_room (Nat.le_of_ble_eq_true rfl)) dX4_mainReason_26 ⟨Nat.le_of_ble_eq_true rfl, Nat.le_of_ble_eq_true rfl⟩)) (fun r9 hr9 => ?_)
    subst hr9
    refine W.widen (k := 1) (n := 6) (Nat.le_of_ble_eq_true rfl) (Nat.le_of_ble_eq_true rfl) ?_
    exact vx_ret (W.iret (v := (ob_wr st Wt cn x cn).1) hx hb hr (fun t9 ht hW => ⟨⟨(ob_wr st Wt cn x cn).1, (), rfl, ⟨(by rw [c8]; rfl), rfl⟩, ob_th ht hP⟩, hS.F ht⟩) hS.2.2 dX4_mainReason_29)
  · exact vx_throwS (A := fun _ => False) (names := ["java/lang/RuntimeException", "java/lang/Exception"]) (sa := sa 16) (text := "no such cause") hx hb hl9 hown (by decide +kernel) (by decide +kernel) (hts (Cond.classLink RX4 99 "java/lang/IndexOutOfBoundsException") (List.mem_of_getElem? (i := 1) rfl)) (hts (Cond.initialized "java/lang/IndexOutOfBoundsException") (List.mem_of_getElem? (i := 2) rfl)) (hE.2.2.2.2.2.2.2.2 16 (165, "no such cause") rfl) (vx_hat (fun w h => hts w (List.mem_cons_of_mem _ (List.mem_append_right _ (h)))) (ob_ng2) (vx_c (va_Nw.use rfl hE.2.2.2.2.1) (vx_c (va_Nw.use rfl hE.2.2.2.2.2.1) (vx_c (va_Nw.use rfl hE.2.2.2.2.2.2.1) (vx_c (va_Nw.use rfl hE.2.2.2.2.2.2.2.1) vx_n))))) (ob_gd2 99) hE.1 hE.2.1 va_S.rf (hl.1.trans hml.symm) dX4_mainReason_11 dX4_mainReason_14 dX4_mainReason_15 dX4_mainReason_17 dX4_mainReason_20 (fun x9 h9 => (hext x9 h9).elim) (by decide) (by decide) (by decide) (by decide) hlocks (fun t9 _ h1 h2 => ⟨(), trivial, ⟨0, (by rw [c8]; rfl), rfl⟩, h1, fun q hq _ => h2 q hq⟩) (fun _ h => absurd h List.not_mem_nil) (by decide) (by decide)
