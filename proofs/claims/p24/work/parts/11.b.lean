set_option maxRecDepth 100000 in
set_option maxHeartbeats 4000000 in
theorem c_X1_firstLine (l : Launch) (D : va_G) (t : Nat → ClassId) (al : Nat → Nat) (n : Nat) (cl rd sv pb ba bf od : Nat → Int32) (bg : Nat → Int64) (p1 : Int32) (hn : n ≤ 30) : Met l yX1_firstLine wsX1_firstLine ({ frames := 2, cells := 0, slots := 0, locals := 42 } : Room) (ob_Pp D t (ob_wL t al n cl rd sv pb ba bf od bg) [.ref (al 0), .int p1]) (vp_Si (fun r : Int32 => (∃ k, k < n ∧ ob_fp n sv od p1 k = true ∧ (∀ j, j < k → ob_fp n sv od p1 j = false) ∧ r = od k) ∨ ((∀ j, j < n → ob_fp n sv od p1 j = false) ∧ r = -1))) 0 0 (fun _ => False) := by
  refine Met.ofW (cc := cX1_firstLine) (maxL := 4) (ret := (some .int)) (by decide) rfl ?_
  intro p e s m args below meth c s₁ B hml hv
  obtain ⟨rfl, hP, hk⟩ := hv
  have hx := B.exec
  have hb := B.bytes
  have hr := B.returns
  have hts := atoms_spec (ws := wsX1_firstLine) B.pre
  have hown : s.vm.findClass RX1 = some m.cls := findClass_of_methodNamed B.named
  have hlocks := B.notSynchronized
  have hK := hk.1
  have hl := lv_entry [.ref (al 0), .int p1] (n := 4) (Nat.le_of_ble_eq_true rfl)
  rw [lg_entry_eq]
  generalize (lg_sl [.ref (al 0), .int p1] ++ List.replicate (4 - (lg_sl [.ref (al 0), .int p1]).length) Slot.unset).toArray = ls at hl ⊢
  have hl : lv_has ls 4 [(0, .ref (al 0)), (1, .int p1)] := hl
  refine lv_iconst (v := nI 0) hx hb dX1_firstLine_0 (by decide) ?_
  refine lv_istore_n (lv' := [(2, .int (nI 0)), (0, .ref (al 0)), (1, .int p1)]) hx hb dX1_firstLine_1 rfl hl (by decide) rfl (fun ls hl => ?_)
  have k2 : ∀ fu : Nat, ∀ (k : Nat), n - k < fu → (k ≤ n) → (∀ j, j < k → ob_fp n sv od p1 j = false) → ∀ ls : Array Slot, lv_has ls 4 [(0, .ref (al 0)), (1, .int p1), (2, .int (nI k))] → W p l e (headSpec wsX1_firstLine ({ frames := 2, cells := 0, slots := 0, locals := 42 } : Room)).room s m ([.ref (al 0), .int p1] : List Value).toArray below meth c s.heap [] 0 0 (MQ below (vp_Si (fun r : Int32 => (∃ k, k < n ∧ ob_fp n sv od p1 k = true ∧ (∀ j, j < k → ob_fp n sv od p1 j = false) ∧ r = od k) ∨ ((∀ j, j < n → ob_fp n sv od p1 j = false) ∧ r = -1))) ([.ref (al 0), .int p1] : List Value).toArray s 0 0 (fun _ => False)) (F0 m 2 ls []) := by
    intro fu
    induction fu with
    | zero => intro k hfu; exact absurd hfu (Nat.not_lt_zero _)
    | succ fu ih =>
      intro k hfu hq hp ls hl
      have ih2 := ih
      refine lv_iload_n hx hb dX1_firstLine_2 rfl (lv_at hl 2 rfl) ?_
      refine lv_aload_n hx hb dX1_firstLine_3 rfl (lv_at hl 0 rfl) ?_
      refine va_get (ci := 1) (C := RX1) (T := TX1) (N := 9) hx hb hts (fun w h => List.mem_cons_of_mem _ (List.mem_append_right _ (h))) hown hK hP 0 rfl rfl 8 (by decide) (hts (Cond.fieldLink RX1 38 "OutageBook$Log" "count" "I") (List.mem_of_getElem? (i := 1) rfl)) (fun _ h9 => h9) rfl dX1_firstLine_4 ?_
      refine ob_icmp_ge (tgt := 42) hx hb (by omega) (by omega) dX1_firstLine_7 (by decide) (fun c7 => ?_) (fun c7 => ?_)
      · refine lv_iconst (v := (-1)) hx hb dX1_firstLine_42 (by decide) ?_
        exact W.iret (v := (-1)) hx hb hr (fun t9 ht hW => ⟨(-1), rfl, (Or.inr ⟨fun j h => hp j (by omega), rfl⟩), ht⟩) (fun _ h => absurd h List.not_mem_nil) dX1_firstLine_43
      · refine lv_aload_n hx hb dX1_firstLine_10 rfl (lv_at hl 0 rfl) ?_
        refine lv_iload_n hx hb dX1_firstLine_11 rfl (lv_at hl 2 rfl) ?_
        refine vp_callSi (va_Run.run (va_runV (As := [.int (nI k)]) (rest := []) ⟨hx, hb, hml, hown, hts⟩ (c_X1_at l D t al n cl rd sv pb ba bf od bg (nI k) (by first | assumption | omega)) (cwV 1 hts gX1_firstLine_X1_at rfl rfl rfl (by decide +kernel) ⟨Nat.le_of_ble_eq_true rfl, Nat.le_of_ble_eq_true rfl⟩) (ob_preV (ci := 1) (q0 := 0) hP hk rfl rfl) rfl rfl hl.1 rfl (lv_room (Nat.le_of_ble_eq_true rfl)) dX1_firstLine_12 ⟨Nat.le_of_ble_eq_true rfl, Nat.le_of_ble_eq_true rfl⟩)) (fun r9 hr9 => ?_)
        subst hr9
        rw [show ob_at n od (nI k) = od k from ob_at_nI c7]
        refine lv_topi (fun w e12 => ?_)
        refine lv_istore_n (lv' := [(3, .int w), (0, .ref (al 0)), (1, .int p1), (2, .int (nI k))]) hx hb dX1_firstLine_15 rfl hl (by decide) rfl (fun ls hl => ?_)
        refine lv_aload_n hx hb dX1_firstLine_16 rfl (lv_at hl 1 rfl) ?_
        refine lv_iload_n hx hb dX1_firstLine_17 rfl (lv_at hl 0 rfl) ?_
        refine vp_callSi (va_Run.run (va_runV (As := [.int w]) (rest := []) ⟨hx, hb, hml, hown, hts⟩ (c_X1_holds l D t al n cl rd sv pb ba bf od bg w (by first | assumption | omega)) (cwV 1 hts gX1_firstLine_X1_holds rfl rfl rfl (by decide +kernel) ⟨Nat.le_of_ble_eq_true rfl, Nat.le_of_ble_eq_true rfl⟩) (ob_preV (ci := 1) (q0 := 0) hP hk rfl rfl) rfl rfl hl.1 rfl (lv_room (Nat.le_of_ble_eq_true rfl)) dX1_firstLine_18 ⟨Nat.le_of_ble_eq_true rfl, Nat.le_of_ble_eq_true rfl⟩)) (fun r9 hr9 => ?_)
        subst hr9
        refine ob_if_eq (tgt := 36) hx hb dX1_firstLine_21 (by decide) (fun c21 => ?_) (fun c21 => ?_)
        · refine ob_inc (k := 3) (lv' := [(2, .int (nI (k + 1))), (3, .int w), (0, .ref (al 0)), (1, .int p1)]) hx hb dX1_firstLine_36 hl rfl (by decide) rfl (fun ls hl => ?_)
          refine lv_goto (tgt := 2) hx hb dX1_firstLine_39 (by decide) ?_
          exact ih2 (k + 1) (by omega) (by omega) (by first | exact lt_0 | (refine lt_s hp ?_; simp [ob_fp, ← e12, c21]; done) | (refine lt_s hp ?_; simp [ob_fp, ← e12, ob_cl (show j ≤ 1073741824 by omega), c31]; done)) _ (lv_sub hl [2, 3, 0] rfl)
        · obtain ⟨j, hj, rfl⟩ := ob_hd_t c21
          refine lv_aload_n hx hb dX1_firstLine_24 rfl (lv_at hl 1 rfl) ?_
          refine va_get (ci := 1) (C := RX1) (T := TX1) (N := 9) hx hb hts (fun w h => List.mem_cons_of_mem _ (List.mem_append_right _ (h))) hown hK hP 0 rfl rfl 2 (by decide) (hts (Cond.fieldLink RX1 18 "OutageBook$Log" "services" "[I") (List.mem_of_getElem? (i := 2) rfl)) (fun _ h9 => h9) rfl dX1_firstLine_25 ?_
          refine lv_iload_n hx hb dX1_firstLine_28 rfl (lv_at hl 0 rfl) ?_
          refine ob_iald hx hb hK hP 3 0 rfl rfl (by omega) (by decide) dX1_firstLine_29 ?_
          refine lv_iload_n hx hb dX1_firstLine_30 rfl (lv_at hl 2 rfl) ?_
          refine lv_icmp_ne (tgt := 36) hx hb dX1_firstLine_31 (by decide) (fun c31 => ?_) (fun c31 => ?_)
          · refine ob_inc (k := 3) (lv' := [(2, .int (nI (k + 1))), (3, .int (nI j)), (0, .ref (al 0)), (1, .int p1)]) hx hb dX1_firstLine_36 hl rfl (by decide) rfl (fun ls hl => ?_)
            refine lv_goto (tgt := 2) hx hb dX1_firstLine_39 (by decide) ?_
            exact ih2 (k + 1) (by omega) (by omega) (by first | exact lt_0 | (refine lt_s hp ?_; simp [ob_fp, ← e12, c21]; done) | (refine lt_s hp ?_; simp [ob_fp, ← e12, ob_cl (show j ≤ 1073741824 by omega), c31]; done)) _ (lv_sub hl [2, 3, 0] rfl)
          · refine lv_iload_n hx hb dX1_firstLine_34 rfl (lv_at hl 0 rfl) ?_
            exact W.iret (v := (nI j)) hx hb hr (fun t9 ht hW => ⟨(nI j), rfl, (Or.inl ⟨k, c7, by simp [ob_fp, ← e12, ob_cl (show j ≤ 1073741824 by omega), c31, ob_hd_nI hj], hp, e12⟩), ht⟩) (fun _ h => absurd h List.not_mem_nil) dX1_firstLine_35
  exact k2 _ 0 (Nat.lt_succ_self _) (by omega) (by first | exact lt_0 | (refine lt_s hp ?_; simp [ob_fp, ← e12, c21]; done) | (refine lt_s hp ?_; simp [ob_fp, ← e12, ob_cl (show j ≤ 1073741824 by omega), c31]; done)) _ (lv_sub hl [1, 2, 0] rfl)

set_option maxRecDepth 100000 in
set_option maxHeartbeats 4000000 in
theorem c_X1_storySize (l : Launch) (D : va_G) (t : Nat → ClassId) (al : Nat → Nat) (n : Nat) (cl rd sv pb ba bf od : Nat → Int32) (bg : Nat → Int64) (hn : n ≤ 30) : Met l yX1_storySize wsX1_storySize ({ frames := 2, cells := 0, slots := 0, locals := 42 } : Room) (ob_Pp D t (ob_wL t al n cl rd sv pb ba bf od bg) [.ref (al 0)]) (vp_Si (fun r : Int32 => r = nI (ob_ct (ob_is n pb ba od) n))) 0 0 (fun _ => False) := by
  refine Met.ofW (cc := cX1_storySize) (maxL := 3) (ret := (some .int)) (by decide) rfl ?_
  intro p e s m args below meth c s₁ B hml hv
  obtain ⟨rfl, hP, hk⟩ := hv
  have hx := B.exec
  have hb := B.bytes
  have hr := B.returns
  have hts := atoms_spec (ws := wsX1_storySize) B.pre
  have hown : s.vm.findClass RX1 = some m.cls := findClass_of_methodNamed B.named
  have hlocks := B.notSynchronized
  have hK := hk.1
  have hl := lv_entry [.ref (al 0)] (n := 3) (Nat.le_of_ble_eq_true rfl)
  rw [lg_entry_eq]
  generalize (lg_sl [.ref (al 0)] ++ List.replicate (3 - (lg_sl [.ref (al 0)]).length) Slot.unset).toArray = ls at hl ⊢
  have hl : lv_has ls 3 [(0, .ref (al 0))] := hl
  refine lv_iconst (v := nI 0) hx hb dX1_storySize_0 (by decide) ?_
  refine lv_istore_n (lv' := [(1, .int (nI 0)), (0, .ref (al 0))]) hx hb dX1_storySize_1 rfl hl (by decide) rfl (fun ls hl => ?_)
  refine lv_iconst (v := nI 0) hx hb dX1_storySize_2 (by decide) ?_
  refine lv_istore_n (lv' := [(2, .int (nI 0)), (1, .int (nI 0)), (0, .ref (al 0))]) hx hb dX1_storySize_3 rfl hl (by decide) rfl (fun ls hl => ?_)
  have k4 : ∀ fu : Nat, ∀ (k w : Nat), n - k < fu → (k ≤ n) → (w = ob_ct (ob_is n pb ba od) k) → ∀ ls : Array Slot, lv_has ls 3 [(0, .ref (al 0)), (1, .int (nI w)), (2, .int (nI k))] → W p l e (headSpec wsX1_storySize ({ frames := 2, cells := 0, slots := 0, locals := 42 } : Room)).room s m ([.ref (al 0)] : List Value).toArray below meth c s.heap [] 0 0 (MQ below (vp_Si (fun r : Int32 => r = nI (ob_ct (ob_is n pb ba od) n))) ([.ref (al 0)] : List Value).toArray s 0 0 (fun _ => False)) (F0 m 4 ls []) := by
    intro fu
    induction fu with
    | zero => intro k w hfu; exact absurd hfu (Nat.not_lt_zero _)
    | succ fu ih =>
      intro k w hfu hq hw ls hl
      have ih4 := ih
      refine lv_iload_n hx hb dX1_storySize_4 rfl (lv_at hl 2 rfl) ?_
      refine lv_aload_n hx hb dX1_storySize_5 rfl (lv_at hl 0 rfl) ?_
      refine va_get (ci := 1) (C := RX1) (T := TX1) (N := 9) hx hb hts (fun w h => List.mem_cons_of_mem _ (List.mem_append_right _ (h))) hown hK hP 0 rfl rfl 8 (by decide) (hts (Cond.fieldLink RX1 38 "OutageBook$Log" "count" "I") (List.mem_of_getElem? (i := 1) rfl)) (fun _ h9 => h9) rfl dX1_storySize_6 ?_
      refine ob_icmp_ge (tgt := 33) hx hb (by omega) (by omega) dX1_storySize_9 (by decide) (fun c9 => ?_) (fun c9 => ?_)
      · refine lv_iload_n hx hb dX1_storySize_33 rfl (lv_at hl 1 rfl) ?_
        exact W.iret (v := nI w) hx hb hr (fun t9 ht hW => ⟨nI w, rfl, (by rw [hw, Nat.le_antisymm hq c9]), ht⟩) (fun _ h => absurd h List.not_mem_nil) dX1_storySize_34
      · refine lv_aload_n hx hb dX1_storySize_12 rfl (lv_at hl 0 rfl) ?_
        refine lv_aload_n hx hb dX1_storySize_13 rfl (lv_at hl 0 rfl) ?_
        refine lv_iload_n hx hb dX1_storySize_14 rfl (lv_at hl 2 rfl) ?_
        refine vp_callSi (va_Run.run (va_runV (As := [.int (nI k)]) (rest := [.ref (al 0)]) ⟨hx, hb, hml, hown, hts⟩ (c_X1_at l D t al n cl rd sv pb ba bf od bg (nI k) (by first | assumption | omega)) (cwV 1 hts gX1_storySize_X1_at rfl rfl rfl (by decide +kernel) ⟨Nat.le_of_ble_eq_true rfl, Nat.le_of_ble_eq_true rfl⟩) (ob_preV (ci := 1) (q0 := 0) hP hk rfl rfl) rfl rfl hl.1 rfl (lv_room (Nat.le_of_ble_eq_true rfl)) dX1_storySize_15 ⟨Nat.le_of_ble_eq_true rfl, Nat.le_of_ble_eq_true rfl⟩)) (fun r9 hr9 => ?_)
        subst hr9
        rw [show ob_at n od (nI k) = od k from ob_at_nI c9]
        refine vp_callSi (va_Run.run (va_runV (As := [.int (od k)]) (rest := []) ⟨hx, hb, hml, hown, hts⟩ (c_X1_isInStory l D t al n cl rd sv pb ba bf od bg (od k) (by first | assumption | omega)) (cwV 1 hts gX1_storySize_X1_isInStory rfl rfl rfl (by decide +kernel) ⟨Nat.le_of_ble_eq_true rfl, Nat.le_of_ble_eq_true rfl⟩) (ob_preV (ci := 1) (q0 := 0) hP hk rfl rfl) rfl rfl hl.1 rfl (lv_room (Nat.le_of_ble_eq_true rfl)) dX1_storySize_18 ⟨Nat.le_of_ble_eq_true rfl, Nat.le_of_ble_eq_true rfl⟩)) (fun r9 hr9 => ?_)
        subst hr9
        rw [show ob_bi (ob_hd n (od k) && ob_st pb ba (od k).toNatClampNeg) = ob_bi (ob_is n pb ba od k) from rfl]
        refine ob_if_eq (tgt := 27) hx hb dX1_storySize_21 (by decide) (fun c21 => ?_) (fun c21 => ?_)
        · refine ob_inc (k := 2) (lv' := [(2, .int (nI (k + 1))), (0, .ref (al 0)), (1, .int (nI w))]) hx hb dX1_storySize_27 hl rfl (by decide) rfl (fun ls hl => ?_)
          refine lv_goto (tgt := 4) hx hb dX1_storySize_30 (by decide) ?_
          exact ih4 (k + 1) w (by omega) (by omega) (by first | (rfl; done) | (simp [ob_ct, c21, hw]; done)) _ (lv_sub hl [1, 2, 0] rfl)
        · refine ob_inc (k := 1) (lv' := [(1, .int (nI (w + 1))), (0, .ref (al 0)), (2, .int (nI k))]) hx hb dX1_storySize_24 hl rfl (by decide) rfl (fun ls hl => ?_)
          refine ob_inc (k := 2) (lv' := [(2, .int (nI (k + 1))), (1, .int (nI (w + 1))), (0, .ref (al 0))]) hx hb dX1_storySize_27 hl rfl (by decide) rfl (fun ls hl => ?_)
          refine lv_goto (tgt := 4) hx hb dX1_storySize_30 (by decide) ?_
          exact ih4 (k + 1) (w + 1) (by omega) (by omega) (by first | (rfl; done) | (simp [ob_ct, c21, hw]; done)) _ (lv_sub hl [2, 1, 0] rfl)
  exact k4 _ 0 0 (Nat.lt_succ_self _) (by omega) (by first | (rfl; done) | (simp [ob_ct, c21, hw]; done)) _ (lv_sub hl [2, 1, 0] rfl)

set_option maxRecDepth 100000 in
set_option maxHeartbeats 4000000 in
theorem c_X1_storyLine (l : Launch) (D : va_G) (t : Nat → ClassId) (al : Nat → Nat) (n : Nat) (cl rd sv pb ba bf od : Nat → Int32) (bg : Nat → Int64) (p1 : Int32) (hn : n ≤ 30) : Met l yX1_storyLine wsX1_storyLine ({ frames := 2, cells := 0, slots := 0, locals := 42 } : Room) (ob_Pp D t (ob_wL t al n cl rd sv pb ba bf od bg) [.ref (al 0), .int p1]) (vp_Si (fun r : Int32 => (∃ k, k < n ∧ ob_is n pb ba od k = true ∧ nI (ob_ct (ob_is n pb ba od) k) = p1 ∧ r = od k) ∨ ((∀ j, j < n → ob_is n pb ba od j = true → ¬ nI (ob_ct (ob_is n pb ba od) j) = p1) ∧ r = -1))) 0 0 (fun _ => False) := by
  refine Met.ofW (cc := cX1_storyLine) (maxL := 5) (ret := (some .int)) (by decide) rfl ?_
  intro p e s m args below meth c s₁ B hml hv
  obtain ⟨rfl, hP, hk⟩ := hv
  have hx := B.exec
  have hb := B.bytes
  have hr := B.returns
  have hts := atoms_spec (ws := wsX1_storyLine) B.pre
  have hown : s.vm.findClass RX1 = some m.cls := findClass_of_methodNamed B.named
  have hlocks := B.notSynchronized
  have hK := hk.1
  have hl := lv_entry [.ref (al 0), .int p1] (n := 5) (Nat.le_of_ble_eq_true rfl)
  rw [lg_entry_eq]
  generalize (lg_sl [.ref (al 0), .int p1] ++ List.replicate (5 - (lg_sl [.ref (al 0), .int p1]).length) Slot.unset).toArray = ls at hl ⊢
  have hl : lv_has ls 5 [(0, .ref (al 0)), (1, .int p1)] := hl
  refine lv_iconst (v := nI 0) hx hb dX1_storyLine_0 (by decide) ?_
  refine lv_istore_n (lv' := [(2, .int (nI 0)), (0, .ref (al 0)), (1, .int p1)]) hx hb dX1_storyLine_1 rfl hl (by decide) rfl (fun ls hl => ?_)
  refine lv_iconst (v := nI 0) hx hb dX1_storyLine_2 (by decide) ?_
  refine lv_istore_n (lv' := [(3, .int (nI 0)), (2, .int (nI 0)), (0, .ref (al 0)), (1, .int p1)]) hx hb dX1_storyLine_3 rfl hl (by decide) rfl (fun ls hl => ?_)
  have k4 : ∀ fu : Nat, ∀ (k w : Nat), n - k < fu → (k ≤ n) → (w = ob_ct (ob_is n pb ba od) k) → (∀ j, j < k → ob_is n pb ba od j = true → ¬ nI (ob_ct (ob_is n pb ba od) j) = p1) → ∀ ls : Array Slot, lv_has ls 5 [(0, .ref (al 0)), (1, .int p1), (2, .int (nI w)), (3, .int (nI k))] → W p l e (headSpec wsX1_storyLine ({ frames := 2, cells := 0, slots := 0, locals := 42 } : Room)).room s m ([.ref (al 0), .int p1] : List Value).toArray below meth c s.heap [] 0 0 (MQ below (vp_Si (fun r : Int32 => (∃ k, k < n ∧ ob_is n pb ba od k = true ∧ nI (ob_ct (ob_is n pb ba od) k) = p1 ∧ r = od k) ∨ ((∀ j, j < n → ob_is n pb ba od j = true → ¬ nI (ob_ct (ob_is n pb ba od) j) = p1) ∧ r = -1))) ([.ref (al 0), .int p1] : List Value).toArray s 0 0 (fun _ => False)) (F0 m 4 ls []) := by
    intro fu
    induction fu with
    | zero => intro k w hfu; exact absurd hfu (Nat.not_lt_zero _)
    | succ fu ih =>
      intro k w hfu hq hw hp ls hl
      have ih4 := ih
      refine lv_iload_n hx hb dX1_storyLine_4 rfl (lv_at hl 3 rfl) ?_
      refine lv_aload_n hx hb dX1_storyLine_5 rfl (lv_at hl 0 rfl) ?_
      refine va_get (ci := 1) (C := RX1) (T := TX1) (N := 9) hx hb hts (fun w h => List.mem_cons_of_mem _ (List.mem_append_right _ (h))) hown hK hP 0 rfl rfl 8 (by decide) (hts (Cond.fieldLink RX1 38 "OutageBook$Log" "count" "I") (List.mem_of_getElem? (i := 1) rfl)) (fun _ h9 => h9) rfl dX1_storyLine_6 ?_
      refine ob_icmp_ge (tgt := 45) hx hb (by omega) (by omega) dX1_storyLine_9 (by decide) (fun c9 => ?_) (fun c9 => ?_)
      · refine lv_iconst (v := (-1)) hx hb dX1_storyLine_45 (by decide) ?_
        exact W.iret (v := (-1)) hx hb hr (fun t9 ht hW => ⟨(-1), rfl, (Or.inr ⟨fun j h => hp j (by omega), rfl⟩), ht⟩) (fun _ h => absurd h List.not_mem_nil) dX1_storyLine_46
      · refine lv_aload_n hx hb dX1_storyLine_12 rfl (lv_at hl 0 rfl) ?_
        refine lv_iload_n hx hb dX1_storyLine_13 rfl (lv_at hl 3 rfl) ?_
        refine vp_callSi (va_Run.run (va_runV (As := [.int (nI k)]) (rest := []) ⟨hx, hb, hml, hown, hts⟩ (c_X1_at l D t al n cl rd sv pb ba bf od bg (nI k) (by first | assumption | omega)) (cwV 1 hts gX1_storyLine_X1_at rfl rfl rfl (by decide +kernel) ⟨Nat.le_of_ble_eq_true rfl, Nat.le_of_ble_eq_true rfl⟩) (ob_preV (ci := 1) (q0 := 0) hP hk rfl rfl) rfl rfl hl.1 rfl (lv_room (Nat.le_of_ble_eq_true rfl)) dX1_storyLine_14 ⟨Nat.le_of_ble_eq_true rfl, Nat.le_of_ble_eq_true rfl⟩)) (fun r9 hr9 => ?_)
        subst hr9
        rw [show ob_at n od (nI k) = od k from ob_at_nI c9]
        refine lv_istore (lv' := [(4, .int (od k)), (0, .ref (al 0)), (1, .int p1), (2, .int (nI w)), (3, .int (nI k))]) hx hb dX1_storyLine_17 hl (by decide) rfl (fun ls hl => ?_)
        refine lv_aload_n hx hb dX1_storyLine_19 rfl (lv_at hl 1 rfl) ?_
        refine lv_iload hx hb dX1_storyLine_20 (lv_at hl 0 rfl) ?_
        refine vp_callSi (va_Run.run (va_runV (As := [.int (od k)]) (rest := []) ⟨hx, hb, hml, hown, hts⟩ (c_X1_isInStory l D t al n cl rd sv pb ba bf od bg (od k) (by first | assumption | omega)) (cwV 1 hts gX1_storyLine_X1_isInStory rfl rfl rfl (by decide +kernel) ⟨Nat.le_of_ble_eq_true rfl, Nat.le_of_ble_eq_true rfl⟩) (ob_preV (ci := 1) (q0 := 0) hP hk rfl rfl) rfl rfl hl.1 rfl (lv_room (Nat.le_of_ble_eq_true rfl)) dX1_storyLine_22 ⟨Nat.le_of_ble_eq_true rfl, Nat.le_of_ble_eq_true rfl⟩)) (fun r9 hr9 => ?_)
        subst hr9
        rw [show ob_bi (ob_hd n (od k) && ob_st pb ba (od k).toNatClampNeg) = ob_bi (ob_is n pb ba od k) from rfl]
        refine ob_if_eq (tgt := 39) hx hb dX1_storyLine_25 (by decide) (fun c25 => ?_) (fun c25 => ?_)
        · refine ob_inc (k := 4) (lv' := [(3, .int (nI (k + 1))), (4, .int (od k)), (0, .ref (al 0)), (1, .int p1), (2, .int (nI w))]) hx hb dX1_storyLine_39 hl rfl (by decide) rfl (fun ls hl => ?_)
          refine lv_goto (tgt := 4) hx hb dX1_storyLine_42 (by decide) ?_
          exact ih4 (k + 1) w (by omega) (by omega) (by first | (rfl; done) | (simp [ob_ct, c25, hw]; done)) (by first | exact lt_0 | (refine lt_s hp ?_; intro h9; rw [c25] at h9; cases h9; done) | (refine lt_s hp ?_; intro _; rw [← hw]; exact c30)) _ (lv_sub hl [2, 3, 4, 0] rfl)
        · refine lv_iload_n hx hb dX1_storyLine_28 rfl (lv_at hl 3 rfl) ?_
          refine lv_iload_n hx hb dX1_storyLine_29 rfl (lv_at hl 2 rfl) ?_
          refine lv_icmp_ne (tgt := 36) hx hb dX1_storyLine_30 (by decide) (fun c30 => ?_) (fun c30 => ?_)
          · refine ob_inc (k := 3) (lv' := [(2, .int (nI (w + 1))), (4, .int (od k)), (0, .ref (al 0)), (1, .int p1), (3, .int (nI k))]) hx hb dX1_storyLine_36 hl rfl (by decide) rfl (fun ls hl => ?_)
            refine ob_inc (k := 4) (lv' := [(3, .int (nI (k + 1))), (2, .int (nI (w + 1))), (4, .int (od k)), (0, .ref (al 0)), (1, .int p1)]) hx hb dX1_storyLine_39 hl rfl (by decide) rfl (fun ls hl => ?_)
            refine lv_goto (tgt := 4) hx hb dX1_storyLine_42 (by decide) ?_
            exact ih4 (k + 1) (w + 1) (by omega) (by omega) (by first | (rfl; done) | (simp [ob_ct, c25, hw]; done)) (by first | exact lt_0 | (refine lt_s hp ?_; intro h9; rw [c25] at h9; cases h9; done) | (refine lt_s hp ?_; intro _; rw [← hw]; exact c30)) _ (lv_sub hl [3, 4, 1, 0] rfl)
          · refine lv_iload hx hb dX1_storyLine_33 (lv_at hl 0 rfl) ?_
            exact W.iret (v := od k) hx hb hr (fun t9 ht hW => ⟨od k, rfl, (Or.inl ⟨k, c9, c25, by rw [← hw]; exact c30, rfl⟩), ht⟩) (fun _ h => absurd h List.not_mem_nil) dX1_storyLine_35
  exact k4 _ 0 0 (Nat.lt_succ_self _) (by omega) (by first | (rfl; done) | (simp [ob_ct, c25, hw]; done)) (by first | exact lt_0 | (refine lt_s hp ?_; intro h9; rw [c25] at h9; cases h9; done) | (refine lt_s hp ?_; intro _; rw [← hw]; exact c30)) _ (lv_sub hl [2, 3, 1, 0] rfl)

set_option maxRecDepth 100000 in
set_option maxHeartbeats 4000000 in
theorem c_X1_allBefore (l : Launch) (D : va_G) (t : Nat → ClassId) (al : Nat → Nat) (n : Nat) (cl rd sv pb ba bf od : Nat → Int32) (bg : Nat → Int64) (ao : Nat → Nat) (M : Nat → Nat → Int32) (j : Nat) (hn : n ≤ 30) (hj : j < n) : Met l yX1_allBefore wsX1_allBefore ({ frames := 4, cells := 0, slots := 0, locals := 88 } : Room) (ob_Pp D t (ob_wL t al n cl rd sv pb ba bf od bg ++ ob_wO t ao M) [.ref (al 0), .int (nI j), .ref (ao 0)]) (vp_Si (fun r : Int32 => r = ob_bs (fun i => ob_se M cl rd i j) n)) 0 0 (fun _ => False) := by
  refine Met.ofW (cc := cX1_allBefore) (maxL := 5) (ret := (some .int)) (by decide) rfl ?_
  intro p e s m args below meth c s₁ B hml hv
  obtain ⟨rfl, hP, hk⟩ := hv
  have hx := B.exec
  have hb := B.bytes
  have hr := B.returns
  have hts := atoms_spec (ws := wsX1_allBefore) B.pre
  have hown : s.vm.findClass RX1 = some m.cls := findClass_of_methodNamed B.named
  have hlocks := B.notSynchronized
  have hK := hk.1
  have hl := lv_entry [.ref (al 0), .int (nI j), .ref (ao 0)] (n := 5) (Nat.le_of_ble_eq_true rfl)
  rw [lg_entry_eq]
  generalize (lg_sl [.ref (al 0), .int (nI j), .ref (ao 0)] ++ List.replicate (5 - (lg_sl [.ref (al 0), .int (nI j), .ref (ao 0)]).length) Slot.unset).toArray = ls at hl ⊢
  have hl : lv_has ls 5 [(0, .ref (al 0)), (1, .int (nI j)), (2, .ref (ao 0))] := hl
  refine lv_iconst (v := nI 0) hx hb dX1_allBefore_0 (by decide) ?_
  refine lv_istore_n (lv' := [(3, .int (nI 0)), (0, .ref (al 0)), (1, .int (nI j)), (2, .ref (ao 0))]) hx hb dX1_allBefore_1 rfl hl (by decide) rfl (fun ls hl => ?_)
  refine lv_iconst (v := nI 0) hx hb dX1_allBefore_2 (by decide) ?_
  refine lv_istore (lv' := [(4, .int (nI 0)), (3, .int (nI 0)), (0, .ref (al 0)), (1, .int (nI j)), (2, .ref (ao 0))]) hx hb dX1_allBefore_3 hl (by decide) rfl (fun ls hl => ?_)
  have k5 : ∀ fu : Nat, ∀ (k : Nat) (w : Int32), n - k < fu → (k ≤ n) → (w = ob_bs (fun i => ob_se M cl rd i j) k) → ∀ ls : Array Slot, lv_has ls 5 [(0, .ref (al 0)), (1, .int (nI j)), (2, .ref (ao 0)), (3, .int w), (4, .int (nI k))] → W p l e (headSpec wsX1_allBefore ({ frames := 4, cells := 0, slots := 0, locals := 88 } : Room)).room s m ([.ref (al 0), .int (nI j), .ref (ao 0)] : List Value).toArray below meth c s.heap [] 0 0 (MQ below (vp_Si (fun r : Int32 => r = ob_bs (fun i => ob_se M cl rd i j) n)) ([.ref (al 0), .int (nI j), .ref (ao 0)] : List Value).toArray s 0 0 (fun _ => False)) (F0 m 5 ls []) := by
    intro fu
    induction fu with
    | zero => intro k w hfu; exact absurd hfu (Nat.not_lt_zero _)
    | succ fu ih =>
      intro k w hfu hq hw ls hl
      have ih5 := ih
      refine lv_iload hx hb dX1_allBefore_5 (lv_at hl 4 rfl) ?_
      refine lv_aload_n hx hb dX1_allBefore_7 rfl (lv_at hl 0 rfl) ?_
      refine va_get (ci := 1) (C := RX1) (T := TX1) (N := 9) hx hb hts (fun w h => List.mem_cons_of_mem _ (List.mem_append_left _ (List.mem_append_right _ (h)))) hown hK hP 0 rfl rfl 8 (by decide) (hts (Cond.fieldLink RX1 38 "OutageBook$Log" "count" "I") (List.mem_of_getElem? (i := 1) rfl)) (fun _ h9 => h9) rfl dX1_allBefore_8 ?_
      refine ob_icmp_ge (tgt := 39) hx hb (by omega) (by omega) dX1_allBefore_11 (by decide) (fun c11 => ?_) (fun c11 => ?_)
      · refine lv_iload_n hx hb dX1_allBefore_39 rfl (lv_at hl 3 rfl) ?_
        exact W.iret (v := w) hx hb hr (fun t9 ht hW => ⟨w, rfl, (by rw [hw, Nat.le_antisymm hq c11]), ht⟩) (fun _ h => absurd h List.not_mem_nil) dX1_allBefore_40
      · refine lv_aload_n hx hb dX1_allBefore_14 rfl (lv_at hl 0 rfl) ?_
        refine lv_iload hx hb dX1_allBefore_15 (lv_at hl 4 rfl) ?_
        refine lv_iload_n hx hb dX1_allBefore_17 rfl (lv_at hl 1 rfl) ?_
        refine lv_aload_n hx hb dX1_allBefore_18 rfl (lv_at hl 2 rfl) ?_
        refine vp_callSi (va_Run.run (va_runV (As := [.int (nI k), .int (nI j), .ref (ao 0)]) (rest := []) ⟨hx, hb, hml, hown, hts⟩ (c_X1_isSurelyEarlier l D t al n cl rd sv pb ba bf od bg ao M k j hn c11 hj) (cwV 3 hts gX1_allBefore_X1_isSurelyEarlier rfl rfl rfl (by decide +kernel) ⟨Nat.le_of_ble_eq_true rfl, Nat.le_of_ble_eq_true rfl⟩) (ob_preV (ci := 1) (q0 := 0) hP hk rfl rfl) rfl rfl hl.1 rfl (lv_room (Nat.le_of_ble_eq_true rfl)) dX1_allBefore_19 ⟨Nat.le_of_ble_eq_true rfl, Nat.le_of_ble_eq_true rfl⟩)) (fun r9 hr9 => ?_)
        subst hr9
        refine ob_if_eq (tgt := 33) hx hb dX1_allBefore_22 (by decide) (fun c22 => ?_) (fun c22 => ?_)
        · refine ob_inc (k := 4) (lv' := [(4, .int (nI (k + 1))), (0, .ref (al 0)), (1, .int (nI j)), (2, .ref (ao 0)), (3, .int w)]) hx hb dX1_allBefore_33 hl rfl (by decide) rfl (fun ls hl => ?_)
          refine lv_goto (tgt := 5) hx hb dX1_allBefore_36 (by decide) ?_
          exact ih5 (k + 1) w (by omega) (by omega) (by first | (rfl; done) | (simp [ob_bs, c22, ← hw]; done)) _ (lv_sub hl [1, 2, 3, 4, 0] rfl)
        · refine lv_iload_n hx hb dX1_allBefore_25 rfl (lv_at hl 3 rfl) ?_
          refine lv_iload hx hb dX1_allBefore_26 (lv_at hl 4 rfl) ?_
          refine vp_callSi (va_Run.run (va_runSN (As := [.int (nI k)]) (rest := [.int w]) ⟨hx, hb, hml, hown, hts⟩ (c_X4_bit l D t (nI k)) ⟨va_cnB 1 hts gX1_allBefore_X4_bit_n69 rfl rfl rfl hk.2.2.2.2.1 (hts (Cond.initialized RX4) (List.mem_of_getElem? (i := 22) rfl)) (by decide +kernel) ⟨Nat.le_of_ble_eq_true rfl, Nat.le_of_ble_eq_true rfl⟩, (hts (Cond.static yX4_bit) (List.mem_of_getElem? (i := 27) rfl)), trivial⟩ (ob_preS (hP.sub [] rfl) hk) rfl rfl hl.1 rfl (lv_room (Nat.le_of_ble_eq_true rfl)) dX1_allBefore_28 ⟨Nat.le_of_ble_eq_true rfl, Nat.le_of_ble_eq_true rfl⟩)) (fun r9 hr9 => ?_)
          subst hr9
          refine lv_ior hx hb dX1_allBefore_31 ?_
          refine lv_istore_n (lv' := [(3, .int (w ||| (ob_bit (nI k)))), (0, .ref (al 0)), (1, .int (nI j)), (2, .ref (ao 0)), (4, .int (nI k))]) hx hb dX1_allBefore_32 rfl hl (by decide) rfl (fun ls hl => ?_)
          refine ob_inc (k := 4) (lv' := [(4, .int (nI (k + 1))), (3, .int (w ||| (ob_bit (nI k)))), (0, .ref (al 0)), (1, .int (nI j)), (2, .ref (ao 0))]) hx hb dX1_allBefore_33 hl rfl (by decide) rfl (fun ls hl => ?_)
          refine lv_goto (tgt := 5) hx hb dX1_allBefore_36 (by decide) ?_
          exact ih5 (k + 1) (w ||| (ob_bit (nI k))) (by omega) (by omega) (by first | (rfl; done) | (simp [ob_bs, c22, ← hw]; done)) _ (lv_sub hl [2, 3, 4, 1, 0] rfl)
  exact k5 _ 0 (nI 0) (Nat.lt_succ_self _) (by omega) (by first | (rfl; done) | (simp [ob_bs, c22, ← hw]; done)) _ (lv_sub hl [2, 3, 4, 1, 0] rfl)

set_option maxRecDepth 100000 in
set_option maxHeartbeats 4000000 in
theorem c_X1_nextLine (l : Launch) (D : va_G) (t : Nat → ClassId) (al : Nat → Nat) (n : Nat) (cl rd sv pb ba bf od : Nat → Int32) (bg : Nat → Int64) (q : Int32) (hn : n ≤ 30) : Met l yX1_nextLine wsX1_nextLine ({ frames := 2, cells := 0, slots := 0, locals := 41 } : Room) (ob_Pp D t (ob_wL t al n cl rd sv pb ba bf od bg) [.ref (al 0), .int q]) (vp_Si (fun r : Int32 => (∃ k, k < n ∧ ob_pk bf q k = true ∧ (∀ j, j < k → ob_pk bf q j = false) ∧ r = nI k) ∨ ((∀ j, j < n → ob_pk bf q j = false) ∧ r = -1))) 0 0 (fun _ => False) := by
  refine Met.ofW (cc := cX1_nextLine) (maxL := 3) (ret := (some .int)) (by decide) rfl ?_
  intro p e s m args below meth c s₁ B hml hv
  obtain ⟨rfl, hP, hk⟩ := hv
  have hx := B.exec
  have hb := B.bytes
  have hr := B.returns
  have hts := atoms_spec (ws := wsX1_nextLine) B.pre
  have hown : s.vm.findClass RX1 = some m.cls := findClass_of_methodNamed B.named
  have hlocks := B.notSynchronized
  have hK := hk.1
  have hl := lv_entry [.ref (al 0), .int q] (n := 3) (Nat.le_of_ble_eq_true rfl)
  rw [lg_entry_eq]
  generalize (lg_sl [.ref (al 0), .int q] ++ List.replicate (3 - (lg_sl [.ref (al 0), .int q]).length) Slot.unset).toArray = ls at hl ⊢
  have hl : lv_has ls 3 [(0, .ref (al 0)), (1, .int q)] := hl
  refine lv_iconst (v := nI 0) hx hb dX1_nextLine_0 (by decide) ?_
  refine lv_istore_n (lv' := [(2, .int (nI 0)), (0, .ref (al 0)), (1, .int q)]) hx hb dX1_nextLine_1 rfl hl (by decide) rfl (fun ls hl => ?_)
  have k2 : ∀ fu : Nat, ∀ (k : Nat), n - k < fu → (k ≤ n) → (∀ j, j < k → ob_pk bf q j = false) → ∀ ls : Array Slot, lv_has ls 3 [(0, .ref (al 0)), (1, .int q), (2, .int (nI k))] → W p l e (headSpec wsX1_nextLine ({ frames := 2, cells := 0, slots := 0, locals := 41 } : Room)).room s m ([.ref (al 0), .int q] : List Value).toArray below meth c s.heap [] 0 0 (MQ below (vp_Si (fun r : Int32 => (∃ k, k < n ∧ ob_pk bf q k = true ∧ (∀ j, j < k → ob_pk bf q j = false) ∧ r = nI k) ∨ ((∀ j, j < n → ob_pk bf q j = false) ∧ r = -1))) ([.ref (al 0), .int q] : List Value).toArray s 0 0 (fun _ => False)) (F0 m 2 ls []) := by
    intro fu
    induction fu with
    | zero => intro k hfu; exact absurd hfu (Nat.not_lt_zero _)
    | succ fu ih =>
      intro k hfu hq hp ls hl
      have ih2 := ih
      refine lv_iload_n hx hb dX1_nextLine_2 rfl (lv_at hl 2 rfl) ?_
      refine lv_aload_n hx hb dX1_nextLine_3 rfl (lv_at hl 0 rfl) ?_
      refine va_get (ci := 1) (C := RX1) (T := TX1) (N := 9) hx hb hts (fun w h => List.mem_cons_of_mem _ (List.mem_append_right _ (h))) hown hK hP 0 rfl rfl 8 (by decide) (hts (Cond.fieldLink RX1 38 "OutageBook$Log" "count" "I") (List.mem_of_getElem? (i := 1) rfl)) (fun _ h9 => h9) rfl dX1_nextLine_4 ?_
      refine ob_icmp_ge (tgt := 43) hx hb (by omega) (by omega) dX1_nextLine_7 (by decide) (fun c7 => ?_) (fun c7 => ?_)
      · refine lv_iconst (v := (-1)) hx hb dX1_nextLine_43 (by decide) ?_
        exact W.iret (v := (-1)) hx hb hr (fun t9 ht hW => ⟨(-1), rfl, (Or.inr ⟨fun j h => hp j (by omega), rfl⟩), ht⟩) (fun _ h => absurd h List.not_mem_nil) dX1_nextLine_44
      · refine lv_iload_n hx hb dX1_nextLine_10 rfl (lv_at hl 2 rfl) ?_
        refine lv_bipush (v := nI 30) hx hb dX1_nextLine_11 (by decide) ?_
        refine ob_icmp_ge (tgt := 43) hx hb (by omega) (by omega) dX1_nextLine_13 (by decide) (fun c13 => ?_) (fun c13 => ?_)
        · exact absurd c13 (by omega)
        · refine lv_iload_n hx hb dX1_nextLine_16 rfl (lv_at hl 1 rfl) ?_
          refine lv_iload_n hx hb dX1_nextLine_17 rfl (lv_at hl 2 rfl) ?_
          refine vp_callSi (va_Run.run (va_runSN (As := [.int q, .int (nI k)]) (rest := []) ⟨hx, hb, hml, hown, hts⟩ (c_X4_hasBit l D t q (nI k)) ⟨va_cnB 2 hts gX1_nextLine_X4_hasBit_n46 rfl rfl rfl hk.2.2.2.1 (hts (Cond.initialized RX4) (List.mem_of_getElem? (i := 4) rfl)) (by decide +kernel) ⟨Nat.le_of_ble_eq_true rfl, Nat.le_of_ble_eq_true rfl⟩, (hts (Cond.static yX4_hasBit) (List.mem_of_getElem? (i := 3) rfl)), trivial⟩ (ob_preS (hP.sub [] rfl) hk) rfl rfl hl.1 rfl (lv_room (Nat.le_of_ble_eq_true rfl)) dX1_nextLine_18 ⟨Nat.le_of_ble_eq_true rfl, Nat.le_of_ble_eq_true rfl⟩)) (fun r9 hr9 => ?_)
          subst hr9
          refine ob_if_eq (tgt := 37) hx hb dX1_nextLine_21 (by decide) (fun c21 => ?_) (fun c21 => ?_)
          · refine ob_inc (k := 2) (lv' := [(2, .int (nI (k + 1))), (0, .ref (al 0)), (1, .int q)]) hx hb dX1_nextLine_37 hl rfl (by decide) rfl (fun ls hl => ?_)
            refine lv_goto (tgt := 2) hx hb dX1_nextLine_40 (by decide) ?_
            exact ih2 (k + 1) (by omega) (by omega) (by first | exact lt_0 | (refine lt_s hp ?_; simp [ob_pk, c21]; done) | (refine lt_s hp ?_; simp [ob_pk, c32]; done)) _ (lv_sub hl [1, 2, 0] rfl)
          · refine lv_aload_n hx hb dX1_nextLine_24 rfl (lv_at hl 0 rfl) ?_
            refine va_get (ci := 1) (C := RX1) (T := TX1) (N := 9) hx hb hts (fun w h => List.mem_cons_of_mem _ (List.mem_append_right _ (h))) hown hK hP 0 rfl rfl 5 (by decide) (hts (Cond.fieldLink RX1 28 "OutageBook$Log" "before" "[I") (List.mem_of_getElem? (i := 2) rfl)) (fun _ h9 => h9) rfl dX1_nextLine_25 ?_
            refine lv_iload_n hx hb dX1_nextLine_28 rfl (lv_at hl 2 rfl) ?_
            refine ob_iald hx hb hK hP 6 0 rfl rfl (by omega) (by decide) dX1_nextLine_29 ?_
            refine lv_iload_n hx hb dX1_nextLine_30 rfl (lv_at hl 1 rfl) ?_
            refine lv_iand hx hb dX1_nextLine_31 ?_
            refine lv_if_ne (tgt := 37) hx hb dX1_nextLine_32 (by decide) (fun c32 => ?_) (fun c32 => ?_)
            · refine ob_inc (k := 2) (lv' := [(2, .int (nI (k + 1))), (0, .ref (al 0)), (1, .int q)]) hx hb dX1_nextLine_37 hl rfl (by decide) rfl (fun ls hl => ?_)
              refine lv_goto (tgt := 2) hx hb dX1_nextLine_40 (by decide) ?_
              exact ih2 (k + 1) (by omega) (by omega) (by first | exact lt_0 | (refine lt_s hp ?_; simp [ob_pk, c21]; done) | (refine lt_s hp ?_; simp [ob_pk, c32]; done)) _ (lv_sub hl [1, 2, 0] rfl)
            · refine lv_iload_n hx hb dX1_nextLine_35 rfl (lv_at hl 2 rfl) ?_
              exact W.iret (v := nI k) hx hb hr (fun t9 ht hW => ⟨nI k, rfl, (Or.inl ⟨k, c7, by simp [ob_pk, c21, c32], hp, rfl⟩), ht⟩) (fun _ h => absurd h List.not_mem_nil) dX1_nextLine_36
  exact k2 _ 0 (Nat.lt_succ_self _) (by omega) (by first | exact lt_0 | (refine lt_s hp ?_; simp [ob_pk, c21]; done) | (refine lt_s hp ?_; simp [ob_pk, c32]; done)) _ (lv_sub hl [1, 2, 0] rfl)

set_option maxRecDepth 100000 in
set_option maxHeartbeats 4000000 in
theorem c_X1_countBeginnings (l : Launch) (D : va_G) (t : Nat → ClassId) (al : Nat → Nat) (n : Nat) (cl rd sv pb ba bf od : Nat → Int32) (bg : Nat → Int64) (q : Int32) (hn : n ≤ 12) : Met l yX1_countBeginnings wsX1_countBeginnings ({ frames := 1, cells := 0, slots := 0, locals := 20 } : Room) (ob_Pp D t (ob_wL t al n cl rd sv pb ba bf od bg) [.ref (al 0), .int q]) (vp_Sl (fun r : Int64 => r = ob_cb bf bg q n)) 0 0 (fun _ => False) := by
  refine Met.ofW (cc := cX1_countBeginnings) (maxL := 7) (ret := (some .long)) (by decide) rfl ?_
  intro p e s m args below meth c s₁ B hml hv
  obtain ⟨rfl, hP, hk⟩ := hv
  have hx := B.exec
  have hb := B.bytes
  have hr := B.returns
  have hts := atoms_spec (ws := wsX1_countBeginnings) B.pre
  have hown : s.vm.findClass RX1 = some m.cls := findClass_of_methodNamed B.named
  have hlocks := B.notSynchronized
  have hK := hk.1
  have hl := lv_entry [.ref (al 0), .int q] (n := 7) (Nat.le_of_ble_eq_true rfl)
  rw [lg_entry_eq]
  generalize (lg_sl [.ref (al 0), .int q] ++ List.replicate (7 - (lg_sl [.ref (al 0), .int q]).length) Slot.unset).toArray = ls at hl ⊢
  have hl : lv_has ls 7 [(0, .ref (al 0)), (1, .int q)] := hl
  refine lv_lconst (v := lN 0) hx hb dX1_countBeginnings_0 rfl ?_
  refine lv_lstore_n (lv' := [(2, .long (lN 0)), (0, .ref (al 0)), (1, .int q)]) hx hb dX1_countBeginnings_1 rfl hl (by decide) rfl (fun ls hl => ?_)
  refine lv_iconst (v := nI 0) hx hb dX1_countBeginnings_2 (by decide) ?_
  refine lv_istore (lv' := [(4, .int (nI 0)), (2, .long (lN 0)), (0, .ref (al 0)), (1, .int q)]) hx hb dX1_countBeginnings_3 hl (by decide) rfl (fun ls hl => ?_)
  have k5 : ∀ fu : Nat, ∀ (k : Nat) (w : Int64), n - k < fu → (k ≤ n) → (w = ob_cb bf bg q k) → ∀ ls : Array Slot, lv_has ls 7 [(0, .ref (al 0)), (1, .int q), (2, .long w), (4, .int (nI k))] → W p l e (headSpec wsX1_countBeginnings ({ frames := 1, cells := 0, slots := 0, locals := 20 } : Room)).room s m ([.ref (al 0), .int q] : List Value).toArray below meth c s.heap [] 0 0 (MQ below (vp_Sl (fun r : Int64 => r = ob_cb bf bg q n)) ([.ref (al 0), .int q] : List Value).toArray s 0 0 (fun _ => False)) (F0 m 5 ls []) := by
    intro fu
    induction fu with
    | zero => intro k w hfu; exact absurd hfu (Nat.not_lt_zero _)
    | succ fu ih =>
      intro k w hfu hq hw ls hl
      have ih5 := ih
      refine lv_iload hx hb dX1_countBeginnings_5 (lv_at hl 3 rfl) ?_
      refine lv_aload_n hx hb dX1_countBeginnings_7 rfl (lv_at hl 0 rfl) ?_
      refine va_get (ci := 1) (C := RX1) (T := TX1) (N := 9) hx hb hts (fun w h => List.mem_cons_of_mem _ (List.mem_append_right _ (h))) hown hK hP 0 rfl rfl 8 (by decide) (hts (Cond.fieldLink RX1 38 "OutageBook$Log" "count" "I") (List.mem_of_getElem? (i := 1) rfl)) (fun _ h9 => h9) rfl dX1_countBeginnings_8 ?_
      refine ob_icmp_ge (tgt := 96) hx hb (by omega) (by omega) dX1_countBeginnings_11 (by decide) (fun c11 => ?_) (fun c11 => ?_)
      · refine lv_lload_n hx hb dX1_countBeginnings_96 rfl (lv_at hl 2 rfl) ?_
        exact W.lret (v := w) hx hb hr (fun t9 ht hW => ⟨w, rfl, (by rw [hw, Nat.le_antisymm hq c11]), ht⟩) (fun _ h => absurd h List.not_mem_nil) dX1_countBeginnings_97
      · refine lv_iload hx hb dX1_countBeginnings_14 (lv_at hl 3 rfl) ?_
        refine lv_bipush (v := nI 12) hx hb dX1_countBeginnings_16 (by decide) ?_
        refine ob_icmp_ge (tgt := 96) hx hb (by omega) (by omega) dX1_countBeginnings_18 (by decide) (fun c18 => ?_) (fun c18 => ?_)
        · exact absurd c18 (by omega)
        · refine lv_iload_n hx hb dX1_countBeginnings_21 rfl (lv_at hl 1 rfl) ?_
          refine lv_iload hx hb dX1_countBeginnings_22 (lv_at hl 3 rfl) ?_
          refine vp_callSi (va_Run.run (va_runSN (As := [.int (nI k)]) (rest := [.int q]) ⟨hx, hb, hml, hown, hts⟩ (c_X4_bit l D t (nI k)) ⟨va_cnB 1 hts gX1_countBeginnings_X4_bit_n69 rfl rfl rfl hk.2.2.2.2.1 (hts (Cond.initialized RX4) (List.mem_of_getElem? (i := 5) rfl)) (by decide +kernel) ⟨Nat.le_of_ble_eq_true rfl, Nat.le_of_ble_eq_true rfl⟩, (hts (Cond.static yX4_bit) (List.mem_of_getElem? (i := 4) rfl)), trivial⟩ (ob_preS (hP.sub [] rfl) hk) rfl rfl hl.1 rfl (lv_room (Nat.le_of_ble_eq_true rfl)) dX1_countBeginnings_24 ⟨Nat.le_of_ble_eq_true rfl, Nat.le_of_ble_eq_true rfl⟩)) (fun r9 hr9 => ?_)
          subst hr9
          refine lv_iconst (v := (-1)) hx hb dX1_countBeginnings_27 (by decide) ?_
          refine lv_ixor hx hb dX1_countBeginnings_28 ?_
          refine lv_iand hx hb dX1_countBeginnings_29 ?_
          rw [show q &&& ((ob_bit (nI k)) ^^^ (-1)) = ob_rest q k from rfl]
          refine lv_istore (lv' := [(5, .int (ob_rest q k)), (0, .ref (al 0)), (1, .int q), (2, .long w), (4, .int (nI k))]) hx hb dX1_countBeginnings_30 hl (by decide) rfl (fun ls hl => ?_)
          have k58 : ∀ (b : Bool), (b = ob_cbp bf q k) → ∀ ls : Array Slot, lv_has ls 7 [(0, .ref (al 0)), (1, .int q), (2, .long w), (4, .int (nI k)), (5, .int (ob_rest q k))] → W p l e (headSpec wsX1_countBeginnings ({ frames := 1, cells := 0, slots := 0, locals := 20 } : Room)).room s m ([.ref (al 0), .int q] : List Value).toArray below meth c s.heap [] 0 0 (MQ below (vp_Sl (fun r : Int64 => r = ob_cb bf bg q n)) ([.ref (al 0), .int q] : List Value).toArray s 0 0 (fun _ => False)) (F0 m 58 ls [.int (ob_bi b)]) := by
            intro b hbb ls hl
            refine lv_istore (lv' := [(6, .int (ob_bi b)), (0, .ref (al 0)), (1, .int q), (2, .long w), (4, .int (nI k)), (5, .int (ob_rest q k))]) hx hb dX1_countBeginnings_58 hl (by decide) rfl (fun ls hl => ?_)
            refine lv_iload hx hb dX1_countBeginnings_60 (lv_at hl 0 rfl) ?_
            refine ob_if_eq (tgt := 90) hx hb dX1_countBeginnings_62 (by decide) (fun c62 => ?_) (fun c62 => ?_)
            · refine ob_inc (k := 4) (lv' := [(4, .int (nI (k + 1))), (6, .int (ob_bi b)), (0, .ref (al 0)), (1, .int q), (2, .long w), (5, .int (ob_rest q k))]) hx hb dX1_countBeginnings_90 hl rfl (by decide) rfl (fun ls hl => ?_)
              refine lv_goto (tgt := 5) hx hb dX1_countBeginnings_93 (by decide) ?_
              exact ih5 (k + 1) w (by omega) (by omega) (by first | rfl | (simp only [ob_cb, ← hbb, c62]; exact hw) | (simp only [ob_cb, ob_hd_neg c67, Bool.and_false]; exact hw) | (simp only [ob_cb, ob_hd_ge c77 (Nat.le_refl _) (by decide), Bool.and_false]; exact hw) | (simp only [ob_cb, ← hbb, c62, e9, ob_hd_nI h9 (by decide), ob_cl (show j9 ≤ 1073741824 by omega), hw]; rfl)) _ (lv_sub hl [2, 3, 4, 0] rfl)
            · refine lv_iload hx hb dX1_countBeginnings_65 (lv_at hl 5 rfl) ?_
              refine lv_if_lt (tgt := 90) hx hb dX1_countBeginnings_67 (by decide) (fun c67 => ?_) (fun c67 => ?_)
              · refine ob_inc (k := 4) (lv' := [(4, .int (nI (k + 1))), (6, .int (ob_bi b)), (0, .ref (al 0)), (1, .int q), (2, .long w), (5, .int (ob_rest q k))]) hx hb dX1_countBeginnings_90 hl rfl (by decide) rfl (fun ls hl => ?_)
                refine lv_goto (tgt := 5) hx hb dX1_countBeginnings_93 (by decide) ?_
                exact ih5 (k + 1) w (by omega) (by omega) (by first | rfl | (simp only [ob_cb, ← hbb, c62]; exact hw) | (simp only [ob_cb, ob_hd_neg c67, Bool.and_false]; exact hw) | (simp only [ob_cb, ob_hd_ge c77 (Nat.le_refl _) (by decide), Bool.and_false]; exact hw) | (simp only [ob_cb, ← hbb, c62, e9, ob_hd_nI h9 (by decide), ob_cl (show j9 ≤ 1073741824 by omega), hw]; rfl)) _ (lv_sub hl [2, 3, 4, 0] rfl)
              · refine lv_iload hx hb dX1_countBeginnings_70 (lv_at hl 5 rfl) ?_
                refine lv_aload_n hx hb dX1_countBeginnings_72 rfl (lv_at hl 1 rfl) ?_
                refine va_get (ci := 1) (C := RX1) (T := TX1) (N := 9) hx hb hts (fun w h => List.mem_cons_of_mem _ (List.mem_append_right _ (h))) hown hK hP 0 rfl rfl 7 (by decide) (hts (Cond.fieldLink RX1 34 "OutageBook$Log" "beginnings" "[J") (List.mem_of_getElem? (i := 3) rfl)) (fun _ h9 => h9) rfl dX1_countBeginnings_73 ?_
                refine va_alen (v := nI 4096) hx hb hK hP 8 1 rfl rfl rfl dX1_countBeginnings_76 ?_
                refine lv_icmp_ge (tgt := 90) hx hb dX1_countBeginnings_77 (by decide) (fun c77 => ?_) (fun c77 => ?_)
                · refine ob_inc (k := 4) (lv' := [(4, .int (nI (k + 1))), (6, .int (ob_bi b)), (0, .ref (al 0)), (1, .int q), (2, .long w), (5, .int (ob_rest q k))]) hx hb dX1_countBeginnings_90 hl rfl (by decide) rfl (fun ls hl => ?_)
                  refine lv_goto (tgt := 5) hx hb dX1_countBeginnings_93 (by decide) ?_
                  exact ih5 (k + 1) w (by omega) (by omega) (by first | rfl | (simp only [ob_cb, ← hbb, c62]; exact hw) | (simp only [ob_cb, ob_hd_neg c67, Bool.and_false]; exact hw) | (simp only [ob_cb, ob_hd_ge c77 (Nat.le_refl _) (by decide), Bool.and_false]; exact hw) | (simp only [ob_cb, ← hbb, c62, e9, ob_hd_nI h9 (by decide), ob_cl (show j9 ≤ 1073741824 by omega), hw]; rfl)) _ (lv_sub hl [2, 3, 4, 0] rfl)
                · obtain ⟨j9, h9, e9⟩ := ob_hd_t (ob_hd_ok (n := 4096) c67 c77 (by decide)) (by decide)
                  rw [e9] at hl
                  refine lv_lload_n hx hb dX1_countBeginnings_80 rfl (lv_at hl 3 rfl) ?_
                  refine lv_aload_n hx hb dX1_countBeginnings_81 rfl (lv_at hl 1 rfl) ?_
                  refine va_get (ci := 1) (C := RX1) (T := TX1) (N := 9) hx hb hts (fun w h => List.mem_cons_of_mem _ (List.mem_append_right _ (h))) hown hK hP 0 rfl rfl 7 (by decide) (hts (Cond.fieldLink RX1 34 "OutageBook$Log" "beginnings" "[J") (List.mem_of_getElem? (i := 3) rfl)) (fun _ h9 => h9) rfl dX1_countBeginnings_82 ?_
                  refine lv_iload hx hb dX1_countBeginnings_85 (lv_at hl 5 rfl) ?_
                  refine ob_lald hx hb hK hP 8 1 rfl rfl (by omega) (by decide) dX1_countBeginnings_87 ?_
                  refine lv_ladd hx hb dX1_countBeginnings_88 ?_
                  refine lv_lstore_n (lv' := [(2, .long (w + (bg j9))), (6, .int (ob_bi b)), (0, .ref (al 0)), (1, .int q), (4, .int (nI k)), (5, .int (nI j9))]) hx hb dX1_countBeginnings_89 rfl hl (by decide) rfl (fun ls hl => ?_)
                  refine ob_inc (k := 4) (lv' := [(4, .int (nI (k + 1))), (2, .long (w + (bg j9))), (6, .int (ob_bi b)), (0, .ref (al 0)), (1, .int q), (5, .int (nI j9))]) hx hb dX1_countBeginnings_90 hl rfl (by decide) rfl (fun ls hl => ?_)
                  refine lv_goto (tgt := 5) hx hb dX1_countBeginnings_93 (by decide) ?_
                  exact ih5 (k + 1) (w + (bg j9)) (by omega) (by omega) (by first | rfl | (simp only [ob_cb, ← hbb, c62]; exact hw) | (simp only [ob_cb, ob_hd_neg c67, Bool.and_false]; exact hw) | (simp only [ob_cb, ob_hd_ge c77 (Nat.le_refl _) (by decide), Bool.and_false]; exact hw) | (simp only [ob_cb, ← hbb, c62, e9, ob_hd_nI h9 (by decide), ob_cl (show j9 ≤ 1073741824 by omega), hw]; rfl)) _ (lv_sub hl [3, 4, 1, 0] rfl)
          refine lv_iload hx hb dX1_countBeginnings_32 (lv_at hl 0 rfl) ?_
          refine lv_iload_n hx hb dX1_countBeginnings_34 rfl (lv_at hl 2 rfl) ?_
          refine lv_icmp_eq (tgt := 57) hx hb dX1_countBeginnings_35 (by decide) (fun c35 => ?_) (fun c35 => ?_)
          · refine lv_iconst (v := nI 0) hx hb dX1_countBeginnings_57 (by decide) ?_
            exact k58 false (by first | (simp only [ob_cbp, decide_eq_true c35]; rfl; done) | (simp only [ob_cbp, decide_eq_false c35, decide_eq_false c50]; rfl; done) | (simp only [ob_cbp, decide_eq_false c35, decide_eq_true c50]; rfl; done)) _ (lv_sub hl [1, 2, 3, 4, 0] rfl)
          · refine lv_aload_n hx hb dX1_countBeginnings_38 rfl (lv_at hl 1 rfl) ?_
            refine va_get (ci := 1) (C := RX1) (T := TX1) (N := 9) hx hb hts (fun w h => List.mem_cons_of_mem _ (List.mem_append_right _ (h))) hown hK hP 0 rfl rfl 5 (by decide) (hts (Cond.fieldLink RX1 28 "OutageBook$Log" "before" "[I") (List.mem_of_getElem? (i := 2) rfl)) (fun _ h9 => h9) rfl dX1_countBeginnings_39 ?_
            refine lv_iload hx hb dX1_countBeginnings_42 (lv_at hl 4 rfl) ?_
            refine ob_iald hx hb hK hP 6 0 rfl rfl (by omega) (by decide) dX1_countBeginnings_44 ?_
            refine lv_iload hx hb dX1_countBeginnings_45 (lv_at hl 0 rfl) ?_
            refine lv_iconst (v := (-1)) hx hb dX1_countBeginnings_47 (by decide) ?_
            refine lv_ixor hx hb dX1_countBeginnings_48 ?_
            refine lv_iand hx hb dX1_countBeginnings_49 ?_
            refine lv_if_ne (tgt := 57) hx hb dX1_countBeginnings_50 (by decide) (fun c50 => ?_) (fun c50 => ?_)
            · refine lv_iconst (v := nI 0) hx hb dX1_countBeginnings_57 (by decide) ?_
              exact k58 false (by first | (simp only [ob_cbp, decide_eq_true c35]; rfl; done) | (simp only [ob_cbp, decide_eq_false c35, decide_eq_false c50]; rfl; done) | (simp only [ob_cbp, decide_eq_false c35, decide_eq_true c50]; rfl; done)) _ (lv_sub hl [1, 2, 3, 4, 0] rfl)
            · refine lv_iconst (v := nI 1) hx hb dX1_countBeginnings_53 (by decide) ?_
              refine lv_goto (tgt := 58) hx hb dX1_countBeginnings_54 (by decide) ?_
              exact k58 true (by first | (simp only [ob_cbp, decide_eq_true c35]; rfl; done) | (simp only [ob_cbp, decide_eq_false c35, decide_eq_false c50]; rfl; done) | (simp only [ob_cbp, decide_eq_false c35, decide_eq_true c50]; rfl; done)) _ (lv_sub hl [1, 2, 3, 4, 0] rfl)
  exact k5 _ 0 (lN 0) (Nat.lt_succ_self _) (by omega) (by first | rfl | (simp only [ob_cb, ← hbb, c62]; exact hw) | (simp only [ob_cb, ob_hd_neg c67, Bool.and_false]; exact hw) | (simp only [ob_cb, ob_hd_ge c77 (Nat.le_refl _) (by decide), Bool.and_false]; exact hw) | (simp only [ob_cb, ← hbb, c62, e9, ob_hd_nI h9 (by decide), ob_cl (show j9 ≤ 1073741824 by omega), hw]; rfl)) _ (lv_sub hl [2, 3, 1, 0] rfl)

set_option maxRecDepth 100000 in
set_option maxHeartbeats 4000000 in
theorem c_X2_size (l : Launch) (D : va_G) (t : Nat → ClassId) (am : Nat → Nat) (mn : Nat) (ms mf mt mp : Nat → Int32) : Met l yX2_size wsX2_size ({ frames := 0, cells := 0, slots := 0, locals := 0 } : Room) (ob_Pp D t (ob_wM t am mn ms mf mt mp) [.ref (am 0)]) (vp_Si (fun r : Int32 => r = nI mn)) 0 0 (fun _ => False) := by
  refine Met.ofW (cc := cX2_size) (maxL := 1) (ret := (some .int)) (by decide) rfl ?_
  intro p e s m args below meth c s₁ B hml hv
  obtain ⟨rfl, hP, hk⟩ := hv
  have hx := B.exec
  have hb := B.bytes
  have hr := B.returns
  have hts := atoms_spec (ws := wsX2_size) B.pre
  have hown : s.vm.findClass RX2 = some m.cls := findClass_of_methodNamed B.named
  have hlocks := B.notSynchronized
  have hK := hk.1
  have hl := lv_entry [.ref (am 0)] (n := 1) (Nat.le_of_ble_eq_true rfl)
  rw [lg_entry_eq]
  generalize (lg_sl [.ref (am 0)] ++ List.replicate (1 - (lg_sl [.ref (am 0)]).length) Slot.unset).toArray = ls at hl ⊢
  have hl : lv_has ls 1 [(0, .ref (am 0))] := hl
  refine lv_aload_n hx hb dX2_size_0 rfl (lv_at hl 0 rfl) ?_
  refine va_get (ci := 2) (C := RX2) (T := TX2) (N := 5) hx hb hts (fun w h => List.mem_cons_of_mem _ (List.mem_append_right _ (h))) hown hK hP 0 rfl rfl 4 (by decide) (hts (Cond.fieldLink RX2 24 "OutageBook$Measures" "count" "I") (List.mem_of_getElem? (i := 1) rfl)) (fun _ h9 => h9) rfl dX2_size_1 ?_
  exact W.iret (v := nI mn) hx hb hr (fun t9 ht hW => ⟨nI mn, rfl, rfl, ht⟩) (fun _ h => absurd h List.not_mem_nil) dX2_size_4

set_option maxRecDepth 100000 in
set_option maxHeartbeats 4000000 in
theorem c_X2_worst (l : Launch) (D : va_G) (t : Nat → ClassId) (am : Nat → Nat) (mn : Nat) (ms mf mt mp : Nat → Int32) (p1 q : Int32) (hmn : mn ≤ 40) : Met l yX2_worst wsX2_worst ({ frames := 1, cells := 0, slots := 0, locals := 22 } : Room) (ob_Pp D t (ob_wM t am mn ms mf mt mp) [.ref (am 0), .int p1, .int q]) (vp_Si (fun r : Int32 => r = ob_wst ms mf mt mp p1 q mn)) 0 0 (fun _ => False) := by
  refine Met.ofW (cc := cX2_worst) (maxL := 6) (ret := (some .int)) (by decide) rfl ?_
  intro p e s m args below meth c s₁ B hml hv
  obtain ⟨rfl, hP, hk⟩ := hv
  have hx := B.exec
  have hb := B.bytes
  have hr := B.returns
  have hts := atoms_spec (ws := wsX2_worst) B.pre
  have hown : s.vm.findClass RX2 = some m.cls := findClass_of_methodNamed B.named
  have hlocks := B.notSynchronized
  have hK := hk.1
  have hl := lv_entry [.ref (am 0), .int p1, .int q] (n := 6) (Nat.le_of_ble_eq_true rfl)
  rw [lg_entry_eq]
  generalize (lg_sl [.ref (am 0), .int p1, .int q] ++ List.replicate (6 - (lg_sl [.ref (am 0), .int p1, .int q]).length) Slot.unset).toArray = ls at hl ⊢
  have hl : lv_has ls 6 [(0, .ref (am 0)), (1, .int p1), (2, .int q)] := hl
  refine lv_iconst (v := nI 0) hx hb dX2_worst_0 (by decide) ?_
  refine lv_istore_n (lv' := [(3, .int (nI 0)), (0, .ref (am 0)), (1, .int p1), (2, .int q)]) hx hb dX2_worst_1 rfl hl (by decide) rfl (fun ls hl => ?_)
  refine lv_iconst (v := nI 0) hx hb dX2_worst_2 (by decide) ?_
  refine lv_istore (lv' := [(4, .int (nI 0)), (3, .int (nI 0)), (0, .ref (am 0)), (1, .int p1), (2, .int q)]) hx hb dX2_worst_3 hl (by decide) rfl (fun ls hl => ?_)
  have k5 : ∀ fu : Nat, ∀ (k : Nat) (w : Int32), mn - k < fu → (k ≤ mn) → (w = ob_wst ms mf mt mp p1 q k) → ∀ ls : Array Slot, lv_has ls 6 [(0, .ref (am 0)), (1, .int p1), (2, .int q), (3, .int w), (4, .int (nI k))] → W p l e (headSpec wsX2_worst ({ frames := 1, cells := 0, slots := 0, locals := 22 } : Room)).room s m ([.ref (am 0), .int p1, .int q] : List Value).toArray below meth c s.heap [] 0 0 (MQ below (vp_Si (fun r : Int32 => r = ob_wst ms mf mt mp p1 q mn)) ([.ref (am 0), .int p1, .int q] : List Value).toArray s 0 0 (fun _ => False)) (F0 m 5 ls []) := by
    intro fu
    induction fu with
    | zero => intro k w hfu; exact absurd hfu (Nat.not_lt_zero _)
    | succ fu ih =>
      intro k w hfu hq hw ls hl
      have ih5 := ih
      refine lv_iload hx hb dX2_worst_5 (lv_at hl 4 rfl) ?_
      refine lv_aload_n hx hb dX2_worst_7 rfl (lv_at hl 0 rfl) ?_
      refine va_get (ci := 2) (C := RX2) (T := TX2) (N := 5) hx hb hts (fun w h => List.mem_cons_of_mem _ (List.mem_append_right _ (h))) hown hK hP 0 rfl rfl 4 (by decide) (hts (Cond.fieldLink RX2 24 "OutageBook$Measures" "count" "I") (List.mem_of_getElem? (i := 1) rfl)) (fun _ h9 => h9) rfl dX2_worst_8 ?_
      refine ob_icmp_ge (tgt := 88) hx hb (by omega) (by omega) dX2_worst_11 (by decide) (fun c11 => ?_) (fun c11 => ?_)
      · refine lv_iload_n hx hb dX2_worst_88 rfl (lv_at hl 3 rfl) ?_
        exact W.iret (v := w) hx hb hr (fun t9 ht hW => ⟨w, rfl, (by rw [hw, Nat.le_antisymm hq c11]), ht⟩) (fun _ h => absurd h List.not_mem_nil) dX2_worst_89
      · refine lv_iload hx hb dX2_worst_14 (lv_at hl 4 rfl) ?_
        refine lv_bipush (v := nI 40) hx hb dX2_worst_16 (by decide) ?_
        refine ob_icmp_ge (tgt := 88) hx hb (by omega) (by omega) dX2_worst_18 (by decide) (fun c18 => ?_) (fun c18 => ?_)
        · exact absurd c18 (by omega)
        · have k42 : ∀ (b : Bool), (b = ob_wm ms p1 k) → ∀ ls : Array Slot, lv_has ls 6 [(0, .ref (am 0)), (1, .int p1), (2, .int q), (3, .int w), (4, .int (nI k))] → W p l e (headSpec wsX2_worst ({ frames := 1, cells := 0, slots := 0, locals := 22 } : Room)).room s m ([.ref (am 0), .int p1, .int q] : List Value).toArray below meth c s.heap [] 0 0 (MQ below (vp_Si (fun r : Int32 => r = ob_wst ms mf mt mp p1 q mn)) ([.ref (am 0), .int p1, .int q] : List Value).toArray s 0 0 (fun _ => False)) (F0 m 42 ls [.int (ob_bi b)]) := by
            intro b hbb ls hl
            refine lv_istore (lv' := [(5, .int (ob_bi b)), (0, .ref (am 0)), (1, .int p1), (2, .int q), (3, .int w), (4, .int (nI k))]) hx hb dX2_worst_42 hl (by decide) rfl (fun ls hl => ?_)
            refine lv_iload hx hb dX2_worst_44 (lv_at hl 0 rfl) ?_
            refine ob_if_eq (tgt := 82) hx hb dX2_worst_46 (by decide) (fun c46 => ?_) (fun c46 => ?_)
            · refine ob_inc (k := 5) (lv' := [(4, .int (nI (k + 1))), (5, .int (ob_bi b)), (0, .ref (am 0)), (1, .int p1), (2, .int q), (3, .int w)]) hx hb dX2_worst_82 hl rfl (by decide) rfl (fun ls hl => ?_)
              refine lv_goto (tgt := 5) hx hb dX2_worst_85 (by decide) ?_
              exact ih5 (k + 1) w (by omega) (by omega) (by first | (rfl; done) | (simp [ob_wst, ← hbb, ← hw, c46]; done) | (simp [ob_wst, ← hbb, ← hw, c46, c67]; done)) _ (lv_sub hl [2, 3, 4, 5, 0] rfl)
            · refine lv_iload_n hx hb dX2_worst_49 rfl (lv_at hl 3 rfl) ?_
              refine lv_aload_n hx hb dX2_worst_50 rfl (lv_at hl 1 rfl) ?_
              refine va_get (ci := 2) (C := RX2) (T := TX2) (N := 5) hx hb hts (fun w h => List.mem_cons_of_mem _ (List.mem_append_right _ (h))) hown hK hP 0 rfl rfl 1 (by decide) (hts (Cond.fieldLink RX2 15 "OutageBook$Measures" "starts" "[I") (List.mem_of_getElem? (i := 3) rfl)) (fun _ h9 => h9) rfl dX2_worst_51 ?_
              refine lv_iload hx hb dX2_worst_54 (lv_at hl 5 rfl) ?_
              refine ob_iald hx hb hK hP 2 0 rfl rfl (by omega) (by decide) dX2_worst_56 ?_
              refine lv_aload_n hx hb dX2_worst_57 rfl (lv_at hl 1 rfl) ?_
              refine va_get (ci := 2) (C := RX2) (T := TX2) (N := 5) hx hb hts (fun w h => List.mem_cons_of_mem _ (List.mem_append_right _ (h))) hown hK hP 0 rfl rfl 2 (by decide) (hts (Cond.fieldLink RX2 18 "OutageBook$Measures" "ends" "[I") (List.mem_of_getElem? (i := 4) rfl)) (fun _ h9 => h9) rfl dX2_worst_58 ?_
              refine lv_iload hx hb dX2_worst_61 (lv_at hl 5 rfl) ?_
              refine ob_iald hx hb hK hP 3 0 rfl rfl (by omega) (by decide) dX2_worst_63 ?_
              refine vp_callSi (va_Run.run (va_runSN (As := [.int q, .int (mf k), .int (mt k)]) (rest := []) ⟨hx, hb, hml, hown, hts⟩ (c_X4_isWithin l D t q (mf k) (mt k)) ⟨va_cnB 3 hts gX2_worst_X4_isWithin_n41 rfl rfl rfl hk.2.2.2.2.2.1 (hts (Cond.initialized RX4) (List.mem_of_getElem? (i := 11) rfl)) (by decide +kernel) ⟨Nat.le_of_ble_eq_true rfl, Nat.le_of_ble_eq_true rfl⟩, (hts (Cond.static yX4_isWithin) (List.mem_of_getElem? (i := 10) rfl)), trivial⟩ (ob_preS (hP.sub [] rfl) hk) rfl rfl hl.1 rfl (lv_room (Nat.le_of_ble_eq_true rfl)) dX2_worst_64 ⟨Nat.le_of_ble_eq_true rfl, Nat.le_of_ble_eq_true rfl⟩)) (fun r9 hr9 => ?_)
              subst hr9
              refine ob_if_eq (tgt := 82) hx hb dX2_worst_67 (by decide) (fun c67 => ?_) (fun c67 => ?_)
              · refine ob_inc (k := 5) (lv' := [(4, .int (nI (k + 1))), (5, .int (ob_bi b)), (0, .ref (am 0)), (1, .int p1), (2, .int q), (3, .int w)]) hx hb dX2_worst_82 hl rfl (by decide) rfl (fun ls hl => ?_)
                refine lv_goto (tgt := 5) hx hb dX2_worst_85 (by decide) ?_
                exact ih5 (k + 1) w (by omega) (by omega) (by first | (rfl; done) | (simp [ob_wst, ← hbb, ← hw, c46]; done) | (simp [ob_wst, ← hbb, ← hw, c46, c67]; done)) _ (lv_sub hl [2, 3, 4, 5, 0] rfl)
              · refine lv_iload_n hx hb dX2_worst_70 rfl (lv_at hl 4 rfl) ?_
                refine lv_aload_n hx hb dX2_worst_71 rfl (lv_at hl 1 rfl) ?_
                refine va_get (ci := 2) (C := RX2) (T := TX2) (N := 5) hx hb hts (fun w h => List.mem_cons_of_mem _ (List.mem_append_right _ (h))) hown hK hP 0 rfl rfl 3 (by decide) (hts (Cond.fieldLink RX2 21 "OutageBook$Measures" "percents" "[I") (List.mem_of_getElem? (i := 5) rfl)) (fun _ h9 => h9) rfl dX2_worst_72 ?_
                refine lv_iload hx hb dX2_worst_75 (lv_at hl 5 rfl) ?_
                refine ob_iald hx hb hK hP 4 0 rfl rfl (by omega) (by decide) dX2_worst_77 ?_
                refine va_mmax hx hb (by rw [hml]; exact hl.1.symm) hown (hts (Cond.methodLink RX2 45 Lib.Math.max.name) (List.mem_of_getElem? (i := 6) rfl)) (hts (Cond.static Lib.Math.max.name) (List.mem_of_getElem? (i := 7) rfl)) (hts (Cond.initialized "java/lang/Math") (List.mem_of_getElem? (i := 8) rfl)) (hts (Cond.code Lib.Math.max.name Lib.Math.max.code 2 (some .int)) (List.mem_of_getElem? (i := 9) rfl)) (Nat.le_of_ble_eq_true rfl) (Nat.le_of_ble_eq_true rfl) (Nat.le_of_ble_eq_true rfl) (Nat.le_of_ble_eq_true rfl) dX2_worst_78 ?_
                refine lv_istore_n (lv' := [(3, .int (if w < (mp k) then mp k else w)), (5, .int (ob_bi b)), (0, .ref (am 0)), (1, .int p1), (2, .int q), (4, .int (nI k))]) hx hb dX2_worst_81 rfl hl (by decide) rfl (fun ls hl => ?_)
                refine ob_inc (k := 5) (lv' := [(4, .int (nI (k + 1))), (3, .int (if w < (mp k) then mp k else w)), (5, .int (ob_bi b)), (0, .ref (am 0)), (1, .int p1), (2, .int q)]) hx hb dX2_worst_82 hl rfl (by decide) rfl (fun ls hl => ?_)
                refine lv_goto (tgt := 5) hx hb dX2_worst_85 (by decide) ?_
                exact ih5 (k + 1) (if w < (mp k) then mp k else w) (by omega) (by omega) (by first | (rfl; done) | (simp [ob_wst, ← hbb, ← hw, c46]; done) | (simp [ob_wst, ← hbb, ← hw, c46, c67]; done)) _ (lv_sub hl [3, 4, 5, 1, 0] rfl)
          refine lv_iload_n hx hb dX2_worst_21 rfl (lv_at hl 1 rfl) ?_
          refine lv_iconst (v := (-1)) hx hb dX2_worst_22 (by decide) ?_
          refine lv_icmp_eq (tgt := 37) hx hb dX2_worst_23 (by decide) (fun c23 => ?_) (fun c23 => ?_)
          · refine lv_iconst (v := nI 1) hx hb dX2_worst_37 (by decide) ?_
            refine lv_goto (tgt := 42) hx hb dX2_worst_38 (by decide) ?_
            exact k42 true (by first | (simp [ob_wm, c23]; done) | (simp [ob_wm, c23, c34]; done)) _ (lv_sub hl [0, 1, 2, 3, 4] rfl)
          · refine lv_aload_n hx hb dX2_worst_26 rfl (lv_at hl 0 rfl) ?_
            refine va_get (ci := 2) (C := RX2) (T := TX2) (N := 5) hx hb hts (fun w h => List.mem_cons_of_mem _ (List.mem_append_right _ (h))) hown hK hP 0 rfl rfl 0 (by decide) (hts (Cond.fieldLink RX2 9 "OutageBook$Measures" "services" "[I") (List.mem_of_getElem? (i := 2) rfl)) (fun _ h9 => h9) rfl dX2_worst_27 ?_
            refine lv_iload hx hb dX2_worst_30 (lv_at hl 4 rfl) ?_
            refine ob_iald hx hb hK hP 1 0 rfl rfl (by omega) (by decide) dX2_worst_32 ?_
            refine lv_iload_n hx hb dX2_worst_33 rfl (lv_at hl 1 rfl) ?_
            refine lv_icmp_ne (tgt := 41) hx hb dX2_worst_34 (by decide) (fun c34 => ?_) (fun c34 => ?_)
            · refine lv_iconst (v := nI 0) hx hb dX2_worst_41 (by decide) ?_
              exact k42 false (by first | (simp [ob_wm, c23]; done) | (simp [ob_wm, c23, c34]; done)) _ (lv_sub hl [0, 1, 2, 3, 4] rfl)
            · refine lv_iconst (v := nI 1) hx hb dX2_worst_37 (by decide) ?_
              refine lv_goto (tgt := 42) hx hb dX2_worst_38 (by decide) ?_
              exact k42 true (by first | (simp [ob_wm, c23]; done) | (simp [ob_wm, c23, c34]; done)) _ (lv_sub hl [0, 1, 2, 3, 4] rfl)
  exact k5 _ 0 (nI 0) (Nat.lt_succ_self _) (by omega) (by first | (rfl; done) | (simp [ob_wst, ← hbb, ← hw, c46]; done) | (simp [ob_wst, ← hbb, ← hw, c46, c67]; done)) _ (lv_sub hl [2, 3, 4, 1, 0] rfl)

set_option maxRecDepth 100000 in
set_option maxHeartbeats 4000000 in
theorem c_X2_nextChange (l : Launch) (D : va_G) (t : Nat → ClassId) (am : Nat → Nat) (mn : Nat) (ms mf mt mp : Nat → Int32) (q : Int32) (hmn : mn ≤ 40) : Met l yX2_nextChange wsX2_nextChange ({ frames := 1, cells := 0, slots := 0, locals := 13 } : Room) (ob_Pp D t (ob_wM t am mn ms mf mt mp) [.ref (am 0), .int q]) (vp_Si (fun r : Int32 => r = ob_nx mf mt q mn)) 0 0 (fun _ => False) := by
  refine Met.ofW (cc := cX2_nextChange) (maxL := 5) (ret := (some .int)) (by decide) rfl ?_
  intro p e s m args below meth c s₁ B hml hv
  obtain ⟨rfl, hP, hk⟩ := hv
  have hx := B.exec
  have hb := B.bytes
  have hr := B.returns
  have hts := atoms_spec (ws := wsX2_nextChange) B.pre
  have hown : s.vm.findClass RX2 = some m.cls := findClass_of_methodNamed B.named
  have hlocks := B.notSynchronized
  have hK := hk.1
  have hl := lv_entry [.ref (am 0), .int q] (n := 5) (Nat.le_of_ble_eq_true rfl)
  rw [lg_entry_eq]
  generalize (lg_sl [.ref (am 0), .int q] ++ List.replicate (5 - (lg_sl [.ref (am 0), .int q]).length) Slot.unset).toArray = ls at hl ⊢
  have hl : lv_has ls 5 [(0, .ref (am 0)), (1, .int q)] := hl
  refine lv_sipush (v := nI 10001) hx hb dX2_nextChange_0 (by decide) ?_
  refine lv_istore_n (lv' := [(2, .int (nI 10001)), (0, .ref (am 0)), (1, .int q)]) hx hb dX2_nextChange_3 rfl hl (by decide) rfl (fun ls hl => ?_)
  refine lv_iconst (v := nI 0) hx hb dX2_nextChange_4 (by decide) ?_
  refine lv_istore_n (lv' := [(3, .int (nI 0)), (2, .int (nI 10001)), (0, .ref (am 0)), (1, .int q)]) hx hb dX2_nextChange_5 rfl hl (by decide) rfl (fun ls hl => ?_)
  have k6 : ∀ fu : Nat, ∀ (k : Nat) (w : Int32), mn - k < fu → (k ≤ mn) → (w = ob_nx mf mt q k) → ∀ ls : Array Slot, lv_has ls 5 [(0, .ref (am 0)), (1, .int q), (2, .int w), (3, .int (nI k))] → W p l e (headSpec wsX2_nextChange ({ frames := 1, cells := 0, slots := 0, locals := 13 } : Room)).room s m ([.ref (am 0), .int q] : List Value).toArray below meth c s.heap [] 0 0 (MQ below (vp_Si (fun r : Int32 => r = ob_nx mf mt q mn)) ([.ref (am 0), .int q] : List Value).toArray s 0 0 (fun _ => False)) (F0 m 6 ls []) := by
    intro fu
    induction fu with
    | zero => intro k w hfu; exact absurd hfu (Nat.not_lt_zero _)
    | succ fu ih =>
      intro k w hfu hq hw ls hl
      have ih6 := ih
      refine lv_iload_n hx hb dX2_nextChange_6 rfl (lv_at hl 3 rfl) ?_
      refine lv_aload_n hx hb dX2_nextChange_7 rfl (lv_at hl 0 rfl) ?_
      refine va_get (ci := 2) (C := RX2) (T := TX2) (N := 5) hx hb hts (fun w h => List.mem_cons_of_mem _ (List.mem_append_right _ (h))) hown hK hP 0 rfl rfl 4 (by decide) (hts (Cond.fieldLink RX2 24 "OutageBook$Measures" "count" "I") (List.mem_of_getElem? (i := 1) rfl)) (fun _ h9 => h9) rfl dX2_nextChange_8 ?_
      refine ob_icmp_ge (tgt := 73) hx hb (by omega) (by omega) dX2_nextChange_11 (by decide) (fun c11 => ?_) (fun c11 => ?_)
      · refine lv_iload_n hx hb dX2_nextChange_73 rfl (lv_at hl 2 rfl) ?_
        exact W.iret (v := w) hx hb hr (fun t9 ht hW => ⟨w, rfl, (by rw [hw, Nat.le_antisymm hq c11]), ht⟩) (fun _ h => absurd h List.not_mem_nil) dX2_nextChange_74
      · refine lv_iload_n hx hb dX2_nextChange_14 rfl (lv_at hl 3 rfl) ?_
        refine lv_bipush (v := nI 40) hx hb dX2_nextChange_15 (by decide) ?_
        refine ob_icmp_ge (tgt := 73) hx hb (by omega) (by omega) dX2_nextChange_17 (by decide) (fun c17 => ?_) (fun c17 => ?_)
        · exact absurd c17 (by omega)
        · refine lv_aload_n hx hb dX2_nextChange_20 rfl (lv_at hl 0 rfl) ?_
          refine va_get (ci := 2) (C := RX2) (T := TX2) (N := 5) hx hb hts (fun w h => List.mem_cons_of_mem _ (List.mem_append_right _ (h))) hown hK hP 0 rfl rfl 2 (by decide) (hts (Cond.fieldLink RX2 18 "OutageBook$Measures" "ends" "[I") (List.mem_of_getElem? (i := 2) rfl)) (fun _ h9 => h9) rfl dX2_nextChange_21 ?_
          refine lv_iload_n hx hb dX2_nextChange_24 rfl (lv_at hl 3 rfl) ?_
          refine ob_iald hx hb hK hP 3 0 rfl rfl (by omega) (by decide) dX2_nextChange_25 ?_
          refine lv_iconst (v := nI 1) hx hb dX2_nextChange_26 (by decide) ?_
          refine lv_iadd hx hb dX2_nextChange_27 ?_
          refine lv_istore (lv' := [(4, .int ((mt k) + (nI 1))), (0, .ref (am 0)), (1, .int q), (2, .int w), (3, .int (nI k))]) hx hb dX2_nextChange_28 hl (by decide) rfl (fun ls hl => ?_)
          refine lv_aload_n hx hb dX2_nextChange_30 rfl (lv_at hl 1 rfl) ?_
          refine va_get (ci := 2) (C := RX2) (T := TX2) (N := 5) hx hb hts (fun w h => List.mem_cons_of_mem _ (List.mem_append_right _ (h))) hown hK hP 0 rfl rfl 1 (by decide) (hts (Cond.fieldLink RX2 15 "OutageBook$Measures" "starts" "[I") (List.mem_of_getElem? (i := 3) rfl)) (fun _ h9 => h9) rfl dX2_nextChange_31 ?_
          refine lv_iload_n hx hb dX2_nextChange_34 rfl (lv_at hl 4 rfl) ?_
          refine ob_iald hx hb hK hP 2 0 rfl rfl (by omega) (by decide) dX2_nextChange_35 ?_
          refine lv_iload_n hx hb dX2_nextChange_36 rfl (lv_at hl 2 rfl) ?_
          refine lv_icmp_le (tgt := 54) hx hb dX2_nextChange_37 (by decide) (fun c37 => ?_) (fun c37 => ?_)
          · refine lv_iload hx hb dX2_nextChange_54 (lv_at hl 0 rfl) ?_
            refine lv_iload_n hx hb dX2_nextChange_56 rfl (lv_at hl 2 rfl) ?_
            refine lv_icmp_le (tgt := 67) hx hb dX2_nextChange_57 (by decide) (fun c57 => ?_) (fun c57 => ?_)
            · refine ob_inc (k := 4) (lv' := [(3, .int (nI (k + 1))), (4, .int ((mt k) + (nI 1))), (0, .ref (am 0)), (1, .int q), (2, .int w)]) hx hb dX2_nextChange_67 hl rfl (by decide) rfl (fun ls hl => ?_)
              refine lv_goto (tgt := 6) hx hb dX2_nextChange_70 (by decide) ?_
              exact ih6 (k + 1) w (by omega) (by omega) (by first | (rfl; done) | (simp [ob_nx, ← hw, c37]; done) | (simp [ob_nx, ← hw, c37, c57]; done)) _ (lv_sub hl [2, 3, 4, 0] rfl)
            · refine lv_iload_n hx hb dX2_nextChange_60 rfl (lv_at hl 3 rfl) ?_
              refine lv_iload hx hb dX2_nextChange_61 (lv_at hl 0 rfl) ?_
              refine va_mmin hx hb (by rw [hml]; exact hl.1.symm) hown (hts (Cond.methodLink RX2 36 Lib.Math.min.name) (List.mem_of_getElem? (i := 4) rfl)) (hts (Cond.static Lib.Math.min.name) (List.mem_of_getElem? (i := 5) rfl)) (hts (Cond.initialized "java/lang/Math") (List.mem_of_getElem? (i := 6) rfl)) (hts (Cond.code Lib.Math.min.name Lib.Math.min.code 2 (some .int)) (List.mem_of_getElem? (i := 7) rfl)) (Nat.le_of_ble_eq_true rfl) (Nat.le_of_ble_eq_true rfl) (Nat.le_of_ble_eq_true rfl) (Nat.le_of_ble_eq_true rfl) dX2_nextChange_63 ?_
              refine lv_istore_n (lv' := [(2, .int (if ((mt k) + (nI 1)) < w then (mt k) + (nI 1) else w)), (4, .int ((mt k) + (nI 1))), (0, .ref (am 0)), (1, .int q), (3, .int (nI k))]) hx hb dX2_nextChange_66 rfl hl (by decide) rfl (fun ls hl => ?_)
              refine ob_inc (k := 4) (lv' := [(3, .int (nI (k + 1))), (2, .int (if ((mt k) + (nI 1)) < w then (mt k) + (nI 1) else w)), (4, .int ((mt k) + (nI 1))), (0, .ref (am 0)), (1, .int q)]) hx hb dX2_nextChange_67 hl rfl (by decide) rfl (fun ls hl => ?_)
              refine lv_goto (tgt := 6) hx hb dX2_nextChange_70 (by decide) ?_
              exact ih6 (k + 1) (if ((mt k) + (nI 1)) < w then (mt k) + (nI 1) else w) (by omega) (by omega) (by first | (rfl; done) | (simp [ob_nx, ← hw, c37]; done) | (simp [ob_nx, ← hw, c37, c57]; done)) _ (lv_sub hl [3, 4, 1, 0] rfl)
          · refine lv_iload_n hx hb dX2_nextChange_40 rfl (lv_at hl 3 rfl) ?_
            refine lv_aload_n hx hb dX2_nextChange_41 rfl (lv_at hl 1 rfl) ?_
            refine va_get (ci := 2) (C := RX2) (T := TX2) (N := 5) hx hb hts (fun w h => List.mem_cons_of_mem _ (List.mem_append_right _ (h))) hown hK hP 0 rfl rfl 1 (by decide) (hts (Cond.fieldLink RX2 15 "OutageBook$Measures" "starts" "[I") (List.mem_of_getElem? (i := 3) rfl)) (fun _ h9 => h9) rfl dX2_nextChange_42 ?_
            refine lv_iload_n hx hb dX2_nextChange_45 rfl (lv_at hl 4 rfl) ?_
            refine ob_iald hx hb hK hP 2 0 rfl rfl (by omega) (by decide) dX2_nextChange_46 ?_
            refine va_mmin hx hb (by rw [hml]; exact hl.1.symm) hown (hts (Cond.methodLink RX2 36 Lib.Math.min.name) (List.mem_of_getElem? (i := 4) rfl)) (hts (Cond.static Lib.Math.min.name) (List.mem_of_getElem? (i := 5) rfl)) (hts (Cond.initialized "java/lang/Math") (List.mem_of_getElem? (i := 6) rfl)) (hts (Cond.code Lib.Math.min.name Lib.Math.min.code 2 (some .int)) (List.mem_of_getElem? (i := 7) rfl)) (Nat.le_of_ble_eq_true rfl) (Nat.le_of_ble_eq_true rfl) (Nat.le_of_ble_eq_true rfl) (Nat.le_of_ble_eq_true rfl) dX2_nextChange_47 ?_
            refine lv_istore_n (lv' := [(2, .int (if (mf k) < w then mf k else w)), (4, .int ((mt k) + (nI 1))), (0, .ref (am 0)), (1, .int q), (3, .int (nI k))]) hx hb dX2_nextChange_50 rfl hl (by decide) rfl (fun ls hl => ?_)
            refine lv_goto (tgt := 67) hx hb dX2_nextChange_51 (by decide) ?_
            refine ob_inc (k := 4) (lv' := [(3, .int (nI (k + 1))), (2, .int (if (mf k) < w then mf k else w)), (4, .int ((mt k) + (nI 1))), (0, .ref (am 0)), (1, .int q)]) hx hb dX2_nextChange_67 hl rfl (by decide) rfl (fun ls hl => ?_)
            refine lv_goto (tgt := 6) hx hb dX2_nextChange_70 (by decide) ?_
            exact ih6 (k + 1) (if (mf k) < w then mf k else w) (by omega) (by omega) (by first | (rfl; done) | (simp [ob_nx, ← hw, c37]; done) | (simp [ob_nx, ← hw, c37, c57]; done)) _ (lv_sub hl [3, 4, 1, 0] rfl)
  exact k6 _ 0 (nI 10001) (Nat.lt_succ_self _) (by omega) (by first | (rfl; done) | (simp [ob_nx, ← hw, c37]; done) | (simp [ob_nx, ← hw, c37, c57]; done)) _ (lv_sub hl [2, 3, 1, 0] rfl)

set_option maxRecDepth 100000 in
set_option maxHeartbeats 4000000 in
theorem c_X2_sumOfWorst (l : Launch) (D : va_G) (t : Nat → ClassId) (am : Nat → Nat) (mn : Nat) (ms mf mt mp : Nat → Int32) (p1 : Int32) (hmn : mn ≤ 40) : Met l yX2_sumOfWorst wsX2_sumOfWorst ({ frames := 2, cells := 0, slots := 0, locals := 47 } : Room) (ob_Pp D t (ob_wM t am mn ms mf mt mp) [.ref (am 0), .int p1]) (vp_Si (fun r : Int32 => r = (ob_sw ms mf mt mp mn p1 (2 * mn + 1)).1)) 0 0 (fun _ => False) := by
  refine Met.ofW (cc := cX2_sumOfWorst) (maxL := 6) (ret := (some .int)) (by decide) rfl ?_
  intro p e s m args below meth c s₁ B hml hv
  obtain ⟨rfl, hP, hk⟩ := hv
  have hx := B.exec
  have hb := B.bytes
  have hr := B.returns
  have hts := atoms_spec (ws := wsX2_sumOfWorst) B.pre
  have hown : s.vm.findClass RX2 = some m.cls := findClass_of_methodNamed B.named
  have hlocks := B.notSynchronized
  have hK := hk.1
  have hl := lv_entry [.ref (am 0), .int p1] (n := 6) (Nat.le_of_ble_eq_true rfl)
  rw [lg_entry_eq]
  generalize (lg_sl [.ref (am 0), .int p1] ++ List.replicate (6 - (lg_sl [.ref (am 0), .int p1]).length) Slot.unset).toArray = ls at hl ⊢
  have hl : lv_has ls 6 [(0, .ref (am 0)), (1, .int p1)] := hl
  refine lv_iconst (v := nI 0) hx hb dX2_sumOfWorst_0 (by decide) ?_
  refine lv_istore_n (lv' := [(2, .int (nI 0)), (0, .ref (am 0)), (1, .int p1)]) hx hb dX2_sumOfWorst_1 rfl hl (by decide) rfl (fun ls hl => ?_)
  refine lv_iconst (v := nI 0) hx hb dX2_sumOfWorst_2 (by decide) ?_
  refine lv_istore_n (lv' := [(3, .int (nI 0)), (2, .int (nI 0)), (0, .ref (am 0)), (1, .int p1)]) hx hb dX2_sumOfWorst_3 rfl hl (by decide) rfl (fun ls hl => ?_)
  refine lv_iconst (v := nI 0) hx hb dX2_sumOfWorst_4 (by decide) ?_
  refine lv_istore (lv' := [(4, .int (nI 0)), (3, .int (nI 0)), (2, .int (nI 0)), (0, .ref (am 0)), (1, .int p1)]) hx hb dX2_sumOfWorst_5 hl (by decide) rfl (fun ls hl => ?_)
  have k7 : ∀ fu : Nat, ∀ (k : Nat) (w m9 : Int32), 2 * mn + 1 - k < fu → (k ≤ 2 * mn + 1) → (w = (ob_sw ms mf mt mp mn p1 k).1) → (m9 = (ob_sw ms mf mt mp mn p1 k).2) → ∀ ls : Array Slot, lv_has ls 6 [(0, .ref (am 0)), (1, .int p1), (2, .int w), (3, .int m9), (4, .int (nI k))] → W p l e (headSpec wsX2_sumOfWorst ({ frames := 2, cells := 0, slots := 0, locals := 47 } : Room)).room s m ([.ref (am 0), .int p1] : List Value).toArray below meth c s.heap [] 0 0 (MQ below (vp_Si (fun r : Int32 => r = (ob_sw ms mf mt mp mn p1 (2 * mn + 1)).1)) ([.ref (am 0), .int p1] : List Value).toArray s 0 0 (fun _ => False)) (F0 m 7 ls []) := by
    intro fu
    induction fu with
    | zero => intro k w m9 hfu; exact absurd hfu (Nat.not_lt_zero _)
    | succ fu ih =>
      intro k w m9 hfu hq hw hm9 ls hl
      have ih7 := ih
      refine lv_iload hx hb dX2_sumOfWorst_7 (lv_at hl 4 rfl) ?_
      refine lv_iconst (v := nI 2) hx hb dX2_sumOfWorst_9 (by decide) ?_
      refine lv_aload_n hx hb dX2_sumOfWorst_10 rfl (lv_at hl 0 rfl) ?_
      refine va_get (ci := 2) (C := RX2) (T := TX2) (N := 5) hx hb hts (fun w h => List.mem_cons_of_mem _ (List.mem_append_right _ (h))) hown hK hP 0 rfl rfl 4 (by decide) (hts (Cond.fieldLink RX2 24 "OutageBook$Measures" "count" "I") (List.mem_of_getElem? (i := 1) rfl)) (fun _ h9 => h9) rfl dX2_sumOfWorst_11 ?_
      refine lv_imul hx hb dX2_sumOfWorst_14 ?_
      rw [show (nI 2) * (nI mn) = nI (2 * mn) from pk_mul 2 mn]
      refine ob_icmp_gt (tgt := 48) hx hb (by omega) (by omega) dX2_sumOfWorst_15 (by decide) (fun c15 => ?_) (fun c15 => ?_)
      · refine lv_iload_n hx hb dX2_sumOfWorst_48 rfl (lv_at hl 2 rfl) ?_
        exact W.iret (v := w) hx hb hr (fun t9 ht hW => ⟨w, rfl, (by rw [hw, show k = 2 * mn + 1 by omega]), ht⟩) (fun _ h => absurd h List.not_mem_nil) dX2_sumOfWorst_49
      · refine lv_aload_n hx hb dX2_sumOfWorst_18 rfl (lv_at hl 0 rfl) ?_
        refine lv_iload_n hx hb dX2_sumOfWorst_19 rfl (lv_at hl 3 rfl) ?_
        refine vp_callSi (va_Run.run (va_runV (As := [.int m9]) (rest := []) ⟨hx, hb, hml, hown, hts⟩ (c_X2_nextChange l D t am mn ms mf mt mp m9 (by first | assumption | omega)) (cwV 1 hts gX2_sumOfWorst_X2_nextChange rfl rfl rfl (by decide +kernel) ⟨Nat.le_of_ble_eq_true rfl, Nat.le_of_ble_eq_true rfl⟩) (ob_preV (ci := 2) (q0 := 0) hP hk rfl rfl) rfl rfl hl.1 rfl (lv_room (Nat.le_of_ble_eq_true rfl)) dX2_sumOfWorst_20 ⟨Nat.le_of_ble_eq_true rfl, Nat.le_of_ble_eq_true rfl⟩)) (fun r9 hr9 => ?_)
        subst hr9
        refine lv_istore (lv' := [(5, .int (ob_nx mf mt m9 mn)), (0, .ref (am 0)), (1, .int p1), (2, .int w), (3, .int m9), (4, .int (nI k))]) hx hb dX2_sumOfWorst_23 hl (by decide) rfl (fun ls hl => ?_)
        refine lv_iload_n hx hb dX2_sumOfWorst_25 rfl (lv_at hl 3 rfl) ?_
        refine lv_iload hx hb dX2_sumOfWorst_26 (lv_at hl 0 rfl) ?_
        refine lv_iload_n hx hb dX2_sumOfWorst_28 rfl (lv_at hl 4 rfl) ?_
        refine lv_isub hx hb dX2_sumOfWorst_29 ?_
        refine lv_aload_n hx hb dX2_sumOfWorst_30 rfl (lv_at hl 1 rfl) ?_
        refine lv_iload_n hx hb dX2_sumOfWorst_31 rfl (lv_at hl 2 rfl) ?_
        refine lv_iload_n hx hb dX2_sumOfWorst_32 rfl (lv_at hl 4 rfl) ?_
        refine vp_callSi (va_Run.run (va_runV (As := [.int p1, .int m9]) (rest := [.int ((ob_nx mf mt m9 mn) - m9), .int w]) ⟨hx, hb, hml, hown, hts⟩ (c_X2_worst l D t am mn ms mf mt mp p1 m9 (by first | assumption | omega)) (cwV 2 hts gX2_sumOfWorst_X2_worst rfl rfl rfl (by decide +kernel) ⟨Nat.le_of_ble_eq_true rfl, Nat.le_of_ble_eq_true rfl⟩) (ob_preV (ci := 2) (q0 := 0) hP hk rfl rfl) rfl rfl hl.1 rfl (lv_room (Nat.le_of_ble_eq_true rfl)) dX2_sumOfWorst_33 ⟨Nat.le_of_ble_eq_true rfl, Nat.le_of_ble_eq_true rfl⟩)) (fun r9 hr9 => ?_)
        subst hr9
        refine lv_imul hx hb dX2_sumOfWorst_36 ?_
        refine lv_iadd hx hb dX2_sumOfWorst_37 ?_
        refine lv_istore_n (lv' := [(2, .int (w + (((ob_nx mf mt m9 mn) - m9) * (ob_wst ms mf mt mp p1 m9 mn)))), (5, .int (ob_nx mf mt m9 mn)), (0, .ref (am 0)), (1, .int p1), (3, .int m9), (4, .int (nI k))]) hx hb dX2_sumOfWorst_38 rfl hl (by decide) rfl (fun ls hl => ?_)
        refine lv_iload hx hb dX2_sumOfWorst_39 (lv_at hl 1 rfl) ?_
        refine lv_istore_n (lv' := [(3, .int (ob_nx mf mt m9 mn)), (2, .int (w + (((ob_nx mf mt m9 mn) - m9) * (ob_wst ms mf mt mp p1 m9 mn)))), (5, .int (ob_nx mf mt m9 mn)), (0, .ref (am 0)), (1, .int p1), (4, .int (nI k))]) hx hb dX2_sumOfWorst_41 rfl hl (by decide) rfl (fun ls hl => ?_)
        refine ob_inc (k := 5) (lv' := [(4, .int (nI (k + 1))), (3, .int (ob_nx mf mt m9 mn)), (2, .int (w + (((ob_nx mf mt m9 mn) - m9) * (ob_wst ms mf mt mp p1 m9 mn)))), (5, .int (ob_nx mf mt m9 mn)), (0, .ref (am 0)), (1, .int p1)]) hx hb dX2_sumOfWorst_42 hl rfl (by decide) rfl (fun ls hl => ?_)
        refine lv_goto (tgt := 7) hx hb dX2_sumOfWorst_45 (by decide) ?_
        exact ih7 (k + 1) (w + (((ob_nx mf mt m9 mn) - m9) * (ob_wst ms mf mt mp p1 m9 mn))) (ob_nx mf mt m9 mn) (by omega) (by omega) (by first | (rfl; done) | (simp only [ob_sw, ← hw, ← hm9]; done)) (by first | (rfl; done) | (simp only [ob_sw, ← hm9]; done)) _ (lv_sub hl [4, 5, 2, 1, 0] rfl)
  exact k7 _ 0 (nI 0) (nI 0) (Nat.lt_succ_self _) (by omega) (by first | (rfl; done) | (simp only [ob_sw, ← hw, ← hm9]; done)) (by first | (rfl; done) | (simp only [ob_sw, ← hm9]; done)) _ (lv_sub hl [3, 4, 2, 1, 0] rfl)

set_option maxRecDepth 100000 in
set_option maxHeartbeats 4000000 in
theorem c_X2_failedMinutes (l : Launch) (D : va_G) (t : Nat → ClassId) (am : Nat → Nat) (mn : Nat) (ms mf mt mp : Nat → Int32) (hmn : mn ≤ 40) : Met l yX2_failedMinutes wsX2_failedMinutes ({ frames := 2, cells := 0, slots := 0, locals := 47 } : Room) (ob_Pp D t (ob_wM t am mn ms mf mt mp) [.ref (am 0)]) (vp_Si (fun r : Int32 => r = (ob_fm ms mf mt mp mn (2 * mn + 1)).1)) 0 0 (fun _ => False) := by
  refine Met.ofW (cc := cX2_failedMinutes) (maxL := 5) (ret := (some .int)) (by decide) rfl ?_
  intro p e s m args below meth c s₁ B hml hv
  obtain ⟨rfl, hP, hk⟩ := hv
  have hx := B.exec
  have hb := B.bytes
  have hr := B.returns
  have hts := atoms_spec (ws := wsX2_failedMinutes) B.pre
  have hown : s.vm.findClass RX2 = some m.cls := findClass_of_methodNamed B.named
  have hlocks := B.notSynchronized
  have hK := hk.1
  have hl := lv_entry [.ref (am 0)] (n := 5) (Nat.le_of_ble_eq_true rfl)
  rw [lg_entry_eq]
  generalize (lg_sl [.ref (am 0)] ++ List.replicate (5 - (lg_sl [.ref (am 0)]).length) Slot.unset).toArray = ls at hl ⊢
  have hl : lv_has ls 5 [(0, .ref (am 0))] := hl
  refine lv_iconst (v := nI 0) hx hb dX2_failedMinutes_0 (by decide) ?_
  refine lv_istore_n (lv' := [(1, .int (nI 0)), (0, .ref (am 0))]) hx hb dX2_failedMinutes_1 rfl hl (by decide) rfl (fun ls hl => ?_)
  refine lv_iconst (v := nI 0) hx hb dX2_failedMinutes_2 (by decide) ?_
  refine lv_istore_n (lv' := [(2, .int (nI 0)), (1, .int (nI 0)), (0, .ref (am 0))]) hx hb dX2_failedMinutes_3 rfl hl (by decide) rfl (fun ls hl => ?_)
  refine lv_iconst (v := nI 0) hx hb dX2_failedMinutes_4 (by decide) ?_
  refine lv_istore_n (lv' := [(3, .int (nI 0)), (2, .int (nI 0)), (1, .int (nI 0)), (0, .ref (am 0))]) hx hb dX2_failedMinutes_5 rfl hl (by decide) rfl (fun ls hl => ?_)
  have k6 : ∀ fu : Nat, ∀ (k : Nat) (w m9 : Int32), 2 * mn + 1 - k < fu → (k ≤ 2 * mn + 1) → (w = (ob_fm ms mf mt mp mn k).1) → (m9 = (ob_fm ms mf mt mp mn k).2) → ∀ ls : Array Slot, lv_has ls 5 [(0, .ref (am 0)), (1, .int w), (2, .int m9), (3, .int (nI k))] → W p l e (headSpec wsX2_failedMinutes ({ frames := 2, cells := 0, slots := 0, locals := 47 } : Room)).room s m ([.ref (am 0)] : List Value).toArray below meth c s.heap [] 0 0 (MQ below (vp_Si (fun r : Int32 => r = (ob_fm ms mf mt mp mn (2 * mn + 1)).1)) ([.ref (am 0)] : List Value).toArray s 0 0 (fun _ => False)) (F0 m 6 ls []) := by
    intro fu
    induction fu with
    | zero => intro k w m9 hfu; exact absurd hfu (Nat.not_lt_zero _)
    | succ fu ih =>
      intro k w m9 hfu hq hw hm9 ls hl
      have ih6 := ih
      refine lv_iload_n hx hb dX2_failedMinutes_6 rfl (lv_at hl 3 rfl) ?_
      refine lv_iconst (v := nI 2) hx hb dX2_failedMinutes_7 (by decide) ?_
      refine lv_aload_n hx hb dX2_failedMinutes_8 rfl (lv_at hl 0 rfl) ?_
      refine va_get (ci := 2) (C := RX2) (T := TX2) (N := 5) hx hb hts (fun w h => List.mem_cons_of_mem _ (List.mem_append_right _ (h))) hown hK hP 0 rfl rfl 4 (by decide) (hts (Cond.fieldLink RX2 24 "OutageBook$Measures" "count" "I") (List.mem_of_getElem? (i := 1) rfl)) (fun _ h9 => h9) rfl dX2_failedMinutes_9 ?_
      refine lv_imul hx hb dX2_failedMinutes_12 ?_
      rw [show (nI 2) * (nI mn) = nI (2 * mn) from pk_mul 2 mn]
      refine ob_icmp_gt (tgt := 48) hx hb (by omega) (by omega) dX2_failedMinutes_13 (by decide) (fun c13 => ?_) (fun c13 => ?_)
      · refine lv_iload_n hx hb dX2_failedMinutes_48 rfl (lv_at hl 1 rfl) ?_
        exact W.iret (v := w) hx hb hr (fun t9 ht hW => ⟨w, rfl, (by rw [hw, show k = 2 * mn + 1 by omega]), ht⟩) (fun _ h => absurd h List.not_mem_nil) dX2_failedMinutes_49
      · refine lv_aload_n hx hb dX2_failedMinutes_16 rfl (lv_at hl 0 rfl) ?_
        refine lv_iload_n hx hb dX2_failedMinutes_17 rfl (lv_at hl 2 rfl) ?_
        refine vp_callSi (va_Run.run (va_runV (As := [.int m9]) (rest := []) ⟨hx, hb, hml, hown, hts⟩ (c_X2_nextChange l D t am mn ms mf mt mp m9 (by first | assumption | omega)) (cwV 1 hts gX2_failedMinutes_X2_nextChange rfl rfl rfl (by decide +kernel) ⟨Nat.le_of_ble_eq_true rfl, Nat.le_of_ble_eq_true rfl⟩) (ob_preV (ci := 2) (q0 := 0) hP hk rfl rfl) rfl rfl hl.1 rfl (lv_room (Nat.le_of_ble_eq_true rfl)) dX2_failedMinutes_18 ⟨Nat.le_of_ble_eq_true rfl, Nat.le_of_ble_eq_true rfl⟩)) (fun r9 hr9 => ?_)
        subst hr9
        refine lv_istore (lv' := [(4, .int (ob_nx mf mt m9 mn)), (0, .ref (am 0)), (1, .int w), (2, .int m9), (3, .int (nI k))]) hx hb dX2_failedMinutes_21 hl (by decide) rfl (fun ls hl => ?_)
        refine lv_aload_n hx hb dX2_failedMinutes_23 rfl (lv_at hl 1 rfl) ?_
        refine lv_iconst (v := (-1)) hx hb dX2_failedMinutes_24 (by decide) ?_
        refine lv_iload_n hx hb dX2_failedMinutes_25 rfl (lv_at hl 3 rfl) ?_
        refine vp_callSi (va_Run.run (va_runV (As := [.int (-1), .int m9]) (rest := []) ⟨hx, hb, hml, hown, hts⟩ (c_X2_worst l D t am mn ms mf mt mp (-1) m9 (by first | assumption | omega)) (cwV 2 hts gX2_failedMinutes_X2_worst rfl rfl rfl (by decide +kernel) ⟨Nat.le_of_ble_eq_true rfl, Nat.le_of_ble_eq_true rfl⟩) (ob_preV (ci := 2) (q0 := 0) hP hk rfl rfl) rfl rfl hl.1 rfl (lv_room (Nat.le_of_ble_eq_true rfl)) dX2_failedMinutes_26 ⟨Nat.le_of_ble_eq_true rfl, Nat.le_of_ble_eq_true rfl⟩)) (fun r9 hr9 => ?_)
        subst hr9
        refine lv_if_le (tgt := 39) hx hb dX2_failedMinutes_29 (by decide) (fun c29 => ?_) (fun c29 => ?_)
        · refine lv_iload hx hb dX2_failedMinutes_39 (lv_at hl 0 rfl) ?_
          refine lv_istore_n (lv' := [(2, .int (ob_nx mf mt m9 mn)), (4, .int (ob_nx mf mt m9 mn)), (0, .ref (am 0)), (1, .int w), (3, .int (nI k))]) hx hb dX2_failedMinutes_41 rfl hl (by decide) rfl (fun ls hl => ?_)
          refine ob_inc (k := 4) (lv' := [(3, .int (nI (k + 1))), (2, .int (ob_nx mf mt m9 mn)), (4, .int (ob_nx mf mt m9 mn)), (0, .ref (am 0)), (1, .int w)]) hx hb dX2_failedMinutes_42 hl rfl (by decide) rfl (fun ls hl => ?_)
          refine lv_goto (tgt := 6) hx hb dX2_failedMinutes_45 (by decide) ?_
          exact ih6 (k + 1) w (ob_nx mf mt m9 mn) (by omega) (by omega) (by first | (rfl; done) | (simp only [ob_fm, ← hw, ← hm9, c29, if_true]; done) | (simp only [ob_fm, ← hw, ← hm9, c29, if_false]; done)) (by first | (rfl; done) | (simp only [ob_fm, ← hm9]; done)) _ (lv_sub hl [3, 4, 1, 0] rfl)
        · refine lv_iload_n hx hb dX2_failedMinutes_32 rfl (lv_at hl 2 rfl) ?_
          refine lv_iload hx hb dX2_failedMinutes_33 (lv_at hl 0 rfl) ?_
          refine lv_iload_n hx hb dX2_failedMinutes_35 rfl (lv_at hl 3 rfl) ?_
          refine lv_isub hx hb dX2_failedMinutes_36 ?_
          refine lv_iadd hx hb dX2_failedMinutes_37 ?_
          refine lv_istore_n (lv' := [(1, .int (w + ((ob_nx mf mt m9 mn) - m9))), (4, .int (ob_nx mf mt m9 mn)), (0, .ref (am 0)), (2, .int m9), (3, .int (nI k))]) hx hb dX2_failedMinutes_38 rfl hl (by decide) rfl (fun ls hl => ?_)
          refine lv_iload hx hb dX2_failedMinutes_39 (lv_at hl 1 rfl) ?_
          refine lv_istore_n (lv' := [(2, .int (ob_nx mf mt m9 mn)), (1, .int (w + ((ob_nx mf mt m9 mn) - m9))), (4, .int (ob_nx mf mt m9 mn)), (0, .ref (am 0)), (3, .int (nI k))]) hx hb dX2_failedMinutes_41 rfl hl (by decide) rfl (fun ls hl => ?_)
          refine ob_inc (k := 4) (lv' := [(3, .int (nI (k + 1))), (2, .int (ob_nx mf mt m9 mn)), (1, .int (w + ((ob_nx mf mt m9 mn) - m9))), (4, .int (ob_nx mf mt m9 mn)), (0, .ref (am 0))]) hx hb dX2_failedMinutes_42 hl rfl (by decide) rfl (fun ls hl => ?_)
          refine lv_goto (tgt := 6) hx hb dX2_failedMinutes_45 (by decide) ?_
          exact ih6 (k + 1) (w + ((ob_nx mf mt m9 mn) - m9)) (ob_nx mf mt m9 mn) (by omega) (by omega) (by first | (rfl; done) | (simp only [ob_fm, ← hw, ← hm9, c29, if_true]; done) | (simp only [ob_fm, ← hw, ← hm9, c29, if_false]; done)) (by first | (rfl; done) | (simp only [ob_fm, ← hm9]; done)) _ (lv_sub hl [4, 2, 1, 0] rfl)
  exact k6 _ 0 (nI 0) (nI 0) (Nat.lt_succ_self _) (by omega) (by first | (rfl; done) | (simp only [ob_fm, ← hw, ← hm9, c29, if_true]; done) | (simp only [ob_fm, ← hw, ← hm9, c29, if_false]; done)) (by first | (rfl; done) | (simp only [ob_fm, ← hm9]; done)) _ (lv_sub hl [3, 2, 1, 0] rfl)

set_option maxRecDepth 100000 in
set_option maxHeartbeats 4000000 in
theorem c_X0_size (l : Launch) (D : va_G) (t : Nat → ClassId) (ac : Nat → Nat) (cn : Nat) (st : Int32) (Wt : Nat → Nat → Int32) : Met l yX0_size wsX0_size ({ frames := 0, cells := 0, slots := 0, locals := 0 } : Room) (ob_Pp D t (ob_wC t ac cn st Wt) [.ref (ac 0)]) (vp_Si (fun r : Int32 => r = nI cn)) 0 0 (fun _ => False) := by
  refine Met.ofW (cc := cX0_size) (maxL := 1) (ret := (some .int)) (by decide) rfl ?_
  intro p e s m args below meth c s₁ B hml hv
  obtain ⟨rfl, hP, hk⟩ := hv
  have hx := B.exec
  have hb := B.bytes
  have hr := B.returns
  have hts := atoms_spec (ws := wsX0_size) B.pre
  have hown : s.vm.findClass RX0 = some m.cls := findClass_of_methodNamed B.named
  have hlocks := B.notSynchronized
  have hK := hk.1
  have hl := lv_entry [.ref (ac 0)] (n := 1) (Nat.le_of_ble_eq_true rfl)
  rw [lg_entry_eq]
  generalize (lg_sl [.ref (ac 0)] ++ List.replicate (1 - (lg_sl [.ref (ac 0)]).length) Slot.unset).toArray = ls at hl ⊢
  have hl : lv_has ls 1 [(0, .ref (ac 0))] := hl
  refine lv_aload_n hx hb dX0_size_0 rfl (lv_at hl 0 rfl) ?_
  refine va_get (ci := 0) (C := RX0) (T := TX0) (N := 3) hx hb hts (fun w h => List.mem_cons_of_mem _ (List.mem_append_right _ (h))) hown hK hP 0 rfl rfl 2 (by decide) (hts (Cond.fieldLink RX0 20 "OutageBook$Causes" "count" "I") (List.mem_of_getElem? (i := 1) rfl)) (fun _ h9 => h9) rfl dX0_size_1 ?_
  exact W.iret (v := nI cn) hx hb hr (fun t9 ht hW => ⟨nI cn, rfl, rfl, ht⟩) (fun _ h => absurd h List.not_mem_nil) dX0_size_4

set_option maxRecDepth 100000 in
set_option maxHeartbeats 4000000 in
theorem c_X0_holds (l : Launch) (D : va_G) (t : Nat → ClassId) (ac : Nat → Nat) (cn : Nat) (st : Int32) (Wt : Nat → Nat → Int32) (x : Int32) (hcn : cn ≤ 16) : Met l yX0_holds wsX0_holds ({ frames := 0, cells := 0, slots := 0, locals := 0 } : Room) (ob_Pp D t (ob_wC t ac cn st Wt) [.ref (ac 0), .int x]) (vp_Si (fun r : Int32 => r = ob_bi (ob_hd cn x))) 0 0 (fun _ => False) := by
  refine Met.ofW (cc := cX0_holds) (maxL := 2) (ret := (some .boolean)) (by decide) rfl ?_
  intro p e s m args below meth c s₁ B hml hv
  obtain ⟨rfl, hP, hk⟩ := hv
  have hx := B.exec
  have hb := B.bytes
  have hr := B.returns
  have hts := atoms_spec (ws := wsX0_holds) B.pre
  have hown : s.vm.findClass RX0 = some m.cls := findClass_of_methodNamed B.named
  have hlocks := B.notSynchronized
  have hK := hk.1
  have hl := lv_entry [.ref (ac 0), .int x] (n := 2) (Nat.le_of_ble_eq_true rfl)
  rw [lg_entry_eq]
  generalize (lg_sl [.ref (ac 0), .int x] ++ List.replicate (2 - (lg_sl [.ref (ac 0), .int x]).length) Slot.unset).toArray = ls at hl ⊢
  have hl : lv_has ls 2 [(0, .ref (ac 0)), (1, .int x)] := hl
  refine lv_iload_n hx hb dX0_holds_0 rfl (lv_at hl 1 rfl) ?_
  refine lv_if_lt (tgt := 22) hx hb dX0_holds_1 (by decide) (fun c1 => ?_) (fun c1 => ?_)
  · refine lv_iconst (v := nI 0) hx hb dX0_holds_22 (by decide) ?_
    exact W.zret (v := nI 0) hx hb hr rfl (fun t9 ht hW => ⟨nI 0, rfl, (by first | (rw [ob_hd_neg c1]; rfl) | (rw [ob_hd_ge c9 (Nat.le_refl _)]; rfl) | (rw [ob_hd_ge c15 hcn]; rfl) | (rw [ob_hd_ok c1 c9]; rfl)), ht⟩) (fun _ h => absurd h List.not_mem_nil) dX0_holds_23
  · refine lv_iload_n hx hb dX0_holds_4 rfl (lv_at hl 1 rfl) ?_
    refine lv_aload_n hx hb dX0_holds_5 rfl (lv_at hl 0 rfl) ?_
    refine va_get (ci := 0) (C := RX0) (T := TX0) (N := 3) hx hb hts (fun w h => List.mem_cons_of_mem _ (List.mem_append_right _ (h))) hown hK hP 0 rfl rfl 2 (by decide) (hts (Cond.fieldLink RX0 20 "OutageBook$Causes" "count" "I") (List.mem_of_getElem? (i := 1) rfl)) (fun _ h9 => h9) rfl dX0_holds_6 ?_
    refine lv_icmp_ge (tgt := 22) hx hb dX0_holds_9 (by decide) (fun c9 => ?_) (fun c9 => ?_)
    · refine lv_iconst (v := nI 0) hx hb dX0_holds_22 (by decide) ?_
      exact W.zret (v := nI 0) hx hb hr rfl (fun t9 ht hW => ⟨nI 0, rfl, (by first | (rw [ob_hd_neg c1]; rfl) | (rw [ob_hd_ge c9 (Nat.le_refl _)]; rfl) | (rw [ob_hd_ge c15 hcn]; rfl) | (rw [ob_hd_ok c1 c9]; rfl)), ht⟩) (fun _ h => absurd h List.not_mem_nil) dX0_holds_23
    · refine lv_iload_n hx hb dX0_holds_12 rfl (lv_at hl 1 rfl) ?_
      refine lv_bipush (v := nI 16) hx hb dX0_holds_13 (by decide) ?_
      refine lv_icmp_ge (tgt := 22) hx hb dX0_holds_15 (by decide) (fun c15 => ?_) (fun c15 => ?_)
      · refine lv_iconst (v := nI 0) hx hb dX0_holds_22 (by decide) ?_
        exact W.zret (v := nI 0) hx hb hr rfl (fun t9 ht hW => ⟨nI 0, rfl, (by first | (rw [ob_hd_neg c1]; rfl) | (rw [ob_hd_ge c9 (Nat.le_refl _)]; rfl) | (rw [ob_hd_ge c15 hcn]; rfl) | (rw [ob_hd_ok c1 c9]; rfl)), ht⟩) (fun _ h => absurd h List.not_mem_nil) dX0_holds_23
      · refine lv_iconst (v := nI 1) hx hb dX0_holds_18 (by decide) ?_
        refine lv_goto (tgt := 23) hx hb dX0_holds_19 (by decide) ?_
        exact W.zret (v := nI 1) hx hb hr rfl (fun t9 ht hW => ⟨nI 1, rfl, (by first | (rw [ob_hd_neg c1]; rfl) | (rw [ob_hd_ge c9 (Nat.le_refl _)]; rfl) | (rw [ob_hd_ge c15 hcn]; rfl) | (rw [ob_hd_ok c1 c9]; rfl)), ht⟩) (fun _ h => absurd h List.not_mem_nil) dX0_holds_23

set_option maxRecDepth 100000 in
set_option maxHeartbeats 4000000 in
theorem c_X0_weight (l : Launch) (D : va_G) (t : Nat → ClassId) (ac : Nat → Nat) (cn : Nat) (st : Int32) (Wt : Nat → Nat → Int32) (x y : Int32) (hcn : cn ≤ 16) : Met l yX0_weight wsX0_weight ({ frames := 1, cells := 0, slots := 0, locals := 21 } : Room) (ob_Pp D t (ob_wC t ac cn st Wt) [.ref (ac 0), .int x, .int y]) (vp_Si (fun r : Int32 => r = ob_wt Wt cn x y)) 0 0 (fun _ => False) := by
  refine Met.ofW (cc := cX0_weight) (maxL := 3) (ret := (some .int)) (by decide) rfl ?_
  intro p e s m args below meth c s₁ B hml hv
  obtain ⟨rfl, hP, hk⟩ := hv
  have hx := B.exec
  have hb := B.bytes
  have hr := B.returns
  have hts := atoms_spec (ws := wsX0_weight) B.pre
  have hown : s.vm.findClass RX0 = some m.cls := findClass_of_methodNamed B.named
  have hlocks := B.notSynchronized
  have hK := hk.1
  have hl := lv_entry [.ref (ac 0), .int x, .int y] (n := 3) (Nat.le_of_ble_eq_true rfl)
  rw [lg_entry_eq]
  generalize (lg_sl [.ref (ac 0), .int x, .int y] ++ List.replicate (3 - (lg_sl [.ref (ac 0), .int x, .int y]).length) Slot.unset).toArray = ls at hl ⊢
  have hl : lv_has ls 3 [(0, .ref (ac 0)), (1, .int x), (2, .int y)] := hl
  refine lv_aload_n hx hb dX0_weight_0 rfl (lv_at hl 0 rfl) ?_
  refine lv_iload_n hx hb dX0_weight_1 rfl (lv_at hl 1 rfl) ?_
  refine vp_callSi (va_Run.run (va_runV (As := [.int x]) (rest := []) ⟨hx, hb, hml, hown, hts⟩ (c_X0_holds l D t ac cn st Wt x (by first | assumption | omega)) (cwV 1 hts gX0_weight_X0_holds rfl rfl rfl (by decide +kernel) ⟨Nat.le_of_ble_eq_true rfl, Nat.le_of_ble_eq_true rfl⟩) (ob_preV (ci := 0) (q0 := 0) hP hk rfl rfl) rfl rfl hl.1 rfl (lv_room (Nat.le_of_ble_eq_true rfl)) dX0_weight_2 ⟨Nat.le_of_ble_eq_true rfl, Nat.le_of_ble_eq_true rfl⟩)) (fun r9 hr9 => ?_)
  subst hr9
  refine ob_if_eq (tgt := 27) hx hb dX0_weight_5 (by decide) (fun c5 => ?_) (fun c5 => ?_)
  · refine lv_iconst (v := nI 0) hx hb dX0_weight_27 (by decide) ?_
    exact W.iret (v := nI 0) hx hb hr (fun t9 ht hW => ⟨nI 0, rfl, (by first | (simp only [ob_wt, c5, Bool.false_and]; rfl) | (simp only [ob_wt, c13, Bool.and_false]; rfl) | (simp only [ob_wt, c5, c13, ob_cl (show j1 ≤ 1073741824 by omega), ob_cl (show j2 ≤ 1073741824 by omega)]; rfl)), ht⟩) (fun _ h => absurd h List.not_mem_nil) dX0_weight_28
  · refine lv_aload_n hx hb dX0_weight_8 rfl (lv_at hl 0 rfl) ?_
    refine lv_iload_n hx hb dX0_weight_9 rfl (lv_at hl 2 rfl) ?_
    refine vp_callSi (va_Run.run (va_runV (As := [.int y]) (rest := []) ⟨hx, hb, hml, hown, hts⟩ (c_X0_holds l D t ac cn st Wt y (by first | assumption | omega)) (cwV 1 hts gX0_weight_X0_holds rfl rfl rfl (by decide +kernel) ⟨Nat.le_of_ble_eq_true rfl, Nat.le_of_ble_eq_true rfl⟩) (ob_preV (ci := 0) (q0 := 0) hP hk rfl rfl) rfl rfl hl.1 rfl (lv_room (Nat.le_of_ble_eq_true rfl)) dX0_weight_10 ⟨Nat.le_of_ble_eq_true rfl, Nat.le_of_ble_eq_true rfl⟩)) (fun r9 hr9 => ?_)
    subst hr9
    refine ob_if_eq (tgt := 27) hx hb dX0_weight_13 (by decide) (fun c13 => ?_) (fun c13 => ?_)
    · refine lv_iconst (v := nI 0) hx hb dX0_weight_27 (by decide) ?_
      exact W.iret (v := nI 0) hx hb hr (fun t9 ht hW => ⟨nI 0, rfl, (by first | (simp only [ob_wt, c5, Bool.false_and]; rfl) | (simp only [ob_wt, c13, Bool.and_false]; rfl) | (simp only [ob_wt, c5, c13, ob_cl (show j1 ≤ 1073741824 by omega), ob_cl (show j2 ≤ 1073741824 by omega)]; rfl)), ht⟩) (fun _ h => absurd h List.not_mem_nil) dX0_weight_28
    · obtain ⟨j1, h1, rfl⟩ := ob_hd_t c5
      obtain ⟨j2, h2, rfl⟩ := ob_hd_t c13
      refine lv_aload_n hx hb dX0_weight_16 rfl (lv_at hl 0 rfl) ?_
      refine va_get (ci := 0) (C := RX0) (T := TX0) (N := 3) hx hb hts (fun w h => List.mem_cons_of_mem _ (List.mem_append_right _ (h))) hown hK hP 0 rfl rfl 0 (by decide) (hts (Cond.fieldLink RX0 11 "OutageBook$Causes" "weights" "[[I") (List.mem_of_getElem? (i := 1) rfl)) (fun _ h9 => h9) rfl dX0_weight_17 ?_
      refine lv_iload_n hx hb dX0_weight_20 rfl (lv_at hl 1 rfl) ?_
      refine ob_aald (r := ac (2 + j1)) hx hb hK hP 1 3 rfl rfl rfl (show j1 < 16 from (by omega)) (by decide) (if_pos (by omega)) dX0_weight_21 ?_
      refine lv_iload_n hx hb dX0_weight_22 rfl (lv_at hl 2 rfl) ?_
      refine ob_iald hx hb hK hP (2 + j1) 0 (ob_rC (by omega)) rfl (by omega) (by decide) dX0_weight_23 ?_
      refine lv_goto (tgt := 28) hx hb dX0_weight_24 (by decide) ?_
      exact W.iret (v := (Wt j1) j2) hx hb hr (fun t9 ht hW => ⟨(Wt j1) j2, rfl, (by first | (simp only [ob_wt, c5, Bool.false_and]; rfl) | (simp only [ob_wt, c13, Bool.and_false]; rfl) | (simp only [ob_wt, c5, c13, ob_cl (show j1 ≤ 1073741824 by omega), ob_cl (show j2 ≤ 1073741824 by omega)]; rfl)), ht⟩) (fun _ h => absurd h List.not_mem_nil) dX0_weight_28

set_option maxRecDepth 100000 in
set_option maxHeartbeats 4000000 in
theorem c_X0_reasonsOf (l : Launch) (D : va_G) (t : Nat → ClassId) (ac : Nat → Nat) (cn : Nat) (st : Int32) (Wt : Nat → Nat → Int32) (x : Int32) (hcn : cn ≤ 16) : Met l yX0_reasonsOf wsX0_reasonsOf ({ frames := 2, cells := 0, slots := 0, locals := 43 } : Room) (ob_Pp D t (ob_wC t ac cn st Wt) [.ref (ac 0), .int x]) (vp_Si (fun r : Int32 => r = ob_rs Wt cn x cn)) 0 0 (fun _ => False) := by
  refine Met.ofW (cc := cX0_reasonsOf) (maxL := 4) (ret := (some .int)) (by decide) rfl ?_
  intro p e s m args below meth c s₁ B hml hv
  obtain ⟨rfl, hP, hk⟩ := hv
  have hx := B.exec
  have hb := B.bytes
  have hr := B.returns
  have hts := atoms_spec (ws := wsX0_reasonsOf) B.pre
  have hown : s.vm.findClass RX0 = some m.cls := findClass_of_methodNamed B.named
  have hlocks := B.notSynchronized
  have hK := hk.1
  have hl := lv_entry [.ref (ac 0), .int x] (n := 4) (Nat.le_of_ble_eq_true rfl)
  rw [lg_entry_eq]
  generalize (lg_sl [.ref (ac 0), .int x] ++ List.replicate (4 - (lg_sl [.ref (ac 0), .int x]).length) Slot.unset).toArray = ls at hl ⊢
  have hl : lv_has ls 4 [(0, .ref (ac 0)), (1, .int x)] := hl
  refine lv_iconst (v := nI 0) hx hb dX0_reasonsOf_0 (by decide) ?_
  refine lv_istore_n (lv' := [(2, .int (nI 0)), (0, .ref (ac 0)), (1, .int x)]) hx hb dX0_reasonsOf_1 rfl hl (by decide) rfl (fun ls hl => ?_)
  refine lv_iconst (v := nI 0) hx hb dX0_reasonsOf_2 (by decide) ?_
  refine lv_istore_n (lv' := [(3, .int (nI 0)), (2, .int (nI 0)), (0, .ref (ac 0)), (1, .int x)]) hx hb dX0_reasonsOf_3 rfl hl (by decide) rfl (fun ls hl => ?_)
  have k4 : ∀ fu : Nat, ∀ (k : Nat) (w : Int32), cn - k < fu → (k ≤ cn) → (w = ob_rs Wt cn x k) → ∀ ls : Array Slot, lv_has ls 4 [(0, .ref (ac 0)), (1, .int x), (2, .int w), (3, .int (nI k))] → W p l e (headSpec wsX0_reasonsOf ({ frames := 2, cells := 0, slots := 0, locals := 43 } : Room)).room s m ([.ref (ac 0), .int x] : List Value).toArray below meth c s.heap [] 0 0 (MQ below (vp_Si (fun r : Int32 => r = ob_rs Wt cn x cn)) ([.ref (ac 0), .int x] : List Value).toArray s 0 0 (fun _ => False)) (F0 m 4 ls []) := by
    intro fu
    induction fu with
    | zero => intro k w hfu; exact absurd hfu (Nat.not_lt_zero _)
    | succ fu ih =>
      intro k w hfu hq hw ls hl
      have ih4 := ih
      refine lv_iload_n hx hb dX0_reasonsOf_4 rfl (lv_at hl 3 rfl) ?_
      refine lv_aload_n hx hb dX0_reasonsOf_5 rfl (lv_at hl 0 rfl) ?_
      refine va_get (ci := 0) (C := RX0) (T := TX0) (N := 3) hx hb hts (fun w h => List.mem_cons_of_mem _ (List.mem_append_right _ (h))) hown hK hP 0 rfl rfl 2 (by decide) (hts (Cond.fieldLink RX0 20 "OutageBook$Causes" "count" "I") (List.mem_of_getElem? (i := 1) rfl)) (fun _ h9 => h9) rfl dX0_reasonsOf_6 ?_
      refine ob_icmp_ge (tgt := 34) hx hb (by omega) (by omega) dX0_reasonsOf_9 (by decide) (fun c9 => ?_) (fun c9 => ?_)
      · refine lv_iload_n hx hb dX0_reasonsOf_34 rfl (lv_at hl 2 rfl) ?_
        exact W.iret (v := w) hx hb hr (fun t9 ht hW => ⟨w, rfl, (by rw [hw, Nat.le_antisymm hq c9]), ht⟩) (fun _ h => absurd h List.not_mem_nil) dX0_reasonsOf_35
      · refine lv_aload_n hx hb dX0_reasonsOf_12 rfl (lv_at hl 0 rfl) ?_
        refine lv_iload_n hx hb dX0_reasonsOf_13 rfl (lv_at hl 1 rfl) ?_
        refine lv_iload_n hx hb dX0_reasonsOf_14 rfl (lv_at hl 3 rfl) ?_
        refine vp_callSi (va_Run.run (va_runV (As := [.int x, .int (nI k)]) (rest := []) ⟨hx, hb, hml, hown, hts⟩ (c_X0_weight l D t ac cn st Wt x (nI k) (by first | assumption | omega)) (cwV 2 hts gX0_reasonsOf_X0_weight rfl rfl rfl (by decide +kernel) ⟨Nat.le_of_ble_eq_true rfl, Nat.le_of_ble_eq_true rfl⟩) (ob_preV (ci := 0) (q0 := 0) hP hk rfl rfl) rfl rfl hl.1 rfl (lv_room (Nat.le_of_ble_eq_true rfl)) dX0_reasonsOf_15 ⟨Nat.le_of_ble_eq_true rfl, Nat.le_of_ble_eq_true rfl⟩)) (fun r9 hr9 => ?_)
        subst hr9
        refine lv_if_le (tgt := 28) hx hb dX0_reasonsOf_18 (by decide) (fun c18 => ?_) (fun c18 => ?_)
        · refine ob_inc (k := 3) (lv' := [(3, .int (nI (k + 1))), (0, .ref (ac 0)), (1, .int x), (2, .int w)]) hx hb dX0_reasonsOf_28 hl rfl (by decide) rfl (fun ls hl => ?_)
          refine lv_goto (tgt := 4) hx hb dX0_reasonsOf_31 (by decide) ?_
          exact ih4 (k + 1) w (by omega) (by omega) (by first | (rfl; done) | (simp [ob_rs, ← hw, c18]; done)) _ (lv_sub hl [1, 2, 3, 0] rfl)
        · refine lv_iload_n hx hb dX0_reasonsOf_21 rfl (lv_at hl 2 rfl) ?_
          refine lv_iload_n hx hb dX0_reasonsOf_22 rfl (lv_at hl 3 rfl) ?_
          refine vp_callSi (va_Run.run (va_runSN (As := [.int (nI k)]) (rest := [.int w]) ⟨hx, hb, hml, hown, hts⟩ (c_X4_bit l D t (nI k)) ⟨va_cnB 1 hts gX0_reasonsOf_X4_bit_n23 rfl rfl rfl hk.2.1 (hts (Cond.initialized RX4) (List.mem_of_getElem? (i := 13) rfl)) (by decide +kernel) ⟨Nat.le_of_ble_eq_true rfl, Nat.le_of_ble_eq_true rfl⟩, (hts (Cond.static yX4_bit) (List.mem_of_getElem? (i := 12) rfl)), trivial⟩ (ob_preS (hP.sub [] rfl) hk) rfl rfl hl.1 rfl (lv_room (Nat.le_of_ble_eq_true rfl)) dX0_reasonsOf_23 ⟨Nat.le_of_ble_eq_true rfl, Nat.le_of_ble_eq_true rfl⟩)) (fun r9 hr9 => ?_)
          subst hr9
          refine lv_ior hx hb dX0_reasonsOf_26 ?_
          refine lv_istore_n (lv' := [(2, .int (w ||| (ob_bit (nI k)))), (0, .ref (ac 0)), (1, .int x), (3, .int (nI k))]) hx hb dX0_reasonsOf_27 rfl hl (by decide) rfl (fun ls hl => ?_)
          refine ob_inc (k := 3) (lv' := [(3, .int (nI (k + 1))), (2, .int (w ||| (ob_bit (nI k)))), (0, .ref (ac 0)), (1, .int x)]) hx hb dX0_reasonsOf_28 hl rfl (by decide) rfl (fun ls hl => ?_)
          refine lv_goto (tgt := 4) hx hb dX0_reasonsOf_31 (by decide) ?_
          exact ih4 (k + 1) (w ||| (ob_bit (nI k))) (by omega) (by omega) (by first | (rfl; done) | (simp [ob_rs, ← hw, c18]; done)) _ (lv_sub hl [2, 3, 1, 0] rfl)
  exact k4 _ 0 (nI 0) (Nat.lt_succ_self _) (by omega) (by first | (rfl; done) | (simp [ob_rs, ← hw, c18]; done)) _ (lv_sub hl [2, 3, 1, 0] rfl)

set_option maxRecDepth 100000 in
set_option maxHeartbeats 4000000 in
theorem c_X0_reach (l : Launch) (D : va_G) (t : Nat → ClassId) (ac : Nat → Nat) (cn : Nat) (st : Int32) (Wt : Nat → Nat → Int32) (x q : Int32) (hcn : cn ≤ 16) : Met l yX0_reach wsX0_reach ({ frames := 3, cells := 0, slots := 0, locals := 66 } : Room) (ob_Pp D t (ob_wC t ac cn st Wt) [.ref (ac 0), .int x, .int q]) (vp_Si (fun r : Int32 => r = ob_rcO Wt cn q x cn)) 0 0 (fun _ => False) := by
  refine Met.ofW (cc := cX0_reach) (maxL := 6) (ret := (some .int)) (by decide) rfl ?_
  intro p e s m args below meth c s₁ B hml hv
  obtain ⟨rfl, hP, hk⟩ := hv
  have hx := B.exec
  have hb := B.bytes
  have hr := B.returns
  have hts := atoms_spec (ws := wsX0_reach) B.pre
  have hown : s.vm.findClass RX0 = some m.cls := findClass_of_methodNamed B.named
  have hlocks := B.notSynchronized
  have hK := hk.1
  have hl := lv_entry [.ref (ac 0), .int x, .int q] (n := 6) (Nat.le_of_ble_eq_true rfl)
  rw [lg_entry_eq]
  generalize (lg_sl [.ref (ac 0), .int x, .int q] ++ List.replicate (6 - (lg_sl [.ref (ac 0), .int x, .int q]).length) Slot.unset).toArray = ls at hl ⊢
  have hl : lv_has ls 6 [(0, .ref (ac 0)), (1, .int x), (2, .int q)] := hl
  refine lv_iload_n hx hb dX0_reach_0 rfl (lv_at hl 1 rfl) ?_
  refine vp_callSi (va_Run.run (va_runSN (As := [.int x]) (rest := []) ⟨hx, hb, hml, hown, hts⟩ (c_X4_bit l D t x) ⟨va_cnB 1 hts gX0_reach_X4_bit_n23 rfl rfl rfl hk.2.1 (hts (Cond.initialized RX4) (List.mem_of_getElem? (i := 3) rfl)) (by decide +kernel) ⟨Nat.le_of_ble_eq_true rfl, Nat.le_of_ble_eq_true rfl⟩, (hts (Cond.static yX4_bit) (List.mem_of_getElem? (i := 2) rfl)), trivial⟩ (ob_preS (hP.sub [] rfl) hk) rfl rfl hl.1 rfl (lv_room (Nat.le_of_ble_eq_true rfl)) dX0_reach_1 ⟨Nat.le_of_ble_eq_true rfl, Nat.le_of_ble_eq_true rfl⟩)) (fun r9 hr9 => ?_)
  subst hr9
  refine lv_istore_n (lv' := [(3, .int (ob_bit x)), (0, .ref (ac 0)), (1, .int x), (2, .int q)]) hx hb dX0_reach_4 rfl hl (by decide) rfl (fun ls hl => ?_)
  refine lv_iconst (v := nI 0) hx hb dX0_reach_5 (by decide) ?_
  refine lv_istore (lv' := [(4, .int (nI 0)), (3, .int (ob_bit x)), (0, .ref (ac 0)), (1, .int x), (2, .int q)]) hx hb dX0_reach_6 hl (by decide) rfl (fun ls hl => ?_)
  have k8 : ∀ fu : Nat, ∀ (k : Nat) (w : Int32), cn - k < fu → (k ≤ cn) → (w = ob_rcO Wt cn q x k) → ∀ ls : Array Slot, lv_has ls 6 [(0, .ref (ac 0)), (1, .int x), (2, .int q), (3, .int w), (4, .int (nI k))] → W p l e (headSpec wsX0_reach ({ frames := 3, cells := 0, slots := 0, locals := 66 } : Room)).room s m ([.ref (ac 0), .int x, .int q] : List Value).toArray below meth c s.heap [] 0 0 (MQ below (vp_Si (fun r : Int32 => r = ob_rcO Wt cn q x cn)) ([.ref (ac 0), .int x, .int q] : List Value).toArray s 0 0 (fun _ => False)) (F0 m 8 ls []) := by
    intro fu
    induction fu with
    | zero => intro k w hfu; exact absurd hfu (Nat.not_lt_zero _)
    | succ fu ih =>
      intro k w hfu hq hw ls hl
      have ih8 := ih
      refine lv_iload hx hb dX0_reach_8 (lv_at hl 4 rfl) ?_
      refine lv_aload_n hx hb dX0_reach_10 rfl (lv_at hl 0 rfl) ?_
      refine va_get (ci := 0) (C := RX0) (T := TX0) (N := 3) hx hb hts (fun w h => List.mem_cons_of_mem _ (List.mem_append_right _ (h))) hown hK hP 0 rfl rfl 2 (by decide) (hts (Cond.fieldLink RX0 20 "OutageBook$Causes" "count" "I") (List.mem_of_getElem? (i := 1) rfl)) (fun _ h9 => h9) rfl dX0_reach_11 ?_
      refine ob_icmp_ge (tgt := 61) hx hb (by omega) (by omega) dX0_reach_14 (by decide) (fun c14 => ?_) (fun c14 => ?_)
      · refine lv_iload_n hx hb dX0_reach_61 rfl (lv_at hl 3 rfl) ?_
        exact W.iret (v := w) hx hb hr (fun t9 ht hW => ⟨w, rfl, (by rw [hw, Nat.le_antisymm hq c14]), ht⟩) (fun _ h => absurd h List.not_mem_nil) dX0_reach_62
      · refine lv_iconst (v := nI 0) hx hb dX0_reach_17 (by decide) ?_
        refine lv_istore (lv' := [(5, .int (nI 0)), (0, .ref (ac 0)), (1, .int x), (2, .int q), (3, .int w), (4, .int (nI k))]) hx hb dX0_reach_18 hl (by decide) rfl (fun ls hl => ?_)
        have k20 : ∀ fu : Nat, ∀ (j : Nat) (v : Int32), cn - j < fu → (j ≤ cn) → (v = ob_rcI Wt cn q w j) → ∀ ls : Array Slot, lv_has ls 6 [(0, .ref (ac 0)), (1, .int x), (2, .int q), (3, .int v), (4, .int (nI k)), (5, .int (nI j))] → W p l e (headSpec wsX0_reach ({ frames := 3, cells := 0, slots := 0, locals := 66 } : Room)).room s m ([.ref (ac 0), .int x, .int q] : List Value).toArray below meth c s.heap [] 0 0 (MQ below (vp_Si (fun r : Int32 => r = ob_rcO Wt cn q x cn)) ([.ref (ac 0), .int x, .int q] : List Value).toArray s 0 0 (fun _ => False)) (F0 m 20 ls []) := by
          intro fu
          induction fu with
          | zero => intro j v hfu; exact absurd hfu (Nat.not_lt_zero _)
          | succ fu ih =>
            intro j v hfu hj hv ls hl
            have ih20 := ih
            refine lv_iload hx hb dX0_reach_20 (lv_at hl 5 rfl) ?_
            refine lv_aload_n hx hb dX0_reach_22 rfl (lv_at hl 0 rfl) ?_
            refine va_get (ci := 0) (C := RX0) (T := TX0) (N := 3) hx hb hts (fun w h => List.mem_cons_of_mem _ (List.mem_append_right _ (h))) hown hK hP 0 rfl rfl 2 (by decide) (hts (Cond.fieldLink RX0 20 "OutageBook$Causes" "count" "I") (List.mem_of_getElem? (i := 1) rfl)) (fun _ h9 => h9) rfl dX0_reach_23 ?_
            refine ob_icmp_ge (tgt := 55) hx hb (by omega) (by omega) dX0_reach_26 (by decide) (fun c26 => ?_) (fun c26 => ?_)
            · refine ob_inc (k := 4) (lv' := [(4, .int (nI (k + 1))), (0, .ref (ac 0)), (1, .int x), (2, .int q), (3, .int v), (5, .int (nI j))]) hx hb dX0_reach_55 hl rfl (by decide) rfl (fun ls hl => ?_)
              refine lv_goto (tgt := 8) hx hb dX0_reach_58 (by decide) ?_
              exact ih8 (k + 1) v (by omega) (by omega) (by first | (rfl; done) | (rw [hv, Nat.le_antisymm hj c26, hw]; rfl; done)) _ (lv_sub hl [1, 2, 3, 4, 0] rfl)
            · refine lv_iload_n hx hb dX0_reach_29 rfl (lv_at hl 3 rfl) ?_
              refine lv_iload hx hb dX0_reach_30 (lv_at hl 5 rfl) ?_
              refine vp_callSi (va_Run.run (va_runSN (As := [.int v, .int (nI j)]) (rest := []) ⟨hx, hb, hml, hown, hts⟩ (c_X4_hasBit l D t v (nI j)) ⟨va_cnB 2 hts gX0_reach_X4_hasBit_n31 rfl rfl rfl hk.2.2.1 (hts (Cond.initialized RX4) (List.mem_of_getElem? (i := 3) rfl)) (by decide +kernel) ⟨Nat.le_of_ble_eq_true rfl, Nat.le_of_ble_eq_true rfl⟩, (hts (Cond.static yX4_hasBit) (List.mem_of_getElem? (i := 5) rfl)), trivial⟩ (ob_preS (hP.sub [] rfl) hk) rfl rfl hl.1 rfl (lv_room (Nat.le_of_ble_eq_true rfl)) dX0_reach_32 ⟨Nat.le_of_ble_eq_true rfl, Nat.le_of_ble_eq_true rfl⟩)) (fun r9 hr9 => ?_)
              subst hr9
              refine ob_if_eq (tgt := 49) hx hb dX0_reach_35 (by decide) (fun c35 => ?_) (fun c35 => ?_)
              · refine ob_inc (k := 5) (lv' := [(5, .int (nI (j + 1))), (0, .ref (ac 0)), (1, .int x), (2, .int q), (3, .int v), (4, .int (nI k))]) hx hb dX0_reach_49 hl rfl (by decide) rfl (fun ls hl => ?_)
                refine lv_goto (tgt := 20) hx hb dX0_reach_52 (by decide) ?_
                exact ih20 (j + 1) v (by omega) (by omega) (by first | (rfl; done) | (simp [ob_rcI, ← hv, c35]; done)) _ (lv_sub hl [1, 2, 3, 4, 5, 0] rfl)
              · refine lv_iload_n hx hb dX0_reach_38 rfl (lv_at hl 3 rfl) ?_
                refine lv_aload_n hx hb dX0_reach_39 rfl (lv_at hl 0 rfl) ?_
                refine lv_iload hx hb dX0_reach_40 (lv_at hl 5 rfl) ?_
                refine vp_callSi (va_Run.run (va_runV (As := [.int (nI j)]) (rest := [.int v]) ⟨hx, hb, hml, hown, hts⟩ (c_X0_reasonsOf l D t ac cn st Wt (nI j) (by first | assumption | omega)) (cwV 1 hts gX0_reach_X0_reasonsOf rfl rfl rfl (by decide +kernel) ⟨Nat.le_of_ble_eq_true rfl, Nat.le_of_ble_eq_true rfl⟩) (ob_preV (ci := 0) (q0 := 0) hP hk rfl rfl) rfl rfl hl.1 rfl (lv_room (Nat.le_of_ble_eq_true rfl)) dX0_reach_42 ⟨Nat.le_of_ble_eq_true rfl, Nat.le_of_ble_eq_true rfl⟩)) (fun r9 hr9 => ?_)
                subst hr9
                refine lv_iload_n hx hb dX0_reach_45 rfl (lv_at hl 2 rfl) ?_
                refine lv_iand hx hb dX0_reach_46 ?_
                refine lv_ior hx hb dX0_reach_47 ?_
                refine lv_istore_n (lv' := [(3, .int (v ||| ((ob_rs Wt cn (nI j) cn) &&& q))), (0, .ref (ac 0)), (1, .int x), (2, .int q), (4, .int (nI k)), (5, .int (nI j))]) hx hb dX0_reach_48 rfl hl (by decide) rfl (fun ls hl => ?_)
                refine ob_inc (k := 5) (lv' := [(5, .int (nI (j + 1))), (3, .int (v ||| ((ob_rs Wt cn (nI j) cn) &&& q))), (0, .ref (ac 0)), (1, .int x), (2, .int q), (4, .int (nI k))]) hx hb dX0_reach_49 hl rfl (by decide) rfl (fun ls hl => ?_)
                refine lv_goto (tgt := 20) hx hb dX0_reach_52 (by decide) ?_
                exact ih20 (j + 1) (v ||| ((ob_rs Wt cn (nI j) cn) &&& q)) (by omega) (by omega) (by first | (rfl; done) | (simp [ob_rcI, ← hv, c35]; done)) _ (lv_sub hl [2, 3, 4, 1, 5, 0] rfl)
        exact k20 _ 0 w (Nat.lt_succ_self _) (by omega) (by first | (rfl; done) | (simp [ob_rcI, ← hv, c35]; done)) _ (lv_sub hl [1, 2, 3, 4, 5, 0] rfl)
  exact k8 _ 0 (ob_bit x) (Nat.lt_succ_self _) (by omega) (by first | (rfl; done) | (rw [hv, Nat.le_antisymm hj c26, hw]; rfl; done)) _ (lv_sub hl [2, 3, 4, 1, 0] rfl)

set_option maxRecDepth 100000 in
set_option maxHeartbeats 4000000 in
theorem c_X0_isBecauseOf (l : Launch) (D : va_G) (t : Nat → ClassId) (ac : Nat → Nat) (cn : Nat) (st : Int32) (Wt : Nat → Nat → Int32) (x y : Int32) (hcn : cn ≤ 16) : Met l yX0_isBecauseOf wsX0_isBecauseOf ({ frames := 4, cells := 0, slots := 0, locals := 91 } : Room) (ob_Pp D t (ob_wC t ac cn st Wt) [.ref (ac 0), .int x, .int y]) (vp_Si (fun r : Int32 => r = ob_bi (ob_hb (ob_rcO Wt cn (ob_bit (nI cn) - nI 1) x cn) y))) 0 0 (fun _ => False) := by
  refine Met.ofW (cc := cX0_isBecauseOf) (maxL := 3) (ret := (some .boolean)) (by decide) rfl ?_
  intro p e s m args below meth c s₁ B hml hv
  obtain ⟨rfl, hP, hk⟩ := hv
  have hx := B.exec
  have hb := B.bytes
  have hr := B.returns
  have hts := atoms_spec (ws := wsX0_isBecauseOf) B.pre
  have hown : s.vm.findClass RX0 = some m.cls := findClass_of_methodNamed B.named
  have hlocks := B.notSynchronized
  have hK := hk.1
  have hl := lv_entry [.ref (ac 0), .int x, .int y] (n := 3) (Nat.le_of_ble_eq_true rfl)
  rw [lg_entry_eq]
  generalize (lg_sl [.ref (ac 0), .int x, .int y] ++ List.replicate (3 - (lg_sl [.ref (ac 0), .int x, .int y]).length) Slot.unset).toArray = ls at hl ⊢
  have hl : lv_has ls 3 [(0, .ref (ac 0)), (1, .int x), (2, .int y)] := hl
  refine lv_aload_n hx hb dX0_isBecauseOf_0 rfl (lv_at hl 0 rfl) ?_
  refine lv_iload_n hx hb dX0_isBecauseOf_1 rfl (lv_at hl 1 rfl) ?_
  refine lv_aload_n hx hb dX0_isBecauseOf_2 rfl (lv_at hl 0 rfl) ?_
  refine va_get (ci := 0) (C := RX0) (T := TX0) (N := 3) hx hb hts (fun w h => List.mem_cons_of_mem _ (List.mem_append_right _ (h))) hown hK hP 0 rfl rfl 2 (by decide) (hts (Cond.fieldLink RX0 20 "OutageBook$Causes" "count" "I") (List.mem_of_getElem? (i := 1) rfl)) (fun _ h9 => h9) rfl dX0_isBecauseOf_3 ?_
  refine vp_callSi (va_Run.run (va_runSN (As := [.int (nI cn)]) (rest := [.int x, .ref (ac 0)]) ⟨hx, hb, hml, hown, hts⟩ (c_X4_bit l D t (nI cn)) ⟨va_cnB 1 hts gX0_isBecauseOf_X4_bit_n23 rfl rfl rfl hk.2.1 (hts (Cond.initialized RX4) (List.mem_of_getElem? (i := 3) rfl)) (by decide +kernel) ⟨Nat.le_of_ble_eq_true rfl, Nat.le_of_ble_eq_true rfl⟩, (hts (Cond.static yX4_bit) (List.mem_of_getElem? (i := 2) rfl)), trivial⟩ (ob_preS (hP.sub [] rfl) hk) rfl rfl hl.1 rfl (lv_room (Nat.le_of_ble_eq_true rfl)) dX0_isBecauseOf_6 ⟨Nat.le_of_ble_eq_true rfl, Nat.le_of_ble_eq_true rfl⟩)) (fun r9 hr9 => ?_)
  subst hr9
  refine lv_iconst (v := nI 1) hx hb dX0_isBecauseOf_9 (by decide) ?_
  refine lv_isub hx hb dX0_isBecauseOf_10 ?_
  refine vp_callSi (va_Run.run (va_runV (As := [.int x, .int ((ob_bit (nI cn)) - (nI 1))]) (rest := []) ⟨hx, hb, hml, hown, hts⟩ (c_X0_reach l D t ac cn st Wt x ((ob_bit (nI cn)) - (nI 1)) (by first | assumption | omega)) (cwV 2 hts gX0_isBecauseOf_X0_reach rfl rfl rfl (by decide +kernel) ⟨Nat.le_of_ble_eq_true rfl, Nat.le_of_ble_eq_true rfl⟩) (ob_preV (ci := 0) (q0 := 0) hP hk rfl rfl) rfl rfl hl.1 rfl (lv_room (Nat.le_of_ble_eq_true rfl)) dX0_isBecauseOf_11 ⟨Nat.le_of_ble_eq_true rfl, Nat.le_of_ble_eq_true rfl⟩)) (fun r9 hr9 => ?_)
  subst hr9
  refine lv_iload_n hx hb dX0_isBecauseOf_14 rfl (lv_at hl 2 rfl) ?_
  refine vp_callSi (va_Run.run (va_runSN (As := [.int (ob_rcO Wt cn ((ob_bit (nI cn)) - (nI 1)) x cn), .int y]) (rest := []) ⟨hx, hb, hml, hown, hts⟩ (c_X4_hasBit l D t (ob_rcO Wt cn ((ob_bit (nI cn)) - (nI 1)) x cn) y) ⟨va_cnB 2 hts gX0_isBecauseOf_X4_hasBit_n31 rfl rfl rfl hk.2.2.1 (hts (Cond.initialized RX4) (List.mem_of_getElem? (i := 3) rfl)) (by decide +kernel) ⟨Nat.le_of_ble_eq_true rfl, Nat.le_of_ble_eq_true rfl⟩, (hts (Cond.static yX4_hasBit) (List.mem_of_getElem? (i := 10) rfl)), trivial⟩ (ob_preS (hP.sub [] rfl) hk) rfl rfl hl.1 rfl (lv_room (Nat.le_of_ble_eq_true rfl)) dX0_isBecauseOf_15 ⟨Nat.le_of_ble_eq_true rfl, Nat.le_of_ble_eq_true rfl⟩)) (fun r9 hr9 => ?_)
  subst hr9
  exact W.zret (v := ob_bi (ob_hb (ob_rcO Wt cn ((ob_bit (nI cn)) - (nI 1)) x cn) y)) hx hb hr (ob_narZ _) (fun t9 ht hW => ⟨ob_bi (ob_hb (ob_rcO Wt cn ((ob_bit (nI cn)) - (nI 1)) x cn) y), rfl, rfl, ht⟩) (fun _ h => absurd h List.not_mem_nil) dX0_isBecauseOf_18

set_option maxRecDepth 100000 in
set_option maxHeartbeats 4000000 in
theorem c_X0_rootsUnder (l : Launch) (D : va_G) (t : Nat → ClassId) (ac : Nat → Nat) (cn : Nat) (st : Int32) (Wt : Nat → Nat → Int32) (x : Int32) (hcn : cn ≤ 16) : Met l yX0_rootsUnder wsX0_rootsUnder ({ frames := 4, cells := 0, slots := 0, locals := 91 } : Room) (ob_Pp D t (ob_wC t ac cn st Wt) [.ref (ac 0), .int x]) (vp_Si (fun r : Int32 => r = if ob_hb st x then ob_rt st Wt cn (ob_rcO Wt cn st x cn) cn else nI 0)) 0 0 (fun _ => False) := by
  refine Met.ofW (cc := cX0_rootsUnder) (maxL := 5) (ret := (some .int)) (by decide) rfl ?_
  intro p e s m args below meth c s₁ B hml hv
  obtain ⟨rfl, hP, hk⟩ := hv
  have hx := B.exec
  have hb := B.bytes
  have hr := B.returns
  have hts := atoms_spec (ws := wsX0_rootsUnder) B.pre
  have hown : s.vm.findClass RX0 = some m.cls := findClass_of_methodNamed B.named
  have hlocks := B.notSynchronized
  have hK := hk.1
  have hl := lv_entry [.ref (ac 0), .int x] (n := 5) (Nat.le_of_ble_eq_true rfl)
  rw [lg_entry_eq]
  generalize (lg_sl [.ref (ac 0), .int x] ++ List.replicate (5 - (lg_sl [.ref (ac 0), .int x]).length) Slot.unset).toArray = ls at hl ⊢
  have hl : lv_has ls 5 [(0, .ref (ac 0)), (1, .int x)] := hl
  refine lv_aload_n hx hb dX0_rootsUnder_0 rfl (lv_at hl 0 rfl) ?_
  refine va_get (ci := 0) (C := RX0) (T := TX0) (N := 3) hx hb hts (fun w h => List.mem_cons_of_mem _ (List.mem_append_right _ (h))) hown hK hP 0 rfl rfl 1 (by decide) (hts (Cond.fieldLink RX0 16 "OutageBook$Causes" "standing" "I") (List.mem_of_getElem? (i := 1) rfl)) (fun _ h9 => h9) rfl dX0_rootsUnder_1 ?_
  refine lv_iload_n hx hb dX0_rootsUnder_4 rfl (lv_at hl 1 rfl) ?_
  refine vp_callSi (va_Run.run (va_runSN (As := [.int st, .int x]) (rest := []) ⟨hx, hb, hml, hown, hts⟩ (c_X4_hasBit l D t st x) ⟨va_cnB 2 hts gX0_rootsUnder_X4_hasBit_n31 rfl rfl rfl hk.2.2.1 (hts (Cond.initialized RX4) (List.mem_of_getElem? (i := 4) rfl)) (by decide +kernel) ⟨Nat.le_of_ble_eq_true rfl, Nat.le_of_ble_eq_true rfl⟩, (hts (Cond.static yX4_hasBit) (List.mem_of_getElem? (i := 3) rfl)), trivial⟩ (ob_preS (hP.sub [] rfl) hk) rfl rfl hl.1 rfl (lv_room (Nat.le_of_ble_eq_true rfl)) dX0_rootsUnder_5 ⟨Nat.le_of_ble_eq_true rfl, Nat.le_of_ble_eq_true rfl⟩)) (fun r9 hr9 => ?_)
  subst hr9
  refine ob_if_ne (tgt := 13) hx hb dX0_rootsUnder_8 (by decide) (fun c8 => ?_) (fun c8 => ?_)
  · refine lv_aload_n hx hb dX0_rootsUnder_13 rfl (lv_at hl 0 rfl) ?_
    refine lv_iload_n hx hb dX0_rootsUnder_14 rfl (lv_at hl 1 rfl) ?_
    refine lv_aload_n hx hb dX0_rootsUnder_15 rfl (lv_at hl 0 rfl) ?_
    refine va_get (ci := 0) (C := RX0) (T := TX0) (N := 3) hx hb hts (fun w h => List.mem_cons_of_mem _ (List.mem_append_right _ (h))) hown hK hP 0 rfl rfl 1 (by decide) (hts (Cond.fieldLink RX0 16 "OutageBook$Causes" "standing" "I") (List.mem_of_getElem? (i := 1) rfl)) (fun _ h9 => h9) rfl dX0_rootsUnder_16 ?_
    refine vp_callSi (va_Run.run (va_runV (As := [.int x, .int st]) (rest := []) ⟨hx, hb, hml, hown, hts⟩ (c_X0_reach l D t ac cn st Wt x st (by first | assumption | omega)) (cwV 2 hts gX0_rootsUnder_X0_reach rfl rfl rfl (by decide +kernel) ⟨Nat.le_of_ble_eq_true rfl, Nat.le_of_ble_eq_true rfl⟩) (ob_preV (ci := 0) (q0 := 0) hP hk rfl rfl) rfl rfl hl.1 rfl (lv_room (Nat.le_of_ble_eq_true rfl)) dX0_rootsUnder_19 ⟨Nat.le_of_ble_eq_true rfl, Nat.le_of_ble_eq_true rfl⟩)) (fun r9 hr9 => ?_)
    subst hr9
    refine lv_istore_n (lv' := [(2, .int (ob_rcO Wt cn st x cn)), (0, .ref (ac 0)), (1, .int x)]) hx hb dX0_rootsUnder_22 rfl hl (by decide) rfl (fun ls hl => ?_)
    refine lv_iconst (v := nI 0) hx hb dX0_rootsUnder_23 (by decide) ?_
    refine lv_istore_n (lv' := [(3, .int (nI 0)), (2, .int (ob_rcO Wt cn st x cn)), (0, .ref (ac 0)), (1, .int x)]) hx hb dX0_rootsUnder_24 rfl hl (by decide) rfl (fun ls hl => ?_)
    refine lv_iconst (v := nI 0) hx hb dX0_rootsUnder_25 (by decide) ?_
    refine lv_istore (lv' := [(4, .int (nI 0)), (3, .int (nI 0)), (2, .int (ob_rcO Wt cn st x cn)), (0, .ref (ac 0)), (1, .int x)]) hx hb dX0_rootsUnder_26 hl (by decide) rfl (fun ls hl => ?_)
    have k28 : ∀ fu : Nat, ∀ (k : Nat) (w : Int32), cn - k < fu → (k ≤ cn) → (w = ob_rt st Wt cn (ob_rcO Wt cn st x cn) k) → ∀ ls : Array Slot, lv_has ls 5 [(0, .ref (ac 0)), (1, .int x), (2, .int (ob_rcO Wt cn st x cn)), (3, .int w), (4, .int (nI k))] → W p l e (headSpec wsX0_rootsUnder ({ frames := 4, cells := 0, slots := 0, locals := 91 } : Room)).room s m ([.ref (ac 0), .int x] : List Value).toArray below meth c s.heap [] 0 0 (MQ below (vp_Si (fun r : Int32 => r = if ob_hb st x then ob_rt st Wt cn (ob_rcO Wt cn st x cn) cn else nI 0)) ([.ref (ac 0), .int x] : List Value).toArray s 0 0 (fun _ => False)) (F0 m 28 ls []) := by
      intro fu
      induction fu with
      | zero => intro k w hfu; exact absurd hfu (Nat.not_lt_zero _)
      | succ fu ih =>
        intro k w hfu hq hw ls hl
        have ih28 := ih
        refine lv_iload hx hb dX0_rootsUnder_28 (lv_at hl 4 rfl) ?_
        refine lv_aload_n hx hb dX0_rootsUnder_30 rfl (lv_at hl 0 rfl) ?_
        refine va_get (ci := 0) (C := RX0) (T := TX0) (N := 3) hx hb hts (fun w h => List.mem_cons_of_mem _ (List.mem_append_right _ (h))) hown hK hP 0 rfl rfl 2 (by decide) (hts (Cond.fieldLink RX0 20 "OutageBook$Causes" "count" "I") (List.mem_of_getElem? (i := 2) rfl)) (fun _ h9 => h9) rfl dX0_rootsUnder_31 ?_
        refine ob_icmp_ge (tgt := 74) hx hb (by omega) (by omega) dX0_rootsUnder_34 (by decide) (fun c34 => ?_) (fun c34 => ?_)
        · refine lv_iload_n hx hb dX0_rootsUnder_74 rfl (lv_at hl 3 rfl) ?_
          exact W.iret (v := w) hx hb hr (fun t9 ht hW => ⟨w, rfl, (by rw [hw, Nat.le_antisymm hq c34, c8]; rfl), ht⟩) (fun _ h => absurd h List.not_mem_nil) dX0_rootsUnder_75
        · refine lv_iload_n hx hb dX0_rootsUnder_37 rfl (lv_at hl 2 rfl) ?_
          refine lv_iload hx hb dX0_rootsUnder_38 (lv_at hl 4 rfl) ?_
          refine vp_callSi (va_Run.run (va_runSN (As := [.int (ob_rcO Wt cn st x cn), .int (nI k)]) (rest := []) ⟨hx, hb, hml, hown, hts⟩ (c_X4_hasBit l D t (ob_rcO Wt cn st x cn) (nI k)) ⟨va_cnB 2 hts gX0_rootsUnder_X4_hasBit_n31 rfl rfl rfl hk.2.2.1 (hts (Cond.initialized RX4) (List.mem_of_getElem? (i := 4) rfl)) (by decide +kernel) ⟨Nat.le_of_ble_eq_true rfl, Nat.le_of_ble_eq_true rfl⟩, (hts (Cond.static yX4_hasBit) (List.mem_of_getElem? (i := 3) rfl)), trivial⟩ (ob_preS (hP.sub [] rfl) hk) rfl rfl hl.1 rfl (lv_room (Nat.le_of_ble_eq_true rfl)) dX0_rootsUnder_40 ⟨Nat.le_of_ble_eq_true rfl, Nat.le_of_ble_eq_true rfl⟩)) (fun r9 hr9 => ?_)
          subst hr9
          refine ob_if_eq (tgt := 68) hx hb dX0_rootsUnder_43 (by decide) (fun c43 => ?_) (fun c43 => ?_)
          · refine ob_inc (k := 4) (lv' := [(4, .int (nI (k + 1))), (0, .ref (ac 0)), (1, .int x), (2, .int (ob_rcO Wt cn st x cn)), (3, .int w)]) hx hb dX0_rootsUnder_68 hl rfl (by decide) rfl (fun ls hl => ?_)
            refine lv_goto (tgt := 28) hx hb dX0_rootsUnder_71 (by decide) ?_
            exact ih28 (k + 1) w (by omega) (by omega) (by first | (rfl; done) | (simp [ob_rt, ← hw, c43]; done) | (simp [ob_rt, ← hw, c43, c57]; done)) _ (lv_sub hl [1, 2, 3, 4, 0] rfl)
          · refine lv_aload_n hx hb dX0_rootsUnder_46 rfl (lv_at hl 0 rfl) ?_
            refine lv_iload hx hb dX0_rootsUnder_47 (lv_at hl 4 rfl) ?_
            refine vp_callSi (va_Run.run (va_runV (As := [.int (nI k)]) (rest := []) ⟨hx, hb, hml, hown, hts⟩ (c_X0_reasonsOf l D t ac cn st Wt (nI k) (by first | assumption | omega)) (cwV 1 hts gX0_rootsUnder_X0_reasonsOf rfl rfl rfl (by decide +kernel) ⟨Nat.le_of_ble_eq_true rfl, Nat.le_of_ble_eq_true rfl⟩) (ob_preV (ci := 0) (q0 := 0) hP hk rfl rfl) rfl rfl hl.1 rfl (lv_room (Nat.le_of_ble_eq_true rfl)) dX0_rootsUnder_49 ⟨Nat.le_of_ble_eq_true rfl, Nat.le_of_ble_eq_true rfl⟩)) (fun r9 hr9 => ?_)
            subst hr9
            refine lv_aload_n hx hb dX0_rootsUnder_52 rfl (lv_at hl 0 rfl) ?_
            refine va_get (ci := 0) (C := RX0) (T := TX0) (N := 3) hx hb hts (fun w h => List.mem_cons_of_mem _ (List.mem_append_right _ (h))) hown hK hP 0 rfl rfl 1 (by decide) (hts (Cond.fieldLink RX0 16 "OutageBook$Causes" "standing" "I") (List.mem_of_getElem? (i := 1) rfl)) (fun _ h9 => h9) rfl dX0_rootsUnder_53 ?_
            refine lv_iand hx hb dX0_rootsUnder_56 ?_
            refine lv_if_ne (tgt := 68) hx hb dX0_rootsUnder_57 (by decide) (fun c57 => ?_) (fun c57 => ?_)
            · refine ob_inc (k := 4) (lv' := [(4, .int (nI (k + 1))), (0, .ref (ac 0)), (1, .int x), (2, .int (ob_rcO Wt cn st x cn)), (3, .int w)]) hx hb dX0_rootsUnder_68 hl rfl (by decide) rfl (fun ls hl => ?_)
              refine lv_goto (tgt := 28) hx hb dX0_rootsUnder_71 (by decide) ?_
              exact ih28 (k + 1) w (by omega) (by omega) (by first | (rfl; done) | (simp [ob_rt, ← hw, c43]; done) | (simp [ob_rt, ← hw, c43, c57]; done)) _ (lv_sub hl [1, 2, 3, 4, 0] rfl)
            · refine lv_iload_n hx hb dX0_rootsUnder_60 rfl (lv_at hl 3 rfl) ?_
              refine lv_iload hx hb dX0_rootsUnder_61 (lv_at hl 4 rfl) ?_
              refine vp_callSi (va_Run.run (va_runSN (As := [.int (nI k)]) (rest := [.int w]) ⟨hx, hb, hml, hown, hts⟩ (c_X4_bit l D t (nI k)) ⟨va_cnB 1 hts gX0_rootsUnder_X4_bit_n23 rfl rfl rfl hk.2.1 (hts (Cond.initialized RX4) (List.mem_of_getElem? (i := 4) rfl)) (by decide +kernel) ⟨Nat.le_of_ble_eq_true rfl, Nat.le_of_ble_eq_true rfl⟩, (hts (Cond.static yX4_bit) (List.mem_of_getElem? (i := 7) rfl)), trivial⟩ (ob_preS (hP.sub [] rfl) hk) rfl rfl hl.1 rfl (lv_room (Nat.le_of_ble_eq_true rfl)) dX0_rootsUnder_63 ⟨Nat.le_of_ble_eq_true rfl, Nat.le_of_ble_eq_true rfl⟩)) (fun r9 hr9 => ?_)
              subst hr9
              refine lv_ior hx hb dX0_rootsUnder_66 ?_
              refine lv_istore_n (lv' := [(3, .int (w ||| (ob_bit (nI k)))), (0, .ref (ac 0)), (1, .int x), (2, .int (ob_rcO Wt cn st x cn)), (4, .int (nI k))]) hx hb dX0_rootsUnder_67 rfl hl (by decide) rfl (fun ls hl => ?_)
              refine ob_inc (k := 4) (lv' := [(4, .int (nI (k + 1))), (3, .int (w ||| (ob_bit (nI k)))), (0, .ref (ac 0)), (1, .int x), (2, .int (ob_rcO Wt cn st x cn))]) hx hb dX0_rootsUnder_68 hl rfl (by decide) rfl (fun ls hl => ?_)
              refine lv_goto (tgt := 28) hx hb dX0_rootsUnder_71 (by decide) ?_
              exact ih28 (k + 1) (w ||| (ob_bit (nI k))) (by omega) (by omega) (by first | (rfl; done) | (simp [ob_rt, ← hw, c43]; done) | (simp [ob_rt, ← hw, c43, c57]; done)) _ (lv_sub hl [2, 3, 4, 1, 0] rfl)
    exact k28 _ 0 (nI 0) (Nat.lt_succ_self _) (by omega) (by first | (rfl; done) | (simp [ob_rt, ← hw, c43]; done) | (simp [ob_rt, ← hw, c43, c57]; done)) _ (lv_sub hl [3, 4, 2, 1, 0] rfl)
  · refine lv_iconst (v := nI 0) hx hb dX0_rootsUnder_11 (by decide) ?_
    exact W.iret (v := nI 0) hx hb hr (fun t9 ht hW => ⟨nI 0, rfl, (by rw [c8]; rfl), ht⟩) (fun _ h => absurd h List.not_mem_nil) dX0_rootsUnder_12

set_option maxRecDepth 100000 in
set_option maxHeartbeats 4000000 in
theorem c_X0_weightiestReason (l : Launch) (D : va_G) (t : Nat → ClassId) (ac : Nat → Nat) (cn : Nat) (st : Int32) (Wt : Nat → Nat → Int32) (x : Int32) (hcn : cn ≤ 16) : Met l yX0_weightiestReason wsX0_weightiestReason ({ frames := 2, cells := 0, slots := 0, locals := 43 } : Room) (ob_Pp D t (ob_wC t ac cn st Wt) [.ref (ac 0), .int x]) (vp_Si (fun r : Int32 => r = (ob_wr st Wt cn x cn).1)) 0 0 (fun _ => False) := by
  refine Met.ofW (cc := cX0_weightiestReason) (maxL := 6) (ret := (some .int)) (by decide) rfl ?_
  intro p e s m args below meth c s₁ B hml hv
  obtain ⟨rfl, hP, hk⟩ := hv
  have hx := B.exec
  have hb := B.bytes
  have hr := B.returns
  have hts := atoms_spec (ws := wsX0_weightiestReason) B.pre
  have hown : s.vm.findClass RX0 = some m.cls := findClass_of_methodNamed B.named
  have hlocks := B.notSynchronized
  have hK := hk.1
  have hl := lv_entry [.ref (ac 0), .int x] (n := 6) (Nat.le_of_ble_eq_true rfl)
  rw [lg_entry_eq]
  generalize (lg_sl [.ref (ac 0), .int x] ++ List.replicate (6 - (lg_sl [.ref (ac 0), .int x]).length) Slot.unset).toArray = ls at hl ⊢
  have hl : lv_has ls 6 [(0, .ref (ac 0)), (1, .int x)] := hl
  refine lv_iconst (v := (-1)) hx hb dX0_weightiestReason_0 (by decide) ?_
  refine lv_istore_n (lv' := [(2, .int (-1)), (0, .ref (ac 0)), (1, .int x)]) hx hb dX0_weightiestReason_1 rfl hl (by decide) rfl (fun ls hl => ?_)
  refine lv_iconst (v := nI 0) hx hb dX0_weightiestReason_2 (by decide) ?_
  refine lv_istore_n (lv' := [(3, .int (nI 0)), (2, .int (-1)), (0, .ref (ac 0)), (1, .int x)]) hx hb dX0_weightiestReason_3 rfl hl (by decide) rfl (fun ls hl => ?_)
  refine lv_iconst (v := nI 0) hx hb dX0_weightiestReason_4 (by decide) ?_
  refine lv_istore (lv' := [(4, .int (nI 0)), (3, .int (nI 0)), (2, .int (-1)), (0, .ref (ac 0)), (1, .int x)]) hx hb dX0_weightiestReason_5 hl (by decide) rfl (fun ls hl => ?_)
  have k7 : ∀ fu : Nat, ∀ (k : Nat) (w v : Int32), cn - k < fu → (k ≤ cn) → (w = (ob_wr st Wt cn x k).1) → (v = (ob_wr st Wt cn x k).2) → ∀ ls : Array Slot, lv_has ls 6 [(0, .ref (ac 0)), (1, .int x), (2, .int w), (3, .int v), (4, .int (nI k))] → W p l e (headSpec wsX0_weightiestReason ({ frames := 2, cells := 0, slots := 0, locals := 43 } : Room)).room s m ([.ref (ac 0), .int x] : List Value).toArray below meth c s.heap [] 0 0 (MQ below (vp_Si (fun r : Int32 => r = (ob_wr st Wt cn x cn).1)) ([.ref (ac 0), .int x] : List Value).toArray s 0 0 (fun _ => False)) (F0 m 7 ls []) := by
    intro fu
    induction fu with
    | zero => intro k w v hfu; exact absurd hfu (Nat.not_lt_zero _)
    | succ fu ih =>
      intro k w v hfu hq hw hv ls hl
      have ih7 := ih
      refine lv_iload hx hb dX0_weightiestReason_7 (lv_at hl 4 rfl) ?_
      refine lv_aload_n hx hb dX0_weightiestReason_9 rfl (lv_at hl 0 rfl) ?_
      refine va_get (ci := 0) (C := RX0) (T := TX0) (N := 3) hx hb hts (fun w h => List.mem_cons_of_mem _ (List.mem_append_right _ (h))) hown hK hP 0 rfl rfl 2 (by decide) (hts (Cond.fieldLink RX0 20 "OutageBook$Causes" "count" "I") (List.mem_of_getElem? (i := 1) rfl)) (fun _ h9 => h9) rfl dX0_weightiestReason_10 ?_
      refine ob_icmp_ge (tgt := 55) hx hb (by omega) (by omega) dX0_weightiestReason_13 (by decide) (fun c13 => ?_) (fun c13 => ?_)
      · refine lv_iload_n hx hb dX0_weightiestReason_55 rfl (lv_at hl 2 rfl) ?_
        exact W.iret (v := w) hx hb hr (fun t9 ht hW => ⟨w, rfl, (by rw [hw, Nat.le_antisymm hq c13]), ht⟩) (fun _ h => absurd h List.not_mem_nil) dX0_weightiestReason_56
      · refine lv_aload_n hx hb dX0_weightiestReason_16 rfl (lv_at hl 0 rfl) ?_
        refine lv_iload_n hx hb dX0_weightiestReason_17 rfl (lv_at hl 1 rfl) ?_
        refine lv_iload hx hb dX0_weightiestReason_18 (lv_at hl 4 rfl) ?_
        refine vp_callSi (va_Run.run (va_runV (As := [.int x, .int (nI k)]) (rest := []) ⟨hx, hb, hml, hown, hts⟩ (c_X0_weight l D t ac cn st Wt x (nI k) (by first | assumption | omega)) (cwV 2 hts gX0_weightiestReason_X0_weight rfl rfl rfl (by decide +kernel) ⟨Nat.le_of_ble_eq_true rfl, Nat.le_of_ble_eq_true rfl⟩) (ob_preV (ci := 0) (q0 := 0) hP hk rfl rfl) rfl rfl hl.1 rfl (lv_room (Nat.le_of_ble_eq_true rfl)) dX0_weightiestReason_20 ⟨Nat.le_of_ble_eq_true rfl, Nat.le_of_ble_eq_true rfl⟩)) (fun r9 hr9 => ?_)
        subst hr9
        refine lv_istore (lv' := [(5, .int (ob_wt Wt cn x (nI k))), (0, .ref (ac 0)), (1, .int x), (2, .int w), (3, .int v), (4, .int (nI k))]) hx hb dX0_weightiestReason_23 hl (by decide) rfl (fun ls hl => ?_)
        refine lv_aload_n hx hb dX0_weightiestReason_25 rfl (lv_at hl 1 rfl) ?_
        refine va_get (ci := 0) (C := RX0) (T := TX0) (N := 3) hx hb hts (fun w h => List.mem_cons_of_mem _ (List.mem_append_right _ (h))) hown hK hP 0 rfl rfl 1 (by decide) (hts (Cond.fieldLink RX0 16 "OutageBook$Causes" "standing" "I") (List.mem_of_getElem? (i := 2) rfl)) (fun _ h9 => h9) rfl dX0_weightiestReason_26 ?_
        refine lv_iload hx hb dX0_weightiestReason_29 (lv_at hl 5 rfl) ?_
        refine vp_callSi (va_Run.run (va_runSN (As := [.int st, .int (nI k)]) (rest := []) ⟨hx, hb, hml, hown, hts⟩ (c_X4_hasBit l D t st (nI k)) ⟨va_cnB 2 hts gX0_weightiestReason_X4_hasBit_n31 rfl rfl rfl hk.2.2.1 (hts (Cond.initialized RX4) (List.mem_of_getElem? (i := 14) rfl)) (by decide +kernel) ⟨Nat.le_of_ble_eq_true rfl, Nat.le_of_ble_eq_true rfl⟩, (hts (Cond.static yX4_hasBit) (List.mem_of_getElem? (i := 13) rfl)), trivial⟩ (ob_preS (hP.sub [] rfl) hk) rfl rfl hl.1 rfl (lv_room (Nat.le_of_ble_eq_true rfl)) dX0_weightiestReason_31 ⟨Nat.le_of_ble_eq_true rfl, Nat.le_of_ble_eq_true rfl⟩)) (fun r9 hr9 => ?_)
        subst hr9
        refine ob_if_eq (tgt := 49) hx hb dX0_weightiestReason_34 (by decide) (fun c34 => ?_) (fun c34 => ?_)
        · refine ob_inc (k := 5) (lv' := [(4, .int (nI (k + 1))), (5, .int (ob_wt Wt cn x (nI k))), (0, .ref (ac 0)), (1, .int x), (2, .int w), (3, .int v)]) hx hb dX0_weightiestReason_49 hl rfl (by decide) rfl (fun ls hl => ?_)
          refine lv_goto (tgt := 7) hx hb dX0_weightiestReason_52 (by decide) ?_
          exact ih7 (k + 1) w v (by omega) (by omega) (by first | (rfl; done) | (simp only [ob_wr, c34, Bool.false_and]; exact hw; done) | (simp [ob_wr, ← hv, c34, c40]; done) | (simp [ob_wr, ← hv, c34, c40, hw]; done)) (by first | (rfl; done) | (simp only [ob_wr, c34, Bool.false_and]; exact hv; done) | (simp [ob_wr, ← hv, c34, c40]; done)) _ (lv_sub hl [2, 3, 4, 5, 0] rfl)
        · refine lv_iload hx hb dX0_weightiestReason_37 (lv_at hl 0 rfl) ?_
          refine lv_iload_n hx hb dX0_weightiestReason_39 rfl (lv_at hl 4 rfl) ?_
          refine lv_icmp_le (tgt := 49) hx hb dX0_weightiestReason_40 (by decide) (fun c40 => ?_) (fun c40 => ?_)
          · refine ob_inc (k := 5) (lv' := [(4, .int (nI (k + 1))), (5, .int (ob_wt Wt cn x (nI k))), (0, .ref (ac 0)), (1, .int x), (2, .int w), (3, .int v)]) hx hb dX0_weightiestReason_49 hl rfl (by decide) rfl (fun ls hl => ?_)
            refine lv_goto (tgt := 7) hx hb dX0_weightiestReason_52 (by decide) ?_
            exact ih7 (k + 1) w v (by omega) (by omega) (by first | (rfl; done) | (simp only [ob_wr, c34, Bool.false_and]; exact hw; done) | (simp [ob_wr, ← hv, c34, c40]; done) | (simp [ob_wr, ← hv, c34, c40, hw]; done)) (by first | (rfl; done) | (simp only [ob_wr, c34, Bool.false_and]; exact hv; done) | (simp [ob_wr, ← hv, c34, c40]; done)) _ (lv_sub hl [2, 3, 4, 5, 0] rfl)
          · refine lv_iload hx hb dX0_weightiestReason_43 (lv_at hl 5 rfl) ?_
            refine lv_istore_n (lv' := [(2, .int (nI k)), (5, .int (ob_wt Wt cn x (nI k))), (0, .ref (ac 0)), (1, .int x), (3, .int v), (4, .int (nI k))]) hx hb dX0_weightiestReason_45 rfl hl (by decide) rfl (fun ls hl => ?_)
            refine lv_iload hx hb dX0_weightiestReason_46 (lv_at hl 1 rfl) ?_
            refine lv_istore_n (lv' := [(3, .int (ob_wt Wt cn x (nI k))), (2, .int (nI k)), (5, .int (ob_wt Wt cn x (nI k))), (0, .ref (ac 0)), (1, .int x), (4, .int (nI k))]) hx hb dX0_weightiestReason_48 rfl hl (by decide) rfl (fun ls hl => ?_)
            refine ob_inc (k := 5) (lv' := [(4, .int (nI (k + 1))), (3, .int (ob_wt Wt cn x (nI k))), (2, .int (nI k)), (5, .int (ob_wt Wt cn x (nI k))), (0, .ref (ac 0)), (1, .int x)]) hx hb dX0_weightiestReason_49 hl rfl (by decide) rfl (fun ls hl => ?_)
            refine lv_goto (tgt := 7) hx hb dX0_weightiestReason_52 (by decide) ?_
            exact ih7 (k + 1) (nI k) (ob_wt Wt cn x (nI k)) (by omega) (by omega) (by first | (rfl; done) | (simp only [ob_wr, c34, Bool.false_and]; exact hw; done) | (simp [ob_wr, ← hv, c34, c40]; done) | (simp [ob_wr, ← hv, c34, c40, hw]; done)) (by first | (rfl; done) | (simp only [ob_wr, c34, Bool.false_and]; exact hv; done) | (simp [ob_wr, ← hv, c34, c40]; done)) _ (lv_sub hl [4, 5, 2, 1, 0] rfl)
  exact k7 _ 0 (-1) (nI 0) (Nat.lt_succ_self _) (by omega) (by first | (rfl; done) | (simp only [ob_wr, c34, Bool.false_and]; exact hw; done) | (simp [ob_wr, ← hv, c34, c40]; done) | (simp [ob_wr, ← hv, c34, c40, hw]; done)) (by first | (rfl; done) | (simp only [ob_wr, c34, Bool.false_and]; exact hv; done) | (simp [ob_wr, ← hv, c34, c40]; done)) _ (lv_sub hl [3, 4, 2, 1, 0] rfl)
