set_option maxRecDepth 100000 in
set_option maxHeartbeats 4000000 in
/-- lo ≤ v ≤ hi -/
theorem c_X4_isWithin (l : Launch) (D : va_G) (t : Nat → ClassId) (v lo hi : Int32) : Met l yX4_isWithin wsX4_isWithin ({ frames := 0, cells := 0, slots := 0, locals := 0 } : Room) (ob_Pp D t ([]) [.int v, .int lo, .int hi]) (vp_Si (fun r : Int32 => r = ob_bi (ob_wi v lo hi))) 0 0 (fun _ => False) := by
  refine Met.ofW (cc := cX4_isWithin) (maxL := 3) (ret := (some .boolean)) (by decide) rfl ?_
  intro p e s m args below meth c s₁ B hml hv
  obtain ⟨rfl, hP, hk⟩ := hv
  have hx := B.exec
  have hb := B.bytes
  have hr := B.returns
  have hts := atoms_spec (ws := wsX4_isWithin) B.pre
  have hown : s.vm.findClass RX4 = some m.cls := findClass_of_methodNamed B.named
  have hlocks := B.notSynchronized
  have hK := hk.1
  have hl := lv_entry [.int v, .int lo, .int hi] (n := 3) (Nat.le_of_ble_eq_true rfl)
  rw [lg_entry_eq]
  generalize (lg_sl [.int v, .int lo, .int hi] ++ List.replicate (3 - (lg_sl [.int v, .int lo, .int hi]).length) Slot.unset).toArray = ls at hl ⊢
  have hl : lv_has ls 3 [(0, .int v), (1, .int lo), (2, .int hi)] := hl
  refine lv_iload_n hx hb dX4_isWithin_0 rfl (lv_at hl 0 rfl) ?_
  refine lv_iload_n hx hb dX4_isWithin_1 rfl (lv_at hl 1 rfl) ?_
  refine lv_icmp_lt (tgt := 14) hx hb dX4_isWithin_2 (by decide) (fun c2 => ?_) (fun c2 => ?_)
  · refine lv_iconst (v := nI 0) hx hb dX4_isWithin_14 (by decide) ?_
    exact W.zret (v := nI 0) hx hb hr rfl (fun t9 ht hW => ⟨nI 0, rfl, (by first | (rw [ob_wi_lo c2]; rfl) | (rw [ob_wi_hi c7]; rfl) | (rw [ob_wi_ok c2 c7]; rfl)), ht⟩) (fun _ h => absurd h List.not_mem_nil) dX4_isWithin_15
  · refine lv_iload_n hx hb dX4_isWithin_5 rfl (lv_at hl 0 rfl) ?_
    refine lv_iload_n hx hb dX4_isWithin_6 rfl (lv_at hl 2 rfl) ?_
    refine lv_icmp_gt (tgt := 14) hx hb dX4_isWithin_7 (by decide) (fun c7 => ?_) (fun c7 => ?_)
    · refine lv_iconst (v := nI 0) hx hb dX4_isWithin_14 (by decide) ?_
      exact W.zret (v := nI 0) hx hb hr rfl (fun t9 ht hW => ⟨nI 0, rfl, (by first | (rw [ob_wi_lo c2]; rfl) | (rw [ob_wi_hi c7]; rfl) | (rw [ob_wi_ok c2 c7]; rfl)), ht⟩) (fun _ h => absurd h List.not_mem_nil) dX4_isWithin_15
    · refine lv_iconst (v := nI 1) hx hb dX4_isWithin_10 (by decide) ?_
      refine lv_goto (tgt := 15) hx hb dX4_isWithin_11 (by decide) ?_
      exact W.zret (v := nI 1) hx hb hr rfl (fun t9 ht hW => ⟨nI 1, rfl, (by first | (rw [ob_wi_lo c2]; rfl) | (rw [ob_wi_hi c7]; rfl) | (rw [ob_wi_ok c2 c7]; rfl)), ht⟩) (fun _ h => absurd h List.not_mem_nil) dX4_isWithin_15

set_option maxRecDepth 100000 in
set_option maxHeartbeats 4000000 in
theorem c_X4_isClock (l : Launch) (D : va_G) (t : Nat → ClassId) (v : Int32) : Met l yX4_isClock wsX4_isClock ({ frames := 1, cells := 0, slots := 0, locals := 22 } : Room) (ob_Pp D t ([]) [.int v]) (vp_Si (fun r : Int32 => r = ob_bi (ob_wi v (nI 0) (nI 4)))) 0 0 (fun _ => False) := by
  refine Met.ofW (cc := cX4_isClock) (maxL := 1) (ret := (some .boolean)) (by decide) rfl ?_
  intro p e s m args below meth c s₁ B hml hv
  obtain ⟨rfl, hP, hk⟩ := hv
  have hx := B.exec
  have hb := B.bytes
  have hr := B.returns
  have hts := atoms_spec (ws := wsX4_isClock) B.pre
  have hown : s.vm.findClass RX4 = some m.cls := findClass_of_methodNamed B.named
  have hlocks := B.notSynchronized
  have hK := hk.1
  have hl := lv_entry [.int v] (n := 1) (Nat.le_of_ble_eq_true rfl)
  rw [lg_entry_eq]
  generalize (lg_sl [.int v] ++ List.replicate (1 - (lg_sl [.int v]).length) Slot.unset).toArray = ls at hl ⊢
  have hl : lv_has ls 1 [(0, .int v)] := hl
  refine lv_iload_n hx hb dX4_isClock_0 rfl (lv_at hl 0 rfl) ?_
  refine lv_iconst (v := nI 0) hx hb dX4_isClock_1 (by decide) ?_
  refine lv_iconst (v := nI 4) hx hb dX4_isClock_2 (by decide) ?_
  refine vp_callSi (va_Run.run (va_runS (As := [.int v, .int (nI 0), .int (nI 4)]) (rest := []) ⟨hx, hb, hml, hown, hts⟩ (c_X4_isWithin l D t v (nI 0) (nI 4)) (va_cwS 3 hts gX4_isClock_X4_isWithin rfl rfl rfl (by decide +kernel) ⟨Nat.le_of_ble_eq_true rfl, Nat.le_of_ble_eq_true rfl⟩) (ob_preS hP hk) rfl rfl hl.1 rfl (lv_room (Nat.le_of_ble_eq_true rfl)) dX4_isClock_3 ⟨Nat.le_of_ble_eq_true rfl, Nat.le_of_ble_eq_true rfl⟩)) (fun r9 hr9 => ?_)
  subst hr9
  exact W.zret (v := ob_bi (ob_wi v (nI 0) (nI 4))) hx hb hr (ob_narZ _) (fun t9 ht hW => ⟨ob_bi (ob_wi v (nI 0) (nI 4)), rfl, rfl, ht⟩) (fun _ h => absurd h List.not_mem_nil) dX4_isClock_6

set_option maxRecDepth 100000 in
set_option maxHeartbeats 4000000 in
theorem c_X4_isReading (l : Launch) (D : va_G) (t : Nat → ClassId) (v : Int32) : Met l yX4_isReading wsX4_isReading ({ frames := 1, cells := 0, slots := 0, locals := 22 } : Room) (ob_Pp D t ([]) [.int v]) (vp_Si (fun r : Int32 => r = ob_bi (ob_wi v (nI 0) (nI 10000)))) 0 0 (fun _ => False) := by
  refine Met.ofW (cc := cX4_isReading) (maxL := 1) (ret := (some .boolean)) (by decide) rfl ?_
  intro p e s m args below meth c s₁ B hml hv
  obtain ⟨rfl, hP, hk⟩ := hv
  have hx := B.exec
  have hb := B.bytes
  have hr := B.returns
  have hts := atoms_spec (ws := wsX4_isReading) B.pre
  have hown : s.vm.findClass RX4 = some m.cls := findClass_of_methodNamed B.named
  have hlocks := B.notSynchronized
  have hK := hk.1
  have hl := lv_entry [.int v] (n := 1) (Nat.le_of_ble_eq_true rfl)
  rw [lg_entry_eq]
  generalize (lg_sl [.int v] ++ List.replicate (1 - (lg_sl [.int v]).length) Slot.unset).toArray = ls at hl ⊢
  have hl : lv_has ls 1 [(0, .int v)] := hl
  refine lv_iload_n hx hb dX4_isReading_0 rfl (lv_at hl 0 rfl) ?_
  refine lv_iconst (v := nI 0) hx hb dX4_isReading_1 (by decide) ?_
  refine lv_sipush (v := nI 10000) hx hb dX4_isReading_2 (by decide) ?_
  refine vp_callSi (va_Run.run (va_runS (As := [.int v, .int (nI 0), .int (nI 10000)]) (rest := []) ⟨hx, hb, hml, hown, hts⟩ (c_X4_isWithin l D t v (nI 0) (nI 10000)) (va_cwS 3 hts gX4_isReading_X4_isWithin rfl rfl rfl (by decide +kernel) ⟨Nat.le_of_ble_eq_true rfl, Nat.le_of_ble_eq_true rfl⟩) (ob_preS hP hk) rfl rfl hl.1 rfl (lv_room (Nat.le_of_ble_eq_true rfl)) dX4_isReading_5 ⟨Nat.le_of_ble_eq_true rfl, Nat.le_of_ble_eq_true rfl⟩)) (fun r9 hr9 => ?_)
  subst hr9
  exact W.zret (v := ob_bi (ob_wi v (nI 0) (nI 10000))) hx hb hr (ob_narZ _) (fun t9 ht hW => ⟨ob_bi (ob_wi v (nI 0) (nI 10000)), rfl, rfl, ht⟩) (fun _ h => absurd h List.not_mem_nil) dX4_isReading_8

set_option maxRecDepth 100000 in
set_option maxHeartbeats 4000000 in
theorem c_X4_isService (l : Launch) (D : va_G) (t : Nat → ClassId) (v : Int32) : Met l yX4_isService wsX4_isService ({ frames := 1, cells := 0, slots := 0, locals := 22 } : Room) (ob_Pp D t ([]) [.int v]) (vp_Si (fun r : Int32 => r = ob_bi (ob_wi v (nI 0) (nI 5)))) 0 0 (fun _ => False) := by
  refine Met.ofW (cc := cX4_isService) (maxL := 1) (ret := (some .boolean)) (by decide) rfl ?_
  intro p e s m args below meth c s₁ B hml hv
  obtain ⟨rfl, hP, hk⟩ := hv
  have hx := B.exec
  have hb := B.bytes
  have hr := B.returns
  have hts := atoms_spec (ws := wsX4_isService) B.pre
  have hown : s.vm.findClass RX4 = some m.cls := findClass_of_methodNamed B.named
  have hlocks := B.notSynchronized
  have hK := hk.1
  have hl := lv_entry [.int v] (n := 1) (Nat.le_of_ble_eq_true rfl)
  rw [lg_entry_eq]
  generalize (lg_sl [.int v] ++ List.replicate (1 - (lg_sl [.int v]).length) Slot.unset).toArray = ls at hl ⊢
  have hl : lv_has ls 1 [(0, .int v)] := hl
  refine lv_iload_n hx hb dX4_isService_0 rfl (lv_at hl 0 rfl) ?_
  refine lv_iconst (v := nI 0) hx hb dX4_isService_1 (by decide) ?_
  refine lv_iconst (v := nI 5) hx hb dX4_isService_2 (by decide) ?_
  refine vp_callSi (va_Run.run (va_runS (As := [.int v, .int (nI 0), .int (nI 5)]) (rest := []) ⟨hx, hb, hml, hown, hts⟩ (c_X4_isWithin l D t v (nI 0) (nI 5)) (va_cwS 3 hts gX4_isService_X4_isWithin rfl rfl rfl (by decide +kernel) ⟨Nat.le_of_ble_eq_true rfl, Nat.le_of_ble_eq_true rfl⟩) (ob_preS hP hk) rfl rfl hl.1 rfl (lv_room (Nat.le_of_ble_eq_true rfl)) dX4_isService_3 ⟨Nat.le_of_ble_eq_true rfl, Nat.le_of_ble_eq_true rfl⟩)) (fun r9 hr9 => ?_)
  subst hr9
  exact W.zret (v := ob_bi (ob_wi v (nI 0) (nI 5))) hx hb hr (ob_narZ _) (fun t9 ht hW => ⟨ob_bi (ob_wi v (nI 0) (nI 5)), rfl, rfl, ht⟩) (fun _ h => absurd h List.not_mem_nil) dX4_isService_6

set_option maxRecDepth 100000 in
set_option maxHeartbeats 4000000 in
theorem c_X4_bit (l : Launch) (D : va_G) (t : Nat → ClassId) (k : Int32) : Met l yX4_bit wsX4_bit ({ frames := 0, cells := 0, slots := 0, locals := 0 } : Room) (ob_Pp D t ([]) [.int k]) (vp_Si (fun r : Int32 => r = ob_bit k)) 0 0 (fun _ => False) := by
  refine Met.ofW (cc := cX4_bit) (maxL := 1) (ret := (some .int)) (by decide) rfl ?_
  intro p e s m args below meth c s₁ B hml hv
  obtain ⟨rfl, hP, hk⟩ := hv
  have hx := B.exec
  have hb := B.bytes
  have hr := B.returns
  have hts := atoms_spec (ws := wsX4_bit) B.pre
  have hown : s.vm.findClass RX4 = some m.cls := findClass_of_methodNamed B.named
  have hlocks := B.notSynchronized
  have hK := hk.1
  have hl := lv_entry [.int k] (n := 1) (Nat.le_of_ble_eq_true rfl)
  rw [lg_entry_eq]
  generalize (lg_sl [.int k] ++ List.replicate (1 - (lg_sl [.int k]).length) Slot.unset).toArray = ls at hl ⊢
  have hl : lv_has ls 1 [(0, .int k)] := hl
  refine lv_iconst (v := nI 1) hx hb dX4_bit_0 (by decide) ?_
  refine lv_iload_n hx hb dX4_bit_1 rfl (lv_at hl 0 rfl) ?_
  refine lv_ishl hx hb dX4_bit_2 ?_
  exact W.iret (v := (nI 1) <<< (k &&& 31)) hx hb hr (fun t9 ht hW => ⟨(nI 1) <<< (k &&& 31), rfl, rfl, ht⟩) (fun _ h => absurd h List.not_mem_nil) dX4_bit_3

set_option maxRecDepth 100000 in
set_option maxHeartbeats 4000000 in
theorem c_X4_hasBit (l : Launch) (D : va_G) (t : Nat → ClassId) (x k : Int32) : Met l yX4_hasBit wsX4_hasBit ({ frames := 1, cells := 0, slots := 0, locals := 20 } : Room) (ob_Pp D t ([]) [.int x, .int k]) (vp_Si (fun r : Int32 => r = ob_bi (ob_hb x k))) 0 0 (fun _ => False) := by
  refine Met.ofW (cc := cX4_hasBit) (maxL := 2) (ret := (some .boolean)) (by decide) rfl ?_
  intro p e s m args below meth c s₁ B hml hv
  obtain ⟨rfl, hP, hk⟩ := hv
  have hx := B.exec
  have hb := B.bytes
  have hr := B.returns
  have hts := atoms_spec (ws := wsX4_hasBit) B.pre
  have hown : s.vm.findClass RX4 = some m.cls := findClass_of_methodNamed B.named
  have hlocks := B.notSynchronized
  have hK := hk.1
  have hl := lv_entry [.int x, .int k] (n := 2) (Nat.le_of_ble_eq_true rfl)
  rw [lg_entry_eq]
  generalize (lg_sl [.int x, .int k] ++ List.replicate (2 - (lg_sl [.int x, .int k]).length) Slot.unset).toArray = ls at hl ⊢
  have hl : lv_has ls 2 [(0, .int x), (1, .int k)] := hl
  refine lv_iload_n hx hb dX4_hasBit_0 rfl (lv_at hl 0 rfl) ?_
  refine lv_iload_n hx hb dX4_hasBit_1 rfl (lv_at hl 1 rfl) ?_
  refine vp_callSi (va_Run.run (va_runS (As := [.int k]) (rest := [.int x]) ⟨hx, hb, hml, hown, hts⟩ (c_X4_bit l D t k) (va_cwS 1 hts gX4_hasBit_X4_bit rfl rfl rfl (by decide +kernel) ⟨Nat.le_of_ble_eq_true rfl, Nat.le_of_ble_eq_true rfl⟩) (ob_preS hP hk) rfl rfl hl.1 rfl (lv_room (Nat.le_of_ble_eq_true rfl)) dX4_hasBit_2 ⟨Nat.le_of_ble_eq_true rfl, Nat.le_of_ble_eq_true rfl⟩)) (fun r9 hr9 => ?_)
  subst hr9
  refine lv_iand hx hb dX4_hasBit_5 ?_
  refine lv_if_eq (tgt := 13) hx hb dX4_hasBit_6 (by decide) (fun c6 => ?_) (fun c6 => ?_)
  · refine lv_iconst (v := nI 0) hx hb dX4_hasBit_13 (by decide) ?_
    exact W.zret (v := nI 0) hx hb hr rfl (fun t9 ht hW => ⟨nI 0, rfl, (by simp [ob_hb, c6, ob_n0, ob_n1, ob_bi]), ht⟩) (fun _ h => absurd h List.not_mem_nil) dX4_hasBit_14
  · refine lv_iconst (v := nI 1) hx hb dX4_hasBit_9 (by decide) ?_
    refine lv_goto (tgt := 14) hx hb dX4_hasBit_10 (by decide) ?_
    exact W.zret (v := nI 1) hx hb hr rfl (fun t9 ht hW => ⟨nI 1, rfl, (by simp [ob_hb, c6, ob_n0, ob_n1, ob_bi]), ht⟩) (fun _ h => absurd h List.not_mem_nil) dX4_hasBit_14

set_option maxRecDepth 100000 in
set_option maxHeartbeats 4000000 in
theorem c_X3_most (l : Launch) (D : va_G) (t : Nat → ClassId) (ao : Nat → Nat) (M : Nat → Nat → Int32) (a b : Int32) : Met l yX3_most wsX3_most ({ frames := 2, cells := 0, slots := 0, locals := 42 } : Room) (ob_Pp D t (ob_wO t ao M) [.ref (ao 0), .int a, .int b]) (vp_Si (fun r : Int32 => r = ob_ms M a b)) 0 0 (fun _ => False) := by
  refine Met.ofW (cc := cX3_most) (maxL := 3) (ret := (some .int)) (by decide) rfl ?_
  intro p e s m args below meth c s₁ B hml hv
  obtain ⟨rfl, hP, hk⟩ := hv
  have hx := B.exec
  have hb := B.bytes
  have hr := B.returns
  have hts := atoms_spec (ws := wsX3_most) B.pre
  have hown : s.vm.findClass RX3 = some m.cls := findClass_of_methodNamed B.named
  have hlocks := B.notSynchronized
  have hK := hk.1
  have hl := lv_entry [.ref (ao 0), .int a, .int b] (n := 3) (Nat.le_of_ble_eq_true rfl)
  rw [lg_entry_eq]
  generalize (lg_sl [.ref (ao 0), .int a, .int b] ++ List.replicate (3 - (lg_sl [.ref (ao 0), .int a, .int b]).length) Slot.unset).toArray = ls at hl ⊢
  have hl : lv_has ls 3 [(0, .ref (ao 0)), (1, .int a), (2, .int b)] := hl
  refine lv_iload_n hx hb dX3_most_0 rfl (lv_at hl 1 rfl) ?_
  refine vp_callSi (va_Run.run (va_runSN (As := [.int a]) (rest := []) ⟨hx, hb, hml, hown, hts⟩ (c_X4_isClock l D t a) ⟨va_cnB 1 hts gX3_most_X4_isClock_n17 rfl rfl rfl hk.2.2.2.2.2.2 (hts (Cond.initialized RX4) (List.mem_of_getElem? (i := 4) rfl)) (by decide +kernel) ⟨Nat.le_of_ble_eq_true rfl, Nat.le_of_ble_eq_true rfl⟩, (hts (Cond.static yX4_isClock) (List.mem_of_getElem? (i := 3) rfl)), trivial⟩ (ob_preS (hP.sub [] rfl) hk) rfl rfl hl.1 rfl (lv_room (Nat.le_of_ble_eq_true rfl)) dX3_most_1 ⟨Nat.le_of_ble_eq_true rfl, Nat.le_of_ble_eq_true rfl⟩)) (fun r9 hr9 => ?_)
  subst hr9
  refine ob_if_eq (tgt := 14) hx hb dX3_most_4 (by decide) (fun c4 => ?_) (fun c4 => ?_)
  · refine lv_ldc (v := 1000000) hx hb hown (hts (Cond.constant RX3 16 (1000000)) (List.mem_of_getElem? (i := 1) rfl)) dX3_most_14 ?_
    exact W.iret (v := 1000000) hx hb hr (fun t9 ht hW => ⟨1000000, rfl, (by first | rw [ob_ms_1 c4] | rw [ob_ms_2 c11]), ht⟩) (fun _ h => absurd h List.not_mem_nil) dX3_most_16
  · refine lv_iload_n hx hb dX3_most_7 rfl (lv_at hl 2 rfl) ?_
    refine vp_callSi (va_Run.run (va_runSN (As := [.int b]) (rest := []) ⟨hx, hb, hml, hown, hts⟩ (c_X4_isClock l D t b) ⟨va_cnB 1 hts gX3_most_X4_isClock_n17 rfl rfl rfl hk.2.2.2.2.2.2 (hts (Cond.initialized RX4) (List.mem_of_getElem? (i := 4) rfl)) (by decide +kernel) ⟨Nat.le_of_ble_eq_true rfl, Nat.le_of_ble_eq_true rfl⟩, (hts (Cond.static yX4_isClock) (List.mem_of_getElem? (i := 3) rfl)), trivial⟩ (ob_preS (hP.sub [] rfl) hk) rfl rfl hl.1 rfl (lv_room (Nat.le_of_ble_eq_true rfl)) dX3_most_8 ⟨Nat.le_of_ble_eq_true rfl, Nat.le_of_ble_eq_true rfl⟩)) (fun r9 hr9 => ?_)
    subst hr9
    refine ob_if_ne (tgt := 17) hx hb dX3_most_11 (by decide) (fun c11 => ?_) (fun c11 => ?_)
    · obtain ⟨j1, h1, rfl⟩ := ob_wi_t c4
      obtain ⟨j2, h2, rfl⟩ := ob_wi_t c11
      refine lv_aload_n hx hb dX3_most_17 rfl (lv_at hl 0 rfl) ?_
      refine va_get (ci := 3) (C := RX3) (T := TX3) (N := 1) hx hb hts (fun w h => List.mem_cons_of_mem _ (List.mem_append_right _ (h))) hown hK hP 0 rfl rfl 0 (by decide) (hts (Cond.fieldLink RX3 11 "OutageBook$Offsets" "differences" "[[I") (List.mem_of_getElem? (i := 2) rfl)) (fun _ h9 => h9) rfl dX3_most_18 ?_
      refine lv_iload_n hx hb dX3_most_21 rfl (lv_at hl 1 rfl) ?_
      refine ob_aald (r := ao (2 + j1)) hx hb hK hP 1 3 rfl rfl rfl (show j1 < 5 from (by omega)) (by decide) (if_pos (by omega)) dX3_most_22 ?_
      refine lv_iload_n hx hb dX3_most_23 rfl (lv_at hl 2 rfl) ?_
      refine ob_iald hx hb hK hP (2 + j1) 0 (ob_rO (by omega)) rfl (by omega) (by decide) dX3_most_24 ?_
      exact W.iret (v := (M j1) j2) hx hb hr (fun t9 ht hW => ⟨(M j1) j2, rfl, (ob_ms_nI h1 h2).symm, ht⟩) (fun _ h => absurd h List.not_mem_nil) dX3_most_25
    · refine lv_ldc (v := 1000000) hx hb hown (hts (Cond.constant RX3 16 (1000000)) (List.mem_of_getElem? (i := 1) rfl)) dX3_most_14 ?_
      exact W.iret (v := 1000000) hx hb hr (fun t9 ht hW => ⟨1000000, rfl, (by first | rw [ob_ms_1 c4] | rw [ob_ms_2 c11]), ht⟩) (fun _ h => absurd h List.not_mem_nil) dX3_most_16

set_option maxRecDepth 100000 in
set_option maxHeartbeats 4000000 in
theorem c_X3_allows (l : Launch) (D : va_G) (t : Nat → ClassId) (ao : Nat → Nat) (M : Nat → Nat → Int32) (a b x : Int32) : Met l yX3_allows wsX3_allows ({ frames := 3, cells := 0, slots := 0, locals := 64 } : Room) (ob_Pp D t (ob_wO t ao M) [.ref (ao 0), .int a, .int b, .int x]) (vp_Si (fun r : Int32 => r = ob_bi (decide (-x ≤ ob_ms M b a)))) 0 0 (fun _ => False) := by
  refine Met.ofW (cc := cX3_allows) (maxL := 4) (ret := (some .boolean)) (by decide) rfl ?_
  intro p e s m args below meth c s₁ B hml hv
  obtain ⟨rfl, hP, hk⟩ := hv
  have hx := B.exec
  have hb := B.bytes
  have hr := B.returns
  have hts := atoms_spec (ws := wsX3_allows) B.pre
  have hown : s.vm.findClass RX3 = some m.cls := findClass_of_methodNamed B.named
  have hlocks := B.notSynchronized
  have hK := hk.1
  have hl := lv_entry [.ref (ao 0), .int a, .int b, .int x] (n := 4) (Nat.le_of_ble_eq_true rfl)
  rw [lg_entry_eq]
  generalize (lg_sl [.ref (ao 0), .int a, .int b, .int x] ++ List.replicate (4 - (lg_sl [.ref (ao 0), .int a, .int b, .int x]).length) Slot.unset).toArray = ls at hl ⊢
  have hl : lv_has ls 4 [(0, .ref (ao 0)), (1, .int a), (2, .int b), (3, .int x)] := hl
  refine lv_iload_n hx hb dX3_allows_0 rfl (lv_at hl 3 rfl) ?_
  refine lv_ineg hx hb dX3_allows_1 ?_
  refine lv_aload_n hx hb dX3_allows_2 rfl (lv_at hl 0 rfl) ?_
  refine lv_iload_n hx hb dX3_allows_3 rfl (lv_at hl 2 rfl) ?_
  refine lv_iload_n hx hb dX3_allows_4 rfl (lv_at hl 1 rfl) ?_
  refine vp_callSi (va_Run.run (va_runV (As := [.int b, .int a]) (rest := [.int (-x)]) ⟨hx, hb, hml, hown, hts⟩ (c_X3_most l D t ao M b a) (cwV 2 hts gX3_allows_X3_most rfl rfl rfl (by decide +kernel) ⟨Nat.le_of_ble_eq_true rfl, Nat.le_of_ble_eq_true rfl⟩) (ob_preV (ci := 3) (q0 := 0) hP hk rfl rfl) rfl rfl hl.1 rfl (lv_room (Nat.le_of_ble_eq_true rfl)) dX3_allows_5 ⟨Nat.le_of_ble_eq_true rfl, Nat.le_of_ble_eq_true rfl⟩)) (fun r9 hr9 => ?_)
  subst hr9
  refine lv_icmp_gt (tgt := 15) hx hb dX3_allows_8 (by decide) (fun c8 => ?_) (fun c8 => ?_)
  · refine lv_iconst (v := nI 0) hx hb dX3_allows_15 (by decide) ?_
    exact W.zret (v := nI 0) hx hb hr rfl (fun t9 ht hW => ⟨nI 0, rfl, (by first | (have := Int32.not_le.mpr c8; simp [this, ob_n0, ob_bi]) | (have := Int32.not_lt.mp c8; simp [this, ob_n1, ob_bi])), ht⟩) (fun _ h => absurd h List.not_mem_nil) dX3_allows_16
  · refine lv_iconst (v := nI 1) hx hb dX3_allows_11 (by decide) ?_
    refine lv_goto (tgt := 16) hx hb dX3_allows_12 (by decide) ?_
    exact W.zret (v := nI 1) hx hb hr rfl (fun t9 ht hW => ⟨nI 1, rfl, (by first | (have := Int32.not_le.mpr c8; simp [this, ob_n0, ob_bi]) | (have := Int32.not_lt.mp c8; simp [this, ob_n1, ob_bi])), ht⟩) (fun _ h => absurd h List.not_mem_nil) dX3_allows_16

set_option maxRecDepth 100000 in
set_option maxHeartbeats 4000000 in
theorem c_X1_size (l : Launch) (D : va_G) (t : Nat → ClassId) (al : Nat → Nat) (n : Nat) (cl rd sv pb ba bf od : Nat → Int32) (bg : Nat → Int64) : Met l yX1_size wsX1_size ({ frames := 0, cells := 0, slots := 0, locals := 0 } : Room) (ob_Pp D t (ob_wL t al n cl rd sv pb ba bf od bg) [.ref (al 0)]) (vp_Si (fun r : Int32 => r = nI n)) 0 0 (fun _ => False) := by
  refine Met.ofW (cc := cX1_size) (maxL := 1) (ret := (some .int)) (by decide) rfl ?_
  intro p e s m args below meth c s₁ B hml hv
  obtain ⟨rfl, hP, hk⟩ := hv
  have hx := B.exec
  have hb := B.bytes
  have hr := B.returns
  have hts := atoms_spec (ws := wsX1_size) B.pre
  have hown : s.vm.findClass RX1 = some m.cls := findClass_of_methodNamed B.named
  have hlocks := B.notSynchronized
  have hK := hk.1
  have hl := lv_entry [.ref (al 0)] (n := 1) (Nat.le_of_ble_eq_true rfl)
  rw [lg_entry_eq]
  generalize (lg_sl [.ref (al 0)] ++ List.replicate (1 - (lg_sl [.ref (al 0)]).length) Slot.unset).toArray = ls at hl ⊢
  have hl : lv_has ls 1 [(0, .ref (al 0))] := hl
  refine lv_aload_n hx hb dX1_size_0 rfl (lv_at hl 0 rfl) ?_
  refine va_get (ci := 1) (C := RX1) (T := TX1) (N := 9) hx hb hts (fun w h => List.mem_cons_of_mem _ (List.mem_append_right _ (h))) hown hK hP 0 rfl rfl 8 (by decide) (hts (Cond.fieldLink RX1 38 "OutageBook$Log" "count" "I") (List.mem_of_getElem? (i := 1) rfl)) (fun _ h9 => h9) rfl dX1_size_1 ?_
  exact W.iret (v := nI n) hx hb hr (fun t9 ht hW => ⟨nI n, rfl, rfl, ht⟩) (fun _ h => absurd h List.not_mem_nil) dX1_size_4

set_option maxRecDepth 100000 in
set_option maxHeartbeats 4000000 in
theorem c_X1_holds (l : Launch) (D : va_G) (t : Nat → ClassId) (al : Nat → Nat) (n : Nat) (cl rd sv pb ba bf od : Nat → Int32) (bg : Nat → Int64) (x : Int32) (hn : n ≤ 30) : Met l yX1_holds wsX1_holds ({ frames := 0, cells := 0, slots := 0, locals := 0 } : Room) (ob_Pp D t (ob_wL t al n cl rd sv pb ba bf od bg) [.ref (al 0), .int x]) (vp_Si (fun r : Int32 => r = ob_bi (ob_hd n x))) 0 0 (fun _ => False) := by
  refine Met.ofW (cc := cX1_holds) (maxL := 2) (ret := (some .boolean)) (by decide) rfl ?_
  intro p e s m args below meth c s₁ B hml hv
  obtain ⟨rfl, hP, hk⟩ := hv
  have hx := B.exec
  have hb := B.bytes
  have hr := B.returns
  have hts := atoms_spec (ws := wsX1_holds) B.pre
  have hown : s.vm.findClass RX1 = some m.cls := findClass_of_methodNamed B.named
  have hlocks := B.notSynchronized
  have hK := hk.1
  have hl := lv_entry [.ref (al 0), .int x] (n := 2) (Nat.le_of_ble_eq_true rfl)
  rw [lg_entry_eq]
  generalize (lg_sl [.ref (al 0), .int x] ++ List.replicate (2 - (lg_sl [.ref (al 0), .int x]).length) Slot.unset).toArray = ls at hl ⊢
  have hl : lv_has ls 2 [(0, .ref (al 0)), (1, .int x)] := hl
  refine lv_iload_n hx hb dX1_holds_0 rfl (lv_at hl 1 rfl) ?_
  refine lv_if_lt (tgt := 22) hx hb dX1_holds_1 (by decide) (fun c1 => ?_) (fun c1 => ?_)
  · refine lv_iconst (v := nI 0) hx hb dX1_holds_22 (by decide) ?_
    exact W.zret (v := nI 0) hx hb hr rfl (fun t9 ht hW => ⟨nI 0, rfl, (by first | (rw [ob_hd_neg c1]; rfl) | (rw [ob_hd_ge c9 (Nat.le_refl _)]; rfl) | (rw [ob_hd_ge c15 hn]; rfl) | (rw [ob_hd_ok c1 c9]; rfl)), ht⟩) (fun _ h => absurd h List.not_mem_nil) dX1_holds_23
  · refine lv_iload_n hx hb dX1_holds_4 rfl (lv_at hl 1 rfl) ?_
    refine lv_aload_n hx hb dX1_holds_5 rfl (lv_at hl 0 rfl) ?_
    refine va_get (ci := 1) (C := RX1) (T := TX1) (N := 9) hx hb hts (fun w h => List.mem_cons_of_mem _ (List.mem_append_right _ (h))) hown hK hP 0 rfl rfl 8 (by decide) (hts (Cond.fieldLink RX1 38 "OutageBook$Log" "count" "I") (List.mem_of_getElem? (i := 1) rfl)) (fun _ h9 => h9) rfl dX1_holds_6 ?_
    refine lv_icmp_ge (tgt := 22) hx hb dX1_holds_9 (by decide) (fun c9 => ?_) (fun c9 => ?_)
    · refine lv_iconst (v := nI 0) hx hb dX1_holds_22 (by decide) ?_
      exact W.zret (v := nI 0) hx hb hr rfl (fun t9 ht hW => ⟨nI 0, rfl, (by first | (rw [ob_hd_neg c1]; rfl) | (rw [ob_hd_ge c9 (Nat.le_refl _)]; rfl) | (rw [ob_hd_ge c15 hn]; rfl) | (rw [ob_hd_ok c1 c9]; rfl)), ht⟩) (fun _ h => absurd h List.not_mem_nil) dX1_holds_23
    · refine lv_iload_n hx hb dX1_holds_12 rfl (lv_at hl 1 rfl) ?_
      refine lv_bipush (v := nI 30) hx hb dX1_holds_13 (by decide) ?_
      refine lv_icmp_ge (tgt := 22) hx hb dX1_holds_15 (by decide) (fun c15 => ?_) (fun c15 => ?_)
      · refine lv_iconst (v := nI 0) hx hb dX1_holds_22 (by decide) ?_
        exact W.zret (v := nI 0) hx hb hr rfl (fun t9 ht hW => ⟨nI 0, rfl, (by first | (rw [ob_hd_neg c1]; rfl) | (rw [ob_hd_ge c9 (Nat.le_refl _)]; rfl) | (rw [ob_hd_ge c15 hn]; rfl) | (rw [ob_hd_ok c1 c9]; rfl)), ht⟩) (fun _ h => absurd h List.not_mem_nil) dX1_holds_23
      · refine lv_iconst (v := nI 1) hx hb dX1_holds_18 (by decide) ?_
        refine lv_goto (tgt := 23) hx hb dX1_holds_19 (by decide) ?_
        exact W.zret (v := nI 1) hx hb hr rfl (fun t9 ht hW => ⟨nI 1, rfl, (by first | (rw [ob_hd_neg c1]; rfl) | (rw [ob_hd_ge c9 (Nat.le_refl _)]; rfl) | (rw [ob_hd_ge c15 hn]; rfl) | (rw [ob_hd_ok c1 c9]; rfl)), ht⟩) (fun _ h => absurd h List.not_mem_nil) dX1_holds_23

set_option maxRecDepth 100000 in
set_option maxHeartbeats 4000000 in
theorem c_X1_isBefore (l : Launch) (D : va_G) (t : Nat → ClassId) (al : Nat → Nat) (n : Nat) (cl rd sv pb ba bf od : Nat → Int32) (bg : Nat → Int64) (x y : Int32) (hn : n ≤ 30) : Met l yX1_isBefore wsX1_isBefore ({ frames := 2, cells := 0, slots := 0, locals := 41 } : Room) (ob_Pp D t (ob_wL t al n cl rd sv pb ba bf od bg) [.ref (al 0), .int x, .int y]) (vp_Si (fun r : Int32 => r = ob_bi (ob_hd n y && ob_hb (bf y.toNatClampNeg) x))) 0 0 (fun _ => False) := by
  refine Met.ofW (cc := cX1_isBefore) (maxL := 3) (ret := (some .boolean)) (by decide) rfl ?_
  intro p e s m args below meth c s₁ B hml hv
  obtain ⟨rfl, hP, hk⟩ := hv
  have hx := B.exec
  have hb := B.bytes
  have hr := B.returns
  have hts := atoms_spec (ws := wsX1_isBefore) B.pre
  have hown : s.vm.findClass RX1 = some m.cls := findClass_of_methodNamed B.named
  have hlocks := B.notSynchronized
  have hK := hk.1
  have hl := lv_entry [.ref (al 0), .int x, .int y] (n := 3) (Nat.le_of_ble_eq_true rfl)
  rw [lg_entry_eq]
  generalize (lg_sl [.ref (al 0), .int x, .int y] ++ List.replicate (3 - (lg_sl [.ref (al 0), .int x, .int y]).length) Slot.unset).toArray = ls at hl ⊢
  have hl : lv_has ls 3 [(0, .ref (al 0)), (1, .int x), (2, .int y)] := hl
  refine lv_aload_n hx hb dX1_isBefore_0 rfl (lv_at hl 0 rfl) ?_
  refine lv_iload_n hx hb dX1_isBefore_1 rfl (lv_at hl 2 rfl) ?_
  refine vp_callSi (va_Run.run (va_runV (As := [.int y]) (rest := []) ⟨hx, hb, hml, hown, hts⟩ (c_X1_holds l D t al n cl rd sv pb ba bf od bg y (by first | assumption | omega)) (cwV 1 hts gX1_isBefore_X1_holds rfl rfl rfl (by decide +kernel) ⟨Nat.le_of_ble_eq_true rfl, Nat.le_of_ble_eq_true rfl⟩) (ob_preV (ci := 1) (q0 := 0) hP hk rfl rfl) rfl rfl hl.1 rfl (lv_room (Nat.le_of_ble_eq_true rfl)) dX1_isBefore_2 ⟨Nat.le_of_ble_eq_true rfl, Nat.le_of_ble_eq_true rfl⟩)) (fun r9 hr9 => ?_)
  subst hr9
  refine ob_if_eq (tgt := 25) hx hb dX1_isBefore_5 (by decide) (fun c5 => ?_) (fun c5 => ?_)
  · refine lv_iconst (v := nI 0) hx hb dX1_isBefore_25 (by decide) ?_
    exact W.zret (v := nI 0) hx hb hr rfl (fun t9 ht hW => ⟨nI 0, rfl, (by first | (rw [c5]; rfl) | (rw [c5, ob_cl (by omega), c18]; rfl)), ht⟩) (fun _ h => absurd h List.not_mem_nil) dX1_isBefore_26
  · obtain ⟨j, hj, rfl⟩ := ob_hd_t c5
    refine lv_aload_n hx hb dX1_isBefore_8 rfl (lv_at hl 0 rfl) ?_
    refine va_get (ci := 1) (C := RX1) (T := TX1) (N := 9) hx hb hts (fun w h => List.mem_cons_of_mem _ (List.mem_append_right _ (h))) hown hK hP 0 rfl rfl 5 (by decide) (hts (Cond.fieldLink RX1 28 "OutageBook$Log" "before" "[I") (List.mem_of_getElem? (i := 1) rfl)) (fun _ h9 => h9) rfl dX1_isBefore_9 ?_
    refine lv_iload_n hx hb dX1_isBefore_12 rfl (lv_at hl 2 rfl) ?_
    refine ob_iald hx hb hK hP 6 0 rfl rfl (by omega) (by decide) dX1_isBefore_13 ?_
    refine lv_iload_n hx hb dX1_isBefore_14 rfl (lv_at hl 1 rfl) ?_
    refine vp_callSi (va_Run.run (va_runSN (As := [.int (bf j), .int x]) (rest := []) ⟨hx, hb, hml, hown, hts⟩ (c_X4_hasBit l D t (bf j) x) ⟨va_cnB 2 hts gX1_isBefore_X4_hasBit_n46 rfl rfl rfl hk.2.2.2.1 (hts (Cond.initialized RX4) (List.mem_of_getElem? (i := 9) rfl)) (by decide +kernel) ⟨Nat.le_of_ble_eq_true rfl, Nat.le_of_ble_eq_true rfl⟩, (hts (Cond.static yX4_hasBit) (List.mem_of_getElem? (i := 8) rfl)), trivial⟩ (ob_preS (hP.sub [] rfl) hk) rfl rfl hl.1 rfl (lv_room (Nat.le_of_ble_eq_true rfl)) dX1_isBefore_15 ⟨Nat.le_of_ble_eq_true rfl, Nat.le_of_ble_eq_true rfl⟩)) (fun r9 hr9 => ?_)
    subst hr9
    refine ob_if_eq (tgt := 25) hx hb dX1_isBefore_18 (by decide) (fun c18 => ?_) (fun c18 => ?_)
    · refine lv_iconst (v := nI 0) hx hb dX1_isBefore_25 (by decide) ?_
      exact W.zret (v := nI 0) hx hb hr rfl (fun t9 ht hW => ⟨nI 0, rfl, (by first | (rw [c5]; rfl) | (rw [c5, ob_cl (by omega), c18]; rfl)), ht⟩) (fun _ h => absurd h List.not_mem_nil) dX1_isBefore_26
    · refine lv_iconst (v := nI 1) hx hb dX1_isBefore_21 (by decide) ?_
      refine lv_goto (tgt := 26) hx hb dX1_isBefore_22 (by decide) ?_
      exact W.zret (v := nI 1) hx hb hr rfl (fun t9 ht hW => ⟨nI 1, rfl, (by first | (rw [c5]; rfl) | (rw [c5, ob_cl (by omega), c18]; rfl)), ht⟩) (fun _ h => absurd h List.not_mem_nil) dX1_isBefore_26

set_option maxRecDepth 100000 in
set_option maxHeartbeats 4000000 in
theorem c_X1_at (l : Launch) (D : va_G) (t : Nat → ClassId) (al : Nat → Nat) (n : Nat) (cl rd sv pb ba bf od : Nat → Int32) (bg : Nat → Int64) (x : Int32) (hn : n ≤ 30) : Met l yX1_at wsX1_at ({ frames := 1, cells := 0, slots := 0, locals := 21 } : Room) (ob_Pp D t (ob_wL t al n cl rd sv pb ba bf od bg) [.ref (al 0), .int x]) (vp_Si (fun r : Int32 => r = ob_at n od x)) 0 0 (fun _ => False) := by
  refine Met.ofW (cc := cX1_at) (maxL := 2) (ret := (some .int)) (by decide) rfl ?_
  intro p e s m args below meth c s₁ B hml hv
  obtain ⟨rfl, hP, hk⟩ := hv
  have hx := B.exec
  have hb := B.bytes
  have hr := B.returns
  have hts := atoms_spec (ws := wsX1_at) B.pre
  have hown : s.vm.findClass RX1 = some m.cls := findClass_of_methodNamed B.named
  have hlocks := B.notSynchronized
  have hK := hk.1
  have hl := lv_entry [.ref (al 0), .int x] (n := 2) (Nat.le_of_ble_eq_true rfl)
  rw [lg_entry_eq]
  generalize (lg_sl [.ref (al 0), .int x] ++ List.replicate (2 - (lg_sl [.ref (al 0), .int x]).length) Slot.unset).toArray = ls at hl ⊢
  have hl : lv_has ls 2 [(0, .ref (al 0)), (1, .int x)] := hl
  refine lv_aload_n hx hb dX1_at_0 rfl (lv_at hl 0 rfl) ?_
  refine lv_iload_n hx hb dX1_at_1 rfl (lv_at hl 1 rfl) ?_
  refine vp_callSi (va_Run.run (va_runV (As := [.int x]) (rest := []) ⟨hx, hb, hml, hown, hts⟩ (c_X1_holds l D t al n cl rd sv pb ba bf od bg x (by first | assumption | omega)) (cwV 1 hts gX1_at_X1_holds rfl rfl rfl (by decide +kernel) ⟨Nat.le_of_ble_eq_true rfl, Nat.le_of_ble_eq_true rfl⟩) (ob_preV (ci := 1) (q0 := 0) hP hk rfl rfl) rfl rfl hl.1 rfl (lv_room (Nat.le_of_ble_eq_true rfl)) dX1_at_2 ⟨Nat.le_of_ble_eq_true rfl, Nat.le_of_ble_eq_true rfl⟩)) (fun r9 hr9 => ?_)
  subst hr9
  refine ob_if_eq (tgt := 17) hx hb dX1_at_5 (by decide) (fun c5 => ?_) (fun c5 => ?_)
  · refine lv_iconst (v := (-1)) hx hb dX1_at_17 (by decide) ?_
    exact W.iret (v := (-1)) hx hb hr (fun t9 ht hW => ⟨(-1), rfl, (by first | exact (ob_at_nI hj).symm | (unfold ob_at; rw [c5]; rfl)), ht⟩) (fun _ h => absurd h List.not_mem_nil) dX1_at_18
  · obtain ⟨j, hj, rfl⟩ := ob_hd_t c5
    refine lv_aload_n hx hb dX1_at_8 rfl (lv_at hl 0 rfl) ?_
    refine va_get (ci := 1) (C := RX1) (T := TX1) (N := 9) hx hb hts (fun w h => List.mem_cons_of_mem _ (List.mem_append_right _ (h))) hown hK hP 0 rfl rfl 6 (by decide) (hts (Cond.fieldLink RX1 31 "OutageBook$Log" "order" "[I") (List.mem_of_getElem? (i := 1) rfl)) (fun _ h9 => h9) rfl dX1_at_9 ?_
    refine lv_iload_n hx hb dX1_at_12 rfl (lv_at hl 1 rfl) ?_
    refine ob_iald hx hb hK hP 7 0 rfl rfl (by omega) (by decide) dX1_at_13 ?_
    refine lv_goto (tgt := 18) hx hb dX1_at_14 (by decide) ?_
    exact W.iret (v := od j) hx hb hr (fun t9 ht hW => ⟨od j, rfl, (by first | exact (ob_at_nI hj).symm | (unfold ob_at; rw [c5]; rfl)), ht⟩) (fun _ h => absurd h List.not_mem_nil) dX1_at_18

set_option maxRecDepth 100000 in
set_option maxHeartbeats 4000000 in
theorem c_X1_isDoubted (l : Launch) (D : va_G) (t : Nat → ClassId) (al : Nat → Nat) (n : Nat) (cl rd sv pb ba bf od : Nat → Int32) (bg : Nat → Int64) (x : Int32) (hn : n ≤ 30) : Met l yX1_isDoubted wsX1_isDoubted ({ frames := 1, cells := 0, slots := 0, locals := 21 } : Room) (ob_Pp D t (ob_wL t al n cl rd sv pb ba bf od bg) [.ref (al 0), .int x]) (vp_Si (fun r : Int32 => r = ob_bi (ob_hd n x && decide (ba x.toNatClampNeg < 0)))) 0 0 (fun _ => False) := by
  refine Met.ofW (cc := cX1_isDoubted) (maxL := 2) (ret := (some .boolean)) (by decide) rfl ?_
  intro p e s m args below meth c s₁ B hml hv
  obtain ⟨rfl, hP, hk⟩ := hv
  have hx := B.exec
  have hb := B.bytes
  have hr := B.returns
  have hts := atoms_spec (ws := wsX1_isDoubted) B.pre
  have hown : s.vm.findClass RX1 = some m.cls := findClass_of_methodNamed B.named
  have hlocks := B.notSynchronized
  have hK := hk.1
  have hl := lv_entry [.ref (al 0), .int x] (n := 2) (Nat.le_of_ble_eq_true rfl)
  rw [lg_entry_eq]
  generalize (lg_sl [.ref (al 0), .int x] ++ List.replicate (2 - (lg_sl [.ref (al 0), .int x]).length) Slot.unset).toArray = ls at hl ⊢
  have hl : lv_has ls 2 [(0, .ref (al 0)), (1, .int x)] := hl
  refine lv_aload_n hx hb dX1_isDoubted_0 rfl (lv_at hl 0 rfl) ?_
  refine lv_iload_n hx hb dX1_isDoubted_1 rfl (lv_at hl 1 rfl) ?_
  refine vp_callSi (va_Run.run (va_runV (As := [.int x]) (rest := []) ⟨hx, hb, hml, hown, hts⟩ (c_X1_holds l D t al n cl rd sv pb ba bf od bg x (by first | assumption | omega)) (cwV 1 hts gX1_isDoubted_X1_holds rfl rfl rfl (by decide +kernel) ⟨Nat.le_of_ble_eq_true rfl, Nat.le_of_ble_eq_true rfl⟩) (ob_preV (ci := 1) (q0 := 0) hP hk rfl rfl) rfl rfl hl.1 rfl (lv_room (Nat.le_of_ble_eq_true rfl)) dX1_isDoubted_2 ⟨Nat.le_of_ble_eq_true rfl, Nat.le_of_ble_eq_true rfl⟩)) (fun r9 hr9 => ?_)
  subst hr9
  refine ob_if_eq (tgt := 21) hx hb dX1_isDoubted_5 (by decide) (fun c5 => ?_) (fun c5 => ?_)
  · refine lv_iconst (v := nI 0) hx hb dX1_isDoubted_21 (by decide) ?_
    exact W.zret (v := nI 0) hx hb hr rfl (fun t9 ht hW => ⟨nI 0, rfl, (by first | (rw [c5]; rfl) | (rw [c5, ob_cl (by omega), decide_eq_true (Int32.not_le.mp c14)]; rfl) | (rw [c5, ob_cl (by omega), decide_eq_false (Int32.not_lt.mpr c14)]; rfl)), ht⟩) (fun _ h => absurd h List.not_mem_nil) dX1_isDoubted_22
  · obtain ⟨j, hj, rfl⟩ := ob_hd_t c5
    refine lv_aload_n hx hb dX1_isDoubted_8 rfl (lv_at hl 0 rfl) ?_
    refine va_get (ci := 1) (C := RX1) (T := TX1) (N := 9) hx hb hts (fun w h => List.mem_cons_of_mem _ (List.mem_append_right _ (h))) hown hK hP 0 rfl rfl 4 (by decide) (hts (Cond.fieldLink RX1 25 "OutageBook$Log" "balances" "[I") (List.mem_of_getElem? (i := 1) rfl)) (fun _ h9 => h9) rfl dX1_isDoubted_9 ?_
    refine lv_iload_n hx hb dX1_isDoubted_12 rfl (lv_at hl 1 rfl) ?_
    refine ob_iald hx hb hK hP 5 0 rfl rfl (by omega) (by decide) dX1_isDoubted_13 ?_
    refine lv_if_ge (tgt := 21) hx hb dX1_isDoubted_14 (by decide) (fun c14 => ?_) (fun c14 => ?_)
    · refine lv_iconst (v := nI 0) hx hb dX1_isDoubted_21 (by decide) ?_
      exact W.zret (v := nI 0) hx hb hr rfl (fun t9 ht hW => ⟨nI 0, rfl, (by first | (rw [c5]; rfl) | (rw [c5, ob_cl (by omega), decide_eq_true (Int32.not_le.mp c14)]; rfl) | (rw [c5, ob_cl (by omega), decide_eq_false (Int32.not_lt.mpr c14)]; rfl)), ht⟩) (fun _ h => absurd h List.not_mem_nil) dX1_isDoubted_22
    · refine lv_iconst (v := nI 1) hx hb dX1_isDoubted_17 (by decide) ?_
      refine lv_goto (tgt := 22) hx hb dX1_isDoubted_18 (by decide) ?_
      exact W.zret (v := nI 1) hx hb hr rfl (fun t9 ht hW => ⟨nI 1, rfl, (by first | (rw [c5]; rfl) | (rw [c5, ob_cl (by omega), decide_eq_true (Int32.not_le.mp c14)]; rfl) | (rw [c5, ob_cl (by omega), decide_eq_false (Int32.not_lt.mpr c14)]; rfl)), ht⟩) (fun _ h => absurd h List.not_mem_nil) dX1_isDoubted_22

set_option maxRecDepth 100000 in
set_option maxHeartbeats 4000000 in
theorem c_X1_isInStory (l : Launch) (D : va_G) (t : Nat → ClassId) (al : Nat → Nat) (n : Nat) (cl rd sv pb ba bf od : Nat → Int32) (bg : Nat → Int64) (x : Int32) (hn : n ≤ 30) : Met l yX1_isInStory wsX1_isInStory ({ frames := 1, cells := 0, slots := 0, locals := 21 } : Room) (ob_Pp D t (ob_wL t al n cl rd sv pb ba bf od bg) [.ref (al 0), .int x]) (vp_Si (fun r : Int32 => r = ob_bi (ob_hd n x && ob_st pb ba x.toNatClampNeg))) 0 0 (fun _ => False) := by
  refine Met.ofW (cc := cX1_isInStory) (maxL := 2) (ret := (some .boolean)) (by decide) rfl ?_
  intro p e s m args below meth c s₁ B hml hv
  obtain ⟨rfl, hP, hk⟩ := hv
  have hx := B.exec
  have hb := B.bytes
  have hr := B.returns
  have hts := atoms_spec (ws := wsX1_isInStory) B.pre
  have hown : s.vm.findClass RX1 = some m.cls := findClass_of_methodNamed B.named
  have hlocks := B.notSynchronized
  have hK := hk.1
  have hl := lv_entry [.ref (al 0), .int x] (n := 2) (Nat.le_of_ble_eq_true rfl)
  rw [lg_entry_eq]
  generalize (lg_sl [.ref (al 0), .int x] ++ List.replicate (2 - (lg_sl [.ref (al 0), .int x]).length) Slot.unset).toArray = ls at hl ⊢
  have hl : lv_has ls 2 [(0, .ref (al 0)), (1, .int x)] := hl
  refine lv_aload_n hx hb dX1_isInStory_0 rfl (lv_at hl 0 rfl) ?_
  refine lv_iload_n hx hb dX1_isInStory_1 rfl (lv_at hl 1 rfl) ?_
  refine vp_callSi (va_Run.run (va_runV (As := [.int x]) (rest := []) ⟨hx, hb, hml, hown, hts⟩ (c_X1_holds l D t al n cl rd sv pb ba bf od bg x (by first | assumption | omega)) (cwV 1 hts gX1_isInStory_X1_holds rfl rfl rfl (by decide +kernel) ⟨Nat.le_of_ble_eq_true rfl, Nat.le_of_ble_eq_true rfl⟩) (ob_preV (ci := 1) (q0 := 0) hP hk rfl rfl) rfl rfl hl.1 rfl (lv_room (Nat.le_of_ble_eq_true rfl)) dX1_isInStory_2 ⟨Nat.le_of_ble_eq_true rfl, Nat.le_of_ble_eq_true rfl⟩)) (fun r9 hr9 => ?_)
  subst hr9
  refine ob_if_eq (tgt := 30) hx hb dX1_isInStory_5 (by decide) (fun c5 => ?_) (fun c5 => ?_)
  · refine lv_iconst (v := nI 0) hx hb dX1_isInStory_30 (by decide) ?_
    exact W.zret (v := nI 0) hx hb hr rfl (fun t9 ht hW => ⟨nI 0, rfl, (by first | (rw [c5]; rfl) | (rw [c5, ob_cl (by omega), ob_st, decide_eq_true c14]; rfl) | (rw [c5, ob_cl (by omega), ob_st, decide_eq_false c14, decide_eq_true c23]; rfl) | (rw [c5, ob_cl (by omega), ob_st, decide_eq_false c14, decide_eq_false c23]; rfl)), ht⟩) (fun _ h => absurd h List.not_mem_nil) dX1_isInStory_31
  · obtain ⟨j, hj, rfl⟩ := ob_hd_t c5
    refine lv_aload_n hx hb dX1_isInStory_8 rfl (lv_at hl 0 rfl) ?_
    refine va_get (ci := 1) (C := RX1) (T := TX1) (N := 9) hx hb hts (fun w h => List.mem_cons_of_mem _ (List.mem_append_right _ (h))) hown hK hP 0 rfl rfl 3 (by decide) (hts (Cond.fieldLink RX1 21 "OutageBook$Log" "arePublic" "[Z") (List.mem_of_getElem? (i := 1) rfl)) (fun _ h9 => h9) rfl dX1_isInStory_9 ?_
    refine lv_iload_n hx hb dX1_isInStory_12 rfl (lv_at hl 1 rfl) ?_
    refine ob_zald hx hb hK hP 4 2 rfl rfl (by omega) (by decide) dX1_isInStory_13 ?_
    refine lv_if_eq (tgt := 30) hx hb dX1_isInStory_14 (by decide) (fun c14 => ?_) (fun c14 => ?_)
    · refine lv_iconst (v := nI 0) hx hb dX1_isInStory_30 (by decide) ?_
      exact W.zret (v := nI 0) hx hb hr rfl (fun t9 ht hW => ⟨nI 0, rfl, (by first | (rw [c5]; rfl) | (rw [c5, ob_cl (by omega), ob_st, decide_eq_true c14]; rfl) | (rw [c5, ob_cl (by omega), ob_st, decide_eq_false c14, decide_eq_true c23]; rfl) | (rw [c5, ob_cl (by omega), ob_st, decide_eq_false c14, decide_eq_false c23]; rfl)), ht⟩) (fun _ h => absurd h List.not_mem_nil) dX1_isInStory_31
    · refine lv_aload_n hx hb dX1_isInStory_17 rfl (lv_at hl 0 rfl) ?_
      refine va_get (ci := 1) (C := RX1) (T := TX1) (N := 9) hx hb hts (fun w h => List.mem_cons_of_mem _ (List.mem_append_right _ (h))) hown hK hP 0 rfl rfl 4 (by decide) (hts (Cond.fieldLink RX1 25 "OutageBook$Log" "balances" "[I") (List.mem_of_getElem? (i := 2) rfl)) (fun _ h9 => h9) rfl dX1_isInStory_18 ?_
      refine lv_iload_n hx hb dX1_isInStory_21 rfl (lv_at hl 1 rfl) ?_
      refine ob_iald hx hb hK hP 5 0 rfl rfl (by omega) (by decide) dX1_isInStory_22 ?_
      refine lv_if_lt (tgt := 30) hx hb dX1_isInStory_23 (by decide) (fun c23 => ?_) (fun c23 => ?_)
      · refine lv_iconst (v := nI 0) hx hb dX1_isInStory_30 (by decide) ?_
        exact W.zret (v := nI 0) hx hb hr rfl (fun t9 ht hW => ⟨nI 0, rfl, (by first | (rw [c5]; rfl) | (rw [c5, ob_cl (by omega), ob_st, decide_eq_true c14]; rfl) | (rw [c5, ob_cl (by omega), ob_st, decide_eq_false c14, decide_eq_true c23]; rfl) | (rw [c5, ob_cl (by omega), ob_st, decide_eq_false c14, decide_eq_false c23]; rfl)), ht⟩) (fun _ h => absurd h List.not_mem_nil) dX1_isInStory_31
      · refine lv_iconst (v := nI 1) hx hb dX1_isInStory_26 (by decide) ?_
        refine lv_goto (tgt := 31) hx hb dX1_isInStory_27 (by decide) ?_
        exact W.zret (v := nI 1) hx hb hr rfl (fun t9 ht hW => ⟨nI 1, rfl, (by first | (rw [c5]; rfl) | (rw [c5, ob_cl (by omega), ob_st, decide_eq_true c14]; rfl) | (rw [c5, ob_cl (by omega), ob_st, decide_eq_false c14, decide_eq_true c23]; rfl) | (rw [c5, ob_cl (by omega), ob_st, decide_eq_false c14, decide_eq_false c23]; rfl)), ht⟩) (fun _ h => absurd h List.not_mem_nil) dX1_isInStory_31

set_option maxRecDepth 100000 in
set_option maxHeartbeats 4000000 in
theorem c_X1_isSurelyEarlier (l : Launch) (D : va_G) (t : Nat → ClassId) (al : Nat → Nat) (n : Nat) (cl rd sv pb ba bf od : Nat → Int32) (bg : Nat → Int64) (ao : Nat → Nat) (M : Nat → Nat → Int32) (i j : Nat) (hn : n ≤ 30) (hi : i < n) (hj : j < n) : Met l yX1_isSurelyEarlier wsX1_isSurelyEarlier ({ frames := 3, cells := 0, slots := 0, locals := 64 } : Room) (ob_Pp D t (ob_wL t al n cl rd sv pb ba bf od bg ++ ob_wO t ao M) [.ref (al 0), .int (nI i), .int (nI j), .ref (ao 0)]) (vp_Si (fun r : Int32 => r = ob_bi (ob_se M cl rd i j))) 0 0 (fun _ => False) := by
  refine Met.ofW (cc := cX1_isSurelyEarlier) (maxL := 5) (ret := (some .boolean)) (by decide) rfl ?_
  intro p e s m args below meth c s₁ B hml hv
  obtain ⟨rfl, hP, hk⟩ := hv
  have hx := B.exec
  have hb := B.bytes
  have hr := B.returns
  have hts := atoms_spec (ws := wsX1_isSurelyEarlier) B.pre
  have hown : s.vm.findClass RX1 = some m.cls := findClass_of_methodNamed B.named
  have hlocks := B.notSynchronized
  have hK := hk.1
  have hl := lv_entry [.ref (al 0), .int (nI i), .int (nI j), .ref (ao 0)] (n := 5) (Nat.le_of_ble_eq_true rfl)
  rw [lg_entry_eq]
  generalize (lg_sl [.ref (al 0), .int (nI i), .int (nI j), .ref (ao 0)] ++ List.replicate (5 - (lg_sl [.ref (al 0), .int (nI i), .int (nI j), .ref (ao 0)]).length) Slot.unset).toArray = ls at hl ⊢
  have hl : lv_has ls 5 [(0, .ref (al 0)), (1, .int (nI i)), (2, .int (nI j)), (3, .ref (ao 0))] := hl
  refine lv_aload_n hx hb dX1_isSurelyEarlier_0 rfl (lv_at hl 0 rfl) ?_
  refine lv_iload_n hx hb dX1_isSurelyEarlier_1 rfl (lv_at hl 1 rfl) ?_
  refine vp_callSi (va_Run.run (va_runV (As := [.int (nI i)]) (rest := []) ⟨hx, hb, hml, hown, hts⟩ (c_X1_holds l D t al n cl rd sv pb ba bf od bg (nI i) (by first | assumption | omega)) (cwV 1 hts gX1_isSurelyEarlier_X1_holds rfl rfl rfl (by decide +kernel) ⟨Nat.le_of_ble_eq_true rfl, Nat.le_of_ble_eq_true rfl⟩) (ob_preV (ci := 1) (q0 := 0) (hP.sub [0, 1, 2, 3, 4, 5, 6, 7, 8] rfl) hk rfl rfl) rfl rfl hl.1 rfl (lv_room (Nat.le_of_ble_eq_true rfl)) dX1_isSurelyEarlier_2 ⟨Nat.le_of_ble_eq_true rfl, Nat.le_of_ble_eq_true rfl⟩)) (fun r9 hr9 => ?_)
  subst hr9
  refine ob_if_eq (tgt := 16) hx hb dX1_isSurelyEarlier_5 (by decide) (fun c5 => ?_) (fun c5 => ?_)
  · rw [ob_hd_nI hi] at c5; cases c5
  · refine lv_aload_n hx hb dX1_isSurelyEarlier_8 rfl (lv_at hl 0 rfl) ?_
    refine lv_iload_n hx hb dX1_isSurelyEarlier_9 rfl (lv_at hl 2 rfl) ?_
    refine vp_callSi (va_Run.run (va_runV (As := [.int (nI j)]) (rest := []) ⟨hx, hb, hml, hown, hts⟩ (c_X1_holds l D t al n cl rd sv pb ba bf od bg (nI j) (by first | assumption | omega)) (cwV 1 hts gX1_isSurelyEarlier_X1_holds rfl rfl rfl (by decide +kernel) ⟨Nat.le_of_ble_eq_true rfl, Nat.le_of_ble_eq_true rfl⟩) (ob_preV (ci := 1) (q0 := 0) (hP.sub [0, 1, 2, 3, 4, 5, 6, 7, 8] rfl) hk rfl rfl) rfl rfl hl.1 rfl (lv_room (Nat.le_of_ble_eq_true rfl)) dX1_isSurelyEarlier_10 ⟨Nat.le_of_ble_eq_true rfl, Nat.le_of_ble_eq_true rfl⟩)) (fun r9 hr9 => ?_)
    subst hr9
    refine ob_if_ne (tgt := 18) hx hb dX1_isSurelyEarlier_13 (by decide) (fun c13 => ?_) (fun c13 => ?_)
    · refine lv_aload_n hx hb dX1_isSurelyEarlier_18 rfl (lv_at hl 3 rfl) ?_
      refine lv_aload_n hx hb dX1_isSurelyEarlier_19 rfl (lv_at hl 0 rfl) ?_
      refine va_get (ci := 1) (C := RX1) (T := TX1) (N := 9) hx hb hts (fun w h => List.mem_cons_of_mem _ (List.mem_append_left _ (List.mem_append_right _ (h)))) hown hK hP 0 rfl rfl 0 (by decide) (hts (Cond.fieldLink RX1 9 "OutageBook$Log" "clocks" "[I") (List.mem_of_getElem? (i := 1) rfl)) (fun _ h9 => h9) rfl dX1_isSurelyEarlier_20 ?_
      refine lv_iload_n hx hb dX1_isSurelyEarlier_23 rfl (lv_at hl 1 rfl) ?_
      refine ob_iald hx hb hK hP 1 0 rfl rfl (by omega) (by decide) dX1_isSurelyEarlier_24 ?_
      refine lv_aload_n hx hb dX1_isSurelyEarlier_25 rfl (lv_at hl 0 rfl) ?_
      refine va_get (ci := 1) (C := RX1) (T := TX1) (N := 9) hx hb hts (fun w h => List.mem_cons_of_mem _ (List.mem_append_left _ (List.mem_append_right _ (h)))) hown hK hP 0 rfl rfl 0 (by decide) (hts (Cond.fieldLink RX1 9 "OutageBook$Log" "clocks" "[I") (List.mem_of_getElem? (i := 1) rfl)) (fun _ h9 => h9) rfl dX1_isSurelyEarlier_26 ?_
      refine lv_iload_n hx hb dX1_isSurelyEarlier_29 rfl (lv_at hl 2 rfl) ?_
      refine ob_iald hx hb hK hP 1 0 rfl rfl (by omega) (by decide) dX1_isSurelyEarlier_30 ?_
      refine vp_callSi (va_Run.run (va_runV (As := [.int (cl i), .int (cl j)]) (rest := []) ⟨hx, hb, hml, hown, hts⟩ (c_X3_most l D t ao M (cl i) (cl j)) (cwV 2 hts gX1_isSurelyEarlier_X3_most rfl rfl rfl (by decide +kernel) ⟨Nat.le_of_ble_eq_true rfl, Nat.le_of_ble_eq_true rfl⟩) (ob_preV (ci := 3) (q0 := 0) (hP.sub [9, 10, 11, 12, 13, 14, 15] rfl) hk rfl rfl) rfl rfl hl.1 rfl (lv_room (Nat.le_of_ble_eq_true rfl)) dX1_isSurelyEarlier_31 ⟨Nat.le_of_ble_eq_true rfl, Nat.le_of_ble_eq_true rfl⟩)) (fun r9 hr9 => ?_)
      subst hr9
      refine lv_istore (lv' := [(4, .int (ob_ms M (cl i) (cl j))), (0, .ref (al 0)), (1, .int (nI i)), (2, .int (nI j)), (3, .ref (ao 0))]) hx hb dX1_isSurelyEarlier_34 hl (by decide) rfl (fun ls hl => ?_)
      refine lv_iload hx hb dX1_isSurelyEarlier_36 (lv_at hl 0 rfl) ?_
      refine lv_ldc (v := 1000000) hx hb hown (hts (Cond.constant RX1 57 (1000000)) (List.mem_of_getElem? (i := 2) rfl)) dX1_isSurelyEarlier_38 ?_
      refine lv_icmp_ge (tgt := 65) hx hb dX1_isSurelyEarlier_40 (by decide) (fun c40 => ?_) (fun c40 => ?_)
      · refine lv_iconst (v := nI 0) hx hb dX1_isSurelyEarlier_65 (by decide) ?_
        exact W.zret (v := nI 0) hx hb hr rfl (fun t9 ht hW => ⟨nI 0, rfl, (by first | (have h9 := Int32.not_lt.mpr c40; simp only [ob_se, decide_eq_false h9]; rfl) | (have h8 := Int32.not_le.mp c40; have h9 := Int32.not_lt.mpr c58; simp only [ob_se, decide_eq_true h8, decide_eq_false h9]; rfl) | (have h8 := Int32.not_le.mp c40; have h9 := Int32.not_le.mp c58; simp only [ob_se, decide_eq_true h8, decide_eq_true h9]; rfl)), ht⟩) (fun _ h => absurd h List.not_mem_nil) dX1_isSurelyEarlier_66
      · refine lv_aload_n hx hb dX1_isSurelyEarlier_43 rfl (lv_at hl 1 rfl) ?_
        refine va_get (ci := 1) (C := RX1) (T := TX1) (N := 9) hx hb hts (fun w h => List.mem_cons_of_mem _ (List.mem_append_left _ (List.mem_append_right _ (h)))) hown hK hP 0 rfl rfl 1 (by decide) (hts (Cond.fieldLink RX1 15 "OutageBook$Log" "readings" "[I") (List.mem_of_getElem? (i := 3) rfl)) (fun _ h9 => h9) rfl dX1_isSurelyEarlier_44 ?_
        refine lv_iload_n hx hb dX1_isSurelyEarlier_47 rfl (lv_at hl 2 rfl) ?_
        refine ob_iald hx hb hK hP 2 0 rfl rfl (by omega) (by decide) dX1_isSurelyEarlier_48 ?_
        refine lv_iload hx hb dX1_isSurelyEarlier_49 (lv_at hl 0 rfl) ?_
        refine lv_iadd hx hb dX1_isSurelyEarlier_51 ?_
        refine lv_aload_n hx hb dX1_isSurelyEarlier_52 rfl (lv_at hl 1 rfl) ?_
        refine va_get (ci := 1) (C := RX1) (T := TX1) (N := 9) hx hb hts (fun w h => List.mem_cons_of_mem _ (List.mem_append_left _ (List.mem_append_right _ (h)))) hown hK hP 0 rfl rfl 1 (by decide) (hts (Cond.fieldLink RX1 15 "OutageBook$Log" "readings" "[I") (List.mem_of_getElem? (i := 3) rfl)) (fun _ h9 => h9) rfl dX1_isSurelyEarlier_53 ?_
        refine lv_iload_n hx hb dX1_isSurelyEarlier_56 rfl (lv_at hl 3 rfl) ?_
        refine ob_iald hx hb hK hP 2 0 rfl rfl (by omega) (by decide) dX1_isSurelyEarlier_57 ?_
        refine lv_icmp_ge (tgt := 65) hx hb dX1_isSurelyEarlier_58 (by decide) (fun c58 => ?_) (fun c58 => ?_)
        · refine lv_iconst (v := nI 0) hx hb dX1_isSurelyEarlier_65 (by decide) ?_
          exact W.zret (v := nI 0) hx hb hr rfl (fun t9 ht hW => ⟨nI 0, rfl, (by first | (have h9 := Int32.not_lt.mpr c40; simp only [ob_se, decide_eq_false h9]; rfl) | (have h8 := Int32.not_le.mp c40; have h9 := Int32.not_lt.mpr c58; simp only [ob_se, decide_eq_true h8, decide_eq_false h9]; rfl) | (have h8 := Int32.not_le.mp c40; have h9 := Int32.not_le.mp c58; simp only [ob_se, decide_eq_true h8, decide_eq_true h9]; rfl)), ht⟩) (fun _ h => absurd h List.not_mem_nil) dX1_isSurelyEarlier_66
        · refine lv_iconst (v := nI 1) hx hb dX1_isSurelyEarlier_61 (by decide) ?_
          refine lv_goto (tgt := 66) hx hb dX1_isSurelyEarlier_62 (by decide) ?_
          exact W.zret (v := nI 1) hx hb hr rfl (fun t9 ht hW => ⟨nI 1, rfl, (by first | (have h9 := Int32.not_lt.mpr c40; simp only [ob_se, decide_eq_false h9]; rfl) | (have h8 := Int32.not_le.mp c40; have h9 := Int32.not_lt.mpr c58; simp only [ob_se, decide_eq_true h8, decide_eq_false h9]; rfl) | (have h8 := Int32.not_le.mp c40; have h9 := Int32.not_le.mp c58; simp only [ob_se, decide_eq_true h8, decide_eq_true h9]; rfl)), ht⟩) (fun _ h => absurd h List.not_mem_nil) dX1_isSurelyEarlier_66
    · rw [ob_hd_nI hj] at c13; cases c13
