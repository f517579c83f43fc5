set_option maxRecDepth 100000 in
set_option maxHeartbeats 4000000 in
theorem c_X5_isIn (l : Launch) (D : va_G) (t : Nat → ClassId) (v lo hi : Int32) : Met l yX5_isIn wsX5_isIn ({ frames := 0, cells := 0, slots := 0, locals := 0 } : Room) (ob_Pp D t ([]) [.int v, .int lo, .int hi]) (vp_Si (fun r : Int32 => r = ob_bi (ob_wi v lo hi))) 0 0 (fun _ => False) := by
  refine Met.ofW (cc := cX5_isIn) (maxL := 3) (ret := (some .boolean)) (by decide) rfl ?_
  intro p e s m args below meth c s₁ B hml hv
  obtain ⟨rfl, hP, hk⟩ := hv
  have hx := B.exec
  have hb := B.bytes
  have hr := B.returns
  have hts := atoms_spec (ws := wsX5_isIn) B.pre
  have hown : s.vm.findClass RX5 = some m.cls := findClass_of_methodNamed B.named
  have hlocks := B.notSynchronized
  have hK := hk.1
  have hl := lv_entry [.int v, .int lo, .int hi] (n := 3) (Nat.le_of_ble_eq_true rfl)
  rw [lg_entry_eq]
  generalize (lg_sl [.int v, .int lo, .int hi] ++ List.replicate (3 - (lg_sl [.int v, .int lo, .int hi]).length) Slot.unset).toArray = ls at hl ⊢
  have hl : lv_has ls 3 [(0, .int v), (1, .int lo), (2, .int hi)] := hl
  refine lv_iload_n hx hb dX5_isIn_0 rfl (lv_at hl 0 rfl) ?_
  refine lv_iload_n hx hb dX5_isIn_1 rfl (lv_at hl 1 rfl) ?_
  refine lv_icmp_lt (tgt := 14) hx hb dX5_isIn_2 (by decide) (fun c2 => ?_) (fun c2 => ?_)
  · refine lv_iconst (v := nI 0) hx hb dX5_isIn_14 (by decide) ?_
    exact W.zret (v := nI 0) hx hb hr rfl (fun t9 ht hW => ⟨nI 0, rfl, (by first | (rw [ob_wi_lo c2]; rfl) | (rw [ob_wi_hi c7]; rfl) | (rw [ob_wi_ok c2 c7]; rfl)), ht⟩) (fun _ h => absurd h List.not_mem_nil) dX5_isIn_15
  · refine lv_iload_n hx hb dX5_isIn_5 rfl (lv_at hl 0 rfl) ?_
    refine lv_iload_n hx hb dX5_isIn_6 rfl (lv_at hl 2 rfl) ?_
    refine lv_icmp_gt (tgt := 14) hx hb dX5_isIn_7 (by decide) (fun c7 => ?_) (fun c7 => ?_)
    · refine lv_iconst (v := nI 0) hx hb dX5_isIn_14 (by decide) ?_
      exact W.zret (v := nI 0) hx hb hr rfl (fun t9 ht hW => ⟨nI 0, rfl, (by first | (rw [ob_wi_lo c2]; rfl) | (rw [ob_wi_hi c7]; rfl) | (rw [ob_wi_ok c2 c7]; rfl)), ht⟩) (fun _ h => absurd h List.not_mem_nil) dX5_isIn_15
    · refine lv_iconst (v := nI 1) hx hb dX5_isIn_10 (by decide) ?_
      refine lv_goto (tgt := 15) hx hb dX5_isIn_11 (by decide) ?_
      exact W.zret (v := nI 1) hx hb hr rfl (fun t9 ht hW => ⟨nI 1, rfl, (by first | (rw [ob_wi_lo c2]; rfl) | (rw [ob_wi_hi c7]; rfl) | (rw [ob_wi_ok c2 c7]; rfl)), ht⟩) (fun _ h => absurd h List.not_mem_nil) dX5_isIn_15

set_option maxRecDepth 100000 in
set_option maxHeartbeats 4000000 in
theorem c_X5_isClock (l : Launch) (D : va_G) (t : Nat → ClassId) (v : Int32) : Met l yX5_isClock wsX5_isClock ({ frames := 1, cells := 0, slots := 0, locals := 22 } : Room) (ob_Pp D t ([]) [.int v]) (vp_Si (fun r : Int32 => r = ob_bi (ob_wi v (nI 0) (nI 4)))) 0 0 (fun _ => False) := by
  refine Met.ofW (cc := cX5_isClock) (maxL := 1) (ret := (some .boolean)) (by decide) rfl ?_
  intro p e s m args below meth c s₁ B hml hv
  obtain ⟨rfl, hP, hk⟩ := hv
  have hx := B.exec
  have hb := B.bytes
  have hr := B.returns
  have hts := atoms_spec (ws := wsX5_isClock) B.pre
  have hown : s.vm.findClass RX5 = some m.cls := findClass_of_methodNamed B.named
  have hlocks := B.notSynchronized
  have hK := hk.1
  have hl := lv_entry [.int v] (n := 1) (Nat.le_of_ble_eq_true rfl)
  rw [lg_entry_eq]
  generalize (lg_sl [.int v] ++ List.replicate (1 - (lg_sl [.int v]).length) Slot.unset).toArray = ls at hl ⊢
  have hl : lv_has ls 1 [(0, .int v)] := hl
  refine lv_iload_n hx hb dX5_isClock_0 rfl (lv_at hl 0 rfl) ?_
  refine lv_iconst (v := nI 0) hx hb dX5_isClock_1 (by decide) ?_
  refine lv_iconst (v := nI 4) hx hb dX5_isClock_2 (by decide) ?_
  refine vp_callSi (va_Run.run (va_runS (As := [.int v, .int (nI 0), .int (nI 4)]) (rest := []) ⟨hx, hb, hml, hown, hts⟩ (c_X5_isIn l D t v (nI 0) (nI 4)) (va_cwS 3 hts gX5_isClock_X5_isIn rfl rfl rfl (by decide +kernel) ⟨Nat.le_of_ble_eq_true rfl, Nat.le_of_ble_eq_true rfl⟩) (ob_preS hP hk) rfl rfl hl.1 rfl (lv_room (Nat.le_of_ble_eq_true rfl)) dX5_isClock_3 ⟨Nat.le_of_ble_eq_true rfl, Nat.le_of_ble_eq_true rfl⟩)) (fun r9 hr9 => ?_)
  subst hr9
  exact W.zret (v := ob_bi (ob_wi v (nI 0) (nI 4))) hx hb hr (ob_narZ _) (fun t9 ht hW => ⟨ob_bi (ob_wi v (nI 0) (nI 4)), rfl, rfl, ht⟩) (fun _ h => absurd h List.not_mem_nil) dX5_isClock_6

set_option maxRecDepth 100000 in
set_option maxHeartbeats 4000000 in
theorem c_X5_isTime (l : Launch) (D : va_G) (t : Nat → ClassId) (v : Int32) : Met l yX5_isTime wsX5_isTime ({ frames := 1, cells := 0, slots := 0, locals := 22 } : Room) (ob_Pp D t ([]) [.int v]) (vp_Si (fun r : Int32 => r = ob_bi (ob_wi v (nI 0) (nI 10000)))) 0 0 (fun _ => False) := by
  refine Met.ofW (cc := cX5_isTime) (maxL := 1) (ret := (some .boolean)) (by decide) rfl ?_
  intro p e s m args below meth c s₁ B hml hv
  obtain ⟨rfl, hP, hk⟩ := hv
  have hx := B.exec
  have hb := B.bytes
  have hr := B.returns
  have hts := atoms_spec (ws := wsX5_isTime) B.pre
  have hown : s.vm.findClass RX5 = some m.cls := findClass_of_methodNamed B.named
  have hlocks := B.notSynchronized
  have hK := hk.1
  have hl := lv_entry [.int v] (n := 1) (Nat.le_of_ble_eq_true rfl)
  rw [lg_entry_eq]
  generalize (lg_sl [.int v] ++ List.replicate (1 - (lg_sl [.int v]).length) Slot.unset).toArray = ls at hl ⊢
  have hl : lv_has ls 1 [(0, .int v)] := hl
  refine lv_iload_n hx hb dX5_isTime_0 rfl (lv_at hl 0 rfl) ?_
  refine lv_iconst (v := nI 0) hx hb dX5_isTime_1 (by decide) ?_
  refine lv_sipush (v := nI 10000) hx hb dX5_isTime_2 (by decide) ?_
  refine vp_callSi (va_Run.run (va_runS (As := [.int v, .int (nI 0), .int (nI 10000)]) (rest := []) ⟨hx, hb, hml, hown, hts⟩ (c_X5_isIn l D t v (nI 0) (nI 10000)) (va_cwS 3 hts gX5_isTime_X5_isIn rfl rfl rfl (by decide +kernel) ⟨Nat.le_of_ble_eq_true rfl, Nat.le_of_ble_eq_true rfl⟩) (ob_preS hP hk) rfl rfl hl.1 rfl (lv_room (Nat.le_of_ble_eq_true rfl)) dX5_isTime_5 ⟨Nat.le_of_ble_eq_true rfl, Nat.le_of_ble_eq_true rfl⟩)) (fun r9 hr9 => ?_)
  subst hr9
  exact W.zret (v := ob_bi (ob_wi v (nI 0) (nI 10000))) hx hb hr (ob_narZ _) (fun t9 ht hW => ⟨ob_bi (ob_wi v (nI 0) (nI 10000)), rfl, rfl, ht⟩) (fun _ h => absurd h List.not_mem_nil) dX5_isTime_8

set_option maxRecDepth 100000 in
set_option maxHeartbeats 4000000 in
theorem c_X5_isService (l : Launch) (D : va_G) (t : Nat → ClassId) (v : Int32) : Met l yX5_isService wsX5_isService ({ frames := 1, cells := 0, slots := 0, locals := 22 } : Room) (ob_Pp D t ([]) [.int v]) (vp_Si (fun r : Int32 => r = ob_bi (ob_wi v (nI 0) (nI 5)))) 0 0 (fun _ => False) := by
  refine Met.ofW (cc := cX5_isService) (maxL := 1) (ret := (some .boolean)) (by decide) rfl ?_
  intro p e s m args below meth c s₁ B hml hv
  obtain ⟨rfl, hP, hk⟩ := hv
  have hx := B.exec
  have hb := B.bytes
  have hr := B.returns
  have hts := atoms_spec (ws := wsX5_isService) B.pre
  have hown : s.vm.findClass RX5 = some m.cls := findClass_of_methodNamed B.named
  have hlocks := B.notSynchronized
  have hK := hk.1
  have hl := lv_entry [.int v] (n := 1) (Nat.le_of_ble_eq_true rfl)
  rw [lg_entry_eq]
  generalize (lg_sl [.int v] ++ List.replicate (1 - (lg_sl [.int v]).length) Slot.unset).toArray = ls at hl ⊢
  have hl : lv_has ls 1 [(0, .int v)] := hl
  refine lv_iload_n hx hb dX5_isService_0 rfl (lv_at hl 0 rfl) ?_
  refine lv_iconst (v := nI 0) hx hb dX5_isService_1 (by decide) ?_
  refine lv_iconst (v := nI 5) hx hb dX5_isService_2 (by decide) ?_
  refine vp_callSi (va_Run.run (va_runS (As := [.int v, .int (nI 0), .int (nI 5)]) (rest := []) ⟨hx, hb, hml, hown, hts⟩ (c_X5_isIn l D t v (nI 0) (nI 5)) (va_cwS 3 hts gX5_isService_X5_isIn rfl rfl rfl (by decide +kernel) ⟨Nat.le_of_ble_eq_true rfl, Nat.le_of_ble_eq_true rfl⟩) (ob_preS hP hk) rfl rfl hl.1 rfl (lv_room (Nat.le_of_ble_eq_true rfl)) dX5_isService_3 ⟨Nat.le_of_ble_eq_true rfl, Nat.le_of_ble_eq_true rfl⟩)) (fun r9 hr9 => ?_)
  subst hr9
  exact W.zret (v := ob_bi (ob_wi v (nI 0) (nI 5))) hx hb hr (ob_narZ _) (fun t9 ht hW => ⟨ob_bi (ob_wi v (nI 0) (nI 5)), rfl, rfl, ht⟩) (fun _ h => absurd h List.not_mem_nil) dX5_isService_6

set_option maxRecDepth 100000 in
set_option maxHeartbeats 4000000 in
theorem c_X5_thrown (l : Launch) (D : va_G) (t : Nat → ClassId) (ar : Nat → Nat) (Bd Tr : Nat → Int32) (rn : Nat) (rcl rrd rsv rpb wf wa ro ah : Nat → Int32) (ct : Nat → Int64) (rmn : Nat) (rms rmf rmt rmp : Nat → Int32) (rcn : Nat) (sd V : Nat → Int32) (th : Int32) : Met l yX5_thrown wsX5_thrown ({ frames := 0, cells := 0, slots := 0, locals := 0 } : Room) (ob_Pp D t (ob_wR t ar Bd Tr rn rcl rrd rsv rpb wf wa ro ah ct rmn rms rmf rmt rmp rcn sd V th) [.ref (ar 0)]) (vp_Si (fun r : Int32 => r = th)) 0 0 (fun _ => False) := by
  refine Met.ofW (cc := cX5_thrown) (maxL := 1) (ret := (some .int)) (by decide) rfl ?_
  intro p e s m args below meth c s₁ B hml hv
  obtain ⟨rfl, hP, hk⟩ := hv
  have hx := B.exec
  have hb := B.bytes
  have hr := B.returns
  have hts := atoms_spec (ws := wsX5_thrown) B.pre
  have hown : s.vm.findClass RX5 = some m.cls := findClass_of_methodNamed B.named
  have hlocks := B.notSynchronized
  have hK := hk.1
  have hl := lv_entry [.ref (ar 0)] (n := 1) (Nat.le_of_ble_eq_true rfl)
  rw [lg_entry_eq]
  generalize (lg_sl [.ref (ar 0)] ++ List.replicate (1 - (lg_sl [.ref (ar 0)]).length) Slot.unset).toArray = ls at hl ⊢
  have hl : lv_has ls 1 [(0, .ref (ar 0))] := hl
  refine lv_aload_n hx hb dX5_thrown_0 rfl (lv_at hl 0 rfl) ?_
  refine va_get (ci := 5) (C := RX5) (T := TX5) (N := 21) hx hb hts (fun w h => List.mem_cons_of_mem _ (List.mem_append_right _ (h))) hown hK hP 0 rfl rfl 20 (by decide) (hts (Cond.fieldLink RX5 64 "OutageBookModel" "thrown" "I") (List.mem_of_getElem? (i := 1) rfl)) (fun _ h9 => h9) rfl dX5_thrown_1 ?_
  exact W.iret (v := th) hx hb hr (fun t9 ht hW => ⟨th, rfl, rfl, ht⟩) (fun _ h => absurd h List.not_mem_nil) dX5_thrown_4

set_option maxRecDepth 100000 in
set_option maxHeartbeats 4000000 in
theorem c_X5_goes (l : Launch) (D : va_G) (t : Nat → ClassId) (sz : Nat) (ar : Nat → Nat) (Bd Tr : Nat → Int32) (rn : Nat) (rcl rrd rsv rpb wf wa ro ah : Nat → Int32) (ct : Nat → Int64) (rmn : Nat) (rms rmf rmt rmp : Nat → Int32) (rcn : Nat) (sd V : Nat → Int32) (th : Int32) (x : Int32) : Met l yX5_goes wsX5_goes ({ frames := 0, cells := 0, slots := 0, locals := 0 } : Room) (ob_Pm D t (ob_wR t ar Bd Tr rn rcl rrd rsv rpb wf wa ro ah ct rmn rms rmf rmt rmp rcn sd V th) sz [.ref (ar 0), .int x]) (va_Qi (fun (r : Int32) (_ : Unit) => r = ob_bi (decide (x = 0))) (fun (_ : Unit) (t9 : State) => va_P D vwCl (ob_wR t ar Bd Tr rn rcl rrd rsv rpb wf wa ro ah ct rmn rms rmf rmt rmp rcn sd V x) t9.heap) (va_A (ob_wR t ar Bd Tr rn rcl rrd rsv rpb wf wa ro ah ct rmn rms rmf rmt rmp rcn sd V th) sz)) 0 0 (va_A (ob_wR t ar Bd Tr rn rcl rrd rsv rpb wf wa ro ah ct rmn rms rmf rmt rmp rcn sd V th) sz) := by
  refine Met.ofW (cc := cX5_goes) (maxL := 2) (ret := (some .boolean)) (by decide) rfl ?_
  intro p e s m args below meth c s₁ B hml hv
  obtain ⟨rfl, hsz, hP, hk, hD0⟩ := hv
  have hx := B.exec
  have hb := B.bytes
  have hr := B.returns
  have hts := atoms_spec (ws := wsX5_goes) B.pre
  have hown : s.vm.findClass RX5 = some m.cls := findClass_of_methodNamed B.named
  have hlocks := B.notSynchronized
  have hK := hk.1
  have hD : va_D (va_A (ob_wR t ar Bd Tr rn rcl rrd rsv rpb wf wa ro ah ct rmn rms rmf rmt rmp rcn sd V th) sz) (ob_wR t ar Bd Tr rn rcl rrd rsv rpb wf wa ro ah ct rmn rms rmf rmt rmp rcn sd V th) := hD0.self (sz := sz)
  have hA : ∀ q : Nat, s.heap.size ≤ q → (va_A (ob_wR t ar Bd Tr rn rcl rrd rsv rpb wf wa ro ah ct rmn rms rmf rmt rmp rcn sd V th) sz) q := fun q h => Or.inr (hsz ▸ h)
  have hS : va_S (va_A (ob_wR t ar Bd Tr rn rcl rrd rsv rpb wf wa ro ah ct rmn rms rmf rmt rmp rcn sd V th) sz) s.heap s.heap [] := va_S.rf
  have hl := lv_entry [.ref (ar 0), .int x] (n := 2) (Nat.le_of_ble_eq_true rfl)
  rw [lg_entry_eq]
  generalize (lg_sl [.ref (ar 0), .int x] ++ List.replicate (2 - (lg_sl [.ref (ar 0), .int x]).length) Slot.unset).toArray = ls at hl ⊢
  have hl : lv_has ls 2 [(0, .ref (ar 0)), (1, .int x)] := hl
  have hP : va_P D vwCl (ob_wR t ar Bd Tr rn rcl rrd rsv rpb wf wa ro ah ct rmn rms rmf rmt rmp rcn sd V th) s.heap := hP
  refine lv_aload_n hx hb dX5_goes_0 rfl (lv_at hl 0 rfl) ?_
  refine lv_iload_n hx hb dX5_goes_1 rfl (lv_at hl 1 rfl) ?_
  refine va_put (ci := 5) (v := .int x) (ty := .int) (C := RX5) (T := TX5) (N := 21) hx hb hts (fun w h => List.mem_cons_of_mem _ (List.mem_append_right _ (h))) tyX5 tyX5_ok nmX5 hown hK hP hD hS 0 rfl rfl 20 (by decide) (hts (Cond.fieldLink RX5 64 "OutageBookModel" "thrown" "I") (List.mem_of_getElem? (i := 1) rfl)) (fun _ h9 => h9) rfl (by decide +kernel) rfl rfl (Nat.le_of_ble_eq_true rfl) dX5_goes_2 (fun H locs hP hD hS => ?_)
  have hP : va_P D vwCl (ob_wR t ar Bd Tr rn rcl rrd rsv rpb wf wa ro ah ct rmn rms rmf rmt rmp rcn sd V x) H := hP
  have hD : va_D (va_A (ob_wR t ar Bd Tr rn rcl rrd rsv rpb wf wa ro ah ct rmn rms rmf rmt rmp rcn sd V th) sz) (ob_wR t ar Bd Tr rn rcl rrd rsv rpb wf wa ro ah ct rmn rms rmf rmt rmp rcn sd V x) := hD
  refine lv_iload_n hx hb dX5_goes_5 rfl (lv_at hl 1 rfl) ?_
  refine lv_if_ne (tgt := 13) hx hb dX5_goes_6 (by decide) (fun c6 => ?_) (fun c6 => ?_)
  · refine lv_iconst (v := nI 0) hx hb dX5_goes_13 (by decide) ?_
    exact W.zret (v := nI 0) hx hb hr rfl (fun t9 ht hW => ⟨⟨nI 0, (), rfl, (by simp [ob_bi, c6, ob_n0, ob_n1]), ob_th ht hP⟩, hS.F ht⟩) hS.2.2 dX5_goes_14
  · refine lv_iconst (v := nI 1) hx hb dX5_goes_9 (by decide) ?_
    refine lv_goto (tgt := 14) hx hb dX5_goes_10 (by decide) ?_
    exact W.zret (v := nI 1) hx hb hr rfl (fun t9 ht hW => ⟨⟨nI 1, (), rfl, (by simp [ob_bi, c6, ob_n0, ob_n1]), ob_th ht hP⟩, hS.F ht⟩) hS.2.2 dX5_goes_14

set_option maxRecDepth 100000 in
set_option maxHeartbeats 4000000 in
theorem c_X5_isLine (l : Launch) (D : va_G) (t : Nat → ClassId) (ar : Nat → Nat) (Bd Tr : Nat → Int32) (rn : Nat) (rcl rrd rsv rpb wf wa ro ah : Nat → Int32) (ct : Nat → Int64) (rmn : Nat) (rms rmf rmt rmp : Nat → Int32) (rcn : Nat) (sd V : Nat → Int32) (th : Int32) (x : Int32) (hrn : rn ≤ 30) : Met l yX5_isLine wsX5_isLine ({ frames := 1, cells := 0, slots := 0, locals := 22 } : Room) (ob_Pp D t (ob_wR t ar Bd Tr rn rcl rrd rsv rpb wf wa ro ah ct rmn rms rmf rmt rmp rcn sd V th) [.ref (ar 0), .int x]) (vp_Si (fun r : Int32 => r = ob_bi (ob_hd rn x))) 0 0 (fun _ => False) := by
  refine Met.ofW (cc := cX5_isLine) (maxL := 2) (ret := (some .boolean)) (by decide) rfl ?_
  intro p e s m args below meth c s₁ B hml hv
  obtain ⟨rfl, hP, hk⟩ := hv
  have hx := B.exec
  have hb := B.bytes
  have hr := B.returns
  have hts := atoms_spec (ws := wsX5_isLine) B.pre
  have hown : s.vm.findClass RX5 = some m.cls := findClass_of_methodNamed B.named
  have hlocks := B.notSynchronized
  have hK := hk.1
  have hl := lv_entry [.ref (ar 0), .int x] (n := 2) (Nat.le_of_ble_eq_true rfl)
  rw [lg_entry_eq]
  generalize (lg_sl [.ref (ar 0), .int x] ++ List.replicate (2 - (lg_sl [.ref (ar 0), .int x]).length) Slot.unset).toArray = ls at hl ⊢
  have hl : lv_has ls 2 [(0, .ref (ar 0)), (1, .int x)] := hl
  refine lv_iload_n hx hb dX5_isLine_0 rfl (lv_at hl 1 rfl) ?_
  refine lv_iconst (v := nI 0) hx hb dX5_isLine_1 (by decide) ?_
  refine lv_aload_n hx hb dX5_isLine_2 rfl (lv_at hl 0 rfl) ?_
  refine va_get (ci := 5) (C := RX5) (T := TX5) (N := 21) hx hb hts (fun w h => List.mem_cons_of_mem _ (List.mem_append_right _ (h))) hown hK hP 0 rfl rfl 2 (by decide) (hts (Cond.fieldLink RX5 89 "OutageBookModel" "lines" "I") (List.mem_of_getElem? (i := 1) rfl)) (fun _ h9 => h9) rfl dX5_isLine_3 ?_
  refine lv_iconst (v := nI 1) hx hb dX5_isLine_6 (by decide) ?_
  refine lv_isub hx hb dX5_isLine_7 ?_
  refine vp_callSi (va_Run.run (va_runS (As := [.int x, .int (nI 0), .int ((nI rn) - (nI 1))]) (rest := []) ⟨hx, hb, hml, hown, hts⟩ (c_X5_isIn l D t x (nI 0) ((nI rn) - (nI 1))) (va_cwS 3 hts gX5_isLine_X5_isIn rfl rfl rfl (by decide +kernel) ⟨Nat.le_of_ble_eq_true rfl, Nat.le_of_ble_eq_true rfl⟩) (ob_preS (hP.sub [] rfl) hk) rfl rfl hl.1 rfl (lv_room (Nat.le_of_ble_eq_true rfl)) dX5_isLine_8 ⟨Nat.le_of_ble_eq_true rfl, Nat.le_of_ble_eq_true rfl⟩)) (fun r9 hr9 => ?_)
  subst hr9
  rw [show ob_bi (ob_wi x (nI 0) ((nI rn) - (nI 1))) = ob_bi (ob_hd rn x) from (by rw [ob_wi_hd])]
  exact W.zret (v := ob_bi (ob_hd rn x)) hx hb hr (ob_narZ _) (fun t9 ht hW => ⟨ob_bi (ob_hd rn x), rfl, rfl, ht⟩) (fun _ h => absurd h List.not_mem_nil) dX5_isLine_11

set_option maxRecDepth 100000 in
set_option maxHeartbeats 4000000 in
theorem c_X5_isCause (l : Launch) (D : va_G) (t : Nat → ClassId) (ar : Nat → Nat) (Bd Tr : Nat → Int32) (rn : Nat) (rcl rrd rsv rpb wf wa ro ah : Nat → Int32) (ct : Nat → Int64) (rmn : Nat) (rms rmf rmt rmp : Nat → Int32) (rcn : Nat) (sd V : Nat → Int32) (th : Int32) (x : Int32) (hrcn : rcn ≤ 16) : Met l yX5_isCause wsX5_isCause ({ frames := 1, cells := 0, slots := 0, locals := 22 } : Room) (ob_Pp D t (ob_wR t ar Bd Tr rn rcl rrd rsv rpb wf wa ro ah ct rmn rms rmf rmt rmp rcn sd V th) [.ref (ar 0), .int x]) (vp_Si (fun r : Int32 => r = ob_bi (ob_hd rcn x))) 0 0 (fun _ => False) := by
  refine Met.ofW (cc := cX5_isCause) (maxL := 2) (ret := (some .boolean)) (by decide) rfl ?_
  intro p e s m args below meth c s₁ B hml hv
  obtain ⟨rfl, hP, hk⟩ := hv
  have hx := B.exec
  have hb := B.bytes
  have hr := B.returns
  have hts := atoms_spec (ws := wsX5_isCause) B.pre
  have hown : s.vm.findClass RX5 = some m.cls := findClass_of_methodNamed B.named
  have hlocks := B.notSynchronized
  have hK := hk.1
  have hl := lv_entry [.ref (ar 0), .int x] (n := 2) (Nat.le_of_ble_eq_true rfl)
  rw [lg_entry_eq]
  generalize (lg_sl [.ref (ar 0), .int x] ++ List.replicate (2 - (lg_sl [.ref (ar 0), .int x]).length) Slot.unset).toArray = ls at hl ⊢
  have hl : lv_has ls 2 [(0, .ref (ar 0)), (1, .int x)] := hl
  refine lv_iload_n hx hb dX5_isCause_0 rfl (lv_at hl 1 rfl) ?_
  refine lv_iconst (v := nI 0) hx hb dX5_isCause_1 (by decide) ?_
  refine lv_aload_n hx hb dX5_isCause_2 rfl (lv_at hl 0 rfl) ?_
  refine va_get (ci := 5) (C := RX5) (T := TX5) (N := 21) hx hb hts (fun w h => List.mem_cons_of_mem _ (List.mem_append_right _ (h))) hown hK hP 0 rfl rfl 17 (by decide) (hts (Cond.fieldLink RX5 124 "OutageBookModel" "causes" "I") (List.mem_of_getElem? (i := 1) rfl)) (fun _ h9 => h9) rfl dX5_isCause_3 ?_
  refine lv_iconst (v := nI 1) hx hb dX5_isCause_6 (by decide) ?_
  refine lv_isub hx hb dX5_isCause_7 ?_
  refine vp_callSi (va_Run.run (va_runS (As := [.int x, .int (nI 0), .int ((nI rcn) - (nI 1))]) (rest := []) ⟨hx, hb, hml, hown, hts⟩ (c_X5_isIn l D t x (nI 0) ((nI rcn) - (nI 1))) (va_cwS 3 hts gX5_isCause_X5_isIn rfl rfl rfl (by decide +kernel) ⟨Nat.le_of_ble_eq_true rfl, Nat.le_of_ble_eq_true rfl⟩) (ob_preS (hP.sub [] rfl) hk) rfl rfl hl.1 rfl (lv_room (Nat.le_of_ble_eq_true rfl)) dX5_isCause_8 ⟨Nat.le_of_ble_eq_true rfl, Nat.le_of_ble_eq_true rfl⟩)) (fun r9 hr9 => ?_)
  subst hr9
  rw [show ob_bi (ob_wi x (nI 0) ((nI rcn) - (nI 1))) = ob_bi (ob_hd rcn x) from (by rw [ob_wi_hd])]
  exact W.zret (v := ob_bi (ob_hd rcn x)) hx hb hr (ob_narZ _) (fun t9 ht hW => ⟨ob_bi (ob_hd rcn x), rfl, rfl, ht⟩) (fun _ h => absurd h List.not_mem_nil) dX5_isCause_11

set_option maxRecDepth 100000 in
set_option maxHeartbeats 4000000 in
theorem c_X5_isBefore (l : Launch) (D : va_G) (t : Nat → ClassId) (ar : Nat → Nat) (Bd Tr : Nat → Int32) (rn : Nat) (rcl rrd rsv rpb wf wa ro ah : Nat → Int32) (ct : Nat → Int64) (rmn : Nat) (rms rmf rmt rmp : Nat → Int32) (rcn : Nat) (sd V : Nat → Int32) (th : Int32) (kc : Nat → Nat) (i j : Nat) (hkc : ∀ k, rcl k = nI (kc k) ∧ kc k ≤ 4) (hi : i < 30) (hj : j < 30) : Met l yX5_isBefore wsX5_isBefore ({ frames := 0, cells := 0, slots := 0, locals := 0 } : Room) (ob_Pp D t (ob_wR t ar Bd Tr rn rcl rrd rsv rpb wf wa ro ah ct rmn rms rmf rmt rmp rcn sd V th) [.ref (ar 0), .int (nI i), .int (nI j)]) (vp_Si (fun r : Int32 => r = ob_bi (ob_sb Bd kc rrd i j))) 0 0 (fun _ => False) := by
  refine Met.ofW (cc := cX5_isBefore) (maxL := 4) (ret := (some .boolean)) (by decide) rfl ?_
  intro p e s m args below meth c s₁ B hml hv
  obtain ⟨rfl, hP, hk⟩ := hv
  have hx := B.exec
  have hb := B.bytes
  have hr := B.returns
  have hts := atoms_spec (ws := wsX5_isBefore) B.pre
  have hown : s.vm.findClass RX5 = some m.cls := findClass_of_methodNamed B.named
  have hlocks := B.notSynchronized
  have hK := hk.1
  have hl := lv_entry [.ref (ar 0), .int (nI i), .int (nI j)] (n := 4) (Nat.le_of_ble_eq_true rfl)
  rw [lg_entry_eq]
  generalize (lg_sl [.ref (ar 0), .int (nI i), .int (nI j)] ++ List.replicate (4 - (lg_sl [.ref (ar 0), .int (nI i), .int (nI j)]).length) Slot.unset).toArray = ls at hl ⊢
  have hl : lv_has ls 4 [(0, .ref (ar 0)), (1, .int (nI i)), (2, .int (nI j))] := hl
  have hki := (hkc i).2
  have hkj := (hkc j).2
  refine lv_aload_n hx hb dX5_isBefore_0 rfl (lv_at hl 0 rfl) ?_
  refine va_get (ci := 5) (C := RX5) (T := TX5) (N := 21) hx hb hts (fun w h => List.mem_cons_of_mem _ (List.mem_append_right _ (h))) hown hK hP 0 rfl rfl 0 (by decide) (hts (Cond.fieldLink RX5 7 "OutageBookModel" "bounds" "[I") (List.mem_of_getElem? (i := 1) rfl)) (fun _ h9 => h9) rfl dX5_isBefore_1 ?_
  refine lv_iconst (v := nI 5) hx hb dX5_isBefore_4 (by decide) ?_
  refine lv_aload_n hx hb dX5_isBefore_5 rfl (lv_at hl 0 rfl) ?_
  refine va_get (ci := 5) (C := RX5) (T := TX5) (N := 21) hx hb hts (fun w h => List.mem_cons_of_mem _ (List.mem_append_right _ (h))) hown hK hP 0 rfl rfl 3 (by decide) (hts (Cond.fieldLink RX5 16 "OutageBookModel" "clocks" "[I") (List.mem_of_getElem? (i := 2) rfl)) (fun _ h9 => h9) rfl dX5_isBefore_6 ?_
  refine lv_iload_n hx hb dX5_isBefore_9 rfl (lv_at hl 1 rfl) ?_
  refine ob_iald hx hb hK hP 3 0 rfl rfl (by omega) (by decide) dX5_isBefore_10 ?_
  rw [show rcl i = nI (kc i) from (hkc i).1]
  refine lv_imul hx hb dX5_isBefore_11 ?_
  rw [show (nI 5) * (nI (kc i)) = nI (5 * kc i) from pk_mul 5 _]
  refine lv_aload_n hx hb dX5_isBefore_12 rfl (lv_at hl 0 rfl) ?_
  refine va_get (ci := 5) (C := RX5) (T := TX5) (N := 21) hx hb hts (fun w h => List.mem_cons_of_mem _ (List.mem_append_right _ (h))) hown hK hP 0 rfl rfl 3 (by decide) (hts (Cond.fieldLink RX5 16 "OutageBookModel" "clocks" "[I") (List.mem_of_getElem? (i := 2) rfl)) (fun _ h9 => h9) rfl dX5_isBefore_13 ?_
  refine lv_iload_n hx hb dX5_isBefore_16 rfl (lv_at hl 2 rfl) ?_
  refine ob_iald hx hb hK hP 3 0 rfl rfl (by omega) (by decide) dX5_isBefore_17 ?_
  rw [show rcl j = nI (kc j) from (hkc j).1]
  refine lv_iadd hx hb dX5_isBefore_18 ?_
  rw [show (nI (5 * kc i)) + (nI (kc j)) = nI (5 * kc i + kc j) from nI_add _ _]
  refine ob_iald hx hb hK hP 1 0 rfl rfl (by omega) (by decide) dX5_isBefore_19 ?_
  refine lv_istore_n (lv' := [(3, .int (Bd (5 * kc i + kc j))), (0, .ref (ar 0)), (1, .int (nI i)), (2, .int (nI j))]) hx hb dX5_isBefore_20 rfl hl (by decide) rfl (fun ls hl => ?_)
  refine lv_iload_n hx hb dX5_isBefore_21 rfl (lv_at hl 0 rfl) ?_
  refine lv_ldc (v := 1000000) hx hb hown (hts (Cond.constant RX5 63 (1000000)) (List.mem_of_getElem? (i := 3) rfl)) dX5_isBefore_22 ?_
  refine lv_icmp_eq (tgt := 48) hx hb dX5_isBefore_24 (by decide) (fun c24 => ?_) (fun c24 => ?_)
  · refine lv_iconst (v := nI 0) hx hb dX5_isBefore_48 (by decide) ?_
    exact W.zret (v := nI 0) hx hb hr rfl (fun t9 ht hW => ⟨nI 0, rfl, (by first | (simp [ob_sb, c24, ob_n0, ob_bi]; done) | (simp [ob_sb, c24, Int32.not_lt.mpr c41, ob_n0, ob_bi]; done) | (simp [ob_sb, c24, Int32.not_le.mp c41, ob_n1, ob_bi]; done)), ht⟩) (fun _ h => absurd h List.not_mem_nil) dX5_isBefore_49
  · refine lv_aload_n hx hb dX5_isBefore_27 rfl (lv_at hl 1 rfl) ?_
    refine va_get (ci := 5) (C := RX5) (T := TX5) (N := 21) hx hb hts (fun w h => List.mem_cons_of_mem _ (List.mem_append_right _ (h))) hown hK hP 0 rfl rfl 4 (by decide) (hts (Cond.fieldLink RX5 19 "OutageBookModel" "readings" "[I") (List.mem_of_getElem? (i := 4) rfl)) (fun _ h9 => h9) rfl dX5_isBefore_28 ?_
    refine lv_iload_n hx hb dX5_isBefore_31 rfl (lv_at hl 2 rfl) ?_
    refine ob_iald hx hb hK hP 4 0 rfl rfl (by omega) (by decide) dX5_isBefore_32 ?_
    refine lv_iload_n hx hb dX5_isBefore_33 rfl (lv_at hl 0 rfl) ?_
    refine lv_iadd hx hb dX5_isBefore_34 ?_
    refine lv_aload_n hx hb dX5_isBefore_35 rfl (lv_at hl 1 rfl) ?_
    refine va_get (ci := 5) (C := RX5) (T := TX5) (N := 21) hx hb hts (fun w h => List.mem_cons_of_mem _ (List.mem_append_right _ (h))) hown hK hP 0 rfl rfl 4 (by decide) (hts (Cond.fieldLink RX5 19 "OutageBookModel" "readings" "[I") (List.mem_of_getElem? (i := 4) rfl)) (fun _ h9 => h9) rfl dX5_isBefore_36 ?_
    refine lv_iload_n hx hb dX5_isBefore_39 rfl (lv_at hl 3 rfl) ?_
    refine ob_iald hx hb hK hP 4 0 rfl rfl (by omega) (by decide) dX5_isBefore_40 ?_
    refine lv_icmp_ge (tgt := 48) hx hb dX5_isBefore_41 (by decide) (fun c41 => ?_) (fun c41 => ?_)
    · refine lv_iconst (v := nI 0) hx hb dX5_isBefore_48 (by decide) ?_
      exact W.zret (v := nI 0) hx hb hr rfl (fun t9 ht hW => ⟨nI 0, rfl, (by first | (simp [ob_sb, c24, ob_n0, ob_bi]; done) | (simp [ob_sb, c24, Int32.not_lt.mpr c41, ob_n0, ob_bi]; done) | (simp [ob_sb, c24, Int32.not_le.mp c41, ob_n1, ob_bi]; done)), ht⟩) (fun _ h => absurd h List.not_mem_nil) dX5_isBefore_49
    · refine lv_iconst (v := nI 1) hx hb dX5_isBefore_44 (by decide) ?_
      refine lv_goto (tgt := 49) hx hb dX5_isBefore_45 (by decide) ?_
      exact W.zret (v := nI 1) hx hb hr rfl (fun t9 ht hW => ⟨nI 1, rfl, (by first | (simp [ob_sb, c24, ob_n0, ob_bi]; done) | (simp [ob_sb, c24, Int32.not_lt.mpr c41, ob_n0, ob_bi]; done) | (simp [ob_sb, c24, Int32.not_le.mp c41, ob_n1, ob_bi]; done)), ht⟩) (fun _ h => absurd h List.not_mem_nil) dX5_isBefore_49

set_option maxRecDepth 100000 in
set_option maxHeartbeats 4000000 in
theorem c_X5_isDoubted (l : Launch) (D : va_G) (t : Nat → ClassId) (ar : Nat → Nat) (Bd Tr : Nat → Int32) (rn : Nat) (rcl rrd rsv rpb wf wa ro ah : Nat → Int32) (ct : Nat → Int64) (rmn : Nat) (rms rmf rmt rmp : Nat → Int32) (rcn : Nat) (sd V : Nat → Int32) (th : Int32) (i : Nat) (hi : i < 30) : Met l yX5_isDoubted wsX5_isDoubted ({ frames := 0, cells := 0, slots := 0, locals := 0 } : Room) (ob_Pp D t (ob_wR t ar Bd Tr rn rcl rrd rsv rpb wf wa ro ah ct rmn rms rmf rmt rmp rcn sd V th) [.ref (ar 0), .int (nI i)]) (vp_Si (fun r : Int32 => r = ob_bi (decide (wf i < wa i)))) 0 0 (fun _ => False) := by
  refine Met.ofW (cc := cX5_isDoubted) (maxL := 2) (ret := (some .boolean)) (by decide) rfl ?_
  intro p e s m args below meth c s₁ B hml hv
  obtain ⟨rfl, hP, hk⟩ := hv
  have hx := B.exec
  have hb := B.bytes
  have hr := B.returns
  have hts := atoms_spec (ws := wsX5_isDoubted) B.pre
  have hown : s.vm.findClass RX5 = some m.cls := findClass_of_methodNamed B.named
  have hlocks := B.notSynchronized
  have hK := hk.1
  have hl := lv_entry [.ref (ar 0), .int (nI i)] (n := 2) (Nat.le_of_ble_eq_true rfl)
  rw [lg_entry_eq]
  generalize (lg_sl [.ref (ar 0), .int (nI i)] ++ List.replicate (2 - (lg_sl [.ref (ar 0), .int (nI i)]).length) Slot.unset).toArray = ls at hl ⊢
  have hl : lv_has ls 2 [(0, .ref (ar 0)), (1, .int (nI i))] := hl
  refine lv_aload_n hx hb dX5_isDoubted_0 rfl (lv_at hl 0 rfl) ?_
  refine va_get (ci := 5) (C := RX5) (T := TX5) (N := 21) hx hb hts (fun w h => List.mem_cons_of_mem _ (List.mem_append_right _ (h))) hown hK hP 0 rfl rfl 8 (by decide) (hts (Cond.fieldLink RX5 32 "OutageBookModel" "weightsAgainst" "[I") (List.mem_of_getElem? (i := 1) rfl)) (fun _ h9 => h9) rfl dX5_isDoubted_1 ?_
  refine lv_iload_n hx hb dX5_isDoubted_4 rfl (lv_at hl 1 rfl) ?_
  refine ob_iald hx hb hK hP 8 0 rfl rfl (by omega) (by decide) dX5_isDoubted_5 ?_
  refine lv_aload_n hx hb dX5_isDoubted_6 rfl (lv_at hl 0 rfl) ?_
  refine va_get (ci := 5) (C := RX5) (T := TX5) (N := 21) hx hb hts (fun w h => List.mem_cons_of_mem _ (List.mem_append_right _ (h))) hown hK hP 0 rfl rfl 7 (by decide) (hts (Cond.fieldLink RX5 29 "OutageBookModel" "weightsFor" "[I") (List.mem_of_getElem? (i := 2) rfl)) (fun _ h9 => h9) rfl dX5_isDoubted_7 ?_
  refine lv_iload_n hx hb dX5_isDoubted_10 rfl (lv_at hl 1 rfl) ?_
  refine ob_iald hx hb hK hP 7 0 rfl rfl (by omega) (by decide) dX5_isDoubted_11 ?_
  refine lv_icmp_le (tgt := 19) hx hb dX5_isDoubted_12 (by decide) (fun c12 => ?_) (fun c12 => ?_)
  · refine lv_iconst (v := nI 0) hx hb dX5_isDoubted_19 (by decide) ?_
    exact W.zret (v := nI 0) hx hb hr rfl (fun t9 ht hW => ⟨nI 0, rfl, (by first | (rw [decide_eq_false (Int32.not_lt.mpr c12)]; rfl) | (rw [decide_eq_true (Int32.not_le.mp c12)]; rfl)), ht⟩) (fun _ h => absurd h List.not_mem_nil) dX5_isDoubted_20
  · refine lv_iconst (v := nI 1) hx hb dX5_isDoubted_15 (by decide) ?_
    refine lv_goto (tgt := 20) hx hb dX5_isDoubted_16 (by decide) ?_
    exact W.zret (v := nI 1) hx hb hr rfl (fun t9 ht hW => ⟨nI 1, rfl, (by first | (rw [decide_eq_false (Int32.not_lt.mpr c12)]; rfl) | (rw [decide_eq_true (Int32.not_le.mp c12)]; rfl)), ht⟩) (fun _ h => absurd h List.not_mem_nil) dX5_isDoubted_20

set_option maxRecDepth 100000 in
set_option maxHeartbeats 4000000 in
theorem c_X5_isOfStory (l : Launch) (D : va_G) (t : Nat → ClassId) (ar : Nat → Nat) (Bd Tr : Nat → Int32) (rn : Nat) (rcl rrd rsv rpb wf wa ro ah : Nat → Int32) (ct : Nat → Int64) (rmn : Nat) (rms rmf rmt rmp : Nat → Int32) (rcn : Nat) (sd V : Nat → Int32) (th : Int32) (i : Nat) (hi : i < 30) : Met l yX5_isOfStory wsX5_isOfStory ({ frames := 1, cells := 0, slots := 0, locals := 21 } : Room) (ob_Pp D t (ob_wR t ar Bd Tr rn rcl rrd rsv rpb wf wa ro ah ct rmn rms rmf rmt rmp rcn sd V th) [.ref (ar 0), .int (nI i)]) (vp_Si (fun r : Int32 => r = ob_bi (ob_os rpb wf wa i))) 0 0 (fun _ => False) := by
  refine Met.ofW (cc := cX5_isOfStory) (maxL := 2) (ret := (some .boolean)) (by decide) rfl ?_
  intro p e s m args below meth c s₁ B hml hv
  obtain ⟨rfl, hP, hk⟩ := hv
  have hx := B.exec
  have hb := B.bytes
  have hr := B.returns
  have hts := atoms_spec (ws := wsX5_isOfStory) B.pre
  have hown : s.vm.findClass RX5 = some m.cls := findClass_of_methodNamed B.named
  have hlocks := B.notSynchronized
  have hK := hk.1
  have hl := lv_entry [.ref (ar 0), .int (nI i)] (n := 2) (Nat.le_of_ble_eq_true rfl)
  rw [lg_entry_eq]
  generalize (lg_sl [.ref (ar 0), .int (nI i)] ++ List.replicate (2 - (lg_sl [.ref (ar 0), .int (nI i)]).length) Slot.unset).toArray = ls at hl ⊢
  have hl : lv_has ls 2 [(0, .ref (ar 0)), (1, .int (nI i))] := hl
  refine lv_aload_n hx hb dX5_isOfStory_0 rfl (lv_at hl 0 rfl) ?_
  refine va_get (ci := 5) (C := RX5) (T := TX5) (N := 21) hx hb hts (fun w h => List.mem_cons_of_mem _ (List.mem_append_right _ (h))) hown hK hP 0 rfl rfl 6 (by decide) (hts (Cond.fieldLink RX5 25 "OutageBookModel" "isPublic" "[Z") (List.mem_of_getElem? (i := 1) rfl)) (fun _ h9 => h9) rfl dX5_isOfStory_1 ?_
  refine lv_iload_n hx hb dX5_isOfStory_4 rfl (lv_at hl 1 rfl) ?_
  refine ob_zald hx hb hK hP 6 2 rfl rfl (by omega) (by decide) dX5_isOfStory_5 ?_
  refine lv_if_eq (tgt := 21) hx hb dX5_isOfStory_6 (by decide) (fun c6 => ?_) (fun c6 => ?_)
  · refine lv_iconst (v := nI 0) hx hb dX5_isOfStory_21 (by decide) ?_
    exact W.zret (v := nI 0) hx hb hr rfl (fun t9 ht hW => ⟨nI 0, rfl, (by first | (simp only [ob_os, decide_eq_true c6]; rfl) | (simp only [ob_os, decide_eq_false c6, c14]; rfl)), ht⟩) (fun _ h => absurd h List.not_mem_nil) dX5_isOfStory_22
  · refine lv_aload_n hx hb dX5_isOfStory_9 rfl (lv_at hl 0 rfl) ?_
    refine lv_iload_n hx hb dX5_isOfStory_10 rfl (lv_at hl 1 rfl) ?_
    refine vp_callSi (va_Run.run (va_runV (As := [.int (nI i)]) (rest := []) ⟨hx, hb, hml, hown, hts⟩ (c_X5_isDoubted l D t ar Bd Tr rn rcl rrd rsv rpb wf wa ro ah ct rmn rms rmf rmt rmp rcn sd V th i (by first | assumption | omega)) (cwV 1 hts gX5_isOfStory_X5_isDoubted rfl rfl rfl (by decide +kernel) ⟨Nat.le_of_ble_eq_true rfl, Nat.le_of_ble_eq_true rfl⟩) (ob_preV (ci := 5) (q0 := 0) hP hk rfl rfl) rfl rfl hl.1 rfl (lv_room (Nat.le_of_ble_eq_true rfl)) dX5_isOfStory_11 ⟨Nat.le_of_ble_eq_true rfl, Nat.le_of_ble_eq_true rfl⟩)) (fun r9 hr9 => ?_)
    subst hr9
    refine ob_if_ne (tgt := 21) hx hb dX5_isOfStory_14 (by decide) (fun c14 => ?_) (fun c14 => ?_)
    · refine lv_iconst (v := nI 0) hx hb dX5_isOfStory_21 (by decide) ?_
      exact W.zret (v := nI 0) hx hb hr rfl (fun t9 ht hW => ⟨nI 0, rfl, (by first | (simp only [ob_os, decide_eq_true c6]; rfl) | (simp only [ob_os, decide_eq_false c6, c14]; rfl)), ht⟩) (fun _ h => absurd h List.not_mem_nil) dX5_isOfStory_22
    · refine lv_iconst (v := nI 1) hx hb dX5_isOfStory_17 (by decide) ?_
      refine lv_goto (tgt := 22) hx hb dX5_isOfStory_18 (by decide) ?_
      exact W.zret (v := nI 1) hx hb hr rfl (fun t9 ht hW => ⟨nI 1, rfl, (by first | (simp only [ob_os, decide_eq_true c6]; rfl) | (simp only [ob_os, decide_eq_false c6, c14]; rfl)), ht⟩) (fun _ h => absurd h List.not_mem_nil) dX5_isOfStory_22

set_option maxRecDepth 100000 in
set_option maxHeartbeats 4000000 in
theorem c_X5_storyLines (l : Launch) (D : va_G) (t : Nat → ClassId) (ar : Nat → Nat) (Bd Tr : Nat → Int32) (rn : Nat) (rcl rrd rsv rpb wf wa ro ah : Nat → Int32) (ct : Nat → Int64) (rmn : Nat) (rms rmf rmt rmp : Nat → Int32) (rcn : Nat) (sd V : Nat → Int32) (th : Int32) (hrn : rn ≤ 30) : Met l yX5_storyLines wsX5_storyLines ({ frames := 2, cells := 0, slots := 0, locals := 42 } : Room) (ob_Pp D t (ob_wR t ar Bd Tr rn rcl rrd rsv rpb wf wa ro ah ct rmn rms rmf rmt rmp rcn sd V th) [.ref (ar 0)]) (vp_Si (fun r : Int32 => r = nI (ob_ct (ob_os rpb wf wa) rn))) 0 0 (fun _ => False) := by
  refine Met.ofW (cc := cX5_storyLines) (maxL := 3) (ret := (some .int)) (by decide) rfl ?_
  intro p e s m args below meth c s₁ B hml hv
  obtain ⟨rfl, hP, hk⟩ := hv
  have hx := B.exec
  have hb := B.bytes
  have hr := B.returns
  have hts := atoms_spec (ws := wsX5_storyLines) B.pre
  have hown : s.vm.findClass RX5 = some m.cls := findClass_of_methodNamed B.named
  have hlocks := B.notSynchronized
  have hK := hk.1
  have hl := lv_entry [.ref (ar 0)] (n := 3) (Nat.le_of_ble_eq_true rfl)
  rw [lg_entry_eq]
  generalize (lg_sl [.ref (ar 0)] ++ List.replicate (3 - (lg_sl [.ref (ar 0)]).length) Slot.unset).toArray = ls at hl ⊢
  have hl : lv_has ls 3 [(0, .ref (ar 0))] := hl
  refine lv_iconst (v := nI 0) hx hb dX5_storyLines_0 (by decide) ?_
  refine lv_istore_n (lv' := [(1, .int (nI 0)), (0, .ref (ar 0))]) hx hb dX5_storyLines_1 rfl hl (by decide) rfl (fun ls hl => ?_)
  refine lv_iconst (v := nI 0) hx hb dX5_storyLines_2 (by decide) ?_
  refine lv_istore_n (lv' := [(2, .int (nI 0)), (1, .int (nI 0)), (0, .ref (ar 0))]) hx hb dX5_storyLines_3 rfl hl (by decide) rfl (fun ls hl => ?_)
  have k4 : ∀ fu : Nat, ∀ (k w : Nat), rn - k < fu → (k ≤ rn) → (w = ob_ct (ob_os rpb wf wa) k) → ∀ ls : Array Slot, lv_has ls 3 [(0, .ref (ar 0)), (1, .int (nI w)), (2, .int (nI k))] → W p l e (headSpec wsX5_storyLines ({ frames := 2, cells := 0, slots := 0, locals := 42 } : Room)).room s m ([.ref (ar 0)] : List Value).toArray below meth c s.heap [] 0 0 (MQ below (vp_Si (fun r : Int32 => r = nI (ob_ct (ob_os rpb wf wa) rn))) ([.ref (ar 0)] : List Value).toArray s 0 0 (fun _ => False)) (F0 m 4 ls []) := by
    intro fu
    induction fu with
    | zero => intro k w hfu; exact absurd hfu (Nat.not_lt_zero _)
    | succ fu ih =>
      intro k w hfu hq hw ls hl
      have ih4 := ih
      refine lv_iload_n hx hb dX5_storyLines_4 rfl (lv_at hl 2 rfl) ?_
      refine lv_aload_n hx hb dX5_storyLines_5 rfl (lv_at hl 0 rfl) ?_
      refine va_get (ci := 5) (C := RX5) (T := TX5) (N := 21) hx hb hts (fun w h => List.mem_cons_of_mem _ (List.mem_append_right _ (h))) hown hK hP 0 rfl rfl 2 (by decide) (hts (Cond.fieldLink RX5 89 "OutageBookModel" "lines" "I") (List.mem_of_getElem? (i := 1) rfl)) (fun _ h9 => h9) rfl dX5_storyLines_6 ?_
      refine ob_icmp_ge (tgt := 34) hx hb (by omega) (by omega) dX5_storyLines_9 (by decide) (fun c9 => ?_) (fun c9 => ?_)
      · refine lv_iload_n hx hb dX5_storyLines_34 rfl (lv_at hl 1 rfl) ?_
        exact W.iret (v := nI w) hx hb hr (fun t9 ht hW => ⟨nI w, rfl, (by rw [hw, Nat.le_antisymm hq c9]), ht⟩) (fun _ h => absurd h List.not_mem_nil) dX5_storyLines_35
      · refine lv_iload_n hx hb dX5_storyLines_12 rfl (lv_at hl 1 rfl) ?_
        refine lv_aload_n hx hb dX5_storyLines_13 rfl (lv_at hl 0 rfl) ?_
        refine lv_iload_n hx hb dX5_storyLines_14 rfl (lv_at hl 2 rfl) ?_
        refine vp_callSi (va_Run.run (va_runV (As := [.int (nI k)]) (rest := [.int (nI w)]) ⟨hx, hb, hml, hown, hts⟩ (c_X5_isOfStory l D t ar Bd Tr rn rcl rrd rsv rpb wf wa ro ah ct rmn rms rmf rmt rmp rcn sd V th k (by first | assumption | omega)) (cwV 1 hts gX5_storyLines_X5_isOfStory rfl rfl rfl (by decide +kernel) ⟨Nat.le_of_ble_eq_true rfl, Nat.le_of_ble_eq_true rfl⟩) (ob_preV (ci := 5) (q0 := 0) hP hk rfl rfl) rfl rfl hl.1 rfl (lv_room (Nat.le_of_ble_eq_true rfl)) dX5_storyLines_15 ⟨Nat.le_of_ble_eq_true rfl, Nat.le_of_ble_eq_true rfl⟩)) (fun r9 hr9 => ?_)
        subst hr9
        refine ob_if_eq (tgt := 25) hx hb dX5_storyLines_18 (by decide) (fun c18 => ?_) (fun c18 => ?_)
        · refine lv_iconst (v := nI 0) hx hb dX5_storyLines_25 (by decide) ?_
          refine lv_iadd hx hb dX5_storyLines_26 ?_
          rw [show (nI w) + (nI 0) = nI (w + 0) from nI_add _ _]
          refine lv_istore_n (lv' := [(1, .int (nI (w + 0))), (0, .ref (ar 0)), (2, .int (nI k))]) hx hb dX5_storyLines_27 rfl hl (by decide) rfl (fun ls hl => ?_)
          refine ob_inc (k := 2) (lv' := [(2, .int (nI (k + 1))), (1, .int (nI (w + 0))), (0, .ref (ar 0))]) hx hb dX5_storyLines_28 hl rfl (by decide) rfl (fun ls hl => ?_)
          refine lv_goto (tgt := 4) hx hb dX5_storyLines_31 (by decide) ?_
          exact ih4 (k + 1) (w + 0) (by omega) (by omega) (by first | (rfl; done) | (simp [ob_ct, c18, hw]; done)) _ (lv_sub hl [2, 1, 0] rfl)
        · refine lv_iconst (v := nI 1) hx hb dX5_storyLines_21 (by decide) ?_
          refine lv_goto (tgt := 26) hx hb dX5_storyLines_22 (by decide) ?_
          refine lv_iadd hx hb dX5_storyLines_26 ?_
          rw [show (nI w) + (nI 1) = nI (w + 1) from nI_add _ _]
          refine lv_istore_n (lv' := [(1, .int (nI (w + 1))), (0, .ref (ar 0)), (2, .int (nI k))]) hx hb dX5_storyLines_27 rfl hl (by decide) rfl (fun ls hl => ?_)
          refine ob_inc (k := 2) (lv' := [(2, .int (nI (k + 1))), (1, .int (nI (w + 1))), (0, .ref (ar 0))]) hx hb dX5_storyLines_28 hl rfl (by decide) rfl (fun ls hl => ?_)
          refine lv_goto (tgt := 4) hx hb dX5_storyLines_31 (by decide) ?_
          exact ih4 (k + 1) (w + 1) (by omega) (by omega) (by first | (rfl; done) | (simp [ob_ct, c18, hw]; done)) _ (lv_sub hl [2, 1, 0] rfl)
  exact k4 _ 0 0 (Nat.lt_succ_self _) (by omega) (by first | (rfl; done) | (simp [ob_ct, c18, hw]; done)) _ (lv_sub hl [2, 1, 0] rfl)

set_option maxRecDepth 100000 in
set_option maxHeartbeats 4000000 in
theorem c_X5_percent (l : Launch) (D : va_G) (t : Nat → ClassId) (ar : Nat → Nat) (Bd Tr : Nat → Int32) (rn : Nat) (rcl rrd rsv rpb wf wa ro ah : Nat → Int32) (ct : Nat → Int64) (rmn : Nat) (rms rmf rmt rmp : Nat → Int32) (rcn : Nat) (sd V : Nat → Int32) (th : Int32) (p1 q : Int32) (hrmn : rmn ≤ 40) : Met l yX5_percent wsX5_percent ({ frames := 1, cells := 0, slots := 0, locals := 22 } : Room) (ob_Pp D t (ob_wR t ar Bd Tr rn rcl rrd rsv rpb wf wa ro ah ct rmn rms rmf rmt rmp rcn sd V th) [.ref (ar 0), .int p1, .int q]) (vp_Si (fun r : Int32 => r = ob_pc rms rmf rmt rmp p1 q rmn)) 0 0 (fun _ => False) := by
  refine Met.ofW (cc := cX5_percent) (maxL := 6) (ret := (some .int)) (by decide) rfl ?_
  intro p e s m args below meth c s₁ B hml hv
  obtain ⟨rfl, hP, hk⟩ := hv
  have hx := B.exec
  have hb := B.bytes
  have hr := B.returns
  have hts := atoms_spec (ws := wsX5_percent) B.pre
  have hown : s.vm.findClass RX5 = some m.cls := findClass_of_methodNamed B.named
  have hlocks := B.notSynchronized
  have hK := hk.1
  have hl := lv_entry [.ref (ar 0), .int p1, .int q] (n := 6) (Nat.le_of_ble_eq_true rfl)
  rw [lg_entry_eq]
  generalize (lg_sl [.ref (ar 0), .int p1, .int q] ++ List.replicate (6 - (lg_sl [.ref (ar 0), .int p1, .int q]).length) Slot.unset).toArray = ls at hl ⊢
  have hl : lv_has ls 6 [(0, .ref (ar 0)), (1, .int p1), (2, .int q)] := hl
  refine lv_iconst (v := nI 0) hx hb dX5_percent_0 (by decide) ?_
  refine lv_istore_n (lv' := [(3, .int (nI 0)), (0, .ref (ar 0)), (1, .int p1), (2, .int q)]) hx hb dX5_percent_1 rfl hl (by decide) rfl (fun ls hl => ?_)
  refine lv_iconst (v := nI 0) hx hb dX5_percent_2 (by decide) ?_
  refine lv_istore (lv' := [(4, .int (nI 0)), (3, .int (nI 0)), (0, .ref (ar 0)), (1, .int p1), (2, .int q)]) hx hb dX5_percent_3 hl (by decide) rfl (fun ls hl => ?_)
  have k5 : ∀ fu : Nat, ∀ (k : Nat) (w : Int32), rmn - k < fu → (k ≤ rmn) → (w = ob_pc rms rmf rmt rmp p1 q k) → ∀ ls : Array Slot, lv_has ls 6 [(0, .ref (ar 0)), (1, .int p1), (2, .int q), (3, .int w), (4, .int (nI k))] → W p l e (headSpec wsX5_percent ({ frames := 1, cells := 0, slots := 0, locals := 22 } : Room)).room s m ([.ref (ar 0), .int p1, .int q] : List Value).toArray below meth c s.heap [] 0 0 (MQ below (vp_Si (fun r : Int32 => r = ob_pc rms rmf rmt rmp p1 q rmn)) ([.ref (ar 0), .int p1, .int q] : List Value).toArray s 0 0 (fun _ => False)) (F0 m 5 ls []) := by
    intro fu
    induction fu with
    | zero => intro k w hfu; exact absurd hfu (Nat.not_lt_zero _)
    | succ fu ih =>
      intro k w hfu hq hw ls hl
      have ih5 := ih
      refine lv_iload hx hb dX5_percent_5 (lv_at hl 4 rfl) ?_
      refine lv_aload_n hx hb dX5_percent_7 rfl (lv_at hl 0 rfl) ?_
      refine va_get (ci := 5) (C := RX5) (T := TX5) (N := 21) hx hb hts (fun w h => List.mem_cons_of_mem _ (List.mem_append_right _ (h))) hown hK hP 0 rfl rfl 12 (by decide) (hts (Cond.fieldLink RX5 113 "OutageBookModel" "measures" "I") (List.mem_of_getElem? (i := 1) rfl)) (fun _ h9 => h9) rfl dX5_percent_8 ?_
      refine ob_icmp_ge (tgt := 92) hx hb (by omega) (by omega) dX5_percent_11 (by decide) (fun c11 => ?_) (fun c11 => ?_)
      · refine lv_iload_n hx hb dX5_percent_92 rfl (lv_at hl 3 rfl) ?_
        exact W.iret (v := w) hx hb hr (fun t9 ht hW => ⟨w, rfl, (by rw [hw, Nat.le_antisymm hq c11]), ht⟩) (fun _ h => absurd h List.not_mem_nil) dX5_percent_93
      · have k56 : ∀ (b : Bool), (b = (ob_wm rms p1 k && ob_wi q (rmf k) (rmt k))) → ∀ ls : Array Slot, lv_has ls 6 [(0, .ref (ar 0)), (1, .int p1), (2, .int q), (3, .int w), (4, .int (nI k))] → W p l e (headSpec wsX5_percent ({ frames := 1, cells := 0, slots := 0, locals := 22 } : Room)).room s m ([.ref (ar 0), .int p1, .int q] : List Value).toArray below meth c s.heap [] 0 0 (MQ below (vp_Si (fun r : Int32 => r = ob_pc rms rmf rmt rmp p1 q rmn)) ([.ref (ar 0), .int p1, .int q] : List Value).toArray s 0 0 (fun _ => False)) (F0 m 56 ls [.int (ob_bi b)]) := by
          intro b hbb ls hl
          refine lv_istore (lv' := [(5, .int (ob_bi b)), (0, .ref (ar 0)), (1, .int p1), (2, .int q), (3, .int w), (4, .int (nI k))]) hx hb dX5_percent_56 hl (by decide) rfl (fun ls hl => ?_)
          refine lv_iload hx hb dX5_percent_58 (lv_at hl 0 rfl) ?_
          refine ob_if_eq (tgt := 84) hx hb dX5_percent_60 (by decide) (fun c60 => ?_) (fun c60 => ?_)
          · refine lv_iload_n hx hb dX5_percent_84 rfl (lv_at hl 4 rfl) ?_
            refine lv_istore_n (lv' := [(3, .int w), (5, .int (ob_bi b)), (0, .ref (ar 0)), (1, .int p1), (2, .int q), (4, .int (nI k))]) hx hb dX5_percent_85 rfl hl (by decide) rfl (fun ls hl => ?_)
            refine ob_inc (k := 5) (lv' := [(4, .int (nI (k + 1))), (3, .int w), (5, .int (ob_bi b)), (0, .ref (ar 0)), (1, .int p1), (2, .int q)]) hx hb dX5_percent_86 hl rfl (by decide) rfl (fun ls hl => ?_)
            refine lv_goto (tgt := 5) hx hb dX5_percent_89 (by decide) ?_
            exact ih5 (k + 1) w (by omega) (by omega) (by first | (rfl; done) | (simp only [ob_pc, ← hbb, ← hw, c60]; rfl; done) | (simp only [ob_pc, ← hbb, ← hw, c60, decide_eq_false (Int32.not_lt.mpr c71)]; rfl; done) | (simp only [ob_pc, ← hbb, ← hw, c60, decide_eq_true (Int32.not_le.mp c71)]; rfl; done)) _ (lv_sub hl [3, 4, 5, 1, 0] rfl)
          · refine lv_aload_n hx hb dX5_percent_63 rfl (lv_at hl 1 rfl) ?_
            refine va_get (ci := 5) (C := RX5) (T := TX5) (N := 21) hx hb hts (fun w h => List.mem_cons_of_mem _ (List.mem_append_right _ (h))) hown hK hP 0 rfl rfl 16 (by decide) (hts (Cond.fieldLink RX5 54 "OutageBookModel" "percents" "[I") (List.mem_of_getElem? (i := 5) rfl)) (fun _ h9 => h9) rfl dX5_percent_64 ?_
            refine lv_iload hx hb dX5_percent_67 (lv_at hl 5 rfl) ?_
            refine ob_iald hx hb hK hP 15 0 rfl rfl (by omega) (by decide) dX5_percent_69 ?_
            refine lv_iload_n hx hb dX5_percent_70 rfl (lv_at hl 4 rfl) ?_
            refine lv_icmp_le (tgt := 84) hx hb dX5_percent_71 (by decide) (fun c71 => ?_) (fun c71 => ?_)
            · refine lv_iload_n hx hb dX5_percent_84 rfl (lv_at hl 4 rfl) ?_
              refine lv_istore_n (lv' := [(3, .int w), (5, .int (ob_bi b)), (0, .ref (ar 0)), (1, .int p1), (2, .int q), (4, .int (nI k))]) hx hb dX5_percent_85 rfl hl (by decide) rfl (fun ls hl => ?_)
              refine ob_inc (k := 5) (lv' := [(4, .int (nI (k + 1))), (3, .int w), (5, .int (ob_bi b)), (0, .ref (ar 0)), (1, .int p1), (2, .int q)]) hx hb dX5_percent_86 hl rfl (by decide) rfl (fun ls hl => ?_)
              refine lv_goto (tgt := 5) hx hb dX5_percent_89 (by decide) ?_
              exact ih5 (k + 1) w (by omega) (by omega) (by first | (rfl; done) | (simp only [ob_pc, ← hbb, ← hw, c60]; rfl; done) | (simp only [ob_pc, ← hbb, ← hw, c60, decide_eq_false (Int32.not_lt.mpr c71)]; rfl; done) | (simp only [ob_pc, ← hbb, ← hw, c60, decide_eq_true (Int32.not_le.mp c71)]; rfl; done)) _ (lv_sub hl [3, 4, 5, 1, 0] rfl)
            · refine lv_aload_n hx hb dX5_percent_74 rfl (lv_at hl 1 rfl) ?_
              refine va_get (ci := 5) (C := RX5) (T := TX5) (N := 21) hx hb hts (fun w h => List.mem_cons_of_mem _ (List.mem_append_right _ (h))) hown hK hP 0 rfl rfl 16 (by decide) (hts (Cond.fieldLink RX5 54 "OutageBookModel" "percents" "[I") (List.mem_of_getElem? (i := 5) rfl)) (fun _ h9 => h9) rfl dX5_percent_75 ?_
              refine lv_iload hx hb dX5_percent_78 (lv_at hl 5 rfl) ?_
              refine ob_iald hx hb hK hP 15 0 rfl rfl (by omega) (by decide) dX5_percent_80 ?_
              refine lv_goto (tgt := 85) hx hb dX5_percent_81 (by decide) ?_
              refine lv_istore_n (lv' := [(3, .int (rmp k)), (5, .int (ob_bi b)), (0, .ref (ar 0)), (1, .int p1), (2, .int q), (4, .int (nI k))]) hx hb dX5_percent_85 rfl hl (by decide) rfl (fun ls hl => ?_)
              refine ob_inc (k := 5) (lv' := [(4, .int (nI (k + 1))), (3, .int (rmp k)), (5, .int (ob_bi b)), (0, .ref (ar 0)), (1, .int p1), (2, .int q)]) hx hb dX5_percent_86 hl rfl (by decide) rfl (fun ls hl => ?_)
              refine lv_goto (tgt := 5) hx hb dX5_percent_89 (by decide) ?_
              exact ih5 (k + 1) (rmp k) (by omega) (by omega) (by first | (rfl; done) | (simp only [ob_pc, ← hbb, ← hw, c60]; rfl; done) | (simp only [ob_pc, ← hbb, ← hw, c60, decide_eq_false (Int32.not_lt.mpr c71)]; rfl; done) | (simp only [ob_pc, ← hbb, ← hw, c60, decide_eq_true (Int32.not_le.mp c71)]; rfl; done)) _ (lv_sub hl [3, 4, 5, 1, 0] rfl)
        refine lv_iload_n hx hb dX5_percent_14 rfl (lv_at hl 1 rfl) ?_
        refine lv_iconst (v := (-1)) hx hb dX5_percent_15 (by decide) ?_
        refine lv_icmp_eq (tgt := 30) hx hb dX5_percent_16 (by decide) (fun c16 => ?_) (fun c16 => ?_)
        · refine lv_iload_n hx hb dX5_percent_30 rfl (lv_at hl 2 rfl) ?_
          refine lv_aload_n hx hb dX5_percent_31 rfl (lv_at hl 0 rfl) ?_
          refine va_get (ci := 5) (C := RX5) (T := TX5) (N := 21) hx hb hts (fun w h => List.mem_cons_of_mem _ (List.mem_append_right _ (h))) hown hK hP 0 rfl rfl 14 (by decide) (hts (Cond.fieldLink RX5 48 "OutageBookModel" "froms" "[I") (List.mem_of_getElem? (i := 3) rfl)) (fun _ h9 => h9) rfl dX5_percent_32 ?_
          refine lv_iload hx hb dX5_percent_35 (lv_at hl 4 rfl) ?_
          refine ob_iald hx hb hK hP 13 0 rfl rfl (by omega) (by decide) dX5_percent_37 ?_
          refine lv_aload_n hx hb dX5_percent_38 rfl (lv_at hl 0 rfl) ?_
          refine va_get (ci := 5) (C := RX5) (T := TX5) (N := 21) hx hb hts (fun w h => List.mem_cons_of_mem _ (List.mem_append_right _ (h))) hown hK hP 0 rfl rfl 15 (by decide) (hts (Cond.fieldLink RX5 51 "OutageBookModel" "tos" "[I") (List.mem_of_getElem? (i := 4) rfl)) (fun _ h9 => h9) rfl dX5_percent_39 ?_
          refine lv_iload hx hb dX5_percent_42 (lv_at hl 4 rfl) ?_
          refine ob_iald hx hb hK hP 14 0 rfl rfl (by omega) (by decide) dX5_percent_44 ?_
          refine vp_callSi (va_Run.run (va_runS (As := [.int q, .int (rmf k), .int (rmt k)]) (rest := []) ⟨hx, hb, hml, hown, hts⟩ (c_X5_isIn l D t q (rmf k) (rmt k)) (va_cwS 3 hts gX5_percent_X5_isIn rfl rfl rfl (by decide +kernel) ⟨Nat.le_of_ble_eq_true rfl, Nat.le_of_ble_eq_true rfl⟩) (ob_preS (hP.sub [] rfl) hk) rfl rfl hl.1 rfl (lv_room (Nat.le_of_ble_eq_true rfl)) dX5_percent_45 ⟨Nat.le_of_ble_eq_true rfl, Nat.le_of_ble_eq_true rfl⟩)) (fun r9 hr9 => ?_)
          subst hr9
          refine ob_if_eq (tgt := 55) hx hb dX5_percent_48 (by decide) (fun c48 => ?_) (fun c48 => ?_)
          · refine lv_iconst (v := nI 0) hx hb dX5_percent_55 (by decide) ?_
            exact k56 false (by first | (simp [ob_wm, c16, c48]; done) | (simp [ob_wm, c16, c27]; done) | (simp [ob_wm, c16, c27, c48]; done)) _ (lv_sub hl [0, 1, 2, 3, 4] rfl)
          · refine lv_iconst (v := nI 1) hx hb dX5_percent_51 (by decide) ?_
            refine lv_goto (tgt := 56) hx hb dX5_percent_52 (by decide) ?_
            exact k56 true (by first | (simp [ob_wm, c16, c48]; done) | (simp [ob_wm, c16, c27]; done) | (simp [ob_wm, c16, c27, c48]; done)) _ (lv_sub hl [0, 1, 2, 3, 4] rfl)
        · refine lv_aload_n hx hb dX5_percent_19 rfl (lv_at hl 0 rfl) ?_
          refine va_get (ci := 5) (C := RX5) (T := TX5) (N := 21) hx hb hts (fun w h => List.mem_cons_of_mem _ (List.mem_append_right _ (h))) hown hK hP 0 rfl rfl 13 (by decide) (hts (Cond.fieldLink RX5 45 "OutageBookModel" "measured" "[I") (List.mem_of_getElem? (i := 2) rfl)) (fun _ h9 => h9) rfl dX5_percent_20 ?_
          refine lv_iload hx hb dX5_percent_23 (lv_at hl 4 rfl) ?_
          refine ob_iald hx hb hK hP 12 0 rfl rfl (by omega) (by decide) dX5_percent_25 ?_
          refine lv_iload_n hx hb dX5_percent_26 rfl (lv_at hl 1 rfl) ?_
          refine lv_icmp_ne (tgt := 55) hx hb dX5_percent_27 (by decide) (fun c27 => ?_) (fun c27 => ?_)
          · refine lv_iconst (v := nI 0) hx hb dX5_percent_55 (by decide) ?_
            exact k56 false (by first | (simp [ob_wm, c16, c48]; done) | (simp [ob_wm, c16, c27]; done) | (simp [ob_wm, c16, c27, c48]; done)) _ (lv_sub hl [0, 1, 2, 3, 4] rfl)
          · refine lv_iload_n hx hb dX5_percent_30 rfl (lv_at hl 2 rfl) ?_
            refine lv_aload_n hx hb dX5_percent_31 rfl (lv_at hl 0 rfl) ?_
            refine va_get (ci := 5) (C := RX5) (T := TX5) (N := 21) hx hb hts (fun w h => List.mem_cons_of_mem _ (List.mem_append_right _ (h))) hown hK hP 0 rfl rfl 14 (by decide) (hts (Cond.fieldLink RX5 48 "OutageBookModel" "froms" "[I") (List.mem_of_getElem? (i := 3) rfl)) (fun _ h9 => h9) rfl dX5_percent_32 ?_
            refine lv_iload hx hb dX5_percent_35 (lv_at hl 4 rfl) ?_
            refine ob_iald hx hb hK hP 13 0 rfl rfl (by omega) (by decide) dX5_percent_37 ?_
            refine lv_aload_n hx hb dX5_percent_38 rfl (lv_at hl 0 rfl) ?_
            refine va_get (ci := 5) (C := RX5) (T := TX5) (N := 21) hx hb hts (fun w h => List.mem_cons_of_mem _ (List.mem_append_right _ (h))) hown hK hP 0 rfl rfl 15 (by decide) (hts (Cond.fieldLink RX5 51 "OutageBookModel" "tos" "[I") (List.mem_of_getElem? (i := 4) rfl)) (fun _ h9 => h9) rfl dX5_percent_39 ?_
            refine lv_iload hx hb dX5_percent_42 (lv_at hl 4 rfl) ?_
            refine ob_iald hx hb hK hP 14 0 rfl rfl (by omega) (by decide) dX5_percent_44 ?_
            refine vp_callSi (va_Run.run (va_runS (As := [.int q, .int (rmf k), .int (rmt k)]) (rest := []) ⟨hx, hb, hml, hown, hts⟩ (c_X5_isIn l D t q (rmf k) (rmt k)) (va_cwS 3 hts gX5_percent_X5_isIn rfl rfl rfl (by decide +kernel) ⟨Nat.le_of_ble_eq_true rfl, Nat.le_of_ble_eq_true rfl⟩) (ob_preS (hP.sub [] rfl) hk) rfl rfl hl.1 rfl (lv_room (Nat.le_of_ble_eq_true rfl)) dX5_percent_45 ⟨Nat.le_of_ble_eq_true rfl, Nat.le_of_ble_eq_true rfl⟩)) (fun r9 hr9 => ?_)
            subst hr9
            refine ob_if_eq (tgt := 55) hx hb dX5_percent_48 (by decide) (fun c48 => ?_) (fun c48 => ?_)
            · refine lv_iconst (v := nI 0) hx hb dX5_percent_55 (by decide) ?_
              exact k56 false (by first | (simp [ob_wm, c16, c48]; done) | (simp [ob_wm, c16, c27]; done) | (simp [ob_wm, c16, c27, c48]; done)) _ (lv_sub hl [0, 1, 2, 3, 4] rfl)
            · refine lv_iconst (v := nI 1) hx hb dX5_percent_51 (by decide) ?_
              refine lv_goto (tgt := 56) hx hb dX5_percent_52 (by decide) ?_
              exact k56 true (by first | (simp [ob_wm, c16, c48]; done) | (simp [ob_wm, c16, c27]; done) | (simp [ob_wm, c16, c27, c48]; done)) _ (lv_sub hl [0, 1, 2, 3, 4] rfl)
  exact k5 _ 0 (nI 0) (Nat.lt_succ_self _) (by omega) (by first | (rfl; done) | (simp only [ob_pc, ← hbb, ← hw, c60]; rfl; done) | (simp only [ob_pc, ← hbb, ← hw, c60, decide_eq_false (Int32.not_lt.mpr c71)]; rfl; done) | (simp only [ob_pc, ← hbb, ← hw, c60, decide_eq_true (Int32.not_le.mp c71)]; rfl; done)) _ (lv_sub hl [2, 3, 4, 1, 0] rfl)

set_option maxRecDepth 100000 in
set_option maxHeartbeats 4000000 in
theorem c_X5_change (l : Launch) (D : va_G) (t : Nat → ClassId) (ar : Nat → Nat) (Bd Tr : Nat → Int32) (rn : Nat) (rcl rrd rsv rpb wf wa ro ah : Nat → Int32) (ct : Nat → Int64) (rmn : Nat) (rms rmf rmt rmp : Nat → Int32) (rcn : Nat) (sd V : Nat → Int32) (th : Int32) (q : Int32) (hrmn : rmn ≤ 40) : Met l yX5_change wsX5_change ({ frames := 0, cells := 0, slots := 0, locals := 0 } : Room) (ob_Pp D t (ob_wR t ar Bd Tr rn rcl rrd rsv rpb wf wa ro ah ct rmn rms rmf rmt rmp rcn sd V th) [.ref (ar 0), .int q]) (vp_Si (fun r : Int32 => r = ob_cg rmf rmt q rmn)) 0 0 (fun _ => False) := by
  refine Met.ofW (cc := cX5_change) (maxL := 4) (ret := (some .int)) (by decide) rfl ?_
  intro p e s m args below meth c s₁ B hml hv
  obtain ⟨rfl, hP, hk⟩ := hv
  have hx := B.exec
  have hb := B.bytes
  have hr := B.returns
  have hts := atoms_spec (ws := wsX5_change) B.pre
  have hown : s.vm.findClass RX5 = some m.cls := findClass_of_methodNamed B.named
  have hlocks := B.notSynchronized
  have hK := hk.1
  have hl := lv_entry [.ref (ar 0), .int q] (n := 4) (Nat.le_of_ble_eq_true rfl)
  rw [lg_entry_eq]
  generalize (lg_sl [.ref (ar 0), .int q] ++ List.replicate (4 - (lg_sl [.ref (ar 0), .int q]).length) Slot.unset).toArray = ls at hl ⊢
  have hl : lv_has ls 4 [(0, .ref (ar 0)), (1, .int q)] := hl
  refine lv_sipush (v := nI 10001) hx hb dX5_change_0 (by decide) ?_
  refine lv_istore_n (lv' := [(2, .int (nI 10001)), (0, .ref (ar 0)), (1, .int q)]) hx hb dX5_change_3 rfl hl (by decide) rfl (fun ls hl => ?_)
  refine lv_iconst (v := nI 0) hx hb dX5_change_4 (by decide) ?_
  refine lv_istore_n (lv' := [(3, .int (nI 0)), (2, .int (nI 10001)), (0, .ref (ar 0)), (1, .int q)]) hx hb dX5_change_5 rfl hl (by decide) rfl (fun ls hl => ?_)
  have k6 : ∀ fu : Nat, ∀ (k : Nat) (w : Int32), rmn - k < fu → (k ≤ rmn) → (w = ob_cg rmf rmt q k) → ∀ ls : Array Slot, lv_has ls 4 [(0, .ref (ar 0)), (1, .int q), (2, .int w), (3, .int (nI k))] → W p l e (headSpec wsX5_change ({ frames := 0, cells := 0, slots := 0, locals := 0 } : Room)).room s m ([.ref (ar 0), .int q] : List Value).toArray below meth c s.heap [] 0 0 (MQ below (vp_Si (fun r : Int32 => r = ob_cg rmf rmt q rmn)) ([.ref (ar 0), .int q] : List Value).toArray s 0 0 (fun _ => False)) (F0 m 6 ls []) := by
    intro fu
    induction fu with
    | zero => intro k w hfu; exact absurd hfu (Nat.not_lt_zero _)
    | succ fu ih =>
      intro k w hfu hq hw ls hl
      have ih6 := ih
      refine lv_iload_n hx hb dX5_change_6 rfl (lv_at hl 3 rfl) ?_
      refine lv_aload_n hx hb dX5_change_7 rfl (lv_at hl 0 rfl) ?_
      refine va_get (ci := 5) (C := RX5) (T := TX5) (N := 21) hx hb hts (fun w h => List.mem_cons_of_mem _ (List.mem_append_right _ (h))) hown hK hP 0 rfl rfl 12 (by decide) (hts (Cond.fieldLink RX5 113 "OutageBookModel" "measures" "I") (List.mem_of_getElem? (i := 1) rfl)) (fun _ h9 => h9) rfl dX5_change_8 ?_
      refine ob_icmp_ge (tgt := 86) hx hb (by omega) (by omega) dX5_change_11 (by decide) (fun c11 => ?_) (fun c11 => ?_)
      · refine lv_iload_n hx hb dX5_change_86 rfl (lv_at hl 2 rfl) ?_
        exact W.iret (v := w) hx hb hr (fun t9 ht hW => ⟨w, rfl, (by rw [hw, Nat.le_antisymm hq c11]), ht⟩) (fun _ h => absurd h List.not_mem_nil) dX5_change_87
      · have k44 : ∀ (u : Int32), (u = if decide (q < rmf k) && decide (rmf k < w) then rmf k else w) → ∀ ls : Array Slot, lv_has ls 4 [(0, .ref (ar 0)), (1, .int q), (2, .int w), (3, .int (nI k))] → W p l e (headSpec wsX5_change ({ frames := 0, cells := 0, slots := 0, locals := 0 } : Room)).room s m ([.ref (ar 0), .int q] : List Value).toArray below meth c s.heap [] 0 0 (MQ below (vp_Si (fun r : Int32 => r = ob_cg rmf rmt q rmn)) ([.ref (ar 0), .int q] : List Value).toArray s 0 0 (fun _ => False)) (F0 m 44 ls [.int u]) := by
          intro u hu ls hl
          refine lv_istore_n (lv' := [(2, .int u), (0, .ref (ar 0)), (1, .int q), (3, .int (nI k))]) hx hb dX5_change_44 rfl hl (by decide) rfl (fun ls hl => ?_)
          refine lv_aload_n hx hb dX5_change_45 rfl (lv_at hl 1 rfl) ?_
          refine va_get (ci := 5) (C := RX5) (T := TX5) (N := 21) hx hb hts (fun w h => List.mem_cons_of_mem _ (List.mem_append_right _ (h))) hown hK hP 0 rfl rfl 15 (by decide) (hts (Cond.fieldLink RX5 51 "OutageBookModel" "tos" "[I") (List.mem_of_getElem? (i := 3) rfl)) (fun _ h9 => h9) rfl dX5_change_46 ?_
          refine lv_iload_n hx hb dX5_change_49 rfl (lv_at hl 3 rfl) ?_
          refine ob_iald hx hb hK hP 14 0 rfl rfl (by omega) (by decide) dX5_change_50 ?_
          refine lv_iload_n hx hb dX5_change_51 rfl (lv_at hl 2 rfl) ?_
          refine lv_icmp_lt (tgt := 78) hx hb dX5_change_52 (by decide) (fun c52 => ?_) (fun c52 => ?_)
          · refine lv_iload_n hx hb dX5_change_78 rfl (lv_at hl 0 rfl) ?_
            refine lv_istore_n (lv' := [(2, .int u), (0, .ref (ar 0)), (1, .int q), (3, .int (nI k))]) hx hb dX5_change_79 rfl hl (by decide) rfl (fun ls hl => ?_)
            refine ob_inc (k := 3) (lv' := [(3, .int (nI (k + 1))), (2, .int u), (0, .ref (ar 0)), (1, .int q)]) hx hb dX5_change_80 hl rfl (by decide) rfl (fun ls hl => ?_)
            refine lv_goto (tgt := 6) hx hb dX5_change_83 (by decide) ?_
            exact ih6 (k + 1) u (by omega) (by omega) (by first | (rfl; done) | (simp only [ob_cg, ← hw, ← hu, decide_eq_false (Int32.not_le.mpr c52), Bool.false_and]; exact (if_neg (by decide)).symm; done) | (simp only [ob_cg, ← hw, ← hu, decide_eq_true (Int32.not_lt.mp c52), decide_eq_false (Int32.not_lt.mpr c64), Bool.and_false]; exact (if_neg (by decide)).symm; done) | (simp only [ob_cg, ← hw, ← hu, decide_eq_true (Int32.not_lt.mp c52), decide_eq_true (Int32.not_le.mp c64), Bool.and_true]; exact (if_pos trivial).symm; done)) _ (lv_sub hl [2, 3, 1, 0] rfl)
          · refine lv_aload_n hx hb dX5_change_55 rfl (lv_at hl 1 rfl) ?_
            refine va_get (ci := 5) (C := RX5) (T := TX5) (N := 21) hx hb hts (fun w h => List.mem_cons_of_mem _ (List.mem_append_right _ (h))) hown hK hP 0 rfl rfl 15 (by decide) (hts (Cond.fieldLink RX5 51 "OutageBookModel" "tos" "[I") (List.mem_of_getElem? (i := 3) rfl)) (fun _ h9 => h9) rfl dX5_change_56 ?_
            refine lv_iload_n hx hb dX5_change_59 rfl (lv_at hl 3 rfl) ?_
            refine ob_iald hx hb hK hP 14 0 rfl rfl (by omega) (by decide) dX5_change_60 ?_
            refine lv_iconst (v := nI 1) hx hb dX5_change_61 (by decide) ?_
            refine lv_iadd hx hb dX5_change_62 ?_
            refine lv_iload_n hx hb dX5_change_63 rfl (lv_at hl 0 rfl) ?_
            refine lv_icmp_ge (tgt := 78) hx hb dX5_change_64 (by decide) (fun c64 => ?_) (fun c64 => ?_)
            · refine lv_iload_n hx hb dX5_change_78 rfl (lv_at hl 0 rfl) ?_
              refine lv_istore_n (lv' := [(2, .int u), (0, .ref (ar 0)), (1, .int q), (3, .int (nI k))]) hx hb dX5_change_79 rfl hl (by decide) rfl (fun ls hl => ?_)
              refine ob_inc (k := 3) (lv' := [(3, .int (nI (k + 1))), (2, .int u), (0, .ref (ar 0)), (1, .int q)]) hx hb dX5_change_80 hl rfl (by decide) rfl (fun ls hl => ?_)
              refine lv_goto (tgt := 6) hx hb dX5_change_83 (by decide) ?_
              exact ih6 (k + 1) u (by omega) (by omega) (by first | (rfl; done) | (simp only [ob_cg, ← hw, ← hu, decide_eq_false (Int32.not_le.mpr c52), Bool.false_and]; exact (if_neg (by decide)).symm; done) | (simp only [ob_cg, ← hw, ← hu, decide_eq_true (Int32.not_lt.mp c52), decide_eq_false (Int32.not_lt.mpr c64), Bool.and_false]; exact (if_neg (by decide)).symm; done) | (simp only [ob_cg, ← hw, ← hu, decide_eq_true (Int32.not_lt.mp c52), decide_eq_true (Int32.not_le.mp c64), Bool.and_true]; exact (if_pos trivial).symm; done)) _ (lv_sub hl [2, 3, 1, 0] rfl)
            · refine lv_aload_n hx hb dX5_change_67 rfl (lv_at hl 1 rfl) ?_
              refine va_get (ci := 5) (C := RX5) (T := TX5) (N := 21) hx hb hts (fun w h => List.mem_cons_of_mem _ (List.mem_append_right _ (h))) hown hK hP 0 rfl rfl 15 (by decide) (hts (Cond.fieldLink RX5 51 "OutageBookModel" "tos" "[I") (List.mem_of_getElem? (i := 3) rfl)) (fun _ h9 => h9) rfl dX5_change_68 ?_
              refine lv_iload_n hx hb dX5_change_71 rfl (lv_at hl 3 rfl) ?_
              refine ob_iald hx hb hK hP 14 0 rfl rfl (by omega) (by decide) dX5_change_72 ?_
              refine lv_iconst (v := nI 1) hx hb dX5_change_73 (by decide) ?_
              refine lv_iadd hx hb dX5_change_74 ?_
              refine lv_goto (tgt := 79) hx hb dX5_change_75 (by decide) ?_
              refine lv_istore_n (lv' := [(2, .int ((rmt k) + (nI 1))), (0, .ref (ar 0)), (1, .int q), (3, .int (nI k))]) hx hb dX5_change_79 rfl hl (by decide) rfl (fun ls hl => ?_)
              refine ob_inc (k := 3) (lv' := [(3, .int (nI (k + 1))), (2, .int ((rmt k) + (nI 1))), (0, .ref (ar 0)), (1, .int q)]) hx hb dX5_change_80 hl rfl (by decide) rfl (fun ls hl => ?_)
              refine lv_goto (tgt := 6) hx hb dX5_change_83 (by decide) ?_
              exact ih6 (k + 1) ((rmt k) + (nI 1)) (by omega) (by omega) (by first | (rfl; done) | (simp only [ob_cg, ← hw, ← hu, decide_eq_false (Int32.not_le.mpr c52), Bool.false_and]; exact (if_neg (by decide)).symm; done) | (simp only [ob_cg, ← hw, ← hu, decide_eq_true (Int32.not_lt.mp c52), decide_eq_false (Int32.not_lt.mpr c64), Bool.and_false]; exact (if_neg (by decide)).symm; done) | (simp only [ob_cg, ← hw, ← hu, decide_eq_true (Int32.not_lt.mp c52), decide_eq_true (Int32.not_le.mp c64), Bool.and_true]; exact (if_pos trivial).symm; done)) _ (lv_sub hl [2, 3, 1, 0] rfl)
        refine lv_aload_n hx hb dX5_change_14 rfl (lv_at hl 0 rfl) ?_
        refine va_get (ci := 5) (C := RX5) (T := TX5) (N := 21) hx hb hts (fun w h => List.mem_cons_of_mem _ (List.mem_append_right _ (h))) hown hK hP 0 rfl rfl 14 (by decide) (hts (Cond.fieldLink RX5 48 "OutageBookModel" "froms" "[I") (List.mem_of_getElem? (i := 2) rfl)) (fun _ h9 => h9) rfl dX5_change_15 ?_
        refine lv_iload_n hx hb dX5_change_18 rfl (lv_at hl 3 rfl) ?_
        refine ob_iald hx hb hK hP 13 0 rfl rfl (by omega) (by decide) dX5_change_19 ?_
        refine lv_iload_n hx hb dX5_change_20 rfl (lv_at hl 1 rfl) ?_
        refine lv_icmp_le (tgt := 43) hx hb dX5_change_21 (by decide) (fun c21 => ?_) (fun c21 => ?_)
        · refine lv_iload_n hx hb dX5_change_43 rfl (lv_at hl 2 rfl) ?_
          exact k44 w (by first | (simp only [decide_eq_false (Int32.not_lt.mpr c21), Bool.false_and]; exact (if_neg (by decide)).symm; done) | (simp only [decide_eq_false (Int32.not_lt.mpr c31), Bool.and_false]; exact (if_neg (by decide)).symm; done) | (simp only [decide_eq_true (Int32.not_le.mp c21), decide_eq_true (Int32.not_le.mp c31), Bool.and_true]; exact (if_pos trivial).symm; done)) _ (lv_sub hl [0, 1, 2, 3] rfl)
        · refine lv_aload_n hx hb dX5_change_24 rfl (lv_at hl 0 rfl) ?_
          refine va_get (ci := 5) (C := RX5) (T := TX5) (N := 21) hx hb hts (fun w h => List.mem_cons_of_mem _ (List.mem_append_right _ (h))) hown hK hP 0 rfl rfl 14 (by decide) (hts (Cond.fieldLink RX5 48 "OutageBookModel" "froms" "[I") (List.mem_of_getElem? (i := 2) rfl)) (fun _ h9 => h9) rfl dX5_change_25 ?_
          refine lv_iload_n hx hb dX5_change_28 rfl (lv_at hl 3 rfl) ?_
          refine ob_iald hx hb hK hP 13 0 rfl rfl (by omega) (by decide) dX5_change_29 ?_
          refine lv_iload_n hx hb dX5_change_30 rfl (lv_at hl 2 rfl) ?_
          refine lv_icmp_ge (tgt := 43) hx hb dX5_change_31 (by decide) (fun c31 => ?_) (fun c31 => ?_)
          · refine lv_iload_n hx hb dX5_change_43 rfl (lv_at hl 2 rfl) ?_
            exact k44 w (by first | (simp only [decide_eq_false (Int32.not_lt.mpr c21), Bool.false_and]; exact (if_neg (by decide)).symm; done) | (simp only [decide_eq_false (Int32.not_lt.mpr c31), Bool.and_false]; exact (if_neg (by decide)).symm; done) | (simp only [decide_eq_true (Int32.not_le.mp c21), decide_eq_true (Int32.not_le.mp c31), Bool.and_true]; exact (if_pos trivial).symm; done)) _ (lv_sub hl [0, 1, 2, 3] rfl)
          · refine lv_aload_n hx hb dX5_change_34 rfl (lv_at hl 0 rfl) ?_
            refine va_get (ci := 5) (C := RX5) (T := TX5) (N := 21) hx hb hts (fun w h => List.mem_cons_of_mem _ (List.mem_append_right _ (h))) hown hK hP 0 rfl rfl 14 (by decide) (hts (Cond.fieldLink RX5 48 "OutageBookModel" "froms" "[I") (List.mem_of_getElem? (i := 2) rfl)) (fun _ h9 => h9) rfl dX5_change_35 ?_
            refine lv_iload_n hx hb dX5_change_38 rfl (lv_at hl 3 rfl) ?_
            refine ob_iald hx hb hK hP 13 0 rfl rfl (by omega) (by decide) dX5_change_39 ?_
            refine lv_goto (tgt := 44) hx hb dX5_change_40 (by decide) ?_
            exact k44 (rmf k) (by first | (simp only [decide_eq_false (Int32.not_lt.mpr c21), Bool.false_and]; exact (if_neg (by decide)).symm; done) | (simp only [decide_eq_false (Int32.not_lt.mpr c31), Bool.and_false]; exact (if_neg (by decide)).symm; done) | (simp only [decide_eq_true (Int32.not_le.mp c21), decide_eq_true (Int32.not_le.mp c31), Bool.and_true]; exact (if_pos trivial).symm; done)) _ (lv_sub hl [0, 1, 2, 3] rfl)
  exact k6 _ 0 (nI 10001) (Nat.lt_succ_self _) (by omega) (by first | (rfl; done) | (simp only [ob_cg, ← hw, ← hu, decide_eq_false (Int32.not_le.mpr c52), Bool.false_and]; exact (if_neg (by decide)).symm; done) | (simp only [ob_cg, ← hw, ← hu, decide_eq_true (Int32.not_lt.mp c52), decide_eq_false (Int32.not_lt.mpr c64), Bool.and_false]; exact (if_neg (by decide)).symm; done) | (simp only [ob_cg, ← hw, ← hu, decide_eq_true (Int32.not_lt.mp c52), decide_eq_true (Int32.not_le.mp c64), Bool.and_true]; exact (if_pos trivial).symm; done)) _ (lv_sub hl [2, 3, 1, 0] rfl)

set_option maxRecDepth 100000 in
set_option maxHeartbeats 4000000 in
theorem c_X5_reached (l : Launch) (D : va_G) (t : Nat → ClassId) (ar : Nat → Nat) (Bd Tr : Nat → Int32) (rn : Nat) (rcl rrd rsv rpb wf wa ro ah : Nat → Int32) (ct : Nat → Int64) (rmn : Nat) (rms rmf rmt rmp : Nat → Int32) (rcn : Nat) (sd V : Nat → Int32) (th : Int32) (x : Int32) (b : Bool) : Met l yX5_reached wsX5_reached ({ frames := 0, cells := 0, slots := 0, locals := 0 } : Room) (ob_Pp D t (ob_wR t ar Bd Tr rn rcl rrd rsv rpb wf wa ro ah ct rmn rms rmf rmt rmp rcn sd V th) [.ref (ar 0), .int x, .int (ob_bi b)]) (vp_Si (fun r : Int32 => r = ob_rr V sd x b 4096)) 0 0 (fun _ => False) := by
  refine Met.ofW (cc := cX5_reached) (maxL := 8) (ret := (some .int)) (by decide) rfl ?_
  intro p e s m args below meth c s₁ B hml hv
  obtain ⟨rfl, hP, hk⟩ := hv
  have hx := B.exec
  have hb := B.bytes
  have hr := B.returns
  have hts := atoms_spec (ws := wsX5_reached) B.pre
  have hown : s.vm.findClass RX5 = some m.cls := findClass_of_methodNamed B.named
  have hlocks := B.notSynchronized
  have hK := hk.1
  have hl := lv_entry [.ref (ar 0), .int x, .int (ob_bi b)] (n := 8) (Nat.le_of_ble_eq_true rfl)
  rw [lg_entry_eq]
  generalize (lg_sl [.ref (ar 0), .int x, .int (ob_bi b)] ++ List.replicate (8 - (lg_sl [.ref (ar 0), .int x, .int (ob_bi b)]).length) Slot.unset).toArray = ls at hl ⊢
  have hl : lv_has ls 8 [(0, .ref (ar 0)), (1, .int x), (2, .int (ob_bi b))] := hl
  refine lv_iconst (v := nI 1) hx hb dX5_reached_0 (by decide) ?_
  refine lv_iload_n hx hb dX5_reached_1 rfl (lv_at hl 1 rfl) ?_
  refine lv_ishl hx hb dX5_reached_2 ?_
  refine lv_istore_n (lv' := [(3, .int ((nI 1) <<< (x &&& 31))), (0, .ref (ar 0)), (1, .int x), (2, .int (ob_bi b))]) hx hb dX5_reached_3 rfl hl (by decide) rfl (fun ls hl => ?_)
  refine lv_iconst (v := nI 0) hx hb dX5_reached_4 (by decide) ?_
  refine lv_istore (lv' := [(4, .int (nI 0)), (3, .int ((nI 1) <<< (x &&& 31))), (0, .ref (ar 0)), (1, .int x), (2, .int (ob_bi b))]) hx hb dX5_reached_5 hl (by decide) rfl (fun ls hl => ?_)
  have k7 : ∀ fu : Nat, ∀ (k : Nat) (w : Int32), 4096 - k < fu → (k ≤ 4096) → (w = ob_rr V sd x b k) → ∀ ls : Array Slot, lv_has ls 8 [(0, .ref (ar 0)), (1, .int x), (2, .int (ob_bi b)), (3, .int w), (4, .int (nI k))] → W p l e (headSpec wsX5_reached ({ frames := 0, cells := 0, slots := 0, locals := 0 } : Room)).room s m ([.ref (ar 0), .int x, .int (ob_bi b)] : List Value).toArray below meth c s.heap [] 0 0 (MQ below (vp_Si (fun r : Int32 => r = ob_rr V sd x b 4096)) ([.ref (ar 0), .int x, .int (ob_bi b)] : List Value).toArray s 0 0 (fun _ => False)) (F0 m 7 ls []) := by
    intro fu
    induction fu with
    | zero => intro k w hfu; exact absurd hfu (Nat.not_lt_zero _)
    | succ fu ih =>
      intro k w hfu hq hw ls hl
      have ih7 := ih
      refine lv_iload hx hb dX5_reached_7 (lv_at hl 4 rfl) ?_
      refine lv_sipush (v := nI 4096) hx hb dX5_reached_9 (by decide) ?_
      refine ob_icmp_ge (tgt := 101) hx hb (by omega) (by omega) dX5_reached_12 (by decide) (fun c12 => ?_) (fun c12 => ?_)
      · refine lv_iload_n hx hb dX5_reached_101 rfl (lv_at hl 3 rfl) ?_
        exact W.iret (v := w) hx hb hr (fun t9 ht hW => ⟨w, rfl, (by rw [hw, Nat.le_antisymm hq c12]), ht⟩) (fun _ h => absurd h List.not_mem_nil) dX5_reached_102
      · refine lv_iload hx hb dX5_reached_15 (lv_at hl 4 rfl) ?_
        refine lv_bipush (v := nI 16) hx hb dX5_reached_17 (by decide) ?_
        refine lv_idiv hx hb dX5_reached_19 (by decide) ?_
        rw [show (nI k) / (nI 16) = nI (k / 16) from pk_div (by omega) (by decide) (by decide)]
        refine lv_bipush (v := nI 16) hx hb dX5_reached_20 (by decide) ?_
        refine lv_irem hx hb dX5_reached_22 (by decide) ?_
        rw [show (nI (k / 16)) - (nI (k / 16)) / (nI 16) * (nI 16) = nI (k / 16 % 16) from pk_rem (by omega) (by decide) (by decide)]
        refine lv_istore (lv' := [(5, .int (nI (k / 16 % 16))), (0, .ref (ar 0)), (1, .int x), (2, .int (ob_bi b)), (3, .int w), (4, .int (nI k))]) hx hb dX5_reached_23 hl (by decide) rfl (fun ls hl => ?_)
        refine lv_iload hx hb dX5_reached_25 (lv_at hl 5 rfl) ?_
        refine lv_bipush (v := nI 16) hx hb dX5_reached_27 (by decide) ?_
        refine lv_irem hx hb dX5_reached_29 (by decide) ?_
        rw [show (nI k) - (nI k) / (nI 16) * (nI 16) = nI (k % 16) from pk_rem (by omega) (by decide) (by decide)]
        refine lv_istore (lv' := [(6, .int (nI (k % 16))), (5, .int (nI (k / 16 % 16))), (0, .ref (ar 0)), (1, .int x), (2, .int (ob_bi b)), (3, .int w), (4, .int (nI k))]) hx hb dX5_reached_30 hl (by decide) rfl (fun ls hl => ?_)
        have k77 : ∀ (b9 : Bool), (b9 = ob_rq V sd b w k) → ∀ ls : Array Slot, lv_has ls 8 [(0, .ref (ar 0)), (1, .int x), (2, .int (ob_bi b)), (3, .int w), (4, .int (nI k)), (5, .int (nI (k / 16 % 16))), (6, .int (nI (k % 16)))] → W p l e (headSpec wsX5_reached ({ frames := 0, cells := 0, slots := 0, locals := 0 } : Room)).room s m ([.ref (ar 0), .int x, .int (ob_bi b)] : List Value).toArray below meth c s.heap [] 0 0 (MQ below (vp_Si (fun r : Int32 => r = ob_rr V sd x b 4096)) ([.ref (ar 0), .int x, .int (ob_bi b)] : List Value).toArray s 0 0 (fun _ => False)) (F0 m 77 ls [.int (ob_bi b9)]) := by
          intro b9 h9 ls hl
          refine lv_istore (lv' := [(7, .int (ob_bi b9)), (0, .ref (ar 0)), (1, .int x), (2, .int (ob_bi b)), (3, .int w), (4, .int (nI k)), (5, .int (nI (k / 16 % 16))), (6, .int (nI (k % 16)))]) hx hb dX5_reached_77 hl (by decide) rfl (fun ls hl => ?_)
          refine lv_iload_n hx hb dX5_reached_79 rfl (lv_at hl 4 rfl) ?_
          refine lv_iload hx hb dX5_reached_80 (lv_at hl 0 rfl) ?_
          refine ob_if_eq (tgt := 92) hx hb dX5_reached_82 (by decide) (fun c82 => ?_) (fun c82 => ?_)
          · refine lv_iconst (v := nI 0) hx hb dX5_reached_92 (by decide) ?_
            refine lv_ior hx hb dX5_reached_93 ?_
            refine lv_istore_n (lv' := [(3, .int (w ||| (nI 0))), (7, .int (ob_bi b9)), (0, .ref (ar 0)), (1, .int x), (2, .int (ob_bi b)), (4, .int (nI k)), (5, .int (nI (k / 16 % 16))), (6, .int (nI (k % 16)))]) hx hb dX5_reached_94 rfl hl (by decide) rfl (fun ls hl => ?_)
            refine ob_inc (k := 5) (lv' := [(4, .int (nI (k + 1))), (3, .int (w ||| (nI 0))), (7, .int (ob_bi b9)), (0, .ref (ar 0)), (1, .int x), (2, .int (ob_bi b)), (5, .int (nI (k / 16 % 16))), (6, .int (nI (k % 16)))]) hx hb dX5_reached_95 hl rfl (by decide) rfl (fun ls hl => ?_)
            refine lv_goto (tgt := 7) hx hb dX5_reached_98 (by decide) ?_
            exact ih7 (k + 1) (w ||| (nI 0)) (by omega) (by omega) (by first | (rfl; done) | (simp only [ob_rr, ← hw, ← h9, c82]; exact ob_or0 _; done) | (simp only [ob_rr, ← hw, ← h9, c82]; rfl; done)) _ (lv_sub hl [3, 4, 5, 1, 0] rfl)
          · refine lv_iconst (v := nI 1) hx hb dX5_reached_85 (by decide) ?_
            refine lv_iload hx hb dX5_reached_86 (lv_at hl 7 rfl) ?_
            refine lv_ishl hx hb dX5_reached_88 ?_
            refine lv_goto (tgt := 93) hx hb dX5_reached_89 (by decide) ?_
            refine lv_ior hx hb dX5_reached_93 ?_
            refine lv_istore_n (lv' := [(3, .int (w ||| ((nI 1) <<< ((nI (k % 16)) &&& 31)))), (7, .int (ob_bi b9)), (0, .ref (ar 0)), (1, .int x), (2, .int (ob_bi b)), (4, .int (nI k)), (5, .int (nI (k / 16 % 16))), (6, .int (nI (k % 16)))]) hx hb dX5_reached_94 rfl hl (by decide) rfl (fun ls hl => ?_)
            refine ob_inc (k := 5) (lv' := [(4, .int (nI (k + 1))), (3, .int (w ||| ((nI 1) <<< ((nI (k % 16)) &&& 31)))), (7, .int (ob_bi b9)), (0, .ref (ar 0)), (1, .int x), (2, .int (ob_bi b)), (5, .int (nI (k / 16 % 16))), (6, .int (nI (k % 16)))]) hx hb dX5_reached_95 hl rfl (by decide) rfl (fun ls hl => ?_)
            refine lv_goto (tgt := 7) hx hb dX5_reached_98 (by decide) ?_
            exact ih7 (k + 1) (w ||| ((nI 1) <<< ((nI (k % 16)) &&& 31))) (by omega) (by omega) (by first | (rfl; done) | (simp only [ob_rr, ← hw, ← h9, c82]; exact ob_or0 _; done) | (simp only [ob_rr, ← hw, ← h9, c82]; rfl; done)) _ (lv_sub hl [3, 4, 5, 1, 0] rfl)
        refine lv_iload_n hx hb dX5_reached_32 rfl (lv_at hl 5 rfl) ?_
        refine lv_iload hx hb dX5_reached_33 (lv_at hl 1 rfl) ?_
        refine lv_ishr hx hb dX5_reached_35 ?_
        refine lv_iconst (v := nI 1) hx hb dX5_reached_36 (by decide) ?_
        refine lv_iand hx hb dX5_reached_37 ?_
        rw [show (w >>> ((nI (k / 16 % 16)) &&& 31)) &&& (nI 1) = ob_bi (ob_hb w (nI (k / 16 % 16))) from ob_sh1 (by omega)]
        refine lv_iconst (v := nI 1) hx hb dX5_reached_38 (by decide) ?_
        refine ob_bcmp_ne (tgt := 76) hx hb dX5_reached_39 (by decide) (fun c39 => ?_) (fun c39 => ?_)
        · refine lv_iconst (v := nI 0) hx hb dX5_reached_76 (by decide) ?_
          exact k77 false (by first | (simp [ob_rq, c39]; done) | (simp [ob_rq, c39, Int32.not_lt.mpr c55]; done) | (simp [ob_rq, c39, Int32.not_le.mp c55, c65]; done) | (simp [ob_rq, c39, Int32.not_le.mp c55, c65, c69]; done)) _ (lv_sub hl [2, 3, 4, 5, 6, 1, 0] rfl)
        · refine lv_aload_n hx hb dX5_reached_42 rfl (lv_at hl 2 rfl) ?_
          refine va_get (ci := 5) (C := RX5) (T := TX5) (N := 21) hx hb hts (fun w h => List.mem_cons_of_mem _ (List.mem_append_right _ (h))) hown hK hP 0 rfl rfl 19 (by decide) (hts (Cond.fieldLink RX5 60 "OutageBookModel" "weights" "[I") (List.mem_of_getElem? (i := 1) rfl)) (fun _ h9 => h9) rfl dX5_reached_43 ?_
          refine lv_bipush (v := nI 16) hx hb dX5_reached_46 (by decide) ?_
          refine lv_iload hx hb dX5_reached_48 (lv_at hl 1 rfl) ?_
          refine lv_imul hx hb dX5_reached_50 ?_
          rw [show (nI 16) * (nI (k / 16 % 16)) = nI (16 * (k / 16 % 16)) from pk_mul 16 _]
          refine lv_iload hx hb dX5_reached_51 (lv_at hl 0 rfl) ?_
          refine lv_iadd hx hb dX5_reached_53 ?_
          rw [show (nI (16 * (k / 16 % 16))) + (nI (k % 16)) = nI (16 * (k / 16 % 16) + k % 16) from nI_add _ _]
          refine ob_iald hx hb hK hP 17 0 rfl rfl (by omega) (by decide) dX5_reached_54 ?_
          refine lv_if_le (tgt := 76) hx hb dX5_reached_55 (by decide) (fun c55 => ?_) (fun c55 => ?_)
          · refine lv_iconst (v := nI 0) hx hb dX5_reached_76 (by decide) ?_
            exact k77 false (by first | (simp [ob_rq, c39]; done) | (simp [ob_rq, c39, Int32.not_lt.mpr c55]; done) | (simp [ob_rq, c39, Int32.not_le.mp c55, c65]; done) | (simp [ob_rq, c39, Int32.not_le.mp c55, c65, c69]; done)) _ (lv_sub hl [2, 3, 4, 5, 6, 1, 0] rfl)
          · refine lv_aload_n hx hb dX5_reached_58 rfl (lv_at hl 2 rfl) ?_
            refine va_get (ci := 5) (C := RX5) (T := TX5) (N := 21) hx hb hts (fun w h => List.mem_cons_of_mem _ (List.mem_append_right _ (h))) hown hK hP 0 rfl rfl 18 (by decide) (hts (Cond.fieldLink RX5 57 "OutageBookModel" "stands" "[Z") (List.mem_of_getElem? (i := 2) rfl)) (fun _ h9 => h9) rfl dX5_reached_59 ?_
            refine lv_iload hx hb dX5_reached_62 (lv_at hl 0 rfl) ?_
            refine ob_zald hx hb hK hP 16 2 rfl rfl (by omega) (by decide) dX5_reached_64 ?_
            refine lv_if_ne (tgt := 72) hx hb dX5_reached_65 (by decide) (fun c65 => ?_) (fun c65 => ?_)
            · refine lv_iconst (v := nI 1) hx hb dX5_reached_72 (by decide) ?_
              refine lv_goto (tgt := 77) hx hb dX5_reached_73 (by decide) ?_
              exact k77 true (by first | (simp [ob_rq, c39]; done) | (simp [ob_rq, c39, Int32.not_lt.mpr c55]; done) | (simp [ob_rq, c39, Int32.not_le.mp c55, c65]; done) | (simp [ob_rq, c39, Int32.not_le.mp c55, c65, c69]; done)) _ (lv_sub hl [2, 3, 4, 5, 6, 1, 0] rfl)
            · refine lv_iload_n hx hb dX5_reached_68 rfl (lv_at hl 4 rfl) ?_
              refine ob_if_ne (tgt := 76) hx hb dX5_reached_69 (by decide) (fun c69 => ?_) (fun c69 => ?_)
              · refine lv_iconst (v := nI 0) hx hb dX5_reached_76 (by decide) ?_
                exact k77 false (by first | (simp [ob_rq, c39]; done) | (simp [ob_rq, c39, Int32.not_lt.mpr c55]; done) | (simp [ob_rq, c39, Int32.not_le.mp c55, c65]; done) | (simp [ob_rq, c39, Int32.not_le.mp c55, c65, c69]; done)) _ (lv_sub hl [2, 3, 4, 5, 6, 1, 0] rfl)
              · refine lv_iconst (v := nI 1) hx hb dX5_reached_72 (by decide) ?_
                refine lv_goto (tgt := 77) hx hb dX5_reached_73 (by decide) ?_
                exact k77 true (by first | (simp [ob_rq, c39]; done) | (simp [ob_rq, c39, Int32.not_lt.mpr c55]; done) | (simp [ob_rq, c39, Int32.not_le.mp c55, c65]; done) | (simp [ob_rq, c39, Int32.not_le.mp c55, c65, c69]; done)) _ (lv_sub hl [2, 3, 4, 5, 6, 1, 0] rfl)
  exact k7 _ 0 ((nI 1) <<< (x &&& 31)) (Nat.lt_succ_self _) (by omega) (by first | (rfl; done) | (simp only [ob_rr, ← hw, ← h9, c82]; exact ob_or0 _; done) | (simp only [ob_rr, ← hw, ← h9, c82]; rfl; done)) _ (lv_sub hl [2, 3, 4, 1, 0] rfl)

set_option maxRecDepth 100000 in
set_option maxHeartbeats 4000000 in
theorem c_X5_mainOf (l : Launch) (D : va_G) (t : Nat → ClassId) (ar : Nat → Nat) (Bd Tr : Nat → Int32) (rn : Nat) (rcl rrd rsv rpb wf wa ro ah : Nat → Int32) (ct : Nat → Int64) (rmn : Nat) (rms rmf rmt rmp : Nat → Int32) (rcn : Nat) (sd V : Nat → Int32) (th : Int32) (i : Nat) (hrcn : rcn ≤ 16) (hi : i < 16) : Met l yX5_mainOf wsX5_mainOf ({ frames := 0, cells := 0, slots := 0, locals := 0 } : Room) (ob_Pp D t (ob_wR t ar Bd Tr rn rcl rrd rsv rpb wf wa ro ah ct rmn rms rmf rmt rmp rcn sd V th) [.ref (ar 0), .int (nI i)]) (vp_Si (fun r : Int32 => r = (ob_mo V sd i rcn).1)) 0 0 (fun _ => False) := by
  refine Met.ofW (cc := cX5_mainOf) (maxL := 6) (ret := (some .int)) (by decide) rfl ?_
  intro p e s m args below meth c s₁ B hml hv
  obtain ⟨rfl, hP, hk⟩ := hv
  have hx := B.exec
  have hb := B.bytes
  have hr := B.returns
  have hts := atoms_spec (ws := wsX5_mainOf) B.pre
  have hown : s.vm.findClass RX5 = some m.cls := findClass_of_methodNamed B.named
  have hlocks := B.notSynchronized
  have hK := hk.1
  have hl := lv_entry [.ref (ar 0), .int (nI i)] (n := 6) (Nat.le_of_ble_eq_true rfl)
  rw [lg_entry_eq]
  generalize (lg_sl [.ref (ar 0), .int (nI i)] ++ List.replicate (6 - (lg_sl [.ref (ar 0), .int (nI i)]).length) Slot.unset).toArray = ls at hl ⊢
  have hl : lv_has ls 6 [(0, .ref (ar 0)), (1, .int (nI i))] := hl
  refine lv_iconst (v := (-1)) hx hb dX5_mainOf_0 (by decide) ?_
  refine lv_istore_n (lv' := [(2, .int (-1)), (0, .ref (ar 0)), (1, .int (nI i))]) hx hb dX5_mainOf_1 rfl hl (by decide) rfl (fun ls hl => ?_)
  refine lv_iconst (v := nI 0) hx hb dX5_mainOf_2 (by decide) ?_
  refine lv_istore_n (lv' := [(3, .int (nI 0)), (2, .int (-1)), (0, .ref (ar 0)), (1, .int (nI i))]) hx hb dX5_mainOf_3 rfl hl (by decide) rfl (fun ls hl => ?_)
  refine lv_iconst (v := nI 0) hx hb dX5_mainOf_4 (by decide) ?_
  refine lv_istore (lv' := [(4, .int (nI 0)), (3, .int (nI 0)), (2, .int (-1)), (0, .ref (ar 0)), (1, .int (nI i))]) hx hb dX5_mainOf_5 hl (by decide) rfl (fun ls hl => ?_)
  have k7 : ∀ fu : Nat, ∀ (k : Nat) (w v : Int32), rcn - k < fu → (k ≤ rcn) → (w = (ob_mo V sd i k).1) → (v = (ob_mo V sd i k).2) → ∀ ls : Array Slot, lv_has ls 6 [(0, .ref (ar 0)), (1, .int (nI i)), (2, .int w), (3, .int v), (4, .int (nI k))] → W p l e (headSpec wsX5_mainOf ({ frames := 0, cells := 0, slots := 0, locals := 0 } : Room)).room s m ([.ref (ar 0), .int (nI i)] : List Value).toArray below meth c s.heap [] 0 0 (MQ below (vp_Si (fun r : Int32 => r = (ob_mo V sd i rcn).1)) ([.ref (ar 0), .int (nI i)] : List Value).toArray s 0 0 (fun _ => False)) (F0 m 7 ls []) := by
    intro fu
    induction fu with
    | zero => intro k w v hfu; exact absurd hfu (Nat.not_lt_zero _)
    | succ fu ih =>
      intro k w v hfu hq hw hv ls hl
      have ih7 := ih
      refine lv_iload hx hb dX5_mainOf_7 (lv_at hl 4 rfl) ?_
      refine lv_aload_n hx hb dX5_mainOf_9 rfl (lv_at hl 0 rfl) ?_
      refine va_get (ci := 5) (C := RX5) (T := TX5) (N := 21) hx hb hts (fun w h => List.mem_cons_of_mem _ (List.mem_append_right _ (h))) hown hK hP 0 rfl rfl 17 (by decide) (hts (Cond.fieldLink RX5 124 "OutageBookModel" "causes" "I") (List.mem_of_getElem? (i := 1) rfl)) (fun _ h9 => h9) rfl dX5_mainOf_10 ?_
      refine ob_icmp_ge (tgt := 89) hx hb (by omega) (by omega) dX5_mainOf_13 (by decide) (fun c13 => ?_) (fun c13 => ?_)
      · refine lv_iload_n hx hb dX5_mainOf_89 rfl (lv_at hl 2 rfl) ?_
        exact W.iret (v := w) hx hb hr (fun t9 ht hW => ⟨w, rfl, (by rw [hw, Nat.le_antisymm hq c13]), ht⟩) (fun _ h => absurd h List.not_mem_nil) dX5_mainOf_90
      · have k47 : ∀ (b9 : Bool), (b9 = (!decide (sd k = 0) && decide (v < V (16 * i + k)))) → ∀ ls : Array Slot, lv_has ls 6 [(0, .ref (ar 0)), (1, .int (nI i)), (2, .int w), (3, .int v), (4, .int (nI k))] → W p l e (headSpec wsX5_mainOf ({ frames := 0, cells := 0, slots := 0, locals := 0 } : Room)).room s m ([.ref (ar 0), .int (nI i)] : List Value).toArray below meth c s.heap [] 0 0 (MQ below (vp_Si (fun r : Int32 => r = (ob_mo V sd i rcn).1)) ([.ref (ar 0), .int (nI i)] : List Value).toArray s 0 0 (fun _ => False)) (F0 m 47 ls [.int (ob_bi b9)]) := by
          intro b9 h9 ls hl
          refine lv_istore (lv' := [(5, .int (ob_bi b9)), (0, .ref (ar 0)), (1, .int (nI i)), (2, .int w), (3, .int v), (4, .int (nI k))]) hx hb dX5_mainOf_47 hl (by decide) rfl (fun ls hl => ?_)
          have k60 : ∀ (u : Int32), (u = if b9 then nI k else w) → ∀ ls : Array Slot, lv_has ls 6 [(0, .ref (ar 0)), (1, .int (nI i)), (2, .int w), (3, .int v), (4, .int (nI k)), (5, .int (ob_bi b9))] → W p l e (headSpec wsX5_mainOf ({ frames := 0, cells := 0, slots := 0, locals := 0 } : Room)).room s m ([.ref (ar 0), .int (nI i)] : List Value).toArray below meth c s.heap [] 0 0 (MQ below (vp_Si (fun r : Int32 => r = (ob_mo V sd i rcn).1)) ([.ref (ar 0), .int (nI i)] : List Value).toArray s 0 0 (fun _ => False)) (F0 m 60 ls [.int u]) := by
            intro u hu ls hl
            refine lv_istore_n (lv' := [(2, .int u), (0, .ref (ar 0)), (1, .int (nI i)), (3, .int v), (4, .int (nI k)), (5, .int (ob_bi b9))]) hx hb dX5_mainOf_60 rfl hl (by decide) rfl (fun ls hl => ?_)
            refine lv_iload hx hb dX5_mainOf_61 (lv_at hl 5 rfl) ?_
            refine ob_if_eq (tgt := 81) hx hb dX5_mainOf_63 (by decide) (fun c63 => ?_) (fun c63 => ?_)
            · refine lv_iload_n hx hb dX5_mainOf_81 rfl (lv_at hl 3 rfl) ?_
              refine lv_istore_n (lv' := [(3, .int v), (2, .int u), (0, .ref (ar 0)), (1, .int (nI i)), (4, .int (nI k)), (5, .int (ob_bi b9))]) hx hb dX5_mainOf_82 rfl hl (by decide) rfl (fun ls hl => ?_)
              refine ob_inc (k := 4) (lv' := [(4, .int (nI (k + 1))), (3, .int v), (2, .int u), (0, .ref (ar 0)), (1, .int (nI i)), (5, .int (ob_bi b9))]) hx hb dX5_mainOf_83 hl rfl (by decide) rfl (fun ls hl => ?_)
              refine lv_goto (tgt := 7) hx hb dX5_mainOf_86 (by decide) ?_
              exact ih7 (k + 1) u v (by omega) (by omega) (by first | (rfl; done) | (simp only [ob_mo, ← hv, ← h9, hu]; cases b9 <;> simp [hw]; done)) (by first | (rfl; done) | (simp only [ob_mo, ← hv, ← h9, c63]; exact hv; done) | (simp only [ob_mo, ← hv, ← h9, c63]; rfl; done)) _ (lv_sub hl [3, 4, 2, 1, 0] rfl)
            · refine lv_aload_n hx hb dX5_mainOf_66 rfl (lv_at hl 1 rfl) ?_
              refine va_get (ci := 5) (C := RX5) (T := TX5) (N := 21) hx hb hts (fun w h => List.mem_cons_of_mem _ (List.mem_append_right _ (h))) hown hK hP 0 rfl rfl 19 (by decide) (hts (Cond.fieldLink RX5 60 "OutageBookModel" "weights" "[I") (List.mem_of_getElem? (i := 3) rfl)) (fun _ h9 => h9) rfl dX5_mainOf_67 ?_
              refine lv_bipush (v := nI 16) hx hb dX5_mainOf_70 (by decide) ?_
              refine lv_iload_n hx hb dX5_mainOf_72 rfl (lv_at hl 2 rfl) ?_
              refine lv_imul hx hb dX5_mainOf_73 ?_
              rw [show (nI 16) * (nI i) = nI (16 * i) from pk_mul 16 _]
              refine lv_iload hx hb dX5_mainOf_74 (lv_at hl 4 rfl) ?_
              refine lv_iadd hx hb dX5_mainOf_76 ?_
              rw [show (nI (16 * i)) + (nI k) = nI (16 * i + k) from nI_add _ _]
              refine ob_iald hx hb hK hP 17 0 rfl rfl (by omega) (by decide) dX5_mainOf_77 ?_
              refine lv_goto (tgt := 82) hx hb dX5_mainOf_78 (by decide) ?_
              refine lv_istore_n (lv' := [(3, .int (V (16 * i + k))), (2, .int u), (0, .ref (ar 0)), (1, .int (nI i)), (4, .int (nI k)), (5, .int (ob_bi b9))]) hx hb dX5_mainOf_82 rfl hl (by decide) rfl (fun ls hl => ?_)
              refine ob_inc (k := 4) (lv' := [(4, .int (nI (k + 1))), (3, .int (V (16 * i + k))), (2, .int u), (0, .ref (ar 0)), (1, .int (nI i)), (5, .int (ob_bi b9))]) hx hb dX5_mainOf_83 hl rfl (by decide) rfl (fun ls hl => ?_)
              refine lv_goto (tgt := 7) hx hb dX5_mainOf_86 (by decide) ?_
              exact ih7 (k + 1) u (V (16 * i + k)) (by omega) (by omega) (by first | (rfl; done) | (simp only [ob_mo, ← hv, ← h9, hu]; cases b9 <;> simp [hw]; done)) (by first | (rfl; done) | (simp only [ob_mo, ← hv, ← h9, c63]; exact hv; done) | (simp only [ob_mo, ← hv, ← h9, c63]; rfl; done)) _ (lv_sub hl [3, 4, 2, 1, 0] rfl)
          refine lv_iload hx hb dX5_mainOf_49 (lv_at hl 0 rfl) ?_
          refine ob_if_eq (tgt := 59) hx hb dX5_mainOf_51 (by decide) (fun c51 => ?_) (fun c51 => ?_)
          · refine lv_iload_n hx hb dX5_mainOf_59 rfl (lv_at hl 3 rfl) ?_
            exact k60 w (by rw [c51]; rfl) _ (lv_sub hl [1, 2, 3, 4, 5, 0] rfl)
          · refine lv_iload hx hb dX5_mainOf_54 (lv_at hl 5 rfl) ?_
            refine lv_goto (tgt := 60) hx hb dX5_mainOf_56 (by decide) ?_
            exact k60 (nI k) (by rw [c51]; rfl) _ (lv_sub hl [1, 2, 3, 4, 5, 0] rfl)
        refine lv_aload_n hx hb dX5_mainOf_16 rfl (lv_at hl 0 rfl) ?_
        refine va_get (ci := 5) (C := RX5) (T := TX5) (N := 21) hx hb hts (fun w h => List.mem_cons_of_mem _ (List.mem_append_right _ (h))) hown hK hP 0 rfl rfl 18 (by decide) (hts (Cond.fieldLink RX5 57 "OutageBookModel" "stands" "[Z") (List.mem_of_getElem? (i := 2) rfl)) (fun _ h9 => h9) rfl dX5_mainOf_17 ?_
        refine lv_iload hx hb dX5_mainOf_20 (lv_at hl 4 rfl) ?_
        refine ob_zald hx hb hK hP 16 2 rfl rfl (by omega) (by decide) dX5_mainOf_22 ?_
        refine lv_if_eq (tgt := 46) hx hb dX5_mainOf_23 (by decide) (fun c23 => ?_) (fun c23 => ?_)
        · refine lv_iconst (v := nI 0) hx hb dX5_mainOf_46 (by decide) ?_
          exact k47 false (by first | (simp [c23]; done) | (simp [c23, Int32.not_lt.mpr c39]; done) | (simp [c23, Int32.not_le.mp c39]; done)) _ (lv_sub hl [0, 1, 2, 3, 4] rfl)
        · refine lv_aload_n hx hb dX5_mainOf_26 rfl (lv_at hl 0 rfl) ?_
          refine va_get (ci := 5) (C := RX5) (T := TX5) (N := 21) hx hb hts (fun w h => List.mem_cons_of_mem _ (List.mem_append_right _ (h))) hown hK hP 0 rfl rfl 19 (by decide) (hts (Cond.fieldLink RX5 60 "OutageBookModel" "weights" "[I") (List.mem_of_getElem? (i := 3) rfl)) (fun _ h9 => h9) rfl dX5_mainOf_27 ?_
          refine lv_bipush (v := nI 16) hx hb dX5_mainOf_30 (by decide) ?_
          refine lv_iload_n hx hb dX5_mainOf_32 rfl (lv_at hl 1 rfl) ?_
          refine lv_imul hx hb dX5_mainOf_33 ?_
          rw [show (nI 16) * (nI i) = nI (16 * i) from pk_mul 16 _]
          refine lv_iload hx hb dX5_mainOf_34 (lv_at hl 4 rfl) ?_
          refine lv_iadd hx hb dX5_mainOf_36 ?_
          rw [show (nI (16 * i)) + (nI k) = nI (16 * i + k) from nI_add _ _]
          refine ob_iald hx hb hK hP 17 0 rfl rfl (by omega) (by decide) dX5_mainOf_37 ?_
          refine lv_iload_n hx hb dX5_mainOf_38 rfl (lv_at hl 3 rfl) ?_
          refine lv_icmp_le (tgt := 46) hx hb dX5_mainOf_39 (by decide) (fun c39 => ?_) (fun c39 => ?_)
          · refine lv_iconst (v := nI 0) hx hb dX5_mainOf_46 (by decide) ?_
            exact k47 false (by first | (simp [c23]; done) | (simp [c23, Int32.not_lt.mpr c39]; done) | (simp [c23, Int32.not_le.mp c39]; done)) _ (lv_sub hl [0, 1, 2, 3, 4] rfl)
          · refine lv_iconst (v := nI 1) hx hb dX5_mainOf_42 (by decide) ?_
            refine lv_goto (tgt := 47) hx hb dX5_mainOf_43 (by decide) ?_
            exact k47 true (by first | (simp [c23]; done) | (simp [c23, Int32.not_lt.mpr c39]; done) | (simp [c23, Int32.not_le.mp c39]; done)) _ (lv_sub hl [0, 1, 2, 3, 4] rfl)
  exact k7 _ 0 (-1) (nI 0) (Nat.lt_succ_self _) (by omega) (by first | (rfl; done) | (simp only [ob_mo, ← hv, ← h9, hu]; cases b9 <;> simp [hw]; done)) (by first | (rfl; done) | (simp only [ob_mo, ← hv, ← h9, c63]; exact hv; done) | (simp only [ob_mo, ← hv, ← h9, c63]; rfl; done)) _ (lv_sub hl [3, 4, 2, 1, 0] rfl)
