set_option maxRecDepth 100000 in
set_option maxHeartbeats 4000000 in
theorem c_X5_binds (l : Launch) (D : va_G) (t : Nat → ClassId) (sz : Nat) (ar : Nat → Nat) (Bd Tr : Nat → Int32) (rn : Nat) (rcl rrd rsv rpb wf wa ro ah : Nat → Int32) (ct : Nat → Int64) (rmn : Nat) (rms rmf rmt rmp : Nat → Int32) (rcn : Nat) (sd V : Nat → Int32) (th : Int32) (a b : Nat) (x : Int32) (ha : a ≤ 4) (hb4 : b ≤ 4) : Met l yX5_binds wsX5_binds ({ frames := 0, cells := 0, slots := 0, locals := 0 } : Room) (ob_Pm D t (ob_wR t ar Bd Tr rn rcl rrd rsv rpb wf wa ro ah ct rmn rms rmf rmt rmp rcn sd V th) sz [.ref (ar 0), .int (nI a), .int (nI b), .int x]) (va_Qv (fun _ : Unit => True) (fun (_ : Unit) (t9 : State) => va_P D vwCl (ob_wR t ar Bd (ob_bn Tr a b x) rn rcl rrd rsv rpb wf wa ro ah ct rmn rms rmf rmt rmp rcn sd V th) t9.heap) (va_A (ob_wR t ar Bd Tr rn rcl rrd rsv rpb wf wa ro ah ct rmn rms rmf rmt rmp rcn sd V th) sz)) 0 0 (va_A (ob_wR t ar Bd Tr rn rcl rrd rsv rpb wf wa ro ah ct rmn rms rmf rmt rmp rcn sd V th) sz) := by
  refine Met.ofW (cc := cX5_binds) (maxL := 4) (ret := none) (by decide) rfl ?_
  intro p e s m args below meth c s₁ B hml hv
  obtain ⟨rfl, hsz, hP, hk, hD0⟩ := hv
  have hx := B.exec
  have hb := B.bytes
  have hr := B.returns
  have hts := atoms_spec (ws := wsX5_binds) B.pre
  have hown : s.vm.findClass RX5 = some m.cls := findClass_of_methodNamed B.named
  have hlocks := B.notSynchronized
  have hK := hk.1
  have hD : va_D (va_A (ob_wR t ar Bd Tr rn rcl rrd rsv rpb wf wa ro ah ct rmn rms rmf rmt rmp rcn sd V th) sz) (ob_wR t ar Bd Tr rn rcl rrd rsv rpb wf wa ro ah ct rmn rms rmf rmt rmp rcn sd V th) := hD0.self (sz := sz)
  have hA : ∀ q : Nat, s.heap.size ≤ q → (va_A (ob_wR t ar Bd Tr rn rcl rrd rsv rpb wf wa ro ah ct rmn rms rmf rmt rmp rcn sd V th) sz) q := fun q h => Or.inr (hsz ▸ h)
  have hS : va_S (va_A (ob_wR t ar Bd Tr rn rcl rrd rsv rpb wf wa ro ah ct rmn rms rmf rmt rmp rcn sd V th) sz) s.heap s.heap [] := va_S.rf
  have hl := lv_entry [.ref (ar 0), .int (nI a), .int (nI b), .int x] (n := 4) (Nat.le_of_ble_eq_true rfl)
  rw [lg_entry_eq]
  generalize (lg_sl [.ref (ar 0), .int (nI a), .int (nI b), .int x] ++ List.replicate (4 - (lg_sl [.ref (ar 0), .int (nI a), .int (nI b), .int x]).length) Slot.unset).toArray = ls at hl ⊢
  have hl : lv_has ls 4 [(0, .ref (ar 0)), (1, .int (nI a)), (2, .int (nI b)), (3, .int x)] := hl
  have hP : va_P D vwCl (ob_wR t ar Bd Tr rn rcl rrd rsv rpb wf wa ro ah ct rmn rms rmf rmt rmp rcn sd V th) s.heap := hP
  refine lv_aload_n hx hb dX5_binds_0 rfl (lv_at hl 0 rfl) ?_
  refine va_get (ci := 5) (C := RX5) (T := TX5) (N := 21) hx hb hts (fun w h => List.mem_cons_of_mem _ (List.mem_append_right _ (h))) hown hK hP 0 rfl rfl 1 (by decide) (hts (Cond.fieldLink RX5 13 "OutageBookModel" "tried" "[I") (List.mem_of_getElem? (i := 1) rfl)) (fun _ h9 => h9) rfl dX5_binds_1 ?_
  refine lv_iconst (v := nI 5) hx hb dX5_binds_4 (by decide) ?_
  refine lv_iload_n hx hb dX5_binds_5 rfl (lv_at hl 1 rfl) ?_
  refine lv_imul hx hb dX5_binds_6 ?_
  rw [show (nI 5) * (nI a) = nI (5 * a) from pk_mul 5 a]
  refine lv_iload_n hx hb dX5_binds_7 rfl (lv_at hl 2 rfl) ?_
  refine lv_iadd hx hb dX5_binds_8 ?_
  rw [show (nI (5 * a)) + (nI b) = nI (5 * a + b) from nI_add _ _]
  refine lv_iload_n hx hb dX5_binds_9 rfl (lv_at hl 3 rfl) ?_
  have k37 : ∀ (v : Int32), (v = if x < Tr (5 * a + b) then x else Tr (5 * a + b)) → ∀ ls : Array Slot, lv_has ls 4 [(0, .ref (ar 0)), (1, .int (nI a)), (2, .int (nI b)), (3, .int x)] → W p l e (headSpec wsX5_binds ({ frames := 0, cells := 0, slots := 0, locals := 0 } : Room)).room s m ([.ref (ar 0), .int (nI a), .int (nI b), .int x] : List Value).toArray below meth c s.heap [] 0 0 (MQ below (va_Qv (fun _ : Unit => True) (fun (_ : Unit) (t9 : State) => va_P D vwCl (ob_wR t ar Bd (ob_bn Tr a b x) rn rcl rrd rsv rpb wf wa ro ah ct rmn rms rmf rmt rmp rcn sd V th) t9.heap) (va_A (ob_wR t ar Bd Tr rn rcl rrd rsv rpb wf wa ro ah ct rmn rms rmf rmt rmp rcn sd V th) sz)) ([.ref (ar 0), .int (nI a), .int (nI b), .int x] : List Value).toArray s 0 0 (va_A (ob_wR t ar Bd Tr rn rcl rrd rsv rpb wf wa ro ah ct rmn rms rmf rmt rmp rcn sd V th) sz)) (F0 m 37 ls [.int v, .int (nI (5 * a + b)), .ref (ar 2)]) := by
    intro v hv ls hl
    refine ob_iast hx hb hK hP hD hS 2 0 rfl rfl (by omega) (by decide) dX5_binds_37 (fun H locs hP hD hS => ?_)
    have hP : va_P D vwCl (ob_wR t ar Bd (upd Tr (5 * a + b) v) rn rcl rrd rsv rpb wf wa ro ah ct rmn rms rmf rmt rmp rcn sd V th) H := hP
    have hD : va_D (va_A (ob_wR t ar Bd Tr rn rcl rrd rsv rpb wf wa ro ah ct rmn rms rmf rmt rmp rcn sd V th) sz) (ob_wR t ar Bd (upd Tr (5 * a + b) v) rn rcl rrd rsv rpb wf wa ro ah ct rmn rms rmf rmt rmp rcn sd V th) := hD
    exact W.vret hx hb hr (fun t9 ht hW => ⟨⟨(), rfl, trivial, ob_th ht (by unfold ob_bn; rw [← hv]; exact hP)⟩, hS.F ht⟩) hS.2.2 dX5_binds_38
  refine lv_aload_n hx hb dX5_binds_10 rfl (lv_at hl 0 rfl) ?_
  refine va_get (ci := 5) (C := RX5) (T := TX5) (N := 21) hx hb hts (fun w h => List.mem_cons_of_mem _ (List.mem_append_right _ (h))) hown hK hP 0 rfl rfl 1 (by decide) (hts (Cond.fieldLink RX5 13 "OutageBookModel" "tried" "[I") (List.mem_of_getElem? (i := 1) rfl)) (fun _ h9 => h9) rfl dX5_binds_11 ?_
  refine lv_iconst (v := nI 5) hx hb dX5_binds_14 (by decide) ?_
  refine lv_iload_n hx hb dX5_binds_15 rfl (lv_at hl 1 rfl) ?_
  refine lv_imul hx hb dX5_binds_16 ?_
  rw [show (nI 5) * (nI a) = nI (5 * a) from pk_mul 5 a]
  refine lv_iload_n hx hb dX5_binds_17 rfl (lv_at hl 2 rfl) ?_
  refine lv_iadd hx hb dX5_binds_18 ?_
  rw [show (nI (5 * a)) + (nI b) = nI (5 * a + b) from nI_add _ _]
  refine ob_iald hx hb hK hP 2 0 rfl rfl (by omega) (by decide) dX5_binds_19 ?_
  refine lv_icmp_ge (tgt := 27) hx hb dX5_binds_20 (by decide) (fun c20 => ?_) (fun c20 => ?_)
  · refine lv_aload_n hx hb dX5_binds_27 rfl (lv_at hl 0 rfl) ?_
    refine va_get (ci := 5) (C := RX5) (T := TX5) (N := 21) hx hb hts (fun w h => List.mem_cons_of_mem _ (List.mem_append_right _ (h))) hown hK hP 0 rfl rfl 1 (by decide) (hts (Cond.fieldLink RX5 13 "OutageBookModel" "tried" "[I") (List.mem_of_getElem? (i := 1) rfl)) (fun _ h9 => h9) rfl dX5_binds_28 ?_
    refine lv_iconst (v := nI 5) hx hb dX5_binds_31 (by decide) ?_
    refine lv_iload_n hx hb dX5_binds_32 rfl (lv_at hl 1 rfl) ?_
    refine lv_imul hx hb dX5_binds_33 ?_
    rw [show (nI 5) * (nI a) = nI (5 * a) from pk_mul 5 a]
    refine lv_iload_n hx hb dX5_binds_34 rfl (lv_at hl 2 rfl) ?_
    refine lv_iadd hx hb dX5_binds_35 ?_
    rw [show (nI (5 * a)) + (nI b) = nI (5 * a + b) from nI_add _ _]
    refine ob_iald hx hb hK hP 2 0 rfl rfl (by omega) (by decide) dX5_binds_36 ?_
    exact k37 (Tr (5 * a + b)) (by first | exact (if_neg (Int32.not_lt.mpr c20)).symm | exact (if_pos (Int32.not_le.mp c20)).symm) _ (lv_sub hl [0, 1, 2, 3] rfl)
  · refine lv_iload_n hx hb dX5_binds_23 rfl (lv_at hl 3 rfl) ?_
    refine lv_goto (tgt := 37) hx hb dX5_binds_24 (by decide) ?_
    exact k37 x (by first | exact (if_neg (Int32.not_lt.mpr c20)).symm | exact (if_pos (Int32.not_le.mp c20)).symm) _ (lv_sub hl [0, 1, 2, 3] rfl)

set_option maxRecDepth 100000 in
set_option maxHeartbeats 4000000 in
theorem c_X5_mark (l : Launch) (D : va_G) (t : Nat → ClassId) (sz : Nat) (ar : Nat → Nat) (Bd Tr : Nat → Int32) (rn : Nat) (rcl rrd rsv rpb wf wa ro ah : Nat → Int32) (ct : Nat → Int64) (rmn : Nat) (rms rmf rmt rmp : Nat → Int32) (rcn : Nat) (sd V : Nat → Int32) (th : Int32) (x1 x2 x3 x4 x5 : Int32) : Met l yX5_mark wsX5_mark ({ frames := 2, cells := 0, slots := 0, locals := 42 } : Room) (ob_Pm D t (ob_wR t ar Bd Tr rn rcl rrd rsv rpb wf wa ro ah ct rmn rms rmf rmt rmp rcn sd V th) sz [.ref (ar 0), .int x1, .int x2, .int x3, .int x4, .int x5]) (va_Qv (fun _ : Unit => True) (fun (_ : Unit) (t9 : State) => va_P D vwCl (ob_wR t ar (if ob_okm x1 x2 x3 x4 x5 && ob_cn (ob_T9 Bd Tr x1.toNatClampNeg x3.toNatClampNeg x2 x4 x5) 5 then ob_fl (ob_T9 Bd Tr x1.toNatClampNeg x3.toNatClampNeg x2 x4 x5) Bd 25 else Bd) (if ob_okm x1 x2 x3 x4 x5 then ob_T9 Bd Tr x1.toNatClampNeg x3.toNatClampNeg x2 x4 x5 else Tr) rn rcl rrd rsv rpb wf wa ro ah ct rmn rms rmf rmt rmp rcn sd V (nI (ob_z2 (ob_okm x1 x2 x3 x4 x5) (ob_cn (ob_T9 Bd Tr x1.toNatClampNeg x3.toNatClampNeg x2 x4 x5) 5)))) t9.heap) (va_A (ob_wR t ar Bd Tr rn rcl rrd rsv rpb wf wa ro ah ct rmn rms rmf rmt rmp rcn sd V th) sz)) 0 0 (va_A (ob_wR t ar Bd Tr rn rcl rrd rsv rpb wf wa ro ah ct rmn rms rmf rmt rmp rcn sd V th) sz) := by
  refine Met.ofW (cc := cX5_mark) (maxL := 12) (ret := none) (by decide) rfl ?_
  intro p e s m args below meth c s₁ B hml hv
  obtain ⟨rfl, hsz, hP, hk, hD0⟩ := hv
  have hx := B.exec
  have hb := B.bytes
  have hr := B.returns
  have hts := atoms_spec (ws := wsX5_mark) B.pre
  have hown : s.vm.findClass RX5 = some m.cls := findClass_of_methodNamed B.named
  have hlocks := B.notSynchronized
  have hK := hk.1
  have hD : va_D (va_A (ob_wR t ar Bd Tr rn rcl rrd rsv rpb wf wa ro ah ct rmn rms rmf rmt rmp rcn sd V th) sz) (ob_wR t ar Bd Tr rn rcl rrd rsv rpb wf wa ro ah ct rmn rms rmf rmt rmp rcn sd V th) := hD0.self (sz := sz)
  have hA : ∀ q : Nat, s.heap.size ≤ q → (va_A (ob_wR t ar Bd Tr rn rcl rrd rsv rpb wf wa ro ah ct rmn rms rmf rmt rmp rcn sd V th) sz) q := fun q h => Or.inr (hsz ▸ h)
  have hS : va_S (va_A (ob_wR t ar Bd Tr rn rcl rrd rsv rpb wf wa ro ah ct rmn rms rmf rmt rmp rcn sd V th) sz) s.heap s.heap [] := va_S.rf
  have hl := lv_entry [.ref (ar 0), .int x1, .int x2, .int x3, .int x4, .int x5] (n := 12) (Nat.le_of_ble_eq_true rfl)
  rw [lg_entry_eq]
  generalize (lg_sl [.ref (ar 0), .int x1, .int x2, .int x3, .int x4, .int x5] ++ List.replicate (12 - (lg_sl [.ref (ar 0), .int x1, .int x2, .int x3, .int x4, .int x5]).length) Slot.unset).toArray = ls at hl ⊢
  have hl : lv_has ls 12 [(0, .ref (ar 0)), (1, .int x1), (2, .int x2), (3, .int x3), (4, .int x4), (5, .int x5)] := hl
  have hP : va_P D vwCl (ob_wR t ar Bd Tr rn rcl rrd rsv rpb wf wa ro ah ct rmn rms rmf rmt rmp rcn sd V th) s.heap := hP
  have k51 : ∀ (b6 : Bool), (b6 = ob_okm x1 x2 x3 x4 x5) → ∀ ls : Array Slot, lv_has ls 12 [(0, .ref (ar 0)), (1, .int x1), (2, .int x2), (3, .int x3), (4, .int x4), (5, .int x5)] → W p l e (headSpec wsX5_mark ({ frames := 2, cells := 0, slots := 0, locals := 42 } : Room)).room s m ([.ref (ar 0), .int x1, .int x2, .int x3, .int x4, .int x5] : List Value).toArray below meth c s.heap [] 0 0 (MQ below (va_Qv (fun _ : Unit => True) (fun (_ : Unit) (t9 : State) => va_P D vwCl (ob_wR t ar (if ob_okm x1 x2 x3 x4 x5 && ob_cn (ob_T9 Bd Tr x1.toNatClampNeg x3.toNatClampNeg x2 x4 x5) 5 then ob_fl (ob_T9 Bd Tr x1.toNatClampNeg x3.toNatClampNeg x2 x4 x5) Bd 25 else Bd) (if ob_okm x1 x2 x3 x4 x5 then ob_T9 Bd Tr x1.toNatClampNeg x3.toNatClampNeg x2 x4 x5 else Tr) rn rcl rrd rsv rpb wf wa ro ah ct rmn rms rmf rmt rmp rcn sd V (nI (ob_z2 (ob_okm x1 x2 x3 x4 x5) (ob_cn (ob_T9 Bd Tr x1.toNatClampNeg x3.toNatClampNeg x2 x4 x5) 5)))) t9.heap) (va_A (ob_wR t ar Bd Tr rn rcl rrd rsv rpb wf wa ro ah ct rmn rms rmf rmt rmp rcn sd V th) sz)) ([.ref (ar 0), .int x1, .int x2, .int x3, .int x4, .int x5] : List Value).toArray s 0 0 (va_A (ob_wR t ar Bd Tr rn rcl rrd rsv rpb wf wa ro ah ct rmn rms rmf rmt rmp rcn sd V th) sz)) (F0 m 51 ls [.int (ob_bi b6)]) := by
    intro b6 h6 ls hl
    refine lv_istore (lv' := [(6, .int (ob_bi b6)), (0, .ref (ar 0)), (1, .int x1), (2, .int x2), (3, .int x3), (4, .int x4), (5, .int x5)]) hx hb dX5_mark_51 hl (by decide) rfl (fun ls hl => ?_)
    refine lv_aload_n hx hb dX5_mark_53 rfl (lv_at hl 1 rfl) ?_
    have k64 : ∀ (z : Nat), (z = ob_z1 b6) → ∀ ls : Array Slot, lv_has ls 12 [(0, .ref (ar 0)), (1, .int x1), (2, .int x2), (3, .int x3), (4, .int x4), (5, .int x5), (6, .int (ob_bi b6))] → W p l e (headSpec wsX5_mark ({ frames := 2, cells := 0, slots := 0, locals := 42 } : Room)).room s m ([.ref (ar 0), .int x1, .int x2, .int x3, .int x4, .int x5] : List Value).toArray below meth c s.heap [] 0 0 (MQ below (va_Qv (fun _ : Unit => True) (fun (_ : Unit) (t9 : State) => va_P D vwCl (ob_wR t ar (if ob_okm x1 x2 x3 x4 x5 && ob_cn (ob_T9 Bd Tr x1.toNatClampNeg x3.toNatClampNeg x2 x4 x5) 5 then ob_fl (ob_T9 Bd Tr x1.toNatClampNeg x3.toNatClampNeg x2 x4 x5) Bd 25 else Bd) (if ob_okm x1 x2 x3 x4 x5 then ob_T9 Bd Tr x1.toNatClampNeg x3.toNatClampNeg x2 x4 x5 else Tr) rn rcl rrd rsv rpb wf wa ro ah ct rmn rms rmf rmt rmp rcn sd V (nI (ob_z2 (ob_okm x1 x2 x3 x4 x5) (ob_cn (ob_T9 Bd Tr x1.toNatClampNeg x3.toNatClampNeg x2 x4 x5) 5)))) t9.heap) (va_A (ob_wR t ar Bd Tr rn rcl rrd rsv rpb wf wa ro ah ct rmn rms rmf rmt rmp rcn sd V th) sz)) ([.ref (ar 0), .int x1, .int x2, .int x3, .int x4, .int x5] : List Value).toArray s 0 0 (va_A (ob_wR t ar Bd Tr rn rcl rrd rsv rpb wf wa ro ah ct rmn rms rmf rmt rmp rcn sd V th) sz)) (F0 m 64 ls [.int (nI z), .ref (ar 0)]) := by
      intro z hz ls hl
      subst hz
      have hFc := va_free (wc := ob_wR t ar Bd Tr rn rcl rrd rsv rpb wf wa ro ah ct rmn rms rmf rmt rmp rcn sd V th) hD hS hA [0, 1, 2, 3, 4, 5, 6, 7, 8, 9, 10, 11, 12, 13, 14, 15, 16, 17] rfl
      refine va_calli (va_runV (As := [.int (nI (ob_z1 b6))]) (rest := []) ⟨hx, hb, hml, hown, hts⟩ (c_X5_goes l D t s.heap.size ar Bd Tr rn rcl rrd rsv rpb wf wa ro ah ct rmn rms rmf rmt rmp rcn sd V th (nI (ob_z1 b6))) (cwV 1 hts gX5_mark_X5_goes rfl rfl rfl (by decide +kernel) ⟨Nat.le_of_ble_eq_true rfl, Nat.le_of_ble_eq_true rfl⟩) (ob_pmV (ci := 5) (q0 := 0) hP hD hk rfl rfl) rfl rfl hl.1 rfl (lv_room (Nat.le_of_ble_eq_true rfl)) dX5_mark_64 ⟨Nat.le_of_ble_eq_true rfl, Nat.le_of_ble_eq_true rfl⟩) hS (fun q _ h => hFc q h) hFc (fun r9 u9 t9 H1 locs ht hvm hw9 hB hz1 hk1 hS => ?_)
      rw [ht] at hB
      have hP := ob_jn (ws' := ob_wR t ar Bd Tr rn rcl rrd rsv rpb wf wa ro ah ct rmn rms rmf rmt rmp rcn sd V (nI (ob_z1 b6))) hP hD [some 0, some 1, some 2, some 3, some 4, some 5, some 6, some 7, some 8, some 9, some 10, some 11, some 12, some 13, some 14, some 15, some 16, some 17] [0, 1, 2, 3, 4, 5, 6, 7, 8, 9, 10, 11, 12, 13, 14, 15, 16, 17] rfl rfl hk1 hB rfl
      have hD : va_D (va_A (ob_wR t ar Bd Tr rn rcl rrd rsv rpb wf wa ro ah ct rmn rms rmf rmt rmp rcn sd V th) sz) (ob_wR t ar Bd Tr rn rcl rrd rsv rpb wf wa ro ah ct rmn rms rmf rmt rmp rcn sd V (nI (ob_z1 b6))) := ob_dR hD
      generalize H1 = H at hP hS ⊢
      subst hw9
      rw [show ob_bi (decide ((nI (ob_z1 b6)) = 0)) = ob_bi b6 from ob_dz1 _]
      refine ob_if_ne (tgt := 71) hx hb dX5_mark_67 (by decide) (fun c67 => ?_) (fun c67 => ?_)
      · have hok9 := h6.symm.trans c67
        obtain ⟨a1, a3, ha1, ha3, e1, e3⟩ := ob_okm_t hok9
        rw [e1, e3] at hl
        refine lv_iconst (v := nI 0) hx hb dX5_mark_71 (by decide) ?_
        refine lv_istore (lv' := [(7, .int (nI 0)), (0, .ref (ar 0)), (1, .int (nI a1)), (2, .int x2), (3, .int (nI a3)), (4, .int x4), (5, .int x5), (6, .int (ob_bi b6))]) hx hb dX5_mark_72 hl (by decide) rfl (fun ls hl => ?_)
        have k74 : ∀ fu : Nat, ∀ (k : Nat), 25 - k < fu → (k ≤ 25) → ∀ (H : Heap) (locs : List Loc), va_P D vwCl (ob_wR t ar Bd (ob_fl Bd Tr k) rn rcl rrd rsv rpb wf wa ro ah ct rmn rms rmf rmt rmp rcn sd V (nI (ob_z1 b6))) H → va_D (va_A (ob_wR t ar Bd Tr rn rcl rrd rsv rpb wf wa ro ah ct rmn rms rmf rmt rmp rcn sd V th) sz) (ob_wR t ar Bd (ob_fl Bd Tr k) rn rcl rrd rsv rpb wf wa ro ah ct rmn rms rmf rmt rmp rcn sd V (nI (ob_z1 b6))) → va_S (va_A (ob_wR t ar Bd Tr rn rcl rrd rsv rpb wf wa ro ah ct rmn rms rmf rmt rmp rcn sd V th) sz) s.heap H locs → ∀ ls : Array Slot, lv_has ls 12 [(0, .ref (ar 0)), (1, .int (nI a1)), (2, .int x2), (3, .int (nI a3)), (4, .int x4), (5, .int x5), (6, .int (ob_bi b6)), (7, .int (nI k))] → W p l e (headSpec wsX5_mark ({ frames := 2, cells := 0, slots := 0, locals := 42 } : Room)).room s m ([.ref (ar 0), .int x1, .int x2, .int x3, .int x4, .int x5] : List Value).toArray below meth c H locs 0 0 (MQ below (va_Qv (fun _ : Unit => True) (fun (_ : Unit) (t9 : State) => va_P D vwCl (ob_wR t ar (if ob_okm x1 x2 x3 x4 x5 && ob_cn (ob_T9 Bd Tr x1.toNatClampNeg x3.toNatClampNeg x2 x4 x5) 5 then ob_fl (ob_T9 Bd Tr x1.toNatClampNeg x3.toNatClampNeg x2 x4 x5) Bd 25 else Bd) (if ob_okm x1 x2 x3 x4 x5 then ob_T9 Bd Tr x1.toNatClampNeg x3.toNatClampNeg x2 x4 x5 else Tr) rn rcl rrd rsv rpb wf wa ro ah ct rmn rms rmf rmt rmp rcn sd V (nI (ob_z2 (ob_okm x1 x2 x3 x4 x5) (ob_cn (ob_T9 Bd Tr x1.toNatClampNeg x3.toNatClampNeg x2 x4 x5) 5)))) t9.heap) (va_A (ob_wR t ar Bd Tr rn rcl rrd rsv rpb wf wa ro ah ct rmn rms rmf rmt rmp rcn sd V th) sz)) ([.ref (ar 0), .int x1, .int x2, .int x3, .int x4, .int x5] : List Value).toArray s 0 0 (va_A (ob_wR t ar Bd Tr rn rcl rrd rsv rpb wf wa ro ah ct rmn rms rmf rmt rmp rcn sd V th) sz)) (F0 m 74 ls []) := by
          intro fu
          induction fu with
          | zero => intro k hfu; exact absurd hfu (Nat.not_lt_zero _)
          | succ fu ih =>
            intro k hfu hq H locs hP hD hS ls hl
            have ih74 := ih
            refine lv_iload hx hb dX5_mark_74 (lv_at hl 7 rfl) ?_
            refine lv_bipush (v := nI 25) hx hb dX5_mark_76 (by decide) ?_
            refine ob_icmp_ge (tgt := 101) hx hb (by omega) (by omega) dX5_mark_78 (by decide) (fun c78 => ?_) (fun c78 => ?_)
            · obtain rfl : 25 = k := by omega
              refine lv_aload_n hx hb dX5_mark_101 rfl (lv_at hl 0 rfl) ?_
              refine lv_iload_n hx hb dX5_mark_102 rfl (lv_at hl 1 rfl) ?_
              refine lv_iload_n hx hb dX5_mark_103 rfl (lv_at hl 3 rfl) ?_
              refine lv_iload hx hb dX5_mark_104 (lv_at hl 5 rfl) ?_
              refine lv_iload_n hx hb dX5_mark_106 rfl (lv_at hl 2 rfl) ?_
              refine lv_isub hx hb dX5_mark_107 ?_
              refine lv_iload hx hb dX5_mark_108 (lv_at hl 4 rfl) ?_
              refine lv_iadd hx hb dX5_mark_110 ?_
              have hFc := va_free (wc := ob_wR t ar Bd (ob_fl Bd Tr 25) rn rcl rrd rsv rpb wf wa ro ah ct rmn rms rmf rmt rmp rcn sd V (nI (ob_z1 b6))) hD hS hA [0, 1, 2, 3, 4, 5, 6, 7, 8, 9, 10, 11, 12, 13, 14, 15, 16, 17] rfl
              refine va_callv (va_runV (As := [.int (nI a1), .int (nI a3), .int ((x5 - x2) + x4)]) (rest := []) ⟨hx, hb, hml, hown, hts⟩ (c_X5_binds l D t H.size ar Bd (ob_fl Bd Tr 25) rn rcl rrd rsv rpb wf wa ro ah ct rmn rms rmf rmt rmp rcn sd V (nI (ob_z1 b6)) a1 a3 ((x5 - x2) + x4) ha1 ha3) (cwV 3 hts gX5_mark_X5_binds rfl rfl rfl (by decide +kernel) ⟨Nat.le_of_ble_eq_true rfl, Nat.le_of_ble_eq_true rfl⟩) (ob_pmV (ci := 5) (q0 := 0) hP hD hk rfl rfl) rfl rfl hl.1 rfl (lv_room (Nat.le_of_ble_eq_true rfl)) dX5_mark_111 ⟨Nat.le_of_ble_eq_true rfl, Nat.le_of_ble_eq_true rfl⟩) hS (fun q _ h => hFc q h) hFc (fun u9 t9 H1 locs ht hvm hw9 hB hz1 hk1 hS => ?_)
              rw [ht] at hB
              have hP := ob_jn (ws' := ob_wR t ar Bd (ob_bn (ob_fl Bd Tr 25) a1 a3 ((x5 - x2) + x4)) rn rcl rrd rsv rpb wf wa ro ah ct rmn rms rmf rmt rmp rcn sd V (nI (ob_z1 b6))) hP hD [some 0, some 1, some 2, some 3, some 4, some 5, some 6, some 7, some 8, some 9, some 10, some 11, some 12, some 13, some 14, some 15, some 16, some 17] [0, 1, 2, 3, 4, 5, 6, 7, 8, 9, 10, 11, 12, 13, 14, 15, 16, 17] rfl rfl hk1 hB rfl
              have hD : va_D (va_A (ob_wR t ar Bd Tr rn rcl rrd rsv rpb wf wa ro ah ct rmn rms rmf rmt rmp rcn sd V th) sz) (ob_wR t ar Bd (ob_bn (ob_fl Bd Tr 25) a1 a3 ((x5 - x2) + x4)) rn rcl rrd rsv rpb wf wa ro ah ct rmn rms rmf rmt rmp rcn sd V (nI (ob_z1 b6))) := ob_dR hD
              generalize H1 = H at hP hS ⊢
              refine lv_aload_n hx hb dX5_mark_114 rfl (lv_at hl 0 rfl) ?_
              refine lv_iload_n hx hb dX5_mark_115 rfl (lv_at hl 3 rfl) ?_
              refine lv_iload_n hx hb dX5_mark_116 rfl (lv_at hl 1 rfl) ?_
              refine lv_iload hx hb dX5_mark_117 (lv_at hl 5 rfl) ?_
              refine lv_iload_n hx hb dX5_mark_119 rfl (lv_at hl 2 rfl) ?_
              refine lv_iadd hx hb dX5_mark_120 ?_
              refine lv_iload hx hb dX5_mark_121 (lv_at hl 4 rfl) ?_
              refine lv_isub hx hb dX5_mark_123 ?_
              have hFc := va_free (wc := ob_wR t ar Bd (ob_bn (ob_fl Bd Tr 25) a1 a3 ((x5 - x2) + x4)) rn rcl rrd rsv rpb wf wa ro ah ct rmn rms rmf rmt rmp rcn sd V (nI (ob_z1 b6))) hD hS hA [0, 1, 2, 3, 4, 5, 6, 7, 8, 9, 10, 11, 12, 13, 14, 15, 16, 17] rfl
              refine va_callv (va_runV (As := [.int (nI a3), .int (nI a1), .int ((x5 + x2) - x4)]) (rest := []) ⟨hx, hb, hml, hown, hts⟩ (c_X5_binds l D t H.size ar Bd (ob_bn (ob_fl Bd Tr 25) a1 a3 ((x5 - x2) + x4)) rn rcl rrd rsv rpb wf wa ro ah ct rmn rms rmf rmt rmp rcn sd V (nI (ob_z1 b6)) a3 a1 ((x5 + x2) - x4) ha3 ha1) (cwV 3 hts gX5_mark_X5_binds rfl rfl rfl (by decide +kernel) ⟨Nat.le_of_ble_eq_true rfl, Nat.le_of_ble_eq_true rfl⟩) (ob_pmV (ci := 5) (q0 := 0) hP hD hk rfl rfl) rfl rfl hl.1 rfl (lv_room (Nat.le_of_ble_eq_true rfl)) dX5_mark_124 ⟨Nat.le_of_ble_eq_true rfl, Nat.le_of_ble_eq_true rfl⟩) hS (fun q _ h => hFc q h) hFc (fun u9 t9 H1 locs ht hvm hw9 hB hz1 hk1 hS => ?_)
              rw [ht] at hB
              have hP := ob_jn (ws' := ob_wR t ar Bd (ob_bn (ob_bn (ob_fl Bd Tr 25) a1 a3 ((x5 - x2) + x4)) a3 a1 ((x5 + x2) - x4)) rn rcl rrd rsv rpb wf wa ro ah ct rmn rms rmf rmt rmp rcn sd V (nI (ob_z1 b6))) hP hD [some 0, some 1, some 2, some 3, some 4, some 5, some 6, some 7, some 8, some 9, some 10, some 11, some 12, some 13, some 14, some 15, some 16, some 17] [0, 1, 2, 3, 4, 5, 6, 7, 8, 9, 10, 11, 12, 13, 14, 15, 16, 17] rfl rfl hk1 hB rfl
              have hD : va_D (va_A (ob_wR t ar Bd Tr rn rcl rrd rsv rpb wf wa ro ah ct rmn rms rmf rmt rmp rcn sd V th) sz) (ob_wR t ar Bd (ob_bn (ob_bn (ob_fl Bd Tr 25) a1 a3 ((x5 - x2) + x4)) a3 a1 ((x5 + x2) - x4)) rn rcl rrd rsv rpb wf wa ro ah ct rmn rms rmf rmt rmp rcn sd V (nI (ob_z1 b6))) := ob_dR hD
              generalize H1 = H at hP hS ⊢
              refine lv_iconst (v := nI 0) hx hb dX5_mark_127 (by decide) ?_
              refine lv_istore (lv' := [(7, .int (nI 0)), (0, .ref (ar 0)), (1, .int (nI a1)), (2, .int x2), (3, .int (nI a3)), (4, .int x4), (5, .int x5), (6, .int (ob_bi b6))]) hx hb dX5_mark_128 hl (by decide) rfl (fun ls hl => ?_)
              have k130 : ∀ fu : Nat, ∀ (i : Nat) (N8 : Nat → Int32), 5 - i < fu → (i ≤ 5) → (N8 = ob_fO (ob_bn (ob_bn (ob_fl Bd Tr 25) a1 a3 (x5 - x2 + x4)) a3 a1 (x5 + x2 - x4)) i) → ∀ (H : Heap) (locs : List Loc), va_P D vwCl (ob_wR t ar Bd N8 rn rcl rrd rsv rpb wf wa ro ah ct rmn rms rmf rmt rmp rcn sd V (nI (ob_z1 b6))) H → va_D (va_A (ob_wR t ar Bd Tr rn rcl rrd rsv rpb wf wa ro ah ct rmn rms rmf rmt rmp rcn sd V th) sz) (ob_wR t ar Bd N8 rn rcl rrd rsv rpb wf wa ro ah ct rmn rms rmf rmt rmp rcn sd V (nI (ob_z1 b6))) → va_S (va_A (ob_wR t ar Bd Tr rn rcl rrd rsv rpb wf wa ro ah ct rmn rms rmf rmt rmp rcn sd V th) sz) s.heap H locs → ∀ ls : Array Slot, lv_has ls 12 [(0, .ref (ar 0)), (1, .int (nI a1)), (2, .int x2), (3, .int (nI a3)), (4, .int x4), (5, .int x5), (6, .int (ob_bi b6)), (7, .int (nI i))] → W p l e (headSpec wsX5_mark ({ frames := 2, cells := 0, slots := 0, locals := 42 } : Room)).room s m ([.ref (ar 0), .int x1, .int x2, .int x3, .int x4, .int x5] : List Value).toArray below meth c H locs 0 0 (MQ below (va_Qv (fun _ : Unit => True) (fun (_ : Unit) (t9 : State) => va_P D vwCl (ob_wR t ar (if ob_okm x1 x2 x3 x4 x5 && ob_cn (ob_T9 Bd Tr x1.toNatClampNeg x3.toNatClampNeg x2 x4 x5) 5 then ob_fl (ob_T9 Bd Tr x1.toNatClampNeg x3.toNatClampNeg x2 x4 x5) Bd 25 else Bd) (if ob_okm x1 x2 x3 x4 x5 then ob_T9 Bd Tr x1.toNatClampNeg x3.toNatClampNeg x2 x4 x5 else Tr) rn rcl rrd rsv rpb wf wa ro ah ct rmn rms rmf rmt rmp rcn sd V (nI (ob_z2 (ob_okm x1 x2 x3 x4 x5) (ob_cn (ob_T9 Bd Tr x1.toNatClampNeg x3.toNatClampNeg x2 x4 x5) 5)))) t9.heap) (va_A (ob_wR t ar Bd Tr rn rcl rrd rsv rpb wf wa ro ah ct rmn rms rmf rmt rmp rcn sd V th) sz)) ([.ref (ar 0), .int x1, .int x2, .int x3, .int x4, .int x5] : List Value).toArray s 0 0 (va_A (ob_wR t ar Bd Tr rn rcl rrd rsv rpb wf wa ro ah ct rmn rms rmf rmt rmp rcn sd V th) sz)) (F0 m 130 ls []) := by
                intro fu
                induction fu with
                | zero => intro i N8 hfu; exact absurd hfu (Nat.not_lt_zero _)
                | succ fu ih =>
                  intro i N8 hfu hi h8 H locs hP hD hS ls hl
                  have ih130 := ih
                  refine lv_iload hx hb dX5_mark_130 (lv_at hl 7 rfl) ?_
                  refine lv_iconst (v := nI 5) hx hb dX5_mark_132 (by decide) ?_
                  refine ob_icmp_ge (tgt := 253) hx hb (by omega) (by omega) dX5_mark_133 (by decide) (fun c133 => ?_) (fun c133 => ?_)
                  · obtain rfl : 5 = i := by omega
                    have h8 : N8 = ob_T9 Bd Tr a1 a3 x2 x4 x5 := h8
                    refine lv_iconst (v := nI 1) hx hb dX5_mark_253 (by decide) ?_
                    refine lv_istore (lv' := [(7, .int (nI 1)), (0, .ref (ar 0)), (1, .int (nI a1)), (2, .int x2), (3, .int (nI a3)), (4, .int x4), (5, .int x5), (6, .int (ob_bi b6))]) hx hb dX5_mark_254 hl (by decide) rfl (fun ls hl => ?_)
                    refine lv_iconst (v := nI 0) hx hb dX5_mark_256 (by decide) ?_
                    refine lv_istore (lv' := [(8, .int (nI 0)), (7, .int (nI 1)), (0, .ref (ar 0)), (1, .int (nI a1)), (2, .int x2), (3, .int (nI a3)), (4, .int x4), (5, .int x5), (6, .int (ob_bi b6))]) hx hb dX5_mark_257 hl (by decide) rfl (fun ls hl => ?_)
                    have k259 : ∀ fu : Nat, ∀ (j : Nat) (b7 : Bool), 5 - j < fu → (j ≤ 5) → (b7 = ob_cn N8 j) → ∀ ls : Array Slot, lv_has ls 12 [(0, .ref (ar 0)), (1, .int (nI a1)), (2, .int x2), (3, .int (nI a3)), (4, .int x4), (5, .int x5), (6, .int (ob_bi b6)), (7, .int (ob_bi b7)), (8, .int (nI j))] → W p l e (headSpec wsX5_mark ({ frames := 2, cells := 0, slots := 0, locals := 42 } : Room)).room s m ([.ref (ar 0), .int x1, .int x2, .int x3, .int x4, .int x5] : List Value).toArray below meth c H locs 0 0 (MQ below (va_Qv (fun _ : Unit => True) (fun (_ : Unit) (t9 : State) => va_P D vwCl (ob_wR t ar (if ob_okm x1 x2 x3 x4 x5 && ob_cn (ob_T9 Bd Tr x1.toNatClampNeg x3.toNatClampNeg x2 x4 x5) 5 then ob_fl (ob_T9 Bd Tr x1.toNatClampNeg x3.toNatClampNeg x2 x4 x5) Bd 25 else Bd) (if ob_okm x1 x2 x3 x4 x5 then ob_T9 Bd Tr x1.toNatClampNeg x3.toNatClampNeg x2 x4 x5 else Tr) rn rcl rrd rsv rpb wf wa ro ah ct rmn rms rmf rmt rmp rcn sd V (nI (ob_z2 (ob_okm x1 x2 x3 x4 x5) (ob_cn (ob_T9 Bd Tr x1.toNatClampNeg x3.toNatClampNeg x2 x4 x5) 5)))) t9.heap) (va_A (ob_wR t ar Bd Tr rn rcl rrd rsv rpb wf wa ro ah ct rmn rms rmf rmt rmp rcn sd V th) sz)) ([.ref (ar 0), .int x1, .int x2, .int x3, .int x4, .int x5] : List Value).toArray s 0 0 (va_A (ob_wR t ar Bd Tr rn rcl rrd rsv rpb wf wa ro ah ct rmn rms rmf rmt rmp rcn sd V th) sz)) (F0 m 259 ls []) := by
                      intro fu
                      induction fu with
                      | zero => intro j b7 hfu; exact absurd hfu (Nat.not_lt_zero _)
                      | succ fu ih =>
                        intro j b7 hfu hj h7 ls hl
                        have ih259 := ih
                        refine lv_iload hx hb dX5_mark_259 (lv_at hl 8 rfl) ?_
                        refine lv_iconst (v := nI 5) hx hb dX5_mark_261 (by decide) ?_
                        refine ob_icmp_ge (tgt := 298) hx hb (by omega) (by omega) dX5_mark_262 (by decide) (fun c262 => ?_) (fun c262 => ?_)
                        · obtain rfl : 5 = j := by omega
                          subst h8
                          refine lv_aload_n hx hb dX5_mark_298 rfl (lv_at hl 0 rfl) ?_
                          have k309 : ∀ (z : Nat), (z = ob_z2 true b7) → ∀ ls : Array Slot, lv_has ls 12 [(0, .ref (ar 0)), (1, .int (nI a1)), (2, .int x2), (3, .int (nI a3)), (4, .int x4), (5, .int x5)] → W p l e (headSpec wsX5_mark ({ frames := 2, cells := 0, slots := 0, locals := 42 } : Room)).room s m ([.ref (ar 0), .int x1, .int x2, .int x3, .int x4, .int x5] : List Value).toArray below meth c H locs 0 0 (MQ below (va_Qv (fun _ : Unit => True) (fun (_ : Unit) (t9 : State) => va_P D vwCl (ob_wR t ar (if ob_okm x1 x2 x3 x4 x5 && ob_cn (ob_T9 Bd Tr x1.toNatClampNeg x3.toNatClampNeg x2 x4 x5) 5 then ob_fl (ob_T9 Bd Tr x1.toNatClampNeg x3.toNatClampNeg x2 x4 x5) Bd 25 else Bd) (if ob_okm x1 x2 x3 x4 x5 then ob_T9 Bd Tr x1.toNatClampNeg x3.toNatClampNeg x2 x4 x5 else Tr) rn rcl rrd rsv rpb wf wa ro ah ct rmn rms rmf rmt rmp rcn sd V (nI (ob_z2 (ob_okm x1 x2 x3 x4 x5) (ob_cn (ob_T9 Bd Tr x1.toNatClampNeg x3.toNatClampNeg x2 x4 x5) 5)))) t9.heap) (va_A (ob_wR t ar Bd Tr rn rcl rrd rsv rpb wf wa ro ah ct rmn rms rmf rmt rmp rcn sd V th) sz)) ([.ref (ar 0), .int x1, .int x2, .int x3, .int x4, .int x5] : List Value).toArray s 0 0 (va_A (ob_wR t ar Bd Tr rn rcl rrd rsv rpb wf wa ro ah ct rmn rms rmf rmt rmp rcn sd V th) sz)) (F0 m 309 ls [.int (nI z), .ref (ar 0)]) := by
                            intro z hz ls hl
                            subst hz
                            have hFc := va_free (wc := ob_wR t ar Bd (ob_T9 Bd Tr a1 a3 x2 x4 x5) rn rcl rrd rsv rpb wf wa ro ah ct rmn rms rmf rmt rmp rcn sd V (nI (ob_z1 b6))) hD hS hA [0, 1, 2, 3, 4, 5, 6, 7, 8, 9, 10, 11, 12, 13, 14, 15, 16, 17] rfl
                            refine va_calli (va_runV (As := [.int (nI (ob_z2 true b7))]) (rest := []) ⟨hx, hb, hml, hown, hts⟩ (c_X5_goes l D t H.size ar Bd (ob_T9 Bd Tr a1 a3 x2 x4 x5) rn rcl rrd rsv rpb wf wa ro ah ct rmn rms rmf rmt rmp rcn sd V (nI (ob_z1 b6)) (nI (ob_z2 true b7))) (cwV 1 hts gX5_mark_X5_goes rfl rfl rfl (by decide +kernel) ⟨Nat.le_of_ble_eq_true rfl, Nat.le_of_ble_eq_true rfl⟩) (ob_pmV (ci := 5) (q0 := 0) hP hD hk rfl rfl) rfl rfl hl.1 rfl (lv_room (Nat.le_of_ble_eq_true rfl)) dX5_mark_309 ⟨Nat.le_of_ble_eq_true rfl, Nat.le_of_ble_eq_true rfl⟩) hS (fun q _ h => hFc q h) hFc (fun r9 u9 t9 H1 locs ht hvm hw9 hB hz1 hk1 hS => ?_)
                            rw [ht] at hB
                            have hP := ob_jn (ws' := ob_wR t ar Bd (ob_T9 Bd Tr a1 a3 x2 x4 x5) rn rcl rrd rsv rpb wf wa ro ah ct rmn rms rmf rmt rmp rcn sd V (nI (ob_z2 true b7))) hP hD [some 0, some 1, some 2, some 3, some 4, some 5, some 6, some 7, some 8, some 9, some 10, some 11, some 12, some 13, some 14, some 15, some 16, some 17] [0, 1, 2, 3, 4, 5, 6, 7, 8, 9, 10, 11, 12, 13, 14, 15, 16, 17] rfl rfl hk1 hB rfl
                            have hD : va_D (va_A (ob_wR t ar Bd Tr rn rcl rrd rsv rpb wf wa ro ah ct rmn rms rmf rmt rmp rcn sd V th) sz) (ob_wR t ar Bd (ob_T9 Bd Tr a1 a3 x2 x4 x5) rn rcl rrd rsv rpb wf wa ro ah ct rmn rms rmf rmt rmp rcn sd V (nI (ob_z2 true b7))) := ob_dR hD
                            generalize H1 = H at hP hS ⊢
                            subst hw9
                            rw [show ob_bi (decide ((nI (ob_z2 true b7)) = 0)) = ob_bi b7 from ob_dz2 _ _]
                            refine ob_if_eq (tgt := 345) hx hb dX5_mark_312 (by decide) (fun c312 => ?_) (fun c312 => ?_)
                            · exact W.vret hx hb hr (fun t9 ht hW => ⟨⟨(), rfl, trivial, ob_th ht (by first | (rw [hok9, e1, e3, ob_cl (show a1 ≤ 1073741824 by omega), ob_cl (show a3 ≤ 1073741824 by omega)]; rw [← h7, c312]; rw [c312] at hP; simp only [Bool.true_and, Bool.false_eq_true, if_false, if_true]; exact hP; done) | (rw [hok9, e1, e3, ob_cl (show a1 ≤ 1073741824 by omega), ob_cl (show a3 ≤ 1073741824 by omega)]; rw [← h7, c312]; rw [c312, show k = 25 by omega] at hP; simp only [Bool.true_and, if_true]; exact hP))⟩, hS.F ht⟩) hS.2.2 dX5_mark_345
                            · refine lv_iconst (v := nI 0) hx hb dX5_mark_315 (by decide) ?_
                              refine lv_istore (lv' := [(8, .int (nI 0)), (0, .ref (ar 0)), (1, .int (nI a1)), (2, .int x2), (3, .int (nI a3)), (4, .int x4), (5, .int x5)]) hx hb dX5_mark_316 hl (by decide) rfl (fun ls hl => ?_)
                              have k318 : ∀ fu : Nat, ∀ (k : Nat), 25 - k < fu → (k ≤ 25) → ∀ (H : Heap) (locs : List Loc), va_P D vwCl (ob_wR t ar (ob_fl (ob_T9 Bd Tr a1 a3 x2 x4 x5) Bd k) (ob_T9 Bd Tr a1 a3 x2 x4 x5) rn rcl rrd rsv rpb wf wa ro ah ct rmn rms rmf rmt rmp rcn sd V (nI (ob_z2 true b7))) H → va_D (va_A (ob_wR t ar Bd Tr rn rcl rrd rsv rpb wf wa ro ah ct rmn rms rmf rmt rmp rcn sd V th) sz) (ob_wR t ar (ob_fl (ob_T9 Bd Tr a1 a3 x2 x4 x5) Bd k) (ob_T9 Bd Tr a1 a3 x2 x4 x5) rn rcl rrd rsv rpb wf wa ro ah ct rmn rms rmf rmt rmp rcn sd V (nI (ob_z2 true b7))) → va_S (va_A (ob_wR t ar Bd Tr rn rcl rrd rsv rpb wf wa ro ah ct rmn rms rmf rmt rmp rcn sd V th) sz) s.heap H locs → ∀ ls : Array Slot, lv_has ls 12 [(0, .ref (ar 0)), (1, .int (nI a1)), (2, .int x2), (3, .int (nI a3)), (4, .int x4), (5, .int x5), (8, .int (nI k))] → W p l e (headSpec wsX5_mark ({ frames := 2, cells := 0, slots := 0, locals := 42 } : Room)).room s m ([.ref (ar 0), .int x1, .int x2, .int x3, .int x4, .int x5] : List Value).toArray below meth c H locs 0 0 (MQ below (va_Qv (fun _ : Unit => True) (fun (_ : Unit) (t9 : State) => va_P D vwCl (ob_wR t ar (if ob_okm x1 x2 x3 x4 x5 && ob_cn (ob_T9 Bd Tr x1.toNatClampNeg x3.toNatClampNeg x2 x4 x5) 5 then ob_fl (ob_T9 Bd Tr x1.toNatClampNeg x3.toNatClampNeg x2 x4 x5) Bd 25 else Bd) (if ob_okm x1 x2 x3 x4 x5 then ob_T9 Bd Tr x1.toNatClampNeg x3.toNatClampNeg x2 x4 x5 else Tr) rn rcl rrd rsv rpb wf wa ro ah ct rmn rms rmf rmt rmp rcn sd V (nI (ob_z2 (ob_okm x1 x2 x3 x4 x5) (ob_cn (ob_T9 Bd Tr x1.toNatClampNeg x3.toNatClampNeg x2 x4 x5) 5)))) t9.heap) (va_A (ob_wR t ar Bd Tr rn rcl rrd rsv rpb wf wa ro ah ct rmn rms rmf rmt rmp rcn sd V th) sz)) ([.ref (ar 0), .int x1, .int x2, .int x3, .int x4, .int x5] : List Value).toArray s 0 0 (va_A (ob_wR t ar Bd Tr rn rcl rrd rsv rpb wf wa ro ah ct rmn rms rmf rmt rmp rcn sd V th) sz)) (F0 m 318 ls []) := by
                                intro fu
                                induction fu with
                                | zero => intro k hfu; exact absurd hfu (Nat.not_lt_zero _)
                                | succ fu ih =>
                                  intro k hfu hq H locs hP hD hS ls hl
                                  have ih318 := ih
                                  refine lv_iload hx hb dX5_mark_318 (lv_at hl 6 rfl) ?_
                                  refine lv_bipush (v := nI 25) hx hb dX5_mark_320 (by decide) ?_
                                  refine ob_icmp_ge (tgt := 345) hx hb (by omega) (by omega) dX5_mark_322 (by decide) (fun c322 => ?_) (fun c322 => ?_)
                                  · exact W.vret hx hb hr (fun t9 ht hW => ⟨⟨(), rfl, trivial, ob_th ht (by first | (rw [hok9, e1, e3, ob_cl (show a1 ≤ 1073741824 by omega), ob_cl (show a3 ≤ 1073741824 by omega)]; rw [← h7, c312]; rw [c312] at hP; simp only [Bool.true_and, Bool.false_eq_true, if_false, if_true]; exact hP; done) | (rw [hok9, e1, e3, ob_cl (show a1 ≤ 1073741824 by omega), ob_cl (show a3 ≤ 1073741824 by omega)]; rw [← h7, c312]; rw [c312, show k = 25 by omega] at hP; simp only [Bool.true_and, if_true]; exact hP))⟩, hS.F ht⟩) hS.2.2 dX5_mark_345
                                  · refine lv_aload_n hx hb dX5_mark_325 rfl (lv_at hl 0 rfl) ?_
                                    refine va_get (ci := 5) (C := RX5) (T := TX5) (N := 21) hx hb hts (fun w h => List.mem_cons_of_mem _ (List.mem_append_right _ (h))) hown hK hP 0 rfl rfl 0 (by decide) (hts (Cond.fieldLink RX5 7 "OutageBookModel" "bounds" "[I") (List.mem_of_getElem? (i := 2) rfl)) (fun _ h9 => h9) rfl dX5_mark_326 ?_
                                    refine lv_iload hx hb dX5_mark_329 (lv_at hl 6 rfl) ?_
                                    refine lv_aload_n hx hb dX5_mark_331 rfl (lv_at hl 0 rfl) ?_
                                    refine va_get (ci := 5) (C := RX5) (T := TX5) (N := 21) hx hb hts (fun w h => List.mem_cons_of_mem _ (List.mem_append_right _ (h))) hown hK hP 0 rfl rfl 1 (by decide) (hts (Cond.fieldLink RX5 13 "OutageBookModel" "tried" "[I") (List.mem_of_getElem? (i := 1) rfl)) (fun _ h9 => h9) rfl dX5_mark_332 ?_
                                    refine lv_iload hx hb dX5_mark_335 (lv_at hl 6 rfl) ?_
                                    refine ob_iald hx hb hK hP 2 0 rfl rfl (by omega) (by decide) dX5_mark_337 ?_
                                    refine ob_iast hx hb hK hP hD hS 1 0 rfl rfl (by omega) (by decide) dX5_mark_338 (fun H locs hP hD hS => ?_)
                                    have hP : va_P D vwCl (ob_wR t ar (upd (ob_fl (ob_T9 Bd Tr a1 a3 x2 x4 x5) Bd k) k ((ob_T9 Bd Tr a1 a3 x2 x4 x5) k)) (ob_T9 Bd Tr a1 a3 x2 x4 x5) rn rcl rrd rsv rpb wf wa ro ah ct rmn rms rmf rmt rmp rcn sd V (nI (ob_z2 true b7))) H := hP
                                    have hD : va_D (va_A (ob_wR t ar Bd Tr rn rcl rrd rsv rpb wf wa ro ah ct rmn rms rmf rmt rmp rcn sd V th) sz) (ob_wR t ar (upd (ob_fl (ob_T9 Bd Tr a1 a3 x2 x4 x5) Bd k) k ((ob_T9 Bd Tr a1 a3 x2 x4 x5) k)) (ob_T9 Bd Tr a1 a3 x2 x4 x5) rn rcl rrd rsv rpb wf wa ro ah ct rmn rms rmf rmt rmp rcn sd V (nI (ob_z2 true b7))) := hD
                                    refine ob_inc (k := 6) (lv' := [(8, .int (nI (k + 1))), (0, .ref (ar 0)), (1, .int (nI a1)), (2, .int x2), (3, .int (nI a3)), (4, .int x4), (5, .int x5)]) hx hb dX5_mark_339 hl rfl (by decide) rfl (fun ls hl => ?_)
                                    refine lv_goto (tgt := 318) hx hb dX5_mark_342 (by decide) ?_
                                    exact ih318 (k + 1) (by omega) (by omega) _ _ (by rw [← ob_fl_s]; exact hP) (ob_dR hD) hS _ (lv_sub hl [1, 2, 3, 4, 5, 6, 0] rfl)
                              exact k318 _ 0 (Nat.lt_succ_self _) (by omega) _ _ (by rw [ob_fl_0]; exact hP) (ob_dR hD) hS _ (lv_sub hl [1, 2, 3, 4, 5, 6, 0] rfl)
                          refine lv_iload hx hb dX5_mark_299 (lv_at hl 7 rfl) ?_
                          refine ob_if_eq (tgt := 308) hx hb dX5_mark_301 (by decide) (fun c301 => ?_) (fun c301 => ?_)
                          · refine lv_iconst (v := nI 2) hx hb dX5_mark_308 (by decide) ?_
                            exact k309 2 (by rw [c301]; rfl) _ (lv_sub hl [0, 1, 2, 3, 4, 5] rfl)
                          · refine lv_iconst (v := nI 0) hx hb dX5_mark_304 (by decide) ?_
                            refine lv_goto (tgt := 309) hx hb dX5_mark_305 (by decide) ?_
                            exact k309 0 (by rw [c301]; rfl) _ (lv_sub hl [0, 1, 2, 3, 4, 5] rfl)
                        · have k290 : ∀ (b2 : Bool), (b2 = (b7 && decide (N8 (5 * j + j) = 0))) → ∀ ls : Array Slot, lv_has ls 12 [(0, .ref (ar 0)), (1, .int (nI a1)), (2, .int x2), (3, .int (nI a3)), (4, .int x4), (5, .int x5), (6, .int (ob_bi b6)), (7, .int (ob_bi b7)), (8, .int (nI j))] → W p l e (headSpec wsX5_mark ({ frames := 2, cells := 0, slots := 0, locals := 42 } : Room)).room s m ([.ref (ar 0), .int x1, .int x2, .int x3, .int x4, .int x5] : List Value).toArray below meth c H locs 0 0 (MQ below (va_Qv (fun _ : Unit => True) (fun (_ : Unit) (t9 : State) => va_P D vwCl (ob_wR t ar (if ob_okm x1 x2 x3 x4 x5 && ob_cn (ob_T9 Bd Tr x1.toNatClampNeg x3.toNatClampNeg x2 x4 x5) 5 then ob_fl (ob_T9 Bd Tr x1.toNatClampNeg x3.toNatClampNeg x2 x4 x5) Bd 25 else Bd) (if ob_okm x1 x2 x3 x4 x5 then ob_T9 Bd Tr x1.toNatClampNeg x3.toNatClampNeg x2 x4 x5 else Tr) rn rcl rrd rsv rpb wf wa ro ah ct rmn rms rmf rmt rmp rcn sd V (nI (ob_z2 (ob_okm x1 x2 x3 x4 x5) (ob_cn (ob_T9 Bd Tr x1.toNatClampNeg x3.toNatClampNeg x2 x4 x5) 5)))) t9.heap) (va_A (ob_wR t ar Bd Tr rn rcl rrd rsv rpb wf wa ro ah ct rmn rms rmf rmt rmp rcn sd V th) sz)) ([.ref (ar 0), .int x1, .int x2, .int x3, .int x4, .int x5] : List Value).toArray s 0 0 (va_A (ob_wR t ar Bd Tr rn rcl rrd rsv rpb wf wa ro ah ct rmn rms rmf rmt rmp rcn sd V th) sz)) (F0 m 290 ls [.int (ob_bi b2)]) := by
                            intro b2 h2 ls hl
                            refine lv_istore (lv' := [(7, .int (ob_bi b2)), (0, .ref (ar 0)), (1, .int (nI a1)), (2, .int x2), (3, .int (nI a3)), (4, .int x4), (5, .int x5), (6, .int (ob_bi b6)), (8, .int (nI j))]) hx hb dX5_mark_290 hl (by decide) rfl (fun ls hl => ?_)
                            refine ob_inc (k := 8) (lv' := [(8, .int (nI (j + 1))), (7, .int (ob_bi b2)), (0, .ref (ar 0)), (1, .int (nI a1)), (2, .int x2), (3, .int (nI a3)), (4, .int x4), (5, .int x5), (6, .int (ob_bi b6))]) hx hb dX5_mark_292 hl rfl (by decide) rfl (fun ls hl => ?_)
                            refine lv_goto (tgt := 259) hx hb dX5_mark_295 (by decide) ?_
                            exact ih259 (j + 1) b2 (by omega) (by omega) (by first | (rfl; done) | (rw [ob_cn, ← h7]; exact h2; done)) _ (lv_sub hl [2, 3, 4, 5, 6, 7, 8, 1, 0] rfl)
                          refine lv_iload hx hb dX5_mark_265 (lv_at hl 7 rfl) ?_
                          refine ob_if_eq (tgt := 289) hx hb dX5_mark_267 (by decide) (fun c267 => ?_) (fun c267 => ?_)
                          · refine lv_iconst (v := nI 0) hx hb dX5_mark_289 (by decide) ?_
                            exact k290 false (by first | (rw [c267]; rfl; done) | (rw [c267, decide_eq_false c282]; rfl; done) | (rw [c267, decide_eq_true c282]; rfl; done)) _ (lv_sub hl [0, 1, 2, 3, 4, 5, 6, 7, 8] rfl)
                          · refine lv_aload_n hx hb dX5_mark_270 rfl (lv_at hl 0 rfl) ?_
                            refine va_get (ci := 5) (C := RX5) (T := TX5) (N := 21) hx hb hts (fun w h => List.mem_cons_of_mem _ (List.mem_append_right _ (h))) hown hK hP 0 rfl rfl 1 (by decide) (hts (Cond.fieldLink RX5 13 "OutageBookModel" "tried" "[I") (List.mem_of_getElem? (i := 1) rfl)) (fun _ h9 => h9) rfl dX5_mark_271 ?_
                            refine lv_iconst (v := nI 5) hx hb dX5_mark_274 (by decide) ?_
                            refine lv_iload hx hb dX5_mark_275 (lv_at hl 8 rfl) ?_
                            refine lv_imul hx hb dX5_mark_277 ?_
                            rw [show (nI 5) * (nI j) = nI (5 * j) from pk_mul 5 _]
                            refine lv_iload hx hb dX5_mark_278 (lv_at hl 8 rfl) ?_
                            refine lv_iadd hx hb dX5_mark_280 ?_
                            rw [show (nI (5 * j)) + (nI j) = nI (5 * j + j) from nI_add _ _]
                            refine ob_iald hx hb hK hP 2 0 rfl rfl (by omega) (by decide) dX5_mark_281 ?_
                            refine lv_if_ne (tgt := 289) hx hb dX5_mark_282 (by decide) (fun c282 => ?_) (fun c282 => ?_)
                            · refine lv_iconst (v := nI 0) hx hb dX5_mark_289 (by decide) ?_
                              exact k290 false (by first | (rw [c267]; rfl; done) | (rw [c267, decide_eq_false c282]; rfl; done) | (rw [c267, decide_eq_true c282]; rfl; done)) _ (lv_sub hl [0, 1, 2, 3, 4, 5, 6, 7, 8] rfl)
                            · refine lv_iconst (v := nI 1) hx hb dX5_mark_285 (by decide) ?_
                              refine lv_goto (tgt := 290) hx hb dX5_mark_286 (by decide) ?_
                              exact k290 true (by first | (rw [c267]; rfl; done) | (rw [c267, decide_eq_false c282]; rfl; done) | (rw [c267, decide_eq_true c282]; rfl; done)) _ (lv_sub hl [0, 1, 2, 3, 4, 5, 6, 7, 8] rfl)
                    exact k259 _ 0 true (Nat.lt_succ_self _) (by omega) (by first | (rfl; done) | (rw [ob_cn, ← h7]; exact h2; done)) _ (lv_sub hl [2, 3, 4, 5, 6, 7, 8, 1, 0] rfl)
                  · refine lv_iconst (v := nI 0) hx hb dX5_mark_136 (by decide) ?_
                    refine lv_istore (lv' := [(8, .int (nI 0)), (0, .ref (ar 0)), (1, .int (nI a1)), (2, .int x2), (3, .int (nI a3)), (4, .int x4), (5, .int x5), (6, .int (ob_bi b6)), (7, .int (nI i))]) hx hb dX5_mark_137 hl (by decide) rfl (fun ls hl => ?_)
                    have k139 : ∀ fu : Nat, ∀ (j : Nat) (N9 : Nat → Int32), 25 - j < fu → (j ≤ 25) → (N9 = ob_fI i N8 j) → ∀ (H : Heap) (locs : List Loc), va_P D vwCl (ob_wR t ar Bd N9 rn rcl rrd rsv rpb wf wa ro ah ct rmn rms rmf rmt rmp rcn sd V (nI (ob_z1 b6))) H → va_D (va_A (ob_wR t ar Bd Tr rn rcl rrd rsv rpb wf wa ro ah ct rmn rms rmf rmt rmp rcn sd V th) sz) (ob_wR t ar Bd N9 rn rcl rrd rsv rpb wf wa ro ah ct rmn rms rmf rmt rmp rcn sd V (nI (ob_z1 b6))) → va_S (va_A (ob_wR t ar Bd Tr rn rcl rrd rsv rpb wf wa ro ah ct rmn rms rmf rmt rmp rcn sd V th) sz) s.heap H locs → ∀ ls : Array Slot, lv_has ls 12 [(0, .ref (ar 0)), (1, .int (nI a1)), (2, .int x2), (3, .int (nI a3)), (4, .int x4), (5, .int x5), (6, .int (ob_bi b6)), (7, .int (nI i)), (8, .int (nI j))] → W p l e (headSpec wsX5_mark ({ frames := 2, cells := 0, slots := 0, locals := 42 } : Room)).room s m ([.ref (ar 0), .int x1, .int x2, .int x3, .int x4, .int x5] : List Value).toArray below meth c H locs 0 0 (MQ below (va_Qv (fun _ : Unit => True) (fun (_ : Unit) (t9 : State) => va_P D vwCl (ob_wR t ar (if ob_okm x1 x2 x3 x4 x5 && ob_cn (ob_T9 Bd Tr x1.toNatClampNeg x3.toNatClampNeg x2 x4 x5) 5 then ob_fl (ob_T9 Bd Tr x1.toNatClampNeg x3.toNatClampNeg x2 x4 x5) Bd 25 else Bd) (if ob_okm x1 x2 x3 x4 x5 then ob_T9 Bd Tr x1.toNatClampNeg x3.toNatClampNeg x2 x4 x5 else Tr) rn rcl rrd rsv rpb wf wa ro ah ct rmn rms rmf rmt rmp rcn sd V (nI (ob_z2 (ob_okm x1 x2 x3 x4 x5) (ob_cn (ob_T9 Bd Tr x1.toNatClampNeg x3.toNatClampNeg x2 x4 x5) 5)))) t9.heap) (va_A (ob_wR t ar Bd Tr rn rcl rrd rsv rpb wf wa ro ah ct rmn rms rmf rmt rmp rcn sd V th) sz)) ([.ref (ar 0), .int x1, .int x2, .int x3, .int x4, .int x5] : List Value).toArray s 0 0 (va_A (ob_wR t ar Bd Tr rn rcl rrd rsv rpb wf wa ro ah ct rmn rms rmf rmt rmp rcn sd V th) sz)) (F0 m 139 ls []) := by
                      intro fu
                      induction fu with
                      | zero => intro j N9 hfu; exact absurd hfu (Nat.not_lt_zero _)
                      | succ fu ih =>
                        intro j N9 hfu hj h9 H locs hP hD hS ls hl
                        have ih139 := ih
                        refine lv_iload hx hb dX5_mark_139 (lv_at hl 8 rfl) ?_
                        refine lv_bipush (v := nI 25) hx hb dX5_mark_141 (by decide) ?_
                        refine ob_icmp_ge (tgt := 247) hx hb (by omega) (by omega) dX5_mark_143 (by decide) (fun c143 => ?_) (fun c143 => ?_)
                        · refine ob_inc (k := 7) (lv' := [(7, .int (nI (i + 1))), (0, .ref (ar 0)), (1, .int (nI a1)), (2, .int x2), (3, .int (nI a3)), (4, .int x4), (5, .int x5), (6, .int (ob_bi b6)), (8, .int (nI j))]) hx hb dX5_mark_247 hl rfl (by decide) rfl (fun ls hl => ?_)
                          refine lv_goto (tgt := 130) hx hb dX5_mark_250 (by decide) ?_
                          exact ih130 (i + 1) N9 (by omega) (by omega) (by first | (rfl; done) | (rw [h9, show j = 25 by omega, h8]; rfl; done)) _ _ hP (ob_dR hD) hS _ (lv_sub hl [1, 2, 3, 4, 5, 6, 7, 0] rfl)
                        · refine lv_aload_n hx hb dX5_mark_146 rfl (lv_at hl 0 rfl) ?_
                          refine va_get (ci := 5) (C := RX5) (T := TX5) (N := 21) hx hb hts (fun w h => List.mem_cons_of_mem _ (List.mem_append_right _ (h))) hown hK hP 0 rfl rfl 1 (by decide) (hts (Cond.fieldLink RX5 13 "OutageBookModel" "tried" "[I") (List.mem_of_getElem? (i := 1) rfl)) (fun _ h9 => h9) rfl dX5_mark_147 ?_
                          refine lv_iconst (v := nI 5) hx hb dX5_mark_150 (by decide) ?_
                          refine lv_iload hx hb dX5_mark_151 (lv_at hl 8 rfl) ?_
                          refine lv_iconst (v := nI 5) hx hb dX5_mark_153 (by decide) ?_
                          refine lv_idiv hx hb dX5_mark_154 (by decide) ?_
                          rw [show (nI j) / (nI 5) = nI (j / 5) from pk_div (by omega) (by decide) (by decide)]
                          refine lv_imul hx hb dX5_mark_155 ?_
                          rw [show (nI 5) * (nI (j / 5)) = nI (5 * (j / 5)) from pk_mul 5 _]
                          refine lv_iload hx hb dX5_mark_156 (lv_at hl 7 rfl) ?_
                          refine lv_iadd hx hb dX5_mark_158 ?_
                          rw [show (nI (5 * (j / 5))) + (nI i) = nI (5 * (j / 5) + i) from nI_add _ _]
                          refine ob_iald hx hb hK hP 2 0 rfl rfl (by omega) (by decide) dX5_mark_159 ?_
                          refine lv_istore (lv' := [(9, .int (N9 (5 * (j / 5) + i))), (0, .ref (ar 0)), (1, .int (nI a1)), (2, .int x2), (3, .int (nI a3)), (4, .int x4), (5, .int x5), (6, .int (ob_bi b6)), (7, .int (nI i)), (8, .int (nI j))]) hx hb dX5_mark_160 hl (by decide) rfl (fun ls hl => ?_)
                          refine lv_aload_n hx hb dX5_mark_162 rfl (lv_at hl 1 rfl) ?_
                          refine va_get (ci := 5) (C := RX5) (T := TX5) (N := 21) hx hb hts (fun w h => List.mem_cons_of_mem _ (List.mem_append_right _ (h))) hown hK hP 0 rfl rfl 1 (by decide) (hts (Cond.fieldLink RX5 13 "OutageBookModel" "tried" "[I") (List.mem_of_getElem? (i := 1) rfl)) (fun _ h9 => h9) rfl dX5_mark_163 ?_
                          refine lv_iconst (v := nI 5) hx hb dX5_mark_166 (by decide) ?_
                          refine lv_iload hx hb dX5_mark_167 (lv_at hl 8 rfl) ?_
                          refine lv_imul hx hb dX5_mark_169 ?_
                          rw [show (nI 5) * (nI i) = nI (5 * i) from pk_mul 5 _]
                          refine lv_iload hx hb dX5_mark_170 (lv_at hl 9 rfl) ?_
                          refine lv_iconst (v := nI 5) hx hb dX5_mark_172 (by decide) ?_
                          refine lv_irem hx hb dX5_mark_173 (by decide) ?_
                          rw [show (nI j) - (nI j) / (nI 5) * (nI 5) = nI (j % 5) from pk_rem (by omega) (by decide) (by decide)]
                          refine lv_iadd hx hb dX5_mark_174 ?_
                          rw [show (nI (5 * i)) + (nI (j % 5)) = nI (5 * i + j % 5) from nI_add _ _]
                          refine ob_iald hx hb hK hP 2 0 rfl rfl (by omega) (by decide) dX5_mark_175 ?_
                          refine lv_istore (lv' := [(10, .int (N9 (5 * i + j % 5))), (9, .int (N9 (5 * (j / 5) + i))), (0, .ref (ar 0)), (1, .int (nI a1)), (2, .int x2), (3, .int (nI a3)), (4, .int x4), (5, .int x5), (6, .int (ob_bi b6)), (7, .int (nI i)), (8, .int (nI j))]) hx hb dX5_mark_176 hl (by decide) rfl (fun ls hl => ?_)
                          have k197 : ∀ (b7 : Bool), (b7 = ((!decide (N9 (5 * (j / 5) + i) = 1000000)) && (!decide (N9 (5 * i + j % 5) = 1000000)))) → ∀ ls : Array Slot, lv_has ls 12 [(0, .ref (ar 0)), (1, .int (nI a1)), (2, .int x2), (3, .int (nI a3)), (4, .int x4), (5, .int x5), (6, .int (ob_bi b6)), (7, .int (nI i)), (8, .int (nI j)), (9, .int (N9 (5 * (j / 5) + i))), (10, .int (N9 (5 * i + j % 5)))] → W p l e (headSpec wsX5_mark ({ frames := 2, cells := 0, slots := 0, locals := 42 } : Room)).room s m ([.ref (ar 0), .int x1, .int x2, .int x3, .int x4, .int x5] : List Value).toArray below meth c H locs 0 0 (MQ below (va_Qv (fun _ : Unit => True) (fun (_ : Unit) (t9 : State) => va_P D vwCl (ob_wR t ar (if ob_okm x1 x2 x3 x4 x5 && ob_cn (ob_T9 Bd Tr x1.toNatClampNeg x3.toNatClampNeg x2 x4 x5) 5 then ob_fl (ob_T9 Bd Tr x1.toNatClampNeg x3.toNatClampNeg x2 x4 x5) Bd 25 else Bd) (if ob_okm x1 x2 x3 x4 x5 then ob_T9 Bd Tr x1.toNatClampNeg x3.toNatClampNeg x2 x4 x5 else Tr) rn rcl rrd rsv rpb wf wa ro ah ct rmn rms rmf rmt rmp rcn sd V (nI (ob_z2 (ob_okm x1 x2 x3 x4 x5) (ob_cn (ob_T9 Bd Tr x1.toNatClampNeg x3.toNatClampNeg x2 x4 x5) 5)))) t9.heap) (va_A (ob_wR t ar Bd Tr rn rcl rrd rsv rpb wf wa ro ah ct rmn rms rmf rmt rmp rcn sd V th) sz)) ([.ref (ar 0), .int x1, .int x2, .int x3, .int x4, .int x5] : List Value).toArray s 0 0 (va_A (ob_wR t ar Bd Tr rn rcl rrd rsv rpb wf wa ro ah ct rmn rms rmf rmt rmp rcn sd V th) sz)) (F0 m 197 ls [.int (ob_bi b7)]) := by
                            intro b7 h7 ls hl
                            refine lv_istore (lv' := [(11, .int (ob_bi b7)), (0, .ref (ar 0)), (1, .int (nI a1)), (2, .int x2), (3, .int (nI a3)), (4, .int x4), (5, .int x5), (6, .int (ob_bi b6)), (7, .int (nI i)), (8, .int (nI j)), (9, .int (N9 (5 * (j / 5) + i))), (10, .int (N9 (5 * i + j % 5)))]) hx hb dX5_mark_197 hl (by decide) rfl (fun ls hl => ?_)
                            refine lv_aload_n hx hb dX5_mark_199 rfl (lv_at hl 1 rfl) ?_
                            refine va_get (ci := 5) (C := RX5) (T := TX5) (N := 21) hx hb hts (fun w h => List.mem_cons_of_mem _ (List.mem_append_right _ (h))) hown hK hP 0 rfl rfl 1 (by decide) (hts (Cond.fieldLink RX5 13 "OutageBookModel" "tried" "[I") (List.mem_of_getElem? (i := 1) rfl)) (fun _ h9 => h9) rfl dX5_mark_200 ?_
                            refine lv_iload hx hb dX5_mark_203 (lv_at hl 9 rfl) ?_
                            have k240 : ∀ (v : Int32), (v = ob_fv N9 i j) → ∀ ls : Array Slot, lv_has ls 12 [(0, .ref (ar 0)), (1, .int (nI a1)), (2, .int x2), (3, .int (nI a3)), (4, .int x4), (5, .int x5), (6, .int (ob_bi b6)), (7, .int (nI i)), (8, .int (nI j))] → W p l e (headSpec wsX5_mark ({ frames := 2, cells := 0, slots := 0, locals := 42 } : Room)).room s m ([.ref (ar 0), .int x1, .int x2, .int x3, .int x4, .int x5] : List Value).toArray below meth c H locs 0 0 (MQ below (va_Qv (fun _ : Unit => True) (fun (_ : Unit) (t9 : State) => va_P D vwCl (ob_wR t ar (if ob_okm x1 x2 x3 x4 x5 && ob_cn (ob_T9 Bd Tr x1.toNatClampNeg x3.toNatClampNeg x2 x4 x5) 5 then ob_fl (ob_T9 Bd Tr x1.toNatClampNeg x3.toNatClampNeg x2 x4 x5) Bd 25 else Bd) (if ob_okm x1 x2 x3 x4 x5 then ob_T9 Bd Tr x1.toNatClampNeg x3.toNatClampNeg x2 x4 x5 else Tr) rn rcl rrd rsv rpb wf wa ro ah ct rmn rms rmf rmt rmp rcn sd V (nI (ob_z2 (ob_okm x1 x2 x3 x4 x5) (ob_cn (ob_T9 Bd Tr x1.toNatClampNeg x3.toNatClampNeg x2 x4 x5) 5)))) t9.heap) (va_A (ob_wR t ar Bd Tr rn rcl rrd rsv rpb wf wa ro ah ct rmn rms rmf rmt rmp rcn sd V th) sz)) ([.ref (ar 0), .int x1, .int x2, .int x3, .int x4, .int x5] : List Value).toArray s 0 0 (va_A (ob_wR t ar Bd Tr rn rcl rrd rsv rpb wf wa ro ah ct rmn rms rmf rmt rmp rcn sd V th) sz)) (F0 m 240 ls [.int v, .int (nI j), .ref (ar 2)]) := by
                              intro v hv ls hl
                              refine ob_iast hx hb hK hP hD hS 2 0 rfl rfl (by omega) (by decide) dX5_mark_240 (fun H locs hP hD hS => ?_)
                              have hP : va_P D vwCl (ob_wR t ar Bd (upd N9 j v) rn rcl rrd rsv rpb wf wa ro ah ct rmn rms rmf rmt rmp rcn sd V (nI (ob_z1 b6))) H := hP
                              have hD : va_D (va_A (ob_wR t ar Bd Tr rn rcl rrd rsv rpb wf wa ro ah ct rmn rms rmf rmt rmp rcn sd V th) sz) (ob_wR t ar Bd (upd N9 j v) rn rcl rrd rsv rpb wf wa ro ah ct rmn rms rmf rmt rmp rcn sd V (nI (ob_z1 b6))) := hD
                              refine ob_inc (k := 8) (lv' := [(8, .int (nI (j + 1))), (0, .ref (ar 0)), (1, .int (nI a1)), (2, .int x2), (3, .int (nI a3)), (4, .int x4), (5, .int x5), (6, .int (ob_bi b6)), (7, .int (nI i))]) hx hb dX5_mark_241 hl rfl (by decide) rfl (fun ls hl => ?_)
                              refine lv_goto (tgt := 139) hx hb dX5_mark_244 (by decide) ?_
                              exact ih139 (j + 1) (upd N9 j v) (by omega) (by omega) (by first | (rfl; done) | (rw [ob_fI, ← h9, hv]; done)) _ _ hP (ob_dR hD) hS _ (lv_sub hl [1, 2, 3, 4, 5, 6, 7, 8, 0] rfl)
                            refine lv_iload hx hb dX5_mark_205 (lv_at hl 0 rfl) ?_
                            refine ob_if_eq (tgt := 233) hx hb dX5_mark_207 (by decide) (fun c207 => ?_) (fun c207 => ?_)
                            · refine lv_aload_n hx hb dX5_mark_233 rfl (lv_at hl 1 rfl) ?_
                              refine va_get (ci := 5) (C := RX5) (T := TX5) (N := 21) hx hb hts (fun w h => List.mem_cons_of_mem _ (List.mem_append_right _ (h))) hown hK hP 0 rfl rfl 1 (by decide) (hts (Cond.fieldLink RX5 13 "OutageBookModel" "tried" "[I") (List.mem_of_getElem? (i := 1) rfl)) (fun _ h9 => h9) rfl dX5_mark_234 ?_
                              refine lv_iload hx hb dX5_mark_237 (lv_at hl 9 rfl) ?_
                              refine ob_iald hx hb hK hP 2 0 rfl rfl (by omega) (by decide) dX5_mark_239 ?_
                              exact k240 (N9 j) (by first | (unfold ob_fv; rw [← h7, c207]; rfl; done) | (unfold ob_fv; rw [← h7, c207, decide_eq_false (Int32.not_lt.mpr c222)]; rfl; done) | (unfold ob_fv; rw [← h7, c207, decide_eq_true (Int32.not_le.mp c222)]; rfl; done)) _ (lv_sub hl [1, 2, 3, 4, 5, 6, 7, 8, 9] rfl)
                            · refine lv_iload hx hb dX5_mark_210 (lv_at hl 10 rfl) ?_
                              refine lv_iload hx hb dX5_mark_212 (lv_at hl 11 rfl) ?_
                              refine lv_iadd hx hb dX5_mark_214 ?_
                              refine lv_aload_n hx hb dX5_mark_215 rfl (lv_at hl 1 rfl) ?_
                              refine va_get (ci := 5) (C := RX5) (T := TX5) (N := 21) hx hb hts (fun w h => List.mem_cons_of_mem _ (List.mem_append_right _ (h))) hown hK hP 0 rfl rfl 1 (by decide) (hts (Cond.fieldLink RX5 13 "OutageBookModel" "tried" "[I") (List.mem_of_getElem? (i := 1) rfl)) (fun _ h9 => h9) rfl dX5_mark_216 ?_
                              refine lv_iload hx hb dX5_mark_219 (lv_at hl 9 rfl) ?_
                              refine ob_iald hx hb hK hP 2 0 rfl rfl (by omega) (by decide) dX5_mark_221 ?_
                              refine lv_icmp_ge (tgt := 233) hx hb dX5_mark_222 (by decide) (fun c222 => ?_) (fun c222 => ?_)
                              · refine lv_aload_n hx hb dX5_mark_233 rfl (lv_at hl 1 rfl) ?_
                                refine va_get (ci := 5) (C := RX5) (T := TX5) (N := 21) hx hb hts (fun w h => List.mem_cons_of_mem _ (List.mem_append_right _ (h))) hown hK hP 0 rfl rfl 1 (by decide) (hts (Cond.fieldLink RX5 13 "OutageBookModel" "tried" "[I") (List.mem_of_getElem? (i := 1) rfl)) (fun _ h9 => h9) rfl dX5_mark_234 ?_
                                refine lv_iload hx hb dX5_mark_237 (lv_at hl 9 rfl) ?_
                                refine ob_iald hx hb hK hP 2 0 rfl rfl (by omega) (by decide) dX5_mark_239 ?_
                                exact k240 (N9 j) (by first | (unfold ob_fv; rw [← h7, c207]; rfl; done) | (unfold ob_fv; rw [← h7, c207, decide_eq_false (Int32.not_lt.mpr c222)]; rfl; done) | (unfold ob_fv; rw [← h7, c207, decide_eq_true (Int32.not_le.mp c222)]; rfl; done)) _ (lv_sub hl [1, 2, 3, 4, 5, 6, 7, 8, 9] rfl)
                              · refine lv_iload hx hb dX5_mark_225 (lv_at hl 10 rfl) ?_
                                refine lv_iload hx hb dX5_mark_227 (lv_at hl 11 rfl) ?_
                                refine lv_iadd hx hb dX5_mark_229 ?_
                                refine lv_goto (tgt := 240) hx hb dX5_mark_230 (by decide) ?_
                                exact k240 ((N9 (5 * (j / 5) + i)) + (N9 (5 * i + j % 5))) (by first | (unfold ob_fv; rw [← h7, c207]; rfl; done) | (unfold ob_fv; rw [← h7, c207, decide_eq_false (Int32.not_lt.mpr c222)]; rfl; done) | (unfold ob_fv; rw [← h7, c207, decide_eq_true (Int32.not_le.mp c222)]; rfl; done)) _ (lv_sub hl [1, 2, 3, 4, 5, 6, 7, 8, 9] rfl)
                          refine lv_iload hx hb dX5_mark_178 (lv_at hl 1 rfl) ?_
                          refine lv_ldc (v := 1000000) hx hb hown (hts (Cond.constant RX5 63 (1000000)) (List.mem_of_getElem? (i := 3) rfl)) dX5_mark_180 ?_
                          refine lv_icmp_eq (tgt := 196) hx hb dX5_mark_182 (by decide) (fun c182 => ?_) (fun c182 => ?_)
                          · refine lv_iconst (v := nI 0) hx hb dX5_mark_196 (by decide) ?_
                            exact k197 false (by first | (rw [decide_eq_true c182]; rfl; done) | (rw [decide_eq_false c182, decide_eq_true c189]; rfl; done) | (rw [decide_eq_false c182, decide_eq_false c189]; rfl; done)) _ (lv_sub hl [2, 3, 4, 5, 6, 7, 8, 9, 10, 1, 0] rfl)
                          · refine lv_iload hx hb dX5_mark_185 (lv_at hl 0 rfl) ?_
                            refine lv_ldc (v := 1000000) hx hb hown (hts (Cond.constant RX5 63 (1000000)) (List.mem_of_getElem? (i := 3) rfl)) dX5_mark_187 ?_
                            refine lv_icmp_eq (tgt := 196) hx hb dX5_mark_189 (by decide) (fun c189 => ?_) (fun c189 => ?_)
                            · refine lv_iconst (v := nI 0) hx hb dX5_mark_196 (by decide) ?_
                              exact k197 false (by first | (rw [decide_eq_true c182]; rfl; done) | (rw [decide_eq_false c182, decide_eq_true c189]; rfl; done) | (rw [decide_eq_false c182, decide_eq_false c189]; rfl; done)) _ (lv_sub hl [2, 3, 4, 5, 6, 7, 8, 9, 10, 1, 0] rfl)
                            · refine lv_iconst (v := nI 1) hx hb dX5_mark_192 (by decide) ?_
                              refine lv_goto (tgt := 197) hx hb dX5_mark_193 (by decide) ?_
                              exact k197 true (by first | (rw [decide_eq_true c182]; rfl; done) | (rw [decide_eq_false c182, decide_eq_true c189]; rfl; done) | (rw [decide_eq_false c182, decide_eq_false c189]; rfl; done)) _ (lv_sub hl [2, 3, 4, 5, 6, 7, 8, 9, 10, 1, 0] rfl)
                    exact k139 _ 0 N8 (Nat.lt_succ_self _) (by omega) (by first | (rfl; done) | (rw [ob_fI, ← h9, hv]; done)) _ _ hP (ob_dR hD) hS _ (lv_sub hl [1, 2, 3, 4, 5, 6, 7, 8, 0] rfl)
              exact k130 _ 0 (ob_bn (ob_bn (ob_fl Bd Tr 25) a1 a3 ((x5 - x2) + x4)) a3 a1 ((x5 + x2) - x4)) (Nat.lt_succ_self _) (by omega) (by first | (rfl; done) | (rw [h9, show j = 25 by omega, h8]; rfl; done)) _ _ hP (ob_dR hD) hS _ (lv_sub hl [1, 2, 3, 4, 5, 6, 7, 0] rfl)
            · refine lv_aload_n hx hb dX5_mark_81 rfl (lv_at hl 0 rfl) ?_
              refine va_get (ci := 5) (C := RX5) (T := TX5) (N := 21) hx hb hts (fun w h => List.mem_cons_of_mem _ (List.mem_append_right _ (h))) hown hK hP 0 rfl rfl 1 (by decide) (hts (Cond.fieldLink RX5 13 "OutageBookModel" "tried" "[I") (List.mem_of_getElem? (i := 1) rfl)) (fun _ h9 => h9) rfl dX5_mark_82 ?_
              refine lv_iload hx hb dX5_mark_85 (lv_at hl 7 rfl) ?_
              refine lv_aload_n hx hb dX5_mark_87 rfl (lv_at hl 0 rfl) ?_
              refine va_get (ci := 5) (C := RX5) (T := TX5) (N := 21) hx hb hts (fun w h => List.mem_cons_of_mem _ (List.mem_append_right _ (h))) hown hK hP 0 rfl rfl 0 (by decide) (hts (Cond.fieldLink RX5 7 "OutageBookModel" "bounds" "[I") (List.mem_of_getElem? (i := 2) rfl)) (fun _ h9 => h9) rfl dX5_mark_88 ?_
              refine lv_iload hx hb dX5_mark_91 (lv_at hl 7 rfl) ?_
              refine ob_iald hx hb hK hP 1 0 rfl rfl (by omega) (by decide) dX5_mark_93 ?_
              refine ob_iast hx hb hK hP hD hS 2 0 rfl rfl (by omega) (by decide) dX5_mark_94 (fun H locs hP hD hS => ?_)
              have hP : va_P D vwCl (ob_wR t ar Bd (upd (ob_fl Bd Tr k) k (Bd k)) rn rcl rrd rsv rpb wf wa ro ah ct rmn rms rmf rmt rmp rcn sd V (nI (ob_z1 b6))) H := hP
              have hD : va_D (va_A (ob_wR t ar Bd Tr rn rcl rrd rsv rpb wf wa ro ah ct rmn rms rmf rmt rmp rcn sd V th) sz) (ob_wR t ar Bd (upd (ob_fl Bd Tr k) k (Bd k)) rn rcl rrd rsv rpb wf wa ro ah ct rmn rms rmf rmt rmp rcn sd V (nI (ob_z1 b6))) := hD
              refine ob_inc (k := 7) (lv' := [(7, .int (nI (k + 1))), (0, .ref (ar 0)), (1, .int (nI a1)), (2, .int x2), (3, .int (nI a3)), (4, .int x4), (5, .int x5), (6, .int (ob_bi b6))]) hx hb dX5_mark_95 hl rfl (by decide) rfl (fun ls hl => ?_)
              refine lv_goto (tgt := 74) hx hb dX5_mark_98 (by decide) ?_
              exact ih74 (k + 1) (by omega) (by omega) _ _ (by rw [← ob_fl_s]; exact hP) (ob_dR hD) hS _ (lv_sub hl [1, 2, 3, 4, 5, 6, 7, 0] rfl)
        exact k74 _ 0 (Nat.lt_succ_self _) (by omega) _ _ (by rw [ob_fl_0]; exact hP) (ob_dR hD) hS _ (lv_sub hl [1, 2, 3, 4, 5, 6, 7, 0] rfl)
      · exact W.vret hx hb hr (fun t9 ht hW => ⟨⟨(), rfl, trivial, ob_th ht (by rw [← h6, c67, ob_z2f, Bool.false_and]; rw [c67] at hP; simp only [Bool.false_eq_true, if_false]; exact hP)⟩, hS.F ht⟩) hS.2.2 dX5_mark_70
    refine lv_iload hx hb dX5_mark_54 (lv_at hl 0 rfl) ?_
    refine ob_if_eq (tgt := 63) hx hb dX5_mark_56 (by decide) (fun c56 => ?_) (fun c56 => ?_)
    · refine lv_iconst (v := nI 1) hx hb dX5_mark_63 (by decide) ?_
      exact k64 1 (by rw [c56]; rfl) _ (lv_sub hl [1, 2, 3, 4, 5, 6, 0] rfl)
    · refine lv_iconst (v := nI 0) hx hb dX5_mark_59 (by decide) ?_
      refine lv_goto (tgt := 64) hx hb dX5_mark_60 (by decide) ?_
      exact k64 0 (by rw [c56]; rfl) _ (lv_sub hl [1, 2, 3, 4, 5, 6, 0] rfl)
  refine lv_iload_n hx hb dX5_mark_0 rfl (lv_at hl 1 rfl) ?_
  refine vp_callSi (va_Run.run (va_runS (As := [.int x1]) (rest := []) ⟨hx, hb, hml, hown, hts⟩ (c_X5_isClock l D t x1) (va_cwS 1 hts gX5_mark_X5_isClock rfl rfl rfl (by decide +kernel) ⟨Nat.le_of_ble_eq_true rfl, Nat.le_of_ble_eq_true rfl⟩) (ob_preS (hP.sub [] rfl) hk) rfl rfl hl.1 rfl (lv_room (Nat.le_of_ble_eq_true rfl)) dX5_mark_1 ⟨Nat.le_of_ble_eq_true rfl, Nat.le_of_ble_eq_true rfl⟩)) (fun r9 hr9 => ?_)
  subst hr9
  refine ob_if_eq (tgt := 50) hx hb dX5_mark_4 (by decide) (fun c4 => ?_) (fun c4 => ?_)
  · refine lv_iconst (v := nI 0) hx hb dX5_mark_50 (by decide) ?_
    exact k51 false (by first | (unfold ob_okm; rw [c4]; rfl; done) | (unfold ob_okm; rw [c4, c11]; rfl; done) | (unfold ob_okm; rw [c4, c11, c18]; rfl; done) | (unfold ob_okm; rw [c4, c11, c18, c26]; rfl; done) | (unfold ob_okm; rw [c4, c11, c18, c26, c38]; rfl; done) | (unfold ob_okm; rw [c4, c11, c18, c26, c38, decide_eq_true c43]; rfl; done) | (unfold ob_okm; rw [c4, c11, c18, c26, c38, decide_eq_false c43]; rfl; done)) _ (lv_sub hl [0, 1, 2, 3, 4, 5] rfl)
  · refine lv_iload_n hx hb dX5_mark_7 rfl (lv_at hl 2 rfl) ?_
    refine vp_callSi (va_Run.run (va_runS (As := [.int x2]) (rest := []) ⟨hx, hb, hml, hown, hts⟩ (c_X5_isTime l D t x2) (va_cwS 1 hts gX5_mark_X5_isTime rfl rfl rfl (by decide +kernel) ⟨Nat.le_of_ble_eq_true rfl, Nat.le_of_ble_eq_true rfl⟩) (ob_preS (hP.sub [] rfl) hk) rfl rfl hl.1 rfl (lv_room (Nat.le_of_ble_eq_true rfl)) dX5_mark_8 ⟨Nat.le_of_ble_eq_true rfl, Nat.le_of_ble_eq_true rfl⟩)) (fun r9 hr9 => ?_)
    subst hr9
    refine ob_if_eq (tgt := 50) hx hb dX5_mark_11 (by decide) (fun c11 => ?_) (fun c11 => ?_)
    · refine lv_iconst (v := nI 0) hx hb dX5_mark_50 (by decide) ?_
      exact k51 false (by first | (unfold ob_okm; rw [c4]; rfl; done) | (unfold ob_okm; rw [c4, c11]; rfl; done) | (unfold ob_okm; rw [c4, c11, c18]; rfl; done) | (unfold ob_okm; rw [c4, c11, c18, c26]; rfl; done) | (unfold ob_okm; rw [c4, c11, c18, c26, c38]; rfl; done) | (unfold ob_okm; rw [c4, c11, c18, c26, c38, decide_eq_true c43]; rfl; done) | (unfold ob_okm; rw [c4, c11, c18, c26, c38, decide_eq_false c43]; rfl; done)) _ (lv_sub hl [0, 1, 2, 3, 4, 5] rfl)
    · refine lv_iload_n hx hb dX5_mark_14 rfl (lv_at hl 3 rfl) ?_
      refine vp_callSi (va_Run.run (va_runS (As := [.int x3]) (rest := []) ⟨hx, hb, hml, hown, hts⟩ (c_X5_isClock l D t x3) (va_cwS 1 hts gX5_mark_X5_isClock rfl rfl rfl (by decide +kernel) ⟨Nat.le_of_ble_eq_true rfl, Nat.le_of_ble_eq_true rfl⟩) (ob_preS (hP.sub [] rfl) hk) rfl rfl hl.1 rfl (lv_room (Nat.le_of_ble_eq_true rfl)) dX5_mark_15 ⟨Nat.le_of_ble_eq_true rfl, Nat.le_of_ble_eq_true rfl⟩)) (fun r9 hr9 => ?_)
      subst hr9
      refine ob_if_eq (tgt := 50) hx hb dX5_mark_18 (by decide) (fun c18 => ?_) (fun c18 => ?_)
      · refine lv_iconst (v := nI 0) hx hb dX5_mark_50 (by decide) ?_
        exact k51 false (by first | (unfold ob_okm; rw [c4]; rfl; done) | (unfold ob_okm; rw [c4, c11]; rfl; done) | (unfold ob_okm; rw [c4, c11, c18]; rfl; done) | (unfold ob_okm; rw [c4, c11, c18, c26]; rfl; done) | (unfold ob_okm; rw [c4, c11, c18, c26, c38]; rfl; done) | (unfold ob_okm; rw [c4, c11, c18, c26, c38, decide_eq_true c43]; rfl; done) | (unfold ob_okm; rw [c4, c11, c18, c26, c38, decide_eq_false c43]; rfl; done)) _ (lv_sub hl [0, 1, 2, 3, 4, 5] rfl)
      · refine lv_iload hx hb dX5_mark_21 (lv_at hl 4 rfl) ?_
        refine vp_callSi (va_Run.run (va_runS (As := [.int x4]) (rest := []) ⟨hx, hb, hml, hown, hts⟩ (c_X5_isTime l D t x4) (va_cwS 1 hts gX5_mark_X5_isTime rfl rfl rfl (by decide +kernel) ⟨Nat.le_of_ble_eq_true rfl, Nat.le_of_ble_eq_true rfl⟩) (ob_preS (hP.sub [] rfl) hk) rfl rfl hl.1 rfl (lv_room (Nat.le_of_ble_eq_true rfl)) dX5_mark_23 ⟨Nat.le_of_ble_eq_true rfl, Nat.le_of_ble_eq_true rfl⟩)) (fun r9 hr9 => ?_)
        subst hr9
        refine ob_if_eq (tgt := 50) hx hb dX5_mark_26 (by decide) (fun c26 => ?_) (fun c26 => ?_)
        · refine lv_iconst (v := nI 0) hx hb dX5_mark_50 (by decide) ?_
          exact k51 false (by first | (unfold ob_okm; rw [c4]; rfl; done) | (unfold ob_okm; rw [c4, c11]; rfl; done) | (unfold ob_okm; rw [c4, c11, c18]; rfl; done) | (unfold ob_okm; rw [c4, c11, c18, c26]; rfl; done) | (unfold ob_okm; rw [c4, c11, c18, c26, c38]; rfl; done) | (unfold ob_okm; rw [c4, c11, c18, c26, c38, decide_eq_true c43]; rfl; done) | (unfold ob_okm; rw [c4, c11, c18, c26, c38, decide_eq_false c43]; rfl; done)) _ (lv_sub hl [0, 1, 2, 3, 4, 5] rfl)
        · refine lv_iload hx hb dX5_mark_29 (lv_at hl 5 rfl) ?_
          refine lv_iconst (v := nI 0) hx hb dX5_mark_31 (by decide) ?_
          refine lv_sipush (v := nI 1000) hx hb dX5_mark_32 (by decide) ?_
          refine vp_callSi (va_Run.run (va_runS (As := [.int x5, .int (nI 0), .int (nI 1000)]) (rest := []) ⟨hx, hb, hml, hown, hts⟩ (c_X5_isIn l D t x5 (nI 0) (nI 1000)) (va_cwS 3 hts gX5_mark_X5_isIn rfl rfl rfl (by decide +kernel) ⟨Nat.le_of_ble_eq_true rfl, Nat.le_of_ble_eq_true rfl⟩) (ob_preS (hP.sub [] rfl) hk) rfl rfl hl.1 rfl (lv_room (Nat.le_of_ble_eq_true rfl)) dX5_mark_35 ⟨Nat.le_of_ble_eq_true rfl, Nat.le_of_ble_eq_true rfl⟩)) (fun r9 hr9 => ?_)
          subst hr9
          refine ob_if_eq (tgt := 50) hx hb dX5_mark_38 (by decide) (fun c38 => ?_) (fun c38 => ?_)
          · refine lv_iconst (v := nI 0) hx hb dX5_mark_50 (by decide) ?_
            exact k51 false (by first | (unfold ob_okm; rw [c4]; rfl; done) | (unfold ob_okm; rw [c4, c11]; rfl; done) | (unfold ob_okm; rw [c4, c11, c18]; rfl; done) | (unfold ob_okm; rw [c4, c11, c18, c26]; rfl; done) | (unfold ob_okm; rw [c4, c11, c18, c26, c38]; rfl; done) | (unfold ob_okm; rw [c4, c11, c18, c26, c38, decide_eq_true c43]; rfl; done) | (unfold ob_okm; rw [c4, c11, c18, c26, c38, decide_eq_false c43]; rfl; done)) _ (lv_sub hl [0, 1, 2, 3, 4, 5] rfl)
          · refine lv_iload_n hx hb dX5_mark_41 rfl (lv_at hl 1 rfl) ?_
            refine lv_iload_n hx hb dX5_mark_42 rfl (lv_at hl 3 rfl) ?_
            refine lv_icmp_eq (tgt := 50) hx hb dX5_mark_43 (by decide) (fun c43 => ?_) (fun c43 => ?_)
            · refine lv_iconst (v := nI 0) hx hb dX5_mark_50 (by decide) ?_
              exact k51 false (by first | (unfold ob_okm; rw [c4]; rfl; done) | (unfold ob_okm; rw [c4, c11]; rfl; done) | (unfold ob_okm; rw [c4, c11, c18]; rfl; done) | (unfold ob_okm; rw [c4, c11, c18, c26]; rfl; done) | (unfold ob_okm; rw [c4, c11, c18, c26, c38]; rfl; done) | (unfold ob_okm; rw [c4, c11, c18, c26, c38, decide_eq_true c43]; rfl; done) | (unfold ob_okm; rw [c4, c11, c18, c26, c38, decide_eq_false c43]; rfl; done)) _ (lv_sub hl [0, 1, 2, 3, 4, 5] rfl)
            · refine lv_iconst (v := nI 1) hx hb dX5_mark_46 (by decide) ?_
              refine lv_goto (tgt := 51) hx hb dX5_mark_47 (by decide) ?_
              exact k51 true (by first | (unfold ob_okm; rw [c4]; rfl; done) | (unfold ob_okm; rw [c4, c11]; rfl; done) | (unfold ob_okm; rw [c4, c11, c18]; rfl; done) | (unfold ob_okm; rw [c4, c11, c18, c26]; rfl; done) | (unfold ob_okm; rw [c4, c11, c18, c26, c38]; rfl; done) | (unfold ob_okm; rw [c4, c11, c18, c26, c38, decide_eq_true c43]; rfl; done) | (unfold ob_okm; rw [c4, c11, c18, c26, c38, decide_eq_false c43]; rfl; done)) _ (lv_sub hl [0, 1, 2, 3, 4, 5] rfl)

set_option maxRecDepth 100000 in
set_option maxHeartbeats 4000000 in
theorem c_X5_greatest (l : Launch) (D : va_G) (t : Nat → ClassId) (sz : Nat) (ar : Nat → Nat) (Bd Tr : Nat → Int32) (rn : Nat) (rcl rrd rsv rpb wf wa ro ah : Nat → Int32) (ct : Nat → Int64) (rmn : Nat) (rms rmf rmt rmp : Nat → Int32) (rcn : Nat) (sd V : Nat → Int32) (th : Int32) (x1 x2 : Int32) : Met l yX5_greatest wsX5_greatest ({ frames := 2, cells := 0, slots := 0, locals := 42 } : Room) (ob_Pm D t (ob_wR t ar Bd Tr rn rcl rrd rsv rpb wf wa ro ah ct rmn rms rmf rmt rmp rcn sd V th) sz [.ref (ar 0), .int x1, .int x2]) (va_Qi (fun (r : Int32) (_ : Unit) => r = if ob_wi x1 (nI 0) (nI 4) && ob_wi x2 (nI 0) (nI 4) then Bd (5 * x1.toNatClampNeg + x2.toNatClampNeg) else nI 0) (fun (_ : Unit) (t9 : State) => va_P D vwCl (ob_wR t ar Bd Tr rn rcl rrd rsv rpb wf wa ro ah ct rmn rms rmf rmt rmp rcn sd V (nI (ob_z1 (ob_wi x1 (nI 0) (nI 4) && ob_wi x2 (nI 0) (nI 4))))) t9.heap) (va_A (ob_wR t ar Bd Tr rn rcl rrd rsv rpb wf wa ro ah ct rmn rms rmf rmt rmp rcn sd V th) sz)) 0 0 (va_A (ob_wR t ar Bd Tr rn rcl rrd rsv rpb wf wa ro ah ct rmn rms rmf rmt rmp rcn sd V th) sz) := by
  refine Met.ofW (cc := cX5_greatest) (maxL := 3) (ret := (some .int)) (by decide) rfl ?_
  intro p e s m args below meth c s₁ B hml hv
  obtain ⟨rfl, hsz, hP, hk, hD0⟩ := hv
  have hx := B.exec
  have hb := B.bytes
  have hr := B.returns
  have hts := atoms_spec (ws := wsX5_greatest) B.pre
  have hown : s.vm.findClass RX5 = some m.cls := findClass_of_methodNamed B.named
  have hlocks := B.notSynchronized
  have hK := hk.1
  have hD : va_D (va_A (ob_wR t ar Bd Tr rn rcl rrd rsv rpb wf wa ro ah ct rmn rms rmf rmt rmp rcn sd V th) sz) (ob_wR t ar Bd Tr rn rcl rrd rsv rpb wf wa ro ah ct rmn rms rmf rmt rmp rcn sd V th) := hD0.self (sz := sz)
  have hA : ∀ q : Nat, s.heap.size ≤ q → (va_A (ob_wR t ar Bd Tr rn rcl rrd rsv rpb wf wa ro ah ct rmn rms rmf rmt rmp rcn sd V th) sz) q := fun q h => Or.inr (hsz ▸ h)
  have hS : va_S (va_A (ob_wR t ar Bd Tr rn rcl rrd rsv rpb wf wa ro ah ct rmn rms rmf rmt rmp rcn sd V th) sz) s.heap s.heap [] := va_S.rf
  have hl := lv_entry [.ref (ar 0), .int x1, .int x2] (n := 3) (Nat.le_of_ble_eq_true rfl)
  rw [lg_entry_eq]
  generalize (lg_sl [.ref (ar 0), .int x1, .int x2] ++ List.replicate (3 - (lg_sl [.ref (ar 0), .int x1, .int x2]).length) Slot.unset).toArray = ls at hl ⊢
  have hl : lv_has ls 3 [(0, .ref (ar 0)), (1, .int x1), (2, .int x2)] := hl
  have hP : va_P D vwCl (ob_wR t ar Bd Tr rn rcl rrd rsv rpb wf wa ro ah ct rmn rms rmf rmt rmp rcn sd V th) s.heap := hP
  refine lv_aload_n hx hb dX5_greatest_0 rfl (lv_at hl 0 rfl) ?_
  have k20 : ∀ (z : Nat), (z = ob_z1 (ob_wi x1 (nI 0) (nI 4) && ob_wi x2 (nI 0) (nI 4))) → ∀ ls : Array Slot, lv_has ls 3 [(0, .ref (ar 0)), (1, .int x1), (2, .int x2)] → W p l e (headSpec wsX5_greatest ({ frames := 2, cells := 0, slots := 0, locals := 42 } : Room)).room s m ([.ref (ar 0), .int x1, .int x2] : List Value).toArray below meth c s.heap [] 0 0 (MQ below (va_Qi (fun (r : Int32) (_ : Unit) => r = if ob_wi x1 (nI 0) (nI 4) && ob_wi x2 (nI 0) (nI 4) then Bd (5 * x1.toNatClampNeg + x2.toNatClampNeg) else nI 0) (fun (_ : Unit) (t9 : State) => va_P D vwCl (ob_wR t ar Bd Tr rn rcl rrd rsv rpb wf wa ro ah ct rmn rms rmf rmt rmp rcn sd V (nI (ob_z1 (ob_wi x1 (nI 0) (nI 4) && ob_wi x2 (nI 0) (nI 4))))) t9.heap) (va_A (ob_wR t ar Bd Tr rn rcl rrd rsv rpb wf wa ro ah ct rmn rms rmf rmt rmp rcn sd V th) sz)) ([.ref (ar 0), .int x1, .int x2] : List Value).toArray s 0 0 (va_A (ob_wR t ar Bd Tr rn rcl rrd rsv rpb wf wa ro ah ct rmn rms rmf rmt rmp rcn sd V th) sz)) (F0 m 20 ls [.int (nI z), .ref (ar 0)]) := by
    intro z hz ls hl
    subst hz
    have hFc := va_free (wc := ob_wR t ar Bd Tr rn rcl rrd rsv rpb wf wa ro ah ct rmn rms rmf rmt rmp rcn sd V th) hD hS hA [0, 1, 2, 3, 4, 5, 6, 7, 8, 9, 10, 11, 12, 13, 14, 15, 16, 17] rfl
    refine va_calli (va_runV (As := [.int (nI (ob_z1 (ob_wi x1 (nI 0) (nI 4) && ob_wi x2 (nI 0) (nI 4))))]) (rest := []) ⟨hx, hb, hml, hown, hts⟩ (c_X5_goes l D t s.heap.size ar Bd Tr rn rcl rrd rsv rpb wf wa ro ah ct rmn rms rmf rmt rmp rcn sd V th (nI (ob_z1 (ob_wi x1 (nI 0) (nI 4) && ob_wi x2 (nI 0) (nI 4))))) (cwV 1 hts gX5_greatest_X5_goes rfl rfl rfl (by decide +kernel) ⟨Nat.le_of_ble_eq_true rfl, Nat.le_of_ble_eq_true rfl⟩) (ob_pmV (ci := 5) (q0 := 0) hP hD hk rfl rfl) rfl rfl hl.1 rfl (lv_room (Nat.le_of_ble_eq_true rfl)) dX5_greatest_20 ⟨Nat.le_of_ble_eq_true rfl, Nat.le_of_ble_eq_true rfl⟩) hS (fun q _ h => hFc q h) hFc (fun r9 u9 t9 H1 locs ht hvm hw9 hB hz1 hk1 hS => ?_)
    rw [ht] at hB
    have hP := ob_jn (ws' := ob_wR t ar Bd Tr rn rcl rrd rsv rpb wf wa ro ah ct rmn rms rmf rmt rmp rcn sd V (nI (ob_z1 (ob_wi x1 (nI 0) (nI 4) && ob_wi x2 (nI 0) (nI 4))))) hP hD [some 0, some 1, some 2, some 3, some 4, some 5, some 6, some 7, some 8, some 9, some 10, some 11, some 12, some 13, some 14, some 15, some 16, some 17] [0, 1, 2, 3, 4, 5, 6, 7, 8, 9, 10, 11, 12, 13, 14, 15, 16, 17] rfl rfl hk1 hB rfl
    have hD : va_D (va_A (ob_wR t ar Bd Tr rn rcl rrd rsv rpb wf wa ro ah ct rmn rms rmf rmt rmp rcn sd V th) sz) (ob_wR t ar Bd Tr rn rcl rrd rsv rpb wf wa ro ah ct rmn rms rmf rmt rmp rcn sd V (nI (ob_z1 (ob_wi x1 (nI 0) (nI 4) && ob_wi x2 (nI 0) (nI 4))))) := ob_dR hD
    generalize H1 = H at hP hS ⊢
    subst hw9
    rw [show ob_bi (decide ((nI (ob_z1 (ob_wi x1 (nI 0) (nI 4) && ob_wi x2 (nI 0) (nI 4)))) = 0)) = ob_bi (ob_wi x1 (nI 0) (nI 4) && ob_wi x2 (nI 0) (nI 4)) from ob_dz1 _]
    refine ob_if_eq (tgt := 39) hx hb dX5_greatest_23 (by decide) (fun c23 => ?_) (fun c23 => ?_)
    · refine lv_iconst (v := nI 0) hx hb dX5_greatest_39 (by decide) ?_
      exact W.iret (v := nI 0) hx hb hr (fun t9 ht hW => ⟨⟨nI 0, (), rfl, (by first | (rw [c23]; rfl) | (rw [c23, ob_cl (show j1 ≤ 1073741824 by omega), ob_cl (show j2 ≤ 1073741824 by omega)]; rfl)), ob_th ht hP⟩, hS.F ht⟩) hS.2.2 dX5_greatest_40
    · obtain ⟨h1, h2⟩ := ob_and2 c23
      obtain ⟨j1, hj1, rfl⟩ := ob_wi_t h1
      obtain ⟨j2, hj2, rfl⟩ := ob_wi_t h2
      refine lv_aload_n hx hb dX5_greatest_26 rfl (lv_at hl 0 rfl) ?_
      refine va_get (ci := 5) (C := RX5) (T := TX5) (N := 21) hx hb hts (fun w h => List.mem_cons_of_mem _ (List.mem_append_right _ (h))) hown hK hP 0 rfl rfl 0 (by decide) (hts (Cond.fieldLink RX5 7 "OutageBookModel" "bounds" "[I") (List.mem_of_getElem? (i := 1) rfl)) (fun _ h9 => h9) rfl dX5_greatest_27 ?_
      refine lv_iconst (v := nI 5) hx hb dX5_greatest_30 (by decide) ?_
      refine lv_iload_n hx hb dX5_greatest_31 rfl (lv_at hl 1 rfl) ?_
      refine lv_imul hx hb dX5_greatest_32 ?_
      rw [show (nI 5) * (nI j1) = nI (5 * j1) from pk_mul 5 _]
      refine lv_iload_n hx hb dX5_greatest_33 rfl (lv_at hl 2 rfl) ?_
      refine lv_iadd hx hb dX5_greatest_34 ?_
      rw [show (nI (5 * j1)) + (nI j2) = nI (5 * j1 + j2) from nI_add _ _]
      refine ob_iald hx hb hK hP 1 0 rfl rfl (by omega) (by decide) dX5_greatest_35 ?_
      refine lv_goto (tgt := 40) hx hb dX5_greatest_36 (by decide) ?_
      exact W.iret (v := Bd (5 * j1 + j2)) hx hb hr (fun t9 ht hW => ⟨⟨Bd (5 * j1 + j2), (), rfl, (by first | (rw [c23]; rfl) | (rw [c23, ob_cl (show j1 ≤ 1073741824 by omega), ob_cl (show j2 ≤ 1073741824 by omega)]; rfl)), ob_th ht hP⟩, hS.F ht⟩) hS.2.2 dX5_greatest_40
  refine lv_iload_n hx hb dX5_greatest_1 rfl (lv_at hl 1 rfl) ?_
  refine vp_callSi (va_Run.run (va_runS (As := [.int x1]) (rest := [.ref (ar 0)]) ⟨hx, hb, hml, hown, hts⟩ (c_X5_isClock l D t x1) (va_cwS 1 hts gX5_greatest_X5_isClock rfl rfl rfl (by decide +kernel) ⟨Nat.le_of_ble_eq_true rfl, Nat.le_of_ble_eq_true rfl⟩) (ob_preS (hP.sub [] rfl) hk) rfl rfl hl.1 rfl (lv_room (Nat.le_of_ble_eq_true rfl)) dX5_greatest_2 ⟨Nat.le_of_ble_eq_true rfl, Nat.le_of_ble_eq_true rfl⟩)) (fun r9 hr9 => ?_)
  subst hr9
  refine ob_if_eq (tgt := 19) hx hb dX5_greatest_5 (by decide) (fun c5 => ?_) (fun c5 => ?_)
  · refine lv_iconst (v := nI 1) hx hb dX5_greatest_19 (by decide) ?_
    exact k20 1 (by first | (rw [c5]; rfl; done) | (rw [c5, c12]; rfl; done)) _ (lv_sub hl [0, 1, 2] rfl)
  · refine lv_iload_n hx hb dX5_greatest_8 rfl (lv_at hl 2 rfl) ?_
    refine vp_callSi (va_Run.run (va_runS (As := [.int x2]) (rest := [.ref (ar 0)]) ⟨hx, hb, hml, hown, hts⟩ (c_X5_isClock l D t x2) (va_cwS 1 hts gX5_greatest_X5_isClock rfl rfl rfl (by decide +kernel) ⟨Nat.le_of_ble_eq_true rfl, Nat.le_of_ble_eq_true rfl⟩) (ob_preS (hP.sub [] rfl) hk) rfl rfl hl.1 rfl (lv_room (Nat.le_of_ble_eq_true rfl)) dX5_greatest_9 ⟨Nat.le_of_ble_eq_true rfl, Nat.le_of_ble_eq_true rfl⟩)) (fun r9 hr9 => ?_)
    subst hr9
    refine ob_if_eq (tgt := 19) hx hb dX5_greatest_12 (by decide) (fun c12 => ?_) (fun c12 => ?_)
    · refine lv_iconst (v := nI 1) hx hb dX5_greatest_19 (by decide) ?_
      exact k20 1 (by first | (rw [c5]; rfl; done) | (rw [c5, c12]; rfl; done)) _ (lv_sub hl [0, 1, 2] rfl)
    · refine lv_iconst (v := nI 0) hx hb dX5_greatest_15 (by decide) ?_
      refine lv_goto (tgt := 20) hx hb dX5_greatest_16 (by decide) ?_
      exact k20 0 (by first | (rw [c5]; rfl; done) | (rw [c5, c12]; rfl; done)) _ (lv_sub hl [0, 1, 2] rfl)

set_option maxRecDepth 100000 in
set_option maxHeartbeats 4000000 in
theorem c_X5_write (l : Launch) (D : va_G) (t : Nat → ClassId) (sz : Nat) (ar : Nat → Nat) (Bd Tr : Nat → Int32) (rn : Nat) (rcl rrd rsv rpb wf wa ro ah : Nat → Int32) (ct : Nat → Int64) (rmn : Nat) (rms rmf rmt rmp : Nat → Int32) (rcn : Nat) (sd V : Nat → Int32) (th : Int32) (x1 x2 x3 : Int32) (b4 : Bool) (hrn : rn ≤ 30) : Met l yX5_write wsX5_write ({ frames := 2, cells := 0, slots := 0, locals := 42 } : Room) (ob_Pm D t (ob_wR t ar Bd Tr rn rcl rrd rsv rpb wf wa ro ah ct rmn rms rmf rmt rmp rcn sd V th) sz [.ref (ar 0), .int x1, .int x2, .int x3, .int (ob_bi b4)]) (va_Qi (fun (r : Int32) (_ : Unit) => r = if (ob_wi x1 (nI 0) (nI 4) && (ob_wi x2 (nI 0) (nI 10000) && ob_wi x3 (nI 0) (nI 5))) && !decide (rn = 30) then nI rn else nI 0) (fun (_ : Unit) (t9 : State) => va_P D vwCl (ob_wR t ar Bd Tr (if (ob_wi x1 (nI 0) (nI 4) && (ob_wi x2 (nI 0) (nI 10000) && ob_wi x3 (nI 0) (nI 5))) && !decide (rn = 30) then rn + 1 else rn) (if (ob_wi x1 (nI 0) (nI 4) && (ob_wi x2 (nI 0) (nI 10000) && ob_wi x3 (nI 0) (nI 5))) && !decide (rn = 30) then upd rcl rn x1 else rcl) (if (ob_wi x1 (nI 0) (nI 4) && (ob_wi x2 (nI 0) (nI 10000) && ob_wi x3 (nI 0) (nI 5))) && !decide (rn = 30) then upd rrd rn x2 else rrd) (if (ob_wi x1 (nI 0) (nI 4) && (ob_wi x2 (nI 0) (nI 10000) && ob_wi x3 (nI 0) (nI 5))) && !decide (rn = 30) then upd rsv rn x3 else rsv) (if (ob_wi x1 (nI 0) (nI 4) && (ob_wi x2 (nI 0) (nI 10000) && ob_wi x3 (nI 0) (nI 5))) && !decide (rn = 30) then upd rpb rn (ob_bi b4) else rpb) wf wa ro ah ct rmn rms rmf rmt rmp rcn sd V (nI (ob_z2 (ob_wi x1 (nI 0) (nI 4) && (ob_wi x2 (nI 0) (nI 10000) && ob_wi x3 (nI 0) (nI 5))) (!decide (rn = 30))))) t9.heap) (va_A (ob_wR t ar Bd Tr rn rcl rrd rsv rpb wf wa ro ah ct rmn rms rmf rmt rmp rcn sd V th) sz)) 0 0 (va_A (ob_wR t ar Bd Tr rn rcl rrd rsv rpb wf wa ro ah ct rmn rms rmf rmt rmp rcn sd V th) sz) := by
  refine Met.ofW (cc := cX5_write) (maxL := 5) (ret := (some .int)) (by decide) rfl ?_
  intro p e s m args below meth c s₁ B hml hv
  obtain ⟨rfl, hsz, hP, hk, hD0⟩ := hv
  have hx := B.exec
  have hb := B.bytes
  have hr := B.returns
  have hts := atoms_spec (ws := wsX5_write) B.pre
  have hown : s.vm.findClass RX5 = some m.cls := findClass_of_methodNamed B.named
  have hlocks := B.notSynchronized
  have hK := hk.1
  have hD : va_D (va_A (ob_wR t ar Bd Tr rn rcl rrd rsv rpb wf wa ro ah ct rmn rms rmf rmt rmp rcn sd V th) sz) (ob_wR t ar Bd Tr rn rcl rrd rsv rpb wf wa ro ah ct rmn rms rmf rmt rmp rcn sd V th) := hD0.self (sz := sz)
  have hA : ∀ q : Nat, s.heap.size ≤ q → (va_A (ob_wR t ar Bd Tr rn rcl rrd rsv rpb wf wa ro ah ct rmn rms rmf rmt rmp rcn sd V th) sz) q := fun q h => Or.inr (hsz ▸ h)
  have hS : va_S (va_A (ob_wR t ar Bd Tr rn rcl rrd rsv rpb wf wa ro ah ct rmn rms rmf rmt rmp rcn sd V th) sz) s.heap s.heap [] := va_S.rf
  have hl := lv_entry [.ref (ar 0), .int x1, .int x2, .int x3, .int (ob_bi b4)] (n := 5) (Nat.le_of_ble_eq_true rfl)
  rw [lg_entry_eq]
  generalize (lg_sl [.ref (ar 0), .int x1, .int x2, .int x3, .int (ob_bi b4)] ++ List.replicate (5 - (lg_sl [.ref (ar 0), .int x1, .int x2, .int x3, .int (ob_bi b4)]).length) Slot.unset).toArray = ls at hl ⊢
  have hl : lv_has ls 5 [(0, .ref (ar 0)), (1, .int x1), (2, .int x2), (3, .int x3), (4, .int (ob_bi b4))] := hl
  have hP : va_P D vwCl (ob_wR t ar Bd Tr rn rcl rrd rsv rpb wf wa ro ah ct rmn rms rmf rmt rmp rcn sd V th) s.heap := hP
  refine lv_aload_n hx hb dX5_write_0 rfl (lv_at hl 0 rfl) ?_
  have k40 : ∀ (z : Nat), (z = ob_z2 (ob_wi x1 (nI 0) (nI 4) && (ob_wi x2 (nI 0) (nI 10000) && ob_wi x3 (nI 0) (nI 5))) (!decide (rn = 30))) → ∀ ls : Array Slot, lv_has ls 5 [(0, .ref (ar 0)), (1, .int x1), (2, .int x2), (3, .int x3), (4, .int (ob_bi b4))] → W p l e (headSpec wsX5_write ({ frames := 2, cells := 0, slots := 0, locals := 42 } : Room)).room s m ([.ref (ar 0), .int x1, .int x2, .int x3, .int (ob_bi b4)] : List Value).toArray below meth c s.heap [] 0 0 (MQ below (va_Qi (fun (r : Int32) (_ : Unit) => r = if (ob_wi x1 (nI 0) (nI 4) && (ob_wi x2 (nI 0) (nI 10000) && ob_wi x3 (nI 0) (nI 5))) && !decide (rn = 30) then nI rn else nI 0) (fun (_ : Unit) (t9 : State) => va_P D vwCl (ob_wR t ar Bd Tr (if (ob_wi x1 (nI 0) (nI 4) && (ob_wi x2 (nI 0) (nI 10000) && ob_wi x3 (nI 0) (nI 5))) && !decide (rn = 30) then rn + 1 else rn) (if (ob_wi x1 (nI 0) (nI 4) && (ob_wi x2 (nI 0) (nI 10000) && ob_wi x3 (nI 0) (nI 5))) && !decide (rn = 30) then upd rcl rn x1 else rcl) (if (ob_wi x1 (nI 0) (nI 4) && (ob_wi x2 (nI 0) (nI 10000) && ob_wi x3 (nI 0) (nI 5))) && !decide (rn = 30) then upd rrd rn x2 else rrd) (if (ob_wi x1 (nI 0) (nI 4) && (ob_wi x2 (nI 0) (nI 10000) && ob_wi x3 (nI 0) (nI 5))) && !decide (rn = 30) then upd rsv rn x3 else rsv) (if (ob_wi x1 (nI 0) (nI 4) && (ob_wi x2 (nI 0) (nI 10000) && ob_wi x3 (nI 0) (nI 5))) && !decide (rn = 30) then upd rpb rn (ob_bi b4) else rpb) wf wa ro ah ct rmn rms rmf rmt rmp rcn sd V (nI (ob_z2 (ob_wi x1 (nI 0) (nI 4) && (ob_wi x2 (nI 0) (nI 10000) && ob_wi x3 (nI 0) (nI 5))) (!decide (rn = 30))))) t9.heap) (va_A (ob_wR t ar Bd Tr rn rcl rrd rsv rpb wf wa ro ah ct rmn rms rmf rmt rmp rcn sd V th) sz)) ([.ref (ar 0), .int x1, .int x2, .int x3, .int (ob_bi b4)] : List Value).toArray s 0 0 (va_A (ob_wR t ar Bd Tr rn rcl rrd rsv rpb wf wa ro ah ct rmn rms rmf rmt rmp rcn sd V th) sz)) (F0 m 40 ls [.int (nI z), .ref (ar 0)]) := by
    intro z hz ls hl
    subst hz
    have hFc := va_free (wc := ob_wR t ar Bd Tr rn rcl rrd rsv rpb wf wa ro ah ct rmn rms rmf rmt rmp rcn sd V th) hD hS hA [0, 1, 2, 3, 4, 5, 6, 7, 8, 9, 10, 11, 12, 13, 14, 15, 16, 17] rfl
    refine va_calli (va_runV (As := [.int (nI (ob_z2 (ob_wi x1 (nI 0) (nI 4) && (ob_wi x2 (nI 0) (nI 10000) && ob_wi x3 (nI 0) (nI 5))) (!decide (rn = 30))))]) (rest := []) ⟨hx, hb, hml, hown, hts⟩ (c_X5_goes l D t s.heap.size ar Bd Tr rn rcl rrd rsv rpb wf wa ro ah ct rmn rms rmf rmt rmp rcn sd V th (nI (ob_z2 (ob_wi x1 (nI 0) (nI 4) && (ob_wi x2 (nI 0) (nI 10000) && ob_wi x3 (nI 0) (nI 5))) (!decide (rn = 30))))) (cwV 1 hts gX5_write_X5_goes rfl rfl rfl (by decide +kernel) ⟨Nat.le_of_ble_eq_true rfl, Nat.le_of_ble_eq_true rfl⟩) (ob_pmV (ci := 5) (q0 := 0) hP hD hk rfl rfl) rfl rfl hl.1 rfl (lv_room (Nat.le_of_ble_eq_true rfl)) dX5_write_40 ⟨Nat.le_of_ble_eq_true rfl, Nat.le_of_ble_eq_true rfl⟩) hS (fun q _ h => hFc q h) hFc (fun r9 u9 t9 H1 locs ht hvm hw9 hB hz1 hk1 hS => ?_)
    rw [ht] at hB
    have hP := ob_jn (ws' := ob_wR t ar Bd Tr rn rcl rrd rsv rpb wf wa ro ah ct rmn rms rmf rmt rmp rcn sd V (nI (ob_z2 (ob_wi x1 (nI 0) (nI 4) && (ob_wi x2 (nI 0) (nI 10000) && ob_wi x3 (nI 0) (nI 5))) (!decide (rn = 30))))) hP hD [some 0, some 1, some 2, some 3, some 4, some 5, some 6, some 7, some 8, some 9, some 10, some 11, some 12, some 13, some 14, some 15, some 16, some 17] [0, 1, 2, 3, 4, 5, 6, 7, 8, 9, 10, 11, 12, 13, 14, 15, 16, 17] rfl rfl hk1 hB rfl
    have hD : va_D (va_A (ob_wR t ar Bd Tr rn rcl rrd rsv rpb wf wa ro ah ct rmn rms rmf rmt rmp rcn sd V th) sz) (ob_wR t ar Bd Tr rn rcl rrd rsv rpb wf wa ro ah ct rmn rms rmf rmt rmp rcn sd V (nI (ob_z2 (ob_wi x1 (nI 0) (nI 4) && (ob_wi x2 (nI 0) (nI 10000) && ob_wi x3 (nI 0) (nI 5))) (!decide (rn = 30))))) := ob_dR hD
    generalize H1 = H at hP hS ⊢
    subst hw9
    rw [show ob_bi (decide ((nI (ob_z2 (ob_wi x1 (nI 0) (nI 4) && (ob_wi x2 (nI 0) (nI 10000) && ob_wi x3 (nI 0) (nI 5))) (!decide (rn = 30)))) = 0)) = ob_bi ((ob_wi x1 (nI 0) (nI 4) && (ob_wi x2 (nI 0) (nI 10000) && ob_wi x3 (nI 0) (nI 5))) && !decide (rn = 30)) from ob_dz2 _ _]
    refine ob_if_ne (tgt := 48) hx hb dX5_write_43 (by decide) (fun c43 => ?_) (fun c43 => ?_)
    · have h30 : ¬ rn = 30 := by simpa using (ob_and2 c43).2
      refine lv_aload_n hx hb dX5_write_48 rfl (lv_at hl 0 rfl) ?_
      refine va_get (ci := 5) (C := RX5) (T := TX5) (N := 21) hx hb hts (fun w h => List.mem_cons_of_mem _ (List.mem_append_right _ (h))) hown hK hP 0 rfl rfl 3 (by decide) (hts (Cond.fieldLink RX5 16 "OutageBookModel" "clocks" "[I") (List.mem_of_getElem? (i := 2) rfl)) (fun _ h9 => h9) rfl dX5_write_49 ?_
      refine lv_aload_n hx hb dX5_write_52 rfl (lv_at hl 0 rfl) ?_
      refine va_get (ci := 5) (C := RX5) (T := TX5) (N := 21) hx hb hts (fun w h => List.mem_cons_of_mem _ (List.mem_append_right _ (h))) hown hK hP 0 rfl rfl 2 (by decide) (hts (Cond.fieldLink RX5 89 "OutageBookModel" "lines" "I") (List.mem_of_getElem? (i := 1) rfl)) (fun _ h9 => h9) rfl dX5_write_53 ?_
      refine lv_iload_n hx hb dX5_write_56 rfl (lv_at hl 1 rfl) ?_
      refine ob_iast hx hb hK hP hD hS 3 0 rfl rfl (by omega) (by decide) dX5_write_57 (fun H locs hP hD hS => ?_)
      have hP : va_P D vwCl (ob_wR t ar Bd Tr rn (upd rcl rn x1) rrd rsv rpb wf wa ro ah ct rmn rms rmf rmt rmp rcn sd V (nI (ob_z2 (ob_wi x1 (nI 0) (nI 4) && (ob_wi x2 (nI 0) (nI 10000) && ob_wi x3 (nI 0) (nI 5))) (!decide (rn = 30))))) H := hP
      have hD : va_D (va_A (ob_wR t ar Bd Tr rn rcl rrd rsv rpb wf wa ro ah ct rmn rms rmf rmt rmp rcn sd V th) sz) (ob_wR t ar Bd Tr rn (upd rcl rn x1) rrd rsv rpb wf wa ro ah ct rmn rms rmf rmt rmp rcn sd V (nI (ob_z2 (ob_wi x1 (nI 0) (nI 4) && (ob_wi x2 (nI 0) (nI 10000) && ob_wi x3 (nI 0) (nI 5))) (!decide (rn = 30))))) := hD
      refine lv_aload_n hx hb dX5_write_58 rfl (lv_at hl 0 rfl) ?_
      refine va_get (ci := 5) (C := RX5) (T := TX5) (N := 21) hx hb hts (fun w h => List.mem_cons_of_mem _ (List.mem_append_right _ (h))) hown hK hP 0 rfl rfl 4 (by decide) (hts (Cond.fieldLink RX5 19 "OutageBookModel" "readings" "[I") (List.mem_of_getElem? (i := 3) rfl)) (fun _ h9 => h9) rfl dX5_write_59 ?_
      refine lv_aload_n hx hb dX5_write_62 rfl (lv_at hl 0 rfl) ?_
      refine va_get (ci := 5) (C := RX5) (T := TX5) (N := 21) hx hb hts (fun w h => List.mem_cons_of_mem _ (List.mem_append_right _ (h))) hown hK hP 0 rfl rfl 2 (by decide) (hts (Cond.fieldLink RX5 89 "OutageBookModel" "lines" "I") (List.mem_of_getElem? (i := 1) rfl)) (fun _ h9 => h9) rfl dX5_write_63 ?_
      refine lv_iload_n hx hb dX5_write_66 rfl (lv_at hl 2 rfl) ?_
      refine ob_iast hx hb hK hP hD hS 4 0 rfl rfl (by omega) (by decide) dX5_write_67 (fun H locs hP hD hS => ?_)
      have hP : va_P D vwCl (ob_wR t ar Bd Tr rn (upd rcl rn x1) (upd rrd rn x2) rsv rpb wf wa ro ah ct rmn rms rmf rmt rmp rcn sd V (nI (ob_z2 (ob_wi x1 (nI 0) (nI 4) && (ob_wi x2 (nI 0) (nI 10000) && ob_wi x3 (nI 0) (nI 5))) (!decide (rn = 30))))) H := hP
      have hD : va_D (va_A (ob_wR t ar Bd Tr rn rcl rrd rsv rpb wf wa ro ah ct rmn rms rmf rmt rmp rcn sd V th) sz) (ob_wR t ar Bd Tr rn (upd rcl rn x1) (upd rrd rn x2) rsv rpb wf wa ro ah ct rmn rms rmf rmt rmp rcn sd V (nI (ob_z2 (ob_wi x1 (nI 0) (nI 4) && (ob_wi x2 (nI 0) (nI 10000) && ob_wi x3 (nI 0) (nI 5))) (!decide (rn = 30))))) := hD
      refine lv_aload_n hx hb dX5_write_68 rfl (lv_at hl 0 rfl) ?_
      refine va_get (ci := 5) (C := RX5) (T := TX5) (N := 21) hx hb hts (fun w h => List.mem_cons_of_mem _ (List.mem_append_right _ (h))) hown hK hP 0 rfl rfl 5 (by decide) (hts (Cond.fieldLink RX5 22 "OutageBookModel" "services" "[I") (List.mem_of_getElem? (i := 4) rfl)) (fun _ h9 => h9) rfl dX5_write_69 ?_
      refine lv_aload_n hx hb dX5_write_72 rfl (lv_at hl 0 rfl) ?_
      refine va_get (ci := 5) (C := RX5) (T := TX5) (N := 21) hx hb hts (fun w h => List.mem_cons_of_mem _ (List.mem_append_right _ (h))) hown hK hP 0 rfl rfl 2 (by decide) (hts (Cond.fieldLink RX5 89 "OutageBookModel" "lines" "I") (List.mem_of_getElem? (i := 1) rfl)) (fun _ h9 => h9) rfl dX5_write_73 ?_
      refine lv_iload_n hx hb dX5_write_76 rfl (lv_at hl 3 rfl) ?_
      refine ob_iast hx hb hK hP hD hS 5 0 rfl rfl (by omega) (by decide) dX5_write_77 (fun H locs hP hD hS => ?_)
      have hP : va_P D vwCl (ob_wR t ar Bd Tr rn (upd rcl rn x1) (upd rrd rn x2) (upd rsv rn x3) rpb wf wa ro ah ct rmn rms rmf rmt rmp rcn sd V (nI (ob_z2 (ob_wi x1 (nI 0) (nI 4) && (ob_wi x2 (nI 0) (nI 10000) && ob_wi x3 (nI 0) (nI 5))) (!decide (rn = 30))))) H := hP
      have hD : va_D (va_A (ob_wR t ar Bd Tr rn rcl rrd rsv rpb wf wa ro ah ct rmn rms rmf rmt rmp rcn sd V th) sz) (ob_wR t ar Bd Tr rn (upd rcl rn x1) (upd rrd rn x2) (upd rsv rn x3) rpb wf wa ro ah ct rmn rms rmf rmt rmp rcn sd V (nI (ob_z2 (ob_wi x1 (nI 0) (nI 4) && (ob_wi x2 (nI 0) (nI 10000) && ob_wi x3 (nI 0) (nI 5))) (!decide (rn = 30))))) := hD
      refine lv_aload_n hx hb dX5_write_78 rfl (lv_at hl 0 rfl) ?_
      refine va_get (ci := 5) (C := RX5) (T := TX5) (N := 21) hx hb hts (fun w h => List.mem_cons_of_mem _ (List.mem_append_right _ (h))) hown hK hP 0 rfl rfl 6 (by decide) (hts (Cond.fieldLink RX5 25 "OutageBookModel" "isPublic" "[Z") (List.mem_of_getElem? (i := 5) rfl)) (fun _ h9 => h9) rfl dX5_write_79 ?_
      refine lv_aload_n hx hb dX5_write_82 rfl (lv_at hl 0 rfl) ?_
      refine va_get (ci := 5) (C := RX5) (T := TX5) (N := 21) hx hb hts (fun w h => List.mem_cons_of_mem _ (List.mem_append_right _ (h))) hown hK hP 0 rfl rfl 2 (by decide) (hts (Cond.fieldLink RX5 89 "OutageBookModel" "lines" "I") (List.mem_of_getElem? (i := 1) rfl)) (fun _ h9 => h9) rfl dX5_write_83 ?_
      refine lv_iload hx hb dX5_write_86 (lv_at hl 4 rfl) ?_
      refine ob_zast hx hb hK hP hD hS 6 2 rfl rfl (by omega) (by decide) dX5_write_88 (fun H locs hP hD hS => ?_)
      have hP : va_P D vwCl (ob_wR t ar Bd Tr rn (upd rcl rn x1) (upd rrd rn x2) (upd rsv rn x3) (upd rpb rn (ob_bi b4)) wf wa ro ah ct rmn rms rmf rmt rmp rcn sd V (nI (ob_z2 (ob_wi x1 (nI 0) (nI 4) && (ob_wi x2 (nI 0) (nI 10000) && ob_wi x3 (nI 0) (nI 5))) (!decide (rn = 30))))) H := hP
      have hD : va_D (va_A (ob_wR t ar Bd Tr rn rcl rrd rsv rpb wf wa ro ah ct rmn rms rmf rmt rmp rcn sd V th) sz) (ob_wR t ar Bd Tr rn (upd rcl rn x1) (upd rrd rn x2) (upd rsv rn x3) (upd rpb rn (ob_bi b4)) wf wa ro ah ct rmn rms rmf rmt rmp rcn sd V (nI (ob_z2 (ob_wi x1 (nI 0) (nI 4) && (ob_wi x2 (nI 0) (nI 10000) && ob_wi x3 (nI 0) (nI 5))) (!decide (rn = 30))))) := hD
      refine lv_aload_n hx hb dX5_write_89 rfl (lv_at hl 0 rfl) ?_
      refine lv_dup hx hb dX5_write_90 rfl ?_
      refine va_get (ci := 5) (C := RX5) (T := TX5) (N := 21) hx hb hts (fun w h => List.mem_cons_of_mem _ (List.mem_append_right _ (h))) hown hK hP 0 rfl rfl 2 (by decide) (hts (Cond.fieldLink RX5 89 "OutageBookModel" "lines" "I") (List.mem_of_getElem? (i := 1) rfl)) (fun _ h9 => h9) rfl dX5_write_91 ?_
      refine lv_iconst (v := nI 1) hx hb dX5_write_94 (by decide) ?_
      refine lv_iadd hx hb dX5_write_95 ?_
      rw [show (nI rn) + (nI 1) = nI (rn + 1) from nI_1 rn]
      refine va_put (ci := 5) (v := .int (nI (rn + 1))) (ty := .int) (C := RX5) (T := TX5) (N := 21) hx hb hts (fun w h => List.mem_cons_of_mem _ (List.mem_append_right _ (h))) tyX5 tyX5_ok nmX5 hown hK hP hD hS 0 rfl rfl 2 (by decide) (hts (Cond.fieldLink RX5 89 "OutageBookModel" "lines" "I") (List.mem_of_getElem? (i := 1) rfl)) (fun _ h9 => h9) rfl (by decide +kernel) rfl rfl (Nat.le_of_ble_eq_true rfl) dX5_write_96 (fun H locs hP hD hS => ?_)
      have hP : va_P D vwCl (ob_wR t ar Bd Tr (rn + 1) (upd rcl rn x1) (upd rrd rn x2) (upd rsv rn x3) (upd rpb rn (ob_bi b4)) wf wa ro ah ct rmn rms rmf rmt rmp rcn sd V (nI (ob_z2 (ob_wi x1 (nI 0) (nI 4) && (ob_wi x2 (nI 0) (nI 10000) && ob_wi x3 (nI 0) (nI 5))) (!decide (rn = 30))))) H := hP
      have hD : va_D (va_A (ob_wR t ar Bd Tr rn rcl rrd rsv rpb wf wa ro ah ct rmn rms rmf rmt rmp rcn sd V th) sz) (ob_wR t ar Bd Tr (rn + 1) (upd rcl rn x1) (upd rrd rn x2) (upd rsv rn x3) (upd rpb rn (ob_bi b4)) wf wa ro ah ct rmn rms rmf rmt rmp rcn sd V (nI (ob_z2 (ob_wi x1 (nI 0) (nI 4) && (ob_wi x2 (nI 0) (nI 10000) && ob_wi x3 (nI 0) (nI 5))) (!decide (rn = 30))))) := hD
      refine lv_aload_n hx hb dX5_write_99 rfl (lv_at hl 0 rfl) ?_
      refine va_get (ci := 5) (C := RX5) (T := TX5) (N := 21) hx hb hts (fun w h => List.mem_cons_of_mem _ (List.mem_append_right _ (h))) hown hK hP 0 rfl rfl 2 (by decide) (hts (Cond.fieldLink RX5 89 "OutageBookModel" "lines" "I") (List.mem_of_getElem? (i := 1) rfl)) (fun _ h9 => h9) rfl dX5_write_100 ?_
      refine lv_iconst (v := nI 1) hx hb dX5_write_103 (by decide) ?_
      refine lv_isub hx hb dX5_write_104 ?_
      rw [show (nI (rn + 1)) - (nI 1) = nI rn from nI_pred rn]
      exact W.iret (v := nI rn) hx hb hr (fun t9 ht hW => ⟨⟨nI rn, (), rfl, (by rw [c43]; rfl), ob_th ht (by rw [c43]; exact hP)⟩, hS.F ht⟩) hS.2.2 dX5_write_105
    · refine lv_iconst (v := nI 0) hx hb dX5_write_46 (by decide) ?_
      exact W.iret (v := nI 0) hx hb hr (fun t9 ht hW => ⟨⟨nI 0, (), rfl, (by rw [c43]; rfl), ob_th ht (by rw [c43]; exact hP)⟩, hS.F ht⟩) hS.2.2 dX5_write_47
  refine lv_iload_n hx hb dX5_write_1 rfl (lv_at hl 1 rfl) ?_
  refine vp_callSi (va_Run.run (va_runS (As := [.int x1]) (rest := [.ref (ar 0)]) ⟨hx, hb, hml, hown, hts⟩ (c_X5_isClock l D t x1) (va_cwS 1 hts gX5_write_X5_isClock rfl rfl rfl (by decide +kernel) ⟨Nat.le_of_ble_eq_true rfl, Nat.le_of_ble_eq_true rfl⟩) (ob_preS (hP.sub [] rfl) hk) rfl rfl hl.1 rfl (lv_room (Nat.le_of_ble_eq_true rfl)) dX5_write_2 ⟨Nat.le_of_ble_eq_true rfl, Nat.le_of_ble_eq_true rfl⟩)) (fun r9 hr9 => ?_)
  subst hr9
  refine ob_if_eq (tgt := 22) hx hb dX5_write_5 (by decide) (fun c5 => ?_) (fun c5 => ?_)
  · refine lv_iconst (v := nI 1) hx hb dX5_write_22 (by decide) ?_
    refine lv_goto (tgt := 40) hx hb dX5_write_23 (by decide) ?_
    exact k40 1 (by first | (rw [c5]; rfl; done) | (rw [c5, c12]; rfl; done) | (rw [c5, c12, c19]; rfl; done) | (rw [c5, c12, c19, decide_eq_false c32]; rfl; done) | (rw [c5, c12, c19, decide_eq_true c32]; rfl; done)) _ (lv_sub hl [0, 1, 2, 3, 4] rfl)
  · refine lv_iload_n hx hb dX5_write_8 rfl (lv_at hl 2 rfl) ?_
    refine vp_callSi (va_Run.run (va_runS (As := [.int x2]) (rest := [.ref (ar 0)]) ⟨hx, hb, hml, hown, hts⟩ (c_X5_isTime l D t x2) (va_cwS 1 hts gX5_write_X5_isTime rfl rfl rfl (by decide +kernel) ⟨Nat.le_of_ble_eq_true rfl, Nat.le_of_ble_eq_true rfl⟩) (ob_preS (hP.sub [] rfl) hk) rfl rfl hl.1 rfl (lv_room (Nat.le_of_ble_eq_true rfl)) dX5_write_9 ⟨Nat.le_of_ble_eq_true rfl, Nat.le_of_ble_eq_true rfl⟩)) (fun r9 hr9 => ?_)
    subst hr9
    refine ob_if_eq (tgt := 22) hx hb dX5_write_12 (by decide) (fun c12 => ?_) (fun c12 => ?_)
    · refine lv_iconst (v := nI 1) hx hb dX5_write_22 (by decide) ?_
      refine lv_goto (tgt := 40) hx hb dX5_write_23 (by decide) ?_
      exact k40 1 (by first | (rw [c5]; rfl; done) | (rw [c5, c12]; rfl; done) | (rw [c5, c12, c19]; rfl; done) | (rw [c5, c12, c19, decide_eq_false c32]; rfl; done) | (rw [c5, c12, c19, decide_eq_true c32]; rfl; done)) _ (lv_sub hl [0, 1, 2, 3, 4] rfl)
    · refine lv_iload_n hx hb dX5_write_15 rfl (lv_at hl 3 rfl) ?_
      refine vp_callSi (va_Run.run (va_runS (As := [.int x3]) (rest := [.ref (ar 0)]) ⟨hx, hb, hml, hown, hts⟩ (c_X5_isService l D t x3) (va_cwS 1 hts gX5_write_X5_isService rfl rfl rfl (by decide +kernel) ⟨Nat.le_of_ble_eq_true rfl, Nat.le_of_ble_eq_true rfl⟩) (ob_preS (hP.sub [] rfl) hk) rfl rfl hl.1 rfl (lv_room (Nat.le_of_ble_eq_true rfl)) dX5_write_16 ⟨Nat.le_of_ble_eq_true rfl, Nat.le_of_ble_eq_true rfl⟩)) (fun r9 hr9 => ?_)
      subst hr9
      refine ob_if_ne (tgt := 26) hx hb dX5_write_19 (by decide) (fun c19 => ?_) (fun c19 => ?_)
      · refine lv_aload_n hx hb dX5_write_26 rfl (lv_at hl 0 rfl) ?_
        refine va_get (ci := 5) (C := RX5) (T := TX5) (N := 21) hx hb hts (fun w h => List.mem_cons_of_mem _ (List.mem_append_right _ (h))) hown hK hP 0 rfl rfl 2 (by decide) (hts (Cond.fieldLink RX5 89 "OutageBookModel" "lines" "I") (List.mem_of_getElem? (i := 1) rfl)) (fun _ h9 => h9) rfl dX5_write_27 ?_
        refine lv_bipush (v := nI 30) hx hb dX5_write_30 (by decide) ?_
        refine ob_icmp_ne (tgt := 39) hx hb (by omega) (by omega) dX5_write_32 (by decide) (fun c32 => ?_) (fun c32 => ?_)
        · refine lv_iconst (v := nI 0) hx hb dX5_write_39 (by decide) ?_
          exact k40 0 (by first | (rw [c5]; rfl; done) | (rw [c5, c12]; rfl; done) | (rw [c5, c12, c19]; rfl; done) | (rw [c5, c12, c19, decide_eq_false c32]; rfl; done) | (rw [c5, c12, c19, decide_eq_true c32]; rfl; done)) _ (lv_sub hl [0, 1, 2, 3, 4] rfl)
        · refine lv_iconst (v := nI 2) hx hb dX5_write_35 (by decide) ?_
          refine lv_goto (tgt := 40) hx hb dX5_write_36 (by decide) ?_
          exact k40 2 (by first | (rw [c5]; rfl; done) | (rw [c5, c12]; rfl; done) | (rw [c5, c12, c19]; rfl; done) | (rw [c5, c12, c19, decide_eq_false c32]; rfl; done) | (rw [c5, c12, c19, decide_eq_true c32]; rfl; done)) _ (lv_sub hl [0, 1, 2, 3, 4] rfl)
      · refine lv_iconst (v := nI 1) hx hb dX5_write_22 (by decide) ?_
        refine lv_goto (tgt := 40) hx hb dX5_write_23 (by decide) ?_
        exact k40 1 (by first | (rw [c5]; rfl; done) | (rw [c5, c12]; rfl; done) | (rw [c5, c12, c19]; rfl; done) | (rw [c5, c12, c19, decide_eq_false c32]; rfl; done) | (rw [c5, c12, c19, decide_eq_true c32]; rfl; done)) _ (lv_sub hl [0, 1, 2, 3, 4] rfl)

set_option maxRecDepth 100000 in
set_option maxHeartbeats 4000000 in
theorem c_X5_lines (l : Launch) (D : va_G) (t : Nat → ClassId) (sz : Nat) (ar : Nat → Nat) (Bd Tr : Nat → Int32) (rn : Nat) (rcl rrd rsv rpb wf wa ro ah : Nat → Int32) (ct : Nat → Int64) (rmn : Nat) (rms rmf rmt rmp : Nat → Int32) (rcn : Nat) (sd V : Nat → Int32) (th : Int32) : Met l yX5_lines wsX5_lines ({ frames := 0, cells := 0, slots := 0, locals := 0 } : Room) (ob_Pm D t (ob_wR t ar Bd Tr rn rcl rrd rsv rpb wf wa ro ah ct rmn rms rmf rmt rmp rcn sd V th) sz [.ref (ar 0)]) (va_Qi (fun (r : Int32) (_ : Unit) => r = nI rn) (fun (_ : Unit) (t9 : State) => va_P D vwCl (ob_wR t ar Bd Tr rn rcl rrd rsv rpb wf wa ro ah ct rmn rms rmf rmt rmp rcn sd V (nI 0)) t9.heap) (va_A (ob_wR t ar Bd Tr rn rcl rrd rsv rpb wf wa ro ah ct rmn rms rmf rmt rmp rcn sd V th) sz)) 0 0 (va_A (ob_wR t ar Bd Tr rn rcl rrd rsv rpb wf wa ro ah ct rmn rms rmf rmt rmp rcn sd V th) sz) := by
  refine Met.ofW (cc := cX5_lines) (maxL := 1) (ret := (some .int)) (by decide) rfl ?_
  intro p e s m args below meth c s₁ B hml hv
  obtain ⟨rfl, hsz, hP, hk, hD0⟩ := hv
  have hx := B.exec
  have hb := B.bytes
  have hr := B.returns
  have hts := atoms_spec (ws := wsX5_lines) B.pre
  have hown : s.vm.findClass RX5 = some m.cls := findClass_of_methodNamed B.named
  have hlocks := B.notSynchronized
  have hK := hk.1
  have hD : va_D (va_A (ob_wR t ar Bd Tr rn rcl rrd rsv rpb wf wa ro ah ct rmn rms rmf rmt rmp rcn sd V th) sz) (ob_wR t ar Bd Tr rn rcl rrd rsv rpb wf wa ro ah ct rmn rms rmf rmt rmp rcn sd V th) := hD0.self (sz := sz)
  have hA : ∀ q : Nat, s.heap.size ≤ q → (va_A (ob_wR t ar Bd Tr rn rcl rrd rsv rpb wf wa ro ah ct rmn rms rmf rmt rmp rcn sd V th) sz) q := fun q h => Or.inr (hsz ▸ h)
  have hS : va_S (va_A (ob_wR t ar Bd Tr rn rcl rrd rsv rpb wf wa ro ah ct rmn rms rmf rmt rmp rcn sd V th) sz) s.heap s.heap [] := va_S.rf
  have hl := lv_entry [.ref (ar 0)] (n := 1) (Nat.le_of_ble_eq_true rfl)
  rw [lg_entry_eq]
  generalize (lg_sl [.ref (ar 0)] ++ List.replicate (1 - (lg_sl [.ref (ar 0)]).length) Slot.unset).toArray = ls at hl ⊢
  have hl : lv_has ls 1 [(0, .ref (ar 0))] := hl
  have hP : va_P D vwCl (ob_wR t ar Bd Tr rn rcl rrd rsv rpb wf wa ro ah ct rmn rms rmf rmt rmp rcn sd V th) s.heap := hP
  refine lv_aload_n hx hb dX5_lines_0 rfl (lv_at hl 0 rfl) ?_
  refine lv_iconst (v := nI 0) hx hb dX5_lines_1 (by decide) ?_
  refine va_put (ci := 5) (v := .int (nI 0)) (ty := .int) (C := RX5) (T := TX5) (N := 21) hx hb hts (fun w h => List.mem_cons_of_mem _ (List.mem_append_right _ (h))) tyX5 tyX5_ok nmX5 hown hK hP hD hS 0 rfl rfl 20 (by decide) (hts (Cond.fieldLink RX5 64 "OutageBookModel" "thrown" "I") (List.mem_of_getElem? (i := 1) rfl)) (fun _ h9 => h9) rfl (by decide +kernel) rfl rfl (Nat.le_of_ble_eq_true rfl) dX5_lines_2 (fun H locs hP hD hS => ?_)
  have hP : va_P D vwCl (ob_wR t ar Bd Tr rn rcl rrd rsv rpb wf wa ro ah ct rmn rms rmf rmt rmp rcn sd V (nI 0)) H := hP
  have hD : va_D (va_A (ob_wR t ar Bd Tr rn rcl rrd rsv rpb wf wa ro ah ct rmn rms rmf rmt rmp rcn sd V th) sz) (ob_wR t ar Bd Tr rn rcl rrd rsv rpb wf wa ro ah ct rmn rms rmf rmt rmp rcn sd V (nI 0)) := hD
  refine lv_aload_n hx hb dX5_lines_5 rfl (lv_at hl 0 rfl) ?_
  refine va_get (ci := 5) (C := RX5) (T := TX5) (N := 21) hx hb hts (fun w h => List.mem_cons_of_mem _ (List.mem_append_right _ (h))) hown hK hP 0 rfl rfl 2 (by decide) (hts (Cond.fieldLink RX5 89 "OutageBookModel" "lines" "I") (List.mem_of_getElem? (i := 2) rfl)) (fun _ h9 => h9) rfl dX5_lines_6 ?_
  exact W.iret (v := nI rn) hx hb hr (fun t9 ht hW => ⟨⟨nI rn, (), rfl, rfl, ob_th ht hP⟩, hS.F ht⟩) hS.2.2 dX5_lines_9

set_option maxRecDepth 100000 in
set_option maxHeartbeats 4000000 in
theorem c_X5_mustComeBefore (l : Launch) (D : va_G) (t : Nat → ClassId) (sz : Nat) (ar : Nat → Nat) (Bd Tr : Nat → Int32) (rn : Nat) (rcl rrd rsv rpb wf wa ro ah : Nat → Int32) (ct : Nat → Int64) (rmn : Nat) (rms rmf rmt rmp : Nat → Int32) (rcn : Nat) (sd V : Nat → Int32) (th : Int32) (kc : Nat → Nat) (x1 x2 : Int32) (hrn : rn ≤ 30) (hkc : ∀ k, rcl k = nI (kc k) ∧ kc k ≤ 4) : Met l yX5_mustComeBefore wsX5_mustComeBefore ({ frames := 2, cells := 0, slots := 0, locals := 43 } : Room) (ob_Pm D t (ob_wR t ar Bd Tr rn rcl rrd rsv rpb wf wa ro ah ct rmn rms rmf rmt rmp rcn sd V th) sz [.ref (ar 0), .int x1, .int x2]) (va_Qi (fun (r : Int32) (_ : Unit) => r = ob_bi ((ob_hd rn x1 && ob_hd rn x2) && ob_sb Bd kc rrd x1.toNatClampNeg x2.toNatClampNeg)) (fun (_ : Unit) (t9 : State) => va_P D vwCl (ob_wR t ar Bd Tr rn rcl rrd rsv rpb wf wa ro ah ct rmn rms rmf rmt rmp rcn sd V (nI (ob_z1 (ob_hd rn x1 && ob_hd rn x2)))) t9.heap) (va_A (ob_wR t ar Bd Tr rn rcl rrd rsv rpb wf wa ro ah ct rmn rms rmf rmt rmp rcn sd V th) sz)) 0 0 (va_A (ob_wR t ar Bd Tr rn rcl rrd rsv rpb wf wa ro ah ct rmn rms rmf rmt rmp rcn sd V th) sz) := by
  refine Met.ofW (cc := cX5_mustComeBefore) (maxL := 3) (ret := (some .boolean)) (by decide) rfl ?_
  intro p e s m args below meth c s₁ B hml hv
  obtain ⟨rfl, hsz, hP, hk, hD0⟩ := hv
  have hx := B.exec
  have hb := B.bytes
  have hr := B.returns
  have hts := atoms_spec (ws := wsX5_mustComeBefore) B.pre
  have hown : s.vm.findClass RX5 = some m.cls := findClass_of_methodNamed B.named
  have hlocks := B.notSynchronized
  have hK := hk.1
  have hD : va_D (va_A (ob_wR t ar Bd Tr rn rcl rrd rsv rpb wf wa ro ah ct rmn rms rmf rmt rmp rcn sd V th) sz) (ob_wR t ar Bd Tr rn rcl rrd rsv rpb wf wa ro ah ct rmn rms rmf rmt rmp rcn sd V th) := hD0.self (sz := sz)
  have hA : ∀ q : Nat, s.heap.size ≤ q → (va_A (ob_wR t ar Bd Tr rn rcl rrd rsv rpb wf wa ro ah ct rmn rms rmf rmt rmp rcn sd V th) sz) q := fun q h => Or.inr (hsz ▸ h)
  have hS : va_S (va_A (ob_wR t ar Bd Tr rn rcl rrd rsv rpb wf wa ro ah ct rmn rms rmf rmt rmp rcn sd V th) sz) s.heap s.heap [] := va_S.rf
  have hl := lv_entry [.ref (ar 0), .int x1, .int x2] (n := 3) (Nat.le_of_ble_eq_true rfl)
  rw [lg_entry_eq]
  generalize (lg_sl [.ref (ar 0), .int x1, .int x2] ++ List.replicate (3 - (lg_sl [.ref (ar 0), .int x1, .int x2]).length) Slot.unset).toArray = ls at hl ⊢
  have hl : lv_has ls 3 [(0, .ref (ar 0)), (1, .int x1), (2, .int x2)] := hl
  have hP : va_P D vwCl (ob_wR t ar Bd Tr rn rcl rrd rsv rpb wf wa ro ah ct rmn rms rmf rmt rmp rcn sd V th) s.heap := hP
  refine lv_aload_n hx hb dX5_mustComeBefore_0 rfl (lv_at hl 0 rfl) ?_
  refine lv_aload_n hx hb dX5_mustComeBefore_1 rfl (lv_at hl 0 rfl) ?_
  have k22 : ∀ (z : Nat), (z = ob_z1 (ob_hd rn x1 && ob_hd rn x2)) → ∀ ls : Array Slot, lv_has ls 3 [(0, .ref (ar 0)), (1, .int x1), (2, .int x2)] → W p l e (headSpec wsX5_mustComeBefore ({ frames := 2, cells := 0, slots := 0, locals := 43 } : Room)).room s m ([.ref (ar 0), .int x1, .int x2] : List Value).toArray below meth c s.heap [] 0 0 (MQ below (va_Qi (fun (r : Int32) (_ : Unit) => r = ob_bi ((ob_hd rn x1 && ob_hd rn x2) && ob_sb Bd kc rrd x1.toNatClampNeg x2.toNatClampNeg)) (fun (_ : Unit) (t9 : State) => va_P D vwCl (ob_wR t ar Bd Tr rn rcl rrd rsv rpb wf wa ro ah ct rmn rms rmf rmt rmp rcn sd V (nI (ob_z1 (ob_hd rn x1 && ob_hd rn x2)))) t9.heap) (va_A (ob_wR t ar Bd Tr rn rcl rrd rsv rpb wf wa ro ah ct rmn rms rmf rmt rmp rcn sd V th) sz)) ([.ref (ar 0), .int x1, .int x2] : List Value).toArray s 0 0 (va_A (ob_wR t ar Bd Tr rn rcl rrd rsv rpb wf wa ro ah ct rmn rms rmf rmt rmp rcn sd V th) sz)) (F0 m 22 ls [.int (nI z), .ref (ar 0)]) := by
    intro z hz ls hl
    subst hz
    have hFc := va_free (wc := ob_wR t ar Bd Tr rn rcl rrd rsv rpb wf wa ro ah ct rmn rms rmf rmt rmp rcn sd V th) hD hS hA [0, 1, 2, 3, 4, 5, 6, 7, 8, 9, 10, 11, 12, 13, 14, 15, 16, 17] rfl
    refine va_calli (va_runV (As := [.int (nI (ob_z1 (ob_hd rn x1 && ob_hd rn x2)))]) (rest := []) ⟨hx, hb, hml, hown, hts⟩ (c_X5_goes l D t s.heap.size ar Bd Tr rn rcl rrd rsv rpb wf wa ro ah ct rmn rms rmf rmt rmp rcn sd V th (nI (ob_z1 (ob_hd rn x1 && ob_hd rn x2)))) (cwV 1 hts gX5_mustComeBefore_X5_goes rfl rfl rfl (by decide +kernel) ⟨Nat.le_of_ble_eq_true rfl, Nat.le_of_ble_eq_true rfl⟩) (ob_pmV (ci := 5) (q0 := 0) hP hD hk rfl rfl) rfl rfl hl.1 rfl (lv_room (Nat.le_of_ble_eq_true rfl)) dX5_mustComeBefore_22 ⟨Nat.le_of_ble_eq_true rfl, Nat.le_of_ble_eq_true rfl⟩) hS (fun q _ h => hFc q h) hFc (fun r9 u9 t9 H1 locs ht hvm hw9 hB hz1 hk1 hS => ?_)
    rw [ht] at hB
    have hP := ob_jn (ws' := ob_wR t ar Bd Tr rn rcl rrd rsv rpb wf wa ro ah ct rmn rms rmf rmt rmp rcn sd V (nI (ob_z1 (ob_hd rn x1 && ob_hd rn x2)))) hP hD [some 0, some 1, some 2, some 3, some 4, some 5, some 6, some 7, some 8, some 9, some 10, some 11, some 12, some 13, some 14, some 15, some 16, some 17] [0, 1, 2, 3, 4, 5, 6, 7, 8, 9, 10, 11, 12, 13, 14, 15, 16, 17] rfl rfl hk1 hB rfl
    have hD : va_D (va_A (ob_wR t ar Bd Tr rn rcl rrd rsv rpb wf wa ro ah ct rmn rms rmf rmt rmp rcn sd V th) sz) (ob_wR t ar Bd Tr rn rcl rrd rsv rpb wf wa ro ah ct rmn rms rmf rmt rmp rcn sd V (nI (ob_z1 (ob_hd rn x1 && ob_hd rn x2)))) := ob_dR hD
    generalize H1 = H at hP hS ⊢
    subst hw9
    rw [show ob_bi (decide ((nI (ob_z1 (ob_hd rn x1 && ob_hd rn x2))) = 0)) = ob_bi (ob_hd rn x1 && ob_hd rn x2) from ob_dz1 _]
    refine ob_if_eq (tgt := 41) hx hb dX5_mustComeBefore_25 (by decide) (fun c25 => ?_) (fun c25 => ?_)
    · refine lv_iconst (v := nI 0) hx hb dX5_mustComeBefore_41 (by decide) ?_
      exact W.zret (v := nI 0) hx hb hr rfl (fun t9 ht hW => ⟨⟨nI 0, (), rfl, (by first | (rw [c25]; rfl) | (rw [c25, ob_cl (show j1 ≤ 1073741824 by omega), ob_cl (show j2 ≤ 1073741824 by omega), c34]; rfl)), ob_th ht hP⟩, hS.F ht⟩) hS.2.2 dX5_mustComeBefore_42
    · obtain ⟨h1, h2⟩ := ob_and2 c25
      obtain ⟨j1, hj1, rfl⟩ := ob_hd_t h1
      obtain ⟨j2, hj2, rfl⟩ := ob_hd_t h2
      refine lv_aload_n hx hb dX5_mustComeBefore_28 rfl (lv_at hl 0 rfl) ?_
      refine lv_iload_n hx hb dX5_mustComeBefore_29 rfl (lv_at hl 1 rfl) ?_
      refine lv_iload_n hx hb dX5_mustComeBefore_30 rfl (lv_at hl 2 rfl) ?_
      refine vp_callSi (va_Run.run (va_runV (As := [.int (nI j1), .int (nI j2)]) (rest := []) ⟨hx, hb, hml, hown, hts⟩ (c_X5_isBefore l D t ar Bd Tr rn rcl rrd rsv rpb wf wa ro ah ct rmn rms rmf rmt rmp rcn sd V (nI (ob_z1 (ob_hd rn (nI j1) && ob_hd rn (nI j2)))) kc j1 j2 (by first | assumption | omega) (by first | assumption | omega) (by first | assumption | omega)) (cwV 2 hts gX5_mustComeBefore_X5_isBefore rfl rfl rfl (by decide +kernel) ⟨Nat.le_of_ble_eq_true rfl, Nat.le_of_ble_eq_true rfl⟩) (ob_preV (ci := 5) (q0 := 0) hP hk rfl rfl) rfl rfl hl.1 rfl (lv_room (Nat.le_of_ble_eq_true rfl)) dX5_mustComeBefore_31 ⟨Nat.le_of_ble_eq_true rfl, Nat.le_of_ble_eq_true rfl⟩)) (fun r9 hr9 => ?_)
      subst hr9
      refine ob_if_eq (tgt := 41) hx hb dX5_mustComeBefore_34 (by decide) (fun c34 => ?_) (fun c34 => ?_)
      · refine lv_iconst (v := nI 0) hx hb dX5_mustComeBefore_41 (by decide) ?_
        exact W.zret (v := nI 0) hx hb hr rfl (fun t9 ht hW => ⟨⟨nI 0, (), rfl, (by first | (rw [c25]; rfl) | (rw [c25, ob_cl (show j1 ≤ 1073741824 by omega), ob_cl (show j2 ≤ 1073741824 by omega), c34]; rfl)), ob_th ht hP⟩, hS.F ht⟩) hS.2.2 dX5_mustComeBefore_42
      · refine lv_iconst (v := nI 1) hx hb dX5_mustComeBefore_37 (by decide) ?_
        refine lv_goto (tgt := 42) hx hb dX5_mustComeBefore_38 (by decide) ?_
        exact W.zret (v := nI 1) hx hb hr rfl (fun t9 ht hW => ⟨⟨nI 1, (), rfl, (by first | (rw [c25]; rfl) | (rw [c25, ob_cl (show j1 ≤ 1073741824 by omega), ob_cl (show j2 ≤ 1073741824 by omega), c34]; rfl)), ob_th ht hP⟩, hS.F ht⟩) hS.2.2 dX5_mustComeBefore_42
  refine lv_iload_n hx hb dX5_mustComeBefore_2 rfl (lv_at hl 1 rfl) ?_
  refine vp_callSi (va_Run.run (va_runV (As := [.int x1]) (rest := [.ref (ar 0)]) ⟨hx, hb, hml, hown, hts⟩ (c_X5_isLine l D t ar Bd Tr rn rcl rrd rsv rpb wf wa ro ah ct rmn rms rmf rmt rmp rcn sd V th x1 (by first | assumption | omega)) (cwV 1 hts gX5_mustComeBefore_X5_isLine rfl rfl rfl (by decide +kernel) ⟨Nat.le_of_ble_eq_true rfl, Nat.le_of_ble_eq_true rfl⟩) (ob_preV (ci := 5) (q0 := 0) hP hk rfl rfl) rfl rfl hl.1 rfl (lv_room (Nat.le_of_ble_eq_true rfl)) dX5_mustComeBefore_3 ⟨Nat.le_of_ble_eq_true rfl, Nat.le_of_ble_eq_true rfl⟩)) (fun r9 hr9 => ?_)
  subst hr9
  refine ob_if_eq (tgt := 21) hx hb dX5_mustComeBefore_6 (by decide) (fun c6 => ?_) (fun c6 => ?_)
  · refine lv_iconst (v := nI 1) hx hb dX5_mustComeBefore_21 (by decide) ?_
    exact k22 1 (by first | (rw [c6]; rfl; done) | (rw [c6, c14]; rfl; done)) _ (lv_sub hl [0, 1, 2] rfl)
  · refine lv_aload_n hx hb dX5_mustComeBefore_9 rfl (lv_at hl 0 rfl) ?_
    refine lv_iload_n hx hb dX5_mustComeBefore_10 rfl (lv_at hl 2 rfl) ?_
    refine vp_callSi (va_Run.run (va_runV (As := [.int x2]) (rest := [.ref (ar 0)]) ⟨hx, hb, hml, hown, hts⟩ (c_X5_isLine l D t ar Bd Tr rn rcl rrd rsv rpb wf wa ro ah ct rmn rms rmf rmt rmp rcn sd V th x2 (by first | assumption | omega)) (cwV 1 hts gX5_mustComeBefore_X5_isLine rfl rfl rfl (by decide +kernel) ⟨Nat.le_of_ble_eq_true rfl, Nat.le_of_ble_eq_true rfl⟩) (ob_preV (ci := 5) (q0 := 0) hP hk rfl rfl) rfl rfl hl.1 rfl (lv_room (Nat.le_of_ble_eq_true rfl)) dX5_mustComeBefore_11 ⟨Nat.le_of_ble_eq_true rfl, Nat.le_of_ble_eq_true rfl⟩)) (fun r9 hr9 => ?_)
    subst hr9
    refine ob_if_eq (tgt := 21) hx hb dX5_mustComeBefore_14 (by decide) (fun c14 => ?_) (fun c14 => ?_)
    · refine lv_iconst (v := nI 1) hx hb dX5_mustComeBefore_21 (by decide) ?_
      exact k22 1 (by first | (rw [c6]; rfl; done) | (rw [c6, c14]; rfl; done)) _ (lv_sub hl [0, 1, 2] rfl)
    · refine lv_iconst (v := nI 0) hx hb dX5_mustComeBefore_17 (by decide) ?_
      refine lv_goto (tgt := 22) hx hb dX5_mustComeBefore_18 (by decide) ?_
      exact k22 0 (by first | (rw [c6]; rfl; done) | (rw [c6, c14]; rfl; done)) _ (lv_sub hl [0, 1, 2] rfl)

set_option maxRecDepth 100000 in
set_option maxHeartbeats 4000000 in
theorem c_X5_laysOrder (l : Launch) (D : va_G) (t : Nat → ClassId) (sz : Nat) (ar : Nat → Nat) (Bd Tr : Nat → Int32) (rn : Nat) (rcl rrd rsv rpb wf wa ro ah : Nat → Int32) (ct : Nat → Int64) (rmn : Nat) (rms rmf rmt rmp : Nat → Int32) (rcn : Nat) (sd V : Nat → Int32) (th : Int32) (kc : Nat → Nat) (hrn : rn ≤ 30) (hkc : ∀ k, rcl k = nI (kc k) ∧ kc k ≤ 4) : Met l yX5_laysOrder wsX5_laysOrder ({ frames := 1, cells := 0, slots := 0, locals := 23 } : Room) (ob_Pm D t (ob_wR t ar Bd Tr rn rcl rrd rsv rpb wf wa ro ah ct rmn rms rmf rmt rmp rcn sd V th) sz [.ref (ar 0)]) (va_Qv (fun _ : Unit => True) (fun (_ : Unit) (t9 : State) => va_P D vwCl (ob_wR t ar Bd Tr rn rcl rrd rsv rpb wf wa (ob_ro2 Bd kc rrd rn ro rn) ah ct rmn rms rmf rmt rmp rcn sd V th) t9.heap) (va_A (ob_wR t ar Bd Tr rn rcl rrd rsv rpb wf wa ro ah ct rmn rms rmf rmt rmp rcn sd V th) sz)) 0 0 (va_A (ob_wR t ar Bd Tr rn rcl rrd rsv rpb wf wa ro ah ct rmn rms rmf rmt rmp rcn sd V th) sz) := by
  refine Met.ofW (cc := cX5_laysOrder) (maxL := 7) (ret := none) (by decide) rfl ?_
  intro p e s m args below meth c s₁ B hml hv
  obtain ⟨rfl, hsz, hP, hk, hD0⟩ := hv
  have hx := B.exec
  have hb := B.bytes
  have hr := B.returns
  have hts := atoms_spec (ws := wsX5_laysOrder) B.pre
  have hown : s.vm.findClass RX5 = some m.cls := findClass_of_methodNamed B.named
  have hlocks := B.notSynchronized
  have hK := hk.1
  have hD : va_D (va_A (ob_wR t ar Bd Tr rn rcl rrd rsv rpb wf wa ro ah ct rmn rms rmf rmt rmp rcn sd V th) sz) (ob_wR t ar Bd Tr rn rcl rrd rsv rpb wf wa ro ah ct rmn rms rmf rmt rmp rcn sd V th) := hD0.self (sz := sz)
  have hA : ∀ q : Nat, s.heap.size ≤ q → (va_A (ob_wR t ar Bd Tr rn rcl rrd rsv rpb wf wa ro ah ct rmn rms rmf rmt rmp rcn sd V th) sz) q := fun q h => Or.inr (hsz ▸ h)
  have hS : va_S (va_A (ob_wR t ar Bd Tr rn rcl rrd rsv rpb wf wa ro ah ct rmn rms rmf rmt rmp rcn sd V th) sz) s.heap s.heap [] := va_S.rf
  have hl := lv_entry [.ref (ar 0)] (n := 7) (Nat.le_of_ble_eq_true rfl)
  rw [lg_entry_eq]
  generalize (lg_sl [.ref (ar 0)] ++ List.replicate (7 - (lg_sl [.ref (ar 0)]).length) Slot.unset).toArray = ls at hl ⊢
  have hl : lv_has ls 7 [(0, .ref (ar 0))] := hl
  have hP : va_P D vwCl (ob_wR t ar Bd Tr rn rcl rrd rsv rpb wf wa ro ah ct rmn rms rmf rmt rmp rcn sd V th) s.heap := hP
  refine lv_iconst (v := nI 0) hx hb dX5_laysOrder_0 (by decide) ?_
  refine lv_istore_n (lv' := [(1, .int (nI 0)), (0, .ref (ar 0))]) hx hb dX5_laysOrder_1 rfl hl (by decide) rfl (fun ls hl => ?_)
  refine lv_iconst (v := nI 0) hx hb dX5_laysOrder_2 (by decide) ?_
  refine lv_istore_n (lv' := [(2, .int (nI 0)), (1, .int (nI 0)), (0, .ref (ar 0))]) hx hb dX5_laysOrder_3 rfl hl (by decide) rfl (fun ls hl => ?_)
  have k4 : ∀ fu : Nat, ∀ (k : Nat) (w : Int32), rn - k < fu → (k ≤ rn) → (w = ob_tn Bd kc rrd rn k) → ∀ (H : Heap) (locs : List Loc), va_P D vwCl (ob_wR t ar Bd Tr rn rcl rrd rsv rpb wf wa (ob_ro2 Bd kc rrd rn ro k) ah ct rmn rms rmf rmt rmp rcn sd V th) H → va_D (va_A (ob_wR t ar Bd Tr rn rcl rrd rsv rpb wf wa ro ah ct rmn rms rmf rmt rmp rcn sd V th) sz) (ob_wR t ar Bd Tr rn rcl rrd rsv rpb wf wa (ob_ro2 Bd kc rrd rn ro k) ah ct rmn rms rmf rmt rmp rcn sd V th) → va_S (va_A (ob_wR t ar Bd Tr rn rcl rrd rsv rpb wf wa ro ah ct rmn rms rmf rmt rmp rcn sd V th) sz) s.heap H locs → ∀ ls : Array Slot, lv_has ls 7 [(0, .ref (ar 0)), (1, .int w), (2, .int (nI k))] → W p l e (headSpec wsX5_laysOrder ({ frames := 1, cells := 0, slots := 0, locals := 23 } : Room)).room s m ([.ref (ar 0)] : List Value).toArray below meth c H locs 0 0 (MQ below (va_Qv (fun _ : Unit => True) (fun (_ : Unit) (t9 : State) => va_P D vwCl (ob_wR t ar Bd Tr rn rcl rrd rsv rpb wf wa (ob_ro2 Bd kc rrd rn ro rn) ah ct rmn rms rmf rmt rmp rcn sd V th) t9.heap) (va_A (ob_wR t ar Bd Tr rn rcl rrd rsv rpb wf wa ro ah ct rmn rms rmf rmt rmp rcn sd V th) sz)) ([.ref (ar 0)] : List Value).toArray s 0 0 (va_A (ob_wR t ar Bd Tr rn rcl rrd rsv rpb wf wa ro ah ct rmn rms rmf rmt rmp rcn sd V th) sz)) (F0 m 4 ls []) := by
    intro fu
    induction fu with
    | zero => intro k w hfu; exact absurd hfu (Nat.not_lt_zero _)
    | succ fu ih =>
      intro k w hfu hq hw H locs hP hD hS ls hl
      have ih4 := ih
      refine lv_iload_n hx hb dX5_laysOrder_4 rfl (lv_at hl 2 rfl) ?_
      refine lv_aload_n hx hb dX5_laysOrder_5 rfl (lv_at hl 0 rfl) ?_
      refine va_get (ci := 5) (C := RX5) (T := TX5) (N := 21) hx hb hts (fun w h => List.mem_cons_of_mem _ (List.mem_append_right _ (h))) hown hK hP 0 rfl rfl 2 (by decide) (hts (Cond.fieldLink RX5 89 "OutageBookModel" "lines" "I") (List.mem_of_getElem? (i := 1) rfl)) (fun _ h9 => h9) rfl dX5_laysOrder_6 ?_
      refine ob_icmp_ge (tgt := 131) hx hb (by omega) (by omega) dX5_laysOrder_9 (by decide) (fun c9 => ?_) (fun c9 => ?_)
      · obtain rfl : rn = k := by omega
        exact W.vret hx hb hr (fun t9 ht hW => ⟨⟨(), rfl, trivial, ob_th ht hP⟩, hS.F ht⟩) hS.2.2 dX5_laysOrder_131
      · refine lv_iconst (v := (-1)) hx hb dX5_laysOrder_12 (by decide) ?_
        refine lv_istore_n (lv' := [(3, .int (-1)), (0, .ref (ar 0)), (1, .int w), (2, .int (nI k))]) hx hb dX5_laysOrder_13 rfl hl (by decide) rfl (fun ls hl => ?_)
        refine lv_aload_n hx hb dX5_laysOrder_14 rfl (lv_at hl 1 rfl) ?_
        refine va_get (ci := 5) (C := RX5) (T := TX5) (N := 21) hx hb hts (fun w h => List.mem_cons_of_mem _ (List.mem_append_right _ (h))) hown hK hP 0 rfl rfl 2 (by decide) (hts (Cond.fieldLink RX5 89 "OutageBookModel" "lines" "I") (List.mem_of_getElem? (i := 1) rfl)) (fun _ h9 => h9) rfl dX5_laysOrder_15 ?_
        refine lv_iconst (v := nI 1) hx hb dX5_laysOrder_18 (by decide) ?_
        refine lv_isub hx hb dX5_laysOrder_19 ?_
        rw [show (nI rn) - (nI 1) = ob_dn rn from rfl]
        refine lv_istore (lv' := [(4, .int (ob_dn rn)), (3, .int (-1)), (0, .ref (ar 0)), (1, .int w), (2, .int (nI k))]) hx hb dX5_laysOrder_20 hl (by decide) rfl (fun ls hl => ?_)
        have k22 : ∀ fu : Nat, ∀ (m9 : Nat) (v : Int32), m9 < fu → (m9 ≤ rn) → (ob_fr (fun i => ob_il Bd kc rrd w i rn) rn m9 v) → ∀ ls : Array Slot, lv_has ls 7 [(0, .ref (ar 0)), (1, .int w), (2, .int (nI k)), (3, .int v), (4, .int (ob_dn m9))] → W p l e (headSpec wsX5_laysOrder ({ frames := 1, cells := 0, slots := 0, locals := 23 } : Room)).room s m ([.ref (ar 0)] : List Value).toArray below meth c H locs 0 0 (MQ below (va_Qv (fun _ : Unit => True) (fun (_ : Unit) (t9 : State) => va_P D vwCl (ob_wR t ar Bd Tr rn rcl rrd rsv rpb wf wa (ob_ro2 Bd kc rrd rn ro rn) ah ct rmn rms rmf rmt rmp rcn sd V th) t9.heap) (va_A (ob_wR t ar Bd Tr rn rcl rrd rsv rpb wf wa ro ah ct rmn rms rmf rmt rmp rcn sd V th) sz)) ([.ref (ar 0)] : List Value).toArray s 0 0 (va_A (ob_wR t ar Bd Tr rn rcl rrd rsv rpb wf wa ro ah ct rmn rms rmf rmt rmp rcn sd V th) sz)) (F0 m 22 ls []) := by
          intro fu
          induction fu with
          | zero => intro m9 v hfu; exact absurd hfu (Nat.not_lt_zero _)
          | succ fu ih =>
            intro m9 v hfu hm hv ls hl
            have ih22 := ih
            refine lv_iload hx hb dX5_laysOrder_22 (lv_at hl 4 rfl) ?_
            refine lv_if_lt (tgt := 112) hx hb dX5_laysOrder_24 (by decide) (fun c24 => ?_) (fun c24 => ?_)
            · obtain rfl : 0 = m9 := (ob_dn_0 c24 (by omega)).symm
              have hv := ob_fr_0 hv
              refine lv_aload_n hx hb dX5_laysOrder_112 rfl (lv_at hl 0 rfl) ?_
              refine va_get (ci := 5) (C := RX5) (T := TX5) (N := 21) hx hb hts (fun w h => List.mem_cons_of_mem _ (List.mem_append_right _ (h))) hown hK hP 0 rfl rfl 9 (by decide) (hts (Cond.fieldLink RX5 35 "OutageBookModel" "order" "[I") (List.mem_of_getElem? (i := 2) rfl)) (fun _ h9 => h9) rfl dX5_laysOrder_113 ?_
              refine lv_iload_n hx hb dX5_laysOrder_116 rfl (lv_at hl 2 rfl) ?_
              refine lv_iload_n hx hb dX5_laysOrder_117 rfl (lv_at hl 3 rfl) ?_
              refine ob_iast hx hb hK hP hD hS 9 0 rfl rfl (by omega) (by decide) dX5_laysOrder_118 (fun H locs hP hD hS => ?_)
              have hP : va_P D vwCl (ob_wR t ar Bd Tr rn rcl rrd rsv rpb wf wa (upd (ob_ro2 Bd kc rrd rn ro k) k v) ah ct rmn rms rmf rmt rmp rcn sd V th) H := hP
              have hD : va_D (va_A (ob_wR t ar Bd Tr rn rcl rrd rsv rpb wf wa ro ah ct rmn rms rmf rmt rmp rcn sd V th) sz) (ob_wR t ar Bd Tr rn rcl rrd rsv rpb wf wa (upd (ob_ro2 Bd kc rrd rn ro k) k v) ah ct rmn rms rmf rmt rmp rcn sd V th) := hD
              refine lv_iload_n hx hb dX5_laysOrder_119 rfl (lv_at hl 1 rfl) ?_
              refine lv_iconst (v := nI 1) hx hb dX5_laysOrder_120 (by decide) ?_
              refine lv_iload_n hx hb dX5_laysOrder_121 rfl (lv_at hl 3 rfl) ?_
              refine lv_ishl hx hb dX5_laysOrder_122 ?_
              rw [show (nI 1) <<< (v &&& 31) = ob_bit v from rfl]
              refine lv_ior hx hb dX5_laysOrder_123 ?_
              refine lv_istore_n (lv' := [(1, .int (w ||| (ob_bit v))), (0, .ref (ar 0)), (2, .int (nI k)), (3, .int v), (4, .int (ob_dn 0))]) hx hb dX5_laysOrder_124 rfl hl (by decide) rfl (fun ls hl => ?_)
              refine ob_inc (k := 2) (lv' := [(2, .int (nI (k + 1))), (1, .int (w ||| (ob_bit v))), (0, .ref (ar 0)), (3, .int v), (4, .int (ob_dn 0))]) hx hb dX5_laysOrder_125 hl rfl (by decide) rfl (fun ls hl => ?_)
              refine lv_goto (tgt := 4) hx hb dX5_laysOrder_128 (by decide) ?_
              exact ih4 (k + 1) (w ||| (ob_bit v)) (by omega) (by omega) (by rw [ob_tn, ← hw, hv]; rfl) _ _ (by rw [← ob_ro2_s, ← hw]; rw [hv] at hP; exact hP) (ob_dR hD) hS _ (lv_sub hl [2, 1, 0] rfl)
            · obtain ⟨m0, rfl⟩ := ob_dn_p c24
              rw [ob_dn_s] at hl
              have k41 : ∀ (b5 : Bool), (b5 = ob_il Bd kc rrd w m0 0) → ∀ ls : Array Slot, lv_has ls 7 [(0, .ref (ar 0)), (1, .int w), (2, .int (nI k)), (3, .int v), (4, .int (nI m0))] → W p l e (headSpec wsX5_laysOrder ({ frames := 1, cells := 0, slots := 0, locals := 23 } : Room)).room s m ([.ref (ar 0)] : List Value).toArray below meth c H locs 0 0 (MQ below (va_Qv (fun _ : Unit => True) (fun (_ : Unit) (t9 : State) => va_P D vwCl (ob_wR t ar Bd Tr rn rcl rrd rsv rpb wf wa (ob_ro2 Bd kc rrd rn ro rn) ah ct rmn rms rmf rmt rmp rcn sd V th) t9.heap) (va_A (ob_wR t ar Bd Tr rn rcl rrd rsv rpb wf wa ro ah ct rmn rms rmf rmt rmp rcn sd V th) sz)) ([.ref (ar 0)] : List Value).toArray s 0 0 (va_A (ob_wR t ar Bd Tr rn rcl rrd rsv rpb wf wa ro ah ct rmn rms rmf rmt rmp rcn sd V th) sz)) (F0 m 41 ls [.int (ob_bi b5)]) := by
                intro b5 h5 ls hl
                refine lv_istore (lv' := [(5, .int (ob_bi b5)), (0, .ref (ar 0)), (1, .int w), (2, .int (nI k)), (3, .int v), (4, .int (nI m0))]) hx hb dX5_laysOrder_41 hl (by decide) rfl (fun ls hl => ?_)
                have k94 : ∀ (b9 : Bool), (b9 = ob_il Bd kc rrd w m0 rn) → ∀ ls : Array Slot, lv_has ls 7 [(0, .ref (ar 0)), (1, .int w), (2, .int (nI k)), (3, .int v), (4, .int (nI m0)), (5, .int (ob_bi b9))] → W p l e (headSpec wsX5_laysOrder ({ frames := 1, cells := 0, slots := 0, locals := 23 } : Room)).room s m ([.ref (ar 0)] : List Value).toArray below meth c H locs 0 0 (MQ below (va_Qv (fun _ : Unit => True) (fun (_ : Unit) (t9 : State) => va_P D vwCl (ob_wR t ar Bd Tr rn rcl rrd rsv rpb wf wa (ob_ro2 Bd kc rrd rn ro rn) ah ct rmn rms rmf rmt rmp rcn sd V th) t9.heap) (va_A (ob_wR t ar Bd Tr rn rcl rrd rsv rpb wf wa ro ah ct rmn rms rmf rmt rmp rcn sd V th) sz)) ([.ref (ar 0)] : List Value).toArray s 0 0 (va_A (ob_wR t ar Bd Tr rn rcl rrd rsv rpb wf wa ro ah ct rmn rms rmf rmt rmp rcn sd V th) sz)) (F0 m 94 ls []) := by
                  intro b9 hb9 ls hl
                  have k105 : ∀ (u : Int32), (u = if b9 then nI m0 else v) → ∀ ls : Array Slot, lv_has ls 7 [(0, .ref (ar 0)), (1, .int w), (2, .int (nI k)), (3, .int v), (4, .int (nI m0))] → W p l e (headSpec wsX5_laysOrder ({ frames := 1, cells := 0, slots := 0, locals := 23 } : Room)).room s m ([.ref (ar 0)] : List Value).toArray below meth c H locs 0 0 (MQ below (va_Qv (fun _ : Unit => True) (fun (_ : Unit) (t9 : State) => va_P D vwCl (ob_wR t ar Bd Tr rn rcl rrd rsv rpb wf wa (ob_ro2 Bd kc rrd rn ro rn) ah ct rmn rms rmf rmt rmp rcn sd V th) t9.heap) (va_A (ob_wR t ar Bd Tr rn rcl rrd rsv rpb wf wa ro ah ct rmn rms rmf rmt rmp rcn sd V th) sz)) ([.ref (ar 0)] : List Value).toArray s 0 0 (va_A (ob_wR t ar Bd Tr rn rcl rrd rsv rpb wf wa ro ah ct rmn rms rmf rmt rmp rcn sd V th) sz)) (F0 m 105 ls [.int u]) := by
                    intro u hu ls hl
                    refine lv_istore_n (lv' := [(3, .int u), (0, .ref (ar 0)), (1, .int w), (2, .int (nI k)), (4, .int (nI m0))]) hx hb dX5_laysOrder_105 rfl hl (by decide) rfl (fun ls hl => ?_)
                    refine lv_iinc (k := 4) (v := ob_dn m0) (lv' := [(4, .int (ob_dn m0)), (3, .int u), (0, .ref (ar 0)), (1, .int w), (2, .int (nI k))]) hx hb dX5_laysOrder_106 hl rfl (ob_dn_d m0) (by decide) rfl (fun ls hl => ?_)
                    refine lv_goto (tgt := 22) hx hb dX5_laysOrder_109 (by decide) ?_
                    exact ih22 m0 u (by omega) (by omega) (by first | exact ob_fr_n _ _ | (rw [hu]; exact ob_fr_s hb9 (by omega) hv)) _ (lv_sub hl [2, 3, 4, 1, 0] rfl)
                  refine lv_iload hx hb dX5_laysOrder_94 (lv_at hl 5 rfl) ?_
                  refine ob_if_eq (tgt := 104) hx hb dX5_laysOrder_96 (by decide) (fun c96 => ?_) (fun c96 => ?_)
                  · refine lv_iload_n hx hb dX5_laysOrder_104 rfl (lv_at hl 3 rfl) ?_
                    exact k105 v (by rw [c96]; rfl) _ (lv_sub hl [0, 1, 2, 3, 4] rfl)
                  · refine lv_iload hx hb dX5_laysOrder_99 (lv_at hl 4 rfl) ?_
                    refine lv_goto (tgt := 105) hx hb dX5_laysOrder_101 (by decide) ?_
                    exact k105 (nI m0) (by rw [c96]; rfl) _ (lv_sub hl [0, 1, 2, 3, 4] rfl)
                refine lv_iconst (v := nI 0) hx hb dX5_laysOrder_43 (by decide) ?_
                refine lv_istore (lv' := [(6, .int (nI 0)), (5, .int (ob_bi b5)), (0, .ref (ar 0)), (1, .int w), (2, .int (nI k)), (3, .int v), (4, .int (nI m0))]) hx hb dX5_laysOrder_44 hl (by decide) rfl (fun ls hl => ?_)
                have k46 : ∀ fu : Nat, ∀ (j : Nat) (b6 : Bool), rn - j < fu → (j ≤ rn) → (b6 = ob_il Bd kc rrd w m0 j) → ∀ ls : Array Slot, lv_has ls 7 [(0, .ref (ar 0)), (1, .int w), (2, .int (nI k)), (3, .int v), (4, .int (nI m0)), (5, .int (ob_bi b6)), (6, .int (nI j))] → W p l e (headSpec wsX5_laysOrder ({ frames := 1, cells := 0, slots := 0, locals := 23 } : Room)).room s m ([.ref (ar 0)] : List Value).toArray below meth c H locs 0 0 (MQ below (va_Qv (fun _ : Unit => True) (fun (_ : Unit) (t9 : State) => va_P D vwCl (ob_wR t ar Bd Tr rn rcl rrd rsv rpb wf wa (ob_ro2 Bd kc rrd rn ro rn) ah ct rmn rms rmf rmt rmp rcn sd V th) t9.heap) (va_A (ob_wR t ar Bd Tr rn rcl rrd rsv rpb wf wa ro ah ct rmn rms rmf rmt rmp rcn sd V th) sz)) ([.ref (ar 0)] : List Value).toArray s 0 0 (va_A (ob_wR t ar Bd Tr rn rcl rrd rsv rpb wf wa ro ah ct rmn rms rmf rmt rmp rcn sd V th) sz)) (F0 m 46 ls []) := by
                  intro fu
                  induction fu with
                  | zero => intro j b6 hfu; exact absurd hfu (Nat.not_lt_zero _)
                  | succ fu ih =>
                    intro j b6 hfu hj hb6 ls hl
                    have ih46 := ih
                    refine lv_iload hx hb dX5_laysOrder_46 (lv_at hl 6 rfl) ?_
                    refine lv_aload_n hx hb dX5_laysOrder_48 rfl (lv_at hl 0 rfl) ?_
                    refine va_get (ci := 5) (C := RX5) (T := TX5) (N := 21) hx hb hts (fun w h => List.mem_cons_of_mem _ (List.mem_append_right _ (h))) hown hK hP 0 rfl rfl 2 (by decide) (hts (Cond.fieldLink RX5 89 "OutageBookModel" "lines" "I") (List.mem_of_getElem? (i := 1) rfl)) (fun _ h9 => h9) rfl dX5_laysOrder_49 ?_
                    refine ob_icmp_ge (tgt := 94) hx hb (by omega) (by omega) dX5_laysOrder_52 (by decide) (fun c52 => ?_) (fun c52 => ?_)
                    · exact k94 b6 (by first | (rw [hb6, show j = rn by omega]; done) | (rw [c57] at hb6; rw [c57]; exact (ob_il_le hb6.symm hj).symm; done)) _ (lv_sub hl [0, 1, 2, 3, 4, 5] rfl)
                    · refine lv_iload hx hb dX5_laysOrder_55 (lv_at hl 5 rfl) ?_
                      refine ob_if_eq (tgt := 94) hx hb dX5_laysOrder_57 (by decide) (fun c57 => ?_) (fun c57 => ?_)
                      · exact k94 b6 (by first | (rw [hb6, show j = rn by omega]; done) | (rw [c57] at hb6; rw [c57]; exact (ob_il_le hb6.symm hj).symm; done)) _ (lv_sub hl [0, 1, 2, 3, 4, 5] rfl)
                      · have k86 : ∀ (b7 : Bool), (b7 = (ob_hb w (nI j) || !ob_sb Bd kc rrd j m0)) → ∀ ls : Array Slot, lv_has ls 7 [(0, .ref (ar 0)), (1, .int w), (2, .int (nI k)), (3, .int v), (4, .int (nI m0)), (6, .int (nI j))] → W p l e (headSpec wsX5_laysOrder ({ frames := 1, cells := 0, slots := 0, locals := 23 } : Room)).room s m ([.ref (ar 0)] : List Value).toArray below meth c H locs 0 0 (MQ below (va_Qv (fun _ : Unit => True) (fun (_ : Unit) (t9 : State) => va_P D vwCl (ob_wR t ar Bd Tr rn rcl rrd rsv rpb wf wa (ob_ro2 Bd kc rrd rn ro rn) ah ct rmn rms rmf rmt rmp rcn sd V th) t9.heap) (va_A (ob_wR t ar Bd Tr rn rcl rrd rsv rpb wf wa ro ah ct rmn rms rmf rmt rmp rcn sd V th) sz)) ([.ref (ar 0)] : List Value).toArray s 0 0 (va_A (ob_wR t ar Bd Tr rn rcl rrd rsv rpb wf wa ro ah ct rmn rms rmf rmt rmp rcn sd V th) sz)) (F0 m 86 ls [.int (ob_bi b7)]) := by
                          intro b7 h7 ls hl
                          refine lv_istore (lv' := [(5, .int (ob_bi b7)), (0, .ref (ar 0)), (1, .int w), (2, .int (nI k)), (3, .int v), (4, .int (nI m0)), (6, .int (nI j))]) hx hb dX5_laysOrder_86 hl (by decide) rfl (fun ls hl => ?_)
                          refine ob_inc (k := 6) (lv' := [(6, .int (nI (j + 1))), (5, .int (ob_bi b7)), (0, .ref (ar 0)), (1, .int w), (2, .int (nI k)), (3, .int v), (4, .int (nI m0))]) hx hb dX5_laysOrder_88 hl rfl (by decide) rfl (fun ls hl => ?_)
                          refine lv_goto (tgt := 46) hx hb dX5_laysOrder_91 (by decide) ?_
                          exact ih46 (j + 1) b7 (by omega) (by omega) (by first | (exact h5; done) | (rw [ob_il, ← hb6, c57]; exact h7; done)) _ (lv_sub hl [2, 3, 4, 5, 6, 1, 0] rfl)
                        refine lv_iload_n hx hb dX5_laysOrder_60 rfl (lv_at hl 1 rfl) ?_
                        refine lv_iload hx hb dX5_laysOrder_61 (lv_at hl 6 rfl) ?_
                        refine lv_ishr hx hb dX5_laysOrder_63 ?_
                        refine lv_iconst (v := nI 1) hx hb dX5_laysOrder_64 (by decide) ?_
                        refine lv_iand hx hb dX5_laysOrder_65 ?_
                        rw [show (w >>> ((nI j) &&& 31)) &&& (nI 1) = ob_bi (ob_hb w (nI j)) from ob_sh1 (by omega)]
                        refine lv_iconst (v := nI 1) hx hb dX5_laysOrder_66 (by decide) ?_
                        refine ob_bcmp_eq (tgt := 81) hx hb dX5_laysOrder_67 (by decide) (fun c67 => ?_) (fun c67 => ?_)
                        · refine lv_iconst (v := nI 1) hx hb dX5_laysOrder_81 (by decide) ?_
                          refine lv_goto (tgt := 86) hx hb dX5_laysOrder_82 (by decide) ?_
                          exact k86 true (by first | (rw [c67]; rfl; done) | (rw [c67, c78]; rfl; done)) _ (lv_sub hl [0, 1, 2, 3, 4, 6] rfl)
                        · refine lv_aload_n hx hb dX5_laysOrder_70 rfl (lv_at hl 0 rfl) ?_
                          refine lv_iload hx hb dX5_laysOrder_71 (lv_at hl 6 rfl) ?_
                          refine lv_iload hx hb dX5_laysOrder_73 (lv_at hl 4 rfl) ?_
                          refine vp_callSi (va_Run.run (va_runV (As := [.int (nI j), .int (nI m0)]) (rest := []) ⟨hx, hb, hml, hown, hts⟩ (c_X5_isBefore l D t ar Bd Tr rn rcl rrd rsv rpb wf wa (ob_ro2 Bd kc rrd rn ro k) ah ct rmn rms rmf rmt rmp rcn sd V th kc j m0 (by first | assumption | omega) (by first | assumption | omega) (by first | assumption | omega)) (cwV 2 hts gX5_laysOrder_X5_isBefore rfl rfl rfl (by decide +kernel) ⟨Nat.le_of_ble_eq_true rfl, Nat.le_of_ble_eq_true rfl⟩) (ob_preV (ci := 5) (q0 := 0) hP hk rfl rfl) rfl rfl hl.1 rfl (lv_room (Nat.le_of_ble_eq_true rfl)) dX5_laysOrder_75 ⟨Nat.le_of_ble_eq_true rfl, Nat.le_of_ble_eq_true rfl⟩)) (fun r9 hr9 => ?_)
                          subst hr9
                          refine ob_if_ne (tgt := 85) hx hb dX5_laysOrder_78 (by decide) (fun c78 => ?_) (fun c78 => ?_)
                          · refine lv_iconst (v := nI 0) hx hb dX5_laysOrder_85 (by decide) ?_
                            exact k86 false (by first | (rw [c67]; rfl; done) | (rw [c67, c78]; rfl; done)) _ (lv_sub hl [0, 1, 2, 3, 4, 6] rfl)
                          · refine lv_iconst (v := nI 1) hx hb dX5_laysOrder_81 (by decide) ?_
                            refine lv_goto (tgt := 86) hx hb dX5_laysOrder_82 (by decide) ?_
                            exact k86 true (by first | (rw [c67]; rfl; done) | (rw [c67, c78]; rfl; done)) _ (lv_sub hl [0, 1, 2, 3, 4, 6] rfl)
                exact k46 _ 0 b5 (Nat.lt_succ_self _) (by omega) (by first | (exact h5; done) | (rw [ob_il, ← hb6, c57]; exact h7; done)) _ (lv_sub hl [2, 3, 4, 5, 6, 1, 0] rfl)
              refine lv_iload_n hx hb dX5_laysOrder_27 rfl (lv_at hl 1 rfl) ?_
              refine lv_iload hx hb dX5_laysOrder_28 (lv_at hl 4 rfl) ?_
              refine lv_ishr hx hb dX5_laysOrder_30 ?_
              refine lv_iconst (v := nI 1) hx hb dX5_laysOrder_31 (by decide) ?_
              refine lv_iand hx hb dX5_laysOrder_32 ?_
              rw [show (w >>> ((nI m0) &&& 31)) &&& (nI 1) = ob_bi (ob_hb w (nI m0)) from ob_sh1 (by omega)]
              refine ob_if_ne (tgt := 40) hx hb dX5_laysOrder_33 (by decide) (fun c33 => ?_) (fun c33 => ?_)
              · refine lv_iconst (v := nI 0) hx hb dX5_laysOrder_40 (by decide) ?_
                exact k41 false (by rw [ob_il, c33]; rfl) _ (lv_sub hl [0, 1, 2, 3, 4] rfl)
              · refine lv_iconst (v := nI 1) hx hb dX5_laysOrder_36 (by decide) ?_
                refine lv_goto (tgt := 41) hx hb dX5_laysOrder_37 (by decide) ?_
                exact k41 true (by rw [ob_il, c33]; rfl) _ (lv_sub hl [0, 1, 2, 3, 4] rfl)
        exact k22 _ rn (-1) (Nat.lt_succ_self _) (by omega) (by first | exact ob_fr_n _ _ | (rw [hu]; exact ob_fr_s hb9 (by omega) hv)) _ (lv_sub hl [2, 3, 4, 1, 0] rfl)
  exact k4 _ 0 (nI 0) (Nat.lt_succ_self _) (by omega) (by first | (rfl; done) | (rw [hw]; rfl; done)) _ _ (by rw [show ob_ro2 Bd kc rrd rn ro 0 = ro from ob_fl_0 _ _]; exact hP) (ob_dR hD) hS _ (lv_sub hl [2, 1, 0] rfl)

set_option maxRecDepth 100000 in
set_option maxHeartbeats 4000000 in
theorem c_X5_lineAt (l : Launch) (D : va_G) (t : Nat → ClassId) (sz : Nat) (ar : Nat → Nat) (Bd Tr : Nat → Int32) (rn : Nat) (rcl rrd rsv rpb wf wa ro ah : Nat → Int32) (ct : Nat → Int64) (rmn : Nat) (rms rmf rmt rmp : Nat → Int32) (rcn : Nat) (sd V : Nat → Int32) (th : Int32) (kc : Nat → Nat) (x : Int32) (hrn : rn ≤ 30) (hkc : ∀ k, rcl k = nI (kc k) ∧ kc k ≤ 4) : Met l yX5_lineAt wsX5_lineAt ({ frames := 2, cells := 0, slots := 0, locals := 49 } : Room) (ob_Pm D t (ob_wR t ar Bd Tr rn rcl rrd rsv rpb wf wa ro ah ct rmn rms rmf rmt rmp rcn sd V th) sz [.ref (ar 0), .int x]) (va_Qi (fun (r : Int32) (_ : Unit) => r = if ob_hd rn x then ob_ro2 Bd kc rrd rn ro rn x.toNatClampNeg else nI 0) (fun (_ : Unit) (t9 : State) => va_P D vwCl (ob_wR t ar Bd Tr rn rcl rrd rsv rpb wf wa (ob_ro2 Bd kc rrd rn ro rn) ah ct rmn rms rmf rmt rmp rcn sd V (nI (ob_z1 (ob_hd rn x)))) t9.heap) (va_A (ob_wR t ar Bd Tr rn rcl rrd rsv rpb wf wa ro ah ct rmn rms rmf rmt rmp rcn sd V th) sz)) 0 0 (va_A (ob_wR t ar Bd Tr rn rcl rrd rsv rpb wf wa ro ah ct rmn rms rmf rmt rmp rcn sd V th) sz) := by
  refine Met.ofW (cc := cX5_lineAt) (maxL := 2) (ret := (some .int)) (by decide) rfl ?_
  intro p e s m args below meth c s₁ B hml hv
  obtain ⟨rfl, hsz, hP, hk, hD0⟩ := hv
  have hx := B.exec
  have hb := B.bytes
  have hr := B.returns
  have hts := atoms_spec (ws := wsX5_lineAt) B.pre
  have hown : s.vm.findClass RX5 = some m.cls := findClass_of_methodNamed B.named
  have hlocks := B.notSynchronized
  have hK := hk.1
  have hD : va_D (va_A (ob_wR t ar Bd Tr rn rcl rrd rsv rpb wf wa ro ah ct rmn rms rmf rmt rmp rcn sd V th) sz) (ob_wR t ar Bd Tr rn rcl rrd rsv rpb wf wa ro ah ct rmn rms rmf rmt rmp rcn sd V th) := hD0.self (sz := sz)
  have hA : ∀ q : Nat, s.heap.size ≤ q → (va_A (ob_wR t ar Bd Tr rn rcl rrd rsv rpb wf wa ro ah ct rmn rms rmf rmt rmp rcn sd V th) sz) q := fun q h => Or.inr (hsz ▸ h)
  have hS : va_S (va_A (ob_wR t ar Bd Tr rn rcl rrd rsv rpb wf wa ro ah ct rmn rms rmf rmt rmp rcn sd V th) sz) s.heap s.heap [] := va_S.rf
  have hl := lv_entry [.ref (ar 0), .int x] (n := 2) (Nat.le_of_ble_eq_true rfl)
  rw [lg_entry_eq]
  generalize (lg_sl [.ref (ar 0), .int x] ++ List.replicate (2 - (lg_sl [.ref (ar 0), .int x]).length) Slot.unset).toArray = ls at hl ⊢
  have hl : lv_has ls 2 [(0, .ref (ar 0)), (1, .int x)] := hl
  have hP : va_P D vwCl (ob_wR t ar Bd Tr rn rcl rrd rsv rpb wf wa ro ah ct rmn rms rmf rmt rmp rcn sd V th) s.heap := hP
  refine lv_aload_n hx hb dX5_lineAt_0 rfl (lv_at hl 0 rfl) ?_
  have hFc := va_free (wc := ob_wR t ar Bd Tr rn rcl rrd rsv rpb wf wa ro ah ct rmn rms rmf rmt rmp rcn sd V th) hD hS hA [0, 1, 2, 3, 4, 5, 6, 7, 8, 9, 10, 11, 12, 13, 14, 15, 16, 17] rfl
  refine va_callv (va_runV (As := []) (rest := []) ⟨hx, hb, hml, hown, hts⟩ (c_X5_laysOrder l D t s.heap.size ar Bd Tr rn rcl rrd rsv rpb wf wa ro ah ct rmn rms rmf rmt rmp rcn sd V th kc (by first | assumption | omega) (by first | assumption | omega)) (cwV 0 hts gX5_lineAt_X5_laysOrder rfl rfl rfl (by decide +kernel) ⟨Nat.le_of_ble_eq_true rfl, Nat.le_of_ble_eq_true rfl⟩) (ob_pmV (ci := 5) (q0 := 0) hP hD hk rfl rfl) rfl rfl hl.1 rfl (lv_room (Nat.le_of_ble_eq_true rfl)) dX5_lineAt_1 ⟨Nat.le_of_ble_eq_true rfl, Nat.le_of_ble_eq_true rfl⟩) hS (fun q _ h => hFc q h) hFc (fun u9 t9 H1 locs ht hvm hw9 hB hz1 hk1 hS => ?_)
  rw [ht] at hB
  have hP := ob_jn (ws' := ob_wR t ar Bd Tr rn rcl rrd rsv rpb wf wa (ob_ro2 Bd kc rrd rn ro rn) ah ct rmn rms rmf rmt rmp rcn sd V th) hP hD [some 0, some 1, some 2, some 3, some 4, some 5, some 6, some 7, some 8, some 9, some 10, some 11, some 12, some 13, some 14, some 15, some 16, some 17] [0, 1, 2, 3, 4, 5, 6, 7, 8, 9, 10, 11, 12, 13, 14, 15, 16, 17] rfl rfl hk1 hB rfl
  have hD : va_D (va_A (ob_wR t ar Bd Tr rn rcl rrd rsv rpb wf wa ro ah ct rmn rms rmf rmt rmp rcn sd V th) sz) (ob_wR t ar Bd Tr rn rcl rrd rsv rpb wf wa (ob_ro2 Bd kc rrd rn ro rn) ah ct rmn rms rmf rmt rmp rcn sd V th) := ob_dR hD
  generalize H1 = H at hP hS ⊢
  refine lv_aload_n hx hb dX5_lineAt_4 rfl (lv_at hl 0 rfl) ?_
  have k24 : ∀ (z : Nat), (z = ob_z1 (ob_hd rn x)) → ∀ ls : Array Slot, lv_has ls 2 [(0, .ref (ar 0)), (1, .int x)] → W p l e (headSpec wsX5_lineAt ({ frames := 2, cells := 0, slots := 0, locals := 49 } : Room)).room s m ([.ref (ar 0), .int x] : List Value).toArray below meth c H locs 0 0 (MQ below (va_Qi (fun (r : Int32) (_ : Unit) => r = if ob_hd rn x then ob_ro2 Bd kc rrd rn ro rn x.toNatClampNeg else nI 0) (fun (_ : Unit) (t9 : State) => va_P D vwCl (ob_wR t ar Bd Tr rn rcl rrd rsv rpb wf wa (ob_ro2 Bd kc rrd rn ro rn) ah ct rmn rms rmf rmt rmp rcn sd V (nI (ob_z1 (ob_hd rn x)))) t9.heap) (va_A (ob_wR t ar Bd Tr rn rcl rrd rsv rpb wf wa ro ah ct rmn rms rmf rmt rmp rcn sd V th) sz)) ([.ref (ar 0), .int x] : List Value).toArray s 0 0 (va_A (ob_wR t ar Bd Tr rn rcl rrd rsv rpb wf wa ro ah ct rmn rms rmf rmt rmp rcn sd V th) sz)) (F0 m 24 ls [.int (nI z), .ref (ar 0)]) := by
    intro z hz ls hl
    subst hz
    have hFc := va_free (wc := ob_wR t ar Bd Tr rn rcl rrd rsv rpb wf wa (ob_ro2 Bd kc rrd rn ro rn) ah ct rmn rms rmf rmt rmp rcn sd V th) hD hS hA [0, 1, 2, 3, 4, 5, 6, 7, 8, 9, 10, 11, 12, 13, 14, 15, 16, 17] rfl
    refine va_calli (va_runV (As := [.int (nI (ob_z1 (ob_hd rn x)))]) (rest := []) ⟨hx, hb, hml, hown, hts⟩ (c_X5_goes l D t H.size ar Bd Tr rn rcl rrd rsv rpb wf wa (ob_ro2 Bd kc rrd rn ro rn) ah ct rmn rms rmf rmt rmp rcn sd V th (nI (ob_z1 (ob_hd rn x)))) (cwV 1 hts gX5_lineAt_X5_goes rfl rfl rfl (by decide +kernel) ⟨Nat.le_of_ble_eq_true rfl, Nat.le_of_ble_eq_true rfl⟩) (ob_pmV (ci := 5) (q0 := 0) hP hD hk rfl rfl) rfl rfl hl.1 rfl (lv_room (Nat.le_of_ble_eq_true rfl)) dX5_lineAt_24 ⟨Nat.le_of_ble_eq_true rfl, Nat.le_of_ble_eq_true rfl⟩) hS (fun q _ h => hFc q h) hFc (fun r9 u9 t9 H1 locs ht hvm hw9 hB hz1 hk1 hS => ?_)
    rw [ht] at hB
    have hP := ob_jn (ws' := ob_wR t ar Bd Tr rn rcl rrd rsv rpb wf wa (ob_ro2 Bd kc rrd rn ro rn) ah ct rmn rms rmf rmt rmp rcn sd V (nI (ob_z1 (ob_hd rn x)))) hP hD [some 0, some 1, some 2, some 3, some 4, some 5, some 6, some 7, some 8, some 9, some 10, some 11, some 12, some 13, some 14, some 15, some 16, some 17] [0, 1, 2, 3, 4, 5, 6, 7, 8, 9, 10, 11, 12, 13, 14, 15, 16, 17] rfl rfl hk1 hB rfl
    have hD : va_D (va_A (ob_wR t ar Bd Tr rn rcl rrd rsv rpb wf wa ro ah ct rmn rms rmf rmt rmp rcn sd V th) sz) (ob_wR t ar Bd Tr rn rcl rrd rsv rpb wf wa (ob_ro2 Bd kc rrd rn ro rn) ah ct rmn rms rmf rmt rmp rcn sd V (nI (ob_z1 (ob_hd rn x)))) := ob_dR hD
    generalize H1 = H at hP hS ⊢
    subst hw9
    rw [show ob_bi (decide ((nI (ob_z1 (ob_hd rn x))) = 0)) = ob_bi (ob_hd rn x) from ob_dz1 _]
    refine ob_if_eq (tgt := 39) hx hb dX5_lineAt_27 (by decide) (fun c27 => ?_) (fun c27 => ?_)
    · refine lv_iconst (v := nI 0) hx hb dX5_lineAt_39 (by decide) ?_
      exact W.iret (v := nI 0) hx hb hr (fun t9 ht hW => ⟨⟨nI 0, (), rfl, (by first | (rw [c27]; rfl) | (rw [c27, ob_cl (show j ≤ 1073741824 by omega)]; rfl)), ob_th ht hP⟩, hS.F ht⟩) hS.2.2 dX5_lineAt_40
    · obtain ⟨j, hj, rfl⟩ := ob_hd_t c27
      refine lv_aload_n hx hb dX5_lineAt_30 rfl (lv_at hl 0 rfl) ?_
      refine va_get (ci := 5) (C := RX5) (T := TX5) (N := 21) hx hb hts (fun w h => List.mem_cons_of_mem _ (List.mem_append_right _ (h))) hown hK hP 0 rfl rfl 9 (by decide) (hts (Cond.fieldLink RX5 35 "OutageBookModel" "order" "[I") (List.mem_of_getElem? (i := 2) rfl)) (fun _ h9 => h9) rfl dX5_lineAt_31 ?_
      refine lv_iload_n hx hb dX5_lineAt_34 rfl (lv_at hl 1 rfl) ?_
      refine ob_iald hx hb hK hP 9 0 rfl rfl (by omega) (by decide) dX5_lineAt_35 ?_
      refine lv_goto (tgt := 40) hx hb dX5_lineAt_36 (by decide) ?_
      exact W.iret (v := (ob_ro2 Bd kc rrd rn ro rn) j) hx hb hr (fun t9 ht hW => ⟨⟨(ob_ro2 Bd kc rrd rn ro rn) j, (), rfl, (by first | (rw [c27]; rfl) | (rw [c27, ob_cl (show j ≤ 1073741824 by omega)]; rfl)), ob_th ht hP⟩, hS.F ht⟩) hS.2.2 dX5_lineAt_40
  refine lv_iload_n hx hb dX5_lineAt_5 rfl (lv_at hl 1 rfl) ?_
  refine lv_iconst (v := nI 0) hx hb dX5_lineAt_6 (by decide) ?_
  refine lv_aload_n hx hb dX5_lineAt_7 rfl (lv_at hl 0 rfl) ?_
  refine va_get (ci := 5) (C := RX5) (T := TX5) (N := 21) hx hb hts (fun w h => List.mem_cons_of_mem _ (List.mem_append_right _ (h))) hown hK hP 0 rfl rfl 2 (by decide) (hts (Cond.fieldLink RX5 89 "OutageBookModel" "lines" "I") (List.mem_of_getElem? (i := 1) rfl)) (fun _ h9 => h9) rfl dX5_lineAt_8 ?_
  refine lv_iconst (v := nI 1) hx hb dX5_lineAt_11 (by decide) ?_
  refine lv_isub hx hb dX5_lineAt_12 ?_
  refine vp_callSi (va_Run.run (va_runS (As := [.int x, .int (nI 0), .int ((nI rn) - (nI 1))]) (rest := [.ref (ar 0)]) ⟨hx, hb, hml, hown, hts⟩ (c_X5_isIn l D t x (nI 0) ((nI rn) - (nI 1))) (va_cwS 3 hts gX5_lineAt_X5_isIn rfl rfl rfl (by decide +kernel) ⟨Nat.le_of_ble_eq_true rfl, Nat.le_of_ble_eq_true rfl⟩) (ob_preS (hP.sub [] rfl) hk) rfl rfl hl.1 rfl (lv_room (Nat.le_of_ble_eq_true rfl)) dX5_lineAt_13 ⟨Nat.le_of_ble_eq_true rfl, Nat.le_of_ble_eq_true rfl⟩)) (fun r9 hr9 => ?_)
  subst hr9
  rw [show ob_bi (ob_wi x (nI 0) ((nI rn) - (nI 1))) = ob_bi (ob_hd rn x) from (by rw [ob_wi_hd])]
  refine ob_if_eq (tgt := 23) hx hb dX5_lineAt_16 (by decide) (fun c16 => ?_) (fun c16 => ?_)
  · refine lv_iconst (v := nI 1) hx hb dX5_lineAt_23 (by decide) ?_
    exact k24 1 (by rw [c16]; rfl) _ (lv_sub hl [0, 1] rfl)
  · refine lv_iconst (v := nI 0) hx hb dX5_lineAt_19 (by decide) ?_
    refine lv_goto (tgt := 24) hx hb dX5_lineAt_20 (by decide) ?_
    exact k24 0 (by rw [c16]; rfl) _ (lv_sub hl [0, 1] rfl)
