/-- one place further in the story -/
theorem ob_sts {p : Nat → Bool} {pm : Nat → Nat} {k w : Nat} {v x : Int32} (hw : w = ob_ct p k) (h : (∃ i, i < k ∧ p i = true ∧ nI (ob_ct p i) = x ∧ v = nI (pm i)) ∨ ((∀ i, i < k → p i = true → ¬ nI (ob_ct p i) = x) ∧ v = -1)) :
    (∃ i, i < k + 1 ∧ p i = true ∧ nI (ob_ct p i) = x ∧ (if p k && decide (nI w = x) then nI (pm k) else v) = nI (pm i)) ∨ ((∀ i, i < k + 1 → p i = true → ¬ nI (ob_ct p i) = x) ∧ (if p k && decide (nI w = x) then nI (pm k) else v) = -1) := by
  cases hc : (p k && decide (nI w = x)) with
  | true =>
    obtain ⟨h1, h2⟩ := ob_and2 hc
    exact Or.inl ⟨k, by omega, h1, by rw [← hw]; exact of_decide_eq_true h2, rfl⟩
  | false =>
    rcases h with ⟨i, h1, h2, h3, rfl⟩ | ⟨h1, rfl⟩
    · exact Or.inl ⟨i, by omega, h2, h3, rfl⟩
    · refine Or.inr ⟨lt_s h1 (fun q e => ?_), rfl⟩
      rw [← hw] at e
      rw [q, decide_eq_true e] at hc
      cases hc
theorem ob_fds {p : Nat → Bool} {pm : Nat → Nat} {n m : Nat} {v : Int32} {b : Bool} (hb : b = p m) (hm : m < n) (h : (∃ k, m + 1 ≤ k ∧ k < n ∧ p k = true ∧ (∀ j, m + 1 ≤ j → j < k → p j = false) ∧ v = nI (pm k)) ∨ ((∀ k, m + 1 ≤ k → k < n → p k = false) ∧ v = -1)) :
    (∃ k, m ≤ k ∧ k < n ∧ p k = true ∧ (∀ j, m ≤ j → j < k → p j = false) ∧ (if b then nI (pm m) else v) = nI (pm k)) ∨ ((∀ k, m ≤ k → k < n → p k = false) ∧ (if b then nI (pm m) else v) = -1) := by
  cases b with
  | true => exact Or.inl ⟨m, Nat.le_refl _, hm, hb.symm, fun j h1 h2 => absurd h2 (by omega), rfl⟩
  | false =>
    rcases h with ⟨i, h1, h2, h3, h4, rfl⟩ | ⟨h1, rfl⟩
    · refine Or.inl ⟨i, by omega, h2, h3, fun j a c => ?_, rfl⟩
      rcases Nat.lt_or_ge m j with q | q
      · exact h4 j q c
      · rw [show j = m by omega]; exact hb.symm
    · refine Or.inr ⟨fun j a c => ?_, rfl⟩
      rcases Nat.lt_or_ge m j with q | q
      · exact h1 j q c
      · rw [show j = m by omega]; exact hb.symm
set_option maxRecDepth 100000 in
set_option maxHeartbeats 4000000 in
theorem c_X5_orders (l : Launch) (D : va_G) (t : Nat → ClassId) (sz : Nat) (ar : Nat → Nat) (Bd Tr : Nat → Int32) (rn : Nat) (rcl rrd rsv rpb wf wa ro ah : Nat → Int32) (ct : Nat → Int64) (rmn : Nat) (rms rmf rmt rmp : Nat → Int32) (rcn : Nat) (sd V : Nat → Int32) (th : Int32) (kc : Nat → Nat) (hrn : rn ≤ 30) (hkc : ∀ k, rcl k = nI (kc k) ∧ kc k ≤ 4) : Met l yX5_orders wsX5_orders ({ frames := 1, cells := 0, slots := 0, locals := 23 } : Room) (ob_Pm D t (ob_wR t ar Bd Tr rn rcl rrd rsv rpb wf wa ro ah ct rmn rms rmf rmt rmp rcn sd V th) sz [.ref (ar 0)]) (va_Ql (fun (r : Int64) (_ : Unit) => r = if decide (rn ≤ 12) then ob_ccO (ob_ah2 Bd kc rrd rn ah rn) rn ct (2 ^ rn) (2 ^ rn - 1) else lN 0) (fun (_ : Unit) (t9 : State) => va_P D vwCl (ob_wR t ar Bd Tr rn rcl rrd rsv rpb wf wa ro (if decide (rn ≤ 12) then ob_ah2 Bd kc rrd rn ah rn else ah) (if decide (rn ≤ 12) then ob_ccO (ob_ah2 Bd kc rrd rn ah rn) rn ct (2 ^ rn) else ct) rmn rms rmf rmt rmp rcn sd V (nI (ob_z1 (decide (rn ≤ 12))))) t9.heap) (va_A (ob_wR t ar Bd Tr rn rcl rrd rsv rpb wf wa ro ah ct rmn rms rmf rmt rmp rcn sd V th) sz)) 0 0 (va_A (ob_wR t ar Bd Tr rn rcl rrd rsv rpb wf wa ro ah ct rmn rms rmf rmt rmp rcn sd V th) sz) := by
  refine Met.ofW (cc := cX5_orders) (maxL := 4) (ret := (some .long)) (by decide) rfl ?_
  intro p e s m args below meth c s₁ B hml hv
  obtain ⟨rfl, hsz, hP, hk, hD0⟩ := hv
  have hx := B.exec
  have hb := B.bytes
  have hr := B.returns
  have hts := atoms_spec (ws := wsX5_orders) B.pre
  have hown : s.vm.findClass RX5 = some m.cls := findClass_of_methodNamed B.named
  have hlocks := B.notSynchronized
  have hK := hk.1
  have hD : va_D (va_A (ob_wR t ar Bd Tr rn rcl rrd rsv rpb wf wa ro ah ct rmn rms rmf rmt rmp rcn sd V th) sz) (ob_wR t ar Bd Tr rn rcl rrd rsv rpb wf wa ro ah ct rmn rms rmf rmt rmp rcn sd V th) := hD0.self (sz := sz)
  have hA : ∀ q : Nat, s.heap.size ≤ q → (va_A (ob_wR t ar Bd Tr rn rcl rrd rsv rpb wf wa ro ah ct rmn rms rmf rmt rmp rcn sd V th) sz) q := fun q h => Or.inr (hsz ▸ h)
  have hS : va_S (va_A (ob_wR t ar Bd Tr rn rcl rrd rsv rpb wf wa ro ah ct rmn rms rmf rmt rmp rcn sd V th) sz) s.heap s.heap [] := va_S.rf
  have hl := lv_entry [.ref (ar 0)] (n := 4) (Nat.le_of_ble_eq_true rfl)
  rw [lg_entry_eq]
  generalize (lg_sl [.ref (ar 0)] ++ List.replicate (4 - (lg_sl [.ref (ar 0)]).length) Slot.unset).toArray = ls at hl ⊢
  have hl : lv_has ls 4 [(0, .ref (ar 0))] := hl
  have hP : va_P D vwCl (ob_wR t ar Bd Tr rn rcl rrd rsv rpb wf wa ro ah ct rmn rms rmf rmt rmp rcn sd V th) s.heap := hP
  refine lv_aload_n hx hb dX5_orders_0 rfl (lv_at hl 0 rfl) ?_
  have k15 : ∀ (z : Nat), (z = ob_z1 (decide (rn ≤ 12))) → ∀ ls : Array Slot, lv_has ls 4 [(0, .ref (ar 0))] → W p l e (headSpec wsX5_orders ({ frames := 1, cells := 0, slots := 0, locals := 23 } : Room)).room s m ([.ref (ar 0)] : List Value).toArray below meth c s.heap [] 0 0 (MQ below (va_Ql (fun (r : Int64) (_ : Unit) => r = if decide (rn ≤ 12) then ob_ccO (ob_ah2 Bd kc rrd rn ah rn) rn ct (2 ^ rn) (2 ^ rn - 1) else lN 0) (fun (_ : Unit) (t9 : State) => va_P D vwCl (ob_wR t ar Bd Tr rn rcl rrd rsv rpb wf wa ro (if decide (rn ≤ 12) then ob_ah2 Bd kc rrd rn ah rn else ah) (if decide (rn ≤ 12) then ob_ccO (ob_ah2 Bd kc rrd rn ah rn) rn ct (2 ^ rn) else ct) rmn rms rmf rmt rmp rcn sd V (nI (ob_z1 (decide (rn ≤ 12))))) t9.heap) (va_A (ob_wR t ar Bd Tr rn rcl rrd rsv rpb wf wa ro ah ct rmn rms rmf rmt rmp rcn sd V th) sz)) ([.ref (ar 0)] : List Value).toArray s 0 0 (va_A (ob_wR t ar Bd Tr rn rcl rrd rsv rpb wf wa ro ah ct rmn rms rmf rmt rmp rcn sd V th) sz)) (F0 m 15 ls [.int (nI z), .ref (ar 0)]) := by
    intro z hz ls hl
    subst hz
    have hFc := va_free (wc := ob_wR t ar Bd Tr rn rcl rrd rsv rpb wf wa ro ah ct rmn rms rmf rmt rmp rcn sd V th) hD hS hA [0, 1, 2, 3, 4, 5, 6, 7, 8, 9, 10, 11, 12, 13, 14, 15, 16, 17] rfl
    refine va_calli (va_runV (As := [.int (nI (ob_z1 (decide (rn ≤ 12))))]) (rest := []) ⟨hx, hb, hml, hown, hts⟩ (c_X5_goes l D t s.heap.size ar Bd Tr rn rcl rrd rsv rpb wf wa ro ah ct rmn rms rmf rmt rmp rcn sd V th (nI (ob_z1 (decide (rn ≤ 12))))) (cwV 1 hts gX5_orders_X5_goes rfl rfl rfl (by decide +kernel) ⟨Nat.le_of_ble_eq_true rfl, Nat.le_of_ble_eq_true rfl⟩) (ob_pmV (ci := 5) (q0 := 0) hP hD hk rfl rfl) rfl rfl hl.1 rfl (lv_room (Nat.le_of_ble_eq_true rfl)) dX5_orders_15 ⟨Nat.le_of_ble_eq_true rfl, Nat.le_of_ble_eq_true rfl⟩) hS (fun q _ h => hFc q h) hFc (fun r9 u9 t9 H1 locs ht hvm hw9 hB hz1 hk1 hS => ?_)
    rw [ht] at hB
    have hP := ob_jn (ws' := ob_wR t ar Bd Tr rn rcl rrd rsv rpb wf wa ro ah ct rmn rms rmf rmt rmp rcn sd V (nI (ob_z1 (decide (rn ≤ 12))))) hP hD [some 0, some 1, some 2, some 3, some 4, some 5, some 6, some 7, some 8, some 9, some 10, some 11, some 12, some 13, some 14, some 15, some 16, some 17] [0, 1, 2, 3, 4, 5, 6, 7, 8, 9, 10, 11, 12, 13, 14, 15, 16, 17] rfl rfl hk1 hB rfl
    have hD : va_D (va_A (ob_wR t ar Bd Tr rn rcl rrd rsv rpb wf wa ro ah ct rmn rms rmf rmt rmp rcn sd V th) sz) (ob_wR t ar Bd Tr rn rcl rrd rsv rpb wf wa ro ah ct rmn rms rmf rmt rmp rcn sd V (nI (ob_z1 (decide (rn ≤ 12))))) := ob_dR hD
    generalize H1 = H at hP hS ⊢
    subst hw9
    rw [show ob_bi (decide ((nI (ob_z1 (decide (rn ≤ 12)))) = 0)) = ob_bi (decide (rn ≤ 12)) from ob_dz1 _]
    refine ob_if_ne (tgt := 23) hx hb dX5_orders_18 (by decide) (fun c18 => ?_) (fun c18 => ?_)
    · have h12 : rn ≤ 12 := of_decide_eq_true c18
      have hp := ob_p12 rn h12
      have hp1 : 1 ≤ 2 ^ rn := Nat.one_le_two_pow
      refine lv_iconst (v := nI 0) hx hb dX5_orders_23 (by decide) ?_
      refine lv_istore_n (lv' := [(1, .int (nI 0)), (0, .ref (ar 0))]) hx hb dX5_orders_24 rfl hl (by decide) rfl (fun ls hl => ?_)
      have k25 : ∀ fu : Nat, ∀ (k : Nat), rn - k < fu → (k ≤ rn) → ∀ (H : Heap) (locs : List Loc), va_P D vwCl (ob_wR t ar Bd Tr rn rcl rrd rsv rpb wf wa ro (ob_ah2 Bd kc rrd rn ah k) ct rmn rms rmf rmt rmp rcn sd V (nI (ob_z1 (decide (rn ≤ 12))))) H → va_D (va_A (ob_wR t ar Bd Tr rn rcl rrd rsv rpb wf wa ro ah ct rmn rms rmf rmt rmp rcn sd V th) sz) (ob_wR t ar Bd Tr rn rcl rrd rsv rpb wf wa ro (ob_ah2 Bd kc rrd rn ah k) ct rmn rms rmf rmt rmp rcn sd V (nI (ob_z1 (decide (rn ≤ 12))))) → va_S (va_A (ob_wR t ar Bd Tr rn rcl rrd rsv rpb wf wa ro ah ct rmn rms rmf rmt rmp rcn sd V th) sz) s.heap H locs → ∀ ls : Array Slot, lv_has ls 4 [(0, .ref (ar 0)), (1, .int (nI k))] → W p l e (headSpec wsX5_orders ({ frames := 1, cells := 0, slots := 0, locals := 23 } : Room)).room s m ([.ref (ar 0)] : List Value).toArray below meth c H locs 0 0 (MQ below (va_Ql (fun (r : Int64) (_ : Unit) => r = if decide (rn ≤ 12) then ob_ccO (ob_ah2 Bd kc rrd rn ah rn) rn ct (2 ^ rn) (2 ^ rn - 1) else lN 0) (fun (_ : Unit) (t9 : State) => va_P D vwCl (ob_wR t ar Bd Tr rn rcl rrd rsv rpb wf wa ro (if decide (rn ≤ 12) then ob_ah2 Bd kc rrd rn ah rn else ah) (if decide (rn ≤ 12) then ob_ccO (ob_ah2 Bd kc rrd rn ah rn) rn ct (2 ^ rn) else ct) rmn rms rmf rmt rmp rcn sd V (nI (ob_z1 (decide (rn ≤ 12))))) t9.heap) (va_A (ob_wR t ar Bd Tr rn rcl rrd rsv rpb wf wa ro ah ct rmn rms rmf rmt rmp rcn sd V th) sz)) ([.ref (ar 0)] : List Value).toArray s 0 0 (va_A (ob_wR t ar Bd Tr rn rcl rrd rsv rpb wf wa ro ah ct rmn rms rmf rmt rmp rcn sd V th) sz)) (F0 m 25 ls []) := by
        intro fu
        induction fu with
        | zero => intro k hfu; exact absurd hfu (Nat.not_lt_zero _)
        | succ fu ih =>
          intro k hfu hq H locs hP hD hS ls hl
          have ih25 := ih
          refine lv_iload_n hx hb dX5_orders_25 rfl (lv_at hl 1 rfl) ?_
          refine lv_aload_n hx hb dX5_orders_26 rfl (lv_at hl 0 rfl) ?_
          refine va_get (ci := 5) (C := RX5) (T := TX5) (N := 21) hx hb hts (fun w h => List.mem_cons_of_mem _ (List.mem_append_right _ (h))) hown hK hP 0 rfl rfl 2 (by decide) (hts (Cond.fieldLink RX5 89 "OutageBookModel" "lines" "I") (List.mem_of_getElem? (i := 1) rfl)) (fun _ h9 => h9) rfl dX5_orders_27 ?_
          refine ob_icmp_ge (tgt := 87) hx hb (by omega) (by omega) dX5_orders_30 (by decide) (fun c30 => ?_) (fun c30 => ?_)
          · obtain rfl : rn = k := by omega
            refine lv_aload_n hx hb dX5_orders_87 rfl (lv_at hl 0 rfl) ?_
            refine va_get (ci := 5) (C := RX5) (T := TX5) (N := 21) hx hb hts (fun w h => List.mem_cons_of_mem _ (List.mem_append_right _ (h))) hown hK hP 0 rfl rfl 11 (by decide) (hts (Cond.fieldLink RX5 41 "OutageBookModel" "counts" "[J") (List.mem_of_getElem? (i := 3) rfl)) (fun _ h9 => h9) rfl dX5_orders_88 ?_
            refine lv_iconst (v := nI 0) hx hb dX5_orders_91 (by decide) ?_
            refine lv_lconst (v := lN 1) hx hb dX5_orders_92 rfl ?_
            refine ob_last hx hb hK hP hD hS 11 1 rfl rfl (by omega) (by decide) dX5_orders_93 (fun H locs hP hD hS => ?_)
            have hP : va_P D vwCl (ob_wR t ar Bd Tr rn rcl rrd rsv rpb wf wa ro (ob_ah2 Bd kc rrd rn ah rn) (vp_updL ct 0 (lN 1)) rmn rms rmf rmt rmp rcn sd V (nI (ob_z1 (decide (rn ≤ 12))))) H := hP
            have hD : va_D (va_A (ob_wR t ar Bd Tr rn rcl rrd rsv rpb wf wa ro ah ct rmn rms rmf rmt rmp rcn sd V th) sz) (ob_wR t ar Bd Tr rn rcl rrd rsv rpb wf wa ro (ob_ah2 Bd kc rrd rn ah rn) (vp_updL ct 0 (lN 1)) rmn rms rmf rmt rmp rcn sd V (nI (ob_z1 (decide (rn ≤ 12))))) := hD
            refine lv_iconst (v := nI 1) hx hb dX5_orders_94 (by decide) ?_
            refine lv_istore_n (lv' := [(1, .int (nI 1)), (0, .ref (ar 0))]) hx hb dX5_orders_95 rfl hl (by decide) rfl (fun ls hl => ?_)
            have k96 : ∀ fu : Nat, ∀ (q : Nat), 2 ^ rn - q < fu → (1 ≤ q) → (q ≤ 2 ^ rn) → ∀ (H : Heap) (locs : List Loc), va_P D vwCl (ob_wR t ar Bd Tr rn rcl rrd rsv rpb wf wa ro (ob_ah2 Bd kc rrd rn ah rn) (ob_ccO (ob_ah2 Bd kc rrd rn ah rn) rn ct q) rmn rms rmf rmt rmp rcn sd V (nI (ob_z1 (decide (rn ≤ 12))))) H → va_D (va_A (ob_wR t ar Bd Tr rn rcl rrd rsv rpb wf wa ro ah ct rmn rms rmf rmt rmp rcn sd V th) sz) (ob_wR t ar Bd Tr rn rcl rrd rsv rpb wf wa ro (ob_ah2 Bd kc rrd rn ah rn) (ob_ccO (ob_ah2 Bd kc rrd rn ah rn) rn ct q) rmn rms rmf rmt rmp rcn sd V (nI (ob_z1 (decide (rn ≤ 12))))) → va_S (va_A (ob_wR t ar Bd Tr rn rcl rrd rsv rpb wf wa ro ah ct rmn rms rmf rmt rmp rcn sd V th) sz) s.heap H locs → ∀ ls : Array Slot, lv_has ls 4 [(0, .ref (ar 0)), (1, .int (nI q))] → W p l e (headSpec wsX5_orders ({ frames := 1, cells := 0, slots := 0, locals := 23 } : Room)).room s m ([.ref (ar 0)] : List Value).toArray below meth c H locs 0 0 (MQ below (va_Ql (fun (r : Int64) (_ : Unit) => r = if decide (rn ≤ 12) then ob_ccO (ob_ah2 Bd kc rrd rn ah rn) rn ct (2 ^ rn) (2 ^ rn - 1) else lN 0) (fun (_ : Unit) (t9 : State) => va_P D vwCl (ob_wR t ar Bd Tr rn rcl rrd rsv rpb wf wa ro (if decide (rn ≤ 12) then ob_ah2 Bd kc rrd rn ah rn else ah) (if decide (rn ≤ 12) then ob_ccO (ob_ah2 Bd kc rrd rn ah rn) rn ct (2 ^ rn) else ct) rmn rms rmf rmt rmp rcn sd V (nI (ob_z1 (decide (rn ≤ 12))))) t9.heap) (va_A (ob_wR t ar Bd Tr rn rcl rrd rsv rpb wf wa ro ah ct rmn rms rmf rmt rmp rcn sd V th) sz)) ([.ref (ar 0)] : List Value).toArray s 0 0 (va_A (ob_wR t ar Bd Tr rn rcl rrd rsv rpb wf wa ro ah ct rmn rms rmf rmt rmp rcn sd V th) sz)) (F0 m 96 ls []) := by
              intro fu
              induction fu with
              | zero => intro q hfu; exact absurd hfu (Nat.not_lt_zero _)
              | succ fu ih =>
                intro q hfu hq1 hq2 H locs hP hD hS ls hl
                have ih96 := ih
                refine lv_iload_n hx hb dX5_orders_96 rfl (lv_at hl 1 rfl) ?_
                refine lv_iconst (v := nI 1) hx hb dX5_orders_97 (by decide) ?_
                refine lv_aload_n hx hb dX5_orders_98 rfl (lv_at hl 0 rfl) ?_
                refine va_get (ci := 5) (C := RX5) (T := TX5) (N := 21) hx hb hts (fun w h => List.mem_cons_of_mem _ (List.mem_append_right _ (h))) hown hK hP 0 rfl rfl 2 (by decide) (hts (Cond.fieldLink RX5 89 "OutageBookModel" "lines" "I") (List.mem_of_getElem? (i := 1) rfl)) (fun _ h9 => h9) rfl dX5_orders_99 ?_
                refine lv_ishl hx hb dX5_orders_102 ?_
                rw [show (nI 1) <<< ((nI rn) &&& 31) = nI (2 ^ rn) from ob_bitN rn (by omega)]
                refine ob_icmp_ge (tgt := 190) hx hb (by omega) (by omega) dX5_orders_103 (by decide) (fun c103 => ?_) (fun c103 => ?_)
                · obtain rfl : 2 ^ rn = q := by omega
                  refine lv_aload_n hx hb dX5_orders_190 rfl (lv_at hl 0 rfl) ?_
                  refine va_get (ci := 5) (C := RX5) (T := TX5) (N := 21) hx hb hts (fun w h => List.mem_cons_of_mem _ (List.mem_append_right _ (h))) hown hK hP 0 rfl rfl 11 (by decide) (hts (Cond.fieldLink RX5 41 "OutageBookModel" "counts" "[J") (List.mem_of_getElem? (i := 3) rfl)) (fun _ h9 => h9) rfl dX5_orders_191 ?_
                  refine lv_iconst (v := nI 1) hx hb dX5_orders_194 (by decide) ?_
                  refine lv_aload_n hx hb dX5_orders_195 rfl (lv_at hl 0 rfl) ?_
                  refine va_get (ci := 5) (C := RX5) (T := TX5) (N := 21) hx hb hts (fun w h => List.mem_cons_of_mem _ (List.mem_append_right _ (h))) hown hK hP 0 rfl rfl 2 (by decide) (hts (Cond.fieldLink RX5 89 "OutageBookModel" "lines" "I") (List.mem_of_getElem? (i := 1) rfl)) (fun _ h9 => h9) rfl dX5_orders_196 ?_
                  refine lv_ishl hx hb dX5_orders_199 ?_
                  rw [show (nI 1) <<< ((nI rn) &&& 31) = nI (2 ^ rn) from ob_bitN rn (by omega)]
                  refine lv_iconst (v := nI 1) hx hb dX5_orders_200 (by decide) ?_
                  refine lv_isub hx hb dX5_orders_201 ?_
                  rw [show (nI (2 ^ rn)) - (nI 1) = nI (2 ^ rn - 1) from pk_sub hp1]
                  refine ob_lald hx hb hK hP 11 1 rfl rfl (by omega) (by decide) dX5_orders_202 ?_
                  exact W.lret (v := (ob_ccO (ob_ah2 Bd kc rrd rn ah rn) rn ct (2 ^ rn)) (2 ^ rn - 1)) hx hb hr (fun t9 ht hW => ⟨⟨(ob_ccO (ob_ah2 Bd kc rrd rn ah rn) rn ct (2 ^ rn)) (2 ^ rn - 1), (), rfl, (by rw [c18]; rfl), ob_th ht (by rw [c18] at hP ⊢; exact hP)⟩, hS.F ht⟩) hS.2.2 dX5_orders_203
                · refine lv_aload_n hx hb dX5_orders_106 rfl (lv_at hl 0 rfl) ?_
                  refine va_get (ci := 5) (C := RX5) (T := TX5) (N := 21) hx hb hts (fun w h => List.mem_cons_of_mem _ (List.mem_append_right _ (h))) hown hK hP 0 rfl rfl 11 (by decide) (hts (Cond.fieldLink RX5 41 "OutageBookModel" "counts" "[J") (List.mem_of_getElem? (i := 3) rfl)) (fun _ h9 => h9) rfl dX5_orders_107 ?_
                  refine lv_iload_n hx hb dX5_orders_110 rfl (lv_at hl 1 rfl) ?_
                  refine lv_lconst (v := lN 0) hx hb dX5_orders_111 rfl ?_
                  refine ob_last hx hb hK hP hD hS 11 1 rfl rfl (by omega) (by decide) dX5_orders_112 (fun H locs hP hD hS => ?_)
                  have hP : va_P D vwCl (ob_wR t ar Bd Tr rn rcl rrd rsv rpb wf wa ro (ob_ah2 Bd kc rrd rn ah rn) (vp_updL (ob_ccO (ob_ah2 Bd kc rrd rn ah rn) rn ct q) q (lN 0)) rmn rms rmf rmt rmp rcn sd V (nI (ob_z1 (decide (rn ≤ 12))))) H := hP
                  have hD : va_D (va_A (ob_wR t ar Bd Tr rn rcl rrd rsv rpb wf wa ro ah ct rmn rms rmf rmt rmp rcn sd V th) sz) (ob_wR t ar Bd Tr rn rcl rrd rsv rpb wf wa ro (ob_ah2 Bd kc rrd rn ah rn) (vp_updL (ob_ccO (ob_ah2 Bd kc rrd rn ah rn) rn ct q) q (lN 0)) rmn rms rmf rmt rmp rcn sd V (nI (ob_z1 (decide (rn ≤ 12))))) := hD
                  refine lv_iconst (v := nI 0) hx hb dX5_orders_113 (by decide) ?_
                  refine lv_istore_n (lv' := [(2, .int (nI 0)), (0, .ref (ar 0)), (1, .int (nI q))]) hx hb dX5_orders_114 rfl hl (by decide) rfl (fun ls hl => ?_)
                  have k115 : ∀ fu : Nat, ∀ (i : Nat), rn - i < fu → (i ≤ rn) → ∀ (H : Heap) (locs : List Loc), va_P D vwCl (ob_wR t ar Bd Tr rn rcl rrd rsv rpb wf wa ro (ob_ah2 Bd kc rrd rn ah rn) (ob_ccI (ob_ah2 Bd kc rrd rn ah rn) q (ob_ccO (ob_ah2 Bd kc rrd rn ah rn) rn ct q) i) rmn rms rmf rmt rmp rcn sd V (nI (ob_z1 (decide (rn ≤ 12))))) H → va_D (va_A (ob_wR t ar Bd Tr rn rcl rrd rsv rpb wf wa ro ah ct rmn rms rmf rmt rmp rcn sd V th) sz) (ob_wR t ar Bd Tr rn rcl rrd rsv rpb wf wa ro (ob_ah2 Bd kc rrd rn ah rn) (ob_ccI (ob_ah2 Bd kc rrd rn ah rn) q (ob_ccO (ob_ah2 Bd kc rrd rn ah rn) rn ct q) i) rmn rms rmf rmt rmp rcn sd V (nI (ob_z1 (decide (rn ≤ 12))))) → va_S (va_A (ob_wR t ar Bd Tr rn rcl rrd rsv rpb wf wa ro ah ct rmn rms rmf rmt rmp rcn sd V th) sz) s.heap H locs → ∀ ls : Array Slot, lv_has ls 4 [(0, .ref (ar 0)), (1, .int (nI q)), (2, .int (nI i))] → W p l e (headSpec wsX5_orders ({ frames := 1, cells := 0, slots := 0, locals := 23 } : Room)).room s m ([.ref (ar 0)] : List Value).toArray below meth c H locs 0 0 (MQ below (va_Ql (fun (r : Int64) (_ : Unit) => r = if decide (rn ≤ 12) then ob_ccO (ob_ah2 Bd kc rrd rn ah rn) rn ct (2 ^ rn) (2 ^ rn - 1) else lN 0) (fun (_ : Unit) (t9 : State) => va_P D vwCl (ob_wR t ar Bd Tr rn rcl rrd rsv rpb wf wa ro (if decide (rn ≤ 12) then ob_ah2 Bd kc rrd rn ah rn else ah) (if decide (rn ≤ 12) then ob_ccO (ob_ah2 Bd kc rrd rn ah rn) rn ct (2 ^ rn) else ct) rmn rms rmf rmt rmp rcn sd V (nI (ob_z1 (decide (rn ≤ 12))))) t9.heap) (va_A (ob_wR t ar Bd Tr rn rcl rrd rsv rpb wf wa ro ah ct rmn rms rmf rmt rmp rcn sd V th) sz)) ([.ref (ar 0)] : List Value).toArray s 0 0 (va_A (ob_wR t ar Bd Tr rn rcl rrd rsv rpb wf wa ro ah ct rmn rms rmf rmt rmp rcn sd V th) sz)) (F0 m 115 ls []) := by
                    intro fu
                    induction fu with
                    | zero => intro i hfu; exact absurd hfu (Nat.not_lt_zero _)
                    | succ fu ih =>
                      intro i hfu hi H locs hP hD hS ls hl
                      have ih115 := ih
                      refine lv_iload_n hx hb dX5_orders_115 rfl (lv_at hl 2 rfl) ?_
                      refine lv_aload_n hx hb dX5_orders_116 rfl (lv_at hl 0 rfl) ?_
                      refine va_get (ci := 5) (C := RX5) (T := TX5) (N := 21) hx hb hts (fun w h => List.mem_cons_of_mem _ (List.mem_append_right _ (h))) hown hK hP 0 rfl rfl 2 (by decide) (hts (Cond.fieldLink RX5 89 "OutageBookModel" "lines" "I") (List.mem_of_getElem? (i := 1) rfl)) (fun _ h9 => h9) rfl dX5_orders_117 ?_
                      refine ob_icmp_ge (tgt := 184) hx hb (by omega) (by omega) dX5_orders_120 (by decide) (fun c120 => ?_) (fun c120 => ?_)
                      · obtain rfl : rn = i := by omega
                        refine ob_inc (k := 1) (lv' := [(1, .int (nI (q + 1))), (0, .ref (ar 0)), (2, .int (nI rn))]) hx hb dX5_orders_184 hl rfl (by decide) rfl (fun ls hl => ?_)
                        refine lv_goto (tgt := 96) hx hb dX5_orders_187 (by decide) ?_
                        exact ih96 (q + 1) (by omega) (by omega) (by omega) _ _ (by rw [ob_ccO_s hq1]; exact hP) (ob_dR hD) hS _ (lv_sub hl [1, 0] rfl)
                      · have k150 : ∀ (b3 : Bool), (b3 = ob_ccp (ob_ah2 Bd kc rrd rn ah rn) q i) → ∀ ls : Array Slot, lv_has ls 4 [(0, .ref (ar 0)), (1, .int (nI q)), (2, .int (nI i))] → W p l e (headSpec wsX5_orders ({ frames := 1, cells := 0, slots := 0, locals := 23 } : Room)).room s m ([.ref (ar 0)] : List Value).toArray below meth c H locs 0 0 (MQ below (va_Ql (fun (r : Int64) (_ : Unit) => r = if decide (rn ≤ 12) then ob_ccO (ob_ah2 Bd kc rrd rn ah rn) rn ct (2 ^ rn) (2 ^ rn - 1) else lN 0) (fun (_ : Unit) (t9 : State) => va_P D vwCl (ob_wR t ar Bd Tr rn rcl rrd rsv rpb wf wa ro (if decide (rn ≤ 12) then ob_ah2 Bd kc rrd rn ah rn else ah) (if decide (rn ≤ 12) then ob_ccO (ob_ah2 Bd kc rrd rn ah rn) rn ct (2 ^ rn) else ct) rmn rms rmf rmt rmp rcn sd V (nI (ob_z1 (decide (rn ≤ 12))))) t9.heap) (va_A (ob_wR t ar Bd Tr rn rcl rrd rsv rpb wf wa ro ah ct rmn rms rmf rmt rmp rcn sd V th) sz)) ([.ref (ar 0)] : List Value).toArray s 0 0 (va_A (ob_wR t ar Bd Tr rn rcl rrd rsv rpb wf wa ro ah ct rmn rms rmf rmt rmp rcn sd V th) sz)) (F0 m 150 ls [.int (ob_bi b3)]) := by
                          intro b3 h3 ls hl
                          refine lv_istore_n (lv' := [(3, .int (ob_bi b3)), (0, .ref (ar 0)), (1, .int (nI q)), (2, .int (nI i))]) hx hb dX5_orders_150 rfl hl (by decide) rfl (fun ls hl => ?_)
                          refine lv_aload_n hx hb dX5_orders_151 rfl (lv_at hl 1 rfl) ?_
                          refine va_get (ci := 5) (C := RX5) (T := TX5) (N := 21) hx hb hts (fun w h => List.mem_cons_of_mem _ (List.mem_append_right _ (h))) hown hK hP 0 rfl rfl 11 (by decide) (hts (Cond.fieldLink RX5 41 "OutageBookModel" "counts" "[J") (List.mem_of_getElem? (i := 3) rfl)) (fun _ h9 => h9) rfl dX5_orders_152 ?_
                          refine lv_iload_n hx hb dX5_orders_155 rfl (lv_at hl 2 rfl) ?_
                          refine lv_dup2_11 hx hb dX5_orders_156 rfl rfl ?_
                          refine ob_lald hx hb hK hP 11 1 rfl rfl (by omega) (by decide) dX5_orders_157 ?_
                          refine lv_iload_n hx hb dX5_orders_158 rfl (lv_at hl 0 rfl) ?_
                          refine ob_if_eq (tgt := 175) hx hb dX5_orders_159 (by decide) (fun c159 => ?_) (fun c159 => ?_)
                          · refine lv_lconst (v := lN 0) hx hb dX5_orders_175 rfl ?_
                            refine lv_ladd hx hb dX5_orders_176 ?_
                            refine ob_last hx hb hK hP hD hS 11 1 rfl rfl (by omega) (by decide) dX5_orders_177 (fun H locs hP hD hS => ?_)
                            have hP : va_P D vwCl (ob_wR t ar Bd Tr rn rcl rrd rsv rpb wf wa ro (ob_ah2 Bd kc rrd rn ah rn) (vp_updL (ob_ccI (ob_ah2 Bd kc rrd rn ah rn) q (ob_ccO (ob_ah2 Bd kc rrd rn ah rn) rn ct q) i) q (((ob_ccI (ob_ah2 Bd kc rrd rn ah rn) q (ob_ccO (ob_ah2 Bd kc rrd rn ah rn) rn ct q) i) q) + (lN 0))) rmn rms rmf rmt rmp rcn sd V (nI (ob_z1 (decide (rn ≤ 12))))) H := hP
                            have hD : va_D (va_A (ob_wR t ar Bd Tr rn rcl rrd rsv rpb wf wa ro ah ct rmn rms rmf rmt rmp rcn sd V th) sz) (ob_wR t ar Bd Tr rn rcl rrd rsv rpb wf wa ro (ob_ah2 Bd kc rrd rn ah rn) (vp_updL (ob_ccI (ob_ah2 Bd kc rrd rn ah rn) q (ob_ccO (ob_ah2 Bd kc rrd rn ah rn) rn ct q) i) q (((ob_ccI (ob_ah2 Bd kc rrd rn ah rn) q (ob_ccO (ob_ah2 Bd kc rrd rn ah rn) rn ct q) i) q) + (lN 0))) rmn rms rmf rmt rmp rcn sd V (nI (ob_z1 (decide (rn ≤ 12))))) := hD
                            refine ob_inc (k := 3) (lv' := [(2, .int (nI (i + 1))), (3, .int (ob_bi b3)), (0, .ref (ar 0)), (1, .int (nI q))]) hx hb dX5_orders_178 hl rfl (by decide) rfl (fun ls hl => ?_)
                            refine lv_goto (tgt := 115) hx hb dX5_orders_181 (by decide) ?_
                            exact ih115 (i + 1) (by omega) (by omega) _ _ (by rw [ob_ccI, ob_ccs, ← h3, c159]; exact hP) (ob_dR hD) hS _ (lv_sub hl [2, 3, 0] rfl)
                          · refine lv_aload_n hx hb dX5_orders_162 rfl (lv_at hl 1 rfl) ?_
                            refine va_get (ci := 5) (C := RX5) (T := TX5) (N := 21) hx hb hts (fun w h => List.mem_cons_of_mem _ (List.mem_append_right _ (h))) hown hK hP 0 rfl rfl 11 (by decide) (hts (Cond.fieldLink RX5 41 "OutageBookModel" "counts" "[J") (List.mem_of_getElem? (i := 3) rfl)) (fun _ h9 => h9) rfl dX5_orders_163 ?_
                            refine lv_iload_n hx hb dX5_orders_166 rfl (lv_at hl 2 rfl) ?_
                            refine lv_iconst (v := nI 1) hx hb dX5_orders_167 (by decide) ?_
                            refine lv_iload_n hx hb dX5_orders_168 rfl (lv_at hl 3 rfl) ?_
                            refine lv_ishl hx hb dX5_orders_169 ?_
                            have h2i : 0 < 2 ^ i := Nat.two_pow_pos i
                            have hsb := ob_subb (h3.symm.trans c159) (by omega)
                            refine lv_isub hx hb dX5_orders_170 ?_
                            rw [show (nI q) - ((nI 1) <<< ((nI i) &&& 31)) = nI (q - 2 ^ i) from hsb.2]
                            refine ob_lald hx hb hK hP 11 1 rfl rfl (by omega) (by decide) dX5_orders_171 ?_
                            refine lv_goto (tgt := 176) hx hb dX5_orders_172 (by decide) ?_
                            refine lv_ladd hx hb dX5_orders_176 ?_
                            refine ob_last hx hb hK hP hD hS 11 1 rfl rfl (by omega) (by decide) dX5_orders_177 (fun H locs hP hD hS => ?_)
                            have hP : va_P D vwCl (ob_wR t ar Bd Tr rn rcl rrd rsv rpb wf wa ro (ob_ah2 Bd kc rrd rn ah rn) (vp_updL (ob_ccI (ob_ah2 Bd kc rrd rn ah rn) q (ob_ccO (ob_ah2 Bd kc rrd rn ah rn) rn ct q) i) q (((ob_ccI (ob_ah2 Bd kc rrd rn ah rn) q (ob_ccO (ob_ah2 Bd kc rrd rn ah rn) rn ct q) i) q) + ((ob_ccI (ob_ah2 Bd kc rrd rn ah rn) q (ob_ccO (ob_ah2 Bd kc rrd rn ah rn) rn ct q) i) (q - 2 ^ i)))) rmn rms rmf rmt rmp rcn sd V (nI (ob_z1 (decide (rn ≤ 12))))) H := hP
                            have hD : va_D (va_A (ob_wR t ar Bd Tr rn rcl rrd rsv rpb wf wa ro ah ct rmn rms rmf rmt rmp rcn sd V th) sz) (ob_wR t ar Bd Tr rn rcl rrd rsv rpb wf wa ro (ob_ah2 Bd kc rrd rn ah rn) (vp_updL (ob_ccI (ob_ah2 Bd kc rrd rn ah rn) q (ob_ccO (ob_ah2 Bd kc rrd rn ah rn) rn ct q) i) q (((ob_ccI (ob_ah2 Bd kc rrd rn ah rn) q (ob_ccO (ob_ah2 Bd kc rrd rn ah rn) rn ct q) i) q) + ((ob_ccI (ob_ah2 Bd kc rrd rn ah rn) q (ob_ccO (ob_ah2 Bd kc rrd rn ah rn) rn ct q) i) (q - 2 ^ i)))) rmn rms rmf rmt rmp rcn sd V (nI (ob_z1 (decide (rn ≤ 12))))) := hD
                            refine ob_inc (k := 3) (lv' := [(2, .int (nI (i + 1))), (3, .int (ob_bi b3)), (0, .ref (ar 0)), (1, .int (nI q))]) hx hb dX5_orders_178 hl rfl (by decide) rfl (fun ls hl => ?_)
                            refine lv_goto (tgt := 115) hx hb dX5_orders_181 (by decide) ?_
                            exact ih115 (i + 1) (by omega) (by omega) _ _ (by rw [ob_ccI, ob_ccs, ← h3, c159]; exact hP) (ob_dR hD) hS _ (lv_sub hl [2, 3, 0] rfl)
                        refine lv_iload_n hx hb dX5_orders_123 rfl (lv_at hl 1 rfl) ?_
                        refine lv_iload_n hx hb dX5_orders_124 rfl (lv_at hl 2 rfl) ?_
                        refine lv_ishr hx hb dX5_orders_125 ?_
                        refine lv_iconst (v := nI 1) hx hb dX5_orders_126 (by decide) ?_
                        refine lv_iand hx hb dX5_orders_127 ?_
                        rw [show ((nI q) >>> ((nI i) &&& 31)) &&& (nI 1) = ob_bi (ob_hb (nI q) (nI i)) from ob_sh1 (by omega)]
                        refine lv_iconst (v := nI 1) hx hb dX5_orders_128 (by decide) ?_
                        refine ob_bcmp_ne (tgt := 149) hx hb dX5_orders_129 (by decide) (fun c129 => ?_) (fun c129 => ?_)
                        · refine lv_iconst (v := nI 0) hx hb dX5_orders_149 (by decide) ?_
                          exact k150 false (by first | (unfold ob_ccp; rw [c129]; rfl; done) | (unfold ob_ccp; rw [c129, decide_eq_false c142]; rfl; done) | (unfold ob_ccp; rw [c129, decide_eq_true c142]; rfl; done)) _ (lv_sub hl [0, 1, 2] rfl)
                        · refine lv_aload_n hx hb dX5_orders_132 rfl (lv_at hl 0 rfl) ?_
                          refine va_get (ci := 5) (C := RX5) (T := TX5) (N := 21) hx hb hts (fun w h => List.mem_cons_of_mem _ (List.mem_append_right _ (h))) hown hK hP 0 rfl rfl 10 (by decide) (hts (Cond.fieldLink RX5 38 "OutageBookModel" "ahead" "[I") (List.mem_of_getElem? (i := 2) rfl)) (fun _ h9 => h9) rfl dX5_orders_133 ?_
                          refine lv_iload_n hx hb dX5_orders_136 rfl (lv_at hl 2 rfl) ?_
                          refine ob_iald hx hb hK hP 10 0 rfl rfl (by omega) (by decide) dX5_orders_137 ?_
                          refine lv_iload_n hx hb dX5_orders_138 rfl (lv_at hl 1 rfl) ?_
                          refine lv_iconst (v := (-1)) hx hb dX5_orders_139 (by decide) ?_
                          refine lv_ixor hx hb dX5_orders_140 ?_
                          refine lv_iand hx hb dX5_orders_141 ?_
                          refine lv_if_ne (tgt := 149) hx hb dX5_orders_142 (by decide) (fun c142 => ?_) (fun c142 => ?_)
                          · refine lv_iconst (v := nI 0) hx hb dX5_orders_149 (by decide) ?_
                            exact k150 false (by first | (unfold ob_ccp; rw [c129]; rfl; done) | (unfold ob_ccp; rw [c129, decide_eq_false c142]; rfl; done) | (unfold ob_ccp; rw [c129, decide_eq_true c142]; rfl; done)) _ (lv_sub hl [0, 1, 2] rfl)
                          · refine lv_iconst (v := nI 1) hx hb dX5_orders_145 (by decide) ?_
                            refine lv_goto (tgt := 150) hx hb dX5_orders_146 (by decide) ?_
                            exact k150 true (by first | (unfold ob_ccp; rw [c129]; rfl; done) | (unfold ob_ccp; rw [c129, decide_eq_false c142]; rfl; done) | (unfold ob_ccp; rw [c129, decide_eq_true c142]; rfl; done)) _ (lv_sub hl [0, 1, 2] rfl)
                  exact k115 _ 0 (Nat.lt_succ_self _) (by omega) _ _ hP (ob_dR hD) hS _ (lv_sub hl [1, 2, 0] rfl)
            exact k96 _ 1 (Nat.lt_succ_self _) (by omega) (by omega) _ _ hP (ob_dR hD) hS _ (lv_sub hl [1, 0] rfl)
          · refine lv_aload_n hx hb dX5_orders_33 rfl (lv_at hl 0 rfl) ?_
            refine va_get (ci := 5) (C := RX5) (T := TX5) (N := 21) hx hb hts (fun w h => List.mem_cons_of_mem _ (List.mem_append_right _ (h))) hown hK hP 0 rfl rfl 10 (by decide) (hts (Cond.fieldLink RX5 38 "OutageBookModel" "ahead" "[I") (List.mem_of_getElem? (i := 2) rfl)) (fun _ h9 => h9) rfl dX5_orders_34 ?_
            refine lv_iload_n hx hb dX5_orders_37 rfl (lv_at hl 1 rfl) ?_
            refine lv_iconst (v := nI 0) hx hb dX5_orders_38 (by decide) ?_
            refine ob_iast hx hb hK hP hD hS 10 0 rfl rfl (by omega) (by decide) dX5_orders_39 (fun H locs hP hD hS => ?_)
            have hP : va_P D vwCl (ob_wR t ar Bd Tr rn rcl rrd rsv rpb wf wa ro (upd (ob_ah2 Bd kc rrd rn ah k) k (nI 0)) ct rmn rms rmf rmt rmp rcn sd V (nI (ob_z1 (decide (rn ≤ 12))))) H := hP
            have hD : va_D (va_A (ob_wR t ar Bd Tr rn rcl rrd rsv rpb wf wa ro ah ct rmn rms rmf rmt rmp rcn sd V th) sz) (ob_wR t ar Bd Tr rn rcl rrd rsv rpb wf wa ro (upd (ob_ah2 Bd kc rrd rn ah k) k (nI 0)) ct rmn rms rmf rmt rmp rcn sd V (nI (ob_z1 (decide (rn ≤ 12))))) := hD
            refine lv_iconst (v := nI 0) hx hb dX5_orders_40 (by decide) ?_
            refine lv_istore_n (lv' := [(2, .int (nI 0)), (0, .ref (ar 0)), (1, .int (nI k))]) hx hb dX5_orders_41 rfl hl (by decide) rfl (fun ls hl => ?_)
            have k42 : ∀ fu : Nat, ∀ (j : Nat), rn - j < fu → (j ≤ rn) → ∀ (H : Heap) (locs : List Loc), va_P D vwCl (ob_wR t ar Bd Tr rn rcl rrd rsv rpb wf wa ro (upd (ob_ah2 Bd kc rrd rn ah k) k (ob_ahI Bd kc rrd k j)) ct rmn rms rmf rmt rmp rcn sd V (nI (ob_z1 (decide (rn ≤ 12))))) H → va_D (va_A (ob_wR t ar Bd Tr rn rcl rrd rsv rpb wf wa ro ah ct rmn rms rmf rmt rmp rcn sd V th) sz) (ob_wR t ar Bd Tr rn rcl rrd rsv rpb wf wa ro (upd (ob_ah2 Bd kc rrd rn ah k) k (ob_ahI Bd kc rrd k j)) ct rmn rms rmf rmt rmp rcn sd V (nI (ob_z1 (decide (rn ≤ 12))))) → va_S (va_A (ob_wR t ar Bd Tr rn rcl rrd rsv rpb wf wa ro ah ct rmn rms rmf rmt rmp rcn sd V th) sz) s.heap H locs → ∀ ls : Array Slot, lv_has ls 4 [(0, .ref (ar 0)), (1, .int (nI k)), (2, .int (nI j))] → W p l e (headSpec wsX5_orders ({ frames := 1, cells := 0, slots := 0, locals := 23 } : Room)).room s m ([.ref (ar 0)] : List Value).toArray below meth c H locs 0 0 (MQ below (va_Ql (fun (r : Int64) (_ : Unit) => r = if decide (rn ≤ 12) then ob_ccO (ob_ah2 Bd kc rrd rn ah rn) rn ct (2 ^ rn) (2 ^ rn - 1) else lN 0) (fun (_ : Unit) (t9 : State) => va_P D vwCl (ob_wR t ar Bd Tr rn rcl rrd rsv rpb wf wa ro (if decide (rn ≤ 12) then ob_ah2 Bd kc rrd rn ah rn else ah) (if decide (rn ≤ 12) then ob_ccO (ob_ah2 Bd kc rrd rn ah rn) rn ct (2 ^ rn) else ct) rmn rms rmf rmt rmp rcn sd V (nI (ob_z1 (decide (rn ≤ 12))))) t9.heap) (va_A (ob_wR t ar Bd Tr rn rcl rrd rsv rpb wf wa ro ah ct rmn rms rmf rmt rmp rcn sd V th) sz)) ([.ref (ar 0)] : List Value).toArray s 0 0 (va_A (ob_wR t ar Bd Tr rn rcl rrd rsv rpb wf wa ro ah ct rmn rms rmf rmt rmp rcn sd V th) sz)) (F0 m 42 ls []) := by
              intro fu
              induction fu with
              | zero => intro j hfu; exact absurd hfu (Nat.not_lt_zero _)
              | succ fu ih =>
                intro j hfu hj H locs hP hD hS ls hl
                have ih42 := ih
                refine lv_iload_n hx hb dX5_orders_42 rfl (lv_at hl 2 rfl) ?_
                refine lv_aload_n hx hb dX5_orders_43 rfl (lv_at hl 0 rfl) ?_
                refine va_get (ci := 5) (C := RX5) (T := TX5) (N := 21) hx hb hts (fun w h => List.mem_cons_of_mem _ (List.mem_append_right _ (h))) hown hK hP 0 rfl rfl 2 (by decide) (hts (Cond.fieldLink RX5 89 "OutageBookModel" "lines" "I") (List.mem_of_getElem? (i := 1) rfl)) (fun _ h9 => h9) rfl dX5_orders_44 ?_
                refine ob_icmp_ge (tgt := 81) hx hb (by omega) (by omega) dX5_orders_47 (by decide) (fun c47 => ?_) (fun c47 => ?_)
                · obtain rfl : rn = j := by omega
                  refine ob_inc (k := 1) (lv' := [(1, .int (nI (k + 1))), (0, .ref (ar 0)), (2, .int (nI rn))]) hx hb dX5_orders_81 hl rfl (by decide) rfl (fun ls hl => ?_)
                  refine lv_goto (tgt := 25) hx hb dX5_orders_84 (by decide) ?_
                  exact ih25 (k + 1) (by omega) (by omega) _ _ (by rw [← ob_ah2_s]; exact hP) (ob_dR hD) hS _ (lv_sub hl [1, 0] rfl)
                · refine lv_aload_n hx hb dX5_orders_50 rfl (lv_at hl 0 rfl) ?_
                  refine va_get (ci := 5) (C := RX5) (T := TX5) (N := 21) hx hb hts (fun w h => List.mem_cons_of_mem _ (List.mem_append_right _ (h))) hown hK hP 0 rfl rfl 10 (by decide) (hts (Cond.fieldLink RX5 38 "OutageBookModel" "ahead" "[I") (List.mem_of_getElem? (i := 2) rfl)) (fun _ h9 => h9) rfl dX5_orders_51 ?_
                  refine lv_iload_n hx hb dX5_orders_54 rfl (lv_at hl 1 rfl) ?_
                  refine lv_dup2_11 hx hb dX5_orders_55 rfl rfl ?_
                  refine ob_iald hx hb hK hP 10 0 rfl rfl (by omega) (by decide) dX5_orders_56 ?_
                  rw [show (upd (ob_ah2 Bd kc rrd rn ah k) k (ob_ahI Bd kc rrd k j)) k = ob_ahI Bd kc rrd k j from ob_us]
                  refine lv_aload_n hx hb dX5_orders_57 rfl (lv_at hl 0 rfl) ?_
                  refine lv_iload_n hx hb dX5_orders_58 rfl (lv_at hl 2 rfl) ?_
                  refine lv_iload_n hx hb dX5_orders_59 rfl (lv_at hl 1 rfl) ?_
                  refine vp_callSi (va_Run.run (va_runV (As := [.int (nI j), .int (nI k)]) (rest := [.int (ob_ahI Bd kc rrd k j), .int (nI k), .ref (ar 10)]) ⟨hx, hb, hml, hown, hts⟩ (c_X5_isBefore l D t ar Bd Tr rn rcl rrd rsv rpb wf wa ro (upd (ob_ah2 Bd kc rrd rn ah k) k (ob_ahI Bd kc rrd k j)) ct rmn rms rmf rmt rmp rcn sd V (nI (ob_z1 (decide (rn ≤ 12)))) kc j k (by first | assumption | omega) (by first | assumption | omega) (by first | assumption | omega)) (cwV 2 hts gX5_orders_X5_isBefore rfl rfl rfl (by decide +kernel) ⟨Nat.le_of_ble_eq_true rfl, Nat.le_of_ble_eq_true rfl⟩) (ob_preV (ci := 5) (q0 := 0) hP hk rfl rfl) rfl rfl hl.1 rfl (lv_room (Nat.le_of_ble_eq_true rfl)) dX5_orders_60 ⟨Nat.le_of_ble_eq_true rfl, Nat.le_of_ble_eq_true rfl⟩)) (fun r9 hr9 => ?_)
                  subst hr9
                  refine ob_if_eq (tgt := 72) hx hb dX5_orders_63 (by decide) (fun c63 => ?_) (fun c63 => ?_)
                  · refine lv_iconst (v := nI 0) hx hb dX5_orders_72 (by decide) ?_
                    refine lv_ior hx hb dX5_orders_73 ?_
                    refine ob_iast hx hb hK hP hD hS 10 0 rfl rfl (by omega) (by decide) dX5_orders_74 (fun H locs hP hD hS => ?_)
                    have hP : va_P D vwCl (ob_wR t ar Bd Tr rn rcl rrd rsv rpb wf wa ro (upd (upd (ob_ah2 Bd kc rrd rn ah k) k (ob_ahI Bd kc rrd k j)) k ((ob_ahI Bd kc rrd k j) ||| (nI 0))) ct rmn rms rmf rmt rmp rcn sd V (nI (ob_z1 (decide (rn ≤ 12))))) H := hP
                    have hD : va_D (va_A (ob_wR t ar Bd Tr rn rcl rrd rsv rpb wf wa ro ah ct rmn rms rmf rmt rmp rcn sd V th) sz) (ob_wR t ar Bd Tr rn rcl rrd rsv rpb wf wa ro (upd (upd (ob_ah2 Bd kc rrd rn ah k) k (ob_ahI Bd kc rrd k j)) k ((ob_ahI Bd kc rrd k j) ||| (nI 0))) ct rmn rms rmf rmt rmp rcn sd V (nI (ob_z1 (decide (rn ≤ 12))))) := hD
                    refine ob_inc (k := 2) (lv' := [(2, .int (nI (j + 1))), (0, .ref (ar 0)), (1, .int (nI k))]) hx hb dX5_orders_75 hl rfl (by decide) rfl (fun ls hl => ?_)
                    refine lv_goto (tgt := 42) hx hb dX5_orders_78 (by decide) ?_
                    exact ih42 (j + 1) (by omega) (by omega) _ _ (by rw [ob_uu] at hP; rw [ob_ahI, c63]; exact hP) (ob_dR hD) hS _ (lv_sub hl [1, 2, 0] rfl)
                  · refine lv_iconst (v := nI 1) hx hb dX5_orders_66 (by decide) ?_
                    refine lv_iload_n hx hb dX5_orders_67 rfl (lv_at hl 2 rfl) ?_
                    refine lv_ishl hx hb dX5_orders_68 ?_
                    rw [show (nI 1) <<< ((nI j) &&& 31) = ob_bit (nI j) from rfl]
                    refine lv_goto (tgt := 73) hx hb dX5_orders_69 (by decide) ?_
                    refine lv_ior hx hb dX5_orders_73 ?_
                    refine ob_iast hx hb hK hP hD hS 10 0 rfl rfl (by omega) (by decide) dX5_orders_74 (fun H locs hP hD hS => ?_)
                    have hP : va_P D vwCl (ob_wR t ar Bd Tr rn rcl rrd rsv rpb wf wa ro (upd (upd (ob_ah2 Bd kc rrd rn ah k) k (ob_ahI Bd kc rrd k j)) k ((ob_ahI Bd kc rrd k j) ||| (ob_bit (nI j)))) ct rmn rms rmf rmt rmp rcn sd V (nI (ob_z1 (decide (rn ≤ 12))))) H := hP
                    have hD : va_D (va_A (ob_wR t ar Bd Tr rn rcl rrd rsv rpb wf wa ro ah ct rmn rms rmf rmt rmp rcn sd V th) sz) (ob_wR t ar Bd Tr rn rcl rrd rsv rpb wf wa ro (upd (upd (ob_ah2 Bd kc rrd rn ah k) k (ob_ahI Bd kc rrd k j)) k ((ob_ahI Bd kc rrd k j) ||| (ob_bit (nI j)))) ct rmn rms rmf rmt rmp rcn sd V (nI (ob_z1 (decide (rn ≤ 12))))) := hD
                    refine ob_inc (k := 2) (lv' := [(2, .int (nI (j + 1))), (0, .ref (ar 0)), (1, .int (nI k))]) hx hb dX5_orders_75 hl rfl (by decide) rfl (fun ls hl => ?_)
                    refine lv_goto (tgt := 42) hx hb dX5_orders_78 (by decide) ?_
                    exact ih42 (j + 1) (by omega) (by omega) _ _ (by rw [ob_uu] at hP; rw [ob_ahI, c63]; exact hP) (ob_dR hD) hS _ (lv_sub hl [1, 2, 0] rfl)
            exact k42 _ 0 (Nat.lt_succ_self _) (by omega) _ _ hP (ob_dR hD) hS _ (lv_sub hl [1, 2, 0] rfl)
      exact k25 _ 0 (Nat.lt_succ_self _) (by omega) _ _ (by rw [show ob_ah2 Bd kc rrd rn ah 0 = ah from ob_fl_0 _ _]; exact hP) (ob_dR hD) hS _ (lv_sub hl [1, 0] rfl)
    · refine lv_lconst (v := lN 0) hx hb dX5_orders_21 rfl ?_
      exact W.lret (v := lN 0) hx hb hr (fun t9 ht hW => ⟨⟨lN 0, (), rfl, (by rw [c18]; rfl), ob_th ht (by rw [c18] at hP ⊢; exact hP)⟩, hS.F ht⟩) hS.2.2 dX5_orders_22
  refine lv_aload_n hx hb dX5_orders_1 rfl (lv_at hl 0 rfl) ?_
  refine va_get (ci := 5) (C := RX5) (T := TX5) (N := 21) hx hb hts (fun w h => List.mem_cons_of_mem _ (List.mem_append_right _ (h))) hown hK hP 0 rfl rfl 2 (by decide) (hts (Cond.fieldLink RX5 89 "OutageBookModel" "lines" "I") (List.mem_of_getElem? (i := 1) rfl)) (fun _ h9 => h9) rfl dX5_orders_2 ?_
  refine lv_bipush (v := nI 12) hx hb dX5_orders_5 (by decide) ?_
  refine ob_icmp_le (tgt := 14) hx hb (by omega) (by omega) dX5_orders_7 (by decide) (fun c7 => ?_) (fun c7 => ?_)
  · refine lv_iconst (v := nI 0) hx hb dX5_orders_14 (by decide) ?_
    exact k15 0 (by first | (rw [decide_eq_true c7]; rfl; done) | (rw [decide_eq_false (Nat.not_le.mpr c7)]; rfl; done)) _ (lv_sub hl [0] rfl)
  · refine lv_iconst (v := nI 1) hx hb dX5_orders_10 (by decide) ?_
    refine lv_goto (tgt := 15) hx hb dX5_orders_11 (by decide) ?_
    exact k15 1 (by first | (rw [decide_eq_true c7]; rfl; done) | (rw [decide_eq_false (Nat.not_le.mpr c7)]; rfl; done)) _ (lv_sub hl [0] rfl)

set_option maxRecDepth 100000 in
set_option maxHeartbeats 4000000 in
theorem c_X5_argue (l : Launch) (D : va_G) (t : Nat → ClassId) (sz : Nat) (ar : Nat → Nat) (Bd Tr : Nat → Int32) (rn : Nat) (rcl rrd rsv rpb wf wa ro ah : Nat → Int32) (ct : Nat → Int64) (rmn : Nat) (rms rmf rmt rmp : Nat → Int32) (rcn : Nat) (sd V : Nat → Int32) (th : Int32) (x1 x2 : Int32) (b3 : Bool) (hrn : rn ≤ 30) : Met l yX5_argue wsX5_argue ({ frames := 2, cells := 0, slots := 0, locals := 43 } : Room) (ob_Pm D t (ob_wR t ar Bd Tr rn rcl rrd rsv rpb wf wa ro ah ct rmn rms rmf rmt rmp rcn sd V th) sz [.ref (ar 0), .int x1, .int x2, .int (ob_bi b3)]) (va_Qi (fun (r : Int32) (_ : Unit) => r = if ob_hd rn x1 && ob_wi x2 (nI 1) (nI 100) then (wf x1.toNatClampNeg + if b3 then x2 else nI 0) - (wa x1.toNatClampNeg + if b3 then nI 0 else x2) else nI 0) (fun (_ : Unit) (t9 : State) => va_P D vwCl (ob_wR t ar Bd Tr rn rcl rrd rsv rpb (if ob_hd rn x1 && ob_wi x2 (nI 1) (nI 100) then upd wf x1.toNatClampNeg (wf x1.toNatClampNeg + if b3 then x2 else nI 0) else wf) (if ob_hd rn x1 && ob_wi x2 (nI 1) (nI 100) then upd wa x1.toNatClampNeg (wa x1.toNatClampNeg + if b3 then nI 0 else x2) else wa) ro ah ct rmn rms rmf rmt rmp rcn sd V (nI (ob_z2 (ob_hd rn x1) (ob_wi x2 (nI 1) (nI 100))))) t9.heap) (va_A (ob_wR t ar Bd Tr rn rcl rrd rsv rpb wf wa ro ah ct rmn rms rmf rmt rmp rcn sd V th) sz)) 0 0 (va_A (ob_wR t ar Bd Tr rn rcl rrd rsv rpb wf wa ro ah ct rmn rms rmf rmt rmp rcn sd V th) sz) := by
  refine Met.ofW (cc := cX5_argue) (maxL := 4) (ret := (some .int)) (by decide) rfl ?_
  intro p e s m args below meth c s₁ B hml hv
  obtain ⟨rfl, hsz, hP, hk, hD0⟩ := hv
  have hx := B.exec
  have hb := B.bytes
  have hr := B.returns
  have hts := atoms_spec (ws := wsX5_argue) B.pre
  have hown : s.vm.findClass RX5 = some m.cls := findClass_of_methodNamed B.named
  have hlocks := B.notSynchronized
  have hK := hk.1
  have hD : va_D (va_A (ob_wR t ar Bd Tr rn rcl rrd rsv rpb wf wa ro ah ct rmn rms rmf rmt rmp rcn sd V th) sz) (ob_wR t ar Bd Tr rn rcl rrd rsv rpb wf wa ro ah ct rmn rms rmf rmt rmp rcn sd V th) := hD0.self (sz := sz)
  have hA : ∀ q : Nat, s.heap.size ≤ q → (va_A (ob_wR t ar Bd Tr rn rcl rrd rsv rpb wf wa ro ah ct rmn rms rmf rmt rmp rcn sd V th) sz) q := fun q h => Or.inr (hsz ▸ h)
  have hS : va_S (va_A (ob_wR t ar Bd Tr rn rcl rrd rsv rpb wf wa ro ah ct rmn rms rmf rmt rmp rcn sd V th) sz) s.heap s.heap [] := va_S.rf
  have hl := lv_entry [.ref (ar 0), .int x1, .int x2, .int (ob_bi b3)] (n := 4) (Nat.le_of_ble_eq_true rfl)
  rw [lg_entry_eq]
  generalize (lg_sl [.ref (ar 0), .int x1, .int x2, .int (ob_bi b3)] ++ List.replicate (4 - (lg_sl [.ref (ar 0), .int x1, .int x2, .int (ob_bi b3)]).length) Slot.unset).toArray = ls at hl ⊢
  have hl : lv_has ls 4 [(0, .ref (ar 0)), (1, .int x1), (2, .int x2), (3, .int (ob_bi b3))] := hl
  have hP : va_P D vwCl (ob_wR t ar Bd Tr rn rcl rrd rsv rpb wf wa ro ah ct rmn rms rmf rmt rmp rcn sd V th) s.heap := hP
  refine lv_aload_n hx hb dX5_argue_0 rfl (lv_at hl 0 rfl) ?_
  have k28 : ∀ (z : Nat), (z = ob_z2 (ob_hd rn x1) (ob_wi x2 (nI 1) (nI 100))) → ∀ ls : Array Slot, lv_has ls 4 [(0, .ref (ar 0)), (1, .int x1), (2, .int x2), (3, .int (ob_bi b3))] → W p l e (headSpec wsX5_argue ({ frames := 2, cells := 0, slots := 0, locals := 43 } : Room)).room s m ([.ref (ar 0), .int x1, .int x2, .int (ob_bi b3)] : List Value).toArray below meth c s.heap [] 0 0 (MQ below (va_Qi (fun (r : Int32) (_ : Unit) => r = if ob_hd rn x1 && ob_wi x2 (nI 1) (nI 100) then (wf x1.toNatClampNeg + if b3 then x2 else nI 0) - (wa x1.toNatClampNeg + if b3 then nI 0 else x2) else nI 0) (fun (_ : Unit) (t9 : State) => va_P D vwCl (ob_wR t ar Bd Tr rn rcl rrd rsv rpb (if ob_hd rn x1 && ob_wi x2 (nI 1) (nI 100) then upd wf x1.toNatClampNeg (wf x1.toNatClampNeg + if b3 then x2 else nI 0) else wf) (if ob_hd rn x1 && ob_wi x2 (nI 1) (nI 100) then upd wa x1.toNatClampNeg (wa x1.toNatClampNeg + if b3 then nI 0 else x2) else wa) ro ah ct rmn rms rmf rmt rmp rcn sd V (nI (ob_z2 (ob_hd rn x1) (ob_wi x2 (nI 1) (nI 100))))) t9.heap) (va_A (ob_wR t ar Bd Tr rn rcl rrd rsv rpb wf wa ro ah ct rmn rms rmf rmt rmp rcn sd V th) sz)) ([.ref (ar 0), .int x1, .int x2, .int (ob_bi b3)] : List Value).toArray s 0 0 (va_A (ob_wR t ar Bd Tr rn rcl rrd rsv rpb wf wa ro ah ct rmn rms rmf rmt rmp rcn sd V th) sz)) (F0 m 28 ls [.int (nI z), .ref (ar 0)]) := by
    intro z hz ls hl
    subst hz
    have hFc := va_free (wc := ob_wR t ar Bd Tr rn rcl rrd rsv rpb wf wa ro ah ct rmn rms rmf rmt rmp rcn sd V th) hD hS hA [0, 1, 2, 3, 4, 5, 6, 7, 8, 9, 10, 11, 12, 13, 14, 15, 16, 17] rfl
    refine va_calli (va_runV (As := [.int (nI (ob_z2 (ob_hd rn x1) (ob_wi x2 (nI 1) (nI 100))))]) (rest := []) ⟨hx, hb, hml, hown, hts⟩ (c_X5_goes l D t s.heap.size ar Bd Tr rn rcl rrd rsv rpb wf wa ro ah ct rmn rms rmf rmt rmp rcn sd V th (nI (ob_z2 (ob_hd rn x1) (ob_wi x2 (nI 1) (nI 100))))) (cwV 1 hts gX5_argue_X5_goes rfl rfl rfl (by decide +kernel) ⟨Nat.le_of_ble_eq_true rfl, Nat.le_of_ble_eq_true rfl⟩) (ob_pmV (ci := 5) (q0 := 0) hP hD hk rfl rfl) rfl rfl hl.1 rfl (lv_room (Nat.le_of_ble_eq_true rfl)) dX5_argue_28 ⟨Nat.le_of_ble_eq_true rfl, Nat.le_of_ble_eq_true rfl⟩) hS (fun q _ h => hFc q h) hFc (fun r9 u9 t9 H1 locs ht hvm hw9 hB hz1 hk1 hS => ?_)
    rw [ht] at hB
    have hP := ob_jn (ws' := ob_wR t ar Bd Tr rn rcl rrd rsv rpb wf wa ro ah ct rmn rms rmf rmt rmp rcn sd V (nI (ob_z2 (ob_hd rn x1) (ob_wi x2 (nI 1) (nI 100))))) hP hD [some 0, some 1, some 2, some 3, some 4, some 5, some 6, some 7, some 8, some 9, some 10, some 11, some 12, some 13, some 14, some 15, some 16, some 17] [0, 1, 2, 3, 4, 5, 6, 7, 8, 9, 10, 11, 12, 13, 14, 15, 16, 17] rfl rfl hk1 hB rfl
    have hD : va_D (va_A (ob_wR t ar Bd Tr rn rcl rrd rsv rpb wf wa ro ah ct rmn rms rmf rmt rmp rcn sd V th) sz) (ob_wR t ar Bd Tr rn rcl rrd rsv rpb wf wa ro ah ct rmn rms rmf rmt rmp rcn sd V (nI (ob_z2 (ob_hd rn x1) (ob_wi x2 (nI 1) (nI 100))))) := ob_dR hD
    generalize H1 = H at hP hS ⊢
    subst hw9
    rw [show ob_bi (decide ((nI (ob_z2 (ob_hd rn x1) (ob_wi x2 (nI 1) (nI 100)))) = 0)) = ob_bi (ob_hd rn x1 && ob_wi x2 (nI 1) (nI 100)) from ob_dz2 _ _]
    refine ob_if_ne (tgt := 36) hx hb dX5_argue_31 (by decide) (fun c31 => ?_) (fun c31 => ?_)
    · obtain ⟨h1, h2⟩ := ob_and2 c31
      obtain ⟨j, hj, e1⟩ := ob_hd_t h1
      rw [e1] at hl
      refine lv_aload_n hx hb dX5_argue_36 rfl (lv_at hl 0 rfl) ?_
      refine va_get (ci := 5) (C := RX5) (T := TX5) (N := 21) hx hb hts (fun w h => List.mem_cons_of_mem _ (List.mem_append_right _ (h))) hown hK hP 0 rfl rfl 7 (by decide) (hts (Cond.fieldLink RX5 29 "OutageBookModel" "weightsFor" "[I") (List.mem_of_getElem? (i := 1) rfl)) (fun _ h9 => h9) rfl dX5_argue_37 ?_
      refine lv_iload_n hx hb dX5_argue_40 rfl (lv_at hl 1 rfl) ?_
      refine lv_dup2_11 hx hb dX5_argue_41 rfl rfl ?_
      refine ob_iald hx hb hK hP 7 0 rfl rfl (by omega) (by decide) dX5_argue_42 ?_
      have k52 : ∀ (v : Int32), (v = if b3 then x2 else nI 0) → ∀ ls : Array Slot, lv_has ls 4 [(0, .ref (ar 0)), (1, .int (nI j)), (2, .int x2), (3, .int (ob_bi b3))] → W p l e (headSpec wsX5_argue ({ frames := 2, cells := 0, slots := 0, locals := 43 } : Room)).room s m ([.ref (ar 0), .int x1, .int x2, .int (ob_bi b3)] : List Value).toArray below meth c H locs 0 0 (MQ below (va_Qi (fun (r : Int32) (_ : Unit) => r = if ob_hd rn x1 && ob_wi x2 (nI 1) (nI 100) then (wf x1.toNatClampNeg + if b3 then x2 else nI 0) - (wa x1.toNatClampNeg + if b3 then nI 0 else x2) else nI 0) (fun (_ : Unit) (t9 : State) => va_P D vwCl (ob_wR t ar Bd Tr rn rcl rrd rsv rpb (if ob_hd rn x1 && ob_wi x2 (nI 1) (nI 100) then upd wf x1.toNatClampNeg (wf x1.toNatClampNeg + if b3 then x2 else nI 0) else wf) (if ob_hd rn x1 && ob_wi x2 (nI 1) (nI 100) then upd wa x1.toNatClampNeg (wa x1.toNatClampNeg + if b3 then nI 0 else x2) else wa) ro ah ct rmn rms rmf rmt rmp rcn sd V (nI (ob_z2 (ob_hd rn x1) (ob_wi x2 (nI 1) (nI 100))))) t9.heap) (va_A (ob_wR t ar Bd Tr rn rcl rrd rsv rpb wf wa ro ah ct rmn rms rmf rmt rmp rcn sd V th) sz)) ([.ref (ar 0), .int x1, .int x2, .int (ob_bi b3)] : List Value).toArray s 0 0 (va_A (ob_wR t ar Bd Tr rn rcl rrd rsv rpb wf wa ro ah ct rmn rms rmf rmt rmp rcn sd V th) sz)) (F0 m 52 ls [.int v, .int (wf j), .int (nI j), .ref (ar 7)]) := by
        intro v hv ls hl
        refine lv_iadd hx hb dX5_argue_52 ?_
        refine ob_iast hx hb hK hP hD hS 7 0 rfl rfl (by omega) (by decide) dX5_argue_53 (fun H locs hP hD hS => ?_)
        have hP : va_P D vwCl (ob_wR t ar Bd Tr rn rcl rrd rsv rpb (upd wf j ((wf j) + v)) wa ro ah ct rmn rms rmf rmt rmp rcn sd V (nI (ob_z2 (ob_hd rn x1) (ob_wi x2 (nI 1) (nI 100))))) H := hP
        have hD : va_D (va_A (ob_wR t ar Bd Tr rn rcl rrd rsv rpb wf wa ro ah ct rmn rms rmf rmt rmp rcn sd V th) sz) (ob_wR t ar Bd Tr rn rcl rrd rsv rpb (upd wf j ((wf j) + v)) wa ro ah ct rmn rms rmf rmt rmp rcn sd V (nI (ob_z2 (ob_hd rn x1) (ob_wi x2 (nI 1) (nI 100))))) := hD
        refine lv_aload_n hx hb dX5_argue_54 rfl (lv_at hl 0 rfl) ?_
        refine va_get (ci := 5) (C := RX5) (T := TX5) (N := 21) hx hb hts (fun w h => List.mem_cons_of_mem _ (List.mem_append_right _ (h))) hown hK hP 0 rfl rfl 8 (by decide) (hts (Cond.fieldLink RX5 32 "OutageBookModel" "weightsAgainst" "[I") (List.mem_of_getElem? (i := 2) rfl)) (fun _ h9 => h9) rfl dX5_argue_55 ?_
        refine lv_iload_n hx hb dX5_argue_58 rfl (lv_at hl 1 rfl) ?_
        refine lv_dup2_11 hx hb dX5_argue_59 rfl rfl ?_
        refine ob_iald hx hb hK hP 8 0 rfl rfl (by omega) (by decide) dX5_argue_60 ?_
        have k70 : ∀ (u : Int32), (u = if b3 then nI 0 else x2) → ∀ ls : Array Slot, lv_has ls 4 [(0, .ref (ar 0)), (1, .int (nI j)), (2, .int x2), (3, .int (ob_bi b3))] → W p l e (headSpec wsX5_argue ({ frames := 2, cells := 0, slots := 0, locals := 43 } : Room)).room s m ([.ref (ar 0), .int x1, .int x2, .int (ob_bi b3)] : List Value).toArray below meth c H locs 0 0 (MQ below (va_Qi (fun (r : Int32) (_ : Unit) => r = if ob_hd rn x1 && ob_wi x2 (nI 1) (nI 100) then (wf x1.toNatClampNeg + if b3 then x2 else nI 0) - (wa x1.toNatClampNeg + if b3 then nI 0 else x2) else nI 0) (fun (_ : Unit) (t9 : State) => va_P D vwCl (ob_wR t ar Bd Tr rn rcl rrd rsv rpb (if ob_hd rn x1 && ob_wi x2 (nI 1) (nI 100) then upd wf x1.toNatClampNeg (wf x1.toNatClampNeg + if b3 then x2 else nI 0) else wf) (if ob_hd rn x1 && ob_wi x2 (nI 1) (nI 100) then upd wa x1.toNatClampNeg (wa x1.toNatClampNeg + if b3 then nI 0 else x2) else wa) ro ah ct rmn rms rmf rmt rmp rcn sd V (nI (ob_z2 (ob_hd rn x1) (ob_wi x2 (nI 1) (nI 100))))) t9.heap) (va_A (ob_wR t ar Bd Tr rn rcl rrd rsv rpb wf wa ro ah ct rmn rms rmf rmt rmp rcn sd V th) sz)) ([.ref (ar 0), .int x1, .int x2, .int (ob_bi b3)] : List Value).toArray s 0 0 (va_A (ob_wR t ar Bd Tr rn rcl rrd rsv rpb wf wa ro ah ct rmn rms rmf rmt rmp rcn sd V th) sz)) (F0 m 70 ls [.int u, .int (wa j), .int (nI j), .ref (ar 8)]) := by
          intro u hu ls hl
          refine lv_iadd hx hb dX5_argue_70 ?_
          refine ob_iast hx hb hK hP hD hS 8 0 rfl rfl (by omega) (by decide) dX5_argue_71 (fun H locs hP hD hS => ?_)
          have hP : va_P D vwCl (ob_wR t ar Bd Tr rn rcl rrd rsv rpb (upd wf j ((wf j) + v)) (upd wa j ((wa j) + u)) ro ah ct rmn rms rmf rmt rmp rcn sd V (nI (ob_z2 (ob_hd rn x1) (ob_wi x2 (nI 1) (nI 100))))) H := hP
          have hD : va_D (va_A (ob_wR t ar Bd Tr rn rcl rrd rsv rpb wf wa ro ah ct rmn rms rmf rmt rmp rcn sd V th) sz) (ob_wR t ar Bd Tr rn rcl rrd rsv rpb (upd wf j ((wf j) + v)) (upd wa j ((wa j) + u)) ro ah ct rmn rms rmf rmt rmp rcn sd V (nI (ob_z2 (ob_hd rn x1) (ob_wi x2 (nI 1) (nI 100))))) := hD
          refine lv_aload_n hx hb dX5_argue_72 rfl (lv_at hl 0 rfl) ?_
          refine va_get (ci := 5) (C := RX5) (T := TX5) (N := 21) hx hb hts (fun w h => List.mem_cons_of_mem _ (List.mem_append_right _ (h))) hown hK hP 0 rfl rfl 7 (by decide) (hts (Cond.fieldLink RX5 29 "OutageBookModel" "weightsFor" "[I") (List.mem_of_getElem? (i := 1) rfl)) (fun _ h9 => h9) rfl dX5_argue_73 ?_
          refine lv_iload_n hx hb dX5_argue_76 rfl (lv_at hl 1 rfl) ?_
          refine ob_iald hx hb hK hP 7 0 rfl rfl (by omega) (by decide) dX5_argue_77 ?_
          rw [show (upd wf j ((wf j) + v)) j = wf j + v from ob_us]
          refine lv_aload_n hx hb dX5_argue_78 rfl (lv_at hl 0 rfl) ?_
          refine va_get (ci := 5) (C := RX5) (T := TX5) (N := 21) hx hb hts (fun w h => List.mem_cons_of_mem _ (List.mem_append_right _ (h))) hown hK hP 0 rfl rfl 8 (by decide) (hts (Cond.fieldLink RX5 32 "OutageBookModel" "weightsAgainst" "[I") (List.mem_of_getElem? (i := 2) rfl)) (fun _ h9 => h9) rfl dX5_argue_79 ?_
          refine lv_iload_n hx hb dX5_argue_82 rfl (lv_at hl 1 rfl) ?_
          refine ob_iald hx hb hK hP 8 0 rfl rfl (by omega) (by decide) dX5_argue_83 ?_
          rw [show (upd wa j ((wa j) + u)) j = wa j + u from ob_us]
          refine lv_isub hx hb dX5_argue_84 ?_
          exact W.iret (v := (wf j + v) - (wa j + u)) hx hb hr (fun t9 ht hW => ⟨⟨(wf j + v) - (wa j + u), (), rfl, (by rw [c31, e1, ob_cl (show j ≤ 1073741824 by omega), ← hv, ← hu]; rfl), ob_th ht (by rw [c31, e1, ob_cl (show j ≤ 1073741824 by omega), ← hv, ← hu]; rw [e1] at hP; exact hP)⟩, hS.F ht⟩) hS.2.2 dX5_argue_85
        refine lv_iload_n hx hb dX5_argue_61 rfl (lv_at hl 3 rfl) ?_
        refine ob_if_eq (tgt := 69) hx hb dX5_argue_62 (by decide) (fun c62 => ?_) (fun c62 => ?_)
        · refine lv_iload_n hx hb dX5_argue_69 rfl (lv_at hl 2 rfl) ?_
          exact k70 x2 (by rw [c62]; rfl) _ (lv_sub hl [0, 1, 2, 3] rfl)
        · refine lv_iconst (v := nI 0) hx hb dX5_argue_65 (by decide) ?_
          refine lv_goto (tgt := 70) hx hb dX5_argue_66 (by decide) ?_
          exact k70 (nI 0) (by rw [c62]; rfl) _ (lv_sub hl [0, 1, 2, 3] rfl)
      refine lv_iload_n hx hb dX5_argue_43 rfl (lv_at hl 3 rfl) ?_
      refine ob_if_eq (tgt := 51) hx hb dX5_argue_44 (by decide) (fun c44 => ?_) (fun c44 => ?_)
      · refine lv_iconst (v := nI 0) hx hb dX5_argue_51 (by decide) ?_
        exact k52 (nI 0) (by rw [c44]; rfl) _ (lv_sub hl [0, 1, 2, 3] rfl)
      · refine lv_iload_n hx hb dX5_argue_47 rfl (lv_at hl 2 rfl) ?_
        refine lv_goto (tgt := 52) hx hb dX5_argue_48 (by decide) ?_
        exact k52 x2 (by rw [c44]; rfl) _ (lv_sub hl [0, 1, 2, 3] rfl)
    · refine lv_iconst (v := nI 0) hx hb dX5_argue_34 (by decide) ?_
      exact W.iret (v := nI 0) hx hb hr (fun t9 ht hW => ⟨⟨nI 0, (), rfl, (by rw [c31]; rfl), ob_th ht (by rw [c31]; simp only [Bool.false_eq_true, if_false]; exact hP)⟩, hS.F ht⟩) hS.2.2 dX5_argue_35
  refine lv_aload_n hx hb dX5_argue_1 rfl (lv_at hl 0 rfl) ?_
  refine lv_iload_n hx hb dX5_argue_2 rfl (lv_at hl 1 rfl) ?_
  refine vp_callSi (va_Run.run (va_runV (As := [.int x1]) (rest := [.ref (ar 0)]) ⟨hx, hb, hml, hown, hts⟩ (c_X5_isLine l D t ar Bd Tr rn rcl rrd rsv rpb wf wa ro ah ct rmn rms rmf rmt rmp rcn sd V th x1 (by first | assumption | omega)) (cwV 1 hts gX5_argue_X5_isLine rfl rfl rfl (by decide +kernel) ⟨Nat.le_of_ble_eq_true rfl, Nat.le_of_ble_eq_true rfl⟩) (ob_preV (ci := 5) (q0 := 0) hP hk rfl rfl) rfl rfl hl.1 rfl (lv_room (Nat.le_of_ble_eq_true rfl)) dX5_argue_3 ⟨Nat.le_of_ble_eq_true rfl, Nat.le_of_ble_eq_true rfl⟩)) (fun r9 hr9 => ?_)
  subst hr9
  refine ob_if_ne (tgt := 13) hx hb dX5_argue_6 (by decide) (fun c6 => ?_) (fun c6 => ?_)
  · refine lv_iload_n hx hb dX5_argue_13 rfl (lv_at hl 2 rfl) ?_
    refine lv_iconst (v := nI 1) hx hb dX5_argue_14 (by decide) ?_
    refine lv_bipush (v := nI 100) hx hb dX5_argue_15 (by decide) ?_
    refine vp_callSi (va_Run.run (va_runS (As := [.int x2, .int (nI 1), .int (nI 100)]) (rest := [.ref (ar 0)]) ⟨hx, hb, hml, hown, hts⟩ (c_X5_isIn l D t x2 (nI 1) (nI 100)) (va_cwS 3 hts gX5_argue_X5_isIn rfl rfl rfl (by decide +kernel) ⟨Nat.le_of_ble_eq_true rfl, Nat.le_of_ble_eq_true rfl⟩) (ob_preS (hP.sub [] rfl) hk) rfl rfl hl.1 rfl (lv_room (Nat.le_of_ble_eq_true rfl)) dX5_argue_17 ⟨Nat.le_of_ble_eq_true rfl, Nat.le_of_ble_eq_true rfl⟩)) (fun r9 hr9 => ?_)
    subst hr9
    refine ob_if_eq (tgt := 27) hx hb dX5_argue_20 (by decide) (fun c20 => ?_) (fun c20 => ?_)
    · refine lv_iconst (v := nI 2) hx hb dX5_argue_27 (by decide) ?_
      exact k28 2 (by first | (rw [c6]; rfl; done) | (rw [c6, c20]; rfl; done)) _ (lv_sub hl [0, 1, 2, 3] rfl)
    · refine lv_iconst (v := nI 0) hx hb dX5_argue_23 (by decide) ?_
      refine lv_goto (tgt := 28) hx hb dX5_argue_24 (by decide) ?_
      exact k28 0 (by first | (rw [c6]; rfl; done) | (rw [c6, c20]; rfl; done)) _ (lv_sub hl [0, 1, 2, 3] rfl)
  · refine lv_iconst (v := nI 1) hx hb dX5_argue_9 (by decide) ?_
    refine lv_goto (tgt := 28) hx hb dX5_argue_10 (by decide) ?_
    exact k28 1 (by first | (rw [c6]; rfl; done) | (rw [c6, c20]; rfl; done)) _ (lv_sub hl [0, 1, 2, 3] rfl)

set_option maxRecDepth 100000 in
set_option maxHeartbeats 4000000 in
theorem c_X5_isDoubtful (l : Launch) (D : va_G) (t : Nat → ClassId) (sz : Nat) (ar : Nat → Nat) (Bd Tr : Nat → Int32) (rn : Nat) (rcl rrd rsv rpb wf wa ro ah : Nat → Int32) (ct : Nat → Int64) (rmn : Nat) (rms rmf rmt rmp : Nat → Int32) (rcn : Nat) (sd V : Nat → Int32) (th : Int32) (x : Int32) (hrn : rn ≤ 30) : Met l yX5_isDoubtful wsX5_isDoubtful ({ frames := 2, cells := 0, slots := 0, locals := 43 } : Room) (ob_Pm D t (ob_wR t ar Bd Tr rn rcl rrd rsv rpb wf wa ro ah ct rmn rms rmf rmt rmp rcn sd V th) sz [.ref (ar 0), .int x]) (va_Qi (fun (r : Int32) (_ : Unit) => r = ob_bi (ob_hd rn x && decide (wf x.toNatClampNeg < wa x.toNatClampNeg))) (fun (_ : Unit) (t9 : State) => va_P D vwCl (ob_wR t ar Bd Tr rn rcl rrd rsv rpb wf wa ro ah ct rmn rms rmf rmt rmp rcn sd V (nI (ob_z1 (ob_hd rn x)))) t9.heap) (va_A (ob_wR t ar Bd Tr rn rcl rrd rsv rpb wf wa ro ah ct rmn rms rmf rmt rmp rcn sd V th) sz)) 0 0 (va_A (ob_wR t ar Bd Tr rn rcl rrd rsv rpb wf wa ro ah ct rmn rms rmf rmt rmp rcn sd V th) sz) := by
  refine Met.ofW (cc := cX5_isDoubtful) (maxL := 2) (ret := (some .boolean)) (by decide) rfl ?_
  intro p e s m args below meth c s₁ B hml hv
  obtain ⟨rfl, hsz, hP, hk, hD0⟩ := hv
  have hx := B.exec
  have hb := B.bytes
  have hr := B.returns
  have hts := atoms_spec (ws := wsX5_isDoubtful) B.pre
  have hown : s.vm.findClass RX5 = some m.cls := findClass_of_methodNamed B.named
  have hlocks := B.notSynchronized
  have hK := hk.1
  have hD : va_D (va_A (ob_wR t ar Bd Tr rn rcl rrd rsv rpb wf wa ro ah ct rmn rms rmf rmt rmp rcn sd V th) sz) (ob_wR t ar Bd Tr rn rcl rrd rsv rpb wf wa ro ah ct rmn rms rmf rmt rmp rcn sd V th) := hD0.self (sz := sz)
  have hA : ∀ q : Nat, s.heap.size ≤ q → (va_A (ob_wR t ar Bd Tr rn rcl rrd rsv rpb wf wa ro ah ct rmn rms rmf rmt rmp rcn sd V th) sz) q := fun q h => Or.inr (hsz ▸ h)
  have hS : va_S (va_A (ob_wR t ar Bd Tr rn rcl rrd rsv rpb wf wa ro ah ct rmn rms rmf rmt rmp rcn sd V th) sz) s.heap s.heap [] := va_S.rf
  have hl := lv_entry [.ref (ar 0), .int x] (n := 2) (Nat.le_of_ble_eq_true rfl)
  rw [lg_entry_eq]
  generalize (lg_sl [.ref (ar 0), .int x] ++ List.replicate (2 - (lg_sl [.ref (ar 0), .int x]).length) Slot.unset).toArray = ls at hl ⊢
  have hl : lv_has ls 2 [(0, .ref (ar 0)), (1, .int x)] := hl
  have hP : va_P D vwCl (ob_wR t ar Bd Tr rn rcl rrd rsv rpb wf wa ro ah ct rmn rms rmf rmt rmp rcn sd V th) s.heap := hP
  refine lv_aload_n hx hb dX5_isDoubtful_0 rfl (lv_at hl 0 rfl) ?_
  refine lv_aload_n hx hb dX5_isDoubtful_1 rfl (lv_at hl 0 rfl) ?_
  have k14 : ∀ (z : Nat), (z = ob_z1 (ob_hd rn x)) → ∀ ls : Array Slot, lv_has ls 2 [(0, .ref (ar 0)), (1, .int x)] → W p l e (headSpec wsX5_isDoubtful ({ frames := 2, cells := 0, slots := 0, locals := 43 } : Room)).room s m ([.ref (ar 0), .int x] : List Value).toArray below meth c s.heap [] 0 0 (MQ below (va_Qi (fun (r : Int32) (_ : Unit) => r = ob_bi (ob_hd rn x && decide (wf x.toNatClampNeg < wa x.toNatClampNeg))) (fun (_ : Unit) (t9 : State) => va_P D vwCl (ob_wR t ar Bd Tr rn rcl rrd rsv rpb wf wa ro ah ct rmn rms rmf rmt rmp rcn sd V (nI (ob_z1 (ob_hd rn x)))) t9.heap) (va_A (ob_wR t ar Bd Tr rn rcl rrd rsv rpb wf wa ro ah ct rmn rms rmf rmt rmp rcn sd V th) sz)) ([.ref (ar 0), .int x] : List Value).toArray s 0 0 (va_A (ob_wR t ar Bd Tr rn rcl rrd rsv rpb wf wa ro ah ct rmn rms rmf rmt rmp rcn sd V th) sz)) (F0 m 14 ls [.int (nI z), .ref (ar 0)]) := by
    intro z hz ls hl
    subst hz
    have hFc := va_free (wc := ob_wR t ar Bd Tr rn rcl rrd rsv rpb wf wa ro ah ct rmn rms rmf rmt rmp rcn sd V th) hD hS hA [0, 1, 2, 3, 4, 5, 6, 7, 8, 9, 10, 11, 12, 13, 14, 15, 16, 17] rfl
    refine va_calli (va_runV (As := [.int (nI (ob_z1 (ob_hd rn x)))]) (rest := []) ⟨hx, hb, hml, hown, hts⟩ (c_X5_goes l D t s.heap.size ar Bd Tr rn rcl rrd rsv rpb wf wa ro ah ct rmn rms rmf rmt rmp rcn sd V th (nI (ob_z1 (ob_hd rn x)))) (cwV 1 hts gX5_isDoubtful_X5_goes rfl rfl rfl (by decide +kernel) ⟨Nat.le_of_ble_eq_true rfl, Nat.le_of_ble_eq_true rfl⟩) (ob_pmV (ci := 5) (q0 := 0) hP hD hk rfl rfl) rfl rfl hl.1 rfl (lv_room (Nat.le_of_ble_eq_true rfl)) dX5_isDoubtful_14 ⟨Nat.le_of_ble_eq_true rfl, Nat.le_of_ble_eq_true rfl⟩) hS (fun q _ h => hFc q h) hFc (fun r9 u9 t9 H1 locs ht hvm hw9 hB hz1 hk1 hS => ?_)
    rw [ht] at hB
    have hP := ob_jn (ws' := ob_wR t ar Bd Tr rn rcl rrd rsv rpb wf wa ro ah ct rmn rms rmf rmt rmp rcn sd V (nI (ob_z1 (ob_hd rn x)))) hP hD [some 0, some 1, some 2, some 3, some 4, some 5, some 6, some 7, some 8, some 9, some 10, some 11, some 12, some 13, some 14, some 15, some 16, some 17] [0, 1, 2, 3, 4, 5, 6, 7, 8, 9, 10, 11, 12, 13, 14, 15, 16, 17] rfl rfl hk1 hB rfl
    have hD : va_D (va_A (ob_wR t ar Bd Tr rn rcl rrd rsv rpb wf wa ro ah ct rmn rms rmf rmt rmp rcn sd V th) sz) (ob_wR t ar Bd Tr rn rcl rrd rsv rpb wf wa ro ah ct rmn rms rmf rmt rmp rcn sd V (nI (ob_z1 (ob_hd rn x)))) := ob_dR hD
    generalize H1 = H at hP hS ⊢
    subst hw9
    rw [show ob_bi (decide ((nI (ob_z1 (ob_hd rn x))) = 0)) = ob_bi (ob_hd rn x) from ob_dz1 _]
    refine ob_if_eq (tgt := 32) hx hb dX5_isDoubtful_17 (by decide) (fun c17 => ?_) (fun c17 => ?_)
    · refine lv_iconst (v := nI 0) hx hb dX5_isDoubtful_32 (by decide) ?_
      exact W.zret (v := nI 0) hx hb hr rfl (fun t9 ht hW => ⟨⟨nI 0, (), rfl, (by first | (rw [c17]; rfl) | (rw [c17, e1, ob_cl (show j ≤ 1073741824 by omega), c25]; rfl)), ob_th ht hP⟩, hS.F ht⟩) hS.2.2 dX5_isDoubtful_33
    · obtain ⟨j, hj, e1⟩ := ob_hd_t c17
      rw [e1] at hl
      refine lv_aload_n hx hb dX5_isDoubtful_20 rfl (lv_at hl 0 rfl) ?_
      refine lv_iload_n hx hb dX5_isDoubtful_21 rfl (lv_at hl 1 rfl) ?_
      refine vp_callSi (va_Run.run (va_runV (As := [.int (nI j)]) (rest := []) ⟨hx, hb, hml, hown, hts⟩ (c_X5_isDoubted l D t ar Bd Tr rn rcl rrd rsv rpb wf wa ro ah ct rmn rms rmf rmt rmp rcn sd V (nI (ob_z1 (ob_hd rn x))) j (by first | assumption | omega)) (cwV 1 hts gX5_isDoubtful_X5_isDoubted rfl rfl rfl (by decide +kernel) ⟨Nat.le_of_ble_eq_true rfl, Nat.le_of_ble_eq_true rfl⟩) (ob_preV (ci := 5) (q0 := 0) hP hk rfl rfl) rfl rfl hl.1 rfl (lv_room (Nat.le_of_ble_eq_true rfl)) dX5_isDoubtful_22 ⟨Nat.le_of_ble_eq_true rfl, Nat.le_of_ble_eq_true rfl⟩)) (fun r9 hr9 => ?_)
      subst hr9
      refine ob_if_eq (tgt := 32) hx hb dX5_isDoubtful_25 (by decide) (fun c25 => ?_) (fun c25 => ?_)
      · refine lv_iconst (v := nI 0) hx hb dX5_isDoubtful_32 (by decide) ?_
        exact W.zret (v := nI 0) hx hb hr rfl (fun t9 ht hW => ⟨⟨nI 0, (), rfl, (by first | (rw [c17]; rfl) | (rw [c17, e1, ob_cl (show j ≤ 1073741824 by omega), c25]; rfl)), ob_th ht hP⟩, hS.F ht⟩) hS.2.2 dX5_isDoubtful_33
      · refine lv_iconst (v := nI 1) hx hb dX5_isDoubtful_28 (by decide) ?_
        refine lv_goto (tgt := 33) hx hb dX5_isDoubtful_29 (by decide) ?_
        exact W.zret (v := nI 1) hx hb hr rfl (fun t9 ht hW => ⟨⟨nI 1, (), rfl, (by first | (rw [c17]; rfl) | (rw [c17, e1, ob_cl (show j ≤ 1073741824 by omega), c25]; rfl)), ob_th ht hP⟩, hS.F ht⟩) hS.2.2 dX5_isDoubtful_33
  refine lv_iload_n hx hb dX5_isDoubtful_2 rfl (lv_at hl 1 rfl) ?_
  refine vp_callSi (va_Run.run (va_runV (As := [.int x]) (rest := [.ref (ar 0)]) ⟨hx, hb, hml, hown, hts⟩ (c_X5_isLine l D t ar Bd Tr rn rcl rrd rsv rpb wf wa ro ah ct rmn rms rmf rmt rmp rcn sd V th x (by first | assumption | omega)) (cwV 1 hts gX5_isDoubtful_X5_isLine rfl rfl rfl (by decide +kernel) ⟨Nat.le_of_ble_eq_true rfl, Nat.le_of_ble_eq_true rfl⟩) (ob_preV (ci := 5) (q0 := 0) hP hk rfl rfl) rfl rfl hl.1 rfl (lv_room (Nat.le_of_ble_eq_true rfl)) dX5_isDoubtful_3 ⟨Nat.le_of_ble_eq_true rfl, Nat.le_of_ble_eq_true rfl⟩)) (fun r9 hr9 => ?_)
  subst hr9
  refine ob_if_eq (tgt := 13) hx hb dX5_isDoubtful_6 (by decide) (fun c6 => ?_) (fun c6 => ?_)
  · refine lv_iconst (v := nI 1) hx hb dX5_isDoubtful_13 (by decide) ?_
    exact k14 1 (by rw [c6]; rfl) _ (lv_sub hl [0, 1] rfl)
  · refine lv_iconst (v := nI 0) hx hb dX5_isDoubtful_9 (by decide) ?_
    refine lv_goto (tgt := 14) hx hb dX5_isDoubtful_10 (by decide) ?_
    exact k14 0 (by rw [c6]; rfl) _ (lv_sub hl [0, 1] rfl)

set_option maxRecDepth 100000 in
set_option maxHeartbeats 4000000 in
theorem c_X5_story (l : Launch) (D : va_G) (t : Nat → ClassId) (sz : Nat) (ar : Nat → Nat) (Bd Tr : Nat → Int32) (rn : Nat) (rcl rrd rsv rpb wf wa ro ah : Nat → Int32) (ct : Nat → Int64) (rmn : Nat) (rms rmf rmt rmp : Nat → Int32) (rcn : Nat) (sd V : Nat → Int32) (th : Int32) (hrn : rn ≤ 30) : Met l yX5_story wsX5_story ({ frames := 3, cells := 0, slots := 0, locals := 64 } : Room) (ob_Pm D t (ob_wR t ar Bd Tr rn rcl rrd rsv rpb wf wa ro ah ct rmn rms rmf rmt rmp rcn sd V th) sz [.ref (ar 0)]) (va_Qi (fun (r : Int32) (_ : Unit) => r = nI (ob_ct (ob_os rpb wf wa) rn)) (fun (_ : Unit) (t9 : State) => va_P D vwCl (ob_wR t ar Bd Tr rn rcl rrd rsv rpb wf wa ro ah ct rmn rms rmf rmt rmp rcn sd V (nI 0)) t9.heap) (va_A (ob_wR t ar Bd Tr rn rcl rrd rsv rpb wf wa ro ah ct rmn rms rmf rmt rmp rcn sd V th) sz)) 0 0 (va_A (ob_wR t ar Bd Tr rn rcl rrd rsv rpb wf wa ro ah ct rmn rms rmf rmt rmp rcn sd V th) sz) := by
  refine Met.ofW (cc := cX5_story) (maxL := 1) (ret := (some .int)) (by decide) rfl ?_
  intro p e s m args below meth c s₁ B hml hv
  obtain ⟨rfl, hsz, hP, hk, hD0⟩ := hv
  have hx := B.exec
  have hb := B.bytes
  have hr := B.returns
  have hts := atoms_spec (ws := wsX5_story) B.pre
  have hown : s.vm.findClass RX5 = some m.cls := findClass_of_methodNamed B.named
  have hlocks := B.notSynchronized
  have hK := hk.1
  have hD : va_D (va_A (ob_wR t ar Bd Tr rn rcl rrd rsv rpb wf wa ro ah ct rmn rms rmf rmt rmp rcn sd V th) sz) (ob_wR t ar Bd Tr rn rcl rrd rsv rpb wf wa ro ah ct rmn rms rmf rmt rmp rcn sd V th) := hD0.self (sz := sz)
  have hA : ∀ q : Nat, s.heap.size ≤ q → (va_A (ob_wR t ar Bd Tr rn rcl rrd rsv rpb wf wa ro ah ct rmn rms rmf rmt rmp rcn sd V th) sz) q := fun q h => Or.inr (hsz ▸ h)
  have hS : va_S (va_A (ob_wR t ar Bd Tr rn rcl rrd rsv rpb wf wa ro ah ct rmn rms rmf rmt rmp rcn sd V th) sz) s.heap s.heap [] := va_S.rf
  have hl := lv_entry [.ref (ar 0)] (n := 1) (Nat.le_of_ble_eq_true rfl)
  rw [lg_entry_eq]
  generalize (lg_sl [.ref (ar 0)] ++ List.replicate (1 - (lg_sl [.ref (ar 0)]).length) Slot.unset).toArray = ls at hl ⊢
  have hl : lv_has ls 1 [(0, .ref (ar 0))] := hl
  have hP : va_P D vwCl (ob_wR t ar Bd Tr rn rcl rrd rsv rpb wf wa ro ah ct rmn rms rmf rmt rmp rcn sd V th) s.heap := hP
  refine lv_aload_n hx hb dX5_story_0 rfl (lv_at hl 0 rfl) ?_
  refine lv_iconst (v := nI 0) hx hb dX5_story_1 (by decide) ?_
  refine va_put (ci := 5) (v := .int (nI 0)) (ty := .int) (C := RX5) (T := TX5) (N := 21) hx hb hts (fun w h => List.mem_cons_of_mem _ (List.mem_append_right _ (h))) tyX5 tyX5_ok nmX5 hown hK hP hD hS 0 rfl rfl 20 (by decide) (hts (Cond.fieldLink RX5 64 "OutageBookModel" "thrown" "I") (List.mem_of_getElem? (i := 1) rfl)) (fun _ h9 => h9) rfl (by decide +kernel) rfl rfl (Nat.le_of_ble_eq_true rfl) dX5_story_2 (fun H locs hP hD hS => ?_)
  have hP : va_P D vwCl (ob_wR t ar Bd Tr rn rcl rrd rsv rpb wf wa ro ah ct rmn rms rmf rmt rmp rcn sd V (nI 0)) H := hP
  have hD : va_D (va_A (ob_wR t ar Bd Tr rn rcl rrd rsv rpb wf wa ro ah ct rmn rms rmf rmt rmp rcn sd V th) sz) (ob_wR t ar Bd Tr rn rcl rrd rsv rpb wf wa ro ah ct rmn rms rmf rmt rmp rcn sd V (nI 0)) := hD
  refine lv_aload_n hx hb dX5_story_5 rfl (lv_at hl 0 rfl) ?_
  refine vp_callSi (va_Run.run (va_runV (As := []) (rest := []) ⟨hx, hb, hml, hown, hts⟩ (c_X5_storyLines l D t ar Bd Tr rn rcl rrd rsv rpb wf wa ro ah ct rmn rms rmf rmt rmp rcn sd V (nI 0) (by first | assumption | omega)) (cwV 0 hts gX5_story_X5_storyLines rfl rfl rfl (by decide +kernel) ⟨Nat.le_of_ble_eq_true rfl, Nat.le_of_ble_eq_true rfl⟩) (ob_preV (ci := 5) (q0 := 0) hP hk rfl rfl) rfl rfl hl.1 rfl (lv_room (Nat.le_of_ble_eq_true rfl)) dX5_story_6 ⟨Nat.le_of_ble_eq_true rfl, Nat.le_of_ble_eq_true rfl⟩)) (fun r9 hr9 => ?_)
  subst hr9
  exact W.iret (v := nI (ob_ct (ob_os rpb wf wa) rn)) hx hb hr (fun t9 ht hW => ⟨⟨nI (ob_ct (ob_os rpb wf wa) rn), (), rfl, rfl, ob_th ht hP⟩, hS.F ht⟩) hS.2.2 dX5_story_9

set_option maxRecDepth 100000 in
set_option maxHeartbeats 4000000 in
theorem c_X5_storyAt (l : Launch) (D : va_G) (t : Nat → ClassId) (sz : Nat) (ar : Nat → Nat) (Bd Tr : Nat → Int32) (rn : Nat) (rcl rrd rsv rpb wf wa ro ah : Nat → Int32) (ct : Nat → Int64) (rmn : Nat) (rms rmf rmt rmp : Nat → Int32) (rcn : Nat) (sd V : Nat → Int32) (th : Int32) (kc : Nat → Nat) (pm : Nat → Nat) (x : Int32) (hrn : rn ≤ 30) (hkc : ∀ k, rcl k = nI (kc k) ∧ kc k ≤ 4) (hpm : ∀ k, k < rn → ob_ro2 Bd kc rrd rn ro rn k = nI (pm k) ∧ pm k < rn) : Met l yX5_storyAt wsX5_storyAt ({ frames := 3, cells := 0, slots := 0, locals := 64 } : Room) (ob_Pm D t (ob_wR t ar Bd Tr rn rcl rrd rsv rpb wf wa ro ah ct rmn rms rmf rmt rmp rcn sd V th) sz [.ref (ar 0), .int x]) (va_Qi (fun (r : Int32) (_ : Unit) => (ob_hd (ob_ct (ob_os rpb wf wa) rn) x = false ∧ r = nI 0) ∨ (ob_hd (ob_ct (ob_os rpb wf wa) rn) x = true ∧ ((∃ k, k < rn ∧ (fun k => ob_os rpb wf wa (pm k)) k = true ∧ nI (ob_ct (fun k => ob_os rpb wf wa (pm k)) k) = x ∧ r = nI (pm k)) ∨ ((∀ k, k < rn → (fun k => ob_os rpb wf wa (pm k)) k = true → ¬ nI (ob_ct (fun k => ob_os rpb wf wa (pm k)) k) = x) ∧ r = -1)))) (fun (_ : Unit) (t9 : State) => va_P D vwCl (ob_wR t ar Bd Tr rn rcl rrd rsv rpb wf wa (if ob_hd (ob_ct (ob_os rpb wf wa) rn) x then ob_ro2 Bd kc rrd rn ro rn else ro) ah ct rmn rms rmf rmt rmp rcn sd V (nI (ob_z1 (ob_hd (ob_ct (ob_os rpb wf wa) rn) x)))) t9.heap) (va_A (ob_wR t ar Bd Tr rn rcl rrd rsv rpb wf wa ro ah ct rmn rms rmf rmt rmp rcn sd V th) sz)) 0 0 (va_A (ob_wR t ar Bd Tr rn rcl rrd rsv rpb wf wa ro ah ct rmn rms rmf rmt rmp rcn sd V th) sz) := by
  refine Met.ofW (cc := cX5_storyAt) (maxL := 6) (ret := (some .int)) (by decide) rfl ?_
  intro p e s m args below meth c s₁ B hml hv
  obtain ⟨rfl, hsz, hP, hk, hD0⟩ := hv
  have hx := B.exec
  have hb := B.bytes
  have hr := B.returns
  have hts := atoms_spec (ws := wsX5_storyAt) B.pre
  have hown : s.vm.findClass RX5 = some m.cls := findClass_of_methodNamed B.named
  have hlocks := B.notSynchronized
  have hK := hk.1
  have hD : va_D (va_A (ob_wR t ar Bd Tr rn rcl rrd rsv rpb wf wa ro ah ct rmn rms rmf rmt rmp rcn sd V th) sz) (ob_wR t ar Bd Tr rn rcl rrd rsv rpb wf wa ro ah ct rmn rms rmf rmt rmp rcn sd V th) := hD0.self (sz := sz)
  have hA : ∀ q : Nat, s.heap.size ≤ q → (va_A (ob_wR t ar Bd Tr rn rcl rrd rsv rpb wf wa ro ah ct rmn rms rmf rmt rmp rcn sd V th) sz) q := fun q h => Or.inr (hsz ▸ h)
  have hS : va_S (va_A (ob_wR t ar Bd Tr rn rcl rrd rsv rpb wf wa ro ah ct rmn rms rmf rmt rmp rcn sd V th) sz) s.heap s.heap [] := va_S.rf
  have hl := lv_entry [.ref (ar 0), .int x] (n := 6) (Nat.le_of_ble_eq_true rfl)
  rw [lg_entry_eq]
  generalize (lg_sl [.ref (ar 0), .int x] ++ List.replicate (6 - (lg_sl [.ref (ar 0), .int x]).length) Slot.unset).toArray = ls at hl ⊢
  have hl : lv_has ls 6 [(0, .ref (ar 0)), (1, .int x)] := hl
  have hP : va_P D vwCl (ob_wR t ar Bd Tr rn rcl rrd rsv rpb wf wa ro ah ct rmn rms rmf rmt rmp rcn sd V th) s.heap := hP
  refine lv_aload_n hx hb dX5_storyAt_0 rfl (lv_at hl 0 rfl) ?_
  have k20 : ∀ (z : Nat), (z = ob_z1 (ob_hd (ob_ct (ob_os rpb wf wa) rn) x)) → ∀ ls : Array Slot, lv_has ls 6 [(0, .ref (ar 0)), (1, .int x)] → W p l e (headSpec wsX5_storyAt ({ frames := 3, cells := 0, slots := 0, locals := 64 } : Room)).room s m ([.ref (ar 0), .int x] : List Value).toArray below meth c s.heap [] 0 0 (MQ below (va_Qi (fun (r : Int32) (_ : Unit) => (ob_hd (ob_ct (ob_os rpb wf wa) rn) x = false ∧ r = nI 0) ∨ (ob_hd (ob_ct (ob_os rpb wf wa) rn) x = true ∧ ((∃ k, k < rn ∧ (fun k => ob_os rpb wf wa (pm k)) k = true ∧ nI (ob_ct (fun k => ob_os rpb wf wa (pm k)) k) = x ∧ r = nI (pm k)) ∨ ((∀ k, k < rn → (fun k => ob_os rpb wf wa (pm k)) k = true → ¬ nI (ob_ct (fun k => ob_os rpb wf wa (pm k)) k) = x) ∧ r = -1)))) (fun (_ : Unit) (t9 : State) => va_P D vwCl (ob_wR t ar Bd Tr rn rcl rrd rsv rpb wf wa (if ob_hd (ob_ct (ob_os rpb wf wa) rn) x then ob_ro2 Bd kc rrd rn ro rn else ro) ah ct rmn rms rmf rmt rmp rcn sd V (nI (ob_z1 (ob_hd (ob_ct (ob_os rpb wf wa) rn) x)))) t9.heap) (va_A (ob_wR t ar Bd Tr rn rcl rrd rsv rpb wf wa ro ah ct rmn rms rmf rmt rmp rcn sd V th) sz)) ([.ref (ar 0), .int x] : List Value).toArray s 0 0 (va_A (ob_wR t ar Bd Tr rn rcl rrd rsv rpb wf wa ro ah ct rmn rms rmf rmt rmp rcn sd V th) sz)) (F0 m 20 ls [.int (nI z), .ref (ar 0)]) := by
    intro z hz ls hl
    subst hz
    have hFc := va_free (wc := ob_wR t ar Bd Tr rn rcl rrd rsv rpb wf wa ro ah ct rmn rms rmf rmt rmp rcn sd V th) hD hS hA [0, 1, 2, 3, 4, 5, 6, 7, 8, 9, 10, 11, 12, 13, 14, 15, 16, 17] rfl
    refine va_calli (va_runV (As := [.int (nI (ob_z1 (ob_hd (ob_ct (ob_os rpb wf wa) rn) x)))]) (rest := []) ⟨hx, hb, hml, hown, hts⟩ (c_X5_goes l D t s.heap.size ar Bd Tr rn rcl rrd rsv rpb wf wa ro ah ct rmn rms rmf rmt rmp rcn sd V th (nI (ob_z1 (ob_hd (ob_ct (ob_os rpb wf wa) rn) x)))) (cwV 1 hts gX5_storyAt_X5_goes rfl rfl rfl (by decide +kernel) ⟨Nat.le_of_ble_eq_true rfl, Nat.le_of_ble_eq_true rfl⟩) (ob_pmV (ci := 5) (q0 := 0) hP hD hk rfl rfl) rfl rfl hl.1 rfl (lv_room (Nat.le_of_ble_eq_true rfl)) dX5_storyAt_20 ⟨Nat.le_of_ble_eq_true rfl, Nat.le_of_ble_eq_true rfl⟩) hS (fun q _ h => hFc q h) hFc (fun r9 u9 t9 H1 locs ht hvm hw9 hB hz1 hk1 hS => ?_)
    rw [ht] at hB
    have hP := ob_jn (ws' := ob_wR t ar Bd Tr rn rcl rrd rsv rpb wf wa ro ah ct rmn rms rmf rmt rmp rcn sd V (nI (ob_z1 (ob_hd (ob_ct (ob_os rpb wf wa) rn) x)))) hP hD [some 0, some 1, some 2, some 3, some 4, some 5, some 6, some 7, some 8, some 9, some 10, some 11, some 12, some 13, some 14, some 15, some 16, some 17] [0, 1, 2, 3, 4, 5, 6, 7, 8, 9, 10, 11, 12, 13, 14, 15, 16, 17] rfl rfl hk1 hB rfl
    have hD : va_D (va_A (ob_wR t ar Bd Tr rn rcl rrd rsv rpb wf wa ro ah ct rmn rms rmf rmt rmp rcn sd V th) sz) (ob_wR t ar Bd Tr rn rcl rrd rsv rpb wf wa ro ah ct rmn rms rmf rmt rmp rcn sd V (nI (ob_z1 (ob_hd (ob_ct (ob_os rpb wf wa) rn) x)))) := ob_dR hD
    generalize H1 = H at hP hS ⊢
    subst hw9
    rw [show ob_bi (decide ((nI (ob_z1 (ob_hd (ob_ct (ob_os rpb wf wa) rn) x))) = 0)) = ob_bi (ob_hd (ob_ct (ob_os rpb wf wa) rn) x) from ob_dz1 _]
    refine ob_if_ne (tgt := 28) hx hb dX5_storyAt_23 (by decide) (fun c23 => ?_) (fun c23 => ?_)
    · refine lv_aload_n hx hb dX5_storyAt_28 rfl (lv_at hl 0 rfl) ?_
      have hFc := va_free (wc := ob_wR t ar Bd Tr rn rcl rrd rsv rpb wf wa ro ah ct rmn rms rmf rmt rmp rcn sd V (nI (ob_z1 (ob_hd (ob_ct (ob_os rpb wf wa) rn) x)))) hD hS hA [0, 1, 2, 3, 4, 5, 6, 7, 8, 9, 10, 11, 12, 13, 14, 15, 16, 17] rfl
      refine va_callv (va_runV (As := []) (rest := []) ⟨hx, hb, hml, hown, hts⟩ (c_X5_laysOrder l D t H.size ar Bd Tr rn rcl rrd rsv rpb wf wa ro ah ct rmn rms rmf rmt rmp rcn sd V (nI (ob_z1 (ob_hd (ob_ct (ob_os rpb wf wa) rn) x))) kc (by first | assumption | omega) (by first | assumption | omega)) (cwV 0 hts gX5_storyAt_X5_laysOrder rfl rfl rfl (by decide +kernel) ⟨Nat.le_of_ble_eq_true rfl, Nat.le_of_ble_eq_true rfl⟩) (ob_pmV (ci := 5) (q0 := 0) hP hD hk rfl rfl) rfl rfl hl.1 rfl (lv_room (Nat.le_of_ble_eq_true rfl)) dX5_storyAt_29 ⟨Nat.le_of_ble_eq_true rfl, Nat.le_of_ble_eq_true rfl⟩) hS (fun q _ h => hFc q h) hFc (fun u9 t9 H1 locs ht hvm hw9 hB hz1 hk1 hS => ?_)
      rw [ht] at hB
      have hP := ob_jn (ws' := ob_wR t ar Bd Tr rn rcl rrd rsv rpb wf wa (ob_ro2 Bd kc rrd rn ro rn) ah ct rmn rms rmf rmt rmp rcn sd V (nI (ob_z1 (ob_hd (ob_ct (ob_os rpb wf wa) rn) x)))) hP hD [some 0, some 1, some 2, some 3, some 4, some 5, some 6, some 7, some 8, some 9, some 10, some 11, some 12, some 13, some 14, some 15, some 16, some 17] [0, 1, 2, 3, 4, 5, 6, 7, 8, 9, 10, 11, 12, 13, 14, 15, 16, 17] rfl rfl hk1 hB rfl
      have hD : va_D (va_A (ob_wR t ar Bd Tr rn rcl rrd rsv rpb wf wa ro ah ct rmn rms rmf rmt rmp rcn sd V th) sz) (ob_wR t ar Bd Tr rn rcl rrd rsv rpb wf wa (ob_ro2 Bd kc rrd rn ro rn) ah ct rmn rms rmf rmt rmp rcn sd V (nI (ob_z1 (ob_hd (ob_ct (ob_os rpb wf wa) rn) x)))) := ob_dR hD
      generalize H1 = H at hP hS ⊢
      refine lv_iconst (v := (-1)) hx hb dX5_storyAt_32 (by decide) ?_
      refine lv_istore_n (lv' := [(2, .int (-1)), (0, .ref (ar 0)), (1, .int x)]) hx hb dX5_storyAt_33 rfl hl (by decide) rfl (fun ls hl => ?_)
      refine lv_iconst (v := nI 0) hx hb dX5_storyAt_34 (by decide) ?_
      refine lv_istore_n (lv' := [(3, .int (nI 0)), (2, .int (-1)), (0, .ref (ar 0)), (1, .int x)]) hx hb dX5_storyAt_35 rfl hl (by decide) rfl (fun ls hl => ?_)
      refine lv_iconst (v := nI 0) hx hb dX5_storyAt_36 (by decide) ?_
      refine lv_istore (lv' := [(4, .int (nI 0)), (3, .int (nI 0)), (2, .int (-1)), (0, .ref (ar 0)), (1, .int x)]) hx hb dX5_storyAt_37 hl (by decide) rfl (fun ls hl => ?_)
      have k39 : ∀ fu : Nat, ∀ (k w : Nat) (v : Int32), rn - k < fu → (k ≤ rn) → (w = ob_ct (fun k => ob_os rpb wf wa (pm k)) k) → ((∃ i, i < k ∧ (fun k => ob_os rpb wf wa (pm k)) i = true ∧ nI (ob_ct (fun k => ob_os rpb wf wa (pm k)) i) = x ∧ v = nI (pm i)) ∨ ((∀ i, i < k → (fun k => ob_os rpb wf wa (pm k)) i = true → ¬ nI (ob_ct (fun k => ob_os rpb wf wa (pm k)) i) = x) ∧ v = -1)) → ∀ ls : Array Slot, lv_has ls 6 [(0, .ref (ar 0)), (1, .int x), (2, .int v), (3, .int (nI w)), (4, .int (nI k))] → W p l e (headSpec wsX5_storyAt ({ frames := 3, cells := 0, slots := 0, locals := 64 } : Room)).room s m ([.ref (ar 0), .int x] : List Value).toArray below meth c H locs 0 0 (MQ below (va_Qi (fun (r : Int32) (_ : Unit) => (ob_hd (ob_ct (ob_os rpb wf wa) rn) x = false ∧ r = nI 0) ∨ (ob_hd (ob_ct (ob_os rpb wf wa) rn) x = true ∧ ((∃ k, k < rn ∧ (fun k => ob_os rpb wf wa (pm k)) k = true ∧ nI (ob_ct (fun k => ob_os rpb wf wa (pm k)) k) = x ∧ r = nI (pm k)) ∨ ((∀ k, k < rn → (fun k => ob_os rpb wf wa (pm k)) k = true → ¬ nI (ob_ct (fun k => ob_os rpb wf wa (pm k)) k) = x) ∧ r = -1)))) (fun (_ : Unit) (t9 : State) => va_P D vwCl (ob_wR t ar Bd Tr rn rcl rrd rsv rpb wf wa (if ob_hd (ob_ct (ob_os rpb wf wa) rn) x then ob_ro2 Bd kc rrd rn ro rn else ro) ah ct rmn rms rmf rmt rmp rcn sd V (nI (ob_z1 (ob_hd (ob_ct (ob_os rpb wf wa) rn) x)))) t9.heap) (va_A (ob_wR t ar Bd Tr rn rcl rrd rsv rpb wf wa ro ah ct rmn rms rmf rmt rmp rcn sd V th) sz)) ([.ref (ar 0), .int x] : List Value).toArray s 0 0 (va_A (ob_wR t ar Bd Tr rn rcl rrd rsv rpb wf wa ro ah ct rmn rms rmf rmt rmp rcn sd V th) sz)) (F0 m 39 ls []) := by
        intro fu
        induction fu with
        | zero => intro k w v hfu; exact absurd hfu (Nat.not_lt_zero _)
        | succ fu ih =>
          intro k w v hfu hq hw hv ls hl
          have ih39 := ih
          refine lv_iload hx hb dX5_storyAt_39 (lv_at hl 4 rfl) ?_
          refine lv_aload_n hx hb dX5_storyAt_41 rfl (lv_at hl 0 rfl) ?_
          refine va_get (ci := 5) (C := RX5) (T := TX5) (N := 21) hx hb hts (fun w h => List.mem_cons_of_mem _ (List.mem_append_right _ (h))) hown hK hP 0 rfl rfl 2 (by decide) (hts (Cond.fieldLink RX5 89 "OutageBookModel" "lines" "I") (List.mem_of_getElem? (i := 1) rfl)) (fun _ h9 => h9) rfl dX5_storyAt_42 ?_
          refine ob_icmp_ge (tgt := 102) hx hb (by omega) (by omega) dX5_storyAt_45 (by decide) (fun c45 => ?_) (fun c45 => ?_)
          · obtain rfl : rn = k := by omega
            refine lv_iload_n hx hb dX5_storyAt_102 rfl (lv_at hl 2 rfl) ?_
            exact W.iret (v := v) hx hb hr (fun t9 ht hW => ⟨⟨v, (), rfl, (Or.inr ⟨c23, hv⟩), ob_th ht (by rw [c23] at hP ⊢; exact hP)⟩, hS.F ht⟩) hS.2.2 dX5_storyAt_103
          · refine lv_aload_n hx hb dX5_storyAt_48 rfl (lv_at hl 0 rfl) ?_
            refine lv_aload_n hx hb dX5_storyAt_49 rfl (lv_at hl 0 rfl) ?_
            refine va_get (ci := 5) (C := RX5) (T := TX5) (N := 21) hx hb hts (fun w h => List.mem_cons_of_mem _ (List.mem_append_right _ (h))) hown hK hP 0 rfl rfl 9 (by decide) (hts (Cond.fieldLink RX5 35 "OutageBookModel" "order" "[I") (List.mem_of_getElem? (i := 2) rfl)) (fun _ h9 => h9) rfl dX5_storyAt_50 ?_
            refine lv_iload hx hb dX5_storyAt_53 (lv_at hl 4 rfl) ?_
            refine ob_iald hx hb hK hP 9 0 rfl rfl (by omega) (by decide) dX5_storyAt_55 ?_
            rw [show (ob_ro2 Bd kc rrd rn ro rn) k = nI (pm k) from (hpm k c45).1]
            have hpk := (hpm k c45).2
            refine vp_callSi (va_Run.run (va_runV (As := [.int (nI (pm k))]) (rest := []) ⟨hx, hb, hml, hown, hts⟩ (c_X5_isOfStory l D t ar Bd Tr rn rcl rrd rsv rpb wf wa (ob_ro2 Bd kc rrd rn ro rn) ah ct rmn rms rmf rmt rmp rcn sd V (nI (ob_z1 (ob_hd (ob_ct (ob_os rpb wf wa) rn) x))) (pm k) (by omega)) (cwV 1 hts gX5_storyAt_X5_isOfStory rfl rfl rfl (by decide +kernel) ⟨Nat.le_of_ble_eq_true rfl, Nat.le_of_ble_eq_true rfl⟩) (ob_preV (ci := 5) (q0 := 0) hP hk rfl rfl) rfl rfl hl.1 rfl (lv_room (Nat.le_of_ble_eq_true rfl)) dX5_storyAt_56 ⟨Nat.le_of_ble_eq_true rfl, Nat.le_of_ble_eq_true rfl⟩)) (fun r9 hr9 => ?_)
            subst hr9
            refine lv_istore (lv' := [(5, .int (ob_bi (ob_os rpb wf wa (pm k)))), (0, .ref (ar 0)), (1, .int x), (2, .int v), (3, .int (nI w)), (4, .int (nI k))]) hx hb dX5_storyAt_59 hl (by decide) rfl (fun ls hl => ?_)
            have k82 : ∀ (u : Int32), (u = if ob_os rpb wf wa (pm k) && decide (nI w = x) then nI (pm k) else v) → ∀ ls : Array Slot, lv_has ls 6 [(0, .ref (ar 0)), (1, .int x), (2, .int v), (3, .int (nI w)), (4, .int (nI k)), (5, .int (ob_bi (ob_os rpb wf wa (pm k))))] → W p l e (headSpec wsX5_storyAt ({ frames := 3, cells := 0, slots := 0, locals := 64 } : Room)).room s m ([.ref (ar 0), .int x] : List Value).toArray below meth c H locs 0 0 (MQ below (va_Qi (fun (r : Int32) (_ : Unit) => (ob_hd (ob_ct (ob_os rpb wf wa) rn) x = false ∧ r = nI 0) ∨ (ob_hd (ob_ct (ob_os rpb wf wa) rn) x = true ∧ ((∃ k, k < rn ∧ (fun k => ob_os rpb wf wa (pm k)) k = true ∧ nI (ob_ct (fun k => ob_os rpb wf wa (pm k)) k) = x ∧ r = nI (pm k)) ∨ ((∀ k, k < rn → (fun k => ob_os rpb wf wa (pm k)) k = true → ¬ nI (ob_ct (fun k => ob_os rpb wf wa (pm k)) k) = x) ∧ r = -1)))) (fun (_ : Unit) (t9 : State) => va_P D vwCl (ob_wR t ar Bd Tr rn rcl rrd rsv rpb wf wa (if ob_hd (ob_ct (ob_os rpb wf wa) rn) x then ob_ro2 Bd kc rrd rn ro rn else ro) ah ct rmn rms rmf rmt rmp rcn sd V (nI (ob_z1 (ob_hd (ob_ct (ob_os rpb wf wa) rn) x)))) t9.heap) (va_A (ob_wR t ar Bd Tr rn rcl rrd rsv rpb wf wa ro ah ct rmn rms rmf rmt rmp rcn sd V th) sz)) ([.ref (ar 0), .int x] : List Value).toArray s 0 0 (va_A (ob_wR t ar Bd Tr rn rcl rrd rsv rpb wf wa ro ah ct rmn rms rmf rmt rmp rcn sd V th) sz)) (F0 m 82 ls [.int u]) := by
              intro u hu ls hl
              refine lv_istore_n (lv' := [(2, .int u), (0, .ref (ar 0)), (1, .int x), (3, .int (nI w)), (4, .int (nI k)), (5, .int (ob_bi (ob_os rpb wf wa (pm k))))]) hx hb dX5_storyAt_82 rfl hl (by decide) rfl (fun ls hl => ?_)
              refine lv_iload_n hx hb dX5_storyAt_83 rfl (lv_at hl 3 rfl) ?_
              refine lv_iload hx hb dX5_storyAt_84 (lv_at hl 5 rfl) ?_
              refine ob_if_eq (tgt := 93) hx hb dX5_storyAt_86 (by decide) (fun c86 => ?_) (fun c86 => ?_)
              · refine lv_iconst (v := nI 0) hx hb dX5_storyAt_93 (by decide) ?_
                refine lv_iadd hx hb dX5_storyAt_94 ?_
                rw [show (nI w) + (nI 0) = nI (w + 0) from nI_add _ _]
                refine lv_istore_n (lv' := [(3, .int (nI (w + 0))), (2, .int u), (0, .ref (ar 0)), (1, .int x), (4, .int (nI k)), (5, .int (ob_bi (ob_os rpb wf wa (pm k))))]) hx hb dX5_storyAt_95 rfl hl (by decide) rfl (fun ls hl => ?_)
                refine ob_inc (k := 4) (lv' := [(4, .int (nI (k + 1))), (3, .int (nI (w + 0))), (2, .int u), (0, .ref (ar 0)), (1, .int x), (5, .int (ob_bi (ob_os rpb wf wa (pm k))))]) hx hb dX5_storyAt_96 hl rfl (by decide) rfl (fun ls hl => ?_)
                refine lv_goto (tgt := 39) hx hb dX5_storyAt_99 (by decide) ?_
                exact ih39 (k + 1) (w + 0) u (by omega) (by omega) (by first | (rfl; done) | (simp [ob_ct, c86, hw]; done)) (by first | exact Or.inr ⟨fun i h => absurd h (Nat.not_lt_zero _), rfl⟩ | (rw [hu]; exact ob_sts hw hv)) _ (lv_sub hl [3, 4, 2, 1, 0] rfl)
              · refine lv_iconst (v := nI 1) hx hb dX5_storyAt_89 (by decide) ?_
                refine lv_goto (tgt := 94) hx hb dX5_storyAt_90 (by decide) ?_
                refine lv_iadd hx hb dX5_storyAt_94 ?_
                rw [show (nI w) + (nI 1) = nI (w + 1) from nI_add _ _]
                refine lv_istore_n (lv' := [(3, .int (nI (w + 1))), (2, .int u), (0, .ref (ar 0)), (1, .int x), (4, .int (nI k)), (5, .int (ob_bi (ob_os rpb wf wa (pm k))))]) hx hb dX5_storyAt_95 rfl hl (by decide) rfl (fun ls hl => ?_)
                refine ob_inc (k := 4) (lv' := [(4, .int (nI (k + 1))), (3, .int (nI (w + 1))), (2, .int u), (0, .ref (ar 0)), (1, .int x), (5, .int (ob_bi (ob_os rpb wf wa (pm k))))]) hx hb dX5_storyAt_96 hl rfl (by decide) rfl (fun ls hl => ?_)
                refine lv_goto (tgt := 39) hx hb dX5_storyAt_99 (by decide) ?_
                exact ih39 (k + 1) (w + 1) u (by omega) (by omega) (by first | (rfl; done) | (simp [ob_ct, c86, hw]; done)) (by first | exact Or.inr ⟨fun i h => absurd h (Nat.not_lt_zero _), rfl⟩ | (rw [hu]; exact ob_sts hw hv)) _ (lv_sub hl [3, 4, 2, 1, 0] rfl)
            refine lv_iload hx hb dX5_storyAt_61 (lv_at hl 0 rfl) ?_
            refine ob_if_eq (tgt := 81) hx hb dX5_storyAt_63 (by decide) (fun c63 => ?_) (fun c63 => ?_)
            · refine lv_iload_n hx hb dX5_storyAt_81 rfl (lv_at hl 3 rfl) ?_
              exact k82 v (by first | (rw [c63]; rfl; done) | (rw [c63, decide_eq_false c68]; rfl; done) | (rw [c63, decide_eq_true c68]; rfl; done)) _ (lv_sub hl [1, 2, 3, 4, 5, 0] rfl)
            · refine lv_iload_n hx hb dX5_storyAt_66 rfl (lv_at hl 4 rfl) ?_
              refine lv_iload_n hx hb dX5_storyAt_67 rfl (lv_at hl 2 rfl) ?_
              refine lv_icmp_ne (tgt := 81) hx hb dX5_storyAt_68 (by decide) (fun c68 => ?_) (fun c68 => ?_)
              · refine lv_iload_n hx hb dX5_storyAt_81 rfl (lv_at hl 3 rfl) ?_
                exact k82 v (by first | (rw [c63]; rfl; done) | (rw [c63, decide_eq_false c68]; rfl; done) | (rw [c63, decide_eq_true c68]; rfl; done)) _ (lv_sub hl [1, 2, 3, 4, 5, 0] rfl)
              · refine lv_aload_n hx hb dX5_storyAt_71 rfl (lv_at hl 1 rfl) ?_
                refine va_get (ci := 5) (C := RX5) (T := TX5) (N := 21) hx hb hts (fun w h => List.mem_cons_of_mem _ (List.mem_append_right _ (h))) hown hK hP 0 rfl rfl 9 (by decide) (hts (Cond.fieldLink RX5 35 "OutageBookModel" "order" "[I") (List.mem_of_getElem? (i := 2) rfl)) (fun _ h9 => h9) rfl dX5_storyAt_72 ?_
                refine lv_iload hx hb dX5_storyAt_75 (lv_at hl 5 rfl) ?_
                refine ob_iald hx hb hK hP 9 0 rfl rfl (by omega) (by decide) dX5_storyAt_77 ?_
                rw [show (ob_ro2 Bd kc rrd rn ro rn) k = nI (pm k) from (hpm k c45).1]
                refine lv_goto (tgt := 82) hx hb dX5_storyAt_78 (by decide) ?_
                exact k82 (nI (pm k)) (by first | (rw [c63]; rfl; done) | (rw [c63, decide_eq_false c68]; rfl; done) | (rw [c63, decide_eq_true c68]; rfl; done)) _ (lv_sub hl [1, 2, 3, 4, 5, 0] rfl)
      exact k39 _ 0 0 (-1) (Nat.lt_succ_self _) (by omega) (by first | (rfl; done) | (simp [ob_ct, c86, hw]; done)) (by first | exact Or.inr ⟨fun i h => absurd h (Nat.not_lt_zero _), rfl⟩ | (rw [hu]; exact ob_sts hw hv)) _ (lv_sub hl [3, 4, 2, 1, 0] rfl)
    · refine lv_iconst (v := nI 0) hx hb dX5_storyAt_26 (by decide) ?_
      exact W.iret (v := nI 0) hx hb hr (fun t9 ht hW => ⟨⟨nI 0, (), rfl, (Or.inl ⟨c23, rfl⟩), ob_th ht (by rw [c23] at hP ⊢; exact hP)⟩, hS.F ht⟩) hS.2.2 dX5_storyAt_27
  refine lv_iload_n hx hb dX5_storyAt_1 rfl (lv_at hl 1 rfl) ?_
  refine lv_iconst (v := nI 0) hx hb dX5_storyAt_2 (by decide) ?_
  refine lv_aload_n hx hb dX5_storyAt_3 rfl (lv_at hl 0 rfl) ?_
  refine vp_callSi (va_Run.run (va_runV (As := []) (rest := [.int (nI 0), .int x, .ref (ar 0)]) ⟨hx, hb, hml, hown, hts⟩ (c_X5_storyLines l D t ar Bd Tr rn rcl rrd rsv rpb wf wa ro ah ct rmn rms rmf rmt rmp rcn sd V th (by first | assumption | omega)) (cwV 0 hts gX5_storyAt_X5_storyLines rfl rfl rfl (by decide +kernel) ⟨Nat.le_of_ble_eq_true rfl, Nat.le_of_ble_eq_true rfl⟩) (ob_preV (ci := 5) (q0 := 0) hP hk rfl rfl) rfl rfl hl.1 rfl (lv_room (Nat.le_of_ble_eq_true rfl)) dX5_storyAt_4 ⟨Nat.le_of_ble_eq_true rfl, Nat.le_of_ble_eq_true rfl⟩)) (fun r9 hr9 => ?_)
  subst hr9
  refine lv_iconst (v := nI 1) hx hb dX5_storyAt_7 (by decide) ?_
  refine lv_isub hx hb dX5_storyAt_8 ?_
  refine vp_callSi (va_Run.run (va_runS (As := [.int x, .int (nI 0), .int ((nI (ob_ct (ob_os rpb wf wa) rn)) - (nI 1))]) (rest := [.ref (ar 0)]) ⟨hx, hb, hml, hown, hts⟩ (c_X5_isIn l D t x (nI 0) ((nI (ob_ct (ob_os rpb wf wa) rn)) - (nI 1))) (va_cwS 3 hts gX5_storyAt_X5_isIn rfl rfl rfl (by decide +kernel) ⟨Nat.le_of_ble_eq_true rfl, Nat.le_of_ble_eq_true rfl⟩) (ob_preS (hP.sub [] rfl) hk) rfl rfl hl.1 rfl (lv_room (Nat.le_of_ble_eq_true rfl)) dX5_storyAt_9 ⟨Nat.le_of_ble_eq_true rfl, Nat.le_of_ble_eq_true rfl⟩)) (fun r9 hr9 => ?_)
  subst hr9
  rw [show ob_bi (ob_wi x (nI 0) ((nI (ob_ct (ob_os rpb wf wa) rn)) - (nI 1))) = ob_bi (ob_hd (ob_ct (ob_os rpb wf wa) rn) x) from (by rw [ob_wi_hd (show ob_ct (ob_os rpb wf wa) rn ≤ 1073741823 from Nat.le_trans (ob_ct_le _ _) (by omega))])]
  refine ob_if_eq (tgt := 19) hx hb dX5_storyAt_12 (by decide) (fun c12 => ?_) (fun c12 => ?_)
  · refine lv_iconst (v := nI 1) hx hb dX5_storyAt_19 (by decide) ?_
    exact k20 1 (by rw [c12]; rfl) _ (lv_sub hl [0, 1] rfl)
  · refine lv_iconst (v := nI 0) hx hb dX5_storyAt_15 (by decide) ?_
    refine lv_goto (tgt := 20) hx hb dX5_storyAt_16 (by decide) ?_
    exact k20 0 (by rw [c12]; rfl) _ (lv_sub hl [0, 1] rfl)

set_option maxRecDepth 100000 in
set_option maxHeartbeats 4000000 in
theorem c_X5_earliest (l : Launch) (D : va_G) (t : Nat → ClassId) (sz : Nat) (ar : Nat → Nat) (Bd Tr : Nat → Int32) (rn : Nat) (rcl rrd rsv rpb wf wa ro ah : Nat → Int32) (ct : Nat → Int64) (rmn : Nat) (rms rmf rmt rmp : Nat → Int32) (rcn : Nat) (sd V : Nat → Int32) (th : Int32) (kc : Nat → Nat) (x : Int32) (hrn : rn ≤ 30) (hkc : ∀ k, rcl k = nI (kc k) ∧ kc k ≤ 4) : Met l yX5_earliest wsX5_earliest ({ frames := 2, cells := 0, slots := 0, locals := 43 } : Room) (ob_Pm D t (ob_wR t ar Bd Tr rn rcl rrd rsv rpb wf wa ro ah ct rmn rms rmf rmt rmp rcn sd V th) sz [.ref (ar 0), .int x]) (va_Qi (fun (r : Int32) (_ : Unit) => r = if ob_hd rn x then (if Bd (kc x.toNatClampNeg) = 1000000 then -1000000 else rrd x.toNatClampNeg - Bd (kc x.toNatClampNeg)) else nI 0) (fun (_ : Unit) (t9 : State) => va_P D vwCl (ob_wR t ar Bd Tr rn rcl rrd rsv rpb wf wa ro ah ct rmn rms rmf rmt rmp rcn sd V (nI (ob_z1 (ob_hd rn x)))) t9.heap) (va_A (ob_wR t ar Bd Tr rn rcl rrd rsv rpb wf wa ro ah ct rmn rms rmf rmt rmp rcn sd V th) sz)) 0 0 (va_A (ob_wR t ar Bd Tr rn rcl rrd rsv rpb wf wa ro ah ct rmn rms rmf rmt rmp rcn sd V th) sz) := by
  refine Met.ofW (cc := cX5_earliest) (maxL := 3) (ret := (some .int)) (by decide) rfl ?_
  intro p e s m args below meth c s₁ B hml hv
  obtain ⟨rfl, hsz, hP, hk, hD0⟩ := hv
  have hx := B.exec
  have hb := B.bytes
  have hr := B.returns
  have hts := atoms_spec (ws := wsX5_earliest) B.pre
  have hown : s.vm.findClass RX5 = some m.cls := findClass_of_methodNamed B.named
  have hlocks := B.notSynchronized
  have hK := hk.1
  have hD : va_D (va_A (ob_wR t ar Bd Tr rn rcl rrd rsv rpb wf wa ro ah ct rmn rms rmf rmt rmp rcn sd V th) sz) (ob_wR t ar Bd Tr rn rcl rrd rsv rpb wf wa ro ah ct rmn rms rmf rmt rmp rcn sd V th) := hD0.self (sz := sz)
  have hA : ∀ q : Nat, s.heap.size ≤ q → (va_A (ob_wR t ar Bd Tr rn rcl rrd rsv rpb wf wa ro ah ct rmn rms rmf rmt rmp rcn sd V th) sz) q := fun q h => Or.inr (hsz ▸ h)
  have hS : va_S (va_A (ob_wR t ar Bd Tr rn rcl rrd rsv rpb wf wa ro ah ct rmn rms rmf rmt rmp rcn sd V th) sz) s.heap s.heap [] := va_S.rf
  have hl := lv_entry [.ref (ar 0), .int x] (n := 3) (Nat.le_of_ble_eq_true rfl)
  rw [lg_entry_eq]
  generalize (lg_sl [.ref (ar 0), .int x] ++ List.replicate (3 - (lg_sl [.ref (ar 0), .int x]).length) Slot.unset).toArray = ls at hl ⊢
  have hl : lv_has ls 3 [(0, .ref (ar 0)), (1, .int x)] := hl
  have hP : va_P D vwCl (ob_wR t ar Bd Tr rn rcl rrd rsv rpb wf wa ro ah ct rmn rms rmf rmt rmp rcn sd V th) s.heap := hP
  refine lv_aload_n hx hb dX5_earliest_0 rfl (lv_at hl 0 rfl) ?_
  refine lv_aload_n hx hb dX5_earliest_1 rfl (lv_at hl 0 rfl) ?_
  have k14 : ∀ (z : Nat), (z = ob_z1 (ob_hd rn x)) → ∀ ls : Array Slot, lv_has ls 3 [(0, .ref (ar 0)), (1, .int x)] → W p l e (headSpec wsX5_earliest ({ frames := 2, cells := 0, slots := 0, locals := 43 } : Room)).room s m ([.ref (ar 0), .int x] : List Value).toArray below meth c s.heap [] 0 0 (MQ below (va_Qi (fun (r : Int32) (_ : Unit) => r = if ob_hd rn x then (if Bd (kc x.toNatClampNeg) = 1000000 then -1000000 else rrd x.toNatClampNeg - Bd (kc x.toNatClampNeg)) else nI 0) (fun (_ : Unit) (t9 : State) => va_P D vwCl (ob_wR t ar Bd Tr rn rcl rrd rsv rpb wf wa ro ah ct rmn rms rmf rmt rmp rcn sd V (nI (ob_z1 (ob_hd rn x)))) t9.heap) (va_A (ob_wR t ar Bd Tr rn rcl rrd rsv rpb wf wa ro ah ct rmn rms rmf rmt rmp rcn sd V th) sz)) ([.ref (ar 0), .int x] : List Value).toArray s 0 0 (va_A (ob_wR t ar Bd Tr rn rcl rrd rsv rpb wf wa ro ah ct rmn rms rmf rmt rmp rcn sd V th) sz)) (F0 m 14 ls [.int (nI z), .ref (ar 0)]) := by
    intro z hz ls hl
    subst hz
    have hFc := va_free (wc := ob_wR t ar Bd Tr rn rcl rrd rsv rpb wf wa ro ah ct rmn rms rmf rmt rmp rcn sd V th) hD hS hA [0, 1, 2, 3, 4, 5, 6, 7, 8, 9, 10, 11, 12, 13, 14, 15, 16, 17] rfl
    refine va_calli (va_runV (As := [.int (nI (ob_z1 (ob_hd rn x)))]) (rest := []) ⟨hx, hb, hml, hown, hts⟩ (c_X5_goes l D t s.heap.size ar Bd Tr rn rcl rrd rsv rpb wf wa ro ah ct rmn rms rmf rmt rmp rcn sd V th (nI (ob_z1 (ob_hd rn x)))) (cwV 1 hts gX5_earliest_X5_goes rfl rfl rfl (by decide +kernel) ⟨Nat.le_of_ble_eq_true rfl, Nat.le_of_ble_eq_true rfl⟩) (ob_pmV (ci := 5) (q0 := 0) hP hD hk rfl rfl) rfl rfl hl.1 rfl (lv_room (Nat.le_of_ble_eq_true rfl)) dX5_earliest_14 ⟨Nat.le_of_ble_eq_true rfl, Nat.le_of_ble_eq_true rfl⟩) hS (fun q _ h => hFc q h) hFc (fun r9 u9 t9 H1 locs ht hvm hw9 hB hz1 hk1 hS => ?_)
    rw [ht] at hB
    have hP := ob_jn (ws' := ob_wR t ar Bd Tr rn rcl rrd rsv rpb wf wa ro ah ct rmn rms rmf rmt rmp rcn sd V (nI (ob_z1 (ob_hd rn x)))) hP hD [some 0, some 1, some 2, some 3, some 4, some 5, some 6, some 7, some 8, some 9, some 10, some 11, some 12, some 13, some 14, some 15, some 16, some 17] [0, 1, 2, 3, 4, 5, 6, 7, 8, 9, 10, 11, 12, 13, 14, 15, 16, 17] rfl rfl hk1 hB rfl
    have hD : va_D (va_A (ob_wR t ar Bd Tr rn rcl rrd rsv rpb wf wa ro ah ct rmn rms rmf rmt rmp rcn sd V th) sz) (ob_wR t ar Bd Tr rn rcl rrd rsv rpb wf wa ro ah ct rmn rms rmf rmt rmp rcn sd V (nI (ob_z1 (ob_hd rn x)))) := ob_dR hD
    generalize H1 = H at hP hS ⊢
    subst hw9
    rw [show ob_bi (decide ((nI (ob_z1 (ob_hd rn x))) = 0)) = ob_bi (ob_hd rn x) from ob_dz1 _]
    refine ob_if_ne (tgt := 22) hx hb dX5_earliest_17 (by decide) (fun c17 => ?_) (fun c17 => ?_)
    · obtain ⟨j, hj, e1⟩ := ob_hd_t c17
      rw [e1] at hl
      have hkj := (hkc j).2
      refine lv_aload_n hx hb dX5_earliest_22 rfl (lv_at hl 0 rfl) ?_
      refine va_get (ci := 5) (C := RX5) (T := TX5) (N := 21) hx hb hts (fun w h => List.mem_cons_of_mem _ (List.mem_append_right _ (h))) hown hK hP 0 rfl rfl 0 (by decide) (hts (Cond.fieldLink RX5 7 "OutageBookModel" "bounds" "[I") (List.mem_of_getElem? (i := 1) rfl)) (fun _ h9 => h9) rfl dX5_earliest_23 ?_
      refine lv_aload_n hx hb dX5_earliest_26 rfl (lv_at hl 0 rfl) ?_
      refine va_get (ci := 5) (C := RX5) (T := TX5) (N := 21) hx hb hts (fun w h => List.mem_cons_of_mem _ (List.mem_append_right _ (h))) hown hK hP 0 rfl rfl 3 (by decide) (hts (Cond.fieldLink RX5 16 "OutageBookModel" "clocks" "[I") (List.mem_of_getElem? (i := 2) rfl)) (fun _ h9 => h9) rfl dX5_earliest_27 ?_
      refine lv_iload_n hx hb dX5_earliest_30 rfl (lv_at hl 1 rfl) ?_
      refine ob_iald hx hb hK hP 3 0 rfl rfl (by omega) (by decide) dX5_earliest_31 ?_
      rw [show rcl j = nI (kc j) from (hkc j).1]
      refine ob_iald hx hb hK hP 1 0 rfl rfl (by omega) (by decide) dX5_earliest_32 ?_
      refine lv_istore_n (lv' := [(2, .int (Bd (kc j))), (0, .ref (ar 0)), (1, .int (nI j))]) hx hb dX5_earliest_33 rfl hl (by decide) rfl (fun ls hl => ?_)
      refine lv_iload_n hx hb dX5_earliest_34 rfl (lv_at hl 0 rfl) ?_
      refine lv_ldc (v := 1000000) hx hb hown (hts (Cond.constant RX5 63 (1000000)) (List.mem_of_getElem? (i := 3) rfl)) dX5_earliest_35 ?_
      refine lv_icmp_ne (tgt := 45) hx hb dX5_earliest_37 (by decide) (fun c37 => ?_) (fun c37 => ?_)
      · refine lv_aload_n hx hb dX5_earliest_45 rfl (lv_at hl 1 rfl) ?_
        refine va_get (ci := 5) (C := RX5) (T := TX5) (N := 21) hx hb hts (fun w h => List.mem_cons_of_mem _ (List.mem_append_right _ (h))) hown hK hP 0 rfl rfl 4 (by decide) (hts (Cond.fieldLink RX5 19 "OutageBookModel" "readings" "[I") (List.mem_of_getElem? (i := 5) rfl)) (fun _ h9 => h9) rfl dX5_earliest_46 ?_
        refine lv_iload_n hx hb dX5_earliest_49 rfl (lv_at hl 2 rfl) ?_
        refine ob_iald hx hb hK hP 4 0 rfl rfl (by omega) (by decide) dX5_earliest_50 ?_
        refine lv_iload_n hx hb dX5_earliest_51 rfl (lv_at hl 0 rfl) ?_
        refine lv_isub hx hb dX5_earliest_52 ?_
        exact W.iret (v := (rrd j) - (Bd (kc j))) hx hb hr (fun t9 ht hW => ⟨⟨(rrd j) - (Bd (kc j)), (), rfl, (by first | (rw [c17, e1, ob_cl (show j ≤ 1073741824 by omega), if_pos rfl, if_pos c37]; done) | (rw [c17, e1, ob_cl (show j ≤ 1073741824 by omega), if_pos rfl, if_neg c37]; done)), ob_th ht hP⟩, hS.F ht⟩) hS.2.2 dX5_earliest_53
      · refine lv_ldc (v := -1000000) hx hb hown (hts (Cond.constant RX5 112 (-1000000)) (List.mem_of_getElem? (i := 4) rfl)) dX5_earliest_40 ?_
        refine lv_goto (tgt := 53) hx hb dX5_earliest_42 (by decide) ?_
        exact W.iret (v := -1000000) hx hb hr (fun t9 ht hW => ⟨⟨-1000000, (), rfl, (by first | (rw [c17, e1, ob_cl (show j ≤ 1073741824 by omega), if_pos rfl, if_pos c37]; done) | (rw [c17, e1, ob_cl (show j ≤ 1073741824 by omega), if_pos rfl, if_neg c37]; done)), ob_th ht hP⟩, hS.F ht⟩) hS.2.2 dX5_earliest_53
    · refine lv_iconst (v := nI 0) hx hb dX5_earliest_20 (by decide) ?_
      exact W.iret (v := nI 0) hx hb hr (fun t9 ht hW => ⟨⟨nI 0, (), rfl, (by rw [c17]; rfl), ob_th ht hP⟩, hS.F ht⟩) hS.2.2 dX5_earliest_21
  refine lv_iload_n hx hb dX5_earliest_2 rfl (lv_at hl 1 rfl) ?_
  refine vp_callSi (va_Run.run (va_runV (As := [.int x]) (rest := [.ref (ar 0)]) ⟨hx, hb, hml, hown, hts⟩ (c_X5_isLine l D t ar Bd Tr rn rcl rrd rsv rpb wf wa ro ah ct rmn rms rmf rmt rmp rcn sd V th x (by first | assumption | omega)) (cwV 1 hts gX5_earliest_X5_isLine rfl rfl rfl (by decide +kernel) ⟨Nat.le_of_ble_eq_true rfl, Nat.le_of_ble_eq_true rfl⟩) (ob_preV (ci := 5) (q0 := 0) hP hk rfl rfl) rfl rfl hl.1 rfl (lv_room (Nat.le_of_ble_eq_true rfl)) dX5_earliest_3 ⟨Nat.le_of_ble_eq_true rfl, Nat.le_of_ble_eq_true rfl⟩)) (fun r9 hr9 => ?_)
  subst hr9
  refine ob_if_eq (tgt := 13) hx hb dX5_earliest_6 (by decide) (fun c6 => ?_) (fun c6 => ?_)
  · refine lv_iconst (v := nI 1) hx hb dX5_earliest_13 (by decide) ?_
    exact k14 1 (by rw [c6]; rfl) _ (lv_sub hl [0, 1] rfl)
  · refine lv_iconst (v := nI 0) hx hb dX5_earliest_9 (by decide) ?_
    refine lv_goto (tgt := 14) hx hb dX5_earliest_10 (by decide) ?_
    exact k14 0 (by rw [c6]; rfl) _ (lv_sub hl [0, 1] rfl)

set_option maxRecDepth 100000 in
set_option maxHeartbeats 4000000 in
theorem c_X5_firstOf (l : Launch) (D : va_G) (t : Nat → ClassId) (sz : Nat) (ar : Nat → Nat) (Bd Tr : Nat → Int32) (rn : Nat) (rcl rrd rsv rpb wf wa ro ah : Nat → Int32) (ct : Nat → Int64) (rmn : Nat) (rms rmf rmt rmp : Nat → Int32) (rcn : Nat) (sd V : Nat → Int32) (th : Int32) (kc : Nat → Nat) (pm : Nat → Nat) (x : Int32) (hrn : rn ≤ 30) (hkc : ∀ k, rcl k = nI (kc k) ∧ kc k ≤ 4) (hpm : ∀ k, k < rn → ob_ro2 Bd kc rrd rn ro rn k = nI (pm k) ∧ pm k < rn) : Met l yX5_firstOf wsX5_firstOf ({ frames := 2, cells := 0, slots := 0, locals := 49 } : Room) (ob_Pm D t (ob_wR t ar Bd Tr rn rcl rrd rsv rpb wf wa ro ah ct rmn rms rmf rmt rmp rcn sd V th) sz [.ref (ar 0), .int x]) (va_Qi (fun (r : Int32) (_ : Unit) => (ob_wi x (nI 0) (nI 5) = false ∧ r = nI 0) ∨ (ob_wi x (nI 0) (nI 5) = true ∧ ((∃ k, k < rn ∧ (fun k => decide (rsv (pm k) = x)) k = true ∧ (∀ j, j < k → (fun k => decide (rsv (pm k) = x)) j = false) ∧ r = nI (pm k)) ∨ ((∀ k, k < rn → (fun k => decide (rsv (pm k) = x)) k = false) ∧ r = -1)))) (fun (_ : Unit) (t9 : State) => va_P D vwCl (ob_wR t ar Bd Tr rn rcl rrd rsv rpb wf wa (if ob_wi x (nI 0) (nI 5) then ob_ro2 Bd kc rrd rn ro rn else ro) ah ct rmn rms rmf rmt rmp rcn sd V (nI (ob_z1 (ob_wi x (nI 0) (nI 5))))) t9.heap) (va_A (ob_wR t ar Bd Tr rn rcl rrd rsv rpb wf wa ro ah ct rmn rms rmf rmt rmp rcn sd V th) sz)) 0 0 (va_A (ob_wR t ar Bd Tr rn rcl rrd rsv rpb wf wa ro ah ct rmn rms rmf rmt rmp rcn sd V th) sz) := by
  refine Met.ofW (cc := cX5_firstOf) (maxL := 4) (ret := (some .int)) (by decide) rfl ?_
  intro p e s m args below meth c s₁ B hml hv
  obtain ⟨rfl, hsz, hP, hk, hD0⟩ := hv
  have hx := B.exec
  have hb := B.bytes
  have hr := B.returns
  have hts := atoms_spec (ws := wsX5_firstOf) B.pre
  have hown : s.vm.findClass RX5 = some m.cls := findClass_of_methodNamed B.named
  have hlocks := B.notSynchronized
  have hK := hk.1
  have hD : va_D (va_A (ob_wR t ar Bd Tr rn rcl rrd rsv rpb wf wa ro ah ct rmn rms rmf rmt rmp rcn sd V th) sz) (ob_wR t ar Bd Tr rn rcl rrd rsv rpb wf wa ro ah ct rmn rms rmf rmt rmp rcn sd V th) := hD0.self (sz := sz)
  have hA : ∀ q : Nat, s.heap.size ≤ q → (va_A (ob_wR t ar Bd Tr rn rcl rrd rsv rpb wf wa ro ah ct rmn rms rmf rmt rmp rcn sd V th) sz) q := fun q h => Or.inr (hsz ▸ h)
  have hS : va_S (va_A (ob_wR t ar Bd Tr rn rcl rrd rsv rpb wf wa ro ah ct rmn rms rmf rmt rmp rcn sd V th) sz) s.heap s.heap [] := va_S.rf
  have hl := lv_entry [.ref (ar 0), .int x] (n := 4) (Nat.le_of_ble_eq_true rfl)
  rw [lg_entry_eq]
  generalize (lg_sl [.ref (ar 0), .int x] ++ List.replicate (4 - (lg_sl [.ref (ar 0), .int x]).length) Slot.unset).toArray = ls at hl ⊢
  have hl : lv_has ls 4 [(0, .ref (ar 0)), (1, .int x)] := hl
  have hP : va_P D vwCl (ob_wR t ar Bd Tr rn rcl rrd rsv rpb wf wa ro ah ct rmn rms rmf rmt rmp rcn sd V th) s.heap := hP
  refine lv_aload_n hx hb dX5_firstOf_0 rfl (lv_at hl 0 rfl) ?_
  have k13 : ∀ (z : Nat), (z = ob_z1 (ob_wi x (nI 0) (nI 5))) → ∀ ls : Array Slot, lv_has ls 4 [(0, .ref (ar 0)), (1, .int x)] → W p l e (headSpec wsX5_firstOf ({ frames := 2, cells := 0, slots := 0, locals := 49 } : Room)).room s m ([.ref (ar 0), .int x] : List Value).toArray below meth c s.heap [] 0 0 (MQ below (va_Qi (fun (r : Int32) (_ : Unit) => (ob_wi x (nI 0) (nI 5) = false ∧ r = nI 0) ∨ (ob_wi x (nI 0) (nI 5) = true ∧ ((∃ k, k < rn ∧ (fun k => decide (rsv (pm k) = x)) k = true ∧ (∀ j, j < k → (fun k => decide (rsv (pm k) = x)) j = false) ∧ r = nI (pm k)) ∨ ((∀ k, k < rn → (fun k => decide (rsv (pm k) = x)) k = false) ∧ r = -1)))) (fun (_ : Unit) (t9 : State) => va_P D vwCl (ob_wR t ar Bd Tr rn rcl rrd rsv rpb wf wa (if ob_wi x (nI 0) (nI 5) then ob_ro2 Bd kc rrd rn ro rn else ro) ah ct rmn rms rmf rmt rmp rcn sd V (nI (ob_z1 (ob_wi x (nI 0) (nI 5))))) t9.heap) (va_A (ob_wR t ar Bd Tr rn rcl rrd rsv rpb wf wa ro ah ct rmn rms rmf rmt rmp rcn sd V th) sz)) ([.ref (ar 0), .int x] : List Value).toArray s 0 0 (va_A (ob_wR t ar Bd Tr rn rcl rrd rsv rpb wf wa ro ah ct rmn rms rmf rmt rmp rcn sd V th) sz)) (F0 m 13 ls [.int (nI z), .ref (ar 0)]) := by
    intro z hz ls hl
    subst hz
    have hFc := va_free (wc := ob_wR t ar Bd Tr rn rcl rrd rsv rpb wf wa ro ah ct rmn rms rmf rmt rmp rcn sd V th) hD hS hA [0, 1, 2, 3, 4, 5, 6, 7, 8, 9, 10, 11, 12, 13, 14, 15, 16, 17] rfl
    refine va_calli (va_runV (As := [.int (nI (ob_z1 (ob_wi x (nI 0) (nI 5))))]) (rest := []) ⟨hx, hb, hml, hown, hts⟩ (c_X5_goes l D t s.heap.size ar Bd Tr rn rcl rrd rsv rpb wf wa ro ah ct rmn rms rmf rmt rmp rcn sd V th (nI (ob_z1 (ob_wi x (nI 0) (nI 5))))) (cwV 1 hts gX5_firstOf_X5_goes rfl rfl rfl (by decide +kernel) ⟨Nat.le_of_ble_eq_true rfl, Nat.le_of_ble_eq_true rfl⟩) (ob_pmV (ci := 5) (q0 := 0) hP hD hk rfl rfl) rfl rfl hl.1 rfl (lv_room (Nat.le_of_ble_eq_true rfl)) dX5_firstOf_13 ⟨Nat.le_of_ble_eq_true rfl, Nat.le_of_ble_eq_true rfl⟩) hS (fun q _ h => hFc q h) hFc (fun r9 u9 t9 H1 locs ht hvm hw9 hB hz1 hk1 hS => ?_)
    rw [ht] at hB
    have hP := ob_jn (ws' := ob_wR t ar Bd Tr rn rcl rrd rsv rpb wf wa ro ah ct rmn rms rmf rmt rmp rcn sd V (nI (ob_z1 (ob_wi x (nI 0) (nI 5))))) hP hD [some 0, some 1, some 2, some 3, some 4, some 5, some 6, some 7, some 8, some 9, some 10, some 11, some 12, some 13, some 14, some 15, some 16, some 17] [0, 1, 2, 3, 4, 5, 6, 7, 8, 9, 10, 11, 12, 13, 14, 15, 16, 17] rfl rfl hk1 hB rfl
    have hD : va_D (va_A (ob_wR t ar Bd Tr rn rcl rrd rsv rpb wf wa ro ah ct rmn rms rmf rmt rmp rcn sd V th) sz) (ob_wR t ar Bd Tr rn rcl rrd rsv rpb wf wa ro ah ct rmn rms rmf rmt rmp rcn sd V (nI (ob_z1 (ob_wi x (nI 0) (nI 5))))) := ob_dR hD
    generalize H1 = H at hP hS ⊢
    subst hw9
    rw [show ob_bi (decide ((nI (ob_z1 (ob_wi x (nI 0) (nI 5)))) = 0)) = ob_bi (ob_wi x (nI 0) (nI 5)) from ob_dz1 _]
    refine ob_if_ne (tgt := 21) hx hb dX5_firstOf_16 (by decide) (fun c16 => ?_) (fun c16 => ?_)
    · refine lv_aload_n hx hb dX5_firstOf_21 rfl (lv_at hl 0 rfl) ?_
      have hFc := va_free (wc := ob_wR t ar Bd Tr rn rcl rrd rsv rpb wf wa ro ah ct rmn rms rmf rmt rmp rcn sd V (nI (ob_z1 (ob_wi x (nI 0) (nI 5))))) hD hS hA [0, 1, 2, 3, 4, 5, 6, 7, 8, 9, 10, 11, 12, 13, 14, 15, 16, 17] rfl
      refine va_callv (va_runV (As := []) (rest := []) ⟨hx, hb, hml, hown, hts⟩ (c_X5_laysOrder l D t H.size ar Bd Tr rn rcl rrd rsv rpb wf wa ro ah ct rmn rms rmf rmt rmp rcn sd V (nI (ob_z1 (ob_wi x (nI 0) (nI 5)))) kc (by first | assumption | omega) (by first | assumption | omega)) (cwV 0 hts gX5_firstOf_X5_laysOrder rfl rfl rfl (by decide +kernel) ⟨Nat.le_of_ble_eq_true rfl, Nat.le_of_ble_eq_true rfl⟩) (ob_pmV (ci := 5) (q0 := 0) hP hD hk rfl rfl) rfl rfl hl.1 rfl (lv_room (Nat.le_of_ble_eq_true rfl)) dX5_firstOf_22 ⟨Nat.le_of_ble_eq_true rfl, Nat.le_of_ble_eq_true rfl⟩) hS (fun q _ h => hFc q h) hFc (fun u9 t9 H1 locs ht hvm hw9 hB hz1 hk1 hS => ?_)
      rw [ht] at hB
      have hP := ob_jn (ws' := ob_wR t ar Bd Tr rn rcl rrd rsv rpb wf wa (ob_ro2 Bd kc rrd rn ro rn) ah ct rmn rms rmf rmt rmp rcn sd V (nI (ob_z1 (ob_wi x (nI 0) (nI 5))))) hP hD [some 0, some 1, some 2, some 3, some 4, some 5, some 6, some 7, some 8, some 9, some 10, some 11, some 12, some 13, some 14, some 15, some 16, some 17] [0, 1, 2, 3, 4, 5, 6, 7, 8, 9, 10, 11, 12, 13, 14, 15, 16, 17] rfl rfl hk1 hB rfl
      have hD : va_D (va_A (ob_wR t ar Bd Tr rn rcl rrd rsv rpb wf wa ro ah ct rmn rms rmf rmt rmp rcn sd V th) sz) (ob_wR t ar Bd Tr rn rcl rrd rsv rpb wf wa (ob_ro2 Bd kc rrd rn ro rn) ah ct rmn rms rmf rmt rmp rcn sd V (nI (ob_z1 (ob_wi x (nI 0) (nI 5))))) := ob_dR hD
      generalize H1 = H at hP hS ⊢
      refine lv_iconst (v := (-1)) hx hb dX5_firstOf_25 (by decide) ?_
      refine lv_istore_n (lv' := [(2, .int (-1)), (0, .ref (ar 0)), (1, .int x)]) hx hb dX5_firstOf_26 rfl hl (by decide) rfl (fun ls hl => ?_)
      refine lv_aload_n hx hb dX5_firstOf_27 rfl (lv_at hl 1 rfl) ?_
      refine va_get (ci := 5) (C := RX5) (T := TX5) (N := 21) hx hb hts (fun w h => List.mem_cons_of_mem _ (List.mem_append_right _ (h))) hown hK hP 0 rfl rfl 2 (by decide) (hts (Cond.fieldLink RX5 89 "OutageBookModel" "lines" "I") (List.mem_of_getElem? (i := 1) rfl)) (fun _ h9 => h9) rfl dX5_firstOf_28 ?_
      refine lv_iconst (v := nI 1) hx hb dX5_firstOf_31 (by decide) ?_
      refine lv_isub hx hb dX5_firstOf_32 ?_
      rw [show (nI rn) - (nI 1) = ob_dn rn from rfl]
      refine lv_istore_n (lv' := [(3, .int (ob_dn rn)), (2, .int (-1)), (0, .ref (ar 0)), (1, .int x)]) hx hb dX5_firstOf_33 rfl hl (by decide) rfl (fun ls hl => ?_)
      have k34 : ∀ fu : Nat, ∀ (m9 : Nat) (v : Int32), m9 < fu → (m9 ≤ rn) → ((∃ k, m9 ≤ k ∧ k < rn ∧ (fun k => decide (rsv (pm k) = x)) k = true ∧ (∀ j, m9 ≤ j → j < k → (fun k => decide (rsv (pm k) = x)) j = false) ∧ v = nI (pm k)) ∨ ((∀ k, m9 ≤ k → k < rn → (fun k => decide (rsv (pm k) = x)) k = false) ∧ v = -1)) → ∀ ls : Array Slot, lv_has ls 4 [(0, .ref (ar 0)), (1, .int x), (2, .int v), (3, .int (ob_dn m9))] → W p l e (headSpec wsX5_firstOf ({ frames := 2, cells := 0, slots := 0, locals := 49 } : Room)).room s m ([.ref (ar 0), .int x] : List Value).toArray below meth c H locs 0 0 (MQ below (va_Qi (fun (r : Int32) (_ : Unit) => (ob_wi x (nI 0) (nI 5) = false ∧ r = nI 0) ∨ (ob_wi x (nI 0) (nI 5) = true ∧ ((∃ k, k < rn ∧ (fun k => decide (rsv (pm k) = x)) k = true ∧ (∀ j, j < k → (fun k => decide (rsv (pm k) = x)) j = false) ∧ r = nI (pm k)) ∨ ((∀ k, k < rn → (fun k => decide (rsv (pm k) = x)) k = false) ∧ r = -1)))) (fun (_ : Unit) (t9 : State) => va_P D vwCl (ob_wR t ar Bd Tr rn rcl rrd rsv rpb wf wa (if ob_wi x (nI 0) (nI 5) then ob_ro2 Bd kc rrd rn ro rn else ro) ah ct rmn rms rmf rmt rmp rcn sd V (nI (ob_z1 (ob_wi x (nI 0) (nI 5))))) t9.heap) (va_A (ob_wR t ar Bd Tr rn rcl rrd rsv rpb wf wa ro ah ct rmn rms rmf rmt rmp rcn sd V th) sz)) ([.ref (ar 0), .int x] : List Value).toArray s 0 0 (va_A (ob_wR t ar Bd Tr rn rcl rrd rsv rpb wf wa ro ah ct rmn rms rmf rmt rmp rcn sd V th) sz)) (F0 m 34 ls []) := by
        intro fu
        induction fu with
        | zero => intro m9 v hfu; exact absurd hfu (Nat.not_lt_zero _)
        | succ fu ih =>
          intro m9 v hfu hm hv ls hl
          have ih34 := ih
          refine lv_iload_n hx hb dX5_firstOf_34 rfl (lv_at hl 3 rfl) ?_
          refine lv_if_lt (tgt := 70) hx hb dX5_firstOf_35 (by decide) (fun c35 => ?_) (fun c35 => ?_)
          · obtain rfl : 0 = m9 := (ob_dn_0 c35 (by omega)).symm
            refine lv_iload_n hx hb dX5_firstOf_70 rfl (lv_at hl 2 rfl) ?_
            exact W.iret (v := v) hx hb hr (fun t9 ht hW => ⟨⟨v, (), rfl, (Or.inr ⟨c16, by rcases hv with ⟨k, -, h1, h2, h3, h4⟩ | ⟨h1, h2⟩; exact Or.inl ⟨k, h1, h2, fun j hj => h3 j (Nat.zero_le _) hj, h4⟩; exact Or.inr ⟨fun k hk => h1 k (Nat.zero_le _) hk, h2⟩⟩), ob_th ht (by rw [c16] at hP ⊢; exact hP)⟩, hS.F ht⟩) hS.2.2 dX5_firstOf_71
          · obtain ⟨m0, rfl⟩ := ob_dn_p c35
            rw [ob_dn_s] at hl
            have hpk := (hpm m0 (by omega)).2
            refine lv_aload_n hx hb dX5_firstOf_38 rfl (lv_at hl 0 rfl) ?_
            refine va_get (ci := 5) (C := RX5) (T := TX5) (N := 21) hx hb hts (fun w h => List.mem_cons_of_mem _ (List.mem_append_right _ (h))) hown hK hP 0 rfl rfl 5 (by decide) (hts (Cond.fieldLink RX5 22 "OutageBookModel" "services" "[I") (List.mem_of_getElem? (i := 2) rfl)) (fun _ h9 => h9) rfl dX5_firstOf_39 ?_
            refine lv_aload_n hx hb dX5_firstOf_42 rfl (lv_at hl 0 rfl) ?_
            refine va_get (ci := 5) (C := RX5) (T := TX5) (N := 21) hx hb hts (fun w h => List.mem_cons_of_mem _ (List.mem_append_right _ (h))) hown hK hP 0 rfl rfl 9 (by decide) (hts (Cond.fieldLink RX5 35 "OutageBookModel" "order" "[I") (List.mem_of_getElem? (i := 3) rfl)) (fun _ h9 => h9) rfl dX5_firstOf_43 ?_
            refine lv_iload_n hx hb dX5_firstOf_46 rfl (lv_at hl 3 rfl) ?_
            refine ob_iald hx hb hK hP 9 0 rfl rfl (by omega) (by decide) dX5_firstOf_47 ?_
            rw [show (ob_ro2 Bd kc rrd rn ro rn) m0 = nI (pm m0) from (hpm m0 (by omega)).1]
            refine ob_iald hx hb hK hP 5 0 rfl rfl (by omega) (by decide) dX5_firstOf_48 ?_
            refine lv_iload_n hx hb dX5_firstOf_49 rfl (lv_at hl 1 rfl) ?_
            refine lv_icmp_ne (tgt := 62) hx hb dX5_firstOf_50 (by decide) (fun c50 => ?_) (fun c50 => ?_)
            · refine lv_iload_n hx hb dX5_firstOf_62 rfl (lv_at hl 2 rfl) ?_
              refine lv_istore_n (lv' := [(2, .int v), (0, .ref (ar 0)), (1, .int x), (3, .int (nI m0))]) hx hb dX5_firstOf_63 rfl hl (by decide) rfl (fun ls hl => ?_)
              refine lv_iinc (k := 3) (v := ob_dn m0) (lv' := [(3, .int (ob_dn m0)), (2, .int v), (0, .ref (ar 0)), (1, .int x)]) hx hb dX5_firstOf_64 hl rfl (ob_dn_d m0) (by decide) rfl (fun ls hl => ?_)
              refine lv_goto (tgt := 34) hx hb dX5_firstOf_67 (by decide) ?_
              exact ih34 m0 v (by omega) (by omega) (by first | exact Or.inr ⟨fun k h h2 => absurd h (by omega), rfl⟩ | (refine ob_fds (b := true) (decide_eq_true c50).symm (by omega) hv; done) | (refine ob_fds (b := false) (decide_eq_false c50).symm (by omega) hv; done)) _ (lv_sub hl [2, 3, 1, 0] rfl)
            · refine lv_aload_n hx hb dX5_firstOf_53 rfl (lv_at hl 0 rfl) ?_
              refine va_get (ci := 5) (C := RX5) (T := TX5) (N := 21) hx hb hts (fun w h => List.mem_cons_of_mem _ (List.mem_append_right _ (h))) hown hK hP 0 rfl rfl 9 (by decide) (hts (Cond.fieldLink RX5 35 "OutageBookModel" "order" "[I") (List.mem_of_getElem? (i := 3) rfl)) (fun _ h9 => h9) rfl dX5_firstOf_54 ?_
              refine lv_iload_n hx hb dX5_firstOf_57 rfl (lv_at hl 3 rfl) ?_
              refine ob_iald hx hb hK hP 9 0 rfl rfl (by omega) (by decide) dX5_firstOf_58 ?_
              rw [show (ob_ro2 Bd kc rrd rn ro rn) m0 = nI (pm m0) from (hpm m0 (by omega)).1]
              refine lv_goto (tgt := 63) hx hb dX5_firstOf_59 (by decide) ?_
              refine lv_istore_n (lv' := [(2, .int (nI (pm m0))), (0, .ref (ar 0)), (1, .int x), (3, .int (nI m0))]) hx hb dX5_firstOf_63 rfl hl (by decide) rfl (fun ls hl => ?_)
              refine lv_iinc (k := 3) (v := ob_dn m0) (lv' := [(3, .int (ob_dn m0)), (2, .int (nI (pm m0))), (0, .ref (ar 0)), (1, .int x)]) hx hb dX5_firstOf_64 hl rfl (ob_dn_d m0) (by decide) rfl (fun ls hl => ?_)
              refine lv_goto (tgt := 34) hx hb dX5_firstOf_67 (by decide) ?_
              exact ih34 m0 (nI (pm m0)) (by omega) (by omega) (by first | exact Or.inr ⟨fun k h h2 => absurd h (by omega), rfl⟩ | (refine ob_fds (b := true) (decide_eq_true c50).symm (by omega) hv; done) | (refine ob_fds (b := false) (decide_eq_false c50).symm (by omega) hv; done)) _ (lv_sub hl [2, 3, 1, 0] rfl)
      exact k34 _ rn (-1) (Nat.lt_succ_self _) (by omega) (by first | exact Or.inr ⟨fun k h h2 => absurd h (by omega), rfl⟩ | (refine ob_fds (b := true) (decide_eq_true c50).symm (by omega) hv; done) | (refine ob_fds (b := false) (decide_eq_false c50).symm (by omega) hv; done)) _ (lv_sub hl [2, 3, 1, 0] rfl)
    · refine lv_iconst (v := nI 0) hx hb dX5_firstOf_19 (by decide) ?_
      exact W.iret (v := nI 0) hx hb hr (fun t9 ht hW => ⟨⟨nI 0, (), rfl, (Or.inl ⟨c16, rfl⟩), ob_th ht (by rw [c16] at hP ⊢; exact hP)⟩, hS.F ht⟩) hS.2.2 dX5_firstOf_20
  refine lv_iload_n hx hb dX5_firstOf_1 rfl (lv_at hl 1 rfl) ?_
  refine vp_callSi (va_Run.run (va_runS (As := [.int x]) (rest := [.ref (ar 0)]) ⟨hx, hb, hml, hown, hts⟩ (c_X5_isService l D t x) (va_cwS 1 hts gX5_firstOf_X5_isService rfl rfl rfl (by decide +kernel) ⟨Nat.le_of_ble_eq_true rfl, Nat.le_of_ble_eq_true rfl⟩) (ob_preS (hP.sub [] rfl) hk) rfl rfl hl.1 rfl (lv_room (Nat.le_of_ble_eq_true rfl)) dX5_firstOf_2 ⟨Nat.le_of_ble_eq_true rfl, Nat.le_of_ble_eq_true rfl⟩)) (fun r9 hr9 => ?_)
  subst hr9
  refine ob_if_eq (tgt := 12) hx hb dX5_firstOf_5 (by decide) (fun c5 => ?_) (fun c5 => ?_)
  · refine lv_iconst (v := nI 1) hx hb dX5_firstOf_12 (by decide) ?_
    exact k13 1 (by rw [c5]; rfl) _ (lv_sub hl [0, 1] rfl)
  · refine lv_iconst (v := nI 0) hx hb dX5_firstOf_8 (by decide) ?_
    refine lv_goto (tgt := 13) hx hb dX5_firstOf_9 (by decide) ?_
    exact k13 0 (by rw [c5]; rfl) _ (lv_sub hl [0, 1] rfl)

set_option maxRecDepth 100000 in
set_option maxHeartbeats 4000000 in
theorem c_X5_measure (l : Launch) (D : va_G) (t : Nat → ClassId) (sz : Nat) (ar : Nat → Nat) (Bd Tr : Nat → Int32) (rn : Nat) (rcl rrd rsv rpb wf wa ro ah : Nat → Int32) (ct : Nat → Int64) (rmn : Nat) (rms rmf rmt rmp : Nat → Int32) (rcn : Nat) (sd V : Nat → Int32) (th : Int32) (x1 x2 x3 x4 : Int32) (hrmn : rmn ≤ 40) : Met l yX5_measure wsX5_measure ({ frames := 2, cells := 0, slots := 0, locals := 42 } : Room) (ob_Pm D t (ob_wR t ar Bd Tr rn rcl rrd rsv rpb wf wa ro ah ct rmn rms rmf rmt rmp rcn sd V th) sz [.ref (ar 0), .int x1, .int x2, .int x3, .int x4]) (va_Qi (fun (r : Int32) (_ : Unit) => r = if (ob_wi x1 (nI 0) (nI 5) && (ob_wi x2 (nI 0) (nI 10000) && (ob_wi x3 x2 (nI 10000) && ob_wi x4 (nI 0) (nI 100)))) && !decide (rmn = 40) then nI rmn else nI 0) (fun (_ : Unit) (t9 : State) => va_P D vwCl (ob_wR t ar Bd Tr rn rcl rrd rsv rpb wf wa ro ah ct (if (ob_wi x1 (nI 0) (nI 5) && (ob_wi x2 (nI 0) (nI 10000) && (ob_wi x3 x2 (nI 10000) && ob_wi x4 (nI 0) (nI 100)))) && !decide (rmn = 40) then rmn + 1 else rmn) (if (ob_wi x1 (nI 0) (nI 5) && (ob_wi x2 (nI 0) (nI 10000) && (ob_wi x3 x2 (nI 10000) && ob_wi x4 (nI 0) (nI 100)))) && !decide (rmn = 40) then upd rms rmn x1 else rms) (if (ob_wi x1 (nI 0) (nI 5) && (ob_wi x2 (nI 0) (nI 10000) && (ob_wi x3 x2 (nI 10000) && ob_wi x4 (nI 0) (nI 100)))) && !decide (rmn = 40) then upd rmf rmn x2 else rmf) (if (ob_wi x1 (nI 0) (nI 5) && (ob_wi x2 (nI 0) (nI 10000) && (ob_wi x3 x2 (nI 10000) && ob_wi x4 (nI 0) (nI 100)))) && !decide (rmn = 40) then upd rmt rmn x3 else rmt) (if (ob_wi x1 (nI 0) (nI 5) && (ob_wi x2 (nI 0) (nI 10000) && (ob_wi x3 x2 (nI 10000) && ob_wi x4 (nI 0) (nI 100)))) && !decide (rmn = 40) then upd rmp rmn x4 else rmp) rcn sd V (nI (ob_z2 (ob_wi x1 (nI 0) (nI 5) && (ob_wi x2 (nI 0) (nI 10000) && (ob_wi x3 x2 (nI 10000) && ob_wi x4 (nI 0) (nI 100)))) (!decide (rmn = 40))))) t9.heap) (va_A (ob_wR t ar Bd Tr rn rcl rrd rsv rpb wf wa ro ah ct rmn rms rmf rmt rmp rcn sd V th) sz)) 0 0 (va_A (ob_wR t ar Bd Tr rn rcl rrd rsv rpb wf wa ro ah ct rmn rms rmf rmt rmp rcn sd V th) sz) := by
  refine Met.ofW (cc := cX5_measure) (maxL := 6) (ret := (some .int)) (by decide) rfl ?_
  intro p e s m args below meth c s₁ B hml hv
  obtain ⟨rfl, hsz, hP, hk, hD0⟩ := hv
  have hx := B.exec
  have hb := B.bytes
  have hr := B.returns
  have hts := atoms_spec (ws := wsX5_measure) B.pre
  have hown : s.vm.findClass RX5 = some m.cls := findClass_of_methodNamed B.named
  have hlocks := B.notSynchronized
  have hK := hk.1
  have hD : va_D (va_A (ob_wR t ar Bd Tr rn rcl rrd rsv rpb wf wa ro ah ct rmn rms rmf rmt rmp rcn sd V th) sz) (ob_wR t ar Bd Tr rn rcl rrd rsv rpb wf wa ro ah ct rmn rms rmf rmt rmp rcn sd V th) := hD0.self (sz := sz)
  have hA : ∀ q : Nat, s.heap.size ≤ q → (va_A (ob_wR t ar Bd Tr rn rcl rrd rsv rpb wf wa ro ah ct rmn rms rmf rmt rmp rcn sd V th) sz) q := fun q h => Or.inr (hsz ▸ h)
  have hS : va_S (va_A (ob_wR t ar Bd Tr rn rcl rrd rsv rpb wf wa ro ah ct rmn rms rmf rmt rmp rcn sd V th) sz) s.heap s.heap [] := va_S.rf
  have hl := lv_entry [.ref (ar 0), .int x1, .int x2, .int x3, .int x4] (n := 6) (Nat.le_of_ble_eq_true rfl)
  rw [lg_entry_eq]
  generalize (lg_sl [.ref (ar 0), .int x1, .int x2, .int x3, .int x4] ++ List.replicate (6 - (lg_sl [.ref (ar 0), .int x1, .int x2, .int x3, .int x4]).length) Slot.unset).toArray = ls at hl ⊢
  have hl : lv_has ls 6 [(0, .ref (ar 0)), (1, .int x1), (2, .int x2), (3, .int x3), (4, .int x4)] := hl
  have hP : va_P D vwCl (ob_wR t ar Bd Tr rn rcl rrd rsv rpb wf wa ro ah ct rmn rms rmf rmt rmp rcn sd V th) s.heap := hP
  have k41 : ∀ (b5 : Bool), (b5 = (ob_wi x1 (nI 0) (nI 5) && (ob_wi x2 (nI 0) (nI 10000) && (ob_wi x3 x2 (nI 10000) && ob_wi x4 (nI 0) (nI 100))))) → ∀ ls : Array Slot, lv_has ls 6 [(0, .ref (ar 0)), (1, .int x1), (2, .int x2), (3, .int x3), (4, .int x4)] → W p l e (headSpec wsX5_measure ({ frames := 2, cells := 0, slots := 0, locals := 42 } : Room)).room s m ([.ref (ar 0), .int x1, .int x2, .int x3, .int x4] : List Value).toArray below meth c s.heap [] 0 0 (MQ below (va_Qi (fun (r : Int32) (_ : Unit) => r = if (ob_wi x1 (nI 0) (nI 5) && (ob_wi x2 (nI 0) (nI 10000) && (ob_wi x3 x2 (nI 10000) && ob_wi x4 (nI 0) (nI 100)))) && !decide (rmn = 40) then nI rmn else nI 0) (fun (_ : Unit) (t9 : State) => va_P D vwCl (ob_wR t ar Bd Tr rn rcl rrd rsv rpb wf wa ro ah ct (if (ob_wi x1 (nI 0) (nI 5) && (ob_wi x2 (nI 0) (nI 10000) && (ob_wi x3 x2 (nI 10000) && ob_wi x4 (nI 0) (nI 100)))) && !decide (rmn = 40) then rmn + 1 else rmn) (if (ob_wi x1 (nI 0) (nI 5) && (ob_wi x2 (nI 0) (nI 10000) && (ob_wi x3 x2 (nI 10000) && ob_wi x4 (nI 0) (nI 100)))) && !decide (rmn = 40) then upd rms rmn x1 else rms) (if (ob_wi x1 (nI 0) (nI 5) && (ob_wi x2 (nI 0) (nI 10000) && (ob_wi x3 x2 (nI 10000) && ob_wi x4 (nI 0) (nI 100)))) && !decide (rmn = 40) then upd rmf rmn x2 else rmf) (if (ob_wi x1 (nI 0) (nI 5) && (ob_wi x2 (nI 0) (nI 10000) && (ob_wi x3 x2 (nI 10000) && ob_wi x4 (nI 0) (nI 100)))) && !decide (rmn = 40) then upd rmt rmn x3 else rmt) (if (ob_wi x1 (nI 0) (nI 5) && (ob_wi x2 (nI 0) (nI 10000) && (ob_wi x3 x2 (nI 10000) && ob_wi x4 (nI 0) (nI 100)))) && !decide (rmn = 40) then upd rmp rmn x4 else rmp) rcn sd V (nI (ob_z2 (ob_wi x1 (nI 0) (nI 5) && (ob_wi x2 (nI 0) (nI 10000) && (ob_wi x3 x2 (nI 10000) && ob_wi x4 (nI 0) (nI 100)))) (!decide (rmn = 40))))) t9.heap) (va_A (ob_wR t ar Bd Tr rn rcl rrd rsv rpb wf wa ro ah ct rmn rms rmf rmt rmp rcn sd V th) sz)) ([.ref (ar 0), .int x1, .int x2, .int x3, .int x4] : List Value).toArray s 0 0 (va_A (ob_wR t ar Bd Tr rn rcl rrd rsv rpb wf wa ro ah ct rmn rms rmf rmt rmp rcn sd V th) sz)) (F0 m 41 ls [.int (ob_bi b5)]) := by
    intro b5 h5 ls hl
    subst h5
    refine lv_istore (lv' := [(5, .int (ob_bi (ob_wi x1 (nI 0) (nI 5) && (ob_wi x2 (nI 0) (nI 10000) && (ob_wi x3 x2 (nI 10000) && ob_wi x4 (nI 0) (nI 100)))))), (0, .ref (ar 0)), (1, .int x1), (2, .int x2), (3, .int x3), (4, .int x4)]) hx hb dX5_measure_41 hl (by decide) rfl (fun ls hl => ?_)
    refine lv_aload_n hx hb dX5_measure_43 rfl (lv_at hl 1 rfl) ?_
    have k67 : ∀ (z : Nat), (z = ob_z2 (ob_wi x1 (nI 0) (nI 5) && (ob_wi x2 (nI 0) (nI 10000) && (ob_wi x3 x2 (nI 10000) && ob_wi x4 (nI 0) (nI 100)))) (!decide (rmn = 40))) → ∀ ls : Array Slot, lv_has ls 6 [(0, .ref (ar 0)), (1, .int x1), (2, .int x2), (3, .int x3), (4, .int x4)] → W p l e (headSpec wsX5_measure ({ frames := 2, cells := 0, slots := 0, locals := 42 } : Room)).room s m ([.ref (ar 0), .int x1, .int x2, .int x3, .int x4] : List Value).toArray below meth c s.heap [] 0 0 (MQ below (va_Qi (fun (r : Int32) (_ : Unit) => r = if (ob_wi x1 (nI 0) (nI 5) && (ob_wi x2 (nI 0) (nI 10000) && (ob_wi x3 x2 (nI 10000) && ob_wi x4 (nI 0) (nI 100)))) && !decide (rmn = 40) then nI rmn else nI 0) (fun (_ : Unit) (t9 : State) => va_P D vwCl (ob_wR t ar Bd Tr rn rcl rrd rsv rpb wf wa ro ah ct (if (ob_wi x1 (nI 0) (nI 5) && (ob_wi x2 (nI 0) (nI 10000) && (ob_wi x3 x2 (nI 10000) && ob_wi x4 (nI 0) (nI 100)))) && !decide (rmn = 40) then rmn + 1 else rmn) (if (ob_wi x1 (nI 0) (nI 5) && (ob_wi x2 (nI 0) (nI 10000) && (ob_wi x3 x2 (nI 10000) && ob_wi x4 (nI 0) (nI 100)))) && !decide (rmn = 40) then upd rms rmn x1 else rms) (if (ob_wi x1 (nI 0) (nI 5) && (ob_wi x2 (nI 0) (nI 10000) && (ob_wi x3 x2 (nI 10000) && ob_wi x4 (nI 0) (nI 100)))) && !decide (rmn = 40) then upd rmf rmn x2 else rmf) (if (ob_wi x1 (nI 0) (nI 5) && (ob_wi x2 (nI 0) (nI 10000) && (ob_wi x3 x2 (nI 10000) && ob_wi x4 (nI 0) (nI 100)))) && !decide (rmn = 40) then upd rmt rmn x3 else rmt) (if (ob_wi x1 (nI 0) (nI 5) && (ob_wi x2 (nI 0) (nI 10000) && (ob_wi x3 x2 (nI 10000) && ob_wi x4 (nI 0) (nI 100)))) && !decide (rmn = 40) then upd rmp rmn x4 else rmp) rcn sd V (nI (ob_z2 (ob_wi x1 (nI 0) (nI 5) && (ob_wi x2 (nI 0) (nI 10000) && (ob_wi x3 x2 (nI 10000) && ob_wi x4 (nI 0) (nI 100)))) (!decide (rmn = 40))))) t9.heap) (va_A (ob_wR t ar Bd Tr rn rcl rrd rsv rpb wf wa ro ah ct rmn rms rmf rmt rmp rcn sd V th) sz)) ([.ref (ar 0), .int x1, .int x2, .int x3, .int x4] : List Value).toArray s 0 0 (va_A (ob_wR t ar Bd Tr rn rcl rrd rsv rpb wf wa ro ah ct rmn rms rmf rmt rmp rcn sd V th) sz)) (F0 m 67 ls [.int (nI z), .ref (ar 0)]) := by
      intro z hz ls hl
      subst hz
      have hFc := va_free (wc := ob_wR t ar Bd Tr rn rcl rrd rsv rpb wf wa ro ah ct rmn rms rmf rmt rmp rcn sd V th) hD hS hA [0, 1, 2, 3, 4, 5, 6, 7, 8, 9, 10, 11, 12, 13, 14, 15, 16, 17] rfl
      refine va_calli (va_runV (As := [.int (nI (ob_z2 (ob_wi x1 (nI 0) (nI 5) && (ob_wi x2 (nI 0) (nI 10000) && (ob_wi x3 x2 (nI 10000) && ob_wi x4 (nI 0) (nI 100)))) (!decide (rmn = 40))))]) (rest := []) ⟨hx, hb, hml, hown, hts⟩ (c_X5_goes l D t s.heap.size ar Bd Tr rn rcl rrd rsv rpb wf wa ro ah ct rmn rms rmf rmt rmp rcn sd V th (nI (ob_z2 (ob_wi x1 (nI 0) (nI 5) && (ob_wi x2 (nI 0) (nI 10000) && (ob_wi x3 x2 (nI 10000) && ob_wi x4 (nI 0) (nI 100)))) (!decide (rmn = 40))))) (cwV 1 hts gX5_measure_X5_goes rfl rfl rfl (by decide +kernel) ⟨Nat.le_of_ble_eq_true rfl, Nat.le_of_ble_eq_true rfl⟩) (ob_pmV (ci := 5) (q0 := 0) hP hD hk rfl rfl) rfl rfl hl.1 rfl (lv_room (Nat.le_of_ble_eq_true rfl)) dX5_measure_67 ⟨Nat.le_of_ble_eq_true rfl, Nat.le_of_ble_eq_true rfl⟩) hS (fun q _ h => hFc q h) hFc (fun r9 u9 t9 H1 locs ht hvm hw9 hB hz1 hk1 hS => ?_)
      rw [ht] at hB
      have hP := ob_jn (ws' := ob_wR t ar Bd Tr rn rcl rrd rsv rpb wf wa ro ah ct rmn rms rmf rmt rmp rcn sd V (nI (ob_z2 (ob_wi x1 (nI 0) (nI 5) && (ob_wi x2 (nI 0) (nI 10000) && (ob_wi x3 x2 (nI 10000) && ob_wi x4 (nI 0) (nI 100)))) (!decide (rmn = 40))))) hP hD [some 0, some 1, some 2, some 3, some 4, some 5, some 6, some 7, some 8, some 9, some 10, some 11, some 12, some 13, some 14, some 15, some 16, some 17] [0, 1, 2, 3, 4, 5, 6, 7, 8, 9, 10, 11, 12, 13, 14, 15, 16, 17] rfl rfl hk1 hB rfl
      have hD : va_D (va_A (ob_wR t ar Bd Tr rn rcl rrd rsv rpb wf wa ro ah ct rmn rms rmf rmt rmp rcn sd V th) sz) (ob_wR t ar Bd Tr rn rcl rrd rsv rpb wf wa ro ah ct rmn rms rmf rmt rmp rcn sd V (nI (ob_z2 (ob_wi x1 (nI 0) (nI 5) && (ob_wi x2 (nI 0) (nI 10000) && (ob_wi x3 x2 (nI 10000) && ob_wi x4 (nI 0) (nI 100)))) (!decide (rmn = 40))))) := ob_dR hD
      generalize H1 = H at hP hS ⊢
      subst hw9
      rw [show ob_bi (decide ((nI (ob_z2 (ob_wi x1 (nI 0) (nI 5) && (ob_wi x2 (nI 0) (nI 10000) && (ob_wi x3 x2 (nI 10000) && ob_wi x4 (nI 0) (nI 100)))) (!decide (rmn = 40)))) = 0)) = ob_bi ((ob_wi x1 (nI 0) (nI 5) && (ob_wi x2 (nI 0) (nI 10000) && (ob_wi x3 x2 (nI 10000) && ob_wi x4 (nI 0) (nI 100)))) && !decide (rmn = 40)) from ob_dz2 _ _]
      refine ob_if_ne (tgt := 75) hx hb dX5_measure_70 (by decide) (fun c70 => ?_) (fun c70 => ?_)
      · have h40 : ¬ rmn = 40 := by simpa using (ob_and2 c70).2
        refine lv_aload_n hx hb dX5_measure_75 rfl (lv_at hl 0 rfl) ?_
        refine va_get (ci := 5) (C := RX5) (T := TX5) (N := 21) hx hb hts (fun w h => List.mem_cons_of_mem _ (List.mem_append_right _ (h))) hown hK hP 0 rfl rfl 13 (by decide) (hts (Cond.fieldLink RX5 45 "OutageBookModel" "measured" "[I") (List.mem_of_getElem? (i := 2) rfl)) (fun _ h9 => h9) rfl dX5_measure_76 ?_
        refine lv_aload_n hx hb dX5_measure_79 rfl (lv_at hl 0 rfl) ?_
        refine va_get (ci := 5) (C := RX5) (T := TX5) (N := 21) hx hb hts (fun w h => List.mem_cons_of_mem _ (List.mem_append_right _ (h))) hown hK hP 0 rfl rfl 12 (by decide) (hts (Cond.fieldLink RX5 113 "OutageBookModel" "measures" "I") (List.mem_of_getElem? (i := 1) rfl)) (fun _ h9 => h9) rfl dX5_measure_80 ?_
        refine lv_iload_n hx hb dX5_measure_83 rfl (lv_at hl 1 rfl) ?_
        refine ob_iast hx hb hK hP hD hS 12 0 rfl rfl (by omega) (by decide) dX5_measure_84 (fun H locs hP hD hS => ?_)
        have hP : va_P D vwCl (ob_wR t ar Bd Tr rn rcl rrd rsv rpb wf wa ro ah ct rmn (upd rms rmn x1) rmf rmt rmp rcn sd V (nI (ob_z2 (ob_wi x1 (nI 0) (nI 5) && (ob_wi x2 (nI 0) (nI 10000) && (ob_wi x3 x2 (nI 10000) && ob_wi x4 (nI 0) (nI 100)))) (!decide (rmn = 40))))) H := hP
        have hD : va_D (va_A (ob_wR t ar Bd Tr rn rcl rrd rsv rpb wf wa ro ah ct rmn rms rmf rmt rmp rcn sd V th) sz) (ob_wR t ar Bd Tr rn rcl rrd rsv rpb wf wa ro ah ct rmn (upd rms rmn x1) rmf rmt rmp rcn sd V (nI (ob_z2 (ob_wi x1 (nI 0) (nI 5) && (ob_wi x2 (nI 0) (nI 10000) && (ob_wi x3 x2 (nI 10000) && ob_wi x4 (nI 0) (nI 100)))) (!decide (rmn = 40))))) := hD
        refine lv_aload_n hx hb dX5_measure_85 rfl (lv_at hl 0 rfl) ?_
        refine va_get (ci := 5) (C := RX5) (T := TX5) (N := 21) hx hb hts (fun w h => List.mem_cons_of_mem _ (List.mem_append_right _ (h))) hown hK hP 0 rfl rfl 14 (by decide) (hts (Cond.fieldLink RX5 48 "OutageBookModel" "froms" "[I") (List.mem_of_getElem? (i := 3) rfl)) (fun _ h9 => h9) rfl dX5_measure_86 ?_
        refine lv_aload_n hx hb dX5_measure_89 rfl (lv_at hl 0 rfl) ?_
        refine va_get (ci := 5) (C := RX5) (T := TX5) (N := 21) hx hb hts (fun w h => List.mem_cons_of_mem _ (List.mem_append_right _ (h))) hown hK hP 0 rfl rfl 12 (by decide) (hts (Cond.fieldLink RX5 113 "OutageBookModel" "measures" "I") (List.mem_of_getElem? (i := 1) rfl)) (fun _ h9 => h9) rfl dX5_measure_90 ?_
        refine lv_iload_n hx hb dX5_measure_93 rfl (lv_at hl 2 rfl) ?_
        refine ob_iast hx hb hK hP hD hS 13 0 rfl rfl (by omega) (by decide) dX5_measure_94 (fun H locs hP hD hS => ?_)
        have hP : va_P D vwCl (ob_wR t ar Bd Tr rn rcl rrd rsv rpb wf wa ro ah ct rmn (upd rms rmn x1) (upd rmf rmn x2) rmt rmp rcn sd V (nI (ob_z2 (ob_wi x1 (nI 0) (nI 5) && (ob_wi x2 (nI 0) (nI 10000) && (ob_wi x3 x2 (nI 10000) && ob_wi x4 (nI 0) (nI 100)))) (!decide (rmn = 40))))) H := hP
        have hD : va_D (va_A (ob_wR t ar Bd Tr rn rcl rrd rsv rpb wf wa ro ah ct rmn rms rmf rmt rmp rcn sd V th) sz) (ob_wR t ar Bd Tr rn rcl rrd rsv rpb wf wa ro ah ct rmn (upd rms rmn x1) (upd rmf rmn x2) rmt rmp rcn sd V (nI (ob_z2 (ob_wi x1 (nI 0) (nI 5) && (ob_wi x2 (nI 0) (nI 10000) && (ob_wi x3 x2 (nI 10000) && ob_wi x4 (nI 0) (nI 100)))) (!decide (rmn = 40))))) := hD
        refine lv_aload_n hx hb dX5_measure_95 rfl (lv_at hl 0 rfl) ?_
        refine va_get (ci := 5) (C := RX5) (T := TX5) (N := 21) hx hb hts (fun w h => List.mem_cons_of_mem _ (List.mem_append_right _ (h))) hown hK hP 0 rfl rfl 15 (by decide) (hts (Cond.fieldLink RX5 51 "OutageBookModel" "tos" "[I") (List.mem_of_getElem? (i := 4) rfl)) (fun _ h9 => h9) rfl dX5_measure_96 ?_
        refine lv_aload_n hx hb dX5_measure_99 rfl (lv_at hl 0 rfl) ?_
        refine va_get (ci := 5) (C := RX5) (T := TX5) (N := 21) hx hb hts (fun w h => List.mem_cons_of_mem _ (List.mem_append_right _ (h))) hown hK hP 0 rfl rfl 12 (by decide) (hts (Cond.fieldLink RX5 113 "OutageBookModel" "measures" "I") (List.mem_of_getElem? (i := 1) rfl)) (fun _ h9 => h9) rfl dX5_measure_100 ?_
        refine lv_iload_n hx hb dX5_measure_103 rfl (lv_at hl 3 rfl) ?_
        refine ob_iast hx hb hK hP hD hS 14 0 rfl rfl (by omega) (by decide) dX5_measure_104 (fun H locs hP hD hS => ?_)
        have hP : va_P D vwCl (ob_wR t ar Bd Tr rn rcl rrd rsv rpb wf wa ro ah ct rmn (upd rms rmn x1) (upd rmf rmn x2) (upd rmt rmn x3) rmp rcn sd V (nI (ob_z2 (ob_wi x1 (nI 0) (nI 5) && (ob_wi x2 (nI 0) (nI 10000) && (ob_wi x3 x2 (nI 10000) && ob_wi x4 (nI 0) (nI 100)))) (!decide (rmn = 40))))) H := hP
        have hD : va_D (va_A (ob_wR t ar Bd Tr rn rcl rrd rsv rpb wf wa ro ah ct rmn rms rmf rmt rmp rcn sd V th) sz) (ob_wR t ar Bd Tr rn rcl rrd rsv rpb wf wa ro ah ct rmn (upd rms rmn x1) (upd rmf rmn x2) (upd rmt rmn x3) rmp rcn sd V (nI (ob_z2 (ob_wi x1 (nI 0) (nI 5) && (ob_wi x2 (nI 0) (nI 10000) && (ob_wi x3 x2 (nI 10000) && ob_wi x4 (nI 0) (nI 100)))) (!decide (rmn = 40))))) := hD
        refine lv_aload_n hx hb dX5_measure_105 rfl (lv_at hl 0 rfl) ?_
        refine va_get (ci := 5) (C := RX5) (T := TX5) (N := 21) hx hb hts (fun w h => List.mem_cons_of_mem _ (List.mem_append_right _ (h))) hown hK hP 0 rfl rfl 16 (by decide) (hts (Cond.fieldLink RX5 54 "OutageBookModel" "percents" "[I") (List.mem_of_getElem? (i := 5) rfl)) (fun _ h9 => h9) rfl dX5_measure_106 ?_
        refine lv_aload_n hx hb dX5_measure_109 rfl (lv_at hl 0 rfl) ?_
        refine va_get (ci := 5) (C := RX5) (T := TX5) (N := 21) hx hb hts (fun w h => List.mem_cons_of_mem _ (List.mem_append_right _ (h))) hown hK hP 0 rfl rfl 12 (by decide) (hts (Cond.fieldLink RX5 113 "OutageBookModel" "measures" "I") (List.mem_of_getElem? (i := 1) rfl)) (fun _ h9 => h9) rfl dX5_measure_110 ?_
        refine lv_iload hx hb dX5_measure_113 (lv_at hl 4 rfl) ?_
        refine ob_iast hx hb hK hP hD hS 15 0 rfl rfl (by omega) (by decide) dX5_measure_115 (fun H locs hP hD hS => ?_)
        have hP : va_P D vwCl (ob_wR t ar Bd Tr rn rcl rrd rsv rpb wf wa ro ah ct rmn (upd rms rmn x1) (upd rmf rmn x2) (upd rmt rmn x3) (upd rmp rmn x4) rcn sd V (nI (ob_z2 (ob_wi x1 (nI 0) (nI 5) && (ob_wi x2 (nI 0) (nI 10000) && (ob_wi x3 x2 (nI 10000) && ob_wi x4 (nI 0) (nI 100)))) (!decide (rmn = 40))))) H := hP
        have hD : va_D (va_A (ob_wR t ar Bd Tr rn rcl rrd rsv rpb wf wa ro ah ct rmn rms rmf rmt rmp rcn sd V th) sz) (ob_wR t ar Bd Tr rn rcl rrd rsv rpb wf wa ro ah ct rmn (upd rms rmn x1) (upd rmf rmn x2) (upd rmt rmn x3) (upd rmp rmn x4) rcn sd V (nI (ob_z2 (ob_wi x1 (nI 0) (nI 5) && (ob_wi x2 (nI 0) (nI 10000) && (ob_wi x3 x2 (nI 10000) && ob_wi x4 (nI 0) (nI 100)))) (!decide (rmn = 40))))) := hD
        refine lv_aload_n hx hb dX5_measure_116 rfl (lv_at hl 0 rfl) ?_
        refine lv_dup hx hb dX5_measure_117 rfl ?_
        refine va_get (ci := 5) (C := RX5) (T := TX5) (N := 21) hx hb hts (fun w h => List.mem_cons_of_mem _ (List.mem_append_right _ (h))) hown hK hP 0 rfl rfl 12 (by decide) (hts (Cond.fieldLink RX5 113 "OutageBookModel" "measures" "I") (List.mem_of_getElem? (i := 1) rfl)) (fun _ h9 => h9) rfl dX5_measure_118 ?_
        refine lv_iconst (v := nI 1) hx hb dX5_measure_121 (by decide) ?_
        refine lv_iadd hx hb dX5_measure_122 ?_
        rw [show (nI rmn) + (nI 1) = nI (rmn + 1) from nI_1 rmn]
        refine va_put (ci := 5) (v := .int (nI (rmn + 1))) (ty := .int) (C := RX5) (T := TX5) (N := 21) hx hb hts (fun w h => List.mem_cons_of_mem _ (List.mem_append_right _ (h))) tyX5 tyX5_ok nmX5 hown hK hP hD hS 0 rfl rfl 12 (by decide) (hts (Cond.fieldLink RX5 113 "OutageBookModel" "measures" "I") (List.mem_of_getElem? (i := 1) rfl)) (fun _ h9 => h9) rfl (by decide +kernel) rfl rfl (Nat.le_of_ble_eq_true rfl) dX5_measure_123 (fun H locs hP hD hS => ?_)
        have hP : va_P D vwCl (ob_wR t ar Bd Tr rn rcl rrd rsv rpb wf wa ro ah ct (rmn + 1) (upd rms rmn x1) (upd rmf rmn x2) (upd rmt rmn x3) (upd rmp rmn x4) rcn sd V (nI (ob_z2 (ob_wi x1 (nI 0) (nI 5) && (ob_wi x2 (nI 0) (nI 10000) && (ob_wi x3 x2 (nI 10000) && ob_wi x4 (nI 0) (nI 100)))) (!decide (rmn = 40))))) H := hP
        have hD : va_D (va_A (ob_wR t ar Bd Tr rn rcl rrd rsv rpb wf wa ro ah ct rmn rms rmf rmt rmp rcn sd V th) sz) (ob_wR t ar Bd Tr rn rcl rrd rsv rpb wf wa ro ah ct (rmn + 1) (upd rms rmn x1) (upd rmf rmn x2) (upd rmt rmn x3) (upd rmp rmn x4) rcn sd V (nI (ob_z2 (ob_wi x1 (nI 0) (nI 5) && (ob_wi x2 (nI 0) (nI 10000) && (ob_wi x3 x2 (nI 10000) && ob_wi x4 (nI 0) (nI 100)))) (!decide (rmn = 40))))) := hD
        refine lv_aload_n hx hb dX5_measure_126 rfl (lv_at hl 0 rfl) ?_
        refine va_get (ci := 5) (C := RX5) (T := TX5) (N := 21) hx hb hts (fun w h => List.mem_cons_of_mem _ (List.mem_append_right _ (h))) hown hK hP 0 rfl rfl 12 (by decide) (hts (Cond.fieldLink RX5 113 "OutageBookModel" "measures" "I") (List.mem_of_getElem? (i := 1) rfl)) (fun _ h9 => h9) rfl dX5_measure_127 ?_
        refine lv_iconst (v := nI 1) hx hb dX5_measure_130 (by decide) ?_
        refine lv_isub hx hb dX5_measure_131 ?_
        rw [show (nI (rmn + 1)) - (nI 1) = nI rmn from nI_pred rmn]
        exact W.iret (v := nI rmn) hx hb hr (fun t9 ht hW => ⟨⟨nI rmn, (), rfl, (by rw [c70]; rfl), ob_th ht (by rw [c70]; exact hP)⟩, hS.F ht⟩) hS.2.2 dX5_measure_132
      · refine lv_iconst (v := nI 0) hx hb dX5_measure_73 (by decide) ?_
        exact W.iret (v := nI 0) hx hb hr (fun t9 ht hW => ⟨⟨nI 0, (), rfl, (by rw [c70]; rfl), ob_th ht (by rw [c70]; exact hP)⟩, hS.F ht⟩) hS.2.2 dX5_measure_74
    refine lv_iload hx hb dX5_measure_44 (lv_at hl 0 rfl) ?_
    refine ob_if_ne (tgt := 53) hx hb dX5_measure_46 (by decide) (fun c46 => ?_) (fun c46 => ?_)
    · refine lv_aload_n hx hb dX5_measure_53 rfl (lv_at hl 1 rfl) ?_
      refine va_get (ci := 5) (C := RX5) (T := TX5) (N := 21) hx hb hts (fun w h => List.mem_cons_of_mem _ (List.mem_append_right _ (h))) hown hK hP 0 rfl rfl 12 (by decide) (hts (Cond.fieldLink RX5 113 "OutageBookModel" "measures" "I") (List.mem_of_getElem? (i := 1) rfl)) (fun _ h9 => h9) rfl dX5_measure_54 ?_
      refine lv_bipush (v := nI 40) hx hb dX5_measure_57 (by decide) ?_
      refine ob_icmp_ne (tgt := 66) hx hb (by omega) (by omega) dX5_measure_59 (by decide) (fun c59 => ?_) (fun c59 => ?_)
      · refine lv_iconst (v := nI 0) hx hb dX5_measure_66 (by decide) ?_
        exact k67 0 (by first | (rw [c46]; rfl; done) | (rw [c46, decide_eq_false c59]; rfl; done) | (rw [c46, decide_eq_true c59]; rfl; done)) _ (lv_sub hl [1, 2, 3, 4, 5] rfl)
      · refine lv_iconst (v := nI 2) hx hb dX5_measure_62 (by decide) ?_
        refine lv_goto (tgt := 67) hx hb dX5_measure_63 (by decide) ?_
        exact k67 2 (by first | (rw [c46]; rfl; done) | (rw [c46, decide_eq_false c59]; rfl; done) | (rw [c46, decide_eq_true c59]; rfl; done)) _ (lv_sub hl [1, 2, 3, 4, 5] rfl)
    · refine lv_iconst (v := nI 1) hx hb dX5_measure_49 (by decide) ?_
      refine lv_goto (tgt := 67) hx hb dX5_measure_50 (by decide) ?_
      exact k67 1 (by first | (rw [c46]; rfl; done) | (rw [c46, decide_eq_false c59]; rfl; done) | (rw [c46, decide_eq_true c59]; rfl; done)) _ (lv_sub hl [1, 2, 3, 4, 5] rfl)
  refine lv_iload_n hx hb dX5_measure_0 rfl (lv_at hl 1 rfl) ?_
  refine vp_callSi (va_Run.run (va_runS (As := [.int x1]) (rest := []) ⟨hx, hb, hml, hown, hts⟩ (c_X5_isService l D t x1) (va_cwS 1 hts gX5_measure_X5_isService rfl rfl rfl (by decide +kernel) ⟨Nat.le_of_ble_eq_true rfl, Nat.le_of_ble_eq_true rfl⟩) (ob_preS (hP.sub [] rfl) hk) rfl rfl hl.1 rfl (lv_room (Nat.le_of_ble_eq_true rfl)) dX5_measure_1 ⟨Nat.le_of_ble_eq_true rfl, Nat.le_of_ble_eq_true rfl⟩)) (fun r9 hr9 => ?_)
  subst hr9
  refine ob_if_eq (tgt := 40) hx hb dX5_measure_4 (by decide) (fun c4 => ?_) (fun c4 => ?_)
  · refine lv_iconst (v := nI 0) hx hb dX5_measure_40 (by decide) ?_
    exact k41 false (by first | (rw [c4]; rfl; done) | (rw [c4, c11]; rfl; done) | (rw [c4, c11, c22]; rfl; done) | (rw [c4, c11, c22, c33]; rfl; done)) _ (lv_sub hl [0, 1, 2, 3, 4] rfl)
  · refine lv_iload_n hx hb dX5_measure_7 rfl (lv_at hl 2 rfl) ?_
    refine vp_callSi (va_Run.run (va_runS (As := [.int x2]) (rest := []) ⟨hx, hb, hml, hown, hts⟩ (c_X5_isTime l D t x2) (va_cwS 1 hts gX5_measure_X5_isTime rfl rfl rfl (by decide +kernel) ⟨Nat.le_of_ble_eq_true rfl, Nat.le_of_ble_eq_true rfl⟩) (ob_preS (hP.sub [] rfl) hk) rfl rfl hl.1 rfl (lv_room (Nat.le_of_ble_eq_true rfl)) dX5_measure_8 ⟨Nat.le_of_ble_eq_true rfl, Nat.le_of_ble_eq_true rfl⟩)) (fun r9 hr9 => ?_)
    subst hr9
    refine ob_if_eq (tgt := 40) hx hb dX5_measure_11 (by decide) (fun c11 => ?_) (fun c11 => ?_)
    · refine lv_iconst (v := nI 0) hx hb dX5_measure_40 (by decide) ?_
      exact k41 false (by first | (rw [c4]; rfl; done) | (rw [c4, c11]; rfl; done) | (rw [c4, c11, c22]; rfl; done) | (rw [c4, c11, c22, c33]; rfl; done)) _ (lv_sub hl [0, 1, 2, 3, 4] rfl)
    · refine lv_iload_n hx hb dX5_measure_14 rfl (lv_at hl 3 rfl) ?_
      refine lv_iload_n hx hb dX5_measure_15 rfl (lv_at hl 2 rfl) ?_
      refine lv_sipush (v := nI 10000) hx hb dX5_measure_16 (by decide) ?_
      refine vp_callSi (va_Run.run (va_runS (As := [.int x3, .int x2, .int (nI 10000)]) (rest := []) ⟨hx, hb, hml, hown, hts⟩ (c_X5_isIn l D t x3 x2 (nI 10000)) (va_cwS 3 hts gX5_measure_X5_isIn rfl rfl rfl (by decide +kernel) ⟨Nat.le_of_ble_eq_true rfl, Nat.le_of_ble_eq_true rfl⟩) (ob_preS (hP.sub [] rfl) hk) rfl rfl hl.1 rfl (lv_room (Nat.le_of_ble_eq_true rfl)) dX5_measure_19 ⟨Nat.le_of_ble_eq_true rfl, Nat.le_of_ble_eq_true rfl⟩)) (fun r9 hr9 => ?_)
      subst hr9
      refine ob_if_eq (tgt := 40) hx hb dX5_measure_22 (by decide) (fun c22 => ?_) (fun c22 => ?_)
      · refine lv_iconst (v := nI 0) hx hb dX5_measure_40 (by decide) ?_
        exact k41 false (by first | (rw [c4]; rfl; done) | (rw [c4, c11]; rfl; done) | (rw [c4, c11, c22]; rfl; done) | (rw [c4, c11, c22, c33]; rfl; done)) _ (lv_sub hl [0, 1, 2, 3, 4] rfl)
      · refine lv_iload hx hb dX5_measure_25 (lv_at hl 4 rfl) ?_
        refine lv_iconst (v := nI 0) hx hb dX5_measure_27 (by decide) ?_
        refine lv_bipush (v := nI 100) hx hb dX5_measure_28 (by decide) ?_
        refine vp_callSi (va_Run.run (va_runS (As := [.int x4, .int (nI 0), .int (nI 100)]) (rest := []) ⟨hx, hb, hml, hown, hts⟩ (c_X5_isIn l D t x4 (nI 0) (nI 100)) (va_cwS 3 hts gX5_measure_X5_isIn rfl rfl rfl (by decide +kernel) ⟨Nat.le_of_ble_eq_true rfl, Nat.le_of_ble_eq_true rfl⟩) (ob_preS (hP.sub [] rfl) hk) rfl rfl hl.1 rfl (lv_room (Nat.le_of_ble_eq_true rfl)) dX5_measure_30 ⟨Nat.le_of_ble_eq_true rfl, Nat.le_of_ble_eq_true rfl⟩)) (fun r9 hr9 => ?_)
        subst hr9
        refine ob_if_eq (tgt := 40) hx hb dX5_measure_33 (by decide) (fun c33 => ?_) (fun c33 => ?_)
        · refine lv_iconst (v := nI 0) hx hb dX5_measure_40 (by decide) ?_
          exact k41 false (by first | (rw [c4]; rfl; done) | (rw [c4, c11]; rfl; done) | (rw [c4, c11, c22]; rfl; done) | (rw [c4, c11, c22, c33]; rfl; done)) _ (lv_sub hl [0, 1, 2, 3, 4] rfl)
        · refine lv_iconst (v := nI 1) hx hb dX5_measure_36 (by decide) ?_
          refine lv_goto (tgt := 41) hx hb dX5_measure_37 (by decide) ?_
          exact k41 true (by first | (rw [c4]; rfl; done) | (rw [c4, c11]; rfl; done) | (rw [c4, c11, c22]; rfl; done) | (rw [c4, c11, c22, c33]; rfl; done)) _ (lv_sub hl [0, 1, 2, 3, 4] rfl)

set_option maxRecDepth 100000 in
set_option maxHeartbeats 4000000 in
theorem c_X5_impact (l : Launch) (D : va_G) (t : Nat → ClassId) (sz : Nat) (ar : Nat → Nat) (Bd Tr : Nat → Int32) (rn : Nat) (rcl rrd rsv rpb wf wa ro ah : Nat → Int32) (ct : Nat → Int64) (rmn : Nat) (rms rmf rmt rmp : Nat → Int32) (rcn : Nat) (sd V : Nat → Int32) (th : Int32) (x : Int32) (K : Nat) (hrmn : rmn ≤ 40) (hKK : ¬ (ob_si rms rmf rmt rmp rmn x K).2 ≤ nI 10000) : Met l yX5_impact wsX5_impact ({ frames := 2, cells := 0, slots := 0, locals := 47 } : Room) (ob_Pm D t (ob_wR t ar Bd Tr rn rcl rrd rsv rpb wf wa ro ah ct rmn rms rmf rmt rmp rcn sd V th) sz [.ref (ar 0), .int x]) (va_Qi (fun (r : Int32) (_ : Unit) => (ob_wi x (nI 0) (nI 5) = false ∧ r = nI 0) ∨ (ob_wi x (nI 0) (nI 5) = true ∧ ∃ k, r = (ob_si rms rmf rmt rmp rmn x k).1 ∧ ¬ (ob_si rms rmf rmt rmp rmn x k).2 ≤ nI 10000 ∧ ∀ j, j < k → (ob_si rms rmf rmt rmp rmn x j).2 ≤ nI 10000)) (fun (_ : Unit) (t9 : State) => va_P D vwCl (ob_wR t ar Bd Tr rn rcl rrd rsv rpb wf wa ro ah ct rmn rms rmf rmt rmp rcn sd V (nI (ob_z1 (ob_wi x (nI 0) (nI 5))))) t9.heap) (va_A (ob_wR t ar Bd Tr rn rcl rrd rsv rpb wf wa ro ah ct rmn rms rmf rmt rmp rcn sd V th) sz)) 0 0 (va_A (ob_wR t ar Bd Tr rn rcl rrd rsv rpb wf wa ro ah ct rmn rms rmf rmt rmp rcn sd V th) sz) := by
  refine Met.ofW (cc := cX5_impact) (maxL := 4) (ret := (some .int)) (by decide) rfl ?_
  intro p e s m args below meth c s₁ B hml hv
  obtain ⟨rfl, hsz, hP, hk, hD0⟩ := hv
  have hx := B.exec
  have hb := B.bytes
  have hr := B.returns
  have hts := atoms_spec (ws := wsX5_impact) B.pre
  have hown : s.vm.findClass RX5 = some m.cls := findClass_of_methodNamed B.named
  have hlocks := B.notSynchronized
  have hK := hk.1
  have hD : va_D (va_A (ob_wR t ar Bd Tr rn rcl rrd rsv rpb wf wa ro ah ct rmn rms rmf rmt rmp rcn sd V th) sz) (ob_wR t ar Bd Tr rn rcl rrd rsv rpb wf wa ro ah ct rmn rms rmf rmt rmp rcn sd V th) := hD0.self (sz := sz)
  have hA : ∀ q : Nat, s.heap.size ≤ q → (va_A (ob_wR t ar Bd Tr rn rcl rrd rsv rpb wf wa ro ah ct rmn rms rmf rmt rmp rcn sd V th) sz) q := fun q h => Or.inr (hsz ▸ h)
  have hS : va_S (va_A (ob_wR t ar Bd Tr rn rcl rrd rsv rpb wf wa ro ah ct rmn rms rmf rmt rmp rcn sd V th) sz) s.heap s.heap [] := va_S.rf
  have hl := lv_entry [.ref (ar 0), .int x] (n := 4) (Nat.le_of_ble_eq_true rfl)
  rw [lg_entry_eq]
  generalize (lg_sl [.ref (ar 0), .int x] ++ List.replicate (4 - (lg_sl [.ref (ar 0), .int x]).length) Slot.unset).toArray = ls at hl ⊢
  have hl : lv_has ls 4 [(0, .ref (ar 0)), (1, .int x)] := hl
  have hP : va_P D vwCl (ob_wR t ar Bd Tr rn rcl rrd rsv rpb wf wa ro ah ct rmn rms rmf rmt rmp rcn sd V th) s.heap := hP
  refine lv_aload_n hx hb dX5_impact_0 rfl (lv_at hl 0 rfl) ?_
  have k13 : ∀ (z : Nat), (z = ob_z1 (ob_wi x (nI 0) (nI 5))) → ∀ ls : Array Slot, lv_has ls 4 [(0, .ref (ar 0)), (1, .int x)] → W p l e (headSpec wsX5_impact ({ frames := 2, cells := 0, slots := 0, locals := 47 } : Room)).room s m ([.ref (ar 0), .int x] : List Value).toArray below meth c s.heap [] 0 0 (MQ below (va_Qi (fun (r : Int32) (_ : Unit) => (ob_wi x (nI 0) (nI 5) = false ∧ r = nI 0) ∨ (ob_wi x (nI 0) (nI 5) = true ∧ ∃ k, r = (ob_si rms rmf rmt rmp rmn x k).1 ∧ ¬ (ob_si rms rmf rmt rmp rmn x k).2 ≤ nI 10000 ∧ ∀ j, j < k → (ob_si rms rmf rmt rmp rmn x j).2 ≤ nI 10000)) (fun (_ : Unit) (t9 : State) => va_P D vwCl (ob_wR t ar Bd Tr rn rcl rrd rsv rpb wf wa ro ah ct rmn rms rmf rmt rmp rcn sd V (nI (ob_z1 (ob_wi x (nI 0) (nI 5))))) t9.heap) (va_A (ob_wR t ar Bd Tr rn rcl rrd rsv rpb wf wa ro ah ct rmn rms rmf rmt rmp rcn sd V th) sz)) ([.ref (ar 0), .int x] : List Value).toArray s 0 0 (va_A (ob_wR t ar Bd Tr rn rcl rrd rsv rpb wf wa ro ah ct rmn rms rmf rmt rmp rcn sd V th) sz)) (F0 m 13 ls [.int (nI z), .ref (ar 0)]) := by
    intro z hz ls hl
    subst hz
    have hFc := va_free (wc := ob_wR t ar Bd Tr rn rcl rrd rsv rpb wf wa ro ah ct rmn rms rmf rmt rmp rcn sd V th) hD hS hA [0, 1, 2, 3, 4, 5, 6, 7, 8, 9, 10, 11, 12, 13, 14, 15, 16, 17] rfl
    refine va_calli (va_runV (As := [.int (nI (ob_z1 (ob_wi x (nI 0) (nI 5))))]) (rest := []) ⟨hx, hb, hml, hown, hts⟩ (c_X5_goes l D t s.heap.size ar Bd Tr rn rcl rrd rsv rpb wf wa ro ah ct rmn rms rmf rmt rmp rcn sd V th (nI (ob_z1 (ob_wi x (nI 0) (nI 5))))) (cwV 1 hts gX5_impact_X5_goes rfl rfl rfl (by decide +kernel) ⟨Nat.le_of_ble_eq_true rfl, Nat.le_of_ble_eq_true rfl⟩) (ob_pmV (ci := 5) (q0 := 0) hP hD hk rfl rfl) rfl rfl hl.1 rfl (lv_room (Nat.le_of_ble_eq_true rfl)) dX5_impact_13 ⟨Nat.le_of_ble_eq_true rfl, Nat.le_of_ble_eq_true rfl⟩) hS (fun q _ h => hFc q h) hFc (fun r9 u9 t9 H1 locs ht hvm hw9 hB hz1 hk1 hS => ?_)
    rw [ht] at hB
    have hP := ob_jn (ws' := ob_wR t ar Bd Tr rn rcl rrd rsv rpb wf wa ro ah ct rmn rms rmf rmt rmp rcn sd V (nI (ob_z1 (ob_wi x (nI 0) (nI 5))))) hP hD [some 0, some 1, some 2, some 3, some 4, some 5, some 6, some 7, some 8, some 9, some 10, some 11, some 12, some 13, some 14, some 15, some 16, some 17] [0, 1, 2, 3, 4, 5, 6, 7, 8, 9, 10, 11, 12, 13, 14, 15, 16, 17] rfl rfl hk1 hB rfl
    have hD : va_D (va_A (ob_wR t ar Bd Tr rn rcl rrd rsv rpb wf wa ro ah ct rmn rms rmf rmt rmp rcn sd V th) sz) (ob_wR t ar Bd Tr rn rcl rrd rsv rpb wf wa ro ah ct rmn rms rmf rmt rmp rcn sd V (nI (ob_z1 (ob_wi x (nI 0) (nI 5))))) := ob_dR hD
    generalize H1 = H at hP hS ⊢
    subst hw9
    rw [show ob_bi (decide ((nI (ob_z1 (ob_wi x (nI 0) (nI 5)))) = 0)) = ob_bi (ob_wi x (nI 0) (nI 5)) from ob_dz1 _]
    refine ob_if_ne (tgt := 21) hx hb dX5_impact_16 (by decide) (fun c16 => ?_) (fun c16 => ?_)
    · refine lv_iconst (v := nI 0) hx hb dX5_impact_21 (by decide) ?_
      refine lv_istore_n (lv' := [(2, .int (nI 0)), (0, .ref (ar 0)), (1, .int x)]) hx hb dX5_impact_22 rfl hl (by decide) rfl (fun ls hl => ?_)
      refine lv_iconst (v := nI 0) hx hb dX5_impact_23 (by decide) ?_
      refine lv_istore_n (lv' := [(3, .int (nI 0)), (2, .int (nI 0)), (0, .ref (ar 0)), (1, .int x)]) hx hb dX5_impact_24 rfl hl (by decide) rfl (fun ls hl => ?_)
      have k25 : ∀ fu : Nat, ∀ (k : Nat) (w m9 : Int32), K - k < fu → (k ≤ K) → (w = (ob_si rms rmf rmt rmp rmn x k).1) → (m9 = (ob_si rms rmf rmt rmp rmn x k).2) → (∀ j, j < k → (ob_si rms rmf rmt rmp rmn x j).2 ≤ nI 10000) → ∀ ls : Array Slot, lv_has ls 4 [(0, .ref (ar 0)), (1, .int x), (2, .int w), (3, .int m9)] → W p l e (headSpec wsX5_impact ({ frames := 2, cells := 0, slots := 0, locals := 47 } : Room)).room s m ([.ref (ar 0), .int x] : List Value).toArray below meth c H locs 0 0 (MQ below (va_Qi (fun (r : Int32) (_ : Unit) => (ob_wi x (nI 0) (nI 5) = false ∧ r = nI 0) ∨ (ob_wi x (nI 0) (nI 5) = true ∧ ∃ k, r = (ob_si rms rmf rmt rmp rmn x k).1 ∧ ¬ (ob_si rms rmf rmt rmp rmn x k).2 ≤ nI 10000 ∧ ∀ j, j < k → (ob_si rms rmf rmt rmp rmn x j).2 ≤ nI 10000)) (fun (_ : Unit) (t9 : State) => va_P D vwCl (ob_wR t ar Bd Tr rn rcl rrd rsv rpb wf wa ro ah ct rmn rms rmf rmt rmp rcn sd V (nI (ob_z1 (ob_wi x (nI 0) (nI 5))))) t9.heap) (va_A (ob_wR t ar Bd Tr rn rcl rrd rsv rpb wf wa ro ah ct rmn rms rmf rmt rmp rcn sd V th) sz)) ([.ref (ar 0), .int x] : List Value).toArray s 0 0 (va_A (ob_wR t ar Bd Tr rn rcl rrd rsv rpb wf wa ro ah ct rmn rms rmf rmt rmp rcn sd V th) sz)) (F0 m 25 ls []) := by
        intro fu
        induction fu with
        | zero => intro k w m9 hfu; exact absurd hfu (Nat.not_lt_zero _)
        | succ fu ih =>
          intro k w m9 hfu hq hw hm9 hj ls hl
          have ih25 := ih
          refine lv_iload_n hx hb dX5_impact_25 rfl (lv_at hl 3 rfl) ?_
          refine lv_sipush (v := nI 10000) hx hb dX5_impact_26 (by decide) ?_
          refine lv_icmp_gt (tgt := 58) hx hb dX5_impact_29 (by decide) (fun c29 => ?_) (fun c29 => ?_)
          · refine lv_iload_n hx hb dX5_impact_58 rfl (lv_at hl 2 rfl) ?_
            exact W.iret (v := w) hx hb hr (fun t9 ht hW => ⟨⟨w, (), rfl, (Or.inr ⟨c16, k, hw, by rw [← hm9]; exact Int32.not_le.mpr c29, hj⟩), ob_th ht hP⟩, hS.F ht⟩) hS.2.2 dX5_impact_59
          · have hkK := ob_ltK (P := fun i => (ob_si rms rmf rmt rmp rmn x i).2 ≤ nI 10000) hq hKK (by rw [hm9] at c29; exact Int32.not_lt.mp c29)
            refine lv_iload_n hx hb dX5_impact_32 rfl (lv_at hl 2 rfl) ?_
            refine lv_aload_n hx hb dX5_impact_33 rfl (lv_at hl 0 rfl) ?_
            refine lv_iload_n hx hb dX5_impact_34 rfl (lv_at hl 1 rfl) ?_
            refine lv_iload_n hx hb dX5_impact_35 rfl (lv_at hl 3 rfl) ?_
            refine vp_callSi (va_Run.run (va_runV (As := [.int x, .int m9]) (rest := [.int w]) ⟨hx, hb, hml, hown, hts⟩ (c_X5_percent l D t ar Bd Tr rn rcl rrd rsv rpb wf wa ro ah ct rmn rms rmf rmt rmp rcn sd V (nI (ob_z1 (ob_wi x (nI 0) (nI 5)))) x m9 (by first | assumption | omega)) (cwV 2 hts gX5_impact_X5_percent rfl rfl rfl (by decide +kernel) ⟨Nat.le_of_ble_eq_true rfl, Nat.le_of_ble_eq_true rfl⟩) (ob_preV (ci := 5) (q0 := 0) hP hk rfl rfl) rfl rfl hl.1 rfl (lv_room (Nat.le_of_ble_eq_true rfl)) dX5_impact_36 ⟨Nat.le_of_ble_eq_true rfl, Nat.le_of_ble_eq_true rfl⟩)) (fun r9 hr9 => ?_)
            subst hr9
            refine lv_aload_n hx hb dX5_impact_39 rfl (lv_at hl 0 rfl) ?_
            refine lv_iload_n hx hb dX5_impact_40 rfl (lv_at hl 3 rfl) ?_
            refine vp_callSi (va_Run.run (va_runV (As := [.int m9]) (rest := [.int (ob_pc rms rmf rmt rmp x m9 rmn), .int w]) ⟨hx, hb, hml, hown, hts⟩ (c_X5_change l D t ar Bd Tr rn rcl rrd rsv rpb wf wa ro ah ct rmn rms rmf rmt rmp rcn sd V (nI (ob_z1 (ob_wi x (nI 0) (nI 5)))) m9 (by first | assumption | omega)) (cwV 1 hts gX5_impact_X5_change rfl rfl rfl (by decide +kernel) ⟨Nat.le_of_ble_eq_true rfl, Nat.le_of_ble_eq_true rfl⟩) (ob_preV (ci := 5) (q0 := 0) hP hk rfl rfl) rfl rfl hl.1 rfl (lv_room (Nat.le_of_ble_eq_true rfl)) dX5_impact_41 ⟨Nat.le_of_ble_eq_true rfl, Nat.le_of_ble_eq_true rfl⟩)) (fun r9 hr9 => ?_)
            subst hr9
            refine lv_iload_n hx hb dX5_impact_44 rfl (lv_at hl 3 rfl) ?_
            refine lv_isub hx hb dX5_impact_45 ?_
            refine lv_imul hx hb dX5_impact_46 ?_
            refine lv_iadd hx hb dX5_impact_47 ?_
            refine lv_istore_n (lv' := [(2, .int (w + ((ob_pc rms rmf rmt rmp x m9 rmn) * ((ob_cg rmf rmt m9 rmn) - m9)))), (0, .ref (ar 0)), (1, .int x), (3, .int m9)]) hx hb dX5_impact_48 rfl hl (by decide) rfl (fun ls hl => ?_)
            refine lv_aload_n hx hb dX5_impact_49 rfl (lv_at hl 1 rfl) ?_
            refine lv_iload_n hx hb dX5_impact_50 rfl (lv_at hl 3 rfl) ?_
            refine vp_callSi (va_Run.run (va_runV (As := [.int m9]) (rest := []) ⟨hx, hb, hml, hown, hts⟩ (c_X5_change l D t ar Bd Tr rn rcl rrd rsv rpb wf wa ro ah ct rmn rms rmf rmt rmp rcn sd V (nI (ob_z1 (ob_wi x (nI 0) (nI 5)))) m9 (by first | assumption | omega)) (cwV 1 hts gX5_impact_X5_change rfl rfl rfl (by decide +kernel) ⟨Nat.le_of_ble_eq_true rfl, Nat.le_of_ble_eq_true rfl⟩) (ob_preV (ci := 5) (q0 := 0) hP hk rfl rfl) rfl rfl hl.1 rfl (lv_room (Nat.le_of_ble_eq_true rfl)) dX5_impact_51 ⟨Nat.le_of_ble_eq_true rfl, Nat.le_of_ble_eq_true rfl⟩)) (fun r9 hr9 => ?_)
            subst hr9
            refine lv_istore_n (lv' := [(3, .int (ob_cg rmf rmt m9 rmn)), (2, .int (w + ((ob_pc rms rmf rmt rmp x m9 rmn) * ((ob_cg rmf rmt m9 rmn) - m9)))), (0, .ref (ar 0)), (1, .int x)]) hx hb dX5_impact_54 rfl hl (by decide) rfl (fun ls hl => ?_)
            refine lv_goto (tgt := 25) hx hb dX5_impact_55 (by decide) ?_
            exact ih25 (k + 1) (w + ((ob_pc rms rmf rmt rmp x m9 rmn) * ((ob_cg rmf rmt m9 rmn) - m9))) (ob_cg rmf rmt m9 rmn) (by omega) (by omega) (by first | (rfl; done) | (rw [ob_si, ← hw, ← hm9]; done)) (by first | (rfl; done) | (rw [ob_si, ← hm9]; done)) (by first | exact lt_0 | (refine lt_s hj ?_; rw [← hm9]; exact Int32.not_lt.mp c29)) _ (lv_sub hl [2, 3, 1, 0] rfl)
      exact k25 _ 0 (nI 0) (nI 0) (Nat.lt_succ_self _) (by omega) (by first | (rfl; done) | (rw [ob_si, ← hw, ← hm9]; done)) (by first | (rfl; done) | (rw [ob_si, ← hm9]; done)) (by first | exact lt_0 | (refine lt_s hj ?_; rw [← hm9]; exact Int32.not_lt.mp c29)) _ (lv_sub hl [2, 3, 1, 0] rfl)
    · refine lv_iconst (v := nI 0) hx hb dX5_impact_19 (by decide) ?_
      exact W.iret (v := nI 0) hx hb hr (fun t9 ht hW => ⟨⟨nI 0, (), rfl, (Or.inl ⟨c16, rfl⟩), ob_th ht hP⟩, hS.F ht⟩) hS.2.2 dX5_impact_20
  refine lv_iload_n hx hb dX5_impact_1 rfl (lv_at hl 1 rfl) ?_
  refine vp_callSi (va_Run.run (va_runS (As := [.int x]) (rest := [.ref (ar 0)]) ⟨hx, hb, hml, hown, hts⟩ (c_X5_isService l D t x) (va_cwS 1 hts gX5_impact_X5_isService rfl rfl rfl (by decide +kernel) ⟨Nat.le_of_ble_eq_true rfl, Nat.le_of_ble_eq_true rfl⟩) (ob_preS (hP.sub [] rfl) hk) rfl rfl hl.1 rfl (lv_room (Nat.le_of_ble_eq_true rfl)) dX5_impact_2 ⟨Nat.le_of_ble_eq_true rfl, Nat.le_of_ble_eq_true rfl⟩)) (fun r9 hr9 => ?_)
  subst hr9
  refine ob_if_eq (tgt := 12) hx hb dX5_impact_5 (by decide) (fun c5 => ?_) (fun c5 => ?_)
  · refine lv_iconst (v := nI 1) hx hb dX5_impact_12 (by decide) ?_
    exact k13 1 (by rw [c5]; rfl) _ (lv_sub hl [0, 1] rfl)
  · refine lv_iconst (v := nI 0) hx hb dX5_impact_8 (by decide) ?_
    refine lv_goto (tgt := 13) hx hb dX5_impact_9 (by decide) ?_
    exact k13 0 (by rw [c5]; rfl) _ (lv_sub hl [0, 1] rfl)

set_option maxRecDepth 100000 in
set_option maxHeartbeats 4000000 in
theorem c_X5_minutes (l : Launch) (D : va_G) (t : Nat → ClassId) (sz : Nat) (ar : Nat → Nat) (Bd Tr : Nat → Int32) (rn : Nat) (rcl rrd rsv rpb wf wa ro ah : Nat → Int32) (ct : Nat → Int64) (rmn : Nat) (rms rmf rmt rmp : Nat → Int32) (rcn : Nat) (sd V : Nat → Int32) (th : Int32) (K : Nat) (hrmn : rmn ≤ 40) (hKK : ¬ (ob_sm2 rms rmf rmt rmp rmn K).2 ≤ nI 10000) : Met l yX5_minutes wsX5_minutes ({ frames := 2, cells := 0, slots := 0, locals := 47 } : Room) (ob_Pm D t (ob_wR t ar Bd Tr rn rcl rrd rsv rpb wf wa ro ah ct rmn rms rmf rmt rmp rcn sd V th) sz [.ref (ar 0)]) (va_Qi (fun (r : Int32) (_ : Unit) => ∃ k, r = (ob_sm2 rms rmf rmt rmp rmn k).1 ∧ ¬ (ob_sm2 rms rmf rmt rmp rmn k).2 ≤ nI 10000 ∧ ∀ j, j < k → (ob_sm2 rms rmf rmt rmp rmn j).2 ≤ nI 10000) (fun (_ : Unit) (t9 : State) => va_P D vwCl (ob_wR t ar Bd Tr rn rcl rrd rsv rpb wf wa ro ah ct rmn rms rmf rmt rmp rcn sd V (nI 0)) t9.heap) (va_A (ob_wR t ar Bd Tr rn rcl rrd rsv rpb wf wa ro ah ct rmn rms rmf rmt rmp rcn sd V th) sz)) 0 0 (va_A (ob_wR t ar Bd Tr rn rcl rrd rsv rpb wf wa ro ah ct rmn rms rmf rmt rmp rcn sd V th) sz) := by
  refine Met.ofW (cc := cX5_minutes) (maxL := 3) (ret := (some .int)) (by decide) rfl ?_
  intro p e s m args below meth c s₁ B hml hv
  obtain ⟨rfl, hsz, hP, hk, hD0⟩ := hv
  have hx := B.exec
  have hb := B.bytes
  have hr := B.returns
  have hts := atoms_spec (ws := wsX5_minutes) B.pre
  have hown : s.vm.findClass RX5 = some m.cls := findClass_of_methodNamed B.named
  have hlocks := B.notSynchronized
  have hK := hk.1
  have hD : va_D (va_A (ob_wR t ar Bd Tr rn rcl rrd rsv rpb wf wa ro ah ct rmn rms rmf rmt rmp rcn sd V th) sz) (ob_wR t ar Bd Tr rn rcl rrd rsv rpb wf wa ro ah ct rmn rms rmf rmt rmp rcn sd V th) := hD0.self (sz := sz)
  have hA : ∀ q : Nat, s.heap.size ≤ q → (va_A (ob_wR t ar Bd Tr rn rcl rrd rsv rpb wf wa ro ah ct rmn rms rmf rmt rmp rcn sd V th) sz) q := fun q h => Or.inr (hsz ▸ h)
  have hS : va_S (va_A (ob_wR t ar Bd Tr rn rcl rrd rsv rpb wf wa ro ah ct rmn rms rmf rmt rmp rcn sd V th) sz) s.heap s.heap [] := va_S.rf
  have hl := lv_entry [.ref (ar 0)] (n := 3) (Nat.le_of_ble_eq_true rfl)
  rw [lg_entry_eq]
  generalize (lg_sl [.ref (ar 0)] ++ List.replicate (3 - (lg_sl [.ref (ar 0)]).length) Slot.unset).toArray = ls at hl ⊢
  have hl : lv_has ls 3 [(0, .ref (ar 0))] := hl
  have hP : va_P D vwCl (ob_wR t ar Bd Tr rn rcl rrd rsv rpb wf wa ro ah ct rmn rms rmf rmt rmp rcn sd V th) s.heap := hP
  refine lv_aload_n hx hb dX5_minutes_0 rfl (lv_at hl 0 rfl) ?_
  refine lv_iconst (v := nI 0) hx hb dX5_minutes_1 (by decide) ?_
  refine va_put (ci := 5) (v := .int (nI 0)) (ty := .int) (C := RX5) (T := TX5) (N := 21) hx hb hts (fun w h => List.mem_cons_of_mem _ (List.mem_append_right _ (h))) tyX5 tyX5_ok nmX5 hown hK hP hD hS 0 rfl rfl 20 (by decide) (hts (Cond.fieldLink RX5 64 "OutageBookModel" "thrown" "I") (List.mem_of_getElem? (i := 1) rfl)) (fun _ h9 => h9) rfl (by decide +kernel) rfl rfl (Nat.le_of_ble_eq_true rfl) dX5_minutes_2 (fun H locs hP hD hS => ?_)
  have hP : va_P D vwCl (ob_wR t ar Bd Tr rn rcl rrd rsv rpb wf wa ro ah ct rmn rms rmf rmt rmp rcn sd V (nI 0)) H := hP
  have hD : va_D (va_A (ob_wR t ar Bd Tr rn rcl rrd rsv rpb wf wa ro ah ct rmn rms rmf rmt rmp rcn sd V th) sz) (ob_wR t ar Bd Tr rn rcl rrd rsv rpb wf wa ro ah ct rmn rms rmf rmt rmp rcn sd V (nI 0)) := hD
  refine lv_iconst (v := nI 0) hx hb dX5_minutes_5 (by decide) ?_
  refine lv_istore_n (lv' := [(1, .int (nI 0)), (0, .ref (ar 0))]) hx hb dX5_minutes_6 rfl hl (by decide) rfl (fun ls hl => ?_)
  refine lv_iconst (v := nI 0) hx hb dX5_minutes_7 (by decide) ?_
  refine lv_istore_n (lv' := [(2, .int (nI 0)), (1, .int (nI 0)), (0, .ref (ar 0))]) hx hb dX5_minutes_8 rfl hl (by decide) rfl (fun ls hl => ?_)
  have k9 : ∀ fu : Nat, ∀ (k : Nat) (w m9 : Int32), K - k < fu → (k ≤ K) → (w = (ob_sm2 rms rmf rmt rmp rmn k).1) → (m9 = (ob_sm2 rms rmf rmt rmp rmn k).2) → (∀ j, j < k → (ob_sm2 rms rmf rmt rmp rmn j).2 ≤ nI 10000) → ∀ ls : Array Slot, lv_has ls 3 [(0, .ref (ar 0)), (1, .int w), (2, .int m9)] → W p l e (headSpec wsX5_minutes ({ frames := 2, cells := 0, slots := 0, locals := 47 } : Room)).room s m ([.ref (ar 0)] : List Value).toArray below meth c H locs 0 0 (MQ below (va_Qi (fun (r : Int32) (_ : Unit) => ∃ k, r = (ob_sm2 rms rmf rmt rmp rmn k).1 ∧ ¬ (ob_sm2 rms rmf rmt rmp rmn k).2 ≤ nI 10000 ∧ ∀ j, j < k → (ob_sm2 rms rmf rmt rmp rmn j).2 ≤ nI 10000) (fun (_ : Unit) (t9 : State) => va_P D vwCl (ob_wR t ar Bd Tr rn rcl rrd rsv rpb wf wa ro ah ct rmn rms rmf rmt rmp rcn sd V (nI 0)) t9.heap) (va_A (ob_wR t ar Bd Tr rn rcl rrd rsv rpb wf wa ro ah ct rmn rms rmf rmt rmp rcn sd V th) sz)) ([.ref (ar 0)] : List Value).toArray s 0 0 (va_A (ob_wR t ar Bd Tr rn rcl rrd rsv rpb wf wa ro ah ct rmn rms rmf rmt rmp rcn sd V th) sz)) (F0 m 9 ls []) := by
    intro fu
    induction fu with
    | zero => intro k w m9 hfu; exact absurd hfu (Nat.not_lt_zero _)
    | succ fu ih =>
      intro k w m9 hfu hq hw hm9 hj ls hl
      have ih9 := ih
      refine lv_iload_n hx hb dX5_minutes_9 rfl (lv_at hl 2 rfl) ?_
      refine lv_sipush (v := nI 10000) hx hb dX5_minutes_10 (by decide) ?_
      refine lv_icmp_gt (tgt := 48) hx hb dX5_minutes_13 (by decide) (fun c13 => ?_) (fun c13 => ?_)
      · refine lv_iload_n hx hb dX5_minutes_48 rfl (lv_at hl 1 rfl) ?_
        exact W.iret (v := w) hx hb hr (fun t9 ht hW => ⟨⟨w, (), rfl, ⟨k, hw, by rw [← hm9]; exact Int32.not_le.mpr c13, hj⟩, ob_th ht hP⟩, hS.F ht⟩) hS.2.2 dX5_minutes_49
      · have hkK := ob_ltK (P := fun i => (ob_sm2 rms rmf rmt rmp rmn i).2 ≤ nI 10000) hq hKK (by rw [hm9] at c13; exact Int32.not_lt.mp c13)
        refine lv_iload_n hx hb dX5_minutes_16 rfl (lv_at hl 1 rfl) ?_
        refine lv_aload_n hx hb dX5_minutes_17 rfl (lv_at hl 0 rfl) ?_
        refine lv_iconst (v := (-1)) hx hb dX5_minutes_18 (by decide) ?_
        refine lv_iload_n hx hb dX5_minutes_19 rfl (lv_at hl 2 rfl) ?_
        refine vp_callSi (va_Run.run (va_runV (As := [.int (-1), .int m9]) (rest := [.int w]) ⟨hx, hb, hml, hown, hts⟩ (c_X5_percent l D t ar Bd Tr rn rcl rrd rsv rpb wf wa ro ah ct rmn rms rmf rmt rmp rcn sd V (nI 0) (-1) m9 (by first | assumption | omega)) (cwV 2 hts gX5_minutes_X5_percent rfl rfl rfl (by decide +kernel) ⟨Nat.le_of_ble_eq_true rfl, Nat.le_of_ble_eq_true rfl⟩) (ob_preV (ci := 5) (q0 := 0) hP hk rfl rfl) rfl rfl hl.1 rfl (lv_room (Nat.le_of_ble_eq_true rfl)) dX5_minutes_20 ⟨Nat.le_of_ble_eq_true rfl, Nat.le_of_ble_eq_true rfl⟩)) (fun r9 hr9 => ?_)
        subst hr9
        refine lv_if_le (tgt := 36) hx hb dX5_minutes_23 (by decide) (fun c23 => ?_) (fun c23 => ?_)
        · refine lv_iconst (v := nI 0) hx hb dX5_minutes_36 (by decide) ?_
          refine lv_iadd hx hb dX5_minutes_37 ?_
          refine lv_istore_n (lv' := [(1, .int (w + (nI 0))), (0, .ref (ar 0)), (2, .int m9)]) hx hb dX5_minutes_38 rfl hl (by decide) rfl (fun ls hl => ?_)
          refine lv_aload_n hx hb dX5_minutes_39 rfl (lv_at hl 1 rfl) ?_
          refine lv_iload_n hx hb dX5_minutes_40 rfl (lv_at hl 2 rfl) ?_
          refine vp_callSi (va_Run.run (va_runV (As := [.int m9]) (rest := []) ⟨hx, hb, hml, hown, hts⟩ (c_X5_change l D t ar Bd Tr rn rcl rrd rsv rpb wf wa ro ah ct rmn rms rmf rmt rmp rcn sd V (nI 0) m9 (by first | assumption | omega)) (cwV 1 hts gX5_minutes_X5_change rfl rfl rfl (by decide +kernel) ⟨Nat.le_of_ble_eq_true rfl, Nat.le_of_ble_eq_true rfl⟩) (ob_preV (ci := 5) (q0 := 0) hP hk rfl rfl) rfl rfl hl.1 rfl (lv_room (Nat.le_of_ble_eq_true rfl)) dX5_minutes_41 ⟨Nat.le_of_ble_eq_true rfl, Nat.le_of_ble_eq_true rfl⟩)) (fun r9 hr9 => ?_)
          subst hr9
          refine lv_istore_n (lv' := [(2, .int (ob_cg rmf rmt m9 rmn)), (1, .int (w + (nI 0))), (0, .ref (ar 0))]) hx hb dX5_minutes_44 rfl hl (by decide) rfl (fun ls hl => ?_)
          refine lv_goto (tgt := 9) hx hb dX5_minutes_45 (by decide) ?_
          exact ih9 (k + 1) (w + (nI 0)) (ob_cg rmf rmt m9 rmn) (by omega) (by omega) (by first | (rfl; done) | (rw [ob_sm2, ← hw, ← hm9, if_pos c23]; done) | (rw [ob_sm2, ← hw, ← hm9, if_neg c23]; done)) (by first | (rfl; done) | (rw [ob_sm2, ← hm9]; done)) (by first | exact lt_0 | (refine lt_s hj ?_; rw [← hm9]; exact Int32.not_lt.mp c13)) _ (lv_sub hl [2, 1, 0] rfl)
        · refine lv_aload_n hx hb dX5_minutes_26 rfl (lv_at hl 0 rfl) ?_
          refine lv_iload_n hx hb dX5_minutes_27 rfl (lv_at hl 2 rfl) ?_
          refine vp_callSi (va_Run.run (va_runV (As := [.int m9]) (rest := [.int w]) ⟨hx, hb, hml, hown, hts⟩ (c_X5_change l D t ar Bd Tr rn rcl rrd rsv rpb wf wa ro ah ct rmn rms rmf rmt rmp rcn sd V (nI 0) m9 (by first | assumption | omega)) (cwV 1 hts gX5_minutes_X5_change rfl rfl rfl (by decide +kernel) ⟨Nat.le_of_ble_eq_true rfl, Nat.le_of_ble_eq_true rfl⟩) (ob_preV (ci := 5) (q0 := 0) hP hk rfl rfl) rfl rfl hl.1 rfl (lv_room (Nat.le_of_ble_eq_true rfl)) dX5_minutes_28 ⟨Nat.le_of_ble_eq_true rfl, Nat.le_of_ble_eq_true rfl⟩)) (fun r9 hr9 => ?_)
          subst hr9
          refine lv_iload_n hx hb dX5_minutes_31 rfl (lv_at hl 2 rfl) ?_
          refine lv_isub hx hb dX5_minutes_32 ?_
          refine lv_goto (tgt := 37) hx hb dX5_minutes_33 (by decide) ?_
          refine lv_iadd hx hb dX5_minutes_37 ?_
          refine lv_istore_n (lv' := [(1, .int (w + ((ob_cg rmf rmt m9 rmn) - m9))), (0, .ref (ar 0)), (2, .int m9)]) hx hb dX5_minutes_38 rfl hl (by decide) rfl (fun ls hl => ?_)
          refine lv_aload_n hx hb dX5_minutes_39 rfl (lv_at hl 1 rfl) ?_
          refine lv_iload_n hx hb dX5_minutes_40 rfl (lv_at hl 2 rfl) ?_
          refine vp_callSi (va_Run.run (va_runV (As := [.int m9]) (rest := []) ⟨hx, hb, hml, hown, hts⟩ (c_X5_change l D t ar Bd Tr rn rcl rrd rsv rpb wf wa ro ah ct rmn rms rmf rmt rmp rcn sd V (nI 0) m9 (by first | assumption | omega)) (cwV 1 hts gX5_minutes_X5_change rfl rfl rfl (by decide +kernel) ⟨Nat.le_of_ble_eq_true rfl, Nat.le_of_ble_eq_true rfl⟩) (ob_preV (ci := 5) (q0 := 0) hP hk rfl rfl) rfl rfl hl.1 rfl (lv_room (Nat.le_of_ble_eq_true rfl)) dX5_minutes_41 ⟨Nat.le_of_ble_eq_true rfl, Nat.le_of_ble_eq_true rfl⟩)) (fun r9 hr9 => ?_)
          subst hr9
          refine lv_istore_n (lv' := [(2, .int (ob_cg rmf rmt m9 rmn)), (1, .int (w + ((ob_cg rmf rmt m9 rmn) - m9))), (0, .ref (ar 0))]) hx hb dX5_minutes_44 rfl hl (by decide) rfl (fun ls hl => ?_)
          refine lv_goto (tgt := 9) hx hb dX5_minutes_45 (by decide) ?_
          exact ih9 (k + 1) (w + ((ob_cg rmf rmt m9 rmn) - m9)) (ob_cg rmf rmt m9 rmn) (by omega) (by omega) (by first | (rfl; done) | (rw [ob_sm2, ← hw, ← hm9, if_pos c23]; done) | (rw [ob_sm2, ← hw, ← hm9, if_neg c23]; done)) (by first | (rfl; done) | (rw [ob_sm2, ← hm9]; done)) (by first | exact lt_0 | (refine lt_s hj ?_; rw [← hm9]; exact Int32.not_lt.mp c13)) _ (lv_sub hl [2, 1, 0] rfl)
  exact k9 _ 0 (nI 0) (nI 0) (Nat.lt_succ_self _) (by omega) (by first | (rfl; done) | (rw [ob_sm2, ← hw, ← hm9, if_pos c23]; done) | (rw [ob_sm2, ← hw, ← hm9, if_neg c23]; done)) (by first | (rfl; done) | (rw [ob_sm2, ← hm9]; done)) (by first | exact lt_0 | (refine lt_s hj ?_; rw [← hm9]; exact Int32.not_lt.mp c13)) _ (lv_sub hl [2, 1, 0] rfl)

set_option maxRecDepth 100000 in
set_option maxHeartbeats 4000000 in
theorem c_X5_addCause (l : Launch) (D : va_G) (t : Nat → ClassId) (sz : Nat) (ar : Nat → Nat) (Bd Tr : Nat → Int32) (rn : Nat) (rcl rrd rsv rpb wf wa ro ah : Nat → Int32) (ct : Nat → Int64) (rmn : Nat) (rms rmf rmt rmp : Nat → Int32) (rcn : Nat) (sd V : Nat → Int32) (th : Int32) (hrcn : rcn ≤ 16) : Met l yX5_addCause wsX5_addCause ({ frames := 1, cells := 0, slots := 0, locals := 21 } : Room) (ob_Pm D t (ob_wR t ar Bd Tr rn rcl rrd rsv rpb wf wa ro ah ct rmn rms rmf rmt rmp rcn sd V th) sz [.ref (ar 0)]) (va_Qi (fun (r : Int32) (_ : Unit) => r = if !decide (rcn = 16) then nI rcn else nI 0) (fun (_ : Unit) (t9 : State) => va_P D vwCl (ob_wR t ar Bd Tr rn rcl rrd rsv rpb wf wa ro ah ct rmn rms rmf rmt rmp (if !decide (rcn = 16) then rcn + 1 else rcn) (if !decide (rcn = 16) then upd sd rcn (ob_bi true) else sd) V (nI (ob_z1 (!decide (rcn = 16))))) t9.heap) (va_A (ob_wR t ar Bd Tr rn rcl rrd rsv rpb wf wa ro ah ct rmn rms rmf rmt rmp rcn sd V th) sz)) 0 0 (va_A (ob_wR t ar Bd Tr rn rcl rrd rsv rpb wf wa ro ah ct rmn rms rmf rmt rmp rcn sd V th) sz) := by
  refine Met.ofW (cc := cX5_addCause) (maxL := 1) (ret := (some .int)) (by decide) rfl ?_
  intro p e s m args below meth c s₁ B hml hv
  obtain ⟨rfl, hsz, hP, hk, hD0⟩ := hv
  have hx := B.exec
  have hb := B.bytes
  have hr := B.returns
  have hts := atoms_spec (ws := wsX5_addCause) B.pre
  have hown : s.vm.findClass RX5 = some m.cls := findClass_of_methodNamed B.named
  have hlocks := B.notSynchronized
  have hK := hk.1
  have hD : va_D (va_A (ob_wR t ar Bd Tr rn rcl rrd rsv rpb wf wa ro ah ct rmn rms rmf rmt rmp rcn sd V th) sz) (ob_wR t ar Bd Tr rn rcl rrd rsv rpb wf wa ro ah ct rmn rms rmf rmt rmp rcn sd V th) := hD0.self (sz := sz)
  have hA : ∀ q : Nat, s.heap.size ≤ q → (va_A (ob_wR t ar Bd Tr rn rcl rrd rsv rpb wf wa ro ah ct rmn rms rmf rmt rmp rcn sd V th) sz) q := fun q h => Or.inr (hsz ▸ h)
  have hS : va_S (va_A (ob_wR t ar Bd Tr rn rcl rrd rsv rpb wf wa ro ah ct rmn rms rmf rmt rmp rcn sd V th) sz) s.heap s.heap [] := va_S.rf
  have hl := lv_entry [.ref (ar 0)] (n := 1) (Nat.le_of_ble_eq_true rfl)
  rw [lg_entry_eq]
  generalize (lg_sl [.ref (ar 0)] ++ List.replicate (1 - (lg_sl [.ref (ar 0)]).length) Slot.unset).toArray = ls at hl ⊢
  have hl : lv_has ls 1 [(0, .ref (ar 0))] := hl
  have hP : va_P D vwCl (ob_wR t ar Bd Tr rn rcl rrd rsv rpb wf wa ro ah ct rmn rms rmf rmt rmp rcn sd V th) s.heap := hP
  refine lv_aload_n hx hb dX5_addCause_0 rfl (lv_at hl 0 rfl) ?_
  have k15 : ∀ (z : Nat), (z = ob_z1 (!decide (rcn = 16))) → ∀ ls : Array Slot, lv_has ls 1 [(0, .ref (ar 0))] → W p l e (headSpec wsX5_addCause ({ frames := 1, cells := 0, slots := 0, locals := 21 } : Room)).room s m ([.ref (ar 0)] : List Value).toArray below meth c s.heap [] 0 0 (MQ below (va_Qi (fun (r : Int32) (_ : Unit) => r = if !decide (rcn = 16) then nI rcn else nI 0) (fun (_ : Unit) (t9 : State) => va_P D vwCl (ob_wR t ar Bd Tr rn rcl rrd rsv rpb wf wa ro ah ct rmn rms rmf rmt rmp (if !decide (rcn = 16) then rcn + 1 else rcn) (if !decide (rcn = 16) then upd sd rcn (ob_bi true) else sd) V (nI (ob_z1 (!decide (rcn = 16))))) t9.heap) (va_A (ob_wR t ar Bd Tr rn rcl rrd rsv rpb wf wa ro ah ct rmn rms rmf rmt rmp rcn sd V th) sz)) ([.ref (ar 0)] : List Value).toArray s 0 0 (va_A (ob_wR t ar Bd Tr rn rcl rrd rsv rpb wf wa ro ah ct rmn rms rmf rmt rmp rcn sd V th) sz)) (F0 m 15 ls [.int (nI z), .ref (ar 0)]) := by
    intro z hz ls hl
    subst hz
    have hFc := va_free (wc := ob_wR t ar Bd Tr rn rcl rrd rsv rpb wf wa ro ah ct rmn rms rmf rmt rmp rcn sd V th) hD hS hA [0, 1, 2, 3, 4, 5, 6, 7, 8, 9, 10, 11, 12, 13, 14, 15, 16, 17] rfl
    refine va_calli (va_runV (As := [.int (nI (ob_z1 (!decide (rcn = 16))))]) (rest := []) ⟨hx, hb, hml, hown, hts⟩ (c_X5_goes l D t s.heap.size ar Bd Tr rn rcl rrd rsv rpb wf wa ro ah ct rmn rms rmf rmt rmp rcn sd V th (nI (ob_z1 (!decide (rcn = 16))))) (cwV 1 hts gX5_addCause_X5_goes rfl rfl rfl (by decide +kernel) ⟨Nat.le_of_ble_eq_true rfl, Nat.le_of_ble_eq_true rfl⟩) (ob_pmV (ci := 5) (q0 := 0) hP hD hk rfl rfl) rfl rfl hl.1 rfl (lv_room (Nat.le_of_ble_eq_true rfl)) dX5_addCause_15 ⟨Nat.le_of_ble_eq_true rfl, Nat.le_of_ble_eq_true rfl⟩) hS (fun q _ h => hFc q h) hFc (fun r9 u9 t9 H1 locs ht hvm hw9 hB hz1 hk1 hS => ?_)
    rw [ht] at hB
    have hP := ob_jn (ws' := ob_wR t ar Bd Tr rn rcl rrd rsv rpb wf wa ro ah ct rmn rms rmf rmt rmp rcn sd V (nI (ob_z1 (!decide (rcn = 16))))) hP hD [some 0, some 1, some 2, some 3, some 4, some 5, some 6, some 7, some 8, some 9, some 10, some 11, some 12, some 13, some 14, some 15, some 16, some 17] [0, 1, 2, 3, 4, 5, 6, 7, 8, 9, 10, 11, 12, 13, 14, 15, 16, 17] rfl rfl hk1 hB rfl
    have hD : va_D (va_A (ob_wR t ar Bd Tr rn rcl rrd rsv rpb wf wa ro ah ct rmn rms rmf rmt rmp rcn sd V th) sz) (ob_wR t ar Bd Tr rn rcl rrd rsv rpb wf wa ro ah ct rmn rms rmf rmt rmp rcn sd V (nI (ob_z1 (!decide (rcn = 16))))) := ob_dR hD
    generalize H1 = H at hP hS ⊢
    subst hw9
    rw [show ob_bi (decide ((nI (ob_z1 (!decide (rcn = 16)))) = 0)) = ob_bi (!decide (rcn = 16)) from ob_dz1 _]
    refine ob_if_ne (tgt := 23) hx hb dX5_addCause_18 (by decide) (fun c18 => ?_) (fun c18 => ?_)
    · have h16 : ¬ rcn = 16 := by simpa using c18
      refine lv_aload_n hx hb dX5_addCause_23 rfl (lv_at hl 0 rfl) ?_
      refine va_get (ci := 5) (C := RX5) (T := TX5) (N := 21) hx hb hts (fun w h => List.mem_cons_of_mem _ (List.mem_append_right _ (h))) hown hK hP 0 rfl rfl 18 (by decide) (hts (Cond.fieldLink RX5 57 "OutageBookModel" "stands" "[Z") (List.mem_of_getElem? (i := 2) rfl)) (fun _ h9 => h9) rfl dX5_addCause_24 ?_
      refine lv_aload_n hx hb dX5_addCause_27 rfl (lv_at hl 0 rfl) ?_
      refine va_get (ci := 5) (C := RX5) (T := TX5) (N := 21) hx hb hts (fun w h => List.mem_cons_of_mem _ (List.mem_append_right _ (h))) hown hK hP 0 rfl rfl 17 (by decide) (hts (Cond.fieldLink RX5 124 "OutageBookModel" "causes" "I") (List.mem_of_getElem? (i := 1) rfl)) (fun _ h9 => h9) rfl dX5_addCause_28 ?_
      refine lv_iconst (v := ob_bi true) hx hb dX5_addCause_31 (by decide) ?_
      refine ob_zast hx hb hK hP hD hS 16 2 rfl rfl (by omega) (by decide) dX5_addCause_32 (fun H locs hP hD hS => ?_)
      have hP : va_P D vwCl (ob_wR t ar Bd Tr rn rcl rrd rsv rpb wf wa ro ah ct rmn rms rmf rmt rmp rcn (upd sd rcn (ob_bi true)) V (nI (ob_z1 (!decide (rcn = 16))))) H := hP
      have hD : va_D (va_A (ob_wR t ar Bd Tr rn rcl rrd rsv rpb wf wa ro ah ct rmn rms rmf rmt rmp rcn sd V th) sz) (ob_wR t ar Bd Tr rn rcl rrd rsv rpb wf wa ro ah ct rmn rms rmf rmt rmp rcn (upd sd rcn (ob_bi true)) V (nI (ob_z1 (!decide (rcn = 16))))) := hD
      refine lv_aload_n hx hb dX5_addCause_33 rfl (lv_at hl 0 rfl) ?_
      refine lv_dup hx hb dX5_addCause_34 rfl ?_
      refine va_get (ci := 5) (C := RX5) (T := TX5) (N := 21) hx hb hts (fun w h => List.mem_cons_of_mem _ (List.mem_append_right _ (h))) hown hK hP 0 rfl rfl 17 (by decide) (hts (Cond.fieldLink RX5 124 "OutageBookModel" "causes" "I") (List.mem_of_getElem? (i := 1) rfl)) (fun _ h9 => h9) rfl dX5_addCause_35 ?_
      refine lv_iconst (v := nI 1) hx hb dX5_addCause_38 (by decide) ?_
      refine lv_iadd hx hb dX5_addCause_39 ?_
      rw [show (nI rcn) + (nI 1) = nI (rcn + 1) from nI_1 rcn]
      refine va_put (ci := 5) (v := .int (nI (rcn + 1))) (ty := .int) (C := RX5) (T := TX5) (N := 21) hx hb hts (fun w h => List.mem_cons_of_mem _ (List.mem_append_right _ (h))) tyX5 tyX5_ok nmX5 hown hK hP hD hS 0 rfl rfl 17 (by decide) (hts (Cond.fieldLink RX5 124 "OutageBookModel" "causes" "I") (List.mem_of_getElem? (i := 1) rfl)) (fun _ h9 => h9) rfl (by decide +kernel) rfl rfl (Nat.le_of_ble_eq_true rfl) dX5_addCause_40 (fun H locs hP hD hS => ?_)
      have hP : va_P D vwCl (ob_wR t ar Bd Tr rn rcl rrd rsv rpb wf wa ro ah ct rmn rms rmf rmt rmp (rcn + 1) (upd sd rcn (ob_bi true)) V (nI (ob_z1 (!decide (rcn = 16))))) H := hP
      have hD : va_D (va_A (ob_wR t ar Bd Tr rn rcl rrd rsv rpb wf wa ro ah ct rmn rms rmf rmt rmp rcn sd V th) sz) (ob_wR t ar Bd Tr rn rcl rrd rsv rpb wf wa ro ah ct rmn rms rmf rmt rmp (rcn + 1) (upd sd rcn (ob_bi true)) V (nI (ob_z1 (!decide (rcn = 16))))) := hD
      refine lv_aload_n hx hb dX5_addCause_43 rfl (lv_at hl 0 rfl) ?_
      refine va_get (ci := 5) (C := RX5) (T := TX5) (N := 21) hx hb hts (fun w h => List.mem_cons_of_mem _ (List.mem_append_right _ (h))) hown hK hP 0 rfl rfl 17 (by decide) (hts (Cond.fieldLink RX5 124 "OutageBookModel" "causes" "I") (List.mem_of_getElem? (i := 1) rfl)) (fun _ h9 => h9) rfl dX5_addCause_44 ?_
      refine lv_iconst (v := nI 1) hx hb dX5_addCause_47 (by decide) ?_
      refine lv_isub hx hb dX5_addCause_48 ?_
      rw [show (nI (rcn + 1)) - (nI 1) = nI rcn from nI_pred rcn]
      exact W.iret (v := nI rcn) hx hb hr (fun t9 ht hW => ⟨⟨nI rcn, (), rfl, (by rw [c18]; rfl), ob_th ht (by rw [c18] at hP ⊢; exact hP)⟩, hS.F ht⟩) hS.2.2 dX5_addCause_49
    · refine lv_iconst (v := nI 0) hx hb dX5_addCause_21 (by decide) ?_
      exact W.iret (v := nI 0) hx hb hr (fun t9 ht hW => ⟨⟨nI 0, (), rfl, (by rw [c18]; rfl), ob_th ht (by rw [c18] at hP ⊢; exact hP)⟩, hS.F ht⟩) hS.2.2 dX5_addCause_22
  refine lv_aload_n hx hb dX5_addCause_1 rfl (lv_at hl 0 rfl) ?_
  refine va_get (ci := 5) (C := RX5) (T := TX5) (N := 21) hx hb hts (fun w h => List.mem_cons_of_mem _ (List.mem_append_right _ (h))) hown hK hP 0 rfl rfl 17 (by decide) (hts (Cond.fieldLink RX5 124 "OutageBookModel" "causes" "I") (List.mem_of_getElem? (i := 1) rfl)) (fun _ h9 => h9) rfl dX5_addCause_2 ?_
  refine lv_bipush (v := nI 16) hx hb dX5_addCause_5 (by decide) ?_
  refine ob_icmp_ne (tgt := 14) hx hb (by omega) (by omega) dX5_addCause_7 (by decide) (fun c7 => ?_) (fun c7 => ?_)
  · refine lv_iconst (v := nI 0) hx hb dX5_addCause_14 (by decide) ?_
    exact k15 0 (by first | (rw [decide_eq_false c7]; rfl; done) | (rw [decide_eq_true c7]; rfl; done)) _ (lv_sub hl [0] rfl)
  · refine lv_iconst (v := nI 1) hx hb dX5_addCause_10 (by decide) ?_
    refine lv_goto (tgt := 15) hx hb dX5_addCause_11 (by decide) ?_
    exact k15 1 (by first | (rw [decide_eq_false c7]; rfl; done) | (rw [decide_eq_true c7]; rfl; done)) _ (lv_sub hl [0] rfl)

set_option maxRecDepth 100000 in
set_option maxHeartbeats 4000000 in
theorem c_X5_argueReason (l : Launch) (D : va_G) (t : Nat → ClassId) (sz : Nat) (ar : Nat → Nat) (Bd Tr : Nat → Int32) (rn : Nat) (rcl rrd rsv rpb wf wa ro ah : Nat → Int32) (ct : Nat → Int64) (rmn : Nat) (rms rmf rmt rmp : Nat → Int32) (rcn : Nat) (sd V : Nat → Int32) (th : Int32) (x1 x2 x3 : Int32) (hrcn : rcn ≤ 16) : Met l yX5_argueReason wsX5_argueReason ({ frames := 2, cells := 0, slots := 0, locals := 43 } : Room) (ob_Pm D t (ob_wR t ar Bd Tr rn rcl rrd rsv rpb wf wa ro ah ct rmn rms rmf rmt rmp rcn sd V th) sz [.ref (ar 0), .int x1, .int x2, .int x3]) (va_Qi (fun (r : Int32) (_ : Unit) => r = if (ob_hd rcn x1 && ob_hd rcn x2) && (ob_wi x3 (nI 0) (nI 100) && !decide (x1 = x2)) then (if (!decide (x3 ≤ 0)) && ob_hb (ob_rr V sd x2 false 4096) x1 then nI 0 else V (16 * x1.toNatClampNeg + x2.toNatClampNeg)) else nI 0) (fun (_ : Unit) (t9 : State) => va_P D vwCl (ob_wR t ar Bd Tr rn rcl rrd rsv rpb wf wa ro ah ct rmn rms rmf rmt rmp rcn sd (if (ob_hd rcn x1 && ob_hd rcn x2) && (ob_wi x3 (nI 0) (nI 100) && !decide (x1 = x2)) then (if (!decide (x3 ≤ 0)) && ob_hb (ob_rr V sd x2 false 4096) x1 then V else upd V (16 * x1.toNatClampNeg + x2.toNatClampNeg) x3) else V) (nI (if (ob_hd rcn x1 && ob_hd rcn x2) && (ob_wi x3 (nI 0) (nI 100) && !decide (x1 = x2)) then ob_z3 ((!decide (x3 ≤ 0)) && ob_hb (ob_rr V sd x2 false 4096) x1) else ob_z2 (ob_hd rcn x1 && ob_hd rcn x2) (ob_wi x3 (nI 0) (nI 100) && !decide (x1 = x2))))) t9.heap) (va_A (ob_wR t ar Bd Tr rn rcl rrd rsv rpb wf wa ro ah ct rmn rms rmf rmt rmp rcn sd V th) sz)) 0 0 (va_A (ob_wR t ar Bd Tr rn rcl rrd rsv rpb wf wa ro ah ct rmn rms rmf rmt rmp rcn sd V th) sz) := by
  refine Met.ofW (cc := cX5_argueReason) (maxL := 7) (ret := (some .int)) (by decide) rfl ?_
  intro p e s m args below meth c s₁ B hml hv
  obtain ⟨rfl, hsz, hP, hk, hD0⟩ := hv
  have hx := B.exec
  have hb := B.bytes
  have hr := B.returns
  have hts := atoms_spec (ws := wsX5_argueReason) B.pre
  have hown : s.vm.findClass RX5 = some m.cls := findClass_of_methodNamed B.named
  have hlocks := B.notSynchronized
  have hK := hk.1
  have hD : va_D (va_A (ob_wR t ar Bd Tr rn rcl rrd rsv rpb wf wa ro ah ct rmn rms rmf rmt rmp rcn sd V th) sz) (ob_wR t ar Bd Tr rn rcl rrd rsv rpb wf wa ro ah ct rmn rms rmf rmt rmp rcn sd V th) := hD0.self (sz := sz)
  have hA : ∀ q : Nat, s.heap.size ≤ q → (va_A (ob_wR t ar Bd Tr rn rcl rrd rsv rpb wf wa ro ah ct rmn rms rmf rmt rmp rcn sd V th) sz) q := fun q h => Or.inr (hsz ▸ h)
  have hS : va_S (va_A (ob_wR t ar Bd Tr rn rcl rrd rsv rpb wf wa ro ah ct rmn rms rmf rmt rmp rcn sd V th) sz) s.heap s.heap [] := va_S.rf
  have hl := lv_entry [.ref (ar 0), .int x1, .int x2, .int x3] (n := 7) (Nat.le_of_ble_eq_true rfl)
  rw [lg_entry_eq]
  generalize (lg_sl [.ref (ar 0), .int x1, .int x2, .int x3] ++ List.replicate (7 - (lg_sl [.ref (ar 0), .int x1, .int x2, .int x3]).length) Slot.unset).toArray = ls at hl ⊢
  have hl : lv_has ls 7 [(0, .ref (ar 0)), (1, .int x1), (2, .int x2), (3, .int x3)] := hl
  have hP : va_P D vwCl (ob_wR t ar Bd Tr rn rcl rrd rsv rpb wf wa ro ah ct rmn rms rmf rmt rmp rcn sd V th) s.heap := hP
  have k21 : ∀ (b4 : Bool), (b4 = (ob_hd rcn x1 && ob_hd rcn x2)) → ∀ ls : Array Slot, lv_has ls 7 [(0, .ref (ar 0)), (1, .int x1), (2, .int x2), (3, .int x3)] → W p l e (headSpec wsX5_argueReason ({ frames := 2, cells := 0, slots := 0, locals := 43 } : Room)).room s m ([.ref (ar 0), .int x1, .int x2, .int x3] : List Value).toArray below meth c s.heap [] 0 0 (MQ below (va_Qi (fun (r : Int32) (_ : Unit) => r = if (ob_hd rcn x1 && ob_hd rcn x2) && (ob_wi x3 (nI 0) (nI 100) && !decide (x1 = x2)) then (if (!decide (x3 ≤ 0)) && ob_hb (ob_rr V sd x2 false 4096) x1 then nI 0 else V (16 * x1.toNatClampNeg + x2.toNatClampNeg)) else nI 0) (fun (_ : Unit) (t9 : State) => va_P D vwCl (ob_wR t ar Bd Tr rn rcl rrd rsv rpb wf wa ro ah ct rmn rms rmf rmt rmp rcn sd (if (ob_hd rcn x1 && ob_hd rcn x2) && (ob_wi x3 (nI 0) (nI 100) && !decide (x1 = x2)) then (if (!decide (x3 ≤ 0)) && ob_hb (ob_rr V sd x2 false 4096) x1 then V else upd V (16 * x1.toNatClampNeg + x2.toNatClampNeg) x3) else V) (nI (if (ob_hd rcn x1 && ob_hd rcn x2) && (ob_wi x3 (nI 0) (nI 100) && !decide (x1 = x2)) then ob_z3 ((!decide (x3 ≤ 0)) && ob_hb (ob_rr V sd x2 false 4096) x1) else ob_z2 (ob_hd rcn x1 && ob_hd rcn x2) (ob_wi x3 (nI 0) (nI 100) && !decide (x1 = x2))))) t9.heap) (va_A (ob_wR t ar Bd Tr rn rcl rrd rsv rpb wf wa ro ah ct rmn rms rmf rmt rmp rcn sd V th) sz)) ([.ref (ar 0), .int x1, .int x2, .int x3] : List Value).toArray s 0 0 (va_A (ob_wR t ar Bd Tr rn rcl rrd rsv rpb wf wa ro ah ct rmn rms rmf rmt rmp rcn sd V th) sz)) (F0 m 21 ls [.int (ob_bi b4)]) := by
    intro b4 h4 ls hl
    subst h4
    refine lv_istore (lv' := [(4, .int (ob_bi (ob_hd rcn x1 && ob_hd rcn x2))), (0, .ref (ar 0)), (1, .int x1), (2, .int x2), (3, .int x3)]) hx hb dX5_argueReason_21 hl (by decide) rfl (fun ls hl => ?_)
    refine lv_aload_n hx hb dX5_argueReason_23 rfl (lv_at hl 1 rfl) ?_
    have k53 : ∀ (z : Nat), (z = ob_z2 (ob_hd rcn x1 && ob_hd rcn x2) (ob_wi x3 (nI 0) (nI 100) && !decide (x1 = x2))) → ∀ ls : Array Slot, lv_has ls 7 [(0, .ref (ar 0)), (1, .int x1), (2, .int x2), (3, .int x3)] → W p l e (headSpec wsX5_argueReason ({ frames := 2, cells := 0, slots := 0, locals := 43 } : Room)).room s m ([.ref (ar 0), .int x1, .int x2, .int x3] : List Value).toArray below meth c s.heap [] 0 0 (MQ below (va_Qi (fun (r : Int32) (_ : Unit) => r = if (ob_hd rcn x1 && ob_hd rcn x2) && (ob_wi x3 (nI 0) (nI 100) && !decide (x1 = x2)) then (if (!decide (x3 ≤ 0)) && ob_hb (ob_rr V sd x2 false 4096) x1 then nI 0 else V (16 * x1.toNatClampNeg + x2.toNatClampNeg)) else nI 0) (fun (_ : Unit) (t9 : State) => va_P D vwCl (ob_wR t ar Bd Tr rn rcl rrd rsv rpb wf wa ro ah ct rmn rms rmf rmt rmp rcn sd (if (ob_hd rcn x1 && ob_hd rcn x2) && (ob_wi x3 (nI 0) (nI 100) && !decide (x1 = x2)) then (if (!decide (x3 ≤ 0)) && ob_hb (ob_rr V sd x2 false 4096) x1 then V else upd V (16 * x1.toNatClampNeg + x2.toNatClampNeg) x3) else V) (nI (if (ob_hd rcn x1 && ob_hd rcn x2) && (ob_wi x3 (nI 0) (nI 100) && !decide (x1 = x2)) then ob_z3 ((!decide (x3 ≤ 0)) && ob_hb (ob_rr V sd x2 false 4096) x1) else ob_z2 (ob_hd rcn x1 && ob_hd rcn x2) (ob_wi x3 (nI 0) (nI 100) && !decide (x1 = x2))))) t9.heap) (va_A (ob_wR t ar Bd Tr rn rcl rrd rsv rpb wf wa ro ah ct rmn rms rmf rmt rmp rcn sd V th) sz)) ([.ref (ar 0), .int x1, .int x2, .int x3] : List Value).toArray s 0 0 (va_A (ob_wR t ar Bd Tr rn rcl rrd rsv rpb wf wa ro ah ct rmn rms rmf rmt rmp rcn sd V th) sz)) (F0 m 53 ls [.int (nI z), .ref (ar 0)]) := by
      intro z hz ls hl
      subst hz
      have hFc := va_free (wc := ob_wR t ar Bd Tr rn rcl rrd rsv rpb wf wa ro ah ct rmn rms rmf rmt rmp rcn sd V th) hD hS hA [0, 1, 2, 3, 4, 5, 6, 7, 8, 9, 10, 11, 12, 13, 14, 15, 16, 17] rfl
      refine va_calli (va_runV (As := [.int (nI (ob_z2 (ob_hd rcn x1 && ob_hd rcn x2) (ob_wi x3 (nI 0) (nI 100) && !decide (x1 = x2))))]) (rest := []) ⟨hx, hb, hml, hown, hts⟩ (c_X5_goes l D t s.heap.size ar Bd Tr rn rcl rrd rsv rpb wf wa ro ah ct rmn rms rmf rmt rmp rcn sd V th (nI (ob_z2 (ob_hd rcn x1 && ob_hd rcn x2) (ob_wi x3 (nI 0) (nI 100) && !decide (x1 = x2))))) (cwV 1 hts gX5_argueReason_X5_goes rfl rfl rfl (by decide +kernel) ⟨Nat.le_of_ble_eq_true rfl, Nat.le_of_ble_eq_true rfl⟩) (ob_pmV (ci := 5) (q0 := 0) hP hD hk rfl rfl) rfl rfl hl.1 rfl (lv_room (Nat.le_of_ble_eq_true rfl)) dX5_argueReason_53 ⟨Nat.le_of_ble_eq_true rfl, Nat.le_of_ble_eq_true rfl⟩) hS (fun q _ h => hFc q h) hFc (fun r9 u9 t9 H1 locs ht hvm hw9 hB hz1 hk1 hS => ?_)
      rw [ht] at hB
      have hP := ob_jn (ws' := ob_wR t ar Bd Tr rn rcl rrd rsv rpb wf wa ro ah ct rmn rms rmf rmt rmp rcn sd V (nI (ob_z2 (ob_hd rcn x1 && ob_hd rcn x2) (ob_wi x3 (nI 0) (nI 100) && !decide (x1 = x2))))) hP hD [some 0, some 1, some 2, some 3, some 4, some 5, some 6, some 7, some 8, some 9, some 10, some 11, some 12, some 13, some 14, some 15, some 16, some 17] [0, 1, 2, 3, 4, 5, 6, 7, 8, 9, 10, 11, 12, 13, 14, 15, 16, 17] rfl rfl hk1 hB rfl
      have hD : va_D (va_A (ob_wR t ar Bd Tr rn rcl rrd rsv rpb wf wa ro ah ct rmn rms rmf rmt rmp rcn sd V th) sz) (ob_wR t ar Bd Tr rn rcl rrd rsv rpb wf wa ro ah ct rmn rms rmf rmt rmp rcn sd V (nI (ob_z2 (ob_hd rcn x1 && ob_hd rcn x2) (ob_wi x3 (nI 0) (nI 100) && !decide (x1 = x2))))) := ob_dR hD
      generalize H1 = H at hP hS ⊢
      subst hw9
      rw [show ob_bi (decide ((nI (ob_z2 (ob_hd rcn x1 && ob_hd rcn x2) (ob_wi x3 (nI 0) (nI 100) && !decide (x1 = x2)))) = 0)) = ob_bi ((ob_hd rcn x1 && ob_hd rcn x2) && (ob_wi x3 (nI 0) (nI 100) && !decide (x1 = x2))) from ob_dz2 _ _]
      refine ob_if_ne (tgt := 61) hx hb dX5_argueReason_56 (by decide) (fun c56 => ?_) (fun c56 => ?_)
      · obtain ⟨h1, h2⟩ := ob_and2 (ob_and2 c56).1
        obtain ⟨j1, hj1, e1⟩ := ob_hd_t h1
        obtain ⟨j2, hj2, e2⟩ := ob_hd_t h2
        rw [e1, e2] at hl
        refine lv_iload_n hx hb dX5_argueReason_61 rfl (lv_at hl 3 rfl) ?_
        have k84 : ∀ (b5 : Bool), (b5 = ((!decide (x3 ≤ 0)) && ob_hb (ob_rr V sd (nI j2) false 4096) (nI j1))) → ∀ ls : Array Slot, lv_has ls 7 [(0, .ref (ar 0)), (1, .int (nI j1)), (2, .int (nI j2)), (3, .int x3)] → W p l e (headSpec wsX5_argueReason ({ frames := 2, cells := 0, slots := 0, locals := 43 } : Room)).room s m ([.ref (ar 0), .int x1, .int x2, .int x3] : List Value).toArray below meth c H locs 0 0 (MQ below (va_Qi (fun (r : Int32) (_ : Unit) => r = if (ob_hd rcn x1 && ob_hd rcn x2) && (ob_wi x3 (nI 0) (nI 100) && !decide (x1 = x2)) then (if (!decide (x3 ≤ 0)) && ob_hb (ob_rr V sd x2 false 4096) x1 then nI 0 else V (16 * x1.toNatClampNeg + x2.toNatClampNeg)) else nI 0) (fun (_ : Unit) (t9 : State) => va_P D vwCl (ob_wR t ar Bd Tr rn rcl rrd rsv rpb wf wa ro ah ct rmn rms rmf rmt rmp rcn sd (if (ob_hd rcn x1 && ob_hd rcn x2) && (ob_wi x3 (nI 0) (nI 100) && !decide (x1 = x2)) then (if (!decide (x3 ≤ 0)) && ob_hb (ob_rr V sd x2 false 4096) x1 then V else upd V (16 * x1.toNatClampNeg + x2.toNatClampNeg) x3) else V) (nI (if (ob_hd rcn x1 && ob_hd rcn x2) && (ob_wi x3 (nI 0) (nI 100) && !decide (x1 = x2)) then ob_z3 ((!decide (x3 ≤ 0)) && ob_hb (ob_rr V sd x2 false 4096) x1) else ob_z2 (ob_hd rcn x1 && ob_hd rcn x2) (ob_wi x3 (nI 0) (nI 100) && !decide (x1 = x2))))) t9.heap) (va_A (ob_wR t ar Bd Tr rn rcl rrd rsv rpb wf wa ro ah ct rmn rms rmf rmt rmp rcn sd V th) sz)) ([.ref (ar 0), .int x1, .int x2, .int x3] : List Value).toArray s 0 0 (va_A (ob_wR t ar Bd Tr rn rcl rrd rsv rpb wf wa ro ah ct rmn rms rmf rmt rmp rcn sd V th) sz)) (F0 m 84 ls [.int (ob_bi b5)]) := by
          intro b5 h5 ls hl
          refine lv_istore (lv' := [(5, .int (ob_bi b5)), (0, .ref (ar 0)), (1, .int (nI j1)), (2, .int (nI j2)), (3, .int x3)]) hx hb dX5_argueReason_84 hl (by decide) rfl (fun ls hl => ?_)
          refine lv_aload_n hx hb dX5_argueReason_86 rfl (lv_at hl 1 rfl) ?_
          have k97 : ∀ (z : Nat), (z = ob_z3 b5) → ∀ ls : Array Slot, lv_has ls 7 [(0, .ref (ar 0)), (1, .int (nI j1)), (2, .int (nI j2)), (3, .int x3)] → W p l e (headSpec wsX5_argueReason ({ frames := 2, cells := 0, slots := 0, locals := 43 } : Room)).room s m ([.ref (ar 0), .int x1, .int x2, .int x3] : List Value).toArray below meth c H locs 0 0 (MQ below (va_Qi (fun (r : Int32) (_ : Unit) => r = if (ob_hd rcn x1 && ob_hd rcn x2) && (ob_wi x3 (nI 0) (nI 100) && !decide (x1 = x2)) then (if (!decide (x3 ≤ 0)) && ob_hb (ob_rr V sd x2 false 4096) x1 then nI 0 else V (16 * x1.toNatClampNeg + x2.toNatClampNeg)) else nI 0) (fun (_ : Unit) (t9 : State) => va_P D vwCl (ob_wR t ar Bd Tr rn rcl rrd rsv rpb wf wa ro ah ct rmn rms rmf rmt rmp rcn sd (if (ob_hd rcn x1 && ob_hd rcn x2) && (ob_wi x3 (nI 0) (nI 100) && !decide (x1 = x2)) then (if (!decide (x3 ≤ 0)) && ob_hb (ob_rr V sd x2 false 4096) x1 then V else upd V (16 * x1.toNatClampNeg + x2.toNatClampNeg) x3) else V) (nI (if (ob_hd rcn x1 && ob_hd rcn x2) && (ob_wi x3 (nI 0) (nI 100) && !decide (x1 = x2)) then ob_z3 ((!decide (x3 ≤ 0)) && ob_hb (ob_rr V sd x2 false 4096) x1) else ob_z2 (ob_hd rcn x1 && ob_hd rcn x2) (ob_wi x3 (nI 0) (nI 100) && !decide (x1 = x2))))) t9.heap) (va_A (ob_wR t ar Bd Tr rn rcl rrd rsv rpb wf wa ro ah ct rmn rms rmf rmt rmp rcn sd V th) sz)) ([.ref (ar 0), .int x1, .int x2, .int x3] : List Value).toArray s 0 0 (va_A (ob_wR t ar Bd Tr rn rcl rrd rsv rpb wf wa ro ah ct rmn rms rmf rmt rmp rcn sd V th) sz)) (F0 m 97 ls [.int (nI z), .ref (ar 0)]) := by
            intro z hz ls hl
            subst hz
            have hFc := va_free (wc := ob_wR t ar Bd Tr rn rcl rrd rsv rpb wf wa ro ah ct rmn rms rmf rmt rmp rcn sd V (nI (ob_z2 (ob_hd rcn x1 && ob_hd rcn x2) (ob_wi x3 (nI 0) (nI 100) && !decide (x1 = x2))))) hD hS hA [0, 1, 2, 3, 4, 5, 6, 7, 8, 9, 10, 11, 12, 13, 14, 15, 16, 17] rfl
            refine va_calli (va_runV (As := [.int (nI (ob_z3 b5))]) (rest := []) ⟨hx, hb, hml, hown, hts⟩ (c_X5_goes l D t H.size ar Bd Tr rn rcl rrd rsv rpb wf wa ro ah ct rmn rms rmf rmt rmp rcn sd V (nI (ob_z2 (ob_hd rcn x1 && ob_hd rcn x2) (ob_wi x3 (nI 0) (nI 100) && !decide (x1 = x2)))) (nI (ob_z3 b5))) (cwV 1 hts gX5_argueReason_X5_goes rfl rfl rfl (by decide +kernel) ⟨Nat.le_of_ble_eq_true rfl, Nat.le_of_ble_eq_true rfl⟩) (ob_pmV (ci := 5) (q0 := 0) hP hD hk rfl rfl) rfl rfl hl.1 rfl (lv_room (Nat.le_of_ble_eq_true rfl)) dX5_argueReason_97 ⟨Nat.le_of_ble_eq_true rfl, Nat.le_of_ble_eq_true rfl⟩) hS (fun q _ h => hFc q h) hFc (fun r9 u9 t9 H1 locs ht hvm hw9 hB hz1 hk1 hS => ?_)
            rw [ht] at hB
            have hP := ob_jn (ws' := ob_wR t ar Bd Tr rn rcl rrd rsv rpb wf wa ro ah ct rmn rms rmf rmt rmp rcn sd V (nI (ob_z3 b5))) hP hD [some 0, some 1, some 2, some 3, some 4, some 5, some 6, some 7, some 8, some 9, some 10, some 11, some 12, some 13, some 14, some 15, some 16, some 17] [0, 1, 2, 3, 4, 5, 6, 7, 8, 9, 10, 11, 12, 13, 14, 15, 16, 17] rfl rfl hk1 hB rfl
            have hD : va_D (va_A (ob_wR t ar Bd Tr rn rcl rrd rsv rpb wf wa ro ah ct rmn rms rmf rmt rmp rcn sd V th) sz) (ob_wR t ar Bd Tr rn rcl rrd rsv rpb wf wa ro ah ct rmn rms rmf rmt rmp rcn sd V (nI (ob_z3 b5))) := ob_dR hD
            generalize H1 = H at hP hS ⊢
            subst hw9
            rw [show ob_bi (decide ((nI (ob_z3 b5)) = 0)) = ob_bi (!b5) from ob_dz3 _]
            refine ob_if_ne (tgt := 105) hx hb dX5_argueReason_100 (by decide) (fun c100 => ?_) (fun c100 => ?_)
            · refine lv_aload_n hx hb dX5_argueReason_105 rfl (lv_at hl 0 rfl) ?_
              refine va_get (ci := 5) (C := RX5) (T := TX5) (N := 21) hx hb hts (fun w h => List.mem_cons_of_mem _ (List.mem_append_right _ (h))) hown hK hP 0 rfl rfl 19 (by decide) (hts (Cond.fieldLink RX5 60 "OutageBookModel" "weights" "[I") (List.mem_of_getElem? (i := 1) rfl)) (fun _ h9 => h9) rfl dX5_argueReason_106 ?_
              refine lv_bipush (v := nI 16) hx hb dX5_argueReason_109 (by decide) ?_
              refine lv_iload_n hx hb dX5_argueReason_111 rfl (lv_at hl 1 rfl) ?_
              refine lv_imul hx hb dX5_argueReason_112 ?_
              rw [show (nI 16) * (nI j1) = nI (16 * j1) from pk_mul 16 _]
              refine lv_iload_n hx hb dX5_argueReason_113 rfl (lv_at hl 2 rfl) ?_
              refine lv_iadd hx hb dX5_argueReason_114 ?_
              rw [show (nI (16 * j1)) + (nI j2) = nI (16 * j1 + j2) from nI_add _ _]
              refine ob_iald hx hb hK hP 17 0 rfl rfl (by omega) (by decide) dX5_argueReason_115 ?_
              refine lv_istore (lv' := [(6, .int (V (16 * j1 + j2))), (0, .ref (ar 0)), (1, .int (nI j1)), (2, .int (nI j2)), (3, .int x3)]) hx hb dX5_argueReason_116 hl (by decide) rfl (fun ls hl => ?_)
              refine lv_aload_n hx hb dX5_argueReason_118 rfl (lv_at hl 1 rfl) ?_
              refine va_get (ci := 5) (C := RX5) (T := TX5) (N := 21) hx hb hts (fun w h => List.mem_cons_of_mem _ (List.mem_append_right _ (h))) hown hK hP 0 rfl rfl 19 (by decide) (hts (Cond.fieldLink RX5 60 "OutageBookModel" "weights" "[I") (List.mem_of_getElem? (i := 1) rfl)) (fun _ h9 => h9) rfl dX5_argueReason_119 ?_
              refine lv_bipush (v := nI 16) hx hb dX5_argueReason_122 (by decide) ?_
              refine lv_iload_n hx hb dX5_argueReason_124 rfl (lv_at hl 2 rfl) ?_
              refine lv_imul hx hb dX5_argueReason_125 ?_
              rw [show (nI 16) * (nI j1) = nI (16 * j1) from pk_mul 16 _]
              refine lv_iload_n hx hb dX5_argueReason_126 rfl (lv_at hl 3 rfl) ?_
              refine lv_iadd hx hb dX5_argueReason_127 ?_
              rw [show (nI (16 * j1)) + (nI j2) = nI (16 * j1 + j2) from nI_add _ _]
              refine lv_iload_n hx hb dX5_argueReason_128 rfl (lv_at hl 4 rfl) ?_
              refine ob_iast hx hb hK hP hD hS 17 0 rfl rfl (by omega) (by decide) dX5_argueReason_129 (fun H locs hP hD hS => ?_)
              have hP : va_P D vwCl (ob_wR t ar Bd Tr rn rcl rrd rsv rpb wf wa ro ah ct rmn rms rmf rmt rmp rcn sd (upd V (16 * j1 + j2) x3) (nI (ob_z3 b5))) H := hP
              have hD : va_D (va_A (ob_wR t ar Bd Tr rn rcl rrd rsv rpb wf wa ro ah ct rmn rms rmf rmt rmp rcn sd V th) sz) (ob_wR t ar Bd Tr rn rcl rrd rsv rpb wf wa ro ah ct rmn rms rmf rmt rmp rcn sd (upd V (16 * j1 + j2) x3) (nI (ob_z3 b5))) := hD
              refine lv_iload hx hb dX5_argueReason_130 (lv_at hl 0 rfl) ?_
              exact W.iret (v := V (16 * j1 + j2)) hx hb hr (fun t9 ht hW => ⟨⟨V (16 * j1 + j2), (), rfl, (by rw [c56, e1, e2, ob_cl (show j1 ≤ 1073741824 by omega), ob_cl (show j2 ≤ 1073741824 by omega), ← h5]; rw [show b5 = false by simpa using c100]; rfl), ob_th ht (by rw [c56]; simp only [if_true]; rw [e1, e2, ob_cl (show j1 ≤ 1073741824 by omega), ob_cl (show j2 ≤ 1073741824 by omega), ← h5]; have h6 : b5 = false := (by simpa using c100); rw [h6]; rw [h6] at hP; simp only [Bool.false_eq_true, if_false]; exact hP)⟩, hS.F ht⟩) hS.2.2 dX5_argueReason_132
            · refine lv_iconst (v := nI 0) hx hb dX5_argueReason_103 (by decide) ?_
              exact W.iret (v := nI 0) hx hb hr (fun t9 ht hW => ⟨⟨nI 0, (), rfl, (by rw [c56, e1, e2, ← h5]; rw [show b5 = true by simpa using c100]; rfl), ob_th ht (by rw [c56]; simp only [if_true]; rw [e1, e2, ← h5]; have h6 : b5 = true := (by simpa using c100); rw [h6]; rw [h6] at hP; simp only [if_true]; exact hP)⟩, hS.F ht⟩) hS.2.2 dX5_argueReason_104
          refine lv_iload hx hb dX5_argueReason_87 (lv_at hl 0 rfl) ?_
          refine ob_if_eq (tgt := 96) hx hb dX5_argueReason_89 (by decide) (fun c89 => ?_) (fun c89 => ?_)
          · refine lv_iconst (v := nI 0) hx hb dX5_argueReason_96 (by decide) ?_
            exact k97 0 (by rw [c89]; rfl) _ (lv_sub hl [1, 2, 3, 4] rfl)
          · refine lv_iconst (v := nI 3) hx hb dX5_argueReason_92 (by decide) ?_
            refine lv_goto (tgt := 97) hx hb dX5_argueReason_93 (by decide) ?_
            exact k97 3 (by rw [c89]; rfl) _ (lv_sub hl [1, 2, 3, 4] rfl)
        refine lv_if_le (tgt := 83) hx hb dX5_argueReason_62 (by decide) (fun c62 => ?_) (fun c62 => ?_)
        · refine lv_iconst (v := nI 0) hx hb dX5_argueReason_83 (by decide) ?_
          exact k84 false (by first | (rw [decide_eq_true c62]; rfl; done) | (rw [decide_eq_false c62, c76]; rfl; done)) _ (lv_sub hl [0, 1, 2, 3] rfl)
        · refine lv_aload_n hx hb dX5_argueReason_65 rfl (lv_at hl 0 rfl) ?_
          refine lv_iload_n hx hb dX5_argueReason_66 rfl (lv_at hl 2 rfl) ?_
          refine lv_iconst (v := ob_bi false) hx hb dX5_argueReason_67 (by decide) ?_
          refine vp_callSi (va_Run.run (va_runV (As := [.int (nI j2), .int (ob_bi false)]) (rest := []) ⟨hx, hb, hml, hown, hts⟩ (c_X5_reached l D t ar Bd Tr rn rcl rrd rsv rpb wf wa ro ah ct rmn rms rmf rmt rmp rcn sd V (nI (ob_z2 (ob_hd rcn x1 && ob_hd rcn x2) (ob_wi x3 (nI 0) (nI 100) && !decide (x1 = x2)))) (nI j2) false) (cwV 2 hts gX5_argueReason_X5_reached rfl rfl rfl (by decide +kernel) ⟨Nat.le_of_ble_eq_true rfl, Nat.le_of_ble_eq_true rfl⟩) (ob_preV (ci := 5) (q0 := 0) hP hk rfl rfl) rfl rfl hl.1 rfl (lv_room (Nat.le_of_ble_eq_true rfl)) dX5_argueReason_68 ⟨Nat.le_of_ble_eq_true rfl, Nat.le_of_ble_eq_true rfl⟩)) (fun r9 hr9 => ?_)
          subst hr9
          refine lv_iload_n hx hb dX5_argueReason_71 rfl (lv_at hl 1 rfl) ?_
          refine lv_ishr hx hb dX5_argueReason_72 ?_
          refine lv_iconst (v := nI 1) hx hb dX5_argueReason_73 (by decide) ?_
          refine lv_iand hx hb dX5_argueReason_74 ?_
          rw [show ((ob_rr V sd (nI j2) false 4096) >>> ((nI j1) &&& 31)) &&& (nI 1) = ob_bi (ob_hb (ob_rr V sd (nI j2) false 4096) (nI j1)) from ob_sh1 (by omega)]
          refine lv_iconst (v := nI 1) hx hb dX5_argueReason_75 (by decide) ?_
          refine ob_bcmp_ne (tgt := 83) hx hb dX5_argueReason_76 (by decide) (fun c76 => ?_) (fun c76 => ?_)
          · refine lv_iconst (v := nI 0) hx hb dX5_argueReason_83 (by decide) ?_
            exact k84 false (by first | (rw [decide_eq_true c62]; rfl; done) | (rw [decide_eq_false c62, c76]; rfl; done)) _ (lv_sub hl [0, 1, 2, 3] rfl)
          · refine lv_iconst (v := nI 1) hx hb dX5_argueReason_79 (by decide) ?_
            refine lv_goto (tgt := 84) hx hb dX5_argueReason_80 (by decide) ?_
            exact k84 true (by first | (rw [decide_eq_true c62]; rfl; done) | (rw [decide_eq_false c62, c76]; rfl; done)) _ (lv_sub hl [0, 1, 2, 3] rfl)
      · refine lv_iconst (v := nI 0) hx hb dX5_argueReason_59 (by decide) ?_
        exact W.iret (v := nI 0) hx hb hr (fun t9 ht hW => ⟨⟨nI 0, (), rfl, (by rw [c56]; rfl), ob_th ht (by rw [c56]; simp only [Bool.false_eq_true, if_false]; exact hP)⟩, hS.F ht⟩) hS.2.2 dX5_argueReason_60
    refine lv_iload hx hb dX5_argueReason_24 (lv_at hl 0 rfl) ?_
    refine ob_if_ne (tgt := 33) hx hb dX5_argueReason_26 (by decide) (fun c26 => ?_) (fun c26 => ?_)
    · refine lv_iload_n hx hb dX5_argueReason_33 rfl (lv_at hl 4 rfl) ?_
      refine lv_iconst (v := nI 0) hx hb dX5_argueReason_34 (by decide) ?_
      refine lv_bipush (v := nI 100) hx hb dX5_argueReason_35 (by decide) ?_
      refine vp_callSi (va_Run.run (va_runS (As := [.int x3, .int (nI 0), .int (nI 100)]) (rest := [.ref (ar 0)]) ⟨hx, hb, hml, hown, hts⟩ (c_X5_isIn l D t x3 (nI 0) (nI 100)) (va_cwS 3 hts gX5_argueReason_X5_isIn rfl rfl rfl (by decide +kernel) ⟨Nat.le_of_ble_eq_true rfl, Nat.le_of_ble_eq_true rfl⟩) (ob_preS (hP.sub [] rfl) hk) rfl rfl hl.1 rfl (lv_room (Nat.le_of_ble_eq_true rfl)) dX5_argueReason_37 ⟨Nat.le_of_ble_eq_true rfl, Nat.le_of_ble_eq_true rfl⟩)) (fun r9 hr9 => ?_)
      subst hr9
      refine ob_if_eq (tgt := 48) hx hb dX5_argueReason_40 (by decide) (fun c40 => ?_) (fun c40 => ?_)
      · refine lv_iconst (v := nI 2) hx hb dX5_argueReason_48 (by decide) ?_
        refine lv_goto (tgt := 53) hx hb dX5_argueReason_49 (by decide) ?_
        exact k53 2 (by first | (rw [c26]; rfl; done) | (rw [c26, c40]; rfl; done) | (rw [c26, c40, decide_eq_false c45]; rfl; done) | (rw [c26, c40, decide_eq_true c45]; rfl; done)) _ (lv_sub hl [1, 2, 3, 4] rfl)
      · refine lv_iload_n hx hb dX5_argueReason_43 rfl (lv_at hl 2 rfl) ?_
        refine lv_iload_n hx hb dX5_argueReason_44 rfl (lv_at hl 3 rfl) ?_
        refine lv_icmp_ne (tgt := 52) hx hb dX5_argueReason_45 (by decide) (fun c45 => ?_) (fun c45 => ?_)
        · refine lv_iconst (v := nI 0) hx hb dX5_argueReason_52 (by decide) ?_
          exact k53 0 (by first | (rw [c26]; rfl; done) | (rw [c26, c40]; rfl; done) | (rw [c26, c40, decide_eq_false c45]; rfl; done) | (rw [c26, c40, decide_eq_true c45]; rfl; done)) _ (lv_sub hl [1, 2, 3, 4] rfl)
        · refine lv_iconst (v := nI 2) hx hb dX5_argueReason_48 (by decide) ?_
          refine lv_goto (tgt := 53) hx hb dX5_argueReason_49 (by decide) ?_
          exact k53 2 (by first | (rw [c26]; rfl; done) | (rw [c26, c40]; rfl; done) | (rw [c26, c40, decide_eq_false c45]; rfl; done) | (rw [c26, c40, decide_eq_true c45]; rfl; done)) _ (lv_sub hl [1, 2, 3, 4] rfl)
    · refine lv_iconst (v := nI 1) hx hb dX5_argueReason_29 (by decide) ?_
      refine lv_goto (tgt := 53) hx hb dX5_argueReason_30 (by decide) ?_
      exact k53 1 (by first | (rw [c26]; rfl; done) | (rw [c26, c40]; rfl; done) | (rw [c26, c40, decide_eq_false c45]; rfl; done) | (rw [c26, c40, decide_eq_true c45]; rfl; done)) _ (lv_sub hl [1, 2, 3, 4] rfl)
  refine lv_aload_n hx hb dX5_argueReason_0 rfl (lv_at hl 0 rfl) ?_
  refine lv_iload_n hx hb dX5_argueReason_1 rfl (lv_at hl 1 rfl) ?_
  refine vp_callSi (va_Run.run (va_runV (As := [.int x1]) (rest := []) ⟨hx, hb, hml, hown, hts⟩ (c_X5_isCause l D t ar Bd Tr rn rcl rrd rsv rpb wf wa ro ah ct rmn rms rmf rmt rmp rcn sd V th x1 (by first | assumption | omega)) (cwV 1 hts gX5_argueReason_X5_isCause rfl rfl rfl (by decide +kernel) ⟨Nat.le_of_ble_eq_true rfl, Nat.le_of_ble_eq_true rfl⟩) (ob_preV (ci := 5) (q0 := 0) hP hk rfl rfl) rfl rfl hl.1 rfl (lv_room (Nat.le_of_ble_eq_true rfl)) dX5_argueReason_2 ⟨Nat.le_of_ble_eq_true rfl, Nat.le_of_ble_eq_true rfl⟩)) (fun r9 hr9 => ?_)
  subst hr9
  refine ob_if_eq (tgt := 20) hx hb dX5_argueReason_5 (by decide) (fun c5 => ?_) (fun c5 => ?_)
  · refine lv_iconst (v := nI 0) hx hb dX5_argueReason_20 (by decide) ?_
    exact k21 false (by first | (rw [c5]; rfl; done) | (rw [c5, c13]; rfl; done)) _ (lv_sub hl [0, 1, 2, 3] rfl)
  · refine lv_aload_n hx hb dX5_argueReason_8 rfl (lv_at hl 0 rfl) ?_
    refine lv_iload_n hx hb dX5_argueReason_9 rfl (lv_at hl 2 rfl) ?_
    refine vp_callSi (va_Run.run (va_runV (As := [.int x2]) (rest := []) ⟨hx, hb, hml, hown, hts⟩ (c_X5_isCause l D t ar Bd Tr rn rcl rrd rsv rpb wf wa ro ah ct rmn rms rmf rmt rmp rcn sd V th x2 (by first | assumption | omega)) (cwV 1 hts gX5_argueReason_X5_isCause rfl rfl rfl (by decide +kernel) ⟨Nat.le_of_ble_eq_true rfl, Nat.le_of_ble_eq_true rfl⟩) (ob_preV (ci := 5) (q0 := 0) hP hk rfl rfl) rfl rfl hl.1 rfl (lv_room (Nat.le_of_ble_eq_true rfl)) dX5_argueReason_10 ⟨Nat.le_of_ble_eq_true rfl, Nat.le_of_ble_eq_true rfl⟩)) (fun r9 hr9 => ?_)
    subst hr9
    refine ob_if_eq (tgt := 20) hx hb dX5_argueReason_13 (by decide) (fun c13 => ?_) (fun c13 => ?_)
    · refine lv_iconst (v := nI 0) hx hb dX5_argueReason_20 (by decide) ?_
      exact k21 false (by first | (rw [c5]; rfl; done) | (rw [c5, c13]; rfl; done)) _ (lv_sub hl [0, 1, 2, 3] rfl)
    · refine lv_iconst (v := nI 1) hx hb dX5_argueReason_16 (by decide) ?_
      refine lv_goto (tgt := 21) hx hb dX5_argueReason_17 (by decide) ?_
      exact k21 true (by first | (rw [c5]; rfl; done) | (rw [c5, c13]; rfl; done)) _ (lv_sub hl [0, 1, 2, 3] rfl)

set_option maxRecDepth 100000 in
set_option maxHeartbeats 4000000 in
theorem c_X5_setStanding (l : Launch) (D : va_G) (t : Nat → ClassId) (sz : Nat) (ar : Nat → Nat) (Bd Tr : Nat → Int32) (rn : Nat) (rcl rrd rsv rpb wf wa ro ah : Nat → Int32) (ct : Nat → Int64) (rmn : Nat) (rms rmf rmt rmp : Nat → Int32) (rcn : Nat) (sd V : Nat → Int32) (th : Int32) (sb : Nat → Bool) (x : Int32) (b2 : Bool) (hrcn : rcn ≤ 16) (hsb : ∀ k, sd k = ob_bi (sb k)) : Met l yX5_setStanding wsX5_setStanding ({ frames := 2, cells := 0, slots := 0, locals := 43 } : Room) (ob_Pm D t (ob_wR t ar Bd Tr rn rcl rrd rsv rpb wf wa ro ah ct rmn rms rmf rmt rmp rcn sd V th) sz [.ref (ar 0), .int x, .int (ob_bi b2)]) (va_Qi (fun (r : Int32) (_ : Unit) => r = ob_bi (ob_hd rcn x && sb x.toNatClampNeg)) (fun (_ : Unit) (t9 : State) => va_P D vwCl (ob_wR t ar Bd Tr rn rcl rrd rsv rpb wf wa ro ah ct rmn rms rmf rmt rmp rcn (if ob_hd rcn x then upd sd x.toNatClampNeg (ob_bi b2) else sd) V (nI (ob_z1 (ob_hd rcn x)))) t9.heap) (va_A (ob_wR t ar Bd Tr rn rcl rrd rsv rpb wf wa ro ah ct rmn rms rmf rmt rmp rcn sd V th) sz)) 0 0 (va_A (ob_wR t ar Bd Tr rn rcl rrd rsv rpb wf wa ro ah ct rmn rms rmf rmt rmp rcn sd V th) sz) := by
  refine Met.ofW (cc := cX5_setStanding) (maxL := 4) (ret := (some .boolean)) (by decide) rfl ?_
  intro p e s m args below meth c s₁ B hml hv
  obtain ⟨rfl, hsz, hP, hk, hD0⟩ := hv
  have hx := B.exec
  have hb := B.bytes
  have hr := B.returns
  have hts := atoms_spec (ws := wsX5_setStanding) B.pre
  have hown : s.vm.findClass RX5 = some m.cls := findClass_of_methodNamed B.named
  have hlocks := B.notSynchronized
  have hK := hk.1
  have hD : va_D (va_A (ob_wR t ar Bd Tr rn rcl rrd rsv rpb wf wa ro ah ct rmn rms rmf rmt rmp rcn sd V th) sz) (ob_wR t ar Bd Tr rn rcl rrd rsv rpb wf wa ro ah ct rmn rms rmf rmt rmp rcn sd V th) := hD0.self (sz := sz)
  have hA : ∀ q : Nat, s.heap.size ≤ q → (va_A (ob_wR t ar Bd Tr rn rcl rrd rsv rpb wf wa ro ah ct rmn rms rmf rmt rmp rcn sd V th) sz) q := fun q h => Or.inr (hsz ▸ h)
  have hS : va_S (va_A (ob_wR t ar Bd Tr rn rcl rrd rsv rpb wf wa ro ah ct rmn rms rmf rmt rmp rcn sd V th) sz) s.heap s.heap [] := va_S.rf
  have hl := lv_entry [.ref (ar 0), .int x, .int (ob_bi b2)] (n := 4) (Nat.le_of_ble_eq_true rfl)
  rw [lg_entry_eq]
  generalize (lg_sl [.ref (ar 0), .int x, .int (ob_bi b2)] ++ List.replicate (4 - (lg_sl [.ref (ar 0), .int x, .int (ob_bi b2)]).length) Slot.unset).toArray = ls at hl ⊢
  have hl : lv_has ls 4 [(0, .ref (ar 0)), (1, .int x), (2, .int (ob_bi b2))] := hl
  have hP : va_P D vwCl (ob_wR t ar Bd Tr rn rcl rrd rsv rpb wf wa ro ah ct rmn rms rmf rmt rmp rcn sd V th) s.heap := hP
  refine lv_aload_n hx hb dX5_setStanding_0 rfl (lv_at hl 0 rfl) ?_
  refine lv_aload_n hx hb dX5_setStanding_1 rfl (lv_at hl 0 rfl) ?_
  have k14 : ∀ (z : Nat), (z = ob_z1 (ob_hd rcn x)) → ∀ ls : Array Slot, lv_has ls 4 [(0, .ref (ar 0)), (1, .int x), (2, .int (ob_bi b2))] → W p l e (headSpec wsX5_setStanding ({ frames := 2, cells := 0, slots := 0, locals := 43 } : Room)).room s m ([.ref (ar 0), .int x, .int (ob_bi b2)] : List Value).toArray below meth c s.heap [] 0 0 (MQ below (va_Qi (fun (r : Int32) (_ : Unit) => r = ob_bi (ob_hd rcn x && sb x.toNatClampNeg)) (fun (_ : Unit) (t9 : State) => va_P D vwCl (ob_wR t ar Bd Tr rn rcl rrd rsv rpb wf wa ro ah ct rmn rms rmf rmt rmp rcn (if ob_hd rcn x then upd sd x.toNatClampNeg (ob_bi b2) else sd) V (nI (ob_z1 (ob_hd rcn x)))) t9.heap) (va_A (ob_wR t ar Bd Tr rn rcl rrd rsv rpb wf wa ro ah ct rmn rms rmf rmt rmp rcn sd V th) sz)) ([.ref (ar 0), .int x, .int (ob_bi b2)] : List Value).toArray s 0 0 (va_A (ob_wR t ar Bd Tr rn rcl rrd rsv rpb wf wa ro ah ct rmn rms rmf rmt rmp rcn sd V th) sz)) (F0 m 14 ls [.int (nI z), .ref (ar 0)]) := by
    intro z hz ls hl
    subst hz
    have hFc := va_free (wc := ob_wR t ar Bd Tr rn rcl rrd rsv rpb wf wa ro ah ct rmn rms rmf rmt rmp rcn sd V th) hD hS hA [0, 1, 2, 3, 4, 5, 6, 7, 8, 9, 10, 11, 12, 13, 14, 15, 16, 17] rfl
    refine va_calli (va_runV (As := [.int (nI (ob_z1 (ob_hd rcn x)))]) (rest := []) ⟨hx, hb, hml, hown, hts⟩ (c_X5_goes l D t s.heap.size ar Bd Tr rn rcl rrd rsv rpb wf wa ro ah ct rmn rms rmf rmt rmp rcn sd V th (nI (ob_z1 (ob_hd rcn x)))) (cwV 1 hts gX5_setStanding_X5_goes rfl rfl rfl (by decide +kernel) ⟨Nat.le_of_ble_eq_true rfl, Nat.le_of_ble_eq_true rfl⟩) (ob_pmV (ci := 5) (q0 := 0) hP hD hk rfl rfl) rfl rfl hl.1 rfl (lv_room (Nat.le_of_ble_eq_true rfl)) dX5_setStanding_14 ⟨Nat.le_of_ble_eq_true rfl, Nat.le_of_ble_eq_true rfl⟩) hS (fun q _ h => hFc q h) hFc (fun r9 u9 t9 H1 locs ht hvm hw9 hB hz1 hk1 hS => ?_)
    rw [ht] at hB
    have hP := ob_jn (ws' := ob_wR t ar Bd Tr rn rcl rrd rsv rpb wf wa ro ah ct rmn rms rmf rmt rmp rcn sd V (nI (ob_z1 (ob_hd rcn x)))) hP hD [some 0, some 1, some 2, some 3, some 4, some 5, some 6, some 7, some 8, some 9, some 10, some 11, some 12, some 13, some 14, some 15, some 16, some 17] [0, 1, 2, 3, 4, 5, 6, 7, 8, 9, 10, 11, 12, 13, 14, 15, 16, 17] rfl rfl hk1 hB rfl
    have hD : va_D (va_A (ob_wR t ar Bd Tr rn rcl rrd rsv rpb wf wa ro ah ct rmn rms rmf rmt rmp rcn sd V th) sz) (ob_wR t ar Bd Tr rn rcl rrd rsv rpb wf wa ro ah ct rmn rms rmf rmt rmp rcn sd V (nI (ob_z1 (ob_hd rcn x)))) := ob_dR hD
    generalize H1 = H at hP hS ⊢
    subst hw9
    rw [show ob_bi (decide ((nI (ob_z1 (ob_hd rcn x))) = 0)) = ob_bi (ob_hd rcn x) from ob_dz1 _]
    refine ob_if_ne (tgt := 22) hx hb dX5_setStanding_17 (by decide) (fun c17 => ?_) (fun c17 => ?_)
    · obtain ⟨j, hj, e1⟩ := ob_hd_t c17
      rw [e1] at hl
      refine lv_aload_n hx hb dX5_setStanding_22 rfl (lv_at hl 0 rfl) ?_
      refine va_get (ci := 5) (C := RX5) (T := TX5) (N := 21) hx hb hts (fun w h => List.mem_cons_of_mem _ (List.mem_append_right _ (h))) hown hK hP 0 rfl rfl 18 (by decide) (hts (Cond.fieldLink RX5 57 "OutageBookModel" "stands" "[Z") (List.mem_of_getElem? (i := 1) rfl)) (fun _ h9 => h9) rfl dX5_setStanding_23 ?_
      refine lv_iload_n hx hb dX5_setStanding_26 rfl (lv_at hl 1 rfl) ?_
      refine ob_zald hx hb hK hP 16 2 rfl rfl (by omega) (by decide) dX5_setStanding_27 ?_
      rw [show sd j = ob_bi (sb j) from hsb j]
      refine lv_istore_n (lv' := [(3, .int (ob_bi (sb j))), (0, .ref (ar 0)), (1, .int (nI j)), (2, .int (ob_bi b2))]) hx hb dX5_setStanding_28 rfl hl (by decide) rfl (fun ls hl => ?_)
      refine lv_aload_n hx hb dX5_setStanding_29 rfl (lv_at hl 1 rfl) ?_
      refine va_get (ci := 5) (C := RX5) (T := TX5) (N := 21) hx hb hts (fun w h => List.mem_cons_of_mem _ (List.mem_append_right _ (h))) hown hK hP 0 rfl rfl 18 (by decide) (hts (Cond.fieldLink RX5 57 "OutageBookModel" "stands" "[Z") (List.mem_of_getElem? (i := 1) rfl)) (fun _ h9 => h9) rfl dX5_setStanding_30 ?_
      refine lv_iload_n hx hb dX5_setStanding_33 rfl (lv_at hl 2 rfl) ?_
      refine lv_iload_n hx hb dX5_setStanding_34 rfl (lv_at hl 3 rfl) ?_
      refine ob_zast hx hb hK hP hD hS 16 2 rfl rfl (by omega) (by decide) dX5_setStanding_35 (fun H locs hP hD hS => ?_)
      have hP : va_P D vwCl (ob_wR t ar Bd Tr rn rcl rrd rsv rpb wf wa ro ah ct rmn rms rmf rmt rmp rcn (upd sd j (ob_bi b2)) V (nI (ob_z1 (ob_hd rcn x)))) H := hP
      have hD : va_D (va_A (ob_wR t ar Bd Tr rn rcl rrd rsv rpb wf wa ro ah ct rmn rms rmf rmt rmp rcn sd V th) sz) (ob_wR t ar Bd Tr rn rcl rrd rsv rpb wf wa ro ah ct rmn rms rmf rmt rmp rcn (upd sd j (ob_bi b2)) V (nI (ob_z1 (ob_hd rcn x)))) := hD
      refine lv_iload_n hx hb dX5_setStanding_36 rfl (lv_at hl 0 rfl) ?_
      exact W.zret (v := ob_bi (sb j)) hx hb hr (ob_narZ _) (fun t9 ht hW => ⟨⟨ob_bi (sb j), (), rfl, (by rw [c17, e1, ob_cl (show j ≤ 1073741824 by omega)]; rfl), ob_th ht (by rw [c17, e1, ob_cl (show j ≤ 1073741824 by omega)]; rw [c17] at hP; exact hP)⟩, hS.F ht⟩) hS.2.2 dX5_setStanding_37
    · refine lv_iconst (v := nI 0) hx hb dX5_setStanding_20 (by decide) ?_
      exact W.zret (v := nI 0) hx hb hr rfl (fun t9 ht hW => ⟨⟨nI 0, (), rfl, (by rw [c17]; rfl), ob_th ht (by rw [c17] at hP ⊢; exact hP)⟩, hS.F ht⟩) hS.2.2 dX5_setStanding_21
  refine lv_iload_n hx hb dX5_setStanding_2 rfl (lv_at hl 1 rfl) ?_
  refine vp_callSi (va_Run.run (va_runV (As := [.int x]) (rest := [.ref (ar 0)]) ⟨hx, hb, hml, hown, hts⟩ (c_X5_isCause l D t ar Bd Tr rn rcl rrd rsv rpb wf wa ro ah ct rmn rms rmf rmt rmp rcn sd V th x (by first | assumption | omega)) (cwV 1 hts gX5_setStanding_X5_isCause rfl rfl rfl (by decide +kernel) ⟨Nat.le_of_ble_eq_true rfl, Nat.le_of_ble_eq_true rfl⟩) (ob_preV (ci := 5) (q0 := 0) hP hk rfl rfl) rfl rfl hl.1 rfl (lv_room (Nat.le_of_ble_eq_true rfl)) dX5_setStanding_3 ⟨Nat.le_of_ble_eq_true rfl, Nat.le_of_ble_eq_true rfl⟩)) (fun r9 hr9 => ?_)
  subst hr9
  refine ob_if_eq (tgt := 13) hx hb dX5_setStanding_6 (by decide) (fun c6 => ?_) (fun c6 => ?_)
  · refine lv_iconst (v := nI 1) hx hb dX5_setStanding_13 (by decide) ?_
    exact k14 1 (by rw [c6]; rfl) _ (lv_sub hl [0, 1, 2] rfl)
  · refine lv_iconst (v := nI 0) hx hb dX5_setStanding_9 (by decide) ?_
    refine lv_goto (tgt := 14) hx hb dX5_setStanding_10 (by decide) ?_
    exact k14 0 (by rw [c6]; rfl) _ (lv_sub hl [0, 1, 2] rfl)

set_option maxRecDepth 100000 in
set_option maxHeartbeats 4000000 in
theorem c_X5_roots (l : Launch) (D : va_G) (t : Nat → ClassId) (sz : Nat) (ar : Nat → Nat) (Bd Tr : Nat → Int32) (rn : Nat) (rcl rrd rsv rpb wf wa ro ah : Nat → Int32) (ct : Nat → Int64) (rmn : Nat) (rms rmf rmt rmp : Nat → Int32) (rcn : Nat) (sd V : Nat → Int32) (th : Int32) (x : Int32) (hrcn : rcn ≤ 16) : Met l yX5_roots wsX5_roots ({ frames := 2, cells := 0, slots := 0, locals := 43 } : Room) (ob_Pm D t (ob_wR t ar Bd Tr rn rcl rrd rsv rpb wf wa ro ah ct rmn rms rmf rmt rmp rcn sd V th) sz [.ref (ar 0), .int x]) (va_Qi (fun (r : Int32) (_ : Unit) => r = if ob_hd rcn x then ob_rg V sd rcn (if sd x.toNatClampNeg = 0 then nI 0 else ob_rr V sd x true 4096) rcn else nI 0) (fun (_ : Unit) (t9 : State) => va_P D vwCl (ob_wR t ar Bd Tr rn rcl rrd rsv rpb wf wa ro ah ct rmn rms rmf rmt rmp rcn sd V (nI (ob_z1 (ob_hd rcn x)))) t9.heap) (va_A (ob_wR t ar Bd Tr rn rcl rrd rsv rpb wf wa ro ah ct rmn rms rmf rmt rmp rcn sd V th) sz)) 0 0 (va_A (ob_wR t ar Bd Tr rn rcl rrd rsv rpb wf wa ro ah ct rmn rms rmf rmt rmp rcn sd V th) sz) := by
  refine Met.ofW (cc := cX5_roots) (maxL := 5) (ret := (some .int)) (by decide) rfl ?_
  intro p e s m args below meth c s₁ B hml hv
  obtain ⟨rfl, hsz, hP, hk, hD0⟩ := hv
  have hx := B.exec
  have hb := B.bytes
  have hr := B.returns
  have hts := atoms_spec (ws := wsX5_roots) B.pre
  have hown : s.vm.findClass RX5 = some m.cls := findClass_of_methodNamed B.named
  have hlocks := B.notSynchronized
  have hK := hk.1
  have hD : va_D (va_A (ob_wR t ar Bd Tr rn rcl rrd rsv rpb wf wa ro ah ct rmn rms rmf rmt rmp rcn sd V th) sz) (ob_wR t ar Bd Tr rn rcl rrd rsv rpb wf wa ro ah ct rmn rms rmf rmt rmp rcn sd V th) := hD0.self (sz := sz)
  have hA : ∀ q : Nat, s.heap.size ≤ q → (va_A (ob_wR t ar Bd Tr rn rcl rrd rsv rpb wf wa ro ah ct rmn rms rmf rmt rmp rcn sd V th) sz) q := fun q h => Or.inr (hsz ▸ h)
  have hS : va_S (va_A (ob_wR t ar Bd Tr rn rcl rrd rsv rpb wf wa ro ah ct rmn rms rmf rmt rmp rcn sd V th) sz) s.heap s.heap [] := va_S.rf
  have hl := lv_entry [.ref (ar 0), .int x] (n := 5) (Nat.le_of_ble_eq_true rfl)
  rw [lg_entry_eq]
  generalize (lg_sl [.ref (ar 0), .int x] ++ List.replicate (5 - (lg_sl [.ref (ar 0), .int x]).length) Slot.unset).toArray = ls at hl ⊢
  have hl : lv_has ls 5 [(0, .ref (ar 0)), (1, .int x)] := hl
  have hP : va_P D vwCl (ob_wR t ar Bd Tr rn rcl rrd rsv rpb wf wa ro ah ct rmn rms rmf rmt rmp rcn sd V th) s.heap := hP
  refine lv_aload_n hx hb dX5_roots_0 rfl (lv_at hl 0 rfl) ?_
  refine lv_aload_n hx hb dX5_roots_1 rfl (lv_at hl 0 rfl) ?_
  have k14 : ∀ (z : Nat), (z = ob_z1 (ob_hd rcn x)) → ∀ ls : Array Slot, lv_has ls 5 [(0, .ref (ar 0)), (1, .int x)] → W p l e (headSpec wsX5_roots ({ frames := 2, cells := 0, slots := 0, locals := 43 } : Room)).room s m ([.ref (ar 0), .int x] : List Value).toArray below meth c s.heap [] 0 0 (MQ below (va_Qi (fun (r : Int32) (_ : Unit) => r = if ob_hd rcn x then ob_rg V sd rcn (if sd x.toNatClampNeg = 0 then nI 0 else ob_rr V sd x true 4096) rcn else nI 0) (fun (_ : Unit) (t9 : State) => va_P D vwCl (ob_wR t ar Bd Tr rn rcl rrd rsv rpb wf wa ro ah ct rmn rms rmf rmt rmp rcn sd V (nI (ob_z1 (ob_hd rcn x)))) t9.heap) (va_A (ob_wR t ar Bd Tr rn rcl rrd rsv rpb wf wa ro ah ct rmn rms rmf rmt rmp rcn sd V th) sz)) ([.ref (ar 0), .int x] : List Value).toArray s 0 0 (va_A (ob_wR t ar Bd Tr rn rcl rrd rsv rpb wf wa ro ah ct rmn rms rmf rmt rmp rcn sd V th) sz)) (F0 m 14 ls [.int (nI z), .ref (ar 0)]) := by
    intro z hz ls hl
    subst hz
    have hFc := va_free (wc := ob_wR t ar Bd Tr rn rcl rrd rsv rpb wf wa ro ah ct rmn rms rmf rmt rmp rcn sd V th) hD hS hA [0, 1, 2, 3, 4, 5, 6, 7, 8, 9, 10, 11, 12, 13, 14, 15, 16, 17] rfl
    refine va_calli (va_runV (As := [.int (nI (ob_z1 (ob_hd rcn x)))]) (rest := []) ⟨hx, hb, hml, hown, hts⟩ (c_X5_goes l D t s.heap.size ar Bd Tr rn rcl rrd rsv rpb wf wa ro ah ct rmn rms rmf rmt rmp rcn sd V th (nI (ob_z1 (ob_hd rcn x)))) (cwV 1 hts gX5_roots_X5_goes rfl rfl rfl (by decide +kernel) ⟨Nat.le_of_ble_eq_true rfl, Nat.le_of_ble_eq_true rfl⟩) (ob_pmV (ci := 5) (q0 := 0) hP hD hk rfl rfl) rfl rfl hl.1 rfl (lv_room (Nat.le_of_ble_eq_true rfl)) dX5_roots_14 ⟨Nat.le_of_ble_eq_true rfl, Nat.le_of_ble_eq_true rfl⟩) hS (fun q _ h => hFc q h) hFc (fun r9 u9 t9 H1 locs ht hvm hw9 hB hz1 hk1 hS => ?_)
    rw [ht] at hB
    have hP := ob_jn (ws' := ob_wR t ar Bd Tr rn rcl rrd rsv rpb wf wa ro ah ct rmn rms rmf rmt rmp rcn sd V (nI (ob_z1 (ob_hd rcn x)))) hP hD [some 0, some 1, some 2, some 3, some 4, some 5, some 6, some 7, some 8, some 9, some 10, some 11, some 12, some 13, some 14, some 15, some 16, some 17] [0, 1, 2, 3, 4, 5, 6, 7, 8, 9, 10, 11, 12, 13, 14, 15, 16, 17] rfl rfl hk1 hB rfl
    have hD : va_D (va_A (ob_wR t ar Bd Tr rn rcl rrd rsv rpb wf wa ro ah ct rmn rms rmf rmt rmp rcn sd V th) sz) (ob_wR t ar Bd Tr rn rcl rrd rsv rpb wf wa ro ah ct rmn rms rmf rmt rmp rcn sd V (nI (ob_z1 (ob_hd rcn x)))) := ob_dR hD
    generalize H1 = H at hP hS ⊢
    subst hw9
    rw [show ob_bi (decide ((nI (ob_z1 (ob_hd rcn x))) = 0)) = ob_bi (ob_hd rcn x) from ob_dz1 _]
    refine ob_if_ne (tgt := 22) hx hb dX5_roots_17 (by decide) (fun c17 => ?_) (fun c17 => ?_)
    · obtain ⟨j, hj, e1⟩ := ob_hd_t c17
      rw [e1] at hl
      refine lv_aload_n hx hb dX5_roots_22 rfl (lv_at hl 0 rfl) ?_
      have k41 : ∀ (v : Int32), (v = if sd j = 0 then nI 0 else ob_rr V sd (nI j) true 4096) → ∀ ls : Array Slot, lv_has ls 5 [(0, .ref (ar 0)), (1, .int (nI j))] → W p l e (headSpec wsX5_roots ({ frames := 2, cells := 0, slots := 0, locals := 43 } : Room)).room s m ([.ref (ar 0), .int x] : List Value).toArray below meth c H locs 0 0 (MQ below (va_Qi (fun (r : Int32) (_ : Unit) => r = if ob_hd rcn x then ob_rg V sd rcn (if sd x.toNatClampNeg = 0 then nI 0 else ob_rr V sd x true 4096) rcn else nI 0) (fun (_ : Unit) (t9 : State) => va_P D vwCl (ob_wR t ar Bd Tr rn rcl rrd rsv rpb wf wa ro ah ct rmn rms rmf rmt rmp rcn sd V (nI (ob_z1 (ob_hd rcn x)))) t9.heap) (va_A (ob_wR t ar Bd Tr rn rcl rrd rsv rpb wf wa ro ah ct rmn rms rmf rmt rmp rcn sd V th) sz)) ([.ref (ar 0), .int x] : List Value).toArray s 0 0 (va_A (ob_wR t ar Bd Tr rn rcl rrd rsv rpb wf wa ro ah ct rmn rms rmf rmt rmp rcn sd V th) sz)) (F0 m 41 ls [.int v]) := by
        intro v hv ls hl
        refine lv_istore_n (lv' := [(2, .int v), (0, .ref (ar 0)), (1, .int (nI j))]) hx hb dX5_roots_41 rfl hl (by decide) rfl (fun ls hl => ?_)
        refine lv_iconst (v := nI 0) hx hb dX5_roots_42 (by decide) ?_
        refine lv_istore_n (lv' := [(3, .int (nI 0)), (2, .int v), (0, .ref (ar 0)), (1, .int (nI j))]) hx hb dX5_roots_43 rfl hl (by decide) rfl (fun ls hl => ?_)
        refine lv_iconst (v := nI 0) hx hb dX5_roots_44 (by decide) ?_
        refine lv_istore (lv' := [(4, .int (nI 0)), (3, .int (nI 0)), (2, .int v), (0, .ref (ar 0)), (1, .int (nI j))]) hx hb dX5_roots_45 hl (by decide) rfl (fun ls hl => ?_)
        have k47 : ∀ fu : Nat, ∀ (k : Nat) (w : Int32), rcn - k < fu → (k ≤ rcn) → (w = ob_rg V sd rcn v k) → ∀ ls : Array Slot, lv_has ls 5 [(0, .ref (ar 0)), (1, .int (nI j)), (2, .int v), (3, .int w), (4, .int (nI k))] → W p l e (headSpec wsX5_roots ({ frames := 2, cells := 0, slots := 0, locals := 43 } : Room)).room s m ([.ref (ar 0), .int x] : List Value).toArray below meth c H locs 0 0 (MQ below (va_Qi (fun (r : Int32) (_ : Unit) => r = if ob_hd rcn x then ob_rg V sd rcn (if sd x.toNatClampNeg = 0 then nI 0 else ob_rr V sd x true 4096) rcn else nI 0) (fun (_ : Unit) (t9 : State) => va_P D vwCl (ob_wR t ar Bd Tr rn rcl rrd rsv rpb wf wa ro ah ct rmn rms rmf rmt rmp rcn sd V (nI (ob_z1 (ob_hd rcn x)))) t9.heap) (va_A (ob_wR t ar Bd Tr rn rcl rrd rsv rpb wf wa ro ah ct rmn rms rmf rmt rmp rcn sd V th) sz)) ([.ref (ar 0), .int x] : List Value).toArray s 0 0 (va_A (ob_wR t ar Bd Tr rn rcl rrd rsv rpb wf wa ro ah ct rmn rms rmf rmt rmp rcn sd V th) sz)) (F0 m 47 ls []) := by
          intro fu
          induction fu with
          | zero => intro k w hfu; exact absurd hfu (Nat.not_lt_zero _)
          | succ fu ih =>
            intro k w hfu hq hw ls hl
            have ih47 := ih
            refine lv_iload hx hb dX5_roots_47 (lv_at hl 4 rfl) ?_
            refine lv_aload_n hx hb dX5_roots_49 rfl (lv_at hl 0 rfl) ?_
            refine va_get (ci := 5) (C := RX5) (T := TX5) (N := 21) hx hb hts (fun w h => List.mem_cons_of_mem _ (List.mem_append_right _ (h))) hown hK hP 0 rfl rfl 17 (by decide) (hts (Cond.fieldLink RX5 124 "OutageBookModel" "causes" "I") (List.mem_of_getElem? (i := 2) rfl)) (fun _ h9 => h9) rfl dX5_roots_50 ?_
            refine ob_icmp_ge (tgt := 93) hx hb (by omega) (by omega) dX5_roots_53 (by decide) (fun c53 => ?_) (fun c53 => ?_)
            · refine lv_iload_n hx hb dX5_roots_93 rfl (lv_at hl 3 rfl) ?_
              exact W.iret (v := w) hx hb hr (fun t9 ht hW => ⟨⟨w, (), rfl, (by rw [c17, e1, ob_cl (show j ≤ 1073741824 by omega), ← hv, hw, Nat.le_antisymm hq c53]; rfl), ob_th ht hP⟩, hS.F ht⟩) hS.2.2 dX5_roots_94
            · refine lv_iload_n hx hb dX5_roots_56 rfl (lv_at hl 3 rfl) ?_
              refine lv_iload_n hx hb dX5_roots_57 rfl (lv_at hl 2 rfl) ?_
              refine lv_iload hx hb dX5_roots_58 (lv_at hl 4 rfl) ?_
              refine lv_ishr hx hb dX5_roots_60 ?_
              refine lv_iconst (v := nI 1) hx hb dX5_roots_61 (by decide) ?_
              refine lv_iand hx hb dX5_roots_62 ?_
              rw [show (v >>> ((nI k) &&& 31)) &&& (nI 1) = ob_bi (ob_hb v (nI k)) from ob_sh1 (by omega)]
              refine lv_iconst (v := nI 1) hx hb dX5_roots_63 (by decide) ?_
              refine ob_bcmp_ne (tgt := 84) hx hb dX5_roots_64 (by decide) (fun c64 => ?_) (fun c64 => ?_)
              · refine lv_iconst (v := nI 0) hx hb dX5_roots_84 (by decide) ?_
                refine lv_ior hx hb dX5_roots_85 ?_
                refine lv_istore_n (lv' := [(3, .int (w ||| (nI 0))), (0, .ref (ar 0)), (1, .int (nI j)), (2, .int v), (4, .int (nI k))]) hx hb dX5_roots_86 rfl hl (by decide) rfl (fun ls hl => ?_)
                refine ob_inc (k := 4) (lv' := [(4, .int (nI (k + 1))), (3, .int (w ||| (nI 0))), (0, .ref (ar 0)), (1, .int (nI j)), (2, .int v)]) hx hb dX5_roots_87 hl rfl (by decide) rfl (fun ls hl => ?_)
                refine lv_goto (tgt := 47) hx hb dX5_roots_90 (by decide) ?_
                exact ih47 (k + 1) (w ||| (nI 0)) (by omega) (by omega) (by first | (rfl; done) | (simp only [ob_rg, ← hw, c64, Bool.false_and]; exact ob_or0 _; done) | (simp only [ob_rg, ← hw, c64, decide_eq_false c74]; exact ob_or0 _; done) | (simp only [ob_rg, ← hw, c64, decide_eq_true c74]; rfl; done)) _ (lv_sub hl [2, 3, 4, 1, 0] rfl)
              · refine lv_aload_n hx hb dX5_roots_67 rfl (lv_at hl 0 rfl) ?_
                refine lv_iload hx hb dX5_roots_68 (lv_at hl 4 rfl) ?_
                refine vp_callSi (va_Run.run (va_runV (As := [.int (nI k)]) (rest := [.int w]) ⟨hx, hb, hml, hown, hts⟩ (c_X5_mainOf l D t ar Bd Tr rn rcl rrd rsv rpb wf wa ro ah ct rmn rms rmf rmt rmp rcn sd V (nI (ob_z1 (ob_hd rcn x))) k hrcn (by omega)) (cwV 1 hts gX5_roots_X5_mainOf rfl rfl rfl (by decide +kernel) ⟨Nat.le_of_ble_eq_true rfl, Nat.le_of_ble_eq_true rfl⟩) (ob_preV (ci := 5) (q0 := 0) hP hk rfl rfl) rfl rfl hl.1 rfl (lv_room (Nat.le_of_ble_eq_true rfl)) dX5_roots_70 ⟨Nat.le_of_ble_eq_true rfl, Nat.le_of_ble_eq_true rfl⟩)) (fun r9 hr9 => ?_)
                subst hr9
                refine lv_iconst (v := (-1)) hx hb dX5_roots_73 (by decide) ?_
                refine lv_icmp_ne (tgt := 84) hx hb dX5_roots_74 (by decide) (fun c74 => ?_) (fun c74 => ?_)
                · refine lv_iconst (v := nI 0) hx hb dX5_roots_84 (by decide) ?_
                  refine lv_ior hx hb dX5_roots_85 ?_
                  refine lv_istore_n (lv' := [(3, .int (w ||| (nI 0))), (0, .ref (ar 0)), (1, .int (nI j)), (2, .int v), (4, .int (nI k))]) hx hb dX5_roots_86 rfl hl (by decide) rfl (fun ls hl => ?_)
                  refine ob_inc (k := 4) (lv' := [(4, .int (nI (k + 1))), (3, .int (w ||| (nI 0))), (0, .ref (ar 0)), (1, .int (nI j)), (2, .int v)]) hx hb dX5_roots_87 hl rfl (by decide) rfl (fun ls hl => ?_)
                  refine lv_goto (tgt := 47) hx hb dX5_roots_90 (by decide) ?_
                  exact ih47 (k + 1) (w ||| (nI 0)) (by omega) (by omega) (by first | (rfl; done) | (simp only [ob_rg, ← hw, c64, Bool.false_and]; exact ob_or0 _; done) | (simp only [ob_rg, ← hw, c64, decide_eq_false c74]; exact ob_or0 _; done) | (simp only [ob_rg, ← hw, c64, decide_eq_true c74]; rfl; done)) _ (lv_sub hl [2, 3, 4, 1, 0] rfl)
                · refine lv_iconst (v := nI 1) hx hb dX5_roots_77 (by decide) ?_
                  refine lv_iload hx hb dX5_roots_78 (lv_at hl 4 rfl) ?_
                  refine lv_ishl hx hb dX5_roots_80 ?_
                  rw [show (nI 1) <<< ((nI k) &&& 31) = ob_bit (nI k) from rfl]
                  refine lv_goto (tgt := 85) hx hb dX5_roots_81 (by decide) ?_
                  refine lv_ior hx hb dX5_roots_85 ?_
                  refine lv_istore_n (lv' := [(3, .int (w ||| (ob_bit (nI k)))), (0, .ref (ar 0)), (1, .int (nI j)), (2, .int v), (4, .int (nI k))]) hx hb dX5_roots_86 rfl hl (by decide) rfl (fun ls hl => ?_)
                  refine ob_inc (k := 4) (lv' := [(4, .int (nI (k + 1))), (3, .int (w ||| (ob_bit (nI k)))), (0, .ref (ar 0)), (1, .int (nI j)), (2, .int v)]) hx hb dX5_roots_87 hl rfl (by decide) rfl (fun ls hl => ?_)
                  refine lv_goto (tgt := 47) hx hb dX5_roots_90 (by decide) ?_
                  exact ih47 (k + 1) (w ||| (ob_bit (nI k))) (by omega) (by omega) (by first | (rfl; done) | (simp only [ob_rg, ← hw, c64, Bool.false_and]; exact ob_or0 _; done) | (simp only [ob_rg, ← hw, c64, decide_eq_false c74]; exact ob_or0 _; done) | (simp only [ob_rg, ← hw, c64, decide_eq_true c74]; rfl; done)) _ (lv_sub hl [2, 3, 4, 1, 0] rfl)
        exact k47 _ 0 (nI 0) (Nat.lt_succ_self _) (by omega) (by first | (rfl; done) | (simp only [ob_rg, ← hw, c64, Bool.false_and]; exact ob_or0 _; done) | (simp only [ob_rg, ← hw, c64, decide_eq_false c74]; exact ob_or0 _; done) | (simp only [ob_rg, ← hw, c64, decide_eq_true c74]; rfl; done)) _ (lv_sub hl [3, 4, 2, 1, 0] rfl)
      refine va_get (ci := 5) (C := RX5) (T := TX5) (N := 21) hx hb hts (fun w h => List.mem_cons_of_mem _ (List.mem_append_right _ (h))) hown hK hP 0 rfl rfl 18 (by decide) (hts (Cond.fieldLink RX5 57 "OutageBookModel" "stands" "[Z") (List.mem_of_getElem? (i := 1) rfl)) (fun _ h9 => h9) rfl dX5_roots_23 ?_
      refine lv_iload_n hx hb dX5_roots_26 rfl (lv_at hl 1 rfl) ?_
      refine ob_zald hx hb hK hP 16 2 rfl rfl (by omega) (by decide) dX5_roots_27 ?_
      refine lv_if_eq (tgt := 40) hx hb dX5_roots_28 (by decide) (fun c28 => ?_) (fun c28 => ?_)
      · refine lv_iconst (v := nI 0) hx hb dX5_roots_40 (by decide) ?_
        exact k41 (nI 0) (by first | exact (if_pos c28).symm | exact (if_neg c28).symm) _ (lv_sub hl [0, 1] rfl)
      · refine lv_aload_n hx hb dX5_roots_31 rfl (lv_at hl 0 rfl) ?_
        refine lv_iload_n hx hb dX5_roots_32 rfl (lv_at hl 1 rfl) ?_
        refine lv_iconst (v := ob_bi true) hx hb dX5_roots_33 (by decide) ?_
        refine vp_callSi (va_Run.run (va_runV (As := [.int (nI j), .int (ob_bi true)]) (rest := []) ⟨hx, hb, hml, hown, hts⟩ (c_X5_reached l D t ar Bd Tr rn rcl rrd rsv rpb wf wa ro ah ct rmn rms rmf rmt rmp rcn sd V (nI (ob_z1 (ob_hd rcn x))) (nI j) true) (cwV 2 hts gX5_roots_X5_reached rfl rfl rfl (by decide +kernel) ⟨Nat.le_of_ble_eq_true rfl, Nat.le_of_ble_eq_true rfl⟩) (ob_preV (ci := 5) (q0 := 0) hP hk rfl rfl) rfl rfl hl.1 rfl (lv_room (Nat.le_of_ble_eq_true rfl)) dX5_roots_34 ⟨Nat.le_of_ble_eq_true rfl, Nat.le_of_ble_eq_true rfl⟩)) (fun r9 hr9 => ?_)
        subst hr9
        refine lv_goto (tgt := 41) hx hb dX5_roots_37 (by decide) ?_
        exact k41 (ob_rr V sd (nI j) true 4096) (by first | exact (if_pos c28).symm | exact (if_neg c28).symm) _ (lv_sub hl [0, 1] rfl)
    · refine lv_iconst (v := nI 0) hx hb dX5_roots_20 (by decide) ?_
      exact W.iret (v := nI 0) hx hb hr (fun t9 ht hW => ⟨⟨nI 0, (), rfl, (by rw [c17]; rfl), ob_th ht hP⟩, hS.F ht⟩) hS.2.2 dX5_roots_21
  refine lv_iload_n hx hb dX5_roots_2 rfl (lv_at hl 1 rfl) ?_
  refine vp_callSi (va_Run.run (va_runV (As := [.int x]) (rest := [.ref (ar 0)]) ⟨hx, hb, hml, hown, hts⟩ (c_X5_isCause l D t ar Bd Tr rn rcl rrd rsv rpb wf wa ro ah ct rmn rms rmf rmt rmp rcn sd V th x (by first | assumption | omega)) (cwV 1 hts gX5_roots_X5_isCause rfl rfl rfl (by decide +kernel) ⟨Nat.le_of_ble_eq_true rfl, Nat.le_of_ble_eq_true rfl⟩) (ob_preV (ci := 5) (q0 := 0) hP hk rfl rfl) rfl rfl hl.1 rfl (lv_room (Nat.le_of_ble_eq_true rfl)) dX5_roots_3 ⟨Nat.le_of_ble_eq_true rfl, Nat.le_of_ble_eq_true rfl⟩)) (fun r9 hr9 => ?_)
  subst hr9
  refine ob_if_eq (tgt := 13) hx hb dX5_roots_6 (by decide) (fun c6 => ?_) (fun c6 => ?_)
  · refine lv_iconst (v := nI 1) hx hb dX5_roots_13 (by decide) ?_
    exact k14 1 (by rw [c6]; rfl) _ (lv_sub hl [0, 1] rfl)
  · refine lv_iconst (v := nI 0) hx hb dX5_roots_9 (by decide) ?_
    refine lv_goto (tgt := 14) hx hb dX5_roots_10 (by decide) ?_
    exact k14 0 (by rw [c6]; rfl) _ (lv_sub hl [0, 1] rfl)

set_option maxRecDepth 100000 in
set_option maxHeartbeats 4000000 in
theorem c_X5_mainReason (l : Launch) (D : va_G) (t : Nat → ClassId) (sz : Nat) (ar : Nat → Nat) (Bd Tr : Nat → Int32) (rn : Nat) (rcl rrd rsv rpb wf wa ro ah : Nat → Int32) (ct : Nat → Int64) (rmn : Nat) (rms rmf rmt rmp : Nat → Int32) (rcn : Nat) (sd V : Nat → Int32) (th : Int32) (x : Int32) (hrcn : rcn ≤ 16) : Met l yX5_mainReason wsX5_mainReason ({ frames := 2, cells := 0, slots := 0, locals := 43 } : Room) (ob_Pm D t (ob_wR t ar Bd Tr rn rcl rrd rsv rpb wf wa ro ah ct rmn rms rmf rmt rmp rcn sd V th) sz [.ref (ar 0), .int x]) (va_Qi (fun (r : Int32) (_ : Unit) => r = if ob_hd rcn x then (ob_mo V sd x.toNatClampNeg rcn).1 else nI 0) (fun (_ : Unit) (t9 : State) => va_P D vwCl (ob_wR t ar Bd Tr rn rcl rrd rsv rpb wf wa ro ah ct rmn rms rmf rmt rmp rcn sd V (nI (ob_z1 (ob_hd rcn x)))) t9.heap) (va_A (ob_wR t ar Bd Tr rn rcl rrd rsv rpb wf wa ro ah ct rmn rms rmf rmt rmp rcn sd V th) sz)) 0 0 (va_A (ob_wR t ar Bd Tr rn rcl rrd rsv rpb wf wa ro ah ct rmn rms rmf rmt rmp rcn sd V th) sz) := by
  refine Met.ofW (cc := cX5_mainReason) (maxL := 2) (ret := (some .int)) (by decide) rfl ?_
  intro p e s m args below meth c s₁ B hml hv
  obtain ⟨rfl, hsz, hP, hk, hD0⟩ := hv
  have hx := B.exec
  have hb := B.bytes
  have hr := B.returns
  have hts := atoms_spec (ws := wsX5_mainReason) B.pre
  have hown : s.vm.findClass RX5 = some m.cls := findClass_of_methodNamed B.named
  have hlocks := B.notSynchronized
  have hK := hk.1
  have hD : va_D (va_A (ob_wR t ar Bd Tr rn rcl rrd rsv rpb wf wa ro ah ct rmn rms rmf rmt rmp rcn sd V th) sz) (ob_wR t ar Bd Tr rn rcl rrd rsv rpb wf wa ro ah ct rmn rms rmf rmt rmp rcn sd V th) := hD0.self (sz := sz)
  have hA : ∀ q : Nat, s.heap.size ≤ q → (va_A (ob_wR t ar Bd Tr rn rcl rrd rsv rpb wf wa ro ah ct rmn rms rmf rmt rmp rcn sd V th) sz) q := fun q h => Or.inr (hsz ▸ h)
  have hS : va_S (va_A (ob_wR t ar Bd Tr rn rcl rrd rsv rpb wf wa ro ah ct rmn rms rmf rmt rmp rcn sd V th) sz) s.heap s.heap [] := va_S.rf
  have hl := lv_entry [.ref (ar 0), .int x] (n := 2) (Nat.le_of_ble_eq_true rfl)
  rw [lg_entry_eq]
  generalize (lg_sl [.ref (ar 0), .int x] ++ List.replicate (2 - (lg_sl [.ref (ar 0), .int x]).length) Slot.unset).toArray = ls at hl ⊢
  have hl : lv_has ls 2 [(0, .ref (ar 0)), (1, .int x)] := hl
  have hP : va_P D vwCl (ob_wR t ar Bd Tr rn rcl rrd rsv rpb wf wa ro ah ct rmn rms rmf rmt rmp rcn sd V th) s.heap := hP
  refine lv_aload_n hx hb dX5_mainReason_0 rfl (lv_at hl 0 rfl) ?_
  refine lv_aload_n hx hb dX5_mainReason_1 rfl (lv_at hl 0 rfl) ?_
  have k14 : ∀ (z : Nat), (z = ob_z1 (ob_hd rcn x)) → ∀ ls : Array Slot, lv_has ls 2 [(0, .ref (ar 0)), (1, .int x)] → W p l e (headSpec wsX5_mainReason ({ frames := 2, cells := 0, slots := 0, locals := 43 } : Room)).room s m ([.ref (ar 0), .int x] : List Value).toArray below meth c s.heap [] 0 0 (MQ below (va_Qi (fun (r : Int32) (_ : Unit) => r = if ob_hd rcn x then (ob_mo V sd x.toNatClampNeg rcn).1 else nI 0) (fun (_ : Unit) (t9 : State) => va_P D vwCl (ob_wR t ar Bd Tr rn rcl rrd rsv rpb wf wa ro ah ct rmn rms rmf rmt rmp rcn sd V (nI (ob_z1 (ob_hd rcn x)))) t9.heap) (va_A (ob_wR t ar Bd Tr rn rcl rrd rsv rpb wf wa ro ah ct rmn rms rmf rmt rmp rcn sd V th) sz)) ([.ref (ar 0), .int x] : List Value).toArray s 0 0 (va_A (ob_wR t ar Bd Tr rn rcl rrd rsv rpb wf wa ro ah ct rmn rms rmf rmt rmp rcn sd V th) sz)) (F0 m 14 ls [.int (nI z), .ref (ar 0)]) := by
    intro z hz ls hl
    subst hz
    have hFc := va_free (wc := ob_wR t ar Bd Tr rn rcl rrd rsv rpb wf wa ro ah ct rmn rms rmf rmt rmp rcn sd V th) hD hS hA [0, 1, 2, 3, 4, 5, 6, 7, 8, 9, 10, 11, 12, 13, 14, 15, 16, 17] rfl
    refine va_calli (va_runV (As := [.int (nI (ob_z1 (ob_hd rcn x)))]) (rest := []) ⟨hx, hb, hml, hown, hts⟩ (c_X5_goes l D t s.heap.size ar Bd Tr rn rcl rrd rsv rpb wf wa ro ah ct rmn rms rmf rmt rmp rcn sd V th (nI (ob_z1 (ob_hd rcn x)))) (cwV 1 hts gX5_mainReason_X5_goes rfl rfl rfl (by decide +kernel) ⟨Nat.le_of_ble_eq_true rfl, Nat.le_of_ble_eq_true rfl⟩) (ob_pmV (ci := 5) (q0 := 0) hP hD hk rfl rfl) rfl rfl hl.1 rfl (lv_room (Nat.le_of_ble_eq_true rfl)) dX5_mainReason_14 ⟨Nat.le_of_ble_eq_true rfl, Nat.le_of_ble_eq_true rfl⟩) hS (fun q _ h => hFc q h) hFc (fun r9 u9 t9 H1 locs ht hvm hw9 hB hz1 hk1 hS => ?_)
    rw [ht] at hB
    have hP := ob_jn (ws' := ob_wR t ar Bd Tr rn rcl rrd rsv rpb wf wa ro ah ct rmn rms rmf rmt rmp rcn sd V (nI (ob_z1 (ob_hd rcn x)))) hP hD [some 0, some 1, some 2, some 3, some 4, some 5, some 6, some 7, some 8, some 9, some 10, some 11, some 12, some 13, some 14, some 15, some 16, some 17] [0, 1, 2, 3, 4, 5, 6, 7, 8, 9, 10, 11, 12, 13, 14, 15, 16, 17] rfl rfl hk1 hB rfl
    have hD : va_D (va_A (ob_wR t ar Bd Tr rn rcl rrd rsv rpb wf wa ro ah ct rmn rms rmf rmt rmp rcn sd V th) sz) (ob_wR t ar Bd Tr rn rcl rrd rsv rpb wf wa ro ah ct rmn rms rmf rmt rmp rcn sd V (nI (ob_z1 (ob_hd rcn x)))) := ob_dR hD
    generalize H1 = H at hP hS ⊢
    subst hw9
    rw [show ob_bi (decide ((nI (ob_z1 (ob_hd rcn x))) = 0)) = ob_bi (ob_hd rcn x) from ob_dz1 _]
    refine ob_if_eq (tgt := 28) hx hb dX5_mainReason_17 (by decide) (fun c17 => ?_) (fun c17 => ?_)
    · refine lv_iconst (v := nI 0) hx hb dX5_mainReason_28 (by decide) ?_
      exact W.iret (v := nI 0) hx hb hr (fun t9 ht hW => ⟨⟨nI 0, (), rfl, (by first | (rw [c17]; rfl) | (rw [c17, e1, ob_cl (show j ≤ 1073741824 by omega)]; rfl)), ob_th ht hP⟩, hS.F ht⟩) hS.2.2 dX5_mainReason_29
    · obtain ⟨j, hj, e1⟩ := ob_hd_t c17
      rw [e1] at hl
      refine lv_aload_n hx hb dX5_mainReason_20 rfl (lv_at hl 0 rfl) ?_
      refine lv_iload_n hx hb dX5_mainReason_21 rfl (lv_at hl 1 rfl) ?_
      refine vp_callSi (va_Run.run (va_runV (As := [.int (nI j)]) (rest := []) ⟨hx, hb, hml, hown, hts⟩ (c_X5_mainOf l D t ar Bd Tr rn rcl rrd rsv rpb wf wa ro ah ct rmn rms rmf rmt rmp rcn sd V (nI (ob_z1 (ob_hd rcn x))) j hrcn (by omega)) (cwV 1 hts gX5_mainReason_X5_mainOf rfl rfl rfl (by decide +kernel) ⟨Nat.le_of_ble_eq_true rfl, Nat.le_of_ble_eq_true rfl⟩) (ob_preV (ci := 5) (q0 := 0) hP hk rfl rfl) rfl rfl hl.1 rfl (lv_room (Nat.le_of_ble_eq_true rfl)) dX5_mainReason_22 ⟨Nat.le_of_ble_eq_true rfl, Nat.le_of_ble_eq_true rfl⟩)) (fun r9 hr9 => ?_)
      subst hr9
      refine lv_goto (tgt := 29) hx hb dX5_mainReason_25 (by decide) ?_
      exact W.iret (v := (ob_mo V sd j rcn).1) hx hb hr (fun t9 ht hW => ⟨⟨(ob_mo V sd j rcn).1, (), rfl, (by first | (rw [c17]; rfl) | (rw [c17, e1, ob_cl (show j ≤ 1073741824 by omega)]; rfl)), ob_th ht hP⟩, hS.F ht⟩) hS.2.2 dX5_mainReason_29
  refine lv_iload_n hx hb dX5_mainReason_2 rfl (lv_at hl 1 rfl) ?_
  refine vp_callSi (va_Run.run (va_runV (As := [.int x]) (rest := [.ref (ar 0)]) ⟨hx, hb, hml, hown, hts⟩ (c_X5_isCause l D t ar Bd Tr rn rcl rrd rsv rpb wf wa ro ah ct rmn rms rmf rmt rmp rcn sd V th x (by first | assumption | omega)) (cwV 1 hts gX5_mainReason_X5_isCause rfl rfl rfl (by decide +kernel) ⟨Nat.le_of_ble_eq_true rfl, Nat.le_of_ble_eq_true rfl⟩) (ob_preV (ci := 5) (q0 := 0) hP hk rfl rfl) rfl rfl hl.1 rfl (lv_room (Nat.le_of_ble_eq_true rfl)) dX5_mainReason_3 ⟨Nat.le_of_ble_eq_true rfl, Nat.le_of_ble_eq_true rfl⟩)) (fun r9 hr9 => ?_)
  subst hr9
  refine ob_if_eq (tgt := 13) hx hb dX5_mainReason_6 (by decide) (fun c6 => ?_) (fun c6 => ?_)
  · refine lv_iconst (v := nI 1) hx hb dX5_mainReason_13 (by decide) ?_
    exact k14 1 (by rw [c6]; rfl) _ (lv_sub hl [0, 1] rfl)
  · refine lv_iconst (v := nI 0) hx hb dX5_mainReason_9 (by decide) ?_
    refine lv_goto (tgt := 14) hx hb dX5_mainReason_10 (by decide) ?_
    exact k14 0 (by rw [c6]; rfl) _ (lv_sub hl [0, 1] rfl)
