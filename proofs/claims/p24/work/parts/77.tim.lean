set_option maxRecDepth 100000 in
set_option maxHeartbeats 4000000 in
theorem c_L_areTimes (l : Launch) (D : va_G) (t : Nat → ClassId) (ax : Nat) (ao al am ac : Nat → Nat) (M : Nat → Nat → Int32) (n : Nat) (cl rd sv pb ba bf od : Nat → Int32) (bg : Nat → Int64) (xg xm : Nat) (fg fm : Nat → Int32) (x : Nat) (hM : ob_KM M) (hn : n ≤ 12) (hkc : ∀ k, cl k = nI (ob_kc cl k) ∧ ob_kc cl k ≤ 4) (hrd : ob_rdk rd) (hbf : ∀ j, j < n → bf j = ob_bs (fun i => ob_se M cl rd i j) n) (hn0 : 0 < n) (hg : ∀ k, k < n → fg (5 * k) = cl k ∧ fg (5 * k + 1) = rd k ∧ fg (5 * k + 2) = sv k ∧ fg (5 * k + 3) = pb k) (hf0 : fm 0 = nI n) (hx9 : x ≤ 1000000000) : Met l yL_areTimes wsL_areTimes ({ frames := 5, cells := 0, slots := 0, locals := 108 } : Room) (ob_Pp D t (ob_wX ax ao al am ac ++ ob_wO t ao M ++ ob_wL t al n cl rd sv pb ba bf od bg ++ ob_wG t xg fg ++ ob_wV t xm fm) [.ref ax, .ref xg, .ref xm, .int (nI x)]) (vp_Si (fun r : Int32 => r = nI 1)) 0 0 (fun _ => False) := by
  refine Met.ofW (cc := cL_areTimes) (maxL := 9) (ret := (some .boolean)) (by decide) rfl ?_
  intro p e s m args below meth c s₁ B hml hv
  obtain ⟨rfl, hP, hk⟩ := hv
  have hx := B.exec
  have hb := B.bytes
  have hr := B.returns
  have hts := atoms_spec (ws := wsL_areTimes) B.pre
  have hown : s.vm.findClass RL = some m.cls := findClass_of_methodNamed B.named
  have hlocks := B.notSynchronized
  have hK := hk.1
  have hl := lv_entry [.ref ax, .ref xg, .ref xm, .int (nI x)] (n := 9) (Nat.le_of_ble_eq_true rfl)
  rw [lg_entry_eq]
  generalize (lg_sl [.ref ax, .ref xg, .ref xm, .int (nI x)] ++ List.replicate (9 - (lg_sl [.ref ax, .ref xg, .ref xm, .int (nI x)]).length) Slot.unset).toArray = ls at hl ⊢
  have hl : lv_has ls 9 [(0, .ref ax), (1, .ref xg), (2, .ref xm), (3, .int (nI x))] := hl
  refine lv_iconst (v := nI 1) hx hb dL_areTimes_0 (by decide) ?_
  refine lv_istore (lv' := [(4, .int (nI 1)), (0, .ref ax), (1, .ref xg), (2, .ref xm), (3, .int (nI x))]) hx hb dL_areTimes_1 hl (by decide) rfl (fun ls hl => ?_)
  refine lv_iconst (v := nI 0) hx hb dL_areTimes_3 (by decide) ?_
  refine lv_istore (lv' := [(5, .int (nI 0)), (4, .int (nI 1)), (0, .ref ax), (1, .ref xg), (2, .ref xm), (3, .int (nI x))]) hx hb dL_areTimes_4 hl (by decide) rfl (fun ls hl => ?_)
  have k6 : ∀ fu : Nat, ∀ (k : Nat), n - k < fu → (k ≤ n) → ∀ ls : Array Slot, lv_has ls 9 [(0, .ref ax), (1, .ref xg), (2, .ref xm), (3, .int (nI x)), (4, .int (nI 1)), (5, .int (nI k))] → W p l e (headSpec wsL_areTimes ({ frames := 5, cells := 0, slots := 0, locals := 108 } : Room)).room s m ([.ref ax, .ref xg, .ref xm, .int (nI x)] : List Value).toArray below meth c s.heap [] 0 0 (MQ below (vp_Si (fun r : Int32 => r = nI 1)) ([.ref ax, .ref xg, .ref xm, .int (nI x)] : List Value).toArray s 0 0 (fun _ => False)) (F0 m 6 ls []) := by
    intro fu
    induction fu with
    | zero => intro k hfu; exact absurd hfu (Nat.not_lt_zero _)
    | succ fu ih =>
      intro k hfu hq ls hl
      have ih6 := ih
      refine lv_iload hx hb dL_areTimes_6 (lv_at hl 5 rfl) ?_
      refine lv_aload_n hx hb dL_areTimes_8 rfl (lv_at hl 2 rfl) ?_
      refine lv_iconst (v := nI 0) hx hb dL_areTimes_9 (by decide) ?_
      refine ob_iald hx hb hK hP 18 0 rfl rfl (by omega) (by decide) dL_areTimes_10 ?_
      rw [show fm 0 = nI n from hf0]
      refine ob_icmp_ge (tgt := 183) hx hb (by omega) (by omega) dL_areTimes_11 (by decide) (fun c11 => ?_) (fun c11 => ?_)
      · refine lv_iload hx hb dL_areTimes_183 (lv_at hl 4 rfl) ?_
        exact W.zret (v := nI 1) hx hb hr rfl (fun t9 ht hW => ⟨nI 1, rfl, rfl, ht⟩) (fun _ h => absurd h List.not_mem_nil) dL_areTimes_185
      · refine lv_iload hx hb dL_areTimes_14 (lv_at hl 4 rfl) ?_
        refine lv_if_eq (tgt := 183) hx hb dL_areTimes_16 (by decide) (fun c9 => absurd c9 (by decide)) (fun _ => ?_)
        refine lv_iload_n hx hb dL_areTimes_19 rfl (lv_at hl 3 rfl) ?_
        refine lv_iload hx hb dL_areTimes_20 (lv_at hl 5 rfl) ?_
        refine lv_iadd hx hb dL_areTimes_22 ?_
        rw [show (nI x) + (nI k) = nI (x + k) from nI_add _ _]
        refine lv_aload_n hx hb dL_areTimes_23 rfl (lv_at hl 2 rfl) ?_
        refine lv_iconst (v := nI 0) hx hb dL_areTimes_24 (by decide) ?_
        refine ob_iald hx hb hK hP 18 0 rfl rfl (by omega) (by decide) dL_areTimes_25 ?_
        rw [show fm 0 = nI n from hf0]
        refine lv_irem hx hb dL_areTimes_26 (nI_ne0 (by omega) (by omega)) ?_
        rw [show (nI (x + k)) - (nI (x + k)) / (nI n) * (nI n) = nI ((x + k) % n) from pk_rem (by omega) (by omega) (by omega)]
        obtain ⟨j, e26⟩ : ∃ z, z = ((x + k) % n) := ⟨_, rfl⟩
        rw [show nI ((x + k) % n) = nI j from by rw [e26]]
        refine lv_istore (lv' := [(6, .int (nI j)), (0, .ref ax), (1, .ref xg), (2, .ref xm), (3, .int (nI x)), (4, .int (nI 1)), (5, .int (nI k))]) hx hb dL_areTimes_27 hl (by decide) rfl (fun ls hl => ?_)
        have hj : j < n := by rw [e26]; exact Nat.mod_lt _ hn0
        obtain ⟨u, r, hu, hr9, ecu, erd, eg, eg1⟩ := ob_tmr hkc hrd hg c11
        obtain ⟨v, q, hv9, hq9, ecv, erq, ev, ev1⟩ := ob_tmr hkc hrd hg hj
        have hse : ob_se M cl rd k j = (!decide (M u v = 1000000) && decide (rd k + M u v < rd j)) := ob_se_u hM ecu hu ecv hv9
        refine lv_aload_n hx hb dL_areTimes_29 rfl (lv_at hl 1 rfl) ?_
        refine lv_aload_n hx hb dL_areTimes_30 rfl (lv_at hl 2 rfl) ?_
        refine lv_iconst (v := nI 5) hx hb dL_areTimes_31 (by decide) ?_
        refine lv_iload hx hb dL_areTimes_32 (lv_at hl 6 rfl) ?_
        refine lv_imul hx hb dL_areTimes_34 ?_
        rw [show (nI 5) * (nI k) = nI (5 * k) from pk_mul _ _]
        refine ob_iald hx hb hK hP 17 0 rfl rfl (by omega) (by decide) dL_areTimes_35 ?_
        rw [show fg (5 * k) = nI u from eg]
        refine lv_aload_n hx hb dL_areTimes_36 rfl (lv_at hl 2 rfl) ?_
        refine lv_iconst (v := nI 5) hx hb dL_areTimes_37 (by decide) ?_
        refine lv_iload hx hb dL_areTimes_38 (lv_at hl 0 rfl) ?_
        refine lv_imul hx hb dL_areTimes_40 ?_
        rw [show (nI 5) * (nI j) = nI (5 * j) from pk_mul _ _]
        refine ob_iald hx hb hK hP 17 0 rfl rfl (by omega) (by decide) dL_areTimes_41 ?_
        rw [show fg (5 * j) = nI v from ev]
        refine vp_callSi (va_Run.run (va_runV (As := [.int (nI u), .int (nI v)]) (rest := []) ⟨hx, hb, hml, hown, hts⟩ (n_X4_greatest l D t ax ao al am ac M n cl rd sv pb ba bf od bg u v (by first | assumption | omega) (by first | assumption | omega)) (cwV 2 hts gL_areTimes_X4_greatest rfl rfl rfl (by decide +kernel) ⟨Nat.le_of_ble_eq_true rfl, Nat.le_of_ble_eq_true rfl⟩) (ob_preV (ci := 4) (q0 := 0) (hP.sub [0, 1, 2, 3, 4, 5, 6, 7, 8, 9, 10, 11, 12, 13, 14, 15, 16] rfl) hk rfl rfl) rfl rfl hl.1 rfl (lv_room (Nat.le_of_ble_eq_true rfl)) dL_areTimes_42 ⟨Nat.le_of_ble_eq_true rfl, Nat.le_of_ble_eq_true rfl⟩)) (fun r9 hr9 => ?_)
        subst hr9
        refine lv_istore (lv' := [(7, .int (M u v)), (6, .int (nI j)), (0, .ref ax), (1, .ref xg), (2, .ref xm), (3, .int (nI x)), (4, .int (nI 1)), (5, .int (nI k))]) hx hb dL_areTimes_45 hl (by decide) rfl (fun ls hl => ?_)
        refine lv_aload_n hx hb dL_areTimes_47 rfl (lv_at hl 2 rfl) ?_
        refine lv_iconst (v := nI 0) hx hb dL_areTimes_48 (by decide) ?_
        refine lv_aload_n hx hb dL_areTimes_49 rfl (lv_at hl 3 rfl) ?_
        refine lv_iconst (v := nI 5) hx hb dL_areTimes_50 (by decide) ?_
        refine lv_iload hx hb dL_areTimes_51 (lv_at hl 7 rfl) ?_
        refine lv_imul hx hb dL_areTimes_53 ?_
        rw [show (nI 5) * (nI k) = nI (5 * k) from pk_mul _ _]
        refine ob_iald hx hb hK hP 17 0 rfl rfl (by omega) (by decide) dL_areTimes_54 ?_
        rw [show fg (5 * k) = nI u from eg]
        refine vp_callSi (va_Run.run (va_runV (As := [.int (nI 0), .int (nI u)]) (rest := []) ⟨hx, hb, hml, hown, hts⟩ (n_X4_greatest l D t ax ao al am ac M n cl rd sv pb ba bf od bg 0 u (by first | assumption | omega) (by first | assumption | omega)) (cwV 2 hts gL_areTimes_X4_greatest rfl rfl rfl (by decide +kernel) ⟨Nat.le_of_ble_eq_true rfl, Nat.le_of_ble_eq_true rfl⟩) (ob_preV (ci := 4) (q0 := 0) (hP.sub [0, 1, 2, 3, 4, 5, 6, 7, 8, 9, 10, 11, 12, 13, 14, 15, 16] rfl) hk rfl rfl) rfl rfl hl.1 rfl (lv_room (Nat.le_of_ble_eq_true rfl)) dL_areTimes_55 ⟨Nat.le_of_ble_eq_true rfl, Nat.le_of_ble_eq_true rfl⟩)) (fun r9 hr9 => ?_)
        subst hr9
        refine lv_istore (lv' := [(8, .int (M 0 u)), (7, .int (M u v)), (6, .int (nI j)), (0, .ref ax), (1, .ref xg), (2, .ref xm), (3, .int (nI x)), (4, .int (nI 1)), (5, .int (nI k))]) hx hb dL_areTimes_58 hl (by decide) rfl (fun ls hl => ?_)
        refine lv_aload_n hx hb dL_areTimes_60 rfl (lv_at hl 3 rfl) ?_
        refine lv_iload hx hb dL_areTimes_61 (lv_at hl 8 rfl) ?_
        refine lv_iload hx hb dL_areTimes_63 (lv_at hl 2 rfl) ?_
        refine vp_callSi (va_Run.run (va_runV (As := [.int (nI k), .int (nI j)]) (rest := []) ⟨hx, hb, hml, hown, hts⟩ (n_X4_mustComeBefore l D t ax ao al am ac n cl rd sv pb ba bf od bg k j (by first | assumption | omega) (by first | assumption | omega) (by first | assumption | omega)) (cwV 2 hts gL_areTimes_X4_mustComeBefore rfl rfl rfl (by decide +kernel) ⟨Nat.le_of_ble_eq_true rfl, Nat.le_of_ble_eq_true rfl⟩) (ob_preV (ci := 4) (q0 := 0) (hP.sub [0, 8, 9, 10, 11, 12, 13, 14, 15, 16] rfl) hk rfl rfl) rfl rfl hl.1 rfl (lv_room (Nat.le_of_ble_eq_true rfl)) dL_areTimes_65 ⟨Nat.le_of_ble_eq_true rfl, Nat.le_of_ble_eq_true rfl⟩)) (fun r9 hr9 => ?_)
        subst hr9
        rw [show (ob_bi (ob_hb (bf j) (nI k))) = (ob_bi (ob_se M cl rd k j)) from (by rw [ob_mcb (by omega) hbf c11 hj])]
        have k105 : ∀ ls : Array Slot, lv_has ls 9 [(0, .ref ax), (1, .ref xg), (2, .ref xm), (3, .int (nI x)), (4, .int (nI 1)), (5, .int (nI k)), (6, .int (nI j)), (7, .int (M u v)), (8, .int (M 0 u))] → W p l e (headSpec wsL_areTimes ({ frames := 5, cells := 0, slots := 0, locals := 108 } : Room)).room s m ([.ref ax, .ref xg, .ref xm, .int (nI x)] : List Value).toArray below meth c s.heap [] 0 0 (MQ below (vp_Si (fun r : Int32 => r = nI 1)) ([.ref ax, .ref xg, .ref xm, .int (nI x)] : List Value).toArray s 0 0 (fun _ => False)) (F0 m 105 ls []) := by
          intro   ls hl
          have k137 : ∀ ls : Array Slot, lv_has ls 9 [(0, .ref ax), (1, .ref xg), (2, .ref xm), (3, .int (nI x)), (4, .int (nI 1)), (5, .int (nI k)), (6, .int (nI j)), (7, .int (M u v)), (8, .int (M 0 u))] → W p l e (headSpec wsL_areTimes ({ frames := 5, cells := 0, slots := 0, locals := 108 } : Room)).room s m ([.ref ax, .ref xg, .ref xm, .int (nI x)] : List Value).toArray below meth c s.heap [] 0 0 (MQ below (vp_Si (fun r : Int32 => r = nI 1)) ([.ref ax, .ref xg, .ref xm, .int (nI x)] : List Value).toArray s 0 0 (fun _ => False)) (F0 m 137 ls []) := by
            intro   ls hl
            refine lv_aload_n hx hb dL_areTimes_137 rfl (lv_at hl 0 rfl) ?_
            refine lv_iload hx hb dL_areTimes_138 (lv_at hl 5 rfl) ?_
            refine lv_iload hx hb dL_areTimes_140 (lv_at hl 5 rfl) ?_
            refine vp_callSi (va_Run.run (va_runV (As := [.int (nI k), .int (nI k)]) (rest := []) ⟨hx, hb, hml, hown, hts⟩ (n_X4_mustComeBefore l D t ax ao al am ac n cl rd sv pb ba bf od bg k k (by first | assumption | omega) (by first | assumption | omega) (by first | assumption | omega)) (cwV 2 hts gL_areTimes_X4_mustComeBefore rfl rfl rfl (by decide +kernel) ⟨Nat.le_of_ble_eq_true rfl, Nat.le_of_ble_eq_true rfl⟩) (ob_preV (ci := 4) (q0 := 0) (hP.sub [0, 8, 9, 10, 11, 12, 13, 14, 15, 16] rfl) hk rfl rfl) rfl rfl hl.1 rfl (lv_room (Nat.le_of_ble_eq_true rfl)) dL_areTimes_142 ⟨Nat.le_of_ble_eq_true rfl, Nat.le_of_ble_eq_true rfl⟩)) (fun r9 hr9 => ?_)
            subst hr9
            rw [show (ob_bi (ob_hb (bf k) (nI k))) = (ob_bi (ob_se M cl rd k k)) from (by rw [ob_mcb (by omega) hbf c11 c11])]
            refine ob_if_ne (tgt := 174) hx hb dL_areTimes_145 (by decide) (fun c145 => ?_) (fun c145 => ?_)
            · first | (exact absurd (ob_bi_f (by rw [hse, decide_eq_true c72, Bool.not_true, Bool.false_and])) c102) | (exact absurd (ob_bi_f (by rw [hse, erd, erq, decide_eq_false (Int32.not_lt.mpr c94), Bool.and_false])) c102) | (exact absurd c102 (by rw [hse, erd, erq, decide_eq_false c72, decide_eq_true (Int32.not_le.mp c94)]; decide)) | (exact absurd (if_pos c115) c134) | (exact absurd (if_neg c115) c134) | (exact absurd c145 (by rw [ob_se_irr hM hkc]; decide)) | (exact (ob_se_as hM hkc hrd c156 c167).elim)
            · have k170 : ∀ ls : Array Slot, lv_has ls 9 [(0, .ref ax), (1, .ref xg), (2, .ref xm), (3, .int (nI x)), (4, .int (nI 1)), (5, .int (nI k)), (6, .int (nI j)), (7, .int (M u v)), (8, .int (M 0 u))] → W p l e (headSpec wsL_areTimes ({ frames := 5, cells := 0, slots := 0, locals := 108 } : Room)).room s m ([.ref ax, .ref xg, .ref xm, .int (nI x)] : List Value).toArray below meth c s.heap [] 0 0 (MQ below (vp_Si (fun r : Int32 => r = nI 1)) ([.ref ax, .ref xg, .ref xm, .int (nI x)] : List Value).toArray s 0 0 (fun _ => False)) (F0 m 170 ls []) := by
                intro   ls hl
                refine lv_iconst (v := nI 1) hx hb dL_areTimes_170 (by decide) ?_
                refine lv_goto (tgt := 175) hx hb dL_areTimes_171 (by decide) ?_
                refine lv_istore (lv' := [(4, .int (nI 1)), (0, .ref ax), (1, .ref xg), (2, .ref xm), (3, .int (nI x)), (5, .int (nI k)), (6, .int (nI j)), (7, .int (M u v)), (8, .int (M 0 u))]) hx hb dL_areTimes_175 hl (by decide) rfl (fun ls hl => ?_)
                refine ob_inc (k := 5) (lv' := [(5, .int (nI (k + 1))), (4, .int (nI 1)), (0, .ref ax), (1, .ref xg), (2, .ref xm), (3, .int (nI x)), (6, .int (nI j)), (7, .int (M u v)), (8, .int (M 0 u))]) hx hb dL_areTimes_177 hl rfl (by decide) rfl (fun ls hl => ?_)
                refine lv_goto (tgt := 6) hx hb dL_areTimes_180 (by decide) ?_
                exact ih6 (k + 1) (by omega) (by omega) _ (lv_sub hl [2, 3, 4, 5, 1, 0] rfl)
              refine lv_aload_n hx hb dL_areTimes_148 rfl (lv_at hl 0 rfl) ?_
              refine lv_iload hx hb dL_areTimes_149 (lv_at hl 5 rfl) ?_
              refine lv_iload hx hb dL_areTimes_151 (lv_at hl 6 rfl) ?_
              refine vp_callSi (va_Run.run (va_runV (As := [.int (nI k), .int (nI j)]) (rest := []) ⟨hx, hb, hml, hown, hts⟩ (n_X4_mustComeBefore l D t ax ao al am ac n cl rd sv pb ba bf od bg k j (by first | assumption | omega) (by first | assumption | omega) (by first | assumption | omega)) (cwV 2 hts gL_areTimes_X4_mustComeBefore rfl rfl rfl (by decide +kernel) ⟨Nat.le_of_ble_eq_true rfl, Nat.le_of_ble_eq_true rfl⟩) (ob_preV (ci := 4) (q0 := 0) (hP.sub [0, 8, 9, 10, 11, 12, 13, 14, 15, 16] rfl) hk rfl rfl) rfl rfl hl.1 rfl (lv_room (Nat.le_of_ble_eq_true rfl)) dL_areTimes_153 ⟨Nat.le_of_ble_eq_true rfl, Nat.le_of_ble_eq_true rfl⟩)) (fun r9 hr9 => ?_)
              subst hr9
              rw [show (ob_bi (ob_hb (bf j) (nI k))) = (ob_bi (ob_se M cl rd k j)) from (by rw [ob_mcb (by omega) hbf c11 hj])]
              refine ob_if_eq (tgt := 170) hx hb dL_areTimes_156 (by decide) (fun c156 => ?_) (fun c156 => ?_)
              · exact k170   _ (lv_sub hl [0, 1, 2, 3, 4, 5, 6, 7, 8] rfl)
              · refine lv_aload_n hx hb dL_areTimes_159 rfl (lv_at hl 0 rfl) ?_
                refine lv_iload hx hb dL_areTimes_160 (lv_at hl 6 rfl) ?_
                refine lv_iload hx hb dL_areTimes_162 (lv_at hl 5 rfl) ?_
                refine vp_callSi (va_Run.run (va_runV (As := [.int (nI j), .int (nI k)]) (rest := []) ⟨hx, hb, hml, hown, hts⟩ (n_X4_mustComeBefore l D t ax ao al am ac n cl rd sv pb ba bf od bg j k (by first | assumption | omega) (by first | assumption | omega) (by first | assumption | omega)) (cwV 2 hts gL_areTimes_X4_mustComeBefore rfl rfl rfl (by decide +kernel) ⟨Nat.le_of_ble_eq_true rfl, Nat.le_of_ble_eq_true rfl⟩) (ob_preV (ci := 4) (q0 := 0) (hP.sub [0, 8, 9, 10, 11, 12, 13, 14, 15, 16] rfl) hk rfl rfl) rfl rfl hl.1 rfl (lv_room (Nat.le_of_ble_eq_true rfl)) dL_areTimes_164 ⟨Nat.le_of_ble_eq_true rfl, Nat.le_of_ble_eq_true rfl⟩)) (fun r9 hr9 => ?_)
                subst hr9
                rw [show (ob_bi (ob_hb (bf k) (nI j))) = (ob_bi (ob_se M cl rd j k)) from (by rw [ob_mcb (by omega) hbf hj c11])]
                refine ob_if_ne (tgt := 174) hx hb dL_areTimes_167 (by decide) (fun c167 => ?_) (fun c167 => ?_)
                · first | (exact absurd (ob_bi_f (by rw [hse, decide_eq_true c72, Bool.not_true, Bool.false_and])) c102) | (exact absurd (ob_bi_f (by rw [hse, erd, erq, decide_eq_false (Int32.not_lt.mpr c94), Bool.and_false])) c102) | (exact absurd c102 (by rw [hse, erd, erq, decide_eq_false c72, decide_eq_true (Int32.not_le.mp c94)]; decide)) | (exact absurd (if_pos c115) c134) | (exact absurd (if_neg c115) c134) | (exact absurd c145 (by rw [ob_se_irr hM hkc]; decide)) | (exact (ob_se_as hM hkc hrd c156 c167).elim)
                · exact k170   _ (lv_sub hl [0, 1, 2, 3, 4, 5, 6, 7, 8] rfl)
          refine lv_aload_n hx hb dL_areTimes_105 rfl (lv_at hl 0 rfl) ?_
          refine lv_iload hx hb dL_areTimes_106 (lv_at hl 5 rfl) ?_
          refine vp_callSi (va_Run.run (va_runV (As := [.int (nI k)]) (rest := []) ⟨hx, hb, hml, hown, hts⟩ (n_X4_earliest l D t ax ao al am ac M n cl rd sv pb ba bf od bg k (by first | assumption | omega) (by first | assumption | omega)) (cwV 1 hts gL_areTimes_X4_earliest rfl rfl rfl (by decide +kernel) ⟨Nat.le_of_ble_eq_true rfl, Nat.le_of_ble_eq_true rfl⟩) (ob_preV (ci := 4) (q0 := 0) (hP.sub [0, 1, 2, 3, 4, 5, 6, 7, 8, 9, 10, 11, 12, 13, 14, 15, 16] rfl) hk rfl rfl) rfl rfl hl.1 rfl (lv_room (Nat.le_of_ble_eq_true rfl)) dL_areTimes_108 ⟨Nat.le_of_ble_eq_true rfl, Nat.le_of_ble_eq_true rfl⟩)) (fun r9 hr9 => ?_)
          subst hr9
          rw [show (if 1000000 ≤ ob_ms M (nI 0) (cl k) then -1000000 else rd k - ob_ms M (nI 0) (cl k)) = (if M 0 u = 1000000 then -1000000 else nI r - M 0 u) from (ob_etu hM hu ecu erd)]
          refine lv_iload hx hb dL_areTimes_111 (lv_at hl 8 rfl) ?_
          refine lv_ldc (v := 1000000) hx hb hown (hts (Cond.constant RL 111 (1000000)) (List.mem_of_getElem? (i := 1) rfl)) dL_areTimes_113 ?_
          refine lv_icmp_ne (tgt := 123) hx hb dL_areTimes_115 (by decide) (fun c115 => ?_) (fun c115 => ?_)
          · refine lv_aload_n hx hb dL_areTimes_123 rfl (lv_at hl 1 rfl) ?_
            refine lv_iconst (v := nI 5) hx hb dL_areTimes_124 (by decide) ?_
            refine lv_iload hx hb dL_areTimes_125 (lv_at hl 5 rfl) ?_
            refine lv_imul hx hb dL_areTimes_127 ?_
            rw [show (nI 5) * (nI k) = nI (5 * k) from pk_mul _ _]
            refine lv_iconst (v := nI 1) hx hb dL_areTimes_128 (by decide) ?_
            refine lv_iadd hx hb dL_areTimes_129 ?_
            rw [show (nI (5 * k)) + (nI 1) = nI ((5 * k) + 1) from nI_add _ _]
            refine ob_iald hx hb hK hP 17 0 rfl rfl (by omega) (by decide) dL_areTimes_130 ?_
            rw [show fg ((5 * k) + 1) = nI r from eg1]
            refine lv_iload hx hb dL_areTimes_131 (lv_at hl 8 rfl) ?_
            refine lv_isub hx hb dL_areTimes_133 ?_
            refine lv_icmp_ne (tgt := 174) hx hb dL_areTimes_134 (by decide) (fun c134 => ?_) (fun c134 => ?_)
            · first | (exact absurd (ob_bi_f (by rw [hse, decide_eq_true c72, Bool.not_true, Bool.false_and])) c102) | (exact absurd (ob_bi_f (by rw [hse, erd, erq, decide_eq_false (Int32.not_lt.mpr c94), Bool.and_false])) c102) | (exact absurd c102 (by rw [hse, erd, erq, decide_eq_false c72, decide_eq_true (Int32.not_le.mp c94)]; decide)) | (exact absurd (if_pos c115) c134) | (exact absurd (if_neg c115) c134) | (exact absurd c145 (by rw [ob_se_irr hM hkc]; decide)) | (exact (ob_se_as hM hkc hrd c156 c167).elim)
            · exact k137   _ (lv_sub hl [0, 1, 2, 3, 4, 5, 6, 7, 8] rfl)
          · refine lv_ldc (v := -1000000) hx hb hown (hts (Cond.constant RL 118 (-1000000)) (List.mem_of_getElem? (i := 2) rfl)) dL_areTimes_118 ?_
            refine lv_goto (tgt := 134) hx hb dL_areTimes_120 (by decide) ?_
            refine lv_icmp_ne (tgt := 174) hx hb dL_areTimes_134 (by decide) (fun c134 => ?_) (fun c134 => ?_)
            · first | (exact absurd (ob_bi_f (by rw [hse, decide_eq_true c72, Bool.not_true, Bool.false_and])) c102) | (exact absurd (ob_bi_f (by rw [hse, erd, erq, decide_eq_false (Int32.not_lt.mpr c94), Bool.and_false])) c102) | (exact absurd c102 (by rw [hse, erd, erq, decide_eq_false c72, decide_eq_true (Int32.not_le.mp c94)]; decide)) | (exact absurd (if_pos c115) c134) | (exact absurd (if_neg c115) c134) | (exact absurd c145 (by rw [ob_se_irr hM hkc]; decide)) | (exact (ob_se_as hM hkc hrd c156 c167).elim)
            · exact k137   _ (lv_sub hl [0, 1, 2, 3, 4, 5, 6, 7, 8] rfl)
        refine lv_iload hx hb dL_areTimes_68 (lv_at hl 1 rfl) ?_
        refine lv_ldc (v := 1000000) hx hb hown (hts (Cond.constant RL 111 (1000000)) (List.mem_of_getElem? (i := 1) rfl)) dL_areTimes_70 ?_
        refine lv_icmp_eq (tgt := 101) hx hb dL_areTimes_72 (by decide) (fun c72 => ?_) (fun c72 => ?_)
        · refine lv_iconst (v := nI 0) hx hb dL_areTimes_101 (by decide) ?_
          refine lv_icmp_ne (tgt := 174) hx hb dL_areTimes_102 (by decide) (fun c102 => ?_) (fun c102 => ?_)
          · first | (exact absurd (ob_bi_f (by rw [hse, decide_eq_true c72, Bool.not_true, Bool.false_and])) c102) | (exact absurd (ob_bi_f (by rw [hse, erd, erq, decide_eq_false (Int32.not_lt.mpr c94), Bool.and_false])) c102) | (exact absurd c102 (by rw [hse, erd, erq, decide_eq_false c72, decide_eq_true (Int32.not_le.mp c94)]; decide)) | (exact absurd (if_pos c115) c134) | (exact absurd (if_neg c115) c134) | (exact absurd c145 (by rw [ob_se_irr hM hkc]; decide)) | (exact (ob_se_as hM hkc hrd c156 c167).elim)
          · exact k105   _ (lv_sub hl [3, 4, 5, 6, 7, 8, 2, 1, 0] rfl)
        · refine lv_aload_n hx hb dL_areTimes_75 rfl (lv_at hl 4 rfl) ?_
          refine lv_iconst (v := nI 5) hx hb dL_areTimes_76 (by decide) ?_
          refine lv_iload hx hb dL_areTimes_77 (lv_at hl 8 rfl) ?_
          refine lv_imul hx hb dL_areTimes_79 ?_
          rw [show (nI 5) * (nI k) = nI (5 * k) from pk_mul _ _]
          refine lv_iconst (v := nI 1) hx hb dL_areTimes_80 (by decide) ?_
          refine lv_iadd hx hb dL_areTimes_81 ?_
          rw [show (nI (5 * k)) + (nI 1) = nI ((5 * k) + 1) from nI_add _ _]
          refine ob_iald hx hb hK hP 17 0 rfl rfl (by omega) (by decide) dL_areTimes_82 ?_
          rw [show fg ((5 * k) + 1) = nI r from eg1]
          refine lv_iload hx hb dL_areTimes_83 (lv_at hl 1 rfl) ?_
          refine lv_iadd hx hb dL_areTimes_85 ?_
          refine lv_aload_n hx hb dL_areTimes_86 rfl (lv_at hl 4 rfl) ?_
          refine lv_iconst (v := nI 5) hx hb dL_areTimes_87 (by decide) ?_
          refine lv_iload hx hb dL_areTimes_88 (lv_at hl 2 rfl) ?_
          refine lv_imul hx hb dL_areTimes_90 ?_
          rw [show (nI 5) * (nI j) = nI (5 * j) from pk_mul _ _]
          refine lv_iconst (v := nI 1) hx hb dL_areTimes_91 (by decide) ?_
          refine lv_iadd hx hb dL_areTimes_92 ?_
          rw [show (nI (5 * j)) + (nI 1) = nI ((5 * j) + 1) from nI_add _ _]
          refine ob_iald hx hb hK hP 17 0 rfl rfl (by omega) (by decide) dL_areTimes_93 ?_
          rw [show fg ((5 * j) + 1) = nI q from ev1]
          refine lv_icmp_ge (tgt := 101) hx hb dL_areTimes_94 (by decide) (fun c94 => ?_) (fun c94 => ?_)
          · refine lv_iconst (v := nI 0) hx hb dL_areTimes_101 (by decide) ?_
            refine lv_icmp_ne (tgt := 174) hx hb dL_areTimes_102 (by decide) (fun c102 => ?_) (fun c102 => ?_)
            · first | (exact absurd (ob_bi_f (by rw [hse, decide_eq_true c72, Bool.not_true, Bool.false_and])) c102) | (exact absurd (ob_bi_f (by rw [hse, erd, erq, decide_eq_false (Int32.not_lt.mpr c94), Bool.and_false])) c102) | (exact absurd c102 (by rw [hse, erd, erq, decide_eq_false c72, decide_eq_true (Int32.not_le.mp c94)]; decide)) | (exact absurd (if_pos c115) c134) | (exact absurd (if_neg c115) c134) | (exact absurd c145 (by rw [ob_se_irr hM hkc]; decide)) | (exact (ob_se_as hM hkc hrd c156 c167).elim)
            · exact k105   _ (lv_sub hl [3, 4, 5, 6, 7, 8, 2, 1, 0] rfl)
          · refine lv_iconst (v := nI 1) hx hb dL_areTimes_97 (by decide) ?_
            refine lv_goto (tgt := 102) hx hb dL_areTimes_98 (by decide) ?_
            refine ob_bcmp_ne (tgt := 174) hx hb dL_areTimes_102 (by decide) (fun c102 => ?_) (fun c102 => ?_)
            · first | (exact absurd (ob_bi_f (by rw [hse, decide_eq_true c72, Bool.not_true, Bool.false_and])) c102) | (exact absurd (ob_bi_f (by rw [hse, erd, erq, decide_eq_false (Int32.not_lt.mpr c94), Bool.and_false])) c102) | (exact absurd c102 (by rw [hse, erd, erq, decide_eq_false c72, decide_eq_true (Int32.not_le.mp c94)]; decide)) | (exact absurd (if_pos c115) c134) | (exact absurd (if_neg c115) c134) | (exact absurd c145 (by rw [ob_se_irr hM hkc]; decide)) | (exact (ob_se_as hM hkc hrd c156 c167).elim)
            · exact k105   _ (lv_sub hl [3, 4, 5, 6, 7, 8, 2, 1, 0] rfl)
  exact k6 _ 0 (Nat.lt_succ_self _) (by omega) _ (lv_sub hl [2, 3, 4, 5, 1, 0] rfl)
