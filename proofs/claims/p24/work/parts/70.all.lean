-- ===== all that the law adds up of the book
def ob_aB (n : Nat) (pb ba od : Nat → Int32) (mn : Nat) (ms mf mt mp : Nat → Int32) : Int64 := (nI n).toInt64 + 31 * (nI (ob_ct (ob_is n pb ba od) n)).toInt64 + 7 * ((ob_fm ms mf mt mp mn (2 * mn + 1)).1).toInt64 + 257 * ((ob_sw ms mf mt mp mn (nI 0) (2 * mn + 1)).1).toInt64 + 65537 * ((ob_sw ms mf mt mp mn (nI 3) (2 * mn + 1)).1).toInt64
def ob_a1 (M : Nat → Nat → Int32) (h0 : Int64) : Nat → Int64
  | 0 => h0
  | k + 1 => 1000003 * ob_a1 M h0 k + (M (k / 5) (k % 5)).toInt64
def ob_a2 (ba od : Nat → Int32) (h0 : Int64) : Nat → Int64
  | 0 => h0
  | k + 1 => 1000003 * ob_a2 ba od h0 k + (od k).toInt64 + (if ba k < 0 then 101 else lN 0)
def ob_a3 (st : Int32) (Wt : Nat → Nat → Int32) (cn : Nat) (h0 : Int64) : Nat → Int64
  | 0 => h0
  | k + 1 => 1000003 * ob_a3 st Wt cn h0 k + (ob_ro st Wt cn k).toInt64 + 3 * ((ob_wr st Wt cn (nI k) cn).1).toInt64
def ob_all (M : Nat → Nat → Int32) (n : Nat) (pb ba od : Nat → Int32) (mn : Nat) (ms mf mt mp : Nat → Int32) (cn : Nat) (st : Int32) (Wt : Nat → Nat → Int32) : Int64 := ob_a3 st Wt cn (ob_a2 ba od (ob_a1 M (ob_aB n pb ba od mn ms mf mt mp) 25) n) cn
set_option maxRecDepth 100000 in
set_option maxHeartbeats 4000000 in
theorem c_L_all (l : Launch) (D : va_G) (t : Nat → ClassId) (ax : Nat) (ao al am ac : Nat → Nat) (M : Nat → Nat → Int32) (n : Nat) (cl rd sv pb ba bf od : Nat → Int32) (bg : Nat → Int64) (mn : Nat) (ms mf mt mp : Nat → Int32) (cn : Nat) (st : Int32) (Wt : Nat → Nat → Int32) (xm : Nat) (fm : Nat → Int32) (hn : n ≤ 30) (hmn : mn ≤ 40) (hcn : cn ≤ 16) (hf0 : fm 0 = nI n) (hf2 : fm 2 = nI cn) : Met l yL_all wsL_all ({ frames := 6, cells := 0, slots := 0, locals := 136 } : Room) (ob_Pp D t (ob_wX ax ao al am ac ++ ob_wO t ao M ++ ob_wL t al n cl rd sv pb ba bf od bg ++ ob_wM t am mn ms mf mt mp ++ ob_wC t ac cn st Wt ++ ob_wV t xm fm) [.ref ax, .ref xm]) (vp_Sl (fun r : Int64 => r = ob_all M n pb ba od mn ms mf mt mp cn st Wt)) 0 0 (fun _ => False) := by
  refine Met.ofW (cc := cL_all) (maxL := 5) (ret := (some .long)) (by decide) rfl ?_
  intro p e s m args below meth c s₁ B hml hv
  obtain ⟨rfl, hP, hk⟩ := hv
  have hx := B.exec
  have hb := B.bytes
  have hr := B.returns
  have hts := atoms_spec (ws := wsL_all) B.pre
  have hown : s.vm.findClass RL = some m.cls := findClass_of_methodNamed B.named
  have hlocks := B.notSynchronized
  have hK := hk.1
  have hl := lv_entry [.ref ax, .ref xm] (n := 5) (Nat.le_of_ble_eq_true rfl)
  rw [lg_entry_eq]
  generalize (lg_sl [.ref ax, .ref xm] ++ List.replicate (5 - (lg_sl [.ref ax, .ref xm]).length) Slot.unset).toArray = ls at hl ⊢
  have hl : lv_has ls 5 [(0, .ref ax), (1, .ref xm)] := hl
  refine lv_aload_n hx hb dL_all_0 rfl (lv_at hl 0 rfl) ?_
  refine vp_callSi (va_Run.run (va_runV (As := []) (rest := []) ⟨hx, hb, hml, hown, hts⟩ (c_X4_lines l D t ax ao al am ac n cl rd sv pb ba bf od bg) (cwV 0 hts gL_all_X4_lines rfl rfl rfl (by decide +kernel) ⟨Nat.le_of_ble_eq_true rfl, Nat.le_of_ble_eq_true rfl⟩) (ob_preV (ci := 4) (q0 := 0) (hP.sub [0, 8, 9, 10, 11, 12, 13, 14, 15, 16] rfl) hk rfl rfl) rfl rfl hl.1 rfl (lv_room (Nat.le_of_ble_eq_true rfl)) dL_all_1 ⟨Nat.le_of_ble_eq_true rfl, Nat.le_of_ble_eq_true rfl⟩)) (fun r9 hr9 => ?_)
  subst hr9
  refine lv_i2l (v := (nI n).toInt64) hx hb dL_all_4 rfl ?_
  refine lv_ldc2 (v := 31) hx hb hown (hts (Cond.constantLong RL 91 (31)) (List.mem_of_getElem? (i := 1) rfl)) dL_all_5 ?_
  refine lv_aload_n hx hb dL_all_8 rfl (lv_at hl 0 rfl) ?_
  refine vp_callSi (va_Run.run (va_runV (As := []) (rest := [.long 31, .long ((nI n).toInt64)]) ⟨hx, hb, hml, hown, hts⟩ (c_X4_story l D t ax ao al am ac n cl rd sv pb ba bf od bg (by first | assumption | omega)) (cwV 0 hts gL_all_X4_story rfl rfl rfl (by decide +kernel) ⟨Nat.le_of_ble_eq_true rfl, Nat.le_of_ble_eq_true rfl⟩) (ob_preV (ci := 4) (q0 := 0) (hP.sub [0, 8, 9, 10, 11, 12, 13, 14, 15, 16] rfl) hk rfl rfl) rfl rfl hl.1 rfl (lv_room (Nat.le_of_ble_eq_true rfl)) dL_all_9 ⟨Nat.le_of_ble_eq_true rfl, Nat.le_of_ble_eq_true rfl⟩)) (fun r9 hr9 => ?_)
  subst hr9
  refine lv_i2l (v := (nI (ob_ct (ob_is n pb ba od) n)).toInt64) hx hb dL_all_12 rfl ?_
  refine lv_lmul hx hb dL_all_13 ?_
  refine lv_ladd hx hb dL_all_14 ?_
  refine lv_ldc2 (v := 7) hx hb hown (hts (Cond.constantLong RL 96 (7)) (List.mem_of_getElem? (i := 2) rfl)) dL_all_15 ?_
  refine lv_aload_n hx hb dL_all_18 rfl (lv_at hl 0 rfl) ?_
  refine vp_callSi (va_Run.run (va_runV (As := []) (rest := [.long 7, .long (((nI n).toInt64) + (31 * ((nI (ob_ct (ob_is n pb ba od) n)).toInt64)))]) ⟨hx, hb, hml, hown, hts⟩ (c_X4_minutes l D t ax ao al am ac mn ms mf mt mp (by first | assumption | omega)) (cwV 0 hts gL_all_X4_minutes rfl rfl rfl (by decide +kernel) ⟨Nat.le_of_ble_eq_true rfl, Nat.le_of_ble_eq_true rfl⟩) (ob_preV (ci := 4) (q0 := 0) (hP.sub [0, 17, 18, 19, 20, 21] rfl) hk rfl rfl) rfl rfl hl.1 rfl (lv_room (Nat.le_of_ble_eq_true rfl)) dL_all_19 ⟨Nat.le_of_ble_eq_true rfl, Nat.le_of_ble_eq_true rfl⟩)) (fun r9 hr9 => ?_)
  subst hr9
  refine lv_i2l (v := ((ob_fm ms mf mt mp mn (2 * mn + 1)).1).toInt64) hx hb dL_all_22 rfl ?_
  refine lv_lmul hx hb dL_all_23 ?_
  refine lv_ladd hx hb dL_all_24 ?_
  refine lv_ldc2 (v := 257) hx hb hown (hts (Cond.constantLong RL 101 (257)) (List.mem_of_getElem? (i := 3) rfl)) dL_all_25 ?_
  refine lv_aload_n hx hb dL_all_28 rfl (lv_at hl 0 rfl) ?_
  refine lv_iconst (v := nI 0) hx hb dL_all_29 (by decide) ?_
  refine vp_callSi (va_Run.run (va_runV (As := [.int (nI 0)]) (rest := [.long 257, .long ((((nI n).toInt64) + (31 * ((nI (ob_ct (ob_is n pb ba od) n)).toInt64))) + (7 * (((ob_fm ms mf mt mp mn (2 * mn + 1)).1).toInt64)))]) ⟨hx, hb, hml, hown, hts⟩ (n_X4_impact l D t ax ao al am ac mn ms mf mt mp 0 (by first | assumption | omega) (by first | assumption | omega)) (cwV 1 hts gL_all_X4_impact rfl rfl rfl (by decide +kernel) ⟨Nat.le_of_ble_eq_true rfl, Nat.le_of_ble_eq_true rfl⟩) (ob_preV (ci := 4) (q0 := 0) (hP.sub [0, 17, 18, 19, 20, 21] rfl) hk rfl rfl) rfl rfl hl.1 rfl (lv_room (Nat.le_of_ble_eq_true rfl)) dL_all_30 ⟨Nat.le_of_ble_eq_true rfl, Nat.le_of_ble_eq_true rfl⟩)) (fun r9 hr9 => ?_)
  subst hr9
  refine lv_i2l (v := ((ob_sw ms mf mt mp mn (nI 0) (2 * mn + 1)).1).toInt64) hx hb dL_all_33 rfl ?_
  refine lv_lmul hx hb dL_all_34 ?_
  refine lv_ladd hx hb dL_all_35 ?_
  refine lv_ldc2 (v := 65537) hx hb hown (hts (Cond.constantLong RL 103 (65537)) (List.mem_of_getElem? (i := 4) rfl)) dL_all_36 ?_
  refine lv_aload_n hx hb dL_all_39 rfl (lv_at hl 0 rfl) ?_
  refine lv_iconst (v := nI 3) hx hb dL_all_40 (by decide) ?_
  refine vp_callSi (va_Run.run (va_runV (As := [.int (nI 3)]) (rest := [.long 65537, .long (((((nI n).toInt64) + (31 * ((nI (ob_ct (ob_is n pb ba od) n)).toInt64))) + (7 * (((ob_fm ms mf mt mp mn (2 * mn + 1)).1).toInt64))) + (257 * (((ob_sw ms mf mt mp mn (nI 0) (2 * mn + 1)).1).toInt64)))]) ⟨hx, hb, hml, hown, hts⟩ (n_X4_impact l D t ax ao al am ac mn ms mf mt mp 3 (by first | assumption | omega) (by first | assumption | omega)) (cwV 1 hts gL_all_X4_impact rfl rfl rfl (by decide +kernel) ⟨Nat.le_of_ble_eq_true rfl, Nat.le_of_ble_eq_true rfl⟩) (ob_preV (ci := 4) (q0 := 0) (hP.sub [0, 17, 18, 19, 20, 21] rfl) hk rfl rfl) rfl rfl hl.1 rfl (lv_room (Nat.le_of_ble_eq_true rfl)) dL_all_41 ⟨Nat.le_of_ble_eq_true rfl, Nat.le_of_ble_eq_true rfl⟩)) (fun r9 hr9 => ?_)
  subst hr9
  refine lv_i2l (v := ((ob_sw ms mf mt mp mn (nI 3) (2 * mn + 1)).1).toInt64) hx hb dL_all_44 rfl ?_
  refine lv_lmul hx hb dL_all_45 ?_
  refine lv_ladd hx hb dL_all_46 ?_
  rw [show (((((nI n).toInt64) + (31 * ((nI (ob_ct (ob_is n pb ba od) n)).toInt64))) + (7 * (((ob_fm ms mf mt mp mn (2 * mn + 1)).1).toInt64))) + (257 * (((ob_sw ms mf mt mp mn (nI 0) (2 * mn + 1)).1).toInt64))) + (65537 * (((ob_sw ms mf mt mp mn (nI 3) (2 * mn + 1)).1).toInt64)) = ob_aB n pb ba od mn ms mf mt mp from rfl]
  refine lv_lstore_n (lv' := [(2, .long (ob_aB n pb ba od mn ms mf mt mp)), (0, .ref ax), (1, .ref xm)]) hx hb dL_all_47 rfl hl (by decide) rfl (fun ls hl => ?_)
  refine lv_iconst (v := nI 0) hx hb dL_all_48 (by decide) ?_
  refine lv_istore (lv' := [(4, .int (nI 0)), (2, .long (ob_aB n pb ba od mn ms mf mt mp)), (0, .ref ax), (1, .ref xm)]) hx hb dL_all_49 hl (by decide) rfl (fun ls hl => ?_)
  have k51 : ∀ fu : Nat, ∀ (k : Nat) (w : Int64), 25 - k < fu → (k ≤ 25) → (w = ob_a1 M (ob_aB n pb ba od mn ms mf mt mp) k) → ∀ ls : Array Slot, lv_has ls 5 [(0, .ref ax), (1, .ref xm), (2, .long w), (4, .int (nI k))] → W p l e (headSpec wsL_all ({ frames := 6, cells := 0, slots := 0, locals := 136 } : Room)).room s m ([.ref ax, .ref xm] : List Value).toArray below meth c s.heap [] 0 0 (MQ below (vp_Sl (fun r : Int64 => r = ob_all M n pb ba od mn ms mf mt mp cn st Wt)) ([.ref ax, .ref xm] : List Value).toArray s 0 0 (fun _ => False)) (F0 m 51 ls []) := by
    intro fu
    induction fu with
    | zero => intro k w hfu; exact absurd hfu (Nat.not_lt_zero _)
    | succ fu ih =>
      intro k w hfu hq hw ls hl
      have ih51 := ih
      refine lv_iload hx hb dL_all_51 (lv_at hl 3 rfl) ?_
      refine lv_bipush (v := nI 25) hx hb dL_all_53 (by decide) ?_
      refine ob_icmp_ge (tgt := 84) hx hb (by omega) (by omega) dL_all_55 (by decide) (fun c55 => ?_) (fun c55 => ?_)
      · refine lv_iconst (v := nI 0) hx hb dL_all_84 (by decide) ?_
        refine lv_istore (lv' := [(4, .int (nI 0)), (0, .ref ax), (1, .ref xm), (2, .long w)]) hx hb dL_all_85 hl (by decide) rfl (fun ls hl => ?_)
        have k87 : ∀ fu : Nat, ∀ (k : Nat) (w : Int64), n - k < fu → (k ≤ n) → (w = ob_a2 ba od (ob_a1 M (ob_aB n pb ba od mn ms mf mt mp) 25) k) → ∀ ls : Array Slot, lv_has ls 5 [(0, .ref ax), (1, .ref xm), (2, .long w), (4, .int (nI k))] → W p l e (headSpec wsL_all ({ frames := 6, cells := 0, slots := 0, locals := 136 } : Room)).room s m ([.ref ax, .ref xm] : List Value).toArray below meth c s.heap [] 0 0 (MQ below (vp_Sl (fun r : Int64 => r = ob_all M n pb ba od mn ms mf mt mp cn st Wt)) ([.ref ax, .ref xm] : List Value).toArray s 0 0 (fun _ => False)) (F0 m 87 ls []) := by
          intro fu
          induction fu with
          | zero => intro k w hfu; exact absurd hfu (Nat.not_lt_zero _)
          | succ fu ih =>
            intro k w hfu hq hw ls hl
            have ih87 := ih
            refine lv_iload hx hb dL_all_87 (lv_at hl 3 rfl) ?_
            refine lv_aload_n hx hb dL_all_89 rfl (lv_at hl 1 rfl) ?_
            refine lv_iconst (v := nI 0) hx hb dL_all_90 (by decide) ?_
            refine ob_iald hx hb hK hP 40 0 rfl rfl (by omega) (by decide) dL_all_91 ?_
            rw [show fm 0 = nI n from hf0]
            refine ob_icmp_ge (tgt := 132) hx hb (by omega) (by omega) dL_all_92 (by decide) (fun c92 => ?_) (fun c92 => ?_)
            · refine lv_iconst (v := nI 0) hx hb dL_all_132 (by decide) ?_
              refine lv_istore (lv' := [(4, .int (nI 0)), (0, .ref ax), (1, .ref xm), (2, .long w)]) hx hb dL_all_133 hl (by decide) rfl (fun ls hl => ?_)
              have k135 : ∀ fu : Nat, ∀ (k : Nat) (w : Int64), cn - k < fu → (k ≤ cn) → (w = ob_a3 st Wt cn (ob_a2 ba od (ob_a1 M (ob_aB n pb ba od mn ms mf mt mp) 25) n) k) → ∀ ls : Array Slot, lv_has ls 5 [(0, .ref ax), (1, .ref xm), (2, .long w), (4, .int (nI k))] → W p l e (headSpec wsL_all ({ frames := 6, cells := 0, slots := 0, locals := 136 } : Room)).room s m ([.ref ax, .ref xm] : List Value).toArray below meth c s.heap [] 0 0 (MQ below (vp_Sl (fun r : Int64 => r = ob_all M n pb ba od mn ms mf mt mp cn st Wt)) ([.ref ax, .ref xm] : List Value).toArray s 0 0 (fun _ => False)) (F0 m 135 ls []) := by
                intro fu
                induction fu with
                | zero => intro k w hfu; exact absurd hfu (Nat.not_lt_zero _)
                | succ fu ih =>
                  intro k w hfu hq hw ls hl
                  have ih135 := ih
                  refine lv_iload hx hb dL_all_135 (lv_at hl 3 rfl) ?_
                  refine lv_aload_n hx hb dL_all_137 rfl (lv_at hl 1 rfl) ?_
                  refine lv_iconst (v := nI 2) hx hb dL_all_138 (by decide) ?_
                  refine ob_iald hx hb hK hP 40 0 rfl rfl (by omega) (by decide) dL_all_139 ?_
                  rw [show fm 2 = nI cn from hf2]
                  refine ob_icmp_ge (tgt := 175) hx hb (by omega) (by omega) dL_all_140 (by decide) (fun c140 => ?_) (fun c140 => ?_)
                  · refine lv_lload_n hx hb dL_all_175 rfl (lv_at hl 2 rfl) ?_
                    exact W.lret (v := w) hx hb hr (fun t9 ht hW => ⟨w, rfl, (by rw [hw, show k = cn by omega]; rfl), ht⟩) (fun _ h => absurd h List.not_mem_nil) dL_all_176
                  · refine lv_ldc2 (v := 1000003) hx hb hown (hts (Cond.constantLong RL 105 (1000003)) (List.mem_of_getElem? (i := 5) rfl)) dL_all_143 ?_
                    refine lv_lload_n hx hb dL_all_146 rfl (lv_at hl 2 rfl) ?_
                    refine lv_lmul hx hb dL_all_147 ?_
                    refine lv_aload_n hx hb dL_all_148 rfl (lv_at hl 0 rfl) ?_
                    refine lv_iload hx hb dL_all_149 (lv_at hl 3 rfl) ?_
                    refine vp_callSi (va_Run.run (va_runV (As := [.int (nI k)]) (rest := [.long (1000003 * w)]) ⟨hx, hb, hml, hown, hts⟩ (n_X4_roots l D t ax ao al am ac cn st Wt k (by first | assumption | omega) (by first | assumption | omega)) (cwV 1 hts gL_all_X4_roots rfl rfl rfl (by decide +kernel) ⟨Nat.le_of_ble_eq_true rfl, Nat.le_of_ble_eq_true rfl⟩) (ob_preV (ci := 4) (q0 := 0) (hP.sub [0, 22, 23, 24, 25, 26, 27, 28, 29, 30, 31, 32, 33, 34, 35, 36, 37, 38, 39] rfl) hk rfl rfl) rfl rfl hl.1 rfl (lv_room (Nat.le_of_ble_eq_true rfl)) dL_all_151 ⟨Nat.le_of_ble_eq_true rfl, Nat.le_of_ble_eq_true rfl⟩)) (fun r9 hr9 => ?_)
                    subst hr9
                    refine lv_i2l (v := (ob_ro st Wt cn k).toInt64) hx hb dL_all_154 rfl ?_
                    refine lv_ladd hx hb dL_all_155 ?_
                    refine lv_ldc2 (v := 3) hx hb hown (hts (Cond.constantLong RL 109 (3)) (List.mem_of_getElem? (i := 7) rfl)) dL_all_156 ?_
                    refine lv_aload_n hx hb dL_all_159 rfl (lv_at hl 0 rfl) ?_
                    refine lv_iload hx hb dL_all_160 (lv_at hl 3 rfl) ?_
                    refine vp_callSi (va_Run.run (va_runV (As := [.int (nI k)]) (rest := [.long 3, .long ((1000003 * w) + ((ob_ro st Wt cn k).toInt64))]) ⟨hx, hb, hml, hown, hts⟩ (n_X4_mainReason l D t ax ao al am ac cn st Wt k (by first | assumption | omega) (by first | assumption | omega)) (cwV 1 hts gL_all_X4_mainReason rfl rfl rfl (by decide +kernel) ⟨Nat.le_of_ble_eq_true rfl, Nat.le_of_ble_eq_true rfl⟩) (ob_preV (ci := 4) (q0 := 0) (hP.sub [0, 22, 23, 24, 25, 26, 27, 28, 29, 30, 31, 32, 33, 34, 35, 36, 37, 38, 39] rfl) hk rfl rfl) rfl rfl hl.1 rfl (lv_room (Nat.le_of_ble_eq_true rfl)) dL_all_162 ⟨Nat.le_of_ble_eq_true rfl, Nat.le_of_ble_eq_true rfl⟩)) (fun r9 hr9 => ?_)
                    subst hr9
                    refine lv_i2l (v := ((ob_wr st Wt cn (nI k) cn).1).toInt64) hx hb dL_all_165 rfl ?_
                    refine lv_lmul hx hb dL_all_166 ?_
                    refine lv_ladd hx hb dL_all_167 ?_
                    refine lv_lstore_n (lv' := [(2, .long (((1000003 * w) + ((ob_ro st Wt cn k).toInt64)) + (3 * (((ob_wr st Wt cn (nI k) cn).1).toInt64)))), (0, .ref ax), (1, .ref xm), (4, .int (nI k))]) hx hb dL_all_168 rfl hl (by decide) rfl (fun ls hl => ?_)
                    refine ob_inc (k := 3) (lv' := [(4, .int (nI (k + 1))), (2, .long (((1000003 * w) + ((ob_ro st Wt cn k).toInt64)) + (3 * (((ob_wr st Wt cn (nI k) cn).1).toInt64)))), (0, .ref ax), (1, .ref xm)]) hx hb dL_all_169 hl rfl (by decide) rfl (fun ls hl => ?_)
                    refine lv_goto (tgt := 135) hx hb dL_all_172 (by decide) ?_
                    exact ih135 (k + 1) (((1000003 * w) + ((ob_ro st Wt cn k).toInt64)) + (3 * (((ob_wr st Wt cn (nI k) cn).1).toInt64))) (by omega) (by omega) (by first | (rw [hw, show k = n by omega]; rfl; done) | (rw [ob_a3, ← hw]; done)) _ (lv_sub hl [2, 3, 1, 0] rfl)
              exact k135 _ 0 w (Nat.lt_succ_self _) (by omega) (by first | (rw [hw, show k = n by omega]; rfl; done) | (rw [ob_a3, ← hw]; done)) _ (lv_sub hl [1, 2, 3, 0] rfl)
            · refine lv_ldc2 (v := 1000003) hx hb hown (hts (Cond.constantLong RL 105 (1000003)) (List.mem_of_getElem? (i := 5) rfl)) dL_all_95 ?_
              refine lv_lload_n hx hb dL_all_98 rfl (lv_at hl 2 rfl) ?_
              refine lv_lmul hx hb dL_all_99 ?_
              refine lv_aload_n hx hb dL_all_100 rfl (lv_at hl 0 rfl) ?_
              refine lv_iload hx hb dL_all_101 (lv_at hl 3 rfl) ?_
              refine vp_callSi (va_Run.run (va_runV (As := [.int (nI k)]) (rest := [.long (1000003 * w)]) ⟨hx, hb, hml, hown, hts⟩ (n_X4_lineAt l D t ax ao al am ac n cl rd sv pb ba bf od bg k (by first | assumption | omega) (by first | assumption | omega)) (cwV 1 hts gL_all_X4_lineAt rfl rfl rfl (by decide +kernel) ⟨Nat.le_of_ble_eq_true rfl, Nat.le_of_ble_eq_true rfl⟩) (ob_preV (ci := 4) (q0 := 0) (hP.sub [0, 8, 9, 10, 11, 12, 13, 14, 15, 16] rfl) hk rfl rfl) rfl rfl hl.1 rfl (lv_room (Nat.le_of_ble_eq_true rfl)) dL_all_103 ⟨Nat.le_of_ble_eq_true rfl, Nat.le_of_ble_eq_true rfl⟩)) (fun r9 hr9 => ?_)
              subst hr9
              refine lv_i2l (v := (od k).toInt64) hx hb dL_all_106 rfl ?_
              refine lv_ladd hx hb dL_all_107 ?_
              refine lv_aload_n hx hb dL_all_108 rfl (lv_at hl 0 rfl) ?_
              refine lv_iload hx hb dL_all_109 (lv_at hl 3 rfl) ?_
              refine vp_callSi (va_Run.run (va_runV (As := [.int (nI k)]) (rest := [.long ((1000003 * w) + ((od k).toInt64))]) ⟨hx, hb, hml, hown, hts⟩ (n_X4_isDoubtful l D t ax ao al am ac n cl rd sv pb ba bf od bg k (by first | assumption | omega) (by first | assumption | omega)) (cwV 1 hts gL_all_X4_isDoubtful rfl rfl rfl (by decide +kernel) ⟨Nat.le_of_ble_eq_true rfl, Nat.le_of_ble_eq_true rfl⟩) (ob_preV (ci := 4) (q0 := 0) (hP.sub [0, 8, 9, 10, 11, 12, 13, 14, 15, 16] rfl) hk rfl rfl) rfl rfl hl.1 rfl (lv_room (Nat.le_of_ble_eq_true rfl)) dL_all_111 ⟨Nat.le_of_ble_eq_true rfl, Nat.le_of_ble_eq_true rfl⟩)) (fun r9 hr9 => ?_)
              subst hr9
              refine ob_if_eq (tgt := 123) hx hb dL_all_114 (by decide) (fun c114 => ?_) (fun c114 => ?_)
              · refine lv_lconst (v := lN 0) hx hb dL_all_123 rfl ?_
                refine lv_ladd hx hb dL_all_124 ?_
                refine lv_lstore_n (lv' := [(2, .long (((1000003 * w) + ((od k).toInt64)) + (lN 0))), (0, .ref ax), (1, .ref xm), (4, .int (nI k))]) hx hb dL_all_125 rfl hl (by decide) rfl (fun ls hl => ?_)
                refine ob_inc (k := 3) (lv' := [(4, .int (nI (k + 1))), (2, .long (((1000003 * w) + ((od k).toInt64)) + (lN 0))), (0, .ref ax), (1, .ref xm)]) hx hb dL_all_126 hl rfl (by decide) rfl (fun ls hl => ?_)
                refine lv_goto (tgt := 87) hx hb dL_all_129 (by decide) ?_
                exact ih87 (k + 1) (((1000003 * w) + ((od k).toInt64)) + (lN 0)) (by omega) (by omega) (by first | (rw [hw, show k = 25 by omega]; rfl; done) | (rw [ob_a2, ← hw, if_pos (of_decide_eq_true c114)]; done) | (rw [ob_a2, ← hw, if_neg (of_decide_eq_false c114)]; done)) _ (lv_sub hl [2, 3, 1, 0] rfl)
              · refine lv_ldc2 (v := 101) hx hb hown (hts (Cond.constantLong RL 107 (101)) (List.mem_of_getElem? (i := 6) rfl)) dL_all_117 ?_
                refine lv_goto (tgt := 124) hx hb dL_all_120 (by decide) ?_
                refine lv_ladd hx hb dL_all_124 ?_
                refine lv_lstore_n (lv' := [(2, .long (((1000003 * w) + ((od k).toInt64)) + 101)), (0, .ref ax), (1, .ref xm), (4, .int (nI k))]) hx hb dL_all_125 rfl hl (by decide) rfl (fun ls hl => ?_)
                refine ob_inc (k := 3) (lv' := [(4, .int (nI (k + 1))), (2, .long (((1000003 * w) + ((od k).toInt64)) + 101)), (0, .ref ax), (1, .ref xm)]) hx hb dL_all_126 hl rfl (by decide) rfl (fun ls hl => ?_)
                refine lv_goto (tgt := 87) hx hb dL_all_129 (by decide) ?_
                exact ih87 (k + 1) (((1000003 * w) + ((od k).toInt64)) + 101) (by omega) (by omega) (by first | (rw [hw, show k = 25 by omega]; rfl; done) | (rw [ob_a2, ← hw, if_pos (of_decide_eq_true c114)]; done) | (rw [ob_a2, ← hw, if_neg (of_decide_eq_false c114)]; done)) _ (lv_sub hl [2, 3, 1, 0] rfl)
        exact k87 _ 0 w (Nat.lt_succ_self _) (by omega) (by first | (rw [hw, show k = 25 by omega]; rfl; done) | (rw [ob_a2, ← hw, if_pos (of_decide_eq_true c114)]; done) | (rw [ob_a2, ← hw, if_neg (of_decide_eq_false c114)]; done)) _ (lv_sub hl [1, 2, 3, 0] rfl)
      · refine lv_ldc2 (v := 1000003) hx hb hown (hts (Cond.constantLong RL 105 (1000003)) (List.mem_of_getElem? (i := 5) rfl)) dL_all_58 ?_
        refine lv_lload_n hx hb dL_all_61 rfl (lv_at hl 2 rfl) ?_
        refine lv_lmul hx hb dL_all_62 ?_
        refine lv_aload_n hx hb dL_all_63 rfl (lv_at hl 0 rfl) ?_
        refine lv_iload hx hb dL_all_64 (lv_at hl 3 rfl) ?_
        refine lv_iconst (v := nI 5) hx hb dL_all_66 (by decide) ?_
        refine lv_idiv hx hb dL_all_67 (by decide) ?_
        rw [show (nI k) / (nI 5) = nI (k / 5) from pk_div (by omega) (by omega) (by omega)]
        refine lv_iload hx hb dL_all_68 (lv_at hl 3 rfl) ?_
        refine lv_iconst (v := nI 5) hx hb dL_all_70 (by decide) ?_
        refine lv_irem hx hb dL_all_71 (by decide) ?_
        rw [show (nI k) - (nI k) / (nI 5) * (nI 5) = nI (k % 5) from pk_rem (by omega) (by omega) (by omega)]
        refine vp_callSi (va_Run.run (va_runV (As := [.int (nI (k / 5)), .int (nI (k % 5))]) (rest := [.long (1000003 * w)]) ⟨hx, hb, hml, hown, hts⟩ (n_X4_greatest l D t ax ao al am ac M n cl rd sv pb ba bf od bg (k / 5) (k % 5) (by first | assumption | omega) (by first | assumption | omega)) (cwV 2 hts gL_all_X4_greatest rfl rfl rfl (by decide +kernel) ⟨Nat.le_of_ble_eq_true rfl, Nat.le_of_ble_eq_true rfl⟩) (ob_preV (ci := 4) (q0 := 0) (hP.sub [0, 1, 2, 3, 4, 5, 6, 7, 8, 9, 10, 11, 12, 13, 14, 15, 16] rfl) hk rfl rfl) rfl rfl hl.1 rfl (lv_room (Nat.le_of_ble_eq_true rfl)) dL_all_72 ⟨Nat.le_of_ble_eq_true rfl, Nat.le_of_ble_eq_true rfl⟩)) (fun r9 hr9 => ?_)
        subst hr9
        refine lv_i2l (v := (M (k / 5) (k % 5)).toInt64) hx hb dL_all_75 rfl ?_
        refine lv_ladd hx hb dL_all_76 ?_
        refine lv_lstore_n (lv' := [(2, .long ((1000003 * w) + ((M (k / 5) (k % 5)).toInt64))), (0, .ref ax), (1, .ref xm), (4, .int (nI k))]) hx hb dL_all_77 rfl hl (by decide) rfl (fun ls hl => ?_)
        refine ob_inc (k := 3) (lv' := [(4, .int (nI (k + 1))), (2, .long ((1000003 * w) + ((M (k / 5) (k % 5)).toInt64))), (0, .ref ax), (1, .ref xm)]) hx hb dL_all_78 hl rfl (by decide) rfl (fun ls hl => ?_)
        refine lv_goto (tgt := 51) hx hb dL_all_81 (by decide) ?_
        exact ih51 (k + 1) ((1000003 * w) + ((M (k / 5) (k % 5)).toInt64)) (by omega) (by omega) (by first | (rfl; done) | (rw [hw]; rfl; done)) _ (lv_sub hl [2, 3, 1, 0] rfl)
  exact k51 _ 0 (ob_aB n pb ba od mn ms mf mt mp) (Nat.lt_succ_self _) (by omega) (by first | (rfl; done) | (rw [hw]; rfl; done)) _ (lv_sub hl [2, 3, 1, 0] rfl)
