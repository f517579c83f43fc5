-- ===== the class's reading methods where nothing is thrown
def ob_ro (st : Int32) (Wt : Nat → Nat → Int32) (cn k : Nat) : Int32 := if ob_hb st (nI k) then ob_rt st Wt cn (ob_rcO Wt cn st (nI k) cn) cn else nI 0
theorem ob_sA {p : Nat → Bool} {od : Nat → Int32} {n k : Nat} {r : Int32} (hn : n ≤ 30) (hk : k < n) (hp : p k = true) (h : (∃ j, j < n ∧ p j = true ∧ nI (ob_ct p j) = nI (ob_ct p k) ∧ r = od j) ∨ ((∀ j, j < n → p j = true → ¬ nI (ob_ct p j) = nI (ob_ct p k)) ∧ r = -1)) : r = od k := by
  rcases h with ⟨j, h1, h2, h3, h4⟩ | ⟨h1, -⟩
  · have a := ob_ct_le p j
    have b := ob_ct_le p k
    have e := (nI_eq (ob_nlt (by omega)) (ob_nlt (by omega))).mp h3
    rw [ob_ct_inj h2 hp e] at h4
    exact h4
  · exact absurd rfl (h1 k hk hp)
set_option maxRecDepth 100000 in
set_option maxHeartbeats 4000000 in
theorem n_X4_greatest (l : Launch) (D : va_G) (t : Nat → ClassId) (ax : Nat) (ao al am ac : Nat → Nat) (M : Nat → Nat → Int32) (n : Nat) (cl rd sv pb ba bf od : Nat → Int32) (bg : Nat → Int64) (a b : Nat) (ha : a ≤ 4) (hb4 : b ≤ 4) : Met l yX4_greatest wsX4_greatest ({ frames := 3, cells := 0, slots := 0, locals := 64 } : Room) (ob_Pp D t (ob_wX ax ao al am ac ++ ob_wO t ao M ++ ob_wL t al n cl rd sv pb ba bf od bg) [.ref ax, .int (nI a), .int (nI b)]) (vp_Si (fun r : Int32 => r = M a b)) 0 0 (fun _ => False) := by
  refine Met.ofW (cc := cX4_greatest) (maxL := 3) (ret := (some .int)) (by decide) rfl ?_
  intro p e s m args below meth c s₁ B hml hv
  obtain ⟨rfl, hP, hk⟩ := hv
  have hx := B.exec
  have hb := B.bytes
  have hr := B.returns
  have hts := atoms_spec (ws := wsX4_greatest) B.pre
  have hown : s.vm.findClass RX4 = some m.cls := findClass_of_methodNamed B.named
  have hlocks := B.notSynchronized
  have hK := hk.1
  have hl := lv_entry [.ref ax, .int (nI a), .int (nI b)] (n := 3) (Nat.le_of_ble_eq_true rfl)
  rw [lg_entry_eq]
  generalize (lg_sl [.ref ax, .int (nI a), .int (nI b)] ++ List.replicate (3 - (lg_sl [.ref ax, .int (nI a), .int (nI b)]).length) Slot.unset).toArray = ls at hl ⊢
  have hl : lv_has ls 3 [(0, .ref ax), (1, .int (nI a)), (2, .int (nI b))] := hl
  refine lv_iload_n hx hb dX4_greatest_0 rfl (lv_at hl 1 rfl) ?_
  refine vp_callSi (va_Run.run (va_runS (As := [.int (nI a)]) (rest := []) ⟨hx, hb, hml, hown, hts⟩ (c_X4_isClock l D t (nI a)) (va_cwS 1 hts gX4_greatest_X4_isClock rfl rfl rfl (by decide +kernel) ⟨Nat.le_of_ble_eq_true rfl, Nat.le_of_ble_eq_true rfl⟩) (ob_preS (hP.sub [] rfl) hk) rfl rfl hl.1 rfl (lv_room (Nat.le_of_ble_eq_true rfl)) dX4_greatest_1 ⟨Nat.le_of_ble_eq_true rfl, Nat.le_of_ble_eq_true rfl⟩)) (fun r9 hr9 => ?_)
  subst hr9
  refine ob_if_eq (tgt := 14) hx hb dX4_greatest_4 (by decide) (fun c4 => ?_) (fun c4 => ?_)
  · rw [ob_wi_nI ha (by decide)] at c4; cases c4
  · refine lv_iload_n hx hb dX4_greatest_7 rfl (lv_at hl 2 rfl) ?_
    refine vp_callSi (va_Run.run (va_runS (As := [.int (nI b)]) (rest := []) ⟨hx, hb, hml, hown, hts⟩ (c_X4_isClock l D t (nI b)) (va_cwS 1 hts gX4_greatest_X4_isClock rfl rfl rfl (by decide +kernel) ⟨Nat.le_of_ble_eq_true rfl, Nat.le_of_ble_eq_true rfl⟩) (ob_preS (hP.sub [] rfl) hk) rfl rfl hl.1 rfl (lv_room (Nat.le_of_ble_eq_true rfl)) dX4_greatest_8 ⟨Nat.le_of_ble_eq_true rfl, Nat.le_of_ble_eq_true rfl⟩)) (fun r9 hr9 => ?_)
    subst hr9
    refine ob_if_ne (tgt := 24) hx hb dX4_greatest_11 (by decide) (fun c11 => ?_) (fun c11 => ?_)
    · refine lv_aload_n hx hb dX4_greatest_24 rfl (lv_at hl 0 rfl) ?_
      refine va_get (ci := 4) (C := RX4) (T := TX4) (N := 4) hx hb hts (fun w h => List.mem_cons_of_mem _ (List.mem_append_left _ (List.mem_append_left _ (List.mem_append_right _ (h))))) hown hK hP 0 rfl rfl 0 (by decide) (hts (Cond.fieldLink RX4 10 "OutageBook" "offsets" "LOutageBook$Offsets;") (List.mem_of_getElem? (i := 3) rfl)) (fun _ h9 => h9) rfl dX4_greatest_25 ?_
      refine lv_iload_n hx hb dX4_greatest_28 rfl (lv_at hl 1 rfl) ?_
      refine lv_iload_n hx hb dX4_greatest_29 rfl (lv_at hl 2 rfl) ?_
      refine vp_callSi (va_Run.run (va_runV (As := [.int (nI a), .int (nI b)]) (rest := []) ⟨hx, hb, hml, hown, hts⟩ (c_X3_most l D t ao M (nI a) (nI b)) (cwV 2 hts gX4_greatest_X3_most rfl rfl rfl (by decide +kernel) ⟨Nat.le_of_ble_eq_true rfl, Nat.le_of_ble_eq_true rfl⟩) (ob_preV (ci := 3) (q0 := 0) (hP.sub [1, 2, 3, 4, 5, 6, 7] rfl) hk rfl rfl) rfl rfl hl.1 rfl (lv_room (Nat.le_of_ble_eq_true rfl)) dX4_greatest_30 ⟨Nat.le_of_ble_eq_true rfl, Nat.le_of_ble_eq_true rfl⟩)) (fun r9 hr9 => ?_)
      subst hr9
      exact W.iret (v := ob_ms M (nI a) (nI b)) hx hb hr (fun t9 ht hW => ⟨ob_ms M (nI a) (nI b), rfl, (ob_ms_nI ha hb4), ht⟩) (fun _ h => absurd h List.not_mem_nil) dX4_greatest_33
    · rw [ob_wi_nI hb4 (by decide)] at c11; cases c11

set_option maxRecDepth 100000 in
set_option maxHeartbeats 4000000 in
theorem n_X4_mustComeBefore (l : Launch) (D : va_G) (t : Nat → ClassId) (ax : Nat) (ao al am ac : Nat → Nat) (n : Nat) (cl rd sv pb ba bf od : Nat → Int32) (bg : Nat → Int64) (i j : Nat) (hn : n ≤ 30) (hi : i < n) (hj : j < n) : Met l yX4_mustComeBefore wsX4_mustComeBefore ({ frames := 3, cells := 0, slots := 0, locals := 63 } : Room) (ob_Pp D t (ob_wX ax ao al am ac ++ ob_wL t al n cl rd sv pb ba bf od bg) [.ref ax, .int (nI i), .int (nI j)]) (vp_Si (fun r : Int32 => r = ob_bi (ob_hb (bf j) (nI i)))) 0 0 (fun _ => False) := by
  refine Met.ofW (cc := cX4_mustComeBefore) (maxL := 3) (ret := (some .boolean)) (by decide) rfl ?_
  intro p e s m args below meth c s₁ B hml hv
  obtain ⟨rfl, hP, hk⟩ := hv
  have hx := B.exec
  have hb := B.bytes
  have hr := B.returns
  have hts := atoms_spec (ws := wsX4_mustComeBefore) B.pre
  have hown : s.vm.findClass RX4 = some m.cls := findClass_of_methodNamed B.named
  have hlocks := B.notSynchronized
  have hK := hk.1
  have hl := lv_entry [.ref ax, .int (nI i), .int (nI j)] (n := 3) (Nat.le_of_ble_eq_true rfl)
  rw [lg_entry_eq]
  generalize (lg_sl [.ref ax, .int (nI i), .int (nI j)] ++ List.replicate (3 - (lg_sl [.ref ax, .int (nI i), .int (nI j)]).length) Slot.unset).toArray = ls at hl ⊢
  have hl : lv_has ls 3 [(0, .ref ax), (1, .int (nI i)), (2, .int (nI j))] := hl
  refine lv_aload_n hx hb dX4_mustComeBefore_0 rfl (lv_at hl 0 rfl) ?_
  refine va_get (ci := 4) (C := RX4) (T := TX4) (N := 4) hx hb hts (fun w h => List.mem_cons_of_mem _ (List.mem_append_left _ (List.mem_append_left _ (List.mem_append_right _ (h))))) hown hK hP 0 rfl rfl 1 (by decide) (hts (Cond.fieldLink RX4 19 "OutageBook" "log" "LOutageBook$Log;") (List.mem_of_getElem? (i := 3) rfl)) (fun _ h9 => h9) rfl dX4_mustComeBefore_1 ?_
  refine lv_iload_n hx hb dX4_mustComeBefore_4 rfl (lv_at hl 1 rfl) ?_
  refine vp_callSi (va_Run.run (va_runV (As := [.int (nI i)]) (rest := []) ⟨hx, hb, hml, hown, hts⟩ (c_X1_holds l D t al n cl rd sv pb ba bf od bg (nI i) (by first | assumption | omega)) (cwV 1 hts gX4_mustComeBefore_X1_holds rfl rfl rfl (by decide +kernel) ⟨Nat.le_of_ble_eq_true rfl, Nat.le_of_ble_eq_true rfl⟩) (ob_preV (ci := 1) (q0 := 0) (hP.sub [1, 2, 3, 4, 5, 6, 7, 8, 9] rfl) hk rfl rfl) rfl rfl hl.1 rfl (lv_room (Nat.le_of_ble_eq_true rfl)) dX4_mustComeBefore_5 ⟨Nat.le_of_ble_eq_true rfl, Nat.le_of_ble_eq_true rfl⟩)) (fun r9 hr9 => ?_)
  subst hr9
  refine ob_if_eq (tgt := 22) hx hb dX4_mustComeBefore_8 (by decide) (fun c8 => ?_) (fun c8 => ?_)
  · rw [ob_hd_nI hi (by omega)] at c8; cases c8
  · refine lv_aload_n hx hb dX4_mustComeBefore_11 rfl (lv_at hl 0 rfl) ?_
    refine va_get (ci := 4) (C := RX4) (T := TX4) (N := 4) hx hb hts (fun w h => List.mem_cons_of_mem _ (List.mem_append_left _ (List.mem_append_left _ (List.mem_append_right _ (h))))) hown hK hP 0 rfl rfl 1 (by decide) (hts (Cond.fieldLink RX4 19 "OutageBook" "log" "LOutageBook$Log;") (List.mem_of_getElem? (i := 3) rfl)) (fun _ h9 => h9) rfl dX4_mustComeBefore_12 ?_
    refine lv_iload_n hx hb dX4_mustComeBefore_15 rfl (lv_at hl 2 rfl) ?_
    refine vp_callSi (va_Run.run (va_runV (As := [.int (nI j)]) (rest := []) ⟨hx, hb, hml, hown, hts⟩ (c_X1_holds l D t al n cl rd sv pb ba bf od bg (nI j) (by first | assumption | omega)) (cwV 1 hts gX4_mustComeBefore_X1_holds rfl rfl rfl (by decide +kernel) ⟨Nat.le_of_ble_eq_true rfl, Nat.le_of_ble_eq_true rfl⟩) (ob_preV (ci := 1) (q0 := 0) (hP.sub [1, 2, 3, 4, 5, 6, 7, 8, 9] rfl) hk rfl rfl) rfl rfl hl.1 rfl (lv_room (Nat.le_of_ble_eq_true rfl)) dX4_mustComeBefore_16 ⟨Nat.le_of_ble_eq_true rfl, Nat.le_of_ble_eq_true rfl⟩)) (fun r9 hr9 => ?_)
    subst hr9
    refine ob_if_ne (tgt := 32) hx hb dX4_mustComeBefore_19 (by decide) (fun c19 => ?_) (fun c19 => ?_)
    · refine lv_aload_n hx hb dX4_mustComeBefore_32 rfl (lv_at hl 0 rfl) ?_
      refine va_get (ci := 4) (C := RX4) (T := TX4) (N := 4) hx hb hts (fun w h => List.mem_cons_of_mem _ (List.mem_append_left _ (List.mem_append_left _ (List.mem_append_right _ (h))))) hown hK hP 0 rfl rfl 1 (by decide) (hts (Cond.fieldLink RX4 19 "OutageBook" "log" "LOutageBook$Log;") (List.mem_of_getElem? (i := 3) rfl)) (fun _ h9 => h9) rfl dX4_mustComeBefore_33 ?_
      refine lv_iload_n hx hb dX4_mustComeBefore_36 rfl (lv_at hl 1 rfl) ?_
      refine lv_iload_n hx hb dX4_mustComeBefore_37 rfl (lv_at hl 2 rfl) ?_
      refine vp_callSi (va_Run.run (va_runV (As := [.int (nI i), .int (nI j)]) (rest := []) ⟨hx, hb, hml, hown, hts⟩ (c_X1_isBefore l D t al n cl rd sv pb ba bf od bg (nI i) (nI j) (by first | assumption | omega)) (cwV 2 hts gX4_mustComeBefore_X1_isBefore rfl rfl rfl (by decide +kernel) ⟨Nat.le_of_ble_eq_true rfl, Nat.le_of_ble_eq_true rfl⟩) (ob_preV (ci := 1) (q0 := 0) (hP.sub [1, 2, 3, 4, 5, 6, 7, 8, 9] rfl) hk rfl rfl) rfl rfl hl.1 rfl (lv_room (Nat.le_of_ble_eq_true rfl)) dX4_mustComeBefore_38 ⟨Nat.le_of_ble_eq_true rfl, Nat.le_of_ble_eq_true rfl⟩)) (fun r9 hr9 => ?_)
      subst hr9
      exact W.zret (v := ob_bi (ob_hd n (nI j) && ob_hb (bf (nI j).toNatClampNeg) (nI i))) hx hb hr (ob_narZ _) (fun t9 ht hW => ⟨ob_bi (ob_hd n (nI j) && ob_hb (bf (nI j).toNatClampNeg) (nI i)), rfl, (by rw [ob_hd_nI hj (by omega), ob_cl (by omega)]; rfl), ht⟩) (fun _ h => absurd h List.not_mem_nil) dX4_mustComeBefore_41
    · rw [ob_hd_nI hj (by omega)] at c19; cases c19

set_option maxRecDepth 100000 in
set_option maxHeartbeats 4000000 in
theorem n_X4_lineAt (l : Launch) (D : va_G) (t : Nat → ClassId) (ax : Nat) (ao al am ac : Nat → Nat) (n : Nat) (cl rd sv pb ba bf od : Nat → Int32) (bg : Nat → Int64) (k : Nat) (hn : n ≤ 30) (hk9 : k < n) : Met l yX4_lineAt wsX4_lineAt ({ frames := 2, cells := 0, slots := 0, locals := 42 } : Room) (ob_Pp D t (ob_wX ax ao al am ac ++ ob_wL t al n cl rd sv pb ba bf od bg) [.ref ax, .int (nI k)]) (vp_Si (fun r : Int32 => r = od k)) 0 0 (fun _ => False) := by
  refine Met.ofW (cc := cX4_lineAt) (maxL := 2) (ret := (some .int)) (by decide) rfl ?_
  intro p e s m args below meth c s₁ B hml hv
  obtain ⟨rfl, hP, hk⟩ := hv
  have hx := B.exec
  have hb := B.bytes
  have hr := B.returns
  have hts := atoms_spec (ws := wsX4_lineAt) B.pre
  have hown : s.vm.findClass RX4 = some m.cls := findClass_of_methodNamed B.named
  have hlocks := B.notSynchronized
  have hK := hk.1
  have hl := lv_entry [.ref ax, .int (nI k)] (n := 2) (Nat.le_of_ble_eq_true rfl)
  rw [lg_entry_eq]
  generalize (lg_sl [.ref ax, .int (nI k)] ++ List.replicate (2 - (lg_sl [.ref ax, .int (nI k)]).length) Slot.unset).toArray = ls at hl ⊢
  have hl : lv_has ls 2 [(0, .ref ax), (1, .int (nI k))] := hl
  refine lv_aload_n hx hb dX4_lineAt_0 rfl (lv_at hl 0 rfl) ?_
  refine va_get (ci := 4) (C := RX4) (T := TX4) (N := 4) hx hb hts (fun w h => List.mem_cons_of_mem _ (List.mem_append_left _ (List.mem_append_left _ (List.mem_append_right _ (h))))) hown hK hP 0 rfl rfl 1 (by decide) (hts (Cond.fieldLink RX4 19 "OutageBook" "log" "LOutageBook$Log;") (List.mem_of_getElem? (i := 3) rfl)) (fun _ h9 => h9) rfl dX4_lineAt_1 ?_
  refine lv_iload_n hx hb dX4_lineAt_4 rfl (lv_at hl 1 rfl) ?_
  refine vp_callSi (va_Run.run (va_runV (As := [.int (nI k)]) (rest := []) ⟨hx, hb, hml, hown, hts⟩ (c_X1_holds l D t al n cl rd sv pb ba bf od bg (nI k) (by first | assumption | omega)) (cwV 1 hts gX4_lineAt_X1_holds rfl rfl rfl (by decide +kernel) ⟨Nat.le_of_ble_eq_true rfl, Nat.le_of_ble_eq_true rfl⟩) (ob_preV (ci := 1) (q0 := 0) (hP.sub [1, 2, 3, 4, 5, 6, 7, 8, 9] rfl) hk rfl rfl) rfl rfl hl.1 rfl (lv_room (Nat.le_of_ble_eq_true rfl)) dX4_lineAt_5 ⟨Nat.le_of_ble_eq_true rfl, Nat.le_of_ble_eq_true rfl⟩)) (fun r9 hr9 => ?_)
  subst hr9
  refine ob_if_ne (tgt := 21) hx hb dX4_lineAt_8 (by decide) (fun c8 => ?_) (fun c8 => ?_)
  · refine lv_aload_n hx hb dX4_lineAt_21 rfl (lv_at hl 0 rfl) ?_
    refine va_get (ci := 4) (C := RX4) (T := TX4) (N := 4) hx hb hts (fun w h => List.mem_cons_of_mem _ (List.mem_append_left _ (List.mem_append_left _ (List.mem_append_right _ (h))))) hown hK hP 0 rfl rfl 1 (by decide) (hts (Cond.fieldLink RX4 19 "OutageBook" "log" "LOutageBook$Log;") (List.mem_of_getElem? (i := 3) rfl)) (fun _ h9 => h9) rfl dX4_lineAt_22 ?_
    refine lv_iload_n hx hb dX4_lineAt_25 rfl (lv_at hl 1 rfl) ?_
    refine vp_callSi (va_Run.run (va_runV (As := [.int (nI k)]) (rest := []) ⟨hx, hb, hml, hown, hts⟩ (c_X1_at l D t al n cl rd sv pb ba bf od bg (nI k) (by first | assumption | omega)) (cwV 1 hts gX4_lineAt_X1_at rfl rfl rfl (by decide +kernel) ⟨Nat.le_of_ble_eq_true rfl, Nat.le_of_ble_eq_true rfl⟩) (ob_preV (ci := 1) (q0 := 0) (hP.sub [1, 2, 3, 4, 5, 6, 7, 8, 9] rfl) hk rfl rfl) rfl rfl hl.1 rfl (lv_room (Nat.le_of_ble_eq_true rfl)) dX4_lineAt_26 ⟨Nat.le_of_ble_eq_true rfl, Nat.le_of_ble_eq_true rfl⟩)) (fun r9 hr9 => ?_)
    subst hr9
    exact W.iret (v := ob_at n od (nI k)) hx hb hr (fun t9 ht hW => ⟨ob_at n od (nI k), rfl, (ob_at_nI hk9), ht⟩) (fun _ h => absurd h List.not_mem_nil) dX4_lineAt_29
  · rw [ob_hd_nI hk9 (by omega)] at c8; cases c8

set_option maxRecDepth 100000 in
set_option maxHeartbeats 4000000 in
theorem n_X4_isDoubtful (l : Launch) (D : va_G) (t : Nat → ClassId) (ax : Nat) (ao al am ac : Nat → Nat) (n : Nat) (cl rd sv pb ba bf od : Nat → Int32) (bg : Nat → Int64) (k : Nat) (hn : n ≤ 30) (hk9 : k < n) : Met l yX4_isDoubtful wsX4_isDoubtful ({ frames := 2, cells := 0, slots := 0, locals := 42 } : Room) (ob_Pp D t (ob_wX ax ao al am ac ++ ob_wL t al n cl rd sv pb ba bf od bg) [.ref ax, .int (nI k)]) (vp_Si (fun r : Int32 => r = ob_bi (decide (ba k < 0)))) 0 0 (fun _ => False) := by
  refine Met.ofW (cc := cX4_isDoubtful) (maxL := 2) (ret := (some .boolean)) (by decide) rfl ?_
  intro p e s m args below meth c s₁ B hml hv
  obtain ⟨rfl, hP, hk⟩ := hv
  have hx := B.exec
  have hb := B.bytes
  have hr := B.returns
  have hts := atoms_spec (ws := wsX4_isDoubtful) B.pre
  have hown : s.vm.findClass RX4 = some m.cls := findClass_of_methodNamed B.named
  have hlocks := B.notSynchronized
  have hK := hk.1
  have hl := lv_entry [.ref ax, .int (nI k)] (n := 2) (Nat.le_of_ble_eq_true rfl)
  rw [lg_entry_eq]
  generalize (lg_sl [.ref ax, .int (nI k)] ++ List.replicate (2 - (lg_sl [.ref ax, .int (nI k)]).length) Slot.unset).toArray = ls at hl ⊢
  have hl : lv_has ls 2 [(0, .ref ax), (1, .int (nI k))] := hl
  refine lv_aload_n hx hb dX4_isDoubtful_0 rfl (lv_at hl 0 rfl) ?_
  refine va_get (ci := 4) (C := RX4) (T := TX4) (N := 4) hx hb hts (fun w h => List.mem_cons_of_mem _ (List.mem_append_left _ (List.mem_append_left _ (List.mem_append_right _ (h))))) hown hK hP 0 rfl rfl 1 (by decide) (hts (Cond.fieldLink RX4 19 "OutageBook" "log" "LOutageBook$Log;") (List.mem_of_getElem? (i := 3) rfl)) (fun _ h9 => h9) rfl dX4_isDoubtful_1 ?_
  refine lv_iload_n hx hb dX4_isDoubtful_4 rfl (lv_at hl 1 rfl) ?_
  refine vp_callSi (va_Run.run (va_runV (As := [.int (nI k)]) (rest := []) ⟨hx, hb, hml, hown, hts⟩ (c_X1_holds l D t al n cl rd sv pb ba bf od bg (nI k) (by first | assumption | omega)) (cwV 1 hts gX4_isDoubtful_X1_holds rfl rfl rfl (by decide +kernel) ⟨Nat.le_of_ble_eq_true rfl, Nat.le_of_ble_eq_true rfl⟩) (ob_preV (ci := 1) (q0 := 0) (hP.sub [1, 2, 3, 4, 5, 6, 7, 8, 9] rfl) hk rfl rfl) rfl rfl hl.1 rfl (lv_room (Nat.le_of_ble_eq_true rfl)) dX4_isDoubtful_5 ⟨Nat.le_of_ble_eq_true rfl, Nat.le_of_ble_eq_true rfl⟩)) (fun r9 hr9 => ?_)
  subst hr9
  refine ob_if_ne (tgt := 21) hx hb dX4_isDoubtful_8 (by decide) (fun c8 => ?_) (fun c8 => ?_)
  · refine lv_aload_n hx hb dX4_isDoubtful_21 rfl (lv_at hl 0 rfl) ?_
    refine va_get (ci := 4) (C := RX4) (T := TX4) (N := 4) hx hb hts (fun w h => List.mem_cons_of_mem _ (List.mem_append_left _ (List.mem_append_left _ (List.mem_append_right _ (h))))) hown hK hP 0 rfl rfl 1 (by decide) (hts (Cond.fieldLink RX4 19 "OutageBook" "log" "LOutageBook$Log;") (List.mem_of_getElem? (i := 3) rfl)) (fun _ h9 => h9) rfl dX4_isDoubtful_22 ?_
    refine lv_iload_n hx hb dX4_isDoubtful_25 rfl (lv_at hl 1 rfl) ?_
    refine vp_callSi (va_Run.run (va_runV (As := [.int (nI k)]) (rest := []) ⟨hx, hb, hml, hown, hts⟩ (c_X1_isDoubted l D t al n cl rd sv pb ba bf od bg (nI k) (by first | assumption | omega)) (cwV 1 hts gX4_isDoubtful_X1_isDoubted rfl rfl rfl (by decide +kernel) ⟨Nat.le_of_ble_eq_true rfl, Nat.le_of_ble_eq_true rfl⟩) (ob_preV (ci := 1) (q0 := 0) (hP.sub [1, 2, 3, 4, 5, 6, 7, 8, 9] rfl) hk rfl rfl) rfl rfl hl.1 rfl (lv_room (Nat.le_of_ble_eq_true rfl)) dX4_isDoubtful_26 ⟨Nat.le_of_ble_eq_true rfl, Nat.le_of_ble_eq_true rfl⟩)) (fun r9 hr9 => ?_)
    subst hr9
    exact W.zret (v := ob_bi (ob_hd n (nI k) && decide (ba (nI k).toNatClampNeg < 0))) hx hb hr (ob_narZ _) (fun t9 ht hW => ⟨ob_bi (ob_hd n (nI k) && decide (ba (nI k).toNatClampNeg < 0)), rfl, (by rw [ob_hd_nI hk9 (by omega), ob_cl (by omega)]; rfl), ht⟩) (fun _ h => absurd h List.not_mem_nil) dX4_isDoubtful_29
  · rw [ob_hd_nI hk9 (by omega)] at c8; cases c8

set_option maxRecDepth 100000 in
set_option maxHeartbeats 4000000 in
theorem n_X4_earliest (l : Launch) (D : va_G) (t : Nat → ClassId) (ax : Nat) (ao al am ac : Nat → Nat) (M : Nat → Nat → Int32) (n : Nat) (cl rd sv pb ba bf od : Nat → Int32) (bg : Nat → Int64) (k : Nat) (hn : n ≤ 30) (hk9 : k < n) : Met l yX4_earliest wsX4_earliest ({ frames := 4, cells := 0, slots := 0, locals := 87 } : Room) (ob_Pp D t (ob_wX ax ao al am ac ++ ob_wO t ao M ++ ob_wL t al n cl rd sv pb ba bf od bg) [.ref ax, .int (nI k)]) (vp_Si (fun r : Int32 => r = if 1000000 ≤ ob_ms M (nI 0) (cl k) then -1000000 else rd k - ob_ms M (nI 0) (cl k))) 0 0 (fun _ => False) := by
  refine Met.ofW (cc := cX4_earliest) (maxL := 2) (ret := (some .int)) (by decide) rfl ?_
  intro p e s m args below meth c s₁ B hml hv
  obtain ⟨rfl, hP, hk⟩ := hv
  have hx := B.exec
  have hb := B.bytes
  have hr := B.returns
  have hts := atoms_spec (ws := wsX4_earliest) B.pre
  have hown : s.vm.findClass RX4 = some m.cls := findClass_of_methodNamed B.named
  have hlocks := B.notSynchronized
  have hK := hk.1
  have hl := lv_entry [.ref ax, .int (nI k)] (n := 2) (Nat.le_of_ble_eq_true rfl)
  rw [lg_entry_eq]
  generalize (lg_sl [.ref ax, .int (nI k)] ++ List.replicate (2 - (lg_sl [.ref ax, .int (nI k)]).length) Slot.unset).toArray = ls at hl ⊢
  have hl : lv_has ls 2 [(0, .ref ax), (1, .int (nI k))] := hl
  refine lv_aload_n hx hb dX4_earliest_0 rfl (lv_at hl 0 rfl) ?_
  refine va_get (ci := 4) (C := RX4) (T := TX4) (N := 4) hx hb hts (fun w h => List.mem_cons_of_mem _ (List.mem_append_left _ (List.mem_append_left _ (List.mem_append_left _ (List.mem_append_right _ (h)))))) hown hK hP 0 rfl rfl 1 (by decide) (hts (Cond.fieldLink RX4 19 "OutageBook" "log" "LOutageBook$Log;") (List.mem_of_getElem? (i := 3) rfl)) (fun _ h9 => h9) rfl dX4_earliest_1 ?_
  refine lv_iload_n hx hb dX4_earliest_4 rfl (lv_at hl 1 rfl) ?_
  refine vp_callSi (va_Run.run (va_runV (As := [.int (nI k)]) (rest := []) ⟨hx, hb, hml, hown, hts⟩ (c_X1_holds l D t al n cl rd sv pb ba bf od bg (nI k) (by first | assumption | omega)) (cwV 1 hts gX4_earliest_X1_holds rfl rfl rfl (by decide +kernel) ⟨Nat.le_of_ble_eq_true rfl, Nat.le_of_ble_eq_true rfl⟩) (ob_preV (ci := 1) (q0 := 0) (hP.sub [8, 9, 10, 11, 12, 13, 14, 15, 16] rfl) hk rfl rfl) rfl rfl hl.1 rfl (lv_room (Nat.le_of_ble_eq_true rfl)) dX4_earliest_5 ⟨Nat.le_of_ble_eq_true rfl, Nat.le_of_ble_eq_true rfl⟩)) (fun r9 hr9 => ?_)
  subst hr9
  refine ob_if_ne (tgt := 21) hx hb dX4_earliest_8 (by decide) (fun c8 => ?_) (fun c8 => ?_)
  · refine lv_aload_n hx hb dX4_earliest_21 rfl (lv_at hl 0 rfl) ?_
    refine va_get (ci := 4) (C := RX4) (T := TX4) (N := 4) hx hb hts (fun w h => List.mem_cons_of_mem _ (List.mem_append_left _ (List.mem_append_left _ (List.mem_append_left _ (List.mem_append_right _ (h)))))) hown hK hP 0 rfl rfl 1 (by decide) (hts (Cond.fieldLink RX4 19 "OutageBook" "log" "LOutageBook$Log;") (List.mem_of_getElem? (i := 3) rfl)) (fun _ h9 => h9) rfl dX4_earliest_22 ?_
    refine lv_iload_n hx hb dX4_earliest_25 rfl (lv_at hl 1 rfl) ?_
    refine lv_aload_n hx hb dX4_earliest_26 rfl (lv_at hl 0 rfl) ?_
    refine va_get (ci := 4) (C := RX4) (T := TX4) (N := 4) hx hb hts (fun w h => List.mem_cons_of_mem _ (List.mem_append_left _ (List.mem_append_left _ (List.mem_append_left _ (List.mem_append_right _ (h)))))) hown hK hP 0 rfl rfl 0 (by decide) (hts (Cond.fieldLink RX4 10 "OutageBook" "offsets" "LOutageBook$Offsets;") (List.mem_of_getElem? (i := 4) rfl)) (fun _ h9 => h9) rfl dX4_earliest_27 ?_
    refine vp_callSi (va_Run.run (va_runV (As := [.int (nI k), .ref (ao 0)]) (rest := []) ⟨hx, hb, hml, hown, hts⟩ (c_X1_earliestTime l D t al n cl rd sv pb ba bf od bg ao M (nI k) (by first | assumption | omega)) (cwV 2 hts gX4_earliest_X1_earliestTime rfl rfl rfl (by decide +kernel) ⟨Nat.le_of_ble_eq_true rfl, Nat.le_of_ble_eq_true rfl⟩) (ob_preV (ci := 1) (q0 := 0) (hP.sub [8, 9, 10, 11, 12, 13, 14, 15, 16, 1, 2, 3, 4, 5, 6, 7] rfl) hk rfl rfl) rfl rfl hl.1 rfl (lv_room (Nat.le_of_ble_eq_true rfl)) dX4_earliest_30 ⟨Nat.le_of_ble_eq_true rfl, Nat.le_of_ble_eq_true rfl⟩)) (fun r9 hr9 => ?_)
    subst hr9
    exact W.iret (v := ob_et n M cl rd (nI k)) hx hb hr (fun t9 ht hW => ⟨ob_et n M cl rd (nI k), rfl, (by unfold ob_et; rw [ob_hd_nI hk9 (by omega), ob_cl (show k ≤ 1073741824 by omega), if_pos rfl]), ht⟩) (fun _ h => absurd h List.not_mem_nil) dX4_earliest_33
  · rw [ob_hd_nI hk9 (by omega)] at c8; cases c8

set_option maxRecDepth 100000 in
set_option maxHeartbeats 4000000 in
theorem n_X4_roots (l : Launch) (D : va_G) (t : Nat → ClassId) (ax : Nat) (ao al am ac : Nat → Nat) (cn : Nat) (st : Int32) (Wt : Nat → Nat → Int32) (k : Nat) (hcn : cn ≤ 16) (hk9 : k < cn) : Met l yX4_roots wsX4_roots ({ frames := 5, cells := 0, slots := 0, locals := 115 } : Room) (ob_Pp D t (ob_wX ax ao al am ac ++ ob_wC t ac cn st Wt) [.ref ax, .int (nI k)]) (vp_Si (fun r : Int32 => r = ob_ro st Wt cn k)) 0 0 (fun _ => False) := by
  refine Met.ofW (cc := cX4_roots) (maxL := 2) (ret := (some .int)) (by decide) rfl ?_
  intro p e s m args below meth c s₁ B hml hv
  obtain ⟨rfl, hP, hk⟩ := hv
  have hx := B.exec
  have hb := B.bytes
  have hr := B.returns
  have hts := atoms_spec (ws := wsX4_roots) B.pre
  have hown : s.vm.findClass RX4 = some m.cls := findClass_of_methodNamed B.named
  have hlocks := B.notSynchronized
  have hK := hk.1
  have hl := lv_entry [.ref ax, .int (nI k)] (n := 2) (Nat.le_of_ble_eq_true rfl)
  rw [lg_entry_eq]
  generalize (lg_sl [.ref ax, .int (nI k)] ++ List.replicate (2 - (lg_sl [.ref ax, .int (nI k)]).length) Slot.unset).toArray = ls at hl ⊢
  have hl : lv_has ls 2 [(0, .ref ax), (1, .int (nI k))] := hl
  refine lv_aload_n hx hb dX4_roots_0 rfl (lv_at hl 0 rfl) ?_
  refine va_get (ci := 4) (C := RX4) (T := TX4) (N := 4) hx hb hts (fun w h => List.mem_cons_of_mem _ (List.mem_append_left _ (List.mem_append_left _ (List.mem_append_right _ (h))))) hown hK hP 0 rfl rfl 3 (by decide) (hts (Cond.fieldLink RX4 33 "OutageBook" "causes" "LOutageBook$Causes;") (List.mem_of_getElem? (i := 3) rfl)) (fun _ h9 => h9) rfl dX4_roots_1 ?_
  refine lv_iload_n hx hb dX4_roots_4 rfl (lv_at hl 1 rfl) ?_
  refine vp_callSi (va_Run.run (va_runV (As := [.int (nI k)]) (rest := []) ⟨hx, hb, hml, hown, hts⟩ (c_X0_holds l D t ac cn st Wt (nI k) (by first | assumption | omega)) (cwV 1 hts gX4_roots_X0_holds rfl rfl rfl (by decide +kernel) ⟨Nat.le_of_ble_eq_true rfl, Nat.le_of_ble_eq_true rfl⟩) (ob_preV (ci := 0) (q0 := 0) (hP.sub [1, 2, 3, 4, 5, 6, 7, 8, 9, 10, 11, 12, 13, 14, 15, 16, 17, 18] rfl) hk rfl rfl) rfl rfl hl.1 rfl (lv_room (Nat.le_of_ble_eq_true rfl)) dX4_roots_5 ⟨Nat.le_of_ble_eq_true rfl, Nat.le_of_ble_eq_true rfl⟩)) (fun r9 hr9 => ?_)
  subst hr9
  refine ob_if_ne (tgt := 21) hx hb dX4_roots_8 (by decide) (fun c8 => ?_) (fun c8 => ?_)
  · refine lv_aload_n hx hb dX4_roots_21 rfl (lv_at hl 0 rfl) ?_
    refine va_get (ci := 4) (C := RX4) (T := TX4) (N := 4) hx hb hts (fun w h => List.mem_cons_of_mem _ (List.mem_append_left _ (List.mem_append_left _ (List.mem_append_right _ (h))))) hown hK hP 0 rfl rfl 3 (by decide) (hts (Cond.fieldLink RX4 33 "OutageBook" "causes" "LOutageBook$Causes;") (List.mem_of_getElem? (i := 3) rfl)) (fun _ h9 => h9) rfl dX4_roots_22 ?_
    refine lv_iload_n hx hb dX4_roots_25 rfl (lv_at hl 1 rfl) ?_
    refine vp_callSi (va_Run.run (va_runV (As := [.int (nI k)]) (rest := []) ⟨hx, hb, hml, hown, hts⟩ (c_X0_rootsUnder l D t ac cn st Wt (nI k) (by first | assumption | omega)) (cwV 1 hts gX4_roots_X0_rootsUnder rfl rfl rfl (by decide +kernel) ⟨Nat.le_of_ble_eq_true rfl, Nat.le_of_ble_eq_true rfl⟩) (ob_preV (ci := 0) (q0 := 0) (hP.sub [1, 2, 3, 4, 5, 6, 7, 8, 9, 10, 11, 12, 13, 14, 15, 16, 17, 18] rfl) hk rfl rfl) rfl rfl hl.1 rfl (lv_room (Nat.le_of_ble_eq_true rfl)) dX4_roots_26 ⟨Nat.le_of_ble_eq_true rfl, Nat.le_of_ble_eq_true rfl⟩)) (fun r9 hr9 => ?_)
    subst hr9
    exact W.iret (v := if ob_hb st (nI k) then ob_rt st Wt cn (ob_rcO Wt cn st (nI k) cn) cn else nI 0) hx hb hr (fun t9 ht hW => ⟨if ob_hb st (nI k) then ob_rt st Wt cn (ob_rcO Wt cn st (nI k) cn) cn else nI 0, rfl, rfl, ht⟩) (fun _ h => absurd h List.not_mem_nil) dX4_roots_29
  · rw [ob_hd_nI hk9 (by omega)] at c8; cases c8

set_option maxRecDepth 100000 in
set_option maxHeartbeats 4000000 in
theorem n_X4_mainReason (l : Launch) (D : va_G) (t : Nat → ClassId) (ax : Nat) (ao al am ac : Nat → Nat) (cn : Nat) (st : Int32) (Wt : Nat → Nat → Int32) (k : Nat) (hcn : cn ≤ 16) (hk9 : k < cn) : Met l yX4_mainReason wsX4_mainReason ({ frames := 3, cells := 0, slots := 0, locals := 68 } : Room) (ob_Pp D t (ob_wX ax ao al am ac ++ ob_wC t ac cn st Wt) [.ref ax, .int (nI k)]) (vp_Si (fun r : Int32 => r = (ob_wr st Wt cn (nI k) cn).1)) 0 0 (fun _ => False) := by
  refine Met.ofW (cc := cX4_mainReason) (maxL := 2) (ret := (some .int)) (by decide) rfl ?_
  intro p e s m args below meth c s₁ B hml hv
  obtain ⟨rfl, hP, hk⟩ := hv
  have hx := B.exec
  have hb := B.bytes
  have hr := B.returns
  have hts := atoms_spec (ws := wsX4_mainReason) B.pre
  have hown : s.vm.findClass RX4 = some m.cls := findClass_of_methodNamed B.named
  have hlocks := B.notSynchronized
  have hK := hk.1
  have hl := lv_entry [.ref ax, .int (nI k)] (n := 2) (Nat.le_of_ble_eq_true rfl)
  rw [lg_entry_eq]
  generalize (lg_sl [.ref ax, .int (nI k)] ++ List.replicate (2 - (lg_sl [.ref ax, .int (nI k)]).length) Slot.unset).toArray = ls at hl ⊢
  have hl : lv_has ls 2 [(0, .ref ax), (1, .int (nI k))] := hl
  refine lv_aload_n hx hb dX4_mainReason_0 rfl (lv_at hl 0 rfl) ?_
  refine va_get (ci := 4) (C := RX4) (T := TX4) (N := 4) hx hb hts (fun w h => List.mem_cons_of_mem _ (List.mem_append_left _ (List.mem_append_left _ (List.mem_append_right _ (h))))) hown hK hP 0 rfl rfl 3 (by decide) (hts (Cond.fieldLink RX4 33 "OutageBook" "causes" "LOutageBook$Causes;") (List.mem_of_getElem? (i := 3) rfl)) (fun _ h9 => h9) rfl dX4_mainReason_1 ?_
  refine lv_iload_n hx hb dX4_mainReason_4 rfl (lv_at hl 1 rfl) ?_
  refine vp_callSi (va_Run.run (va_runV (As := [.int (nI k)]) (rest := []) ⟨hx, hb, hml, hown, hts⟩ (c_X0_holds l D t ac cn st Wt (nI k) (by first | assumption | omega)) (cwV 1 hts gX4_mainReason_X0_holds rfl rfl rfl (by decide +kernel) ⟨Nat.le_of_ble_eq_true rfl, Nat.le_of_ble_eq_true rfl⟩) (ob_preV (ci := 0) (q0 := 0) (hP.sub [1, 2, 3, 4, 5, 6, 7, 8, 9, 10, 11, 12, 13, 14, 15, 16, 17, 18] rfl) hk rfl rfl) rfl rfl hl.1 rfl (lv_room (Nat.le_of_ble_eq_true rfl)) dX4_mainReason_5 ⟨Nat.le_of_ble_eq_true rfl, Nat.le_of_ble_eq_true rfl⟩)) (fun r9 hr9 => ?_)
  subst hr9
  refine ob_if_ne (tgt := 21) hx hb dX4_mainReason_8 (by decide) (fun c8 => ?_) (fun c8 => ?_)
  · refine lv_aload_n hx hb dX4_mainReason_21 rfl (lv_at hl 0 rfl) ?_
    refine va_get (ci := 4) (C := RX4) (T := TX4) (N := 4) hx hb hts (fun w h => List.mem_cons_of_mem _ (List.mem_append_left _ (List.mem_append_left _ (List.mem_append_right _ (h))))) hown hK hP 0 rfl rfl 3 (by decide) (hts (Cond.fieldLink RX4 33 "OutageBook" "causes" "LOutageBook$Causes;") (List.mem_of_getElem? (i := 3) rfl)) (fun _ h9 => h9) rfl dX4_mainReason_22 ?_
    refine lv_iload_n hx hb dX4_mainReason_25 rfl (lv_at hl 1 rfl) ?_
    refine vp_callSi (va_Run.run (va_runV (As := [.int (nI k)]) (rest := []) ⟨hx, hb, hml, hown, hts⟩ (c_X0_weightiestReason l D t ac cn st Wt (nI k) (by first | assumption | omega)) (cwV 1 hts gX4_mainReason_X0_weightiestReason rfl rfl rfl (by decide +kernel) ⟨Nat.le_of_ble_eq_true rfl, Nat.le_of_ble_eq_true rfl⟩) (ob_preV (ci := 0) (q0 := 0) (hP.sub [1, 2, 3, 4, 5, 6, 7, 8, 9, 10, 11, 12, 13, 14, 15, 16, 17, 18] rfl) hk rfl rfl) rfl rfl hl.1 rfl (lv_room (Nat.le_of_ble_eq_true rfl)) dX4_mainReason_26 ⟨Nat.le_of_ble_eq_true rfl, Nat.le_of_ble_eq_true rfl⟩)) (fun r9 hr9 => ?_)
    subst hr9
    exact W.iret (v := (ob_wr st Wt cn (nI k) cn).1) hx hb hr (fun t9 ht hW => ⟨(ob_wr st Wt cn (nI k) cn).1, rfl, rfl, ht⟩) (fun _ h => absurd h List.not_mem_nil) dX4_mainReason_29
  · rw [ob_hd_nI hk9 (by omega)] at c8; cases c8

set_option maxRecDepth 100000 in
set_option maxHeartbeats 4000000 in
theorem n_X4_firstOf (l : Launch) (D : va_G) (t : Nat → ClassId) (ax : Nat) (ao al am ac : Nat → Nat) (n : Nat) (cl rd sv pb ba bf od : Nat → Int32) (bg : Nat → Int64) (k : Nat) (hn : n ≤ 30) (hk9 : k ≤ 5) : Met l yX4_firstOf wsX4_firstOf ({ frames := 3, cells := 0, slots := 0, locals := 65 } : Room) (ob_Pp D t (ob_wX ax ao al am ac ++ ob_wL t al n cl rd sv pb ba bf od bg) [.ref ax, .int (nI k)]) (vp_Si (fun r : Int32 => (∃ i, i < n ∧ ob_fp n sv od (nI k) i = true ∧ (∀ j, j < i → ob_fp n sv od (nI k) j = false) ∧ r = od i) ∨ ((∀ j, j < n → ob_fp n sv od (nI k) j = false) ∧ r = -1))) 0 0 (fun _ => False) := by
  refine Met.ofW (cc := cX4_firstOf) (maxL := 2) (ret := (some .int)) (by decide) rfl ?_
  intro p e s m args below meth c s₁ B hml hv
  obtain ⟨rfl, hP, hk⟩ := hv
  have hx := B.exec
  have hb := B.bytes
  have hr := B.returns
  have hts := atoms_spec (ws := wsX4_firstOf) B.pre
  have hown : s.vm.findClass RX4 = some m.cls := findClass_of_methodNamed B.named
  have hlocks := B.notSynchronized
  have hK := hk.1
  have hl := lv_entry [.ref ax, .int (nI k)] (n := 2) (Nat.le_of_ble_eq_true rfl)
  rw [lg_entry_eq]
  generalize (lg_sl [.ref ax, .int (nI k)] ++ List.replicate (2 - (lg_sl [.ref ax, .int (nI k)]).length) Slot.unset).toArray = ls at hl ⊢
  have hl : lv_has ls 2 [(0, .ref ax), (1, .int (nI k))] := hl
  refine lv_iload_n hx hb dX4_firstOf_0 rfl (lv_at hl 1 rfl) ?_
  refine vp_callSi (va_Run.run (va_runS (As := [.int (nI k)]) (rest := []) ⟨hx, hb, hml, hown, hts⟩ (c_X4_isService l D t (nI k)) (va_cwS 1 hts gX4_firstOf_X4_isService rfl rfl rfl (by decide +kernel) ⟨Nat.le_of_ble_eq_true rfl, Nat.le_of_ble_eq_true rfl⟩) (ob_preS (hP.sub [] rfl) hk) rfl rfl hl.1 rfl (lv_room (Nat.le_of_ble_eq_true rfl)) dX4_firstOf_1 ⟨Nat.le_of_ble_eq_true rfl, Nat.le_of_ble_eq_true rfl⟩)) (fun r9 hr9 => ?_)
  subst hr9
  refine ob_if_ne (tgt := 17) hx hb dX4_firstOf_4 (by decide) (fun c4 => ?_) (fun c4 => ?_)
  · refine lv_aload_n hx hb dX4_firstOf_17 rfl (lv_at hl 0 rfl) ?_
    refine va_get (ci := 4) (C := RX4) (T := TX4) (N := 4) hx hb hts (fun w h => List.mem_cons_of_mem _ (List.mem_append_left _ (List.mem_append_left _ (List.mem_append_right _ (h))))) hown hK hP 0 rfl rfl 1 (by decide) (hts (Cond.fieldLink RX4 19 "OutageBook" "log" "LOutageBook$Log;") (List.mem_of_getElem? (i := 3) rfl)) (fun _ h9 => h9) rfl dX4_firstOf_18 ?_
    refine lv_iload_n hx hb dX4_firstOf_21 rfl (lv_at hl 1 rfl) ?_
    refine vp_callSi (va_Run.run (va_runV (As := [.int (nI k)]) (rest := []) ⟨hx, hb, hml, hown, hts⟩ (c_X1_firstLine l D t al n cl rd sv pb ba bf od bg (nI k) (by first | assumption | omega)) (cwV 1 hts gX4_firstOf_X1_firstLine rfl rfl rfl (by decide +kernel) ⟨Nat.le_of_ble_eq_true rfl, Nat.le_of_ble_eq_true rfl⟩) (ob_preV (ci := 1) (q0 := 0) (hP.sub [1, 2, 3, 4, 5, 6, 7, 8, 9] rfl) hk rfl rfl) rfl rfl hl.1 rfl (lv_room (Nat.le_of_ble_eq_true rfl)) dX4_firstOf_22 ⟨Nat.le_of_ble_eq_true rfl, Nat.le_of_ble_eq_true rfl⟩)) (fun r22 e22 => ?_)
    exact W.iret (v := r22) hx hb hr (fun t9 ht hW => ⟨r22, rfl, e22, ht⟩) (fun _ h => absurd h List.not_mem_nil) dX4_firstOf_25
  · rw [ob_wi_nI hk9 (by decide)] at c4; cases c4

set_option maxRecDepth 100000 in
set_option maxHeartbeats 4000000 in
theorem n_X4_impact (l : Launch) (D : va_G) (t : Nat → ClassId) (ax : Nat) (ao al am ac : Nat → Nat) (mn : Nat) (ms mf mt mp : Nat → Int32) (k : Nat) (hmn : mn ≤ 40) (hk9 : k ≤ 5) : Met l yX4_impact wsX4_impact ({ frames := 3, cells := 0, slots := 0, locals := 72 } : Room) (ob_Pp D t (ob_wX ax ao al am ac ++ ob_wM t am mn ms mf mt mp) [.ref ax, .int (nI k)]) (vp_Si (fun r : Int32 => r = (ob_sw ms mf mt mp mn (nI k) (2 * mn + 1)).1)) 0 0 (fun _ => False) := by
  refine Met.ofW (cc := cX4_impact) (maxL := 2) (ret := (some .int)) (by decide) rfl ?_
  intro p e s m args below meth c s₁ B hml hv
  obtain ⟨rfl, hP, hk⟩ := hv
  have hx := B.exec
  have hb := B.bytes
  have hr := B.returns
  have hts := atoms_spec (ws := wsX4_impact) B.pre
  have hown : s.vm.findClass RX4 = some m.cls := findClass_of_methodNamed B.named
  have hlocks := B.notSynchronized
  have hK := hk.1
  have hl := lv_entry [.ref ax, .int (nI k)] (n := 2) (Nat.le_of_ble_eq_true rfl)
  rw [lg_entry_eq]
  generalize (lg_sl [.ref ax, .int (nI k)] ++ List.replicate (2 - (lg_sl [.ref ax, .int (nI k)]).length) Slot.unset).toArray = ls at hl ⊢
  have hl : lv_has ls 2 [(0, .ref ax), (1, .int (nI k))] := hl
  refine lv_iload_n hx hb dX4_impact_0 rfl (lv_at hl 1 rfl) ?_
  refine vp_callSi (va_Run.run (va_runS (As := [.int (nI k)]) (rest := []) ⟨hx, hb, hml, hown, hts⟩ (c_X4_isService l D t (nI k)) (va_cwS 1 hts gX4_impact_X4_isService rfl rfl rfl (by decide +kernel) ⟨Nat.le_of_ble_eq_true rfl, Nat.le_of_ble_eq_true rfl⟩) (ob_preS (hP.sub [] rfl) hk) rfl rfl hl.1 rfl (lv_room (Nat.le_of_ble_eq_true rfl)) dX4_impact_1 ⟨Nat.le_of_ble_eq_true rfl, Nat.le_of_ble_eq_true rfl⟩)) (fun r9 hr9 => ?_)
  subst hr9
  refine ob_if_ne (tgt := 17) hx hb dX4_impact_4 (by decide) (fun c4 => ?_) (fun c4 => ?_)
  · refine lv_aload_n hx hb dX4_impact_17 rfl (lv_at hl 0 rfl) ?_
    refine va_get (ci := 4) (C := RX4) (T := TX4) (N := 4) hx hb hts (fun w h => List.mem_cons_of_mem _ (List.mem_append_left _ (List.mem_append_left _ (List.mem_append_right _ (h))))) hown hK hP 0 rfl rfl 2 (by decide) (hts (Cond.fieldLink RX4 26 "OutageBook" "measures" "LOutageBook$Measures;") (List.mem_of_getElem? (i := 3) rfl)) (fun _ h9 => h9) rfl dX4_impact_18 ?_
    refine lv_iload_n hx hb dX4_impact_21 rfl (lv_at hl 1 rfl) ?_
    refine vp_callSi (va_Run.run (va_runV (As := [.int (nI k)]) (rest := []) ⟨hx, hb, hml, hown, hts⟩ (c_X2_sumOfWorst l D t am mn ms mf mt mp (nI k) (by first | assumption | omega)) (cwV 1 hts gX4_impact_X2_sumOfWorst rfl rfl rfl (by decide +kernel) ⟨Nat.le_of_ble_eq_true rfl, Nat.le_of_ble_eq_true rfl⟩) (ob_preV (ci := 2) (q0 := 0) (hP.sub [1, 2, 3, 4, 5] rfl) hk rfl rfl) rfl rfl hl.1 rfl (lv_room (Nat.le_of_ble_eq_true rfl)) dX4_impact_22 ⟨Nat.le_of_ble_eq_true rfl, Nat.le_of_ble_eq_true rfl⟩)) (fun r9 hr9 => ?_)
    subst hr9
    exact W.iret (v := (ob_sw ms mf mt mp mn (nI k) (2 * mn + 1)).1) hx hb hr (fun t9 ht hW => ⟨(ob_sw ms mf mt mp mn (nI k) (2 * mn + 1)).1, rfl, rfl, ht⟩) (fun _ h => absurd h List.not_mem_nil) dX4_impact_25
  · rw [ob_wi_nI hk9 (by decide)] at c4; cases c4

set_option maxRecDepth 100000 in
set_option maxHeartbeats 4000000 in
theorem n_X4_storyAt (l : Launch) (D : va_G) (t : Nat → ClassId) (ax : Nat) (ao al am ac : Nat → Nat) (n : Nat) (cl rd sv pb ba bf od : Nat → Int32) (bg : Nat → Int64) (pm : Nat → Nat) (k : Nat) (hn : n ≤ 30) (hpm : ∀ k, k < n → od k = nI (pm k) ∧ pm k < n) (hk9 : k < n) (hik : ob_is n pb ba od k = true) : Met l yX4_storyAt wsX4_storyAt ({ frames := 3, cells := 0, slots := 0, locals := 66 } : Room) (ob_Pp D t (ob_wX ax ao al am ac ++ ob_wL t al n cl rd sv pb ba bf od bg) [.ref ax, .int (nI (ob_ct (ob_is n pb ba od) k))]) (vp_Si (fun r : Int32 => r = od k)) 0 0 (fun _ => False) := by
  refine Met.ofW (cc := cX4_storyAt) (maxL := 3) (ret := (some .int)) (by decide) rfl ?_
  intro p e s m args below meth c s₁ B hml hv
  obtain ⟨rfl, hP, hk⟩ := hv
  have hx := B.exec
  have hb := B.bytes
  have hr := B.returns
  have hts := atoms_spec (ws := wsX4_storyAt) B.pre
  have hown : s.vm.findClass RX4 = some m.cls := findClass_of_methodNamed B.named
  have hlocks := B.notSynchronized
  have hK := hk.1
  have hl := lv_entry [.ref ax, .int (nI (ob_ct (ob_is n pb ba od) k))] (n := 3) (Nat.le_of_ble_eq_true rfl)
  rw [lg_entry_eq]
  generalize (lg_sl [.ref ax, .int (nI (ob_ct (ob_is n pb ba od) k))] ++ List.replicate (3 - (lg_sl [.ref ax, .int (nI (ob_ct (ob_is n pb ba od) k))]).length) Slot.unset).toArray = ls at hl ⊢
  have hl : lv_has ls 3 [(0, .ref ax), (1, .int (nI (ob_ct (ob_is n pb ba od) k)))] := hl
  refine lv_aload_n hx hb dX4_storyAt_0 rfl (lv_at hl 0 rfl) ?_
  refine va_get (ci := 4) (C := RX4) (T := TX4) (N := 4) hx hb hts (fun w h => List.mem_cons_of_mem _ (List.mem_append_left _ (List.mem_append_left _ (List.mem_append_right _ (h))))) hown hK hP 0 rfl rfl 1 (by decide) (hts (Cond.fieldLink RX4 19 "OutageBook" "log" "LOutageBook$Log;") (List.mem_of_getElem? (i := 3) rfl)) (fun _ h9 => h9) rfl dX4_storyAt_1 ?_
  refine lv_iload_n hx hb dX4_storyAt_4 rfl (lv_at hl 1 rfl) ?_
  refine vp_callSi (va_Run.run (va_runV (As := [.int (nI (ob_ct (ob_is n pb ba od) k))]) (rest := []) ⟨hx, hb, hml, hown, hts⟩ (c_X1_storyLine l D t al n cl rd sv pb ba bf od bg (nI (ob_ct (ob_is n pb ba od) k)) (by first | assumption | omega)) (cwV 1 hts gX4_storyAt_X1_storyLine rfl rfl rfl (by decide +kernel) ⟨Nat.le_of_ble_eq_true rfl, Nat.le_of_ble_eq_true rfl⟩) (ob_preV (ci := 1) (q0 := 0) (hP.sub [1, 2, 3, 4, 5, 6, 7, 8, 9] rfl) hk rfl rfl) rfl rfl hl.1 rfl (lv_room (Nat.le_of_ble_eq_true rfl)) dX4_storyAt_5 ⟨Nat.le_of_ble_eq_true rfl, Nat.le_of_ble_eq_true rfl⟩)) (fun r5 e5 => ?_)
  refine lv_istore_n (lv' := [(2, .int r5), (0, .ref ax), (1, .int (nI (ob_ct (ob_is n pb ba od) k)))]) hx hb dX4_storyAt_8 rfl hl (by decide) rfl (fun ls hl => ?_)
  refine lv_iload_n hx hb dX4_storyAt_9 rfl (lv_at hl 0 rfl) ?_
  refine lv_iconst (v := (-1)) hx hb dX4_storyAt_10 (by decide) ?_
  refine lv_icmp_ne (tgt := 24) hx hb dX4_storyAt_11 (by decide) (fun c11 => ?_) (fun c11 => ?_)
  · refine lv_iload_n hx hb dX4_storyAt_24 rfl (lv_at hl 0 rfl) ?_
    exact W.iret (v := r5) hx hb hr (fun t9 ht hW => ⟨r5, rfl, (ob_sA hn hk9 hik e5), ht⟩) (fun _ h => absurd h List.not_mem_nil) dX4_storyAt_25
  · exact absurd ((hpm k hk9).1.symm.trans ((ob_sA hn hk9 hik e5).symm.trans c11)) (ob_nIm1 (by have := (hpm k hk9).2; omega))
