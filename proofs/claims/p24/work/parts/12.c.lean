set_option maxRecDepth 100000 in
set_option maxHeartbeats 4000000 in
theorem c_X3_bound (l : Launch) (D : va_G) (t : Nat → ClassId) (sz : Nat) (ao : Nat → Nat) (M : Nat → Nat → Int32) (a b : Nat) (x : Int32) (ha : a ≤ 4) (hb4 : b ≤ 4) : Met l yX3_bound wsX3_bound ({ frames := 3, cells := 0, slots := 0, locals := 64 } : Room) (ob_Pm D t (ob_wO t ao M) sz [.ref (ao 0), .int (nI a), .int (nI b), .int x]) (va_Qv (fun _ : Unit => True) (fun (_ : Unit) (t9 : State) => va_P D vwCl (ob_wO t ao (ob_bO a b x M 5)) t9.heap) (va_A (ob_wO t ao M) sz)) 0 0 (va_A (ob_wO t ao M) sz) := by
  refine Met.ofW (cc := cX3_bound) (maxL := 9) (ret := none) (by decide) rfl ?_
  intro p e s m args below meth c s₁ B hml hv
  obtain ⟨rfl, hsz, hP, hk, hD0⟩ := hv
  have hx := B.exec
  have hb := B.bytes
  have hr := B.returns
  have hts := atoms_spec (ws := wsX3_bound) B.pre
  have hown : s.vm.findClass RX3 = some m.cls := findClass_of_methodNamed B.named
  have hlocks := B.notSynchronized
  have hK := hk.1
  have hD : va_D (va_A (ob_wO t ao M) sz) (ob_wO t ao M) := hD0.self (sz := sz)
  have hA : ∀ q : Nat, s.heap.size ≤ q → (va_A (ob_wO t ao M) sz) q := fun q h => Or.inr (hsz ▸ h)
  have hS : va_S (va_A (ob_wO t ao M) sz) s.heap s.heap [] := va_S.rf
  have hl := lv_entry [.ref (ao 0), .int (nI a), .int (nI b), .int x] (n := 9) (Nat.le_of_ble_eq_true rfl)
  rw [lg_entry_eq]
  generalize (lg_sl [.ref (ao 0), .int (nI a), .int (nI b), .int x] ++ List.replicate (9 - (lg_sl [.ref (ao 0), .int (nI a), .int (nI b), .int x]).length) Slot.unset).toArray = ls at hl ⊢
  have hl : lv_has ls 9 [(0, .ref (ao 0)), (1, .int (nI a)), (2, .int (nI b)), (3, .int x)] := hl
  have hP : va_P D vwCl (ob_wO t ao M) s.heap := hP
  refine lv_iconst (v := nI 0) hx hb dX3_bound_0 (by decide) ?_
  refine lv_istore (lv' := [(4, .int (nI 0)), (0, .ref (ao 0)), (1, .int (nI a)), (2, .int (nI b)), (3, .int x)]) hx hb dX3_bound_1 hl (by decide) rfl (fun ls hl => ?_)
  have k3 : ∀ fu : Nat, ∀ (i : Nat) (N8 : Nat → Nat → Int32), 5 - i < fu → (i ≤ 5) → (N8 = ob_bO a b x M i) → ∀ (H : Heap) (locs : List Loc), va_P D vwCl (ob_wO t ao N8) H → va_D (va_A (ob_wO t ao M) sz) (ob_wO t ao N8) → va_S (va_A (ob_wO t ao M) sz) s.heap H locs → ∀ ls : Array Slot, lv_has ls 9 [(0, .ref (ao 0)), (1, .int (nI a)), (2, .int (nI b)), (3, .int x), (4, .int (nI i))] → W p l e (headSpec wsX3_bound ({ frames := 3, cells := 0, slots := 0, locals := 64 } : Room)).room s m ([.ref (ao 0), .int (nI a), .int (nI b), .int x] : List Value).toArray below meth c H locs 0 0 (MQ below (va_Qv (fun _ : Unit => True) (fun (_ : Unit) (t9 : State) => va_P D vwCl (ob_wO t ao (ob_bO a b x M 5)) t9.heap) (va_A (ob_wO t ao M) sz)) ([.ref (ao 0), .int (nI a), .int (nI b), .int x] : List Value).toArray s 0 0 (va_A (ob_wO t ao M) sz)) (F0 m 3 ls []) := by
    intro fu
    induction fu with
    | zero => intro i N8 hfu; exact absurd hfu (Nat.not_lt_zero _)
    | succ fu ih =>
      intro i N8 hfu hi h8 H locs hP hD hS ls hl
      have ih3 := ih
      refine lv_iload hx hb dX3_bound_3 (lv_at hl 4 rfl) ?_
      refine lv_iconst (v := nI 5) hx hb dX3_bound_5 (by decide) ?_
      refine ob_icmp_ge (tgt := 96) hx hb (by omega) (by omega) dX3_bound_6 (by decide) (fun c6 => ?_) (fun c6 => ?_)
      · exact W.vret hx hb hr (fun t9 ht hW => ⟨⟨(), rfl, trivial, ob_th ht (by rw [h8, show i = 5 by omega] at hP; exact hP)⟩, hS.F ht⟩) hS.2.2 dX3_bound_96
      · refine lv_iconst (v := nI 0) hx hb dX3_bound_9 (by decide) ?_
        refine lv_istore (lv' := [(5, .int (nI 0)), (0, .ref (ao 0)), (1, .int (nI a)), (2, .int (nI b)), (3, .int x), (4, .int (nI i))]) hx hb dX3_bound_10 hl (by decide) rfl (fun ls hl => ?_)
        have k12 : ∀ fu : Nat, ∀ (j : Nat) (N9 : Nat → Nat → Int32), 5 - j < fu → (j ≤ 5) → (N9 = ob_bI a b x i N8 j) → ∀ (H : Heap) (locs : List Loc), va_P D vwCl (ob_wO t ao N9) H → va_D (va_A (ob_wO t ao M) sz) (ob_wO t ao N9) → va_S (va_A (ob_wO t ao M) sz) s.heap H locs → ∀ ls : Array Slot, lv_has ls 9 [(0, .ref (ao 0)), (1, .int (nI a)), (2, .int (nI b)), (3, .int x), (4, .int (nI i)), (5, .int (nI j))] → W p l e (headSpec wsX3_bound ({ frames := 3, cells := 0, slots := 0, locals := 64 } : Room)).room s m ([.ref (ao 0), .int (nI a), .int (nI b), .int x] : List Value).toArray below meth c H locs 0 0 (MQ below (va_Qv (fun _ : Unit => True) (fun (_ : Unit) (t9 : State) => va_P D vwCl (ob_wO t ao (ob_bO a b x M 5)) t9.heap) (va_A (ob_wO t ao M) sz)) ([.ref (ao 0), .int (nI a), .int (nI b), .int x] : List Value).toArray s 0 0 (va_A (ob_wO t ao M) sz)) (F0 m 12 ls []) := by
          intro fu
          induction fu with
          | zero => intro j N9 hfu; exact absurd hfu (Nat.not_lt_zero _)
          | succ fu ih =>
            intro j N9 hfu hj h9 H locs hP hD hS ls hl
            have ih12 := ih
            refine lv_iload hx hb dX3_bound_12 (lv_at hl 5 rfl) ?_
            refine lv_iconst (v := nI 5) hx hb dX3_bound_14 (by decide) ?_
            refine ob_icmp_ge (tgt := 90) hx hb (by omega) (by omega) dX3_bound_15 (by decide) (fun c15 => ?_) (fun c15 => ?_)
            · refine ob_inc (k := 4) (lv' := [(4, .int (nI (i + 1))), (0, .ref (ao 0)), (1, .int (nI a)), (2, .int (nI b)), (3, .int x), (5, .int (nI j))]) hx hb dX3_bound_90 hl rfl (by decide) rfl (fun ls hl => ?_)
              refine lv_goto (tgt := 3) hx hb dX3_bound_93 (by decide) ?_
              exact ih3 (i + 1) N9 (by omega) (by omega) (by first | (rfl; done) | (rw [h9, show j = 5 by omega, h8]; rfl; done)) _ _ hP (ob_dO hD) hS _ (lv_sub hl [1, 2, 3, 4, 0] rfl)
            · refine lv_aload_n hx hb dX3_bound_18 rfl (lv_at hl 0 rfl) ?_
              refine lv_iload hx hb dX3_bound_19 (lv_at hl 4 rfl) ?_
              refine lv_iload_n hx hb dX3_bound_21 rfl (lv_at hl 1 rfl) ?_
              refine vp_callSi (va_Run.run (va_runV (As := [.int (nI i), .int (nI a)]) (rest := []) ⟨hx, hb, hml, hown, hts⟩ (c_X3_most l D t ao N9 (nI i) (nI a)) (cwV 2 hts gX3_bound_X3_most rfl rfl rfl (by decide +kernel) ⟨Nat.le_of_ble_eq_true rfl, Nat.le_of_ble_eq_true rfl⟩) (ob_preV (ci := 3) (q0 := 0) hP hk rfl rfl) rfl rfl hl.1 rfl (lv_room (Nat.le_of_ble_eq_true rfl)) dX3_bound_22 ⟨Nat.le_of_ble_eq_true rfl, Nat.le_of_ble_eq_true rfl⟩)) (fun r9 hr9 => ?_)
              subst hr9
              rw [show ob_ms N9 (nI i) (nI a) = N9 i a from ob_ms_nI (by omega) (by omega)]
              refine lv_istore (lv' := [(6, .int (N9 i a)), (0, .ref (ao 0)), (1, .int (nI a)), (2, .int (nI b)), (3, .int x), (4, .int (nI i)), (5, .int (nI j))]) hx hb dX3_bound_25 hl (by decide) rfl (fun ls hl => ?_)
              refine lv_aload_n hx hb dX3_bound_27 rfl (lv_at hl 1 rfl) ?_
              refine lv_iload_n hx hb dX3_bound_28 rfl (lv_at hl 3 rfl) ?_
              refine lv_iload hx hb dX3_bound_29 (lv_at hl 6 rfl) ?_
              refine vp_callSi (va_Run.run (va_runV (As := [.int (nI b), .int (nI j)]) (rest := []) ⟨hx, hb, hml, hown, hts⟩ (c_X3_most l D t ao N9 (nI b) (nI j)) (cwV 2 hts gX3_bound_X3_most rfl rfl rfl (by decide +kernel) ⟨Nat.le_of_ble_eq_true rfl, Nat.le_of_ble_eq_true rfl⟩) (ob_preV (ci := 3) (q0 := 0) hP hk rfl rfl) rfl rfl hl.1 rfl (lv_room (Nat.le_of_ble_eq_true rfl)) dX3_bound_31 ⟨Nat.le_of_ble_eq_true rfl, Nat.le_of_ble_eq_true rfl⟩)) (fun r9 hr9 => ?_)
              subst hr9
              rw [show ob_ms N9 (nI b) (nI j) = N9 b j from ob_ms_nI (by omega) (by omega)]
              refine lv_istore (lv' := [(7, .int (N9 b j)), (6, .int (N9 i a)), (0, .ref (ao 0)), (1, .int (nI a)), (2, .int (nI b)), (3, .int x), (4, .int (nI i)), (5, .int (nI j))]) hx hb dX3_bound_34 hl (by decide) rfl (fun ls hl => ?_)
              refine lv_iload hx hb dX3_bound_36 (lv_at hl 1 rfl) ?_
              refine lv_ldc (v := 1000000) hx hb hown (hts (Cond.constant RX3 16 (1000000)) (List.mem_of_getElem? (i := 1) rfl)) dX3_bound_38 ?_
              refine lv_icmp_ge (tgt := 84) hx hb dX3_bound_40 (by decide) (fun c40 => ?_) (fun c40 => ?_)
              · refine ob_inc (k := 7) (lv' := [(5, .int (nI (j + 1))), (7, .int (N9 b j)), (6, .int (N9 i a)), (0, .ref (ao 0)), (1, .int (nI a)), (2, .int (nI b)), (3, .int x), (4, .int (nI i))]) hx hb dX3_bound_84 hl rfl (by decide) rfl (fun ls hl => ?_)
                refine lv_goto (tgt := 12) hx hb dX3_bound_87 (by decide) ?_
                exact ih12 (j + 1) N9 (by omega) (by omega) (by first | (rfl; done) | (simp [ob_bI, ← h9, ob_bst, c40]; done) | (simp [ob_bI, ← h9, ob_bst, c40, c47]; done)) _ _ hP (ob_dO hD) hS _ (lv_sub hl [3, 4, 5, 6, 7, 0] rfl)
              · refine lv_iload hx hb dX3_bound_43 (lv_at hl 0 rfl) ?_
                refine lv_ldc (v := 1000000) hx hb hown (hts (Cond.constant RX3 16 (1000000)) (List.mem_of_getElem? (i := 1) rfl)) dX3_bound_45 ?_
                refine lv_icmp_ge (tgt := 84) hx hb dX3_bound_47 (by decide) (fun c47 => ?_) (fun c47 => ?_)
                · refine ob_inc (k := 7) (lv' := [(5, .int (nI (j + 1))), (7, .int (N9 b j)), (6, .int (N9 i a)), (0, .ref (ao 0)), (1, .int (nI a)), (2, .int (nI b)), (3, .int x), (4, .int (nI i))]) hx hb dX3_bound_84 hl rfl (by decide) rfl (fun ls hl => ?_)
                  refine lv_goto (tgt := 12) hx hb dX3_bound_87 (by decide) ?_
                  exact ih12 (j + 1) N9 (by omega) (by omega) (by first | (rfl; done) | (simp [ob_bI, ← h9, ob_bst, c40]; done) | (simp [ob_bI, ← h9, ob_bst, c40, c47]; done)) _ _ hP (ob_dO hD) hS _ (lv_sub hl [3, 4, 5, 6, 7, 0] rfl)
                · refine lv_iload hx hb dX3_bound_50 (lv_at hl 1 rfl) ?_
                  refine lv_iload_n hx hb dX3_bound_52 rfl (lv_at hl 5 rfl) ?_
                  refine lv_iadd hx hb dX3_bound_53 ?_
                  refine lv_iload hx hb dX3_bound_54 (lv_at hl 0 rfl) ?_
                  refine lv_iadd hx hb dX3_bound_56 ?_
                  refine lv_istore (lv' := [(8, .int (((N9 i a) + x) + (N9 b j))), (7, .int (N9 b j)), (6, .int (N9 i a)), (0, .ref (ao 0)), (1, .int (nI a)), (2, .int (nI b)), (3, .int x), (4, .int (nI i)), (5, .int (nI j))]) hx hb dX3_bound_57 hl (by decide) rfl (fun ls hl => ?_)
                  refine lv_aload_n hx hb dX3_bound_59 rfl (lv_at hl 3 rfl) ?_
                  refine va_get (ci := 3) (C := RX3) (T := TX3) (N := 1) hx hb hts (fun w h => List.mem_cons_of_mem _ (List.mem_append_right _ (h))) hown hK hP 0 rfl rfl 0 (by decide) (hts (Cond.fieldLink RX3 11 "OutageBook$Offsets" "differences" "[[I") (List.mem_of_getElem? (i := 2) rfl)) (fun _ h9 => h9) rfl dX3_bound_60 ?_
                  refine lv_iload hx hb dX3_bound_63 (lv_at hl 7 rfl) ?_
                  refine ob_aald (r := ao (2 + i)) hx hb hK hP 1 3 rfl rfl rfl (show i < 5 from (by omega)) (by decide) (if_pos (by omega)) dX3_bound_65 ?_
                  refine lv_iload hx hb dX3_bound_66 (lv_at hl 8 rfl) ?_
                  refine lv_aload_n hx hb dX3_bound_68 rfl (lv_at hl 3 rfl) ?_
                  refine va_get (ci := 3) (C := RX3) (T := TX3) (N := 1) hx hb hts (fun w h => List.mem_cons_of_mem _ (List.mem_append_right _ (h))) hown hK hP 0 rfl rfl 0 (by decide) (hts (Cond.fieldLink RX3 11 "OutageBook$Offsets" "differences" "[[I") (List.mem_of_getElem? (i := 2) rfl)) (fun _ h9 => h9) rfl dX3_bound_69 ?_
                  refine lv_iload hx hb dX3_bound_72 (lv_at hl 7 rfl) ?_
                  refine ob_aald (r := ao (2 + i)) hx hb hK hP 1 3 rfl rfl rfl (show i < 5 from (by omega)) (by decide) (if_pos (by omega)) dX3_bound_74 ?_
                  refine lv_iload hx hb dX3_bound_75 (lv_at hl 8 rfl) ?_
                  refine ob_iald hx hb hK hP (2 + i) 0 (ob_rO (by omega)) rfl (by omega) (by decide) dX3_bound_77 ?_
                  refine lv_iload hx hb dX3_bound_78 (lv_at hl 0 rfl) ?_
                  refine va_mmin hx hb (by rw [hml]; exact hl.1.symm) hown (hts (Cond.methodLink RX3 25 Lib.Math.min.name) (List.mem_of_getElem? (i := 3) rfl)) (hts (Cond.static Lib.Math.min.name) (List.mem_of_getElem? (i := 4) rfl)) (hts (Cond.initialized "java/lang/Math") (List.mem_of_getElem? (i := 5) rfl)) (hts (Cond.code Lib.Math.min.name Lib.Math.min.code 2 (some .int)) (List.mem_of_getElem? (i := 6) rfl)) (Nat.le_of_ble_eq_true rfl) (Nat.le_of_ble_eq_true rfl) (Nat.le_of_ble_eq_true rfl) (Nat.le_of_ble_eq_true rfl) dX3_bound_80 ?_
                  refine ob_iast hx hb hK hP hD hS (2 + i) 0 (ob_rO (by omega)) rfl (by omega) (by decide) dX3_bound_83 (fun H locs hP hD hS => ?_)
                  rw [ob_sO (by omega)] at hP hD
                  have hP : va_P D vwCl (ob_wO t ao (ob_up2 N9 i j (if (((N9 i a) + x) + (N9 b j)) < ((N9 i) j) then ((N9 i a) + x) + (N9 b j) else (N9 i) j))) H := hP
                  have hD : va_D (va_A (ob_wO t ao M) sz) (ob_wO t ao (ob_up2 N9 i j (if (((N9 i a) + x) + (N9 b j)) < ((N9 i) j) then ((N9 i a) + x) + (N9 b j) else (N9 i) j))) := hD
                  refine ob_inc (k := 8) (lv' := [(5, .int (nI (j + 1))), (8, .int (((N9 i a) + x) + (N9 b j))), (7, .int (N9 b j)), (6, .int (N9 i a)), (0, .ref (ao 0)), (1, .int (nI a)), (2, .int (nI b)), (3, .int x), (4, .int (nI i))]) hx hb dX3_bound_84 hl rfl (by decide) rfl (fun ls hl => ?_)
                  refine lv_goto (tgt := 12) hx hb dX3_bound_87 (by decide) ?_
                  exact ih12 (j + 1) (ob_up2 N9 i j (if (((N9 i a) + x) + (N9 b j)) < ((N9 i) j) then ((N9 i a) + x) + (N9 b j) else (N9 i) j)) (by omega) (by omega) (by first | (rfl; done) | (simp [ob_bI, ← h9, ob_bst, c40]; done) | (simp [ob_bI, ← h9, ob_bst, c40, c47]; done)) _ _ hP (ob_dO hD) hS _ (lv_sub hl [4, 5, 6, 7, 8, 0] rfl)
        exact k12 _ 0 N8 (Nat.lt_succ_self _) (by omega) (by first | (rfl; done) | (simp [ob_bI, ← h9, ob_bst, c40]; done) | (simp [ob_bI, ← h9, ob_bst, c40, c47]; done)) _ _ hP (ob_dO hD) hS _ (lv_sub hl [1, 2, 3, 4, 5, 0] rfl)
  exact k3 _ 0 M (Nat.lt_succ_self _) (by omega) (by first | (rfl; done) | (rw [h9, show j = 5 by omega, h8]; rfl; done)) _ _ hP (ob_dO hD) hS _ (lv_sub hl [1, 2, 3, 4, 0] rfl)

set_option maxRecDepth 100000 in
set_option maxHeartbeats 4000000 in
theorem c_X1_add (l : Launch) (D : va_G) (t : Nat → ClassId) (sz : Nat) (al : Nat → Nat) (n : Nat) (cl rd sv pb ba bf od : Nat → Int32) (bg : Nat → Int64) (p1 q v : Int32) (b : Bool) (hn : n < 30) : Met l yX1_add wsX1_add ({ frames := 0, cells := 0, slots := 0, locals := 0 } : Room) (ob_Pm D t (ob_wL t al n cl rd sv pb ba bf od bg) sz [.ref (al 0), .int p1, .int q, .int v, .int (ob_bi b)]) (va_Qi (fun (r : Int32) (_ : Unit) => r = nI n) (fun (_ : Unit) (t9 : State) => va_P D vwCl (ob_wL t al (n + 1) (upd cl n p1) (upd rd n q) (upd sv n v) (upd pb n (ob_bi b)) ba bf od bg) t9.heap) (va_A (ob_wL t al n cl rd sv pb ba bf od bg) sz)) 0 0 (va_A (ob_wL t al n cl rd sv pb ba bf od bg) sz) := by
  refine Met.ofW (cc := cX1_add) (maxL := 6) (ret := (some .int)) (by decide) rfl ?_
  intro p e s m args below meth c s₁ B hml hv
  obtain ⟨rfl, hsz, hP, hk, hD0⟩ := hv
  have hx := B.exec
  have hb := B.bytes
  have hr := B.returns
  have hts := atoms_spec (ws := wsX1_add) B.pre
  have hown : s.vm.findClass RX1 = some m.cls := findClass_of_methodNamed B.named
  have hlocks := B.notSynchronized
  have hK := hk.1
  have hD : va_D (va_A (ob_wL t al n cl rd sv pb ba bf od bg) sz) (ob_wL t al n cl rd sv pb ba bf od bg) := hD0.self (sz := sz)
  have hA : ∀ q : Nat, s.heap.size ≤ q → (va_A (ob_wL t al n cl rd sv pb ba bf od bg) sz) q := fun q h => Or.inr (hsz ▸ h)
  have hS : va_S (va_A (ob_wL t al n cl rd sv pb ba bf od bg) sz) s.heap s.heap [] := va_S.rf
  have hl := lv_entry [.ref (al 0), .int p1, .int q, .int v, .int (ob_bi b)] (n := 6) (Nat.le_of_ble_eq_true rfl)
  rw [lg_entry_eq]
  generalize (lg_sl [.ref (al 0), .int p1, .int q, .int v, .int (ob_bi b)] ++ List.replicate (6 - (lg_sl [.ref (al 0), .int p1, .int q, .int v, .int (ob_bi b)]).length) Slot.unset).toArray = ls at hl ⊢
  have hl : lv_has ls 6 [(0, .ref (al 0)), (1, .int p1), (2, .int q), (3, .int v), (4, .int (ob_bi b))] := hl
  have hP : va_P D vwCl (ob_wL t al n cl rd sv pb ba bf od bg) s.heap := hP
  refine lv_aload_n hx hb dX1_add_0 rfl (lv_at hl 0 rfl) ?_
  refine va_get (ci := 1) (C := RX1) (T := TX1) (N := 9) hx hb hts (fun w h => List.mem_cons_of_mem _ (List.mem_append_right _ (h))) hown hK hP 0 rfl rfl 8 (by decide) (hts (Cond.fieldLink RX1 38 "OutageBook$Log" "count" "I") (List.mem_of_getElem? (i := 1) rfl)) (fun _ h9 => h9) rfl dX1_add_1 ?_
  refine lv_istore (lv' := [(5, .int (nI n)), (0, .ref (al 0)), (1, .int p1), (2, .int q), (3, .int v), (4, .int (ob_bi b))]) hx hb dX1_add_4 hl (by decide) rfl (fun ls hl => ?_)
  refine lv_iload hx hb dX1_add_6 (lv_at hl 0 rfl) ?_
  refine lv_bipush (v := nI 30) hx hb dX1_add_8 (by decide) ?_
  refine ob_icmp_lt (tgt := 15) hx hb (by omega) (by omega) dX1_add_10 (by decide) (fun c10 => ?_) (fun c10 => ?_)
  · refine lv_aload_n hx hb dX1_add_15 rfl (lv_at hl 1 rfl) ?_
    refine va_get (ci := 1) (C := RX1) (T := TX1) (N := 9) hx hb hts (fun w h => List.mem_cons_of_mem _ (List.mem_append_right _ (h))) hown hK hP 0 rfl rfl 0 (by decide) (hts (Cond.fieldLink RX1 9 "OutageBook$Log" "clocks" "[I") (List.mem_of_getElem? (i := 2) rfl)) (fun _ h9 => h9) rfl dX1_add_16 ?_
    refine lv_iload hx hb dX1_add_19 (lv_at hl 0 rfl) ?_
    refine lv_iload_n hx hb dX1_add_21 rfl (lv_at hl 2 rfl) ?_
    refine ob_iast hx hb hK hP hD hS 1 0 rfl rfl (by omega) (by decide) dX1_add_22 (fun H locs hP hD hS => ?_)
    have hP : va_P D vwCl (ob_wL t al n (upd cl n p1) rd sv pb ba bf od bg) H := hP
    have hD : va_D (va_A (ob_wL t al n cl rd sv pb ba bf od bg) sz) (ob_wL t al n (upd cl n p1) rd sv pb ba bf od bg) := hD
    refine lv_aload_n hx hb dX1_add_23 rfl (lv_at hl 1 rfl) ?_
    refine va_get (ci := 1) (C := RX1) (T := TX1) (N := 9) hx hb hts (fun w h => List.mem_cons_of_mem _ (List.mem_append_right _ (h))) hown hK hP 0 rfl rfl 1 (by decide) (hts (Cond.fieldLink RX1 15 "OutageBook$Log" "readings" "[I") (List.mem_of_getElem? (i := 3) rfl)) (fun _ h9 => h9) rfl dX1_add_24 ?_
    refine lv_iload hx hb dX1_add_27 (lv_at hl 0 rfl) ?_
    refine lv_iload_n hx hb dX1_add_29 rfl (lv_at hl 3 rfl) ?_
    refine ob_iast hx hb hK hP hD hS 2 0 rfl rfl (by omega) (by decide) dX1_add_30 (fun H locs hP hD hS => ?_)
    have hP : va_P D vwCl (ob_wL t al n (upd cl n p1) (upd rd n q) sv pb ba bf od bg) H := hP
    have hD : va_D (va_A (ob_wL t al n cl rd sv pb ba bf od bg) sz) (ob_wL t al n (upd cl n p1) (upd rd n q) sv pb ba bf od bg) := hD
    refine lv_aload_n hx hb dX1_add_31 rfl (lv_at hl 1 rfl) ?_
    refine va_get (ci := 1) (C := RX1) (T := TX1) (N := 9) hx hb hts (fun w h => List.mem_cons_of_mem _ (List.mem_append_right _ (h))) hown hK hP 0 rfl rfl 2 (by decide) (hts (Cond.fieldLink RX1 18 "OutageBook$Log" "services" "[I") (List.mem_of_getElem? (i := 4) rfl)) (fun _ h9 => h9) rfl dX1_add_32 ?_
    refine lv_iload hx hb dX1_add_35 (lv_at hl 0 rfl) ?_
    refine lv_iload_n hx hb dX1_add_37 rfl (lv_at hl 4 rfl) ?_
    refine ob_iast hx hb hK hP hD hS 3 0 rfl rfl (by omega) (by decide) dX1_add_38 (fun H locs hP hD hS => ?_)
    have hP : va_P D vwCl (ob_wL t al n (upd cl n p1) (upd rd n q) (upd sv n v) pb ba bf od bg) H := hP
    have hD : va_D (va_A (ob_wL t al n cl rd sv pb ba bf od bg) sz) (ob_wL t al n (upd cl n p1) (upd rd n q) (upd sv n v) pb ba bf od bg) := hD
    refine lv_aload_n hx hb dX1_add_39 rfl (lv_at hl 1 rfl) ?_
    refine va_get (ci := 1) (C := RX1) (T := TX1) (N := 9) hx hb hts (fun w h => List.mem_cons_of_mem _ (List.mem_append_right _ (h))) hown hK hP 0 rfl rfl 3 (by decide) (hts (Cond.fieldLink RX1 21 "OutageBook$Log" "arePublic" "[Z") (List.mem_of_getElem? (i := 5) rfl)) (fun _ h9 => h9) rfl dX1_add_40 ?_
    refine lv_iload hx hb dX1_add_43 (lv_at hl 0 rfl) ?_
    refine lv_iload hx hb dX1_add_45 (lv_at hl 5 rfl) ?_
    refine ob_zast hx hb hK hP hD hS 4 2 rfl rfl (by omega) (by decide) dX1_add_47 (fun H locs hP hD hS => ?_)
    have hP : va_P D vwCl (ob_wL t al n (upd cl n p1) (upd rd n q) (upd sv n v) (upd pb n (ob_bi b)) ba bf od bg) H := hP
    have hD : va_D (va_A (ob_wL t al n cl rd sv pb ba bf od bg) sz) (ob_wL t al n (upd cl n p1) (upd rd n q) (upd sv n v) (upd pb n (ob_bi b)) ba bf od bg) := hD
    refine lv_aload_n hx hb dX1_add_48 rfl (lv_at hl 1 rfl) ?_
    refine lv_iload hx hb dX1_add_49 (lv_at hl 0 rfl) ?_
    refine lv_iconst (v := nI 1) hx hb dX1_add_51 (by decide) ?_
    refine lv_iadd hx hb dX1_add_52 ?_
    rw [show (nI n) + (nI 1) = nI (n + 1) from nI_1 n]
    refine va_put (ci := 1) (v := .int (nI (n + 1))) (ty := .int) (C := RX1) (T := TX1) (N := 9) hx hb hts (fun w h => List.mem_cons_of_mem _ (List.mem_append_right _ (h))) tyX1 tyX1_ok nmX1 hown hK hP hD hS 0 rfl rfl 8 (by decide) (hts (Cond.fieldLink RX1 38 "OutageBook$Log" "count" "I") (List.mem_of_getElem? (i := 1) rfl)) (fun _ h9 => h9) rfl (by decide +kernel) rfl rfl (Nat.le_of_ble_eq_true rfl) dX1_add_53 (fun H locs hP hD hS => ?_)
    have hP : va_P D vwCl (ob_wL t al (n + 1) (upd cl n p1) (upd rd n q) (upd sv n v) (upd pb n (ob_bi b)) ba bf od bg) H := hP
    have hD : va_D (va_A (ob_wL t al n cl rd sv pb ba bf od bg) sz) (ob_wL t al (n + 1) (upd cl n p1) (upd rd n q) (upd sv n v) (upd pb n (ob_bi b)) ba bf od bg) := hD
    refine lv_iload hx hb dX1_add_56 (lv_at hl 0 rfl) ?_
    exact W.iret (v := nI n) hx hb hr (fun t9 ht hW => ⟨⟨nI n, (), rfl, rfl, ob_th ht hP⟩, hS.F ht⟩) hS.2.2 dX1_add_58
  · exact absurd c10 (by omega)

set_option maxRecDepth 100000 in
set_option maxHeartbeats 4000000 in
theorem c_X1_weigh (l : Launch) (D : va_G) (t : Nat → ClassId) (sz : Nat) (al : Nat → Nat) (n : Nat) (cl rd sv pb ba bf od : Nat → Int32) (bg : Nat → Int64) (j : Nat) (p1 : Int32) (hn : n ≤ 30) (hj : j < n) : Met l yX1_weigh wsX1_weigh ({ frames := 1, cells := 0, slots := 0, locals := 21 } : Room) (ob_Pm D t (ob_wL t al n cl rd sv pb ba bf od bg) sz [.ref (al 0), .int (nI j), .int p1]) (va_Qi (fun (r : Int32) (_ : Unit) => r = ba j + p1) (fun (_ : Unit) (t9 : State) => va_P D vwCl (ob_wL t al n cl rd sv pb (upd ba j (ba j + p1)) bf od bg) t9.heap) (va_A (ob_wL t al n cl rd sv pb ba bf od bg) sz)) 0 0 (va_A (ob_wL t al n cl rd sv pb ba bf od bg) sz) := by
  refine Met.ofW (cc := cX1_weigh) (maxL := 3) (ret := (some .int)) (by decide) rfl ?_
  intro p e s m args below meth c s₁ B hml hv
  obtain ⟨rfl, hsz, hP, hk, hD0⟩ := hv
  have hx := B.exec
  have hb := B.bytes
  have hr := B.returns
  have hts := atoms_spec (ws := wsX1_weigh) B.pre
  have hown : s.vm.findClass RX1 = some m.cls := findClass_of_methodNamed B.named
  have hlocks := B.notSynchronized
  have hK := hk.1
  have hD : va_D (va_A (ob_wL t al n cl rd sv pb ba bf od bg) sz) (ob_wL t al n cl rd sv pb ba bf od bg) := hD0.self (sz := sz)
  have hA : ∀ q : Nat, s.heap.size ≤ q → (va_A (ob_wL t al n cl rd sv pb ba bf od bg) sz) q := fun q h => Or.inr (hsz ▸ h)
  have hS : va_S (va_A (ob_wL t al n cl rd sv pb ba bf od bg) sz) s.heap s.heap [] := va_S.rf
  have hl := lv_entry [.ref (al 0), .int (nI j), .int p1] (n := 3) (Nat.le_of_ble_eq_true rfl)
  rw [lg_entry_eq]
  generalize (lg_sl [.ref (al 0), .int (nI j), .int p1] ++ List.replicate (3 - (lg_sl [.ref (al 0), .int (nI j), .int p1]).length) Slot.unset).toArray = ls at hl ⊢
  have hl : lv_has ls 3 [(0, .ref (al 0)), (1, .int (nI j)), (2, .int p1)] := hl
  have hP : va_P D vwCl (ob_wL t al n cl rd sv pb ba bf od bg) s.heap := hP
  refine lv_aload_n hx hb dX1_weigh_0 rfl (lv_at hl 0 rfl) ?_
  refine lv_iload_n hx hb dX1_weigh_1 rfl (lv_at hl 1 rfl) ?_
  refine vp_callSi (va_Run.run (va_runV (As := [.int (nI j)]) (rest := []) ⟨hx, hb, hml, hown, hts⟩ (c_X1_holds l D t al n cl rd sv pb ba bf od bg (nI j) (by first | assumption | omega)) (cwV 1 hts gX1_weigh_X1_holds rfl rfl rfl (by decide +kernel) ⟨Nat.le_of_ble_eq_true rfl, Nat.le_of_ble_eq_true rfl⟩) (ob_preV (ci := 1) (q0 := 0) hP hk rfl rfl) rfl rfl hl.1 rfl (lv_room (Nat.le_of_ble_eq_true rfl)) dX1_weigh_2 ⟨Nat.le_of_ble_eq_true rfl, Nat.le_of_ble_eq_true rfl⟩)) (fun r9 hr9 => ?_)
  subst hr9
  refine ob_if_ne (tgt := 10) hx hb dX1_weigh_5 (by decide) (fun c5 => ?_) (fun c5 => ?_)
  · refine lv_aload_n hx hb dX1_weigh_10 rfl (lv_at hl 0 rfl) ?_
    refine va_get (ci := 1) (C := RX1) (T := TX1) (N := 9) hx hb hts (fun w h => List.mem_cons_of_mem _ (List.mem_append_right _ (h))) hown hK hP 0 rfl rfl 4 (by decide) (hts (Cond.fieldLink RX1 25 "OutageBook$Log" "balances" "[I") (List.mem_of_getElem? (i := 1) rfl)) (fun _ h9 => h9) rfl dX1_weigh_11 ?_
    refine lv_iload_n hx hb dX1_weigh_14 rfl (lv_at hl 1 rfl) ?_
    refine lv_dup2_11 hx hb dX1_weigh_15 rfl rfl ?_
    refine ob_iald hx hb hK hP 5 0 rfl rfl (by omega) (by decide) dX1_weigh_16 ?_
    refine lv_iload_n hx hb dX1_weigh_17 rfl (lv_at hl 2 rfl) ?_
    refine lv_iadd hx hb dX1_weigh_18 ?_
    refine ob_iast hx hb hK hP hD hS 5 0 rfl rfl (by omega) (by decide) dX1_weigh_19 (fun H locs hP hD hS => ?_)
    have hP : va_P D vwCl (ob_wL t al n cl rd sv pb (upd ba j ((ba j) + p1)) bf od bg) H := hP
    have hD : va_D (va_A (ob_wL t al n cl rd sv pb ba bf od bg) sz) (ob_wL t al n cl rd sv pb (upd ba j ((ba j) + p1)) bf od bg) := hD
    refine lv_aload_n hx hb dX1_weigh_20 rfl (lv_at hl 0 rfl) ?_
    refine va_get (ci := 1) (C := RX1) (T := TX1) (N := 9) hx hb hts (fun w h => List.mem_cons_of_mem _ (List.mem_append_right _ (h))) hown hK hP 0 rfl rfl 4 (by decide) (hts (Cond.fieldLink RX1 25 "OutageBook$Log" "balances" "[I") (List.mem_of_getElem? (i := 1) rfl)) (fun _ h9 => h9) rfl dX1_weigh_21 ?_
    refine lv_iload_n hx hb dX1_weigh_24 rfl (lv_at hl 1 rfl) ?_
    refine ob_iald hx hb hK hP 5 0 rfl rfl (by omega) (by decide) dX1_weigh_25 ?_
    rw [show (upd ba j ((ba j) + p1)) j = ba j + p1 from ob_us]
    exact W.iret (v := ba j + p1) hx hb hr (fun t9 ht hW => ⟨⟨ba j + p1, (), rfl, rfl, ob_th ht hP⟩, hS.F ht⟩) hS.2.2 dX1_weigh_26
  · rw [ob_hd_nI hj] at c5; cases c5

set_option maxRecDepth 100000 in
set_option maxHeartbeats 4000000 in
theorem c_X1_arrange (l : Launch) (D : va_G) (t : Nat → ClassId) (sz : Nat) (al : Nat → Nat) (n : Nat) (cl rd sv pb ba bf od : Nat → Int32) (bg : Nat → Int64) (ao : Nat → Nat) (M : Nat → Nat → Int32) (hn : n ≤ 30) : Met l yX1_arrange wsX1_arrange ({ frames := 5, cells := 0, slots := 0, locals := 112 } : Room) (ob_Pm D t (ob_wL t al n cl rd sv pb ba bf od bg ++ ob_wO t ao M) sz [.ref (al 0), .ref (ao 0)]) (va_Qv (fun _ : Unit => True) (fun (_ : Unit) (t9 : State) => va_P D vwCl (ob_wL t al n cl rd sv pb ba (ob_bf2 M cl rd n bf n) (ob_od2 (ob_bf2 M cl rd n bf n) n od n) bg ++ ob_wO t ao M) t9.heap) (va_A (ob_wL t al n cl rd sv pb ba bf od bg ++ ob_wO t ao M) sz)) 0 0 (va_A (ob_wL t al n cl rd sv pb ba bf od bg ++ ob_wO t ao M) sz) := by
  refine Met.ofW (cc := cX1_arrange) (maxL := 4) (ret := none) (by decide) rfl ?_
  intro p e s m args below meth c s₁ B hml hv
  obtain ⟨rfl, hsz, hP, hk, hD0⟩ := hv
  have hx := B.exec
  have hb := B.bytes
  have hr := B.returns
  have hts := atoms_spec (ws := wsX1_arrange) B.pre
  have hown : s.vm.findClass RX1 = some m.cls := findClass_of_methodNamed B.named
  have hlocks := B.notSynchronized
  have hK := hk.1
  have hD : va_D (va_A (ob_wL t al n cl rd sv pb ba bf od bg ++ ob_wO t ao M) sz) (ob_wL t al n cl rd sv pb ba bf od bg ++ ob_wO t ao M) := hD0.self (sz := sz)
  have hA : ∀ q : Nat, s.heap.size ≤ q → (va_A (ob_wL t al n cl rd sv pb ba bf od bg ++ ob_wO t ao M) sz) q := fun q h => Or.inr (hsz ▸ h)
  have hS : va_S (va_A (ob_wL t al n cl rd sv pb ba bf od bg ++ ob_wO t ao M) sz) s.heap s.heap [] := va_S.rf
  have hl := lv_entry [.ref (al 0), .ref (ao 0)] (n := 4) (Nat.le_of_ble_eq_true rfl)
  rw [lg_entry_eq]
  generalize (lg_sl [.ref (al 0), .ref (ao 0)] ++ List.replicate (4 - (lg_sl [.ref (al 0), .ref (ao 0)]).length) Slot.unset).toArray = ls at hl ⊢
  have hl : lv_has ls 4 [(0, .ref (al 0)), (1, .ref (ao 0))] := hl
  have hP : va_P D vwCl (ob_wL t al n cl rd sv pb ba bf od bg ++ ob_wO t ao M) s.heap := hP
  refine lv_iconst (v := nI 0) hx hb dX1_arrange_0 (by decide) ?_
  refine lv_istore_n (lv' := [(2, .int (nI 0)), (0, .ref (al 0)), (1, .ref (ao 0))]) hx hb dX1_arrange_1 rfl hl (by decide) rfl (fun ls hl => ?_)
  have k2 : ∀ fu : Nat, ∀ (k : Nat), n - k < fu → (k ≤ n) → ∀ (H : Heap) (locs : List Loc), va_P D vwCl (ob_wL t al n cl rd sv pb ba (ob_bf2 M cl rd n bf k) od bg ++ ob_wO t ao M) H → va_D (va_A (ob_wL t al n cl rd sv pb ba bf od bg ++ ob_wO t ao M) sz) (ob_wL t al n cl rd sv pb ba (ob_bf2 M cl rd n bf k) od bg ++ ob_wO t ao M) → va_S (va_A (ob_wL t al n cl rd sv pb ba bf od bg ++ ob_wO t ao M) sz) s.heap H locs → ∀ ls : Array Slot, lv_has ls 4 [(0, .ref (al 0)), (1, .ref (ao 0)), (2, .int (nI k))] → W p l e (headSpec wsX1_arrange ({ frames := 5, cells := 0, slots := 0, locals := 112 } : Room)).room s m ([.ref (al 0), .ref (ao 0)] : List Value).toArray below meth c H locs 0 0 (MQ below (va_Qv (fun _ : Unit => True) (fun (_ : Unit) (t9 : State) => va_P D vwCl (ob_wL t al n cl rd sv pb ba (ob_bf2 M cl rd n bf n) (ob_od2 (ob_bf2 M cl rd n bf n) n od n) bg ++ ob_wO t ao M) t9.heap) (va_A (ob_wL t al n cl rd sv pb ba bf od bg ++ ob_wO t ao M) sz)) ([.ref (al 0), .ref (ao 0)] : List Value).toArray s 0 0 (va_A (ob_wL t al n cl rd sv pb ba bf od bg ++ ob_wO t ao M) sz)) (F0 m 2 ls []) := by
    intro fu
    induction fu with
    | zero => intro k hfu; exact absurd hfu (Nat.not_lt_zero _)
    | succ fu ih =>
      intro k hfu hq H locs hP hD hS ls hl
      have ih2 := ih
      refine lv_iload_n hx hb dX1_arrange_2 rfl (lv_at hl 2 rfl) ?_
      refine lv_aload_n hx hb dX1_arrange_3 rfl (lv_at hl 0 rfl) ?_
      refine va_get (ci := 1) (C := RX1) (T := TX1) (N := 9) hx hb hts (fun w h => List.mem_cons_of_mem _ (List.mem_append_left _ (List.mem_append_right _ (h)))) hown hK hP 0 rfl rfl 8 (by decide) (hts (Cond.fieldLink RX1 38 "OutageBook$Log" "count" "I") (List.mem_of_getElem? (i := 1) rfl)) (fun _ h9 => h9) rfl dX1_arrange_4 ?_
      refine ob_icmp_ge (tgt := 34) hx hb (by omega) (by omega) dX1_arrange_7 (by decide) (fun c7 => ?_) (fun c7 => ?_)
      · obtain rfl : n = k := Nat.le_antisymm c7 hq
        refine lv_aload_n hx hb dX1_arrange_34 rfl (lv_at hl 0 rfl) ?_
        refine va_get (ci := 1) (C := RX1) (T := TX1) (N := 9) hx hb hts (fun w h => List.mem_cons_of_mem _ (List.mem_append_left _ (List.mem_append_right _ (h)))) hown hK hP 0 rfl rfl 8 (by decide) (hts (Cond.fieldLink RX1 38 "OutageBook$Log" "count" "I") (List.mem_of_getElem? (i := 1) rfl)) (fun _ h9 => h9) rfl dX1_arrange_35 ?_
        refine vp_callSi (va_Run.run (va_runSN (As := [.int (nI n)]) (rest := []) ⟨hx, hb, hml, hown, hts⟩ (c_X4_bit l D t (nI n)) ⟨va_cnB 1 hts gX1_arrange_X4_bit_n69 rfl rfl rfl hk.2.2.2.2.1 (hts (Cond.initialized RX4) (List.mem_of_getElem? (i := 28) rfl)) (by decide +kernel) ⟨Nat.le_of_ble_eq_true rfl, Nat.le_of_ble_eq_true rfl⟩, (hts (Cond.static yX4_bit) (List.mem_of_getElem? (i := 33) rfl)), trivial⟩ (ob_preS (hP.sub [] rfl) hk) rfl rfl hl.1 rfl (lv_room (Nat.le_of_ble_eq_true rfl)) dX1_arrange_38 ⟨Nat.le_of_ble_eq_true rfl, Nat.le_of_ble_eq_true rfl⟩)) (fun r9 hr9 => ?_)
        subst hr9
        refine lv_iconst (v := nI 1) hx hb dX1_arrange_41 (by decide) ?_
        refine lv_isub hx hb dX1_arrange_42 ?_
        refine lv_istore_n (lv' := [(2, .int ((ob_bit (nI n)) - (nI 1))), (0, .ref (al 0)), (1, .ref (ao 0))]) hx hb dX1_arrange_43 rfl hl (by decide) rfl (fun ls hl => ?_)
        refine lv_iconst (v := nI 0) hx hb dX1_arrange_44 (by decide) ?_
        refine lv_istore_n (lv' := [(3, .int (nI 0)), (2, .int ((ob_bit (nI n)) - (nI 1))), (0, .ref (al 0)), (1, .ref (ao 0))]) hx hb dX1_arrange_45 rfl hl (by decide) rfl (fun ls hl => ?_)
        have k46 : ∀ fu : Nat, ∀ (i : Nat) (w : Int32), n - i < fu → (i ≤ n) → (w = ob_lf (ob_bf2 M cl rd n bf n) n i) → ∀ (H : Heap) (locs : List Loc), va_P D vwCl (ob_wL t al n cl rd sv pb ba (ob_bf2 M cl rd n bf n) (ob_od2 (ob_bf2 M cl rd n bf n) n od i) bg ++ ob_wO t ao M) H → va_D (va_A (ob_wL t al n cl rd sv pb ba bf od bg ++ ob_wO t ao M) sz) (ob_wL t al n cl rd sv pb ba (ob_bf2 M cl rd n bf n) (ob_od2 (ob_bf2 M cl rd n bf n) n od i) bg ++ ob_wO t ao M) → va_S (va_A (ob_wL t al n cl rd sv pb ba bf od bg ++ ob_wO t ao M) sz) s.heap H locs → ∀ ls : Array Slot, lv_has ls 4 [(0, .ref (al 0)), (1, .ref (ao 0)), (2, .int w), (3, .int (nI i))] → W p l e (headSpec wsX1_arrange ({ frames := 5, cells := 0, slots := 0, locals := 112 } : Room)).room s m ([.ref (al 0), .ref (ao 0)] : List Value).toArray below meth c H locs 0 0 (MQ below (va_Qv (fun _ : Unit => True) (fun (_ : Unit) (t9 : State) => va_P D vwCl (ob_wL t al n cl rd sv pb ba (ob_bf2 M cl rd n bf n) (ob_od2 (ob_bf2 M cl rd n bf n) n od n) bg ++ ob_wO t ao M) t9.heap) (va_A (ob_wL t al n cl rd sv pb ba bf od bg ++ ob_wO t ao M) sz)) ([.ref (al 0), .ref (ao 0)] : List Value).toArray s 0 0 (va_A (ob_wL t al n cl rd sv pb ba bf od bg ++ ob_wO t ao M) sz)) (F0 m 46 ls []) := by
          intro fu
          induction fu with
          | zero => intro i w hfu; exact absurd hfu (Nat.not_lt_zero _)
          | succ fu ih =>
            intro i w hfu hi hw H locs hP hD hS ls hl
            have ih46 := ih
            refine lv_iload_n hx hb dX1_arrange_46 rfl (lv_at hl 3 rfl) ?_
            refine lv_aload_n hx hb dX1_arrange_47 rfl (lv_at hl 0 rfl) ?_
            refine va_get (ci := 1) (C := RX1) (T := TX1) (N := 9) hx hb hts (fun w h => List.mem_cons_of_mem _ (List.mem_append_left _ (List.mem_append_right _ (h)))) hown hK hP 0 rfl rfl 8 (by decide) (hts (Cond.fieldLink RX1 38 "OutageBook$Log" "count" "I") (List.mem_of_getElem? (i := 1) rfl)) (fun _ h9 => h9) rfl dX1_arrange_48 ?_
            refine ob_icmp_ge (tgt := 91) hx hb (by omega) (by omega) dX1_arrange_51 (by decide) (fun c51 => ?_) (fun c51 => ?_)
            · obtain rfl : n = i := Nat.le_antisymm c51 hi
              exact W.vret hx hb hr (fun t9 ht hW => ⟨⟨(), rfl, trivial, ob_th ht hP⟩, hS.F ht⟩) hS.2.2 dX1_arrange_91
            · refine lv_iload_n hx hb dX1_arrange_54 rfl (lv_at hl 3 rfl) ?_
              refine lv_bipush (v := nI 30) hx hb dX1_arrange_55 (by decide) ?_
              refine ob_icmp_ge (tgt := 91) hx hb (by omega) (by omega) dX1_arrange_57 (by decide) (fun c57 => ?_) (fun c57 => ?_)
              · exact absurd c57 (by omega)
              · refine lv_aload_n hx hb dX1_arrange_60 rfl (lv_at hl 0 rfl) ?_
                refine va_get (ci := 1) (C := RX1) (T := TX1) (N := 9) hx hb hts (fun w h => List.mem_cons_of_mem _ (List.mem_append_left _ (List.mem_append_right _ (h)))) hown hK hP 0 rfl rfl 6 (by decide) (hts (Cond.fieldLink RX1 31 "OutageBook$Log" "order" "[I") (List.mem_of_getElem? (i := 3) rfl)) (fun _ h9 => h9) rfl dX1_arrange_61 ?_
                refine lv_iload_n hx hb dX1_arrange_64 rfl (lv_at hl 3 rfl) ?_
                refine lv_aload_n hx hb dX1_arrange_65 rfl (lv_at hl 0 rfl) ?_
                refine lv_iload_n hx hb dX1_arrange_66 rfl (lv_at hl 2 rfl) ?_
                refine vp_callSi (va_Run.run (va_runV (As := [.int w]) (rest := [.int (nI i), .ref (al 7)]) ⟨hx, hb, hml, hown, hts⟩ (c_X1_nextLine l D t al n cl rd sv pb ba (ob_bf2 M cl rd n bf n) (ob_od2 (ob_bf2 M cl rd n bf n) n od i) bg w (by first | assumption | omega)) (cwV 1 hts gX1_arrange_X1_nextLine rfl rfl rfl (by decide +kernel) ⟨Nat.le_of_ble_eq_true rfl, Nat.le_of_ble_eq_true rfl⟩) (ob_preV (ci := 1) (q0 := 0) (hP.sub [0, 1, 2, 3, 4, 5, 6, 7, 8] rfl) hk rfl rfl) rfl rfl hl.1 rfl (lv_room (Nat.le_of_ble_eq_true rfl)) dX1_arrange_67 ⟨Nat.le_of_ble_eq_true rfl, Nat.le_of_ble_eq_true rfl⟩)) (fun r67 e67 => ?_)
                have e9 := ob_nl_of e67
                subst e9
                refine ob_iast hx hb hK hP hD hS 7 0 rfl rfl (by omega) (by decide) dX1_arrange_70 (fun H locs hP hD hS => ?_)
                have hP : va_P D vwCl (ob_wL t al n cl rd sv pb ba (ob_bf2 M cl rd n bf n) (upd (ob_od2 (ob_bf2 M cl rd n bf n) n od i) i (ob_nl (ob_bf2 M cl rd n bf n) n w)) bg ++ ob_wO t ao M) H := hP
                have hD : va_D (va_A (ob_wL t al n cl rd sv pb ba bf od bg ++ ob_wO t ao M) sz) (ob_wL t al n cl rd sv pb ba (ob_bf2 M cl rd n bf n) (upd (ob_od2 (ob_bf2 M cl rd n bf n) n od i) i (ob_nl (ob_bf2 M cl rd n bf n) n w)) bg ++ ob_wO t ao M) := hD
                refine lv_iload_n hx hb dX1_arrange_71 rfl (lv_at hl 2 rfl) ?_
                refine lv_aload_n hx hb dX1_arrange_72 rfl (lv_at hl 0 rfl) ?_
                refine va_get (ci := 1) (C := RX1) (T := TX1) (N := 9) hx hb hts (fun w h => List.mem_cons_of_mem _ (List.mem_append_left _ (List.mem_append_right _ (h)))) hown hK hP 0 rfl rfl 6 (by decide) (hts (Cond.fieldLink RX1 31 "OutageBook$Log" "order" "[I") (List.mem_of_getElem? (i := 3) rfl)) (fun _ h9 => h9) rfl dX1_arrange_73 ?_
                refine lv_iload_n hx hb dX1_arrange_76 rfl (lv_at hl 3 rfl) ?_
                refine ob_iald hx hb hK hP 7 0 rfl rfl (by omega) (by decide) dX1_arrange_77 ?_
                rw [show (upd (ob_od2 (ob_bf2 M cl rd n bf n) n od i) i (ob_nl (ob_bf2 M cl rd n bf n) n w)) i = ob_nl (ob_bf2 M cl rd n bf n) n w from ob_us]
                refine vp_callSi (va_Run.run (va_runSN (As := [.int (ob_nl (ob_bf2 M cl rd n bf n) n w)]) (rest := [.int w]) ⟨hx, hb, hml, hown, hts⟩ (c_X4_bit l D t (ob_nl (ob_bf2 M cl rd n bf n) n w)) ⟨va_cnB 1 hts gX1_arrange_X4_bit_n69 rfl rfl rfl hk.2.2.2.2.1 (hts (Cond.initialized RX4) (List.mem_of_getElem? (i := 28) rfl)) (by decide +kernel) ⟨Nat.le_of_ble_eq_true rfl, Nat.le_of_ble_eq_true rfl⟩, (hts (Cond.static yX4_bit) (List.mem_of_getElem? (i := 33) rfl)), trivial⟩ (ob_preS (hP.sub [] rfl) hk) rfl rfl hl.1 rfl (lv_room (Nat.le_of_ble_eq_true rfl)) dX1_arrange_78 ⟨Nat.le_of_ble_eq_true rfl, Nat.le_of_ble_eq_true rfl⟩)) (fun r9 hr9 => ?_)
                subst hr9
                refine lv_iconst (v := (-1)) hx hb dX1_arrange_81 (by decide) ?_
                refine lv_ixor hx hb dX1_arrange_82 ?_
                refine lv_iand hx hb dX1_arrange_83 ?_
                refine lv_istore_n (lv' := [(2, .int (w &&& ((ob_bit (ob_nl (ob_bf2 M cl rd n bf n) n w)) ^^^ (-1)))), (0, .ref (al 0)), (1, .ref (ao 0)), (3, .int (nI i))]) hx hb dX1_arrange_84 rfl hl (by decide) rfl (fun ls hl => ?_)
                refine ob_inc (k := 3) (lv' := [(3, .int (nI (i + 1))), (2, .int (w &&& ((ob_bit (ob_nl (ob_bf2 M cl rd n bf n) n w)) ^^^ (-1)))), (0, .ref (al 0)), (1, .ref (ao 0))]) hx hb dX1_arrange_85 hl rfl (by decide) rfl (fun ls hl => ?_)
                refine lv_goto (tgt := 46) hx hb dX1_arrange_88 (by decide) ?_
                exact ih46 (i + 1) (w &&& ((ob_bit (ob_nl (ob_bf2 M cl rd n bf n) n w)) ^^^ (-1))) (by omega) (by omega) (by first | (rfl; done) | (rw [hw]; rfl; done)) _ _ (by rw [← ob_od2_s, ← hw]; exact hP) (ob_dLO hD) hS _ (lv_sub hl [2, 3, 1, 0] rfl)
        exact k46 _ 0 ((ob_bit (nI n)) - (nI 1)) (Nat.lt_succ_self _) (by omega) (by first | (rfl; done) | (rw [hw]; rfl; done)) _ _ (by rw [show ob_od2 (ob_bf2 M cl rd n bf n) n od 0 = od from ob_fl_0 _ _]; exact hP) (ob_dLO hD) hS _ (lv_sub hl [2, 3, 1, 0] rfl)
      · refine lv_iload_n hx hb dX1_arrange_10 rfl (lv_at hl 2 rfl) ?_
        refine lv_bipush (v := nI 30) hx hb dX1_arrange_11 (by decide) ?_
        refine ob_icmp_ge (tgt := 34) hx hb (by omega) (by omega) dX1_arrange_13 (by decide) (fun c13 => ?_) (fun c13 => ?_)
        · exact absurd c13 (by omega)
        · refine lv_aload_n hx hb dX1_arrange_16 rfl (lv_at hl 0 rfl) ?_
          refine va_get (ci := 1) (C := RX1) (T := TX1) (N := 9) hx hb hts (fun w h => List.mem_cons_of_mem _ (List.mem_append_left _ (List.mem_append_right _ (h)))) hown hK hP 0 rfl rfl 5 (by decide) (hts (Cond.fieldLink RX1 28 "OutageBook$Log" "before" "[I") (List.mem_of_getElem? (i := 2) rfl)) (fun _ h9 => h9) rfl dX1_arrange_17 ?_
          refine lv_iload_n hx hb dX1_arrange_20 rfl (lv_at hl 2 rfl) ?_
          refine lv_aload_n hx hb dX1_arrange_21 rfl (lv_at hl 0 rfl) ?_
          refine lv_iload_n hx hb dX1_arrange_22 rfl (lv_at hl 2 rfl) ?_
          refine lv_aload_n hx hb dX1_arrange_23 rfl (lv_at hl 1 rfl) ?_
          refine vp_callSi (va_Run.run (va_runV (As := [.int (nI k), .ref (ao 0)]) (rest := [.int (nI k), .ref (al 6)]) ⟨hx, hb, hml, hown, hts⟩ (c_X1_allBefore l D t al n cl rd sv pb ba (ob_bf2 M cl rd n bf k) od bg ao M k hn c7) (cwV 2 hts gX1_arrange_X1_allBefore rfl rfl rfl (by decide +kernel) ⟨Nat.le_of_ble_eq_true rfl, Nat.le_of_ble_eq_true rfl⟩) (ob_preV (ci := 1) (q0 := 0) hP hk rfl rfl) rfl rfl hl.1 rfl (lv_room (Nat.le_of_ble_eq_true rfl)) dX1_arrange_24 ⟨Nat.le_of_ble_eq_true rfl, Nat.le_of_ble_eq_true rfl⟩)) (fun r9 hr9 => ?_)
          subst hr9
          refine ob_iast hx hb hK hP hD hS 6 0 rfl rfl (by omega) (by decide) dX1_arrange_27 (fun H locs hP hD hS => ?_)
          have hP : va_P D vwCl (ob_wL t al n cl rd sv pb ba (upd (ob_bf2 M cl rd n bf k) k (ob_bs (fun i => ob_se M cl rd i k) n)) od bg ++ ob_wO t ao M) H := hP
          have hD : va_D (va_A (ob_wL t al n cl rd sv pb ba bf od bg ++ ob_wO t ao M) sz) (ob_wL t al n cl rd sv pb ba (upd (ob_bf2 M cl rd n bf k) k (ob_bs (fun i => ob_se M cl rd i k) n)) od bg ++ ob_wO t ao M) := hD
          refine ob_inc (k := 2) (lv' := [(2, .int (nI (k + 1))), (0, .ref (al 0)), (1, .ref (ao 0))]) hx hb dX1_arrange_28 hl rfl (by decide) rfl (fun ls hl => ?_)
          refine lv_goto (tgt := 2) hx hb dX1_arrange_31 (by decide) ?_
          exact ih2 (k + 1) (by omega) (by omega) _ _ (by rw [← ob_bf2_s]; exact hP) (ob_dLO hD) hS _ (lv_sub hl [1, 2, 0] rfl)
  exact k2 _ 0 (Nat.lt_succ_self _) (by omega) _ _ (by rw [show ob_bf2 M cl rd n bf 0 = bf from ob_fl_0 _ _]; exact hP) (ob_dLO hD) hS _ (lv_sub hl [1, 2, 0] rfl)

set_option maxRecDepth 100000 in
set_option maxHeartbeats 4000000 in
theorem c_X1_countOrders (l : Launch) (D : va_G) (t : Nat → ClassId) (sz : Nat) (al : Nat → Nat) (n : Nat) (cl rd sv pb ba bf od : Nat → Int32) (bg : Nat → Int64) (hn : n ≤ 12) : Met l yX1_countOrders wsX1_countOrders ({ frames := 2, cells := 0, slots := 0, locals := 46 } : Room) (ob_Pm D t (ob_wL t al n cl rd sv pb ba bf od bg) sz [.ref (al 0)]) (va_Ql (fun (r : Int64) (_ : Unit) => r = ob_F bf n bg (2 ^ n) (2 ^ n - 1)) (fun (_ : Unit) (t9 : State) => va_P D vwCl (ob_wL t al n cl rd sv pb ba bf od (ob_F bf n bg (2 ^ n))) t9.heap) (va_A (ob_wL t al n cl rd sv pb ba bf od bg) sz)) 0 0 (va_A (ob_wL t al n cl rd sv pb ba bf od bg) sz) := by
  refine Met.ofW (cc := cX1_countOrders) (maxL := 5) (ret := (some .long)) (by decide) rfl ?_
  intro p e s m args below meth c s₁ B hml hv
  obtain ⟨rfl, hsz, hP, hk, hD0⟩ := hv
  have hx := B.exec
  have hb := B.bytes
  have hr := B.returns
  have hts := atoms_spec (ws := wsX1_countOrders) B.pre
  have hown : s.vm.findClass RX1 = some m.cls := findClass_of_methodNamed B.named
  have hlocks := B.notSynchronized
  have hK := hk.1
  have hD : va_D (va_A (ob_wL t al n cl rd sv pb ba bf od bg) sz) (ob_wL t al n cl rd sv pb ba bf od bg) := hD0.self (sz := sz)
  have hA : ∀ q : Nat, s.heap.size ≤ q → (va_A (ob_wL t al n cl rd sv pb ba bf od bg) sz) q := fun q h => Or.inr (hsz ▸ h)
  have hS : va_S (va_A (ob_wL t al n cl rd sv pb ba bf od bg) sz) s.heap s.heap [] := va_S.rf
  have hl := lv_entry [.ref (al 0)] (n := 5) (Nat.le_of_ble_eq_true rfl)
  rw [lg_entry_eq]
  generalize (lg_sl [.ref (al 0)] ++ List.replicate (5 - (lg_sl [.ref (al 0)]).length) Slot.unset).toArray = ls at hl ⊢
  have hl : lv_has ls 5 [(0, .ref (al 0))] := hl
  have hP : va_P D vwCl (ob_wL t al n cl rd sv pb ba bf od bg) s.heap := hP
  have h12 := ob_p12 n hn
  have h11 : 1 ≤ 2 ^ n := Nat.one_le_two_pow
  refine lv_aload_n hx hb dX1_countOrders_0 rfl (lv_at hl 0 rfl) ?_
  refine va_get (ci := 1) (C := RX1) (T := TX1) (N := 9) hx hb hts (fun w h => List.mem_cons_of_mem _ (List.mem_append_right _ (h))) hown hK hP 0 rfl rfl 8 (by decide) (hts (Cond.fieldLink RX1 38 "OutageBook$Log" "count" "I") (List.mem_of_getElem? (i := 1) rfl)) (fun _ h9 => h9) rfl dX1_countOrders_1 ?_
  refine vp_callSi (va_Run.run (va_runSN (As := [.int (nI n)]) (rest := []) ⟨hx, hb, hml, hown, hts⟩ (c_X4_bit l D t (nI n)) ⟨va_cnB 1 hts gX1_countOrders_X4_bit_n69 rfl rfl rfl hk.2.2.2.2.1 (hts (Cond.initialized RX4) (List.mem_of_getElem? (i := 4) rfl)) (by decide +kernel) ⟨Nat.le_of_ble_eq_true rfl, Nat.le_of_ble_eq_true rfl⟩, (hts (Cond.static yX4_bit) (List.mem_of_getElem? (i := 3) rfl)), trivial⟩ (ob_preS (hP.sub [] rfl) hk) rfl rfl hl.1 rfl (lv_room (Nat.le_of_ble_eq_true rfl)) dX1_countOrders_4 ⟨Nat.le_of_ble_eq_true rfl, Nat.le_of_ble_eq_true rfl⟩)) (fun r9 hr9 => ?_)
  subst hr9
  refine lv_iconst (v := nI 1) hx hb dX1_countOrders_7 (by decide) ?_
  refine lv_isub hx hb dX1_countOrders_8 ?_
  rw [show (ob_bit (nI n)) - (nI 1) = nI (2 ^ n - 1) from ob_bitm1 (by omega)]
  refine lv_istore_n (lv' := [(1, .int (nI (2 ^ n - 1))), (0, .ref (al 0))]) hx hb dX1_countOrders_9 rfl hl (by decide) rfl (fun ls hl => ?_)
  refine lv_lconst (v := lN 1) hx hb dX1_countOrders_10 rfl ?_
  refine lv_lstore_n (lv' := [(2, .long (lN 1)), (1, .int (nI (2 ^ n - 1))), (0, .ref (al 0))]) hx hb dX1_countOrders_11 rfl hl (by decide) rfl (fun ls hl => ?_)
  refine lv_aload_n hx hb dX1_countOrders_12 rfl (lv_at hl 2 rfl) ?_
  refine va_get (ci := 1) (C := RX1) (T := TX1) (N := 9) hx hb hts (fun w h => List.mem_cons_of_mem _ (List.mem_append_right _ (h))) hown hK hP 0 rfl rfl 7 (by decide) (hts (Cond.fieldLink RX1 34 "OutageBook$Log" "beginnings" "[J") (List.mem_of_getElem? (i := 2) rfl)) (fun _ h9 => h9) rfl dX1_countOrders_13 ?_
  refine lv_iconst (v := nI 0) hx hb dX1_countOrders_16 (by decide) ?_
  refine lv_lload_n hx hb dX1_countOrders_17 rfl (lv_at hl 0 rfl) ?_
  refine ob_last hx hb hK hP hD hS 8 1 rfl rfl (by omega) (by decide) dX1_countOrders_18 (fun H locs hP hD hS => ?_)
  have hP : va_P D vwCl (ob_wL t al n cl rd sv pb ba bf od (vp_updL bg 0 (lN 1))) H := hP
  have hD : va_D (va_A (ob_wL t al n cl rd sv pb ba bf od bg) sz) (ob_wL t al n cl rd sv pb ba bf od (vp_updL bg 0 (lN 1))) := hD
  refine lv_iconst (v := nI 1) hx hb dX1_countOrders_19 (by decide) ?_
  refine lv_istore (lv' := [(4, .int (nI 1)), (2, .long (lN 1)), (1, .int (nI (2 ^ n - 1))), (0, .ref (al 0))]) hx hb dX1_countOrders_20 hl (by decide) rfl (fun ls hl => ?_)
  have k22 : ∀ fu : Nat, ∀ (k : Nat) (w : Int64), 2 ^ n - k < fu → (1 ≤ k) → (k ≤ 2 ^ n) → (w = ob_F bf n bg k (k - 1)) → ∀ (H : Heap) (locs : List Loc), va_P D vwCl (ob_wL t al n cl rd sv pb ba bf od (ob_F bf n bg k)) H → va_D (va_A (ob_wL t al n cl rd sv pb ba bf od bg) sz) (ob_wL t al n cl rd sv pb ba bf od (ob_F bf n bg k)) → va_S (va_A (ob_wL t al n cl rd sv pb ba bf od bg) sz) s.heap H locs → ∀ ls : Array Slot, lv_has ls 5 [(0, .ref (al 0)), (1, .int (nI (2 ^ n - 1))), (2, .long w), (4, .int (nI k))] → W p l e (headSpec wsX1_countOrders ({ frames := 2, cells := 0, slots := 0, locals := 46 } : Room)).room s m ([.ref (al 0)] : List Value).toArray below meth c H locs 0 0 (MQ below (va_Ql (fun (r : Int64) (_ : Unit) => r = ob_F bf n bg (2 ^ n) (2 ^ n - 1)) (fun (_ : Unit) (t9 : State) => va_P D vwCl (ob_wL t al n cl rd sv pb ba bf od (ob_F bf n bg (2 ^ n))) t9.heap) (va_A (ob_wL t al n cl rd sv pb ba bf od bg) sz)) ([.ref (al 0)] : List Value).toArray s 0 0 (va_A (ob_wL t al n cl rd sv pb ba bf od bg) sz)) (F0 m 22 ls []) := by
    intro fu
    induction fu with
    | zero => intro k w hfu; exact absurd hfu (Nat.not_lt_zero _)
    | succ fu ih =>
      intro k w hfu hq0 hq hw H locs hP hD hS ls hl
      have ih22 := ih
      refine lv_iload hx hb dX1_countOrders_22 (lv_at hl 3 rfl) ?_
      refine lv_iload_n hx hb dX1_countOrders_24 rfl (lv_at hl 1 rfl) ?_
      refine ob_icmp_gt (tgt := 59) hx hb (by omega) (by omega) dX1_countOrders_25 (by decide) (fun c25 => ?_) (fun c25 => ?_)
      · refine lv_lload_n hx hb dX1_countOrders_59 rfl (lv_at hl 2 rfl) ?_
        exact W.lret (v := w) hx hb hr (fun t9 ht hW => ⟨⟨w, (), rfl, (by rw [hw, show k = 2 ^ n by omega]), ob_th ht (by rw [show 2 ^ n = k by omega]; exact hP)⟩, hS.F ht⟩) hS.2.2 dX1_countOrders_60
      · refine lv_iload hx hb dX1_countOrders_28 (lv_at hl 3 rfl) ?_
        refine lv_aload_n hx hb dX1_countOrders_30 rfl (lv_at hl 0 rfl) ?_
        refine va_get (ci := 1) (C := RX1) (T := TX1) (N := 9) hx hb hts (fun w h => List.mem_cons_of_mem _ (List.mem_append_right _ (h))) hown hK hP 0 rfl rfl 7 (by decide) (hts (Cond.fieldLink RX1 34 "OutageBook$Log" "beginnings" "[J") (List.mem_of_getElem? (i := 2) rfl)) (fun _ h9 => h9) rfl dX1_countOrders_31 ?_
        refine va_alen (v := nI 4096) hx hb hK hP 8 1 rfl rfl rfl dX1_countOrders_34 ?_
        refine ob_icmp_ge (tgt := 59) hx hb (by omega) (by omega) dX1_countOrders_35 (by decide) (fun c35 => ?_) (fun c35 => ?_)
        · exact absurd c35 (by omega)
        · refine lv_aload_n hx hb dX1_countOrders_38 rfl (lv_at hl 0 rfl) ?_
          refine lv_iload hx hb dX1_countOrders_39 (lv_at hl 3 rfl) ?_
          refine vp_callSl (va_Run.run (va_runV (As := [.int (nI k)]) (rest := []) ⟨hx, hb, hml, hown, hts⟩ (c_X1_countBeginnings l D t al n cl rd sv pb ba bf od (ob_F bf n bg k) (nI k) (by first | assumption | omega)) (cwV 1 hts gX1_countOrders_X1_countBeginnings rfl rfl rfl (by decide +kernel) ⟨Nat.le_of_ble_eq_true rfl, Nat.le_of_ble_eq_true rfl⟩) (ob_preV (ci := 1) (q0 := 0) hP hk rfl rfl) rfl rfl hl.1 rfl (lv_room (Nat.le_of_ble_eq_true rfl)) dX1_countOrders_41 ⟨Nat.le_of_ble_eq_true rfl, Nat.le_of_ble_eq_true rfl⟩)) (fun r9 hr9 => ?_)
          subst hr9
          refine lv_lstore_n (lv' := [(2, .long (ob_cb bf (ob_F bf n bg k) (nI k) n)), (0, .ref (al 0)), (1, .int (nI (2 ^ n - 1))), (4, .int (nI k))]) hx hb dX1_countOrders_44 rfl hl (by decide) rfl (fun ls hl => ?_)
          refine lv_aload_n hx hb dX1_countOrders_45 rfl (lv_at hl 1 rfl) ?_
          refine va_get (ci := 1) (C := RX1) (T := TX1) (N := 9) hx hb hts (fun w h => List.mem_cons_of_mem _ (List.mem_append_right _ (h))) hown hK hP 0 rfl rfl 7 (by decide) (hts (Cond.fieldLink RX1 34 "OutageBook$Log" "beginnings" "[J") (List.mem_of_getElem? (i := 2) rfl)) (fun _ h9 => h9) rfl dX1_countOrders_46 ?_
          refine lv_iload hx hb dX1_countOrders_49 (lv_at hl 3 rfl) ?_
          refine lv_lload_n hx hb dX1_countOrders_51 rfl (lv_at hl 0 rfl) ?_
          refine ob_last hx hb hK hP hD hS 8 1 rfl rfl (by omega) (by decide) dX1_countOrders_52 (fun H locs hP hD hS => ?_)
          have hP : va_P D vwCl (ob_wL t al n cl rd sv pb ba bf od (vp_updL (ob_F bf n bg k) k (ob_cb bf (ob_F bf n bg k) (nI k) n))) H := hP
          have hD : va_D (va_A (ob_wL t al n cl rd sv pb ba bf od bg) sz) (ob_wL t al n cl rd sv pb ba bf od (vp_updL (ob_F bf n bg k) k (ob_cb bf (ob_F bf n bg k) (nI k) n))) := hD
          refine ob_inc (k := 3) (lv' := [(4, .int (nI (k + 1))), (2, .long (ob_cb bf (ob_F bf n bg k) (nI k) n)), (0, .ref (al 0)), (1, .int (nI (2 ^ n - 1)))]) hx hb dX1_countOrders_53 hl rfl (by decide) rfl (fun ls hl => ?_)
          refine lv_goto (tgt := 22) hx hb dX1_countOrders_56 (by decide) ?_
          exact ih22 (k + 1) (ob_cb bf (ob_F bf n bg k) (nI k) n) (by omega) (by omega) (by omega) (by first | (rfl; done) | (rw [← ob_F_s hq0]; exact (if_pos rfl).symm; done)) _ _ (by rw [← ob_F_s hq0]; exact hP) (ob_dL hD) hS _ (lv_sub hl [2, 3, 1, 0] rfl)
  exact k22 _ 1 (lN 1) (Nat.lt_succ_self _) (by omega) (by omega) (by first | (rfl; done) | (rw [← ob_F_s hq0]; exact (if_pos rfl).symm; done)) _ _ hP (ob_dL hD) hS _ (lv_sub hl [3, 2, 1, 0] rfl)

set_option maxRecDepth 100000 in
set_option maxHeartbeats 4000000 in
theorem c_X2_add (l : Launch) (D : va_G) (t : Nat → ClassId) (sz : Nat) (am : Nat → Nat) (mn : Nat) (ms mf mt mp : Nat → Int32) (p1 q v u : Int32) (hmn : mn < 40) : Met l yX2_add wsX2_add ({ frames := 0, cells := 0, slots := 0, locals := 0 } : Room) (ob_Pm D t (ob_wM t am mn ms mf mt mp) sz [.ref (am 0), .int p1, .int q, .int v, .int u]) (va_Qi (fun (r : Int32) (_ : Unit) => r = nI mn) (fun (_ : Unit) (t9 : State) => va_P D vwCl (ob_wM t am (mn + 1) (upd ms mn p1) (upd mf mn q) (upd mt mn v) (upd mp mn u)) t9.heap) (va_A (ob_wM t am mn ms mf mt mp) sz)) 0 0 (va_A (ob_wM t am mn ms mf mt mp) sz) := by
  refine Met.ofW (cc := cX2_add) (maxL := 6) (ret := (some .int)) (by decide) rfl ?_
  intro p e s m args below meth c s₁ B hml hv
  obtain ⟨rfl, hsz, hP, hk, hD0⟩ := hv
  have hx := B.exec
  have hb := B.bytes
  have hr := B.returns
  have hts := atoms_spec (ws := wsX2_add) B.pre
  have hown : s.vm.findClass RX2 = some m.cls := findClass_of_methodNamed B.named
  have hlocks := B.notSynchronized
  have hK := hk.1
  have hD : va_D (va_A (ob_wM t am mn ms mf mt mp) sz) (ob_wM t am mn ms mf mt mp) := hD0.self (sz := sz)
  have hA : ∀ q : Nat, s.heap.size ≤ q → (va_A (ob_wM t am mn ms mf mt mp) sz) q := fun q h => Or.inr (hsz ▸ h)
  have hS : va_S (va_A (ob_wM t am mn ms mf mt mp) sz) s.heap s.heap [] := va_S.rf
  have hl := lv_entry [.ref (am 0), .int p1, .int q, .int v, .int u] (n := 6) (Nat.le_of_ble_eq_true rfl)
  rw [lg_entry_eq]
  generalize (lg_sl [.ref (am 0), .int p1, .int q, .int v, .int u] ++ List.replicate (6 - (lg_sl [.ref (am 0), .int p1, .int q, .int v, .int u]).length) Slot.unset).toArray = ls at hl ⊢
  have hl : lv_has ls 6 [(0, .ref (am 0)), (1, .int p1), (2, .int q), (3, .int v), (4, .int u)] := hl
  have hP : va_P D vwCl (ob_wM t am mn ms mf mt mp) s.heap := hP
  refine lv_aload_n hx hb dX2_add_0 rfl (lv_at hl 0 rfl) ?_
  refine va_get (ci := 2) (C := RX2) (T := TX2) (N := 5) hx hb hts (fun w h => List.mem_cons_of_mem _ (List.mem_append_right _ (h))) hown hK hP 0 rfl rfl 4 (by decide) (hts (Cond.fieldLink RX2 24 "OutageBook$Measures" "count" "I") (List.mem_of_getElem? (i := 1) rfl)) (fun _ h9 => h9) rfl dX2_add_1 ?_
  refine lv_istore (lv' := [(5, .int (nI mn)), (0, .ref (am 0)), (1, .int p1), (2, .int q), (3, .int v), (4, .int u)]) hx hb dX2_add_4 hl (by decide) rfl (fun ls hl => ?_)
  refine lv_iload hx hb dX2_add_6 (lv_at hl 0 rfl) ?_
  refine lv_bipush (v := nI 40) hx hb dX2_add_8 (by decide) ?_
  refine ob_icmp_lt (tgt := 15) hx hb (by omega) (by omega) dX2_add_10 (by decide) (fun c10 => ?_) (fun c10 => ?_)
  · refine lv_aload_n hx hb dX2_add_15 rfl (lv_at hl 1 rfl) ?_
    refine va_get (ci := 2) (C := RX2) (T := TX2) (N := 5) hx hb hts (fun w h => List.mem_cons_of_mem _ (List.mem_append_right _ (h))) hown hK hP 0 rfl rfl 0 (by decide) (hts (Cond.fieldLink RX2 9 "OutageBook$Measures" "services" "[I") (List.mem_of_getElem? (i := 2) rfl)) (fun _ h9 => h9) rfl dX2_add_16 ?_
    refine lv_iload hx hb dX2_add_19 (lv_at hl 0 rfl) ?_
    refine lv_iload_n hx hb dX2_add_21 rfl (lv_at hl 2 rfl) ?_
    refine ob_iast hx hb hK hP hD hS 1 0 rfl rfl (by omega) (by decide) dX2_add_22 (fun H locs hP hD hS => ?_)
    have hP : va_P D vwCl (ob_wM t am mn (upd ms mn p1) mf mt mp) H := hP
    have hD : va_D (va_A (ob_wM t am mn ms mf mt mp) sz) (ob_wM t am mn (upd ms mn p1) mf mt mp) := hD
    refine lv_aload_n hx hb dX2_add_23 rfl (lv_at hl 1 rfl) ?_
    refine va_get (ci := 2) (C := RX2) (T := TX2) (N := 5) hx hb hts (fun w h => List.mem_cons_of_mem _ (List.mem_append_right _ (h))) hown hK hP 0 rfl rfl 1 (by decide) (hts (Cond.fieldLink RX2 15 "OutageBook$Measures" "starts" "[I") (List.mem_of_getElem? (i := 3) rfl)) (fun _ h9 => h9) rfl dX2_add_24 ?_
    refine lv_iload hx hb dX2_add_27 (lv_at hl 0 rfl) ?_
    refine lv_iload_n hx hb dX2_add_29 rfl (lv_at hl 3 rfl) ?_
    refine ob_iast hx hb hK hP hD hS 2 0 rfl rfl (by omega) (by decide) dX2_add_30 (fun H locs hP hD hS => ?_)
    have hP : va_P D vwCl (ob_wM t am mn (upd ms mn p1) (upd mf mn q) mt mp) H := hP
    have hD : va_D (va_A (ob_wM t am mn ms mf mt mp) sz) (ob_wM t am mn (upd ms mn p1) (upd mf mn q) mt mp) := hD
    refine lv_aload_n hx hb dX2_add_31 rfl (lv_at hl 1 rfl) ?_
    refine va_get (ci := 2) (C := RX2) (T := TX2) (N := 5) hx hb hts (fun w h => List.mem_cons_of_mem _ (List.mem_append_right _ (h))) hown hK hP 0 rfl rfl 2 (by decide) (hts (Cond.fieldLink RX2 18 "OutageBook$Measures" "ends" "[I") (List.mem_of_getElem? (i := 4) rfl)) (fun _ h9 => h9) rfl dX2_add_32 ?_
    refine lv_iload hx hb dX2_add_35 (lv_at hl 0 rfl) ?_
    refine lv_iload_n hx hb dX2_add_37 rfl (lv_at hl 4 rfl) ?_
    refine ob_iast hx hb hK hP hD hS 3 0 rfl rfl (by omega) (by decide) dX2_add_38 (fun H locs hP hD hS => ?_)
    have hP : va_P D vwCl (ob_wM t am mn (upd ms mn p1) (upd mf mn q) (upd mt mn v) mp) H := hP
    have hD : va_D (va_A (ob_wM t am mn ms mf mt mp) sz) (ob_wM t am mn (upd ms mn p1) (upd mf mn q) (upd mt mn v) mp) := hD
    refine lv_aload_n hx hb dX2_add_39 rfl (lv_at hl 1 rfl) ?_
    refine va_get (ci := 2) (C := RX2) (T := TX2) (N := 5) hx hb hts (fun w h => List.mem_cons_of_mem _ (List.mem_append_right _ (h))) hown hK hP 0 rfl rfl 3 (by decide) (hts (Cond.fieldLink RX2 21 "OutageBook$Measures" "percents" "[I") (List.mem_of_getElem? (i := 5) rfl)) (fun _ h9 => h9) rfl dX2_add_40 ?_
    refine lv_iload hx hb dX2_add_43 (lv_at hl 0 rfl) ?_
    refine lv_iload hx hb dX2_add_45 (lv_at hl 5 rfl) ?_
    refine ob_iast hx hb hK hP hD hS 4 0 rfl rfl (by omega) (by decide) dX2_add_47 (fun H locs hP hD hS => ?_)
    have hP : va_P D vwCl (ob_wM t am mn (upd ms mn p1) (upd mf mn q) (upd mt mn v) (upd mp mn u)) H := hP
    have hD : va_D (va_A (ob_wM t am mn ms mf mt mp) sz) (ob_wM t am mn (upd ms mn p1) (upd mf mn q) (upd mt mn v) (upd mp mn u)) := hD
    refine lv_aload_n hx hb dX2_add_48 rfl (lv_at hl 1 rfl) ?_
    refine lv_iload hx hb dX2_add_49 (lv_at hl 0 rfl) ?_
    refine lv_iconst (v := nI 1) hx hb dX2_add_51 (by decide) ?_
    refine lv_iadd hx hb dX2_add_52 ?_
    rw [show (nI mn) + (nI 1) = nI (mn + 1) from nI_1 mn]
    refine va_put (ci := 2) (v := .int (nI (mn + 1))) (ty := .int) (C := RX2) (T := TX2) (N := 5) hx hb hts (fun w h => List.mem_cons_of_mem _ (List.mem_append_right _ (h))) tyX2 tyX2_ok nmX2 hown hK hP hD hS 0 rfl rfl 4 (by decide) (hts (Cond.fieldLink RX2 24 "OutageBook$Measures" "count" "I") (List.mem_of_getElem? (i := 1) rfl)) (fun _ h9 => h9) rfl (by decide +kernel) rfl rfl (Nat.le_of_ble_eq_true rfl) dX2_add_53 (fun H locs hP hD hS => ?_)
    have hP : va_P D vwCl (ob_wM t am (mn + 1) (upd ms mn p1) (upd mf mn q) (upd mt mn v) (upd mp mn u)) H := hP
    have hD : va_D (va_A (ob_wM t am mn ms mf mt mp) sz) (ob_wM t am (mn + 1) (upd ms mn p1) (upd mf mn q) (upd mt mn v) (upd mp mn u)) := hD
    refine lv_iload hx hb dX2_add_56 (lv_at hl 0 rfl) ?_
    exact W.iret (v := nI mn) hx hb hr (fun t9 ht hW => ⟨⟨nI mn, (), rfl, rfl, ob_th ht hP⟩, hS.F ht⟩) hS.2.2 dX2_add_58
  · exact absurd c10 (by omega)

set_option maxRecDepth 100000 in
set_option maxHeartbeats 4000000 in
theorem c_X0_add (l : Launch) (D : va_G) (t : Nat → ClassId) (sz : Nat) (ac : Nat → Nat) (cn : Nat) (st : Int32) (Wt : Nat → Nat → Int32) (hcn : cn < 16) : Met l yX0_add wsX0_add ({ frames := 1, cells := 0, slots := 0, locals := 20 } : Room) (ob_Pm D t (ob_wC t ac cn st Wt) sz [.ref (ac 0)]) (va_Qi (fun (r : Int32) (_ : Unit) => r = nI cn) (fun (_ : Unit) (t9 : State) => va_P D vwCl (ob_wC t ac (cn + 1) (st ||| ob_bit (nI cn)) Wt) t9.heap) (va_A (ob_wC t ac cn st Wt) sz)) 0 0 (va_A (ob_wC t ac cn st Wt) sz) := by
  refine Met.ofW (cc := cX0_add) (maxL := 2) (ret := (some .int)) (by decide) rfl ?_
  intro p e s m args below meth c s₁ B hml hv
  obtain ⟨rfl, hsz, hP, hk, hD0⟩ := hv
  have hx := B.exec
  have hb := B.bytes
  have hr := B.returns
  have hts := atoms_spec (ws := wsX0_add) B.pre
  have hown : s.vm.findClass RX0 = some m.cls := findClass_of_methodNamed B.named
  have hlocks := B.notSynchronized
  have hK := hk.1
  have hD : va_D (va_A (ob_wC t ac cn st Wt) sz) (ob_wC t ac cn st Wt) := hD0.self (sz := sz)
  have hA : ∀ q : Nat, s.heap.size ≤ q → (va_A (ob_wC t ac cn st Wt) sz) q := fun q h => Or.inr (hsz ▸ h)
  have hS : va_S (va_A (ob_wC t ac cn st Wt) sz) s.heap s.heap [] := va_S.rf
  have hl := lv_entry [.ref (ac 0)] (n := 2) (Nat.le_of_ble_eq_true rfl)
  rw [lg_entry_eq]
  generalize (lg_sl [.ref (ac 0)] ++ List.replicate (2 - (lg_sl [.ref (ac 0)]).length) Slot.unset).toArray = ls at hl ⊢
  have hl : lv_has ls 2 [(0, .ref (ac 0))] := hl
  have hP : va_P D vwCl (ob_wC t ac cn st Wt) s.heap := hP
  refine lv_aload_n hx hb dX0_add_0 rfl (lv_at hl 0 rfl) ?_
  refine va_get (ci := 0) (C := RX0) (T := TX0) (N := 3) hx hb hts (fun w h => List.mem_cons_of_mem _ (List.mem_append_right _ (h))) hown hK hP 0 rfl rfl 2 (by decide) (hts (Cond.fieldLink RX0 20 "OutageBook$Causes" "count" "I") (List.mem_of_getElem? (i := 1) rfl)) (fun _ h9 => h9) rfl dX0_add_1 ?_
  refine lv_istore_n (lv' := [(1, .int (nI cn)), (0, .ref (ac 0))]) hx hb dX0_add_4 rfl hl (by decide) rfl (fun ls hl => ?_)
  refine lv_iload_n hx hb dX0_add_5 rfl (lv_at hl 0 rfl) ?_
  refine lv_bipush (v := nI 16) hx hb dX0_add_6 (by decide) ?_
  refine ob_icmp_lt (tgt := 13) hx hb (by omega) (by omega) dX0_add_8 (by decide) (fun c8 => ?_) (fun c8 => ?_)
  · refine lv_aload_n hx hb dX0_add_13 rfl (lv_at hl 1 rfl) ?_
    refine lv_dup hx hb dX0_add_14 rfl ?_
    refine va_get (ci := 0) (C := RX0) (T := TX0) (N := 3) hx hb hts (fun w h => List.mem_cons_of_mem _ (List.mem_append_right _ (h))) hown hK hP 0 rfl rfl 1 (by decide) (hts (Cond.fieldLink RX0 16 "OutageBook$Causes" "standing" "I") (List.mem_of_getElem? (i := 2) rfl)) (fun _ h9 => h9) rfl dX0_add_15 ?_
    refine lv_iload_n hx hb dX0_add_18 rfl (lv_at hl 0 rfl) ?_
    refine vp_callSi (va_Run.run (va_runSN (As := [.int (nI cn)]) (rest := [.int st, .ref (ac 0)]) ⟨hx, hb, hml, hown, hts⟩ (c_X4_bit l D t (nI cn)) ⟨va_cnB 1 hts gX0_add_X4_bit_n23 rfl rfl rfl hk.2.1 (hts (Cond.initialized RX4) (List.mem_of_getElem? (i := 4) rfl)) (by decide +kernel) ⟨Nat.le_of_ble_eq_true rfl, Nat.le_of_ble_eq_true rfl⟩, (hts (Cond.static yX4_bit) (List.mem_of_getElem? (i := 3) rfl)), trivial⟩ (ob_preS (hP.sub [] rfl) hk) rfl rfl hl.1 rfl (lv_room (Nat.le_of_ble_eq_true rfl)) dX0_add_19 ⟨Nat.le_of_ble_eq_true rfl, Nat.le_of_ble_eq_true rfl⟩)) (fun r9 hr9 => ?_)
    subst hr9
    refine lv_ior hx hb dX0_add_22 ?_
    refine va_put (ci := 0) (v := .int (st ||| (ob_bit (nI cn)))) (ty := .int) (C := RX0) (T := TX0) (N := 3) hx hb hts (fun w h => List.mem_cons_of_mem _ (List.mem_append_right _ (h))) tyX0 tyX0_ok nmX0 hown hK hP hD hS 0 rfl rfl 1 (by decide) (hts (Cond.fieldLink RX0 16 "OutageBook$Causes" "standing" "I") (List.mem_of_getElem? (i := 2) rfl)) (fun _ h9 => h9) rfl (by decide +kernel) rfl rfl (Nat.le_of_ble_eq_true rfl) dX0_add_23 (fun H locs hP hD hS => ?_)
    have hP : va_P D vwCl (ob_wC t ac cn (st ||| (ob_bit (nI cn))) Wt) H := hP
    have hD : va_D (va_A (ob_wC t ac cn st Wt) sz) (ob_wC t ac cn (st ||| (ob_bit (nI cn))) Wt) := hD
    refine lv_aload_n hx hb dX0_add_26 rfl (lv_at hl 1 rfl) ?_
    refine lv_iload_n hx hb dX0_add_27 rfl (lv_at hl 0 rfl) ?_
    refine lv_iconst (v := nI 1) hx hb dX0_add_28 (by decide) ?_
    refine lv_iadd hx hb dX0_add_29 ?_
    rw [show (nI cn) + (nI 1) = nI (cn + 1) from nI_1 cn]
    refine va_put (ci := 0) (v := .int (nI (cn + 1))) (ty := .int) (C := RX0) (T := TX0) (N := 3) hx hb hts (fun w h => List.mem_cons_of_mem _ (List.mem_append_right _ (h))) tyX0 tyX0_ok nmX0 hown hK hP hD hS 0 rfl rfl 2 (by decide) (hts (Cond.fieldLink RX0 20 "OutageBook$Causes" "count" "I") (List.mem_of_getElem? (i := 1) rfl)) (fun _ h9 => h9) rfl (by decide +kernel) rfl rfl (Nat.le_of_ble_eq_true rfl) dX0_add_30 (fun H locs hP hD hS => ?_)
    have hP : va_P D vwCl (ob_wC t ac (cn + 1) (st ||| (ob_bit (nI cn))) Wt) H := hP
    have hD : va_D (va_A (ob_wC t ac cn st Wt) sz) (ob_wC t ac (cn + 1) (st ||| (ob_bit (nI cn))) Wt) := hD
    refine lv_iload_n hx hb dX0_add_33 rfl (lv_at hl 0 rfl) ?_
    exact W.iret (v := nI cn) hx hb hr (fun t9 ht hW => ⟨⟨nI cn, (), rfl, rfl, ob_th ht hP⟩, hS.F ht⟩) hS.2.2 dX0_add_34
  · exact absurd c8 (by omega)

set_option maxRecDepth 100000 in
set_option maxHeartbeats 4000000 in
theorem c_X0_replaceWeight (l : Launch) (D : va_G) (t : Nat → ClassId) (sz : Nat) (ac : Nat → Nat) (cn : Nat) (st : Int32) (Wt : Nat → Nat → Int32) (i j : Nat) (p1 : Int32) (hcn : cn ≤ 16) (hi : i < cn) (hj : j < cn) : Met l yX0_replaceWeight wsX0_replaceWeight ({ frames := 1, cells := 0, slots := 0, locals := 21 } : Room) (ob_Pm D t (ob_wC t ac cn st Wt) sz [.ref (ac 0), .int (nI i), .int (nI j), .int p1]) (va_Qi (fun (r : Int32) (_ : Unit) => r = Wt i j) (fun (_ : Unit) (t9 : State) => va_P D vwCl (ob_wC t ac cn st (ob_up2 Wt i j p1)) t9.heap) (va_A (ob_wC t ac cn st Wt) sz)) 0 0 (va_A (ob_wC t ac cn st Wt) sz) := by
  refine Met.ofW (cc := cX0_replaceWeight) (maxL := 5) (ret := (some .int)) (by decide) rfl ?_
  intro p e s m args below meth c s₁ B hml hv
  obtain ⟨rfl, hsz, hP, hk, hD0⟩ := hv
  have hx := B.exec
  have hb := B.bytes
  have hr := B.returns
  have hts := atoms_spec (ws := wsX0_replaceWeight) B.pre
  have hown : s.vm.findClass RX0 = some m.cls := findClass_of_methodNamed B.named
  have hlocks := B.notSynchronized
  have hK := hk.1
  have hD : va_D (va_A (ob_wC t ac cn st Wt) sz) (ob_wC t ac cn st Wt) := hD0.self (sz := sz)
  have hA : ∀ q : Nat, s.heap.size ≤ q → (va_A (ob_wC t ac cn st Wt) sz) q := fun q h => Or.inr (hsz ▸ h)
  have hS : va_S (va_A (ob_wC t ac cn st Wt) sz) s.heap s.heap [] := va_S.rf
  have hl := lv_entry [.ref (ac 0), .int (nI i), .int (nI j), .int p1] (n := 5) (Nat.le_of_ble_eq_true rfl)
  rw [lg_entry_eq]
  generalize (lg_sl [.ref (ac 0), .int (nI i), .int (nI j), .int p1] ++ List.replicate (5 - (lg_sl [.ref (ac 0), .int (nI i), .int (nI j), .int p1]).length) Slot.unset).toArray = ls at hl ⊢
  have hl : lv_has ls 5 [(0, .ref (ac 0)), (1, .int (nI i)), (2, .int (nI j)), (3, .int p1)] := hl
  have hP : va_P D vwCl (ob_wC t ac cn st Wt) s.heap := hP
  refine lv_aload_n hx hb dX0_replaceWeight_0 rfl (lv_at hl 0 rfl) ?_
  refine lv_iload_n hx hb dX0_replaceWeight_1 rfl (lv_at hl 1 rfl) ?_
  refine vp_callSi (va_Run.run (va_runV (As := [.int (nI i)]) (rest := []) ⟨hx, hb, hml, hown, hts⟩ (c_X0_holds l D t ac cn st Wt (nI i) (by first | assumption | omega)) (cwV 1 hts gX0_replaceWeight_X0_holds rfl rfl rfl (by decide +kernel) ⟨Nat.le_of_ble_eq_true rfl, Nat.le_of_ble_eq_true rfl⟩) (ob_preV (ci := 0) (q0 := 0) hP hk rfl rfl) rfl rfl hl.1 rfl (lv_room (Nat.le_of_ble_eq_true rfl)) dX0_replaceWeight_2 ⟨Nat.le_of_ble_eq_true rfl, Nat.le_of_ble_eq_true rfl⟩)) (fun r9 hr9 => ?_)
  subst hr9
  refine ob_if_eq (tgt := 16) hx hb dX0_replaceWeight_5 (by decide) (fun c5 => ?_) (fun c5 => ?_)
  · rw [ob_hd_nI hi] at c5; cases c5
  · refine lv_aload_n hx hb dX0_replaceWeight_8 rfl (lv_at hl 0 rfl) ?_
    refine lv_iload_n hx hb dX0_replaceWeight_9 rfl (lv_at hl 2 rfl) ?_
    refine vp_callSi (va_Run.run (va_runV (As := [.int (nI j)]) (rest := []) ⟨hx, hb, hml, hown, hts⟩ (c_X0_holds l D t ac cn st Wt (nI j) (by first | assumption | omega)) (cwV 1 hts gX0_replaceWeight_X0_holds rfl rfl rfl (by decide +kernel) ⟨Nat.le_of_ble_eq_true rfl, Nat.le_of_ble_eq_true rfl⟩) (ob_preV (ci := 0) (q0 := 0) hP hk rfl rfl) rfl rfl hl.1 rfl (lv_room (Nat.le_of_ble_eq_true rfl)) dX0_replaceWeight_10 ⟨Nat.le_of_ble_eq_true rfl, Nat.le_of_ble_eq_true rfl⟩)) (fun r9 hr9 => ?_)
    subst hr9
    refine ob_if_ne (tgt := 18) hx hb dX0_replaceWeight_13 (by decide) (fun c13 => ?_) (fun c13 => ?_)
    · refine lv_aload_n hx hb dX0_replaceWeight_18 rfl (lv_at hl 0 rfl) ?_
      refine va_get (ci := 0) (C := RX0) (T := TX0) (N := 3) hx hb hts (fun w h => List.mem_cons_of_mem _ (List.mem_append_right _ (h))) hown hK hP 0 rfl rfl 0 (by decide) (hts (Cond.fieldLink RX0 11 "OutageBook$Causes" "weights" "[[I") (List.mem_of_getElem? (i := 1) rfl)) (fun _ h9 => h9) rfl dX0_replaceWeight_19 ?_
      refine lv_iload_n hx hb dX0_replaceWeight_22 rfl (lv_at hl 1 rfl) ?_
      refine ob_aald (r := ac (2 + i)) hx hb hK hP 1 3 rfl rfl rfl (show i < 16 from (by omega)) (by decide) (if_pos (by omega)) dX0_replaceWeight_23 ?_
      refine lv_iload_n hx hb dX0_replaceWeight_24 rfl (lv_at hl 2 rfl) ?_
      refine ob_iald hx hb hK hP (2 + i) 0 (ob_rC (by omega)) rfl (by omega) (by decide) dX0_replaceWeight_25 ?_
      refine lv_istore (lv' := [(4, .int ((Wt i) j)), (0, .ref (ac 0)), (1, .int (nI i)), (2, .int (nI j)), (3, .int p1)]) hx hb dX0_replaceWeight_26 hl (by decide) rfl (fun ls hl => ?_)
      refine lv_aload_n hx hb dX0_replaceWeight_28 rfl (lv_at hl 1 rfl) ?_
      refine va_get (ci := 0) (C := RX0) (T := TX0) (N := 3) hx hb hts (fun w h => List.mem_cons_of_mem _ (List.mem_append_right _ (h))) hown hK hP 0 rfl rfl 0 (by decide) (hts (Cond.fieldLink RX0 11 "OutageBook$Causes" "weights" "[[I") (List.mem_of_getElem? (i := 1) rfl)) (fun _ h9 => h9) rfl dX0_replaceWeight_29 ?_
      refine lv_iload_n hx hb dX0_replaceWeight_32 rfl (lv_at hl 2 rfl) ?_
      refine ob_aald (r := ac (2 + i)) hx hb hK hP 1 3 rfl rfl rfl (show i < 16 from (by omega)) (by decide) (if_pos (by omega)) dX0_replaceWeight_33 ?_
      refine lv_iload_n hx hb dX0_replaceWeight_34 rfl (lv_at hl 3 rfl) ?_
      refine lv_iload_n hx hb dX0_replaceWeight_35 rfl (lv_at hl 4 rfl) ?_
      refine ob_iast hx hb hK hP hD hS (2 + i) 0 (ob_rC (by omega)) rfl (by omega) (by decide) dX0_replaceWeight_36 (fun H locs hP hD hS => ?_)
      rw [ob_sC (by omega)] at hP hD
      have hP : va_P D vwCl (ob_wC t ac cn st (ob_up2 Wt i j p1)) H := hP
      have hD : va_D (va_A (ob_wC t ac cn st Wt) sz) (ob_wC t ac cn st (ob_up2 Wt i j p1)) := hD
      refine lv_iload hx hb dX0_replaceWeight_37 (lv_at hl 0 rfl) ?_
      exact W.iret (v := (Wt i) j) hx hb hr (fun t9 ht hW => ⟨⟨(Wt i) j, (), rfl, rfl, ob_th ht hP⟩, hS.F ht⟩) hS.2.2 dX0_replaceWeight_39
    · rw [ob_hd_nI hj] at c13; cases c13

set_option maxRecDepth 100000 in
set_option maxHeartbeats 4000000 in
theorem c_X0_replaceStanding (l : Launch) (D : va_G) (t : Nat → ClassId) (sz : Nat) (ac : Nat → Nat) (cn : Nat) (st : Int32) (Wt : Nat → Nat → Int32) (x : Int32) (b : Bool) : Met l yX0_replaceStanding wsX0_replaceStanding ({ frames := 2, cells := 0, slots := 0, locals := 41 } : Room) (ob_Pm D t (ob_wC t ac cn st Wt) sz [.ref (ac 0), .int x, .int (ob_bi b)]) (va_Qi (fun (r : Int32) (_ : Unit) => r = ob_bi (ob_hb st x)) (fun (_ : Unit) (t9 : State) => va_P D vwCl (ob_wC t ac cn (if b then st ||| ob_bit x else st &&& (ob_bit x ^^^ (-1))) Wt) t9.heap) (va_A (ob_wC t ac cn st Wt) sz)) 0 0 (va_A (ob_wC t ac cn st Wt) sz) := by
  refine Met.ofW (cc := cX0_replaceStanding) (maxL := 4) (ret := (some .boolean)) (by decide) rfl ?_
  intro p e s m args below meth c s₁ B hml hv
  obtain ⟨rfl, hsz, hP, hk, hD0⟩ := hv
  have hx := B.exec
  have hb := B.bytes
  have hr := B.returns
  have hts := atoms_spec (ws := wsX0_replaceStanding) B.pre
  have hown : s.vm.findClass RX0 = some m.cls := findClass_of_methodNamed B.named
  have hlocks := B.notSynchronized
  have hK := hk.1
  have hD : va_D (va_A (ob_wC t ac cn st Wt) sz) (ob_wC t ac cn st Wt) := hD0.self (sz := sz)
  have hA : ∀ q : Nat, s.heap.size ≤ q → (va_A (ob_wC t ac cn st Wt) sz) q := fun q h => Or.inr (hsz ▸ h)
  have hS : va_S (va_A (ob_wC t ac cn st Wt) sz) s.heap s.heap [] := va_S.rf
  have hl := lv_entry [.ref (ac 0), .int x, .int (ob_bi b)] (n := 4) (Nat.le_of_ble_eq_true rfl)
  rw [lg_entry_eq]
  generalize (lg_sl [.ref (ac 0), .int x, .int (ob_bi b)] ++ List.replicate (4 - (lg_sl [.ref (ac 0), .int x, .int (ob_bi b)]).length) Slot.unset).toArray = ls at hl ⊢
  have hl : lv_has ls 4 [(0, .ref (ac 0)), (1, .int x), (2, .int (ob_bi b))] := hl
  have hP : va_P D vwCl (ob_wC t ac cn st Wt) s.heap := hP
  refine lv_aload_n hx hb dX0_replaceStanding_0 rfl (lv_at hl 0 rfl) ?_
  refine va_get (ci := 0) (C := RX0) (T := TX0) (N := 3) hx hb hts (fun w h => List.mem_cons_of_mem _ (List.mem_append_right _ (h))) hown hK hP 0 rfl rfl 1 (by decide) (hts (Cond.fieldLink RX0 16 "OutageBook$Causes" "standing" "I") (List.mem_of_getElem? (i := 1) rfl)) (fun _ h9 => h9) rfl dX0_replaceStanding_1 ?_
  refine lv_iload_n hx hb dX0_replaceStanding_4 rfl (lv_at hl 1 rfl) ?_
  refine vp_callSi (va_Run.run (va_runSN (As := [.int st, .int x]) (rest := []) ⟨hx, hb, hml, hown, hts⟩ (c_X4_hasBit l D t st x) ⟨va_cnB 2 hts gX0_replaceStanding_X4_hasBit_n31 rfl rfl rfl hk.2.2.1 (hts (Cond.initialized RX4) (List.mem_of_getElem? (i := 3) rfl)) (by decide +kernel) ⟨Nat.le_of_ble_eq_true rfl, Nat.le_of_ble_eq_true rfl⟩, (hts (Cond.static yX4_hasBit) (List.mem_of_getElem? (i := 2) rfl)), trivial⟩ (ob_preS (hP.sub [] rfl) hk) rfl rfl hl.1 rfl (lv_room (Nat.le_of_ble_eq_true rfl)) dX0_replaceStanding_5 ⟨Nat.le_of_ble_eq_true rfl, Nat.le_of_ble_eq_true rfl⟩)) (fun r9 hr9 => ?_)
  subst hr9
  refine lv_istore_n (lv' := [(3, .int (ob_bi (ob_hb st x))), (0, .ref (ac 0)), (1, .int x), (2, .int (ob_bi b))]) hx hb dX0_replaceStanding_8 rfl hl (by decide) rfl (fun ls hl => ?_)
  refine lv_iload_n hx hb dX0_replaceStanding_9 rfl (lv_at hl 3 rfl) ?_
  refine ob_if_eq (tgt := 29) hx hb dX0_replaceStanding_10 (by decide) (fun c10 => ?_) (fun c10 => ?_)
  · refine lv_aload_n hx hb dX0_replaceStanding_29 rfl (lv_at hl 1 rfl) ?_
    refine lv_dup hx hb dX0_replaceStanding_30 rfl ?_
    refine va_get (ci := 0) (C := RX0) (T := TX0) (N := 3) hx hb hts (fun w h => List.mem_cons_of_mem _ (List.mem_append_right _ (h))) hown hK hP 0 rfl rfl 1 (by decide) (hts (Cond.fieldLink RX0 16 "OutageBook$Causes" "standing" "I") (List.mem_of_getElem? (i := 1) rfl)) (fun _ h9 => h9) rfl dX0_replaceStanding_31 ?_
    refine lv_iload_n hx hb dX0_replaceStanding_34 rfl (lv_at hl 2 rfl) ?_
    refine vp_callSi (va_Run.run (va_runSN (As := [.int x]) (rest := [.int st, .ref (ac 0)]) ⟨hx, hb, hml, hown, hts⟩ (c_X4_bit l D t x) ⟨va_cnB 1 hts gX0_replaceStanding_X4_bit_n23 rfl rfl rfl hk.2.1 (hts (Cond.initialized RX4) (List.mem_of_getElem? (i := 3) rfl)) (by decide +kernel) ⟨Nat.le_of_ble_eq_true rfl, Nat.le_of_ble_eq_true rfl⟩, (hts (Cond.static yX4_bit) (List.mem_of_getElem? (i := 6) rfl)), trivial⟩ (ob_preS (hP.sub [] rfl) hk) rfl rfl hl.1 rfl (lv_room (Nat.le_of_ble_eq_true rfl)) dX0_replaceStanding_35 ⟨Nat.le_of_ble_eq_true rfl, Nat.le_of_ble_eq_true rfl⟩)) (fun r9 hr9 => ?_)
    subst hr9
    refine lv_iconst (v := (-1)) hx hb dX0_replaceStanding_38 (by decide) ?_
    refine lv_ixor hx hb dX0_replaceStanding_39 ?_
    refine lv_iand hx hb dX0_replaceStanding_40 ?_
    refine va_put (ci := 0) (v := .int (st &&& ((ob_bit x) ^^^ (-1)))) (ty := .int) (C := RX0) (T := TX0) (N := 3) hx hb hts (fun w h => List.mem_cons_of_mem _ (List.mem_append_right _ (h))) tyX0 tyX0_ok nmX0 hown hK hP hD hS 0 rfl rfl 1 (by decide) (hts (Cond.fieldLink RX0 16 "OutageBook$Causes" "standing" "I") (List.mem_of_getElem? (i := 1) rfl)) (fun _ h9 => h9) rfl (by decide +kernel) rfl rfl (Nat.le_of_ble_eq_true rfl) dX0_replaceStanding_41 (fun H locs hP hD hS => ?_)
    have hP : va_P D vwCl (ob_wC t ac cn (st &&& ((ob_bit x) ^^^ (-1))) Wt) H := hP
    have hD : va_D (va_A (ob_wC t ac cn st Wt) sz) (ob_wC t ac cn (st &&& ((ob_bit x) ^^^ (-1))) Wt) := hD
    refine lv_iload_n hx hb dX0_replaceStanding_44 rfl (lv_at hl 0 rfl) ?_
    exact W.zret (v := ob_bi (ob_hb st x)) hx hb hr (ob_narZ _) (fun t9 ht hW => ⟨⟨ob_bi (ob_hb st x), (), rfl, rfl, ob_th ht (by rw [c10]; exact hP)⟩, hS.F ht⟩) hS.2.2 dX0_replaceStanding_45
  · refine lv_aload_n hx hb dX0_replaceStanding_13 rfl (lv_at hl 1 rfl) ?_
    refine lv_dup hx hb dX0_replaceStanding_14 rfl ?_
    refine va_get (ci := 0) (C := RX0) (T := TX0) (N := 3) hx hb hts (fun w h => List.mem_cons_of_mem _ (List.mem_append_right _ (h))) hown hK hP 0 rfl rfl 1 (by decide) (hts (Cond.fieldLink RX0 16 "OutageBook$Causes" "standing" "I") (List.mem_of_getElem? (i := 1) rfl)) (fun _ h9 => h9) rfl dX0_replaceStanding_15 ?_
    refine lv_iload_n hx hb dX0_replaceStanding_18 rfl (lv_at hl 2 rfl) ?_
    refine vp_callSi (va_Run.run (va_runSN (As := [.int x]) (rest := [.int st, .ref (ac 0)]) ⟨hx, hb, hml, hown, hts⟩ (c_X4_bit l D t x) ⟨va_cnB 1 hts gX0_replaceStanding_X4_bit_n23 rfl rfl rfl hk.2.1 (hts (Cond.initialized RX4) (List.mem_of_getElem? (i := 3) rfl)) (by decide +kernel) ⟨Nat.le_of_ble_eq_true rfl, Nat.le_of_ble_eq_true rfl⟩, (hts (Cond.static yX4_bit) (List.mem_of_getElem? (i := 6) rfl)), trivial⟩ (ob_preS (hP.sub [] rfl) hk) rfl rfl hl.1 rfl (lv_room (Nat.le_of_ble_eq_true rfl)) dX0_replaceStanding_19 ⟨Nat.le_of_ble_eq_true rfl, Nat.le_of_ble_eq_true rfl⟩)) (fun r9 hr9 => ?_)
    subst hr9
    refine lv_ior hx hb dX0_replaceStanding_22 ?_
    refine va_put (ci := 0) (v := .int (st ||| (ob_bit x))) (ty := .int) (C := RX0) (T := TX0) (N := 3) hx hb hts (fun w h => List.mem_cons_of_mem _ (List.mem_append_right _ (h))) tyX0 tyX0_ok nmX0 hown hK hP hD hS 0 rfl rfl 1 (by decide) (hts (Cond.fieldLink RX0 16 "OutageBook$Causes" "standing" "I") (List.mem_of_getElem? (i := 1) rfl)) (fun _ h9 => h9) rfl (by decide +kernel) rfl rfl (Nat.le_of_ble_eq_true rfl) dX0_replaceStanding_23 (fun H locs hP hD hS => ?_)
    have hP : va_P D vwCl (ob_wC t ac cn (st ||| (ob_bit x)) Wt) H := hP
    have hD : va_D (va_A (ob_wC t ac cn st Wt) sz) (ob_wC t ac cn (st ||| (ob_bit x)) Wt) := hD
    refine lv_goto (tgt := 44) hx hb dX0_replaceStanding_26 (by decide) ?_
    refine lv_iload_n hx hb dX0_replaceStanding_44 rfl (lv_at hl 0 rfl) ?_
    exact W.zret (v := ob_bi (ob_hb st x)) hx hb hr (ob_narZ _) (fun t9 ht hW => ⟨⟨ob_bi (ob_hb st x), (), rfl, rfl, ob_th ht (by rw [c10]; exact hP)⟩, hS.F ht⟩) hS.2.2 dX0_replaceStanding_45
