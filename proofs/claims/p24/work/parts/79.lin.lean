theorem ob_dXLGV {ax : Nat} {ao : Nat → Nat} {al : Nat → Nat} {am : Nat → Nat} {ac : Nat → Nat} {t : Nat → ClassId} {n : Nat} {cl : Nat → Int32} {rd : Nat → Int32} {sv : Nat → Int32} {pb : Nat → Int32} {ba : Nat → Int32} {bf : Nat → Int32} {od : Nat → Int32} {bg : Nat → Int64} {xg : Nat} {fg : Nat → Int32} {xm : Nat} {fm : Nat → Int32} {n' : Nat} {cl' : Nat → Int32} {rd' : Nat → Int32} {sv' : Nat → Int32} {pb' : Nat → Int32} {ba' : Nat → Int32} {bf' : Nat → Int32} {od' : Nat → Int32} {bg' : Nat → Int64} {fg' : Nat → Int32} {fm' : Nat → Int32} {A : Nat → Prop} (h : va_D A (ob_wX ax ao al am ac ++ ob_wL t al n cl rd sv pb ba bf od bg ++ ob_wG t xg fg ++ ob_wV t xm fm)) : va_D A (ob_wX ax ao al am ac ++ ob_wL t al n' cl' rd' sv' pb' ba' bf' od' bg' ++ ob_wG t xg fg' ++ ob_wV t xm fm') := ob_ds h rfl
set_option maxRecDepth 100000 in
set_option maxHeartbeats 16000000 in
theorem c_L_areLines (l : Launch) (hl9 : l.stackTraces = false) (sa : Nat → Nat) (D : va_G) (t : Nat → ClassId) (sz : Nat) (ax : Nat) (ao al am ac : Nat → Nat) (n : Nat) (cl rd sv pb ba bf od : Nat → Int32) (bg : Nat → Int64) (M : Nat → Nat → Int32) (xg xm : Nat) (fg fm : Nat → Int32) (x : Nat) (hM : ob_KM M) (hn : n ≤ 12) (hkc : ∀ k, cl k = nI (ob_kc cl k) ∧ ob_kc cl k ≤ 4) (hrd : ob_rdk rd) (hbf : ∀ j, j < n → bf j = ob_bs (fun i => ob_se M cl rd i j) n) (hod : ∀ j, j < n → od j = ob_nl bf n (ob_lf bf n j)) (hpb : ∀ k, pb k = nI 0 ∨ pb k = nI 1) (hg : ∀ k, k < n → fg (5 * k) = cl k ∧ fg (5 * k + 1) = rd k ∧ fg (5 * k + 2) = sv k ∧ fg (5 * k + 3) = pb k) (hg4 : ∀ k, k < 12 → fg (5 * k + 4) = ba k) (hf0 : fm 0 = nI n) (hx9 : x ≤ 1000000000) : Met l yL_areLines wsL_areLines ({ frames := 8, cells := 4, slots := 24, locals := 129 } : Room) (ob_PY D t (ob_wX ax ao al am ac ++ ob_wL t al n cl rd sv pb ba bf od bg ++ ob_wG t xg fg ++ ob_wV t xm fm) sz sa [.ref ax, .ref xg, .ref xm, .int (nI x)]) (va_Qi (fun (r : Int32) (_ : Unit) => r = nI 1) (fun (_ : Unit) (t9 : State) => va_P D vwCl (ob_wX ax ao al am ac ++ ob_wL t al n cl rd sv pb ba bf od bg ++ ob_wG t xg fg ++ ob_wV t xm fm) t9.heap) (va_A (ob_wX ax ao al am ac ++ ob_wL t al n cl rd sv pb ba bf od bg ++ ob_wG t xg fg ++ ob_wV t xm fm) sz)) 4 24 (va_A (ob_wX ax ao al am ac ++ ob_wL t al n cl rd sv pb ba bf od bg ++ ob_wG t xg fg ++ ob_wV t xm fm) sz) := by
  refine Met.ofW (cc := cL_areLines) (maxL := 14) (ret := (some .boolean)) (by decide) rfl ?_
  intro p e s m args below meth c s₁ B hml hv
  obtain ⟨rfl, hsz, hP, hk, hD0, hE0, hN⟩ := hv
  have hx := B.exec
  have hb := B.bytes
  have hr := B.returns
  have hts := atoms_spec (ws := wsL_areLines) B.pre
  have hown : s.vm.findClass RL = some m.cls := findClass_of_methodNamed B.named
  have hlocks := B.notSynchronized
  have hK := hk.1
  have hD : va_D (va_A (ob_wX ax ao al am ac ++ ob_wL t al n cl rd sv pb ba bf od bg ++ ob_wG t xg fg ++ ob_wV t xm fm) sz) (ob_wX ax ao al am ac ++ ob_wL t al n cl rd sv pb ba bf od bg ++ ob_wG t xg fg ++ ob_wV t xm fm) := hD0.self (sz := sz)
  have hA : ∀ q : Nat, s.heap.size ≤ q → (va_A (ob_wX ax ao al am ac ++ ob_wL t al n cl rd sv pb ba bf od bg ++ ob_wG t xg fg ++ ob_wV t xm fm) sz) q := fun q h => Or.inr (hsz ▸ h)
  have hS : va_S (va_A (ob_wX ax ao al am ac ++ ob_wL t al n cl rd sv pb ba bf od bg ++ ob_wG t xg fg ++ ob_wV t xm fm) sz) s.heap s.heap [] := va_S.rf
  have hl := lv_entry [.ref ax, .ref xg, .ref xm, .int (nI x)] (n := 14) (Nat.le_of_ble_eq_true rfl)
  rw [lg_entry_eq]
  generalize (lg_sl [.ref ax, .ref xg, .ref xm, .int (nI x)] ++ List.replicate (14 - (lg_sl [.ref ax, .ref xg, .ref xm, .int (nI x)]).length) Slot.unset).toArray = ls at hl ⊢
  have hl : lv_has ls 14 [(0, .ref ax), (1, .ref xg), (2, .ref xm), (3, .int (nI x))] := hl
  have hP : va_P D vwCl (ob_wX ax ao al am ac ++ ob_wL t al n cl rd sv pb ba bf od bg ++ ob_wG t xg fg ++ ob_wV t xm fm) s.heap := hP
  obtain ⟨pm, hpm, hord⟩ := ob_ordA (by omega) hM hkc hrd hbf hod
  refine lv_iconst (v := nI 0) hx hb dL_areLines_0 (by decide) ?_
  refine lv_istore (lv' := [(4, .int (nI 0)), (0, .ref ax), (1, .ref xg), (2, .ref xm), (3, .int (nI x))]) hx hb dL_areLines_1 hl (by decide) rfl (fun ls hl => ?_)
  refine lv_iconst (v := nI 0) hx hb dL_areLines_3 (by decide) ?_
  refine lv_istore (lv' := [(5, .int (nI 0)), (4, .int (nI 0)), (0, .ref ax), (1, .ref xg), (2, .ref xm), (3, .int (nI x))]) hx hb dL_areLines_4 hl (by decide) rfl (fun ls hl => ?_)
  refine lv_iconst (v := (-1)) hx hb dL_areLines_6 (by decide) ?_
  refine lv_istore (lv' := [(6, .int (-1)), (5, .int (nI 0)), (4, .int (nI 0)), (0, .ref ax), (1, .ref xg), (2, .ref xm), (3, .int (nI x))]) hx hb dL_areLines_7 hl (by decide) rfl (fun ls hl => ?_)
  refine lv_aload_n hx hb dL_areLines_9 rfl (lv_at hl 3 rfl) ?_
  refine vp_callSi (va_Run.run (va_runV (As := []) (rest := []) ⟨hx, hb, hml, hown, hts⟩ (c_X4_lines l D t ax ao al am ac n cl rd sv pb ba bf od bg) (cwV 0 hts gL_areLines_X4_lines rfl rfl rfl (by decide +kernel) ⟨Nat.le_of_ble_eq_true rfl, Nat.le_of_ble_eq_true rfl⟩) (ob_preV (ci := 4) (q0 := 0) (hP.sub [0, 1, 2, 3, 4, 5, 6, 7, 8, 9] rfl) hk rfl rfl) rfl rfl hl.1 rfl (lv_room (Nat.le_of_ble_eq_true rfl)) dL_areLines_10 ⟨Nat.le_of_ble_eq_true rfl, Nat.le_of_ble_eq_true rfl⟩)) (fun r9 hr9 => ?_)
  subst hr9
  refine lv_aload_n hx hb dL_areLines_13 rfl (lv_at hl 5 rfl) ?_
  refine lv_iconst (v := nI 0) hx hb dL_areLines_14 (by decide) ?_
  refine ob_iald hx hb hK hP 11 0 rfl rfl (by omega) (by decide) dL_areLines_15 ?_
  rw [show fm 0 = nI n from hf0]
  refine ob_icmp_ne (tgt := 51) hx hb (by omega) (by omega) dL_areLines_16 (by decide) (fun c16 => ?_) (fun c16 => ?_)
  · exact absurd rfl c16
  · refine lv_aload_n hx hb dL_areLines_19 rfl (lv_at hl 3 rfl) ?_
    refine lv_iconst (v := nI 4) hx hb dL_areLines_20 (by decide) ?_
    refine lv_aload_n hx hb dL_areLines_21 rfl (lv_at hl 5 rfl) ?_
    refine lv_iconst (v := nI 0) hx hb dL_areLines_22 (by decide) ?_
    refine ob_iald hx hb hK hP 11 0 rfl rfl (by omega) (by decide) dL_areLines_23 ?_
    rw [show fm 0 = nI n from hf0]
    refine lv_iconst (v := nI 0) hx hb dL_areLines_24 (by decide) ?_
    refine lv_iconst (v := nI 0) hx hb dL_areLines_25 (by decide) ?_
    have hFc := va_free (wc := ob_wX ax ao al am ac ++ ob_wL t al n cl rd sv pb ba bf od bg) hD hS hA [0, 1, 2, 3, 4, 5, 6, 7, 8, 9] rfl
    refine va_calli (ob_runN (vx_runSX (As := [.ref ax, .int (nI 4), .int (nI n), .int (nI 0), .int (nI 0)]) (rest := []) ⟨hx, hb, hml, hown, hts⟩ (y_act4_no0 l hl9 sa D t s.heap.size ax ao al am ac n cl rd sv pb ba bf od bg (nI n) (nI 0) (nI 0) (by first | assumption | omega) (by rw [ob_hd_ge (k := n) (Int32.le_refl _) (Nat.le_refl _) (by omega)]; rfl)) (vx_cwSW 5 hts gL_areLines_L_act rfl rfl rfl (by decide +kernel) ⟨Nat.le_of_ble_eq_true rfl, Nat.le_of_ble_eq_true rfl⟩) (ob_pYS (hP.sub [0, 1, 2, 3, 4, 5, 6, 7, 8, 9] rfl) (hD.sub [0, 1, 2, 3, 4, 5, 6, 7, 8, 9] (by decide) rfl) hk (ob_exN hE0 hS hFc) hN) rfl rfl hl.1 rfl (lv_room (Nat.le_of_ble_eq_true rfl)) dL_areLines_26 ⟨Nat.le_of_ble_eq_true rfl, Nat.le_of_ble_eq_true rfl⟩)) hS (fun q _ h => hFc q h) hFc (fun r9 u9 t9 H1 locs ht hvm hw9 hB hz1 hk1 hS => ?_)
    refine W.widen (k := 1) (n := 6) (Nat.le_of_ble_eq_true rfl) (Nat.le_of_ble_eq_true rfl) ?_
    rw [ht] at hB
    have hP := ob_jn (ws' := ob_wX ax ao al am ac ++ ob_wL t al n cl rd sv pb ba bf od bg ++ ob_wG t xg fg ++ ob_wV t xm fm) hP hD [some 0, some 1, some 2, some 3, some 4, some 5, some 6, some 7, some 8, some 9, none, none] [0, 1, 2, 3, 4, 5, 6, 7, 8, 9] rfl rfl hk1 hB rfl
    have hD : va_D (va_A (ob_wX ax ao al am ac ++ ob_wL t al n cl rd sv pb ba bf od bg ++ ob_wG t xg fg ++ ob_wV t xm fm) sz) (ob_wX ax ao al am ac ++ ob_wL t al n cl rd sv pb ba bf od bg ++ ob_wG t xg fg ++ ob_wV t xm fm) := ob_dXLGV hD
    generalize H1 = H at hP hS ⊢
    subst hw9
    refine lv_ldc (v := -3000001) hx hb hown (hts (Cond.constant RL 81 (-3000001)) (List.mem_of_getElem? (i := 1) rfl)) dL_areLines_29 ?_
    refine lv_icmp_ne (tgt := 51) hx hb dL_areLines_31 (by decide) (fun c9 => absurd c9 (by decide)) (fun _ => ?_)
    refine lv_aload_n hx hb dL_areLines_34 rfl (lv_at hl 3 rfl) ?_
    refine lv_iconst (v := nI 4) hx hb dL_areLines_35 (by decide) ?_
    refine lv_iconst (v := (-1)) hx hb dL_areLines_36 (by decide) ?_
    refine lv_iconst (v := nI 0) hx hb dL_areLines_37 (by decide) ?_
    refine lv_iconst (v := nI 0) hx hb dL_areLines_38 (by decide) ?_
    have hFc := va_free (wc := ob_wX ax ao al am ac ++ ob_wL t al n cl rd sv pb ba bf od bg) hD hS hA [0, 1, 2, 3, 4, 5, 6, 7, 8, 9] rfl
    refine va_calli (ob_runN (vx_runSX (As := [.ref ax, .int (nI 4), .int (-1), .int (nI 0), .int (nI 0)]) (rest := []) ⟨hx, hb, hml, hown, hts⟩ (y_act4_no0 l hl9 sa D t H.size ax ao al am ac n cl rd sv pb ba bf od bg (-1) (nI 0) (nI 0) (by first | assumption | omega) (by rw [ob_hd_m1]; rfl)) (vx_cwSW 5 hts gL_areLines_L_act rfl rfl rfl (by decide +kernel) ⟨Nat.le_of_ble_eq_true rfl, Nat.le_of_ble_eq_true rfl⟩) (ob_pYS (hP.sub [0, 1, 2, 3, 4, 5, 6, 7, 8, 9] rfl) (hD.sub [0, 1, 2, 3, 4, 5, 6, 7, 8, 9] (by decide) rfl) hk (ob_exN hE0 hS hFc) hN) rfl rfl hl.1 rfl (lv_room (Nat.le_of_ble_eq_true rfl)) dL_areLines_39 ⟨Nat.le_of_ble_eq_true rfl, Nat.le_of_ble_eq_true rfl⟩)) hS (fun q _ h => hFc q h) hFc (fun r9 u9 t9 H1 locs ht hvm hw9 hB hz1 hk1 hS => ?_)
    refine W.widen (k := 2) (n := 12) (Nat.le_of_ble_eq_true rfl) (Nat.le_of_ble_eq_true rfl) ?_
    rw [ht] at hB
    have hP := ob_jn (ws' := ob_wX ax ao al am ac ++ ob_wL t al n cl rd sv pb ba bf od bg ++ ob_wG t xg fg ++ ob_wV t xm fm) hP hD [some 0, some 1, some 2, some 3, some 4, some 5, some 6, some 7, some 8, some 9, none, none] [0, 1, 2, 3, 4, 5, 6, 7, 8, 9] rfl rfl hk1 hB rfl
    have hD : va_D (va_A (ob_wX ax ao al am ac ++ ob_wL t al n cl rd sv pb ba bf od bg ++ ob_wG t xg fg ++ ob_wV t xm fm) sz) (ob_wX ax ao al am ac ++ ob_wL t al n cl rd sv pb ba bf od bg ++ ob_wG t xg fg ++ ob_wV t xm fm) := ob_dXLGV hD
    generalize H1 = H at hP hS ⊢
    subst hw9
    refine lv_ldc (v := -3000001) hx hb hown (hts (Cond.constant RL 81 (-3000001)) (List.mem_of_getElem? (i := 1) rfl)) dL_areLines_42 ?_
    refine lv_icmp_ne (tgt := 51) hx hb dL_areLines_44 (by decide) (fun c9 => absurd c9 (by decide)) (fun _ => ?_)
    refine lv_iconst (v := nI 1) hx hb dL_areLines_47 (by decide) ?_
    refine lv_goto (tgt := 52) hx hb dL_areLines_48 (by decide) ?_
    refine lv_istore (lv' := [(7, .int (nI 1)), (6, .int (-1)), (5, .int (nI 0)), (4, .int (nI 0)), (0, .ref ax), (1, .ref xg), (2, .ref xm), (3, .int (nI x))]) hx hb dL_areLines_52 hl (by decide) rfl (fun ls hl => ?_)
    refine lv_iconst (v := nI 0) hx hb dL_areLines_54 (by decide) ?_
    refine lv_istore (lv' := [(8, .int (nI 0)), (7, .int (nI 1)), (6, .int (-1)), (5, .int (nI 0)), (4, .int (nI 0)), (0, .ref ax), (1, .ref xg), (2, .ref xm), (3, .int (nI x))]) hx hb dL_areLines_55 hl (by decide) rfl (fun ls hl => ?_)
    have k57 : ∀ fu : Nat, ∀ (k : Nat) (w6 : Int32), n - k < fu → (k ≤ n) → (ob_fi sv pm (nI (x % 6)) k w6) → ∀ ls : Array Slot, lv_has ls 14 [(0, .ref ax), (1, .ref xg), (2, .ref xm), (3, .int (nI x)), (4, .int (nI (ob_ct (ob_is n pb ba od) k))), (5, .int (ob_sn od k)), (6, .int w6), (7, .int (nI 1)), (8, .int (nI k))] → W p l e (headSpec wsL_areLines ({ frames := 8, cells := 4, slots := 24, locals := 129 } : Room)).room s m ([.ref ax, .ref xg, .ref xm, .int (nI x)] : List Value).toArray below meth c H locs 2 12 (MQ below (va_Qi (fun (r : Int32) (_ : Unit) => r = nI 1) (fun (_ : Unit) (t9 : State) => va_P D vwCl (ob_wX ax ao al am ac ++ ob_wL t al n cl rd sv pb ba bf od bg ++ ob_wG t xg fg ++ ob_wV t xm fm) t9.heap) (va_A (ob_wX ax ao al am ac ++ ob_wL t al n cl rd sv pb ba bf od bg ++ ob_wG t xg fg ++ ob_wV t xm fm) sz)) ([.ref ax, .ref xg, .ref xm, .int (nI x)] : List Value).toArray s 4 24 (va_A (ob_wX ax ao al am ac ++ ob_wL t al n cl rd sv pb ba bf od bg ++ ob_wG t xg fg ++ ob_wV t xm fm) sz)) (F0 m 57 ls []) := by
      intro fu
      induction fu with
      | zero => intro k w6 hfu; exact absurd hfu (Nat.not_lt_zero _)
      | succ fu ih =>
        intro k w6 hfu hq h6 ls hl
        have ih57 := ih
        refine lv_iload hx hb dL_areLines_57 (lv_at hl 8 rfl) ?_
        refine lv_aload_n hx hb dL_areLines_59 rfl (lv_at hl 2 rfl) ?_
        refine lv_iconst (v := nI 0) hx hb dL_areLines_60 (by decide) ?_
        refine ob_iald hx hb hK hP 11 0 rfl rfl (by omega) (by decide) dL_areLines_61 ?_
        rw [show fm 0 = nI n from hf0]
        refine ob_icmp_ge (tgt := 372) hx hb (by omega) (by omega) dL_areLines_62 (by decide) (fun c62 => ?_) (fun c62 => ?_)
        · obtain rfl : n = k := Nat.le_antisymm c62 hq
          have hctn := ob_ct_le (ob_is n pb ba od) n
          refine lv_iload hx hb dL_areLines_372 (lv_at hl 7 rfl) ?_
          refine lv_if_eq (tgt := 432) hx hb dL_areLines_374 (by decide) (fun c9 => absurd c9 (by decide)) (fun _ => ?_)
          refine lv_aload_n hx hb dL_areLines_377 rfl (lv_at hl 0 rfl) ?_
          refine vp_callSi (va_Run.run (va_runV (As := []) (rest := []) ⟨hx, hb, hml, hown, hts⟩ (c_X4_story l D t ax ao al am ac n cl rd sv pb ba bf od bg (by first | assumption | omega)) (cwV 0 hts gL_areLines_X4_story rfl rfl rfl (by decide +kernel) ⟨Nat.le_of_ble_eq_true rfl, Nat.le_of_ble_eq_true rfl⟩) (ob_preV (ci := 4) (q0 := 0) (hP.sub [0, 1, 2, 3, 4, 5, 6, 7, 8, 9] rfl) hk rfl rfl) rfl rfl hl.1 rfl (lv_room (Nat.le_of_ble_eq_true rfl)) dL_areLines_378 ⟨Nat.le_of_ble_eq_true rfl, Nat.le_of_ble_eq_true rfl⟩)) (fun r9 hr9 => ?_)
          subst hr9
          refine lv_iload hx hb dL_areLines_381 (lv_at hl 4 rfl) ?_
          refine ob_icmp_ne (tgt := 432) hx hb (by omega) (by omega) dL_areLines_383 (by decide) (fun c383 => ?_) (fun c383 => ?_)
          · exact absurd rfl c383
          · refine lv_aload_n hx hb dL_areLines_386 rfl (lv_at hl 0 rfl) ?_
            refine lv_bipush (v := nI 6) hx hb dL_areLines_387 (by decide) ?_
            refine lv_iload hx hb dL_areLines_389 (lv_at hl 4 rfl) ?_
            refine lv_iconst (v := nI 0) hx hb dL_areLines_391 (by decide) ?_
            refine lv_iconst (v := nI 0) hx hb dL_areLines_392 (by decide) ?_
            have hFc := va_free (wc := ob_wX ax ao al am ac ++ ob_wL t al n cl rd sv pb ba bf od bg) hD hS hA [0, 1, 2, 3, 4, 5, 6, 7, 8, 9] rfl
            refine va_calli (ob_runN (vx_runSX (As := [.ref ax, .int (nI 6), .int (nI (ob_ct (ob_is n pb ba od) n)), .int (nI 0), .int (nI 0)]) (rest := []) ⟨hx, hb, hml, hown, hts⟩ (y_act6_no0 l hl9 sa D t H.size ax ao al am ac n cl rd sv pb ba bf od bg pm (nI (ob_ct (ob_is n pb ba od) n)) (nI 0) (nI 0) (by first | assumption | omega) hpm (by rw [ob_sx_hd (by omega), ob_hd_ge (k := ob_ct (ob_is n pb ba od) n) (Int32.le_refl _) (Nat.le_refl _) (by have := ob_ct_le (ob_is n pb ba od) n; omega)]; rfl)) (vx_cwSW 5 hts gL_areLines_L_act rfl rfl rfl (by decide +kernel) ⟨Nat.le_of_ble_eq_true rfl, Nat.le_of_ble_eq_true rfl⟩) (ob_pYS (hP.sub [0, 1, 2, 3, 4, 5, 6, 7, 8, 9] rfl) (hD.sub [0, 1, 2, 3, 4, 5, 6, 7, 8, 9] (by decide) rfl) hk (ob_exN hE0 hS hFc) hN) rfl rfl hl.1 rfl (lv_room (Nat.le_of_ble_eq_true rfl)) dL_areLines_393 ⟨Nat.le_of_ble_eq_true rfl, Nat.le_of_ble_eq_true rfl⟩)) hS (fun q _ h => hFc q h) hFc (fun r9 u9 t9 H1 locs ht hvm hw9 hB hz1 hk1 hS => ?_)
            refine W.widen (k := 3) (n := 18) (Nat.le_of_ble_eq_true rfl) (Nat.le_of_ble_eq_true rfl) ?_
            rw [ht] at hB
            have hP := ob_jn (ws' := ob_wX ax ao al am ac ++ ob_wL t al n cl rd sv pb ba bf od bg ++ ob_wG t xg fg ++ ob_wV t xm fm) hP hD [some 0, some 1, some 2, some 3, some 4, some 5, some 6, some 7, some 8, some 9, none, none] [0, 1, 2, 3, 4, 5, 6, 7, 8, 9] rfl rfl hk1 hB rfl
            have hD : va_D (va_A (ob_wX ax ao al am ac ++ ob_wL t al n cl rd sv pb ba bf od bg ++ ob_wG t xg fg ++ ob_wV t xm fm) sz) (ob_wX ax ao al am ac ++ ob_wL t al n cl rd sv pb ba bf od bg ++ ob_wG t xg fg ++ ob_wV t xm fm) := ob_dXLGV hD
            generalize H1 = H at hP hS ⊢
            subst hw9
            refine lv_ldc (v := -3000001) hx hb hown (hts (Cond.constant RL 81 (-3000001)) (List.mem_of_getElem? (i := 1) rfl)) dL_areLines_396 ?_
            refine lv_icmp_ne (tgt := 432) hx hb dL_areLines_398 (by decide) (fun c9 => absurd c9 (by decide)) (fun _ => ?_)
            refine lv_aload_n hx hb dL_areLines_401 rfl (lv_at hl 0 rfl) ?_
            refine lv_bipush (v := nI 6) hx hb dL_areLines_402 (by decide) ?_
            refine lv_iconst (v := (-1)) hx hb dL_areLines_404 (by decide) ?_
            refine lv_iconst (v := nI 0) hx hb dL_areLines_405 (by decide) ?_
            refine lv_iconst (v := nI 0) hx hb dL_areLines_406 (by decide) ?_
            have hFc := va_free (wc := ob_wX ax ao al am ac ++ ob_wL t al n cl rd sv pb ba bf od bg) hD hS hA [0, 1, 2, 3, 4, 5, 6, 7, 8, 9] rfl
            refine va_calli (ob_runN (vx_runSX (As := [.ref ax, .int (nI 6), .int (-1), .int (nI 0), .int (nI 0)]) (rest := []) ⟨hx, hb, hml, hown, hts⟩ (y_act6_no0 l hl9 sa D t H.size ax ao al am ac n cl rd sv pb ba bf od bg pm (-1) (nI 0) (nI 0) (by first | assumption | omega) hpm (by rw [ob_sx_hd (by omega), ob_hd_m1]; rfl)) (vx_cwSW 5 hts gL_areLines_L_act rfl rfl rfl (by decide +kernel) ⟨Nat.le_of_ble_eq_true rfl, Nat.le_of_ble_eq_true rfl⟩) (ob_pYS (hP.sub [0, 1, 2, 3, 4, 5, 6, 7, 8, 9] rfl) (hD.sub [0, 1, 2, 3, 4, 5, 6, 7, 8, 9] (by decide) rfl) hk (ob_exN hE0 hS hFc) hN) rfl rfl hl.1 rfl (lv_room (Nat.le_of_ble_eq_true rfl)) dL_areLines_407 ⟨Nat.le_of_ble_eq_true rfl, Nat.le_of_ble_eq_true rfl⟩)) hS (fun q _ h => hFc q h) hFc (fun r9 u9 t9 H1 locs ht hvm hw9 hB hz1 hk1 hS => ?_)
            refine W.widen (k := 4) (n := 24) (Nat.le_of_ble_eq_true rfl) (Nat.le_of_ble_eq_true rfl) ?_
            rw [ht] at hB
            have hP := ob_jn (ws' := ob_wX ax ao al am ac ++ ob_wL t al n cl rd sv pb ba bf od bg ++ ob_wG t xg fg ++ ob_wV t xm fm) hP hD [some 0, some 1, some 2, some 3, some 4, some 5, some 6, some 7, some 8, some 9, none, none] [0, 1, 2, 3, 4, 5, 6, 7, 8, 9] rfl rfl hk1 hB rfl
            have hD : va_D (va_A (ob_wX ax ao al am ac ++ ob_wL t al n cl rd sv pb ba bf od bg ++ ob_wG t xg fg ++ ob_wV t xm fm) sz) (ob_wX ax ao al am ac ++ ob_wL t al n cl rd sv pb ba bf od bg ++ ob_wG t xg fg ++ ob_wV t xm fm) := ob_dXLGV hD
            generalize H1 = H at hP hS ⊢
            subst hw9
            refine lv_ldc (v := -3000001) hx hb hown (hts (Cond.constant RL 81 (-3000001)) (List.mem_of_getElem? (i := 1) rfl)) dL_areLines_410 ?_
            refine lv_icmp_ne (tgt := 432) hx hb dL_areLines_412 (by decide) (fun c9 => absurd c9 (by decide)) (fun _ => ?_)
            refine lv_aload_n hx hb dL_areLines_415 rfl (lv_at hl 0 rfl) ?_
            refine lv_iload_n hx hb dL_areLines_416 rfl (lv_at hl 3 rfl) ?_
            refine lv_bipush (v := nI 6) hx hb dL_areLines_417 (by decide) ?_
            refine lv_irem hx hb dL_areLines_419 (by decide) ?_
            rw [show (nI x) - (nI x) / (nI 6) * (nI 6) = nI (x % 6) from pk_rem (by omega) (by omega) (by omega)]
            refine vp_callSi (va_Run.run (va_runV (As := [.int (nI (x % 6))]) (rest := []) ⟨hx, hb, hml, hown, hts⟩ (n_X4_firstOf l D t ax ao al am ac n cl rd sv pb ba bf od bg (x % 6) (by first | assumption | omega) (by first | assumption | omega)) (cwV 1 hts gL_areLines_X4_firstOf rfl rfl rfl (by decide +kernel) ⟨Nat.le_of_ble_eq_true rfl, Nat.le_of_ble_eq_true rfl⟩) (ob_preV (ci := 4) (q0 := 0) (hP.sub [0, 1, 2, 3, 4, 5, 6, 7, 8, 9] rfl) hk rfl rfl) rfl rfl hl.1 rfl (lv_room (Nat.le_of_ble_eq_true rfl)) dL_areLines_420 ⟨Nat.le_of_ble_eq_true rfl, Nat.le_of_ble_eq_true rfl⟩)) (fun r420 e420 => ?_)
            refine lv_iload hx hb dL_areLines_423 (lv_at hl 6 rfl) ?_
            refine lv_icmp_ne (tgt := 432) hx hb dL_areLines_425 (by decide) (fun c425 => ?_) (fun c425 => ?_)
            · exact absurd (ob_fi_e (by omega) hpm h6 e420) c425
            · refine lv_iconst (v := nI 1) hx hb dL_areLines_428 (by decide) ?_
              refine lv_goto (tgt := 433) hx hb dL_areLines_429 (by decide) ?_
              refine W.widen (k := 4) (n := 24) (Nat.le_of_ble_eq_true rfl) (Nat.le_of_ble_eq_true rfl) ?_
              exact W.zret (v := nI 1) hx hb hr rfl (fun t9 ht hW => ⟨⟨nI 1, (), rfl, rfl, ob_th ht hP⟩, hS.F ht⟩) hS.2.2 dL_areLines_433
        · obtain ⟨hunk, hmin, hlow⟩ := hord k c62
          have hpk : pm k < n := (hpm k c62).2
          refine lv_iload hx hb dL_areLines_65 (lv_at hl 7 rfl) ?_
          refine lv_if_eq (tgt := 372) hx hb dL_areLines_67 (by decide) (fun c9 => absurd c9 (by decide)) (fun _ => ?_)
          refine lv_aload_n hx hb dL_areLines_70 rfl (lv_at hl 0 rfl) ?_
          refine lv_iload hx hb dL_areLines_71 (lv_at hl 8 rfl) ?_
          refine vp_callSi (va_Run.run (va_runV (As := [.int (nI k)]) (rest := []) ⟨hx, hb, hml, hown, hts⟩ (n_X4_lineAt l D t ax ao al am ac n cl rd sv pb ba bf od bg k (by first | assumption | omega) (by first | assumption | omega)) (cwV 1 hts gL_areLines_X4_lineAt rfl rfl rfl (by decide +kernel) ⟨Nat.le_of_ble_eq_true rfl, Nat.le_of_ble_eq_true rfl⟩) (ob_preV (ci := 4) (q0 := 0) (hP.sub [0, 1, 2, 3, 4, 5, 6, 7, 8, 9] rfl) hk rfl rfl) rfl rfl hl.1 rfl (lv_room (Nat.le_of_ble_eq_true rfl)) dL_areLines_73 ⟨Nat.le_of_ble_eq_true rfl, Nat.le_of_ble_eq_true rfl⟩)) (fun r9 hr9 => ?_)
          subst hr9
          rw [show (od k) = (nI (pm k)) from (hpm k c62).1]
          refine lv_istore (lv' := [(9, .int (nI (pm k))), (0, .ref ax), (1, .ref xg), (2, .ref xm), (3, .int (nI x)), (4, .int (nI (ob_ct (ob_is n pb ba od) k))), (5, .int (ob_sn od k)), (6, .int w6), (7, .int (nI 1)), (8, .int (nI k))]) hx hb dL_areLines_76 hl (by decide) rfl (fun ls hl => ?_)
          refine lv_iload hx hb dL_areLines_78 (lv_at hl 0 rfl) ?_
          refine ob_nif_lt (tgt := 130) hx hb (by omega) dL_areLines_80 (by decide) (fun c80 => ?_) (fun c80 => ?_)
          · exact c80.elim
          · refine lv_iload hx hb dL_areLines_83 (lv_at hl 0 rfl) ?_
            refine lv_aload_n hx hb dL_areLines_85 rfl (lv_at hl 3 rfl) ?_
            refine lv_iconst (v := nI 0) hx hb dL_areLines_86 (by decide) ?_
            refine ob_iald hx hb hK hP 11 0 rfl rfl (by omega) (by decide) dL_areLines_87 ?_
            rw [show fm 0 = nI n from hf0]
            refine ob_icmp_ge (tgt := 130) hx hb (by omega) (by omega) dL_areLines_88 (by decide) (fun c88 => ?_) (fun c88 => ?_)
            · exact absurd c88 (by omega)
            · refine lv_iload hx hb dL_areLines_91 (lv_at hl 6 rfl) ?_
              refine lv_iload hx hb dL_areLines_93 (lv_at hl 0 rfl) ?_
              refine lv_ishr hx hb dL_areLines_95 ?_
              refine lv_iconst (v := nI 1) hx hb dL_areLines_96 (by decide) ?_
              refine lv_iand hx hb dL_areLines_97 ?_
              rw [show ((ob_sn od k) >>> ((nI (pm k)) &&& 31)) &&& (nI 1) = ob_bi (ob_hb (ob_sn od k) (nI (pm k))) from (ob_sh1 (by omega))]
              refine ob_if_ne (tgt := 130) hx hb dL_areLines_98 (by decide) (fun c98 => ?_) (fun c98 => ?_)
              · rw [ob_hb_bx (by omega), hunk] at c98; cases c98
              · have k126 : ∀ ls : Array Slot, lv_has ls 14 [(0, .ref ax), (1, .ref xg), (2, .ref xm), (3, .int (nI x)), (4, .int (nI (ob_ct (ob_is n pb ba od) k))), (5, .int (ob_sn od k)), (6, .int w6), (7, .int (nI 1)), (8, .int (nI k)), (9, .int (nI (pm k)))] → W p l e (headSpec wsL_areLines ({ frames := 8, cells := 4, slots := 24, locals := 129 } : Room)).room s m ([.ref ax, .ref xg, .ref xm, .int (nI x)] : List Value).toArray below meth c H locs 2 12 (MQ below (va_Qi (fun (r : Int32) (_ : Unit) => r = nI 1) (fun (_ : Unit) (t9 : State) => va_P D vwCl (ob_wX ax ao al am ac ++ ob_wL t al n cl rd sv pb ba bf od bg ++ ob_wG t xg fg ++ ob_wV t xm fm) t9.heap) (va_A (ob_wX ax ao al am ac ++ ob_wL t al n cl rd sv pb ba bf od bg ++ ob_wG t xg fg ++ ob_wV t xm fm) sz)) ([.ref ax, .ref xg, .ref xm, .int (nI x)] : List Value).toArray s 4 24 (va_A (ob_wX ax ao al am ac ++ ob_wL t al n cl rd sv pb ba bf od bg ++ ob_wG t xg fg ++ ob_wV t xm fm) sz)) (F0 m 126 ls []) := by
                  intro   ls hl
                  refine lv_iconst (v := nI 1) hx hb dL_areLines_126 (by decide) ?_
                  refine lv_goto (tgt := 131) hx hb dL_areLines_127 (by decide) ?_
                  refine lv_istore (lv' := [(7, .int (nI 1)), (0, .ref ax), (1, .ref xg), (2, .ref xm), (3, .int (nI x)), (4, .int (nI (ob_ct (ob_is n pb ba od) k))), (5, .int (ob_sn od k)), (6, .int w6), (8, .int (nI k)), (9, .int (nI (pm k)))]) hx hb dL_areLines_131 hl (by decide) rfl (fun ls hl => ?_)
                  refine lv_iconst (v := nI 0) hx hb dL_areLines_133 (by decide) ?_
                  refine lv_istore (lv' := [(10, .int (nI 0)), (7, .int (nI 1)), (0, .ref ax), (1, .ref xg), (2, .ref xm), (3, .int (nI x)), (4, .int (nI (ob_ct (ob_is n pb ba od) k))), (5, .int (ob_sn od k)), (6, .int w6), (8, .int (nI k)), (9, .int (nI (pm k)))]) hx hb dL_areLines_134 hl (by decide) rfl (fun ls hl => ?_)
                  have k136 : ∀ fu : Nat, ∀ (o : Nat), n - o < fu → (o ≤ n) → ∀ ls : Array Slot, lv_has ls 14 [(0, .ref ax), (1, .ref xg), (2, .ref xm), (3, .int (nI x)), (4, .int (nI (ob_ct (ob_is n pb ba od) k))), (5, .int (ob_sn od k)), (6, .int w6), (7, .int (nI 1)), (8, .int (nI k)), (9, .int (nI (pm k))), (10, .int (nI o))] → W p l e (headSpec wsL_areLines ({ frames := 8, cells := 4, slots := 24, locals := 129 } : Room)).room s m ([.ref ax, .ref xg, .ref xm, .int (nI x)] : List Value).toArray below meth c H locs 2 12 (MQ below (va_Qi (fun (r : Int32) (_ : Unit) => r = nI 1) (fun (_ : Unit) (t9 : State) => va_P D vwCl (ob_wX ax ao al am ac ++ ob_wL t al n cl rd sv pb ba bf od bg ++ ob_wG t xg fg ++ ob_wV t xm fm) t9.heap) (va_A (ob_wX ax ao al am ac ++ ob_wL t al n cl rd sv pb ba bf od bg ++ ob_wG t xg fg ++ ob_wV t xm fm) sz)) ([.ref ax, .ref xg, .ref xm, .int (nI x)] : List Value).toArray s 4 24 (va_A (ob_wX ax ao al am ac ++ ob_wL t al n cl rd sv pb ba bf od bg ++ ob_wG t xg fg ++ ob_wV t xm fm) sz)) (F0 m 136 ls []) := by
                    intro fu
                    induction fu with
                    | zero => intro o hfu; exact absurd hfu (Nat.not_lt_zero _)
                    | succ fu ih =>
                      intro o hfu ho ls hl
                      have ih136 := ih
                      refine lv_iload hx hb dL_areLines_136 (lv_at hl 10 rfl) ?_
                      refine lv_aload_n hx hb dL_areLines_138 rfl (lv_at hl 2 rfl) ?_
                      refine lv_iconst (v := nI 0) hx hb dL_areLines_139 (by decide) ?_
                      refine ob_iald hx hb hK hP 11 0 rfl rfl (by omega) (by decide) dL_areLines_140 ?_
                      rw [show fm 0 = nI n from hf0]
                      refine ob_icmp_ge (tgt := 279) hx hb (by omega) (by omega) dL_areLines_141 (by decide) (fun c141 => ?_) (fun c141 => ?_)
                      · have k306 : ∀ (w7 : Int32), (ob_fi sv pm (nI (x % 6)) (k + 1) w7) → ∀ ls : Array Slot, lv_has ls 14 [(0, .ref ax), (1, .ref xg), (2, .ref xm), (3, .int (nI x)), (4, .int (nI (ob_ct (ob_is n pb ba od) k))), (5, .int (ob_sn od k)), (6, .int w6), (7, .int (nI 1)), (8, .int (nI k)), (9, .int (nI (pm k)))] → W p l e (headSpec wsL_areLines ({ frames := 8, cells := 4, slots := 24, locals := 129 } : Room)).room s m ([.ref ax, .ref xg, .ref xm, .int (nI x)] : List Value).toArray below meth c H locs 2 12 (MQ below (va_Qi (fun (r : Int32) (_ : Unit) => r = nI 1) (fun (_ : Unit) (t9 : State) => va_P D vwCl (ob_wX ax ao al am ac ++ ob_wL t al n cl rd sv pb ba bf od bg ++ ob_wG t xg fg ++ ob_wV t xm fm) t9.heap) (va_A (ob_wX ax ao al am ac ++ ob_wL t al n cl rd sv pb ba bf od bg ++ ob_wG t xg fg ++ ob_wV t xm fm) sz)) ([.ref ax, .ref xg, .ref xm, .int (nI x)] : List Value).toArray s 4 24 (va_A (ob_wX ax ao al am ac ++ ob_wL t al n cl rd sv pb ba bf od bg ++ ob_wG t xg fg ++ ob_wV t xm fm) sz)) (F0 m 306 ls [.int w7]) := by
                          intro w7 h7 ls hl
                          refine lv_istore (lv' := [(6, .int w7), (0, .ref ax), (1, .ref xg), (2, .ref xm), (3, .int (nI x)), (4, .int (nI (ob_ct (ob_is n pb ba od) k))), (5, .int (ob_sn od k)), (7, .int (nI 1)), (8, .int (nI k)), (9, .int (nI (pm k)))]) hx hb dL_areLines_306 hl (by decide) rfl (fun ls hl => ?_)
                          refine lv_iload hx hb dL_areLines_308 (lv_at hl 6 rfl) ?_
                          refine lv_iconst (v := nI 1) hx hb dL_areLines_310 (by decide) ?_
                          refine lv_iload hx hb dL_areLines_311 (lv_at hl 9 rfl) ?_
                          refine lv_ishl hx hb dL_areLines_313 ?_
                          refine lv_ior hx hb dL_areLines_314 ?_
                          rw [show (ob_sn od k) ||| ((nI 1) <<< ((nI (pm k)) &&& 31)) = ob_sn od (k + 1) from (by rw [ob_sn, (hpm k c62).1]; rfl)]
                          refine lv_istore (lv' := [(5, .int (ob_sn od (k + 1))), (6, .int w7), (0, .ref ax), (1, .ref xg), (2, .ref xm), (3, .int (nI x)), (4, .int (nI (ob_ct (ob_is n pb ba od) k))), (7, .int (nI 1)), (8, .int (nI k)), (9, .int (nI (pm k)))]) hx hb dL_areLines_315 hl (by decide) rfl (fun ls hl => ?_)
                          have k366 : ∀ (q4 : Nat), (q4 = ob_ct (ob_is n pb ba od) (k + 1)) → ∀ ls : Array Slot, lv_has ls 14 [(0, .ref ax), (1, .ref xg), (2, .ref xm), (3, .int (nI x)), (4, .int (nI q4)), (5, .int (ob_sn od (k + 1))), (6, .int w7), (7, .int (nI 1)), (8, .int (nI k))] → W p l e (headSpec wsL_areLines ({ frames := 8, cells := 4, slots := 24, locals := 129 } : Room)).room s m ([.ref ax, .ref xg, .ref xm, .int (nI x)] : List Value).toArray below meth c H locs 2 12 (MQ below (va_Qi (fun (r : Int32) (_ : Unit) => r = nI 1) (fun (_ : Unit) (t9 : State) => va_P D vwCl (ob_wX ax ao al am ac ++ ob_wL t al n cl rd sv pb ba bf od bg ++ ob_wG t xg fg ++ ob_wV t xm fm) t9.heap) (va_A (ob_wX ax ao al am ac ++ ob_wL t al n cl rd sv pb ba bf od bg ++ ob_wG t xg fg ++ ob_wV t xm fm) sz)) ([.ref ax, .ref xg, .ref xm, .int (nI x)] : List Value).toArray s 4 24 (va_A (ob_wX ax ao al am ac ++ ob_wL t al n cl rd sv pb ba bf od bg ++ ob_wG t xg fg ++ ob_wV t xm fm) sz)) (F0 m 366 ls []) := by
                            intro q4 h4 ls hl
                            subst h4
                            refine ob_inc (k := 8) (lv' := [(8, .int (nI (k + 1))), (0, .ref ax), (1, .ref xg), (2, .ref xm), (3, .int (nI x)), (4, .int (nI (ob_ct (ob_is n pb ba od) (k + 1)))), (5, .int (ob_sn od (k + 1))), (6, .int w7), (7, .int (nI 1))]) hx hb dL_areLines_366 hl rfl (by decide) rfl (fun ls hl => ?_)
                            refine lv_goto (tgt := 57) hx hb dL_areLines_369 (by decide) ?_
                            exact ih57 (k + 1) w7 (by omega) (by omega) (by first | exact ob_fi_0 | exact h7) _ (lv_sub hl [1, 2, 3, 4, 5, 6, 7, 8, 0] rfl)
                          refine lv_iload hx hb dL_areLines_317 (lv_at hl 7 rfl) ?_
                          refine lv_if_eq (tgt := 366) hx hb dL_areLines_319 (by decide) (fun c9 => absurd c9 (by decide)) (fun _ => ?_)
                          refine lv_aload_n hx hb dL_areLines_322 rfl (lv_at hl 3 rfl) ?_
                          refine lv_iconst (v := nI 5) hx hb dL_areLines_323 (by decide) ?_
                          refine lv_iload hx hb dL_areLines_324 (lv_at hl 9 rfl) ?_
                          refine lv_imul hx hb dL_areLines_326 ?_
                          rw [show (nI 5) * (nI (pm k)) = nI (5 * (pm k)) from pk_mul _ _]
                          refine lv_iconst (v := nI 3) hx hb dL_areLines_327 (by decide) ?_
                          refine lv_iadd hx hb dL_areLines_328 ?_
                          rw [show (nI (5 * (pm k))) + (nI 3) = nI ((5 * (pm k)) + 3) from nI_add _ _]
                          refine ob_iald hx hb hK hP 10 0 rfl rfl (by omega) (by decide) dL_areLines_329 ?_
                          rw [show fg ((5 * (pm k)) + 3) = pb (pm k) from ((hg (pm k) hpk).2.2.2)]
                          refine lv_iconst (v := nI 1) hx hb dL_areLines_330 (by decide) ?_
                          refine lv_icmp_ne (tgt := 366) hx hb dL_areLines_331 (by decide) (fun c331 => ?_) (fun c331 => ?_)
                          · exact k366 (ob_ct (ob_is n pb ba od) k) (by first | (rw [ob_ct, ob_isF1 (by omega) hpm c62 hpb c331]; rfl; done) | (rw [ob_ct, ob_isF2 (by omega) hpm c62 c342]; rfl; done) | (rw [ob_ct, ob_isT (by omega) hpm c62 c331 c342]; rfl; done)) _ (lv_sub hl [2, 3, 4, 5, 6, 0, 1, 7, 8] rfl)
                          · refine lv_aload_n hx hb dL_areLines_334 rfl (lv_at hl 3 rfl) ?_
                            refine lv_iconst (v := nI 5) hx hb dL_areLines_335 (by decide) ?_
                            refine lv_iload hx hb dL_areLines_336 (lv_at hl 9 rfl) ?_
                            refine lv_imul hx hb dL_areLines_338 ?_
                            rw [show (nI 5) * (nI (pm k)) = nI (5 * (pm k)) from pk_mul _ _]
                            refine lv_iconst (v := nI 4) hx hb dL_areLines_339 (by decide) ?_
                            refine lv_iadd hx hb dL_areLines_340 ?_
                            rw [show (nI (5 * (pm k))) + (nI 4) = nI ((5 * (pm k)) + 4) from nI_add _ _]
                            refine ob_iald hx hb hK hP 10 0 rfl rfl (by omega) (by decide) dL_areLines_341 ?_
                            rw [show fg ((5 * (pm k)) + 4) = ba (pm k) from (hg4 (pm k) (by omega))]
                            refine lv_if_lt (tgt := 366) hx hb dL_areLines_342 (by decide) (fun c342 => ?_) (fun c342 => ?_)
                            · exact k366 (ob_ct (ob_is n pb ba od) k) (by first | (rw [ob_ct, ob_isF1 (by omega) hpm c62 hpb c331]; rfl; done) | (rw [ob_ct, ob_isF2 (by omega) hpm c62 c342]; rfl; done) | (rw [ob_ct, ob_isT (by omega) hpm c62 c331 c342]; rfl; done)) _ (lv_sub hl [2, 3, 4, 5, 6, 0, 1, 7, 8] rfl)
                            · refine lv_aload_n hx hb dL_areLines_345 rfl (lv_at hl 2 rfl) ?_
                              refine lv_iload hx hb dL_areLines_346 (lv_at hl 6 rfl) ?_
                              refine vp_callSi (va_Run.run (va_runV (As := [.int (nI (ob_ct (ob_is n pb ba od) k))]) (rest := []) ⟨hx, hb, hml, hown, hts⟩ (n_X4_storyAt l D t ax ao al am ac n cl rd sv pb ba bf od bg pm k (by first | assumption | omega) hpm (by first | assumption | omega) (ob_isT (by omega) hpm c62 c331 c342)) (cwV 1 hts gL_areLines_X4_storyAt rfl rfl rfl (by decide +kernel) ⟨Nat.le_of_ble_eq_true rfl, Nat.le_of_ble_eq_true rfl⟩) (ob_preV (ci := 4) (q0 := 0) (hP.sub [0, 1, 2, 3, 4, 5, 6, 7, 8, 9] rfl) hk rfl rfl) rfl rfl hl.1 rfl (lv_room (Nat.le_of_ble_eq_true rfl)) dL_areLines_348 ⟨Nat.le_of_ble_eq_true rfl, Nat.le_of_ble_eq_true rfl⟩)) (fun r9 hr9 => ?_)
                              subst hr9
                              rw [show (od k) = (nI (pm k)) from (hpm k c62).1]
                              refine lv_iload hx hb dL_areLines_351 (lv_at hl 9 rfl) ?_
                              refine ob_icmp_ne (tgt := 360) hx hb (by omega) (by omega) dL_areLines_353 (by decide) (fun c353 => ?_) (fun c353 => ?_)
                              · exact absurd rfl c353
                              · refine lv_iconst (v := nI 1) hx hb dL_areLines_356 (by decide) ?_
                                refine lv_goto (tgt := 361) hx hb dL_areLines_357 (by decide) ?_
                                refine lv_istore (lv' := [(7, .int (nI 1)), (5, .int (ob_sn od (k + 1))), (6, .int w7), (0, .ref ax), (1, .ref xg), (2, .ref xm), (3, .int (nI x)), (4, .int (nI (ob_ct (ob_is n pb ba od) k))), (8, .int (nI k)), (9, .int (nI (pm k)))]) hx hb dL_areLines_361 hl (by decide) rfl (fun ls hl => ?_)
                                refine ob_inc (k := 7) (lv' := [(4, .int (nI (ob_ct (ob_is n pb ba od) k + 1))), (7, .int (nI 1)), (5, .int (ob_sn od (k + 1))), (6, .int w7), (0, .ref ax), (1, .ref xg), (2, .ref xm), (3, .int (nI x)), (8, .int (nI k)), (9, .int (nI (pm k)))]) hx hb dL_areLines_363 hl rfl (by decide) rfl (fun ls hl => ?_)
                                exact k366 (ob_ct (ob_is n pb ba od) k + 1) (by first | (rw [ob_ct, ob_isF1 (by omega) hpm c62 hpb c331]; rfl; done) | (rw [ob_ct, ob_isF2 (by omega) hpm c62 c342]; rfl; done) | (rw [ob_ct, ob_isT (by omega) hpm c62 c331 c342]; rfl; done)) _ (lv_sub hl [4, 5, 6, 7, 0, 2, 3, 1, 8] rfl)
                        refine lv_iload hx hb dL_areLines_279 (lv_at hl 6 rfl) ?_
                        refine lv_if_ge (tgt := 304) hx hb dL_areLines_281 (by decide) (fun c281 => ?_) (fun c281 => ?_)
                        · refine lv_iload hx hb dL_areLines_304 (lv_at hl 6 rfl) ?_
                          exact k306 w6 (by first | exact ob_fi_s1 h6 c281 | exact ob_fi_s2 (fun i hi => by have := (hpm i (by omega)).2; omega) h6 c281 c296 | exact ob_fi_s3 (fun i hi => by have := (hpm i (by omega)).2; omega) h6 c281 c296) _ (lv_sub hl [0, 1, 2, 3, 4, 5, 6, 7, 8, 9] rfl)
                        · refine lv_aload_n hx hb dL_areLines_284 rfl (lv_at hl 1 rfl) ?_
                          refine lv_iconst (v := nI 5) hx hb dL_areLines_285 (by decide) ?_
                          refine lv_iload hx hb dL_areLines_286 (lv_at hl 9 rfl) ?_
                          refine lv_imul hx hb dL_areLines_288 ?_
                          rw [show (nI 5) * (nI (pm k)) = nI (5 * (pm k)) from pk_mul _ _]
                          refine lv_iconst (v := nI 2) hx hb dL_areLines_289 (by decide) ?_
                          refine lv_iadd hx hb dL_areLines_290 ?_
                          rw [show (nI (5 * (pm k))) + (nI 2) = nI ((5 * (pm k)) + 2) from nI_add _ _]
                          refine ob_iald hx hb hK hP 10 0 rfl rfl (by omega) (by decide) dL_areLines_291 ?_
                          rw [show fg ((5 * (pm k)) + 2) = sv (pm k) from ((hg (pm k) hpk).2.2.1)]
                          refine lv_iload_n hx hb dL_areLines_292 rfl (lv_at hl 3 rfl) ?_
                          refine lv_bipush (v := nI 6) hx hb dL_areLines_293 (by decide) ?_
                          refine lv_irem hx hb dL_areLines_295 (by decide) ?_
                          rw [show (nI x) - (nI x) / (nI 6) * (nI 6) = nI (x % 6) from pk_rem (by omega) (by omega) (by omega)]
                          refine lv_icmp_ne (tgt := 304) hx hb dL_areLines_296 (by decide) (fun c296 => ?_) (fun c296 => ?_)
                          · refine lv_iload hx hb dL_areLines_304 (lv_at hl 6 rfl) ?_
                            exact k306 w6 (by first | exact ob_fi_s1 h6 c281 | exact ob_fi_s2 (fun i hi => by have := (hpm i (by omega)).2; omega) h6 c281 c296 | exact ob_fi_s3 (fun i hi => by have := (hpm i (by omega)).2; omega) h6 c281 c296) _ (lv_sub hl [0, 1, 2, 3, 4, 5, 6, 7, 8, 9] rfl)
                          · refine lv_iload hx hb dL_areLines_299 (lv_at hl 9 rfl) ?_
                            refine lv_goto (tgt := 306) hx hb dL_areLines_301 (by decide) ?_
                            exact k306 (nI (pm k)) (by first | exact ob_fi_s1 h6 c281 | exact ob_fi_s2 (fun i hi => by have := (hpm i (by omega)).2; omega) h6 c281 c296 | exact ob_fi_s3 (fun i hi => by have := (hpm i (by omega)).2; omega) h6 c281 c296) _ (lv_sub hl [0, 1, 2, 3, 4, 5, 6, 7, 8, 9] rfl)
                      · refine lv_iload hx hb dL_areLines_144 (lv_at hl 7 rfl) ?_
                        refine lv_if_eq (tgt := 279) hx hb dL_areLines_146 (by decide) (fun c9 => absurd c9 (by decide)) (fun _ => ?_)
                        have k171 : ∀ (b11 : Bool), (b11 = (!ob_bx (ob_sn od k) o && !decide (o = pm k))) → ∀ ls : Array Slot, lv_has ls 14 [(0, .ref ax), (1, .ref xg), (2, .ref xm), (3, .int (nI x)), (4, .int (nI (ob_ct (ob_is n pb ba od) k))), (5, .int (ob_sn od k)), (6, .int w6), (7, .int (nI 1)), (8, .int (nI k)), (9, .int (nI (pm k))), (10, .int (nI o))] → W p l e (headSpec wsL_areLines ({ frames := 8, cells := 4, slots := 24, locals := 129 } : Room)).room s m ([.ref ax, .ref xg, .ref xm, .int (nI x)] : List Value).toArray below meth c H locs 2 12 (MQ below (va_Qi (fun (r : Int32) (_ : Unit) => r = nI 1) (fun (_ : Unit) (t9 : State) => va_P D vwCl (ob_wX ax ao al am ac ++ ob_wL t al n cl rd sv pb ba bf od bg ++ ob_wG t xg fg ++ ob_wV t xm fm) t9.heap) (va_A (ob_wX ax ao al am ac ++ ob_wL t al n cl rd sv pb ba bf od bg ++ ob_wG t xg fg ++ ob_wV t xm fm) sz)) ([.ref ax, .ref xg, .ref xm, .int (nI x)] : List Value).toArray s 4 24 (va_A (ob_wX ax ao al am ac ++ ob_wL t al n cl rd sv pb ba bf od bg ++ ob_wG t xg fg ++ ob_wV t xm fm) sz)) (F0 m 171 ls [.int (ob_bi b11)]) := by
                          intro b11 h11 ls hl
                          refine lv_istore (lv' := [(11, .int (ob_bi b11)), (0, .ref ax), (1, .ref xg), (2, .ref xm), (3, .int (nI x)), (4, .int (nI (ob_ct (ob_is n pb ba od) k))), (5, .int (ob_sn od k)), (6, .int w6), (7, .int (nI 1)), (8, .int (nI k)), (9, .int (nI (pm k))), (10, .int (nI o))]) hx hb dL_areLines_171 hl (by decide) rfl (fun ls hl => ?_)
                          refine lv_iconst (v := nI 0) hx hb dL_areLines_173 (by decide) ?_
                          refine lv_istore (lv' := [(12, .int (nI 0)), (11, .int (ob_bi b11)), (0, .ref ax), (1, .ref xg), (2, .ref xm), (3, .int (nI x)), (4, .int (nI (ob_ct (ob_is n pb ba od) k))), (5, .int (ob_sn od k)), (6, .int w6), (7, .int (nI 1)), (8, .int (nI k)), (9, .int (nI (pm k))), (10, .int (nI o))]) hx hb dL_areLines_174 hl (by decide) rfl (fun ls hl => ?_)
                          refine lv_iconst (v := nI 0) hx hb dL_areLines_176 (by decide) ?_
                          refine lv_istore (lv' := [(13, .int (nI 0)), (12, .int (nI 0)), (11, .int (ob_bi b11)), (0, .ref ax), (1, .ref xg), (2, .ref xm), (3, .int (nI x)), (4, .int (nI (ob_ct (ob_is n pb ba od) k))), (5, .int (ob_sn od k)), (6, .int w6), (7, .int (nI 1)), (8, .int (nI k)), (9, .int (nI (pm k))), (10, .int (nI o))]) hx hb dL_areLines_177 hl (by decide) rfl (fun ls hl => ?_)
                          have k179 : ∀ fu : Nat, ∀ (i3 : Nat) (b12 : Bool), n - i3 < fu → (i3 ≤ n) → (b12 = ob_an (fun i => !ob_bx (ob_sn od k) i && ob_se M cl rd i o) i3) → ∀ ls : Array Slot, lv_has ls 14 [(0, .ref ax), (1, .ref xg), (2, .ref xm), (3, .int (nI x)), (4, .int (nI (ob_ct (ob_is n pb ba od) k))), (5, .int (ob_sn od k)), (6, .int w6), (7, .int (nI 1)), (8, .int (nI k)), (9, .int (nI (pm k))), (10, .int (nI o)), (11, .int (ob_bi b11)), (12, .int (ob_bi b12)), (13, .int (nI i3))] → W p l e (headSpec wsL_areLines ({ frames := 8, cells := 4, slots := 24, locals := 129 } : Room)).room s m ([.ref ax, .ref xg, .ref xm, .int (nI x)] : List Value).toArray below meth c H locs 2 12 (MQ below (va_Qi (fun (r : Int32) (_ : Unit) => r = nI 1) (fun (_ : Unit) (t9 : State) => va_P D vwCl (ob_wX ax ao al am ac ++ ob_wL t al n cl rd sv pb ba bf od bg ++ ob_wG t xg fg ++ ob_wV t xm fm) t9.heap) (va_A (ob_wX ax ao al am ac ++ ob_wL t al n cl rd sv pb ba bf od bg ++ ob_wG t xg fg ++ ob_wV t xm fm) sz)) ([.ref ax, .ref xg, .ref xm, .int (nI x)] : List Value).toArray s 4 24 (va_A (ob_wX ax ao al am ac ++ ob_wL t al n cl rd sv pb ba bf od bg ++ ob_wG t xg fg ++ ob_wV t xm fm) sz)) (F0 m 179 ls []) := by
                            intro fu
                            induction fu with
                            | zero => intro i3 b12 hfu; exact absurd hfu (Nat.not_lt_zero _)
                            | succ fu ih =>
                              intro i3 b12 hfu h3 h12 ls hl
                              have ih179 := ih
                              have k238 : (n ≤ i3 ∨ b11 = false ∨ pm k ≤ o) → ∀ ls : Array Slot, lv_has ls 14 [(0, .ref ax), (1, .ref xg), (2, .ref xm), (3, .int (nI x)), (4, .int (nI (ob_ct (ob_is n pb ba od) k))), (5, .int (ob_sn od k)), (6, .int w6), (7, .int (nI 1)), (8, .int (nI k)), (9, .int (nI (pm k))), (10, .int (nI o)), (11, .int (ob_bi b11)), (12, .int (ob_bi b12))] → W p l e (headSpec wsL_areLines ({ frames := 8, cells := 4, slots := 24, locals := 129 } : Room)).room s m ([.ref ax, .ref xg, .ref xm, .int (nI x)] : List Value).toArray below meth c H locs 2 12 (MQ below (va_Qi (fun (r : Int32) (_ : Unit) => r = nI 1) (fun (_ : Unit) (t9 : State) => va_P D vwCl (ob_wX ax ao al am ac ++ ob_wL t al n cl rd sv pb ba bf od bg ++ ob_wG t xg fg ++ ob_wV t xm fm) t9.heap) (va_A (ob_wX ax ao al am ac ++ ob_wL t al n cl rd sv pb ba bf od bg ++ ob_wG t xg fg ++ ob_wV t xm fm) sz)) ([.ref ax, .ref xg, .ref xm, .int (nI x)] : List Value).toArray s 4 24 (va_A (ob_wX ax ao al am ac ++ ob_wL t al n cl rd sv pb ba bf od bg ++ ob_wG t xg fg ++ ob_wV t xm fm) sz)) (F0 m 238 ls []) := by
                                intro  hex ls hl
                                have k266 : ∀ ls : Array Slot, lv_has ls 14 [(0, .ref ax), (1, .ref xg), (2, .ref xm), (3, .int (nI x)), (4, .int (nI (ob_ct (ob_is n pb ba od) k))), (5, .int (ob_sn od k)), (6, .int w6), (7, .int (nI 1)), (8, .int (nI k)), (9, .int (nI (pm k))), (10, .int (nI o))] → W p l e (headSpec wsL_areLines ({ frames := 8, cells := 4, slots := 24, locals := 129 } : Room)).room s m ([.ref ax, .ref xg, .ref xm, .int (nI x)] : List Value).toArray below meth c H locs 2 12 (MQ below (va_Qi (fun (r : Int32) (_ : Unit) => r = nI 1) (fun (_ : Unit) (t9 : State) => va_P D vwCl (ob_wX ax ao al am ac ++ ob_wL t al n cl rd sv pb ba bf od bg ++ ob_wG t xg fg ++ ob_wV t xm fm) t9.heap) (va_A (ob_wX ax ao al am ac ++ ob_wL t al n cl rd sv pb ba bf od bg ++ ob_wG t xg fg ++ ob_wV t xm fm) sz)) ([.ref ax, .ref xg, .ref xm, .int (nI x)] : List Value).toArray s 4 24 (va_A (ob_wX ax ao al am ac ++ ob_wL t al n cl rd sv pb ba bf od bg ++ ob_wG t xg fg ++ ob_wV t xm fm) sz)) (F0 m 266 ls []) := by
                                  intro   ls hl
                                  refine lv_iconst (v := nI 1) hx hb dL_areLines_266 (by decide) ?_
                                  refine lv_goto (tgt := 271) hx hb dL_areLines_267 (by decide) ?_
                                  refine lv_istore (lv' := [(7, .int (nI 1)), (0, .ref ax), (1, .ref xg), (2, .ref xm), (3, .int (nI x)), (4, .int (nI (ob_ct (ob_is n pb ba od) k))), (5, .int (ob_sn od k)), (6, .int w6), (8, .int (nI k)), (9, .int (nI (pm k))), (10, .int (nI o))]) hx hb dL_areLines_271 hl (by decide) rfl (fun ls hl => ?_)
                                  refine ob_inc (k := 10) (lv' := [(10, .int (nI (o + 1))), (7, .int (nI 1)), (0, .ref ax), (1, .ref xg), (2, .ref xm), (3, .int (nI x)), (4, .int (nI (ob_ct (ob_is n pb ba od) k))), (5, .int (ob_sn od k)), (6, .int w6), (8, .int (nI k)), (9, .int (nI (pm k)))]) hx hb dL_areLines_273 hl rfl (by decide) rfl (fun ls hl => ?_)
                                  refine lv_goto (tgt := 136) hx hb dL_areLines_276 (by decide) ?_
                                  exact ih136 (o + 1) (by omega) (by omega) _ (lv_sub hl [2, 3, 4, 5, 6, 7, 8, 1, 9, 10, 0] rfl)
                                refine lv_iload hx hb dL_areLines_238 (lv_at hl 11 rfl) ?_
                                refine ob_if_eq (tgt := 266) hx hb dL_areLines_240 (by decide) (fun c240 => ?_) (fun c240 => ?_)
                                · exact k266   _ (lv_sub hl [0, 1, 2, 3, 4, 5, 6, 7, 8, 9, 10] rfl)
                                · have hu := ob_and2 (h11.symm.trans c240)
                                  have hu1 : ob_bx (ob_sn od k) o = false := by simpa using hu.1
                                  have hu2 : ¬ o = pm k := by simpa using hu.2
                                  refine lv_aload_n hx hb dL_areLines_243 rfl (lv_at hl 0 rfl) ?_
                                  refine lv_iload hx hb dL_areLines_244 (lv_at hl 10 rfl) ?_
                                  refine lv_iload hx hb dL_areLines_246 (lv_at hl 9 rfl) ?_
                                  refine vp_callSi (va_Run.run (va_runV (As := [.int (nI o), .int (nI (pm k))]) (rest := []) ⟨hx, hb, hml, hown, hts⟩ (n_X4_mustComeBefore l D t ax ao al am ac n cl rd sv pb ba bf od bg o (pm k) (by first | assumption | omega) c141 hpk) (cwV 2 hts gL_areLines_X4_mustComeBefore rfl rfl rfl (by decide +kernel) ⟨Nat.le_of_ble_eq_true rfl, Nat.le_of_ble_eq_true rfl⟩) (ob_preV (ci := 4) (q0 := 0) (hP.sub [0, 1, 2, 3, 4, 5, 6, 7, 8, 9] rfl) hk rfl rfl) rfl rfl hl.1 rfl (lv_room (Nat.le_of_ble_eq_true rfl)) dL_areLines_248 ⟨Nat.le_of_ble_eq_true rfl, Nat.le_of_ble_eq_true rfl⟩)) (fun r9 hr9 => ?_)
                                  subst hr9
                                  rw [show (ob_bi (ob_hb (bf (pm k)) (nI o))) = (ob_bi (ob_se M cl rd o (pm k))) from (by rw [ob_mcb (by omega) hbf c141 hpk])]
                                  refine ob_if_ne (tgt := 270) hx hb dL_areLines_251 (by decide) (fun c251 => ?_) (fun c251 => ?_)
                                  · first | (exact absurd c251 (by rw [hmin o c141 hu1]; decide)) | (obtain ⟨t9, ht1, ht2, ht3⟩ := hlow o (by omega) hu1; exact absurd c263 (hex.elim (fun y => by rw [h12, ob_an_t (i := t9) (by rw [ht2, ht3]; rfl) (by omega)]; decide) (fun y => y.elim (fun y => by rw [y] at c240; cases c240) (fun y => by omega))))
                                  · refine lv_iload hx hb dL_areLines_254 (lv_at hl 10 rfl) ?_
                                    refine lv_iload hx hb dL_areLines_256 (lv_at hl 9 rfl) ?_
                                    refine ob_icmp_gt (tgt := 266) hx hb (by omega) (by omega) dL_areLines_258 (by decide) (fun c258 => ?_) (fun c258 => ?_)
                                    · exact k266   _ (lv_sub hl [0, 1, 2, 3, 4, 5, 6, 7, 8, 9, 10] rfl)
                                    · refine lv_iload hx hb dL_areLines_261 (lv_at hl 12 rfl) ?_
                                      refine ob_if_eq (tgt := 270) hx hb dL_areLines_263 (by decide) (fun c263 => ?_) (fun c263 => ?_)
                                      · first | (exact absurd c251 (by rw [hmin o c141 hu1]; decide)) | (obtain ⟨t9, ht1, ht2, ht3⟩ := hlow o (by omega) hu1; exact absurd c263 (hex.elim (fun y => by rw [h12, ob_an_t (i := t9) (by rw [ht2, ht3]; rfl) (by omega)]; decide) (fun y => y.elim (fun y => by rw [y] at c240; cases c240) (fun y => by omega))))
                                      · exact k266   _ (lv_sub hl [0, 1, 2, 3, 4, 5, 6, 7, 8, 9, 10] rfl)
                              refine lv_iload hx hb dL_areLines_179 (lv_at hl 13 rfl) ?_
                              refine lv_aload_n hx hb dL_areLines_181 rfl (lv_at hl 2 rfl) ?_
                              refine lv_iconst (v := nI 0) hx hb dL_areLines_182 (by decide) ?_
                              refine ob_iald hx hb hK hP 11 0 rfl rfl (by omega) (by decide) dL_areLines_183 ?_
                              rw [show fm 0 = nI n from hf0]
                              refine ob_icmp_ge (tgt := 238) hx hb (by omega) (by omega) dL_areLines_184 (by decide) (fun c184 => ?_) (fun c184 => ?_)
                              · exact k238  (by first | exact Or.inl c184 | exact Or.inr (Or.inl c189) | exact Or.inr (Or.inr c196)) _ (lv_sub hl [0, 1, 2, 3, 4, 5, 6, 7, 8, 9, 10, 11, 12] rfl)
                              · refine lv_iload hx hb dL_areLines_187 (lv_at hl 11 rfl) ?_
                                refine ob_if_eq (tgt := 238) hx hb dL_areLines_189 (by decide) (fun c189 => ?_) (fun c189 => ?_)
                                · exact k238  (by first | exact Or.inl c184 | exact Or.inr (Or.inl c189) | exact Or.inr (Or.inr c196)) _ (lv_sub hl [0, 1, 2, 3, 4, 5, 6, 7, 8, 9, 10, 11, 12] rfl)
                                · refine lv_iload hx hb dL_areLines_192 (lv_at hl 10 rfl) ?_
                                  refine lv_iload hx hb dL_areLines_194 (lv_at hl 9 rfl) ?_
                                  refine ob_icmp_ge (tgt := 238) hx hb (by omega) (by omega) dL_areLines_196 (by decide) (fun c196 => ?_) (fun c196 => ?_)
                                  · exact k238  (by first | exact Or.inl c184 | exact Or.inr (Or.inl c189) | exact Or.inr (Or.inr c196)) _ (lv_sub hl [0, 1, 2, 3, 4, 5, 6, 7, 8, 9, 10, 11, 12] rfl)
                                  · refine lv_iload hx hb dL_areLines_199 (lv_at hl 12 rfl) ?_
                                    refine ob_if_ne (tgt := 225) hx hb dL_areLines_201 (by decide) (fun c201 => ?_) (fun c201 => ?_)
                                    · refine lv_iconst (v := nI 1) hx hb dL_areLines_225 (by decide) ?_
                                      refine lv_goto (tgt := 230) hx hb dL_areLines_226 (by decide) ?_
                                      refine lv_istore (lv' := [(12, .int (nI 1)), (0, .ref ax), (1, .ref xg), (2, .ref xm), (3, .int (nI x)), (4, .int (nI (ob_ct (ob_is n pb ba od) k))), (5, .int (ob_sn od k)), (6, .int w6), (7, .int (nI 1)), (8, .int (nI k)), (9, .int (nI (pm k))), (10, .int (nI o)), (11, .int (ob_bi b11)), (13, .int (nI i3))]) hx hb dL_areLines_230 hl (by decide) rfl (fun ls hl => ?_)
                                      refine ob_inc (k := 13) (lv' := [(13, .int (nI (i3 + 1))), (12, .int (nI 1)), (0, .ref ax), (1, .ref xg), (2, .ref xm), (3, .int (nI x)), (4, .int (nI (ob_ct (ob_is n pb ba od) k))), (5, .int (ob_sn od k)), (6, .int w6), (7, .int (nI 1)), (8, .int (nI k)), (9, .int (nI (pm k))), (10, .int (nI o)), (11, .int (ob_bi b11))]) hx hb dL_areLines_232 hl rfl (by decide) rfl (fun ls hl => ?_)
                                      refine lv_goto (tgt := 179) hx hb dL_areLines_235 (by decide) ?_
                                      exact ih179 (i3 + 1) true (by omega) (by omega) (by first | (rfl; done) | (rw [ob_an, ← h12, c201, Bool.true_or]; done) | (rw [ob_hb_bx (by omega)] at c211; rw [ob_an, ← h12, c201, c211]; rfl; done) | (rw [ob_hb_bx (by omega)] at c211; rw [ob_an, ← h12, c201, c211, c222]; rfl; done)) _ (lv_sub hl [2, 3, 4, 5, 6, 7, 8, 9, 10, 11, 12, 13, 1, 0] rfl)
                                    · refine lv_iload hx hb dL_areLines_204 (lv_at hl 5 rfl) ?_
                                      refine lv_iload hx hb dL_areLines_206 (lv_at hl 13 rfl) ?_
                                      refine lv_ishr hx hb dL_areLines_208 ?_
                                      refine lv_iconst (v := nI 1) hx hb dL_areLines_209 (by decide) ?_
                                      refine lv_iand hx hb dL_areLines_210 ?_
                                      rw [show ((ob_sn od k) >>> ((nI i3) &&& 31)) &&& (nI 1) = ob_bi (ob_hb (ob_sn od k) (nI i3)) from (ob_sh1 (by omega))]
                                      refine ob_if_ne (tgt := 229) hx hb dL_areLines_211 (by decide) (fun c211 => ?_) (fun c211 => ?_)
                                      · refine lv_iconst (v := nI 0) hx hb dL_areLines_229 (by decide) ?_
                                        refine lv_istore (lv' := [(12, .int (nI 0)), (0, .ref ax), (1, .ref xg), (2, .ref xm), (3, .int (nI x)), (4, .int (nI (ob_ct (ob_is n pb ba od) k))), (5, .int (ob_sn od k)), (6, .int w6), (7, .int (nI 1)), (8, .int (nI k)), (9, .int (nI (pm k))), (10, .int (nI o)), (11, .int (ob_bi b11)), (13, .int (nI i3))]) hx hb dL_areLines_230 hl (by decide) rfl (fun ls hl => ?_)
                                        refine ob_inc (k := 13) (lv' := [(13, .int (nI (i3 + 1))), (12, .int (nI 0)), (0, .ref ax), (1, .ref xg), (2, .ref xm), (3, .int (nI x)), (4, .int (nI (ob_ct (ob_is n pb ba od) k))), (5, .int (ob_sn od k)), (6, .int w6), (7, .int (nI 1)), (8, .int (nI k)), (9, .int (nI (pm k))), (10, .int (nI o)), (11, .int (ob_bi b11))]) hx hb dL_areLines_232 hl rfl (by decide) rfl (fun ls hl => ?_)
                                        refine lv_goto (tgt := 179) hx hb dL_areLines_235 (by decide) ?_
                                        exact ih179 (i3 + 1) false (by omega) (by omega) (by first | (rfl; done) | (rw [ob_an, ← h12, c201, Bool.true_or]; done) | (rw [ob_hb_bx (by omega)] at c211; rw [ob_an, ← h12, c201, c211]; rfl; done) | (rw [ob_hb_bx (by omega)] at c211; rw [ob_an, ← h12, c201, c211, c222]; rfl; done)) _ (lv_sub hl [2, 3, 4, 5, 6, 7, 8, 9, 10, 11, 12, 13, 1, 0] rfl)
                                      · refine lv_aload_n hx hb dL_areLines_214 rfl (lv_at hl 0 rfl) ?_
                                        refine lv_iload hx hb dL_areLines_215 (lv_at hl 13 rfl) ?_
                                        refine lv_iload hx hb dL_areLines_217 (lv_at hl 10 rfl) ?_
                                        refine vp_callSi (va_Run.run (va_runV (As := [.int (nI i3), .int (nI o)]) (rest := []) ⟨hx, hb, hml, hown, hts⟩ (n_X4_mustComeBefore l D t ax ao al am ac n cl rd sv pb ba bf od bg i3 o (by first | assumption | omega) c184 c141) (cwV 2 hts gL_areLines_X4_mustComeBefore rfl rfl rfl (by decide +kernel) ⟨Nat.le_of_ble_eq_true rfl, Nat.le_of_ble_eq_true rfl⟩) (ob_preV (ci := 4) (q0 := 0) (hP.sub [0, 1, 2, 3, 4, 5, 6, 7, 8, 9] rfl) hk rfl rfl) rfl rfl hl.1 rfl (lv_room (Nat.le_of_ble_eq_true rfl)) dL_areLines_219 ⟨Nat.le_of_ble_eq_true rfl, Nat.le_of_ble_eq_true rfl⟩)) (fun r9 hr9 => ?_)
                                        subst hr9
                                        rw [show (ob_bi (ob_hb (bf o) (nI i3))) = (ob_bi (ob_se M cl rd i3 o)) from (by rw [ob_mcb (by omega) hbf c184 c141])]
                                        refine ob_if_eq (tgt := 229) hx hb dL_areLines_222 (by decide) (fun c222 => ?_) (fun c222 => ?_)
                                        · refine lv_iconst (v := nI 0) hx hb dL_areLines_229 (by decide) ?_
                                          refine lv_istore (lv' := [(12, .int (nI 0)), (0, .ref ax), (1, .ref xg), (2, .ref xm), (3, .int (nI x)), (4, .int (nI (ob_ct (ob_is n pb ba od) k))), (5, .int (ob_sn od k)), (6, .int w6), (7, .int (nI 1)), (8, .int (nI k)), (9, .int (nI (pm k))), (10, .int (nI o)), (11, .int (ob_bi b11)), (13, .int (nI i3))]) hx hb dL_areLines_230 hl (by decide) rfl (fun ls hl => ?_)
                                          refine ob_inc (k := 13) (lv' := [(13, .int (nI (i3 + 1))), (12, .int (nI 0)), (0, .ref ax), (1, .ref xg), (2, .ref xm), (3, .int (nI x)), (4, .int (nI (ob_ct (ob_is n pb ba od) k))), (5, .int (ob_sn od k)), (6, .int w6), (7, .int (nI 1)), (8, .int (nI k)), (9, .int (nI (pm k))), (10, .int (nI o)), (11, .int (ob_bi b11))]) hx hb dL_areLines_232 hl rfl (by decide) rfl (fun ls hl => ?_)
                                          refine lv_goto (tgt := 179) hx hb dL_areLines_235 (by decide) ?_
                                          exact ih179 (i3 + 1) false (by omega) (by omega) (by first | (rfl; done) | (rw [ob_an, ← h12, c201, Bool.true_or]; done) | (rw [ob_hb_bx (by omega)] at c211; rw [ob_an, ← h12, c201, c211]; rfl; done) | (rw [ob_hb_bx (by omega)] at c211; rw [ob_an, ← h12, c201, c211, c222]; rfl; done)) _ (lv_sub hl [2, 3, 4, 5, 6, 7, 8, 9, 10, 11, 12, 13, 1, 0] rfl)
                                        · refine lv_iconst (v := nI 1) hx hb dL_areLines_225 (by decide) ?_
                                          refine lv_goto (tgt := 230) hx hb dL_areLines_226 (by decide) ?_
                                          refine lv_istore (lv' := [(12, .int (nI 1)), (0, .ref ax), (1, .ref xg), (2, .ref xm), (3, .int (nI x)), (4, .int (nI (ob_ct (ob_is n pb ba od) k))), (5, .int (ob_sn od k)), (6, .int w6), (7, .int (nI 1)), (8, .int (nI k)), (9, .int (nI (pm k))), (10, .int (nI o)), (11, .int (ob_bi b11)), (13, .int (nI i3))]) hx hb dL_areLines_230 hl (by decide) rfl (fun ls hl => ?_)
                                          refine ob_inc (k := 13) (lv' := [(13, .int (nI (i3 + 1))), (12, .int (nI 1)), (0, .ref ax), (1, .ref xg), (2, .ref xm), (3, .int (nI x)), (4, .int (nI (ob_ct (ob_is n pb ba od) k))), (5, .int (ob_sn od k)), (6, .int w6), (7, .int (nI 1)), (8, .int (nI k)), (9, .int (nI (pm k))), (10, .int (nI o)), (11, .int (ob_bi b11))]) hx hb dL_areLines_232 hl rfl (by decide) rfl (fun ls hl => ?_)
                                          refine lv_goto (tgt := 179) hx hb dL_areLines_235 (by decide) ?_
                                          exact ih179 (i3 + 1) true (by omega) (by omega) (by first | (rfl; done) | (rw [ob_an, ← h12, c201, Bool.true_or]; done) | (rw [ob_hb_bx (by omega)] at c211; rw [ob_an, ← h12, c201, c211]; rfl; done) | (rw [ob_hb_bx (by omega)] at c211; rw [ob_an, ← h12, c201, c211, c222]; rfl; done)) _ (lv_sub hl [2, 3, 4, 5, 6, 7, 8, 9, 10, 11, 12, 13, 1, 0] rfl)
                          exact k179 _ 0 false (Nat.lt_succ_self _) (by omega) (by first | (rfl; done) | (rw [ob_an, ← h12, c201, Bool.true_or]; done) | (rw [ob_hb_bx (by omega)] at c211; rw [ob_an, ← h12, c201, c211]; rfl; done) | (rw [ob_hb_bx (by omega)] at c211; rw [ob_an, ← h12, c201, c211, c222]; rfl; done)) _ (lv_sub hl [3, 4, 5, 6, 7, 8, 9, 10, 11, 12, 13, 2, 1, 0] rfl)
                        refine lv_iload hx hb dL_areLines_149 (lv_at hl 5 rfl) ?_
                        refine lv_iload hx hb dL_areLines_151 (lv_at hl 10 rfl) ?_
                        refine lv_ishr hx hb dL_areLines_153 ?_
                        refine lv_iconst (v := nI 1) hx hb dL_areLines_154 (by decide) ?_
                        refine lv_iand hx hb dL_areLines_155 ?_
                        rw [show ((ob_sn od k) >>> ((nI o) &&& 31)) &&& (nI 1) = ob_bi (ob_hb (ob_sn od k) (nI o)) from (ob_sh1 (by omega))]
                        refine ob_if_ne (tgt := 170) hx hb dL_areLines_156 (by decide) (fun c156 => ?_) (fun c156 => ?_)
                        · refine lv_iconst (v := nI 0) hx hb dL_areLines_170 (by decide) ?_
                          exact k171 false (by first | (rw [ob_hb_bx (by omega)] at c156; rw [c156]; rfl; done) | (rw [ob_hb_bx (by omega)] at c156; rw [c156, decide_eq_true c163]; rfl; done) | (rw [ob_hb_bx (by omega)] at c156; rw [c156, decide_eq_false c163]; rfl; done)) _ (lv_sub hl [0, 1, 2, 3, 4, 5, 6, 7, 8, 9, 10] rfl)
                        · refine lv_iload hx hb dL_areLines_159 (lv_at hl 10 rfl) ?_
                          refine lv_iload hx hb dL_areLines_161 (lv_at hl 9 rfl) ?_
                          refine ob_icmp_eq (tgt := 170) hx hb (by omega) (by omega) dL_areLines_163 (by decide) (fun c163 => ?_) (fun c163 => ?_)
                          · refine lv_iconst (v := nI 0) hx hb dL_areLines_170 (by decide) ?_
                            exact k171 false (by first | (rw [ob_hb_bx (by omega)] at c156; rw [c156]; rfl; done) | (rw [ob_hb_bx (by omega)] at c156; rw [c156, decide_eq_true c163]; rfl; done) | (rw [ob_hb_bx (by omega)] at c156; rw [c156, decide_eq_false c163]; rfl; done)) _ (lv_sub hl [0, 1, 2, 3, 4, 5, 6, 7, 8, 9, 10] rfl)
                          · refine lv_iconst (v := nI 1) hx hb dL_areLines_166 (by decide) ?_
                            refine lv_goto (tgt := 171) hx hb dL_areLines_167 (by decide) ?_
                            exact k171 true (by first | (rw [ob_hb_bx (by omega)] at c156; rw [c156]; rfl; done) | (rw [ob_hb_bx (by omega)] at c156; rw [c156, decide_eq_true c163]; rfl; done) | (rw [ob_hb_bx (by omega)] at c156; rw [c156, decide_eq_false c163]; rfl; done)) _ (lv_sub hl [0, 1, 2, 3, 4, 5, 6, 7, 8, 9, 10] rfl)
                  exact k136 _ 0 (Nat.lt_succ_self _) (by omega) _ (lv_sub hl [2, 3, 4, 5, 6, 7, 8, 1, 9, 10, 0] rfl)
                refine lv_aload_n hx hb dL_areLines_101 rfl (lv_at hl 1 rfl) ?_
                refine lv_iload hx hb dL_areLines_102 (lv_at hl 0 rfl) ?_
                refine vp_callSi (va_Run.run (va_runV (As := [.int (nI (pm k))]) (rest := []) ⟨hx, hb, hml, hown, hts⟩ (n_X4_isDoubtful l D t ax ao al am ac n cl rd sv pb ba bf od bg (pm k) (by first | assumption | omega) (by first | assumption | omega)) (cwV 1 hts gL_areLines_X4_isDoubtful rfl rfl rfl (by decide +kernel) ⟨Nat.le_of_ble_eq_true rfl, Nat.le_of_ble_eq_true rfl⟩) (ob_preV (ci := 4) (q0 := 0) (hP.sub [0, 1, 2, 3, 4, 5, 6, 7, 8, 9] rfl) hk rfl rfl) rfl rfl hl.1 rfl (lv_room (Nat.le_of_ble_eq_true rfl)) dL_areLines_104 ⟨Nat.le_of_ble_eq_true rfl, Nat.le_of_ble_eq_true rfl⟩)) (fun r9 hr9 => ?_)
                subst hr9
                refine lv_aload_n hx hb dL_areLines_107 rfl (lv_at hl 2 rfl) ?_
                refine lv_iconst (v := nI 5) hx hb dL_areLines_108 (by decide) ?_
                refine lv_iload hx hb dL_areLines_109 (lv_at hl 0 rfl) ?_
                refine lv_imul hx hb dL_areLines_111 ?_
                rw [show (nI 5) * (nI (pm k)) = nI (5 * (pm k)) from pk_mul _ _]
                refine lv_iconst (v := nI 4) hx hb dL_areLines_112 (by decide) ?_
                refine lv_iadd hx hb dL_areLines_113 ?_
                rw [show (nI (5 * (pm k))) + (nI 4) = nI ((5 * (pm k)) + 4) from nI_add _ _]
                refine ob_iald hx hb hK hP 10 0 rfl rfl (by omega) (by decide) dL_areLines_114 ?_
                rw [show fg ((5 * (pm k)) + 4) = ba (pm k) from (hg4 (pm k) (by omega))]
                refine lv_if_ge (tgt := 122) hx hb dL_areLines_115 (by decide) (fun c115 => ?_) (fun c115 => ?_)
                · refine lv_iconst (v := nI 0) hx hb dL_areLines_122 (by decide) ?_
                  refine lv_icmp_ne (tgt := 130) hx hb dL_areLines_123 (by decide) (fun c123 => ?_) (fun c123 => ?_)
                  · exact absurd (ob_bi_f (decide_eq_false (Int32.not_lt.mpr c115))) c123
                  · exact k126   _ (lv_sub hl [1, 2, 3, 4, 5, 6, 7, 8, 9, 0] rfl)
                · refine lv_iconst (v := nI 1) hx hb dL_areLines_118 (by decide) ?_
                  refine lv_goto (tgt := 123) hx hb dL_areLines_119 (by decide) ?_
                  refine ob_bcmp_ne (tgt := 130) hx hb dL_areLines_123 (by decide) (fun c123 => ?_) (fun c123 => ?_)
                  · exact absurd (decide_eq_true (Int32.not_le.mp c115)) (by rw [c123]; decide)
                  · exact k126   _ (lv_sub hl [1, 2, 3, 4, 5, 6, 7, 8, 9, 0] rfl)
    exact k57 _ 0 (-1) (Nat.lt_succ_self _) (by omega) (by first | exact ob_fi_0 | exact h7) _ (lv_sub hl [5, 6, 7, 8, 4, 3, 2, 1, 0] rfl)
