set_option maxRecDepth 100000 in
set_option maxHeartbeats 8000000 in
theorem ob_jargue {p : Program} {l : Launch} {e : Env} {s : State} {m : MethodId} {below : List Frame} {meth : Method} {c : Code} {b L : Nat} {xs : Nat → Int32} {D : va_G} {t : Nat → ClassId} {sa : Nat → Nat} {ax : Nat} {ao al am ac ar : Nat → Nat} {au : Nat} {k Kc Ks : Nat} {Q : State → Prop} (C0 : ob_At p l s m c b L xs D t sa) (hD0 : va_D (fun q : Nat => s.heap.size ≤ q) (ob_wX ax ao al am ac ++ ob_wO t ao (fun _ _ => 0) ++ ob_wL t al 0 (fun _ => 0) (fun _ => 0) (fun _ => 0) (fun _ => 0) (fun _ => 0) (fun _ => 0) (fun _ => 0) (fun _ => 0) ++ ob_wM t am 0 (fun _ => 0) (fun _ => 0) (fun _ => 0) (fun _ => 0) ++ ob_wC t ac 0 0 (fun _ _ => 0) ++ ob_wR t ar (fun _ => 0) (fun _ => 0) 0 (fun _ => 0) (fun _ => 0) (fun _ => 0) (fun _ => 0) (fun _ => 0) (fun _ => 0) (fun _ => 0) (fun _ => 0) (fun _ => 0) 0 (fun _ => 0) (fun _ => 0) (fun _ => 0) (fun _ => 0) 0 (fun _ => 0) (fun _ => 0) 0 ++ ob_wU t au (fun _ => 0))) (hk6 : 6 * k + 6 ≤ L) (hKc : Kc + 1 ≤ 601024) (hKs : Ks + 6 ≤ 7293034)
    (nx : ∀ (H : Heap) (locs : List Loc) (ls : Array Slot), ob_St D t ax ao al am ac ar au (k + 1) H → va_S (fun q : Nat => s.heap.size ≤ q) s.heap H locs → lv_has ls 8 [(0, .ref b), (1, .ref ax), (2, .ref (ar 0)), (3, .ref au), (4, .int (nI (6 * k)))] → W p l e room_1 s m #[Value.ref b] below meth c H locs (Kc + 1) (Ks + 6) Q (F0 m 1415 ls []))
    {H : Heap} {locs : List Loc} {ls : Array Slot} (hI : ob_St D t ax ao al am ac ar au k H) (hS : va_S (fun q : Nat => s.heap.size ≤ q) s.heap H locs) (hl : lv_has ls 8 [(0, .ref b), (1, .ref ax), (2, .ref (ar 0)), (3, .ref au), (4, .int (nI (6 * k)))]) : W p l e room_1 s m #[Value.ref b] below meth c H locs Kc Ks Q (F0 m 587 ls []) := by
  obtain ⟨hx, hb, hml, hown, hts, hX, hbl, hk, hE0, hN, hl9, hL3⟩ := C0
  obtain ⟨M, n, cl, rd, sv, pb, ba, bf, od, bg, mn, ms, mf, mt, mp, cn, st, Wt, Bd, Tr, rn, rcl, rrd, rsv, rpb, wf, wa, ro, ah, ct, rmn, rms, rmf, rmt, rmp, rcn, sd, V, th, ov, hP, hL, hM, hC⟩ := hI
  obtain ⟨rfl, rfl, rfl, rfl, rfl, h6, h7, h8, h9, h10, h11, h12, h13⟩ := id hL
  obtain ⟨rfl, rfl, rfl, rfl, rfl, hmn, hmm⟩ := id hM
  obtain ⟨rfl, hcn, hWV, hVz, hsd, hst⟩ := id hC
  have hkk : k ≤ 1000 := by omega
  have hbA : ¬ (fun q : Nat => s.heap.size ≤ q) b := Nat.not_le.mpr hbl
  have hA : ∀ q : Nat, s.heap.size ≤ q → (fun q : Nat => s.heap.size ≤ q) q := fun _ h => h
  have hK := hk.1
  have hE := ob_exK hE0 hS
  have hP : va_P D vwCl (ob_wX ax ao al am ac ++ ob_wO t ao M ++ ob_wL t al n cl rd sv pb ba bf od bg ++ ob_wM t am mn ms mf mt mp ++ ob_wC t ac cn st Wt ++ ob_wR t ar Bd Tr n cl rd sv pb wf wa ro ah ct mn ms mf mt mp cn sd V th ++ ob_wU t au ov) H := hP
  have hD : va_D (fun q : Nat => s.heap.size ≤ q) (ob_wX ax ao al am ac ++ ob_wO t ao M ++ ob_wL t al n cl rd sv pb ba bf od bg ++ ob_wM t am mn ms mf mt mp ++ ob_wC t ac cn st Wt ++ ob_wR t ar Bd Tr n cl rd sv pb wf wa ro ah ct mn ms mf mt mp cn sd V th ++ ob_wU t au ov) := ob_dXOLMCRU hD0
  obtain ⟨x1, ex1⟩ : ∃ z, z = xs (6 * k + 1) := ⟨_, rfl⟩
  obtain ⟨x2, ex2⟩ : ∃ z, z = xs (6 * k + 2) := ⟨_, rfl⟩
  obtain ⟨b3, eb3⟩ : ∃ z, z = (!decide (xs (6 * k + 3) = 0)) := ⟨_, rfl⟩
  obtain ⟨z, hz⟩ : ∃ z, z = ob_z2 (ob_hd n x1) (ob_wi x2 (nI 1) (nI 100)) := ⟨_, rfl⟩
  have hz3 : z ≤ 3 := (by rw [hz]; exact ob_z2_3 _ _)
  have hq := ob_q_argue (x1 := x1) (x2 := x2) (b3 := b3) hkk hL
  rw [← hz] at hq
  refine lv_aload_n hx hb dL_law_587 rfl (lv_at hl 1 rfl) ?_
  refine ob_ldp hx hb hX hbl hbA hS (j := 1) ex1.symm (by omega) (by omega) (by decide) (lv_at hl 0 rfl) (lv_at hl 4 rfl) dL_law_588 dL_law_589 dL_law_591 dL_law_592 dL_law_593 ?_
  refine ob_ldp hx hb hX hbl hbA hS (j := 2) ex2.symm (by omega) (by omega) (by decide) (lv_at hl 0 rfl) (lv_at hl 4 rfl) dL_law_594 dL_law_595 dL_law_597 dL_law_598 dL_law_599 ?_
  refine ob_ldb hx hb hX hbl hbA hS (j := 3) eb3.symm (by omega) (by omega) (by decide) (lv_at hl 0 rfl) (lv_at hl 4 rfl) dL_law_600 dL_law_601 dL_law_603 dL_law_604 dL_law_605 dL_law_606 dL_law_609 dL_law_610 dL_law_613 ?_
  refine lv_aload_n hx hb dL_law_614 rfl (lv_at hl 3 rfl) ?_
  have hFc := va_free (wc := ob_wX ax ao al am ac ++ ob_wL t al n cl rd sv pb ba bf od bg ++ ob_wU t au ov) hD hS hA [0, 8, 9, 10, 11, 12, 13, 14, 15, 16, 58] rfl
  refine va_calli (ob_runN (vx_runSX (As := [.ref ax, .int x1, .int x2, .int (ob_bi b3), .ref au]) (rest := []) ⟨hx, hb, hml, hown, hts⟩ (c_L_argue l hl9 sa D t H.size ax ao al am ac n cl rd sv pb ba bf od bg x1 x2 b3 au ov z h6 (hz.symm)) (vx_cwSW 5 hts gL_law_L_argue rfl rfl rfl (by decide +kernel) ⟨Nat.le_of_ble_eq_true rfl, Nat.le_of_ble_eq_true rfl⟩) (ob_pyS (hP.sub [0, 8, 9, 10, 11, 12, 13, 14, 15, 16, 58] rfl) (hD.sub [0, 8, 9, 10, 11, 12, 13, 14, 15, 16, 58] (by decide) rfl) hk hE hN) rfl rfl hl.1 rfl (lv_room (Nat.le_of_ble_eq_true rfl)) dL_law_615 ⟨show Kc + 1 ≤ 601024 from hKc, show Ks + 6 ≤ 7293034 from hKs⟩)) hS (fun q _ h => hFc q h) hFc (fun r9 u9 t9 H1 locs ht hvm hw9 hB hz1 hk1 hS => ?_)
  obtain ⟨rfl, hp9⟩ := hw9
  rw [ht] at hB
  have hP := ob_jn (ws' := ob_wX ax ao al am ac ++ ob_wO t ao M ++ ob_wL t al n cl rd sv pb (if z = 0 then upd ba x1.toNatClampNeg (ba x1.toNatClampNeg + if b3 then x2 else -x2) else ba) bf od bg ++ ob_wM t am mn ms mf mt mp ++ ob_wC t ac cn st Wt ++ ob_wR t ar Bd Tr n cl rd sv pb wf wa ro ah ct mn ms mf mt mp cn sd V th ++ ob_wU t au (if z = 0 then vp_updL ov 0 u9.toInt64 else ov)) hP hD [some 0, none, none, none, none, none, none, none, some 1, some 2, some 3, some 4, some 5, some 6, some 7, some 8, some 9, none, none, none, none, none, none, none, none, none, none, none, none, none, none, none, none, none, none, none, none, none, none, none, none, none, none, none, none, none, none, none, none, none, none, none, none, none, none, none, none, none, some 10] [0, 8, 9, 10, 11, 12, 13, 14, 15, 16, 58] rfl rfl hk1 hB rfl
  have hD : va_D (fun q : Nat => s.heap.size ≤ q) (ob_wX ax ao al am ac ++ ob_wO t ao M ++ ob_wL t al n cl rd sv pb (if z = 0 then upd ba x1.toNatClampNeg (ba x1.toNatClampNeg + if b3 then x2 else -x2) else ba) bf od bg ++ ob_wM t am mn ms mf mt mp ++ ob_wC t ac cn st Wt ++ ob_wR t ar Bd Tr n cl rd sv pb wf wa ro ah ct mn ms mf mt mp cn sd V th ++ ob_wU t au (if z = 0 then vp_updL ov 0 u9.toInt64 else ov)) := ob_dXOLMCRU hD
  generalize H1 = H at hP hS ⊢
  refine lv_istore (lv' := [(5, .int (nI z)), (0, .ref b), (1, .ref ax), (2, .ref (ar 0)), (3, .ref au), (4, .int (nI (6 * k)))]) hx hb dL_law_618 hl (by decide) rfl (fun ls hl => ?_)
  refine lv_aload_n hx hb dL_law_620 rfl (lv_at hl 3 rfl) ?_
  refine ob_ldp hx hb hX hbl hbA hS (j := 1) ex1.symm (by omega) (by omega) (by decide) (lv_at hl 1 rfl) (lv_at hl 5 rfl) dL_law_621 dL_law_622 dL_law_624 dL_law_625 dL_law_626 ?_
  refine ob_ldp hx hb hX hbl hbA hS (j := 2) ex2.symm (by omega) (by omega) (by decide) (lv_at hl 1 rfl) (lv_at hl 5 rfl) dL_law_627 dL_law_628 dL_law_630 dL_law_631 dL_law_632 ?_
  refine ob_ldb hx hb hX hbl hbA hS (j := 3) eb3.symm (by omega) (by omega) (by decide) (lv_at hl 1 rfl) (lv_at hl 5 rfl) dL_law_633 dL_law_634 dL_law_636 dL_law_637 dL_law_638 dL_law_639 dL_law_642 dL_law_643 dL_law_646 ?_
  have hFc := va_free (wc := ob_wR t ar Bd Tr n cl rd sv pb wf wa ro ah ct mn ms mf mt mp cn sd V th) hD hS hA [40, 41, 42, 43, 44, 45, 46, 47, 48, 49, 50, 51, 52, 53, 54, 55, 56, 57] rfl
  refine va_calli (va_runV (As := [.int x1, .int x2, .int (ob_bi b3)]) (rest := []) ⟨hx, hb, hml, hown, hts⟩ (c_X5_argue l D t H.size ar Bd Tr n cl rd sv pb wf wa ro ah ct mn ms mf mt mp cn sd V th x1 x2 b3 h6) (cwV 3 hts gL_law_X5_argue rfl rfl rfl (by decide +kernel) ⟨Nat.le_of_ble_eq_true rfl, Nat.le_of_ble_eq_true rfl⟩) (ob_pmV (ci := 5) (q0 := 0) (hP.sub [40, 41, 42, 43, 44, 45, 46, 47, 48, 49, 50, 51, 52, 53, 54, 55, 56, 57] rfl) (hD.sub [40, 41, 42, 43, 44, 45, 46, 47, 48, 49, 50, 51, 52, 53, 54, 55, 56, 57] (by decide) rfl) hk rfl rfl) rfl rfl hl.1 rfl (lv_room (Nat.le_of_ble_eq_true rfl)) dL_law_647 ⟨show Kc + 1 + 0 ≤ 601024 by omega, show Ks + 6 + 0 ≤ 7293034 by omega⟩) hS (fun q _ h => hFc q h) hFc (fun r8 u8 t9 H1 locs ht hvm hw8 hB hz1 hk1 hS => ?_)
  rw [ht] at hB
  have hP := ob_jn (ws' := ob_wX ax ao al am ac ++ ob_wO t ao M ++ ob_wL t al n cl rd sv pb (if z = 0 then upd ba x1.toNatClampNeg (ba x1.toNatClampNeg + if b3 then x2 else -x2) else ba) bf od bg ++ ob_wM t am mn ms mf mt mp ++ ob_wC t ac cn st Wt ++ ob_wR t ar Bd Tr n cl rd sv pb (if ob_hd n x1 && ob_wi x2 (nI 1) (nI 100) then upd wf x1.toNatClampNeg (wf x1.toNatClampNeg + if b3 then x2 else nI 0) else wf) (if ob_hd n x1 && ob_wi x2 (nI 1) (nI 100) then upd wa x1.toNatClampNeg (wa x1.toNatClampNeg + if b3 then nI 0 else x2) else wa) ro ah ct mn ms mf mt mp cn sd V (nI (ob_z2 (ob_hd n x1) (ob_wi x2 (nI 1) (nI 100)))) ++ ob_wU t au (if z = 0 then vp_updL ov 0 u9.toInt64 else ov)) hP hD [none, none, none, none, none, none, none, none, none, none, none, none, none, none, none, none, none, none, none, none, none, none, none, none, none, none, none, none, none, none, none, none, none, none, none, none, none, none, none, none, some 0, some 1, some 2, some 3, some 4, some 5, some 6, some 7, some 8, some 9, some 10, some 11, some 12, some 13, some 14, some 15, some 16, some 17, none] [40, 41, 42, 43, 44, 45, 46, 47, 48, 49, 50, 51, 52, 53, 54, 55, 56, 57] rfl rfl hk1 hB rfl
  have hD : va_D (fun q : Nat => s.heap.size ≤ q) (ob_wX ax ao al am ac ++ ob_wO t ao M ++ ob_wL t al n cl rd sv pb (if z = 0 then upd ba x1.toNatClampNeg (ba x1.toNatClampNeg + if b3 then x2 else -x2) else ba) bf od bg ++ ob_wM t am mn ms mf mt mp ++ ob_wC t ac cn st Wt ++ ob_wR t ar Bd Tr n cl rd sv pb (if ob_hd n x1 && ob_wi x2 (nI 1) (nI 100) then upd wf x1.toNatClampNeg (wf x1.toNatClampNeg + if b3 then x2 else nI 0) else wf) (if ob_hd n x1 && ob_wi x2 (nI 1) (nI 100) then upd wa x1.toNatClampNeg (wa x1.toNatClampNeg + if b3 then nI 0 else x2) else wa) ro ah ct mn ms mf mt mp cn sd V (nI (ob_z2 (ob_hd n x1) (ob_wi x2 (nI 1) (nI 100)))) ++ ob_wU t au (if z = 0 then vp_updL ov 0 u9.toInt64 else ov)) := ob_dXOLMCRU hD
  generalize H1 = H at hP hS ⊢
  have hth : nI (ob_z2 (ob_hd n x1) (ob_wi x2 (nI 1) (nI 100))) = nI z := congrArg nI hz.symm
  rw [hth] at hP
  have hP : va_P D vwCl (ob_wX ax ao al am ac ++ ob_wO t ao M ++ ob_wL t al n cl rd sv pb (if z = 0 then upd ba x1.toNatClampNeg (ba x1.toNatClampNeg + if b3 then x2 else -x2) else ba) bf od bg ++ ob_wM t am mn ms mf mt mp ++ ob_wC t ac cn st Wt ++ ob_wR t ar Bd Tr n cl rd sv pb (if ob_hd n x1 && ob_wi x2 (nI 1) (nI 100) then upd wf x1.toNatClampNeg (wf x1.toNatClampNeg + if b3 then x2 else nI 0) else wf) (if ob_hd n x1 && ob_wi x2 (nI 1) (nI 100) then upd wa x1.toNatClampNeg (wa x1.toNatClampNeg + if b3 then nI 0 else x2) else wa) ro ah ct mn ms mf mt mp cn sd V (nI z) ++ ob_wU t au (if z = 0 then vp_updL ov 0 u9.toInt64 else ov)) H := hP
  have e9 : z = 0 → r8 = u9 := fun h0 => hw8.trans ((hq.2 h0).trans (hp9 h0).symm)
  refine lv_istore (lv' := [(6, .int r8), (5, .int (nI z)), (0, .ref b), (1, .ref ax), (2, .ref (ar 0)), (3, .ref au), (4, .int (nI (6 * k)))]) hx hb dL_law_650 hl (by decide) rfl (fun ls hl => ?_)
  refine lv_aload_n hx hb dL_law_652 rfl (lv_at hl 4 rfl) ?_
  refine vp_callSi (va_Run.run (va_runV (As := []) (rest := []) ⟨hx, hb, hml, hown, hts⟩ (c_X5_thrown l D t ar Bd Tr n cl rd sv pb (if ob_hd n x1 && ob_wi x2 (nI 1) (nI 100) then upd wf x1.toNatClampNeg (wf x1.toNatClampNeg + if b3 then x2 else nI 0) else wf) (if ob_hd n x1 && ob_wi x2 (nI 1) (nI 100) then upd wa x1.toNatClampNeg (wa x1.toNatClampNeg + if b3 then nI 0 else x2) else wa) ro ah ct mn ms mf mt mp cn sd V (nI z)) (cwV 0 hts gL_law_X5_thrown rfl rfl rfl (by decide +kernel) ⟨Nat.le_of_ble_eq_true rfl, Nat.le_of_ble_eq_true rfl⟩) (ob_preV (ci := 5) (q0 := 0) (hP.sub [40, 41, 42, 43, 44, 45, 46, 47, 48, 49, 50, 51, 52, 53, 54, 55, 56, 57] rfl) hk rfl rfl) rfl rfl hl.1 rfl (lv_room (Nat.le_of_ble_eq_true rfl)) dL_law_653 ⟨show Kc + 1 + 0 + 0 ≤ 601024 by omega, show Ks + 6 + 0 + 0 ≤ 7293034 by omega⟩)) (fun r7 hr7 => ?_)
  subst hr7
  refine lv_iload hx hb dL_law_656 (lv_at hl 1 rfl) ?_
  refine lv_icmp_eq (tgt := 663) hx hb dL_law_658 (by decide) (fun _ => ?_) (fun c9 => absurd rfl c9)
  refine lv_iload hx hb dL_law_663 (lv_at hl 1 rfl) ?_
  have fin : W p l e room_1 s m #[Value.ref b] below meth c H locs (Kc + 1) (Ks + 6) Q (F0 m 680 ls []) := by
    refine lv_goto (tgt := 1415) hx hb dL_law_680 (by decide) ?_
    exact nx _ _ _ ⟨_, _, _, _, _, _, _, _, _, _, _, _, _, _, _, _, _, _, _, _, _, _, _, _, _, _, _, _, _, _, _, _, _, _, _, _, _, _, _, _, hP, hq.1, hM, hC⟩ hS (lv_sub hl [2, 3, 4, 5, 6] rfl)
  refine lv_if_ne (tgt := 680) hx hb dL_law_665 (by decide) (fun _ => fin) (fun c9 => ?_)
  have hz0 := ob_z0 hz3 c9
  refine lv_aload_n hx hb dL_law_668 rfl (lv_at hl 5 rfl) ?_
  refine lv_iconst (v := nI 0) hx hb dL_law_669 (by decide) ?_
  refine ob_lald hx hb hK hP 58 1 rfl rfl (show 0 < 1 by decide) (by decide) dL_law_670 ?_
  rw [show (if z = 0 then vp_updL ov 0 u9.toInt64 else ov : Nat → Int64) 0 = u9.toInt64 from by rw [if_pos hz0]; exact if_pos rfl]
  refine lv_iload hx hb dL_law_671 (lv_at hl 0 rfl) ?_
  refine lv_i2l (v := r8.toInt64) hx hb dL_law_673 rfl ?_
  refine ob_lcmp hx hb dL_law_674 (by rw [e9 hz0]) ?_
  exact lv_if_eq (tgt := 680) hx hb dL_law_675 (by decide) (fun _ => fin) (fun c8 => absurd rfl c8)

set_option maxRecDepth 100000 in
set_option maxHeartbeats 8000000 in
theorem ob_jisDoubtful {p : Program} {l : Launch} {e : Env} {s : State} {m : MethodId} {below : List Frame} {meth : Method} {c : Code} {b L : Nat} {xs : Nat → Int32} {D : va_G} {t : Nat → ClassId} {sa : Nat → Nat} {ax : Nat} {ao al am ac ar : Nat → Nat} {au : Nat} {k Kc Ks : Nat} {Q : State → Prop} (C0 : ob_At p l s m c b L xs D t sa) (hD0 : va_D (fun q : Nat => s.heap.size ≤ q) (ob_wX ax ao al am ac ++ ob_wO t ao (fun _ _ => 0) ++ ob_wL t al 0 (fun _ => 0) (fun _ => 0) (fun _ => 0) (fun _ => 0) (fun _ => 0) (fun _ => 0) (fun _ => 0) (fun _ => 0) ++ ob_wM t am 0 (fun _ => 0) (fun _ => 0) (fun _ => 0) (fun _ => 0) ++ ob_wC t ac 0 0 (fun _ _ => 0) ++ ob_wR t ar (fun _ => 0) (fun _ => 0) 0 (fun _ => 0) (fun _ => 0) (fun _ => 0) (fun _ => 0) (fun _ => 0) (fun _ => 0) (fun _ => 0) (fun _ => 0) (fun _ => 0) 0 (fun _ => 0) (fun _ => 0) (fun _ => 0) (fun _ => 0) 0 (fun _ => 0) (fun _ => 0) 0 ++ ob_wU t au (fun _ => 0))) (hk6 : 6 * k + 6 ≤ L) (hKc : Kc + 1 ≤ 601024) (hKs : Ks + 6 ≤ 7293034)
    (nx : ∀ (H : Heap) (locs : List Loc) (ls : Array Slot), ob_St D t ax ao al am ac ar au (k + 1) H → va_S (fun q : Nat => s.heap.size ≤ q) s.heap H locs → lv_has ls 8 [(0, .ref b), (1, .ref ax), (2, .ref (ar 0)), (3, .ref au), (4, .int (nI (6 * k)))] → W p l e room_1 s m #[Value.ref b] below meth c H locs (Kc + 1) (Ks + 6) Q (F0 m 1415 ls []))
    {H : Heap} {locs : List Loc} {ls : Array Slot} (hI : ob_St D t ax ao al am ac ar au k H) (hS : va_S (fun q : Nat => s.heap.size ≤ q) s.heap H locs) (hl : lv_has ls 8 [(0, .ref b), (1, .ref ax), (2, .ref (ar 0)), (3, .ref au), (4, .int (nI (6 * k)))]) : W p l e room_1 s m #[Value.ref b] below meth c H locs Kc Ks Q (F0 m 683 ls []) := by
  obtain ⟨hx, hb, hml, hown, hts, hX, hbl, hk, hE0, hN, hl9, hL3⟩ := C0
  obtain ⟨M, n, cl, rd, sv, pb, ba, bf, od, bg, mn, ms, mf, mt, mp, cn, st, Wt, Bd, Tr, rn, rcl, rrd, rsv, rpb, wf, wa, ro, ah, ct, rmn, rms, rmf, rmt, rmp, rcn, sd, V, th, ov, hP, hL, hM, hC⟩ := hI
  obtain ⟨rfl, rfl, rfl, rfl, rfl, h6, h7, h8, h9, h10, h11, h12, h13⟩ := id hL
  obtain ⟨rfl, rfl, rfl, rfl, rfl, hmn, hmm⟩ := id hM
  obtain ⟨rfl, hcn, hWV, hVz, hsd, hst⟩ := id hC
  have hkk : k ≤ 1000 := by omega
  have hbA : ¬ (fun q : Nat => s.heap.size ≤ q) b := Nat.not_le.mpr hbl
  have hA : ∀ q : Nat, s.heap.size ≤ q → (fun q : Nat => s.heap.size ≤ q) q := fun _ h => h
  have hK := hk.1
  have hE := ob_exK hE0 hS
  have hP : va_P D vwCl (ob_wX ax ao al am ac ++ ob_wO t ao M ++ ob_wL t al n cl rd sv pb ba bf od bg ++ ob_wM t am mn ms mf mt mp ++ ob_wC t ac cn st Wt ++ ob_wR t ar Bd Tr n cl rd sv pb wf wa ro ah ct mn ms mf mt mp cn sd V th ++ ob_wU t au ov) H := hP
  have hD : va_D (fun q : Nat => s.heap.size ≤ q) (ob_wX ax ao al am ac ++ ob_wO t ao M ++ ob_wL t al n cl rd sv pb ba bf od bg ++ ob_wM t am mn ms mf mt mp ++ ob_wC t ac cn st Wt ++ ob_wR t ar Bd Tr n cl rd sv pb wf wa ro ah ct mn ms mf mt mp cn sd V th ++ ob_wU t au ov) := ob_dXOLMCRU hD0
  obtain ⟨x, ex⟩ : ∃ z, z = xs (6 * k + 1) := ⟨_, rfl⟩
  obtain ⟨z, hz⟩ : ∃ z, z = ob_z1 (ob_hd n x) := ⟨_, rfl⟩
  have hz3 : z ≤ 3 := (by rw [hz]; exact ob_z1_3 _)
  refine lv_aload_n hx hb dL_law_683 rfl (lv_at hl 1 rfl) ?_
  refine ob_ldp hx hb hX hbl hbA hS (j := 1) ex.symm (by omega) (by omega) (by decide) (lv_at hl 0 rfl) (lv_at hl 4 rfl) dL_law_684 dL_law_685 dL_law_687 dL_law_688 dL_law_689 ?_
  refine lv_aload_n hx hb dL_law_690 rfl (lv_at hl 3 rfl) ?_
  have hFc := va_free (wc := ob_wX ax ao al am ac ++ ob_wL t al n cl rd sv pb ba bf od bg ++ ob_wU t au ov) hD hS hA [0, 8, 9, 10, 11, 12, 13, 14, 15, 16, 58] rfl
  refine va_calli (ob_runN (vx_runSX (As := [.ref ax, .int x, .ref au]) (rest := []) ⟨hx, hb, hml, hown, hts⟩ (c_L_isDoubtful l hl9 sa D t H.size ax ao al am ac n cl rd sv pb ba bf od bg x au ov z h6 (hz.symm)) (vx_cwSW 3 hts gL_law_L_isDoubtful rfl rfl rfl (by decide +kernel) ⟨Nat.le_of_ble_eq_true rfl, Nat.le_of_ble_eq_true rfl⟩) (ob_pyS (hP.sub [0, 8, 9, 10, 11, 12, 13, 14, 15, 16, 58] rfl) (hD.sub [0, 8, 9, 10, 11, 12, 13, 14, 15, 16, 58] (by decide) rfl) hk hE hN) rfl rfl hl.1 rfl (lv_room (Nat.le_of_ble_eq_true rfl)) dL_law_691 ⟨show Kc + 1 ≤ 601024 from hKc, show Ks + 6 ≤ 7293034 from hKs⟩)) hS (fun q _ h => hFc q h) hFc (fun r9 u9 t9 H1 locs ht hvm hw9 hB hz1 hk1 hS => ?_)
  obtain ⟨rfl, hp9⟩ := hw9
  rw [ht] at hB
  have hP := ob_jn (ws' := ob_wX ax ao al am ac ++ ob_wO t ao M ++ ob_wL t al n cl rd sv pb ba bf od bg ++ ob_wM t am mn ms mf mt mp ++ ob_wC t ac cn st Wt ++ ob_wR t ar Bd Tr n cl rd sv pb wf wa ro ah ct mn ms mf mt mp cn sd V th ++ ob_wU t au (if z = 0 then vp_updL ov 0 (if u9 then lN 1 else lN 0) else ov)) hP hD [some 0, none, none, none, none, none, none, none, some 1, some 2, some 3, some 4, some 5, some 6, some 7, some 8, some 9, none, none, none, none, none, none, none, none, none, none, none, none, none, none, none, none, none, none, none, none, none, none, none, none, none, none, none, none, none, none, none, none, none, none, none, none, none, none, none, none, none, some 10] [0, 8, 9, 10, 11, 12, 13, 14, 15, 16, 58] rfl rfl hk1 hB rfl
  have hD : va_D (fun q : Nat => s.heap.size ≤ q) (ob_wX ax ao al am ac ++ ob_wO t ao M ++ ob_wL t al n cl rd sv pb ba bf od bg ++ ob_wM t am mn ms mf mt mp ++ ob_wC t ac cn st Wt ++ ob_wR t ar Bd Tr n cl rd sv pb wf wa ro ah ct mn ms mf mt mp cn sd V th ++ ob_wU t au (if z = 0 then vp_updL ov 0 (if u9 then lN 1 else lN 0) else ov)) := ob_dXOLMCRU hD
  generalize H1 = H at hP hS ⊢
  refine lv_istore (lv' := [(5, .int (nI z)), (0, .ref b), (1, .ref ax), (2, .ref (ar 0)), (3, .ref au), (4, .int (nI (6 * k)))]) hx hb dL_law_694 hl (by decide) rfl (fun ls hl => ?_)
  refine lv_aload_n hx hb dL_law_696 rfl (lv_at hl 3 rfl) ?_
  refine ob_ldp hx hb hX hbl hbA hS (j := 1) ex.symm (by omega) (by omega) (by decide) (lv_at hl 1 rfl) (lv_at hl 5 rfl) dL_law_697 dL_law_698 dL_law_700 dL_law_701 dL_law_702 ?_
  have hFc := va_free (wc := ob_wR t ar Bd Tr n cl rd sv pb wf wa ro ah ct mn ms mf mt mp cn sd V th) hD hS hA [40, 41, 42, 43, 44, 45, 46, 47, 48, 49, 50, 51, 52, 53, 54, 55, 56, 57] rfl
  refine va_calli (va_runV (As := [.int x]) (rest := []) ⟨hx, hb, hml, hown, hts⟩ (c_X5_isDoubtful l D t H.size ar Bd Tr n cl rd sv pb wf wa ro ah ct mn ms mf mt mp cn sd V th x h6) (cwV 1 hts gL_law_X5_isDoubtful rfl rfl rfl (by decide +kernel) ⟨Nat.le_of_ble_eq_true rfl, Nat.le_of_ble_eq_true rfl⟩) (ob_pmV (ci := 5) (q0 := 0) (hP.sub [40, 41, 42, 43, 44, 45, 46, 47, 48, 49, 50, 51, 52, 53, 54, 55, 56, 57] rfl) (hD.sub [40, 41, 42, 43, 44, 45, 46, 47, 48, 49, 50, 51, 52, 53, 54, 55, 56, 57] (by decide) rfl) hk rfl rfl) rfl rfl hl.1 rfl (lv_room (Nat.le_of_ble_eq_true rfl)) dL_law_703 ⟨show Kc + 1 + 0 ≤ 601024 by omega, show Ks + 6 + 0 ≤ 7293034 by omega⟩) hS (fun q _ h => hFc q h) hFc (fun r8 u8 t9 H1 locs ht hvm hw8 hB hz1 hk1 hS => ?_)
  rw [ht] at hB
  have hP := ob_jn (ws' := ob_wX ax ao al am ac ++ ob_wO t ao M ++ ob_wL t al n cl rd sv pb ba bf od bg ++ ob_wM t am mn ms mf mt mp ++ ob_wC t ac cn st Wt ++ ob_wR t ar Bd Tr n cl rd sv pb wf wa ro ah ct mn ms mf mt mp cn sd V (nI (ob_z1 (ob_hd n x))) ++ ob_wU t au (if z = 0 then vp_updL ov 0 (if u9 then lN 1 else lN 0) else ov)) hP hD [none, none, none, none, none, none, none, none, none, none, none, none, none, none, none, none, none, none, none, none, none, none, none, none, none, none, none, none, none, none, none, none, none, none, none, none, none, none, none, none, some 0, some 1, some 2, some 3, some 4, some 5, some 6, some 7, some 8, some 9, some 10, some 11, some 12, some 13, some 14, some 15, some 16, some 17, none] [40, 41, 42, 43, 44, 45, 46, 47, 48, 49, 50, 51, 52, 53, 54, 55, 56, 57] rfl rfl hk1 hB rfl
  have hD : va_D (fun q : Nat => s.heap.size ≤ q) (ob_wX ax ao al am ac ++ ob_wO t ao M ++ ob_wL t al n cl rd sv pb ba bf od bg ++ ob_wM t am mn ms mf mt mp ++ ob_wC t ac cn st Wt ++ ob_wR t ar Bd Tr n cl rd sv pb wf wa ro ah ct mn ms mf mt mp cn sd V (nI (ob_z1 (ob_hd n x))) ++ ob_wU t au (if z = 0 then vp_updL ov 0 (if u9 then lN 1 else lN 0) else ov)) := ob_dXOLMCRU hD
  generalize H1 = H at hP hS ⊢
  have hth : nI (ob_z1 (ob_hd n x)) = nI z := congrArg nI hz.symm
  rw [hth] at hP
  have hP : va_P D vwCl (ob_wX ax ao al am ac ++ ob_wO t ao M ++ ob_wL t al n cl rd sv pb ba bf od bg ++ ob_wM t am mn ms mf mt mp ++ ob_wC t ac cn st Wt ++ ob_wR t ar Bd Tr n cl rd sv pb wf wa ro ah ct mn ms mf mt mp cn sd V (nI z) ++ ob_wU t au (if z = 0 then vp_updL ov 0 (if u9 then lN 1 else lN 0) else ov)) H := hP
  subst hw8
  refine lv_istore (lv' := [(6, .int (ob_bi (ob_hd n x && decide (wf x.toNatClampNeg < wa x.toNatClampNeg)))), (5, .int (nI z)), (0, .ref b), (1, .ref ax), (2, .ref (ar 0)), (3, .ref au), (4, .int (nI (6 * k)))]) hx hb dL_law_706 hl (by decide) rfl (fun ls hl => ?_)
  have e9 : z = 0 → (ob_hd n x && decide (wf x.toNatClampNeg < wa x.toNatClampNeg)) = u9 := fun h0 => (ob_q_isDoubtful hkk hL).trans (hp9 h0).symm
  refine lv_aload_n hx hb dL_law_708 rfl (lv_at hl 4 rfl) ?_
  refine vp_callSi (va_Run.run (va_runV (As := []) (rest := []) ⟨hx, hb, hml, hown, hts⟩ (c_X5_thrown l D t ar Bd Tr n cl rd sv pb wf wa ro ah ct mn ms mf mt mp cn sd V (nI z)) (cwV 0 hts gL_law_X5_thrown rfl rfl rfl (by decide +kernel) ⟨Nat.le_of_ble_eq_true rfl, Nat.le_of_ble_eq_true rfl⟩) (ob_preV (ci := 5) (q0 := 0) (hP.sub [40, 41, 42, 43, 44, 45, 46, 47, 48, 49, 50, 51, 52, 53, 54, 55, 56, 57] rfl) hk rfl rfl) rfl rfl hl.1 rfl (lv_room (Nat.le_of_ble_eq_true rfl)) dL_law_709 ⟨show Kc + 1 + 0 + 0 ≤ 601024 by omega, show Ks + 6 + 0 + 0 ≤ 7293034 by omega⟩)) (fun r7 hr7 => ?_)
  subst hr7
  refine lv_iload hx hb dL_law_712 (lv_at hl 1 rfl) ?_
  refine lv_icmp_eq (tgt := 719) hx hb dL_law_714 (by decide) (fun _ => ?_) (fun c9 => absurd rfl c9)
  refine lv_iload hx hb dL_law_719 (lv_at hl 1 rfl) ?_
  have fin : W p l e room_1 s m #[Value.ref b] below meth c H locs (Kc + 1) (Ks + 6) Q (F0 m 743 ls []) := by
    refine lv_goto (tgt := 1415) hx hb dL_law_743 (by decide) ?_
    exact nx _ _ _ ⟨_, _, _, _, _, _, _, _, _, _, _, _, _, _, _, _, _, _, _, _, _, _, _, _, _, _, _, _, _, _, _, _, _, _, _, _, _, _, _, _, hP, (ob_IL_s hL), hM, hC⟩ hS (lv_sub hl [2, 3, 4, 5, 6] rfl)
  refine lv_if_ne (tgt := 743) hx hb dL_law_721 (by decide) (fun _ => fin) (fun c9 => ?_)
  have hz0 := ob_z0 hz3 c9
  refine lv_aload_n hx hb dL_law_724 rfl (lv_at hl 5 rfl) ?_
  refine lv_iconst (v := nI 0) hx hb dL_law_725 (by decide) ?_
  refine ob_lald hx hb hK hP 58 1 rfl rfl (show 0 < 1 by decide) (by decide) dL_law_726 ?_
  rw [show (if z = 0 then vp_updL ov 0 (if u9 then lN 1 else lN 0) else ov : Nat → Int64) 0 = (if u9 then lN 1 else lN 0) from by rw [if_pos hz0]; exact if_pos rfl]
  refine lv_iload hx hb dL_law_727 (lv_at hl 0 rfl) ?_
  refine ob_if_eq (tgt := 736) hx hb dL_law_729 (by decide) (fun c7 => ?_) (fun c7 => ?_)
  · refine lv_lconst (v := lN 0) hx hb dL_law_736 rfl ?_
    refine ob_lcmp hx hb dL_law_737 (by rw [← e9 hz0, c7]; rfl) ?_
    exact lv_if_eq (tgt := 743) hx hb dL_law_738 (by decide) (fun _ => fin) (fun c8 => absurd rfl c8)
  · refine lv_lconst (v := lN 1) hx hb dL_law_732 rfl ?_
    refine lv_goto (tgt := 737) hx hb dL_law_733 (by decide) ?_
    refine ob_lcmp hx hb dL_law_737 (by rw [← e9 hz0, c7]; rfl) ?_
    exact lv_if_eq (tgt := 743) hx hb dL_law_738 (by decide) (fun _ => fin) (fun c8 => absurd rfl c8)

set_option maxRecDepth 100000 in
set_option maxHeartbeats 8000000 in
theorem ob_jstory {p : Program} {l : Launch} {e : Env} {s : State} {m : MethodId} {below : List Frame} {meth : Method} {c : Code} {b L : Nat} {xs : Nat → Int32} {D : va_G} {t : Nat → ClassId} {sa : Nat → Nat} {ax : Nat} {ao al am ac ar : Nat → Nat} {au : Nat} {k Kc Ks : Nat} {Q : State → Prop} (C0 : ob_At p l s m c b L xs D t sa) (hD0 : va_D (fun q : Nat => s.heap.size ≤ q) (ob_wX ax ao al am ac ++ ob_wO t ao (fun _ _ => 0) ++ ob_wL t al 0 (fun _ => 0) (fun _ => 0) (fun _ => 0) (fun _ => 0) (fun _ => 0) (fun _ => 0) (fun _ => 0) (fun _ => 0) ++ ob_wM t am 0 (fun _ => 0) (fun _ => 0) (fun _ => 0) (fun _ => 0) ++ ob_wC t ac 0 0 (fun _ _ => 0) ++ ob_wR t ar (fun _ => 0) (fun _ => 0) 0 (fun _ => 0) (fun _ => 0) (fun _ => 0) (fun _ => 0) (fun _ => 0) (fun _ => 0) (fun _ => 0) (fun _ => 0) (fun _ => 0) 0 (fun _ => 0) (fun _ => 0) (fun _ => 0) (fun _ => 0) 0 (fun _ => 0) (fun _ => 0) 0 ++ ob_wU t au (fun _ => 0))) (hk6 : 6 * k + 6 ≤ L) (hKc : Kc + 1 ≤ 601024) (hKs : Ks + 6 ≤ 7293034)
    (nx : ∀ (H : Heap) (locs : List Loc) (ls : Array Slot), ob_St D t ax ao al am ac ar au (k + 1) H → va_S (fun q : Nat => s.heap.size ≤ q) s.heap H locs → lv_has ls 8 [(0, .ref b), (1, .ref ax), (2, .ref (ar 0)), (3, .ref au), (4, .int (nI (6 * k)))] → W p l e room_1 s m #[Value.ref b] below meth c H locs (Kc + 1) (Ks + 6) Q (F0 m 1415 ls []))
    {H : Heap} {locs : List Loc} {ls : Array Slot} (hI : ob_St D t ax ao al am ac ar au k H) (hS : va_S (fun q : Nat => s.heap.size ≤ q) s.heap H locs) (hl : lv_has ls 8 [(0, .ref b), (1, .ref ax), (2, .ref (ar 0)), (3, .ref au), (4, .int (nI (6 * k)))]) : W p l e room_1 s m #[Value.ref b] below meth c H locs Kc Ks Q (F0 m 746 ls []) := by
  obtain ⟨hx, hb, hml, hown, hts, hX, hbl, hk, hE0, hN, hl9, hL3⟩ := C0
  obtain ⟨M, n, cl, rd, sv, pb, ba, bf, od, bg, mn, ms, mf, mt, mp, cn, st, Wt, Bd, Tr, rn, rcl, rrd, rsv, rpb, wf, wa, ro, ah, ct, rmn, rms, rmf, rmt, rmp, rcn, sd, V, th, ov, hP, hL, hM, hC⟩ := hI
  obtain ⟨rfl, rfl, rfl, rfl, rfl, h6, h7, h8, h9, h10, h11, h12, h13⟩ := id hL
  obtain ⟨rfl, rfl, rfl, rfl, rfl, hmn, hmm⟩ := id hM
  obtain ⟨rfl, hcn, hWV, hVz, hsd, hst⟩ := id hC
  have hkk : k ≤ 1000 := by omega
  have hbA : ¬ (fun q : Nat => s.heap.size ≤ q) b := Nat.not_le.mpr hbl
  have hA : ∀ q : Nat, s.heap.size ≤ q → (fun q : Nat => s.heap.size ≤ q) q := fun _ h => h
  have hK := hk.1
  have hE := ob_exK hE0 hS
  have hP : va_P D vwCl (ob_wX ax ao al am ac ++ ob_wO t ao M ++ ob_wL t al n cl rd sv pb ba bf od bg ++ ob_wM t am mn ms mf mt mp ++ ob_wC t ac cn st Wt ++ ob_wR t ar Bd Tr n cl rd sv pb wf wa ro ah ct mn ms mf mt mp cn sd V th ++ ob_wU t au ov) H := hP
  have hD : va_D (fun q : Nat => s.heap.size ≤ q) (ob_wX ax ao al am ac ++ ob_wO t ao M ++ ob_wL t al n cl rd sv pb ba bf od bg ++ ob_wM t am mn ms mf mt mp ++ ob_wC t ac cn st Wt ++ ob_wR t ar Bd Tr n cl rd sv pb wf wa ro ah ct mn ms mf mt mp cn sd V th ++ ob_wU t au ov) := ob_dXOLMCRU hD0
  refine lv_aload_n hx hb dL_law_746 rfl (lv_at hl 1 rfl) ?_
  refine vp_callSi (va_Run.run (va_runV (As := []) (rest := []) ⟨hx, hb, hml, hown, hts⟩ (c_X4_story l D t ax ao al am ac n cl rd sv pb ba bf od bg h6) (cwV 0 hts gL_law_X4_story rfl rfl rfl (by decide +kernel) ⟨Nat.le_of_ble_eq_true rfl, Nat.le_of_ble_eq_true rfl⟩) (ob_preV (ci := 4) (q0 := 0) (hP.sub [0, 8, 9, 10, 11, 12, 13, 14, 15, 16] rfl) hk rfl rfl) rfl rfl hl.1 rfl (lv_room (Nat.le_of_ble_eq_true rfl)) dL_law_747 ⟨show Kc + 0 ≤ 601024 by omega, show Ks + 0 ≤ 7293034 by omega⟩)) (fun r9 hr9 => ?_)
  subst hr9
  refine lv_aload_n hx hb dL_law_750 rfl (lv_at hl 2 rfl) ?_
  have hFc := va_free (wc := ob_wR t ar Bd Tr n cl rd sv pb wf wa ro ah ct mn ms mf mt mp cn sd V th) hD hS hA [40, 41, 42, 43, 44, 45, 46, 47, 48, 49, 50, 51, 52, 53, 54, 55, 56, 57] rfl
  refine va_calli (va_runV (As := []) (rest := [.int (nI (ob_ct (ob_is n pb ba od) n))]) ⟨hx, hb, hml, hown, hts⟩ (c_X5_story l D t H.size ar Bd Tr n cl rd sv pb wf wa ro ah ct mn ms mf mt mp cn sd V th h6) (cwV 0 hts gL_law_X5_story rfl rfl rfl (by decide +kernel) ⟨Nat.le_of_ble_eq_true rfl, Nat.le_of_ble_eq_true rfl⟩) (ob_pmV (ci := 5) (q0 := 0) (hP.sub [40, 41, 42, 43, 44, 45, 46, 47, 48, 49, 50, 51, 52, 53, 54, 55, 56, 57] rfl) (hD.sub [40, 41, 42, 43, 44, 45, 46, 47, 48, 49, 50, 51, 52, 53, 54, 55, 56, 57] (by decide) rfl) hk rfl rfl) rfl rfl hl.1 rfl (lv_room (Nat.le_of_ble_eq_true rfl)) dL_law_751 ⟨show Kc + 0 ≤ 601024 by omega, show Ks + 0 ≤ 7293034 by omega⟩) hS (fun q _ h => hFc q h) hFc (fun r8 u8 t9 H1 locs ht hvm hw8 hB hz1 hk1 hS => ?_)
  rw [ht] at hB
  have hP := ob_jn (ws' := ob_wX ax ao al am ac ++ ob_wO t ao M ++ ob_wL t al n cl rd sv pb ba bf od bg ++ ob_wM t am mn ms mf mt mp ++ ob_wC t ac cn st Wt ++ ob_wR t ar Bd Tr n cl rd sv pb wf wa ro ah ct mn ms mf mt mp cn sd V (nI 0) ++ ob_wU t au ov) hP hD [none, none, none, none, none, none, none, none, none, none, none, none, none, none, none, none, none, none, none, none, none, none, none, none, none, none, none, none, none, none, none, none, none, none, none, none, none, none, none, none, some 0, some 1, some 2, some 3, some 4, some 5, some 6, some 7, some 8, some 9, some 10, some 11, some 12, some 13, some 14, some 15, some 16, some 17, none] [40, 41, 42, 43, 44, 45, 46, 47, 48, 49, 50, 51, 52, 53, 54, 55, 56, 57] rfl rfl hk1 hB rfl
  have hD : va_D (fun q : Nat => s.heap.size ≤ q) (ob_wX ax ao al am ac ++ ob_wO t ao M ++ ob_wL t al n cl rd sv pb ba bf od bg ++ ob_wM t am mn ms mf mt mp ++ ob_wC t ac cn st Wt ++ ob_wR t ar Bd Tr n cl rd sv pb wf wa ro ah ct mn ms mf mt mp cn sd V (nI 0) ++ ob_wU t au ov) := ob_dXOLMCRU hD
  generalize H1 = H at hP hS ⊢
  refine lv_icmp_eq (tgt := 1415) hx hb dL_law_754 (by decide) (fun _ => ?_) (fun c9 => absurd (((ob_q_story hkk hL).symm).trans hw8.symm) c9)
  refine W.widen (k := Kc + 1) (n := Ks + 6) (by omega) (by omega) ?_
  exact nx _ _ _ ⟨_, _, _, _, _, _, _, _, _, _, _, _, _, _, _, _, _, _, _, _, _, _, _, _, _, _, _, _, _, _, _, _, _, _, _, _, _, _, _, _, hP, (ob_IL_s hL), hM, hC⟩ hS (lv_sub hl [0, 1, 2, 3, 4] rfl)

set_option maxRecDepth 100000 in
set_option maxHeartbeats 8000000 in
theorem ob_jstoryAt {p : Program} {l : Launch} {e : Env} {s : State} {m : MethodId} {below : List Frame} {meth : Method} {c : Code} {b L : Nat} {xs : Nat → Int32} {D : va_G} {t : Nat → ClassId} {sa : Nat → Nat} {ax : Nat} {ao al am ac ar : Nat → Nat} {au : Nat} {k Kc Ks : Nat} {Q : State → Prop} (C0 : ob_At p l s m c b L xs D t sa) (hD0 : va_D (fun q : Nat => s.heap.size ≤ q) (ob_wX ax ao al am ac ++ ob_wO t ao (fun _ _ => 0) ++ ob_wL t al 0 (fun _ => 0) (fun _ => 0) (fun _ => 0) (fun _ => 0) (fun _ => 0) (fun _ => 0) (fun _ => 0) (fun _ => 0) ++ ob_wM t am 0 (fun _ => 0) (fun _ => 0) (fun _ => 0) (fun _ => 0) ++ ob_wC t ac 0 0 (fun _ _ => 0) ++ ob_wR t ar (fun _ => 0) (fun _ => 0) 0 (fun _ => 0) (fun _ => 0) (fun _ => 0) (fun _ => 0) (fun _ => 0) (fun _ => 0) (fun _ => 0) (fun _ => 0) (fun _ => 0) 0 (fun _ => 0) (fun _ => 0) (fun _ => 0) (fun _ => 0) 0 (fun _ => 0) (fun _ => 0) 0 ++ ob_wU t au (fun _ => 0))) (hk6 : 6 * k + 6 ≤ L) (hKc : Kc + 1 ≤ 601024) (hKs : Ks + 6 ≤ 7293034)
    (nx : ∀ (H : Heap) (locs : List Loc) (ls : Array Slot), ob_St D t ax ao al am ac ar au (k + 1) H → va_S (fun q : Nat => s.heap.size ≤ q) s.heap H locs → lv_has ls 8 [(0, .ref b), (1, .ref ax), (2, .ref (ar 0)), (3, .ref au), (4, .int (nI (6 * k)))] → W p l e room_1 s m #[Value.ref b] below meth c H locs (Kc + 1) (Ks + 6) Q (F0 m 1415 ls []))
    {H : Heap} {locs : List Loc} {ls : Array Slot} (hI : ob_St D t ax ao al am ac ar au k H) (hS : va_S (fun q : Nat => s.heap.size ≤ q) s.heap H locs) (hl : lv_has ls 8 [(0, .ref b), (1, .ref ax), (2, .ref (ar 0)), (3, .ref au), (4, .int (nI (6 * k)))]) : W p l e room_1 s m #[Value.ref b] below meth c H locs Kc Ks Q (F0 m 759 ls []) := by
  obtain ⟨hx, hb, hml, hown, hts, hX, hbl, hk, hE0, hN, hl9, hL3⟩ := C0
  obtain ⟨M, n, cl, rd, sv, pb, ba, bf, od, bg, mn, ms, mf, mt, mp, cn, st, Wt, Bd, Tr, rn, rcl, rrd, rsv, rpb, wf, wa, ro, ah, ct, rmn, rms, rmf, rmt, rmp, rcn, sd, V, th, ov, hP, hL, hM, hC⟩ := hI
  obtain ⟨rfl, rfl, rfl, rfl, rfl, h6, h7, h8, h9, h10, h11, h12, h13⟩ := id hL
  obtain ⟨rfl, rfl, rfl, rfl, rfl, hmn, hmm⟩ := id hM
  obtain ⟨rfl, hcn, hWV, hVz, hsd, hst⟩ := id hC
  have hkk : k ≤ 1000 := by omega
  have hbA : ¬ (fun q : Nat => s.heap.size ≤ q) b := Nat.not_le.mpr hbl
  have hA : ∀ q : Nat, s.heap.size ≤ q → (fun q : Nat => s.heap.size ≤ q) q := fun _ h => h
  have hK := hk.1
  have hE := ob_exK hE0 hS
  have hP : va_P D vwCl (ob_wX ax ao al am ac ++ ob_wO t ao M ++ ob_wL t al n cl rd sv pb ba bf od bg ++ ob_wM t am mn ms mf mt mp ++ ob_wC t ac cn st Wt ++ ob_wR t ar Bd Tr n cl rd sv pb wf wa ro ah ct mn ms mf mt mp cn sd V th ++ ob_wU t au ov) H := hP
  have hD : va_D (fun q : Nat => s.heap.size ≤ q) (ob_wX ax ao al am ac ++ ob_wO t ao M ++ ob_wL t al n cl rd sv pb ba bf od bg ++ ob_wM t am mn ms mf mt mp ++ ob_wC t ac cn st Wt ++ ob_wR t ar Bd Tr n cl rd sv pb wf wa ro ah ct mn ms mf mt mp cn sd V th ++ ob_wU t au ov) := ob_dXOLMCRU hD0
  obtain ⟨x, ex⟩ : ∃ z, z = xs (6 * k + 1) := ⟨_, rfl⟩
  obtain ⟨z, hz⟩ : ∃ z, z = ob_z1 (ob_hd (ob_ct (ob_os pb wf wa) n) x) := ⟨_, rfl⟩
  have hz3 : z ≤ 3 := (by rw [hz]; exact ob_z1_3 _)
  obtain ⟨pm, p1, p2, p3⟩ := ob_q_pm hL ro
  refine lv_aload_n hx hb dL_law_759 rfl (lv_at hl 1 rfl) ?_
  refine ob_ldp hx hb hX hbl hbA hS (j := 1) ex.symm (by omega) (by omega) (by decide) (lv_at hl 0 rfl) (lv_at hl 4 rfl) dL_law_760 dL_law_761 dL_law_763 dL_law_764 dL_law_765 ?_
  refine lv_aload_n hx hb dL_law_766 rfl (lv_at hl 3 rfl) ?_
  have hFc := va_free (wc := ob_wX ax ao al am ac ++ ob_wL t al n cl rd sv pb ba bf od bg ++ ob_wU t au ov) hD hS hA [0, 8, 9, 10, 11, 12, 13, 14, 15, 16, 58] rfl
  refine va_calli (ob_runN (vx_runSX (As := [.ref ax, .int x, .ref au]) (rest := []) ⟨hx, hb, hml, hown, hts⟩ (c_L_storyAt l hl9 sa D t H.size ax ao al am ac n cl rd sv pb ba bf od bg pm x au ov z h6 p1 ((ob_pstoryAt (x := x) (u := 0) (b := 0) h6 (show 100 * k ≤ 1000000 by omega) h11 p1 p3).1.trans hz.symm)) (vx_cwSW 3 hts gL_law_L_storyAt rfl rfl rfl (by decide +kernel) ⟨Nat.le_of_ble_eq_true rfl, Nat.le_of_ble_eq_true rfl⟩) (ob_pyS (hP.sub [0, 8, 9, 10, 11, 12, 13, 14, 15, 16, 58] rfl) (hD.sub [0, 8, 9, 10, 11, 12, 13, 14, 15, 16, 58] (by decide) rfl) hk hE hN) rfl rfl hl.1 rfl (lv_room (Nat.le_of_ble_eq_true rfl)) dL_law_767 ⟨show Kc + 1 ≤ 601024 from hKc, show Ks + 6 ≤ 7293034 from hKs⟩)) hS (fun q _ h => hFc q h) hFc (fun r9 u9 t9 H1 locs ht hvm hw9 hB hz1 hk1 hS => ?_)
  obtain ⟨rfl, hp9⟩ := hw9
  rw [ht] at hB
  have hP := ob_jn (ws' := ob_wX ax ao al am ac ++ ob_wO t ao M ++ ob_wL t al n cl rd sv pb ba bf od bg ++ ob_wM t am mn ms mf mt mp ++ ob_wC t ac cn st Wt ++ ob_wR t ar Bd Tr n cl rd sv pb wf wa ro ah ct mn ms mf mt mp cn sd V th ++ ob_wU t au (if z = 0 then vp_updL ov 0 u9.toInt64 else ov)) hP hD [some 0, none, none, none, none, none, none, none, some 1, some 2, some 3, some 4, some 5, some 6, some 7, some 8, some 9, none, none, none, none, none, none, none, none, none, none, none, none, none, none, none, none, none, none, none, none, none, none, none, none, none, none, none, none, none, none, none, none, none, none, none, none, none, none, none, none, none, some 10] [0, 8, 9, 10, 11, 12, 13, 14, 15, 16, 58] rfl rfl hk1 hB rfl
  have hD : va_D (fun q : Nat => s.heap.size ≤ q) (ob_wX ax ao al am ac ++ ob_wO t ao M ++ ob_wL t al n cl rd sv pb ba bf od bg ++ ob_wM t am mn ms mf mt mp ++ ob_wC t ac cn st Wt ++ ob_wR t ar Bd Tr n cl rd sv pb wf wa ro ah ct mn ms mf mt mp cn sd V th ++ ob_wU t au (if z = 0 then vp_updL ov 0 u9.toInt64 else ov)) := ob_dXOLMCRU hD
  generalize H1 = H at hP hS ⊢
  refine lv_istore (lv' := [(5, .int (nI z)), (0, .ref b), (1, .ref ax), (2, .ref (ar 0)), (3, .ref au), (4, .int (nI (6 * k)))]) hx hb dL_law_770 hl (by decide) rfl (fun ls hl => ?_)
  refine lv_aload_n hx hb dL_law_772 rfl (lv_at hl 3 rfl) ?_
  refine ob_ldp hx hb hX hbl hbA hS (j := 1) ex.symm (by omega) (by omega) (by decide) (lv_at hl 1 rfl) (lv_at hl 5 rfl) dL_law_773 dL_law_774 dL_law_776 dL_law_777 dL_law_778 ?_
  have hFc := va_free (wc := ob_wR t ar Bd Tr n cl rd sv pb wf wa ro ah ct mn ms mf mt mp cn sd V th) hD hS hA [40, 41, 42, 43, 44, 45, 46, 47, 48, 49, 50, 51, 52, 53, 54, 55, 56, 57] rfl
  refine va_calli (va_runV (As := [.int x]) (rest := []) ⟨hx, hb, hml, hown, hts⟩ (c_X5_storyAt l D t H.size ar Bd Tr n cl rd sv pb wf wa ro ah ct mn ms mf mt mp cn sd V th (ob_kc cl) pm x h6 h9 p2) (cwV 1 hts gL_law_X5_storyAt rfl rfl rfl (by decide +kernel) ⟨Nat.le_of_ble_eq_true rfl, Nat.le_of_ble_eq_true rfl⟩) (ob_pmV (ci := 5) (q0 := 0) (hP.sub [40, 41, 42, 43, 44, 45, 46, 47, 48, 49, 50, 51, 52, 53, 54, 55, 56, 57] rfl) (hD.sub [40, 41, 42, 43, 44, 45, 46, 47, 48, 49, 50, 51, 52, 53, 54, 55, 56, 57] (by decide) rfl) hk rfl rfl) rfl rfl hl.1 rfl (lv_room (Nat.le_of_ble_eq_true rfl)) dL_law_779 ⟨show Kc + 1 + 0 ≤ 601024 by omega, show Ks + 6 + 0 ≤ 7293034 by omega⟩) hS (fun q _ h => hFc q h) hFc (fun r8 u8 t9 H1 locs ht hvm hw8 hB hz1 hk1 hS => ?_)
  rw [ht] at hB
  have hP := ob_jn (ws' := ob_wX ax ao al am ac ++ ob_wO t ao M ++ ob_wL t al n cl rd sv pb ba bf od bg ++ ob_wM t am mn ms mf mt mp ++ ob_wC t ac cn st Wt ++ ob_wR t ar Bd Tr n cl rd sv pb wf wa (if ob_hd (ob_ct (ob_os pb wf wa) n) x then ob_ro2 Bd (ob_kc cl) rd n ro n else ro) ah ct mn ms mf mt mp cn sd V (nI (ob_z1 (ob_hd (ob_ct (ob_os pb wf wa) n) x))) ++ ob_wU t au (if z = 0 then vp_updL ov 0 u9.toInt64 else ov)) hP hD [none, none, none, none, none, none, none, none, none, none, none, none, none, none, none, none, none, none, none, none, none, none, none, none, none, none, none, none, none, none, none, none, none, none, none, none, none, none, none, none, some 0, some 1, some 2, some 3, some 4, some 5, some 6, some 7, some 8, some 9, some 10, some 11, some 12, some 13, some 14, some 15, some 16, some 17, none] [40, 41, 42, 43, 44, 45, 46, 47, 48, 49, 50, 51, 52, 53, 54, 55, 56, 57] rfl rfl hk1 hB rfl
  have hD : va_D (fun q : Nat => s.heap.size ≤ q) (ob_wX ax ao al am ac ++ ob_wO t ao M ++ ob_wL t al n cl rd sv pb ba bf od bg ++ ob_wM t am mn ms mf mt mp ++ ob_wC t ac cn st Wt ++ ob_wR t ar Bd Tr n cl rd sv pb wf wa (if ob_hd (ob_ct (ob_os pb wf wa) n) x then ob_ro2 Bd (ob_kc cl) rd n ro n else ro) ah ct mn ms mf mt mp cn sd V (nI (ob_z1 (ob_hd (ob_ct (ob_os pb wf wa) n) x))) ++ ob_wU t au (if z = 0 then vp_updL ov 0 u9.toInt64 else ov)) := ob_dXOLMCRU hD
  generalize H1 = H at hP hS ⊢
  have hth : nI (ob_z1 (ob_hd (ob_ct (ob_os pb wf wa) n) x)) = nI z := congrArg nI hz.symm
  rw [hth] at hP
  have hP : va_P D vwCl (ob_wX ax ao al am ac ++ ob_wO t ao M ++ ob_wL t al n cl rd sv pb ba bf od bg ++ ob_wM t am mn ms mf mt mp ++ ob_wC t ac cn st Wt ++ ob_wR t ar Bd Tr n cl rd sv pb wf wa (if ob_hd (ob_ct (ob_os pb wf wa) n) x then ob_ro2 Bd (ob_kc cl) rd n ro n else ro) ah ct mn ms mf mt mp cn sd V (nI z) ++ ob_wU t au (if z = 0 then vp_updL ov 0 u9.toInt64 else ov)) H := hP
  have e9 : z = 0 → r8 = u9 := fun h0 => (ob_pstoryAt (u := u9) (b := r8) h6 (show 100 * k ≤ 1000000 by omega) h11 p1 p3).2 ((ob_pstoryAt (x := x) (u := 0) (b := 0) h6 (show 100 * k ≤ 1000000 by omega) h11 p1 p3).1.trans (hz.symm.trans h0)) (hp9 h0) hw8
  refine lv_istore (lv' := [(6, .int r8), (5, .int (nI z)), (0, .ref b), (1, .ref ax), (2, .ref (ar 0)), (3, .ref au), (4, .int (nI (6 * k)))]) hx hb dL_law_782 hl (by decide) rfl (fun ls hl => ?_)
  refine lv_aload_n hx hb dL_law_784 rfl (lv_at hl 4 rfl) ?_
  refine vp_callSi (va_Run.run (va_runV (As := []) (rest := []) ⟨hx, hb, hml, hown, hts⟩ (c_X5_thrown l D t ar Bd Tr n cl rd sv pb wf wa (if ob_hd (ob_ct (ob_os pb wf wa) n) x then ob_ro2 Bd (ob_kc cl) rd n ro n else ro) ah ct mn ms mf mt mp cn sd V (nI z)) (cwV 0 hts gL_law_X5_thrown rfl rfl rfl (by decide +kernel) ⟨Nat.le_of_ble_eq_true rfl, Nat.le_of_ble_eq_true rfl⟩) (ob_preV (ci := 5) (q0 := 0) (hP.sub [40, 41, 42, 43, 44, 45, 46, 47, 48, 49, 50, 51, 52, 53, 54, 55, 56, 57] rfl) hk rfl rfl) rfl rfl hl.1 rfl (lv_room (Nat.le_of_ble_eq_true rfl)) dL_law_785 ⟨show Kc + 1 + 0 + 0 ≤ 601024 by omega, show Ks + 6 + 0 + 0 ≤ 7293034 by omega⟩)) (fun r7 hr7 => ?_)
  subst hr7
  refine lv_iload hx hb dL_law_788 (lv_at hl 1 rfl) ?_
  refine lv_icmp_eq (tgt := 795) hx hb dL_law_790 (by decide) (fun _ => ?_) (fun c9 => absurd rfl c9)
  refine lv_iload hx hb dL_law_795 (lv_at hl 1 rfl) ?_
  have fin : W p l e room_1 s m #[Value.ref b] below meth c H locs (Kc + 1) (Ks + 6) Q (F0 m 812 ls []) := by
    refine lv_goto (tgt := 1415) hx hb dL_law_812 (by decide) ?_
    exact nx _ _ _ ⟨_, _, _, _, _, _, _, _, _, _, _, _, _, _, _, _, _, _, _, _, _, _, _, _, _, _, _, _, _, _, _, _, _, _, _, _, _, _, _, _, hP, (ob_IL_s hL), hM, hC⟩ hS (lv_sub hl [2, 3, 4, 5, 6] rfl)
  refine lv_if_ne (tgt := 812) hx hb dL_law_797 (by decide) (fun _ => fin) (fun c9 => ?_)
  have hz0 := ob_z0 hz3 c9
  refine lv_aload_n hx hb dL_law_800 rfl (lv_at hl 5 rfl) ?_
  refine lv_iconst (v := nI 0) hx hb dL_law_801 (by decide) ?_
  refine ob_lald hx hb hK hP 58 1 rfl rfl (show 0 < 1 by decide) (by decide) dL_law_802 ?_
  rw [show (if z = 0 then vp_updL ov 0 u9.toInt64 else ov : Nat → Int64) 0 = u9.toInt64 from by rw [if_pos hz0]; exact if_pos rfl]
  refine lv_iload hx hb dL_law_803 (lv_at hl 0 rfl) ?_
  refine lv_i2l (v := r8.toInt64) hx hb dL_law_805 rfl ?_
  refine ob_lcmp hx hb dL_law_806 (by rw [e9 hz0]) ?_
  exact lv_if_eq (tgt := 812) hx hb dL_law_807 (by decide) (fun _ => fin) (fun c8 => absurd rfl c8)

set_option maxRecDepth 100000 in
set_option maxHeartbeats 8000000 in
theorem ob_jearliest {p : Program} {l : Launch} {e : Env} {s : State} {m : MethodId} {below : List Frame} {meth : Method} {c : Code} {b L : Nat} {xs : Nat → Int32} {D : va_G} {t : Nat → ClassId} {sa : Nat → Nat} {ax : Nat} {ao al am ac ar : Nat → Nat} {au : Nat} {k Kc Ks : Nat} {Q : State → Prop} (C0 : ob_At p l s m c b L xs D t sa) (hD0 : va_D (fun q : Nat => s.heap.size ≤ q) (ob_wX ax ao al am ac ++ ob_wO t ao (fun _ _ => 0) ++ ob_wL t al 0 (fun _ => 0) (fun _ => 0) (fun _ => 0) (fun _ => 0) (fun _ => 0) (fun _ => 0) (fun _ => 0) (fun _ => 0) ++ ob_wM t am 0 (fun _ => 0) (fun _ => 0) (fun _ => 0) (fun _ => 0) ++ ob_wC t ac 0 0 (fun _ _ => 0) ++ ob_wR t ar (fun _ => 0) (fun _ => 0) 0 (fun _ => 0) (fun _ => 0) (fun _ => 0) (fun _ => 0) (fun _ => 0) (fun _ => 0) (fun _ => 0) (fun _ => 0) (fun _ => 0) 0 (fun _ => 0) (fun _ => 0) (fun _ => 0) (fun _ => 0) 0 (fun _ => 0) (fun _ => 0) 0 ++ ob_wU t au (fun _ => 0))) (hk6 : 6 * k + 6 ≤ L) (hKc : Kc + 1 ≤ 601024) (hKs : Ks + 6 ≤ 7293034)
    (nx : ∀ (H : Heap) (locs : List Loc) (ls : Array Slot), ob_St D t ax ao al am ac ar au (k + 1) H → va_S (fun q : Nat => s.heap.size ≤ q) s.heap H locs → lv_has ls 8 [(0, .ref b), (1, .ref ax), (2, .ref (ar 0)), (3, .ref au), (4, .int (nI (6 * k)))] → W p l e room_1 s m #[Value.ref b] below meth c H locs (Kc + 1) (Ks + 6) Q (F0 m 1415 ls []))
    {H : Heap} {locs : List Loc} {ls : Array Slot} (hI : ob_St D t ax ao al am ac ar au k H) (hS : va_S (fun q : Nat => s.heap.size ≤ q) s.heap H locs) (hl : lv_has ls 8 [(0, .ref b), (1, .ref ax), (2, .ref (ar 0)), (3, .ref au), (4, .int (nI (6 * k)))]) : W p l e room_1 s m #[Value.ref b] below meth c H locs Kc Ks Q (F0 m 815 ls []) := by
  obtain ⟨hx, hb, hml, hown, hts, hX, hbl, hk, hE0, hN, hl9, hL3⟩ := C0
  obtain ⟨M, n, cl, rd, sv, pb, ba, bf, od, bg, mn, ms, mf, mt, mp, cn, st, Wt, Bd, Tr, rn, rcl, rrd, rsv, rpb, wf, wa, ro, ah, ct, rmn, rms, rmf, rmt, rmp, rcn, sd, V, th, ov, hP, hL, hM, hC⟩ := hI
  obtain ⟨rfl, rfl, rfl, rfl, rfl, h6, h7, h8, h9, h10, h11, h12, h13⟩ := id hL
  obtain ⟨rfl, rfl, rfl, rfl, rfl, hmn, hmm⟩ := id hM
  obtain ⟨rfl, hcn, hWV, hVz, hsd, hst⟩ := id hC
  have hkk : k ≤ 1000 := by omega
  have hbA : ¬ (fun q : Nat => s.heap.size ≤ q) b := Nat.not_le.mpr hbl
  have hA : ∀ q : Nat, s.heap.size ≤ q → (fun q : Nat => s.heap.size ≤ q) q := fun _ h => h
  have hK := hk.1
  have hE := ob_exK hE0 hS
  have hP : va_P D vwCl (ob_wX ax ao al am ac ++ ob_wO t ao M ++ ob_wL t al n cl rd sv pb ba bf od bg ++ ob_wM t am mn ms mf mt mp ++ ob_wC t ac cn st Wt ++ ob_wR t ar Bd Tr n cl rd sv pb wf wa ro ah ct mn ms mf mt mp cn sd V th ++ ob_wU t au ov) H := hP
  have hD : va_D (fun q : Nat => s.heap.size ≤ q) (ob_wX ax ao al am ac ++ ob_wO t ao M ++ ob_wL t al n cl rd sv pb ba bf od bg ++ ob_wM t am mn ms mf mt mp ++ ob_wC t ac cn st Wt ++ ob_wR t ar Bd Tr n cl rd sv pb wf wa ro ah ct mn ms mf mt mp cn sd V th ++ ob_wU t au ov) := ob_dXOLMCRU hD0
  obtain ⟨x, ex⟩ : ∃ z, z = xs (6 * k + 1) := ⟨_, rfl⟩
  obtain ⟨z, hz⟩ : ∃ z, z = ob_z1 (ob_hd n x) := ⟨_, rfl⟩
  have hz3 : z ≤ 3 := (by rw [hz]; exact ob_z1_3 _)
  refine lv_aload_n hx hb dL_law_815 rfl (lv_at hl 1 rfl) ?_
  refine ob_ldp hx hb hX hbl hbA hS (j := 1) ex.symm (by omega) (by omega) (by decide) (lv_at hl 0 rfl) (lv_at hl 4 rfl) dL_law_816 dL_law_817 dL_law_819 dL_law_820 dL_law_821 ?_
  refine lv_aload_n hx hb dL_law_822 rfl (lv_at hl 3 rfl) ?_
  have hFc := va_free (wc := ob_wX ax ao al am ac ++ ob_wO t ao M ++ ob_wL t al n cl rd sv pb ba bf od bg ++ ob_wU t au ov) hD hS hA [0, 1, 2, 3, 4, 5, 6, 7, 8, 9, 10, 11, 12, 13, 14, 15, 16, 58] rfl
  refine va_calli (ob_runN (vx_runSX (As := [.ref ax, .int x, .ref au]) (rest := []) ⟨hx, hb, hml, hown, hts⟩ (c_L_earliest l hl9 sa D t H.size ax ao al am ac M n cl rd sv pb ba bf od bg x au ov z h6 (hz.symm)) (vx_cwSW 3 hts gL_law_L_earliest rfl rfl rfl (by decide +kernel) ⟨Nat.le_of_ble_eq_true rfl, Nat.le_of_ble_eq_true rfl⟩) (ob_pyS (hP.sub [0, 1, 2, 3, 4, 5, 6, 7, 8, 9, 10, 11, 12, 13, 14, 15, 16, 58] rfl) (hD.sub [0, 1, 2, 3, 4, 5, 6, 7, 8, 9, 10, 11, 12, 13, 14, 15, 16, 58] (by decide) rfl) hk hE hN) rfl rfl hl.1 rfl (lv_room (Nat.le_of_ble_eq_true rfl)) dL_law_823 ⟨show Kc + 1 ≤ 601024 from hKc, show Ks + 6 ≤ 7293034 from hKs⟩)) hS (fun q _ h => hFc q h) hFc (fun r9 u9 t9 H1 locs ht hvm hw9 hB hz1 hk1 hS => ?_)
  obtain ⟨rfl, hp9⟩ := hw9
  rw [ht] at hB
  have hP := ob_jn (ws' := ob_wX ax ao al am ac ++ ob_wO t ao M ++ ob_wL t al n cl rd sv pb ba bf od bg ++ ob_wM t am mn ms mf mt mp ++ ob_wC t ac cn st Wt ++ ob_wR t ar Bd Tr n cl rd sv pb wf wa ro ah ct mn ms mf mt mp cn sd V th ++ ob_wU t au (if z = 0 then vp_updL ov 0 u9.toInt64 else ov)) hP hD [some 0, some 1, some 2, some 3, some 4, some 5, some 6, some 7, some 8, some 9, some 10, some 11, some 12, some 13, some 14, some 15, some 16, none, none, none, none, none, none, none, none, none, none, none, none, none, none, none, none, none, none, none, none, none, none, none, none, none, none, none, none, none, none, none, none, none, none, none, none, none, none, none, none, none, some 17] [0, 1, 2, 3, 4, 5, 6, 7, 8, 9, 10, 11, 12, 13, 14, 15, 16, 58] rfl rfl hk1 hB rfl
  have hD : va_D (fun q : Nat => s.heap.size ≤ q) (ob_wX ax ao al am ac ++ ob_wO t ao M ++ ob_wL t al n cl rd sv pb ba bf od bg ++ ob_wM t am mn ms mf mt mp ++ ob_wC t ac cn st Wt ++ ob_wR t ar Bd Tr n cl rd sv pb wf wa ro ah ct mn ms mf mt mp cn sd V th ++ ob_wU t au (if z = 0 then vp_updL ov 0 u9.toInt64 else ov)) := ob_dXOLMCRU hD
  generalize H1 = H at hP hS ⊢
  refine lv_istore (lv' := [(5, .int (nI z)), (0, .ref b), (1, .ref ax), (2, .ref (ar 0)), (3, .ref au), (4, .int (nI (6 * k)))]) hx hb dL_law_826 hl (by decide) rfl (fun ls hl => ?_)
  refine lv_aload_n hx hb dL_law_828 rfl (lv_at hl 3 rfl) ?_
  refine ob_ldp hx hb hX hbl hbA hS (j := 1) ex.symm (by omega) (by omega) (by decide) (lv_at hl 1 rfl) (lv_at hl 5 rfl) dL_law_829 dL_law_830 dL_law_832 dL_law_833 dL_law_834 ?_
  have hFc := va_free (wc := ob_wR t ar Bd Tr n cl rd sv pb wf wa ro ah ct mn ms mf mt mp cn sd V th) hD hS hA [40, 41, 42, 43, 44, 45, 46, 47, 48, 49, 50, 51, 52, 53, 54, 55, 56, 57] rfl
  refine va_calli (va_runV (As := [.int x]) (rest := []) ⟨hx, hb, hml, hown, hts⟩ (c_X5_earliest l D t H.size ar Bd Tr n cl rd sv pb wf wa ro ah ct mn ms mf mt mp cn sd V th (ob_kc cl) x h6 h9) (cwV 1 hts gL_law_X5_earliest rfl rfl rfl (by decide +kernel) ⟨Nat.le_of_ble_eq_true rfl, Nat.le_of_ble_eq_true rfl⟩) (ob_pmV (ci := 5) (q0 := 0) (hP.sub [40, 41, 42, 43, 44, 45, 46, 47, 48, 49, 50, 51, 52, 53, 54, 55, 56, 57] rfl) (hD.sub [40, 41, 42, 43, 44, 45, 46, 47, 48, 49, 50, 51, 52, 53, 54, 55, 56, 57] (by decide) rfl) hk rfl rfl) rfl rfl hl.1 rfl (lv_room (Nat.le_of_ble_eq_true rfl)) dL_law_835 ⟨show Kc + 1 + 0 ≤ 601024 by omega, show Ks + 6 + 0 ≤ 7293034 by omega⟩) hS (fun q _ h => hFc q h) hFc (fun r8 u8 t9 H1 locs ht hvm hw8 hB hz1 hk1 hS => ?_)
  rw [ht] at hB
  have hP := ob_jn (ws' := ob_wX ax ao al am ac ++ ob_wO t ao M ++ ob_wL t al n cl rd sv pb ba bf od bg ++ ob_wM t am mn ms mf mt mp ++ ob_wC t ac cn st Wt ++ ob_wR t ar Bd Tr n cl rd sv pb wf wa ro ah ct mn ms mf mt mp cn sd V (nI (ob_z1 (ob_hd n x))) ++ ob_wU t au (if z = 0 then vp_updL ov 0 u9.toInt64 else ov)) hP hD [none, none, none, none, none, none, none, none, none, none, none, none, none, none, none, none, none, none, none, none, none, none, none, none, none, none, none, none, none, none, none, none, none, none, none, none, none, none, none, none, some 0, some 1, some 2, some 3, some 4, some 5, some 6, some 7, some 8, some 9, some 10, some 11, some 12, some 13, some 14, some 15, some 16, some 17, none] [40, 41, 42, 43, 44, 45, 46, 47, 48, 49, 50, 51, 52, 53, 54, 55, 56, 57] rfl rfl hk1 hB rfl
  have hD : va_D (fun q : Nat => s.heap.size ≤ q) (ob_wX ax ao al am ac ++ ob_wO t ao M ++ ob_wL t al n cl rd sv pb ba bf od bg ++ ob_wM t am mn ms mf mt mp ++ ob_wC t ac cn st Wt ++ ob_wR t ar Bd Tr n cl rd sv pb wf wa ro ah ct mn ms mf mt mp cn sd V (nI (ob_z1 (ob_hd n x))) ++ ob_wU t au (if z = 0 then vp_updL ov 0 u9.toInt64 else ov)) := ob_dXOLMCRU hD
  generalize H1 = H at hP hS ⊢
  have hth : nI (ob_z1 (ob_hd n x)) = nI z := congrArg nI hz.symm
  rw [hth] at hP
  have hP : va_P D vwCl (ob_wX ax ao al am ac ++ ob_wO t ao M ++ ob_wL t al n cl rd sv pb ba bf od bg ++ ob_wM t am mn ms mf mt mp ++ ob_wC t ac cn st Wt ++ ob_wR t ar Bd Tr n cl rd sv pb wf wa ro ah ct mn ms mf mt mp cn sd V (nI z) ++ ob_wU t au (if z = 0 then vp_updL ov 0 u9.toInt64 else ov)) H := hP
  have e9 : z = 0 → r8 = u9 := fun h0 => hw8.trans ((ob_q_earliest hL (hz.symm.trans h0)).trans (hp9 h0).symm)
  refine lv_istore (lv' := [(6, .int r8), (5, .int (nI z)), (0, .ref b), (1, .ref ax), (2, .ref (ar 0)), (3, .ref au), (4, .int (nI (6 * k)))]) hx hb dL_law_838 hl (by decide) rfl (fun ls hl => ?_)
  refine lv_aload_n hx hb dL_law_840 rfl (lv_at hl 4 rfl) ?_
  refine vp_callSi (va_Run.run (va_runV (As := []) (rest := []) ⟨hx, hb, hml, hown, hts⟩ (c_X5_thrown l D t ar Bd Tr n cl rd sv pb wf wa ro ah ct mn ms mf mt mp cn sd V (nI z)) (cwV 0 hts gL_law_X5_thrown rfl rfl rfl (by decide +kernel) ⟨Nat.le_of_ble_eq_true rfl, Nat.le_of_ble_eq_true rfl⟩) (ob_preV (ci := 5) (q0 := 0) (hP.sub [40, 41, 42, 43, 44, 45, 46, 47, 48, 49, 50, 51, 52, 53, 54, 55, 56, 57] rfl) hk rfl rfl) rfl rfl hl.1 rfl (lv_room (Nat.le_of_ble_eq_true rfl)) dL_law_841 ⟨show Kc + 1 + 0 + 0 ≤ 601024 by omega, show Ks + 6 + 0 + 0 ≤ 7293034 by omega⟩)) (fun r7 hr7 => ?_)
  subst hr7
  refine lv_iload hx hb dL_law_844 (lv_at hl 1 rfl) ?_
  refine lv_icmp_eq (tgt := 851) hx hb dL_law_846 (by decide) (fun _ => ?_) (fun c9 => absurd rfl c9)
  refine lv_iload hx hb dL_law_851 (lv_at hl 1 rfl) ?_
  have fin : W p l e room_1 s m #[Value.ref b] below meth c H locs (Kc + 1) (Ks + 6) Q (F0 m 868 ls []) := by
    refine lv_goto (tgt := 1415) hx hb dL_law_868 (by decide) ?_
    exact nx _ _ _ ⟨_, _, _, _, _, _, _, _, _, _, _, _, _, _, _, _, _, _, _, _, _, _, _, _, _, _, _, _, _, _, _, _, _, _, _, _, _, _, _, _, hP, (ob_IL_s hL), hM, hC⟩ hS (lv_sub hl [2, 3, 4, 5, 6] rfl)
  refine lv_if_ne (tgt := 868) hx hb dL_law_853 (by decide) (fun _ => fin) (fun c9 => ?_)
  have hz0 := ob_z0 hz3 c9
  refine lv_aload_n hx hb dL_law_856 rfl (lv_at hl 5 rfl) ?_
  refine lv_iconst (v := nI 0) hx hb dL_law_857 (by decide) ?_
  refine ob_lald hx hb hK hP 58 1 rfl rfl (show 0 < 1 by decide) (by decide) dL_law_858 ?_
  rw [show (if z = 0 then vp_updL ov 0 u9.toInt64 else ov : Nat → Int64) 0 = u9.toInt64 from by rw [if_pos hz0]; exact if_pos rfl]
  refine lv_iload hx hb dL_law_859 (lv_at hl 0 rfl) ?_
  refine lv_i2l (v := r8.toInt64) hx hb dL_law_861 rfl ?_
  refine ob_lcmp hx hb dL_law_862 (by rw [e9 hz0]) ?_
  exact lv_if_eq (tgt := 868) hx hb dL_law_863 (by decide) (fun _ => fin) (fun c8 => absurd rfl c8)

set_option maxRecDepth 100000 in
set_option maxHeartbeats 8000000 in
theorem ob_jfirstOf {p : Program} {l : Launch} {e : Env} {s : State} {m : MethodId} {below : List Frame} {meth : Method} {c : Code} {b L : Nat} {xs : Nat → Int32} {D : va_G} {t : Nat → ClassId} {sa : Nat → Nat} {ax : Nat} {ao al am ac ar : Nat → Nat} {au : Nat} {k Kc Ks : Nat} {Q : State → Prop} (C0 : ob_At p l s m c b L xs D t sa) (hD0 : va_D (fun q : Nat => s.heap.size ≤ q) (ob_wX ax ao al am ac ++ ob_wO t ao (fun _ _ => 0) ++ ob_wL t al 0 (fun _ => 0) (fun _ => 0) (fun _ => 0) (fun _ => 0) (fun _ => 0) (fun _ => 0) (fun _ => 0) (fun _ => 0) ++ ob_wM t am 0 (fun _ => 0) (fun _ => 0) (fun _ => 0) (fun _ => 0) ++ ob_wC t ac 0 0 (fun _ _ => 0) ++ ob_wR t ar (fun _ => 0) (fun _ => 0) 0 (fun _ => 0) (fun _ => 0) (fun _ => 0) (fun _ => 0) (fun _ => 0) (fun _ => 0) (fun _ => 0) (fun _ => 0) (fun _ => 0) 0 (fun _ => 0) (fun _ => 0) (fun _ => 0) (fun _ => 0) 0 (fun _ => 0) (fun _ => 0) 0 ++ ob_wU t au (fun _ => 0))) (hk6 : 6 * k + 6 ≤ L) (hKc : Kc + 1 ≤ 601024) (hKs : Ks + 6 ≤ 7293034)
    (nx : ∀ (H : Heap) (locs : List Loc) (ls : Array Slot), ob_St D t ax ao al am ac ar au (k + 1) H → va_S (fun q : Nat => s.heap.size ≤ q) s.heap H locs → lv_has ls 8 [(0, .ref b), (1, .ref ax), (2, .ref (ar 0)), (3, .ref au), (4, .int (nI (6 * k)))] → W p l e room_1 s m #[Value.ref b] below meth c H locs (Kc + 1) (Ks + 6) Q (F0 m 1415 ls []))
    {H : Heap} {locs : List Loc} {ls : Array Slot} (hI : ob_St D t ax ao al am ac ar au k H) (hS : va_S (fun q : Nat => s.heap.size ≤ q) s.heap H locs) (hl : lv_has ls 8 [(0, .ref b), (1, .ref ax), (2, .ref (ar 0)), (3, .ref au), (4, .int (nI (6 * k)))]) : W p l e room_1 s m #[Value.ref b] below meth c H locs Kc Ks Q (F0 m 871 ls []) := by
  obtain ⟨hx, hb, hml, hown, hts, hX, hbl, hk, hE0, hN, hl9, hL3⟩ := C0
  obtain ⟨M, n, cl, rd, sv, pb, ba, bf, od, bg, mn, ms, mf, mt, mp, cn, st, Wt, Bd, Tr, rn, rcl, rrd, rsv, rpb, wf, wa, ro, ah, ct, rmn, rms, rmf, rmt, rmp, rcn, sd, V, th, ov, hP, hL, hM, hC⟩ := hI
  obtain ⟨rfl, rfl, rfl, rfl, rfl, h6, h7, h8, h9, h10, h11, h12, h13⟩ := id hL
  obtain ⟨rfl, rfl, rfl, rfl, rfl, hmn, hmm⟩ := id hM
  obtain ⟨rfl, hcn, hWV, hVz, hsd, hst⟩ := id hC
  have hkk : k ≤ 1000 := by omega
  have hbA : ¬ (fun q : Nat => s.heap.size ≤ q) b := Nat.not_le.mpr hbl
  have hA : ∀ q : Nat, s.heap.size ≤ q → (fun q : Nat => s.heap.size ≤ q) q := fun _ h => h
  have hK := hk.1
  have hE := ob_exK hE0 hS
  have hP : va_P D vwCl (ob_wX ax ao al am ac ++ ob_wO t ao M ++ ob_wL t al n cl rd sv pb ba bf od bg ++ ob_wM t am mn ms mf mt mp ++ ob_wC t ac cn st Wt ++ ob_wR t ar Bd Tr n cl rd sv pb wf wa ro ah ct mn ms mf mt mp cn sd V th ++ ob_wU t au ov) H := hP
  have hD : va_D (fun q : Nat => s.heap.size ≤ q) (ob_wX ax ao al am ac ++ ob_wO t ao M ++ ob_wL t al n cl rd sv pb ba bf od bg ++ ob_wM t am mn ms mf mt mp ++ ob_wC t ac cn st Wt ++ ob_wR t ar Bd Tr n cl rd sv pb wf wa ro ah ct mn ms mf mt mp cn sd V th ++ ob_wU t au ov) := ob_dXOLMCRU hD0
  obtain ⟨x, ex⟩ : ∃ z, z = xs (6 * k + 1) := ⟨_, rfl⟩
  obtain ⟨z, hz⟩ : ∃ z, z = ob_z1 (ob_wi x (nI 0) (nI 5)) := ⟨_, rfl⟩
  have hz3 : z ≤ 3 := (by rw [hz]; exact ob_z1_3 _)
  obtain ⟨pm, p1, p2, p3⟩ := ob_q_pm hL ro
  refine lv_aload_n hx hb dL_law_871 rfl (lv_at hl 1 rfl) ?_
  refine ob_ldp hx hb hX hbl hbA hS (j := 1) ex.symm (by omega) (by omega) (by decide) (lv_at hl 0 rfl) (lv_at hl 4 rfl) dL_law_872 dL_law_873 dL_law_875 dL_law_876 dL_law_877 ?_
  refine lv_aload_n hx hb dL_law_878 rfl (lv_at hl 3 rfl) ?_
  have hFc := va_free (wc := ob_wX ax ao al am ac ++ ob_wL t al n cl rd sv pb ba bf od bg ++ ob_wU t au ov) hD hS hA [0, 8, 9, 10, 11, 12, 13, 14, 15, 16, 58] rfl
  refine va_calli (ob_runN (vx_runSX (As := [.ref ax, .int x, .ref au]) (rest := []) ⟨hx, hb, hml, hown, hts⟩ (c_L_firstOf l hl9 sa D t H.size ax ao al am ac n cl rd sv pb ba bf od bg x au ov z h6 (hz.symm)) (vx_cwSW 3 hts gL_law_L_firstOf rfl rfl rfl (by decide +kernel) ⟨Nat.le_of_ble_eq_true rfl, Nat.le_of_ble_eq_true rfl⟩) (ob_pyS (hP.sub [0, 8, 9, 10, 11, 12, 13, 14, 15, 16, 58] rfl) (hD.sub [0, 8, 9, 10, 11, 12, 13, 14, 15, 16, 58] (by decide) rfl) hk hE hN) rfl rfl hl.1 rfl (lv_room (Nat.le_of_ble_eq_true rfl)) dL_law_879 ⟨show Kc + 1 ≤ 601024 from hKc, show Ks + 6 ≤ 7293034 from hKs⟩)) hS (fun q _ h => hFc q h) hFc (fun r9 u9 t9 H1 locs ht hvm hw9 hB hz1 hk1 hS => ?_)
  obtain ⟨rfl, hp9⟩ := hw9
  rw [ht] at hB
  have hP := ob_jn (ws' := ob_wX ax ao al am ac ++ ob_wO t ao M ++ ob_wL t al n cl rd sv pb ba bf od bg ++ ob_wM t am mn ms mf mt mp ++ ob_wC t ac cn st Wt ++ ob_wR t ar Bd Tr n cl rd sv pb wf wa ro ah ct mn ms mf mt mp cn sd V th ++ ob_wU t au (if z = 0 then vp_updL ov 0 u9.toInt64 else ov)) hP hD [some 0, none, none, none, none, none, none, none, some 1, some 2, some 3, some 4, some 5, some 6, some 7, some 8, some 9, none, none, none, none, none, none, none, none, none, none, none, none, none, none, none, none, none, none, none, none, none, none, none, none, none, none, none, none, none, none, none, none, none, none, none, none, none, none, none, none, none, some 10] [0, 8, 9, 10, 11, 12, 13, 14, 15, 16, 58] rfl rfl hk1 hB rfl
  have hD : va_D (fun q : Nat => s.heap.size ≤ q) (ob_wX ax ao al am ac ++ ob_wO t ao M ++ ob_wL t al n cl rd sv pb ba bf od bg ++ ob_wM t am mn ms mf mt mp ++ ob_wC t ac cn st Wt ++ ob_wR t ar Bd Tr n cl rd sv pb wf wa ro ah ct mn ms mf mt mp cn sd V th ++ ob_wU t au (if z = 0 then vp_updL ov 0 u9.toInt64 else ov)) := ob_dXOLMCRU hD
  generalize H1 = H at hP hS ⊢
  refine lv_istore (lv' := [(5, .int (nI z)), (0, .ref b), (1, .ref ax), (2, .ref (ar 0)), (3, .ref au), (4, .int (nI (6 * k)))]) hx hb dL_law_882 hl (by decide) rfl (fun ls hl => ?_)
  refine lv_aload_n hx hb dL_law_884 rfl (lv_at hl 3 rfl) ?_
  refine ob_ldp hx hb hX hbl hbA hS (j := 1) ex.symm (by omega) (by omega) (by decide) (lv_at hl 1 rfl) (lv_at hl 5 rfl) dL_law_885 dL_law_886 dL_law_888 dL_law_889 dL_law_890 ?_
  have hFc := va_free (wc := ob_wR t ar Bd Tr n cl rd sv pb wf wa ro ah ct mn ms mf mt mp cn sd V th) hD hS hA [40, 41, 42, 43, 44, 45, 46, 47, 48, 49, 50, 51, 52, 53, 54, 55, 56, 57] rfl
  refine va_calli (va_runV (As := [.int x]) (rest := []) ⟨hx, hb, hml, hown, hts⟩ (c_X5_firstOf l D t H.size ar Bd Tr n cl rd sv pb wf wa ro ah ct mn ms mf mt mp cn sd V th (ob_kc cl) pm x h6 h9 p2) (cwV 1 hts gL_law_X5_firstOf rfl rfl rfl (by decide +kernel) ⟨Nat.le_of_ble_eq_true rfl, Nat.le_of_ble_eq_true rfl⟩) (ob_pmV (ci := 5) (q0 := 0) (hP.sub [40, 41, 42, 43, 44, 45, 46, 47, 48, 49, 50, 51, 52, 53, 54, 55, 56, 57] rfl) (hD.sub [40, 41, 42, 43, 44, 45, 46, 47, 48, 49, 50, 51, 52, 53, 54, 55, 56, 57] (by decide) rfl) hk rfl rfl) rfl rfl hl.1 rfl (lv_room (Nat.le_of_ble_eq_true rfl)) dL_law_891 ⟨show Kc + 1 + 0 ≤ 601024 by omega, show Ks + 6 + 0 ≤ 7293034 by omega⟩) hS (fun q _ h => hFc q h) hFc (fun r8 u8 t9 H1 locs ht hvm hw8 hB hz1 hk1 hS => ?_)
  rw [ht] at hB
  have hP := ob_jn (ws' := ob_wX ax ao al am ac ++ ob_wO t ao M ++ ob_wL t al n cl rd sv pb ba bf od bg ++ ob_wM t am mn ms mf mt mp ++ ob_wC t ac cn st Wt ++ ob_wR t ar Bd Tr n cl rd sv pb wf wa (if ob_wi x (nI 0) (nI 5) then ob_ro2 Bd (ob_kc cl) rd n ro n else ro) ah ct mn ms mf mt mp cn sd V (nI (ob_z1 (ob_wi x (nI 0) (nI 5)))) ++ ob_wU t au (if z = 0 then vp_updL ov 0 u9.toInt64 else ov)) hP hD [none, none, none, none, none, none, none, none, none, none, none, none, none, none, none, none, none, none, none, none, none, none, none, none, none, none, none, none, none, none, none, none, none, none, none, none, none, none, none, none, some 0, some 1, some 2, some 3, some 4, some 5, some 6, some 7, some 8, some 9, some 10, some 11, some 12, some 13, some 14, some 15, some 16, some 17, none] [40, 41, 42, 43, 44, 45, 46, 47, 48, 49, 50, 51, 52, 53, 54, 55, 56, 57] rfl rfl hk1 hB rfl
  have hD : va_D (fun q : Nat => s.heap.size ≤ q) (ob_wX ax ao al am ac ++ ob_wO t ao M ++ ob_wL t al n cl rd sv pb ba bf od bg ++ ob_wM t am mn ms mf mt mp ++ ob_wC t ac cn st Wt ++ ob_wR t ar Bd Tr n cl rd sv pb wf wa (if ob_wi x (nI 0) (nI 5) then ob_ro2 Bd (ob_kc cl) rd n ro n else ro) ah ct mn ms mf mt mp cn sd V (nI (ob_z1 (ob_wi x (nI 0) (nI 5)))) ++ ob_wU t au (if z = 0 then vp_updL ov 0 u9.toInt64 else ov)) := ob_dXOLMCRU hD
  generalize H1 = H at hP hS ⊢
  have hth : nI (ob_z1 (ob_wi x (nI 0) (nI 5))) = nI z := congrArg nI hz.symm
  rw [hth] at hP
  have hP : va_P D vwCl (ob_wX ax ao al am ac ++ ob_wO t ao M ++ ob_wL t al n cl rd sv pb ba bf od bg ++ ob_wM t am mn ms mf mt mp ++ ob_wC t ac cn st Wt ++ ob_wR t ar Bd Tr n cl rd sv pb wf wa (if ob_wi x (nI 0) (nI 5) then ob_ro2 Bd (ob_kc cl) rd n ro n else ro) ah ct mn ms mf mt mp cn sd V (nI z) ++ ob_wU t au (if z = 0 then vp_updL ov 0 u9.toInt64 else ov)) H := hP
  have e9 : z = 0 → r8 = u9 := fun h0 => ob_pfirstOf (ob_z1_0.mp (hz.symm.trans h0)) h6 p1 (hp9 h0) hw8
  refine lv_istore (lv' := [(6, .int r8), (5, .int (nI z)), (0, .ref b), (1, .ref ax), (2, .ref (ar 0)), (3, .ref au), (4, .int (nI (6 * k)))]) hx hb dL_law_894 hl (by decide) rfl (fun ls hl => ?_)
  refine lv_aload_n hx hb dL_law_896 rfl (lv_at hl 4 rfl) ?_
  refine vp_callSi (va_Run.run (va_runV (As := []) (rest := []) ⟨hx, hb, hml, hown, hts⟩ (c_X5_thrown l D t ar Bd Tr n cl rd sv pb wf wa (if ob_wi x (nI 0) (nI 5) then ob_ro2 Bd (ob_kc cl) rd n ro n else ro) ah ct mn ms mf mt mp cn sd V (nI z)) (cwV 0 hts gL_law_X5_thrown rfl rfl rfl (by decide +kernel) ⟨Nat.le_of_ble_eq_true rfl, Nat.le_of_ble_eq_true rfl⟩) (ob_preV (ci := 5) (q0 := 0) (hP.sub [40, 41, 42, 43, 44, 45, 46, 47, 48, 49, 50, 51, 52, 53, 54, 55, 56, 57] rfl) hk rfl rfl) rfl rfl hl.1 rfl (lv_room (Nat.le_of_ble_eq_true rfl)) dL_law_897 ⟨show Kc + 1 + 0 + 0 ≤ 601024 by omega, show Ks + 6 + 0 + 0 ≤ 7293034 by omega⟩)) (fun r7 hr7 => ?_)
  subst hr7
  refine lv_iload hx hb dL_law_900 (lv_at hl 1 rfl) ?_
  refine lv_icmp_eq (tgt := 907) hx hb dL_law_902 (by decide) (fun _ => ?_) (fun c9 => absurd rfl c9)
  refine lv_iload hx hb dL_law_907 (lv_at hl 1 rfl) ?_
  have fin : W p l e room_1 s m #[Value.ref b] below meth c H locs (Kc + 1) (Ks + 6) Q (F0 m 924 ls []) := by
    refine lv_goto (tgt := 1415) hx hb dL_law_924 (by decide) ?_
    exact nx _ _ _ ⟨_, _, _, _, _, _, _, _, _, _, _, _, _, _, _, _, _, _, _, _, _, _, _, _, _, _, _, _, _, _, _, _, _, _, _, _, _, _, _, _, hP, (ob_IL_s hL), hM, hC⟩ hS (lv_sub hl [2, 3, 4, 5, 6] rfl)
  refine lv_if_ne (tgt := 924) hx hb dL_law_909 (by decide) (fun _ => fin) (fun c9 => ?_)
  have hz0 := ob_z0 hz3 c9
  refine lv_aload_n hx hb dL_law_912 rfl (lv_at hl 5 rfl) ?_
  refine lv_iconst (v := nI 0) hx hb dL_law_913 (by decide) ?_
  refine ob_lald hx hb hK hP 58 1 rfl rfl (show 0 < 1 by decide) (by decide) dL_law_914 ?_
  rw [show (if z = 0 then vp_updL ov 0 u9.toInt64 else ov : Nat → Int64) 0 = u9.toInt64 from by rw [if_pos hz0]; exact if_pos rfl]
  refine lv_iload hx hb dL_law_915 (lv_at hl 0 rfl) ?_
  refine lv_i2l (v := r8.toInt64) hx hb dL_law_917 rfl ?_
  refine ob_lcmp hx hb dL_law_918 (by rw [e9 hz0]) ?_
  exact lv_if_eq (tgt := 924) hx hb dL_law_919 (by decide) (fun _ => fin) (fun c8 => absurd rfl c8)

set_option maxRecDepth 100000 in
set_option maxHeartbeats 8000000 in
theorem ob_jmeasure {p : Program} {l : Launch} {e : Env} {s : State} {m : MethodId} {below : List Frame} {meth : Method} {c : Code} {b L : Nat} {xs : Nat → Int32} {D : va_G} {t : Nat → ClassId} {sa : Nat → Nat} {ax : Nat} {ao al am ac ar : Nat → Nat} {au : Nat} {k Kc Ks : Nat} {Q : State → Prop} (C0 : ob_At p l s m c b L xs D t sa) (hD0 : va_D (fun q : Nat => s.heap.size ≤ q) (ob_wX ax ao al am ac ++ ob_wO t ao (fun _ _ => 0) ++ ob_wL t al 0 (fun _ => 0) (fun _ => 0) (fun _ => 0) (fun _ => 0) (fun _ => 0) (fun _ => 0) (fun _ => 0) (fun _ => 0) ++ ob_wM t am 0 (fun _ => 0) (fun _ => 0) (fun _ => 0) (fun _ => 0) ++ ob_wC t ac 0 0 (fun _ _ => 0) ++ ob_wR t ar (fun _ => 0) (fun _ => 0) 0 (fun _ => 0) (fun _ => 0) (fun _ => 0) (fun _ => 0) (fun _ => 0) (fun _ => 0) (fun _ => 0) (fun _ => 0) (fun _ => 0) 0 (fun _ => 0) (fun _ => 0) (fun _ => 0) (fun _ => 0) 0 (fun _ => 0) (fun _ => 0) 0 ++ ob_wU t au (fun _ => 0))) (hk6 : 6 * k + 6 ≤ L) (hKc : Kc + 1 ≤ 601024) (hKs : Ks + 6 ≤ 7293034)
    (nx : ∀ (H : Heap) (locs : List Loc) (ls : Array Slot), ob_St D t ax ao al am ac ar au (k + 1) H → va_S (fun q : Nat => s.heap.size ≤ q) s.heap H locs → lv_has ls 8 [(0, .ref b), (1, .ref ax), (2, .ref (ar 0)), (3, .ref au), (4, .int (nI (6 * k)))] → W p l e room_1 s m #[Value.ref b] below meth c H locs (Kc + 1) (Ks + 6) Q (F0 m 1415 ls []))
    {H : Heap} {locs : List Loc} {ls : Array Slot} (hI : ob_St D t ax ao al am ac ar au k H) (hS : va_S (fun q : Nat => s.heap.size ≤ q) s.heap H locs) (hl : lv_has ls 8 [(0, .ref b), (1, .ref ax), (2, .ref (ar 0)), (3, .ref au), (4, .int (nI (6 * k)))]) : W p l e room_1 s m #[Value.ref b] below meth c H locs Kc Ks Q (F0 m 927 ls []) := by
  obtain ⟨hx, hb, hml, hown, hts, hX, hbl, hk, hE0, hN, hl9, hL3⟩ := C0
  obtain ⟨M, n, cl, rd, sv, pb, ba, bf, od, bg, mn, ms, mf, mt, mp, cn, st, Wt, Bd, Tr, rn, rcl, rrd, rsv, rpb, wf, wa, ro, ah, ct, rmn, rms, rmf, rmt, rmp, rcn, sd, V, th, ov, hP, hL, hM, hC⟩ := hI
  obtain ⟨rfl, rfl, rfl, rfl, rfl, h6, h7, h8, h9, h10, h11, h12, h13⟩ := id hL
  obtain ⟨rfl, rfl, rfl, rfl, rfl, hmn, hmm⟩ := id hM
  obtain ⟨rfl, hcn, hWV, hVz, hsd, hst⟩ := id hC
  have hkk : k ≤ 1000 := by omega
  have hbA : ¬ (fun q : Nat => s.heap.size ≤ q) b := Nat.not_le.mpr hbl
  have hA : ∀ q : Nat, s.heap.size ≤ q → (fun q : Nat => s.heap.size ≤ q) q := fun _ h => h
  have hK := hk.1
  have hE := ob_exK hE0 hS
  have hP : va_P D vwCl (ob_wX ax ao al am ac ++ ob_wO t ao M ++ ob_wL t al n cl rd sv pb ba bf od bg ++ ob_wM t am mn ms mf mt mp ++ ob_wC t ac cn st Wt ++ ob_wR t ar Bd Tr n cl rd sv pb wf wa ro ah ct mn ms mf mt mp cn sd V th ++ ob_wU t au ov) H := hP
  have hD : va_D (fun q : Nat => s.heap.size ≤ q) (ob_wX ax ao al am ac ++ ob_wO t ao M ++ ob_wL t al n cl rd sv pb ba bf od bg ++ ob_wM t am mn ms mf mt mp ++ ob_wC t ac cn st Wt ++ ob_wR t ar Bd Tr n cl rd sv pb wf wa ro ah ct mn ms mf mt mp cn sd V th ++ ob_wU t au ov) := ob_dXOLMCRU hD0
  obtain ⟨x1, ex1⟩ : ∃ z, z = xs (6 * k + 1) := ⟨_, rfl⟩
  obtain ⟨x2, ex2⟩ : ∃ z, z = xs (6 * k + 2) := ⟨_, rfl⟩
  obtain ⟨x3, ex3⟩ : ∃ z, z = xs (6 * k + 3) := ⟨_, rfl⟩
  obtain ⟨x4, ex4⟩ : ∃ z, z = xs (6 * k + 4) := ⟨_, rfl⟩
  obtain ⟨z, hz⟩ : ∃ z, z = ob_z2 (ob_wi x1 (nI 0) (nI 5) && (ob_wi x2 (nI 0) (nI 10000) && (ob_wi x3 x2 (nI 10000) && ob_wi x4 (nI 0) (nI 100)))) (!decide (mn = 40)) := ⟨_, rfl⟩
  have hz3 : z ≤ 3 := (by rw [hz]; exact ob_z2_3 _ _)
  have hq0 := ob_q_measure (x1 := x1) (x2 := x2) (x3 := x3) (x4 := x4) hM
  have hq1 := hq0.1
  have hq := hq0.2 (ob_wi x1 (nI 0) (nI 5) && (ob_wi x2 (nI 0) (nI 10000) && (ob_wi x3 x2 (nI 10000) && ob_wi x4 (nI 0) (nI 100)))) rfl
  rw [← hz] at hq hq1
  refine lv_aload_n hx hb dL_law_927 rfl (lv_at hl 1 rfl) ?_
  refine ob_ldp hx hb hX hbl hbA hS (j := 1) ex1.symm (by omega) (by omega) (by decide) (lv_at hl 0 rfl) (lv_at hl 4 rfl) dL_law_928 dL_law_929 dL_law_931 dL_law_932 dL_law_933 ?_
  refine ob_ldp hx hb hX hbl hbA hS (j := 2) ex2.symm (by omega) (by omega) (by decide) (lv_at hl 0 rfl) (lv_at hl 4 rfl) dL_law_934 dL_law_935 dL_law_937 dL_law_938 dL_law_939 ?_
  refine ob_ldp hx hb hX hbl hbA hS (j := 3) ex3.symm (by omega) (by omega) (by decide) (lv_at hl 0 rfl) (lv_at hl 4 rfl) dL_law_940 dL_law_941 dL_law_943 dL_law_944 dL_law_945 ?_
  refine ob_ldp hx hb hX hbl hbA hS (j := 4) ex4.symm (by omega) (by omega) (by decide) (lv_at hl 0 rfl) (lv_at hl 4 rfl) dL_law_946 dL_law_947 dL_law_949 dL_law_950 dL_law_951 ?_
  refine lv_aload_n hx hb dL_law_952 rfl (lv_at hl 3 rfl) ?_
  have hFc := va_free (wc := ob_wX ax ao al am ac ++ ob_wM t am mn ms mf mt mp ++ ob_wU t au ov) hD hS hA [0, 17, 18, 19, 20, 21, 58] rfl
  refine va_calli (ob_runN (vx_runSX (As := [.ref ax, .int x1, .int x2, .int x3, .int x4, .ref au]) (rest := []) ⟨hx, hb, hml, hown, hts⟩ (c_L_measure l hl9 sa D t H.size ax ao al am ac mn ms mf mt mp x1 x2 x3 x4 au ov z hmn (hq1)) (vx_cwSW 6 hts gL_law_L_measure rfl rfl rfl (by decide +kernel) ⟨Nat.le_of_ble_eq_true rfl, Nat.le_of_ble_eq_true rfl⟩) (ob_pyS (hP.sub [0, 17, 18, 19, 20, 21, 58] rfl) (hD.sub [0, 17, 18, 19, 20, 21, 58] (by decide) rfl) hk hE hN) rfl rfl hl.1 rfl (lv_room (Nat.le_of_ble_eq_true rfl)) dL_law_953 ⟨show Kc + 1 ≤ 601024 from hKc, show Ks + 6 ≤ 7293034 from hKs⟩)) hS (fun q _ h => hFc q h) hFc (fun r9 u9 t9 H1 locs ht hvm hw9 hB hz1 hk1 hS => ?_)
  obtain ⟨rfl, hp9⟩ := hw9
  rw [ht] at hB
  have hP := ob_jn (ws' := ob_wX ax ao al am ac ++ ob_wO t ao M ++ ob_wL t al n cl rd sv pb ba bf od bg ++ ob_wM t am (if z = 0 then mn + 1 else mn) (if z = 0 then upd ms mn x1 else ms) (if z = 0 then upd mf mn x2 else mf) (if z = 0 then upd mt mn x3 else mt) (if z = 0 then upd mp mn x4 else mp) ++ ob_wC t ac cn st Wt ++ ob_wR t ar Bd Tr n cl rd sv pb wf wa ro ah ct mn ms mf mt mp cn sd V th ++ ob_wU t au (if z = 0 then vp_updL ov 0 u9.toInt64 else ov)) hP hD [some 0, none, none, none, none, none, none, none, none, none, none, none, none, none, none, none, none, some 1, some 2, some 3, some 4, some 5, none, none, none, none, none, none, none, none, none, none, none, none, none, none, none, none, none, none, none, none, none, none, none, none, none, none, none, none, none, none, none, none, none, none, none, none, some 6] [0, 17, 18, 19, 20, 21, 58] rfl rfl hk1 hB rfl
  have hD : va_D (fun q : Nat => s.heap.size ≤ q) (ob_wX ax ao al am ac ++ ob_wO t ao M ++ ob_wL t al n cl rd sv pb ba bf od bg ++ ob_wM t am (if z = 0 then mn + 1 else mn) (if z = 0 then upd ms mn x1 else ms) (if z = 0 then upd mf mn x2 else mf) (if z = 0 then upd mt mn x3 else mt) (if z = 0 then upd mp mn x4 else mp) ++ ob_wC t ac cn st Wt ++ ob_wR t ar Bd Tr n cl rd sv pb wf wa ro ah ct mn ms mf mt mp cn sd V th ++ ob_wU t au (if z = 0 then vp_updL ov 0 u9.toInt64 else ov)) := ob_dXOLMCRU hD
  generalize H1 = H at hP hS ⊢
  refine lv_istore (lv' := [(5, .int (nI z)), (0, .ref b), (1, .ref ax), (2, .ref (ar 0)), (3, .ref au), (4, .int (nI (6 * k)))]) hx hb dL_law_956 hl (by decide) rfl (fun ls hl => ?_)
  refine lv_aload_n hx hb dL_law_958 rfl (lv_at hl 3 rfl) ?_
  refine ob_ldp hx hb hX hbl hbA hS (j := 1) ex1.symm (by omega) (by omega) (by decide) (lv_at hl 1 rfl) (lv_at hl 5 rfl) dL_law_959 dL_law_960 dL_law_962 dL_law_963 dL_law_964 ?_
  refine ob_ldp hx hb hX hbl hbA hS (j := 2) ex2.symm (by omega) (by omega) (by decide) (lv_at hl 1 rfl) (lv_at hl 5 rfl) dL_law_965 dL_law_966 dL_law_968 dL_law_969 dL_law_970 ?_
  refine ob_ldp hx hb hX hbl hbA hS (j := 3) ex3.symm (by omega) (by omega) (by decide) (lv_at hl 1 rfl) (lv_at hl 5 rfl) dL_law_971 dL_law_972 dL_law_974 dL_law_975 dL_law_976 ?_
  refine ob_ldp hx hb hX hbl hbA hS (j := 4) ex4.symm (by omega) (by omega) (by decide) (lv_at hl 1 rfl) (lv_at hl 5 rfl) dL_law_977 dL_law_978 dL_law_980 dL_law_981 dL_law_982 ?_
  have hFc := va_free (wc := ob_wR t ar Bd Tr n cl rd sv pb wf wa ro ah ct mn ms mf mt mp cn sd V th) hD hS hA [40, 41, 42, 43, 44, 45, 46, 47, 48, 49, 50, 51, 52, 53, 54, 55, 56, 57] rfl
  refine va_calli (va_runV (As := [.int x1, .int x2, .int x3, .int x4]) (rest := []) ⟨hx, hb, hml, hown, hts⟩ (c_X5_measure l D t H.size ar Bd Tr n cl rd sv pb wf wa ro ah ct mn ms mf mt mp cn sd V th x1 x2 x3 x4 hmn) (cwV 4 hts gL_law_X5_measure rfl rfl rfl (by decide +kernel) ⟨Nat.le_of_ble_eq_true rfl, Nat.le_of_ble_eq_true rfl⟩) (ob_pmV (ci := 5) (q0 := 0) (hP.sub [40, 41, 42, 43, 44, 45, 46, 47, 48, 49, 50, 51, 52, 53, 54, 55, 56, 57] rfl) (hD.sub [40, 41, 42, 43, 44, 45, 46, 47, 48, 49, 50, 51, 52, 53, 54, 55, 56, 57] (by decide) rfl) hk rfl rfl) rfl rfl hl.1 rfl (lv_room (Nat.le_of_ble_eq_true rfl)) dL_law_983 ⟨show Kc + 1 + 0 ≤ 601024 by omega, show Ks + 6 + 0 ≤ 7293034 by omega⟩) hS (fun q _ h => hFc q h) hFc (fun r8 u8 t9 H1 locs ht hvm hw8 hB hz1 hk1 hS => ?_)
  rw [ht] at hB
  have hP := ob_jn (ws' := ob_wX ax ao al am ac ++ ob_wO t ao M ++ ob_wL t al n cl rd sv pb ba bf od bg ++ ob_wM t am (if z = 0 then mn + 1 else mn) (if z = 0 then upd ms mn x1 else ms) (if z = 0 then upd mf mn x2 else mf) (if z = 0 then upd mt mn x3 else mt) (if z = 0 then upd mp mn x4 else mp) ++ ob_wC t ac cn st Wt ++ ob_wR t ar Bd Tr n cl rd sv pb wf wa ro ah ct (if (ob_wi x1 (nI 0) (nI 5) && (ob_wi x2 (nI 0) (nI 10000) && (ob_wi x3 x2 (nI 10000) && ob_wi x4 (nI 0) (nI 100)))) && !decide (mn = 40) then mn + 1 else mn) (if (ob_wi x1 (nI 0) (nI 5) && (ob_wi x2 (nI 0) (nI 10000) && (ob_wi x3 x2 (nI 10000) && ob_wi x4 (nI 0) (nI 100)))) && !decide (mn = 40) then upd ms mn x1 else ms) (if (ob_wi x1 (nI 0) (nI 5) && (ob_wi x2 (nI 0) (nI 10000) && (ob_wi x3 x2 (nI 10000) && ob_wi x4 (nI 0) (nI 100)))) && !decide (mn = 40) then upd mf mn x2 else mf) (if (ob_wi x1 (nI 0) (nI 5) && (ob_wi x2 (nI 0) (nI 10000) && (ob_wi x3 x2 (nI 10000) && ob_wi x4 (nI 0) (nI 100)))) && !decide (mn = 40) then upd mt mn x3 else mt) (if (ob_wi x1 (nI 0) (nI 5) && (ob_wi x2 (nI 0) (nI 10000) && (ob_wi x3 x2 (nI 10000) && ob_wi x4 (nI 0) (nI 100)))) && !decide (mn = 40) then upd mp mn x4 else mp) cn sd V (nI (ob_z2 (ob_wi x1 (nI 0) (nI 5) && (ob_wi x2 (nI 0) (nI 10000) && (ob_wi x3 x2 (nI 10000) && ob_wi x4 (nI 0) (nI 100)))) (!decide (mn = 40)))) ++ ob_wU t au (if z = 0 then vp_updL ov 0 u9.toInt64 else ov)) hP hD [none, none, none, none, none, none, none, none, none, none, none, none, none, none, none, none, none, none, none, none, none, none, none, none, none, none, none, none, none, none, none, none, none, none, none, none, none, none, none, none, some 0, some 1, some 2, some 3, some 4, some 5, some 6, some 7, some 8, some 9, some 10, some 11, some 12, some 13, some 14, some 15, some 16, some 17, none] [40, 41, 42, 43, 44, 45, 46, 47, 48, 49, 50, 51, 52, 53, 54, 55, 56, 57] rfl rfl hk1 hB rfl
  have hD : va_D (fun q : Nat => s.heap.size ≤ q) (ob_wX ax ao al am ac ++ ob_wO t ao M ++ ob_wL t al n cl rd sv pb ba bf od bg ++ ob_wM t am (if z = 0 then mn + 1 else mn) (if z = 0 then upd ms mn x1 else ms) (if z = 0 then upd mf mn x2 else mf) (if z = 0 then upd mt mn x3 else mt) (if z = 0 then upd mp mn x4 else mp) ++ ob_wC t ac cn st Wt ++ ob_wR t ar Bd Tr n cl rd sv pb wf wa ro ah ct (if (ob_wi x1 (nI 0) (nI 5) && (ob_wi x2 (nI 0) (nI 10000) && (ob_wi x3 x2 (nI 10000) && ob_wi x4 (nI 0) (nI 100)))) && !decide (mn = 40) then mn + 1 else mn) (if (ob_wi x1 (nI 0) (nI 5) && (ob_wi x2 (nI 0) (nI 10000) && (ob_wi x3 x2 (nI 10000) && ob_wi x4 (nI 0) (nI 100)))) && !decide (mn = 40) then upd ms mn x1 else ms) (if (ob_wi x1 (nI 0) (nI 5) && (ob_wi x2 (nI 0) (nI 10000) && (ob_wi x3 x2 (nI 10000) && ob_wi x4 (nI 0) (nI 100)))) && !decide (mn = 40) then upd mf mn x2 else mf) (if (ob_wi x1 (nI 0) (nI 5) && (ob_wi x2 (nI 0) (nI 10000) && (ob_wi x3 x2 (nI 10000) && ob_wi x4 (nI 0) (nI 100)))) && !decide (mn = 40) then upd mt mn x3 else mt) (if (ob_wi x1 (nI 0) (nI 5) && (ob_wi x2 (nI 0) (nI 10000) && (ob_wi x3 x2 (nI 10000) && ob_wi x4 (nI 0) (nI 100)))) && !decide (mn = 40) then upd mp mn x4 else mp) cn sd V (nI (ob_z2 (ob_wi x1 (nI 0) (nI 5) && (ob_wi x2 (nI 0) (nI 10000) && (ob_wi x3 x2 (nI 10000) && ob_wi x4 (nI 0) (nI 100)))) (!decide (mn = 40)))) ++ ob_wU t au (if z = 0 then vp_updL ov 0 u9.toInt64 else ov)) := ob_dXOLMCRU hD
  generalize H1 = H at hP hS ⊢
  have hth : nI (ob_z2 (ob_wi x1 (nI 0) (nI 5) && (ob_wi x2 (nI 0) (nI 10000) && (ob_wi x3 x2 (nI 10000) && ob_wi x4 (nI 0) (nI 100)))) (!decide (mn = 40))) = nI z := congrArg nI hz.symm
  rw [hth] at hP
  have hP : va_P D vwCl (ob_wX ax ao al am ac ++ ob_wO t ao M ++ ob_wL t al n cl rd sv pb ba bf od bg ++ ob_wM t am (if z = 0 then mn + 1 else mn) (if z = 0 then upd ms mn x1 else ms) (if z = 0 then upd mf mn x2 else mf) (if z = 0 then upd mt mn x3 else mt) (if z = 0 then upd mp mn x4 else mp) ++ ob_wC t ac cn st Wt ++ ob_wR t ar Bd Tr n cl rd sv pb wf wa ro ah ct (if (ob_wi x1 (nI 0) (nI 5) && (ob_wi x2 (nI 0) (nI 10000) && (ob_wi x3 x2 (nI 10000) && ob_wi x4 (nI 0) (nI 100)))) && !decide (mn = 40) then mn + 1 else mn) (if (ob_wi x1 (nI 0) (nI 5) && (ob_wi x2 (nI 0) (nI 10000) && (ob_wi x3 x2 (nI 10000) && ob_wi x4 (nI 0) (nI 100)))) && !decide (mn = 40) then upd ms mn x1 else ms) (if (ob_wi x1 (nI 0) (nI 5) && (ob_wi x2 (nI 0) (nI 10000) && (ob_wi x3 x2 (nI 10000) && ob_wi x4 (nI 0) (nI 100)))) && !decide (mn = 40) then upd mf mn x2 else mf) (if (ob_wi x1 (nI 0) (nI 5) && (ob_wi x2 (nI 0) (nI 10000) && (ob_wi x3 x2 (nI 10000) && ob_wi x4 (nI 0) (nI 100)))) && !decide (mn = 40) then upd mt mn x3 else mt) (if (ob_wi x1 (nI 0) (nI 5) && (ob_wi x2 (nI 0) (nI 10000) && (ob_wi x3 x2 (nI 10000) && ob_wi x4 (nI 0) (nI 100)))) && !decide (mn = 40) then upd mp mn x4 else mp) cn sd V (nI z) ++ ob_wU t au (if z = 0 then vp_updL ov 0 u9.toInt64 else ov)) H := hP
  have e9 : z = 0 → r8 = u9 := fun h0 => hw8.trans ((hq.2 h0).trans (hp9 h0).symm)
  refine lv_istore (lv' := [(6, .int r8), (5, .int (nI z)), (0, .ref b), (1, .ref ax), (2, .ref (ar 0)), (3, .ref au), (4, .int (nI (6 * k)))]) hx hb dL_law_986 hl (by decide) rfl (fun ls hl => ?_)
  refine lv_aload_n hx hb dL_law_988 rfl (lv_at hl 4 rfl) ?_
  refine vp_callSi (va_Run.run (va_runV (As := []) (rest := []) ⟨hx, hb, hml, hown, hts⟩ (c_X5_thrown l D t ar Bd Tr n cl rd sv pb wf wa ro ah ct (if (ob_wi x1 (nI 0) (nI 5) && (ob_wi x2 (nI 0) (nI 10000) && (ob_wi x3 x2 (nI 10000) && ob_wi x4 (nI 0) (nI 100)))) && !decide (mn = 40) then mn + 1 else mn) (if (ob_wi x1 (nI 0) (nI 5) && (ob_wi x2 (nI 0) (nI 10000) && (ob_wi x3 x2 (nI 10000) && ob_wi x4 (nI 0) (nI 100)))) && !decide (mn = 40) then upd ms mn x1 else ms) (if (ob_wi x1 (nI 0) (nI 5) && (ob_wi x2 (nI 0) (nI 10000) && (ob_wi x3 x2 (nI 10000) && ob_wi x4 (nI 0) (nI 100)))) && !decide (mn = 40) then upd mf mn x2 else mf) (if (ob_wi x1 (nI 0) (nI 5) && (ob_wi x2 (nI 0) (nI 10000) && (ob_wi x3 x2 (nI 10000) && ob_wi x4 (nI 0) (nI 100)))) && !decide (mn = 40) then upd mt mn x3 else mt) (if (ob_wi x1 (nI 0) (nI 5) && (ob_wi x2 (nI 0) (nI 10000) && (ob_wi x3 x2 (nI 10000) && ob_wi x4 (nI 0) (nI 100)))) && !decide (mn = 40) then upd mp mn x4 else mp) cn sd V (nI z)) (cwV 0 hts gL_law_X5_thrown rfl rfl rfl (by decide +kernel) ⟨Nat.le_of_ble_eq_true rfl, Nat.le_of_ble_eq_true rfl⟩) (ob_preV (ci := 5) (q0 := 0) (hP.sub [40, 41, 42, 43, 44, 45, 46, 47, 48, 49, 50, 51, 52, 53, 54, 55, 56, 57] rfl) hk rfl rfl) rfl rfl hl.1 rfl (lv_room (Nat.le_of_ble_eq_true rfl)) dL_law_989 ⟨show Kc + 1 + 0 + 0 ≤ 601024 by omega, show Ks + 6 + 0 + 0 ≤ 7293034 by omega⟩)) (fun r7 hr7 => ?_)
  subst hr7
  refine lv_iload hx hb dL_law_992 (lv_at hl 1 rfl) ?_
  refine lv_icmp_eq (tgt := 999) hx hb dL_law_994 (by decide) (fun _ => ?_) (fun c9 => absurd rfl c9)
  refine lv_iload hx hb dL_law_999 (lv_at hl 1 rfl) ?_
  have fin : W p l e room_1 s m #[Value.ref b] below meth c H locs (Kc + 1) (Ks + 6) Q (F0 m 1016 ls []) := by
    refine lv_goto (tgt := 1415) hx hb dL_law_1016 (by decide) ?_
    exact nx _ _ _ ⟨_, _, _, _, _, _, _, _, _, _, _, _, _, _, _, _, _, _, _, _, _, _, _, _, _, _, _, _, _, _, _, _, _, _, _, _, _, _, _, _, hP, (ob_IL_s hL), hq.1, hC⟩ hS (lv_sub hl [2, 3, 4, 5, 6] rfl)
  refine lv_if_ne (tgt := 1016) hx hb dL_law_1001 (by decide) (fun _ => fin) (fun c9 => ?_)
  have hz0 := ob_z0 hz3 c9
  refine lv_aload_n hx hb dL_law_1004 rfl (lv_at hl 5 rfl) ?_
  refine lv_iconst (v := nI 0) hx hb dL_law_1005 (by decide) ?_
  refine ob_lald hx hb hK hP 58 1 rfl rfl (show 0 < 1 by decide) (by decide) dL_law_1006 ?_
  rw [show (if z = 0 then vp_updL ov 0 u9.toInt64 else ov : Nat → Int64) 0 = u9.toInt64 from by rw [if_pos hz0]; exact if_pos rfl]
  refine lv_iload hx hb dL_law_1007 (lv_at hl 0 rfl) ?_
  refine lv_i2l (v := r8.toInt64) hx hb dL_law_1009 rfl ?_
  refine ob_lcmp hx hb dL_law_1010 (by rw [e9 hz0]) ?_
  exact lv_if_eq (tgt := 1016) hx hb dL_law_1011 (by decide) (fun _ => fin) (fun c8 => absurd rfl c8)
