set_option maxRecDepth 100000 in
set_option maxHeartbeats 8000000 in
theorem ob_jimpact {p : Program} {l : Launch} {e : Env} {s : State} {m : MethodId} {below : List Frame} {meth : Method} {c : Code} {b L : Nat} {xs : Nat → Int32} {D : va_G} {t : Nat → ClassId} {sa : Nat → Nat} {ax : Nat} {ao al am ac ar : Nat → Nat} {au : Nat} {k Kc Ks : Nat} {Q : State → Prop} (C0 : ob_At p l s m c b L xs D t sa) (hD0 : va_D (fun q : Nat => s.heap.size ≤ q) (ob_wX ax ao al am ac ++ ob_wO t ao (fun _ _ => 0) ++ ob_wL t al 0 (fun _ => 0) (fun _ => 0) (fun _ => 0) (fun _ => 0) (fun _ => 0) (fun _ => 0) (fun _ => 0) (fun _ => 0) ++ ob_wM t am 0 (fun _ => 0) (fun _ => 0) (fun _ => 0) (fun _ => 0) ++ ob_wC t ac 0 0 (fun _ _ => 0) ++ ob_wR t ar (fun _ => 0) (fun _ => 0) 0 (fun _ => 0) (fun _ => 0) (fun _ => 0) (fun _ => 0) (fun _ => 0) (fun _ => 0) (fun _ => 0) (fun _ => 0) (fun _ => 0) 0 (fun _ => 0) (fun _ => 0) (fun _ => 0) (fun _ => 0) 0 (fun _ => 0) (fun _ => 0) 0 ++ ob_wU t au (fun _ => 0))) (hk6 : 6 * k + 6 ≤ L) (hKc : Kc + 1 ≤ 601024) (hKs : Ks + 6 ≤ 7293034)
    (nx : ∀ (H : Heap) (locs : List Loc) (ls : Array Slot), ob_St D t ax ao al am ac ar au (k + 1) H → va_S (fun q : Nat => s.heap.size ≤ q) s.heap H locs → lv_has ls 8 [(0, .ref b), (1, .ref ax), (2, .ref (ar 0)), (3, .ref au), (4, .int (nI (6 * k)))] → W p l e room_1 s m #[Value.ref b] below meth c H locs (Kc + 1) (Ks + 6) Q (F0 m 1415 ls []))
    {H : Heap} {locs : List Loc} {ls : Array Slot} (hI : ob_St D t ax ao al am ac ar au k H) (hS : va_S (fun q : Nat => s.heap.size ≤ q) s.heap H locs) (hl : lv_has ls 8 [(0, .ref b), (1, .ref ax), (2, .ref (ar 0)), (3, .ref au), (4, .int (nI (6 * k)))]) : W p l e room_1 s m #[Value.ref b] below meth c H locs Kc Ks Q (F0 m 1019 ls []) := by
  obtain ⟨hx, hb, hml, hown, hts, hX, hbl, hk, hE0, hN, hl9, hL3⟩ := C0
  obtain ⟨M, n, cl, rd, sv, pb, ba, bf, od, bg, mn, ms, mf, mt, mp, cn, st, Wt, Bd, Tr, rn, rcl, rrd, rsv, rpb, wf, wa, ro, ah, ct, rmn, rms, rmf, rmt, rmp, rcn, sd, V, th, ov, hP, hL, hM, hC⟩ := hI
  obtain ⟨rfl, rfl, rfl, rfl, rfl, h6, h7, h8, h9, h10, h11, h12, h13⟩ := id hL
  obtain ⟨rfl, rfl, rfl, rfl, rfl, hmn, hmm⟩ := id hM
  obtain ⟨rfl, hcn, hWV, hVz, hsd, hst⟩ := id hC
  have hkk : k ≤ 1000 := by omega
  have hbA : ¬ (fun q : Nat => s.heap.size ≤ q) b := Nat.not_le.mpr hbl
  have hA : ∀ q : Nat, s.heap.size ≤ q → (fun q : Nat => s.heap.size ≤ q) q := fun _ h => h
  have hK := hk.1
  have hE := ob_exK hE0 hS
  have hP : va_P D vwCl (ob_wX ax ao al am ac ++ ob_wO t ao M ++ ob_wL t al n cl rd sv pb ba bf od bg ++ ob_wM t am mn ms mf mt mp ++ ob_wC t ac cn st Wt ++ ob_wR t ar Bd Tr n cl rd sv pb wf wa ro ah ct mn ms mf mt mp cn sd V th ++ ob_wU t au ov) H := hP
  have hD : va_D (fun q : Nat => s.heap.size ≤ q) (ob_wX ax ao al am ac ++ ob_wO t ao M ++ ob_wL t al n cl rd sv pb ba bf od bg ++ ob_wM t am mn ms mf mt mp ++ ob_wC t ac cn st Wt ++ ob_wR t ar Bd Tr n cl rd sv pb wf wa ro ah ct mn ms mf mt mp cn sd V th ++ ob_wU t au ov) := ob_dXOLMCRU hD0
  obtain ⟨x, ex⟩ : ∃ z, z = xs (6 * k + 1) := ⟨_, rfl⟩
  obtain ⟨z, hz⟩ : ∃ z, z = ob_z1 (ob_wi x (nI 0) (nI 5)) := ⟨_, rfl⟩
  have hz3 : z ≤ 3 := (by rw [hz]; exact ob_z1_3 _)
  have hq := ob_pimpact (ms := ms) (mp := mp) hmm x
  refine lv_aload_n hx hb dL_law_1019 rfl (lv_at hl 1 rfl) ?_
  refine ob_ldp hx hb hX hbl hbA hS (j := 1) ex.symm (by omega) (by omega) (by decide) (lv_at hl 0 rfl) (lv_at hl 4 rfl) dL_law_1020 dL_law_1021 dL_law_1023 dL_law_1024 dL_law_1025 ?_
  refine lv_aload_n hx hb dL_law_1026 rfl (lv_at hl 3 rfl) ?_
  have hFc := va_free (wc := ob_wX ax ao al am ac ++ ob_wM t am mn ms mf mt mp ++ ob_wU t au ov) hD hS hA [0, 17, 18, 19, 20, 21, 58] rfl
  refine va_calli (ob_runN (vx_runSX (As := [.ref ax, .int x, .ref au]) (rest := []) ⟨hx, hb, hml, hown, hts⟩ (c_L_impact l hl9 sa D t H.size ax ao al am ac mn ms mf mt mp x au ov z hmn (hz.symm)) (vx_cwSW 3 hts gL_law_L_impact rfl rfl rfl (by decide +kernel) ⟨Nat.le_of_ble_eq_true rfl, Nat.le_of_ble_eq_true rfl⟩) (ob_pyS (hP.sub [0, 17, 18, 19, 20, 21, 58] rfl) (hD.sub [0, 17, 18, 19, 20, 21, 58] (by decide) rfl) hk hE hN) rfl rfl hl.1 rfl (lv_room (Nat.le_of_ble_eq_true rfl)) dL_law_1027 ⟨show Kc + 1 ≤ 601024 from hKc, show Ks + 6 ≤ 7293034 from hKs⟩)) hS (fun q _ h => hFc q h) hFc (fun r9 u9 t9 H1 locs ht hvm hw9 hB hz1 hk1 hS => ?_)
  obtain ⟨rfl, hp9⟩ := hw9
  rw [ht] at hB
  have hP := ob_jn (ws' := ob_wX ax ao al am ac ++ ob_wO t ao M ++ ob_wL t al n cl rd sv pb ba bf od bg ++ ob_wM t am mn ms mf mt mp ++ ob_wC t ac cn st Wt ++ ob_wR t ar Bd Tr n cl rd sv pb wf wa ro ah ct mn ms mf mt mp cn sd V th ++ ob_wU t au (if z = 0 then vp_updL ov 0 u9.toInt64 else ov)) hP hD [some 0, none, none, none, none, none, none, none, none, none, none, none, none, none, none, none, none, some 1, some 2, some 3, some 4, some 5, none, none, none, none, none, none, none, none, none, none, none, none, none, none, none, none, none, none, none, none, none, none, none, none, none, none, none, none, none, none, none, none, none, none, none, none, some 6] [0, 17, 18, 19, 20, 21, 58] rfl rfl hk1 hB rfl
  have hD : va_D (fun q : Nat => s.heap.size ≤ q) (ob_wX ax ao al am ac ++ ob_wO t ao M ++ ob_wL t al n cl rd sv pb ba bf od bg ++ ob_wM t am mn ms mf mt mp ++ ob_wC t ac cn st Wt ++ ob_wR t ar Bd Tr n cl rd sv pb wf wa ro ah ct mn ms mf mt mp cn sd V th ++ ob_wU t au (if z = 0 then vp_updL ov 0 u9.toInt64 else ov)) := ob_dXOLMCRU hD
  generalize H1 = H at hP hS ⊢
  refine lv_istore (lv' := [(5, .int (nI z)), (0, .ref b), (1, .ref ax), (2, .ref (ar 0)), (3, .ref au), (4, .int (nI (6 * k)))]) hx hb dL_law_1030 hl (by decide) rfl (fun ls hl => ?_)
  refine lv_aload_n hx hb dL_law_1032 rfl (lv_at hl 3 rfl) ?_
  refine ob_ldp hx hb hX hbl hbA hS (j := 1) ex.symm (by omega) (by omega) (by decide) (lv_at hl 1 rfl) (lv_at hl 5 rfl) dL_law_1033 dL_law_1034 dL_law_1036 dL_law_1037 dL_law_1038 ?_
  have hFc := va_free (wc := ob_wR t ar Bd Tr n cl rd sv pb wf wa ro ah ct mn ms mf mt mp cn sd V th) hD hS hA [40, 41, 42, 43, 44, 45, 46, 47, 48, 49, 50, 51, 52, 53, 54, 55, 56, 57] rfl
  refine va_calli (va_runV (As := [.int x]) (rest := []) ⟨hx, hb, hml, hown, hts⟩ (c_X5_impact l D t H.size ar Bd Tr n cl rd sv pb wf wa ro ah ct mn ms mf mt mp cn sd V th x (2 * mn + 1) hmn hq.1) (cwV 1 hts gL_law_X5_impact rfl rfl rfl (by decide +kernel) ⟨Nat.le_of_ble_eq_true rfl, Nat.le_of_ble_eq_true rfl⟩) (ob_pmV (ci := 5) (q0 := 0) (hP.sub [40, 41, 42, 43, 44, 45, 46, 47, 48, 49, 50, 51, 52, 53, 54, 55, 56, 57] rfl) (hD.sub [40, 41, 42, 43, 44, 45, 46, 47, 48, 49, 50, 51, 52, 53, 54, 55, 56, 57] (by decide) rfl) hk rfl rfl) rfl rfl hl.1 rfl (lv_room (Nat.le_of_ble_eq_true rfl)) dL_law_1039 ⟨show Kc + 1 + 0 ≤ 601024 by omega, show Ks + 6 + 0 ≤ 7293034 by omega⟩) hS (fun q _ h => hFc q h) hFc (fun r8 u8 t9 H1 locs ht hvm hw8 hB hz1 hk1 hS => ?_)
  rw [ht] at hB
  have hP := ob_jn (ws' := ob_wX ax ao al am ac ++ ob_wO t ao M ++ ob_wL t al n cl rd sv pb ba bf od bg ++ ob_wM t am mn ms mf mt mp ++ ob_wC t ac cn st Wt ++ ob_wR t ar Bd Tr n cl rd sv pb wf wa ro ah ct mn ms mf mt mp cn sd V (nI (ob_z1 (ob_wi x (nI 0) (nI 5)))) ++ ob_wU t au (if z = 0 then vp_updL ov 0 u9.toInt64 else ov)) hP hD [none, none, none, none, none, none, none, none, none, none, none, none, none, none, none, none, none, none, none, none, none, none, none, none, none, none, none, none, none, none, none, none, none, none, none, none, none, none, none, none, some 0, some 1, some 2, some 3, some 4, some 5, some 6, some 7, some 8, some 9, some 10, some 11, some 12, some 13, some 14, some 15, some 16, some 17, none] [40, 41, 42, 43, 44, 45, 46, 47, 48, 49, 50, 51, 52, 53, 54, 55, 56, 57] rfl rfl hk1 hB rfl
  have hD : va_D (fun q : Nat => s.heap.size ≤ q) (ob_wX ax ao al am ac ++ ob_wO t ao M ++ ob_wL t al n cl rd sv pb ba bf od bg ++ ob_wM t am mn ms mf mt mp ++ ob_wC t ac cn st Wt ++ ob_wR t ar Bd Tr n cl rd sv pb wf wa ro ah ct mn ms mf mt mp cn sd V (nI (ob_z1 (ob_wi x (nI 0) (nI 5)))) ++ ob_wU t au (if z = 0 then vp_updL ov 0 u9.toInt64 else ov)) := ob_dXOLMCRU hD
  generalize H1 = H at hP hS ⊢
  have hth : nI (ob_z1 (ob_wi x (nI 0) (nI 5))) = nI z := congrArg nI hz.symm
  rw [hth] at hP
  have hP : va_P D vwCl (ob_wX ax ao al am ac ++ ob_wO t ao M ++ ob_wL t al n cl rd sv pb ba bf od bg ++ ob_wM t am mn ms mf mt mp ++ ob_wC t ac cn st Wt ++ ob_wR t ar Bd Tr n cl rd sv pb wf wa ro ah ct mn ms mf mt mp cn sd V (nI z) ++ ob_wU t au (if z = 0 then vp_updL ov 0 u9.toInt64 else ov)) H := hP
  have e9 : z = 0 → r8 = u9 := fun h0 => (by
          rcases hw8 with ⟨a, -⟩ | ⟨-, k2, e2, a, b2⟩
          · rw [ob_z1_0.mp (hz.symm.trans h0)] at a; cases a
          · exact (e2.trans (hq.2 k2 a b2)).trans (hp9 h0).symm)
  refine lv_istore (lv' := [(6, .int r8), (5, .int (nI z)), (0, .ref b), (1, .ref ax), (2, .ref (ar 0)), (3, .ref au), (4, .int (nI (6 * k)))]) hx hb dL_law_1042 hl (by decide) rfl (fun ls hl => ?_)
  refine lv_aload_n hx hb dL_law_1044 rfl (lv_at hl 4 rfl) ?_
  refine vp_callSi (va_Run.run (va_runV (As := []) (rest := []) ⟨hx, hb, hml, hown, hts⟩ (c_X5_thrown l D t ar Bd Tr n cl rd sv pb wf wa ro ah ct mn ms mf mt mp cn sd V (nI z)) (cwV 0 hts gL_law_X5_thrown rfl rfl rfl (by decide +kernel) ⟨Nat.le_of_ble_eq_true rfl, Nat.le_of_ble_eq_true rfl⟩) (ob_preV (ci := 5) (q0 := 0) (hP.sub [40, 41, 42, 43, 44, 45, 46, 47, 48, 49, 50, 51, 52, 53, 54, 55, 56, 57] rfl) hk rfl rfl) rfl rfl hl.1 rfl (lv_room (Nat.le_of_ble_eq_true rfl)) dL_law_1045 ⟨show Kc + 1 + 0 + 0 ≤ 601024 by omega, show Ks + 6 + 0 + 0 ≤ 7293034 by omega⟩)) (fun r7 hr7 => ?_)
  subst hr7
  refine lv_iload hx hb dL_law_1048 (lv_at hl 1 rfl) ?_
  refine lv_icmp_eq (tgt := 1055) hx hb dL_law_1050 (by decide) (fun _ => ?_) (fun c9 => absurd rfl c9)
  refine lv_iload hx hb dL_law_1055 (lv_at hl 1 rfl) ?_
  have fin : W p l e room_1 s m #[Value.ref b] below meth c H locs (Kc + 1) (Ks + 6) Q (F0 m 1072 ls []) := by
    refine lv_goto (tgt := 1415) hx hb dL_law_1072 (by decide) ?_
    exact nx _ _ _ ⟨_, _, _, _, _, _, _, _, _, _, _, _, _, _, _, _, _, _, _, _, _, _, _, _, _, _, _, _, _, _, _, _, _, _, _, _, _, _, _, _, hP, (ob_IL_s hL), hM, hC⟩ hS (lv_sub hl [2, 3, 4, 5, 6] rfl)
  refine lv_if_ne (tgt := 1072) hx hb dL_law_1057 (by decide) (fun _ => fin) (fun c9 => ?_)
  have hz0 := ob_z0 hz3 c9
  refine lv_aload_n hx hb dL_law_1060 rfl (lv_at hl 5 rfl) ?_
  refine lv_iconst (v := nI 0) hx hb dL_law_1061 (by decide) ?_
  refine ob_lald hx hb hK hP 58 1 rfl rfl (show 0 < 1 by decide) (by decide) dL_law_1062 ?_
  rw [show (if z = 0 then vp_updL ov 0 u9.toInt64 else ov : Nat → Int64) 0 = u9.toInt64 from by rw [if_pos hz0]; exact if_pos rfl]
  refine lv_iload hx hb dL_law_1063 (lv_at hl 0 rfl) ?_
  refine lv_i2l (v := r8.toInt64) hx hb dL_law_1065 rfl ?_
  refine ob_lcmp hx hb dL_law_1066 (by rw [e9 hz0]) ?_
  exact lv_if_eq (tgt := 1072) hx hb dL_law_1067 (by decide) (fun _ => fin) (fun c8 => absurd rfl c8)

set_option maxRecDepth 100000 in
set_option maxHeartbeats 8000000 in
theorem ob_jminutes {p : Program} {l : Launch} {e : Env} {s : State} {m : MethodId} {below : List Frame} {meth : Method} {c : Code} {b L : Nat} {xs : Nat → Int32} {D : va_G} {t : Nat → ClassId} {sa : Nat → Nat} {ax : Nat} {ao al am ac ar : Nat → Nat} {au : Nat} {k Kc Ks : Nat} {Q : State → Prop} (C0 : ob_At p l s m c b L xs D t sa) (hD0 : va_D (fun q : Nat => s.heap.size ≤ q) (ob_wX ax ao al am ac ++ ob_wO t ao (fun _ _ => 0) ++ ob_wL t al 0 (fun _ => 0) (fun _ => 0) (fun _ => 0) (fun _ => 0) (fun _ => 0) (fun _ => 0) (fun _ => 0) (fun _ => 0) ++ ob_wM t am 0 (fun _ => 0) (fun _ => 0) (fun _ => 0) (fun _ => 0) ++ ob_wC t ac 0 0 (fun _ _ => 0) ++ ob_wR t ar (fun _ => 0) (fun _ => 0) 0 (fun _ => 0) (fun _ => 0) (fun _ => 0) (fun _ => 0) (fun _ => 0) (fun _ => 0) (fun _ => 0) (fun _ => 0) (fun _ => 0) 0 (fun _ => 0) (fun _ => 0) (fun _ => 0) (fun _ => 0) 0 (fun _ => 0) (fun _ => 0) 0 ++ ob_wU t au (fun _ => 0))) (hk6 : 6 * k + 6 ≤ L) (hKc : Kc + 1 ≤ 601024) (hKs : Ks + 6 ≤ 7293034)
    (nx : ∀ (H : Heap) (locs : List Loc) (ls : Array Slot), ob_St D t ax ao al am ac ar au (k + 1) H → va_S (fun q : Nat => s.heap.size ≤ q) s.heap H locs → lv_has ls 8 [(0, .ref b), (1, .ref ax), (2, .ref (ar 0)), (3, .ref au), (4, .int (nI (6 * k)))] → W p l e room_1 s m #[Value.ref b] below meth c H locs (Kc + 1) (Ks + 6) Q (F0 m 1415 ls []))
    {H : Heap} {locs : List Loc} {ls : Array Slot} (hI : ob_St D t ax ao al am ac ar au k H) (hS : va_S (fun q : Nat => s.heap.size ≤ q) s.heap H locs) (hl : lv_has ls 8 [(0, .ref b), (1, .ref ax), (2, .ref (ar 0)), (3, .ref au), (4, .int (nI (6 * k)))]) : W p l e room_1 s m #[Value.ref b] below meth c H locs Kc Ks Q (F0 m 1075 ls []) := by
  obtain ⟨hx, hb, hml, hown, hts, hX, hbl, hk, hE0, hN, hl9, hL3⟩ := C0
  obtain ⟨M, n, cl, rd, sv, pb, ba, bf, od, bg, mn, ms, mf, mt, mp, cn, st, Wt, Bd, Tr, rn, rcl, rrd, rsv, rpb, wf, wa, ro, ah, ct, rmn, rms, rmf, rmt, rmp, rcn, sd, V, th, ov, hP, hL, hM, hC⟩ := hI
  obtain ⟨rfl, rfl, rfl, rfl, rfl, h6, h7, h8, h9, h10, h11, h12, h13⟩ := id hL
  obtain ⟨rfl, rfl, rfl, rfl, rfl, hmn, hmm⟩ := id hM
  obtain ⟨rfl, hcn, hWV, hVz, hsd, hst⟩ := id hC
  have hkk : k ≤ 1000 := by omega
  have hbA : ¬ (fun q : Nat => s.heap.size ≤ q) b := Nat.not_le.mpr hbl
  have hA : ∀ q : Nat, s.heap.size ≤ q → (fun q : Nat => s.heap.size ≤ q) q := fun _ h => h
  have hK := hk.1
  have hE := ob_exK hE0 hS
  have hP : va_P D vwCl (ob_wX ax ao al am ac ++ ob_wO t ao M ++ ob_wL t al n cl rd sv pb ba bf od bg ++ ob_wM t am mn ms mf mt mp ++ ob_wC t ac cn st Wt ++ ob_wR t ar Bd Tr n cl rd sv pb wf wa ro ah ct mn ms mf mt mp cn sd V th ++ ob_wU t au ov) H := hP
  have hD : va_D (fun q : Nat => s.heap.size ≤ q) (ob_wX ax ao al am ac ++ ob_wO t ao M ++ ob_wL t al n cl rd sv pb ba bf od bg ++ ob_wM t am mn ms mf mt mp ++ ob_wC t ac cn st Wt ++ ob_wR t ar Bd Tr n cl rd sv pb wf wa ro ah ct mn ms mf mt mp cn sd V th ++ ob_wU t au ov) := ob_dXOLMCRU hD0
  have hq := ob_pminutes (ms := ms) (mp := mp) hmm
  refine lv_aload_n hx hb dL_law_1075 rfl (lv_at hl 1 rfl) ?_
  refine vp_callSi (va_Run.run (va_runV (As := []) (rest := []) ⟨hx, hb, hml, hown, hts⟩ (c_X4_minutes l D t ax ao al am ac mn ms mf mt mp hmn) (cwV 0 hts gL_law_X4_minutes rfl rfl rfl (by decide +kernel) ⟨Nat.le_of_ble_eq_true rfl, Nat.le_of_ble_eq_true rfl⟩) (ob_preV (ci := 4) (q0 := 0) (hP.sub [0, 17, 18, 19, 20, 21] rfl) hk rfl rfl) rfl rfl hl.1 rfl (lv_room (Nat.le_of_ble_eq_true rfl)) dL_law_1076 ⟨show Kc + 0 ≤ 601024 by omega, show Ks + 0 ≤ 7293034 by omega⟩)) (fun r9 hr9 => ?_)
  subst hr9
  refine lv_aload_n hx hb dL_law_1079 rfl (lv_at hl 2 rfl) ?_
  have hFc := va_free (wc := ob_wR t ar Bd Tr n cl rd sv pb wf wa ro ah ct mn ms mf mt mp cn sd V th) hD hS hA [40, 41, 42, 43, 44, 45, 46, 47, 48, 49, 50, 51, 52, 53, 54, 55, 56, 57] rfl
  refine va_calli (va_runV (As := []) (rest := [.int ((ob_fm ms mf mt mp mn (2 * mn + 1)).1)]) ⟨hx, hb, hml, hown, hts⟩ (c_X5_minutes l D t H.size ar Bd Tr n cl rd sv pb wf wa ro ah ct mn ms mf mt mp cn sd V th (2 * mn + 1) hmn hq.1) (cwV 0 hts gL_law_X5_minutes rfl rfl rfl (by decide +kernel) ⟨Nat.le_of_ble_eq_true rfl, Nat.le_of_ble_eq_true rfl⟩) (ob_pmV (ci := 5) (q0 := 0) (hP.sub [40, 41, 42, 43, 44, 45, 46, 47, 48, 49, 50, 51, 52, 53, 54, 55, 56, 57] rfl) (hD.sub [40, 41, 42, 43, 44, 45, 46, 47, 48, 49, 50, 51, 52, 53, 54, 55, 56, 57] (by decide) rfl) hk rfl rfl) rfl rfl hl.1 rfl (lv_room (Nat.le_of_ble_eq_true rfl)) dL_law_1080 ⟨show Kc + 0 ≤ 601024 by omega, show Ks + 0 ≤ 7293034 by omega⟩) hS (fun q _ h => hFc q h) hFc (fun r8 u8 t9 H1 locs ht hvm hw8 hB hz1 hk1 hS => ?_)
  rw [ht] at hB
  have hP := ob_jn (ws' := ob_wX ax ao al am ac ++ ob_wO t ao M ++ ob_wL t al n cl rd sv pb ba bf od bg ++ ob_wM t am mn ms mf mt mp ++ ob_wC t ac cn st Wt ++ ob_wR t ar Bd Tr n cl rd sv pb wf wa ro ah ct mn ms mf mt mp cn sd V (nI 0) ++ ob_wU t au ov) hP hD [none, none, none, none, none, none, none, none, none, none, none, none, none, none, none, none, none, none, none, none, none, none, none, none, none, none, none, none, none, none, none, none, none, none, none, none, none, none, none, none, some 0, some 1, some 2, some 3, some 4, some 5, some 6, some 7, some 8, some 9, some 10, some 11, some 12, some 13, some 14, some 15, some 16, some 17, none] [40, 41, 42, 43, 44, 45, 46, 47, 48, 49, 50, 51, 52, 53, 54, 55, 56, 57] rfl rfl hk1 hB rfl
  have hD : va_D (fun q : Nat => s.heap.size ≤ q) (ob_wX ax ao al am ac ++ ob_wO t ao M ++ ob_wL t al n cl rd sv pb ba bf od bg ++ ob_wM t am mn ms mf mt mp ++ ob_wC t ac cn st Wt ++ ob_wR t ar Bd Tr n cl rd sv pb wf wa ro ah ct mn ms mf mt mp cn sd V (nI 0) ++ ob_wU t au ov) := ob_dXOLMCRU hD
  generalize H1 = H at hP hS ⊢
  refine lv_icmp_eq (tgt := 1415) hx hb dL_law_1083 (by decide) (fun _ => ?_) (fun c9 => absurd ((by obtain ⟨k2, e2, a, b2⟩ := hw8; exact (e2.trans (hq.2 k2 a b2)).symm)) c9)
  refine W.widen (k := Kc + 1) (n := Ks + 6) (by omega) (by omega) ?_
  exact nx _ _ _ ⟨_, _, _, _, _, _, _, _, _, _, _, _, _, _, _, _, _, _, _, _, _, _, _, _, _, _, _, _, _, _, _, _, _, _, _, _, _, _, _, _, hP, (ob_IL_s hL), hM, hC⟩ hS (lv_sub hl [0, 1, 2, 3, 4] rfl)

set_option maxRecDepth 100000 in
set_option maxHeartbeats 8000000 in
theorem ob_jaddCause {p : Program} {l : Launch} {e : Env} {s : State} {m : MethodId} {below : List Frame} {meth : Method} {c : Code} {b L : Nat} {xs : Nat → Int32} {D : va_G} {t : Nat → ClassId} {sa : Nat → Nat} {ax : Nat} {ao al am ac ar : Nat → Nat} {au : Nat} {k Kc Ks : Nat} {Q : State → Prop} (C0 : ob_At p l s m c b L xs D t sa) (hD0 : va_D (fun q : Nat => s.heap.size ≤ q) (ob_wX ax ao al am ac ++ ob_wO t ao (fun _ _ => 0) ++ ob_wL t al 0 (fun _ => 0) (fun _ => 0) (fun _ => 0) (fun _ => 0) (fun _ => 0) (fun _ => 0) (fun _ => 0) (fun _ => 0) ++ ob_wM t am 0 (fun _ => 0) (fun _ => 0) (fun _ => 0) (fun _ => 0) ++ ob_wC t ac 0 0 (fun _ _ => 0) ++ ob_wR t ar (fun _ => 0) (fun _ => 0) 0 (fun _ => 0) (fun _ => 0) (fun _ => 0) (fun _ => 0) (fun _ => 0) (fun _ => 0) (fun _ => 0) (fun _ => 0) (fun _ => 0) 0 (fun _ => 0) (fun _ => 0) (fun _ => 0) (fun _ => 0) 0 (fun _ => 0) (fun _ => 0) 0 ++ ob_wU t au (fun _ => 0))) (hk6 : 6 * k + 6 ≤ L) (hKc : Kc + 1 ≤ 601024) (hKs : Ks + 6 ≤ 7293034)
    (nx : ∀ (H : Heap) (locs : List Loc) (ls : Array Slot), ob_St D t ax ao al am ac ar au (k + 1) H → va_S (fun q : Nat => s.heap.size ≤ q) s.heap H locs → lv_has ls 8 [(0, .ref b), (1, .ref ax), (2, .ref (ar 0)), (3, .ref au), (4, .int (nI (6 * k)))] → W p l e room_1 s m #[Value.ref b] below meth c H locs (Kc + 1) (Ks + 6) Q (F0 m 1415 ls []))
    {H : Heap} {locs : List Loc} {ls : Array Slot} (hI : ob_St D t ax ao al am ac ar au k H) (hS : va_S (fun q : Nat => s.heap.size ≤ q) s.heap H locs) (hl : lv_has ls 8 [(0, .ref b), (1, .ref ax), (2, .ref (ar 0)), (3, .ref au), (4, .int (nI (6 * k)))]) : W p l e room_1 s m #[Value.ref b] below meth c H locs Kc Ks Q (F0 m 1088 ls []) := by
  obtain ⟨hx, hb, hml, hown, hts, hX, hbl, hk, hE0, hN, hl9, hL3⟩ := C0
  obtain ⟨M, n, cl, rd, sv, pb, ba, bf, od, bg, mn, ms, mf, mt, mp, cn, st, Wt, Bd, Tr, rn, rcl, rrd, rsv, rpb, wf, wa, ro, ah, ct, rmn, rms, rmf, rmt, rmp, rcn, sd, V, th, ov, hP, hL, hM, hC⟩ := hI
  obtain ⟨rfl, rfl, rfl, rfl, rfl, h6, h7, h8, h9, h10, h11, h12, h13⟩ := id hL
  obtain ⟨rfl, rfl, rfl, rfl, rfl, hmn, hmm⟩ := id hM
  obtain ⟨rfl, hcn, hWV, hVz, hsd, hst⟩ := id hC
  have hkk : k ≤ 1000 := by omega
  have hbA : ¬ (fun q : Nat => s.heap.size ≤ q) b := Nat.not_le.mpr hbl
  have hA : ∀ q : Nat, s.heap.size ≤ q → (fun q : Nat => s.heap.size ≤ q) q := fun _ h => h
  have hK := hk.1
  have hE := ob_exK hE0 hS
  have hP : va_P D vwCl (ob_wX ax ao al am ac ++ ob_wO t ao M ++ ob_wL t al n cl rd sv pb ba bf od bg ++ ob_wM t am mn ms mf mt mp ++ ob_wC t ac cn st Wt ++ ob_wR t ar Bd Tr n cl rd sv pb wf wa ro ah ct mn ms mf mt mp cn sd V th ++ ob_wU t au ov) H := hP
  have hD : va_D (fun q : Nat => s.heap.size ≤ q) (ob_wX ax ao al am ac ++ ob_wO t ao M ++ ob_wL t al n cl rd sv pb ba bf od bg ++ ob_wM t am mn ms mf mt mp ++ ob_wC t ac cn st Wt ++ ob_wR t ar Bd Tr n cl rd sv pb wf wa ro ah ct mn ms mf mt mp cn sd V th ++ ob_wU t au ov) := ob_dXOLMCRU hD0
  obtain ⟨z, hz⟩ : ∃ z, z = ob_z1 (!decide (cn = 16)) := ⟨_, rfl⟩
  have hz3 : z ≤ 3 := (by rw [hz]; exact ob_z1_3 _)
  have hq := ob_q_addCause hC
  rw [← hz] at hq
  refine lv_aload_n hx hb dL_law_1088 rfl (lv_at hl 1 rfl) ?_
  refine lv_aload_n hx hb dL_law_1089 rfl (lv_at hl 3 rfl) ?_
  have hFc := va_free (wc := ob_wX ax ao al am ac ++ ob_wC t ac cn st Wt ++ ob_wU t au ov) hD hS hA [0, 22, 23, 24, 25, 26, 27, 28, 29, 30, 31, 32, 33, 34, 35, 36, 37, 38, 39, 58] rfl
  refine va_calli (ob_runN (vx_runSX (As := [.ref ax, .ref au]) (rest := []) ⟨hx, hb, hml, hown, hts⟩ (c_L_addCause l hl9 sa D t H.size ax ao al am ac cn st Wt au ov z hcn (hq.1)) (vx_cwSW 2 hts gL_law_L_addCause rfl rfl rfl (by decide +kernel) ⟨Nat.le_of_ble_eq_true rfl, Nat.le_of_ble_eq_true rfl⟩) (ob_pyS (hP.sub [0, 22, 23, 24, 25, 26, 27, 28, 29, 30, 31, 32, 33, 34, 35, 36, 37, 38, 39, 58] rfl) (hD.sub [0, 22, 23, 24, 25, 26, 27, 28, 29, 30, 31, 32, 33, 34, 35, 36, 37, 38, 39, 58] (by decide) rfl) hk hE hN) rfl rfl hl.1 rfl (lv_room (Nat.le_of_ble_eq_true rfl)) dL_law_1090 ⟨show Kc + 1 ≤ 601024 from hKc, show Ks + 6 ≤ 7293034 from hKs⟩)) hS (fun q _ h => hFc q h) hFc (fun r9 u9 t9 H1 locs ht hvm hw9 hB hz1 hk1 hS => ?_)
  obtain ⟨rfl, hp9⟩ := hw9
  rw [ht] at hB
  have hP := ob_jn (ws' := ob_wX ax ao al am ac ++ ob_wO t ao M ++ ob_wL t al n cl rd sv pb ba bf od bg ++ ob_wM t am mn ms mf mt mp ++ ob_wC t ac (if z = 0 then cn + 1 else cn) (if z = 0 then st ||| ob_bit (nI cn) else st) Wt ++ ob_wR t ar Bd Tr n cl rd sv pb wf wa ro ah ct mn ms mf mt mp cn sd V th ++ ob_wU t au (if z = 0 then vp_updL ov 0 u9.toInt64 else ov)) hP hD [some 0, none, none, none, none, none, none, none, none, none, none, none, none, none, none, none, none, none, none, none, none, none, some 1, some 2, some 3, some 4, some 5, some 6, some 7, some 8, some 9, some 10, some 11, some 12, some 13, some 14, some 15, some 16, some 17, some 18, none, none, none, none, none, none, none, none, none, none, none, none, none, none, none, none, none, none, some 19] [0, 22, 23, 24, 25, 26, 27, 28, 29, 30, 31, 32, 33, 34, 35, 36, 37, 38, 39, 58] rfl rfl hk1 hB rfl
  have hD : va_D (fun q : Nat => s.heap.size ≤ q) (ob_wX ax ao al am ac ++ ob_wO t ao M ++ ob_wL t al n cl rd sv pb ba bf od bg ++ ob_wM t am mn ms mf mt mp ++ ob_wC t ac (if z = 0 then cn + 1 else cn) (if z = 0 then st ||| ob_bit (nI cn) else st) Wt ++ ob_wR t ar Bd Tr n cl rd sv pb wf wa ro ah ct mn ms mf mt mp cn sd V th ++ ob_wU t au (if z = 0 then vp_updL ov 0 u9.toInt64 else ov)) := ob_dXOLMCRU hD
  generalize H1 = H at hP hS ⊢
  refine lv_istore (lv' := [(5, .int (nI z)), (0, .ref b), (1, .ref ax), (2, .ref (ar 0)), (3, .ref au), (4, .int (nI (6 * k)))]) hx hb dL_law_1093 hl (by decide) rfl (fun ls hl => ?_)
  refine lv_aload_n hx hb dL_law_1095 rfl (lv_at hl 3 rfl) ?_
  have hFc := va_free (wc := ob_wR t ar Bd Tr n cl rd sv pb wf wa ro ah ct mn ms mf mt mp cn sd V th) hD hS hA [40, 41, 42, 43, 44, 45, 46, 47, 48, 49, 50, 51, 52, 53, 54, 55, 56, 57] rfl
  refine va_calli (va_runV (As := []) (rest := []) ⟨hx, hb, hml, hown, hts⟩ (c_X5_addCause l D t H.size ar Bd Tr n cl rd sv pb wf wa ro ah ct mn ms mf mt mp cn sd V th hcn) (cwV 0 hts gL_law_X5_addCause rfl rfl rfl (by decide +kernel) ⟨Nat.le_of_ble_eq_true rfl, Nat.le_of_ble_eq_true rfl⟩) (ob_pmV (ci := 5) (q0 := 0) (hP.sub [40, 41, 42, 43, 44, 45, 46, 47, 48, 49, 50, 51, 52, 53, 54, 55, 56, 57] rfl) (hD.sub [40, 41, 42, 43, 44, 45, 46, 47, 48, 49, 50, 51, 52, 53, 54, 55, 56, 57] (by decide) rfl) hk rfl rfl) rfl rfl hl.1 rfl (lv_room (Nat.le_of_ble_eq_true rfl)) dL_law_1096 ⟨show Kc + 1 + 0 ≤ 601024 by omega, show Ks + 6 + 0 ≤ 7293034 by omega⟩) hS (fun q _ h => hFc q h) hFc (fun r8 u8 t9 H1 locs ht hvm hw8 hB hz1 hk1 hS => ?_)
  rw [ht] at hB
  have hP := ob_jn (ws' := ob_wX ax ao al am ac ++ ob_wO t ao M ++ ob_wL t al n cl rd sv pb ba bf od bg ++ ob_wM t am mn ms mf mt mp ++ ob_wC t ac (if z = 0 then cn + 1 else cn) (if z = 0 then st ||| ob_bit (nI cn) else st) Wt ++ ob_wR t ar Bd Tr n cl rd sv pb wf wa ro ah ct mn ms mf mt mp (if !decide (cn = 16) then cn + 1 else cn) (if !decide (cn = 16) then upd sd cn (ob_bi true) else sd) V (nI (ob_z1 (!decide (cn = 16)))) ++ ob_wU t au (if z = 0 then vp_updL ov 0 u9.toInt64 else ov)) hP hD [none, none, none, none, none, none, none, none, none, none, none, none, none, none, none, none, none, none, none, none, none, none, none, none, none, none, none, none, none, none, none, none, none, none, none, none, none, none, none, none, some 0, some 1, some 2, some 3, some 4, some 5, some 6, some 7, some 8, some 9, some 10, some 11, some 12, some 13, some 14, some 15, some 16, some 17, none] [40, 41, 42, 43, 44, 45, 46, 47, 48, 49, 50, 51, 52, 53, 54, 55, 56, 57] rfl rfl hk1 hB rfl
  have hD : va_D (fun q : Nat => s.heap.size ≤ q) (ob_wX ax ao al am ac ++ ob_wO t ao M ++ ob_wL t al n cl rd sv pb ba bf od bg ++ ob_wM t am mn ms mf mt mp ++ ob_wC t ac (if z = 0 then cn + 1 else cn) (if z = 0 then st ||| ob_bit (nI cn) else st) Wt ++ ob_wR t ar Bd Tr n cl rd sv pb wf wa ro ah ct mn ms mf mt mp (if !decide (cn = 16) then cn + 1 else cn) (if !decide (cn = 16) then upd sd cn (ob_bi true) else sd) V (nI (ob_z1 (!decide (cn = 16)))) ++ ob_wU t au (if z = 0 then vp_updL ov 0 u9.toInt64 else ov)) := ob_dXOLMCRU hD
  generalize H1 = H at hP hS ⊢
  have hth : nI (ob_z1 (!decide (cn = 16))) = nI z := congrArg nI hz.symm
  rw [hth] at hP
  have hP : va_P D vwCl (ob_wX ax ao al am ac ++ ob_wO t ao M ++ ob_wL t al n cl rd sv pb ba bf od bg ++ ob_wM t am mn ms mf mt mp ++ ob_wC t ac (if z = 0 then cn + 1 else cn) (if z = 0 then st ||| ob_bit (nI cn) else st) Wt ++ ob_wR t ar Bd Tr n cl rd sv pb wf wa ro ah ct mn ms mf mt mp (if !decide (cn = 16) then cn + 1 else cn) (if !decide (cn = 16) then upd sd cn (ob_bi true) else sd) V (nI z) ++ ob_wU t au (if z = 0 then vp_updL ov 0 u9.toInt64 else ov)) H := hP
  have e9 : z = 0 → r8 = u9 := fun h0 => hw8.trans ((hq.2.2 h0).trans (hp9 h0).symm)
  refine lv_istore (lv' := [(6, .int r8), (5, .int (nI z)), (0, .ref b), (1, .ref ax), (2, .ref (ar 0)), (3, .ref au), (4, .int (nI (6 * k)))]) hx hb dL_law_1099 hl (by decide) rfl (fun ls hl => ?_)
  refine lv_aload_n hx hb dL_law_1101 rfl (lv_at hl 4 rfl) ?_
  refine vp_callSi (va_Run.run (va_runV (As := []) (rest := []) ⟨hx, hb, hml, hown, hts⟩ (c_X5_thrown l D t ar Bd Tr n cl rd sv pb wf wa ro ah ct mn ms mf mt mp (if !decide (cn = 16) then cn + 1 else cn) (if !decide (cn = 16) then upd sd cn (ob_bi true) else sd) V (nI z)) (cwV 0 hts gL_law_X5_thrown rfl rfl rfl (by decide +kernel) ⟨Nat.le_of_ble_eq_true rfl, Nat.le_of_ble_eq_true rfl⟩) (ob_preV (ci := 5) (q0 := 0) (hP.sub [40, 41, 42, 43, 44, 45, 46, 47, 48, 49, 50, 51, 52, 53, 54, 55, 56, 57] rfl) hk rfl rfl) rfl rfl hl.1 rfl (lv_room (Nat.le_of_ble_eq_true rfl)) dL_law_1102 ⟨show Kc + 1 + 0 + 0 ≤ 601024 by omega, show Ks + 6 + 0 + 0 ≤ 7293034 by omega⟩)) (fun r7 hr7 => ?_)
  subst hr7
  refine lv_iload hx hb dL_law_1105 (lv_at hl 1 rfl) ?_
  refine lv_icmp_eq (tgt := 1112) hx hb dL_law_1107 (by decide) (fun _ => ?_) (fun c9 => absurd rfl c9)
  refine lv_iload hx hb dL_law_1112 (lv_at hl 1 rfl) ?_
  have fin : W p l e room_1 s m #[Value.ref b] below meth c H locs (Kc + 1) (Ks + 6) Q (F0 m 1129 ls []) := by
    refine lv_goto (tgt := 1415) hx hb dL_law_1129 (by decide) ?_
    exact nx _ _ _ ⟨_, _, _, _, _, _, _, _, _, _, _, _, _, _, _, _, _, _, _, _, _, _, _, _, _, _, _, _, _, _, _, _, _, _, _, _, _, _, _, _, hP, (ob_IL_s hL), hM, hq.2.1⟩ hS (lv_sub hl [2, 3, 4, 5, 6] rfl)
  refine lv_if_ne (tgt := 1129) hx hb dL_law_1114 (by decide) (fun _ => fin) (fun c9 => ?_)
  have hz0 := ob_z0 hz3 c9
  refine lv_aload_n hx hb dL_law_1117 rfl (lv_at hl 5 rfl) ?_
  refine lv_iconst (v := nI 0) hx hb dL_law_1118 (by decide) ?_
  refine ob_lald hx hb hK hP 58 1 rfl rfl (show 0 < 1 by decide) (by decide) dL_law_1119 ?_
  rw [show (if z = 0 then vp_updL ov 0 u9.toInt64 else ov : Nat → Int64) 0 = u9.toInt64 from by rw [if_pos hz0]; exact if_pos rfl]
  refine lv_iload hx hb dL_law_1120 (lv_at hl 0 rfl) ?_
  refine lv_i2l (v := r8.toInt64) hx hb dL_law_1122 rfl ?_
  refine ob_lcmp hx hb dL_law_1123 (by rw [e9 hz0]) ?_
  exact lv_if_eq (tgt := 1129) hx hb dL_law_1124 (by decide) (fun _ => fin) (fun c8 => absurd rfl c8)

set_option maxRecDepth 100000 in
set_option maxHeartbeats 8000000 in
theorem ob_jargueReason {p : Program} {l : Launch} {e : Env} {s : State} {m : MethodId} {below : List Frame} {meth : Method} {c : Code} {b L : Nat} {xs : Nat → Int32} {D : va_G} {t : Nat → ClassId} {sa : Nat → Nat} {ax : Nat} {ao al am ac ar : Nat → Nat} {au : Nat} {k Kc Ks : Nat} {Q : State → Prop} (C0 : ob_At p l s m c b L xs D t sa) (hD0 : va_D (fun q : Nat => s.heap.size ≤ q) (ob_wX ax ao al am ac ++ ob_wO t ao (fun _ _ => 0) ++ ob_wL t al 0 (fun _ => 0) (fun _ => 0) (fun _ => 0) (fun _ => 0) (fun _ => 0) (fun _ => 0) (fun _ => 0) (fun _ => 0) ++ ob_wM t am 0 (fun _ => 0) (fun _ => 0) (fun _ => 0) (fun _ => 0) ++ ob_wC t ac 0 0 (fun _ _ => 0) ++ ob_wR t ar (fun _ => 0) (fun _ => 0) 0 (fun _ => 0) (fun _ => 0) (fun _ => 0) (fun _ => 0) (fun _ => 0) (fun _ => 0) (fun _ => 0) (fun _ => 0) (fun _ => 0) 0 (fun _ => 0) (fun _ => 0) (fun _ => 0) (fun _ => 0) 0 (fun _ => 0) (fun _ => 0) 0 ++ ob_wU t au (fun _ => 0))) (hk6 : 6 * k + 6 ≤ L) (hKc : Kc + 1 ≤ 601024) (hKs : Ks + 6 ≤ 7293034)
    (nx : ∀ (H : Heap) (locs : List Loc) (ls : Array Slot), ob_St D t ax ao al am ac ar au (k + 1) H → va_S (fun q : Nat => s.heap.size ≤ q) s.heap H locs → lv_has ls 8 [(0, .ref b), (1, .ref ax), (2, .ref (ar 0)), (3, .ref au), (4, .int (nI (6 * k)))] → W p l e room_1 s m #[Value.ref b] below meth c H locs (Kc + 1) (Ks + 6) Q (F0 m 1415 ls []))
    {H : Heap} {locs : List Loc} {ls : Array Slot} (hI : ob_St D t ax ao al am ac ar au k H) (hS : va_S (fun q : Nat => s.heap.size ≤ q) s.heap H locs) (hl : lv_has ls 8 [(0, .ref b), (1, .ref ax), (2, .ref (ar 0)), (3, .ref au), (4, .int (nI (6 * k)))]) : W p l e room_1 s m #[Value.ref b] below meth c H locs Kc Ks Q (F0 m 1132 ls []) := by
  obtain ⟨hx, hb, hml, hown, hts, hX, hbl, hk, hE0, hN, hl9, hL3⟩ := C0
  obtain ⟨M, n, cl, rd, sv, pb, ba, bf, od, bg, mn, ms, mf, mt, mp, cn, st, Wt, Bd, Tr, rn, rcl, rrd, rsv, rpb, wf, wa, ro, ah, ct, rmn, rms, rmf, rmt, rmp, rcn, sd, V, th, ov, hP, hL, hM, hC⟩ := hI
  obtain ⟨rfl, rfl, rfl, rfl, rfl, h6, h7, h8, h9, h10, h11, h12, h13⟩ := id hL
  obtain ⟨rfl, rfl, rfl, rfl, rfl, hmn, hmm⟩ := id hM
  obtain ⟨rfl, hcn, hWV, hVz, hsd, hst⟩ := id hC
  have hkk : k ≤ 1000 := by omega
  have hbA : ¬ (fun q : Nat => s.heap.size ≤ q) b := Nat.not_le.mpr hbl
  have hA : ∀ q : Nat, s.heap.size ≤ q → (fun q : Nat => s.heap.size ≤ q) q := fun _ h => h
  have hK := hk.1
  have hE := ob_exK hE0 hS
  have hP : va_P D vwCl (ob_wX ax ao al am ac ++ ob_wO t ao M ++ ob_wL t al n cl rd sv pb ba bf od bg ++ ob_wM t am mn ms mf mt mp ++ ob_wC t ac cn st Wt ++ ob_wR t ar Bd Tr n cl rd sv pb wf wa ro ah ct mn ms mf mt mp cn sd V th ++ ob_wU t au ov) H := hP
  have hD : va_D (fun q : Nat => s.heap.size ≤ q) (ob_wX ax ao al am ac ++ ob_wO t ao M ++ ob_wL t al n cl rd sv pb ba bf od bg ++ ob_wM t am mn ms mf mt mp ++ ob_wC t ac cn st Wt ++ ob_wR t ar Bd Tr n cl rd sv pb wf wa ro ah ct mn ms mf mt mp cn sd V th ++ ob_wU t au ov) := ob_dXOLMCRU hD0
  obtain ⟨x1, ex1⟩ : ∃ z, z = xs (6 * k + 1) := ⟨_, rfl⟩
  obtain ⟨x2, ex2⟩ : ∃ z, z = xs (6 * k + 2) := ⟨_, rfl⟩
  obtain ⟨x3, ex3⟩ : ∃ z, z = xs (6 * k + 3) := ⟨_, rfl⟩
  obtain ⟨z, hz⟩ : ∃ z, z = if (ob_hd cn x1 && ob_hd cn x2) && (ob_wi x3 (nI 0) (nI 100) && !decide (x1 = x2)) then ob_z3 ((!decide (x3 ≤ 0)) && ob_hb (ob_rr V sd x2 false 4096) x1) else ob_z2 (ob_hd cn x1 && ob_hd cn x2) (ob_wi x3 (nI 0) (nI 100) && !decide (x1 = x2)) := ⟨_, rfl⟩
  have hz3 : z ≤ 3 := ob_z3_3 _ _ _ z hz
  have hq := ob_q_argueReason hC hz
  refine lv_aload_n hx hb dL_law_1132 rfl (lv_at hl 1 rfl) ?_
  refine ob_ldp hx hb hX hbl hbA hS (j := 1) ex1.symm (by omega) (by omega) (by decide) (lv_at hl 0 rfl) (lv_at hl 4 rfl) dL_law_1133 dL_law_1134 dL_law_1136 dL_law_1137 dL_law_1138 ?_
  refine ob_ldp hx hb hX hbl hbA hS (j := 2) ex2.symm (by omega) (by omega) (by decide) (lv_at hl 0 rfl) (lv_at hl 4 rfl) dL_law_1139 dL_law_1140 dL_law_1142 dL_law_1143 dL_law_1144 ?_
  refine ob_ldp hx hb hX hbl hbA hS (j := 3) ex3.symm (by omega) (by omega) (by decide) (lv_at hl 0 rfl) (lv_at hl 4 rfl) dL_law_1145 dL_law_1146 dL_law_1148 dL_law_1149 dL_law_1150 ?_
  refine lv_aload_n hx hb dL_law_1151 rfl (lv_at hl 3 rfl) ?_
  have hFc := va_free (wc := ob_wX ax ao al am ac ++ ob_wC t ac cn st Wt ++ ob_wU t au ov) hD hS hA [0, 22, 23, 24, 25, 26, 27, 28, 29, 30, 31, 32, 33, 34, 35, 36, 37, 38, 39, 58] rfl
  refine va_calli (ob_runN (vx_runSX (As := [.ref ax, .int x1, .int x2, .int x3, .ref au]) (rest := []) ⟨hx, hb, hml, hown, hts⟩ (c_L_argueReason l hl9 sa D t H.size ax ao al am ac cn st Wt x1 x2 x3 au ov z hcn (hq.1)) (vx_cwSW 5 hts gL_law_L_argueReason rfl rfl rfl (by decide +kernel) ⟨Nat.le_of_ble_eq_true rfl, Nat.le_of_ble_eq_true rfl⟩) (ob_pyS (hP.sub [0, 22, 23, 24, 25, 26, 27, 28, 29, 30, 31, 32, 33, 34, 35, 36, 37, 38, 39, 58] rfl) (hD.sub [0, 22, 23, 24, 25, 26, 27, 28, 29, 30, 31, 32, 33, 34, 35, 36, 37, 38, 39, 58] (by decide) rfl) hk hE hN) rfl rfl hl.1 rfl (lv_room (Nat.le_of_ble_eq_true rfl)) dL_law_1152 ⟨show Kc + 1 ≤ 601024 from hKc, show Ks + 6 ≤ 7293034 from hKs⟩)) hS (fun q _ h => hFc q h) hFc (fun r9 u9 t9 H1 locs ht hvm hw9 hB hz1 hk1 hS => ?_)
  obtain ⟨rfl, hp9⟩ := hw9
  rw [ht] at hB
  have hP := ob_jn (ws' := ob_wX ax ao al am ac ++ ob_wO t ao M ++ ob_wL t al n cl rd sv pb ba bf od bg ++ ob_wM t am mn ms mf mt mp ++ ob_wC t ac cn st (if z = 0 then ob_up2 Wt x1.toNatClampNeg x2.toNatClampNeg x3 else Wt) ++ ob_wR t ar Bd Tr n cl rd sv pb wf wa ro ah ct mn ms mf mt mp cn sd V th ++ ob_wU t au (if z = 0 then vp_updL ov 0 u9.toInt64 else ov)) hP hD [some 0, none, none, none, none, none, none, none, none, none, none, none, none, none, none, none, none, none, none, none, none, none, some 1, some 2, some 3, some 4, some 5, some 6, some 7, some 8, some 9, some 10, some 11, some 12, some 13, some 14, some 15, some 16, some 17, some 18, none, none, none, none, none, none, none, none, none, none, none, none, none, none, none, none, none, none, some 19] [0, 22, 23, 24, 25, 26, 27, 28, 29, 30, 31, 32, 33, 34, 35, 36, 37, 38, 39, 58] rfl rfl hk1 hB rfl
  have hD : va_D (fun q : Nat => s.heap.size ≤ q) (ob_wX ax ao al am ac ++ ob_wO t ao M ++ ob_wL t al n cl rd sv pb ba bf od bg ++ ob_wM t am mn ms mf mt mp ++ ob_wC t ac cn st (if z = 0 then ob_up2 Wt x1.toNatClampNeg x2.toNatClampNeg x3 else Wt) ++ ob_wR t ar Bd Tr n cl rd sv pb wf wa ro ah ct mn ms mf mt mp cn sd V th ++ ob_wU t au (if z = 0 then vp_updL ov 0 u9.toInt64 else ov)) := ob_dXOLMCRU hD
  generalize H1 = H at hP hS ⊢
  refine lv_istore (lv' := [(5, .int (nI z)), (0, .ref b), (1, .ref ax), (2, .ref (ar 0)), (3, .ref au), (4, .int (nI (6 * k)))]) hx hb dL_law_1155 hl (by decide) rfl (fun ls hl => ?_)
  refine lv_aload_n hx hb dL_law_1157 rfl (lv_at hl 3 rfl) ?_
  refine ob_ldp hx hb hX hbl hbA hS (j := 1) ex1.symm (by omega) (by omega) (by decide) (lv_at hl 1 rfl) (lv_at hl 5 rfl) dL_law_1158 dL_law_1159 dL_law_1161 dL_law_1162 dL_law_1163 ?_
  refine ob_ldp hx hb hX hbl hbA hS (j := 2) ex2.symm (by omega) (by omega) (by decide) (lv_at hl 1 rfl) (lv_at hl 5 rfl) dL_law_1164 dL_law_1165 dL_law_1167 dL_law_1168 dL_law_1169 ?_
  refine ob_ldp hx hb hX hbl hbA hS (j := 3) ex3.symm (by omega) (by omega) (by decide) (lv_at hl 1 rfl) (lv_at hl 5 rfl) dL_law_1170 dL_law_1171 dL_law_1173 dL_law_1174 dL_law_1175 ?_
  have hFc := va_free (wc := ob_wR t ar Bd Tr n cl rd sv pb wf wa ro ah ct mn ms mf mt mp cn sd V th) hD hS hA [40, 41, 42, 43, 44, 45, 46, 47, 48, 49, 50, 51, 52, 53, 54, 55, 56, 57] rfl
  refine va_calli (va_runV (As := [.int x1, .int x2, .int x3]) (rest := []) ⟨hx, hb, hml, hown, hts⟩ (c_X5_argueReason l D t H.size ar Bd Tr n cl rd sv pb wf wa ro ah ct mn ms mf mt mp cn sd V th x1 x2 x3 hcn) (cwV 3 hts gL_law_X5_argueReason rfl rfl rfl (by decide +kernel) ⟨Nat.le_of_ble_eq_true rfl, Nat.le_of_ble_eq_true rfl⟩) (ob_pmV (ci := 5) (q0 := 0) (hP.sub [40, 41, 42, 43, 44, 45, 46, 47, 48, 49, 50, 51, 52, 53, 54, 55, 56, 57] rfl) (hD.sub [40, 41, 42, 43, 44, 45, 46, 47, 48, 49, 50, 51, 52, 53, 54, 55, 56, 57] (by decide) rfl) hk rfl rfl) rfl rfl hl.1 rfl (lv_room (Nat.le_of_ble_eq_true rfl)) dL_law_1176 ⟨show Kc + 1 + 0 ≤ 601024 by omega, show Ks + 6 + 0 ≤ 7293034 by omega⟩) hS (fun q _ h => hFc q h) hFc (fun r8 u8 t9 H1 locs ht hvm hw8 hB hz1 hk1 hS => ?_)
  rw [ht] at hB
  have hP := ob_jn (ws' := ob_wX ax ao al am ac ++ ob_wO t ao M ++ ob_wL t al n cl rd sv pb ba bf od bg ++ ob_wM t am mn ms mf mt mp ++ ob_wC t ac cn st (if z = 0 then ob_up2 Wt x1.toNatClampNeg x2.toNatClampNeg x3 else Wt) ++ ob_wR t ar Bd Tr n cl rd sv pb wf wa ro ah ct mn ms mf mt mp cn sd (if (ob_hd cn x1 && ob_hd cn x2) && (ob_wi x3 (nI 0) (nI 100) && !decide (x1 = x2)) then (if (!decide (x3 ≤ 0)) && ob_hb (ob_rr V sd x2 false 4096) x1 then V else upd V (16 * x1.toNatClampNeg + x2.toNatClampNeg) x3) else V) (nI (if (ob_hd cn x1 && ob_hd cn x2) && (ob_wi x3 (nI 0) (nI 100) && !decide (x1 = x2)) then ob_z3 ((!decide (x3 ≤ 0)) && ob_hb (ob_rr V sd x2 false 4096) x1) else ob_z2 (ob_hd cn x1 && ob_hd cn x2) (ob_wi x3 (nI 0) (nI 100) && !decide (x1 = x2)))) ++ ob_wU t au (if z = 0 then vp_updL ov 0 u9.toInt64 else ov)) hP hD [none, none, none, none, none, none, none, none, none, none, none, none, none, none, none, none, none, none, none, none, none, none, none, none, none, none, none, none, none, none, none, none, none, none, none, none, none, none, none, none, some 0, some 1, some 2, some 3, some 4, some 5, some 6, some 7, some 8, some 9, some 10, some 11, some 12, some 13, some 14, some 15, some 16, some 17, none] [40, 41, 42, 43, 44, 45, 46, 47, 48, 49, 50, 51, 52, 53, 54, 55, 56, 57] rfl rfl hk1 hB rfl
  have hD : va_D (fun q : Nat => s.heap.size ≤ q) (ob_wX ax ao al am ac ++ ob_wO t ao M ++ ob_wL t al n cl rd sv pb ba bf od bg ++ ob_wM t am mn ms mf mt mp ++ ob_wC t ac cn st (if z = 0 then ob_up2 Wt x1.toNatClampNeg x2.toNatClampNeg x3 else Wt) ++ ob_wR t ar Bd Tr n cl rd sv pb wf wa ro ah ct mn ms mf mt mp cn sd (if (ob_hd cn x1 && ob_hd cn x2) && (ob_wi x3 (nI 0) (nI 100) && !decide (x1 = x2)) then (if (!decide (x3 ≤ 0)) && ob_hb (ob_rr V sd x2 false 4096) x1 then V else upd V (16 * x1.toNatClampNeg + x2.toNatClampNeg) x3) else V) (nI (if (ob_hd cn x1 && ob_hd cn x2) && (ob_wi x3 (nI 0) (nI 100) && !decide (x1 = x2)) then ob_z3 ((!decide (x3 ≤ 0)) && ob_hb (ob_rr V sd x2 false 4096) x1) else ob_z2 (ob_hd cn x1 && ob_hd cn x2) (ob_wi x3 (nI 0) (nI 100) && !decide (x1 = x2)))) ++ ob_wU t au (if z = 0 then vp_updL ov 0 u9.toInt64 else ov)) := ob_dXOLMCRU hD
  generalize H1 = H at hP hS ⊢
  have hth : nI (if (ob_hd cn x1 && ob_hd cn x2) && (ob_wi x3 (nI 0) (nI 100) && !decide (x1 = x2)) then ob_z3 ((!decide (x3 ≤ 0)) && ob_hb (ob_rr V sd x2 false 4096) x1) else ob_z2 (ob_hd cn x1 && ob_hd cn x2) (ob_wi x3 (nI 0) (nI 100) && !decide (x1 = x2))) = nI z := congrArg nI hz.symm
  rw [hth] at hP
  have hP : va_P D vwCl (ob_wX ax ao al am ac ++ ob_wO t ao M ++ ob_wL t al n cl rd sv pb ba bf od bg ++ ob_wM t am mn ms mf mt mp ++ ob_wC t ac cn st (if z = 0 then ob_up2 Wt x1.toNatClampNeg x2.toNatClampNeg x3 else Wt) ++ ob_wR t ar Bd Tr n cl rd sv pb wf wa ro ah ct mn ms mf mt mp cn sd (if (ob_hd cn x1 && ob_hd cn x2) && (ob_wi x3 (nI 0) (nI 100) && !decide (x1 = x2)) then (if (!decide (x3 ≤ 0)) && ob_hb (ob_rr V sd x2 false 4096) x1 then V else upd V (16 * x1.toNatClampNeg + x2.toNatClampNeg) x3) else V) (nI z) ++ ob_wU t au (if z = 0 then vp_updL ov 0 u9.toInt64 else ov)) H := hP
  have e9 : z = 0 → r8 = u9 := fun h0 => hw8.trans ((hq.2.2 h0).trans (hp9 h0).symm)
  refine lv_istore (lv' := [(6, .int r8), (5, .int (nI z)), (0, .ref b), (1, .ref ax), (2, .ref (ar 0)), (3, .ref au), (4, .int (nI (6 * k)))]) hx hb dL_law_1179 hl (by decide) rfl (fun ls hl => ?_)
  refine lv_aload_n hx hb dL_law_1181 rfl (lv_at hl 4 rfl) ?_
  refine vp_callSi (va_Run.run (va_runV (As := []) (rest := []) ⟨hx, hb, hml, hown, hts⟩ (c_X5_thrown l D t ar Bd Tr n cl rd sv pb wf wa ro ah ct mn ms mf mt mp cn sd (if (ob_hd cn x1 && ob_hd cn x2) && (ob_wi x3 (nI 0) (nI 100) && !decide (x1 = x2)) then (if (!decide (x3 ≤ 0)) && ob_hb (ob_rr V sd x2 false 4096) x1 then V else upd V (16 * x1.toNatClampNeg + x2.toNatClampNeg) x3) else V) (nI z)) (cwV 0 hts gL_law_X5_thrown rfl rfl rfl (by decide +kernel) ⟨Nat.le_of_ble_eq_true rfl, Nat.le_of_ble_eq_true rfl⟩) (ob_preV (ci := 5) (q0 := 0) (hP.sub [40, 41, 42, 43, 44, 45, 46, 47, 48, 49, 50, 51, 52, 53, 54, 55, 56, 57] rfl) hk rfl rfl) rfl rfl hl.1 rfl (lv_room (Nat.le_of_ble_eq_true rfl)) dL_law_1182 ⟨show Kc + 1 + 0 + 0 ≤ 601024 by omega, show Ks + 6 + 0 + 0 ≤ 7293034 by omega⟩)) (fun r7 hr7 => ?_)
  subst hr7
  refine lv_iload hx hb dL_law_1185 (lv_at hl 1 rfl) ?_
  refine lv_icmp_eq (tgt := 1192) hx hb dL_law_1187 (by decide) (fun _ => ?_) (fun c9 => absurd rfl c9)
  refine lv_iload hx hb dL_law_1192 (lv_at hl 1 rfl) ?_
  have fin : W p l e room_1 s m #[Value.ref b] below meth c H locs (Kc + 1) (Ks + 6) Q (F0 m 1209 ls []) := by
    refine lv_goto (tgt := 1415) hx hb dL_law_1209 (by decide) ?_
    exact nx _ _ _ ⟨_, _, _, _, _, _, _, _, _, _, _, _, _, _, _, _, _, _, _, _, _, _, _, _, _, _, _, _, _, _, _, _, _, _, _, _, _, _, _, _, hP, (ob_IL_s hL), hM, hq.2.1⟩ hS (lv_sub hl [2, 3, 4, 5, 6] rfl)
  refine lv_if_ne (tgt := 1209) hx hb dL_law_1194 (by decide) (fun _ => fin) (fun c9 => ?_)
  have hz0 := ob_z0 hz3 c9
  refine lv_aload_n hx hb dL_law_1197 rfl (lv_at hl 5 rfl) ?_
  refine lv_iconst (v := nI 0) hx hb dL_law_1198 (by decide) ?_
  refine ob_lald hx hb hK hP 58 1 rfl rfl (show 0 < 1 by decide) (by decide) dL_law_1199 ?_
  rw [show (if z = 0 then vp_updL ov 0 u9.toInt64 else ov : Nat → Int64) 0 = u9.toInt64 from by rw [if_pos hz0]; exact if_pos rfl]
  refine lv_iload hx hb dL_law_1200 (lv_at hl 0 rfl) ?_
  refine lv_i2l (v := r8.toInt64) hx hb dL_law_1202 rfl ?_
  refine ob_lcmp hx hb dL_law_1203 (by rw [e9 hz0]) ?_
  exact lv_if_eq (tgt := 1209) hx hb dL_law_1204 (by decide) (fun _ => fin) (fun c8 => absurd rfl c8)

set_option maxRecDepth 100000 in
set_option maxHeartbeats 8000000 in
theorem ob_jsetStanding {p : Program} {l : Launch} {e : Env} {s : State} {m : MethodId} {below : List Frame} {meth : Method} {c : Code} {b L : Nat} {xs : Nat → Int32} {D : va_G} {t : Nat → ClassId} {sa : Nat → Nat} {ax : Nat} {ao al am ac ar : Nat → Nat} {au : Nat} {k Kc Ks : Nat} {Q : State → Prop} (C0 : ob_At p l s m c b L xs D t sa) (hD0 : va_D (fun q : Nat => s.heap.size ≤ q) (ob_wX ax ao al am ac ++ ob_wO t ao (fun _ _ => 0) ++ ob_wL t al 0 (fun _ => 0) (fun _ => 0) (fun _ => 0) (fun _ => 0) (fun _ => 0) (fun _ => 0) (fun _ => 0) (fun _ => 0) ++ ob_wM t am 0 (fun _ => 0) (fun _ => 0) (fun _ => 0) (fun _ => 0) ++ ob_wC t ac 0 0 (fun _ _ => 0) ++ ob_wR t ar (fun _ => 0) (fun _ => 0) 0 (fun _ => 0) (fun _ => 0) (fun _ => 0) (fun _ => 0) (fun _ => 0) (fun _ => 0) (fun _ => 0) (fun _ => 0) (fun _ => 0) 0 (fun _ => 0) (fun _ => 0) (fun _ => 0) (fun _ => 0) 0 (fun _ => 0) (fun _ => 0) 0 ++ ob_wU t au (fun _ => 0))) (hk6 : 6 * k + 6 ≤ L) (hKc : Kc + 1 ≤ 601024) (hKs : Ks + 6 ≤ 7293034)
    (nx : ∀ (H : Heap) (locs : List Loc) (ls : Array Slot), ob_St D t ax ao al am ac ar au (k + 1) H → va_S (fun q : Nat => s.heap.size ≤ q) s.heap H locs → lv_has ls 8 [(0, .ref b), (1, .ref ax), (2, .ref (ar 0)), (3, .ref au), (4, .int (nI (6 * k)))] → W p l e room_1 s m #[Value.ref b] below meth c H locs (Kc + 1) (Ks + 6) Q (F0 m 1415 ls []))
    {H : Heap} {locs : List Loc} {ls : Array Slot} (hI : ob_St D t ax ao al am ac ar au k H) (hS : va_S (fun q : Nat => s.heap.size ≤ q) s.heap H locs) (hl : lv_has ls 8 [(0, .ref b), (1, .ref ax), (2, .ref (ar 0)), (3, .ref au), (4, .int (nI (6 * k)))]) : W p l e room_1 s m #[Value.ref b] below meth c H locs Kc Ks Q (F0 m 1212 ls []) := by
  obtain ⟨hx, hb, hml, hown, hts, hX, hbl, hk, hE0, hN, hl9, hL3⟩ := C0
  obtain ⟨M, n, cl, rd, sv, pb, ba, bf, od, bg, mn, ms, mf, mt, mp, cn, st, Wt, Bd, Tr, rn, rcl, rrd, rsv, rpb, wf, wa, ro, ah, ct, rmn, rms, rmf, rmt, rmp, rcn, sd, V, th, ov, hP, hL, hM, hC⟩ := hI
  obtain ⟨rfl, rfl, rfl, rfl, rfl, h6, h7, h8, h9, h10, h11, h12, h13⟩ := id hL
  obtain ⟨rfl, rfl, rfl, rfl, rfl, hmn, hmm⟩ := id hM
  obtain ⟨rfl, hcn, hWV, hVz, hsd, hst⟩ := id hC
  have hkk : k ≤ 1000 := by omega
  have hbA : ¬ (fun q : Nat => s.heap.size ≤ q) b := Nat.not_le.mpr hbl
  have hA : ∀ q : Nat, s.heap.size ≤ q → (fun q : Nat => s.heap.size ≤ q) q := fun _ h => h
  have hK := hk.1
  have hE := ob_exK hE0 hS
  have hP : va_P D vwCl (ob_wX ax ao al am ac ++ ob_wO t ao M ++ ob_wL t al n cl rd sv pb ba bf od bg ++ ob_wM t am mn ms mf mt mp ++ ob_wC t ac cn st Wt ++ ob_wR t ar Bd Tr n cl rd sv pb wf wa ro ah ct mn ms mf mt mp cn sd V th ++ ob_wU t au ov) H := hP
  have hD : va_D (fun q : Nat => s.heap.size ≤ q) (ob_wX ax ao al am ac ++ ob_wO t ao M ++ ob_wL t al n cl rd sv pb ba bf od bg ++ ob_wM t am mn ms mf mt mp ++ ob_wC t ac cn st Wt ++ ob_wR t ar Bd Tr n cl rd sv pb wf wa ro ah ct mn ms mf mt mp cn sd V th ++ ob_wU t au ov) := ob_dXOLMCRU hD0
  obtain ⟨x, ex⟩ : ∃ z, z = xs (6 * k + 1) := ⟨_, rfl⟩
  obtain ⟨b2, eb2⟩ : ∃ z, z = (!decide (xs (6 * k + 2) = 0)) := ⟨_, rfl⟩
  obtain ⟨z, hz⟩ : ∃ z, z = ob_z1 (ob_hd cn x) := ⟨_, rfl⟩
  have hz3 : z ≤ 3 := (by rw [hz]; exact ob_z1_3 _)
  have hq := ob_q_setStanding (x := x) (b2 := b2) hC
  rw [← hz] at hq
  refine lv_aload_n hx hb dL_law_1212 rfl (lv_at hl 1 rfl) ?_
  refine ob_ldp hx hb hX hbl hbA hS (j := 1) ex.symm (by omega) (by omega) (by decide) (lv_at hl 0 rfl) (lv_at hl 4 rfl) dL_law_1213 dL_law_1214 dL_law_1216 dL_law_1217 dL_law_1218 ?_
  refine ob_ldb hx hb hX hbl hbA hS (j := 2) eb2.symm (by omega) (by omega) (by decide) (lv_at hl 0 rfl) (lv_at hl 4 rfl) dL_law_1219 dL_law_1220 dL_law_1222 dL_law_1223 dL_law_1224 dL_law_1225 dL_law_1228 dL_law_1229 dL_law_1232 ?_
  refine lv_aload_n hx hb dL_law_1233 rfl (lv_at hl 3 rfl) ?_
  have hFc := va_free (wc := ob_wX ax ao al am ac ++ ob_wC t ac cn st Wt ++ ob_wU t au ov) hD hS hA [0, 22, 23, 24, 25, 26, 27, 28, 29, 30, 31, 32, 33, 34, 35, 36, 37, 38, 39, 58] rfl
  refine va_calli (ob_runN (vx_runSX (As := [.ref ax, .int x, .int (ob_bi b2), .ref au]) (rest := []) ⟨hx, hb, hml, hown, hts⟩ (c_L_setStanding l hl9 sa D t H.size ax ao al am ac cn st Wt x b2 au ov z hcn (hz.symm)) (vx_cwSW 4 hts gL_law_L_setStanding rfl rfl rfl (by decide +kernel) ⟨Nat.le_of_ble_eq_true rfl, Nat.le_of_ble_eq_true rfl⟩) (ob_pyS (hP.sub [0, 22, 23, 24, 25, 26, 27, 28, 29, 30, 31, 32, 33, 34, 35, 36, 37, 38, 39, 58] rfl) (hD.sub [0, 22, 23, 24, 25, 26, 27, 28, 29, 30, 31, 32, 33, 34, 35, 36, 37, 38, 39, 58] (by decide) rfl) hk hE hN) rfl rfl hl.1 rfl (lv_room (Nat.le_of_ble_eq_true rfl)) dL_law_1234 ⟨show Kc + 1 ≤ 601024 from hKc, show Ks + 6 ≤ 7293034 from hKs⟩)) hS (fun q _ h => hFc q h) hFc (fun r9 u9 t9 H1 locs ht hvm hw9 hB hz1 hk1 hS => ?_)
  obtain ⟨rfl, hp9⟩ := hw9
  rw [ht] at hB
  have hP := ob_jn (ws' := ob_wX ax ao al am ac ++ ob_wO t ao M ++ ob_wL t al n cl rd sv pb ba bf od bg ++ ob_wM t am mn ms mf mt mp ++ ob_wC t ac cn (if z = 0 then if b2 then st ||| ob_bit x else st &&& (ob_bit x ^^^ (-1)) else st) Wt ++ ob_wR t ar Bd Tr n cl rd sv pb wf wa ro ah ct mn ms mf mt mp cn sd V th ++ ob_wU t au (if z = 0 then vp_updL ov 0 (if u9 then lN 1 else lN 0) else ov)) hP hD [some 0, none, none, none, none, none, none, none, none, none, none, none, none, none, none, none, none, none, none, none, none, none, some 1, some 2, some 3, some 4, some 5, some 6, some 7, some 8, some 9, some 10, some 11, some 12, some 13, some 14, some 15, some 16, some 17, some 18, none, none, none, none, none, none, none, none, none, none, none, none, none, none, none, none, none, none, some 19] [0, 22, 23, 24, 25, 26, 27, 28, 29, 30, 31, 32, 33, 34, 35, 36, 37, 38, 39, 58] rfl rfl hk1 hB rfl
  have hD : va_D (fun q : Nat => s.heap.size ≤ q) (ob_wX ax ao al am ac ++ ob_wO t ao M ++ ob_wL t al n cl rd sv pb ba bf od bg ++ ob_wM t am mn ms mf mt mp ++ ob_wC t ac cn (if z = 0 then if b2 then st ||| ob_bit x else st &&& (ob_bit x ^^^ (-1)) else st) Wt ++ ob_wR t ar Bd Tr n cl rd sv pb wf wa ro ah ct mn ms mf mt mp cn sd V th ++ ob_wU t au (if z = 0 then vp_updL ov 0 (if u9 then lN 1 else lN 0) else ov)) := ob_dXOLMCRU hD
  generalize H1 = H at hP hS ⊢
  refine lv_istore (lv' := [(5, .int (nI z)), (0, .ref b), (1, .ref ax), (2, .ref (ar 0)), (3, .ref au), (4, .int (nI (6 * k)))]) hx hb dL_law_1237 hl (by decide) rfl (fun ls hl => ?_)
  refine lv_aload_n hx hb dL_law_1239 rfl (lv_at hl 3 rfl) ?_
  refine ob_ldp hx hb hX hbl hbA hS (j := 1) ex.symm (by omega) (by omega) (by decide) (lv_at hl 1 rfl) (lv_at hl 5 rfl) dL_law_1240 dL_law_1241 dL_law_1243 dL_law_1244 dL_law_1245 ?_
  refine ob_ldb hx hb hX hbl hbA hS (j := 2) eb2.symm (by omega) (by omega) (by decide) (lv_at hl 1 rfl) (lv_at hl 5 rfl) dL_law_1246 dL_law_1247 dL_law_1249 dL_law_1250 dL_law_1251 dL_law_1252 dL_law_1255 dL_law_1256 dL_law_1259 ?_
  have hFc := va_free (wc := ob_wR t ar Bd Tr n cl rd sv pb wf wa ro ah ct mn ms mf mt mp cn sd V th) hD hS hA [40, 41, 42, 43, 44, 45, 46, 47, 48, 49, 50, 51, 52, 53, 54, 55, 56, 57] rfl
  refine va_calli (va_runV (As := [.int x, .int (ob_bi b2)]) (rest := []) ⟨hx, hb, hml, hown, hts⟩ (c_X5_setStanding l D t H.size ar Bd Tr n cl rd sv pb wf wa ro ah ct mn ms mf mt mp cn sd V th (fun j => !decide (sd j = 0)) x b2 hcn hsd) (cwV 2 hts gL_law_X5_setStanding rfl rfl rfl (by decide +kernel) ⟨Nat.le_of_ble_eq_true rfl, Nat.le_of_ble_eq_true rfl⟩) (ob_pmV (ci := 5) (q0 := 0) (hP.sub [40, 41, 42, 43, 44, 45, 46, 47, 48, 49, 50, 51, 52, 53, 54, 55, 56, 57] rfl) (hD.sub [40, 41, 42, 43, 44, 45, 46, 47, 48, 49, 50, 51, 52, 53, 54, 55, 56, 57] (by decide) rfl) hk rfl rfl) rfl rfl hl.1 rfl (lv_room (Nat.le_of_ble_eq_true rfl)) dL_law_1260 ⟨show Kc + 1 + 0 ≤ 601024 by omega, show Ks + 6 + 0 ≤ 7293034 by omega⟩) hS (fun q _ h => hFc q h) hFc (fun r8 u8 t9 H1 locs ht hvm hw8 hB hz1 hk1 hS => ?_)
  rw [ht] at hB
  have hP := ob_jn (ws' := ob_wX ax ao al am ac ++ ob_wO t ao M ++ ob_wL t al n cl rd sv pb ba bf od bg ++ ob_wM t am mn ms mf mt mp ++ ob_wC t ac cn (if z = 0 then if b2 then st ||| ob_bit x else st &&& (ob_bit x ^^^ (-1)) else st) Wt ++ ob_wR t ar Bd Tr n cl rd sv pb wf wa ro ah ct mn ms mf mt mp cn (if ob_hd cn x then upd sd x.toNatClampNeg (ob_bi b2) else sd) V (nI (ob_z1 (ob_hd cn x))) ++ ob_wU t au (if z = 0 then vp_updL ov 0 (if u9 then lN 1 else lN 0) else ov)) hP hD [none, none, none, none, none, none, none, none, none, none, none, none, none, none, none, none, none, none, none, none, none, none, none, none, none, none, none, none, none, none, none, none, none, none, none, none, none, none, none, none, some 0, some 1, some 2, some 3, some 4, some 5, some 6, some 7, some 8, some 9, some 10, some 11, some 12, some 13, some 14, some 15, some 16, some 17, none] [40, 41, 42, 43, 44, 45, 46, 47, 48, 49, 50, 51, 52, 53, 54, 55, 56, 57] rfl rfl hk1 hB rfl
  have hD : va_D (fun q : Nat => s.heap.size ≤ q) (ob_wX ax ao al am ac ++ ob_wO t ao M ++ ob_wL t al n cl rd sv pb ba bf od bg ++ ob_wM t am mn ms mf mt mp ++ ob_wC t ac cn (if z = 0 then if b2 then st ||| ob_bit x else st &&& (ob_bit x ^^^ (-1)) else st) Wt ++ ob_wR t ar Bd Tr n cl rd sv pb wf wa ro ah ct mn ms mf mt mp cn (if ob_hd cn x then upd sd x.toNatClampNeg (ob_bi b2) else sd) V (nI (ob_z1 (ob_hd cn x))) ++ ob_wU t au (if z = 0 then vp_updL ov 0 (if u9 then lN 1 else lN 0) else ov)) := ob_dXOLMCRU hD
  generalize H1 = H at hP hS ⊢
  have hth : nI (ob_z1 (ob_hd cn x)) = nI z := congrArg nI hz.symm
  rw [hth] at hP
  have hP : va_P D vwCl (ob_wX ax ao al am ac ++ ob_wO t ao M ++ ob_wL t al n cl rd sv pb ba bf od bg ++ ob_wM t am mn ms mf mt mp ++ ob_wC t ac cn (if z = 0 then if b2 then st ||| ob_bit x else st &&& (ob_bit x ^^^ (-1)) else st) Wt ++ ob_wR t ar Bd Tr n cl rd sv pb wf wa ro ah ct mn ms mf mt mp cn (if ob_hd cn x then upd sd x.toNatClampNeg (ob_bi b2) else sd) V (nI z) ++ ob_wU t au (if z = 0 then vp_updL ov 0 (if u9 then lN 1 else lN 0) else ov)) H := hP
  subst hw8
  refine lv_istore (lv' := [(6, .int (ob_bi (ob_hd cn x && (fun j => !decide (sd j = 0)) x.toNatClampNeg))), (5, .int (nI z)), (0, .ref b), (1, .ref ax), (2, .ref (ar 0)), (3, .ref au), (4, .int (nI (6 * k)))]) hx hb dL_law_1263 hl (by decide) rfl (fun ls hl => ?_)
  have e9 : z = 0 → (ob_hd cn x && (fun j => !decide (sd j = 0)) x.toNatClampNeg) = u9 := fun h0 => (hq.2 h0).trans (hp9 h0).symm
  refine lv_aload_n hx hb dL_law_1265 rfl (lv_at hl 4 rfl) ?_
  refine vp_callSi (va_Run.run (va_runV (As := []) (rest := []) ⟨hx, hb, hml, hown, hts⟩ (c_X5_thrown l D t ar Bd Tr n cl rd sv pb wf wa ro ah ct mn ms mf mt mp cn (if ob_hd cn x then upd sd x.toNatClampNeg (ob_bi b2) else sd) V (nI z)) (cwV 0 hts gL_law_X5_thrown rfl rfl rfl (by decide +kernel) ⟨Nat.le_of_ble_eq_true rfl, Nat.le_of_ble_eq_true rfl⟩) (ob_preV (ci := 5) (q0 := 0) (hP.sub [40, 41, 42, 43, 44, 45, 46, 47, 48, 49, 50, 51, 52, 53, 54, 55, 56, 57] rfl) hk rfl rfl) rfl rfl hl.1 rfl (lv_room (Nat.le_of_ble_eq_true rfl)) dL_law_1266 ⟨show Kc + 1 + 0 + 0 ≤ 601024 by omega, show Ks + 6 + 0 + 0 ≤ 7293034 by omega⟩)) (fun r7 hr7 => ?_)
  subst hr7
  refine lv_iload hx hb dL_law_1269 (lv_at hl 1 rfl) ?_
  refine lv_icmp_eq (tgt := 1276) hx hb dL_law_1271 (by decide) (fun _ => ?_) (fun c9 => absurd rfl c9)
  refine lv_iload hx hb dL_law_1276 (lv_at hl 1 rfl) ?_
  have fin : W p l e room_1 s m #[Value.ref b] below meth c H locs (Kc + 1) (Ks + 6) Q (F0 m 1300 ls []) := by
    refine lv_goto (tgt := 1415) hx hb dL_law_1300 (by decide) ?_
    exact nx _ _ _ ⟨_, _, _, _, _, _, _, _, _, _, _, _, _, _, _, _, _, _, _, _, _, _, _, _, _, _, _, _, _, _, _, _, _, _, _, _, _, _, _, _, hP, (ob_IL_s hL), hM, hq.1⟩ hS (lv_sub hl [2, 3, 4, 5, 6] rfl)
  refine lv_if_ne (tgt := 1300) hx hb dL_law_1278 (by decide) (fun _ => fin) (fun c9 => ?_)
  have hz0 := ob_z0 hz3 c9
  refine lv_aload_n hx hb dL_law_1281 rfl (lv_at hl 5 rfl) ?_
  refine lv_iconst (v := nI 0) hx hb dL_law_1282 (by decide) ?_
  refine ob_lald hx hb hK hP 58 1 rfl rfl (show 0 < 1 by decide) (by decide) dL_law_1283 ?_
  rw [show (if z = 0 then vp_updL ov 0 (if u9 then lN 1 else lN 0) else ov : Nat → Int64) 0 = (if u9 then lN 1 else lN 0) from by rw [if_pos hz0]; exact if_pos rfl]
  refine lv_iload hx hb dL_law_1284 (lv_at hl 0 rfl) ?_
  refine ob_if_eq (tgt := 1293) hx hb dL_law_1286 (by decide) (fun c7 => ?_) (fun c7 => ?_)
  · refine lv_lconst (v := lN 0) hx hb dL_law_1293 rfl ?_
    refine ob_lcmp hx hb dL_law_1294 (by rw [← e9 hz0, c7]; rfl) ?_
    exact lv_if_eq (tgt := 1300) hx hb dL_law_1295 (by decide) (fun _ => fin) (fun c8 => absurd rfl c8)
  · refine lv_lconst (v := lN 1) hx hb dL_law_1289 rfl ?_
    refine lv_goto (tgt := 1294) hx hb dL_law_1290 (by decide) ?_
    refine ob_lcmp hx hb dL_law_1294 (by rw [← e9 hz0, c7]; rfl) ?_
    exact lv_if_eq (tgt := 1300) hx hb dL_law_1295 (by decide) (fun _ => fin) (fun c8 => absurd rfl c8)

set_option maxRecDepth 100000 in
set_option maxHeartbeats 8000000 in
theorem ob_jroots {p : Program} {l : Launch} {e : Env} {s : State} {m : MethodId} {below : List Frame} {meth : Method} {c : Code} {b L : Nat} {xs : Nat → Int32} {D : va_G} {t : Nat → ClassId} {sa : Nat → Nat} {ax : Nat} {ao al am ac ar : Nat → Nat} {au : Nat} {k Kc Ks : Nat} {Q : State → Prop} (C0 : ob_At p l s m c b L xs D t sa) (hD0 : va_D (fun q : Nat => s.heap.size ≤ q) (ob_wX ax ao al am ac ++ ob_wO t ao (fun _ _ => 0) ++ ob_wL t al 0 (fun _ => 0) (fun _ => 0) (fun _ => 0) (fun _ => 0) (fun _ => 0) (fun _ => 0) (fun _ => 0) (fun _ => 0) ++ ob_wM t am 0 (fun _ => 0) (fun _ => 0) (fun _ => 0) (fun _ => 0) ++ ob_wC t ac 0 0 (fun _ _ => 0) ++ ob_wR t ar (fun _ => 0) (fun _ => 0) 0 (fun _ => 0) (fun _ => 0) (fun _ => 0) (fun _ => 0) (fun _ => 0) (fun _ => 0) (fun _ => 0) (fun _ => 0) (fun _ => 0) 0 (fun _ => 0) (fun _ => 0) (fun _ => 0) (fun _ => 0) 0 (fun _ => 0) (fun _ => 0) 0 ++ ob_wU t au (fun _ => 0))) (hk6 : 6 * k + 6 ≤ L) (hKc : Kc + 1 ≤ 601024) (hKs : Ks + 6 ≤ 7293034)
    (nx : ∀ (H : Heap) (locs : List Loc) (ls : Array Slot), ob_St D t ax ao al am ac ar au (k + 1) H → va_S (fun q : Nat => s.heap.size ≤ q) s.heap H locs → lv_has ls 8 [(0, .ref b), (1, .ref ax), (2, .ref (ar 0)), (3, .ref au), (4, .int (nI (6 * k)))] → W p l e room_1 s m #[Value.ref b] below meth c H locs (Kc + 1) (Ks + 6) Q (F0 m 1415 ls []))
    {H : Heap} {locs : List Loc} {ls : Array Slot} (hI : ob_St D t ax ao al am ac ar au k H) (hS : va_S (fun q : Nat => s.heap.size ≤ q) s.heap H locs) (hl : lv_has ls 8 [(0, .ref b), (1, .ref ax), (2, .ref (ar 0)), (3, .ref au), (4, .int (nI (6 * k)))]) : W p l e room_1 s m #[Value.ref b] below meth c H locs Kc Ks Q (F0 m 1303 ls []) := by
  obtain ⟨hx, hb, hml, hown, hts, hX, hbl, hk, hE0, hN, hl9, hL3⟩ := C0
  obtain ⟨M, n, cl, rd, sv, pb, ba, bf, od, bg, mn, ms, mf, mt, mp, cn, st, Wt, Bd, Tr, rn, rcl, rrd, rsv, rpb, wf, wa, ro, ah, ct, rmn, rms, rmf, rmt, rmp, rcn, sd, V, th, ov, hP, hL, hM, hC⟩ := hI
  obtain ⟨rfl, rfl, rfl, rfl, rfl, h6, h7, h8, h9, h10, h11, h12, h13⟩ := id hL
  obtain ⟨rfl, rfl, rfl, rfl, rfl, hmn, hmm⟩ := id hM
  obtain ⟨rfl, hcn, hWV, hVz, hsd, hst⟩ := id hC
  have hkk : k ≤ 1000 := by omega
  have hbA : ¬ (fun q : Nat => s.heap.size ≤ q) b := Nat.not_le.mpr hbl
  have hA : ∀ q : Nat, s.heap.size ≤ q → (fun q : Nat => s.heap.size ≤ q) q := fun _ h => h
  have hK := hk.1
  have hE := ob_exK hE0 hS
  have hP : va_P D vwCl (ob_wX ax ao al am ac ++ ob_wO t ao M ++ ob_wL t al n cl rd sv pb ba bf od bg ++ ob_wM t am mn ms mf mt mp ++ ob_wC t ac cn st Wt ++ ob_wR t ar Bd Tr n cl rd sv pb wf wa ro ah ct mn ms mf mt mp cn sd V th ++ ob_wU t au ov) H := hP
  have hD : va_D (fun q : Nat => s.heap.size ≤ q) (ob_wX ax ao al am ac ++ ob_wO t ao M ++ ob_wL t al n cl rd sv pb ba bf od bg ++ ob_wM t am mn ms mf mt mp ++ ob_wC t ac cn st Wt ++ ob_wR t ar Bd Tr n cl rd sv pb wf wa ro ah ct mn ms mf mt mp cn sd V th ++ ob_wU t au ov) := ob_dXOLMCRU hD0
  obtain ⟨x, ex⟩ : ∃ z, z = xs (6 * k + 1) := ⟨_, rfl⟩
  obtain ⟨z, hz⟩ : ∃ z, z = ob_z1 (ob_hd cn x) := ⟨_, rfl⟩
  have hz3 : z ≤ 3 := (by rw [hz]; exact ob_z1_3 _)
  refine lv_aload_n hx hb dL_law_1303 rfl (lv_at hl 1 rfl) ?_
  refine ob_ldp hx hb hX hbl hbA hS (j := 1) ex.symm (by omega) (by omega) (by decide) (lv_at hl 0 rfl) (lv_at hl 4 rfl) dL_law_1304 dL_law_1305 dL_law_1307 dL_law_1308 dL_law_1309 ?_
  refine lv_aload_n hx hb dL_law_1310 rfl (lv_at hl 3 rfl) ?_
  have hFc := va_free (wc := ob_wX ax ao al am ac ++ ob_wC t ac cn st Wt ++ ob_wU t au ov) hD hS hA [0, 22, 23, 24, 25, 26, 27, 28, 29, 30, 31, 32, 33, 34, 35, 36, 37, 38, 39, 58] rfl
  refine va_calli (ob_runN (vx_runSX (As := [.ref ax, .int x, .ref au]) (rest := []) ⟨hx, hb, hml, hown, hts⟩ (c_L_roots l hl9 sa D t H.size ax ao al am ac cn st Wt x au ov z hcn (hz.symm)) (vx_cwSW 3 hts gL_law_L_roots rfl rfl rfl (by decide +kernel) ⟨Nat.le_of_ble_eq_true rfl, Nat.le_of_ble_eq_true rfl⟩) (ob_pyS (hP.sub [0, 22, 23, 24, 25, 26, 27, 28, 29, 30, 31, 32, 33, 34, 35, 36, 37, 38, 39, 58] rfl) (hD.sub [0, 22, 23, 24, 25, 26, 27, 28, 29, 30, 31, 32, 33, 34, 35, 36, 37, 38, 39, 58] (by decide) rfl) hk hE hN) rfl rfl hl.1 rfl (lv_room (Nat.le_of_ble_eq_true rfl)) dL_law_1311 ⟨show Kc + 1 ≤ 601024 from hKc, show Ks + 6 ≤ 7293034 from hKs⟩)) hS (fun q _ h => hFc q h) hFc (fun r9 u9 t9 H1 locs ht hvm hw9 hB hz1 hk1 hS => ?_)
  obtain ⟨rfl, hp9⟩ := hw9
  rw [ht] at hB
  have hP := ob_jn (ws' := ob_wX ax ao al am ac ++ ob_wO t ao M ++ ob_wL t al n cl rd sv pb ba bf od bg ++ ob_wM t am mn ms mf mt mp ++ ob_wC t ac cn st Wt ++ ob_wR t ar Bd Tr n cl rd sv pb wf wa ro ah ct mn ms mf mt mp cn sd V th ++ ob_wU t au (if z = 0 then vp_updL ov 0 u9.toInt64 else ov)) hP hD [some 0, none, none, none, none, none, none, none, none, none, none, none, none, none, none, none, none, none, none, none, none, none, some 1, some 2, some 3, some 4, some 5, some 6, some 7, some 8, some 9, some 10, some 11, some 12, some 13, some 14, some 15, some 16, some 17, some 18, none, none, none, none, none, none, none, none, none, none, none, none, none, none, none, none, none, none, some 19] [0, 22, 23, 24, 25, 26, 27, 28, 29, 30, 31, 32, 33, 34, 35, 36, 37, 38, 39, 58] rfl rfl hk1 hB rfl
  have hD : va_D (fun q : Nat => s.heap.size ≤ q) (ob_wX ax ao al am ac ++ ob_wO t ao M ++ ob_wL t al n cl rd sv pb ba bf od bg ++ ob_wM t am mn ms mf mt mp ++ ob_wC t ac cn st Wt ++ ob_wR t ar Bd Tr n cl rd sv pb wf wa ro ah ct mn ms mf mt mp cn sd V th ++ ob_wU t au (if z = 0 then vp_updL ov 0 u9.toInt64 else ov)) := ob_dXOLMCRU hD
  generalize H1 = H at hP hS ⊢
  refine lv_istore (lv' := [(5, .int (nI z)), (0, .ref b), (1, .ref ax), (2, .ref (ar 0)), (3, .ref au), (4, .int (nI (6 * k)))]) hx hb dL_law_1314 hl (by decide) rfl (fun ls hl => ?_)
  refine lv_aload_n hx hb dL_law_1316 rfl (lv_at hl 3 rfl) ?_
  refine ob_ldp hx hb hX hbl hbA hS (j := 1) ex.symm (by omega) (by omega) (by decide) (lv_at hl 1 rfl) (lv_at hl 5 rfl) dL_law_1317 dL_law_1318 dL_law_1320 dL_law_1321 dL_law_1322 ?_
  have hFc := va_free (wc := ob_wR t ar Bd Tr n cl rd sv pb wf wa ro ah ct mn ms mf mt mp cn sd V th) hD hS hA [40, 41, 42, 43, 44, 45, 46, 47, 48, 49, 50, 51, 52, 53, 54, 55, 56, 57] rfl
  refine va_calli (va_runV (As := [.int x]) (rest := []) ⟨hx, hb, hml, hown, hts⟩ (c_X5_roots l D t H.size ar Bd Tr n cl rd sv pb wf wa ro ah ct mn ms mf mt mp cn sd V th x hcn) (cwV 1 hts gL_law_X5_roots rfl rfl rfl (by decide +kernel) ⟨Nat.le_of_ble_eq_true rfl, Nat.le_of_ble_eq_true rfl⟩) (ob_pmV (ci := 5) (q0 := 0) (hP.sub [40, 41, 42, 43, 44, 45, 46, 47, 48, 49, 50, 51, 52, 53, 54, 55, 56, 57] rfl) (hD.sub [40, 41, 42, 43, 44, 45, 46, 47, 48, 49, 50, 51, 52, 53, 54, 55, 56, 57] (by decide) rfl) hk rfl rfl) rfl rfl hl.1 rfl (lv_room (Nat.le_of_ble_eq_true rfl)) dL_law_1323 ⟨show Kc + 1 + 0 ≤ 601024 by omega, show Ks + 6 + 0 ≤ 7293034 by omega⟩) hS (fun q _ h => hFc q h) hFc (fun r8 u8 t9 H1 locs ht hvm hw8 hB hz1 hk1 hS => ?_)
  rw [ht] at hB
  have hP := ob_jn (ws' := ob_wX ax ao al am ac ++ ob_wO t ao M ++ ob_wL t al n cl rd sv pb ba bf od bg ++ ob_wM t am mn ms mf mt mp ++ ob_wC t ac cn st Wt ++ ob_wR t ar Bd Tr n cl rd sv pb wf wa ro ah ct mn ms mf mt mp cn sd V (nI (ob_z1 (ob_hd cn x))) ++ ob_wU t au (if z = 0 then vp_updL ov 0 u9.toInt64 else ov)) hP hD [none, none, none, none, none, none, none, none, none, none, none, none, none, none, none, none, none, none, none, none, none, none, none, none, none, none, none, none, none, none, none, none, none, none, none, none, none, none, none, none, some 0, some 1, some 2, some 3, some 4, some 5, some 6, some 7, some 8, some 9, some 10, some 11, some 12, some 13, some 14, some 15, some 16, some 17, none] [40, 41, 42, 43, 44, 45, 46, 47, 48, 49, 50, 51, 52, 53, 54, 55, 56, 57] rfl rfl hk1 hB rfl
  have hD : va_D (fun q : Nat => s.heap.size ≤ q) (ob_wX ax ao al am ac ++ ob_wO t ao M ++ ob_wL t al n cl rd sv pb ba bf od bg ++ ob_wM t am mn ms mf mt mp ++ ob_wC t ac cn st Wt ++ ob_wR t ar Bd Tr n cl rd sv pb wf wa ro ah ct mn ms mf mt mp cn sd V (nI (ob_z1 (ob_hd cn x))) ++ ob_wU t au (if z = 0 then vp_updL ov 0 u9.toInt64 else ov)) := ob_dXOLMCRU hD
  generalize H1 = H at hP hS ⊢
  have hth : nI (ob_z1 (ob_hd cn x)) = nI z := congrArg nI hz.symm
  rw [hth] at hP
  have hP : va_P D vwCl (ob_wX ax ao al am ac ++ ob_wO t ao M ++ ob_wL t al n cl rd sv pb ba bf od bg ++ ob_wM t am mn ms mf mt mp ++ ob_wC t ac cn st Wt ++ ob_wR t ar Bd Tr n cl rd sv pb wf wa ro ah ct mn ms mf mt mp cn sd V (nI z) ++ ob_wU t au (if z = 0 then vp_updL ov 0 u9.toInt64 else ov)) H := hP
  have e9 : z = 0 → r8 = u9 := fun h0 => hw8.trans ((ob_q_roots hC (hz.symm.trans h0)).trans (hp9 h0).symm)
  refine lv_istore (lv' := [(6, .int r8), (5, .int (nI z)), (0, .ref b), (1, .ref ax), (2, .ref (ar 0)), (3, .ref au), (4, .int (nI (6 * k)))]) hx hb dL_law_1326 hl (by decide) rfl (fun ls hl => ?_)
  refine lv_aload_n hx hb dL_law_1328 rfl (lv_at hl 4 rfl) ?_
  refine vp_callSi (va_Run.run (va_runV (As := []) (rest := []) ⟨hx, hb, hml, hown, hts⟩ (c_X5_thrown l D t ar Bd Tr n cl rd sv pb wf wa ro ah ct mn ms mf mt mp cn sd V (nI z)) (cwV 0 hts gL_law_X5_thrown rfl rfl rfl (by decide +kernel) ⟨Nat.le_of_ble_eq_true rfl, Nat.le_of_ble_eq_true rfl⟩) (ob_preV (ci := 5) (q0 := 0) (hP.sub [40, 41, 42, 43, 44, 45, 46, 47, 48, 49, 50, 51, 52, 53, 54, 55, 56, 57] rfl) hk rfl rfl) rfl rfl hl.1 rfl (lv_room (Nat.le_of_ble_eq_true rfl)) dL_law_1329 ⟨show Kc + 1 + 0 + 0 ≤ 601024 by omega, show Ks + 6 + 0 + 0 ≤ 7293034 by omega⟩)) (fun r7 hr7 => ?_)
  subst hr7
  refine lv_iload hx hb dL_law_1332 (lv_at hl 1 rfl) ?_
  refine lv_icmp_eq (tgt := 1339) hx hb dL_law_1334 (by decide) (fun _ => ?_) (fun c9 => absurd rfl c9)
  refine lv_iload hx hb dL_law_1339 (lv_at hl 1 rfl) ?_
  have fin : W p l e room_1 s m #[Value.ref b] below meth c H locs (Kc + 1) (Ks + 6) Q (F0 m 1356 ls []) := by
    refine lv_goto (tgt := 1415) hx hb dL_law_1356 (by decide) ?_
    exact nx _ _ _ ⟨_, _, _, _, _, _, _, _, _, _, _, _, _, _, _, _, _, _, _, _, _, _, _, _, _, _, _, _, _, _, _, _, _, _, _, _, _, _, _, _, hP, (ob_IL_s hL), hM, hC⟩ hS (lv_sub hl [2, 3, 4, 5, 6] rfl)
  refine lv_if_ne (tgt := 1356) hx hb dL_law_1341 (by decide) (fun _ => fin) (fun c9 => ?_)
  have hz0 := ob_z0 hz3 c9
  refine lv_aload_n hx hb dL_law_1344 rfl (lv_at hl 5 rfl) ?_
  refine lv_iconst (v := nI 0) hx hb dL_law_1345 (by decide) ?_
  refine ob_lald hx hb hK hP 58 1 rfl rfl (show 0 < 1 by decide) (by decide) dL_law_1346 ?_
  rw [show (if z = 0 then vp_updL ov 0 u9.toInt64 else ov : Nat → Int64) 0 = u9.toInt64 from by rw [if_pos hz0]; exact if_pos rfl]
  refine lv_iload hx hb dL_law_1347 (lv_at hl 0 rfl) ?_
  refine lv_i2l (v := r8.toInt64) hx hb dL_law_1349 rfl ?_
  refine ob_lcmp hx hb dL_law_1350 (by rw [e9 hz0]) ?_
  exact lv_if_eq (tgt := 1356) hx hb dL_law_1351 (by decide) (fun _ => fin) (fun c8 => absurd rfl c8)

set_option maxRecDepth 100000 in
set_option maxHeartbeats 8000000 in
theorem ob_jmainReason {p : Program} {l : Launch} {e : Env} {s : State} {m : MethodId} {below : List Frame} {meth : Method} {c : Code} {b L : Nat} {xs : Nat → Int32} {D : va_G} {t : Nat → ClassId} {sa : Nat → Nat} {ax : Nat} {ao al am ac ar : Nat → Nat} {au : Nat} {k Kc Ks : Nat} {Q : State → Prop} (C0 : ob_At p l s m c b L xs D t sa) (hD0 : va_D (fun q : Nat => s.heap.size ≤ q) (ob_wX ax ao al am ac ++ ob_wO t ao (fun _ _ => 0) ++ ob_wL t al 0 (fun _ => 0) (fun _ => 0) (fun _ => 0) (fun _ => 0) (fun _ => 0) (fun _ => 0) (fun _ => 0) (fun _ => 0) ++ ob_wM t am 0 (fun _ => 0) (fun _ => 0) (fun _ => 0) (fun _ => 0) ++ ob_wC t ac 0 0 (fun _ _ => 0) ++ ob_wR t ar (fun _ => 0) (fun _ => 0) 0 (fun _ => 0) (fun _ => 0) (fun _ => 0) (fun _ => 0) (fun _ => 0) (fun _ => 0) (fun _ => 0) (fun _ => 0) (fun _ => 0) 0 (fun _ => 0) (fun _ => 0) (fun _ => 0) (fun _ => 0) 0 (fun _ => 0) (fun _ => 0) 0 ++ ob_wU t au (fun _ => 0))) (hk6 : 6 * k + 6 ≤ L) (hKc : Kc + 1 ≤ 601024) (hKs : Ks + 6 ≤ 7293034)
    (nx : ∀ (H : Heap) (locs : List Loc) (ls : Array Slot), ob_St D t ax ao al am ac ar au (k + 1) H → va_S (fun q : Nat => s.heap.size ≤ q) s.heap H locs → lv_has ls 8 [(0, .ref b), (1, .ref ax), (2, .ref (ar 0)), (3, .ref au), (4, .int (nI (6 * k)))] → W p l e room_1 s m #[Value.ref b] below meth c H locs (Kc + 1) (Ks + 6) Q (F0 m 1415 ls []))
    {H : Heap} {locs : List Loc} {ls : Array Slot} (hI : ob_St D t ax ao al am ac ar au k H) (hS : va_S (fun q : Nat => s.heap.size ≤ q) s.heap H locs) (hl : lv_has ls 8 [(0, .ref b), (1, .ref ax), (2, .ref (ar 0)), (3, .ref au), (4, .int (nI (6 * k)))]) : W p l e room_1 s m #[Value.ref b] below meth c H locs Kc Ks Q (F0 m 1359 ls []) := by
  obtain ⟨hx, hb, hml, hown, hts, hX, hbl, hk, hE0, hN, hl9, hL3⟩ := C0
  obtain ⟨M, n, cl, rd, sv, pb, ba, bf, od, bg, mn, ms, mf, mt, mp, cn, st, Wt, Bd, Tr, rn, rcl, rrd, rsv, rpb, wf, wa, ro, ah, ct, rmn, rms, rmf, rmt, rmp, rcn, sd, V, th, ov, hP, hL, hM, hC⟩ := hI
  obtain ⟨rfl, rfl, rfl, rfl, rfl, h6, h7, h8, h9, h10, h11, h12, h13⟩ := id hL
  obtain ⟨rfl, rfl, rfl, rfl, rfl, hmn, hmm⟩ := id hM
  obtain ⟨rfl, hcn, hWV, hVz, hsd, hst⟩ := id hC
  have hkk : k ≤ 1000 := by omega
  have hbA : ¬ (fun q : Nat => s.heap.size ≤ q) b := Nat.not_le.mpr hbl
  have hA : ∀ q : Nat, s.heap.size ≤ q → (fun q : Nat => s.heap.size ≤ q) q := fun _ h => h
  have hK := hk.1
  have hE := ob_exK hE0 hS
  have hP : va_P D vwCl (ob_wX ax ao al am ac ++ ob_wO t ao M ++ ob_wL t al n cl rd sv pb ba bf od bg ++ ob_wM t am mn ms mf mt mp ++ ob_wC t ac cn st Wt ++ ob_wR t ar Bd Tr n cl rd sv pb wf wa ro ah ct mn ms mf mt mp cn sd V th ++ ob_wU t au ov) H := hP
  have hD : va_D (fun q : Nat => s.heap.size ≤ q) (ob_wX ax ao al am ac ++ ob_wO t ao M ++ ob_wL t al n cl rd sv pb ba bf od bg ++ ob_wM t am mn ms mf mt mp ++ ob_wC t ac cn st Wt ++ ob_wR t ar Bd Tr n cl rd sv pb wf wa ro ah ct mn ms mf mt mp cn sd V th ++ ob_wU t au ov) := ob_dXOLMCRU hD0
  obtain ⟨x, ex⟩ : ∃ z, z = xs (6 * k + 1) := ⟨_, rfl⟩
  obtain ⟨z, hz⟩ : ∃ z, z = ob_z1 (ob_hd cn x) := ⟨_, rfl⟩
  have hz3 : z ≤ 3 := (by rw [hz]; exact ob_z1_3 _)
  refine lv_aload_n hx hb dL_law_1359 rfl (lv_at hl 1 rfl) ?_
  refine ob_ldp hx hb hX hbl hbA hS (j := 1) ex.symm (by omega) (by omega) (by decide) (lv_at hl 0 rfl) (lv_at hl 4 rfl) dL_law_1360 dL_law_1361 dL_law_1363 dL_law_1364 dL_law_1365 ?_
  refine lv_aload_n hx hb dL_law_1366 rfl (lv_at hl 3 rfl) ?_
  have hFc := va_free (wc := ob_wX ax ao al am ac ++ ob_wC t ac cn st Wt ++ ob_wU t au ov) hD hS hA [0, 22, 23, 24, 25, 26, 27, 28, 29, 30, 31, 32, 33, 34, 35, 36, 37, 38, 39, 58] rfl
  refine va_calli (ob_runN (vx_runSX (As := [.ref ax, .int x, .ref au]) (rest := []) ⟨hx, hb, hml, hown, hts⟩ (c_L_mainReason l hl9 sa D t H.size ax ao al am ac cn st Wt x au ov z hcn (hz.symm)) (vx_cwSW 3 hts gL_law_L_mainReason rfl rfl rfl (by decide +kernel) ⟨Nat.le_of_ble_eq_true rfl, Nat.le_of_ble_eq_true rfl⟩) (ob_pyS (hP.sub [0, 22, 23, 24, 25, 26, 27, 28, 29, 30, 31, 32, 33, 34, 35, 36, 37, 38, 39, 58] rfl) (hD.sub [0, 22, 23, 24, 25, 26, 27, 28, 29, 30, 31, 32, 33, 34, 35, 36, 37, 38, 39, 58] (by decide) rfl) hk hE hN) rfl rfl hl.1 rfl (lv_room (Nat.le_of_ble_eq_true rfl)) dL_law_1367 ⟨show Kc + 1 ≤ 601024 from hKc, show Ks + 6 ≤ 7293034 from hKs⟩)) hS (fun q _ h => hFc q h) hFc (fun r9 u9 t9 H1 locs ht hvm hw9 hB hz1 hk1 hS => ?_)
  obtain ⟨rfl, hp9⟩ := hw9
  rw [ht] at hB
  have hP := ob_jn (ws' := ob_wX ax ao al am ac ++ ob_wO t ao M ++ ob_wL t al n cl rd sv pb ba bf od bg ++ ob_wM t am mn ms mf mt mp ++ ob_wC t ac cn st Wt ++ ob_wR t ar Bd Tr n cl rd sv pb wf wa ro ah ct mn ms mf mt mp cn sd V th ++ ob_wU t au (if z = 0 then vp_updL ov 0 u9.toInt64 else ov)) hP hD [some 0, none, none, none, none, none, none, none, none, none, none, none, none, none, none, none, none, none, none, none, none, none, some 1, some 2, some 3, some 4, some 5, some 6, some 7, some 8, some 9, some 10, some 11, some 12, some 13, some 14, some 15, some 16, some 17, some 18, none, none, none, none, none, none, none, none, none, none, none, none, none, none, none, none, none, none, some 19] [0, 22, 23, 24, 25, 26, 27, 28, 29, 30, 31, 32, 33, 34, 35, 36, 37, 38, 39, 58] rfl rfl hk1 hB rfl
  have hD : va_D (fun q : Nat => s.heap.size ≤ q) (ob_wX ax ao al am ac ++ ob_wO t ao M ++ ob_wL t al n cl rd sv pb ba bf od bg ++ ob_wM t am mn ms mf mt mp ++ ob_wC t ac cn st Wt ++ ob_wR t ar Bd Tr n cl rd sv pb wf wa ro ah ct mn ms mf mt mp cn sd V th ++ ob_wU t au (if z = 0 then vp_updL ov 0 u9.toInt64 else ov)) := ob_dXOLMCRU hD
  generalize H1 = H at hP hS ⊢
  refine lv_istore (lv' := [(5, .int (nI z)), (0, .ref b), (1, .ref ax), (2, .ref (ar 0)), (3, .ref au), (4, .int (nI (6 * k)))]) hx hb dL_law_1370 hl (by decide) rfl (fun ls hl => ?_)
  refine lv_aload_n hx hb dL_law_1372 rfl (lv_at hl 3 rfl) ?_
  refine ob_ldp hx hb hX hbl hbA hS (j := 1) ex.symm (by omega) (by omega) (by decide) (lv_at hl 1 rfl) (lv_at hl 5 rfl) dL_law_1373 dL_law_1374 dL_law_1376 dL_law_1377 dL_law_1378 ?_
  have hFc := va_free (wc := ob_wR t ar Bd Tr n cl rd sv pb wf wa ro ah ct mn ms mf mt mp cn sd V th) hD hS hA [40, 41, 42, 43, 44, 45, 46, 47, 48, 49, 50, 51, 52, 53, 54, 55, 56, 57] rfl
  refine va_calli (va_runV (As := [.int x]) (rest := []) ⟨hx, hb, hml, hown, hts⟩ (c_X5_mainReason l D t H.size ar Bd Tr n cl rd sv pb wf wa ro ah ct mn ms mf mt mp cn sd V th x hcn) (cwV 1 hts gL_law_X5_mainReason rfl rfl rfl (by decide +kernel) ⟨Nat.le_of_ble_eq_true rfl, Nat.le_of_ble_eq_true rfl⟩) (ob_pmV (ci := 5) (q0 := 0) (hP.sub [40, 41, 42, 43, 44, 45, 46, 47, 48, 49, 50, 51, 52, 53, 54, 55, 56, 57] rfl) (hD.sub [40, 41, 42, 43, 44, 45, 46, 47, 48, 49, 50, 51, 52, 53, 54, 55, 56, 57] (by decide) rfl) hk rfl rfl) rfl rfl hl.1 rfl (lv_room (Nat.le_of_ble_eq_true rfl)) dL_law_1379 ⟨show Kc + 1 + 0 ≤ 601024 by omega, show Ks + 6 + 0 ≤ 7293034 by omega⟩) hS (fun q _ h => hFc q h) hFc (fun r8 u8 t9 H1 locs ht hvm hw8 hB hz1 hk1 hS => ?_)
  rw [ht] at hB
  have hP := ob_jn (ws' := ob_wX ax ao al am ac ++ ob_wO t ao M ++ ob_wL t al n cl rd sv pb ba bf od bg ++ ob_wM t am mn ms mf mt mp ++ ob_wC t ac cn st Wt ++ ob_wR t ar Bd Tr n cl rd sv pb wf wa ro ah ct mn ms mf mt mp cn sd V (nI (ob_z1 (ob_hd cn x))) ++ ob_wU t au (if z = 0 then vp_updL ov 0 u9.toInt64 else ov)) hP hD [none, none, none, none, none, none, none, none, none, none, none, none, none, none, none, none, none, none, none, none, none, none, none, none, none, none, none, none, none, none, none, none, none, none, none, none, none, none, none, none, some 0, some 1, some 2, some 3, some 4, some 5, some 6, some 7, some 8, some 9, some 10, some 11, some 12, some 13, some 14, some 15, some 16, some 17, none] [40, 41, 42, 43, 44, 45, 46, 47, 48, 49, 50, 51, 52, 53, 54, 55, 56, 57] rfl rfl hk1 hB rfl
  have hD : va_D (fun q : Nat => s.heap.size ≤ q) (ob_wX ax ao al am ac ++ ob_wO t ao M ++ ob_wL t al n cl rd sv pb ba bf od bg ++ ob_wM t am mn ms mf mt mp ++ ob_wC t ac cn st Wt ++ ob_wR t ar Bd Tr n cl rd sv pb wf wa ro ah ct mn ms mf mt mp cn sd V (nI (ob_z1 (ob_hd cn x))) ++ ob_wU t au (if z = 0 then vp_updL ov 0 u9.toInt64 else ov)) := ob_dXOLMCRU hD
  generalize H1 = H at hP hS ⊢
  have hth : nI (ob_z1 (ob_hd cn x)) = nI z := congrArg nI hz.symm
  rw [hth] at hP
  have hP : va_P D vwCl (ob_wX ax ao al am ac ++ ob_wO t ao M ++ ob_wL t al n cl rd sv pb ba bf od bg ++ ob_wM t am mn ms mf mt mp ++ ob_wC t ac cn st Wt ++ ob_wR t ar Bd Tr n cl rd sv pb wf wa ro ah ct mn ms mf mt mp cn sd V (nI z) ++ ob_wU t au (if z = 0 then vp_updL ov 0 u9.toInt64 else ov)) H := hP
  have e9 : z = 0 → r8 = u9 := fun h0 => hw8.trans ((ob_q_mainReason hC (hz.symm.trans h0)).trans (hp9 h0).symm)
  refine lv_istore (lv' := [(6, .int r8), (5, .int (nI z)), (0, .ref b), (1, .ref ax), (2, .ref (ar 0)), (3, .ref au), (4, .int (nI (6 * k)))]) hx hb dL_law_1382 hl (by decide) rfl (fun ls hl => ?_)
  refine lv_aload_n hx hb dL_law_1384 rfl (lv_at hl 4 rfl) ?_
  refine vp_callSi (va_Run.run (va_runV (As := []) (rest := []) ⟨hx, hb, hml, hown, hts⟩ (c_X5_thrown l D t ar Bd Tr n cl rd sv pb wf wa ro ah ct mn ms mf mt mp cn sd V (nI z)) (cwV 0 hts gL_law_X5_thrown rfl rfl rfl (by decide +kernel) ⟨Nat.le_of_ble_eq_true rfl, Nat.le_of_ble_eq_true rfl⟩) (ob_preV (ci := 5) (q0 := 0) (hP.sub [40, 41, 42, 43, 44, 45, 46, 47, 48, 49, 50, 51, 52, 53, 54, 55, 56, 57] rfl) hk rfl rfl) rfl rfl hl.1 rfl (lv_room (Nat.le_of_ble_eq_true rfl)) dL_law_1385 ⟨show Kc + 1 + 0 + 0 ≤ 601024 by omega, show Ks + 6 + 0 + 0 ≤ 7293034 by omega⟩)) (fun r7 hr7 => ?_)
  subst hr7
  refine lv_iload hx hb dL_law_1388 (lv_at hl 1 rfl) ?_
  refine lv_icmp_eq (tgt := 1395) hx hb dL_law_1390 (by decide) (fun _ => ?_) (fun c9 => absurd rfl c9)
  refine lv_iload hx hb dL_law_1395 (lv_at hl 1 rfl) ?_
  have fin : W p l e room_1 s m #[Value.ref b] below meth c H locs (Kc + 1) (Ks + 6) Q (F0 m 1412 ls []) := by
    refine lv_goto (tgt := 1415) hx hb dL_law_1412 (by decide) ?_
    exact nx _ _ _ ⟨_, _, _, _, _, _, _, _, _, _, _, _, _, _, _, _, _, _, _, _, _, _, _, _, _, _, _, _, _, _, _, _, _, _, _, _, _, _, _, _, hP, (ob_IL_s hL), hM, hC⟩ hS (lv_sub hl [2, 3, 4, 5, 6] rfl)
  refine lv_if_ne (tgt := 1412) hx hb dL_law_1397 (by decide) (fun _ => fin) (fun c9 => ?_)
  have hz0 := ob_z0 hz3 c9
  refine lv_aload_n hx hb dL_law_1400 rfl (lv_at hl 5 rfl) ?_
  refine lv_iconst (v := nI 0) hx hb dL_law_1401 (by decide) ?_
  refine ob_lald hx hb hK hP 58 1 rfl rfl (show 0 < 1 by decide) (by decide) dL_law_1402 ?_
  rw [show (if z = 0 then vp_updL ov 0 u9.toInt64 else ov : Nat → Int64) 0 = u9.toInt64 from by rw [if_pos hz0]; exact if_pos rfl]
  refine lv_iload hx hb dL_law_1403 (lv_at hl 0 rfl) ?_
  refine lv_i2l (v := r8.toInt64) hx hb dL_law_1405 rfl ?_
  refine ob_lcmp hx hb dL_law_1406 (by rw [e9 hz0]) ?_
  exact lv_if_eq (tgt := 1412) hx hb dL_law_1407 (by decide) (fun _ => fin) (fun c8 => absurd rfl c8)
