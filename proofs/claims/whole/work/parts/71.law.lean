set_option maxRecDepth 100000 in
set_option maxHeartbeats 8000000 in
theorem ob_jmark {p : Program} {l : Launch} {e : Env} {s : State} {m : MethodId} {below : List Frame} {meth : Method} {c : Code} {b L : Nat} {xs : Nat → Int32} {D : va_G} {t : Nat → ClassId} {sa : Nat → Nat} {ax : Nat} {ao al am ac ar : Nat → Nat} {au : Nat} {k Kc Ks : Nat} {Q : State → Prop} (C0 : ob_At p l s m c b L xs D t sa) (hD0 : va_D (fun q : Nat => s.heap.size ≤ q) (ob_wX ax ao al am ac ++ ob_wO t ao (fun _ _ => 0) ++ ob_wL t al 0 (fun _ => 0) (fun _ => 0) (fun _ => 0) (fun _ => 0) (fun _ => 0) (fun _ => 0) (fun _ => 0) (fun _ => 0) ++ ob_wM t am 0 (fun _ => 0) (fun _ => 0) (fun _ => 0) (fun _ => 0) ++ ob_wC t ac 0 0 (fun _ _ => 0) ++ ob_wR t ar (fun _ => 0) (fun _ => 0) 0 (fun _ => 0) (fun _ => 0) (fun _ => 0) (fun _ => 0) (fun _ => 0) (fun _ => 0) (fun _ => 0) (fun _ => 0) (fun _ => 0) 0 (fun _ => 0) (fun _ => 0) (fun _ => 0) (fun _ => 0) 0 (fun _ => 0) (fun _ => 0) 0 ++ ob_wU t au (fun _ => 0))) (hk6 : 6 * k + 6 ≤ L) (hKc : Kc + 1 ≤ 601024) (hKs : Ks + 6 ≤ 7293034)
    (nx : ∀ (H : Heap) (locs : List Loc) (ls : Array Slot), ob_St D t ax ao al am ac ar au (k + 1) H → va_S (fun q : Nat => s.heap.size ≤ q) s.heap H locs → lv_has ls 8 [(0, .ref b), (1, .ref ax), (2, .ref (ar 0)), (3, .ref au), (4, .int (nI (6 * k)))] → W p l e room_1 s m #[Value.ref b] below meth c H locs (Kc + 1) (Ks + 6) Q (F0 m 1415 ls []))
    {H : Heap} {locs : List Loc} {ls : Array Slot} (hI : ob_St D t ax ao al am ac ar au k H) (hS : va_S (fun q : Nat => s.heap.size ≤ q) s.heap H locs) (hl : lv_has ls 8 [(0, .ref b), (1, .ref ax), (2, .ref (ar 0)), (3, .ref au), (4, .int (nI (6 * k)))]) : W p l e room_1 s m #[Value.ref b] below meth c H locs Kc Ks Q (F0 m 140 ls []) := by
  obtain ⟨hx, hb, hml, hown, hts, hX, hbl, hk, hE0, hN, hl9, hL3⟩ := C0
  obtain ⟨M, n, cl, rd, sv, pb, ba, bf, od, bg, mn, ms, mf, mt, mp, cn, st, Wt, Bd, Tr, rn, rcl, rrd, rsv, rpb, wf, wa, ro, ah, ct, rmn, rms, rmf, rmt, rmp, rcn, sd, V, th, ov, hP, hL, hM, hC⟩ := hI
  obtain ⟨rfl, rfl, rfl, rfl, rfl, h6, h7, h8, h9, h10, h11, h12, h13⟩ := id hL
  obtain ⟨rfl, rfl, rfl, rfl, rfl, hmn, hmm⟩ := id hM
  obtain ⟨rfl, hcn, hWV, hVz, hsd, hst⟩ := id hC
  have hkk : k ≤ 1000 := by omega
  have hbA : ¬ (fun q : Nat => s.heap.size ≤ q) b := Nat.not_le.mpr hbl
  have hA : ∀ q : Nat, s.heap.size ≤ q → (fun q : Nat => s.heap.size ≤ q) q := fun _ h => h
  have hK := hk.1
  have hE := ob_exK hE0 hS
  have hP : va_P D vwCl (ob_wX ax ao al am ac ++ ob_wO t ao M ++ ob_wL t al n cl rd sv pb ba bf od bg ++ ob_wM t am mn ms mf mt mp ++ ob_wC t ac cn st Wt ++ ob_wR t ar Bd Tr n cl rd sv pb wf wa ro ah ct mn ms mf mt mp cn sd V th ++ ob_wU t au ov) H := hP
  have hD : va_D (fun q : Nat => s.heap.size ≤ q) (ob_wX ax ao al am ac ++ ob_wO t ao M ++ ob_wL t al n cl rd sv pb ba bf od bg ++ ob_wM t am mn ms mf mt mp ++ ob_wC t ac cn st Wt ++ ob_wR t ar Bd Tr n cl rd sv pb wf wa ro ah ct mn ms mf mt mp cn sd V th ++ ob_wU t au ov) := ob_dXOLMCRU hD0
  obtain ⟨x1, ex1⟩ : ∃ z, z = xs (6 * k + 1) := ⟨_, rfl⟩
  obtain ⟨x2, ex2⟩ : ∃ z, z = xs (6 * k + 2) := ⟨_, rfl⟩
  obtain ⟨x3, ex3⟩ : ∃ z, z = xs (6 * k + 3) := ⟨_, rfl⟩
  obtain ⟨x4, ex4⟩ : ∃ z, z = xs (6 * k + 4) := ⟨_, rfl⟩
  obtain ⟨x5, ex5⟩ : ∃ z, z = xs (6 * k + 5) := ⟨_, rfl⟩
  obtain ⟨z, hz⟩ : ∃ z, z = ob_z2 (ob_okm x1 x2 x3 x4 x5) (ob_cn (ob_T9 Bd Tr x1.toNatClampNeg x3.toNatClampNeg x2 x4 x5) 5) := ⟨_, rfl⟩
  have hz3 : z ≤ 3 := (by rw [hz]; exact ob_z2_3 _ _)
  have hq := ob_q_mark (x1 := x1) (x2 := x2) (x3 := x3) (x4 := x4) (x5 := x5) (Tr := Tr) hL
  rw [← hz] at hq
  refine lv_aload_n hx hb dL_law_140 rfl (lv_at hl 1 rfl) ?_
  refine ob_ldp hx hb hX hbl hbA hS (j := 1) ex1.symm (by omega) (by omega) (by decide) (lv_at hl 0 rfl) (lv_at hl 4 rfl) dL_law_141 dL_law_142 dL_law_144 dL_law_145 dL_law_146 ?_
  refine ob_ldp hx hb hX hbl hbA hS (j := 2) ex2.symm (by omega) (by omega) (by decide) (lv_at hl 0 rfl) (lv_at hl 4 rfl) dL_law_147 dL_law_148 dL_law_150 dL_law_151 dL_law_152 ?_
  refine ob_ldp hx hb hX hbl hbA hS (j := 3) ex3.symm (by omega) (by omega) (by decide) (lv_at hl 0 rfl) (lv_at hl 4 rfl) dL_law_153 dL_law_154 dL_law_156 dL_law_157 dL_law_158 ?_
  refine ob_ldp hx hb hX hbl hbA hS (j := 4) ex4.symm (by omega) (by omega) (by decide) (lv_at hl 0 rfl) (lv_at hl 4 rfl) dL_law_159 dL_law_160 dL_law_162 dL_law_163 dL_law_164 ?_
  refine ob_ldp hx hb hX hbl hbA hS (j := 5) ex5.symm (by omega) (by omega) (by decide) (lv_at hl 0 rfl) (lv_at hl 4 rfl) dL_law_165 dL_law_166 dL_law_168 dL_law_169 dL_law_170 ?_
  have hFc := va_free (wc := ob_wX ax ao al am ac ++ ob_wO t ao M ++ ob_wL t al n cl rd sv pb ba bf od bg) hD hS hA [0, 1, 2, 3, 4, 5, 6, 7, 8, 9, 10, 11, 12, 13, 14, 15, 16] rfl
  refine va_calli (ob_runN (vx_runSX (As := [.ref ax, .int x1, .int x2, .int x3, .int x4, .int x5]) (rest := []) ⟨hx, hb, hml, hown, hts⟩ (c_L_mark l hl9 sa D t H.size ax ao al am ac M n cl rd sv pb ba bf od bg x1 x2 x3 x4 x5 z h6 (hq.1)) (vx_cwSW 6 hts gL_law_L_mark rfl rfl rfl (by decide +kernel) ⟨Nat.le_of_ble_eq_true rfl, Nat.le_of_ble_eq_true rfl⟩) (ob_pyS (hP.sub [0, 1, 2, 3, 4, 5, 6, 7, 8, 9, 10, 11, 12, 13, 14, 15, 16] rfl) (hD.sub [0, 1, 2, 3, 4, 5, 6, 7, 8, 9, 10, 11, 12, 13, 14, 15, 16] (by decide) rfl) hk hE hN) rfl rfl hl.1 rfl (lv_room (Nat.le_of_ble_eq_true rfl)) dL_law_171 ⟨show Kc + 1 ≤ 601024 from hKc, show Ks + 6 ≤ 7293034 from hKs⟩)) hS (fun q _ h => hFc q h) hFc (fun r9 u9 t9 H1 locs ht hvm hw9 hB hz1 hk1 hS => ?_)
  obtain ⟨rfl, hp9⟩ := hw9
  rw [ht] at hB
  have hP := ob_jn (ws' := ob_wX ax ao al am ac ++ ob_wO t ao (if z = 0 then ob_mk M x1.toNatClampNeg x3.toNatClampNeg x2 x4 x5 else M) ++ ob_wL t al n cl rd sv pb ba (if z = 0 then ob_bf2 (ob_mk M x1.toNatClampNeg x3.toNatClampNeg x2 x4 x5) cl rd n bf n else bf) (if z = 0 then ob_od2 (ob_bf2 (ob_mk M x1.toNatClampNeg x3.toNatClampNeg x2 x4 x5) cl rd n bf n) n od n else od) bg ++ ob_wM t am mn ms mf mt mp ++ ob_wC t ac cn st Wt ++ ob_wR t ar Bd Tr n cl rd sv pb wf wa ro ah ct mn ms mf mt mp cn sd V th ++ ob_wU t au ov) hP hD [some 0, some 1, some 2, some 3, some 4, some 5, some 6, some 7, some 8, some 9, some 10, some 11, some 12, some 13, some 14, some 15, some 16, none, none, none, none, none, none, none, none, none, none, none, none, none, none, none, none, none, none, none, none, none, none, none, none, none, none, none, none, none, none, none, none, none, none, none, none, none, none, none, none, none, none] [0, 1, 2, 3, 4, 5, 6, 7, 8, 9, 10, 11, 12, 13, 14, 15, 16] rfl rfl hk1 hB rfl
  have hD : va_D (fun q : Nat => s.heap.size ≤ q) (ob_wX ax ao al am ac ++ ob_wO t ao (if z = 0 then ob_mk M x1.toNatClampNeg x3.toNatClampNeg x2 x4 x5 else M) ++ ob_wL t al n cl rd sv pb ba (if z = 0 then ob_bf2 (ob_mk M x1.toNatClampNeg x3.toNatClampNeg x2 x4 x5) cl rd n bf n else bf) (if z = 0 then ob_od2 (ob_bf2 (ob_mk M x1.toNatClampNeg x3.toNatClampNeg x2 x4 x5) cl rd n bf n) n od n else od) bg ++ ob_wM t am mn ms mf mt mp ++ ob_wC t ac cn st Wt ++ ob_wR t ar Bd Tr n cl rd sv pb wf wa ro ah ct mn ms mf mt mp cn sd V th ++ ob_wU t au ov) := ob_dXOLMCRU hD
  generalize H1 = H at hP hS ⊢
  refine lv_istore (lv' := [(5, .int (nI z)), (0, .ref b), (1, .ref ax), (2, .ref (ar 0)), (3, .ref au), (4, .int (nI (6 * k)))]) hx hb dL_law_174 hl (by decide) rfl (fun ls hl => ?_)
  refine lv_aload_n hx hb dL_law_176 rfl (lv_at hl 3 rfl) ?_
  refine ob_ldp hx hb hX hbl hbA hS (j := 1) ex1.symm (by omega) (by omega) (by decide) (lv_at hl 1 rfl) (lv_at hl 5 rfl) dL_law_177 dL_law_178 dL_law_180 dL_law_181 dL_law_182 ?_
  refine ob_ldp hx hb hX hbl hbA hS (j := 2) ex2.symm (by omega) (by omega) (by decide) (lv_at hl 1 rfl) (lv_at hl 5 rfl) dL_law_183 dL_law_184 dL_law_186 dL_law_187 dL_law_188 ?_
  refine ob_ldp hx hb hX hbl hbA hS (j := 3) ex3.symm (by omega) (by omega) (by decide) (lv_at hl 1 rfl) (lv_at hl 5 rfl) dL_law_189 dL_law_190 dL_law_192 dL_law_193 dL_law_194 ?_
  refine ob_ldp hx hb hX hbl hbA hS (j := 4) ex4.symm (by omega) (by omega) (by decide) (lv_at hl 1 rfl) (lv_at hl 5 rfl) dL_law_195 dL_law_196 dL_law_198 dL_law_199 dL_law_200 ?_
  refine ob_ldp hx hb hX hbl hbA hS (j := 5) ex5.symm (by omega) (by omega) (by decide) (lv_at hl 1 rfl) (lv_at hl 5 rfl) dL_law_201 dL_law_202 dL_law_204 dL_law_205 dL_law_206 ?_
  have hFc := va_free (wc := ob_wR t ar Bd Tr n cl rd sv pb wf wa ro ah ct mn ms mf mt mp cn sd V th) hD hS hA [40, 41, 42, 43, 44, 45, 46, 47, 48, 49, 50, 51, 52, 53, 54, 55, 56, 57] rfl
  refine va_callv (va_runV (As := [.int x1, .int x2, .int x3, .int x4, .int x5]) (rest := []) ⟨hx, hb, hml, hown, hts⟩ (c_X5_mark l D t H.size ar Bd Tr n cl rd sv pb wf wa ro ah ct mn ms mf mt mp cn sd V th x1 x2 x3 x4 x5) (cwV 5 hts gL_law_X5_mark rfl rfl rfl (by decide +kernel) ⟨Nat.le_of_ble_eq_true rfl, Nat.le_of_ble_eq_true rfl⟩) (ob_pmV (ci := 5) (q0 := 0) (hP.sub [40, 41, 42, 43, 44, 45, 46, 47, 48, 49, 50, 51, 52, 53, 54, 55, 56, 57] rfl) (hD.sub [40, 41, 42, 43, 44, 45, 46, 47, 48, 49, 50, 51, 52, 53, 54, 55, 56, 57] (by decide) rfl) hk rfl rfl) rfl rfl hl.1 rfl (lv_room (Nat.le_of_ble_eq_true rfl)) dL_law_207 ⟨show Kc + 1 + 0 ≤ 601024 by omega, show Ks + 6 + 0 ≤ 7293034 by omega⟩) hS (fun q _ h => hFc q h) hFc (fun u8 t9 H1 locs ht hvm hw8 hB hz1 hk1 hS => ?_)
  rw [ht] at hB
  have hP := ob_jn (ws' := ob_wX ax ao al am ac ++ ob_wO t ao (if z = 0 then ob_mk M x1.toNatClampNeg x3.toNatClampNeg x2 x4 x5 else M) ++ ob_wL t al n cl rd sv pb ba (if z = 0 then ob_bf2 (ob_mk M x1.toNatClampNeg x3.toNatClampNeg x2 x4 x5) cl rd n bf n else bf) (if z = 0 then ob_od2 (ob_bf2 (ob_mk M x1.toNatClampNeg x3.toNatClampNeg x2 x4 x5) cl rd n bf n) n od n else od) bg ++ ob_wM t am mn ms mf mt mp ++ ob_wC t ac cn st Wt ++ ob_wR t ar (if ob_okm x1 x2 x3 x4 x5 && ob_cn (ob_T9 Bd Tr x1.toNatClampNeg x3.toNatClampNeg x2 x4 x5) 5 then ob_fl (ob_T9 Bd Tr x1.toNatClampNeg x3.toNatClampNeg x2 x4 x5) Bd 25 else Bd) (if ob_okm x1 x2 x3 x4 x5 then ob_T9 Bd Tr x1.toNatClampNeg x3.toNatClampNeg x2 x4 x5 else Tr) n cl rd sv pb wf wa ro ah ct mn ms mf mt mp cn sd V (nI (ob_z2 (ob_okm x1 x2 x3 x4 x5) (ob_cn (ob_T9 Bd Tr x1.toNatClampNeg x3.toNatClampNeg x2 x4 x5) 5))) ++ ob_wU t au ov) hP hD [none, none, none, none, none, none, none, none, none, none, none, none, none, none, none, none, none, none, none, none, none, none, none, none, none, none, none, none, none, none, none, none, none, none, none, none, none, none, none, none, some 0, some 1, some 2, some 3, some 4, some 5, some 6, some 7, some 8, some 9, some 10, some 11, some 12, some 13, some 14, some 15, some 16, some 17, none] [40, 41, 42, 43, 44, 45, 46, 47, 48, 49, 50, 51, 52, 53, 54, 55, 56, 57] rfl rfl hk1 hB rfl
  have hD : va_D (fun q : Nat => s.heap.size ≤ q) (ob_wX ax ao al am ac ++ ob_wO t ao (if z = 0 then ob_mk M x1.toNatClampNeg x3.toNatClampNeg x2 x4 x5 else M) ++ ob_wL t al n cl rd sv pb ba (if z = 0 then ob_bf2 (ob_mk M x1.toNatClampNeg x3.toNatClampNeg x2 x4 x5) cl rd n bf n else bf) (if z = 0 then ob_od2 (ob_bf2 (ob_mk M x1.toNatClampNeg x3.toNatClampNeg x2 x4 x5) cl rd n bf n) n od n else od) bg ++ ob_wM t am mn ms mf mt mp ++ ob_wC t ac cn st Wt ++ ob_wR t ar (if ob_okm x1 x2 x3 x4 x5 && ob_cn (ob_T9 Bd Tr x1.toNatClampNeg x3.toNatClampNeg x2 x4 x5) 5 then ob_fl (ob_T9 Bd Tr x1.toNatClampNeg x3.toNatClampNeg x2 x4 x5) Bd 25 else Bd) (if ob_okm x1 x2 x3 x4 x5 then ob_T9 Bd Tr x1.toNatClampNeg x3.toNatClampNeg x2 x4 x5 else Tr) n cl rd sv pb wf wa ro ah ct mn ms mf mt mp cn sd V (nI (ob_z2 (ob_okm x1 x2 x3 x4 x5) (ob_cn (ob_T9 Bd Tr x1.toNatClampNeg x3.toNatClampNeg x2 x4 x5) 5))) ++ ob_wU t au ov) := ob_dXOLMCRU hD
  generalize H1 = H at hP hS ⊢
  have hth : nI (ob_z2 (ob_okm x1 x2 x3 x4 x5) (ob_cn (ob_T9 Bd Tr x1.toNatClampNeg x3.toNatClampNeg x2 x4 x5) 5)) = nI z := congrArg nI hz.symm
  rw [hth] at hP
  have hP : va_P D vwCl (ob_wX ax ao al am ac ++ ob_wO t ao (if z = 0 then ob_mk M x1.toNatClampNeg x3.toNatClampNeg x2 x4 x5 else M) ++ ob_wL t al n cl rd sv pb ba (if z = 0 then ob_bf2 (ob_mk M x1.toNatClampNeg x3.toNatClampNeg x2 x4 x5) cl rd n bf n else bf) (if z = 0 then ob_od2 (ob_bf2 (ob_mk M x1.toNatClampNeg x3.toNatClampNeg x2 x4 x5) cl rd n bf n) n od n else od) bg ++ ob_wM t am mn ms mf mt mp ++ ob_wC t ac cn st Wt ++ ob_wR t ar (if ob_okm x1 x2 x3 x4 x5 && ob_cn (ob_T9 Bd Tr x1.toNatClampNeg x3.toNatClampNeg x2 x4 x5) 5 then ob_fl (ob_T9 Bd Tr x1.toNatClampNeg x3.toNatClampNeg x2 x4 x5) Bd 25 else Bd) (if ob_okm x1 x2 x3 x4 x5 then ob_T9 Bd Tr x1.toNatClampNeg x3.toNatClampNeg x2 x4 x5 else Tr) n cl rd sv pb wf wa ro ah ct mn ms mf mt mp cn sd V (nI z) ++ ob_wU t au ov) H := hP
  refine lv_aload_n hx hb dL_law_210 rfl (lv_at hl 3 rfl) ?_
  refine vp_callSi (va_Run.run (va_runV (As := []) (rest := []) ⟨hx, hb, hml, hown, hts⟩ (c_X5_thrown l D t ar (if ob_okm x1 x2 x3 x4 x5 && ob_cn (ob_T9 Bd Tr x1.toNatClampNeg x3.toNatClampNeg x2 x4 x5) 5 then ob_fl (ob_T9 Bd Tr x1.toNatClampNeg x3.toNatClampNeg x2 x4 x5) Bd 25 else Bd) (if ob_okm x1 x2 x3 x4 x5 then ob_T9 Bd Tr x1.toNatClampNeg x3.toNatClampNeg x2 x4 x5 else Tr) n cl rd sv pb wf wa ro ah ct mn ms mf mt mp cn sd V (nI z)) (cwV 0 hts gL_law_X5_thrown rfl rfl rfl (by decide +kernel) ⟨Nat.le_of_ble_eq_true rfl, Nat.le_of_ble_eq_true rfl⟩) (ob_preV (ci := 5) (q0 := 0) (hP.sub [40, 41, 42, 43, 44, 45, 46, 47, 48, 49, 50, 51, 52, 53, 54, 55, 56, 57] rfl) hk rfl rfl) rfl rfl hl.1 rfl (lv_room (Nat.le_of_ble_eq_true rfl)) dL_law_211 ⟨show Kc + 1 + 0 + 0 ≤ 601024 by omega, show Ks + 6 + 0 + 0 ≤ 7293034 by omega⟩)) (fun r7 hr7 => ?_)
  subst hr7
  refine lv_iload hx hb dL_law_214 (lv_at hl 0 rfl) ?_
  refine lv_icmp_eq (tgt := 221) hx hb dL_law_216 (by decide) (fun _ => ?_) (fun c9 => absurd rfl c9)
  refine lv_goto (tgt := 1415) hx hb dL_law_221 (by decide) ?_
  exact nx _ _ _ ⟨_, _, _, _, _, _, _, _, _, _, _, _, _, _, _, _, _, _, _, _, _, _, _, _, _, _, _, _, _, _, _, _, _, _, _, _, _, _, _, _, hP, hq.2, hM, hC⟩ hS (lv_sub hl [1, 2, 3, 4, 5] rfl)

set_option maxRecDepth 100000 in
set_option maxHeartbeats 8000000 in
theorem ob_jgreatest {p : Program} {l : Launch} {e : Env} {s : State} {m : MethodId} {below : List Frame} {meth : Method} {c : Code} {b L : Nat} {xs : Nat → Int32} {D : va_G} {t : Nat → ClassId} {sa : Nat → Nat} {ax : Nat} {ao al am ac ar : Nat → Nat} {au : Nat} {k Kc Ks : Nat} {Q : State → Prop} (C0 : ob_At p l s m c b L xs D t sa) (hD0 : va_D (fun q : Nat => s.heap.size ≤ q) (ob_wX ax ao al am ac ++ ob_wO t ao (fun _ _ => 0) ++ ob_wL t al 0 (fun _ => 0) (fun _ => 0) (fun _ => 0) (fun _ => 0) (fun _ => 0) (fun _ => 0) (fun _ => 0) (fun _ => 0) ++ ob_wM t am 0 (fun _ => 0) (fun _ => 0) (fun _ => 0) (fun _ => 0) ++ ob_wC t ac 0 0 (fun _ _ => 0) ++ ob_wR t ar (fun _ => 0) (fun _ => 0) 0 (fun _ => 0) (fun _ => 0) (fun _ => 0) (fun _ => 0) (fun _ => 0) (fun _ => 0) (fun _ => 0) (fun _ => 0) (fun _ => 0) 0 (fun _ => 0) (fun _ => 0) (fun _ => 0) (fun _ => 0) 0 (fun _ => 0) (fun _ => 0) 0 ++ ob_wU t au (fun _ => 0))) (hk6 : 6 * k + 6 ≤ L) (hKc : Kc + 1 ≤ 601024) (hKs : Ks + 6 ≤ 7293034)
    (nx : ∀ (H : Heap) (locs : List Loc) (ls : Array Slot), ob_St D t ax ao al am ac ar au (k + 1) H → va_S (fun q : Nat => s.heap.size ≤ q) s.heap H locs → lv_has ls 8 [(0, .ref b), (1, .ref ax), (2, .ref (ar 0)), (3, .ref au), (4, .int (nI (6 * k)))] → W p l e room_1 s m #[Value.ref b] below meth c H locs (Kc + 1) (Ks + 6) Q (F0 m 1415 ls []))
    {H : Heap} {locs : List Loc} {ls : Array Slot} (hI : ob_St D t ax ao al am ac ar au k H) (hS : va_S (fun q : Nat => s.heap.size ≤ q) s.heap H locs) (hl : lv_has ls 8 [(0, .ref b), (1, .ref ax), (2, .ref (ar 0)), (3, .ref au), (4, .int (nI (6 * k)))]) : W p l e room_1 s m #[Value.ref b] below meth c H locs Kc Ks Q (F0 m 224 ls []) := by
  obtain ⟨hx, hb, hml, hown, hts, hX, hbl, hk, hE0, hN, hl9, hL3⟩ := C0
  obtain ⟨M, n, cl, rd, sv, pb, ba, bf, od, bg, mn, ms, mf, mt, mp, cn, st, Wt, Bd, Tr, rn, rcl, rrd, rsv, rpb, wf, wa, ro, ah, ct, rmn, rms, rmf, rmt, rmp, rcn, sd, V, th, ov, hP, hL, hM, hC⟩ := hI
  obtain ⟨rfl, rfl, rfl, rfl, rfl, h6, h7, h8, h9, h10, h11, h12, h13⟩ := id hL
  obtain ⟨rfl, rfl, rfl, rfl, rfl, hmn, hmm⟩ := id hM
  obtain ⟨rfl, hcn, hWV, hVz, hsd, hst⟩ := id hC
  have hkk : k ≤ 1000 := by omega
  have hbA : ¬ (fun q : Nat => s.heap.size ≤ q) b := Nat.not_le.mpr hbl
  have hA : ∀ q : Nat, s.heap.size ≤ q → (fun q : Nat => s.heap.size ≤ q) q := fun _ h => h
  have hK := hk.1
  have hE := ob_exK hE0 hS
  have hP : va_P D vwCl (ob_wX ax ao al am ac ++ ob_wO t ao M ++ ob_wL t al n cl rd sv pb ba bf od bg ++ ob_wM t am mn ms mf mt mp ++ ob_wC t ac cn st Wt ++ ob_wR t ar Bd Tr n cl rd sv pb wf wa ro ah ct mn ms mf mt mp cn sd V th ++ ob_wU t au ov) H := hP
  have hD : va_D (fun q : Nat => s.heap.size ≤ q) (ob_wX ax ao al am ac ++ ob_wO t ao M ++ ob_wL t al n cl rd sv pb ba bf od bg ++ ob_wM t am mn ms mf mt mp ++ ob_wC t ac cn st Wt ++ ob_wR t ar Bd Tr n cl rd sv pb wf wa ro ah ct mn ms mf mt mp cn sd V th ++ ob_wU t au ov) := ob_dXOLMCRU hD0
  obtain ⟨x1, ex1⟩ : ∃ z, z = xs (6 * k + 1) := ⟨_, rfl⟩
  obtain ⟨x2, ex2⟩ : ∃ z, z = xs (6 * k + 2) := ⟨_, rfl⟩
  obtain ⟨z, hz⟩ : ∃ z, z = ob_z1 (ob_wi x1 (nI 0) (nI 4) && ob_wi x2 (nI 0) (nI 4)) := ⟨_, rfl⟩
  have hz3 : z ≤ 3 := (by rw [hz]; exact ob_z1_3 _)
  refine lv_aload_n hx hb dL_law_224 rfl (lv_at hl 1 rfl) ?_
  refine ob_ldp hx hb hX hbl hbA hS (j := 1) ex1.symm (by omega) (by omega) (by decide) (lv_at hl 0 rfl) (lv_at hl 4 rfl) dL_law_225 dL_law_226 dL_law_228 dL_law_229 dL_law_230 ?_
  refine ob_ldp hx hb hX hbl hbA hS (j := 2) ex2.symm (by omega) (by omega) (by decide) (lv_at hl 0 rfl) (lv_at hl 4 rfl) dL_law_231 dL_law_232 dL_law_234 dL_law_235 dL_law_236 ?_
  refine lv_aload_n hx hb dL_law_237 rfl (lv_at hl 3 rfl) ?_
  have hFc := va_free (wc := ob_wX ax ao al am ac ++ ob_wO t ao M ++ ob_wL t al n cl rd sv pb ba bf od bg ++ ob_wU t au ov) hD hS hA [0, 1, 2, 3, 4, 5, 6, 7, 8, 9, 10, 11, 12, 13, 14, 15, 16, 58] rfl
  refine va_calli (ob_runN (vx_runSX (As := [.ref ax, .int x1, .int x2, .ref au]) (rest := []) ⟨hx, hb, hml, hown, hts⟩ (c_L_greatest l hl9 sa D t H.size ax ao al am ac M n cl rd sv pb ba bf od bg x1 x2 au ov z (hz.symm)) (vx_cwSW 4 hts gL_law_L_greatest rfl rfl rfl (by decide +kernel) ⟨Nat.le_of_ble_eq_true rfl, Nat.le_of_ble_eq_true rfl⟩) (ob_pyS (hP.sub [0, 1, 2, 3, 4, 5, 6, 7, 8, 9, 10, 11, 12, 13, 14, 15, 16, 58] rfl) (hD.sub [0, 1, 2, 3, 4, 5, 6, 7, 8, 9, 10, 11, 12, 13, 14, 15, 16, 58] (by decide) rfl) hk hE hN) rfl rfl hl.1 rfl (lv_room (Nat.le_of_ble_eq_true rfl)) dL_law_238 ⟨show Kc + 1 ≤ 601024 from hKc, show Ks + 6 ≤ 7293034 from hKs⟩)) hS (fun q _ h => hFc q h) hFc (fun r9 u9 t9 H1 locs ht hvm hw9 hB hz1 hk1 hS => ?_)
  obtain ⟨rfl, hp9⟩ := hw9
  rw [ht] at hB
  have hP := ob_jn (ws' := ob_wX ax ao al am ac ++ ob_wO t ao M ++ ob_wL t al n cl rd sv pb ba bf od bg ++ ob_wM t am mn ms mf mt mp ++ ob_wC t ac cn st Wt ++ ob_wR t ar Bd Tr n cl rd sv pb wf wa ro ah ct mn ms mf mt mp cn sd V th ++ ob_wU t au (if z = 0 then vp_updL ov 0 u9.toInt64 else ov)) hP hD [some 0, some 1, some 2, some 3, some 4, some 5, some 6, some 7, some 8, some 9, some 10, some 11, some 12, some 13, some 14, some 15, some 16, none, none, none, none, none, none, none, none, none, none, none, none, none, none, none, none, none, none, none, none, none, none, none, none, none, none, none, none, none, none, none, none, none, none, none, none, none, none, none, none, none, some 17] [0, 1, 2, 3, 4, 5, 6, 7, 8, 9, 10, 11, 12, 13, 14, 15, 16, 58] rfl rfl hk1 hB rfl
  have hD : va_D (fun q : Nat => s.heap.size ≤ q) (ob_wX ax ao al am ac ++ ob_wO t ao M ++ ob_wL t al n cl rd sv pb ba bf od bg ++ ob_wM t am mn ms mf mt mp ++ ob_wC t ac cn st Wt ++ ob_wR t ar Bd Tr n cl rd sv pb wf wa ro ah ct mn ms mf mt mp cn sd V th ++ ob_wU t au (if z = 0 then vp_updL ov 0 u9.toInt64 else ov)) := ob_dXOLMCRU hD
  generalize H1 = H at hP hS ⊢
  refine lv_istore (lv' := [(5, .int (nI z)), (0, .ref b), (1, .ref ax), (2, .ref (ar 0)), (3, .ref au), (4, .int (nI (6 * k)))]) hx hb dL_law_241 hl (by decide) rfl (fun ls hl => ?_)
  refine lv_aload_n hx hb dL_law_243 rfl (lv_at hl 3 rfl) ?_
  refine ob_ldp hx hb hX hbl hbA hS (j := 1) ex1.symm (by omega) (by omega) (by decide) (lv_at hl 1 rfl) (lv_at hl 5 rfl) dL_law_244 dL_law_245 dL_law_247 dL_law_248 dL_law_249 ?_
  refine ob_ldp hx hb hX hbl hbA hS (j := 2) ex2.symm (by omega) (by omega) (by decide) (lv_at hl 1 rfl) (lv_at hl 5 rfl) dL_law_250 dL_law_251 dL_law_253 dL_law_254 dL_law_255 ?_
  have hFc := va_free (wc := ob_wR t ar Bd Tr n cl rd sv pb wf wa ro ah ct mn ms mf mt mp cn sd V th) hD hS hA [40, 41, 42, 43, 44, 45, 46, 47, 48, 49, 50, 51, 52, 53, 54, 55, 56, 57] rfl
  refine va_calli (va_runV (As := [.int x1, .int x2]) (rest := []) ⟨hx, hb, hml, hown, hts⟩ (c_X5_greatest l D t H.size ar Bd Tr n cl rd sv pb wf wa ro ah ct mn ms mf mt mp cn sd V th x1 x2) (cwV 2 hts gL_law_X5_greatest rfl rfl rfl (by decide +kernel) ⟨Nat.le_of_ble_eq_true rfl, Nat.le_of_ble_eq_true rfl⟩) (ob_pmV (ci := 5) (q0 := 0) (hP.sub [40, 41, 42, 43, 44, 45, 46, 47, 48, 49, 50, 51, 52, 53, 54, 55, 56, 57] rfl) (hD.sub [40, 41, 42, 43, 44, 45, 46, 47, 48, 49, 50, 51, 52, 53, 54, 55, 56, 57] (by decide) rfl) hk rfl rfl) rfl rfl hl.1 rfl (lv_room (Nat.le_of_ble_eq_true rfl)) dL_law_256 ⟨show Kc + 1 + 0 ≤ 601024 by omega, show Ks + 6 + 0 ≤ 7293034 by omega⟩) hS (fun q _ h => hFc q h) hFc (fun r8 u8 t9 H1 locs ht hvm hw8 hB hz1 hk1 hS => ?_)
  rw [ht] at hB
  have hP := ob_jn (ws' := ob_wX ax ao al am ac ++ ob_wO t ao M ++ ob_wL t al n cl rd sv pb ba bf od bg ++ ob_wM t am mn ms mf mt mp ++ ob_wC t ac cn st Wt ++ ob_wR t ar Bd Tr n cl rd sv pb wf wa ro ah ct mn ms mf mt mp cn sd V (nI (ob_z1 (ob_wi x1 (nI 0) (nI 4) && ob_wi x2 (nI 0) (nI 4)))) ++ ob_wU t au (if z = 0 then vp_updL ov 0 u9.toInt64 else ov)) hP hD [none, none, none, none, none, none, none, none, none, none, none, none, none, none, none, none, none, none, none, none, none, none, none, none, none, none, none, none, none, none, none, none, none, none, none, none, none, none, none, none, some 0, some 1, some 2, some 3, some 4, some 5, some 6, some 7, some 8, some 9, some 10, some 11, some 12, some 13, some 14, some 15, some 16, some 17, none] [40, 41, 42, 43, 44, 45, 46, 47, 48, 49, 50, 51, 52, 53, 54, 55, 56, 57] rfl rfl hk1 hB rfl
  have hD : va_D (fun q : Nat => s.heap.size ≤ q) (ob_wX ax ao al am ac ++ ob_wO t ao M ++ ob_wL t al n cl rd sv pb ba bf od bg ++ ob_wM t am mn ms mf mt mp ++ ob_wC t ac cn st Wt ++ ob_wR t ar Bd Tr n cl rd sv pb wf wa ro ah ct mn ms mf mt mp cn sd V (nI (ob_z1 (ob_wi x1 (nI 0) (nI 4) && ob_wi x2 (nI 0) (nI 4)))) ++ ob_wU t au (if z = 0 then vp_updL ov 0 u9.toInt64 else ov)) := ob_dXOLMCRU hD
  generalize H1 = H at hP hS ⊢
  have hth : nI (ob_z1 (ob_wi x1 (nI 0) (nI 4) && ob_wi x2 (nI 0) (nI 4))) = nI z := congrArg nI hz.symm
  rw [hth] at hP
  have hP : va_P D vwCl (ob_wX ax ao al am ac ++ ob_wO t ao M ++ ob_wL t al n cl rd sv pb ba bf od bg ++ ob_wM t am mn ms mf mt mp ++ ob_wC t ac cn st Wt ++ ob_wR t ar Bd Tr n cl rd sv pb wf wa ro ah ct mn ms mf mt mp cn sd V (nI z) ++ ob_wU t au (if z = 0 then vp_updL ov 0 u9.toInt64 else ov)) H := hP
  have e9 : z = 0 → r8 = u9 := fun h0 => hw8.trans ((ob_q_greatest hL (hz.symm.trans h0)).trans (hp9 h0).symm)
  refine lv_istore (lv' := [(6, .int r8), (5, .int (nI z)), (0, .ref b), (1, .ref ax), (2, .ref (ar 0)), (3, .ref au), (4, .int (nI (6 * k)))]) hx hb dL_law_259 hl (by decide) rfl (fun ls hl => ?_)
  refine lv_aload_n hx hb dL_law_261 rfl (lv_at hl 4 rfl) ?_
  refine vp_callSi (va_Run.run (va_runV (As := []) (rest := []) ⟨hx, hb, hml, hown, hts⟩ (c_X5_thrown l D t ar Bd Tr n cl rd sv pb wf wa ro ah ct mn ms mf mt mp cn sd V (nI z)) (cwV 0 hts gL_law_X5_thrown rfl rfl rfl (by decide +kernel) ⟨Nat.le_of_ble_eq_true rfl, Nat.le_of_ble_eq_true rfl⟩) (ob_preV (ci := 5) (q0 := 0) (hP.sub [40, 41, 42, 43, 44, 45, 46, 47, 48, 49, 50, 51, 52, 53, 54, 55, 56, 57] rfl) hk rfl rfl) rfl rfl hl.1 rfl (lv_room (Nat.le_of_ble_eq_true rfl)) dL_law_262 ⟨show Kc + 1 + 0 + 0 ≤ 601024 by omega, show Ks + 6 + 0 + 0 ≤ 7293034 by omega⟩)) (fun r7 hr7 => ?_)
  subst hr7
  refine lv_iload hx hb dL_law_265 (lv_at hl 1 rfl) ?_
  refine lv_icmp_eq (tgt := 272) hx hb dL_law_267 (by decide) (fun _ => ?_) (fun c9 => absurd rfl c9)
  refine lv_iload hx hb dL_law_272 (lv_at hl 1 rfl) ?_
  have fin : W p l e room_1 s m #[Value.ref b] below meth c H locs (Kc + 1) (Ks + 6) Q (F0 m 289 ls []) := by
    refine lv_goto (tgt := 1415) hx hb dL_law_289 (by decide) ?_
    exact nx _ _ _ ⟨_, _, _, _, _, _, _, _, _, _, _, _, _, _, _, _, _, _, _, _, _, _, _, _, _, _, _, _, _, _, _, _, _, _, _, _, _, _, _, _, hP, (ob_IL_s hL), hM, hC⟩ hS (lv_sub hl [2, 3, 4, 5, 6] rfl)
  refine lv_if_ne (tgt := 289) hx hb dL_law_274 (by decide) (fun _ => fin) (fun c9 => ?_)
  have hz0 := ob_z0 hz3 c9
  refine lv_aload_n hx hb dL_law_277 rfl (lv_at hl 5 rfl) ?_
  refine lv_iconst (v := nI 0) hx hb dL_law_278 (by decide) ?_
  refine ob_lald hx hb hK hP 58 1 rfl rfl (show 0 < 1 by decide) (by decide) dL_law_279 ?_
  rw [show (if z = 0 then vp_updL ov 0 u9.toInt64 else ov : Nat → Int64) 0 = u9.toInt64 from by rw [if_pos hz0]; exact if_pos rfl]
  refine lv_iload hx hb dL_law_280 (lv_at hl 0 rfl) ?_
  refine lv_i2l (v := r8.toInt64) hx hb dL_law_282 rfl ?_
  refine ob_lcmp hx hb dL_law_283 (by rw [e9 hz0]) ?_
  exact lv_if_eq (tgt := 289) hx hb dL_law_284 (by decide) (fun _ => fin) (fun c8 => absurd rfl c8)

set_option maxRecDepth 100000 in
set_option maxHeartbeats 8000000 in
theorem ob_jwrite {p : Program} {l : Launch} {e : Env} {s : State} {m : MethodId} {below : List Frame} {meth : Method} {c : Code} {b L : Nat} {xs : Nat → Int32} {D : va_G} {t : Nat → ClassId} {sa : Nat → Nat} {ax : Nat} {ao al am ac ar : Nat → Nat} {au : Nat} {k Kc Ks : Nat} {Q : State → Prop} (C0 : ob_At p l s m c b L xs D t sa) (hD0 : va_D (fun q : Nat => s.heap.size ≤ q) (ob_wX ax ao al am ac ++ ob_wO t ao (fun _ _ => 0) ++ ob_wL t al 0 (fun _ => 0) (fun _ => 0) (fun _ => 0) (fun _ => 0) (fun _ => 0) (fun _ => 0) (fun _ => 0) (fun _ => 0) ++ ob_wM t am 0 (fun _ => 0) (fun _ => 0) (fun _ => 0) (fun _ => 0) ++ ob_wC t ac 0 0 (fun _ _ => 0) ++ ob_wR t ar (fun _ => 0) (fun _ => 0) 0 (fun _ => 0) (fun _ => 0) (fun _ => 0) (fun _ => 0) (fun _ => 0) (fun _ => 0) (fun _ => 0) (fun _ => 0) (fun _ => 0) 0 (fun _ => 0) (fun _ => 0) (fun _ => 0) (fun _ => 0) 0 (fun _ => 0) (fun _ => 0) 0 ++ ob_wU t au (fun _ => 0))) (hk6 : 6 * k + 6 ≤ L) (hKc : Kc + 1 ≤ 601024) (hKs : Ks + 6 ≤ 7293034)
    (nx : ∀ (H : Heap) (locs : List Loc) (ls : Array Slot), ob_St D t ax ao al am ac ar au (k + 1) H → va_S (fun q : Nat => s.heap.size ≤ q) s.heap H locs → lv_has ls 8 [(0, .ref b), (1, .ref ax), (2, .ref (ar 0)), (3, .ref au), (4, .int (nI (6 * k)))] → W p l e room_1 s m #[Value.ref b] below meth c H locs (Kc + 1) (Ks + 6) Q (F0 m 1415 ls []))
    {H : Heap} {locs : List Loc} {ls : Array Slot} (hI : ob_St D t ax ao al am ac ar au k H) (hS : va_S (fun q : Nat => s.heap.size ≤ q) s.heap H locs) (hl : lv_has ls 8 [(0, .ref b), (1, .ref ax), (2, .ref (ar 0)), (3, .ref au), (4, .int (nI (6 * k)))]) : W p l e room_1 s m #[Value.ref b] below meth c H locs Kc Ks Q (F0 m 292 ls []) := by
  obtain ⟨hx, hb, hml, hown, hts, hX, hbl, hk, hE0, hN, hl9, hL3⟩ := C0
  obtain ⟨M, n, cl, rd, sv, pb, ba, bf, od, bg, mn, ms, mf, mt, mp, cn, st, Wt, Bd, Tr, rn, rcl, rrd, rsv, rpb, wf, wa, ro, ah, ct, rmn, rms, rmf, rmt, rmp, rcn, sd, V, th, ov, hP, hL, hM, hC⟩ := hI
  obtain ⟨rfl, rfl, rfl, rfl, rfl, h6, h7, h8, h9, h10, h11, h12, h13⟩ := id hL
  obtain ⟨rfl, rfl, rfl, rfl, rfl, hmn, hmm⟩ := id hM
  obtain ⟨rfl, hcn, hWV, hVz, hsd, hst⟩ := id hC
  have hkk : k ≤ 1000 := by omega
  have hbA : ¬ (fun q : Nat => s.heap.size ≤ q) b := Nat.not_le.mpr hbl
  have hA : ∀ q : Nat, s.heap.size ≤ q → (fun q : Nat => s.heap.size ≤ q) q := fun _ h => h
  have hK := hk.1
  have hE := ob_exK hE0 hS
  have hP : va_P D vwCl (ob_wX ax ao al am ac ++ ob_wO t ao M ++ ob_wL t al n cl rd sv pb ba bf od bg ++ ob_wM t am mn ms mf mt mp ++ ob_wC t ac cn st Wt ++ ob_wR t ar Bd Tr n cl rd sv pb wf wa ro ah ct mn ms mf mt mp cn sd V th ++ ob_wU t au ov) H := hP
  have hD : va_D (fun q : Nat => s.heap.size ≤ q) (ob_wX ax ao al am ac ++ ob_wO t ao M ++ ob_wL t al n cl rd sv pb ba bf od bg ++ ob_wM t am mn ms mf mt mp ++ ob_wC t ac cn st Wt ++ ob_wR t ar Bd Tr n cl rd sv pb wf wa ro ah ct mn ms mf mt mp cn sd V th ++ ob_wU t au ov) := ob_dXOLMCRU hD0
  obtain ⟨x1, ex1⟩ : ∃ z, z = xs (6 * k + 1) := ⟨_, rfl⟩
  obtain ⟨x2, ex2⟩ : ∃ z, z = xs (6 * k + 2) := ⟨_, rfl⟩
  obtain ⟨x3, ex3⟩ : ∃ z, z = xs (6 * k + 3) := ⟨_, rfl⟩
  obtain ⟨b4, eb4⟩ : ∃ z, z = (!decide (xs (6 * k + 4) = 0)) := ⟨_, rfl⟩
  obtain ⟨z, hz⟩ : ∃ z, z = ob_z2 (ob_wi x1 (nI 0) (nI 4) && (ob_wi x2 (nI 0) (nI 10000) && ob_wi x3 (nI 0) (nI 5))) (!decide (n = 30)) := ⟨_, rfl⟩
  have hz3 : z ≤ 3 := (by rw [hz]; exact ob_z2_3 _ _)
  have hq := ob_q_write (b4 := b4) (x1 := x1) (x2 := x2) (x3 := x3) (bW := ob_wi x1 (nI 0) (nI 4) && (ob_wi x2 (nI 0) (nI 10000) && ob_wi x3 (nI 0) (nI 5))) hL rfl
  rw [← hz] at hq
  refine lv_aload_n hx hb dL_law_292 rfl (lv_at hl 1 rfl) ?_
  refine ob_ldp hx hb hX hbl hbA hS (j := 1) ex1.symm (by omega) (by omega) (by decide) (lv_at hl 0 rfl) (lv_at hl 4 rfl) dL_law_293 dL_law_294 dL_law_296 dL_law_297 dL_law_298 ?_
  refine ob_ldp hx hb hX hbl hbA hS (j := 2) ex2.symm (by omega) (by omega) (by decide) (lv_at hl 0 rfl) (lv_at hl 4 rfl) dL_law_299 dL_law_300 dL_law_302 dL_law_303 dL_law_304 ?_
  refine ob_ldp hx hb hX hbl hbA hS (j := 3) ex3.symm (by omega) (by omega) (by decide) (lv_at hl 0 rfl) (lv_at hl 4 rfl) dL_law_305 dL_law_306 dL_law_308 dL_law_309 dL_law_310 ?_
  refine ob_ldb hx hb hX hbl hbA hS (j := 4) eb4.symm (by omega) (by omega) (by decide) (lv_at hl 0 rfl) (lv_at hl 4 rfl) dL_law_311 dL_law_312 dL_law_314 dL_law_315 dL_law_316 dL_law_317 dL_law_320 dL_law_321 dL_law_324 ?_
  refine lv_aload_n hx hb dL_law_325 rfl (lv_at hl 3 rfl) ?_
  have hFc := va_free (wc := ob_wX ax ao al am ac ++ ob_wO t ao M ++ ob_wL t al n cl rd sv pb ba bf od bg ++ ob_wU t au ov) hD hS hA [0, 1, 2, 3, 4, 5, 6, 7, 8, 9, 10, 11, 12, 13, 14, 15, 16, 58] rfl
  refine va_calli (ob_runN (vx_runSX (As := [.ref ax, .int x1, .int x2, .int x3, .int (ob_bi b4), .ref au]) (rest := []) ⟨hx, hb, hml, hown, hts⟩ (c_L_write l hl9 sa D t H.size ax ao al am ac M n cl rd sv pb ba bf od bg x1 x2 x3 b4 au ov z h6 (hq.1)) (vx_cwSW 6 hts gL_law_L_write rfl rfl rfl (by decide +kernel) ⟨Nat.le_of_ble_eq_true rfl, Nat.le_of_ble_eq_true rfl⟩) (ob_pyS (hP.sub [0, 1, 2, 3, 4, 5, 6, 7, 8, 9, 10, 11, 12, 13, 14, 15, 16, 58] rfl) (hD.sub [0, 1, 2, 3, 4, 5, 6, 7, 8, 9, 10, 11, 12, 13, 14, 15, 16, 58] (by decide) rfl) hk hE hN) rfl rfl hl.1 rfl (lv_room (Nat.le_of_ble_eq_true rfl)) dL_law_326 ⟨show Kc + 1 ≤ 601024 from hKc, show Ks + 6 ≤ 7293034 from hKs⟩)) hS (fun q _ h => hFc q h) hFc (fun r9 u9 t9 H1 locs ht hvm hw9 hB hz1 hk1 hS => ?_)
  obtain ⟨rfl, hp9⟩ := hw9
  rw [ht] at hB
  have hP := ob_jn (ws' := ob_wX ax ao al am ac ++ ob_wO t ao M ++ ob_wL t al (if z = 0 then n + 1 else n) (if z = 0 then upd cl n x1 else cl) (if z = 0 then upd rd n x2 else rd) (if z = 0 then upd sv n x3 else sv) (if z = 0 then upd pb n (ob_bi b4) else pb) ba (if z = 0 then ob_bf2 M (upd cl n x1) (upd rd n x2) (n + 1) bf (n + 1) else bf) (if z = 0 then ob_od2 (ob_bf2 M (upd cl n x1) (upd rd n x2) (n + 1) bf (n + 1)) (n + 1) od (n + 1) else od) bg ++ ob_wM t am mn ms mf mt mp ++ ob_wC t ac cn st Wt ++ ob_wR t ar Bd Tr n cl rd sv pb wf wa ro ah ct mn ms mf mt mp cn sd V th ++ ob_wU t au (if z = 0 then vp_updL ov 0 u9.toInt64 else ov)) hP hD [some 0, some 1, some 2, some 3, some 4, some 5, some 6, some 7, some 8, some 9, some 10, some 11, some 12, some 13, some 14, some 15, some 16, none, none, none, none, none, none, none, none, none, none, none, none, none, none, none, none, none, none, none, none, none, none, none, none, none, none, none, none, none, none, none, none, none, none, none, none, none, none, none, none, none, some 17] [0, 1, 2, 3, 4, 5, 6, 7, 8, 9, 10, 11, 12, 13, 14, 15, 16, 58] rfl rfl hk1 hB rfl
  have hD : va_D (fun q : Nat => s.heap.size ≤ q) (ob_wX ax ao al am ac ++ ob_wO t ao M ++ ob_wL t al (if z = 0 then n + 1 else n) (if z = 0 then upd cl n x1 else cl) (if z = 0 then upd rd n x2 else rd) (if z = 0 then upd sv n x3 else sv) (if z = 0 then upd pb n (ob_bi b4) else pb) ba (if z = 0 then ob_bf2 M (upd cl n x1) (upd rd n x2) (n + 1) bf (n + 1) else bf) (if z = 0 then ob_od2 (ob_bf2 M (upd cl n x1) (upd rd n x2) (n + 1) bf (n + 1)) (n + 1) od (n + 1) else od) bg ++ ob_wM t am mn ms mf mt mp ++ ob_wC t ac cn st Wt ++ ob_wR t ar Bd Tr n cl rd sv pb wf wa ro ah ct mn ms mf mt mp cn sd V th ++ ob_wU t au (if z = 0 then vp_updL ov 0 u9.toInt64 else ov)) := ob_dXOLMCRU hD
  generalize H1 = H at hP hS ⊢
  refine lv_istore (lv' := [(5, .int (nI z)), (0, .ref b), (1, .ref ax), (2, .ref (ar 0)), (3, .ref au), (4, .int (nI (6 * k)))]) hx hb dL_law_329 hl (by decide) rfl (fun ls hl => ?_)
  refine lv_aload_n hx hb dL_law_331 rfl (lv_at hl 3 rfl) ?_
  refine ob_ldp hx hb hX hbl hbA hS (j := 1) ex1.symm (by omega) (by omega) (by decide) (lv_at hl 1 rfl) (lv_at hl 5 rfl) dL_law_332 dL_law_333 dL_law_335 dL_law_336 dL_law_337 ?_
  refine ob_ldp hx hb hX hbl hbA hS (j := 2) ex2.symm (by omega) (by omega) (by decide) (lv_at hl 1 rfl) (lv_at hl 5 rfl) dL_law_338 dL_law_339 dL_law_341 dL_law_342 dL_law_343 ?_
  refine ob_ldp hx hb hX hbl hbA hS (j := 3) ex3.symm (by omega) (by omega) (by decide) (lv_at hl 1 rfl) (lv_at hl 5 rfl) dL_law_344 dL_law_345 dL_law_347 dL_law_348 dL_law_349 ?_
  refine ob_ldb hx hb hX hbl hbA hS (j := 4) eb4.symm (by omega) (by omega) (by decide) (lv_at hl 1 rfl) (lv_at hl 5 rfl) dL_law_350 dL_law_351 dL_law_353 dL_law_354 dL_law_355 dL_law_356 dL_law_359 dL_law_360 dL_law_363 ?_
  have hFc := va_free (wc := ob_wR t ar Bd Tr n cl rd sv pb wf wa ro ah ct mn ms mf mt mp cn sd V th) hD hS hA [40, 41, 42, 43, 44, 45, 46, 47, 48, 49, 50, 51, 52, 53, 54, 55, 56, 57] rfl
  refine va_calli (va_runV (As := [.int x1, .int x2, .int x3, .int (ob_bi b4)]) (rest := []) ⟨hx, hb, hml, hown, hts⟩ (c_X5_write l D t H.size ar Bd Tr n cl rd sv pb wf wa ro ah ct mn ms mf mt mp cn sd V th x1 x2 x3 b4 h6) (cwV 4 hts gL_law_X5_write rfl rfl rfl (by decide +kernel) ⟨Nat.le_of_ble_eq_true rfl, Nat.le_of_ble_eq_true rfl⟩) (ob_pmV (ci := 5) (q0 := 0) (hP.sub [40, 41, 42, 43, 44, 45, 46, 47, 48, 49, 50, 51, 52, 53, 54, 55, 56, 57] rfl) (hD.sub [40, 41, 42, 43, 44, 45, 46, 47, 48, 49, 50, 51, 52, 53, 54, 55, 56, 57] (by decide) rfl) hk rfl rfl) rfl rfl hl.1 rfl (lv_room (Nat.le_of_ble_eq_true rfl)) dL_law_364 ⟨show Kc + 1 + 0 ≤ 601024 by omega, show Ks + 6 + 0 ≤ 7293034 by omega⟩) hS (fun q _ h => hFc q h) hFc (fun r8 u8 t9 H1 locs ht hvm hw8 hB hz1 hk1 hS => ?_)
  rw [ht] at hB
  have hP := ob_jn (ws' := ob_wX ax ao al am ac ++ ob_wO t ao M ++ ob_wL t al (if z = 0 then n + 1 else n) (if z = 0 then upd cl n x1 else cl) (if z = 0 then upd rd n x2 else rd) (if z = 0 then upd sv n x3 else sv) (if z = 0 then upd pb n (ob_bi b4) else pb) ba (if z = 0 then ob_bf2 M (upd cl n x1) (upd rd n x2) (n + 1) bf (n + 1) else bf) (if z = 0 then ob_od2 (ob_bf2 M (upd cl n x1) (upd rd n x2) (n + 1) bf (n + 1)) (n + 1) od (n + 1) else od) bg ++ ob_wM t am mn ms mf mt mp ++ ob_wC t ac cn st Wt ++ ob_wR t ar Bd Tr (if (ob_wi x1 (nI 0) (nI 4) && (ob_wi x2 (nI 0) (nI 10000) && ob_wi x3 (nI 0) (nI 5))) && !decide (n = 30) then n + 1 else n) (if (ob_wi x1 (nI 0) (nI 4) && (ob_wi x2 (nI 0) (nI 10000) && ob_wi x3 (nI 0) (nI 5))) && !decide (n = 30) then upd cl n x1 else cl) (if (ob_wi x1 (nI 0) (nI 4) && (ob_wi x2 (nI 0) (nI 10000) && ob_wi x3 (nI 0) (nI 5))) && !decide (n = 30) then upd rd n x2 else rd) (if (ob_wi x1 (nI 0) (nI 4) && (ob_wi x2 (nI 0) (nI 10000) && ob_wi x3 (nI 0) (nI 5))) && !decide (n = 30) then upd sv n x3 else sv) (if (ob_wi x1 (nI 0) (nI 4) && (ob_wi x2 (nI 0) (nI 10000) && ob_wi x3 (nI 0) (nI 5))) && !decide (n = 30) then upd pb n (ob_bi b4) else pb) wf wa ro ah ct mn ms mf mt mp cn sd V (nI (ob_z2 (ob_wi x1 (nI 0) (nI 4) && (ob_wi x2 (nI 0) (nI 10000) && ob_wi x3 (nI 0) (nI 5))) (!decide (n = 30)))) ++ ob_wU t au (if z = 0 then vp_updL ov 0 u9.toInt64 else ov)) hP hD [none, none, none, none, none, none, none, none, none, none, none, none, none, none, none, none, none, none, none, none, none, none, none, none, none, none, none, none, none, none, none, none, none, none, none, none, none, none, none, none, some 0, some 1, some 2, some 3, some 4, some 5, some 6, some 7, some 8, some 9, some 10, some 11, some 12, some 13, some 14, some 15, some 16, some 17, none] [40, 41, 42, 43, 44, 45, 46, 47, 48, 49, 50, 51, 52, 53, 54, 55, 56, 57] rfl rfl hk1 hB rfl
  have hD : va_D (fun q : Nat => s.heap.size ≤ q) (ob_wX ax ao al am ac ++ ob_wO t ao M ++ ob_wL t al (if z = 0 then n + 1 else n) (if z = 0 then upd cl n x1 else cl) (if z = 0 then upd rd n x2 else rd) (if z = 0 then upd sv n x3 else sv) (if z = 0 then upd pb n (ob_bi b4) else pb) ba (if z = 0 then ob_bf2 M (upd cl n x1) (upd rd n x2) (n + 1) bf (n + 1) else bf) (if z = 0 then ob_od2 (ob_bf2 M (upd cl n x1) (upd rd n x2) (n + 1) bf (n + 1)) (n + 1) od (n + 1) else od) bg ++ ob_wM t am mn ms mf mt mp ++ ob_wC t ac cn st Wt ++ ob_wR t ar Bd Tr (if (ob_wi x1 (nI 0) (nI 4) && (ob_wi x2 (nI 0) (nI 10000) && ob_wi x3 (nI 0) (nI 5))) && !decide (n = 30) then n + 1 else n) (if (ob_wi x1 (nI 0) (nI 4) && (ob_wi x2 (nI 0) (nI 10000) && ob_wi x3 (nI 0) (nI 5))) && !decide (n = 30) then upd cl n x1 else cl) (if (ob_wi x1 (nI 0) (nI 4) && (ob_wi x2 (nI 0) (nI 10000) && ob_wi x3 (nI 0) (nI 5))) && !decide (n = 30) then upd rd n x2 else rd) (if (ob_wi x1 (nI 0) (nI 4) && (ob_wi x2 (nI 0) (nI 10000) && ob_wi x3 (nI 0) (nI 5))) && !decide (n = 30) then upd sv n x3 else sv) (if (ob_wi x1 (nI 0) (nI 4) && (ob_wi x2 (nI 0) (nI 10000) && ob_wi x3 (nI 0) (nI 5))) && !decide (n = 30) then upd pb n (ob_bi b4) else pb) wf wa ro ah ct mn ms mf mt mp cn sd V (nI (ob_z2 (ob_wi x1 (nI 0) (nI 4) && (ob_wi x2 (nI 0) (nI 10000) && ob_wi x3 (nI 0) (nI 5))) (!decide (n = 30)))) ++ ob_wU t au (if z = 0 then vp_updL ov 0 u9.toInt64 else ov)) := ob_dXOLMCRU hD
  generalize H1 = H at hP hS ⊢
  have hth : nI (ob_z2 (ob_wi x1 (nI 0) (nI 4) && (ob_wi x2 (nI 0) (nI 10000) && ob_wi x3 (nI 0) (nI 5))) (!decide (n = 30))) = nI z := congrArg nI hz.symm
  rw [hth] at hP
  have hP : va_P D vwCl (ob_wX ax ao al am ac ++ ob_wO t ao M ++ ob_wL t al (if z = 0 then n + 1 else n) (if z = 0 then upd cl n x1 else cl) (if z = 0 then upd rd n x2 else rd) (if z = 0 then upd sv n x3 else sv) (if z = 0 then upd pb n (ob_bi b4) else pb) ba (if z = 0 then ob_bf2 M (upd cl n x1) (upd rd n x2) (n + 1) bf (n + 1) else bf) (if z = 0 then ob_od2 (ob_bf2 M (upd cl n x1) (upd rd n x2) (n + 1) bf (n + 1)) (n + 1) od (n + 1) else od) bg ++ ob_wM t am mn ms mf mt mp ++ ob_wC t ac cn st Wt ++ ob_wR t ar Bd Tr (if (ob_wi x1 (nI 0) (nI 4) && (ob_wi x2 (nI 0) (nI 10000) && ob_wi x3 (nI 0) (nI 5))) && !decide (n = 30) then n + 1 else n) (if (ob_wi x1 (nI 0) (nI 4) && (ob_wi x2 (nI 0) (nI 10000) && ob_wi x3 (nI 0) (nI 5))) && !decide (n = 30) then upd cl n x1 else cl) (if (ob_wi x1 (nI 0) (nI 4) && (ob_wi x2 (nI 0) (nI 10000) && ob_wi x3 (nI 0) (nI 5))) && !decide (n = 30) then upd rd n x2 else rd) (if (ob_wi x1 (nI 0) (nI 4) && (ob_wi x2 (nI 0) (nI 10000) && ob_wi x3 (nI 0) (nI 5))) && !decide (n = 30) then upd sv n x3 else sv) (if (ob_wi x1 (nI 0) (nI 4) && (ob_wi x2 (nI 0) (nI 10000) && ob_wi x3 (nI 0) (nI 5))) && !decide (n = 30) then upd pb n (ob_bi b4) else pb) wf wa ro ah ct mn ms mf mt mp cn sd V (nI z) ++ ob_wU t au (if z = 0 then vp_updL ov 0 u9.toInt64 else ov)) H := hP
  have e9 : z = 0 → r8 = u9 := fun h0 => hw8.trans ((hq.2.2 h0).trans (hp9 h0).symm)
  refine lv_istore (lv' := [(6, .int r8), (5, .int (nI z)), (0, .ref b), (1, .ref ax), (2, .ref (ar 0)), (3, .ref au), (4, .int (nI (6 * k)))]) hx hb dL_law_367 hl (by decide) rfl (fun ls hl => ?_)
  refine lv_aload_n hx hb dL_law_369 rfl (lv_at hl 4 rfl) ?_
  refine vp_callSi (va_Run.run (va_runV (As := []) (rest := []) ⟨hx, hb, hml, hown, hts⟩ (c_X5_thrown l D t ar Bd Tr (if (ob_wi x1 (nI 0) (nI 4) && (ob_wi x2 (nI 0) (nI 10000) && ob_wi x3 (nI 0) (nI 5))) && !decide (n = 30) then n + 1 else n) (if (ob_wi x1 (nI 0) (nI 4) && (ob_wi x2 (nI 0) (nI 10000) && ob_wi x3 (nI 0) (nI 5))) && !decide (n = 30) then upd cl n x1 else cl) (if (ob_wi x1 (nI 0) (nI 4) && (ob_wi x2 (nI 0) (nI 10000) && ob_wi x3 (nI 0) (nI 5))) && !decide (n = 30) then upd rd n x2 else rd) (if (ob_wi x1 (nI 0) (nI 4) && (ob_wi x2 (nI 0) (nI 10000) && ob_wi x3 (nI 0) (nI 5))) && !decide (n = 30) then upd sv n x3 else sv) (if (ob_wi x1 (nI 0) (nI 4) && (ob_wi x2 (nI 0) (nI 10000) && ob_wi x3 (nI 0) (nI 5))) && !decide (n = 30) then upd pb n (ob_bi b4) else pb) wf wa ro ah ct mn ms mf mt mp cn sd V (nI z)) (cwV 0 hts gL_law_X5_thrown rfl rfl rfl (by decide +kernel) ⟨Nat.le_of_ble_eq_true rfl, Nat.le_of_ble_eq_true rfl⟩) (ob_preV (ci := 5) (q0 := 0) (hP.sub [40, 41, 42, 43, 44, 45, 46, 47, 48, 49, 50, 51, 52, 53, 54, 55, 56, 57] rfl) hk rfl rfl) rfl rfl hl.1 rfl (lv_room (Nat.le_of_ble_eq_true rfl)) dL_law_370 ⟨show Kc + 1 + 0 + 0 ≤ 601024 by omega, show Ks + 6 + 0 + 0 ≤ 7293034 by omega⟩)) (fun r7 hr7 => ?_)
  subst hr7
  refine lv_iload hx hb dL_law_373 (lv_at hl 1 rfl) ?_
  refine lv_icmp_eq (tgt := 380) hx hb dL_law_375 (by decide) (fun _ => ?_) (fun c9 => absurd rfl c9)
  refine lv_iload hx hb dL_law_380 (lv_at hl 1 rfl) ?_
  have fin : W p l e room_1 s m #[Value.ref b] below meth c H locs (Kc + 1) (Ks + 6) Q (F0 m 397 ls []) := by
    refine lv_goto (tgt := 1415) hx hb dL_law_397 (by decide) ?_
    exact nx _ _ _ ⟨_, _, _, _, _, _, _, _, _, _, _, _, _, _, _, _, _, _, _, _, _, _, _, _, _, _, _, _, _, _, _, _, _, _, _, _, _, _, _, _, hP, hq.2.1, hM, hC⟩ hS (lv_sub hl [2, 3, 4, 5, 6] rfl)
  refine lv_if_ne (tgt := 397) hx hb dL_law_382 (by decide) (fun _ => fin) (fun c9 => ?_)
  have hz0 := ob_z0 hz3 c9
  refine lv_aload_n hx hb dL_law_385 rfl (lv_at hl 5 rfl) ?_
  refine lv_iconst (v := nI 0) hx hb dL_law_386 (by decide) ?_
  refine ob_lald hx hb hK hP 58 1 rfl rfl (show 0 < 1 by decide) (by decide) dL_law_387 ?_
  rw [show (if z = 0 then vp_updL ov 0 u9.toInt64 else ov : Nat → Int64) 0 = u9.toInt64 from by rw [if_pos hz0]; exact if_pos rfl]
  refine lv_iload hx hb dL_law_388 (lv_at hl 0 rfl) ?_
  refine lv_i2l (v := r8.toInt64) hx hb dL_law_390 rfl ?_
  refine ob_lcmp hx hb dL_law_391 (by rw [e9 hz0]) ?_
  exact lv_if_eq (tgt := 397) hx hb dL_law_392 (by decide) (fun _ => fin) (fun c8 => absurd rfl c8)

set_option maxRecDepth 100000 in
set_option maxHeartbeats 8000000 in
theorem ob_jlines {p : Program} {l : Launch} {e : Env} {s : State} {m : MethodId} {below : List Frame} {meth : Method} {c : Code} {b L : Nat} {xs : Nat → Int32} {D : va_G} {t : Nat → ClassId} {sa : Nat → Nat} {ax : Nat} {ao al am ac ar : Nat → Nat} {au : Nat} {k Kc Ks : Nat} {Q : State → Prop} (C0 : ob_At p l s m c b L xs D t sa) (hD0 : va_D (fun q : Nat => s.heap.size ≤ q) (ob_wX ax ao al am ac ++ ob_wO t ao (fun _ _ => 0) ++ ob_wL t al 0 (fun _ => 0) (fun _ => 0) (fun _ => 0) (fun _ => 0) (fun _ => 0) (fun _ => 0) (fun _ => 0) (fun _ => 0) ++ ob_wM t am 0 (fun _ => 0) (fun _ => 0) (fun _ => 0) (fun _ => 0) ++ ob_wC t ac 0 0 (fun _ _ => 0) ++ ob_wR t ar (fun _ => 0) (fun _ => 0) 0 (fun _ => 0) (fun _ => 0) (fun _ => 0) (fun _ => 0) (fun _ => 0) (fun _ => 0) (fun _ => 0) (fun _ => 0) (fun _ => 0) 0 (fun _ => 0) (fun _ => 0) (fun _ => 0) (fun _ => 0) 0 (fun _ => 0) (fun _ => 0) 0 ++ ob_wU t au (fun _ => 0))) (hk6 : 6 * k + 6 ≤ L) (hKc : Kc + 1 ≤ 601024) (hKs : Ks + 6 ≤ 7293034)
    (nx : ∀ (H : Heap) (locs : List Loc) (ls : Array Slot), ob_St D t ax ao al am ac ar au (k + 1) H → va_S (fun q : Nat => s.heap.size ≤ q) s.heap H locs → lv_has ls 8 [(0, .ref b), (1, .ref ax), (2, .ref (ar 0)), (3, .ref au), (4, .int (nI (6 * k)))] → W p l e room_1 s m #[Value.ref b] below meth c H locs (Kc + 1) (Ks + 6) Q (F0 m 1415 ls []))
    {H : Heap} {locs : List Loc} {ls : Array Slot} (hI : ob_St D t ax ao al am ac ar au k H) (hS : va_S (fun q : Nat => s.heap.size ≤ q) s.heap H locs) (hl : lv_has ls 8 [(0, .ref b), (1, .ref ax), (2, .ref (ar 0)), (3, .ref au), (4, .int (nI (6 * k)))]) : W p l e room_1 s m #[Value.ref b] below meth c H locs Kc Ks Q (F0 m 400 ls []) := by
  obtain ⟨hx, hb, hml, hown, hts, hX, hbl, hk, hE0, hN, hl9, hL3⟩ := C0
  obtain ⟨M, n, cl, rd, sv, pb, ba, bf, od, bg, mn, ms, mf, mt, mp, cn, st, Wt, Bd, Tr, rn, rcl, rrd, rsv, rpb, wf, wa, ro, ah, ct, rmn, rms, rmf, rmt, rmp, rcn, sd, V, th, ov, hP, hL, hM, hC⟩ := hI
  obtain ⟨rfl, rfl, rfl, rfl, rfl, h6, h7, h8, h9, h10, h11, h12, h13⟩ := id hL
  obtain ⟨rfl, rfl, rfl, rfl, rfl, hmn, hmm⟩ := id hM
  obtain ⟨rfl, hcn, hWV, hVz, hsd, hst⟩ := id hC
  have hkk : k ≤ 1000 := by omega
  have hbA : ¬ (fun q : Nat => s.heap.size ≤ q) b := Nat.not_le.mpr hbl
  have hA : ∀ q : Nat, s.heap.size ≤ q → (fun q : Nat => s.heap.size ≤ q) q := fun _ h => h
  have hK := hk.1
  have hE := ob_exK hE0 hS
  have hP : va_P D vwCl (ob_wX ax ao al am ac ++ ob_wO t ao M ++ ob_wL t al n cl rd sv pb ba bf od bg ++ ob_wM t am mn ms mf mt mp ++ ob_wC t ac cn st Wt ++ ob_wR t ar Bd Tr n cl rd sv pb wf wa ro ah ct mn ms mf mt mp cn sd V th ++ ob_wU t au ov) H := hP
  have hD : va_D (fun q : Nat => s.heap.size ≤ q) (ob_wX ax ao al am ac ++ ob_wO t ao M ++ ob_wL t al n cl rd sv pb ba bf od bg ++ ob_wM t am mn ms mf mt mp ++ ob_wC t ac cn st Wt ++ ob_wR t ar Bd Tr n cl rd sv pb wf wa ro ah ct mn ms mf mt mp cn sd V th ++ ob_wU t au ov) := ob_dXOLMCRU hD0
  refine lv_aload_n hx hb dL_law_400 rfl (lv_at hl 1 rfl) ?_
  refine vp_callSi (va_Run.run (va_runV (As := []) (rest := []) ⟨hx, hb, hml, hown, hts⟩ (c_X4_lines l D t ax ao al am ac n cl rd sv pb ba bf od bg) (cwV 0 hts gL_law_X4_lines rfl rfl rfl (by decide +kernel) ⟨Nat.le_of_ble_eq_true rfl, Nat.le_of_ble_eq_true rfl⟩) (ob_preV (ci := 4) (q0 := 0) (hP.sub [0, 8, 9, 10, 11, 12, 13, 14, 15, 16] rfl) hk rfl rfl) rfl rfl hl.1 rfl (lv_room (Nat.le_of_ble_eq_true rfl)) dL_law_401 ⟨show Kc + 0 ≤ 601024 by omega, show Ks + 0 ≤ 7293034 by omega⟩)) (fun r9 hr9 => ?_)
  subst hr9
  refine lv_aload_n hx hb dL_law_404 rfl (lv_at hl 2 rfl) ?_
  have hFc := va_free (wc := ob_wR t ar Bd Tr n cl rd sv pb wf wa ro ah ct mn ms mf mt mp cn sd V th) hD hS hA [40, 41, 42, 43, 44, 45, 46, 47, 48, 49, 50, 51, 52, 53, 54, 55, 56, 57] rfl
  refine va_calli (va_runV (As := []) (rest := [.int (nI n)]) ⟨hx, hb, hml, hown, hts⟩ (c_X5_lines l D t H.size ar Bd Tr n cl rd sv pb wf wa ro ah ct mn ms mf mt mp cn sd V th) (cwV 0 hts gL_law_X5_lines rfl rfl rfl (by decide +kernel) ⟨Nat.le_of_ble_eq_true rfl, Nat.le_of_ble_eq_true rfl⟩) (ob_pmV (ci := 5) (q0 := 0) (hP.sub [40, 41, 42, 43, 44, 45, 46, 47, 48, 49, 50, 51, 52, 53, 54, 55, 56, 57] rfl) (hD.sub [40, 41, 42, 43, 44, 45, 46, 47, 48, 49, 50, 51, 52, 53, 54, 55, 56, 57] (by decide) rfl) hk rfl rfl) rfl rfl hl.1 rfl (lv_room (Nat.le_of_ble_eq_true rfl)) dL_law_405 ⟨show Kc + 0 ≤ 601024 by omega, show Ks + 0 ≤ 7293034 by omega⟩) hS (fun q _ h => hFc q h) hFc (fun r8 u8 t9 H1 locs ht hvm hw8 hB hz1 hk1 hS => ?_)
  rw [ht] at hB
  have hP := ob_jn (ws' := ob_wX ax ao al am ac ++ ob_wO t ao M ++ ob_wL t al n cl rd sv pb ba bf od bg ++ ob_wM t am mn ms mf mt mp ++ ob_wC t ac cn st Wt ++ ob_wR t ar Bd Tr n cl rd sv pb wf wa ro ah ct mn ms mf mt mp cn sd V (nI 0) ++ ob_wU t au ov) hP hD [none, none, none, none, none, none, none, none, none, none, none, none, none, none, none, none, none, none, none, none, none, none, none, none, none, none, none, none, none, none, none, none, none, none, none, none, none, none, none, none, some 0, some 1, some 2, some 3, some 4, some 5, some 6, some 7, some 8, some 9, some 10, some 11, some 12, some 13, some 14, some 15, some 16, some 17, none] [40, 41, 42, 43, 44, 45, 46, 47, 48, 49, 50, 51, 52, 53, 54, 55, 56, 57] rfl rfl hk1 hB rfl
  have hD : va_D (fun q : Nat => s.heap.size ≤ q) (ob_wX ax ao al am ac ++ ob_wO t ao M ++ ob_wL t al n cl rd sv pb ba bf od bg ++ ob_wM t am mn ms mf mt mp ++ ob_wC t ac cn st Wt ++ ob_wR t ar Bd Tr n cl rd sv pb wf wa ro ah ct mn ms mf mt mp cn sd V (nI 0) ++ ob_wU t au ov) := ob_dXOLMCRU hD
  generalize H1 = H at hP hS ⊢
  refine lv_icmp_eq (tgt := 1415) hx hb dL_law_408 (by decide) (fun _ => ?_) (fun c9 => absurd ((rfl).trans hw8.symm) c9)
  refine W.widen (k := Kc + 1) (n := Ks + 6) (by omega) (by omega) ?_
  exact nx _ _ _ ⟨_, _, _, _, _, _, _, _, _, _, _, _, _, _, _, _, _, _, _, _, _, _, _, _, _, _, _, _, _, _, _, _, _, _, _, _, _, _, _, _, hP, (ob_IL_s hL), hM, hC⟩ hS (lv_sub hl [0, 1, 2, 3, 4] rfl)

set_option maxRecDepth 100000 in
set_option maxHeartbeats 8000000 in
theorem ob_jmustComeBefore {p : Program} {l : Launch} {e : Env} {s : State} {m : MethodId} {below : List Frame} {meth : Method} {c : Code} {b L : Nat} {xs : Nat → Int32} {D : va_G} {t : Nat → ClassId} {sa : Nat → Nat} {ax : Nat} {ao al am ac ar : Nat → Nat} {au : Nat} {k Kc Ks : Nat} {Q : State → Prop} (C0 : ob_At p l s m c b L xs D t sa) (hD0 : va_D (fun q : Nat => s.heap.size ≤ q) (ob_wX ax ao al am ac ++ ob_wO t ao (fun _ _ => 0) ++ ob_wL t al 0 (fun _ => 0) (fun _ => 0) (fun _ => 0) (fun _ => 0) (fun _ => 0) (fun _ => 0) (fun _ => 0) (fun _ => 0) ++ ob_wM t am 0 (fun _ => 0) (fun _ => 0) (fun _ => 0) (fun _ => 0) ++ ob_wC t ac 0 0 (fun _ _ => 0) ++ ob_wR t ar (fun _ => 0) (fun _ => 0) 0 (fun _ => 0) (fun _ => 0) (fun _ => 0) (fun _ => 0) (fun _ => 0) (fun _ => 0) (fun _ => 0) (fun _ => 0) (fun _ => 0) 0 (fun _ => 0) (fun _ => 0) (fun _ => 0) (fun _ => 0) 0 (fun _ => 0) (fun _ => 0) 0 ++ ob_wU t au (fun _ => 0))) (hk6 : 6 * k + 6 ≤ L) (hKc : Kc + 1 ≤ 601024) (hKs : Ks + 6 ≤ 7293034)
    (nx : ∀ (H : Heap) (locs : List Loc) (ls : Array Slot), ob_St D t ax ao al am ac ar au (k + 1) H → va_S (fun q : Nat => s.heap.size ≤ q) s.heap H locs → lv_has ls 8 [(0, .ref b), (1, .ref ax), (2, .ref (ar 0)), (3, .ref au), (4, .int (nI (6 * k)))] → W p l e room_1 s m #[Value.ref b] below meth c H locs (Kc + 1) (Ks + 6) Q (F0 m 1415 ls []))
    {H : Heap} {locs : List Loc} {ls : Array Slot} (hI : ob_St D t ax ao al am ac ar au k H) (hS : va_S (fun q : Nat => s.heap.size ≤ q) s.heap H locs) (hl : lv_has ls 8 [(0, .ref b), (1, .ref ax), (2, .ref (ar 0)), (3, .ref au), (4, .int (nI (6 * k)))]) : W p l e room_1 s m #[Value.ref b] below meth c H locs Kc Ks Q (F0 m 413 ls []) := by
  obtain ⟨hx, hb, hml, hown, hts, hX, hbl, hk, hE0, hN, hl9, hL3⟩ := C0
  obtain ⟨M, n, cl, rd, sv, pb, ba, bf, od, bg, mn, ms, mf, mt, mp, cn, st, Wt, Bd, Tr, rn, rcl, rrd, rsv, rpb, wf, wa, ro, ah, ct, rmn, rms, rmf, rmt, rmp, rcn, sd, V, th, ov, hP, hL, hM, hC⟩ := hI
  obtain ⟨rfl, rfl, rfl, rfl, rfl, h6, h7, h8, h9, h10, h11, h12, h13⟩ := id hL
  obtain ⟨rfl, rfl, rfl, rfl, rfl, hmn, hmm⟩ := id hM
  obtain ⟨rfl, hcn, hWV, hVz, hsd, hst⟩ := id hC
  have hkk : k ≤ 1000 := by omega
  have hbA : ¬ (fun q : Nat => s.heap.size ≤ q) b := Nat.not_le.mpr hbl
  have hA : ∀ q : Nat, s.heap.size ≤ q → (fun q : Nat => s.heap.size ≤ q) q := fun _ h => h
  have hK := hk.1
  have hE := ob_exK hE0 hS
  have hP : va_P D vwCl (ob_wX ax ao al am ac ++ ob_wO t ao M ++ ob_wL t al n cl rd sv pb ba bf od bg ++ ob_wM t am mn ms mf mt mp ++ ob_wC t ac cn st Wt ++ ob_wR t ar Bd Tr n cl rd sv pb wf wa ro ah ct mn ms mf mt mp cn sd V th ++ ob_wU t au ov) H := hP
  have hD : va_D (fun q : Nat => s.heap.size ≤ q) (ob_wX ax ao al am ac ++ ob_wO t ao M ++ ob_wL t al n cl rd sv pb ba bf od bg ++ ob_wM t am mn ms mf mt mp ++ ob_wC t ac cn st Wt ++ ob_wR t ar Bd Tr n cl rd sv pb wf wa ro ah ct mn ms mf mt mp cn sd V th ++ ob_wU t au ov) := ob_dXOLMCRU hD0
  obtain ⟨x1, ex1⟩ : ∃ z, z = xs (6 * k + 1) := ⟨_, rfl⟩
  obtain ⟨x2, ex2⟩ : ∃ z, z = xs (6 * k + 2) := ⟨_, rfl⟩
  obtain ⟨z, hz⟩ : ∃ z, z = ob_z1 (ob_hd n x1 && ob_hd n x2) := ⟨_, rfl⟩
  have hz3 : z ≤ 3 := (by rw [hz]; exact ob_z1_3 _)
  refine lv_aload_n hx hb dL_law_413 rfl (lv_at hl 1 rfl) ?_
  refine ob_ldp hx hb hX hbl hbA hS (j := 1) ex1.symm (by omega) (by omega) (by decide) (lv_at hl 0 rfl) (lv_at hl 4 rfl) dL_law_414 dL_law_415 dL_law_417 dL_law_418 dL_law_419 ?_
  refine ob_ldp hx hb hX hbl hbA hS (j := 2) ex2.symm (by omega) (by omega) (by decide) (lv_at hl 0 rfl) (lv_at hl 4 rfl) dL_law_420 dL_law_421 dL_law_423 dL_law_424 dL_law_425 ?_
  refine lv_aload_n hx hb dL_law_426 rfl (lv_at hl 3 rfl) ?_
  have hFc := va_free (wc := ob_wX ax ao al am ac ++ ob_wL t al n cl rd sv pb ba bf od bg ++ ob_wU t au ov) hD hS hA [0, 8, 9, 10, 11, 12, 13, 14, 15, 16, 58] rfl
  refine va_calli (ob_runN (vx_runSX (As := [.ref ax, .int x1, .int x2, .ref au]) (rest := []) ⟨hx, hb, hml, hown, hts⟩ (c_L_mustComeBefore l hl9 sa D t H.size ax ao al am ac n cl rd sv pb ba bf od bg x1 x2 au ov z h6 (hz.symm)) (vx_cwSW 4 hts gL_law_L_mustComeBefore rfl rfl rfl (by decide +kernel) ⟨Nat.le_of_ble_eq_true rfl, Nat.le_of_ble_eq_true rfl⟩) (ob_pyS (hP.sub [0, 8, 9, 10, 11, 12, 13, 14, 15, 16, 58] rfl) (hD.sub [0, 8, 9, 10, 11, 12, 13, 14, 15, 16, 58] (by decide) rfl) hk hE hN) rfl rfl hl.1 rfl (lv_room (Nat.le_of_ble_eq_true rfl)) dL_law_427 ⟨show Kc + 1 ≤ 601024 from hKc, show Ks + 6 ≤ 7293034 from hKs⟩)) hS (fun q _ h => hFc q h) hFc (fun r9 u9 t9 H1 locs ht hvm hw9 hB hz1 hk1 hS => ?_)
  obtain ⟨rfl, hp9⟩ := hw9
  rw [ht] at hB
  have hP := ob_jn (ws' := ob_wX ax ao al am ac ++ ob_wO t ao M ++ ob_wL t al n cl rd sv pb ba bf od bg ++ ob_wM t am mn ms mf mt mp ++ ob_wC t ac cn st Wt ++ ob_wR t ar Bd Tr n cl rd sv pb wf wa ro ah ct mn ms mf mt mp cn sd V th ++ ob_wU t au (if z = 0 then vp_updL ov 0 (if u9 then lN 1 else lN 0) else ov)) hP hD [some 0, none, none, none, none, none, none, none, some 1, some 2, some 3, some 4, some 5, some 6, some 7, some 8, some 9, none, none, none, none, none, none, none, none, none, none, none, none, none, none, none, none, none, none, none, none, none, none, none, none, none, none, none, none, none, none, none, none, none, none, none, none, none, none, none, none, none, some 10] [0, 8, 9, 10, 11, 12, 13, 14, 15, 16, 58] rfl rfl hk1 hB rfl
  have hD : va_D (fun q : Nat => s.heap.size ≤ q) (ob_wX ax ao al am ac ++ ob_wO t ao M ++ ob_wL t al n cl rd sv pb ba bf od bg ++ ob_wM t am mn ms mf mt mp ++ ob_wC t ac cn st Wt ++ ob_wR t ar Bd Tr n cl rd sv pb wf wa ro ah ct mn ms mf mt mp cn sd V th ++ ob_wU t au (if z = 0 then vp_updL ov 0 (if u9 then lN 1 else lN 0) else ov)) := ob_dXOLMCRU hD
  generalize H1 = H at hP hS ⊢
  refine lv_istore (lv' := [(5, .int (nI z)), (0, .ref b), (1, .ref ax), (2, .ref (ar 0)), (3, .ref au), (4, .int (nI (6 * k)))]) hx hb dL_law_430 hl (by decide) rfl (fun ls hl => ?_)
  refine lv_aload_n hx hb dL_law_432 rfl (lv_at hl 3 rfl) ?_
  refine ob_ldp hx hb hX hbl hbA hS (j := 1) ex1.symm (by omega) (by omega) (by decide) (lv_at hl 1 rfl) (lv_at hl 5 rfl) dL_law_433 dL_law_434 dL_law_436 dL_law_437 dL_law_438 ?_
  refine ob_ldp hx hb hX hbl hbA hS (j := 2) ex2.symm (by omega) (by omega) (by decide) (lv_at hl 1 rfl) (lv_at hl 5 rfl) dL_law_439 dL_law_440 dL_law_442 dL_law_443 dL_law_444 ?_
  have hFc := va_free (wc := ob_wR t ar Bd Tr n cl rd sv pb wf wa ro ah ct mn ms mf mt mp cn sd V th) hD hS hA [40, 41, 42, 43, 44, 45, 46, 47, 48, 49, 50, 51, 52, 53, 54, 55, 56, 57] rfl
  refine va_calli (va_runV (As := [.int x1, .int x2]) (rest := []) ⟨hx, hb, hml, hown, hts⟩ (c_X5_mustComeBefore l D t H.size ar Bd Tr n cl rd sv pb wf wa ro ah ct mn ms mf mt mp cn sd V th (ob_kc cl) x1 x2 h6 h9) (cwV 2 hts gL_law_X5_mustComeBefore rfl rfl rfl (by decide +kernel) ⟨Nat.le_of_ble_eq_true rfl, Nat.le_of_ble_eq_true rfl⟩) (ob_pmV (ci := 5) (q0 := 0) (hP.sub [40, 41, 42, 43, 44, 45, 46, 47, 48, 49, 50, 51, 52, 53, 54, 55, 56, 57] rfl) (hD.sub [40, 41, 42, 43, 44, 45, 46, 47, 48, 49, 50, 51, 52, 53, 54, 55, 56, 57] (by decide) rfl) hk rfl rfl) rfl rfl hl.1 rfl (lv_room (Nat.le_of_ble_eq_true rfl)) dL_law_445 ⟨show Kc + 1 + 0 ≤ 601024 by omega, show Ks + 6 + 0 ≤ 7293034 by omega⟩) hS (fun q _ h => hFc q h) hFc (fun r8 u8 t9 H1 locs ht hvm hw8 hB hz1 hk1 hS => ?_)
  rw [ht] at hB
  have hP := ob_jn (ws' := ob_wX ax ao al am ac ++ ob_wO t ao M ++ ob_wL t al n cl rd sv pb ba bf od bg ++ ob_wM t am mn ms mf mt mp ++ ob_wC t ac cn st Wt ++ ob_wR t ar Bd Tr n cl rd sv pb wf wa ro ah ct mn ms mf mt mp cn sd V (nI (ob_z1 (ob_hd n x1 && ob_hd n x2))) ++ ob_wU t au (if z = 0 then vp_updL ov 0 (if u9 then lN 1 else lN 0) else ov)) hP hD [none, none, none, none, none, none, none, none, none, none, none, none, none, none, none, none, none, none, none, none, none, none, none, none, none, none, none, none, none, none, none, none, none, none, none, none, none, none, none, none, some 0, some 1, some 2, some 3, some 4, some 5, some 6, some 7, some 8, some 9, some 10, some 11, some 12, some 13, some 14, some 15, some 16, some 17, none] [40, 41, 42, 43, 44, 45, 46, 47, 48, 49, 50, 51, 52, 53, 54, 55, 56, 57] rfl rfl hk1 hB rfl
  have hD : va_D (fun q : Nat => s.heap.size ≤ q) (ob_wX ax ao al am ac ++ ob_wO t ao M ++ ob_wL t al n cl rd sv pb ba bf od bg ++ ob_wM t am mn ms mf mt mp ++ ob_wC t ac cn st Wt ++ ob_wR t ar Bd Tr n cl rd sv pb wf wa ro ah ct mn ms mf mt mp cn sd V (nI (ob_z1 (ob_hd n x1 && ob_hd n x2))) ++ ob_wU t au (if z = 0 then vp_updL ov 0 (if u9 then lN 1 else lN 0) else ov)) := ob_dXOLMCRU hD
  generalize H1 = H at hP hS ⊢
  have hth : nI (ob_z1 (ob_hd n x1 && ob_hd n x2)) = nI z := congrArg nI hz.symm
  rw [hth] at hP
  have hP : va_P D vwCl (ob_wX ax ao al am ac ++ ob_wO t ao M ++ ob_wL t al n cl rd sv pb ba bf od bg ++ ob_wM t am mn ms mf mt mp ++ ob_wC t ac cn st Wt ++ ob_wR t ar Bd Tr n cl rd sv pb wf wa ro ah ct mn ms mf mt mp cn sd V (nI z) ++ ob_wU t au (if z = 0 then vp_updL ov 0 (if u9 then lN 1 else lN 0) else ov)) H := hP
  subst hw8
  refine lv_istore (lv' := [(6, .int (ob_bi ((ob_hd n x1 && ob_hd n x2) && ob_sb Bd (ob_kc cl) rd x1.toNatClampNeg x2.toNatClampNeg))), (5, .int (nI z)), (0, .ref b), (1, .ref ax), (2, .ref (ar 0)), (3, .ref au), (4, .int (nI (6 * k)))]) hx hb dL_law_448 hl (by decide) rfl (fun ls hl => ?_)
  have e9 : z = 0 → ((ob_hd n x1 && ob_hd n x2) && ob_sb Bd (ob_kc cl) rd x1.toNatClampNeg x2.toNatClampNeg) = u9 := fun h0 => (ob_q_mustComeBefore hL (hz.symm.trans h0)).trans (hp9 h0).symm
  refine lv_aload_n hx hb dL_law_450 rfl (lv_at hl 4 rfl) ?_
  refine vp_callSi (va_Run.run (va_runV (As := []) (rest := []) ⟨hx, hb, hml, hown, hts⟩ (c_X5_thrown l D t ar Bd Tr n cl rd sv pb wf wa ro ah ct mn ms mf mt mp cn sd V (nI z)) (cwV 0 hts gL_law_X5_thrown rfl rfl rfl (by decide +kernel) ⟨Nat.le_of_ble_eq_true rfl, Nat.le_of_ble_eq_true rfl⟩) (ob_preV (ci := 5) (q0 := 0) (hP.sub [40, 41, 42, 43, 44, 45, 46, 47, 48, 49, 50, 51, 52, 53, 54, 55, 56, 57] rfl) hk rfl rfl) rfl rfl hl.1 rfl (lv_room (Nat.le_of_ble_eq_true rfl)) dL_law_451 ⟨show Kc + 1 + 0 + 0 ≤ 601024 by omega, show Ks + 6 + 0 + 0 ≤ 7293034 by omega⟩)) (fun r7 hr7 => ?_)
  subst hr7
  refine lv_iload hx hb dL_law_454 (lv_at hl 1 rfl) ?_
  refine lv_icmp_eq (tgt := 461) hx hb dL_law_456 (by decide) (fun _ => ?_) (fun c9 => absurd rfl c9)
  refine lv_iload hx hb dL_law_461 (lv_at hl 1 rfl) ?_
  have fin : W p l e room_1 s m #[Value.ref b] below meth c H locs (Kc + 1) (Ks + 6) Q (F0 m 485 ls []) := by
    refine lv_goto (tgt := 1415) hx hb dL_law_485 (by decide) ?_
    exact nx _ _ _ ⟨_, _, _, _, _, _, _, _, _, _, _, _, _, _, _, _, _, _, _, _, _, _, _, _, _, _, _, _, _, _, _, _, _, _, _, _, _, _, _, _, hP, (ob_IL_s hL), hM, hC⟩ hS (lv_sub hl [2, 3, 4, 5, 6] rfl)
  refine lv_if_ne (tgt := 485) hx hb dL_law_463 (by decide) (fun _ => fin) (fun c9 => ?_)
  have hz0 := ob_z0 hz3 c9
  refine lv_aload_n hx hb dL_law_466 rfl (lv_at hl 5 rfl) ?_
  refine lv_iconst (v := nI 0) hx hb dL_law_467 (by decide) ?_
  refine ob_lald hx hb hK hP 58 1 rfl rfl (show 0 < 1 by decide) (by decide) dL_law_468 ?_
  rw [show (if z = 0 then vp_updL ov 0 (if u9 then lN 1 else lN 0) else ov : Nat → Int64) 0 = (if u9 then lN 1 else lN 0) from by rw [if_pos hz0]; exact if_pos rfl]
  refine lv_iload hx hb dL_law_469 (lv_at hl 0 rfl) ?_
  refine ob_if_eq (tgt := 478) hx hb dL_law_471 (by decide) (fun c7 => ?_) (fun c7 => ?_)
  · refine lv_lconst (v := lN 0) hx hb dL_law_478 rfl ?_
    refine ob_lcmp hx hb dL_law_479 (by rw [← e9 hz0, c7]; rfl) ?_
    exact lv_if_eq (tgt := 485) hx hb dL_law_480 (by decide) (fun _ => fin) (fun c8 => absurd rfl c8)
  · refine lv_lconst (v := lN 1) hx hb dL_law_474 rfl ?_
    refine lv_goto (tgt := 479) hx hb dL_law_475 (by decide) ?_
    refine ob_lcmp hx hb dL_law_479 (by rw [← e9 hz0, c7]; rfl) ?_
    exact lv_if_eq (tgt := 485) hx hb dL_law_480 (by decide) (fun _ => fin) (fun c8 => absurd rfl c8)

set_option maxRecDepth 100000 in
set_option maxHeartbeats 8000000 in
theorem ob_jlineAt {p : Program} {l : Launch} {e : Env} {s : State} {m : MethodId} {below : List Frame} {meth : Method} {c : Code} {b L : Nat} {xs : Nat → Int32} {D : va_G} {t : Nat → ClassId} {sa : Nat → Nat} {ax : Nat} {ao al am ac ar : Nat → Nat} {au : Nat} {k Kc Ks : Nat} {Q : State → Prop} (C0 : ob_At p l s m c b L xs D t sa) (hD0 : va_D (fun q : Nat => s.heap.size ≤ q) (ob_wX ax ao al am ac ++ ob_wO t ao (fun _ _ => 0) ++ ob_wL t al 0 (fun _ => 0) (fun _ => 0) (fun _ => 0) (fun _ => 0) (fun _ => 0) (fun _ => 0) (fun _ => 0) (fun _ => 0) ++ ob_wM t am 0 (fun _ => 0) (fun _ => 0) (fun _ => 0) (fun _ => 0) ++ ob_wC t ac 0 0 (fun _ _ => 0) ++ ob_wR t ar (fun _ => 0) (fun _ => 0) 0 (fun _ => 0) (fun _ => 0) (fun _ => 0) (fun _ => 0) (fun _ => 0) (fun _ => 0) (fun _ => 0) (fun _ => 0) (fun _ => 0) 0 (fun _ => 0) (fun _ => 0) (fun _ => 0) (fun _ => 0) 0 (fun _ => 0) (fun _ => 0) 0 ++ ob_wU t au (fun _ => 0))) (hk6 : 6 * k + 6 ≤ L) (hKc : Kc + 1 ≤ 601024) (hKs : Ks + 6 ≤ 7293034)
    (nx : ∀ (H : Heap) (locs : List Loc) (ls : Array Slot), ob_St D t ax ao al am ac ar au (k + 1) H → va_S (fun q : Nat => s.heap.size ≤ q) s.heap H locs → lv_has ls 8 [(0, .ref b), (1, .ref ax), (2, .ref (ar 0)), (3, .ref au), (4, .int (nI (6 * k)))] → W p l e room_1 s m #[Value.ref b] below meth c H locs (Kc + 1) (Ks + 6) Q (F0 m 1415 ls []))
    {H : Heap} {locs : List Loc} {ls : Array Slot} (hI : ob_St D t ax ao al am ac ar au k H) (hS : va_S (fun q : Nat => s.heap.size ≤ q) s.heap H locs) (hl : lv_has ls 8 [(0, .ref b), (1, .ref ax), (2, .ref (ar 0)), (3, .ref au), (4, .int (nI (6 * k)))]) : W p l e room_1 s m #[Value.ref b] below meth c H locs Kc Ks Q (F0 m 488 ls []) := by
  obtain ⟨hx, hb, hml, hown, hts, hX, hbl, hk, hE0, hN, hl9, hL3⟩ := C0
  obtain ⟨M, n, cl, rd, sv, pb, ba, bf, od, bg, mn, ms, mf, mt, mp, cn, st, Wt, Bd, Tr, rn, rcl, rrd, rsv, rpb, wf, wa, ro, ah, ct, rmn, rms, rmf, rmt, rmp, rcn, sd, V, th, ov, hP, hL, hM, hC⟩ := hI
  obtain ⟨rfl, rfl, rfl, rfl, rfl, h6, h7, h8, h9, h10, h11, h12, h13⟩ := id hL
  obtain ⟨rfl, rfl, rfl, rfl, rfl, hmn, hmm⟩ := id hM
  obtain ⟨rfl, hcn, hWV, hVz, hsd, hst⟩ := id hC
  have hkk : k ≤ 1000 := by omega
  have hbA : ¬ (fun q : Nat => s.heap.size ≤ q) b := Nat.not_le.mpr hbl
  have hA : ∀ q : Nat, s.heap.size ≤ q → (fun q : Nat => s.heap.size ≤ q) q := fun _ h => h
  have hK := hk.1
  have hE := ob_exK hE0 hS
  have hP : va_P D vwCl (ob_wX ax ao al am ac ++ ob_wO t ao M ++ ob_wL t al n cl rd sv pb ba bf od bg ++ ob_wM t am mn ms mf mt mp ++ ob_wC t ac cn st Wt ++ ob_wR t ar Bd Tr n cl rd sv pb wf wa ro ah ct mn ms mf mt mp cn sd V th ++ ob_wU t au ov) H := hP
  have hD : va_D (fun q : Nat => s.heap.size ≤ q) (ob_wX ax ao al am ac ++ ob_wO t ao M ++ ob_wL t al n cl rd sv pb ba bf od bg ++ ob_wM t am mn ms mf mt mp ++ ob_wC t ac cn st Wt ++ ob_wR t ar Bd Tr n cl rd sv pb wf wa ro ah ct mn ms mf mt mp cn sd V th ++ ob_wU t au ov) := ob_dXOLMCRU hD0
  obtain ⟨x, ex⟩ : ∃ z, z = xs (6 * k + 1) := ⟨_, rfl⟩
  obtain ⟨z, hz⟩ : ∃ z, z = ob_z1 (ob_hd n x) := ⟨_, rfl⟩
  have hz3 : z ≤ 3 := (by rw [hz]; exact ob_z1_3 _)
  refine lv_aload_n hx hb dL_law_488 rfl (lv_at hl 1 rfl) ?_
  refine ob_ldp hx hb hX hbl hbA hS (j := 1) ex.symm (by omega) (by omega) (by decide) (lv_at hl 0 rfl) (lv_at hl 4 rfl) dL_law_489 dL_law_490 dL_law_492 dL_law_493 dL_law_494 ?_
  refine lv_aload_n hx hb dL_law_495 rfl (lv_at hl 3 rfl) ?_
  have hFc := va_free (wc := ob_wX ax ao al am ac ++ ob_wL t al n cl rd sv pb ba bf od bg ++ ob_wU t au ov) hD hS hA [0, 8, 9, 10, 11, 12, 13, 14, 15, 16, 58] rfl
  refine va_calli (ob_runN (vx_runSX (As := [.ref ax, .int x, .ref au]) (rest := []) ⟨hx, hb, hml, hown, hts⟩ (c_L_lineAt l hl9 sa D t H.size ax ao al am ac n cl rd sv pb ba bf od bg x au ov z h6 (hz.symm)) (vx_cwSW 3 hts gL_law_L_lineAt rfl rfl rfl (by decide +kernel) ⟨Nat.le_of_ble_eq_true rfl, Nat.le_of_ble_eq_true rfl⟩) (ob_pyS (hP.sub [0, 8, 9, 10, 11, 12, 13, 14, 15, 16, 58] rfl) (hD.sub [0, 8, 9, 10, 11, 12, 13, 14, 15, 16, 58] (by decide) rfl) hk hE hN) rfl rfl hl.1 rfl (lv_room (Nat.le_of_ble_eq_true rfl)) dL_law_496 ⟨show Kc + 1 ≤ 601024 from hKc, show Ks + 6 ≤ 7293034 from hKs⟩)) hS (fun q _ h => hFc q h) hFc (fun r9 u9 t9 H1 locs ht hvm hw9 hB hz1 hk1 hS => ?_)
  obtain ⟨rfl, hp9⟩ := hw9
  rw [ht] at hB
  have hP := ob_jn (ws' := ob_wX ax ao al am ac ++ ob_wO t ao M ++ ob_wL t al n cl rd sv pb ba bf od bg ++ ob_wM t am mn ms mf mt mp ++ ob_wC t ac cn st Wt ++ ob_wR t ar Bd Tr n cl rd sv pb wf wa ro ah ct mn ms mf mt mp cn sd V th ++ ob_wU t au (if z = 0 then vp_updL ov 0 u9.toInt64 else ov)) hP hD [some 0, none, none, none, none, none, none, none, some 1, some 2, some 3, some 4, some 5, some 6, some 7, some 8, some 9, none, none, none, none, none, none, none, none, none, none, none, none, none, none, none, none, none, none, none, none, none, none, none, none, none, none, none, none, none, none, none, none, none, none, none, none, none, none, none, none, none, some 10] [0, 8, 9, 10, 11, 12, 13, 14, 15, 16, 58] rfl rfl hk1 hB rfl
  have hD : va_D (fun q : Nat => s.heap.size ≤ q) (ob_wX ax ao al am ac ++ ob_wO t ao M ++ ob_wL t al n cl rd sv pb ba bf od bg ++ ob_wM t am mn ms mf mt mp ++ ob_wC t ac cn st Wt ++ ob_wR t ar Bd Tr n cl rd sv pb wf wa ro ah ct mn ms mf mt mp cn sd V th ++ ob_wU t au (if z = 0 then vp_updL ov 0 u9.toInt64 else ov)) := ob_dXOLMCRU hD
  generalize H1 = H at hP hS ⊢
  refine lv_istore (lv' := [(5, .int (nI z)), (0, .ref b), (1, .ref ax), (2, .ref (ar 0)), (3, .ref au), (4, .int (nI (6 * k)))]) hx hb dL_law_499 hl (by decide) rfl (fun ls hl => ?_)
  refine lv_aload_n hx hb dL_law_501 rfl (lv_at hl 3 rfl) ?_
  refine ob_ldp hx hb hX hbl hbA hS (j := 1) ex.symm (by omega) (by omega) (by decide) (lv_at hl 1 rfl) (lv_at hl 5 rfl) dL_law_502 dL_law_503 dL_law_505 dL_law_506 dL_law_507 ?_
  have hFc := va_free (wc := ob_wR t ar Bd Tr n cl rd sv pb wf wa ro ah ct mn ms mf mt mp cn sd V th) hD hS hA [40, 41, 42, 43, 44, 45, 46, 47, 48, 49, 50, 51, 52, 53, 54, 55, 56, 57] rfl
  refine va_calli (va_runV (As := [.int x]) (rest := []) ⟨hx, hb, hml, hown, hts⟩ (c_X5_lineAt l D t H.size ar Bd Tr n cl rd sv pb wf wa ro ah ct mn ms mf mt mp cn sd V th (ob_kc cl) x h6 h9) (cwV 1 hts gL_law_X5_lineAt rfl rfl rfl (by decide +kernel) ⟨Nat.le_of_ble_eq_true rfl, Nat.le_of_ble_eq_true rfl⟩) (ob_pmV (ci := 5) (q0 := 0) (hP.sub [40, 41, 42, 43, 44, 45, 46, 47, 48, 49, 50, 51, 52, 53, 54, 55, 56, 57] rfl) (hD.sub [40, 41, 42, 43, 44, 45, 46, 47, 48, 49, 50, 51, 52, 53, 54, 55, 56, 57] (by decide) rfl) hk rfl rfl) rfl rfl hl.1 rfl (lv_room (Nat.le_of_ble_eq_true rfl)) dL_law_508 ⟨show Kc + 1 + 0 ≤ 601024 by omega, show Ks + 6 + 0 ≤ 7293034 by omega⟩) hS (fun q _ h => hFc q h) hFc (fun r8 u8 t9 H1 locs ht hvm hw8 hB hz1 hk1 hS => ?_)
  rw [ht] at hB
  have hP := ob_jn (ws' := ob_wX ax ao al am ac ++ ob_wO t ao M ++ ob_wL t al n cl rd sv pb ba bf od bg ++ ob_wM t am mn ms mf mt mp ++ ob_wC t ac cn st Wt ++ ob_wR t ar Bd Tr n cl rd sv pb wf wa (ob_ro2 Bd (ob_kc cl) rd n ro n) ah ct mn ms mf mt mp cn sd V (nI (ob_z1 (ob_hd n x))) ++ ob_wU t au (if z = 0 then vp_updL ov 0 u9.toInt64 else ov)) hP hD [none, none, none, none, none, none, none, none, none, none, none, none, none, none, none, none, none, none, none, none, none, none, none, none, none, none, none, none, none, none, none, none, none, none, none, none, none, none, none, none, some 0, some 1, some 2, some 3, some 4, some 5, some 6, some 7, some 8, some 9, some 10, some 11, some 12, some 13, some 14, some 15, some 16, some 17, none] [40, 41, 42, 43, 44, 45, 46, 47, 48, 49, 50, 51, 52, 53, 54, 55, 56, 57] rfl rfl hk1 hB rfl
  have hD : va_D (fun q : Nat => s.heap.size ≤ q) (ob_wX ax ao al am ac ++ ob_wO t ao M ++ ob_wL t al n cl rd sv pb ba bf od bg ++ ob_wM t am mn ms mf mt mp ++ ob_wC t ac cn st Wt ++ ob_wR t ar Bd Tr n cl rd sv pb wf wa (ob_ro2 Bd (ob_kc cl) rd n ro n) ah ct mn ms mf mt mp cn sd V (nI (ob_z1 (ob_hd n x))) ++ ob_wU t au (if z = 0 then vp_updL ov 0 u9.toInt64 else ov)) := ob_dXOLMCRU hD
  generalize H1 = H at hP hS ⊢
  have hth : nI (ob_z1 (ob_hd n x)) = nI z := congrArg nI hz.symm
  rw [hth] at hP
  have hP : va_P D vwCl (ob_wX ax ao al am ac ++ ob_wO t ao M ++ ob_wL t al n cl rd sv pb ba bf od bg ++ ob_wM t am mn ms mf mt mp ++ ob_wC t ac cn st Wt ++ ob_wR t ar Bd Tr n cl rd sv pb wf wa (ob_ro2 Bd (ob_kc cl) rd n ro n) ah ct mn ms mf mt mp cn sd V (nI z) ++ ob_wU t au (if z = 0 then vp_updL ov 0 u9.toInt64 else ov)) H := hP
  have e9 : z = 0 → r8 = u9 := fun h0 => hw8.trans ((ob_q_lineAt hL (hz.symm.trans h0)).trans (hp9 h0).symm)
  refine lv_istore (lv' := [(6, .int r8), (5, .int (nI z)), (0, .ref b), (1, .ref ax), (2, .ref (ar 0)), (3, .ref au), (4, .int (nI (6 * k)))]) hx hb dL_law_511 hl (by decide) rfl (fun ls hl => ?_)
  refine lv_aload_n hx hb dL_law_513 rfl (lv_at hl 4 rfl) ?_
  refine vp_callSi (va_Run.run (va_runV (As := []) (rest := []) ⟨hx, hb, hml, hown, hts⟩ (c_X5_thrown l D t ar Bd Tr n cl rd sv pb wf wa (ob_ro2 Bd (ob_kc cl) rd n ro n) ah ct mn ms mf mt mp cn sd V (nI z)) (cwV 0 hts gL_law_X5_thrown rfl rfl rfl (by decide +kernel) ⟨Nat.le_of_ble_eq_true rfl, Nat.le_of_ble_eq_true rfl⟩) (ob_preV (ci := 5) (q0 := 0) (hP.sub [40, 41, 42, 43, 44, 45, 46, 47, 48, 49, 50, 51, 52, 53, 54, 55, 56, 57] rfl) hk rfl rfl) rfl rfl hl.1 rfl (lv_room (Nat.le_of_ble_eq_true rfl)) dL_law_514 ⟨show Kc + 1 + 0 + 0 ≤ 601024 by omega, show Ks + 6 + 0 + 0 ≤ 7293034 by omega⟩)) (fun r7 hr7 => ?_)
  subst hr7
  refine lv_iload hx hb dL_law_517 (lv_at hl 1 rfl) ?_
  refine lv_icmp_eq (tgt := 524) hx hb dL_law_519 (by decide) (fun _ => ?_) (fun c9 => absurd rfl c9)
  refine lv_iload hx hb dL_law_524 (lv_at hl 1 rfl) ?_
  have fin : W p l e room_1 s m #[Value.ref b] below meth c H locs (Kc + 1) (Ks + 6) Q (F0 m 541 ls []) := by
    refine lv_goto (tgt := 1415) hx hb dL_law_541 (by decide) ?_
    exact nx _ _ _ ⟨_, _, _, _, _, _, _, _, _, _, _, _, _, _, _, _, _, _, _, _, _, _, _, _, _, _, _, _, _, _, _, _, _, _, _, _, _, _, _, _, hP, (ob_IL_s hL), hM, hC⟩ hS (lv_sub hl [2, 3, 4, 5, 6] rfl)
  refine lv_if_ne (tgt := 541) hx hb dL_law_526 (by decide) (fun _ => fin) (fun c9 => ?_)
  have hz0 := ob_z0 hz3 c9
  refine lv_aload_n hx hb dL_law_529 rfl (lv_at hl 5 rfl) ?_
  refine lv_iconst (v := nI 0) hx hb dL_law_530 (by decide) ?_
  refine ob_lald hx hb hK hP 58 1 rfl rfl (show 0 < 1 by decide) (by decide) dL_law_531 ?_
  rw [show (if z = 0 then vp_updL ov 0 u9.toInt64 else ov : Nat → Int64) 0 = u9.toInt64 from by rw [if_pos hz0]; exact if_pos rfl]
  refine lv_iload hx hb dL_law_532 (lv_at hl 0 rfl) ?_
  refine lv_i2l (v := r8.toInt64) hx hb dL_law_534 rfl ?_
  refine ob_lcmp hx hb dL_law_535 (by rw [e9 hz0]) ?_
  exact lv_if_eq (tgt := 541) hx hb dL_law_536 (by decide) (fun _ => fin) (fun c8 => absurd rfl c8)

set_option maxRecDepth 100000 in
set_option maxHeartbeats 8000000 in
theorem ob_jorders {p : Program} {l : Launch} {e : Env} {s : State} {m : MethodId} {below : List Frame} {meth : Method} {c : Code} {b L : Nat} {xs : Nat → Int32} {D : va_G} {t : Nat → ClassId} {sa : Nat → Nat} {ax : Nat} {ao al am ac ar : Nat → Nat} {au : Nat} {k Kc Ks : Nat} {Q : State → Prop} (C0 : ob_At p l s m c b L xs D t sa) (hD0 : va_D (fun q : Nat => s.heap.size ≤ q) (ob_wX ax ao al am ac ++ ob_wO t ao (fun _ _ => 0) ++ ob_wL t al 0 (fun _ => 0) (fun _ => 0) (fun _ => 0) (fun _ => 0) (fun _ => 0) (fun _ => 0) (fun _ => 0) (fun _ => 0) ++ ob_wM t am 0 (fun _ => 0) (fun _ => 0) (fun _ => 0) (fun _ => 0) ++ ob_wC t ac 0 0 (fun _ _ => 0) ++ ob_wR t ar (fun _ => 0) (fun _ => 0) 0 (fun _ => 0) (fun _ => 0) (fun _ => 0) (fun _ => 0) (fun _ => 0) (fun _ => 0) (fun _ => 0) (fun _ => 0) (fun _ => 0) 0 (fun _ => 0) (fun _ => 0) (fun _ => 0) (fun _ => 0) 0 (fun _ => 0) (fun _ => 0) 0 ++ ob_wU t au (fun _ => 0))) (hk6 : 6 * k + 6 ≤ L) (hKc : Kc + 1 ≤ 601024) (hKs : Ks + 6 ≤ 7293034)
    (nx : ∀ (H : Heap) (locs : List Loc) (ls : Array Slot), ob_St D t ax ao al am ac ar au (k + 1) H → va_S (fun q : Nat => s.heap.size ≤ q) s.heap H locs → lv_has ls 8 [(0, .ref b), (1, .ref ax), (2, .ref (ar 0)), (3, .ref au), (4, .int (nI (6 * k)))] → W p l e room_1 s m #[Value.ref b] below meth c H locs (Kc + 1) (Ks + 6) Q (F0 m 1415 ls []))
    {H : Heap} {locs : List Loc} {ls : Array Slot} (hI : ob_St D t ax ao al am ac ar au k H) (hS : va_S (fun q : Nat => s.heap.size ≤ q) s.heap H locs) (hl : lv_has ls 8 [(0, .ref b), (1, .ref ax), (2, .ref (ar 0)), (3, .ref au), (4, .int (nI (6 * k)))]) : W p l e room_1 s m #[Value.ref b] below meth c H locs Kc Ks Q (F0 m 544 ls []) := by
  obtain ⟨hx, hb, hml, hown, hts, hX, hbl, hk, hE0, hN, hl9, hL3⟩ := C0
  obtain ⟨M, n, cl, rd, sv, pb, ba, bf, od, bg, mn, ms, mf, mt, mp, cn, st, Wt, Bd, Tr, rn, rcl, rrd, rsv, rpb, wf, wa, ro, ah, ct, rmn, rms, rmf, rmt, rmp, rcn, sd, V, th, ov, hP, hL, hM, hC⟩ := hI
  obtain ⟨rfl, rfl, rfl, rfl, rfl, h6, h7, h8, h9, h10, h11, h12, h13⟩ := id hL
  obtain ⟨rfl, rfl, rfl, rfl, rfl, hmn, hmm⟩ := id hM
  obtain ⟨rfl, hcn, hWV, hVz, hsd, hst⟩ := id hC
  have hkk : k ≤ 1000 := by omega
  have hbA : ¬ (fun q : Nat => s.heap.size ≤ q) b := Nat.not_le.mpr hbl
  have hA : ∀ q : Nat, s.heap.size ≤ q → (fun q : Nat => s.heap.size ≤ q) q := fun _ h => h
  have hK := hk.1
  have hE := ob_exK hE0 hS
  have hP : va_P D vwCl (ob_wX ax ao al am ac ++ ob_wO t ao M ++ ob_wL t al n cl rd sv pb ba bf od bg ++ ob_wM t am mn ms mf mt mp ++ ob_wC t ac cn st Wt ++ ob_wR t ar Bd Tr n cl rd sv pb wf wa ro ah ct mn ms mf mt mp cn sd V th ++ ob_wU t au ov) H := hP
  have hD : va_D (fun q : Nat => s.heap.size ≤ q) (ob_wX ax ao al am ac ++ ob_wO t ao M ++ ob_wL t al n cl rd sv pb ba bf od bg ++ ob_wM t am mn ms mf mt mp ++ ob_wC t ac cn st Wt ++ ob_wR t ar Bd Tr n cl rd sv pb wf wa ro ah ct mn ms mf mt mp cn sd V th ++ ob_wU t au ov) := ob_dXOLMCRU hD0
  obtain ⟨z, hz⟩ : ∃ z, z = ob_z1 (decide (n ≤ 12)) := ⟨_, rfl⟩
  have hz3 : z ≤ 3 := (by rw [hz]; exact ob_z1_3 _)
  refine lv_aload_n hx hb dL_law_544 rfl (lv_at hl 1 rfl) ?_
  refine lv_aload_n hx hb dL_law_545 rfl (lv_at hl 3 rfl) ?_
  have hFc := va_free (wc := ob_wX ax ao al am ac ++ ob_wL t al n cl rd sv pb ba bf od bg ++ ob_wU t au ov) hD hS hA [0, 8, 9, 10, 11, 12, 13, 14, 15, 16, 58] rfl
  refine va_calli (ob_runN (vx_runSX (As := [.ref ax, .ref au]) (rest := []) ⟨hx, hb, hml, hown, hts⟩ (c_L_orders l hl9 sa D t H.size ax ao al am ac n cl rd sv pb ba bf od bg au ov z h6 (hz.symm)) (vx_cwSW 2 hts gL_law_L_orders rfl rfl rfl (by decide +kernel) ⟨Nat.le_of_ble_eq_true rfl, Nat.le_of_ble_eq_true rfl⟩) (ob_pyS (hP.sub [0, 8, 9, 10, 11, 12, 13, 14, 15, 16, 58] rfl) (hD.sub [0, 8, 9, 10, 11, 12, 13, 14, 15, 16, 58] (by decide) rfl) hk hE hN) rfl rfl hl.1 rfl (lv_room (Nat.le_of_ble_eq_true rfl)) dL_law_546 ⟨show Kc + 1 ≤ 601024 from hKc, show Ks + 6 ≤ 7293034 from hKs⟩)) hS (fun q _ h => hFc q h) hFc (fun r9 u9 t9 H1 locs ht hvm hw9 hB hz1 hk1 hS => ?_)
  obtain ⟨rfl, hp9⟩ := hw9
  rw [ht] at hB
  have hP := ob_jn (ws' := ob_wX ax ao al am ac ++ ob_wO t ao M ++ ob_wL t al n cl rd sv pb ba bf od (if z = 0 then ob_F bf n bg (2 ^ n) else bg) ++ ob_wM t am mn ms mf mt mp ++ ob_wC t ac cn st Wt ++ ob_wR t ar Bd Tr n cl rd sv pb wf wa ro ah ct mn ms mf mt mp cn sd V th ++ ob_wU t au (if z = 0 then vp_updL ov 0 u9 else ov)) hP hD [some 0, none, none, none, none, none, none, none, some 1, some 2, some 3, some 4, some 5, some 6, some 7, some 8, some 9, none, none, none, none, none, none, none, none, none, none, none, none, none, none, none, none, none, none, none, none, none, none, none, none, none, none, none, none, none, none, none, none, none, none, none, none, none, none, none, none, none, some 10] [0, 8, 9, 10, 11, 12, 13, 14, 15, 16, 58] rfl rfl hk1 hB rfl
  have hD : va_D (fun q : Nat => s.heap.size ≤ q) (ob_wX ax ao al am ac ++ ob_wO t ao M ++ ob_wL t al n cl rd sv pb ba bf od (if z = 0 then ob_F bf n bg (2 ^ n) else bg) ++ ob_wM t am mn ms mf mt mp ++ ob_wC t ac cn st Wt ++ ob_wR t ar Bd Tr n cl rd sv pb wf wa ro ah ct mn ms mf mt mp cn sd V th ++ ob_wU t au (if z = 0 then vp_updL ov 0 u9 else ov)) := ob_dXOLMCRU hD
  generalize H1 = H at hP hS ⊢
  refine lv_istore (lv' := [(5, .int (nI z)), (0, .ref b), (1, .ref ax), (2, .ref (ar 0)), (3, .ref au), (4, .int (nI (6 * k)))]) hx hb dL_law_549 hl (by decide) rfl (fun ls hl => ?_)
  refine lv_aload_n hx hb dL_law_551 rfl (lv_at hl 3 rfl) ?_
  have hFc := va_free (wc := ob_wR t ar Bd Tr n cl rd sv pb wf wa ro ah ct mn ms mf mt mp cn sd V th) hD hS hA [40, 41, 42, 43, 44, 45, 46, 47, 48, 49, 50, 51, 52, 53, 54, 55, 56, 57] rfl
  refine va_calll (va_runV (As := []) (rest := []) ⟨hx, hb, hml, hown, hts⟩ (c_X5_orders l D t H.size ar Bd Tr n cl rd sv pb wf wa ro ah ct mn ms mf mt mp cn sd V th (ob_kc cl) h6 h9) (cwV 0 hts gL_law_X5_orders rfl rfl rfl (by decide +kernel) ⟨Nat.le_of_ble_eq_true rfl, Nat.le_of_ble_eq_true rfl⟩) (ob_pmV (ci := 5) (q0 := 0) (hP.sub [40, 41, 42, 43, 44, 45, 46, 47, 48, 49, 50, 51, 52, 53, 54, 55, 56, 57] rfl) (hD.sub [40, 41, 42, 43, 44, 45, 46, 47, 48, 49, 50, 51, 52, 53, 54, 55, 56, 57] (by decide) rfl) hk rfl rfl) rfl rfl hl.1 rfl (lv_room (Nat.le_of_ble_eq_true rfl)) dL_law_552 ⟨show Kc + 1 + 0 ≤ 601024 by omega, show Ks + 6 + 0 ≤ 7293034 by omega⟩) hS (fun q _ h => hFc q h) hFc (fun r8 u8 t9 H1 locs ht hvm hw8 hB hz1 hk1 hS => ?_)
  rw [ht] at hB
  have hP := ob_jn (ws' := ob_wX ax ao al am ac ++ ob_wO t ao M ++ ob_wL t al n cl rd sv pb ba bf od (if z = 0 then ob_F bf n bg (2 ^ n) else bg) ++ ob_wM t am mn ms mf mt mp ++ ob_wC t ac cn st Wt ++ ob_wR t ar Bd Tr n cl rd sv pb wf wa ro (if decide (n ≤ 12) then ob_ah2 Bd (ob_kc cl) rd n ah n else ah) (if decide (n ≤ 12) then ob_ccO (ob_ah2 Bd (ob_kc cl) rd n ah n) n ct (2 ^ n) else ct) mn ms mf mt mp cn sd V (nI (ob_z1 (decide (n ≤ 12)))) ++ ob_wU t au (if z = 0 then vp_updL ov 0 u9 else ov)) hP hD [none, none, none, none, none, none, none, none, none, none, none, none, none, none, none, none, none, none, none, none, none, none, none, none, none, none, none, none, none, none, none, none, none, none, none, none, none, none, none, none, some 0, some 1, some 2, some 3, some 4, some 5, some 6, some 7, some 8, some 9, some 10, some 11, some 12, some 13, some 14, some 15, some 16, some 17, none] [40, 41, 42, 43, 44, 45, 46, 47, 48, 49, 50, 51, 52, 53, 54, 55, 56, 57] rfl rfl hk1 hB rfl
  have hD : va_D (fun q : Nat => s.heap.size ≤ q) (ob_wX ax ao al am ac ++ ob_wO t ao M ++ ob_wL t al n cl rd sv pb ba bf od (if z = 0 then ob_F bf n bg (2 ^ n) else bg) ++ ob_wM t am mn ms mf mt mp ++ ob_wC t ac cn st Wt ++ ob_wR t ar Bd Tr n cl rd sv pb wf wa ro (if decide (n ≤ 12) then ob_ah2 Bd (ob_kc cl) rd n ah n else ah) (if decide (n ≤ 12) then ob_ccO (ob_ah2 Bd (ob_kc cl) rd n ah n) n ct (2 ^ n) else ct) mn ms mf mt mp cn sd V (nI (ob_z1 (decide (n ≤ 12)))) ++ ob_wU t au (if z = 0 then vp_updL ov 0 u9 else ov)) := ob_dXOLMCRU hD
  generalize H1 = H at hP hS ⊢
  have hth : nI (ob_z1 (decide (n ≤ 12))) = nI z := congrArg nI hz.symm
  rw [hth] at hP
  have hP : va_P D vwCl (ob_wX ax ao al am ac ++ ob_wO t ao M ++ ob_wL t al n cl rd sv pb ba bf od (if z = 0 then ob_F bf n bg (2 ^ n) else bg) ++ ob_wM t am mn ms mf mt mp ++ ob_wC t ac cn st Wt ++ ob_wR t ar Bd Tr n cl rd sv pb wf wa ro (if decide (n ≤ 12) then ob_ah2 Bd (ob_kc cl) rd n ah n else ah) (if decide (n ≤ 12) then ob_ccO (ob_ah2 Bd (ob_kc cl) rd n ah n) n ct (2 ^ n) else ct) mn ms mf mt mp cn sd V (nI z) ++ ob_wU t au (if z = 0 then vp_updL ov 0 u9 else ov)) H := hP
  have e9 : z = 0 → r8 = u9 := fun h0 => hw8.trans ((ob_q_orders hL (hz.symm.trans h0)).trans (hp9 h0).symm)
  refine lv_lstore (lv' := [(6, .long r8), (5, .int (nI z)), (0, .ref b), (1, .ref ax), (2, .ref (ar 0)), (3, .ref au), (4, .int (nI (6 * k)))]) hx hb dL_law_555 hl (by decide) rfl (fun ls hl => ?_)
  refine lv_aload_n hx hb dL_law_557 rfl (lv_at hl 4 rfl) ?_
  refine vp_callSi (va_Run.run (va_runV (As := []) (rest := []) ⟨hx, hb, hml, hown, hts⟩ (c_X5_thrown l D t ar Bd Tr n cl rd sv pb wf wa ro (if decide (n ≤ 12) then ob_ah2 Bd (ob_kc cl) rd n ah n else ah) (if decide (n ≤ 12) then ob_ccO (ob_ah2 Bd (ob_kc cl) rd n ah n) n ct (2 ^ n) else ct) mn ms mf mt mp cn sd V (nI z)) (cwV 0 hts gL_law_X5_thrown rfl rfl rfl (by decide +kernel) ⟨Nat.le_of_ble_eq_true rfl, Nat.le_of_ble_eq_true rfl⟩) (ob_preV (ci := 5) (q0 := 0) (hP.sub [40, 41, 42, 43, 44, 45, 46, 47, 48, 49, 50, 51, 52, 53, 54, 55, 56, 57] rfl) hk rfl rfl) rfl rfl hl.1 rfl (lv_room (Nat.le_of_ble_eq_true rfl)) dL_law_558 ⟨show Kc + 1 + 0 + 0 ≤ 601024 by omega, show Ks + 6 + 0 + 0 ≤ 7293034 by omega⟩)) (fun r7 hr7 => ?_)
  subst hr7
  refine lv_iload hx hb dL_law_561 (lv_at hl 1 rfl) ?_
  refine lv_icmp_eq (tgt := 568) hx hb dL_law_563 (by decide) (fun _ => ?_) (fun c9 => absurd rfl c9)
  refine lv_iload hx hb dL_law_568 (lv_at hl 1 rfl) ?_
  have fin : W p l e room_1 s m #[Value.ref b] below meth c H locs (Kc + 1) (Ks + 6) Q (F0 m 584 ls []) := by
    refine lv_goto (tgt := 1415) hx hb dL_law_584 (by decide) ?_
    exact nx _ _ _ ⟨_, _, _, _, _, _, _, _, _, _, _, _, _, _, _, _, _, _, _, _, _, _, _, _, _, _, _, _, _, _, _, _, _, _, _, _, _, _, _, _, hP, (ob_IL_s hL), hM, hC⟩ hS (lv_sub hl [2, 3, 4, 5, 6] rfl)
  refine lv_if_ne (tgt := 584) hx hb dL_law_570 (by decide) (fun _ => fin) (fun c9 => ?_)
  have hz0 := ob_z0 hz3 c9
  refine lv_aload_n hx hb dL_law_573 rfl (lv_at hl 5 rfl) ?_
  refine lv_iconst (v := nI 0) hx hb dL_law_574 (by decide) ?_
  refine ob_lald hx hb hK hP 58 1 rfl rfl (show 0 < 1 by decide) (by decide) dL_law_575 ?_
  rw [show (if z = 0 then vp_updL ov 0 u9 else ov : Nat → Int64) 0 = u9 from by rw [if_pos hz0]; exact if_pos rfl]
  refine lv_lload hx hb dL_law_576 (lv_at hl 0 rfl) ?_
  refine ob_lcmp hx hb dL_law_578 (e9 hz0).symm ?_
  exact lv_if_eq (tgt := 584) hx hb dL_law_579 (by decide) (fun _ => fin) (fun c8 => absurd rfl c8)
