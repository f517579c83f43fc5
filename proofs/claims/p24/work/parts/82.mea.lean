theorem ob_dXMV {ax : Nat} {ao : Nat → Nat} {al : Nat → Nat} {am : Nat → Nat} {ac : Nat → Nat} {t : Nat → ClassId} {mn : Nat} {ms : Nat → Int32} {mf : Nat → Int32} {mt : Nat → Int32} {mp : Nat → Int32} {xm : Nat} {fm : Nat → Int32} {mn' : Nat} {ms' : Nat → Int32} {mf' : Nat → Int32} {mt' : Nat → Int32} {mp' : Nat → Int32} {fm' : Nat → Int32} {A : Nat → Prop} (h : va_D A (ob_wX ax ao al am ac ++ ob_wM t am mn ms mf mt mp ++ ob_wV t xm fm)) : va_D A (ob_wX ax ao al am ac ++ ob_wM t am mn' ms' mf' mt' mp' ++ ob_wV t xm fm') := ob_ds h rfl
-- ===== a measure more
theorem ob_mm_s {mn a b : Nat} {mf mt : Nat → Int32} (h : ob_mm mn mf mt) (hab : a ≤ b) (hb : b ≤ 10000) : ob_mm (mn + 1) (upd mf mn (nI a)) (upd mt mn (nI b)) := by
  intro j hj
  rcases Nat.lt_or_ge j mn with c | c
  · obtain ⟨f, t, h1, h2, h3, h4⟩ := h j c
    exact ⟨f, t, h1, h2, by rw [pk_un (by omega)]; exact h3, by rw [pk_un (by omega)]; exact h4⟩
  · have e : j = mn := by omega
    subst e
    exact ⟨a, b, hab, hb, pk_us, pk_us⟩
theorem ob_mp_s {mn P : Nat} {mp : Nat → Int32} (h : ob_mp9 mn mp) (hP : P ≤ 100) : ob_mp9 (mn + 1) (upd mp mn (nI P)) := by
  intro j hj
  rcases Nat.lt_or_ge j mn with c | c
  · obtain ⟨q, h1, h2⟩ := h j c
    exact ⟨q, h1, by rw [pk_un (by omega)]; exact h2⟩
  · have e : j = mn := by omega
    subst e
    exact ⟨P, hP, pk_us⟩
theorem ob_mez {mn a b s P : Nat} (h1 : s ≤ 5) (h2 : a ≤ b) (h3 : b ≤ 10000) (h4 : P ≤ 100) (hm : mn < 40) : ob_z2 (ob_wi (nI s) (nI 0) (nI 5) && (ob_wi (nI P) (nI 0) (nI 100) && (ob_wi (nI a) (nI 0) (nI 10000) && ob_wi (nI b) (nI a) (nI 10000)))) (decide (mn < 40)) = 0 := by
  rw [ob_wi_nI h1 (by decide), ob_wi_nI h4 (by decide), ob_wi_nI (show a ≤ 10000 by omega) (by decide), ob_wiN (by omega) (by omega) (by omega), decide_eq_true h2, decide_eq_true h3, decide_eq_true hm]
  rfl
set_option maxRecDepth 100000 in
set_option maxHeartbeats 16000000 in
theorem c_L_isMeasured (l : Launch) (hl9 : l.stackTraces = false) (sa : Nat → Nat) (D : va_G) (t : Nat → ClassId) (sz : Nat) (ax : Nat) (ao al am ac : Nat → Nat) (mn : Nat) (ms mf mt mp : Nat → Int32) (xm : Nat) (fm : Nat → Int32) (sN aN bN pN : Nat) (hmn : mn < 40) (hmm : ob_mm mn mf mt) (hmp : ob_mp9 mn mp) (hf1 : fm 1 = nI mn) (h1 : sN ≤ 5) (h2 : aN ≤ bN) (h3 : bN ≤ 10000) (h4 : pN ≤ 100) : Met l yL_isMeasured wsL_isMeasured ({ frames := 8, cells := 1, slots := 6, locals := 132 } : Room) (ob_PY D t (ob_wX ax ao al am ac ++ ob_wM t am mn ms mf mt mp ++ ob_wV t xm fm) sz sa [.ref ax, .ref xm, .int (nI sN), .int (nI aN), .int (nI bN), .int (nI pN)]) (va_Qi (fun (r : Int32) (_ : Unit) => r = nI 1) (fun (_ : Unit) (t9 : State) => ∃ (ms' mf' mt' mp' : Nat → Int32), va_P D vwCl (ob_wX ax ao al am ac ++ ob_wM t am (mn + 1) ms' mf' mt' mp' ++ ob_wV t xm (upd fm 1 (nI (mn + 1)))) t9.heap ∧ ob_Jm (mn + 1) mf' mt' mp') (va_A (ob_wX ax ao al am ac ++ ob_wM t am mn ms mf mt mp ++ ob_wV t xm fm) sz)) 1 6 (va_A (ob_wX ax ao al am ac ++ ob_wM t am mn ms mf mt mp ++ ob_wV t xm fm) sz) := by
  refine Met.ofW (cc := cL_isMeasured) (maxL := 11) (ret := (some .boolean)) (by decide) rfl ?_
  intro p e s m args below meth c s₁ B hml hv
  obtain ⟨rfl, hsz, hP, hk, hD0, hE0, hN⟩ := hv
  have hx := B.exec
  have hb := B.bytes
  have hr := B.returns
  have hts := atoms_spec (ws := wsL_isMeasured) B.pre
  have hown : s.vm.findClass RL = some m.cls := findClass_of_methodNamed B.named
  have hlocks := B.notSynchronized
  have hK := hk.1
  have hD : va_D (va_A (ob_wX ax ao al am ac ++ ob_wM t am mn ms mf mt mp ++ ob_wV t xm fm) sz) (ob_wX ax ao al am ac ++ ob_wM t am mn ms mf mt mp ++ ob_wV t xm fm) := hD0.self (sz := sz)
  have hA : ∀ q : Nat, s.heap.size ≤ q → (va_A (ob_wX ax ao al am ac ++ ob_wM t am mn ms mf mt mp ++ ob_wV t xm fm) sz) q := fun q h => Or.inr (hsz ▸ h)
  have hS : va_S (va_A (ob_wX ax ao al am ac ++ ob_wM t am mn ms mf mt mp ++ ob_wV t xm fm) sz) s.heap s.heap [] := va_S.rf
  have hl := lv_entry [.ref ax, .ref xm, .int (nI sN), .int (nI aN), .int (nI bN), .int (nI pN)] (n := 11) (Nat.le_of_ble_eq_true rfl)
  rw [lg_entry_eq]
  generalize (lg_sl [.ref ax, .ref xm, .int (nI sN), .int (nI aN), .int (nI bN), .int (nI pN)] ++ List.replicate (11 - (lg_sl [.ref ax, .ref xm, .int (nI sN), .int (nI aN), .int (nI bN), .int (nI pN)]).length) Slot.unset).toArray = ls at hl ⊢
  have hl : lv_has ls 11 [(0, .ref ax), (1, .ref xm), (2, .int (nI sN)), (3, .int (nI aN)), (4, .int (nI bN)), (5, .int (nI pN))] := hl
  have hP : va_P D vwCl (ob_wX ax ao al am ac ++ ob_wM t am mn ms mf mt mp ++ ob_wV t xm fm) s.heap := hP
  refine lv_aload_n hx hb dL_isMeasured_0 rfl (lv_at hl 0 rfl) ?_
  refine lv_iload_n hx hb dL_isMeasured_1 rfl (lv_at hl 2 rfl) ?_
  refine vp_callSi (va_Run.run (va_runV (As := [.int (nI sN)]) (rest := []) ⟨hx, hb, hml, hown, hts⟩ (n_X4_impact l D t ax ao al am ac mn ms mf mt mp sN (by first | assumption | omega) (by first | assumption | omega)) (cwV 1 hts gL_isMeasured_X4_impact rfl rfl rfl (by decide +kernel) ⟨Nat.le_of_ble_eq_true rfl, Nat.le_of_ble_eq_true rfl⟩) (ob_preV (ci := 4) (q0 := 0) (hP.sub [0, 1, 2, 3, 4, 5] rfl) hk rfl rfl) rfl rfl hl.1 rfl (lv_room (Nat.le_of_ble_eq_true rfl)) dL_isMeasured_2 ⟨Nat.le_of_ble_eq_true rfl, Nat.le_of_ble_eq_true rfl⟩)) (fun r9 hr9 => ?_)
  subst hr9
  rw [show ((ob_sw ms mf mt mp mn (nI sN) (2 * mn + 1)).1) = (nI (ob_Im ms mf mt mp mn (nI sN))) from (ob_sw_I hmm hmp _)]
  refine lv_istore (lv' := [(6, .int (nI (ob_Im ms mf mt mp mn (nI sN)))), (0, .ref ax), (1, .ref xm), (2, .int (nI sN)), (3, .int (nI aN)), (4, .int (nI bN)), (5, .int (nI pN))]) hx hb dL_isMeasured_5 hl (by decide) rfl (fun ls hl => ?_)
  refine lv_aload_n hx hb dL_isMeasured_7 rfl (lv_at hl 1 rfl) ?_
  refine lv_iload_n hx hb dL_isMeasured_8 rfl (lv_at hl 3 rfl) ?_
  refine lv_iconst (v := nI 1) hx hb dL_isMeasured_9 (by decide) ?_
  refine lv_iadd hx hb dL_isMeasured_10 ?_
  rw [show (nI sN) + (nI 1) = nI (sN + 1) from nI_add _ _]
  refine lv_bipush (v := nI 6) hx hb dL_isMeasured_11 (by decide) ?_
  refine lv_irem hx hb dL_isMeasured_13 (by decide) ?_
  rw [show (nI (sN + 1)) - (nI (sN + 1)) / (nI 6) * (nI 6) = nI ((sN + 1) % 6) from pk_rem (by omega) (by omega) (by omega)]
  refine vp_callSi (va_Run.run (va_runV (As := [.int (nI ((sN + 1) % 6))]) (rest := []) ⟨hx, hb, hml, hown, hts⟩ (n_X4_impact l D t ax ao al am ac mn ms mf mt mp ((sN + 1) % 6) (by first | assumption | omega) (by first | assumption | omega)) (cwV 1 hts gL_isMeasured_X4_impact rfl rfl rfl (by decide +kernel) ⟨Nat.le_of_ble_eq_true rfl, Nat.le_of_ble_eq_true rfl⟩) (ob_preV (ci := 4) (q0 := 0) (hP.sub [0, 1, 2, 3, 4, 5] rfl) hk rfl rfl) rfl rfl hl.1 rfl (lv_room (Nat.le_of_ble_eq_true rfl)) dL_isMeasured_14 ⟨Nat.le_of_ble_eq_true rfl, Nat.le_of_ble_eq_true rfl⟩)) (fun r9 hr9 => ?_)
  subst hr9
  rw [show ((ob_sw ms mf mt mp mn (nI ((sN + 1) % 6)) (2 * mn + 1)).1) = (nI (ob_Im ms mf mt mp mn (nI ((sN + 1) % 6)))) from (ob_sw_I hmm hmp _)]
  refine lv_istore (lv' := [(7, .int (nI (ob_Im ms mf mt mp mn (nI ((sN + 1) % 6))))), (6, .int (nI (ob_Im ms mf mt mp mn (nI sN)))), (0, .ref ax), (1, .ref xm), (2, .int (nI sN)), (3, .int (nI aN)), (4, .int (nI bN)), (5, .int (nI pN))]) hx hb dL_isMeasured_17 hl (by decide) rfl (fun ls hl => ?_)
  refine lv_aload_n hx hb dL_isMeasured_19 rfl (lv_at hl 2 rfl) ?_
  refine vp_callSi (va_Run.run (va_runV (As := []) (rest := []) ⟨hx, hb, hml, hown, hts⟩ (c_X4_minutes l D t ax ao al am ac mn ms mf mt mp (by first | assumption | omega)) (cwV 0 hts gL_isMeasured_X4_minutes rfl rfl rfl (by decide +kernel) ⟨Nat.le_of_ble_eq_true rfl, Nat.le_of_ble_eq_true rfl⟩) (ob_preV (ci := 4) (q0 := 0) (hP.sub [0, 1, 2, 3, 4, 5] rfl) hk rfl rfl) rfl rfl hl.1 rfl (lv_room (Nat.le_of_ble_eq_true rfl)) dL_isMeasured_20 ⟨Nat.le_of_ble_eq_true rfl, Nat.le_of_ble_eq_true rfl⟩)) (fun r9 hr9 => ?_)
  subst hr9
  rw [show ((ob_fm ms mf mt mp mn (2 * mn + 1)).1) = (nI (ob_Mi ms mf mt mp mn)) from (ob_fm_I hmm hmp)]
  refine lv_istore (lv' := [(8, .int (nI (ob_Mi ms mf mt mp mn))), (7, .int (nI (ob_Im ms mf mt mp mn (nI ((sN + 1) % 6))))), (6, .int (nI (ob_Im ms mf mt mp mn (nI sN)))), (0, .ref ax), (1, .ref xm), (2, .int (nI sN)), (3, .int (nI aN)), (4, .int (nI bN)), (5, .int (nI pN))]) hx hb dL_isMeasured_23 hl (by decide) rfl (fun ls hl => ?_)
  refine lv_aload_n hx hb dL_isMeasured_25 rfl (lv_at hl 3 rfl) ?_
  refine lv_iconst (v := nI 1) hx hb dL_isMeasured_26 (by decide) ?_
  refine lv_iload_n hx hb dL_isMeasured_27 rfl (lv_at hl 5 rfl) ?_
  refine lv_iload_n hx hb dL_isMeasured_28 rfl (lv_at hl 6 rfl) ?_
  refine lv_iload hx hb dL_isMeasured_29 (lv_at hl 7 rfl) ?_
  refine lv_iload hx hb dL_isMeasured_31 (lv_at hl 8 rfl) ?_
  have hFc := va_free (wc := ob_wX ax ao al am ac ++ ob_wM t am mn ms mf mt mp) hD hS hA [0, 1, 2, 3, 4, 5] rfl
  refine va_calli (ob_runN (vx_runSX (As := [.ref ax, .int (nI 1), .int (nI sN), .int (nI aN), .int (nI bN), .int (nI pN)]) (rest := []) ⟨hx, hb, hml, hown, hts⟩ (y_add1_ok l hl9 sa D t s.heap.size ax ao al am ac mn ms mf mt mp (nI sN) (nI aN) (nI bN) (nI pN) (by omega) (ob_mez h1 h2 h3 h4 hmn)) (vx_cwSW 6 hts gL_isMeasured_L_add rfl rfl rfl (by decide +kernel) ⟨Nat.le_of_ble_eq_true rfl, Nat.le_of_ble_eq_true rfl⟩) (ob_pYS (hP.sub [0, 1, 2, 3, 4, 5] rfl) (hD.sub [0, 1, 2, 3, 4, 5] (by decide) rfl) hk (ob_exN hE0 hS hFc) hN) rfl rfl hl.1 rfl (lv_room (Nat.le_of_ble_eq_true rfl)) dL_isMeasured_33 ⟨Nat.le_of_ble_eq_true rfl, Nat.le_of_ble_eq_true rfl⟩)) hS (fun q _ h => hFc q h) hFc (fun r9 u9 t9 H1 locs ht hvm hw9 hB hz1 hk1 hS => ?_)
  refine W.widen (k := 1) (n := 6) (Nat.le_of_ble_eq_true rfl) (Nat.le_of_ble_eq_true rfl) ?_
  rw [ht] at hB
  have hP := ob_jn (ws' := ob_wX ax ao al am ac ++ ob_wM t am (mn + 1) (upd ms mn (nI sN)) (upd mf mn (nI aN)) (upd mt mn (nI bN)) (upd mp mn (nI pN)) ++ ob_wV t xm fm) hP hD [some 0, some 1, some 2, some 3, some 4, some 5, none] [0, 1, 2, 3, 4, 5] rfl rfl hk1 hB rfl
  obtain ⟨ms9, ems9⟩ : ∃ z, z = upd ms mn (nI sN) := ⟨_, rfl⟩
  rw [← ems9] at hP
  obtain ⟨mf9, emf9⟩ : ∃ z, z = upd mf mn (nI aN) := ⟨_, rfl⟩
  rw [← emf9] at hP
  obtain ⟨mt9, emt9⟩ : ∃ z, z = upd mt mn (nI bN) := ⟨_, rfl⟩
  rw [← emt9] at hP
  obtain ⟨mp9, emp9⟩ : ∃ z, z = upd mp mn (nI pN) := ⟨_, rfl⟩
  rw [← emp9] at hP
  have hP : va_P D vwCl (ob_wX ax ao al am ac ++ ob_wM t am (mn + 1) ms9 mf9 mt9 mp9 ++ ob_wV t xm fm) H1 := hP
  have hD : va_D (va_A (ob_wX ax ao al am ac ++ ob_wM t am mn ms mf mt mp ++ ob_wV t xm fm) sz) (ob_wX ax ao al am ac ++ ob_wM t am (mn + 1) ms9 mf9 mt9 mp9 ++ ob_wV t xm fm) := ob_dXMV hD
  generalize H1 = H at hP hS ⊢
  subst hw9
  have hmm9 : ob_mm (mn + 1) mf9 mt9 := by rw [emf9, emt9]; exact ob_mm_s hmm h2 h3
  have hmp9 : ob_mp9 (mn + 1) mp9 := by rw [emp9]; exact ob_mp_s hmp h4
  obtain ⟨⟨i1, i2, i3⟩, i4, i5, i6, i7⟩ := ob_meas (ms := ms) (mf := mf) (mt := mt) (s2 := (sN + 1) % 6) hmp h1 (by omega) (by omega) h2 h3 h4 ems9 emf9 emt9 emp9
  have j1 := ob_Im_b (ms := ms) (mf := mf) (mt := mt) hmp (nI sN)
  have j2 := ob_Im_b (ms := ms9) (mf := mf9) (mt := mt9) hmp9 (nI sN)
  have j3 := ob_Im_b (ms := ms) (mf := mf) (mt := mt) hmp (nI ((sN + 1) % 6))
  have j4 := ob_Mi_b (ms := ms) (mf := mf) (mt := mt) (mp := mp) (mn := mn)
  have j5 := ob_Mi_b (ms := ms9) (mf := mf9) (mt := mt9) (mp := mp9) (mn := mn + 1)
  refine lv_istore (lv' := [(9, .int (nI mn)), (8, .int (nI (ob_Mi ms mf mt mp mn))), (7, .int (nI (ob_Im ms mf mt mp mn (nI ((sN + 1) % 6))))), (6, .int (nI (ob_Im ms mf mt mp mn (nI sN)))), (0, .ref ax), (1, .ref xm), (2, .int (nI sN)), (3, .int (nI aN)), (4, .int (nI bN)), (5, .int (nI pN))]) hx hb dL_isMeasured_36 hl (by decide) rfl (fun ls hl => ?_)
  refine lv_aload_n hx hb dL_isMeasured_38 rfl (lv_at hl 5 rfl) ?_
  refine lv_iconst (v := nI 1) hx hb dL_isMeasured_39 (by decide) ?_
  refine lv_dup2_11 hx hb dL_isMeasured_40 rfl rfl ?_
  refine ob_iald hx hb hK hP 6 0 rfl rfl (by omega) (by decide) dL_isMeasured_41 ?_
  rw [show fm 1 = nI mn from hf1]
  refine lv_iconst (v := nI 1) hx hb dL_isMeasured_42 (by decide) ?_
  refine lv_iadd hx hb dL_isMeasured_43 ?_
  rw [show (nI mn) + (nI 1) = nI (mn + 1) from nI_add _ _]
  refine ob_iast hx hb hK hP hD hS 6 0 rfl rfl (by omega) (by decide) dL_isMeasured_44 (fun H locs hP hD hS => ?_)
  have hP : va_P D vwCl (ob_wX ax ao al am ac ++ ob_wM t am (mn + 1) ms9 mf9 mt9 mp9 ++ ob_wV t xm (upd fm 1 (nI (mn + 1)))) H := hP
  have hD : va_D (va_A (ob_wX ax ao al am ac ++ ob_wM t am mn ms mf mt mp ++ ob_wV t xm fm) sz) (ob_wX ax ao al am ac ++ ob_wM t am (mn + 1) ms9 mf9 mt9 mp9 ++ ob_wV t xm (upd fm 1 (nI (mn + 1)))) := hD
  refine lv_aload_n hx hb dL_isMeasured_45 rfl (lv_at hl 4 rfl) ?_
  refine lv_iload_n hx hb dL_isMeasured_46 rfl (lv_at hl 6 rfl) ?_
  refine vp_callSi (va_Run.run (va_runV (As := [.int (nI sN)]) (rest := []) ⟨hx, hb, hml, hown, hts⟩ (n_X4_impact l D t ax ao al am ac (mn + 1) ms9 mf9 mt9 mp9 sN (by first | assumption | omega) (by first | assumption | omega)) (cwV 1 hts gL_isMeasured_X4_impact rfl rfl rfl (by decide +kernel) ⟨Nat.le_of_ble_eq_true rfl, Nat.le_of_ble_eq_true rfl⟩) (ob_preV (ci := 4) (q0 := 0) (hP.sub [0, 1, 2, 3, 4, 5] rfl) hk rfl rfl) rfl rfl hl.1 rfl (lv_room (Nat.le_of_ble_eq_true rfl)) dL_isMeasured_47 ⟨Nat.le_of_ble_eq_true rfl, Nat.le_of_ble_eq_true rfl⟩)) (fun r9 hr9 => ?_)
  subst hr9
  rw [show ((ob_sw ms9 mf9 mt9 mp9 (mn + 1) (nI sN) (2 * (mn + 1) + 1)).1) = (nI (ob_Im ms9 mf9 mt9 mp9 (mn + 1) (nI sN))) from (ob_sw_I hmm9 hmp9 _)]
  refine lv_istore (lv' := [(10, .int (nI (ob_Im ms9 mf9 mt9 mp9 (mn + 1) (nI sN)))), (9, .int (nI mn)), (8, .int (nI (ob_Mi ms mf mt mp mn))), (7, .int (nI (ob_Im ms mf mt mp mn (nI ((sN + 1) % 6))))), (6, .int (nI (ob_Im ms mf mt mp mn (nI sN)))), (0, .ref ax), (1, .ref xm), (2, .int (nI sN)), (3, .int (nI aN)), (4, .int (nI bN)), (5, .int (nI pN))]) hx hb dL_isMeasured_50 hl (by decide) rfl (fun ls hl => ?_)
  refine lv_iload hx hb dL_isMeasured_52 (lv_at hl 1 rfl) ?_
  refine lv_aload_n hx hb dL_isMeasured_54 rfl (lv_at hl 6 rfl) ?_
  refine lv_iconst (v := nI 1) hx hb dL_isMeasured_55 (by decide) ?_
  refine ob_iald hx hb hK hP 6 0 rfl rfl (by omega) (by decide) dL_isMeasured_56 ?_
  rw [show (upd fm 1 (nI (mn + 1))) 1 = nI (mn + 1) from pk_us]
  refine lv_iconst (v := nI 1) hx hb dL_isMeasured_57 (by decide) ?_
  refine lv_isub hx hb dL_isMeasured_58 ?_
  rw [show (nI (mn + 1)) - (nI 1) = nI ((mn + 1) - 1) from pk_sub (by omega)]
  refine ob_icmp_ne (tgt := 175) hx hb (by omega) (by omega) dL_isMeasured_59 (by decide) (fun c59 => ?_) (fun c59 => ?_)
  · omega
  · refine lv_iload hx hb dL_isMeasured_62 (lv_at hl 0 rfl) ?_
    refine lv_iload hx hb dL_isMeasured_64 (lv_at hl 4 rfl) ?_
    refine ob_icmp_lt (tgt := 175) hx hb (by omega) (by omega) dL_isMeasured_66 (by decide) (fun c66 => ?_) (fun c66 => ?_)
    · omega
    · refine lv_iload hx hb dL_isMeasured_69 (lv_at hl 0 rfl) ?_
      refine lv_iload hx hb dL_isMeasured_71 (lv_at hl 4 rfl) ?_
      refine lv_iload hx hb dL_isMeasured_73 (lv_at hl 10 rfl) ?_
      refine lv_iload hx hb dL_isMeasured_75 (lv_at hl 9 rfl) ?_
      refine lv_iload_n hx hb dL_isMeasured_77 rfl (lv_at hl 8 rfl) ?_
      refine lv_isub hx hb dL_isMeasured_78 ?_
      rw [show (nI bN) - (nI aN) = nI (bN - aN) from pk_sub (by omega)]
      refine lv_iconst (v := nI 1) hx hb dL_isMeasured_79 (by decide) ?_
      refine lv_iadd hx hb dL_isMeasured_80 ?_
      rw [show (nI (bN - aN)) + (nI 1) = nI ((bN - aN) + 1) from nI_add _ _]
      refine lv_imul hx hb dL_isMeasured_81 ?_
      rw [show (nI pN) * (nI ((bN - aN) + 1)) = nI (pN * ((bN - aN) + 1)) from pk_mul _ _]
      refine lv_iadd hx hb dL_isMeasured_82 ?_
      rw [show (nI (ob_Im ms mf mt mp mn (nI sN))) + (nI (pN * ((bN - aN) + 1))) = nI ((ob_Im ms mf mt mp mn (nI sN)) + (pN * ((bN - aN) + 1))) from nI_add _ _]
      refine ob_icmp_gt (tgt := 175) hx hb (by omega) (by omega) dL_isMeasured_83 (by decide) (fun c83 => ?_) (fun c83 => ?_)
      · omega
      · refine lv_iload hx hb dL_isMeasured_86 (lv_at hl 0 rfl) ?_
        refine lv_iload hx hb dL_isMeasured_88 (lv_at hl 10 rfl) ?_
        refine lv_iload hx hb dL_isMeasured_90 (lv_at hl 9 rfl) ?_
        refine lv_iload_n hx hb dL_isMeasured_92 rfl (lv_at hl 8 rfl) ?_
        refine lv_isub hx hb dL_isMeasured_93 ?_
        rw [show (nI bN) - (nI aN) = nI (bN - aN) from pk_sub (by omega)]
        refine lv_iconst (v := nI 1) hx hb dL_isMeasured_94 (by decide) ?_
        refine lv_iadd hx hb dL_isMeasured_95 ?_
        rw [show (nI (bN - aN)) + (nI 1) = nI ((bN - aN) + 1) from nI_add _ _]
        refine lv_imul hx hb dL_isMeasured_96 ?_
        rw [show (nI pN) * (nI ((bN - aN) + 1)) = nI (pN * ((bN - aN) + 1)) from pk_mul _ _]
        refine ob_icmp_lt (tgt := 175) hx hb (by omega) (by omega) dL_isMeasured_97 (by decide) (fun c97 => ?_) (fun c97 => ?_)
        · omega
        · refine lv_aload_n hx hb dL_isMeasured_100 rfl (lv_at hl 5 rfl) ?_
          refine lv_iload_n hx hb dL_isMeasured_101 rfl (lv_at hl 7 rfl) ?_
          refine lv_iconst (v := nI 1) hx hb dL_isMeasured_102 (by decide) ?_
          refine lv_iadd hx hb dL_isMeasured_103 ?_
          rw [show (nI sN) + (nI 1) = nI (sN + 1) from nI_add _ _]
          refine lv_bipush (v := nI 6) hx hb dL_isMeasured_104 (by decide) ?_
          refine lv_irem hx hb dL_isMeasured_106 (by decide) ?_
          rw [show (nI (sN + 1)) - (nI (sN + 1)) / (nI 6) * (nI 6) = nI ((sN + 1) % 6) from pk_rem (by omega) (by omega) (by omega)]
          refine vp_callSi (va_Run.run (va_runV (As := [.int (nI ((sN + 1) % 6))]) (rest := []) ⟨hx, hb, hml, hown, hts⟩ (n_X4_impact l D t ax ao al am ac (mn + 1) ms9 mf9 mt9 mp9 ((sN + 1) % 6) (by first | assumption | omega) (by first | assumption | omega)) (cwV 1 hts gL_isMeasured_X4_impact rfl rfl rfl (by decide +kernel) ⟨Nat.le_of_ble_eq_true rfl, Nat.le_of_ble_eq_true rfl⟩) (ob_preV (ci := 4) (q0 := 0) (hP.sub [0, 1, 2, 3, 4, 5] rfl) hk rfl rfl) rfl rfl hl.1 rfl (lv_room (Nat.le_of_ble_eq_true rfl)) dL_isMeasured_107 ⟨Nat.le_of_ble_eq_true rfl, Nat.le_of_ble_eq_true rfl⟩)) (fun r9 hr9 => ?_)
          subst hr9
          rw [show ((ob_sw ms9 mf9 mt9 mp9 (mn + 1) (nI ((sN + 1) % 6)) (2 * (mn + 1) + 1)).1) = (nI (ob_Im ms9 mf9 mt9 mp9 (mn + 1) (nI ((sN + 1) % 6)))) from (ob_sw_I hmm9 hmp9 _)]
          refine lv_iload hx hb dL_isMeasured_110 (lv_at hl 3 rfl) ?_
          refine ob_icmp_ne (tgt := 175) hx hb (by omega) (by omega) dL_isMeasured_112 (by decide) (fun c112 => ?_) (fun c112 => ?_)
          · omega
          · refine lv_aload_n hx hb dL_isMeasured_115 rfl (lv_at hl 5 rfl) ?_
            refine vp_callSi (va_Run.run (va_runV (As := []) (rest := []) ⟨hx, hb, hml, hown, hts⟩ (c_X4_minutes l D t ax ao al am ac (mn + 1) ms9 mf9 mt9 mp9 (by first | assumption | omega)) (cwV 0 hts gL_isMeasured_X4_minutes rfl rfl rfl (by decide +kernel) ⟨Nat.le_of_ble_eq_true rfl, Nat.le_of_ble_eq_true rfl⟩) (ob_preV (ci := 4) (q0 := 0) (hP.sub [0, 1, 2, 3, 4, 5] rfl) hk rfl rfl) rfl rfl hl.1 rfl (lv_room (Nat.le_of_ble_eq_true rfl)) dL_isMeasured_116 ⟨Nat.le_of_ble_eq_true rfl, Nat.le_of_ble_eq_true rfl⟩)) (fun r9 hr9 => ?_)
            subst hr9
            rw [show ((ob_fm ms9 mf9 mt9 mp9 (mn + 1) (2 * (mn + 1) + 1)).1) = (nI (ob_Mi ms9 mf9 mt9 mp9 (mn + 1))) from (ob_fm_I hmm9 hmp9)]
            refine lv_iload hx hb dL_isMeasured_119 (lv_at hl 2 rfl) ?_
            refine ob_icmp_lt (tgt := 175) hx hb (by omega) (by omega) dL_isMeasured_121 (by decide) (fun c121 => ?_) (fun c121 => ?_)
            · omega
            · have k149 : ∀ ls : Array Slot, lv_has ls 11 [(0, .ref ax), (1, .ref xm), (2, .int (nI sN)), (3, .int (nI aN)), (4, .int (nI bN)), (5, .int (nI pN)), (6, .int (nI (ob_Im ms mf mt mp mn (nI sN)))), (7, .int (nI (ob_Im ms mf mt mp mn (nI ((sN + 1) % 6))))), (8, .int (nI (ob_Mi ms mf mt mp mn))), (9, .int (nI mn)), (10, .int (nI (ob_Im ms9 mf9 mt9 mp9 (mn + 1) (nI sN))))] → W p l e (headSpec wsL_isMeasured ({ frames := 8, cells := 1, slots := 6, locals := 132 } : Room)).room s m ([.ref ax, .ref xm, .int (nI sN), .int (nI aN), .int (nI bN), .int (nI pN)] : List Value).toArray below meth c H locs 1 6 (MQ below (va_Qi (fun (r : Int32) (_ : Unit) => r = nI 1) (fun (_ : Unit) (t9 : State) => ∃ (ms' mf' mt' mp' : Nat → Int32), va_P D vwCl (ob_wX ax ao al am ac ++ ob_wM t am (mn + 1) ms' mf' mt' mp' ++ ob_wV t xm (upd fm 1 (nI (mn + 1)))) t9.heap ∧ ob_Jm (mn + 1) mf' mt' mp') (va_A (ob_wX ax ao al am ac ++ ob_wM t am mn ms mf mt mp ++ ob_wV t xm fm) sz)) ([.ref ax, .ref xm, .int (nI sN), .int (nI aN), .int (nI bN), .int (nI pN)] : List Value).toArray s 1 6 (va_A (ob_wX ax ao al am ac ++ ob_wM t am mn ms mf mt mp ++ ob_wV t xm fm) sz)) (F0 m 149 ls []) := by
                intro   ls hl
                have k171 : ∀ ls : Array Slot, lv_has ls 11 [(0, .ref ax), (1, .ref xm), (2, .int (nI sN)), (3, .int (nI aN)), (4, .int (nI bN)), (5, .int (nI pN)), (6, .int (nI (ob_Im ms mf mt mp mn (nI sN)))), (7, .int (nI (ob_Im ms mf mt mp mn (nI ((sN + 1) % 6))))), (8, .int (nI (ob_Mi ms mf mt mp mn))), (9, .int (nI mn)), (10, .int (nI (ob_Im ms9 mf9 mt9 mp9 (mn + 1) (nI sN))))] → W p l e (headSpec wsL_isMeasured ({ frames := 8, cells := 1, slots := 6, locals := 132 } : Room)).room s m ([.ref ax, .ref xm, .int (nI sN), .int (nI aN), .int (nI bN), .int (nI pN)] : List Value).toArray below meth c H locs 1 6 (MQ below (va_Qi (fun (r : Int32) (_ : Unit) => r = nI 1) (fun (_ : Unit) (t9 : State) => ∃ (ms' mf' mt' mp' : Nat → Int32), va_P D vwCl (ob_wX ax ao al am ac ++ ob_wM t am (mn + 1) ms' mf' mt' mp' ++ ob_wV t xm (upd fm 1 (nI (mn + 1)))) t9.heap ∧ ob_Jm (mn + 1) mf' mt' mp') (va_A (ob_wX ax ao al am ac ++ ob_wM t am mn ms mf mt mp ++ ob_wV t xm fm) sz)) ([.ref ax, .ref xm, .int (nI sN), .int (nI aN), .int (nI bN), .int (nI pN)] : List Value).toArray s 1 6 (va_A (ob_wX ax ao al am ac ++ ob_wM t am mn ms mf mt mp ++ ob_wV t xm fm) sz)) (F0 m 171 ls []) := by
                  intro   ls hl
                  refine lv_iconst (v := nI 1) hx hb dL_isMeasured_171 (by decide) ?_
                  refine lv_goto (tgt := 176) hx hb dL_isMeasured_172 (by decide) ?_
                  refine W.widen (k := 1) (n := 6) (Nat.le_of_ble_eq_true rfl) (Nat.le_of_ble_eq_true rfl) ?_
                  exact W.zret (v := nI 1) hx hb hr rfl (fun t9 ht hW => ⟨⟨nI 1, (), rfl, rfl, ⟨ms9, mf9, mt9, mp9, ob_th ht hP, (by omega), hmm9, hmp9⟩⟩, hS.F ht⟩) hS.2.2 dL_isMeasured_176
                refine lv_aload_n hx hb dL_isMeasured_149 rfl (lv_at hl 0 rfl) ?_
                refine vp_callSi (va_Run.run (va_runV (As := []) (rest := []) ⟨hx, hb, hml, hown, hts⟩ (c_X4_minutes l D t ax ao al am ac (mn + 1) ms9 mf9 mt9 mp9 (by first | assumption | omega)) (cwV 0 hts gL_isMeasured_X4_minutes rfl rfl rfl (by decide +kernel) ⟨Nat.le_of_ble_eq_true rfl, Nat.le_of_ble_eq_true rfl⟩) (ob_preV (ci := 4) (q0 := 0) (hP.sub [0, 1, 2, 3, 4, 5] rfl) hk rfl rfl) rfl rfl hl.1 rfl (lv_room (Nat.le_of_ble_eq_true rfl)) dL_isMeasured_150 ⟨Nat.le_of_ble_eq_true rfl, Nat.le_of_ble_eq_true rfl⟩)) (fun r9 hr9 => ?_)
                subst hr9
                rw [show ((ob_fm ms9 mf9 mt9 mp9 (mn + 1) (2 * (mn + 1) + 1)).1) = (nI (ob_Mi ms9 mf9 mt9 mp9 (mn + 1))) from (ob_fm_I hmm9 hmp9)]
                refine lv_iload hx hb dL_isMeasured_153 (lv_at hl 5 rfl) ?_
                refine ob_nif_le (tgt := 167) hx hb (by omega) dL_isMeasured_155 (by decide) (fun c155 => ?_) (fun c155 => ?_)
                · rw [if_neg (show ¬ 0 < pN by omega)] at i6 i7
                  refine lv_iconst (v := nI 0) hx hb dL_isMeasured_167 (by decide) ?_
                  refine ob_icmp_lt (tgt := 175) hx hb (by omega) (by omega) dL_isMeasured_168 (by decide) (fun c168 => ?_) (fun c168 => ?_)
                  · omega
                  · exact k171   _ (lv_sub hl [0, 1, 2, 3, 4, 5, 6, 7, 8, 9, 10] rfl)
                · rw [if_pos c155] at i6 i7
                  refine lv_iload hx hb dL_isMeasured_158 (lv_at hl 4 rfl) ?_
                  refine lv_iload_n hx hb dL_isMeasured_160 rfl (lv_at hl 3 rfl) ?_
                  refine lv_isub hx hb dL_isMeasured_161 ?_
                  rw [show (nI bN) - (nI aN) = nI (bN - aN) from pk_sub (by omega)]
                  refine lv_iconst (v := nI 1) hx hb dL_isMeasured_162 (by decide) ?_
                  refine lv_iadd hx hb dL_isMeasured_163 ?_
                  rw [show (nI (bN - aN)) + (nI 1) = nI ((bN - aN) + 1) from nI_add _ _]
                  refine lv_goto (tgt := 168) hx hb dL_isMeasured_164 (by decide) ?_
                  refine ob_icmp_lt (tgt := 175) hx hb (by omega) (by omega) dL_isMeasured_168 (by decide) (fun c168 => ?_) (fun c168 => ?_)
                  · omega
                  · exact k171   _ (lv_sub hl [0, 1, 2, 3, 4, 5, 6, 7, 8, 9, 10] rfl)
              refine lv_aload_n hx hb dL_isMeasured_124 rfl (lv_at hl 5 rfl) ?_
              refine vp_callSi (va_Run.run (va_runV (As := []) (rest := []) ⟨hx, hb, hml, hown, hts⟩ (c_X4_minutes l D t ax ao al am ac (mn + 1) ms9 mf9 mt9 mp9 (by first | assumption | omega)) (cwV 0 hts gL_isMeasured_X4_minutes rfl rfl rfl (by decide +kernel) ⟨Nat.le_of_ble_eq_true rfl, Nat.le_of_ble_eq_true rfl⟩) (ob_preV (ci := 4) (q0 := 0) (hP.sub [0, 1, 2, 3, 4, 5] rfl) hk rfl rfl) rfl rfl hl.1 rfl (lv_room (Nat.le_of_ble_eq_true rfl)) dL_isMeasured_125 ⟨Nat.le_of_ble_eq_true rfl, Nat.le_of_ble_eq_true rfl⟩)) (fun r9 hr9 => ?_)
              subst hr9
              rw [show ((ob_fm ms9 mf9 mt9 mp9 (mn + 1) (2 * (mn + 1) + 1)).1) = (nI (ob_Mi ms9 mf9 mt9 mp9 (mn + 1))) from (ob_fm_I hmm9 hmp9)]
              refine lv_iload hx hb dL_isMeasured_128 (lv_at hl 2 rfl) ?_
              refine lv_iload hx hb dL_isMeasured_130 (lv_at hl 10 rfl) ?_
              refine ob_nif_le (tgt := 144) hx hb (by omega) dL_isMeasured_132 (by decide) (fun c132 => ?_) (fun c132 => ?_)
              · rw [if_neg (show ¬ 0 < pN by omega)] at i6 i7
                refine lv_iconst (v := nI 0) hx hb dL_isMeasured_144 (by decide) ?_
                refine lv_iadd hx hb dL_isMeasured_145 ?_
                rw [show (nI (ob_Mi ms mf mt mp mn)) + (nI 0) = nI ((ob_Mi ms mf mt mp mn) + 0) from nI_add _ _]
                refine ob_icmp_gt (tgt := 175) hx hb (by omega) (by omega) dL_isMeasured_146 (by decide) (fun c146 => ?_) (fun c146 => ?_)
                · omega
                · exact k149   _ (lv_sub hl [5, 6, 7, 8, 9, 10, 4, 3, 2, 1, 0] rfl)
              · rw [if_pos c132] at i6 i7
                refine lv_iload hx hb dL_isMeasured_135 (lv_at hl 9 rfl) ?_
                refine lv_iload_n hx hb dL_isMeasured_137 rfl (lv_at hl 8 rfl) ?_
                refine lv_isub hx hb dL_isMeasured_138 ?_
                rw [show (nI bN) - (nI aN) = nI (bN - aN) from pk_sub (by omega)]
                refine lv_iconst (v := nI 1) hx hb dL_isMeasured_139 (by decide) ?_
                refine lv_iadd hx hb dL_isMeasured_140 ?_
                rw [show (nI (bN - aN)) + (nI 1) = nI ((bN - aN) + 1) from nI_add _ _]
                refine lv_goto (tgt := 145) hx hb dL_isMeasured_141 (by decide) ?_
                refine lv_iadd hx hb dL_isMeasured_145 ?_
                rw [show (nI (ob_Mi ms mf mt mp mn)) + (nI ((bN - aN) + 1)) = nI ((ob_Mi ms mf mt mp mn) + ((bN - aN) + 1)) from nI_add _ _]
                refine ob_icmp_gt (tgt := 175) hx hb (by omega) (by omega) dL_isMeasured_146 (by decide) (fun c146 => ?_) (fun c146 => ?_)
                · omega
                · exact k149   _ (lv_sub hl [5, 6, 7, 8, 9, 10, 4, 3, 2, 1, 0] rfl)
