set_option maxRecDepth 100000 in
set_option maxHeartbeats 16000000 in
/-- a line -/
theorem ob_c2 {p : Program} {l : Launch} {e : Env} {s : State} {m : MethodId} {below : List Frame} {meth : Method} {c : Code} {b L : Nat} {xs : Nat → Int32} {D : va_G} {t : Nat → ClassId} {sa : Nat → Nat} {ax : Nat} {ao al am ac : Nat → Nat} {xg xh xe xm : Nat} {k x v how wd Kc Ks : Nat} {Q : State → Prop} {M : Nat → Nat → Int32} {n : Nat} {cl : Nat → Int32} {rd : Nat → Int32} {sv : Nat → Int32} {pb : Nat → Int32} {ba : Nat → Int32} {bf : Nat → Int32} {od : Nat → Int32} {bg : Nat → Int64} {mn : Nat} {ms : Nat → Int32} {mf : Nat → Int32} {mt : Nat → Int32} {mp : Nat → Int32} {cn : Nat} {st : Int32} {Wt : Nat → Nat → Int32} {fg : Nat → Int32} {fh : Nat → Int32} {fe : Nat → Int32} {fm : Nat → Int32} {mk : Nat} (C0 : ob_At p l s m c b L xs D t sa) (hD0 : va_D (fun q : Nat => s.heap.size ≤ q) (ob_wX ax ao al am ac ++ ob_wO t ao (fun _ _ => 0) ++ ob_wL t al 0 (fun _ => 0) (fun _ => 0) (fun _ => 0) (fun _ => 0) (fun _ => 0) (fun _ => 0) (fun _ => 0) (fun _ => 0) ++ ob_wM t am 0 (fun _ => 0) (fun _ => 0) (fun _ => 0) (fun _ => 0) ++ ob_wC t ac 0 0 (fun _ _ => 0) ++ ob_wG t xg (fun _ => 0) ++ ob_wH t xh (fun _ => 0) ++ ob_wE t xe (fun _ => 0) ++ ob_wV t xm (fun _ => 0))) (hKc : Kc + 200 ≤ 600086) (hKs : Ks + 1200 ≤ 7301442) (hk8 : k < 80) (hxb : x < 2147483648) (hvx : v = x / 32) (hwd : wd = 10001 ∨ wd = 60) (hn12 : n < 12) (nx : ∀ (H : Heap) (locs : List Loc) (ls : Array Slot), ob_St D t ax ao al am ac xg xh xe xm H → va_S (fun q : Nat => s.heap.size ≤ q) s.heap H locs → lv_has ls 15 [(0, .ref b), (1, .ref ax), (2, .ref xg), (3, .ref xh), (4, .ref xe), (5, .ref xm), (6, .int (nI 1)), (7, .int (nI k)), (8, .int (nI x)), (9, .int (nI v))] → W p l e room_1 s m #[Value.ref b] below meth c H locs (Kc + 20) (Ks + 120) Q (F0 m 826 ls []))
    {H : Heap} {locs : List Loc} {ls : Array Slot} (hP : va_P D vwCl (ob_wX ax ao al am ac ++ ob_wO t ao M ++ ob_wL t al n cl rd sv pb ba bf od bg ++ ob_wM t am mn ms mf mt mp ++ ob_wC t ac cn st Wt ++ ob_wG t xg fg ++ ob_wH t xh fh ++ ob_wE t xe fe ++ ob_wV t xm fm) H) (hJc : ob_Jc M fe mk) (hJl : ob_Jl M n cl rd sv pb ba bf od fg) (hJm : ob_Jm mn mf mt mp) (hJr : ob_Jr cn Wt fh) (hJf : ob_Jf n mn cn st mk fm) (hS : va_S (fun q : Nat => s.heap.size ≤ q) s.heap H locs) (hl : lv_has ls 15 [(0, .ref b), (1, .ref ax), (2, .ref xg), (3, .ref xh), (4, .ref xe), (5, .ref xm), (6, .int (nI 1)), (7, .int (nI k)), (8, .int (nI x)), (9, .int (nI v)), (10, .int (nI how)), (11, .int (nI wd))]) : W p l e room_1 s m #[Value.ref b] below meth c H locs Kc Ks Q (F0 m 230 ls []) := by
  obtain ⟨hx, hb, hml, hown, hts, hX, hbl, hk, hE0, hN, hl9, hL3⟩ := id C0
  obtain ⟨hM, hmk12, hmk⟩ := id hJc
  obtain ⟨hn, hkc, hrd, hbf, hod, hpb, hg, hg4⟩ := id hJl
  obtain ⟨hmn, hmm, hmp⟩ := id hJm
  obtain ⟨hcn, hh, hz0⟩ := id hJr
  obtain ⟨hf0, hf1, hf2, hf3, hf5⟩ := id hJf
  have hbA : ¬ (fun q : Nat => s.heap.size ≤ q) b := Nat.not_le.mpr hbl
  have hA : ∀ q : Nat, s.heap.size ≤ q → (fun q : Nat => s.heap.size ≤ q) q := fun _ h => h
  have hK := hk.1
  have hP : va_P D vwCl (ob_wX ax ao al am ac ++ ob_wO t ao M ++ ob_wL t al n cl rd sv pb ba bf od bg ++ ob_wM t am mn ms mf mt mp ++ ob_wC t ac cn st Wt ++ ob_wG t xg fg ++ ob_wH t xh fh ++ ob_wE t xe fe ++ ob_wV t xm fm) H := hP
  have hD : va_D (fun q : Nat => s.heap.size ≤ q) (ob_wX ax ao al am ac ++ ob_wO t ao M ++ ob_wL t al n cl rd sv pb ba bf od bg ++ ob_wM t am mn ms mf mt mp ++ ob_wC t ac cn st Wt ++ ob_wG t xg fg ++ ob_wH t xh fh ++ ob_wE t xe fe ++ ob_wV t xm fm) := ob_dXOLMCGHEV hD0
  refine lv_iconst (v := nI 5) hx hb dL_law_230 (by decide) ?_
  refine lv_aload hx hb dL_law_231 (lv_at hl 5 rfl) ?_
  refine lv_iconst (v := nI 0) hx hb dL_law_233 (by decide) ?_
  refine ob_iald hx hb hK hP 43 0 rfl rfl (by omega) (by decide) dL_law_234 ?_
  rw [show fm 0 = nI n from hf0]
  refine lv_imul hx hb dL_law_235 ?_
  rw [show (nI 5) * (nI n) = nI (5 * n) from pk_mul _ _]
  refine lv_istore (lv' := [(12, .int (nI (5 * n))), (0, .ref b), (1, .ref ax), (2, .ref xg), (3, .ref xh), (4, .ref xe), (5, .ref xm), (6, .int (nI 1)), (7, .int (nI k)), (8, .int (nI x)), (9, .int (nI v)), (10, .int (nI how)), (11, .int (nI wd))]) hx hb dL_law_236 hl (by decide) rfl (fun ls hl => ?_)
  refine lv_aload_n hx hb dL_law_238 rfl (lv_at hl 2 rfl) ?_
  have hFc := va_free (wc := ob_wX ax ao al am ac ++ ob_wL t al n cl rd sv pb ba bf od bg) hD hS hA [0, 8, 9, 10, 11, 12, 13, 14, 15, 16] rfl
  refine va_calll (ob_runN (vx_runSX (As := [.ref ax]) (rest := []) ⟨hx, hb, hml, hown, hts⟩ (y_orders_ok l hl9 sa D t H.size ax ao al am ac n cl rd sv pb ba bf od bg (by first | assumption | omega) (by rw [decide_eq_true (show n ≤ 12 by omega)]; rfl)) (vx_cwSW 1 hts gL_law_L_orders rfl rfl rfl (by decide +kernel) ⟨Nat.le_of_ble_eq_true rfl, Nat.le_of_ble_eq_true rfl⟩) (ob_pYS (hP.sub [0, 8, 9, 10, 11, 12, 13, 14, 15, 16] rfl) (hD.sub [0, 8, 9, 10, 11, 12, 13, 14, 15, 16] (by decide) rfl) hk (ob_exN hE0 hS hFc) hN) rfl rfl hl.1 rfl (lv_room (Nat.le_of_ble_eq_true rfl)) dL_law_239 ⟨(by show _ ≤ 600086; omega), (by show _ ≤ 7301442; omega)⟩)) hS (fun q _ h => hFc q h) hFc (fun r9 u9 t9 H1 locs ht hvm hw9 hB hz1 hk1 hS => ?_)
  refine W.widen (k := Kc + 1) (n := Ks + 6) (by omega) (by omega) ?_
  rw [ht] at hB
  have hP := ob_jn (ws' := ob_wX ax ao al am ac ++ ob_wO t ao M ++ ob_wL t al n cl rd sv pb ba bf od (ob_F bf n bg (2 ^ n)) ++ ob_wM t am mn ms mf mt mp ++ ob_wC t ac cn st Wt ++ ob_wG t xg fg ++ ob_wH t xh fh ++ ob_wE t xe fe ++ ob_wV t xm fm) hP hD [some 0, none, none, none, none, none, none, none, some 1, some 2, some 3, some 4, some 5, some 6, some 7, some 8, some 9, none, none, none, none, none, none, none, none, none, none, none, none, none, none, none, none, none, none, none, none, none, none, none, none, none, none, none] [0, 8, 9, 10, 11, 12, 13, 14, 15, 16] rfl rfl hk1 hB rfl
  obtain ⟨bg1, ebg1⟩ : ∃ z, z = ob_F bf n bg (2 ^ n) := ⟨_, rfl⟩
  rw [← ebg1] at hP
  have hP : va_P D vwCl (ob_wX ax ao al am ac ++ ob_wO t ao M ++ ob_wL t al n cl rd sv pb ba bf od bg1 ++ ob_wM t am mn ms mf mt mp ++ ob_wC t ac cn st Wt ++ ob_wG t xg fg ++ ob_wH t xh fh ++ ob_wE t xe fe ++ ob_wV t xm fm) H1 := hP
  have hD : va_D ((fun q : Nat => s.heap.size ≤ q)) (ob_wX ax ao al am ac ++ ob_wO t ao M ++ ob_wL t al n cl rd sv pb ba bf od bg1 ++ ob_wM t am mn ms mf mt mp ++ ob_wC t ac cn st Wt ++ ob_wG t xg fg ++ ob_wH t xh fh ++ ob_wE t xe fe ++ ob_wV t xm fm) := ob_dXOLMCGHEV hD
  generalize H1 = H at hP hS ⊢
  subst hw9
  refine lv_lstore (lv' := [(13, .long (ob_F bf n bg (2 ^ n) (2 ^ n - 1))), (12, .int (nI (5 * n))), (0, .ref b), (1, .ref ax), (2, .ref xg), (3, .ref xh), (4, .ref xe), (5, .ref xm), (6, .int (nI 1)), (7, .int (nI k)), (8, .int (nI x)), (9, .int (nI v)), (10, .int (nI how)), (11, .int (nI wd))]) hx hb dL_law_242 hl (by decide) rfl (fun ls hl => ?_)
  refine lv_aload_n hx hb dL_law_244 rfl (lv_at hl 4 rfl) ?_
  refine lv_iload hx hb dL_law_245 (lv_at hl 1 rfl) ?_
  have k265 : ∀ (u : Nat), (u ≤ 4) → ∀ ls : Array Slot, lv_has ls 15 [(0, .ref b), (1, .ref ax), (2, .ref xg), (3, .ref xh), (4, .ref xe), (5, .ref xm), (6, .int (nI 1)), (7, .int (nI k)), (8, .int (nI x)), (9, .int (nI v)), (10, .int (nI how)), (11, .int (nI wd)), (12, .int (nI (5 * n))), (13, .long (ob_F bf n bg (2 ^ n) (2 ^ n - 1)))] → W p l e room_1 s m #[Value.ref b] below meth c H locs (Kc + 1) (Ks + 6) Q (F0 m 265 ls [.int (nI u), .int (nI (5 * n)), .ref xg]) := by
    intro u hu ls hl
    refine ob_iast hx hb hK hP hD hS 40 0 rfl rfl (by omega) (by decide) dL_law_265 (fun H locs hP hD hS => ?_)
    have hP : va_P D vwCl (ob_wX ax ao al am ac ++ ob_wO t ao M ++ ob_wL t al n cl rd sv pb ba bf od bg1 ++ ob_wM t am mn ms mf mt mp ++ ob_wC t ac cn st Wt ++ ob_wG t xg (upd fg (5 * n) (nI u)) ++ ob_wH t xh fh ++ ob_wE t xe fe ++ ob_wV t xm fm) H := hP
    have hD : va_D ((fun q : Nat => s.heap.size ≤ q)) (ob_wX ax ao al am ac ++ ob_wO t ao M ++ ob_wL t al n cl rd sv pb ba bf od bg1 ++ ob_wM t am mn ms mf mt mp ++ ob_wC t ac cn st Wt ++ ob_wG t xg (upd fg (5 * n) (nI u)) ++ ob_wH t xh fh ++ ob_wE t xe fe ++ ob_wV t xm fm) := hD
    refine lv_aload_n hx hb dL_law_266 rfl (lv_at hl 2 rfl) ?_
    refine lv_iload hx hb dL_law_267 (lv_at hl 12 rfl) ?_
    refine lv_iconst (v := nI 1) hx hb dL_law_269 (by decide) ?_
    refine lv_iadd hx hb dL_law_270 ?_
    rw [show (nI (5 * n)) + (nI 1) = nI ((5 * n) + 1) from nI_add _ _]
    refine lv_iload hx hb dL_law_271 (lv_at hl 9 rfl) ?_
    refine lv_bipush (v := nI 7) hx hb dL_law_273 (by decide) ?_
    refine lv_idiv hx hb dL_law_275 (by decide) ?_
    rw [show (nI v) / (nI 7) = nI (v / 7) from pk_div (by omega) (by omega) (by omega)]
    refine lv_iload hx hb dL_law_276 (lv_at hl 11 rfl) ?_
    refine lv_irem hx hb dL_law_278 (nI_ne0 (by omega) (by omega)) ?_
    rw [show (nI (v / 7)) - (nI (v / 7)) / (nI wd) * (nI wd) = nI ((v / 7) % wd) from pk_rem (by omega) (by omega) (by omega)]
    obtain ⟨rq, e278⟩ : ∃ z, z = ((v / 7) % wd) := ⟨_, rfl⟩
    rw [show nI ((v / 7) % wd) = nI rq from by rw [e278]]
    refine ob_iast hx hb hK hP hD hS 40 0 rfl rfl (by omega) (by decide) dL_law_279 (fun H locs hP hD hS => ?_)
    have hP : va_P D vwCl (ob_wX ax ao al am ac ++ ob_wO t ao M ++ ob_wL t al n cl rd sv pb ba bf od bg1 ++ ob_wM t am mn ms mf mt mp ++ ob_wC t ac cn st Wt ++ ob_wG t xg (upd (upd fg (5 * n) (nI u)) ((5 * n) + 1) (nI rq)) ++ ob_wH t xh fh ++ ob_wE t xe fe ++ ob_wV t xm fm) H := hP
    have hD : va_D ((fun q : Nat => s.heap.size ≤ q)) (ob_wX ax ao al am ac ++ ob_wO t ao M ++ ob_wL t al n cl rd sv pb ba bf od bg1 ++ ob_wM t am mn ms mf mt mp ++ ob_wC t ac cn st Wt ++ ob_wG t xg (upd (upd fg (5 * n) (nI u)) ((5 * n) + 1) (nI rq)) ++ ob_wH t xh fh ++ ob_wE t xe fe ++ ob_wV t xm fm) := hD
    refine lv_aload_n hx hb dL_law_280 rfl (lv_at hl 2 rfl) ?_
    refine lv_iload hx hb dL_law_281 (lv_at hl 12 rfl) ?_
    refine lv_iconst (v := nI 2) hx hb dL_law_283 (by decide) ?_
    refine lv_iadd hx hb dL_law_284 ?_
    rw [show (nI (5 * n)) + (nI 2) = nI ((5 * n) + 2) from nI_add _ _]
    refine lv_iload hx hb dL_law_285 (lv_at hl 9 rfl) ?_
    refine lv_bipush (v := nI 11) hx hb dL_law_287 (by decide) ?_
    refine lv_idiv hx hb dL_law_289 (by decide) ?_
    rw [show (nI v) / (nI 11) = nI (v / 11) from pk_div (by omega) (by omega) (by omega)]
    refine lv_bipush (v := nI 6) hx hb dL_law_290 (by decide) ?_
    refine lv_irem hx hb dL_law_292 (by decide) ?_
    rw [show (nI (v / 11)) - (nI (v / 11)) / (nI 6) * (nI 6) = nI ((v / 11) % 6) from pk_rem (by omega) (by omega) (by omega)]
    obtain ⟨qs, e292⟩ : ∃ z, z = ((v / 11) % 6) := ⟨_, rfl⟩
    rw [show nI ((v / 11) % 6) = nI qs from by rw [e292]]
    refine ob_iast hx hb hK hP hD hS 40 0 rfl rfl (by omega) (by decide) dL_law_293 (fun H locs hP hD hS => ?_)
    have hP : va_P D vwCl (ob_wX ax ao al am ac ++ ob_wO t ao M ++ ob_wL t al n cl rd sv pb ba bf od bg1 ++ ob_wM t am mn ms mf mt mp ++ ob_wC t ac cn st Wt ++ ob_wG t xg (upd (upd (upd fg (5 * n) (nI u)) ((5 * n) + 1) (nI rq)) ((5 * n) + 2) (nI qs)) ++ ob_wH t xh fh ++ ob_wE t xe fe ++ ob_wV t xm fm) H := hP
    have hD : va_D ((fun q : Nat => s.heap.size ≤ q)) (ob_wX ax ao al am ac ++ ob_wO t ao M ++ ob_wL t al n cl rd sv pb ba bf od bg1 ++ ob_wM t am mn ms mf mt mp ++ ob_wC t ac cn st Wt ++ ob_wG t xg (upd (upd (upd fg (5 * n) (nI u)) ((5 * n) + 1) (nI rq)) ((5 * n) + 2) (nI qs)) ++ ob_wH t xh fh ++ ob_wE t xe fe ++ ob_wV t xm fm) := hD
    refine lv_aload_n hx hb dL_law_294 rfl (lv_at hl 2 rfl) ?_
    refine lv_iload hx hb dL_law_295 (lv_at hl 12 rfl) ?_
    refine lv_iconst (v := nI 3) hx hb dL_law_297 (by decide) ?_
    refine lv_iadd hx hb dL_law_298 ?_
    rw [show (nI (5 * n)) + (nI 3) = nI ((5 * n) + 3) from nI_add _ _]
    refine lv_iload hx hb dL_law_299 (lv_at hl 9 rfl) ?_
    refine lv_bipush (v := nI 66) hx hb dL_law_301 (by decide) ?_
    refine lv_idiv hx hb dL_law_303 (by decide) ?_
    rw [show (nI v) / (nI 66) = nI (v / 66) from pk_div (by omega) (by omega) (by omega)]
    refine lv_iconst (v := nI 2) hx hb dL_law_304 (by decide) ?_
    refine lv_irem hx hb dL_law_305 (by decide) ?_
    rw [show (nI (v / 66)) - (nI (v / 66)) / (nI 2) * (nI 2) = nI ((v / 66) % 2) from pk_rem (by omega) (by omega) (by omega)]
    obtain ⟨wp, e305⟩ : ∃ z, z = ((v / 66) % 2) := ⟨_, rfl⟩
    rw [show nI ((v / 66) % 2) = nI wp from by rw [e305]]
    refine ob_iast hx hb hK hP hD hS 40 0 rfl rfl (by omega) (by decide) dL_law_306 (fun H locs hP hD hS => ?_)
    have hP : va_P D vwCl (ob_wX ax ao al am ac ++ ob_wO t ao M ++ ob_wL t al n cl rd sv pb ba bf od bg1 ++ ob_wM t am mn ms mf mt mp ++ ob_wC t ac cn st Wt ++ ob_wG t xg (upd (upd (upd (upd fg (5 * n) (nI u)) ((5 * n) + 1) (nI rq)) ((5 * n) + 2) (nI qs)) ((5 * n) + 3) (nI wp)) ++ ob_wH t xh fh ++ ob_wE t xe fe ++ ob_wV t xm fm) H := hP
    have hD : va_D ((fun q : Nat => s.heap.size ≤ q)) (ob_wX ax ao al am ac ++ ob_wO t ao M ++ ob_wL t al n cl rd sv pb ba bf od bg1 ++ ob_wM t am mn ms mf mt mp ++ ob_wC t ac cn st Wt ++ ob_wG t xg (upd (upd (upd (upd fg (5 * n) (nI u)) ((5 * n) + 1) (nI rq)) ((5 * n) + 2) (nI qs)) ((5 * n) + 3) (nI wp)) ++ ob_wH t xh fh ++ ob_wE t xe fe ++ ob_wV t xm fm) := hD
    refine lv_aload hx hb dL_law_307 (lv_at hl 5 rfl) ?_
    refine lv_iconst (v := nI 0) hx hb dL_law_309 (by decide) ?_
    refine lv_dup2_11 hx hb dL_law_310 rfl rfl ?_
    refine ob_iald hx hb hK hP 43 0 rfl rfl (by omega) (by decide) dL_law_311 ?_
    rw [show fm 0 = nI n from hf0]
    refine lv_iconst (v := nI 1) hx hb dL_law_312 (by decide) ?_
    refine lv_iadd hx hb dL_law_313 ?_
    rw [show (nI n) + (nI 1) = nI (n + 1) from nI_add _ _]
    refine ob_iast hx hb hK hP hD hS 43 0 rfl rfl (by omega) (by decide) dL_law_314 (fun H locs hP hD hS => ?_)
    have hP : va_P D vwCl (ob_wX ax ao al am ac ++ ob_wO t ao M ++ ob_wL t al n cl rd sv pb ba bf od bg1 ++ ob_wM t am mn ms mf mt mp ++ ob_wC t ac cn st Wt ++ ob_wG t xg (upd (upd (upd (upd fg (5 * n) (nI u)) ((5 * n) + 1) (nI rq)) ((5 * n) + 2) (nI qs)) ((5 * n) + 3) (nI wp)) ++ ob_wH t xh fh ++ ob_wE t xe fe ++ ob_wV t xm (upd fm 0 (nI (n + 1)))) H := hP
    have hD : va_D ((fun q : Nat => s.heap.size ≤ q)) (ob_wX ax ao al am ac ++ ob_wO t ao M ++ ob_wL t al n cl rd sv pb ba bf od bg1 ++ ob_wM t am mn ms mf mt mp ++ ob_wC t ac cn st Wt ++ ob_wG t xg (upd (upd (upd (upd fg (5 * n) (nI u)) ((5 * n) + 1) (nI rq)) ((5 * n) + 2) (nI qs)) ((5 * n) + 3) (nI wp)) ++ ob_wH t xh fh ++ ob_wE t xe fe ++ ob_wV t xm (upd fm 0 (nI (n + 1)))) := hD
    obtain ⟨fg9, efg9⟩ : ∃ z, z = upd (upd (upd (upd fg (5 * n) (nI u)) ((5 * n) + 1) (nI rq)) ((5 * n) + 2) (nI qs)) ((5 * n) + 3) (nI wp) := ⟨_, rfl⟩
    rw [← efg9] at hP
    have hP : va_P D vwCl (ob_wX ax ao al am ac ++ ob_wO t ao M ++ ob_wL t al n cl rd sv pb ba bf od bg1 ++ ob_wM t am mn ms mf mt mp ++ ob_wC t ac cn st Wt ++ ob_wG t xg fg9 ++ ob_wH t xh fh ++ ob_wE t xe fe ++ ob_wV t xm (upd fm 0 (nI (n + 1)))) H := hP
    have hD : va_D ((fun q : Nat => s.heap.size ≤ q)) (ob_wX ax ao al am ac ++ ob_wO t ao M ++ ob_wL t al n cl rd sv pb ba bf od bg1 ++ ob_wM t am mn ms mf mt mp ++ ob_wC t ac cn st Wt ++ ob_wG t xg fg9 ++ ob_wH t xh fh ++ ob_wE t xe fe ++ ob_wV t xm (upd fm 0 (nI (n + 1)))) := ob_dXOLMCGHEV hD
    have hrq : rq ≤ 10000 := by rw [e278]; exact ob_mdw hwd _
    have hqs : qs ≤ 5 := by omega
    have hwp : wp ≤ 1 := by omega
    refine lv_aload_n hx hb dL_law_315 rfl (lv_at hl 1 rfl) ?_
    refine lv_iconst (v := nI 0) hx hb dL_law_316 (by decide) ?_
    refine lv_aload_n hx hb dL_law_317 rfl (lv_at hl 2 rfl) ?_
    refine lv_iload hx hb dL_law_318 (lv_at hl 12 rfl) ?_
    refine ob_iald hx hb hK hP 40 0 rfl rfl (by omega) (by decide) dL_law_320 ?_
    rw [show fg9 (5 * n) = nI u from (by rw [efg9, pk_un (by omega), pk_un (by omega), pk_un (by omega), pk_us])]
    refine lv_aload_n hx hb dL_law_321 rfl (lv_at hl 2 rfl) ?_
    refine lv_iload hx hb dL_law_322 (lv_at hl 12 rfl) ?_
    refine lv_iconst (v := nI 1) hx hb dL_law_324 (by decide) ?_
    refine lv_iadd hx hb dL_law_325 ?_
    rw [show (nI (5 * n)) + (nI 1) = nI ((5 * n) + 1) from nI_add _ _]
    refine ob_iald hx hb hK hP 40 0 rfl rfl (by omega) (by decide) dL_law_326 ?_
    rw [show fg9 ((5 * n) + 1) = nI rq from (by rw [efg9, pk_un (by omega), pk_un (by omega), pk_us])]
    refine lv_aload_n hx hb dL_law_327 rfl (lv_at hl 2 rfl) ?_
    refine lv_iload hx hb dL_law_328 (lv_at hl 12 rfl) ?_
    refine lv_iconst (v := nI 2) hx hb dL_law_330 (by decide) ?_
    refine lv_iadd hx hb dL_law_331 ?_
    rw [show (nI (5 * n)) + (nI 2) = nI ((5 * n) + 2) from nI_add _ _]
    refine ob_iald hx hb hK hP 40 0 rfl rfl (by omega) (by decide) dL_law_332 ?_
    rw [show fg9 ((5 * n) + 2) = nI qs from (by rw [efg9, pk_un (by omega), pk_us])]
    refine lv_aload_n hx hb dL_law_333 rfl (lv_at hl 2 rfl) ?_
    refine lv_iload hx hb dL_law_334 (lv_at hl 12 rfl) ?_
    refine lv_iconst (v := nI 3) hx hb dL_law_336 (by decide) ?_
    refine lv_iadd hx hb dL_law_337 ?_
    rw [show (nI (5 * n)) + (nI 3) = nI ((5 * n) + 3) from nI_add _ _]
    refine ob_iald hx hb hK hP 40 0 rfl rfl (by omega) (by decide) dL_law_338 ?_
    rw [show fg9 ((5 * n) + 3) = nI wp from (by rw [efg9, pk_us])]
    have hFc := va_free (wc := ob_wX ax ao al am ac ++ ob_wO t ao M ++ ob_wL t al n cl rd sv pb ba bf od bg1) hD hS hA [0, 1, 2, 3, 4, 5, 6, 7, 8, 9, 10, 11, 12, 13, 14, 15, 16] rfl
    refine va_calli (ob_runN (vx_runSX (As := [.ref ax, .int (nI 0), .int (nI u), .int (nI rq), .int (nI qs), .int (nI wp)]) (rest := []) ⟨hx, hb, hml, hown, hts⟩ (y_add0_ok l hl9 sa D t H.size ax ao al am ac M n cl rd sv pb ba bf od bg1 (nI u) (nI rq) (nI qs) (nI wp) (by first | assumption | omega) (by rw [ob_wi_nI hu (by decide), ob_wi_nI hrq (by decide), ob_wi_nI hqs (by decide), decide_eq_true (show n < 30 by omega)]; rfl)) (vx_cwSW 6 hts gL_law_L_add rfl rfl rfl (by decide +kernel) ⟨Nat.le_of_ble_eq_true rfl, Nat.le_of_ble_eq_true rfl⟩) (ob_pYS (hP.sub [0, 1, 2, 3, 4, 5, 6, 7, 8, 9, 10, 11, 12, 13, 14, 15, 16] rfl) (hD.sub [0, 1, 2, 3, 4, 5, 6, 7, 8, 9, 10, 11, 12, 13, 14, 15, 16] (by decide) rfl) hk (ob_exN hE0 hS hFc) hN) rfl rfl hl.1 rfl (lv_room (Nat.le_of_ble_eq_true rfl)) dL_law_339 ⟨(by show _ ≤ 600086; omega), (by show _ ≤ 7301442; omega)⟩)) hS (fun q _ h => hFc q h) hFc (fun r9 u9 t9 H1 locs ht hvm hw9 hB hz1 hk1 hS => ?_)
    refine W.widen (k := Kc + 2) (n := Ks + 12) (by omega) (by omega) ?_
    rw [ht] at hB
    have hP := ob_jn (ws' := ob_wX ax ao al am ac ++ ob_wO t ao M ++ ob_wL t al (n + 1) (upd cl n (nI u)) (upd rd n (nI rq)) (upd sv n (nI qs)) (upd pb n (ob_bi (decide ((nI wp) = nI 1)))) ba (ob_bf2 M (upd cl n (nI u)) (upd rd n (nI rq)) (n + 1) bf (n + 1)) (ob_od2 (ob_bf2 M (upd cl n (nI u)) (upd rd n (nI rq)) (n + 1) bf (n + 1)) (n + 1) od (n + 1)) bg1 ++ ob_wM t am mn ms mf mt mp ++ ob_wC t ac cn st Wt ++ ob_wG t xg fg9 ++ ob_wH t xh fh ++ ob_wE t xe fe ++ ob_wV t xm (upd fm 0 (nI (n + 1)))) hP hD [some 0, some 1, some 2, some 3, some 4, some 5, some 6, some 7, some 8, some 9, some 10, some 11, some 12, some 13, some 14, some 15, some 16, none, none, none, none, none, none, none, none, none, none, none, none, none, none, none, none, none, none, none, none, none, none, none, none, none, none, none] [0, 1, 2, 3, 4, 5, 6, 7, 8, 9, 10, 11, 12, 13, 14, 15, 16] rfl rfl hk1 hB rfl
    obtain ⟨cl9, ecl9⟩ : ∃ z, z = upd cl n (nI u) := ⟨_, rfl⟩
    rw [← ecl9] at hP
    obtain ⟨rd9, erd9⟩ : ∃ z, z = upd rd n (nI rq) := ⟨_, rfl⟩
    rw [← erd9] at hP
    obtain ⟨sv9, esv9⟩ : ∃ z, z = upd sv n (nI qs) := ⟨_, rfl⟩
    rw [← esv9] at hP
    obtain ⟨pb9, epb9⟩ : ∃ z, z = upd pb n (ob_bi (decide ((nI wp) = nI 1))) := ⟨_, rfl⟩
    rw [← epb9] at hP
    obtain ⟨bf9, ebf9⟩ : ∃ z, z = ob_bf2 M cl9 rd9 (n + 1) bf (n + 1) := ⟨_, rfl⟩
    rw [← ebf9] at hP
    obtain ⟨od9, eod9⟩ : ∃ z, z = ob_od2 bf9 (n + 1) od (n + 1) := ⟨_, rfl⟩
    rw [← eod9] at hP
    have hP : va_P D vwCl (ob_wX ax ao al am ac ++ ob_wO t ao M ++ ob_wL t al (n + 1) cl9 rd9 sv9 pb9 ba bf9 od9 bg1 ++ ob_wM t am mn ms mf mt mp ++ ob_wC t ac cn st Wt ++ ob_wG t xg fg9 ++ ob_wH t xh fh ++ ob_wE t xe fe ++ ob_wV t xm (upd fm 0 (nI (n + 1)))) H1 := hP
    have hD : va_D ((fun q : Nat => s.heap.size ≤ q)) (ob_wX ax ao al am ac ++ ob_wO t ao M ++ ob_wL t al (n + 1) cl9 rd9 sv9 pb9 ba bf9 od9 bg1 ++ ob_wM t am mn ms mf mt mp ++ ob_wC t ac cn st Wt ++ ob_wG t xg fg9 ++ ob_wH t xh fh ++ ob_wE t xe fe ++ ob_wV t xm (upd fm 0 (nI (n + 1)))) := ob_dXOLMCGHEV hD
    generalize H1 = H at hP hS ⊢
    subst hw9
    obtain ⟨hJl9, hcc, hdd⟩ := ob_Jl_w hJl hn12 hu hrq hwp efg9 ecl9 erd9 esv9 epb9 ebf9 eod9
    refine lv_aload hx hb dL_law_342 (lv_at hl 5 rfl) ?_
    refine lv_iconst (v := nI 0) hx hb dL_law_344 (by decide) ?_
    refine ob_iald hx hb hK hP 43 0 rfl rfl (by omega) (by decide) dL_law_345 ?_
    rw [show (upd fm 0 (nI (n + 1))) 0 = nI (n + 1) from pk_us]
    refine lv_iconst (v := nI 1) hx hb dL_law_346 (by decide) ?_
    refine lv_isub hx hb dL_law_347 ?_
    rw [show (nI (n + 1)) - (nI 1) = nI ((n + 1) - 1) from pk_sub (by omega)]
    refine ob_icmp_ne (tgt := 388) hx hb (by omega) (by omega) dL_law_348 (by decide) (fun c348 => ?_) (fun c348 => ?_)
    · exact absurd c348 (by omega)
    · refine lv_iload hx hb dL_law_351 (lv_at hl 7 rfl) ?_
      refine lv_iconst (v := nI 4) hx hb dL_law_353 (by decide) ?_
      refine lv_irem hx hb dL_law_354 (by decide) ?_
      rw [show (nI k) - (nI k) / (nI 4) * (nI 4) = nI (k % 4) from pk_rem (by omega) (by omega) (by omega)]
      refine ob_nif_gt (tgt := 384) hx hb (by omega) dL_law_355 (by decide) (fun c355 => ?_) (fun c355 => ?_)
      · refine lv_iconst (v := nI 1) hx hb dL_law_384 (by decide) ?_
        refine lv_goto (tgt := 389) hx hb dL_law_385 (by decide) ?_
        refine lv_istore (lv' := [(6, .int (nI 1)), (0, .ref b), (1, .ref ax), (2, .ref xg), (3, .ref xh), (4, .ref xe), (5, .ref xm), (7, .int (nI k)), (8, .int (nI x)), (9, .int (nI v)), (10, .int (nI how)), (11, .int (nI wd)), (12, .int (nI (5 * n))), (13, .long (ob_F bf n bg (2 ^ n) (2 ^ n - 1)))]) hx hb dL_law_389 hl (by decide) rfl (fun ls hl => ?_)
        refine lv_goto (tgt := 826) hx hb dL_law_391 (by decide) ?_
        refine W.widen (k := Kc + 20) (n := Ks + 120) (by omega) (by omega) ?_
        exact nx _ _ _ ⟨_, _, _, _, _, _, _, _, _, _, _, _, _, _, _, _, _, _, _, _, _, _, _, hP, hJc, hJl9, hJm, hJr, (ob_Jf_0 hJf)⟩ hS (lv_sub hl [1, 2, 3, 4, 5, 6, 0, 7, 8, 9] rfl)
      · refine lv_aload_n hx hb dL_law_358 rfl (lv_at hl 1 rfl) ?_
        have hFc := va_free (wc := ob_wX ax ao al am ac ++ ob_wL t al (n + 1) cl9 rd9 sv9 pb9 ba bf9 od9 bg1) hD hS hA [0, 8, 9, 10, 11, 12, 13, 14, 15, 16] rfl
        refine va_calll (ob_runN (vx_runSX (As := [.ref ax]) (rest := []) ⟨hx, hb, hml, hown, hts⟩ (y_orders_ok l hl9 sa D t H.size ax ao al am ac (n + 1) cl9 rd9 sv9 pb9 ba bf9 od9 bg1 (by first | assumption | omega) (by rw [decide_eq_true (show n + 1 ≤ 12 by omega)]; rfl)) (vx_cwSW 1 hts gL_law_L_orders rfl rfl rfl (by decide +kernel) ⟨Nat.le_of_ble_eq_true rfl, Nat.le_of_ble_eq_true rfl⟩) (ob_pYS (hP.sub [0, 8, 9, 10, 11, 12, 13, 14, 15, 16] rfl) (hD.sub [0, 8, 9, 10, 11, 12, 13, 14, 15, 16] (by decide) rfl) hk (ob_exN hE0 hS hFc) hN) rfl rfl hl.1 rfl (lv_room (Nat.le_of_ble_eq_true rfl)) dL_law_359 ⟨(by show _ ≤ 600086; omega), (by show _ ≤ 7301442; omega)⟩)) hS (fun q _ h => hFc q h) hFc (fun r9 u9 t9 H1 locs ht hvm hw9 hB hz1 hk1 hS => ?_)
        refine W.widen (k := Kc + 3) (n := Ks + 18) (by omega) (by omega) ?_
        rw [ht] at hB
        have hP := ob_jn (ws' := ob_wX ax ao al am ac ++ ob_wO t ao M ++ ob_wL t al (n + 1) cl9 rd9 sv9 pb9 ba bf9 od9 (ob_F bf9 (n + 1) bg1 (2 ^ (n + 1))) ++ ob_wM t am mn ms mf mt mp ++ ob_wC t ac cn st Wt ++ ob_wG t xg fg9 ++ ob_wH t xh fh ++ ob_wE t xe fe ++ ob_wV t xm (upd fm 0 (nI (n + 1)))) hP hD [some 0, none, none, none, none, none, none, none, some 1, some 2, some 3, some 4, some 5, some 6, some 7, some 8, some 9, none, none, none, none, none, none, none, none, none, none, none, none, none, none, none, none, none, none, none, none, none, none, none, none, none, none, none] [0, 8, 9, 10, 11, 12, 13, 14, 15, 16] rfl rfl hk1 hB rfl
        obtain ⟨bg2, ebg2⟩ : ∃ z, z = ob_F bf9 (n + 1) bg1 (2 ^ (n + 1)) := ⟨_, rfl⟩
        rw [← ebg2] at hP
        have hP : va_P D vwCl (ob_wX ax ao al am ac ++ ob_wO t ao M ++ ob_wL t al (n + 1) cl9 rd9 sv9 pb9 ba bf9 od9 bg2 ++ ob_wM t am mn ms mf mt mp ++ ob_wC t ac cn st Wt ++ ob_wG t xg fg9 ++ ob_wH t xh fh ++ ob_wE t xe fe ++ ob_wV t xm (upd fm 0 (nI (n + 1)))) H1 := hP
        have hD : va_D ((fun q : Nat => s.heap.size ≤ q)) (ob_wX ax ao al am ac ++ ob_wO t ao M ++ ob_wL t al (n + 1) cl9 rd9 sv9 pb9 ba bf9 od9 bg2 ++ ob_wM t am mn ms mf mt mp ++ ob_wC t ac cn st Wt ++ ob_wG t xg fg9 ++ ob_wH t xh fh ++ ob_wE t xe fe ++ ob_wV t xm (upd fm 0 (nI (n + 1)))) := ob_dXOLMCGHEV hD
        generalize H1 = H at hP hS ⊢
        subst hw9
        refine lv_lload hx hb dL_law_362 (lv_at hl 13 rfl) ?_
        refine W.lcmp hx hb dL_law_364 ?_
        refine lv_if_lt (tgt := 388) hx hb dL_law_365 (by decide) (fun c365 => ?_) (fun c365 => ?_)
        · exact absurd ((lg_cmp_lt _ _).mp c365) (ob_grow2 hn12 hM hJl hJl9 hcc hdd bg bg1).1
        · refine lv_aload_n hx hb dL_law_368 rfl (lv_at hl 1 rfl) ?_
          have hFc := va_free (wc := ob_wX ax ao al am ac ++ ob_wL t al (n + 1) cl9 rd9 sv9 pb9 ba bf9 od9 bg2) hD hS hA [0, 8, 9, 10, 11, 12, 13, 14, 15, 16] rfl
          refine va_calll (ob_runN (vx_runSX (As := [.ref ax]) (rest := []) ⟨hx, hb, hml, hown, hts⟩ (y_orders_ok l hl9 sa D t H.size ax ao al am ac (n + 1) cl9 rd9 sv9 pb9 ba bf9 od9 bg2 (by first | assumption | omega) (by rw [decide_eq_true (show n + 1 ≤ 12 by omega)]; rfl)) (vx_cwSW 1 hts gL_law_L_orders rfl rfl rfl (by decide +kernel) ⟨Nat.le_of_ble_eq_true rfl, Nat.le_of_ble_eq_true rfl⟩) (ob_pYS (hP.sub [0, 8, 9, 10, 11, 12, 13, 14, 15, 16] rfl) (hD.sub [0, 8, 9, 10, 11, 12, 13, 14, 15, 16] (by decide) rfl) hk (ob_exN hE0 hS hFc) hN) rfl rfl hl.1 rfl (lv_room (Nat.le_of_ble_eq_true rfl)) dL_law_369 ⟨(by show _ ≤ 600086; omega), (by show _ ≤ 7301442; omega)⟩)) hS (fun q _ h => hFc q h) hFc (fun r9 u9 t9 H1 locs ht hvm hw9 hB hz1 hk1 hS => ?_)
          refine W.widen (k := Kc + 4) (n := Ks + 24) (by omega) (by omega) ?_
          rw [ht] at hB
          have hP := ob_jn (ws' := ob_wX ax ao al am ac ++ ob_wO t ao M ++ ob_wL t al (n + 1) cl9 rd9 sv9 pb9 ba bf9 od9 (ob_F bf9 (n + 1) bg2 (2 ^ (n + 1))) ++ ob_wM t am mn ms mf mt mp ++ ob_wC t ac cn st Wt ++ ob_wG t xg fg9 ++ ob_wH t xh fh ++ ob_wE t xe fe ++ ob_wV t xm (upd fm 0 (nI (n + 1)))) hP hD [some 0, none, none, none, none, none, none, none, some 1, some 2, some 3, some 4, some 5, some 6, some 7, some 8, some 9, none, none, none, none, none, none, none, none, none, none, none, none, none, none, none, none, none, none, none, none, none, none, none, none, none, none, none] [0, 8, 9, 10, 11, 12, 13, 14, 15, 16] rfl rfl hk1 hB rfl
          obtain ⟨bg3, ebg3⟩ : ∃ z, z = ob_F bf9 (n + 1) bg2 (2 ^ (n + 1)) := ⟨_, rfl⟩
          rw [← ebg3] at hP
          have hP : va_P D vwCl (ob_wX ax ao al am ac ++ ob_wO t ao M ++ ob_wL t al (n + 1) cl9 rd9 sv9 pb9 ba bf9 od9 bg3 ++ ob_wM t am mn ms mf mt mp ++ ob_wC t ac cn st Wt ++ ob_wG t xg fg9 ++ ob_wH t xh fh ++ ob_wE t xe fe ++ ob_wV t xm (upd fm 0 (nI (n + 1)))) H1 := hP
          have hD : va_D ((fun q : Nat => s.heap.size ≤ q)) (ob_wX ax ao al am ac ++ ob_wO t ao M ++ ob_wL t al (n + 1) cl9 rd9 sv9 pb9 ba bf9 od9 bg3 ++ ob_wM t am mn ms mf mt mp ++ ob_wC t ac cn st Wt ++ ob_wG t xg fg9 ++ ob_wH t xh fh ++ ob_wE t xe fe ++ ob_wV t xm (upd fm 0 (nI (n + 1)))) := ob_dXOLMCGHEV hD
          generalize H1 = H at hP hS ⊢
          subst hw9
          refine lv_lload hx hb dL_law_372 (lv_at hl 13 rfl) ?_
          refine lv_aload hx hb dL_law_374 (lv_at hl 5 rfl) ?_
          refine lv_iconst (v := nI 0) hx hb dL_law_376 (by decide) ?_
          refine ob_iald hx hb hK hP 43 0 rfl rfl (by omega) (by decide) dL_law_377 ?_
          rw [show (upd fm 0 (nI (n + 1))) 0 = nI (n + 1) from pk_us]
          refine lv_i2l (v := (nI (n + 1)).toInt64) hx hb dL_law_378 rfl ?_
          refine lv_lmul hx hb dL_law_379 ?_
          refine W.lcmp hx hb dL_law_380 ?_
          refine lv_if_gt (tgt := 388) hx hb dL_law_381 (by decide) (fun c381 => ?_) (fun c381 => ?_)
          · exact absurd ((lg_cmp_gt _ _).mp c381) (ob_grow2 hn12 hM hJl hJl9 hcc hdd bg bg2).2
          · refine lv_iconst (v := nI 1) hx hb dL_law_384 (by decide) ?_
            refine lv_goto (tgt := 389) hx hb dL_law_385 (by decide) ?_
            refine lv_istore (lv' := [(6, .int (nI 1)), (0, .ref b), (1, .ref ax), (2, .ref xg), (3, .ref xh), (4, .ref xe), (5, .ref xm), (7, .int (nI k)), (8, .int (nI x)), (9, .int (nI v)), (10, .int (nI how)), (11, .int (nI wd)), (12, .int (nI (5 * n))), (13, .long (ob_F bf n bg (2 ^ n) (2 ^ n - 1)))]) hx hb dL_law_389 hl (by decide) rfl (fun ls hl => ?_)
            refine lv_goto (tgt := 826) hx hb dL_law_391 (by decide) ?_
            refine W.widen (k := Kc + 20) (n := Ks + 120) (by omega) (by omega) ?_
            exact nx _ _ _ ⟨_, _, _, _, _, _, _, _, _, _, _, _, _, _, _, _, _, _, _, _, _, _, _, hP, hJc, hJl9, hJm, hJr, (ob_Jf_0 hJf)⟩ hS (lv_sub hl [1, 2, 3, 4, 5, 6, 0, 7, 8, 9] rfl)
  refine lv_iload hx hb dL_law_247 (lv_at hl 11 rfl) ?_
  refine lv_bipush (v := nI 7) hx hb dL_law_249 (by decide) ?_
  refine lv_irem hx hb dL_law_251 (by decide) ?_
  rw [show (nI v) - (nI v) / (nI 7) * (nI 7) = nI (v % 7) from pk_rem (by omega) (by omega) (by omega)]
  refine lv_iconst (v := nI 4) hx hb dL_law_252 (by decide) ?_
  refine ob_icmp_le (tgt := 260) hx hb (by omega) (by omega) dL_law_253 (by decide) (fun c253 => ?_) (fun c253 => ?_)
  · refine lv_iload hx hb dL_law_260 (lv_at hl 11 rfl) ?_
    refine lv_bipush (v := nI 7) hx hb dL_law_262 (by decide) ?_
    refine lv_irem hx hb dL_law_264 (by decide) ?_
    rw [show (nI v) - (nI v) / (nI 7) * (nI 7) = nI (v % 7) from pk_rem (by omega) (by omega) (by omega)]
    exact k265 (v % 7) (by omega) _ (lv_sub hl [2, 3, 4, 5, 6, 7, 8, 9, 10, 11, 12, 13, 1, 0] rfl)
  · refine lv_iconst (v := nI 0) hx hb dL_law_256 (by decide) ?_
    refine lv_goto (tgt := 265) hx hb dL_law_257 (by decide) ?_
    exact k265 0 (by omega) _ (lv_sub hl [2, 3, 4, 5, 6, 7, 8, 9, 10, 11, 12, 13, 1, 0] rfl)
