set_option maxRecDepth 100000 in
set_option maxHeartbeats 16000000 in
/-- an argument -/
theorem ob_c3 {p : Program} {l : Launch} {e : Env} {s : State} {m : MethodId} {below : List Frame} {meth : Method} {c : Code} {b L : Nat} {xs : Nat → Int32} {D : va_G} {t : Nat → ClassId} {sa : Nat → Nat} {ax : Nat} {ao al am ac : Nat → Nat} {xg xh xe xm : Nat} {k x v how wd Kc Ks : Nat} {Q : State → Prop} {M : Nat → Nat → Int32} {n : Nat} {cl : Nat → Int32} {rd : Nat → Int32} {sv : Nat → Int32} {pb : Nat → Int32} {ba : Nat → Int32} {bf : Nat → Int32} {od : Nat → Int32} {bg : Nat → Int64} {mn : Nat} {ms : Nat → Int32} {mf : Nat → Int32} {mt : Nat → Int32} {mp : Nat → Int32} {cn : Nat} {st : Int32} {Wt : Nat → Nat → Int32} {fg : Nat → Int32} {fh : Nat → Int32} {fe : Nat → Int32} {fm : Nat → Int32} {mk : Nat} (C0 : ob_At p l s m c b L xs D t sa) (hD0 : va_D (fun q : Nat => s.heap.size ≤ q) (ob_wX ax ao al am ac ++ ob_wO t ao (fun _ _ => 0) ++ ob_wL t al 0 (fun _ => 0) (fun _ => 0) (fun _ => 0) (fun _ => 0) (fun _ => 0) (fun _ => 0) (fun _ => 0) (fun _ => 0) ++ ob_wM t am 0 (fun _ => 0) (fun _ => 0) (fun _ => 0) (fun _ => 0) ++ ob_wC t ac 0 0 (fun _ _ => 0) ++ ob_wG t xg (fun _ => 0) ++ ob_wH t xh (fun _ => 0) ++ ob_wE t xe (fun _ => 0) ++ ob_wV t xm (fun _ => 0))) (hKc : Kc + 200 ≤ 600086) (hKs : Ks + 1200 ≤ 7301442) (hk8 : k < 80) (hxb : x < 2147483648) (hvx : v = x / 32) (hwd : wd = 10001 ∨ wd = 60) (nx : ∀ (H : Heap) (locs : List Loc) (ls : Array Slot), ob_St D t ax ao al am ac xg xh xe xm H → va_S (fun q : Nat => s.heap.size ≤ q) s.heap H locs → lv_has ls 15 [(0, .ref b), (1, .ref ax), (2, .ref xg), (3, .ref xh), (4, .ref xe), (5, .ref xm), (6, .int (nI 1)), (7, .int (nI k)), (8, .int (nI x)), (9, .int (nI v))] → W p l e room_1 s m #[Value.ref b] below meth c H locs (Kc + 20) (Ks + 120) Q (F0 m 826 ls []))
    {H : Heap} {locs : List Loc} {ls : Array Slot} (hP : va_P D vwCl (ob_wX ax ao al am ac ++ ob_wO t ao M ++ ob_wL t al n cl rd sv pb ba bf od bg ++ ob_wM t am mn ms mf mt mp ++ ob_wC t ac cn st Wt ++ ob_wG t xg fg ++ ob_wH t xh fh ++ ob_wE t xe fe ++ ob_wV t xm fm) H) (hJc : ob_Jc M fe mk) (hJl : ob_Jl M n cl rd sv pb ba bf od fg) (hJm : ob_Jm mn mf mt mp) (hJr : ob_Jr cn Wt fh) (hJf : ob_Jf n mn cn st mk fm) (hS : va_S (fun q : Nat => s.heap.size ≤ q) s.heap H locs) (hl : lv_has ls 15 [(0, .ref b), (1, .ref ax), (2, .ref xg), (3, .ref xh), (4, .ref xe), (5, .ref xm), (6, .int (nI 1)), (7, .int (nI k)), (8, .int (nI x)), (9, .int (nI v)), (10, .int (nI how)), (11, .int (nI wd))]) : W p l e room_1 s m #[Value.ref b] below meth c H locs Kc Ks Q (F0 m 401 ls []) := by
  obtain ⟨hx, hb, hml, hown, hts, hX, hbl, hk, hE0, hN, hl9, hL3⟩ := id C0
  obtain ⟨hM, hmk12, hmk⟩ := id hJc
  obtain ⟨hn, hkc, hrd, hbf, hod, hpb, hg, hg4⟩ := id hJl
  obtain ⟨hmn, hmm, hmp⟩ := id hJm
  obtain ⟨hcn, hh, hz0⟩ := id hJr
  obtain ⟨hf0, hf1, hf2, hf3, hf5⟩ := id hJf
  have hbA : ¬ (fun q : Nat => s.heap.size ≤ q) b := Nat.not_le.mpr hbl
  have hA : ∀ q : Nat, s.heap.size ≤ q → (fun q : Nat => s.heap.size ≤ q) q := fun _ h => h
  have hK := hk.1
  have hP : va_P D vwCl (ob_wX ax ao al am ac ++ ob_wO t ao M ++ ob_wL t al n cl rd sv pb ba bf od bg ++ ob_wM t am mn ms mf mt mp ++ ob_wC t ac cn st Wt ++ ob_wG t xg fg ++ ob_wH t xh fh ++ ob_wE t xe fe ++ ob_wV t xm fm) H := hP
  have hD : va_D (fun q : Nat => s.heap.size ≤ q) (ob_wX ax ao al am ac ++ ob_wO t ao M ++ ob_wL t al n cl rd sv pb ba bf od bg ++ ob_wM t am mn ms mf mt mp ++ ob_wC t ac cn st Wt ++ ob_wG t xg fg ++ ob_wH t xh fh ++ ob_wE t xe fe ++ ob_wV t xm fm) := ob_dXOLMCGHEV hD0
  refine lv_aload hx hb dL_law_401 (lv_at hl 5 rfl) ?_
  refine lv_iconst (v := nI 0) hx hb dL_law_403 (by decide) ?_
  refine ob_iald hx hb hK hP 43 0 rfl rfl (by omega) (by decide) dL_law_404 ?_
  rw [show fm 0 = nI n from hf0]
  refine ob_nif_le (tgt := 826) hx hb (by omega) dL_law_405 (by decide) (fun c405 => ?_) (fun c405 => ?_)
  · refine W.widen (k := Kc + 20) (n := Ks + 120) (by omega) (by omega) ?_
    exact nx _ _ _ ⟨_, _, _, _, _, _, _, _, _, _, _, _, _, _, _, _, _, _, _, _, _, _, _, hP, hJc, hJl, hJm, hJr, hJf⟩ hS (lv_sub hl [0, 1, 2, 3, 4, 5, 6, 7, 8, 9] rfl)
  · refine lv_iload hx hb dL_law_408 (lv_at hl 9 rfl) ?_
    refine lv_aload hx hb dL_law_410 (lv_at hl 5 rfl) ?_
    refine lv_iconst (v := nI 0) hx hb dL_law_412 (by decide) ?_
    refine ob_iald hx hb hK hP 43 0 rfl rfl (by omega) (by decide) dL_law_413 ?_
    rw [show fm 0 = nI n from hf0]
    refine lv_irem hx hb dL_law_414 (nI_ne0 (by omega) (by omega)) ?_
    rw [show (nI v) - (nI v) / (nI n) * (nI n) = nI (v % n) from pk_rem (by omega) (by omega) (by omega)]
    obtain ⟨j, e414⟩ : ∃ z, z = (v % n) := ⟨_, rfl⟩
    rw [show nI (v % n) = nI j from by rw [e414]]
    have hj : j < n := by rw [e414]; exact Nat.mod_lt _ c405
    refine lv_istore (lv' := [(12, .int (nI j)), (0, .ref b), (1, .ref ax), (2, .ref xg), (3, .ref xh), (4, .ref xe), (5, .ref xm), (6, .int (nI 1)), (7, .int (nI k)), (8, .int (nI x)), (9, .int (nI v)), (10, .int (nI how)), (11, .int (nI wd))]) hx hb dL_law_415 hl (by decide) rfl (fun ls hl => ?_)
    refine lv_iconst (v := nI 1) hx hb dL_law_417 (by decide) ?_
    refine lv_iload hx hb dL_law_418 (lv_at hl 10 rfl) ?_
    refine lv_bipush (v := nI 20) hx hb dL_law_420 (by decide) ?_
    refine lv_idiv hx hb dL_law_422 (by decide) ?_
    rw [show (nI v) / (nI 20) = nI (v / 20) from pk_div (by omega) (by omega) (by omega)]
    refine lv_bipush (v := nI 100) hx hb dL_law_423 (by decide) ?_
    refine lv_irem hx hb dL_law_425 (by decide) ?_
    rw [show (nI (v / 20)) - (nI (v / 20)) / (nI 100) * (nI 100) = nI ((v / 20) % 100) from pk_rem (by omega) (by omega) (by omega)]
    refine lv_iadd hx hb dL_law_426 ?_
    rw [show (nI 1) + (nI ((v / 20) % 100)) = nI (1 + ((v / 20) % 100)) from nI_add _ _]
    obtain ⟨w, e426⟩ : ∃ z, z = (1 + ((v / 20) % 100)) := ⟨_, rfl⟩
    rw [show nI (1 + ((v / 20) % 100)) = nI w from by rw [e426]]
    refine lv_istore (lv' := [(13, .int (nI w)), (12, .int (nI j)), (0, .ref b), (1, .ref ax), (2, .ref xg), (3, .ref xh), (4, .ref xe), (5, .ref xm), (6, .int (nI 1)), (7, .int (nI k)), (8, .int (nI x)), (9, .int (nI v)), (10, .int (nI how)), (11, .int (nI wd))]) hx hb dL_law_427 hl (by decide) rfl (fun ls hl => ?_)
    refine lv_aload_n hx hb dL_law_429 rfl (lv_at hl 4 rfl) ?_
    refine lv_iconst (v := nI 5) hx hb dL_law_430 (by decide) ?_
    refine lv_iload hx hb dL_law_431 (lv_at hl 1 rfl) ?_
    refine lv_imul hx hb dL_law_433 ?_
    rw [show (nI 5) * (nI j) = nI (5 * j) from pk_mul _ _]
    refine lv_iconst (v := nI 4) hx hb dL_law_434 (by decide) ?_
    refine lv_iadd hx hb dL_law_435 ?_
    rw [show (nI (5 * j)) + (nI 4) = nI ((5 * j) + 4) from nI_add _ _]
    refine lv_dup2_11 hx hb dL_law_436 rfl rfl ?_
    refine ob_iald hx hb hK hP 40 0 rfl rfl (by omega) (by decide) dL_law_437 ?_
    rw [show fg ((5 * j) + 4) = ba j from (hg4 j (by omega))]
    refine lv_iload hx hb dL_law_438 (lv_at hl 11 rfl) ?_
    refine lv_sipush (v := nI 2000) hx hb dL_law_440 (by decide) ?_
    refine lv_idiv hx hb dL_law_443 (by decide) ?_
    rw [show (nI v) / (nI 2000) = nI (v / 2000) from pk_div (by omega) (by omega) (by omega)]
    refine lv_iconst (v := nI 2) hx hb dL_law_444 (by decide) ?_
    refine lv_irem hx hb dL_law_445 (by decide) ?_
    rw [show (nI (v / 2000)) - (nI (v / 2000)) / (nI 2) * (nI 2) = nI ((v / 2000) % 2) from pk_rem (by omega) (by omega) (by omega)]
    obtain ⟨q, e445⟩ : ∃ z, z = ((v / 2000) % 2) := ⟨_, rfl⟩
    rw [show nI ((v / 2000) % 2) = nI q from by rw [e445]]
    have k458 : ∀ (z : Int32), (z = if decide (nI q = nI 1) = true then nI w else -(nI w)) → ∀ ls : Array Slot, lv_has ls 15 [(0, .ref b), (1, .ref ax), (2, .ref xg), (3, .ref xh), (4, .ref xe), (5, .ref xm), (6, .int (nI 1)), (7, .int (nI k)), (8, .int (nI x)), (9, .int (nI v)), (10, .int (nI how)), (11, .int (nI wd)), (12, .int (nI j)), (13, .int (nI w))] → W p l e room_1 s m #[Value.ref b] below meth c H locs (Kc) (Ks) Q (F0 m 458 ls [.int z, .int (ba j), .int (nI ((5 * j) + 4)), .ref xg]) := by
      intro z hz9 ls hl
      refine lv_iadd hx hb dL_law_458 ?_
      refine ob_iast hx hb hK hP hD hS 40 0 rfl rfl (by omega) (by decide) dL_law_459 (fun H locs hP hD hS => ?_)
      have hP : va_P D vwCl (ob_wX ax ao al am ac ++ ob_wO t ao M ++ ob_wL t al n cl rd sv pb ba bf od bg ++ ob_wM t am mn ms mf mt mp ++ ob_wC t ac cn st Wt ++ ob_wG t xg (upd fg ((5 * j) + 4) ((ba j) + z)) ++ ob_wH t xh fh ++ ob_wE t xe fe ++ ob_wV t xm fm) H := hP
      have hD : va_D ((fun q : Nat => s.heap.size ≤ q)) (ob_wX ax ao al am ac ++ ob_wO t ao M ++ ob_wL t al n cl rd sv pb ba bf od bg ++ ob_wM t am mn ms mf mt mp ++ ob_wC t ac cn st Wt ++ ob_wG t xg (upd fg ((5 * j) + 4) ((ba j) + z)) ++ ob_wH t xh fh ++ ob_wE t xe fe ++ ob_wV t xm fm) := hD
      refine lv_aload_n hx hb dL_law_460 rfl (lv_at hl 1 rfl) ?_
      refine lv_iconst (v := nI 0) hx hb dL_law_461 (by decide) ?_
      refine lv_iload hx hb dL_law_462 (lv_at hl 12 rfl) ?_
      refine lv_iload hx hb dL_law_464 (lv_at hl 13 rfl) ?_
      refine lv_iload hx hb dL_law_466 (lv_at hl 9 rfl) ?_
      refine lv_sipush (v := nI 2000) hx hb dL_law_468 (by decide) ?_
      refine lv_idiv hx hb dL_law_471 (by decide) ?_
      rw [show (nI v) / (nI 2000) = nI (v / 2000) from pk_div (by omega) (by omega) (by omega)]
      refine lv_iconst (v := nI 2) hx hb dL_law_472 (by decide) ?_
      refine lv_irem hx hb dL_law_473 (by decide) ?_
      rw [show (nI (v / 2000)) - (nI (v / 2000)) / (nI 2) * (nI 2) = nI q from (by rw [e445]; exact pk_rem (by omega) (by omega) (by omega))]
      have hFc := va_free (wc := ob_wX ax ao al am ac ++ ob_wL t al n cl rd sv pb ba bf od bg) hD hS hA [0, 8, 9, 10, 11, 12, 13, 14, 15, 16] rfl
      refine va_calli (ob_runN (vx_runSX (As := [.ref ax, .int (nI 0), .int (nI j), .int (nI w), .int (nI q)]) (rest := []) ⟨hx, hb, hml, hown, hts⟩ (y_act0_ok l hl9 sa D t H.size ax ao al am ac n cl rd sv pb ba bf od bg (nI j) (nI w) (nI q) (by first | assumption | omega) (by rw [ob_hd_nI hj (by omega), ob_wiN (by omega) (by omega) (by omega), decide_eq_true (show 1 ≤ w by omega), decide_eq_true (show w ≤ 100 by omega)]; rfl)) (vx_cwSW 5 hts gL_law_L_act rfl rfl rfl (by decide +kernel) ⟨Nat.le_of_ble_eq_true rfl, Nat.le_of_ble_eq_true rfl⟩) (ob_pYS (hP.sub [0, 8, 9, 10, 11, 12, 13, 14, 15, 16] rfl) (hD.sub [0, 8, 9, 10, 11, 12, 13, 14, 15, 16] (by decide) rfl) hk (ob_exN hE0 hS hFc) hN) rfl rfl hl.1 rfl (lv_room (Nat.le_of_ble_eq_true rfl)) dL_law_474 ⟨(by show _ ≤ 600086; omega), (by show _ ≤ 7301442; omega)⟩)) hS (fun q _ h => hFc q h) hFc (fun r9 u9 t9 H1 locs ht hvm hw9 hB hz1 hk1 hS => ?_)
      refine W.widen (k := Kc + 1) (n := Ks + 6) (by omega) (by omega) ?_
      rw [ht] at hB
      have hP := ob_jn (ws' := ob_wX ax ao al am ac ++ ob_wO t ao M ++ ob_wL t al n cl rd sv pb (upd ba (nI j).toNatClampNeg (ba (nI j).toNatClampNeg + if (decide ((nI q) = nI 1)) then (nI w) else -(nI w))) bf od bg ++ ob_wM t am mn ms mf mt mp ++ ob_wC t ac cn st Wt ++ ob_wG t xg (upd fg ((5 * j) + 4) ((ba j) + z)) ++ ob_wH t xh fh ++ ob_wE t xe fe ++ ob_wV t xm fm) hP hD [some 0, none, none, none, none, none, none, none, some 1, some 2, some 3, some 4, some 5, some 6, some 7, some 8, some 9, none, none, none, none, none, none, none, none, none, none, none, none, none, none, none, none, none, none, none, none, none, none, none, none, none, none, none] [0, 8, 9, 10, 11, 12, 13, 14, 15, 16] rfl rfl hk1 hB rfl
      obtain ⟨ba9, eba9⟩ : ∃ z, z = upd ba (nI j).toNatClampNeg (ba (nI j).toNatClampNeg + if (decide ((nI q) = nI 1)) then (nI w) else -(nI w)) := ⟨_, rfl⟩
      rw [← eba9] at hP
      have hP : va_P D vwCl (ob_wX ax ao al am ac ++ ob_wO t ao M ++ ob_wL t al n cl rd sv pb ba9 bf od bg ++ ob_wM t am mn ms mf mt mp ++ ob_wC t ac cn st Wt ++ ob_wG t xg (upd fg ((5 * j) + 4) ((ba j) + z)) ++ ob_wH t xh fh ++ ob_wE t xe fe ++ ob_wV t xm fm) H1 := hP
      have hD : va_D ((fun q : Nat => s.heap.size ≤ q)) (ob_wX ax ao al am ac ++ ob_wO t ao M ++ ob_wL t al n cl rd sv pb ba9 bf od bg ++ ob_wM t am mn ms mf mt mp ++ ob_wC t ac cn st Wt ++ ob_wG t xg (upd fg ((5 * j) + 4) ((ba j) + z)) ++ ob_wH t xh fh ++ ob_wE t xe fe ++ ob_wV t xm fm) := ob_dXOLMCGHEV hD
      generalize H1 = H at hP hS ⊢
      subst hw9
      rw [show (ba (nI j).toNatClampNeg + if (decide ((nI q) = nI 1)) then (nI w) else -(nI w)) = ((ba j) + z) from (by rw [ob_cl (by omega), hz9])]
      refine lv_aload_n hx hb dL_law_477 rfl (lv_at hl 2 rfl) ?_
      refine lv_iconst (v := nI 5) hx hb dL_law_478 (by decide) ?_
      refine lv_iload hx hb dL_law_479 (lv_at hl 12 rfl) ?_
      refine lv_imul hx hb dL_law_481 ?_
      rw [show (nI 5) * (nI j) = nI (5 * j) from pk_mul _ _]
      refine lv_iconst (v := nI 4) hx hb dL_law_482 (by decide) ?_
      refine lv_iadd hx hb dL_law_483 ?_
      rw [show (nI (5 * j)) + (nI 4) = nI ((5 * j) + 4) from nI_add _ _]
      refine ob_iald hx hb hK hP 40 0 rfl rfl (by omega) (by decide) dL_law_484 ?_
      rw [show (upd fg ((5 * j) + 4) ((ba j) + z)) ((5 * j) + 4) = (ba j) + z from pk_us]
      refine lv_icmp_ne (tgt := 492) hx hb dL_law_485 (by decide) (fun c485 => ?_) (fun c485 => ?_)
      · exact absurd rfl c485
      · refine lv_iconst (v := nI 1) hx hb dL_law_488 (by decide) ?_
        refine lv_goto (tgt := 493) hx hb dL_law_489 (by decide) ?_
        refine lv_istore (lv' := [(6, .int (nI 1)), (0, .ref b), (1, .ref ax), (2, .ref xg), (3, .ref xh), (4, .ref xe), (5, .ref xm), (7, .int (nI k)), (8, .int (nI x)), (9, .int (nI v)), (10, .int (nI how)), (11, .int (nI wd)), (12, .int (nI j)), (13, .int (nI w))]) hx hb dL_law_493 hl (by decide) rfl (fun ls hl => ?_)
        refine lv_goto (tgt := 826) hx hb dL_law_495 (by decide) ?_
        refine W.widen (k := Kc + 20) (n := Ks + 120) (by omega) (by omega) ?_
        exact nx _ _ _ ⟨_, _, _, _, _, _, _, _, _, _, _, _, _, _, _, _, _, _, _, _, _, _, _, hP, hJc, (by rw [show ba9 = upd ba j (ba j + z) from by rw [eba9, ob_cl (show j ≤ 1073741824 by omega), hz9]]; exact ob_Jl_a hJl (by omega)), hJm, hJr, hJf⟩ hS (lv_sub hl [1, 2, 3, 4, 5, 6, 0, 7, 8, 9] rfl)
    refine lv_iconst (v := nI 1) hx hb dL_law_446 (by decide) ?_
    refine ob_icmp_ne (tgt := 455) hx hb (by omega) (by omega) dL_law_447 (by decide) (fun c447 => ?_) (fun c447 => ?_)
    · refine lv_iload hx hb dL_law_455 (lv_at hl 0 rfl) ?_
      refine lv_ineg hx hb dL_law_457 ?_
      exact k458 (-(nI w)) (by first | (rw [decide_eq_false (fun y => c447 ((nI_eq (ob_nlt (by omega)) (ob_nlt (by omega))).mp y)), if_neg (by decide)]; done) | (rw [c447, if_pos (by decide)]; done)) _ (lv_sub hl [2, 3, 4, 5, 6, 7, 8, 9, 10, 11, 12, 13, 1, 0] rfl)
    · refine lv_iload hx hb dL_law_450 (lv_at hl 0 rfl) ?_
      refine lv_goto (tgt := 458) hx hb dL_law_452 (by decide) ?_
      exact k458 (nI w) (by first | (rw [decide_eq_false (fun y => c447 ((nI_eq (ob_nlt (by omega)) (ob_nlt (by omega))).mp y)), if_neg (by decide)]; done) | (rw [c447, if_pos (by decide)]; done)) _ (lv_sub hl [2, 3, 4, 5, 6, 7, 8, 9, 10, 11, 12, 13, 1, 0] rfl)
