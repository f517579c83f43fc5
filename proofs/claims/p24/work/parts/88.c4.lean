set_option maxRecDepth 100000 in
set_option maxHeartbeats 16000000 in
/-- a measure -/
theorem ob_c4 {p : Program} {l : Launch} {e : Env} {s : State} {m : MethodId} {below : List Frame} {meth : Method} {c : Code} {b L : Nat} {xs : Nat → Int32} {D : va_G} {t : Nat → ClassId} {sa : Nat → Nat} {ax : Nat} {ao al am ac : Nat → Nat} {xg xh xe xm : Nat} {k x v how wd Kc Ks : Nat} {Q : State → Prop} {M : Nat → Nat → Int32} {n : Nat} {cl : Nat → Int32} {rd : Nat → Int32} {sv : Nat → Int32} {pb : Nat → Int32} {ba : Nat → Int32} {bf : Nat → Int32} {od : Nat → Int32} {bg : Nat → Int64} {mn : Nat} {ms : Nat → Int32} {mf : Nat → Int32} {mt : Nat → Int32} {mp : Nat → Int32} {cn : Nat} {st : Int32} {Wt : Nat → Nat → Int32} {fg : Nat → Int32} {fh : Nat → Int32} {fe : Nat → Int32} {fm : Nat → Int32} {mk : Nat} (C0 : ob_At p l s m c b L xs D t sa) (hD0 : va_D (fun q : Nat => s.heap.size ≤ q) (ob_wX ax ao al am ac ++ ob_wO t ao (fun _ _ => 0) ++ ob_wL t al 0 (fun _ => 0) (fun _ => 0) (fun _ => 0) (fun _ => 0) (fun _ => 0) (fun _ => 0) (fun _ => 0) (fun _ => 0) ++ ob_wM t am 0 (fun _ => 0) (fun _ => 0) (fun _ => 0) (fun _ => 0) ++ ob_wC t ac 0 0 (fun _ _ => 0) ++ ob_wG t xg (fun _ => 0) ++ ob_wH t xh (fun _ => 0) ++ ob_wE t xe (fun _ => 0) ++ ob_wV t xm (fun _ => 0))) (hKc : Kc + 200 ≤ 600086) (hKs : Ks + 1200 ≤ 7301442) (hk8 : k < 80) (hxb : x < 2147483648) (hvx : v = x / 32) (hwd : wd = 10001 ∨ wd = 60) (nx : ∀ (H : Heap) (locs : List Loc) (ls : Array Slot), ob_St D t ax ao al am ac xg xh xe xm H → va_S (fun q : Nat => s.heap.size ≤ q) s.heap H locs → lv_has ls 15 [(0, .ref b), (1, .ref ax), (2, .ref xg), (3, .ref xh), (4, .ref xe), (5, .ref xm), (6, .int (nI 1)), (7, .int (nI k)), (8, .int (nI x)), (9, .int (nI v))] → W p l e room_1 s m #[Value.ref b] below meth c H locs (Kc + 20) (Ks + 120) Q (F0 m 826 ls []))
    {H : Heap} {locs : List Loc} {ls : Array Slot} (hP : va_P D vwCl (ob_wX ax ao al am ac ++ ob_wO t ao M ++ ob_wL t al n cl rd sv pb ba bf od bg ++ ob_wM t am mn ms mf mt mp ++ ob_wC t ac cn st Wt ++ ob_wG t xg fg ++ ob_wH t xh fh ++ ob_wE t xe fe ++ ob_wV t xm fm) H) (hJc : ob_Jc M fe mk) (hJl : ob_Jl M n cl rd sv pb ba bf od fg) (hJm : ob_Jm mn mf mt mp) (hJr : ob_Jr cn Wt fh) (hJf : ob_Jf n mn cn st mk fm) (hS : va_S (fun q : Nat => s.heap.size ≤ q) s.heap H locs) (hl : lv_has ls 15 [(0, .ref b), (1, .ref ax), (2, .ref xg), (3, .ref xh), (4, .ref xe), (5, .ref xm), (6, .int (nI 1)), (7, .int (nI k)), (8, .int (nI x)), (9, .int (nI v)), (10, .int (nI how)), (11, .int (nI wd))]) : W p l e room_1 s m #[Value.ref b] below meth c H locs Kc Ks Q (F0 m 505 ls []) := by
  obtain ⟨hx, hb, hml, hown, hts, hX, hbl, hk, hE0, hN, hl9, hL3⟩ := id C0
  obtain ⟨hM, hmk12, hmk⟩ := id hJc
  obtain ⟨hn, hkc, hrd, hbf, hod, hpb, hg, hg4⟩ := id hJl
  obtain ⟨hmn, hmm, hmp⟩ := id hJm
  obtain ⟨hcn, hh, hz0⟩ := id hJr
  obtain ⟨hf0, hf1, hf2, hf3, hf5⟩ := id hJf
  have hbA : ¬ (fun q : Nat => s.heap.size ≤ q) b := Nat.not_le.mpr hbl
  have hA : ∀ q : Nat, s.heap.size ≤ q → (fun q : Nat => s.heap.size ≤ q) q := fun _ h => h
  have hK := hk.1
  have hP : va_P D vwCl (ob_wX ax ao al am ac ++ ob_wO t ao M ++ ob_wL t al n cl rd sv pb ba bf od bg ++ ob_wM t am mn ms mf mt mp ++ ob_wC t ac cn st Wt ++ ob_wG t xg fg ++ ob_wH t xh fh ++ ob_wE t xe fe ++ ob_wV t xm fm) H := hP
  have hD : va_D (fun q : Nat => s.heap.size ≤ q) (ob_wX ax ao al am ac ++ ob_wO t ao M ++ ob_wL t al n cl rd sv pb ba bf od bg ++ ob_wM t am mn ms mf mt mp ++ ob_wC t ac cn st Wt ++ ob_wG t xg fg ++ ob_wH t xh fh ++ ob_wE t xe fe ++ ob_wV t xm fm) := ob_dXOLMCGHEV hD0
  refine lv_iload hx hb dL_law_505 (lv_at hl 9 rfl) ?_
  refine lv_bipush (v := nI 6) hx hb dL_law_507 (by decide) ?_
  refine lv_idiv hx hb dL_law_509 (by decide) ?_
  rw [show (nI v) / (nI 6) = nI (v / 6) from pk_div (by omega) (by omega) (by omega)]
  refine lv_iload hx hb dL_law_510 (lv_at hl 11 rfl) ?_
  refine lv_irem hx hb dL_law_512 (nI_ne0 (by omega) (by omega)) ?_
  rw [show (nI (v / 6)) - (nI (v / 6)) / (nI wd) * (nI wd) = nI ((v / 6) % wd) from pk_rem (by omega) (by omega) (by omega)]
  obtain ⟨fr, e512⟩ : ∃ z, z = ((v / 6) % wd) := ⟨_, rfl⟩
  rw [show nI ((v / 6) % wd) = nI fr from by rw [e512]]
  refine lv_istore (lv' := [(12, .int (nI fr)), (0, .ref b), (1, .ref ax), (2, .ref xg), (3, .ref xh), (4, .ref xe), (5, .ref xm), (6, .int (nI 1)), (7, .int (nI k)), (8, .int (nI x)), (9, .int (nI v)), (10, .int (nI how)), (11, .int (nI wd))]) hx hb dL_law_513 hl (by decide) rfl (fun ls hl => ?_)
  have hfr : fr ≤ 10000 := by rw [e512]; exact ob_mdw hwd _
  refine lv_aload hx hb dL_law_515 (lv_at hl 6 rfl) ?_
  refine lv_iconst (v := nI 1) hx hb dL_law_517 (by decide) ?_
  refine ob_iald hx hb hK hP 43 0 rfl rfl (by omega) (by decide) dL_law_518 ?_
  rw [show fm 1 = nI mn from hf1]
  refine lv_bipush (v := nI 40) hx hb dL_law_519 (by decide) ?_
  refine ob_icmp_eq (tgt := 580) hx hb (by omega) (by omega) dL_law_521 (by decide) (fun c521 => ?_) (fun c521 => ?_)
  · refine lv_iconst (v := nI 1) hx hb dL_law_580 (by decide) ?_
    refine lv_goto (tgt := 585) hx hb dL_law_581 (by decide) ?_
    refine lv_istore (lv' := [(6, .int (nI 1)), (12, .int (nI fr)), (0, .ref b), (1, .ref ax), (2, .ref xg), (3, .ref xh), (4, .ref xe), (5, .ref xm), (7, .int (nI k)), (8, .int (nI x)), (9, .int (nI v)), (10, .int (nI how)), (11, .int (nI wd))]) hx hb dL_law_585 hl (by decide) rfl (fun ls hl => ?_)
    refine lv_goto (tgt := 826) hx hb dL_law_587 (by decide) ?_
    refine W.widen (k := Kc + 20) (n := Ks + 120) (by omega) (by omega) ?_
    exact nx _ _ _ ⟨_, _, _, _, _, _, _, _, _, _, _, _, _, _, _, _, _, _, _, _, _, _, _, hP, hJc, hJl, hJm, hJr, hJf⟩ hS (lv_sub hl [2, 3, 4, 5, 6, 7, 0, 8, 9, 10] rfl)
  · refine lv_aload_n hx hb dL_law_524 rfl (lv_at hl 2 rfl) ?_
    refine lv_aload hx hb dL_law_525 (lv_at hl 6 rfl) ?_
    refine lv_iload hx hb dL_law_527 (lv_at hl 10 rfl) ?_
    refine lv_bipush (v := nI 6) hx hb dL_law_529 (by decide) ?_
    refine lv_irem hx hb dL_law_531 (by decide) ?_
    rw [show (nI v) - (nI v) / (nI 6) * (nI 6) = nI (v % 6) from pk_rem (by omega) (by omega) (by omega)]
    obtain ⟨sN, e531⟩ : ∃ z, z = (v % 6) := ⟨_, rfl⟩
    rw [show nI (v % 6) = nI sN from by rw [e531]]
    refine lv_iload hx hb dL_law_532 (lv_at hl 0 rfl) ?_
    refine lv_iload hx hb dL_law_534 (lv_at hl 0 rfl) ?_
    refine lv_iload hx hb dL_law_536 (lv_at hl 10 rfl) ?_
    refine lv_sipush (v := nI 900) hx hb dL_law_538 (by decide) ?_
    refine lv_idiv hx hb dL_law_541 (by decide) ?_
    rw [show (nI v) / (nI 900) = nI (v / 900) from pk_div (by omega) (by omega) (by omega)]
    refine lv_sipush (v := nI 10001) hx hb dL_law_542 (by decide) ?_
    refine lv_iload hx hb dL_law_545 (lv_at hl 0 rfl) ?_
    refine lv_isub hx hb dL_law_547 ?_
    rw [show (nI 10001) - (nI fr) = nI (10001 - fr) from pk_sub (by omega)]
    refine lv_irem hx hb dL_law_548 (nI_ne0 (by omega) (by omega)) ?_
    rw [show (nI (v / 900)) - (nI (v / 900)) / (nI (10001 - fr)) * (nI (10001 - fr)) = nI ((v / 900) % (10001 - fr)) from pk_rem (by omega) (by omega) (by omega)]
    obtain ⟨d1, e548⟩ : ∃ z, z = ((v / 900) % (10001 - fr)) := ⟨_, rfl⟩
    rw [show nI ((v / 900) % (10001 - fr)) = nI d1 from by rw [e548]]
    have hd1 : d1 < 10001 - fr := by rw [e548]; exact Nat.mod_lt _ (by omega)
    refine lv_iload hx hb dL_law_549 (lv_at hl 10 rfl) ?_
    have k564 : ∀ (w9 : Nat), (w9 = 10001 ∨ w9 = 50) → ∀ ls : Array Slot, lv_has ls 15 [(0, .ref b), (1, .ref ax), (2, .ref xg), (3, .ref xh), (4, .ref xe), (5, .ref xm), (6, .int (nI 1)), (7, .int (nI k)), (8, .int (nI x)), (9, .int (nI v)), (10, .int (nI how)), (11, .int (nI wd)), (12, .int (nI fr))] → W p l e room_1 s m #[Value.ref b] below meth c H locs (Kc) (Ks) Q (F0 m 564 ls [.int (nI w9), .int (nI d1), .int (nI fr), .int (nI fr), .int (nI sN), .ref xm, .ref ax]) := by
      intro w9 hws ls hl
      refine lv_irem hx hb dL_law_564 (nI_ne0 (by omega) (by omega)) ?_
      rw [show (nI d1) - (nI d1) / (nI w9) * (nI w9) = nI (d1 % w9) from pk_rem (by omega) (by omega) (by omega)]
      obtain ⟨d2, e564⟩ : ∃ z, z = (d1 % w9) := ⟨_, rfl⟩
      rw [show nI (d1 % w9) = nI d2 from by rw [e564]]
      refine lv_iadd hx hb dL_law_565 ?_
      rw [show (nI fr) + (nI d2) = nI (fr + d2) from nI_add _ _]
      obtain ⟨bN, e565⟩ : ∃ z, z = (fr + d2) := ⟨_, rfl⟩
      rw [show nI (fr + d2) = nI bN from by rw [e565]]
      refine lv_iload hx hb dL_law_566 (lv_at hl 9 rfl) ?_
      refine lv_bipush (v := nI 31) hx hb dL_law_568 (by decide) ?_
      refine lv_idiv hx hb dL_law_570 (by decide) ?_
      rw [show (nI v) / (nI 31) = nI (v / 31) from pk_div (by omega) (by omega) (by omega)]
      refine lv_bipush (v := nI 101) hx hb dL_law_571 (by decide) ?_
      refine lv_irem hx hb dL_law_573 (by decide) ?_
      rw [show (nI (v / 31)) - (nI (v / 31)) / (nI 101) * (nI 101) = nI ((v / 31) % 101) from pk_rem (by omega) (by omega) (by omega)]
      obtain ⟨pN, e573⟩ : ∃ z, z = ((v / 31) % 101) := ⟨_, rfl⟩
      rw [show nI ((v / 31) % 101) = nI pN from by rw [e573]]
      have hd2 : d2 ≤ d1 := by rw [e564]; exact Nat.mod_le _ _
      have hFc := va_free (wc := ob_wX ax ao al am ac ++ ob_wM t am mn ms mf mt mp ++ ob_wV t xm fm) hD hS hA [0, 17, 18, 19, 20, 21, 43] rfl
      refine va_calli (va_runS (As := [.ref ax, .ref xm, .int (nI sN), .int (nI fr), .int (nI bN), .int (nI pN)]) (rest := []) ⟨hx, hb, hml, hown, hts⟩ (c_L_isMeasured l hl9 sa D t H.size ax ao al am ac mn ms mf mt mp xm fm sN fr bN pN (by omega) hmm hmp hf1 (by first | assumption | omega) (by first | assumption | omega) (by first | assumption | omega) (by first | assumption | omega)) (va_cwS 6 hts gL_law_L_isMeasured rfl rfl rfl (by decide +kernel) ⟨Nat.le_of_ble_eq_true rfl, Nat.le_of_ble_eq_true rfl⟩) (ob_pYS (hP.sub [0, 17, 18, 19, 20, 21, 43] rfl) (hD.sub [0, 17, 18, 19, 20, 21, 43] (by decide) rfl) hk (ob_exN hE0 hS hFc) hN) rfl rfl hl.1 rfl (lv_room (Nat.le_of_ble_eq_true rfl)) dL_law_574 ⟨(by show _ ≤ 600086; omega), (by show _ ≤ 7301442; omega)⟩) hS (fun q _ h => hFc q h) hFc (fun r9 u9 t9 H1 locs ht hvm hw9 hB hz1 hk1 hS => ?_)
      refine W.widen (k := Kc + 1) (n := Ks + 6) (by omega) (by omega) ?_
      obtain ⟨ms9, mf9, mt9, mp9, hB, jm9⟩ := hB
      rw [ht] at hB
      have hP := ob_jn (ws' := ob_wX ax ao al am ac ++ ob_wO t ao M ++ ob_wL t al n cl rd sv pb ba bf od bg ++ ob_wM t am (mn + 1) ms9 mf9 mt9 mp9 ++ ob_wC t ac cn st Wt ++ ob_wG t xg fg ++ ob_wH t xh fh ++ ob_wE t xe fe ++ ob_wV t xm (upd fm 1 (nI (mn + 1)))) hP hD [some 0, none, none, none, none, none, none, none, none, none, none, none, none, none, none, none, none, some 1, some 2, some 3, some 4, some 5, none, none, none, none, none, none, none, none, none, none, none, none, none, none, none, none, none, none, none, none, none, some 6] [0, 17, 18, 19, 20, 21, 43] rfl rfl hk1 hB rfl
      have hD : va_D ((fun q : Nat => s.heap.size ≤ q)) (ob_wX ax ao al am ac ++ ob_wO t ao M ++ ob_wL t al n cl rd sv pb ba bf od bg ++ ob_wM t am (mn + 1) ms9 mf9 mt9 mp9 ++ ob_wC t ac cn st Wt ++ ob_wG t xg fg ++ ob_wH t xh fh ++ ob_wE t xe fe ++ ob_wV t xm (upd fm 1 (nI (mn + 1)))) := ob_dXOLMCGHEV hD
      generalize H1 = H at hP hS ⊢
      subst hw9
      refine lv_if_eq (tgt := 584) hx hb dL_law_577 (by decide) (fun c9 => absurd c9 (by decide)) (fun _ => ?_)
      refine lv_iconst (v := nI 1) hx hb dL_law_580 (by decide) ?_
      refine lv_goto (tgt := 585) hx hb dL_law_581 (by decide) ?_
      refine lv_istore (lv' := [(6, .int (nI 1)), (0, .ref b), (1, .ref ax), (2, .ref xg), (3, .ref xh), (4, .ref xe), (5, .ref xm), (7, .int (nI k)), (8, .int (nI x)), (9, .int (nI v)), (10, .int (nI how)), (11, .int (nI wd)), (12, .int (nI fr))]) hx hb dL_law_585 hl (by decide) rfl (fun ls hl => ?_)
      refine lv_goto (tgt := 826) hx hb dL_law_587 (by decide) ?_
      refine W.widen (k := Kc + 20) (n := Ks + 120) (by omega) (by omega) ?_
      exact nx _ _ _ ⟨_, _, _, _, _, _, _, _, _, _, _, _, _, _, _, _, _, _, _, _, _, _, _, hP, hJc, hJl, jm9, hJr, (ob_Jf_1 hJf)⟩ hS (lv_sub hl [1, 2, 3, 4, 5, 6, 0, 7, 8, 9] rfl)
    refine lv_iconst (v := nI 4) hx hb dL_law_551 (by decide) ?_
    refine lv_irem hx hb dL_law_552 (by decide) ?_
    rw [show (nI v) - (nI v) / (nI 4) * (nI 4) = nI (v % 4) from pk_rem (by omega) (by omega) (by omega)]
    refine ob_nif_ne (tgt := 562) hx hb (by omega) dL_law_553 (by decide) (fun c553 => ?_) (fun c553 => ?_)
    · refine lv_bipush (v := nI 50) hx hb dL_law_562 (by decide) ?_
      exact k564 50 (by omega) _ (lv_sub hl [1, 2, 3, 4, 5, 6, 7, 8, 9, 10, 11, 12, 0] rfl)
    · refine lv_sipush (v := nI 10001) hx hb dL_law_556 (by decide) ?_
      refine lv_goto (tgt := 564) hx hb dL_law_559 (by decide) ?_
      exact k564 10001 (by omega) _ (lv_sub hl [1, 2, 3, 4, 5, 6, 7, 8, 9, 10, 11, 12, 0] rfl)
