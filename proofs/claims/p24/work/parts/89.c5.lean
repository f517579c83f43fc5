set_option maxRecDepth 100000 in
set_option maxHeartbeats 16000000 in
/-- a cause -/
theorem ob_c5 {p : Program} {l : Launch} {e : Env} {s : State} {m : MethodId} {below : List Frame} {meth : Method} {c : Code} {b L : Nat} {xs : Nat → Int32} {D : va_G} {t : Nat → ClassId} {sa : Nat → Nat} {ax : Nat} {ao al am ac : Nat → Nat} {xg xh xe xm : Nat} {k x v how wd Kc Ks : Nat} {Q : State → Prop} {M : Nat → Nat → Int32} {n : Nat} {cl : Nat → Int32} {rd : Nat → Int32} {sv : Nat → Int32} {pb : Nat → Int32} {ba : Nat → Int32} {bf : Nat → Int32} {od : Nat → Int32} {bg : Nat → Int64} {mn : Nat} {ms : Nat → Int32} {mf : Nat → Int32} {mt : Nat → Int32} {mp : Nat → Int32} {cn : Nat} {st : Int32} {Wt : Nat → Nat → Int32} {fg : Nat → Int32} {fh : Nat → Int32} {fe : Nat → Int32} {fm : Nat → Int32} {mk : Nat} (C0 : ob_At p l s m c b L xs D t sa) (hD0 : va_D (fun q : Nat => s.heap.size ≤ q) (ob_wX ax ao al am ac ++ ob_wO t ao (fun _ _ => 0) ++ ob_wL t al 0 (fun _ => 0) (fun _ => 0) (fun _ => 0) (fun _ => 0) (fun _ => 0) (fun _ => 0) (fun _ => 0) (fun _ => 0) ++ ob_wM t am 0 (fun _ => 0) (fun _ => 0) (fun _ => 0) (fun _ => 0) ++ ob_wC t ac 0 0 (fun _ _ => 0) ++ ob_wG t xg (fun _ => 0) ++ ob_wH t xh (fun _ => 0) ++ ob_wE t xe (fun _ => 0) ++ ob_wV t xm (fun _ => 0))) (hKc : Kc + 200 ≤ 600086) (hKs : Ks + 1200 ≤ 7301442) (hk8 : k < 80) (hxb : x < 2147483648) (hvx : v = x / 32) (hwd : wd = 10001 ∨ wd = 60) (hc8 : cn < 8) (nx : ∀ (H : Heap) (locs : List Loc) (ls : Array Slot), ob_St D t ax ao al am ac xg xh xe xm H → va_S (fun q : Nat => s.heap.size ≤ q) s.heap H locs → lv_has ls 15 [(0, .ref b), (1, .ref ax), (2, .ref xg), (3, .ref xh), (4, .ref xe), (5, .ref xm), (6, .int (nI 1)), (7, .int (nI k)), (8, .int (nI x)), (9, .int (nI v))] → W p l e room_1 s m #[Value.ref b] below meth c H locs (Kc + 20) (Ks + 120) Q (F0 m 826 ls []))
    {H : Heap} {locs : List Loc} {ls : Array Slot} (hP : va_P D vwCl (ob_wX ax ao al am ac ++ ob_wO t ao M ++ ob_wL t al n cl rd sv pb ba bf od bg ++ ob_wM t am mn ms mf mt mp ++ ob_wC t ac cn st Wt ++ ob_wG t xg fg ++ ob_wH t xh fh ++ ob_wE t xe fe ++ ob_wV t xm fm) H) (hJc : ob_Jc M fe mk) (hJl : ob_Jl M n cl rd sv pb ba bf od fg) (hJm : ob_Jm mn mf mt mp) (hJr : ob_Jr cn Wt fh) (hJf : ob_Jf n mn cn st mk fm) (hS : va_S (fun q : Nat => s.heap.size ≤ q) s.heap H locs) (hl : lv_has ls 15 [(0, .ref b), (1, .ref ax), (2, .ref xg), (3, .ref xh), (4, .ref xe), (5, .ref xm), (6, .int (nI 1)), (7, .int (nI k)), (8, .int (nI x)), (9, .int (nI v)), (10, .int (nI how)), (11, .int (nI wd))]) : W p l e room_1 s m #[Value.ref b] below meth c H locs Kc Ks Q (F0 m 606 ls []) := by
  obtain ⟨hx, hb, hml, hown, hts, hX, hbl, hk, hE0, hN, hl9, hL3⟩ := id C0
  obtain ⟨hM, hmk12, hmk⟩ := id hJc
  obtain ⟨hn, hkc, hrd, hbf, hod, hpb, hg, hg4⟩ := id hJl
  obtain ⟨hmn, hmm, hmp⟩ := id hJm
  obtain ⟨hcn, hh, hz0⟩ := id hJr
  obtain ⟨hf0, hf1, hf2, hf3, hf5⟩ := id hJf
  have hbA : ¬ (fun q : Nat => s.heap.size ≤ q) b := Nat.not_le.mpr hbl
  have hA : ∀ q : Nat, s.heap.size ≤ q → (fun q : Nat => s.heap.size ≤ q) q := fun _ h => h
  have hK := hk.1
  have hP : va_P D vwCl (ob_wX ax ao al am ac ++ ob_wO t ao M ++ ob_wL t al n cl rd sv pb ba bf od bg ++ ob_wM t am mn ms mf mt mp ++ ob_wC t ac cn st Wt ++ ob_wG t xg fg ++ ob_wH t xh fh ++ ob_wE t xe fe ++ ob_wV t xm fm) H := hP
  have hD : va_D (fun q : Nat => s.heap.size ≤ q) (ob_wX ax ao al am ac ++ ob_wO t ao M ++ ob_wL t al n cl rd sv pb ba bf od bg ++ ob_wM t am mn ms mf mt mp ++ ob_wC t ac cn st Wt ++ ob_wG t xg fg ++ ob_wH t xh fh ++ ob_wE t xe fe ++ ob_wV t xm fm) := ob_dXOLMCGHEV hD0
  refine lv_aload hx hb dL_law_606 (lv_at hl 5 rfl) ?_
  refine lv_iconst (v := nI 3) hx hb dL_law_608 (by decide) ?_
  refine lv_dup2_11 hx hb dL_law_609 rfl rfl ?_
  refine ob_iald hx hb hK hP 43 0 rfl rfl (by omega) (by decide) dL_law_610 ?_
  rw [show fm 3 = st from hf3]
  refine lv_iconst (v := nI 1) hx hb dL_law_611 (by decide) ?_
  refine lv_aload hx hb dL_law_612 (lv_at hl 5 rfl) ?_
  refine lv_iconst (v := nI 2) hx hb dL_law_614 (by decide) ?_
  refine ob_iald hx hb hK hP 43 0 rfl rfl (by omega) (by decide) dL_law_615 ?_
  rw [show fm 2 = nI cn from hf2]
  refine lv_ishl hx hb dL_law_616 ?_
  rw [show (nI 1) <<< ((nI cn) &&& 31) = ob_bit (nI cn) from rfl]
  refine lv_ior hx hb dL_law_617 ?_
  refine ob_iast hx hb hK hP hD hS 43 0 rfl rfl (by omega) (by decide) dL_law_618 (fun H locs hP hD hS => ?_)
  have hP : va_P D vwCl (ob_wX ax ao al am ac ++ ob_wO t ao M ++ ob_wL t al n cl rd sv pb ba bf od bg ++ ob_wM t am mn ms mf mt mp ++ ob_wC t ac cn st Wt ++ ob_wG t xg fg ++ ob_wH t xh fh ++ ob_wE t xe fe ++ ob_wV t xm (upd fm 3 (st ||| (ob_bit (nI cn))))) H := hP
  have hD : va_D ((fun q : Nat => s.heap.size ≤ q)) (ob_wX ax ao al am ac ++ ob_wO t ao M ++ ob_wL t al n cl rd sv pb ba bf od bg ++ ob_wM t am mn ms mf mt mp ++ ob_wC t ac cn st Wt ++ ob_wG t xg fg ++ ob_wH t xh fh ++ ob_wE t xe fe ++ ob_wV t xm (upd fm 3 (st ||| (ob_bit (nI cn))))) := hD
  refine lv_aload hx hb dL_law_619 (lv_at hl 5 rfl) ?_
  refine lv_iconst (v := nI 2) hx hb dL_law_621 (by decide) ?_
  refine lv_dup2_11 hx hb dL_law_622 rfl rfl ?_
  refine ob_iald hx hb hK hP 43 0 rfl rfl (by omega) (by decide) dL_law_623 ?_
  rw [show (upd fm 3 (st ||| (ob_bit (nI cn)))) 2 = nI cn from ((pk_un (by decide)).trans hf2)]
  refine lv_iconst (v := nI 1) hx hb dL_law_624 (by decide) ?_
  refine lv_iadd hx hb dL_law_625 ?_
  rw [show (nI cn) + (nI 1) = nI (cn + 1) from nI_add _ _]
  refine ob_iast hx hb hK hP hD hS 43 0 rfl rfl (by omega) (by decide) dL_law_626 (fun H locs hP hD hS => ?_)
  have hP : va_P D vwCl (ob_wX ax ao al am ac ++ ob_wO t ao M ++ ob_wL t al n cl rd sv pb ba bf od bg ++ ob_wM t am mn ms mf mt mp ++ ob_wC t ac cn st Wt ++ ob_wG t xg fg ++ ob_wH t xh fh ++ ob_wE t xe fe ++ ob_wV t xm (upd (upd fm 3 (st ||| (ob_bit (nI cn)))) 2 (nI (cn + 1)))) H := hP
  have hD : va_D ((fun q : Nat => s.heap.size ≤ q)) (ob_wX ax ao al am ac ++ ob_wO t ao M ++ ob_wL t al n cl rd sv pb ba bf od bg ++ ob_wM t am mn ms mf mt mp ++ ob_wC t ac cn st Wt ++ ob_wG t xg fg ++ ob_wH t xh fh ++ ob_wE t xe fe ++ ob_wV t xm (upd (upd fm 3 (st ||| (ob_bit (nI cn)))) 2 (nI (cn + 1)))) := hD
  refine lv_aload_n hx hb dL_law_627 rfl (lv_at hl 1 rfl) ?_
  refine lv_iconst (v := nI 2) hx hb dL_law_628 (by decide) ?_
  refine lv_iconst (v := nI 0) hx hb dL_law_629 (by decide) ?_
  refine lv_iconst (v := nI 0) hx hb dL_law_630 (by decide) ?_
  refine lv_iconst (v := nI 0) hx hb dL_law_631 (by decide) ?_
  refine lv_iconst (v := nI 0) hx hb dL_law_632 (by decide) ?_
  have hFc := va_free (wc := ob_wX ax ao al am ac ++ ob_wC t ac cn st Wt) hD hS hA [0, 22, 23, 24, 25, 26, 27, 28, 29, 30, 31, 32, 33, 34, 35, 36, 37, 38, 39] rfl
  refine va_calli (ob_runN (vx_runSX (As := [.ref ax, .int (nI 2), .int (nI 0), .int (nI 0), .int (nI 0), .int (nI 0)]) (rest := []) ⟨hx, hb, hml, hown, hts⟩ (y_add2_ok l hl9 sa D t H.size ax ao al am ac cn st Wt (nI 0) (nI 0) (nI 0) (nI 0) (by first | assumption | omega) (by rw [decide_eq_true (show cn < 16 by omega)]; rfl)) (vx_cwSW 6 hts gL_law_L_add rfl rfl rfl (by decide +kernel) ⟨Nat.le_of_ble_eq_true rfl, Nat.le_of_ble_eq_true rfl⟩) (ob_pYS (hP.sub [0, 22, 23, 24, 25, 26, 27, 28, 29, 30, 31, 32, 33, 34, 35, 36, 37, 38, 39] rfl) (hD.sub [0, 22, 23, 24, 25, 26, 27, 28, 29, 30, 31, 32, 33, 34, 35, 36, 37, 38, 39] (by decide) rfl) hk (ob_exN hE0 hS hFc) hN) rfl rfl hl.1 rfl (lv_room (Nat.le_of_ble_eq_true rfl)) dL_law_633 ⟨(by show _ ≤ 600086; omega), (by show _ ≤ 7301442; omega)⟩)) hS (fun q _ h => hFc q h) hFc (fun r9 u9 t9 H1 locs ht hvm hw9 hB hz1 hk1 hS => ?_)
  refine W.widen (k := Kc + 1) (n := Ks + 6) (by omega) (by omega) ?_
  rw [ht] at hB
  have hP := ob_jn (ws' := ob_wX ax ao al am ac ++ ob_wO t ao M ++ ob_wL t al n cl rd sv pb ba bf od bg ++ ob_wM t am mn ms mf mt mp ++ ob_wC t ac (cn + 1) (st ||| ob_bit (nI cn)) Wt ++ ob_wG t xg fg ++ ob_wH t xh fh ++ ob_wE t xe fe ++ ob_wV t xm (upd (upd fm 3 (st ||| (ob_bit (nI cn)))) 2 (nI (cn + 1)))) hP hD [some 0, none, none, none, none, none, none, none, none, none, none, none, none, none, none, none, none, none, none, none, none, none, some 1, some 2, some 3, some 4, some 5, some 6, some 7, some 8, some 9, some 10, some 11, some 12, some 13, some 14, some 15, some 16, some 17, some 18, none, none, none, none] [0, 22, 23, 24, 25, 26, 27, 28, 29, 30, 31, 32, 33, 34, 35, 36, 37, 38, 39] rfl rfl hk1 hB rfl
  have hD : va_D ((fun q : Nat => s.heap.size ≤ q)) (ob_wX ax ao al am ac ++ ob_wO t ao M ++ ob_wL t al n cl rd sv pb ba bf od bg ++ ob_wM t am mn ms mf mt mp ++ ob_wC t ac (cn + 1) (st ||| ob_bit (nI cn)) Wt ++ ob_wG t xg fg ++ ob_wH t xh fh ++ ob_wE t xe fe ++ ob_wV t xm (upd (upd fm 3 (st ||| (ob_bit (nI cn)))) 2 (nI (cn + 1)))) := ob_dXOLMCGHEV hD
  generalize H1 = H at hP hS ⊢
  subst hw9
  refine lv_aload hx hb dL_law_636 (lv_at hl 5 rfl) ?_
  refine lv_iconst (v := nI 2) hx hb dL_law_638 (by decide) ?_
  refine ob_iald hx hb hK hP 43 0 rfl rfl (by omega) (by decide) dL_law_639 ?_
  rw [show (upd (upd fm 3 (st ||| (ob_bit (nI cn)))) 2 (nI (cn + 1))) 2 = nI (cn + 1) from pk_us]
  refine lv_iconst (v := nI 1) hx hb dL_law_640 (by decide) ?_
  refine lv_isub hx hb dL_law_641 ?_
  rw [show (nI (cn + 1)) - (nI 1) = nI ((cn + 1) - 1) from pk_sub (by omega)]
  refine ob_icmp_ne (tgt := 649) hx hb (by omega) (by omega) dL_law_642 (by decide) (fun c642 => ?_) (fun c642 => ?_)
  · exact absurd c642 (by omega)
  · refine lv_iconst (v := nI 1) hx hb dL_law_645 (by decide) ?_
    refine lv_goto (tgt := 650) hx hb dL_law_646 (by decide) ?_
    refine lv_istore (lv' := [(6, .int (nI 1)), (0, .ref b), (1, .ref ax), (2, .ref xg), (3, .ref xh), (4, .ref xe), (5, .ref xm), (7, .int (nI k)), (8, .int (nI x)), (9, .int (nI v)), (10, .int (nI how)), (11, .int (nI wd))]) hx hb dL_law_650 hl (by decide) rfl (fun ls hl => ?_)
    refine lv_goto (tgt := 826) hx hb dL_law_652 (by decide) ?_
    refine W.widen (k := Kc + 20) (n := Ks + 120) (by omega) (by omega) ?_
    exact nx _ _ _ ⟨_, _, _, _, _, _, _, _, _, _, _, _, _, _, _, _, _, _, _, _, _, _, _, hP, hJc, hJl, hJm, (ob_Jr_n hJr hc8), (ob_Jf_2 hJf)⟩ hS (lv_sub hl [1, 2, 3, 4, 5, 6, 0, 7, 8, 9] rfl)
