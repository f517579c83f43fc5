set_option maxRecDepth 100000 in
set_option maxHeartbeats 16000000 in
/-- a reason -/
theorem ob_c6 {p : Program} {l : Launch} {e : Env} {s : State} {m : MethodId} {below : List Frame} {meth : Method} {c : Code} {b L : Nat} {xs : Nat → Int32} {D : va_G} {t : Nat → ClassId} {sa : Nat → Nat} {ax : Nat} {ao al am ac : Nat → Nat} {xg xh xe xm : Nat} {k x v how wd Kc Ks : Nat} {Q : State → Prop} {M : Nat → Nat → Int32} {n : Nat} {cl : Nat → Int32} {rd : Nat → Int32} {sv : Nat → Int32} {pb : Nat → Int32} {ba : Nat → Int32} {bf : Nat → Int32} {od : Nat → Int32} {bg : Nat → Int64} {mn : Nat} {ms : Nat → Int32} {mf : Nat → Int32} {mt : Nat → Int32} {mp : Nat → Int32} {cn : Nat} {st : Int32} {Wt : Nat → Nat → Int32} {fg : Nat → Int32} {fh : Nat → Int32} {fe : Nat → Int32} {fm : Nat → Int32} {mk : Nat} (C0 : ob_At p l s m c b L xs D t sa) (hD0 : va_D (fun q : Nat => s.heap.size ≤ q) (ob_wX ax ao al am ac ++ ob_wO t ao (fun _ _ => 0) ++ ob_wL t al 0 (fun _ => 0) (fun _ => 0) (fun _ => 0) (fun _ => 0) (fun _ => 0) (fun _ => 0) (fun _ => 0) (fun _ => 0) ++ ob_wM t am 0 (fun _ => 0) (fun _ => 0) (fun _ => 0) (fun _ => 0) ++ ob_wC t ac 0 0 (fun _ _ => 0) ++ ob_wG t xg (fun _ => 0) ++ ob_wH t xh (fun _ => 0) ++ ob_wE t xe (fun _ => 0) ++ ob_wV t xm (fun _ => 0))) (hKc : Kc + 200 ≤ 600086) (hKs : Ks + 1200 ≤ 7301442) (hk8 : k < 80) (hxb : x < 2147483648) (hvx : v = x / 32) (hwd : wd = 10001 ∨ wd = 60) (hc2 : 1 < cn) (nx : ∀ (H : Heap) (locs : List Loc) (ls : Array Slot), ob_St D t ax ao al am ac xg xh xe xm H → va_S (fun q : Nat => s.heap.size ≤ q) s.heap H locs → lv_has ls 15 [(0, .ref b), (1, .ref ax), (2, .ref xg), (3, .ref xh), (4, .ref xe), (5, .ref xm), (6, .int (nI 1)), (7, .int (nI k)), (8, .int (nI x)), (9, .int (nI v))] → W p l e room_1 s m #[Value.ref b] below meth c H locs (Kc + 20) (Ks + 120) Q (F0 m 826 ls []))
    {H : Heap} {locs : List Loc} {ls : Array Slot} (hP : va_P D vwCl (ob_wX ax ao al am ac ++ ob_wO t ao M ++ ob_wL t al n cl rd sv pb ba bf od bg ++ ob_wM t am mn ms mf mt mp ++ ob_wC t ac cn st Wt ++ ob_wG t xg fg ++ ob_wH t xh fh ++ ob_wE t xe fe ++ ob_wV t xm fm) H) (hJc : ob_Jc M fe mk) (hJl : ob_Jl M n cl rd sv pb ba bf od fg) (hJm : ob_Jm mn mf mt mp) (hJr : ob_Jr cn Wt fh) (hJf : ob_Jf n mn cn st mk fm) (hS : va_S (fun q : Nat => s.heap.size ≤ q) s.heap H locs) (hl : lv_has ls 15 [(0, .ref b), (1, .ref ax), (2, .ref xg), (3, .ref xh), (4, .ref xe), (5, .ref xm), (6, .int (nI 1)), (7, .int (nI k)), (8, .int (nI x)), (9, .int (nI v)), (10, .int (nI how)), (11, .int (nI wd))]) : W p l e room_1 s m #[Value.ref b] below meth c H locs Kc Ks Q (F0 m 670 ls []) := by
  obtain ⟨hx, hb, hml, hown, hts, hX, hbl, hk, hE0, hN, hl9, hL3⟩ := id C0
  obtain ⟨hM, hmk12, hmk⟩ := id hJc
  obtain ⟨hn, hkc, hrd, hbf, hod, hpb, hg, hg4⟩ := id hJl
  obtain ⟨hmn, hmm, hmp⟩ := id hJm
  obtain ⟨hcn, hh, hz0⟩ := id hJr
  obtain ⟨hf0, hf1, hf2, hf3, hf5⟩ := id hJf
  have hbA : ¬ (fun q : Nat => s.heap.size ≤ q) b := Nat.not_le.mpr hbl
  have hA : ∀ q : Nat, s.heap.size ≤ q → (fun q : Nat => s.heap.size ≤ q) q := fun _ h => h
  have hK := hk.1
  have hP : va_P D vwCl (ob_wX ax ao al am ac ++ ob_wO t ao M ++ ob_wL t al n cl rd sv pb ba bf od bg ++ ob_wM t am mn ms mf mt mp ++ ob_wC t ac cn st Wt ++ ob_wG t xg fg ++ ob_wH t xh fh ++ ob_wE t xe fe ++ ob_wV t xm fm) H := hP
  have hD : va_D (fun q : Nat => s.heap.size ≤ q) (ob_wX ax ao al am ac ++ ob_wO t ao M ++ ob_wL t al n cl rd sv pb ba bf od bg ++ ob_wM t am mn ms mf mt mp ++ ob_wC t ac cn st Wt ++ ob_wG t xg fg ++ ob_wH t xh fh ++ ob_wE t xe fe ++ ob_wV t xm fm) := ob_dXOLMCGHEV hD0
  refine lv_iload hx hb dL_law_670 (lv_at hl 9 rfl) ?_
  refine lv_aload hx hb dL_law_672 (lv_at hl 5 rfl) ?_
  refine lv_iconst (v := nI 2) hx hb dL_law_674 (by decide) ?_
  refine ob_iald hx hb hK hP 43 0 rfl rfl (by omega) (by decide) dL_law_675 ?_
  rw [show fm 2 = nI cn from hf2]
  refine lv_irem hx hb dL_law_676 (nI_ne0 (by omega) (by omega)) ?_
  rw [show (nI v) - (nI v) / (nI cn) * (nI cn) = nI (v % cn) from pk_rem (by omega) (by omega) (by omega)]
  obtain ⟨cA, e676⟩ : ∃ z, z = (v % cn) := ⟨_, rfl⟩
  rw [show nI (v % cn) = nI cA from by rw [e676]]
  have hcA : cA < cn := by rw [e676]; exact Nat.mod_lt _ (by omega)
  refine lv_istore (lv' := [(12, .int (nI cA)), (0, .ref b), (1, .ref ax), (2, .ref xg), (3, .ref xh), (4, .ref xe), (5, .ref xm), (6, .int (nI 1)), (7, .int (nI k)), (8, .int (nI x)), (9, .int (nI v)), (10, .int (nI how)), (11, .int (nI wd))]) hx hb dL_law_677 hl (by decide) rfl (fun ls hl => ?_)
  refine lv_aload_n hx hb dL_law_679 rfl (lv_at hl 2 rfl) ?_
  refine lv_aload_n hx hb dL_law_680 rfl (lv_at hl 4 rfl) ?_
  refine lv_aload hx hb dL_law_681 (lv_at hl 6 rfl) ?_
  refine lv_iload hx hb dL_law_683 (lv_at hl 0 rfl) ?_
  refine lv_iload hx hb dL_law_685 (lv_at hl 0 rfl) ?_
  refine lv_iconst (v := nI 1) hx hb dL_law_687 (by decide) ?_
  refine lv_iadd hx hb dL_law_688 ?_
  rw [show (nI cA) + (nI 1) = nI (cA + 1) from nI_add _ _]
  refine lv_iload hx hb dL_law_689 (lv_at hl 10 rfl) ?_
  refine lv_bipush (v := nI 8) hx hb dL_law_691 (by decide) ?_
  refine lv_idiv hx hb dL_law_693 (by decide) ?_
  rw [show (nI v) / (nI 8) = nI (v / 8) from pk_div (by omega) (by omega) (by omega)]
  refine lv_aload hx hb dL_law_694 (lv_at hl 6 rfl) ?_
  refine lv_iconst (v := nI 2) hx hb dL_law_696 (by decide) ?_
  refine ob_iald hx hb hK hP 43 0 rfl rfl (by omega) (by decide) dL_law_697 ?_
  rw [show fm 2 = nI cn from hf2]
  refine lv_iconst (v := nI 1) hx hb dL_law_698 (by decide) ?_
  refine lv_isub hx hb dL_law_699 ?_
  rw [show (nI cn) - (nI 1) = nI (cn - 1) from pk_sub (by omega)]
  refine lv_irem hx hb dL_law_700 (nI_ne0 (by omega) (by omega)) ?_
  rw [show (nI (v / 8)) - (nI (v / 8)) / (nI (cn - 1)) * (nI (cn - 1)) = nI ((v / 8) % (cn - 1)) from pk_rem (by omega) (by omega) (by omega)]
  obtain ⟨d1, e700⟩ : ∃ z, z = ((v / 8) % (cn - 1)) := ⟨_, rfl⟩
  rw [show nI ((v / 8) % (cn - 1)) = nI d1 from by rw [e700]]
  have hd1 : d1 < cn - 1 := by rw [e700]; exact Nat.mod_lt _ (by omega)
  refine lv_iadd hx hb dL_law_701 ?_
  rw [show (nI (cA + 1)) + (nI d1) = nI ((cA + 1) + d1) from nI_add _ _]
  refine lv_aload hx hb dL_law_702 (lv_at hl 6 rfl) ?_
  refine lv_iconst (v := nI 2) hx hb dL_law_704 (by decide) ?_
  refine ob_iald hx hb hK hP 43 0 rfl rfl (by omega) (by decide) dL_law_705 ?_
  rw [show fm 2 = nI cn from hf2]
  refine lv_irem hx hb dL_law_706 (nI_ne0 (by omega) (by omega)) ?_
  rw [show (nI ((cA + 1) + d1)) - (nI ((cA + 1) + d1)) / (nI cn) * (nI cn) = nI (((cA + 1) + d1) % cn) from pk_rem (by omega) (by omega) (by omega)]
  obtain ⟨cR, e706⟩ : ∃ z, z = (((cA + 1) + d1) % cn) := ⟨_, rfl⟩
  rw [show nI (((cA + 1) + d1) % cn) = nI cR from by rw [e706]]
  have k726 : ∀ (wT : Nat), (wT ≤ 100) → ∀ ls : Array Slot, lv_has ls 15 [(0, .ref b), (1, .ref ax), (2, .ref xg), (3, .ref xh), (4, .ref xe), (5, .ref xm), (6, .int (nI 1)), (7, .int (nI k)), (8, .int (nI x)), (9, .int (nI v)), (10, .int (nI how)), (11, .int (nI wd)), (12, .int (nI cA))] → W p l e room_1 s m #[Value.ref b] below meth c H locs (Kc) (Ks) Q (F0 m 726 ls [.int (nI wT), .int (nI cR), .int (nI cA), .ref xm, .ref xh, .ref ax]) := by
    intro wT hwT ls hl
    obtain ⟨hcR, hcne⟩ := ob_crn (cn := cn) (cA := cA) (d := d1) hcA (by omega)
    rw [← e706] at hcR hcne
    have hFc := va_free (wc := ob_wX ax ao al am ac ++ ob_wC t ac cn st Wt ++ ob_wH t xh fh ++ ob_wV t xm fm) hD hS hA [0, 22, 23, 24, 25, 26, 27, 28, 29, 30, 31, 32, 33, 34, 35, 36, 37, 38, 39, 41, 43] rfl
    refine va_calli (va_runS (As := [.ref ax, .ref xh, .ref xm, .int (nI cA), .int (nI cR), .int (nI wT)]) (rest := []) ⟨hx, hb, hml, hown, hts⟩ (c_L_isReasoned l hl9 sa D t H.size ax ao al am ac cn st Wt xh xm fh fm cA cR wT hcn hh hz0 (by first | assumption | omega) (by first | assumption | omega) (by first | assumption | omega) (by first | assumption | omega)) (va_cwS 6 hts gL_law_L_isReasoned rfl rfl rfl (by decide +kernel) ⟨Nat.le_of_ble_eq_true rfl, Nat.le_of_ble_eq_true rfl⟩) (ob_pYS (hP.sub [0, 22, 23, 24, 25, 26, 27, 28, 29, 30, 31, 32, 33, 34, 35, 36, 37, 38, 39, 41, 43] rfl) (hD.sub [0, 22, 23, 24, 25, 26, 27, 28, 29, 30, 31, 32, 33, 34, 35, 36, 37, 38, 39, 41, 43] (by decide) rfl) hk (ob_exN hE0 hS hFc) hN) rfl rfl hl.1 rfl (lv_room (Nat.le_of_ble_eq_true rfl)) dL_law_726 ⟨(by show _ ≤ 600086; omega), (by show _ ≤ 7301442; omega)⟩) hS (fun q _ h => hFc q h) hFc (fun r9 u9 t9 H1 locs ht hvm hw9 hB hz1 hk1 hS => ?_)
    refine W.widen (k := Kc + 1) (n := Ks + 6) (by omega) (by omega) ?_
    obtain ⟨W9, fh9, hB, jr9⟩ := hB
    rw [ht] at hB
    have hP := ob_jn (ws' := ob_wX ax ao al am ac ++ ob_wO t ao M ++ ob_wL t al n cl rd sv pb ba bf od bg ++ ob_wM t am mn ms mf mt mp ++ ob_wC t ac cn st W9 ++ ob_wG t xg fg ++ ob_wH t xh fh9 ++ ob_wE t xe fe ++ ob_wV t xm fm) hP hD [some 0, none, none, none, none, none, none, none, none, none, none, none, none, none, none, none, none, none, none, none, none, none, some 1, some 2, some 3, some 4, some 5, some 6, some 7, some 8, some 9, some 10, some 11, some 12, some 13, some 14, some 15, some 16, some 17, some 18, none, some 19, none, some 20] [0, 22, 23, 24, 25, 26, 27, 28, 29, 30, 31, 32, 33, 34, 35, 36, 37, 38, 39, 41, 43] rfl rfl hk1 hB rfl
    have hD : va_D ((fun q : Nat => s.heap.size ≤ q)) (ob_wX ax ao al am ac ++ ob_wO t ao M ++ ob_wL t al n cl rd sv pb ba bf od bg ++ ob_wM t am mn ms mf mt mp ++ ob_wC t ac cn st W9 ++ ob_wG t xg fg ++ ob_wH t xh fh9 ++ ob_wE t xe fe ++ ob_wV t xm fm) := ob_dXOLMCGHEV hD
    generalize H1 = H at hP hS ⊢
    subst hw9
    refine lv_istore (lv' := [(6, .int (nI 1)), (0, .ref b), (1, .ref ax), (2, .ref xg), (3, .ref xh), (4, .ref xe), (5, .ref xm), (7, .int (nI k)), (8, .int (nI x)), (9, .int (nI v)), (10, .int (nI how)), (11, .int (nI wd)), (12, .int (nI cA))]) hx hb dL_law_729 hl (by decide) rfl (fun ls hl => ?_)
    refine lv_goto (tgt := 826) hx hb dL_law_731 (by decide) ?_
    refine W.widen (k := Kc + 20) (n := Ks + 120) (by omega) (by omega) ?_
    exact nx _ _ _ ⟨_, _, _, _, _, _, _, _, _, _, _, _, _, _, _, _, _, _, _, _, _, _, _, hP, hJc, hJl, hJm, jr9, hJf⟩ hS (lv_sub hl [1, 2, 3, 4, 5, 6, 0, 7, 8, 9] rfl)
  refine lv_iload hx hb dL_law_707 (lv_at hl 10 rfl) ?_
  refine lv_iconst (v := nI 5) hx hb dL_law_709 (by decide) ?_
  refine lv_irem hx hb dL_law_710 (by decide) ?_
  rw [show (nI v) - (nI v) / (nI 5) * (nI 5) = nI (v % 5) from pk_rem (by omega) (by omega) (by omega)]
  refine ob_nif_ne (tgt := 718) hx hb (by omega) dL_law_711 (by decide) (fun c711 => ?_) (fun c711 => ?_)
  · refine lv_iload hx hb dL_law_718 (lv_at hl 10 rfl) ?_
    refine lv_bipush (v := nI 64) hx hb dL_law_720 (by decide) ?_
    refine lv_idiv hx hb dL_law_722 (by decide) ?_
    rw [show (nI v) / (nI 64) = nI (v / 64) from pk_div (by omega) (by omega) (by omega)]
    refine lv_bipush (v := nI 101) hx hb dL_law_723 (by decide) ?_
    refine lv_irem hx hb dL_law_725 (by decide) ?_
    rw [show (nI (v / 64)) - (nI (v / 64)) / (nI 101) * (nI 101) = nI ((v / 64) % 101) from pk_rem (by omega) (by omega) (by omega)]
    exact k726 ((v / 64) % 101) (by omega) _ (lv_sub hl [1, 2, 3, 4, 5, 6, 7, 8, 9, 10, 11, 12, 0] rfl)
  · refine lv_iconst (v := nI 0) hx hb dL_law_714 (by decide) ?_
    refine lv_goto (tgt := 726) hx hb dL_law_715 (by decide) ?_
    exact k726 0 (by omega) _ (lv_sub hl [1, 2, 3, 4, 5, 6, 7, 8, 9, 10, 11, 12, 0] rfl)
