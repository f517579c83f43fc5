set_option maxRecDepth 100000 in
set_option maxHeartbeats 16000000 in
/-- a withdrawal -/
theorem ob_c7 {p : Program} {l : Launch} {e : Env} {s : State} {m : MethodId} {below : List Frame} {meth : Method} {c : Code} {b L : Nat} {xs : Nat → Int32} {D : va_G} {t : Nat → ClassId} {sa : Nat → Nat} {ax : Nat} {ao al am ac : Nat → Nat} {xg xh xe xm : Nat} {k x v how wd Kc Ks : Nat} {Q : State → Prop} {M : Nat → Nat → Int32} {n : Nat} {cl : Nat → Int32} {rd : Nat → Int32} {sv : Nat → Int32} {pb : Nat → Int32} {ba : Nat → Int32} {bf : Nat → Int32} {od : Nat → Int32} {bg : Nat → Int64} {mn : Nat} {ms : Nat → Int32} {mf : Nat → Int32} {mt : Nat → Int32} {mp : Nat → Int32} {cn : Nat} {st : Int32} {Wt : Nat → Nat → Int32} {fg : Nat → Int32} {fh : Nat → Int32} {fe : Nat → Int32} {fm : Nat → Int32} {mk : Nat} (C0 : ob_At p l s m c b L xs D t sa) (hD0 : va_D (fun q : Nat => s.heap.size ≤ q) (ob_wX ax ao al am ac ++ ob_wO t ao (fun _ _ => 0) ++ ob_wL t al 0 (fun _ => 0) (fun _ => 0) (fun _ => 0) (fun _ => 0) (fun _ => 0) (fun _ => 0) (fun _ => 0) (fun _ => 0) ++ ob_wM t am 0 (fun _ => 0) (fun _ => 0) (fun _ => 0) (fun _ => 0) ++ ob_wC t ac 0 0 (fun _ _ => 0) ++ ob_wG t xg (fun _ => 0) ++ ob_wH t xh (fun _ => 0) ++ ob_wE t xe (fun _ => 0) ++ ob_wV t xm (fun _ => 0))) (hKc : Kc + 200 ≤ 600086) (hKs : Ks + 1200 ≤ 7301442) (hk8 : k < 80) (hxb : x < 2147483648) (hvx : v = x / 32) (hwd : wd = 10001 ∨ wd = 60) (nx : ∀ (H : Heap) (locs : List Loc) (ls : Array Slot), ob_St D t ax ao al am ac xg xh xe xm H → va_S (fun q : Nat => s.heap.size ≤ q) s.heap H locs → lv_has ls 15 [(0, .ref b), (1, .ref ax), (2, .ref xg), (3, .ref xh), (4, .ref xe), (5, .ref xm), (6, .int (nI 1)), (7, .int (nI k)), (8, .int (nI x)), (9, .int (nI v))] → W p l e room_1 s m #[Value.ref b] below meth c H locs (Kc + 20) (Ks + 120) Q (F0 m 826 ls []))
    {H : Heap} {locs : List Loc} {ls : Array Slot} (hP : va_P D vwCl (ob_wX ax ao al am ac ++ ob_wO t ao M ++ ob_wL t al n cl rd sv pb ba bf od bg ++ ob_wM t am mn ms mf mt mp ++ ob_wC t ac cn st Wt ++ ob_wG t xg fg ++ ob_wH t xh fh ++ ob_wE t xe fe ++ ob_wV t xm fm) H) (hJc : ob_Jc M fe mk) (hJl : ob_Jl M n cl rd sv pb ba bf od fg) (hJm : ob_Jm mn mf mt mp) (hJr : ob_Jr cn Wt fh) (hJf : ob_Jf n mn cn st mk fm) (hS : va_S (fun q : Nat => s.heap.size ≤ q) s.heap H locs) (hl : lv_has ls 15 [(0, .ref b), (1, .ref ax), (2, .ref xg), (3, .ref xh), (4, .ref xe), (5, .ref xm), (6, .int (nI 1)), (7, .int (nI k)), (8, .int (nI x)), (9, .int (nI v)), (10, .int (nI how)), (11, .int (nI wd))]) : W p l e room_1 s m #[Value.ref b] below meth c H locs Kc Ks Q (F0 m 734 ls []) := by
  obtain ⟨hx, hb, hml, hown, hts, hX, hbl, hk, hE0, hN, hl9, hL3⟩ := id C0
  obtain ⟨hM, hmk12, hmk⟩ := id hJc
  obtain ⟨hn, hkc, hrd, hbf, hod, hpb, hg, hg4⟩ := id hJl
  obtain ⟨hmn, hmm, hmp⟩ := id hJm
  obtain ⟨hcn, hh, hz0⟩ := id hJr
  obtain ⟨hf0, hf1, hf2, hf3, hf5⟩ := id hJf
  have hbA : ¬ (fun q : Nat => s.heap.size ≤ q) b := Nat.not_le.mpr hbl
  have hA : ∀ q : Nat, s.heap.size ≤ q → (fun q : Nat => s.heap.size ≤ q) q := fun _ h => h
  have hK := hk.1
  have hP : va_P D vwCl (ob_wX ax ao al am ac ++ ob_wO t ao M ++ ob_wL t al n cl rd sv pb ba bf od bg ++ ob_wM t am mn ms mf mt mp ++ ob_wC t ac cn st Wt ++ ob_wG t xg fg ++ ob_wH t xh fh ++ ob_wE t xe fe ++ ob_wV t xm fm) H := hP
  have hD : va_D (fun q : Nat => s.heap.size ≤ q) (ob_wX ax ao al am ac ++ ob_wO t ao M ++ ob_wL t al n cl rd sv pb ba bf od bg ++ ob_wM t am mn ms mf mt mp ++ ob_wC t ac cn st Wt ++ ob_wG t xg fg ++ ob_wH t xh fh ++ ob_wE t xe fe ++ ob_wV t xm fm) := ob_dXOLMCGHEV hD0
  refine lv_aload hx hb dL_law_734 (lv_at hl 5 rfl) ?_
  refine lv_iconst (v := nI 2) hx hb dL_law_736 (by decide) ?_
  refine ob_iald hx hb hK hP 43 0 rfl rfl (by omega) (by decide) dL_law_737 ?_
  rw [show fm 2 = nI cn from hf2]
  refine ob_nif_le (tgt := 826) hx hb (by omega) dL_law_738 (by decide) (fun c738 => ?_) (fun c738 => ?_)
  · refine W.widen (k := Kc + 20) (n := Ks + 120) (by omega) (by omega) ?_
    exact nx _ _ _ ⟨_, _, _, _, _, _, _, _, _, _, _, _, _, _, _, _, _, _, _, _, _, _, _, hP, hJc, hJl, hJm, hJr, hJf⟩ hS (lv_sub hl [0, 1, 2, 3, 4, 5, 6, 7, 8, 9] rfl)
  · refine lv_iload hx hb dL_law_741 (lv_at hl 9 rfl) ?_
    refine lv_aload hx hb dL_law_743 (lv_at hl 5 rfl) ?_
    refine lv_iconst (v := nI 2) hx hb dL_law_745 (by decide) ?_
    refine ob_iald hx hb hK hP 43 0 rfl rfl (by omega) (by decide) dL_law_746 ?_
    rw [show fm 2 = nI cn from hf2]
    refine lv_irem hx hb dL_law_747 (nI_ne0 (by omega) (by omega)) ?_
    rw [show (nI v) - (nI v) / (nI cn) * (nI cn) = nI (v % cn) from pk_rem (by omega) (by omega) (by omega)]
    obtain ⟨cA, e747⟩ : ∃ z, z = (v % cn) := ⟨_, rfl⟩
    rw [show nI (v % cn) = nI cA from by rw [e747]]
    have hcA : cA < cn := by rw [e747]; exact Nat.mod_lt _ c738
    refine lv_istore (lv' := [(12, .int (nI cA)), (0, .ref b), (1, .ref ax), (2, .ref xg), (3, .ref xh), (4, .ref xe), (5, .ref xm), (6, .int (nI 1)), (7, .int (nI k)), (8, .int (nI x)), (9, .int (nI v)), (10, .int (nI how)), (11, .int (nI wd))]) hx hb dL_law_748 hl (by decide) rfl (fun ls hl => ?_)
    refine lv_aload hx hb dL_law_750 (lv_at hl 6 rfl) ?_
    refine lv_iconst (v := nI 3) hx hb dL_law_752 (by decide) ?_
    refine ob_iald hx hb hK hP 43 0 rfl rfl (by omega) (by decide) dL_law_753 ?_
    rw [show fm 3 = st from hf3]
    refine lv_iload hx hb dL_law_754 (lv_at hl 0 rfl) ?_
    refine lv_ishr hx hb dL_law_756 ?_
    refine lv_iconst (v := nI 1) hx hb dL_law_757 (by decide) ?_
    refine lv_iand hx hb dL_law_758 ?_
    rw [show (st >>> ((nI cA) &&& 31)) &&& (nI 1) = ob_bi (ob_hb st (nI cA)) from (ob_sh1 (by omega))]
    refine lv_istore (lv' := [(13, .int (ob_bi (ob_hb st (nI cA)))), (12, .int (nI cA)), (0, .ref b), (1, .ref ax), (2, .ref xg), (3, .ref xh), (4, .ref xe), (5, .ref xm), (6, .int (nI 1)), (7, .int (nI k)), (8, .int (nI x)), (9, .int (nI v)), (10, .int (nI how)), (11, .int (nI wd))]) hx hb dL_law_759 hl (by decide) rfl (fun ls hl => ?_)
    refine lv_aload hx hb dL_law_761 (lv_at hl 7 rfl) ?_
    refine lv_iconst (v := nI 3) hx hb dL_law_763 (by decide) ?_
    refine lv_iload hx hb dL_law_764 (lv_at hl 11 rfl) ?_
    refine lv_bipush (v := nI 8) hx hb dL_law_766 (by decide) ?_
    refine lv_idiv hx hb dL_law_768 (by decide) ?_
    rw [show (nI v) / (nI 8) = nI (v / 8) from pk_div (by omega) (by omega) (by omega)]
    refine lv_iconst (v := nI 2) hx hb dL_law_769 (by decide) ?_
    refine lv_irem hx hb dL_law_770 (by decide) ?_
    rw [show (nI (v / 8)) - (nI (v / 8)) / (nI 2) * (nI 2) = nI ((v / 8) % 2) from pk_rem (by omega) (by omega) (by omega)]
    obtain ⟨q, e770⟩ : ∃ z, z = ((v / 8) % 2) := ⟨_, rfl⟩
    rw [show nI ((v / 8) % 2) = nI q from by rw [e770]]
    have k798 : ∀ (z : Int32), (z = if decide (nI q = nI 1) = true then st ||| ob_bit (nI cA) else st &&& (ob_bit (nI cA) ^^^ (-1))) → ∀ ls : Array Slot, lv_has ls 15 [(0, .ref b), (1, .ref ax), (2, .ref xg), (3, .ref xh), (4, .ref xe), (5, .ref xm), (6, .int (nI 1)), (7, .int (nI k)), (8, .int (nI x)), (9, .int (nI v)), (10, .int (nI how)), (11, .int (nI wd)), (12, .int (nI cA)), (13, .int (ob_bi (ob_hb st (nI cA))))] → W p l e room_1 s m #[Value.ref b] below meth c H locs (Kc) (Ks) Q (F0 m 798 ls [.int z, .int (nI 3), .ref xm]) := by
      intro z hz9 ls hl
      refine ob_iast hx hb hK hP hD hS 43 0 rfl rfl (by omega) (by decide) dL_law_798 (fun H locs hP hD hS => ?_)
      have hP : va_P D vwCl (ob_wX ax ao al am ac ++ ob_wO t ao M ++ ob_wL t al n cl rd sv pb ba bf od bg ++ ob_wM t am mn ms mf mt mp ++ ob_wC t ac cn st Wt ++ ob_wG t xg fg ++ ob_wH t xh fh ++ ob_wE t xe fe ++ ob_wV t xm (upd fm 3 z)) H := hP
      have hD : va_D ((fun q : Nat => s.heap.size ≤ q)) (ob_wX ax ao al am ac ++ ob_wO t ao M ++ ob_wL t al n cl rd sv pb ba bf od bg ++ ob_wM t am mn ms mf mt mp ++ ob_wC t ac cn st Wt ++ ob_wG t xg fg ++ ob_wH t xh fh ++ ob_wE t xe fe ++ ob_wV t xm (upd fm 3 z)) := hD
      refine lv_aload_n hx hb dL_law_799 rfl (lv_at hl 1 rfl) ?_
      refine lv_iconst (v := nI 2) hx hb dL_law_800 (by decide) ?_
      refine lv_iload hx hb dL_law_801 (lv_at hl 12 rfl) ?_
      refine lv_iload hx hb dL_law_803 (lv_at hl 9 rfl) ?_
      refine lv_bipush (v := nI 8) hx hb dL_law_805 (by decide) ?_
      refine lv_idiv hx hb dL_law_807 (by decide) ?_
      rw [show (nI v) / (nI 8) = nI (v / 8) from pk_div (by omega) (by omega) (by omega)]
      refine lv_iconst (v := nI 2) hx hb dL_law_808 (by decide) ?_
      refine lv_irem hx hb dL_law_809 (by decide) ?_
      rw [show (nI (v / 8)) - (nI (v / 8)) / (nI 2) * (nI 2) = nI q from (by rw [e770]; exact pk_rem (by omega) (by omega) (by omega))]
      refine lv_iconst (v := nI 0) hx hb dL_law_810 (by decide) ?_
      have hFc := va_free (wc := ob_wX ax ao al am ac ++ ob_wC t ac cn st Wt) hD hS hA [0, 22, 23, 24, 25, 26, 27, 28, 29, 30, 31, 32, 33, 34, 35, 36, 37, 38, 39] rfl
      refine va_calli (ob_runN (vx_runSX (As := [.ref ax, .int (nI 2), .int (nI cA), .int (nI q), .int (nI 0)]) (rest := []) ⟨hx, hb, hml, hown, hts⟩ (y_act2_ok l hl9 sa D t H.size ax ao al am ac cn st Wt (nI cA) (nI q) (nI 0) (by omega) (by rw [ob_hd_nI hcA (by omega)]; rfl)) (vx_cwSW 5 hts gL_law_L_act rfl rfl rfl (by decide +kernel) ⟨Nat.le_of_ble_eq_true rfl, Nat.le_of_ble_eq_true rfl⟩) (ob_pYS (hP.sub [0, 22, 23, 24, 25, 26, 27, 28, 29, 30, 31, 32, 33, 34, 35, 36, 37, 38, 39] rfl) (hD.sub [0, 22, 23, 24, 25, 26, 27, 28, 29, 30, 31, 32, 33, 34, 35, 36, 37, 38, 39] (by decide) rfl) hk (ob_exN hE0 hS hFc) hN) rfl rfl hl.1 rfl (lv_room (Nat.le_of_ble_eq_true rfl)) dL_law_811 ⟨(by show _ ≤ 600086; omega), (by show _ ≤ 7301442; omega)⟩)) hS (fun q _ h => hFc q h) hFc (fun r9 u9 t9 H1 locs ht hvm hw9 hB hz1 hk1 hS => ?_)
      refine W.widen (k := Kc + 1) (n := Ks + 6) (by omega) (by omega) ?_
      rw [ht] at hB
      have hP := ob_jn (ws' := ob_wX ax ao al am ac ++ ob_wO t ao M ++ ob_wL t al n cl rd sv pb ba bf od bg ++ ob_wM t am mn ms mf mt mp ++ ob_wC t ac cn (if (decide ((nI q) = nI 1)) then st ||| ob_bit (nI cA) else st &&& (ob_bit (nI cA) ^^^ (-1))) Wt ++ ob_wG t xg fg ++ ob_wH t xh fh ++ ob_wE t xe fe ++ ob_wV t xm (upd fm 3 z)) hP hD [some 0, none, none, none, none, none, none, none, none, none, none, none, none, none, none, none, none, none, none, none, none, none, some 1, some 2, some 3, some 4, some 5, some 6, some 7, some 8, some 9, some 10, some 11, some 12, some 13, some 14, some 15, some 16, some 17, some 18, none, none, none, none] [0, 22, 23, 24, 25, 26, 27, 28, 29, 30, 31, 32, 33, 34, 35, 36, 37, 38, 39] rfl rfl hk1 hB rfl
      obtain ⟨st9, est9⟩ : ∃ z, z = if (decide ((nI q) = nI 1)) then st ||| ob_bit (nI cA) else st &&& (ob_bit (nI cA) ^^^ (-1)) := ⟨_, rfl⟩
      rw [← est9] at hP
      have hP : va_P D vwCl (ob_wX ax ao al am ac ++ ob_wO t ao M ++ ob_wL t al n cl rd sv pb ba bf od bg ++ ob_wM t am mn ms mf mt mp ++ ob_wC t ac cn st9 Wt ++ ob_wG t xg fg ++ ob_wH t xh fh ++ ob_wE t xe fe ++ ob_wV t xm (upd fm 3 z)) H1 := hP
      have hD : va_D ((fun q : Nat => s.heap.size ≤ q)) (ob_wX ax ao al am ac ++ ob_wO t ao M ++ ob_wL t al n cl rd sv pb ba bf od bg ++ ob_wM t am mn ms mf mt mp ++ ob_wC t ac cn st9 Wt ++ ob_wG t xg fg ++ ob_wH t xh fh ++ ob_wE t xe fe ++ ob_wV t xm (upd fm 3 z)) := ob_dXOLMCGHEV hD
      generalize H1 = H at hP hS ⊢
      subst hw9
      refine lv_iload hx hb dL_law_814 (lv_at hl 13 rfl) ?_
      refine lv_icmp_ne (tgt := 823) hx hb dL_law_816 (by decide) (fun c816 => ?_) (fun c816 => ?_)
      · exact absurd rfl c816
      · refine lv_iconst (v := nI 1) hx hb dL_law_819 (by decide) ?_
        refine lv_goto (tgt := 824) hx hb dL_law_820 (by decide) ?_
        refine lv_istore (lv' := [(6, .int (nI 1)), (0, .ref b), (1, .ref ax), (2, .ref xg), (3, .ref xh), (4, .ref xe), (5, .ref xm), (7, .int (nI k)), (8, .int (nI x)), (9, .int (nI v)), (10, .int (nI how)), (11, .int (nI wd)), (12, .int (nI cA)), (13, .int (ob_bi (ob_hb st (nI cA))))]) hx hb dL_law_824 hl (by decide) rfl (fun ls hl => ?_)
        refine W.widen (k := Kc + 20) (n := Ks + 120) (by omega) (by omega) ?_
        exact nx _ _ _ ⟨_, _, _, _, _, _, _, _, _, _, _, _, _, _, _, _, _, _, _, _, _, _, _, hP, hJc, hJl, hJm, hJr, (by rw [show st9 = z from by rw [est9, hz9]]; exact ob_Jf_3 hJf)⟩ hS (lv_sub hl [1, 2, 3, 4, 5, 6, 0, 7, 8, 9] rfl)
    refine lv_iconst (v := nI 1) hx hb dL_law_771 (by decide) ?_
    refine ob_icmp_ne (tgt := 787) hx hb (by omega) (by omega) dL_law_772 (by decide) (fun c772 => ?_) (fun c772 => ?_)
    · refine lv_aload hx hb dL_law_787 (lv_at hl 7 rfl) ?_
      refine lv_iconst (v := nI 3) hx hb dL_law_789 (by decide) ?_
      refine ob_iald hx hb hK hP 43 0 rfl rfl (by omega) (by decide) dL_law_790 ?_
      rw [show fm 3 = st from hf3]
      refine lv_iconst (v := nI 1) hx hb dL_law_791 (by decide) ?_
      refine lv_iload hx hb dL_law_792 (lv_at hl 1 rfl) ?_
      refine lv_ishl hx hb dL_law_794 ?_
      rw [show (nI 1) <<< ((nI cA) &&& 31) = ob_bit (nI cA) from rfl]
      refine lv_iconst (v := (-1)) hx hb dL_law_795 (by decide) ?_
      refine lv_ixor hx hb dL_law_796 ?_
      refine lv_iand hx hb dL_law_797 ?_
      exact k798 (st &&& ((ob_bit (nI cA)) ^^^ (-1))) (by first | (rw [decide_eq_false (fun y => c772 ((nI_eq (ob_nlt (by omega)) (ob_nlt (by omega))).mp y)), if_neg (by decide)]; done) | (rw [c772, if_pos (by decide)]; done)) _ (lv_sub hl [2, 3, 4, 5, 6, 7, 8, 9, 10, 11, 12, 13, 1, 0] rfl)
    · refine lv_aload hx hb dL_law_775 (lv_at hl 7 rfl) ?_
      refine lv_iconst (v := nI 3) hx hb dL_law_777 (by decide) ?_
      refine ob_iald hx hb hK hP 43 0 rfl rfl (by omega) (by decide) dL_law_778 ?_
      rw [show fm 3 = st from hf3]
      refine lv_iconst (v := nI 1) hx hb dL_law_779 (by decide) ?_
      refine lv_iload hx hb dL_law_780 (lv_at hl 1 rfl) ?_
      refine lv_ishl hx hb dL_law_782 ?_
      rw [show (nI 1) <<< ((nI cA) &&& 31) = ob_bit (nI cA) from rfl]
      refine lv_ior hx hb dL_law_783 ?_
      refine lv_goto (tgt := 798) hx hb dL_law_784 (by decide) ?_
      exact k798 (st ||| (ob_bit (nI cA))) (by first | (rw [decide_eq_false (fun y => c772 ((nI_eq (ob_nlt (by omega)) (ob_nlt (by omega))).mp y)), if_neg (by decide)]; done) | (rw [c772, if_pos (by decide)]; done)) _ (lv_sub hl [2, 3, 4, 5, 6, 7, 8, 9, 10, 11, 12, 13, 1, 0] rfl)
