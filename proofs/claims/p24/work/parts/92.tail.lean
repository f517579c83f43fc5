set_option maxRecDepth 100000 in
set_option maxHeartbeats 16000000 in
/-- what is looked at in every round -/
theorem ob_tail {p : Program} {l : Launch} {e : Env} {s : State} {m : MethodId} {below : List Frame} {meth : Method} {c : Code} {b L : Nat} {xs : Nat → Int32} {D : va_G} {t : Nat → ClassId} {sa : Nat → Nat} {ax : Nat} {ao al am ac : Nat → Nat} {xg xh xe xm : Nat} {k x v Kc Ks : Nat} {Q : State → Prop} {M : Nat → Nat → Int32} {n : Nat} {cl : Nat → Int32} {rd : Nat → Int32} {sv : Nat → Int32} {pb : Nat → Int32} {ba : Nat → Int32} {bf : Nat → Int32} {od : Nat → Int32} {bg : Nat → Int64} {mn : Nat} {ms : Nat → Int32} {mf : Nat → Int32} {mt : Nat → Int32} {mp : Nat → Int32} {cn : Nat} {st : Int32} {Wt : Nat → Nat → Int32} {fg : Nat → Int32} {fh : Nat → Int32} {fe : Nat → Int32} {fm : Nat → Int32} {mk : Nat} (C0 : ob_At p l s m c b L xs D t sa) (hD0 : va_D (fun q : Nat => s.heap.size ≤ q) (ob_wX ax ao al am ac ++ ob_wO t ao (fun _ _ => 0) ++ ob_wL t al 0 (fun _ => 0) (fun _ => 0) (fun _ => 0) (fun _ => 0) (fun _ => 0) (fun _ => 0) (fun _ => 0) (fun _ => 0) ++ ob_wM t am 0 (fun _ => 0) (fun _ => 0) (fun _ => 0) (fun _ => 0) ++ ob_wC t ac 0 0 (fun _ _ => 0) ++ ob_wG t xg (fun _ => 0) ++ ob_wH t xh (fun _ => 0) ++ ob_wE t xe (fun _ => 0) ++ ob_wV t xm (fun _ => 0))) (hKc : Kc + 200 ≤ 600086) (hKs : Ks + 1200 ≤ 7301442) (hk8 : k < 80) (hxb : x < 2147483648) (hvx : v = x / 32) (nx : ∀ (H : Heap) (locs : List Loc) (ls : Array Slot), ob_St D t ax ao al am ac xg xh xe xm H → va_S (fun q : Nat => s.heap.size ≤ q) s.heap H locs → lv_has ls 15 [(0, .ref b), (1, .ref ax), (2, .ref xg), (3, .ref xh), (4, .ref xe), (5, .ref xm), (6, .int (nI 1)), (7, .int (nI (k + 1)))] → W p l e room_1 s m #[Value.ref b] below meth c H locs (Kc + 60) (Ks + 360) Q (F0 m 69 ls []))
    {H : Heap} {locs : List Loc} {ls : Array Slot} (hP : va_P D vwCl (ob_wX ax ao al am ac ++ ob_wO t ao M ++ ob_wL t al n cl rd sv pb ba bf od bg ++ ob_wM t am mn ms mf mt mp ++ ob_wC t ac cn st Wt ++ ob_wG t xg fg ++ ob_wH t xh fh ++ ob_wE t xe fe ++ ob_wV t xm fm) H) (hJc : ob_Jc M fe mk) (hJl : ob_Jl M n cl rd sv pb ba bf od fg) (hJm : ob_Jm mn mf mt mp) (hJr : ob_Jr cn Wt fh) (hJf : ob_Jf n mn cn st mk fm) (hS : va_S (fun q : Nat => s.heap.size ≤ q) s.heap H locs) (hl : lv_has ls 15 [(0, .ref b), (1, .ref ax), (2, .ref xg), (3, .ref xh), (4, .ref xe), (5, .ref xm), (6, .int (nI 1)), (7, .int (nI k)), (8, .int (nI x)), (9, .int (nI v))]) : W p l e room_1 s m #[Value.ref b] below meth c H locs Kc Ks Q (F0 m 826 ls []) := by
  obtain ⟨hx, hb, hml, hown, hts, hX, hbl, hk, hE0, hN, hl9, hL3⟩ := id C0
  obtain ⟨hM, hmk12, hmk⟩ := id hJc
  obtain ⟨hn, hkc, hrd, hbf, hod, hpb, hg, hg4⟩ := id hJl
  obtain ⟨hmn, hmm, hmp⟩ := id hJm
  obtain ⟨hcn, hh, hz0⟩ := id hJr
  obtain ⟨hf0, hf1, hf2, hf3, hf5⟩ := id hJf
  have hbA : ¬ (fun q : Nat => s.heap.size ≤ q) b := Nat.not_le.mpr hbl
  have hA : ∀ q : Nat, s.heap.size ≤ q → (fun q : Nat => s.heap.size ≤ q) q := fun _ h => h
  have hK := hk.1
  have hP : va_P D vwCl (ob_wX ax ao al am ac ++ ob_wO t ao M ++ ob_wL t al n cl rd sv pb ba bf od bg ++ ob_wM t am mn ms mf mt mp ++ ob_wC t ac cn st Wt ++ ob_wG t xg fg ++ ob_wH t xh fh ++ ob_wE t xe fe ++ ob_wV t xm fm) H := hP
  have hD : va_D (fun q : Nat => s.heap.size ≤ q) (ob_wX ax ao al am ac ++ ob_wO t ao M ++ ob_wL t al n cl rd sv pb ba bf od bg ++ ob_wM t am mn ms mf mt mp ++ ob_wC t ac cn st Wt ++ ob_wG t xg fg ++ ob_wH t xh fh ++ ob_wE t xe fe ++ ob_wV t xm fm) := ob_dXOLMCGHEV hD0
  refine lv_iload hx hb dL_law_826 (lv_at hl 6 rfl) ?_
  refine lv_if_eq (tgt := 914) hx hb dL_law_828 (by decide) (fun c9 => absurd c9 (by decide)) (fun _ => ?_)
  refine lv_aload_n hx hb dL_law_831 rfl (lv_at hl 1 rfl) ?_
  refine lv_aload hx hb dL_law_832 (lv_at hl 4 rfl) ?_
  refine lv_aload hx hb dL_law_834 (lv_at hl 5 rfl) ?_
  refine lv_iconst (v := nI 5) hx hb dL_law_836 (by decide) ?_
  refine ob_iald hx hb hK hP 43 0 rfl rfl (by omega) (by decide) dL_law_837 ?_
  rw [show fm 5 = nI mk from hf5]
  refine vp_callSi (va_Run.run (va_runS (As := [.ref ax, .ref xe, .int (nI mk)]) (rest := []) ⟨hx, hb, hml, hown, hts⟩ (c_L_areClocks l D t ax ao al am ac M n cl rd sv pb ba bf od bg xe fe mk hM hmk12 hmk) (va_cwS 3 hts gL_law_L_areClocks rfl rfl rfl (by decide +kernel) ⟨Nat.le_of_ble_eq_true rfl, Nat.le_of_ble_eq_true rfl⟩) (ob_preS (hP.sub [0, 1, 2, 3, 4, 5, 6, 7, 8, 9, 10, 11, 12, 13, 14, 15, 16, 42] rfl) hk) rfl rfl hl.1 rfl (lv_room (Nat.le_of_ble_eq_true rfl)) dL_law_838 ⟨(by show _ ≤ 600086; omega), (by show _ ≤ 7301442; omega)⟩)) (fun r9 hr9 => ?_)
  subst hr9
  refine lv_if_eq (tgt := 914) hx hb dL_law_841 (by decide) (fun c9 => absurd c9 (by decide)) (fun _ => ?_)
  refine lv_aload_n hx hb dL_law_844 rfl (lv_at hl 1 rfl) ?_
  refine lv_aload_n hx hb dL_law_845 rfl (lv_at hl 2 rfl) ?_
  refine lv_aload hx hb dL_law_846 (lv_at hl 5 rfl) ?_
  refine lv_iload hx hb dL_law_848 (lv_at hl 9 rfl) ?_
  refine lv_iconst (v := nI 3) hx hb dL_law_850 (by decide) ?_
  refine lv_idiv hx hb dL_law_851 (by decide) ?_
  rw [show (nI v) / (nI 3) = nI (v / 3) from pk_div (by omega) (by omega) (by omega)]
  have hFc := va_free (wc := ob_wX ax ao al am ac ++ ob_wL t al n cl rd sv pb ba bf od bg ++ ob_wG t xg fg ++ ob_wV t xm fm) hD hS hA [0, 8, 9, 10, 11, 12, 13, 14, 15, 16, 40, 43] rfl
  refine va_calli (va_runS (As := [.ref ax, .ref xg, .ref xm, .int (nI (v / 3))]) (rest := []) ⟨hx, hb, hml, hown, hts⟩ (c_L_areLines l hl9 sa D t H.size ax ao al am ac n cl rd sv pb ba bf od bg M xg xm fg fm (v / 3) hM hn hkc hrd hbf hod hpb hg hg4 hf0 (by first | assumption | omega)) (va_cwS 4 hts gL_law_L_areLines rfl rfl rfl (by decide +kernel) ⟨Nat.le_of_ble_eq_true rfl, Nat.le_of_ble_eq_true rfl⟩) (ob_pYS (hP.sub [0, 8, 9, 10, 11, 12, 13, 14, 15, 16, 40, 43] rfl) (hD.sub [0, 8, 9, 10, 11, 12, 13, 14, 15, 16, 40, 43] (by decide) rfl) hk (ob_exN hE0 hS hFc) hN) rfl rfl hl.1 rfl (lv_room (Nat.le_of_ble_eq_true rfl)) dL_law_852 ⟨(by show _ ≤ 600086; omega), (by show _ ≤ 7301442; omega)⟩) hS (fun q _ h => hFc q h) hFc (fun r9 u9 t9 H1 locs ht hvm hw9 hB hz1 hk1 hS => ?_)
  refine W.widen (k := Kc + 4) (n := Ks + 24) (by omega) (by omega) ?_
  rw [ht] at hB
  have hP := ob_jn (ws' := ob_wX ax ao al am ac ++ ob_wO t ao M ++ ob_wL t al n cl rd sv pb ba bf od bg ++ ob_wM t am mn ms mf mt mp ++ ob_wC t ac cn st Wt ++ ob_wG t xg fg ++ ob_wH t xh fh ++ ob_wE t xe fe ++ ob_wV t xm fm) hP hD [some 0, none, none, none, none, none, none, none, some 1, some 2, some 3, some 4, some 5, some 6, some 7, some 8, some 9, none, none, none, none, none, none, none, none, none, none, none, none, none, none, none, none, none, none, none, none, none, none, none, some 10, none, none, some 11] [0, 8, 9, 10, 11, 12, 13, 14, 15, 16, 40, 43] rfl rfl hk1 hB rfl
  have hD : va_D ((fun q : Nat => s.heap.size ≤ q)) (ob_wX ax ao al am ac ++ ob_wO t ao M ++ ob_wL t al n cl rd sv pb ba bf od bg ++ ob_wM t am mn ms mf mt mp ++ ob_wC t ac cn st Wt ++ ob_wG t xg fg ++ ob_wH t xh fh ++ ob_wE t xe fe ++ ob_wV t xm fm) := ob_dXOLMCGHEV hD
  generalize H1 = H at hP hS ⊢
  subst hw9
  refine lv_if_eq (tgt := 914) hx hb dL_law_855 (by decide) (fun c9 => absurd c9 (by decide)) (fun _ => ?_)
  have k879 : ∀ ls : Array Slot, lv_has ls 15 [(0, .ref b), (1, .ref ax), (2, .ref xg), (3, .ref xh), (4, .ref xe), (5, .ref xm), (6, .int (nI 1)), (7, .int (nI k)), (8, .int (nI x)), (9, .int (nI v))] → W p l e room_1 s m #[Value.ref b] below meth c H locs (Kc + 4) (Ks + 24) Q (F0 m 879 ls []) := by
    intro   ls hl
    refine lv_aload_n hx hb dL_law_879 rfl (lv_at hl 1 rfl) ?_
    refine lv_aload_n hx hb dL_law_880 rfl (lv_at hl 3 rfl) ?_
    refine lv_aload hx hb dL_law_881 (lv_at hl 5 rfl) ?_
    refine vp_callSi (va_Run.run (va_runS (As := [.ref ax, .ref xh, .ref xm]) (rest := []) ⟨hx, hb, hml, hown, hts⟩ (c_L_areCauses l D t ax ao al am ac cn st Wt xh xm fh fm hcn hh hf2 hf3) (va_cwS 3 hts gL_law_L_areCauses rfl rfl rfl (by decide +kernel) ⟨Nat.le_of_ble_eq_true rfl, Nat.le_of_ble_eq_true rfl⟩) (ob_preS (hP.sub [0, 22, 23, 24, 25, 26, 27, 28, 29, 30, 31, 32, 33, 34, 35, 36, 37, 38, 39, 41, 43] rfl) hk) rfl rfl hl.1 rfl (lv_room (Nat.le_of_ble_eq_true rfl)) dL_law_883 ⟨(by show _ ≤ 600086; omega), (by show _ ≤ 7301442; omega)⟩)) (fun r9 hr9 => ?_)
    subst hr9
    refine lv_if_eq (tgt := 914) hx hb dL_law_886 (by decide) (fun c9 => absurd c9 (by decide)) (fun _ => ?_)
    refine lv_iload hx hb dL_law_889 (lv_at hl 7 rfl) ?_
    refine lv_bipush (v := nI 16) hx hb dL_law_891 (by decide) ?_
    refine lv_irem hx hb dL_law_893 (by decide) ?_
    rw [show (nI k) - (nI k) / (nI 16) * (nI 16) = nI (k % 16) from pk_rem (by omega) (by omega) (by omega)]
    refine ob_nif_gt (tgt := 910) hx hb (by omega) dL_law_894 (by decide) (fun c894 => ?_) (fun c894 => ?_)
    · refine lv_iconst (v := nI 1) hx hb dL_law_910 (by decide) ?_
      refine lv_goto (tgt := 915) hx hb dL_law_911 (by decide) ?_
      refine lv_istore (lv' := [(6, .int (nI 1)), (0, .ref b), (1, .ref ax), (2, .ref xg), (3, .ref xh), (4, .ref xe), (5, .ref xm), (7, .int (nI k)), (8, .int (nI x)), (9, .int (nI v))]) hx hb dL_law_915 hl (by decide) rfl (fun ls hl => ?_)
      refine ob_inc (k := 7) (lv' := [(7, .int (nI (k + 1))), (6, .int (nI 1)), (0, .ref b), (1, .ref ax), (2, .ref xg), (3, .ref xh), (4, .ref xe), (5, .ref xm), (8, .int (nI x)), (9, .int (nI v))]) hx hb dL_law_917 hl rfl (by decide) rfl (fun ls hl => ?_)
      refine lv_goto (tgt := 69) hx hb dL_law_920 (by decide) ?_
      refine W.widen (k := Kc + 60) (n := Ks + 360) (by omega) (by omega) ?_
      exact nx _ _ _ ⟨_, _, _, _, _, _, _, _, _, _, _, _, _, _, _, _, _, _, _, _, _, _, _, hP, hJc, hJl, hJm, hJr, hJf⟩ hS (lv_sub hl [2, 3, 4, 5, 6, 7, 1, 0] rfl)
    · refine lv_aload_n hx hb dL_law_897 rfl (lv_at hl 1 rfl) ?_
      refine lv_aload hx hb dL_law_898 (lv_at hl 5 rfl) ?_
      refine lv_iload hx hb dL_law_900 (lv_at hl 8 rfl) ?_
      refine lv_iconst (v := nI 3) hx hb dL_law_902 (by decide) ?_
      refine lv_idiv hx hb dL_law_903 (by decide) ?_
      rw [show (nI x) / (nI 3) = nI (x / 3) from pk_div (by omega) (by omega) (by omega)]
      have hFc := va_free (wc := ob_wX ax ao al am ac ++ ob_wO t ao M ++ ob_wL t al n cl rd sv pb ba bf od bg ++ ob_wM t am mn ms mf mt mp ++ ob_wC t ac cn st Wt ++ ob_wV t xm fm) hD hS hA [0, 1, 2, 3, 4, 5, 6, 7, 8, 9, 10, 11, 12, 13, 14, 15, 16, 17, 18, 19, 20, 21, 22, 23, 24, 25, 26, 27, 28, 29, 30, 31, 32, 33, 34, 35, 36, 37, 38, 39, 43] rfl
      refine va_calli (va_runS (As := [.ref ax, .ref xm, .int (nI (x / 3))]) (rest := []) ⟨hx, hb, hml, hown, hts⟩ (c_L_isRefused l hl9 sa D t H.size ax ao al am ac M n cl rd sv pb ba bf od bg mn ms mf mt mp cn st Wt xm fm (x / 3) hn hmn hcn hf0 hf2 (by first | assumption | omega)) (va_cwS 3 hts gL_law_L_isRefused rfl rfl rfl (by decide +kernel) ⟨Nat.le_of_ble_eq_true rfl, Nat.le_of_ble_eq_true rfl⟩) (ob_pYS (hP.sub [0, 1, 2, 3, 4, 5, 6, 7, 8, 9, 10, 11, 12, 13, 14, 15, 16, 17, 18, 19, 20, 21, 22, 23, 24, 25, 26, 27, 28, 29, 30, 31, 32, 33, 34, 35, 36, 37, 38, 39, 43] rfl) (hD.sub [0, 1, 2, 3, 4, 5, 6, 7, 8, 9, 10, 11, 12, 13, 14, 15, 16, 17, 18, 19, 20, 21, 22, 23, 24, 25, 26, 27, 28, 29, 30, 31, 32, 33, 34, 35, 36, 37, 38, 39, 43] (by decide) rfl) hk (ob_exN hE0 hS hFc) hN) rfl rfl hl.1 rfl (lv_room (Nat.le_of_ble_eq_true rfl)) dL_law_904 ⟨(by show _ ≤ 600086; omega), (by show _ ≤ 7301442; omega)⟩) hS (fun q _ h => hFc q h) hFc (fun r9 u9 t9 H1 locs ht hvm hw9 hB hz1 hk1 hS => ?_)
      refine W.widen (k := Kc + 35) (n := Ks + 210) (by omega) (by omega) ?_
      rw [ht] at hB
      have hP := ob_jn (ws' := ob_wX ax ao al am ac ++ ob_wO t ao M ++ ob_wL t al n cl rd sv pb ba bf od bg ++ ob_wM t am mn ms mf mt mp ++ ob_wC t ac cn st Wt ++ ob_wG t xg fg ++ ob_wH t xh fh ++ ob_wE t xe fe ++ ob_wV t xm fm) hP hD [some 0, some 1, some 2, some 3, some 4, some 5, some 6, some 7, some 8, some 9, some 10, some 11, some 12, some 13, some 14, some 15, some 16, some 17, some 18, some 19, some 20, some 21, some 22, some 23, some 24, some 25, some 26, some 27, some 28, some 29, some 30, some 31, some 32, some 33, some 34, some 35, some 36, some 37, some 38, some 39, none, none, none, some 40] [0, 1, 2, 3, 4, 5, 6, 7, 8, 9, 10, 11, 12, 13, 14, 15, 16, 17, 18, 19, 20, 21, 22, 23, 24, 25, 26, 27, 28, 29, 30, 31, 32, 33, 34, 35, 36, 37, 38, 39, 43] rfl rfl hk1 hB rfl
      have hD : va_D ((fun q : Nat => s.heap.size ≤ q)) (ob_wX ax ao al am ac ++ ob_wO t ao M ++ ob_wL t al n cl rd sv pb ba bf od bg ++ ob_wM t am mn ms mf mt mp ++ ob_wC t ac cn st Wt ++ ob_wG t xg fg ++ ob_wH t xh fh ++ ob_wE t xe fe ++ ob_wV t xm fm) := ob_dXOLMCGHEV hD
      generalize H1 = H at hP hS ⊢
      subst hw9
      refine lv_if_eq (tgt := 914) hx hb dL_law_907 (by decide) (fun c9 => absurd c9 (by decide)) (fun _ => ?_)
      refine lv_iconst (v := nI 1) hx hb dL_law_910 (by decide) ?_
      refine lv_goto (tgt := 915) hx hb dL_law_911 (by decide) ?_
      refine lv_istore (lv' := [(6, .int (nI 1)), (0, .ref b), (1, .ref ax), (2, .ref xg), (3, .ref xh), (4, .ref xe), (5, .ref xm), (7, .int (nI k)), (8, .int (nI x)), (9, .int (nI v))]) hx hb dL_law_915 hl (by decide) rfl (fun ls hl => ?_)
      refine ob_inc (k := 7) (lv' := [(7, .int (nI (k + 1))), (6, .int (nI 1)), (0, .ref b), (1, .ref ax), (2, .ref xg), (3, .ref xh), (4, .ref xe), (5, .ref xm), (8, .int (nI x)), (9, .int (nI v))]) hx hb dL_law_917 hl rfl (by decide) rfl (fun ls hl => ?_)
      refine lv_goto (tgt := 69) hx hb dL_law_920 (by decide) ?_
      refine W.widen (k := Kc + 60) (n := Ks + 360) (by omega) (by omega) ?_
      exact nx _ _ _ ⟨_, _, _, _, _, _, _, _, _, _, _, _, _, _, _, _, _, _, _, _, _, _, _, hP, hJc, hJl, hJm, hJr, hJf⟩ hS (lv_sub hl [2, 3, 4, 5, 6, 7, 1, 0] rfl)
  refine lv_aload hx hb dL_law_858 (lv_at hl 5 rfl) ?_
  refine lv_iconst (v := nI 0) hx hb dL_law_860 (by decide) ?_
  refine ob_iald hx hb hK hP 43 0 rfl rfl (by omega) (by decide) dL_law_861 ?_
  rw [show fm 0 = nI n from hf0]
  refine ob_nif_eq (tgt := 879) hx hb (by omega) dL_law_862 (by decide) (fun c862 => ?_) (fun c862 => ?_)
  · exact k879   _ (lv_sub hl [0, 1, 2, 3, 4, 5, 6, 7, 8, 9] rfl)
  · refine lv_aload_n hx hb dL_law_865 rfl (lv_at hl 1 rfl) ?_
    refine lv_aload_n hx hb dL_law_866 rfl (lv_at hl 2 rfl) ?_
    refine lv_aload hx hb dL_law_867 (lv_at hl 5 rfl) ?_
    refine lv_iload hx hb dL_law_869 (lv_at hl 9 rfl) ?_
    refine lv_iconst (v := nI 5) hx hb dL_law_871 (by decide) ?_
    refine lv_idiv hx hb dL_law_872 (by decide) ?_
    rw [show (nI v) / (nI 5) = nI (v / 5) from pk_div (by omega) (by omega) (by omega)]
    refine vp_callSi (va_Run.run (va_runS (As := [.ref ax, .ref xg, .ref xm, .int (nI (v / 5))]) (rest := []) ⟨hx, hb, hml, hown, hts⟩ (c_L_areTimes l D t ax ao al am ac M n cl rd sv pb ba bf od bg xg xm fg fm (v / 5) hM hn hkc hrd hbf (by omega) hg hf0 (by first | assumption | omega)) (va_cwS 4 hts gL_law_L_areTimes rfl rfl rfl (by decide +kernel) ⟨Nat.le_of_ble_eq_true rfl, Nat.le_of_ble_eq_true rfl⟩) (ob_preS (hP.sub [0, 1, 2, 3, 4, 5, 6, 7, 8, 9, 10, 11, 12, 13, 14, 15, 16, 40, 43] rfl) hk) rfl rfl hl.1 rfl (lv_room (Nat.le_of_ble_eq_true rfl)) dL_law_873 ⟨(by show _ ≤ 600086; omega), (by show _ ≤ 7301442; omega)⟩)) (fun r9 hr9 => ?_)
    subst hr9
    refine lv_if_eq (tgt := 914) hx hb dL_law_876 (by decide) (fun c9 => absurd c9 (by decide)) (fun _ => ?_)
    exact k879   _ (lv_sub hl [0, 1, 2, 3, 4, 5, 6, 7, 8, 9] rfl)
