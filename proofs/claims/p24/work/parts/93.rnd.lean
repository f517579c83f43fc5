set_option maxRecDepth 100000 in
set_option maxHeartbeats 16000000 in
/-- a round -/
theorem ob_rnd {p : Program} {l : Launch} {e : Env} {s : State} {m : MethodId} {below : List Frame} {meth : Method} {c : Code} {b L : Nat} {xs : Nat → Int32} {D : va_G} {t : Nat → ClassId} {sa : Nat → Nat} {ax : Nat} {ao al am ac : Nat → Nat} {xg xh xe xm : Nat} {k Kc Ks : Nat} {Q : State → Prop} {M : Nat → Nat → Int32} {n : Nat} {cl : Nat → Int32} {rd : Nat → Int32} {sv : Nat → Int32} {pb : Nat → Int32} {ba : Nat → Int32} {bf : Nat → Int32} {od : Nat → Int32} {bg : Nat → Int64} {mn : Nat} {ms : Nat → Int32} {mf : Nat → Int32} {mt : Nat → Int32} {mp : Nat → Int32} {cn : Nat} {st : Int32} {Wt : Nat → Nat → Int32} {fg : Nat → Int32} {fh : Nat → Int32} {fe : Nat → Int32} {fm : Nat → Int32} {mk : Nat} (C0 : ob_At p l s m c b L xs D t sa) (hD0 : va_D (fun q : Nat => s.heap.size ≤ q) (ob_wX ax ao al am ac ++ ob_wO t ao (fun _ _ => 0) ++ ob_wL t al 0 (fun _ => 0) (fun _ => 0) (fun _ => 0) (fun _ => 0) (fun _ => 0) (fun _ => 0) (fun _ => 0) (fun _ => 0) ++ ob_wM t am 0 (fun _ => 0) (fun _ => 0) (fun _ => 0) (fun _ => 0) ++ ob_wC t ac 0 0 (fun _ _ => 0) ++ ob_wG t xg (fun _ => 0) ++ ob_wH t xh (fun _ => 0) ++ ob_wE t xe (fun _ => 0) ++ ob_wV t xm (fun _ => 0))) (hKc : Kc + 400 ≤ 600086) (hKs : Ks + 2400 ≤ 7301442) (hk8 : k < 80) (nx : ∀ (H : Heap) (locs : List Loc) (ls : Array Slot), ob_St D t ax ao al am ac xg xh xe xm H → va_S (fun q : Nat => s.heap.size ≤ q) s.heap H locs → lv_has ls 15 [(0, .ref b), (1, .ref ax), (2, .ref xg), (3, .ref xh), (4, .ref xe), (5, .ref xm), (6, .int (nI 1)), (7, .int (nI (k + 1)))] → W p l e room_1 s m #[Value.ref b] below meth c H locs (Kc + 100) (Ks + 600) Q (F0 m 69 ls []))
    {H : Heap} {locs : List Loc} {ls : Array Slot} (hP : va_P D vwCl (ob_wX ax ao al am ac ++ ob_wO t ao M ++ ob_wL t al n cl rd sv pb ba bf od bg ++ ob_wM t am mn ms mf mt mp ++ ob_wC t ac cn st Wt ++ ob_wG t xg fg ++ ob_wH t xh fh ++ ob_wE t xe fe ++ ob_wV t xm fm) H) (hJc : ob_Jc M fe mk) (hJl : ob_Jl M n cl rd sv pb ba bf od fg) (hJm : ob_Jm mn mf mt mp) (hJr : ob_Jr cn Wt fh) (hJf : ob_Jf n mn cn st mk fm) (hS : va_S (fun q : Nat => s.heap.size ≤ q) s.heap H locs) (hl : lv_has ls 15 [(0, .ref b), (1, .ref ax), (2, .ref xg), (3, .ref xh), (4, .ref xe), (5, .ref xm), (6, .int (nI 1)), (7, .int (nI k))]) : W p l e room_1 s m #[Value.ref b] below meth c H locs Kc Ks Q (F0 m 69 ls []) := by
  obtain ⟨hx, hb, hml, hown, hts, hX, hbl, hk, hE0, hN, hl9, hL3⟩ := id C0
  obtain ⟨hM, hmk12, hmk⟩ := id hJc
  obtain ⟨hn, hkc, hrd, hbf, hod, hpb, hg, hg4⟩ := id hJl
  obtain ⟨hmn, hmm, hmp⟩ := id hJm
  obtain ⟨hcn, hh, hz0⟩ := id hJr
  obtain ⟨hf0, hf1, hf2, hf3, hf5⟩ := id hJf
  have hbA : ¬ (fun q : Nat => s.heap.size ≤ q) b := Nat.not_le.mpr hbl
  have hA : ∀ q : Nat, s.heap.size ≤ q → (fun q : Nat => s.heap.size ≤ q) q := fun _ h => h
  have hK := hk.1
  have hP : va_P D vwCl (ob_wX ax ao al am ac ++ ob_wO t ao M ++ ob_wL t al n cl rd sv pb ba bf od bg ++ ob_wM t am mn ms mf mt mp ++ ob_wC t ac cn st Wt ++ ob_wG t xg fg ++ ob_wH t xh fh ++ ob_wE t xe fe ++ ob_wV t xm fm) H := hP
  have hD : va_D (fun q : Nat => s.heap.size ≤ q) (ob_wX ax ao al am ac ++ ob_wO t ao M ++ ob_wL t al n cl rd sv pb ba bf od bg ++ ob_wM t am mn ms mf mt mp ++ ob_wC t ac cn st Wt ++ ob_wG t xg fg ++ ob_wH t xh fh ++ ob_wE t xe fe ++ ob_wV t xm fm) := ob_dXOLMCGHEV hD0
  refine lv_iload hx hb dL_law_69 (lv_at hl 7 rfl) ?_
  refine lv_bipush (v := nI 80) hx hb dL_law_71 (by decide) ?_
  refine ob_icmp_ge (tgt := 923) hx hb (by omega) (by omega) dL_law_73 (by decide) (fun c73 => ?_) (fun c73 => ?_)
  · exact absurd c73 (by omega)
  · refine lv_iload hx hb dL_law_76 (lv_at hl 6 rfl) ?_
    refine lv_if_eq (tgt := 923) hx hb dL_law_78 (by decide) (fun c9 => absurd c9 (by decide)) (fun _ => ?_)
    refine lv_aload_n hx hb dL_law_81 rfl (lv_at hl 0 rfl) ?_
    refine lv_iload hx hb dL_law_82 (lv_at hl 7 rfl) ?_
    refine vp_callSi (va_Run.run (va_runS (As := [.ref b, .int (nI k)]) (rest := []) ⟨hx, hb, hml, hown, hts⟩ (c_L_dice l b L xs k (by omega) (by omega)) (va_cwS 2 hts gL_law_L_dice rfl rfl rfl (by decide +kernel) ⟨Nat.le_of_ble_eq_true rfl, Nat.le_of_ble_eq_true rfl⟩) (ob_pzS hX hbl hbA hS) rfl rfl hl.1 rfl (lv_room (Nat.le_of_ble_eq_true rfl)) dL_law_84 ⟨(by show _ ≤ 600086; omega), (by show _ ≤ 7301442; omega)⟩)) (fun x9 ex9 => ?_)
    obtain ⟨x, hxb, rfl⟩ := ex9
    refine lv_istore (lv' := [(8, .int (nI x)), (0, .ref b), (1, .ref ax), (2, .ref xg), (3, .ref xh), (4, .ref xe), (5, .ref xm), (6, .int (nI 1)), (7, .int (nI k))]) hx hb dL_law_87 hl (by decide) rfl (fun ls hl => ?_)
    refine lv_iload hx hb dL_law_89 (lv_at hl 0 rfl) ?_
    refine lv_bipush (v := nI 32) hx hb dL_law_91 (by decide) ?_
    refine lv_idiv hx hb dL_law_93 (by decide) ?_
    rw [show (nI x) / (nI 32) = nI (x / 32) from pk_div (by omega) (by omega) (by omega)]
    obtain ⟨v, e93⟩ : ∃ z, z = (x / 32) := ⟨_, rfl⟩
    rw [show nI (x / 32) = nI v from by rw [e93]]
    refine lv_istore (lv' := [(9, .int (nI v)), (8, .int (nI x)), (0, .ref b), (1, .ref ax), (2, .ref xg), (3, .ref xh), (4, .ref xe), (5, .ref xm), (6, .int (nI 1)), (7, .int (nI k))]) hx hb dL_law_94 hl (by decide) rfl (fun ls hl => ?_)
    refine lv_iload hx hb dL_law_96 (lv_at hl 1 rfl) ?_
    refine lv_bipush (v := nI 32) hx hb dL_law_98 (by decide) ?_
    refine lv_irem hx hb dL_law_100 (by decide) ?_
    rw [show (nI x) - (nI x) / (nI 32) * (nI 32) = nI (x % 32) from pk_rem (by omega) (by omega) (by omega)]
    obtain ⟨how, e100⟩ : ∃ z, z = (x % 32) := ⟨_, rfl⟩
    rw [show nI (x % 32) = nI how from by rw [e100]]
    refine lv_istore (lv' := [(10, .int (nI how)), (9, .int (nI v)), (8, .int (nI x)), (0, .ref b), (1, .ref ax), (2, .ref xg), (3, .ref xh), (4, .ref xe), (5, .ref xm), (6, .int (nI 1)), (7, .int (nI k))]) hx hb dL_law_101 hl (by decide) rfl (fun ls hl => ?_)
    have k118 : ∀ (wd : Nat), (wd = 10001 ∨ wd = 60) → ∀ ls : Array Slot, lv_has ls 15 [(0, .ref b), (1, .ref ax), (2, .ref xg), (3, .ref xh), (4, .ref xe), (5, .ref xm), (6, .int (nI 1)), (7, .int (nI k)), (8, .int (nI x)), (9, .int (nI v)), (10, .int (nI how))] → W p l e room_1 s m #[Value.ref b] below meth c H locs (Kc) (Ks) Q (F0 m 118 ls [.int (nI wd)]) := by
      intro wd hwd ls hl
      have nxc : ∀ (H : Heap) (locs : List Loc) (ls : Array Slot), ob_St D t ax ao al am ac xg xh xe xm H → va_S (fun q : Nat => s.heap.size ≤ q) s.heap H locs → lv_has ls 15 [(0, .ref b), (1, .ref ax), (2, .ref xg), (3, .ref xh), (4, .ref xe), (5, .ref xm), (6, .int (nI 1)), (7, .int (nI k)), (8, .int (nI x)), (9, .int (nI v))] → W p l e room_1 s m #[Value.ref b] below meth c H locs (Kc + 20) (Ks + 120) Q (F0 m 826 ls []) := fun H locs ls hI hS hl => by
        obtain ⟨M, n, cl, rd, sv, pb, ba, bf, od, bg, mn, ms, mf, mt, mp, cn, st, Wt, fg, fh, fe, fm, mk, hP, hJc, hJl, hJm, hJr, hJf⟩ := hI
        exact ob_tail (Kc := Kc + 20) (Ks := Ks + 120) C0 hD0 (by omega) (by omega) hk8 hxb e93 (fun H locs ls hI hS hl => by
          refine W.widen (k := Kc + 100) (n := Ks + 600) (by omega) (by omega) ?_
          exact nx H locs ls hI hS hl) hP hJc hJl hJm hJr hJf hS hl
      refine lv_istore (lv' := [(11, .int (nI wd)), (0, .ref b), (1, .ref ax), (2, .ref xg), (3, .ref xh), (4, .ref xe), (5, .ref xm), (6, .int (nI 1)), (7, .int (nI k)), (8, .int (nI x)), (9, .int (nI v)), (10, .int (nI how))]) hx hb dL_law_118 hl (by decide) rfl (fun ls hl => ?_)
      have k214 : ∀ ls : Array Slot, lv_has ls 15 [(0, .ref b), (1, .ref ax), (2, .ref xg), (3, .ref xh), (4, .ref xe), (5, .ref xm), (6, .int (nI 1)), (7, .int (nI k)), (8, .int (nI x)), (9, .int (nI v)), (10, .int (nI how)), (11, .int (nI wd))] → W p l e room_1 s m #[Value.ref b] below meth c H locs (Kc) (Ks) Q (F0 m 214 ls []) := by
        intro   ls hl
        have k394 : ∀ ls : Array Slot, lv_has ls 15 [(0, .ref b), (1, .ref ax), (2, .ref xg), (3, .ref xh), (4, .ref xe), (5, .ref xm), (6, .int (nI 1)), (7, .int (nI k)), (8, .int (nI x)), (9, .int (nI v)), (10, .int (nI how)), (11, .int (nI wd))] → W p l e room_1 s m #[Value.ref b] below meth c H locs (Kc) (Ks) Q (F0 m 394 ls []) := by
          intro   ls hl
          refine lv_iload hx hb dL_law_394 (lv_at hl 10 rfl) ?_
          refine lv_bipush (v := nI 20) hx hb dL_law_396 (by decide) ?_
          refine ob_icmp_ge (tgt := 498) hx hb (by omega) (by omega) dL_law_398 (by decide) (fun c398 => ?_) (fun c398 => ?_)
          · refine lv_iload hx hb dL_law_498 (lv_at hl 10 rfl) ?_
            refine lv_bipush (v := nI 24) hx hb dL_law_500 (by decide) ?_
            refine ob_icmp_ge (tgt := 590) hx hb (by omega) (by omega) dL_law_502 (by decide) (fun c502 => ?_) (fun c502 => ?_)
            · have k655 : ∀ ls : Array Slot, lv_has ls 15 [(0, .ref b), (1, .ref ax), (2, .ref xg), (3, .ref xh), (4, .ref xe), (5, .ref xm), (6, .int (nI 1)), (7, .int (nI k)), (8, .int (nI x)), (9, .int (nI v)), (10, .int (nI how)), (11, .int (nI wd))] → W p l e room_1 s m #[Value.ref b] below meth c H locs (Kc) (Ks) Q (F0 m 655 ls []) := by
                intro   ls hl
                have k734 : ∀ ls : Array Slot, lv_has ls 15 [(0, .ref b), (1, .ref ax), (2, .ref xg), (3, .ref xh), (4, .ref xe), (5, .ref xm), (6, .int (nI 1)), (7, .int (nI k)), (8, .int (nI x)), (9, .int (nI v)), (10, .int (nI how)), (11, .int (nI wd))] → W p l e room_1 s m #[Value.ref b] below meth c H locs (Kc) (Ks) Q (F0 m 734 ls []) := by
                  intro   ls hl
                  exact ob_c7 (k := k) (x := x) (v := v) (how := how) (wd := wd) (Kc := Kc) (Ks := Ks) C0 hD0 (by omega) (by omega) hk8 hxb e93 hwd nxc hP hJc hJl hJm hJr hJf hS (lv_sub hl [0, 1, 2, 3, 4, 5, 6, 7, 8, 9, 10, 11] rfl)
                refine lv_aload hx hb dL_law_655 (lv_at hl 5 rfl) ?_
                refine lv_iconst (v := nI 2) hx hb dL_law_657 (by decide) ?_
                refine ob_iald hx hb hK hP 43 0 rfl rfl (by omega) (by decide) dL_law_658 ?_
                rw [show fm 2 = nI cn from hf2]
                refine lv_iconst (v := nI 1) hx hb dL_law_659 (by decide) ?_
                refine ob_icmp_le (tgt := 734) hx hb (by omega) (by omega) dL_law_660 (by decide) (fun c660 => ?_) (fun c660 => ?_)
                · exact k734   _ (lv_sub hl [0, 1, 2, 3, 4, 5, 6, 7, 8, 9, 10, 11] rfl)
                · refine lv_iload hx hb dL_law_663 (lv_at hl 10 rfl) ?_
                  refine lv_bipush (v := nI 30) hx hb dL_law_665 (by decide) ?_
                  refine ob_icmp_ge (tgt := 734) hx hb (by omega) (by omega) dL_law_667 (by decide) (fun c667 => ?_) (fun c667 => ?_)
                  · exact k734   _ (lv_sub hl [0, 1, 2, 3, 4, 5, 6, 7, 8, 9, 10, 11] rfl)
                  · exact ob_c6 (k := k) (x := x) (v := v) (how := how) (wd := wd) (Kc := Kc) (Ks := Ks) C0 hD0 (by omega) (by omega) hk8 hxb e93 hwd c660 nxc hP hJc hJl hJm hJr hJf hS (lv_sub hl [0, 1, 2, 3, 4, 5, 6, 7, 8, 9, 10, 11] rfl)
              refine lv_iload hx hb dL_law_590 (lv_at hl 10 rfl) ?_
              refine lv_bipush (v := nI 26) hx hb dL_law_592 (by decide) ?_
              refine ob_icmp_ge (tgt := 655) hx hb (by omega) (by omega) dL_law_594 (by decide) (fun c594 => ?_) (fun c594 => ?_)
              · exact k655   _ (lv_sub hl [0, 1, 2, 3, 4, 5, 6, 7, 8, 9, 10, 11] rfl)
              · refine lv_aload hx hb dL_law_597 (lv_at hl 5 rfl) ?_
                refine lv_iconst (v := nI 2) hx hb dL_law_599 (by decide) ?_
                refine ob_iald hx hb hK hP 43 0 rfl rfl (by omega) (by decide) dL_law_600 ?_
                rw [show fm 2 = nI cn from hf2]
                refine lv_bipush (v := nI 8) hx hb dL_law_601 (by decide) ?_
                refine ob_icmp_ge (tgt := 655) hx hb (by omega) (by omega) dL_law_603 (by decide) (fun c603 => ?_) (fun c603 => ?_)
                · exact k655   _ (lv_sub hl [0, 1, 2, 3, 4, 5, 6, 7, 8, 9, 10, 11] rfl)
                · exact ob_c5 (k := k) (x := x) (v := v) (how := how) (wd := wd) (Kc := Kc) (Ks := Ks) C0 hD0 (by omega) (by omega) hk8 hxb e93 hwd c603 nxc hP hJc hJl hJm hJr hJf hS (lv_sub hl [0, 1, 2, 3, 4, 5, 6, 7, 8, 9, 10, 11] rfl)
            · exact ob_c4 (k := k) (x := x) (v := v) (how := how) (wd := wd) (Kc := Kc) (Ks := Ks) C0 hD0 (by omega) (by omega) hk8 hxb e93 hwd nxc hP hJc hJl hJm hJr hJf hS (lv_sub hl [0, 1, 2, 3, 4, 5, 6, 7, 8, 9, 10, 11] rfl)
          · exact ob_c3 (k := k) (x := x) (v := v) (how := how) (wd := wd) (Kc := Kc) (Ks := Ks) C0 hD0 (by omega) (by omega) hk8 hxb e93 hwd nxc hP hJc hJl hJm hJr hJf hS (lv_sub hl [0, 1, 2, 3, 4, 5, 6, 7, 8, 9, 10, 11] rfl)
        refine lv_iload hx hb dL_law_214 (lv_at hl 10 rfl) ?_
        refine lv_bipush (v := nI 15) hx hb dL_law_216 (by decide) ?_
        refine ob_icmp_ge (tgt := 394) hx hb (by omega) (by omega) dL_law_218 (by decide) (fun c218 => ?_) (fun c218 => ?_)
        · exact k394   _ (lv_sub hl [0, 1, 2, 3, 4, 5, 6, 7, 8, 9, 10, 11] rfl)
        · refine lv_aload hx hb dL_law_221 (lv_at hl 5 rfl) ?_
          refine lv_iconst (v := nI 0) hx hb dL_law_223 (by decide) ?_
          refine ob_iald hx hb hK hP 43 0 rfl rfl (by omega) (by decide) dL_law_224 ?_
          rw [show fm 0 = nI n from hf0]
          refine lv_bipush (v := nI 12) hx hb dL_law_225 (by decide) ?_
          refine ob_icmp_ge (tgt := 394) hx hb (by omega) (by omega) dL_law_227 (by decide) (fun c227 => ?_) (fun c227 => ?_)
          · exact k394   _ (lv_sub hl [0, 1, 2, 3, 4, 5, 6, 7, 8, 9, 10, 11] rfl)
          · exact ob_c2 (k := k) (x := x) (v := v) (how := how) (wd := wd) (Kc := Kc) (Ks := Ks) C0 hD0 (by omega) (by omega) hk8 hxb e93 hwd c227 nxc hP hJc hJl hJm hJr hJf hS (lv_sub hl [0, 1, 2, 3, 4, 5, 6, 7, 8, 9, 10, 11] rfl)
      refine lv_iload hx hb dL_law_120 (lv_at hl 11 rfl) ?_
      refine lv_bipush (v := nI 6) hx hb dL_law_122 (by decide) ?_
      refine ob_icmp_ge (tgt := 214) hx hb (by omega) (by omega) dL_law_124 (by decide) (fun c124 => ?_) (fun c124 => ?_)
      · exact k214   _ (lv_sub hl [1, 2, 3, 4, 5, 6, 7, 8, 9, 10, 11, 0] rfl)
      · refine lv_aload hx hb dL_law_127 (lv_at hl 6 rfl) ?_
        refine lv_iconst (v := nI 5) hx hb dL_law_129 (by decide) ?_
        refine ob_iald hx hb hK hP 43 0 rfl rfl (by omega) (by decide) dL_law_130 ?_
        rw [show fm 5 = nI mk from hf5]
        refine lv_bipush (v := nI 12) hx hb dL_law_131 (by decide) ?_
        refine ob_icmp_ge (tgt := 214) hx hb (by omega) (by omega) dL_law_133 (by decide) (fun c133 => ?_) (fun c133 => ?_)
        · exact k214   _ (lv_sub hl [1, 2, 3, 4, 5, 6, 7, 8, 9, 10, 11, 0] rfl)
        · exact ob_c1 (k := k) (x := x) (v := v) (how := how) (wd := wd) (Kc := Kc) (Ks := Ks) C0 hD0 (by omega) (by omega) hk8 hxb e93 hwd c133 nxc hP hJc hJl hJm hJr hJf hS (lv_sub hl [1, 2, 3, 4, 5, 6, 7, 8, 9, 10, 11, 0] rfl)
    refine lv_iload hx hb dL_law_103 (lv_at hl 1 rfl) ?_
    refine lv_iconst (v := nI 3) hx hb dL_law_105 (by decide) ?_
    refine lv_irem hx hb dL_law_106 (by decide) ?_
    rw [show (nI v) - (nI v) / (nI 3) * (nI 3) = nI (v % 3) from pk_rem (by omega) (by omega) (by omega)]
    refine ob_nif_ne (tgt := 116) hx hb (by omega) dL_law_107 (by decide) (fun c107 => ?_) (fun c107 => ?_)
    · refine lv_bipush (v := nI 60) hx hb dL_law_116 (by decide) ?_
      exact k118 60 (by omega) _ (lv_sub hl [3, 4, 5, 6, 7, 8, 9, 10, 2, 1, 0] rfl)
    · refine lv_sipush (v := nI 10001) hx hb dL_law_110 (by decide) ?_
      refine lv_goto (tgt := 118) hx hb dL_law_113 (by decide) ?_
      exact k118 10001 (by omega) _ (lv_sub hl [3, 4, 5, 6, 7, 8, 9, 10, 2, 1, 0] rfl)

set_option maxRecDepth 100000 in
set_option maxHeartbeats 16000000 in
/-- the first look, at an empty book -/
theorem ob_beg {p : Program} {l : Launch} {e : Env} {s : State} {m : MethodId} {below : List Frame} {meth : Method} {c : Code} {b L : Nat} {xs : Nat → Int32} {D : va_G} {t : Nat → ClassId} {sa : Nat → Nat} {ax : Nat} {ao al am ac : Nat → Nat} {xg xh xe xm : Nat} {Kc Ks : Nat} {Q : State → Prop} {M : Nat → Nat → Int32} {n : Nat} {cl : Nat → Int32} {rd : Nat → Int32} {sv : Nat → Int32} {pb : Nat → Int32} {ba : Nat → Int32} {bf : Nat → Int32} {od : Nat → Int32} {bg : Nat → Int64} {mn : Nat} {ms : Nat → Int32} {mf : Nat → Int32} {mt : Nat → Int32} {mp : Nat → Int32} {cn : Nat} {st : Int32} {Wt : Nat → Nat → Int32} {fg : Nat → Int32} {fh : Nat → Int32} {fe : Nat → Int32} {fm : Nat → Int32} {mk : Nat} (C0 : ob_At p l s m c b L xs D t sa) (hD0 : va_D (fun q : Nat => s.heap.size ≤ q) (ob_wX ax ao al am ac ++ ob_wO t ao (fun _ _ => 0) ++ ob_wL t al 0 (fun _ => 0) (fun _ => 0) (fun _ => 0) (fun _ => 0) (fun _ => 0) (fun _ => 0) (fun _ => 0) (fun _ => 0) ++ ob_wM t am 0 (fun _ => 0) (fun _ => 0) (fun _ => 0) (fun _ => 0) ++ ob_wC t ac 0 0 (fun _ _ => 0) ++ ob_wG t xg (fun _ => 0) ++ ob_wH t xh (fun _ => 0) ++ ob_wE t xe (fun _ => 0) ++ ob_wV t xm (fun _ => 0))) (hKc : Kc + 200 ≤ 600086) (hKs : Ks + 1200 ≤ 7301442) (hn0 : n = 0) (nx : ∀ (H : Heap) (locs : List Loc) (ls : Array Slot), ob_St D t ax ao al am ac xg xh xe xm H → va_S (fun q : Nat => s.heap.size ≤ q) s.heap H locs → lv_has ls 15 [(0, .ref b), (1, .ref ax), (2, .ref xg), (3, .ref xh), (4, .ref xe), (5, .ref xm), (6, .int (nI 1)), (7, .int (nI 0))] → W p l e room_1 s m #[Value.ref b] below meth c H locs (Kc + 80) (Ks + 480) Q (F0 m 69 ls []))
    {H : Heap} {locs : List Loc} {ls : Array Slot} (hP : va_P D vwCl (ob_wX ax ao al am ac ++ ob_wO t ao M ++ ob_wL t al n cl rd sv pb ba bf od bg ++ ob_wM t am mn ms mf mt mp ++ ob_wC t ac cn st Wt ++ ob_wG t xg fg ++ ob_wH t xh fh ++ ob_wE t xe fe ++ ob_wV t xm fm) H) (hJc : ob_Jc M fe mk) (hJl : ob_Jl M n cl rd sv pb ba bf od fg) (hJm : ob_Jm mn mf mt mp) (hJr : ob_Jr cn Wt fh) (hJf : ob_Jf n mn cn st mk fm) (hS : va_S (fun q : Nat => s.heap.size ≤ q) s.heap H locs) (hl : lv_has ls 15 [(0, .ref b), (1, .ref ax), (2, .ref xg), (3, .ref xh), (4, .ref xe), (5, .ref xm)]) : W p l e room_1 s m #[Value.ref b] below meth c H locs Kc Ks Q (F0 m 30 ls []) := by
  obtain ⟨hx, hb, hml, hown, hts, hX, hbl, hk, hE0, hN, hl9, hL3⟩ := id C0
  obtain ⟨hM, hmk12, hmk⟩ := id hJc
  obtain ⟨hn, hkc, hrd, hbf, hod, hpb, hg, hg4⟩ := id hJl
  obtain ⟨hmn, hmm, hmp⟩ := id hJm
  obtain ⟨hcn, hh, hz0⟩ := id hJr
  obtain ⟨hf0, hf1, hf2, hf3, hf5⟩ := id hJf
  have hbA : ¬ (fun q : Nat => s.heap.size ≤ q) b := Nat.not_le.mpr hbl
  have hA : ∀ q : Nat, s.heap.size ≤ q → (fun q : Nat => s.heap.size ≤ q) q := fun _ h => h
  have hK := hk.1
  have hP : va_P D vwCl (ob_wX ax ao al am ac ++ ob_wO t ao M ++ ob_wL t al n cl rd sv pb ba bf od bg ++ ob_wM t am mn ms mf mt mp ++ ob_wC t ac cn st Wt ++ ob_wG t xg fg ++ ob_wH t xh fh ++ ob_wE t xe fe ++ ob_wV t xm fm) H := hP
  have hD : va_D (fun q : Nat => s.heap.size ≤ q) (ob_wX ax ao al am ac ++ ob_wO t ao M ++ ob_wL t al n cl rd sv pb ba bf od bg ++ ob_wM t am mn ms mf mt mp ++ ob_wC t ac cn st Wt ++ ob_wG t xg fg ++ ob_wH t xh fh ++ ob_wE t xe fe ++ ob_wV t xm fm) := ob_dXOLMCGHEV hD0
  refine lv_aload_n hx hb dL_law_30 rfl (lv_at hl 1 rfl) ?_
  refine lv_aload hx hb dL_law_31 (lv_at hl 5 rfl) ?_
  refine lv_iconst (v := nI 0) hx hb dL_law_33 (by decide) ?_
  have hFc := va_free (wc := ob_wX ax ao al am ac ++ ob_wO t ao M ++ ob_wL t al n cl rd sv pb ba bf od bg ++ ob_wM t am mn ms mf mt mp ++ ob_wC t ac cn st Wt ++ ob_wV t xm fm) hD hS hA [0, 1, 2, 3, 4, 5, 6, 7, 8, 9, 10, 11, 12, 13, 14, 15, 16, 17, 18, 19, 20, 21, 22, 23, 24, 25, 26, 27, 28, 29, 30, 31, 32, 33, 34, 35, 36, 37, 38, 39, 43] rfl
  refine va_calli (va_runS (As := [.ref ax, .ref xm, .int (nI 0)]) (rest := []) ⟨hx, hb, hml, hown, hts⟩ (c_L_isRefused l hl9 sa D t H.size ax ao al am ac M n cl rd sv pb ba bf od bg mn ms mf mt mp cn st Wt xm fm 0 hn hmn hcn hf0 hf2 (by first | assumption | omega)) (va_cwS 3 hts gL_law_L_isRefused rfl rfl rfl (by decide +kernel) ⟨Nat.le_of_ble_eq_true rfl, Nat.le_of_ble_eq_true rfl⟩) (ob_pYS (hP.sub [0, 1, 2, 3, 4, 5, 6, 7, 8, 9, 10, 11, 12, 13, 14, 15, 16, 17, 18, 19, 20, 21, 22, 23, 24, 25, 26, 27, 28, 29, 30, 31, 32, 33, 34, 35, 36, 37, 38, 39, 43] rfl) (hD.sub [0, 1, 2, 3, 4, 5, 6, 7, 8, 9, 10, 11, 12, 13, 14, 15, 16, 17, 18, 19, 20, 21, 22, 23, 24, 25, 26, 27, 28, 29, 30, 31, 32, 33, 34, 35, 36, 37, 38, 39, 43] (by decide) rfl) hk (ob_exN hE0 hS hFc) hN) rfl rfl hl.1 rfl (lv_room (Nat.le_of_ble_eq_true rfl)) dL_law_34 ⟨(by show _ ≤ 600086; omega), (by show _ ≤ 7301442; omega)⟩) hS (fun q _ h => hFc q h) hFc (fun r9 u9 t9 H1 locs ht hvm hw9 hB hz1 hk1 hS => ?_)
  refine W.widen (k := Kc + 31) (n := Ks + 186) (by omega) (by omega) ?_
  rw [ht] at hB
  have hP := ob_jn (ws' := ob_wX ax ao al am ac ++ ob_wO t ao M ++ ob_wL t al n cl rd sv pb ba bf od bg ++ ob_wM t am mn ms mf mt mp ++ ob_wC t ac cn st Wt ++ ob_wG t xg fg ++ ob_wH t xh fh ++ ob_wE t xe fe ++ ob_wV t xm fm) hP hD [some 0, some 1, some 2, some 3, some 4, some 5, some 6, some 7, some 8, some 9, some 10, some 11, some 12, some 13, some 14, some 15, some 16, some 17, some 18, some 19, some 20, some 21, some 22, some 23, some 24, some 25, some 26, some 27, some 28, some 29, some 30, some 31, some 32, some 33, some 34, some 35, some 36, some 37, some 38, some 39, none, none, none, some 40] [0, 1, 2, 3, 4, 5, 6, 7, 8, 9, 10, 11, 12, 13, 14, 15, 16, 17, 18, 19, 20, 21, 22, 23, 24, 25, 26, 27, 28, 29, 30, 31, 32, 33, 34, 35, 36, 37, 38, 39, 43] rfl rfl hk1 hB rfl
  have hD : va_D ((fun q : Nat => s.heap.size ≤ q)) (ob_wX ax ao al am ac ++ ob_wO t ao M ++ ob_wL t al n cl rd sv pb ba bf od bg ++ ob_wM t am mn ms mf mt mp ++ ob_wC t ac cn st Wt ++ ob_wG t xg fg ++ ob_wH t xh fh ++ ob_wE t xe fe ++ ob_wV t xm fm) := ob_dXOLMCGHEV hD
  generalize H1 = H at hP hS ⊢
  subst hw9
  refine lv_if_eq (tgt := 63) hx hb dL_law_37 (by decide) (fun c9 => absurd c9 (by decide)) (fun _ => ?_)
  refine lv_aload_n hx hb dL_law_40 rfl (lv_at hl 1 rfl) ?_
  refine lv_aload hx hb dL_law_41 (lv_at hl 5 rfl) ?_
  refine lv_iconst (v := nI 1) hx hb dL_law_43 (by decide) ?_
  have hFc := va_free (wc := ob_wX ax ao al am ac ++ ob_wO t ao M ++ ob_wL t al n cl rd sv pb ba bf od bg ++ ob_wM t am mn ms mf mt mp ++ ob_wC t ac cn st Wt ++ ob_wV t xm fm) hD hS hA [0, 1, 2, 3, 4, 5, 6, 7, 8, 9, 10, 11, 12, 13, 14, 15, 16, 17, 18, 19, 20, 21, 22, 23, 24, 25, 26, 27, 28, 29, 30, 31, 32, 33, 34, 35, 36, 37, 38, 39, 43] rfl
  refine va_calli (va_runS (As := [.ref ax, .ref xm, .int (nI 1)]) (rest := []) ⟨hx, hb, hml, hown, hts⟩ (c_L_isRefused l hl9 sa D t H.size ax ao al am ac M n cl rd sv pb ba bf od bg mn ms mf mt mp cn st Wt xm fm 1 hn hmn hcn hf0 hf2 (by first | assumption | omega)) (va_cwS 3 hts gL_law_L_isRefused rfl rfl rfl (by decide +kernel) ⟨Nat.le_of_ble_eq_true rfl, Nat.le_of_ble_eq_true rfl⟩) (ob_pYS (hP.sub [0, 1, 2, 3, 4, 5, 6, 7, 8, 9, 10, 11, 12, 13, 14, 15, 16, 17, 18, 19, 20, 21, 22, 23, 24, 25, 26, 27, 28, 29, 30, 31, 32, 33, 34, 35, 36, 37, 38, 39, 43] rfl) (hD.sub [0, 1, 2, 3, 4, 5, 6, 7, 8, 9, 10, 11, 12, 13, 14, 15, 16, 17, 18, 19, 20, 21, 22, 23, 24, 25, 26, 27, 28, 29, 30, 31, 32, 33, 34, 35, 36, 37, 38, 39, 43] (by decide) rfl) hk (ob_exN hE0 hS hFc) hN) rfl rfl hl.1 rfl (lv_room (Nat.le_of_ble_eq_true rfl)) dL_law_44 ⟨(by show _ ≤ 600086; omega), (by show _ ≤ 7301442; omega)⟩) hS (fun q _ h => hFc q h) hFc (fun r9 u9 t9 H1 locs ht hvm hw9 hB hz1 hk1 hS => ?_)
  refine W.widen (k := Kc + 62) (n := Ks + 372) (by omega) (by omega) ?_
  rw [ht] at hB
  have hP := ob_jn (ws' := ob_wX ax ao al am ac ++ ob_wO t ao M ++ ob_wL t al n cl rd sv pb ba bf od bg ++ ob_wM t am mn ms mf mt mp ++ ob_wC t ac cn st Wt ++ ob_wG t xg fg ++ ob_wH t xh fh ++ ob_wE t xe fe ++ ob_wV t xm fm) hP hD [some 0, some 1, some 2, some 3, some 4, some 5, some 6, some 7, some 8, some 9, some 10, some 11, some 12, some 13, some 14, some 15, some 16, some 17, some 18, some 19, some 20, some 21, some 22, some 23, some 24, some 25, some 26, some 27, some 28, some 29, some 30, some 31, some 32, some 33, some 34, some 35, some 36, some 37, some 38, some 39, none, none, none, some 40] [0, 1, 2, 3, 4, 5, 6, 7, 8, 9, 10, 11, 12, 13, 14, 15, 16, 17, 18, 19, 20, 21, 22, 23, 24, 25, 26, 27, 28, 29, 30, 31, 32, 33, 34, 35, 36, 37, 38, 39, 43] rfl rfl hk1 hB rfl
  have hD : va_D ((fun q : Nat => s.heap.size ≤ q)) (ob_wX ax ao al am ac ++ ob_wO t ao M ++ ob_wL t al n cl rd sv pb ba bf od bg ++ ob_wM t am mn ms mf mt mp ++ ob_wC t ac cn st Wt ++ ob_wG t xg fg ++ ob_wH t xh fh ++ ob_wE t xe fe ++ ob_wV t xm fm) := ob_dXOLMCGHEV hD
  generalize H1 = H at hP hS ⊢
  subst hw9
  refine lv_if_eq (tgt := 63) hx hb dL_law_47 (by decide) (fun c9 => absurd c9 (by decide)) (fun _ => ?_)
  refine lv_aload_n hx hb dL_law_50 rfl (lv_at hl 1 rfl) ?_
  have hFc := va_free (wc := ob_wX ax ao al am ac ++ ob_wL t al n cl rd sv pb ba bf od bg) hD hS hA [0, 8, 9, 10, 11, 12, 13, 14, 15, 16] rfl
  refine va_calll (ob_runN (vx_runSX (As := [.ref ax]) (rest := []) ⟨hx, hb, hml, hown, hts⟩ (y_orders_ok l hl9 sa D t H.size ax ao al am ac n cl rd sv pb ba bf od bg (by first | assumption | omega) (by rw [decide_eq_true (show n ≤ 12 by omega)]; rfl)) (vx_cwSW 1 hts gL_law_L_orders rfl rfl rfl (by decide +kernel) ⟨Nat.le_of_ble_eq_true rfl, Nat.le_of_ble_eq_true rfl⟩) (ob_pYS (hP.sub [0, 8, 9, 10, 11, 12, 13, 14, 15, 16] rfl) (hD.sub [0, 8, 9, 10, 11, 12, 13, 14, 15, 16] (by decide) rfl) hk (ob_exN hE0 hS hFc) hN) rfl rfl hl.1 rfl (lv_room (Nat.le_of_ble_eq_true rfl)) dL_law_51 ⟨(by show _ ≤ 600086; omega), (by show _ ≤ 7301442; omega)⟩)) hS (fun q _ h => hFc q h) hFc (fun r9 u9 t9 H1 locs ht hvm hw9 hB hz1 hk1 hS => ?_)
  refine W.widen (k := Kc + 63) (n := Ks + 378) (by omega) (by omega) ?_
  rw [ht] at hB
  have hP := ob_jn (ws' := ob_wX ax ao al am ac ++ ob_wO t ao M ++ ob_wL t al n cl rd sv pb ba bf od (ob_F bf n bg (2 ^ n)) ++ ob_wM t am mn ms mf mt mp ++ ob_wC t ac cn st Wt ++ ob_wG t xg fg ++ ob_wH t xh fh ++ ob_wE t xe fe ++ ob_wV t xm fm) hP hD [some 0, none, none, none, none, none, none, none, some 1, some 2, some 3, some 4, some 5, some 6, some 7, some 8, some 9, none, none, none, none, none, none, none, none, none, none, none, none, none, none, none, none, none, none, none, none, none, none, none, none, none, none, none] [0, 8, 9, 10, 11, 12, 13, 14, 15, 16] rfl rfl hk1 hB rfl
  obtain ⟨bg1, ebg1⟩ : ∃ z, z = ob_F bf n bg (2 ^ n) := ⟨_, rfl⟩
  rw [← ebg1] at hP
  have hP : va_P D vwCl (ob_wX ax ao al am ac ++ ob_wO t ao M ++ ob_wL t al n cl rd sv pb ba bf od bg1 ++ ob_wM t am mn ms mf mt mp ++ ob_wC t ac cn st Wt ++ ob_wG t xg fg ++ ob_wH t xh fh ++ ob_wE t xe fe ++ ob_wV t xm fm) H1 := hP
  have hD : va_D ((fun q : Nat => s.heap.size ≤ q)) (ob_wX ax ao al am ac ++ ob_wO t ao M ++ ob_wL t al n cl rd sv pb ba bf od bg1 ++ ob_wM t am mn ms mf mt mp ++ ob_wC t ac cn st Wt ++ ob_wG t xg fg ++ ob_wH t xh fh ++ ob_wE t xe fe ++ ob_wV t xm fm) := ob_dXOLMCGHEV hD
  generalize H1 = H at hP hS ⊢
  subst hw9
  refine lv_lconst (v := lN 1) hx hb dL_law_54 rfl ?_
  refine W.lcmp hx hb dL_law_55 ?_
  refine lv_if_ne (tgt := 63) hx hb dL_law_56 (by decide) (fun c56 => ?_) (fun c56 => ?_)
  · exact absurd ((lg_cmp_eq _ _).mpr (by subst hn0; rfl)) c56
  · refine lv_iconst (v := nI 1) hx hb dL_law_59 (by decide) ?_
    refine lv_goto (tgt := 64) hx hb dL_law_60 (by decide) ?_
    refine lv_istore (lv' := [(6, .int (nI 1)), (0, .ref b), (1, .ref ax), (2, .ref xg), (3, .ref xh), (4, .ref xe), (5, .ref xm)]) hx hb dL_law_64 hl (by decide) rfl (fun ls hl => ?_)
    refine lv_iconst (v := nI 0) hx hb dL_law_66 (by decide) ?_
    refine lv_istore (lv' := [(7, .int (nI 0)), (6, .int (nI 1)), (0, .ref b), (1, .ref ax), (2, .ref xg), (3, .ref xh), (4, .ref xe), (5, .ref xm)]) hx hb dL_law_67 hl (by decide) rfl (fun ls hl => ?_)
    refine W.widen (k := Kc + 80) (n := Ks + 480) (by omega) (by omega) ?_
    exact nx _ _ _ ⟨_, _, _, _, _, _, _, _, _, _, _, _, _, _, _, _, _, _, _, _, _, _, _, hP, hJc, hJl, hJm, hJr, hJf⟩ hS (lv_sub hl [2, 3, 4, 5, 6, 7, 1, 0] rfl)

set_option maxRecDepth 100000 in
set_option maxHeartbeats 16000000 in
/-- THE LAW'S LOOP: at its head, with k rounds made -/
theorem ob_loop {p : Program} {l : Launch} {e : Env} {s : State} {m : MethodId} {below : List Frame} {meth : Method} {c : Code} {b L : Nat} {xs : Nat → Int32} {D : va_G} {t : Nat → ClassId} {sa : Nat → Nat} {ax : Nat} {ao al am ac : Nat → Nat} {xg xh xe xm : Nat} {K0 S0 : Nat} {Q : State → Prop} (C0 : ob_At p l s m c b L xs D t sa) (hD0 : va_D (fun q : Nat => s.heap.size ≤ q) (ob_wX ax ao al am ac ++ ob_wO t ao (fun _ _ => 0) ++ ob_wL t al 0 (fun _ => 0) (fun _ => 0) (fun _ => 0) (fun _ => 0) (fun _ => 0) (fun _ => 0) (fun _ => 0) (fun _ => 0) ++ ob_wM t am 0 (fun _ => 0) (fun _ => 0) (fun _ => 0) (fun _ => 0) ++ ob_wC t ac 0 0 (fun _ _ => 0) ++ ob_wG t xg (fun _ => 0) ++ ob_wH t xh (fun _ => 0) ++ ob_wE t xe (fun _ => 0) ++ ob_wV t xm (fun _ => 0))) (hKc : K0 + 8500 ≤ 600086) (hKs : S0 + 51000 ≤ 7301442)
    (ex : ∀ (H : Heap) (locs : List Loc) (ls : Array Slot), va_S (fun q : Nat => s.heap.size ≤ q) s.heap H locs → lv_has ls 15 [(0, .ref b), (1, .ref ax), (2, .ref xg), (3, .ref xh), (4, .ref xe), (5, .ref xm), (6, .int (nI 1))] → W p l e room_1 s m #[Value.ref b] below meth c H locs (K0 + 8000) (S0 + 48000) Q (F0 m 923 ls [])) :
    ∀ (N k : Nat), k + N = 80 → ∀ (H : Heap) (locs : List Loc) (ls : Array Slot), ob_St D t ax ao al am ac xg xh xe xm H → va_S (fun q : Nat => s.heap.size ≤ q) s.heap H locs → lv_has ls 15 [(0, .ref b), (1, .ref ax), (2, .ref xg), (3, .ref xh), (4, .ref xe), (5, .ref xm), (6, .int (nI 1)), (7, .int (nI k))] → W p l e room_1 s m #[Value.ref b] below meth c H locs (K0 + 100 * k) (S0 + 600 * k) Q (F0 m 69 ls []) := by
  obtain ⟨hx, hb, hml, hown, hts, hX, hbl, hk, hE0, hN, hl9, hL3⟩ := id C0
  intro N
  induction N with
  | zero =>
    intro k hkN H locs ls hI hS hl
    refine lv_iload hx hb dL_law_69 (lv_at hl 7 rfl) ?_
    refine lv_bipush (v := nI 80) hx hb dL_law_71 (by decide) ?_
    refine ob_icmp_ge (tgt := 923) hx hb (by omega) (by omega) dL_law_73 (by decide) (fun _ => ?_) (fun c9 => absurd c9 (by omega))
    refine W.widen (k := K0 + 8000) (n := S0 + 48000) (by omega) (by omega) ?_
    exact ex H locs ls hS (lv_sub hl [0, 1, 2, 3, 4, 5, 6] rfl)
  | succ N ih =>
    intro k hkN H locs ls hI hS hl
    obtain ⟨M, n, cl, rd, sv, pb, ba, bf, od, bg, mn, ms, mf, mt, mp, cn, st, Wt, fg, fh, fe, fm, mk, hP, hJc, hJl, hJm, hJr, hJf⟩ := hI
    exact ob_rnd (k := k) (Kc := K0 + 100 * k) (Ks := S0 + 600 * k) C0 hD0 (by omega) (by omega) (by omega) (fun H locs ls hI hS hl => by
      have h := ih (k + 1) (by omega) H locs ls hI hS hl
      rw [show K0 + 100 * (k + 1) = K0 + 100 * k + 100 by omega, show S0 + 600 * (k + 1) = S0 + 600 * k + 600 by omega] at h
      exact h) hP hJc hJl hJm hJr hJf hS hl
