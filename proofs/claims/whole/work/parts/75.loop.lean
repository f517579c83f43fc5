set_option maxRecDepth 100000 in
set_option maxHeartbeats 8000000 in
/-- THE LAW'S LOOP: at its head, with k calls made -/
theorem ob_loop {p : Program} {l : Launch} {e : Env} {s : State} {m : MethodId} {below : List Frame} {meth : Method} {c : Code} {b L : Nat} {xs : Nat → Int32} {D : va_G} {t : Nat → ClassId} {sa : Nat → Nat} {ax : Nat} {ao al am ac ar : Nat → Nat} {au : Nat} {Kc Ks : Nat} {Q : State → Prop} (C0 : ob_At p l s m c b L xs D t sa) (hD0 : va_D (fun q : Nat => s.heap.size ≤ q) (ob_wX ax ao al am ac ++ ob_wO t ao (fun _ _ => 0) ++ ob_wL t al 0 (fun _ => 0) (fun _ => 0) (fun _ => 0) (fun _ => 0) (fun _ => 0) (fun _ => 0) (fun _ => 0) (fun _ => 0) ++ ob_wM t am 0 (fun _ => 0) (fun _ => 0) (fun _ => 0) (fun _ => 0) ++ ob_wC t ac 0 0 (fun _ _ => 0) ++ ob_wR t ar (fun _ => 0) (fun _ => 0) 0 (fun _ => 0) (fun _ => 0) (fun _ => 0) (fun _ => 0) (fun _ => 0) (fun _ => 0) (fun _ => 0) (fun _ => 0) (fun _ => 0) 0 (fun _ => 0) (fun _ => 0) (fun _ => 0) (fun _ => 0) 0 (fun _ => 0) (fun _ => 0) 0 ++ ob_wU t au (fun _ => 0))) (hKc : Kc ≤ 600000) (hKs : Ks ≤ 7000000)
    (ex : ∀ (H : Heap) (locs : List Loc) (ls : Array Slot) (cells slots : Nat), va_S (fun q : Nat => s.heap.size ≤ q) s.heap H locs → cells ≤ 601024 → slots ≤ 7293034 → W p l e room_1 s m #[Value.ref b] below meth c H locs cells slots Q (F0 m 1421 ls [])) :
    ∀ (N k : Nat), 6 * k ≤ L → L < 6 * k + N → ∀ (H : Heap) (locs : List Loc) (ls : Array Slot), ob_St D t ax ao al am ac ar au k H → va_S (fun q : Nat => s.heap.size ≤ q) s.heap H locs → lv_has ls 8 [(0, .ref b), (1, .ref ax), (2, .ref (ar 0)), (3, .ref au), (4, .int (nI (6 * k)))] → W p l e room_1 s m #[Value.ref b] below meth c H locs (Kc + k) (Ks + 6 * k) Q (F0 m 23 ls []) := by
  obtain ⟨hx, hb, hml, hown, hts, hX, hbl, hk, hE0, hN, hl9, hL3⟩ := id C0
  have hbA : ¬ (fun q : Nat => s.heap.size ≤ q) b := Nat.not_le.mpr hbl
  intro N
  induction N with
  | zero => exact fun k h1 h2 => absurd h2 (by omega)
  | succ N ih =>
    intro k h1 h2 H locs ls hI hS hl
    refine lv_iload hx hb dL_law_23 (lv_at hl 4 rfl) ?_
    refine lv_aload_n hx hb dL_law_25 rfl (lv_at hl 0 rfl) ?_
    refine va_slen hx hb hX hbl hbA hS dL_law_26 ?_
    refine lv_bipush (v := nI 6) hx hb dL_law_27 (by decide) ?_
    refine lv_isub hx hb dL_law_29 ?_
    have e6 : (Int32.ofNat L - nI 6).toInt = (L : Int) - 6 := pk_sub_toInt (a := L) (b := 6) (by omega) (by decide)
    have ek : (nI (6 * k)).toInt = ((6 * k : Nat) : Int) := ob_ti (by omega)
    refine lv_icmp_gt (tgt := 1421) hx hb dL_law_30 (by decide) (fun _ => ?_) (fun c30 => ?_)
    · exact ex H locs ls _ _ hS (by omega) (by omega)
    · have hk6 : 6 * k + 6 ≤ L := by
        rw [ob_lti, e6, ek] at c30
        omega
      have nx : ∀ (H : Heap) (locs : List Loc) (ls : Array Slot), ob_St D t ax ao al am ac ar au (k + 1) H → va_S (fun q : Nat => s.heap.size ≤ q) s.heap H locs → lv_has ls 8 [(0, .ref b), (1, .ref ax), (2, .ref (ar 0)), (3, .ref au), (4, .int (nI (6 * k)))] → W p l e room_1 s m #[Value.ref b] below meth c H locs (Kc + k + 1) (Ks + 6 * k + 6) Q (F0 m 1415 ls []) := fun H locs ls hI hS hl => by
        refine lv_iinc (v := nI (6 * (k + 1))) (lv' := [(4, .int (nI (6 * (k + 1)))), (0, .ref b), (1, .ref ax), (2, .ref (ar 0)), (3, .ref au)]) hx hb dL_law_1415 hl (k := 4) rfl (nI_add (6 * k) 6) (by decide) rfl (fun ls hl => ?_)
        refine lv_goto (tgt := 23) hx hb dL_law_1418 (by decide) ?_
        refine W.widen (k := Kc + (k + 1)) (n := Ks + 6 * (k + 1)) (by omega) (by omega) ?_
        exact ih (k + 1) (by omega) (by omega) H locs ls hI hS (lv_sub hl [1, 2, 3, 4, 0] rfl)
      refine lv_aload_n hx hb dL_law_33 rfl (lv_at hl 0 rfl) ?_
      refine lv_iload hx hb dL_law_34 (lv_at hl 4 rfl) ?_
      refine va_sld hx hb hX hbl hbA hS (vp_in_nI (show 6 * k < L by omega) (by omega)) dL_law_36 ?_
      refine lv_bipush (v := nI 31) hx hb dL_law_37 (by decide) ?_
      refine lv_iand hx hb dL_law_39 ?_
      generalize (xs (nI (6 * k)).toNatClampNeg &&& nI 31) = y
      by_cases ho : y.toInt < 0 ∨ 20 < y.toInt
      · refine lv_tableOut (tgt := 1415) hx hb dL_law_40 ho (by decide) ?_
        refine W.widen (k := Kc + k + 1) (n := Ks + 6 * k + 6) (by omega) (by omega) ?_
        exact nx H locs ls (ob_St_s hI) hS hl
      · obtain ⟨j, hj, ej⟩ : ∃ j : Nat, j ≤ 20 ∧ y.toInt = (j : Int) := ⟨y.toInt.toNat, by omega, by omega⟩
        have y1 : ¬ y.toInt < 0 := by omega
        have y2 : ¬ 20 < y.toInt := by omega
        match j, hj, ej with
        | 0, _, ej => exact lv_tableIn (off := 100) (tgt := 140) hx hb dL_law_40 y1 y2 (by rw [ej]; rfl) (by decide) (ob_jmark C0 hD0 hk6 (by omega) (by omega) nx hI hS hl)
        | 1, _, ej => exact lv_tableIn (off := 184) (tgt := 224) hx hb dL_law_40 y1 y2 (by rw [ej]; rfl) (by decide) (ob_jgreatest C0 hD0 hk6 (by omega) (by omega) nx hI hS hl)
        | 2, _, ej => exact lv_tableIn (off := 252) (tgt := 292) hx hb dL_law_40 y1 y2 (by rw [ej]; rfl) (by decide) (ob_jwrite C0 hD0 hk6 (by omega) (by omega) nx hI hS hl)
        | 3, _, ej => exact lv_tableIn (off := 360) (tgt := 400) hx hb dL_law_40 y1 y2 (by rw [ej]; rfl) (by decide) (ob_jlines C0 hD0 hk6 (by omega) (by omega) nx hI hS hl)
        | 4, _, ej => exact lv_tableIn (off := 373) (tgt := 413) hx hb dL_law_40 y1 y2 (by rw [ej]; rfl) (by decide) (ob_jmustComeBefore C0 hD0 hk6 (by omega) (by omega) nx hI hS hl)
        | 5, _, ej => exact lv_tableIn (off := 448) (tgt := 488) hx hb dL_law_40 y1 y2 (by rw [ej]; rfl) (by decide) (ob_jlineAt C0 hD0 hk6 (by omega) (by omega) nx hI hS hl)
        | 6, _, ej => exact lv_tableIn (off := 504) (tgt := 544) hx hb dL_law_40 y1 y2 (by rw [ej]; rfl) (by decide) (ob_jorders C0 hD0 hk6 (by omega) (by omega) nx hI hS hl)
        | 7, _, ej => exact lv_tableIn (off := 547) (tgt := 587) hx hb dL_law_40 y1 y2 (by rw [ej]; rfl) (by decide) (ob_jargue C0 hD0 hk6 (by omega) (by omega) nx hI hS hl)
        | 8, _, ej => exact lv_tableIn (off := 643) (tgt := 683) hx hb dL_law_40 y1 y2 (by rw [ej]; rfl) (by decide) (ob_jisDoubtful C0 hD0 hk6 (by omega) (by omega) nx hI hS hl)
        | 9, _, ej => exact lv_tableIn (off := 706) (tgt := 746) hx hb dL_law_40 y1 y2 (by rw [ej]; rfl) (by decide) (ob_jstory C0 hD0 hk6 (by omega) (by omega) nx hI hS hl)
        | 10, _, ej => exact lv_tableIn (off := 719) (tgt := 759) hx hb dL_law_40 y1 y2 (by rw [ej]; rfl) (by decide) (ob_jstoryAt C0 hD0 hk6 (by omega) (by omega) nx hI hS hl)
        | 11, _, ej => exact lv_tableIn (off := 775) (tgt := 815) hx hb dL_law_40 y1 y2 (by rw [ej]; rfl) (by decide) (ob_jearliest C0 hD0 hk6 (by omega) (by omega) nx hI hS hl)
        | 12, _, ej => exact lv_tableIn (off := 831) (tgt := 871) hx hb dL_law_40 y1 y2 (by rw [ej]; rfl) (by decide) (ob_jfirstOf C0 hD0 hk6 (by omega) (by omega) nx hI hS hl)
        | 13, _, ej => exact lv_tableIn (off := 887) (tgt := 927) hx hb dL_law_40 y1 y2 (by rw [ej]; rfl) (by decide) (ob_jmeasure C0 hD0 hk6 (by omega) (by omega) nx hI hS hl)
        | 14, _, ej => exact lv_tableIn (off := 979) (tgt := 1019) hx hb dL_law_40 y1 y2 (by rw [ej]; rfl) (by decide) (ob_jimpact C0 hD0 hk6 (by omega) (by omega) nx hI hS hl)
        | 15, _, ej => exact lv_tableIn (off := 1035) (tgt := 1075) hx hb dL_law_40 y1 y2 (by rw [ej]; rfl) (by decide) (ob_jminutes C0 hD0 hk6 (by omega) (by omega) nx hI hS hl)
        | 16, _, ej => exact lv_tableIn (off := 1048) (tgt := 1088) hx hb dL_law_40 y1 y2 (by rw [ej]; rfl) (by decide) (ob_jaddCause C0 hD0 hk6 (by omega) (by omega) nx hI hS hl)
        | 17, _, ej => exact lv_tableIn (off := 1092) (tgt := 1132) hx hb dL_law_40 y1 y2 (by rw [ej]; rfl) (by decide) (ob_jargueReason C0 hD0 hk6 (by omega) (by omega) nx hI hS hl)
        | 18, _, ej => exact lv_tableIn (off := 1172) (tgt := 1212) hx hb dL_law_40 y1 y2 (by rw [ej]; rfl) (by decide) (ob_jsetStanding C0 hD0 hk6 (by omega) (by omega) nx hI hS hl)
        | 19, _, ej => exact lv_tableIn (off := 1263) (tgt := 1303) hx hb dL_law_40 y1 y2 (by rw [ej]; rfl) (by decide) (ob_jroots C0 hD0 hk6 (by omega) (by omega) nx hI hS hl)
        | 20, _, ej => exact lv_tableIn (off := 1319) (tgt := 1359) hx hb dL_law_40 y1 y2 (by rw [ej]; rfl) (by decide) (ob_jmainReason C0 hD0 hk6 (by omega) (by omega) nx hI hS hl)
        | j + 21, hj, _ => exact absurd hj (by omega)
theorem ob_M0 : ∀ a b, a ≤ 4 → b ≤ 4 → ob_iO (fun _ _ => 0) 5 a b = if a = b then 0 else 1000000 := by
  have h : ∀ a b : Fin 5, ob_iO (fun _ _ => 0) 5 a.val b.val = if a.val = b.val then 0 else 1000000 := by decide +kernel
  exact fun a b ha hb => h ⟨a, by omega⟩ ⟨b, by omega⟩
theorem ob_KM0 : ob_KM (ob_iO (fun _ _ => 0) 5) := by
  have e : ∀ a b, a ≤ 4 → b ≤ 4 → ob_mI (ob_iO (fun _ _ => 0) 5) a b = if a = b then 0 else 1000000 := fun a b ha hb => by
    show (ob_iO (fun _ _ => 0) 5 a b).toInt = _
    rw [ob_M0 a b ha hb]
    split <;> rfl
  refine ⟨⟨fun a ha => by rw [e a a ha ha, if_pos rfl], fun a b ha hb => ?_, fun a b ha hb f => ?_, fun a b c ha hb hc f1 f2 => ?_⟩, fun a b ha hb f => ?_, fun a b ha hb f => ?_⟩
  · rw [e a b ha hb]; split <;> omega
  · rw [e a b ha hb] at f ⊢
    split at f
    · rename_i q; rw [if_pos q]; omega
    · omega
  · rw [e a b ha hb] at f1 ⊢
    rw [e b c hb hc] at f2 ⊢
    rw [e a c ha hc]
    by_cases q1 : a = b
    · by_cases q2 : b = c
      · rw [if_pos q1, if_pos q2, if_pos (q1.trans q2)]; omega
      · rw [if_neg q2] at f2; omega
    · rw [if_neg q1] at f1; omega
  · rw [e a b ha hb] at f
    rw [e b a hb ha]
    by_cases q : a = b
    · rw [if_pos q.symm]; omega
    · rw [if_neg q] at f; omega
  · rw [e a b ha hb] at f ⊢
    by_cases q : a = b
    · rw [if_pos q]
      have := ob_ct_lt (n := 5) (j := a) (p := fun _ => false) (q := fun c => decide (ob_mI (ob_iO (fun _ _ => 0) 5) a c < 1000000)) (fun k _ h => by cases h) (by omega) rfl (by simp only [e a a ha ha, if_true]; decide)
      omega
    · rw [if_neg q] at f; omega
theorem ob_B0 : ∀ a b, a ≤ 4 → b ≤ 4 → ob_iO (fun _ _ => 0) 5 a b = (ob_fl ob_bd0 (fun _ => 0) 25) (5 * a + b) := by
  have h : ∀ a b : Fin 5, ob_iO (fun _ _ => 0) 5 a.val b.val = (ob_fl ob_bd0 (fun _ => 0) 25) (5 * a.val + b.val) := by decide +kernel
  exact fun a b ha hb => h ⟨a, by omega⟩ ⟨b, by omega⟩
theorem ob_IL0 : ob_IL 0 (ob_iO (fun _ _ => 0) 5) (ob_fl ob_bd0 (fun _ => 0) 25) 0 (fun _ => 0) (fun _ => 0) (fun _ => 0) (fun _ => 0) (fun _ => 0) (fun _ => 0) (fun _ => 0) 0 (fun _ => 0) (fun _ => 0) (fun _ => 0) (fun _ => 0) (fun _ => 0) (fun _ => 0) :=
  ⟨rfl, rfl, rfl, rfl, rfl, Nat.zero_le _, ob_KM0, ob_B0, fun _ => ⟨rfl, Nat.zero_le _⟩, fun _ => ⟨0, Nat.zero_le _, rfl⟩, fun _ => ⟨0, 0, Nat.le_refl _, Nat.le_refl _, rfl, rfl, (show (0 : Int32) = 0 - 0 by decide)⟩, fun j hj => absurd hj (Nat.not_lt_zero _), fun j hj => absurd hj (Nat.not_lt_zero _)⟩
theorem ob_IM0 : ob_IM 0 (fun _ => 0) (fun _ => 0) (fun _ => 0) (fun _ => 0) 0 (fun _ => 0) (fun _ => 0) (fun _ => 0) (fun _ => 0) := ⟨rfl, rfl, rfl, rfl, rfl, Nat.zero_le _, fun j hj => absurd hj (Nat.not_lt_zero _)⟩
theorem ob_IC0 : ob_IC 0 (nI 0) (fun _ _ => 0) 0 (fun _ => 0) (fun _ => 0) := ⟨rfl, Nat.zero_le _, fun _ _ _ _ => rfl, fun _ _ _ _ _ => rfl, fun _ => rfl, fun l hl => absurd hl (Nat.not_lt_zero _)⟩
