theorem ob_dXCHV {ax : Nat} {ao : Nat → Nat} {al : Nat → Nat} {am : Nat → Nat} {ac : Nat → Nat} {t : Nat → ClassId} {cn : Nat} {st : Int32} {Wt : Nat → Nat → Int32} {xh : Nat} {fh : Nat → Int32} {xm : Nat} {fm : Nat → Int32} {cn' : Nat} {st' : Int32} {Wt' : Nat → Nat → Int32} {fh' : Nat → Int32} {fm' : Nat → Int32} {A : Nat → Prop} (h : va_D A (ob_wX ax ao al am ac ++ ob_wC t ac cn st Wt ++ ob_wH t xh fh ++ ob_wV t xm fm)) : va_D A (ob_wX ax ao al am ac ++ ob_wC t ac cn' st' Wt' ++ ob_wH t xh fh' ++ ob_wV t xm fm') := ob_ds h rfl
-- ===== a reason more
theorem ob_rzz {cn a r w : Nat} {R b : Bool} {z : Nat} (hcn : cn ≤ 8) (h1 : a < cn) (h2 : r < cn) (h12 : a ≠ r) (h3 : w ≤ 100) (hR : R = b) (hz : (if b = true then 3 else 0) = z) : ob_z4 (ob_hd cn (nI a) && ob_hd cn (nI r)) (!decide (nI a = nI r) && ob_wi (nI w) (nI 0) (nI 100)) R = z := by
  have hne : ¬ nI a = nI r := fun y => h12 ((nI_eq (ob_nlt (by omega)) (ob_nlt (by omega))).mp y)
  rw [ob_hd_nI h1 (by omega), ob_hd_nI h2 (by omega), ob_wi_nI h3 (by decide), decide_eq_false hne, hR, ← hz]
  cases b <;> rfl
section
variable {cn a r w : Nat} {Wt : Nat → Nat → Int32} {fh : Nat → Int32}
theorem ob_Jr_1 (hcn : cn ≤ 8) (hh : ∀ i j, i < 8 → j < 8 → fh (8 * i + j) = Wt i j) (hz : ∀ i j, cn ≤ i ∨ cn ≤ j → Wt i j = nI 0) (h1 : a < cn) (h2 : r < cn) : ob_Jr cn Wt (upd fh (8 * a + r) (Wt a r)) := by
  refine ⟨hcn, fun i j hi hj => ?_, hz⟩
  by_cases c : 8 * i + j = 8 * a + r
  · have e1 : i = a := by omega
    have e2 : j = r := by omega
    subst e1
    subst e2
    exact pk_us
  · rw [pk_un c]
    exact hh i j hi hj
theorem ob_Jr_2 {W9 : Nat → Nat → Int32} (hcn : cn ≤ 8) (hh : ∀ i j, i < 8 → j < 8 → fh (8 * i + j) = Wt i j) (hz : ∀ i j, cn ≤ i ∨ cn ≤ j → Wt i j = nI 0) (h1 : a < cn) (h2 : r < cn) (e : W9 = ob_up2 Wt (nI a).toNatClampNeg (nI r).toNatClampNeg (nI w)) : ob_Jr cn W9 (upd fh (8 * a + r) (nI w)) := by
  rw [ob_cl (by omega), ob_cl (by omega)] at e
  subst e
  refine ⟨hcn, fun i j hi hj => ?_, fun i j hij => ?_⟩
  · by_cases c : i = a
    · subst c
      rw [ob_up2_s]
      by_cases d : j = r
      · subst d
        rw [pk_us, pk_us]
      · rw [pk_un (by omega), pk_un d]
        exact hh i j hi hj
    · rw [ob_up2_n c, pk_un (by omega)]
      exact hh i j hi hj
  · by_cases c : i = a
    · subst c
      rw [ob_up2_s, pk_un (by omega)]
      exact hz i j hij
    · rw [ob_up2_n c]
      exact hz i j hij
end
set_option maxRecDepth 100000 in
set_option maxHeartbeats 16000000 in
theorem c_L_isReasoned (l : Launch) (hl9 : l.stackTraces = false) (sa : Nat → Nat) (D : va_G) (t : Nat → ClassId) (sz : Nat) (ax : Nat) (ao al am ac : Nat → Nat) (cn : Nat) (st : Int32) (Wt : Nat → Nat → Int32) (xh xm : Nat) (fh fm : Nat → Int32) (cA cR wT : Nat) (hcn : cn ≤ 8) (hh : ∀ i j, i < 8 → j < 8 → fh (8 * i + j) = Wt i j) (hz0 : ∀ i j, cn ≤ i ∨ cn ≤ j → Wt i j = nI 0) (h1 : cA < cn) (h2 : cR < cn) (h12 : cA ≠ cR) (h3 : wT ≤ 100) : Met l yL_isReasoned wsL_isReasoned ({ frames := 8, cells := 1, slots := 6, locals := 161 } : Room) (ob_PY D t (ob_wX ax ao al am ac ++ ob_wC t ac cn st Wt ++ ob_wH t xh fh ++ ob_wV t xm fm) sz sa [.ref ax, .ref xh, .ref xm, .int (nI cA), .int (nI cR), .int (nI wT)]) (va_Qi (fun (r : Int32) (_ : Unit) => r = nI 1) (fun (_ : Unit) (t9 : State) => ∃ (Wt' : Nat → Nat → Int32) (fh' : Nat → Int32), va_P D vwCl (ob_wX ax ao al am ac ++ ob_wC t ac cn st Wt' ++ ob_wH t xh fh' ++ ob_wV t xm fm) t9.heap ∧ ob_Jr cn Wt' fh') (va_A (ob_wX ax ao al am ac ++ ob_wC t ac cn st Wt ++ ob_wH t xh fh ++ ob_wV t xm fm) sz)) 1 6 (va_A (ob_wX ax ao al am ac ++ ob_wC t ac cn st Wt ++ ob_wH t xh fh ++ ob_wV t xm fm) sz) := by
  refine Met.ofW (cc := cL_isReasoned) (maxL := 10) (ret := (some .boolean)) (by decide) rfl ?_
  intro p e s m args below meth c s₁ B hml hv
  obtain ⟨rfl, hsz, hP, hk, hD0, hE0, hN⟩ := hv
  have hx := B.exec
  have hb := B.bytes
  have hr := B.returns
  have hts := atoms_spec (ws := wsL_isReasoned) B.pre
  have hown : s.vm.findClass RL = some m.cls := findClass_of_methodNamed B.named
  have hlocks := B.notSynchronized
  have hK := hk.1
  have hD : va_D (va_A (ob_wX ax ao al am ac ++ ob_wC t ac cn st Wt ++ ob_wH t xh fh ++ ob_wV t xm fm) sz) (ob_wX ax ao al am ac ++ ob_wC t ac cn st Wt ++ ob_wH t xh fh ++ ob_wV t xm fm) := hD0.self (sz := sz)
  have hA : ∀ q : Nat, s.heap.size ≤ q → (va_A (ob_wX ax ao al am ac ++ ob_wC t ac cn st Wt ++ ob_wH t xh fh ++ ob_wV t xm fm) sz) q := fun q h => Or.inr (hsz ▸ h)
  have hS : va_S (va_A (ob_wX ax ao al am ac ++ ob_wC t ac cn st Wt ++ ob_wH t xh fh ++ ob_wV t xm fm) sz) s.heap s.heap [] := va_S.rf
  have hl := lv_entry [.ref ax, .ref xh, .ref xm, .int (nI cA), .int (nI cR), .int (nI wT)] (n := 10) (Nat.le_of_ble_eq_true rfl)
  rw [lg_entry_eq]
  generalize (lg_sl [.ref ax, .ref xh, .ref xm, .int (nI cA), .int (nI cR), .int (nI wT)] ++ List.replicate (10 - (lg_sl [.ref ax, .ref xh, .ref xm, .int (nI cA), .int (nI cR), .int (nI wT)]).length) Slot.unset).toArray = ls at hl ⊢
  have hl : lv_has ls 10 [(0, .ref ax), (1, .ref xh), (2, .ref xm), (3, .int (nI cA)), (4, .int (nI cR)), (5, .int (nI wT))] := hl
  have hP : va_P D vwCl (ob_wX ax ao al am ac ++ ob_wC t ac cn st Wt ++ ob_wH t xh fh ++ ob_wV t xm fm) s.heap := hP
  refine lv_iconst (v := nI 1) hx hb dL_isReasoned_0 (by decide) ?_
  refine lv_iload hx hb dL_isReasoned_1 (lv_at hl 4 rfl) ?_
  refine lv_ishl hx hb dL_isReasoned_3 ?_
  rw [show (nI 1) <<< ((nI cR) &&& 31) = ob_q8 fh cR 0 from rfl]
  refine lv_istore (lv' := [(6, .int (ob_q8 fh cR 0)), (0, .ref ax), (1, .ref xh), (2, .ref xm), (3, .int (nI cA)), (4, .int (nI cR)), (5, .int (nI wT))]) hx hb dL_isReasoned_4 hl (by decide) rfl (fun ls hl => ?_)
  refine lv_iconst (v := nI 0) hx hb dL_isReasoned_6 (by decide) ?_
  refine lv_istore (lv' := [(7, .int (nI 0)), (6, .int (ob_q8 fh cR 0)), (0, .ref ax), (1, .ref xh), (2, .ref xm), (3, .int (nI cA)), (4, .int (nI cR)), (5, .int (nI wT))]) hx hb dL_isReasoned_7 hl (by decide) rfl (fun ls hl => ?_)
  have k9 : ∀ fu : Nat, ∀ (r : Nat), 8 - r < fu → (r ≤ 8) → ∀ ls : Array Slot, lv_has ls 10 [(0, .ref ax), (1, .ref xh), (2, .ref xm), (3, .int (nI cA)), (4, .int (nI cR)), (5, .int (nI wT)), (6, .int (ob_q8 fh cR r)), (7, .int (nI r))] → W p l e (headSpec wsL_isReasoned ({ frames := 8, cells := 1, slots := 6, locals := 161 } : Room)).room s m ([.ref ax, .ref xh, .ref xm, .int (nI cA), .int (nI cR), .int (nI wT)] : List Value).toArray below meth c s.heap [] 0 0 (MQ below (va_Qi (fun (r : Int32) (_ : Unit) => r = nI 1) (fun (_ : Unit) (t9 : State) => ∃ (Wt' : Nat → Nat → Int32) (fh' : Nat → Int32), va_P D vwCl (ob_wX ax ao al am ac ++ ob_wC t ac cn st Wt' ++ ob_wH t xh fh' ++ ob_wV t xm fm) t9.heap ∧ ob_Jr cn Wt' fh') (va_A (ob_wX ax ao al am ac ++ ob_wC t ac cn st Wt ++ ob_wH t xh fh ++ ob_wV t xm fm) sz)) ([.ref ax, .ref xh, .ref xm, .int (nI cA), .int (nI cR), .int (nI wT)] : List Value).toArray s 1 6 (va_A (ob_wX ax ao al am ac ++ ob_wC t ac cn st Wt ++ ob_wH t xh fh ++ ob_wV t xm fm) sz)) (F0 m 9 ls []) := by
    intro fu
    induction fu with
    | zero => intro r hfu; exact absurd hfu (Nat.not_lt_zero _)
    | succ fu ih =>
      intro r hfu hr9 ls hl
      have ih9 := ih
      refine lv_iload hx hb dL_isReasoned_9 (lv_at hl 7 rfl) ?_
      refine lv_bipush (v := nI 8) hx hb dL_isReasoned_11 (by decide) ?_
      refine ob_icmp_ge (tgt := 75) hx hb (by omega) (by omega) dL_isReasoned_13 (by decide) (fun c13 => ?_) (fun c13 => ?_)
      · obtain rfl : r = 8 := by omega
        refine lv_iload hx hb dL_isReasoned_75 (lv_at hl 5 rfl) ?_
        have k94 : (((!decide (nI wT ≤ 0)) && ob_hb (ob_rcO Wt cn (ob_bit (nI cn) - nI 1) (nI cR) cn) (nI cA)) = false) → ∀ ls : Array Slot, lv_has ls 10 [(0, .ref ax), (1, .ref xh), (2, .ref xm), (3, .int (nI cA)), (4, .int (nI cR)), (5, .int (nI wT)), (6, .int (ob_q8 fh cR 8))] → W p l e (headSpec wsL_isReasoned ({ frames := 8, cells := 1, slots := 6, locals := 161 } : Room)).room s m ([.ref ax, .ref xh, .ref xm, .int (nI cA), .int (nI cR), .int (nI wT)] : List Value).toArray below meth c s.heap [] 0 0 (MQ below (va_Qi (fun (r : Int32) (_ : Unit) => r = nI 1) (fun (_ : Unit) (t9 : State) => ∃ (Wt' : Nat → Nat → Int32) (fh' : Nat → Int32), va_P D vwCl (ob_wX ax ao al am ac ++ ob_wC t ac cn st Wt' ++ ob_wH t xh fh' ++ ob_wV t xm fm) t9.heap ∧ ob_Jr cn Wt' fh') (va_A (ob_wX ax ao al am ac ++ ob_wC t ac cn st Wt ++ ob_wH t xh fh ++ ob_wV t xm fm) sz)) ([.ref ax, .ref xh, .ref xm, .int (nI cA), .int (nI cR), .int (nI wT)] : List Value).toArray s 1 6 (va_A (ob_wX ax ao al am ac ++ ob_wC t ac cn st Wt ++ ob_wH t xh fh ++ ob_wV t xm fm) sz)) (F0 m 94 ls []) := by
          intro  hno ls hl
          refine lv_iconst (v := nI 0) hx hb dL_isReasoned_94 (by decide) ?_
          refine lv_istore (lv' := [(7, .int (nI 0)), (0, .ref ax), (1, .ref xh), (2, .ref xm), (3, .int (nI cA)), (4, .int (nI cR)), (5, .int (nI wT)), (6, .int (ob_q8 fh cR 8))]) hx hb dL_isReasoned_95 hl (by decide) rfl (fun ls hl => ?_)
          refine lv_aload_n hx hb dL_isReasoned_97 rfl (lv_at hl 2 rfl) ?_
          refine lv_bipush (v := nI 8) hx hb dL_isReasoned_98 (by decide) ?_
          refine lv_iload_n hx hb dL_isReasoned_100 rfl (lv_at hl 4 rfl) ?_
          refine lv_imul hx hb dL_isReasoned_101 ?_
          rw [show (nI 8) * (nI cA) = nI (8 * cA) from pk_mul _ _]
          refine lv_iload hx hb dL_isReasoned_102 (lv_at hl 5 rfl) ?_
          refine lv_iadd hx hb dL_isReasoned_104 ?_
          rw [show (nI (8 * cA)) + (nI cR) = nI ((8 * cA) + cR) from nI_add _ _]
          refine ob_iald hx hb hK hP 19 0 rfl rfl (by omega) (by decide) dL_isReasoned_105 ?_
          rw [show fh ((8 * cA) + cR) = Wt cA cR from (hh cA cR (by omega) (by omega))]
          refine lv_istore (lv' := [(8, .int (Wt cA cR)), (7, .int (nI 0)), (0, .ref ax), (1, .ref xh), (2, .ref xm), (3, .int (nI cA)), (4, .int (nI cR)), (5, .int (nI wT)), (6, .int (ob_q8 fh cR 8))]) hx hb dL_isReasoned_106 hl (by decide) rfl (fun ls hl => ?_)
          refine lv_aload_n hx hb dL_isReasoned_108 rfl (lv_at hl 2 rfl) ?_
          refine lv_iconst (v := nI 1) hx hb dL_isReasoned_109 (by decide) ?_
          refine lv_iload_n hx hb dL_isReasoned_110 rfl (lv_at hl 5 rfl) ?_
          refine lv_iload hx hb dL_isReasoned_111 (lv_at hl 6 rfl) ?_
          refine lv_iload hx hb dL_isReasoned_113 (lv_at hl 7 rfl) ?_
          have hFc := va_free (wc := ob_wX ax ao al am ac ++ ob_wC t ac cn st Wt) hD hS hA [0, 1, 2, 3, 4, 5, 6, 7, 8, 9, 10, 11, 12, 13, 14, 15, 16, 17, 18] rfl
          refine va_calli (ob_runN (vx_runSX (As := [.ref ax, .int (nI 1), .int (nI cA), .int (nI cR), .int (nI wT)]) (rest := []) ⟨hx, hb, hml, hown, hts⟩ (y_act1_ok l hl9 sa D t s.heap.size ax ao al am ac cn st Wt (nI cA) (nI cR) (nI wT) (by omega) (ob_rzz hcn h1 h2 h12 h3 hno rfl)) (vx_cwSW 5 hts gL_isReasoned_L_act rfl rfl rfl (by decide +kernel) ⟨Nat.le_of_ble_eq_true rfl, Nat.le_of_ble_eq_true rfl⟩) (ob_pYS (hP.sub [0, 1, 2, 3, 4, 5, 6, 7, 8, 9, 10, 11, 12, 13, 14, 15, 16, 17, 18] rfl) (hD.sub [0, 1, 2, 3, 4, 5, 6, 7, 8, 9, 10, 11, 12, 13, 14, 15, 16, 17, 18] (by decide) rfl) hk (ob_exN hE0 hS hFc) hN) rfl rfl hl.1 rfl (lv_room (Nat.le_of_ble_eq_true rfl)) dL_isReasoned_115 ⟨Nat.le_of_ble_eq_true rfl, Nat.le_of_ble_eq_true rfl⟩)) hS (fun q _ h => hFc q h) hFc (fun r9 u9 t9 H1 locs ht hvm hw9 hB hz1 hk1 hS => ?_)
          refine W.widen (k := 1) (n := 6) (Nat.le_of_ble_eq_true rfl) (Nat.le_of_ble_eq_true rfl) ?_
          rw [ht] at hB
          have hP := ob_jn (ws' := ob_wX ax ao al am ac ++ ob_wC t ac cn st (ob_up2 Wt (nI cA).toNatClampNeg (nI cR).toNatClampNeg (nI wT)) ++ ob_wH t xh fh ++ ob_wV t xm fm) hP hD [some 0, some 1, some 2, some 3, some 4, some 5, some 6, some 7, some 8, some 9, some 10, some 11, some 12, some 13, some 14, some 15, some 16, some 17, some 18, none, none] [0, 1, 2, 3, 4, 5, 6, 7, 8, 9, 10, 11, 12, 13, 14, 15, 16, 17, 18] rfl rfl hk1 hB rfl
          obtain ⟨W9, eW9⟩ : ∃ z, z = ob_up2 Wt (nI cA).toNatClampNeg (nI cR).toNatClampNeg (nI wT) := ⟨_, rfl⟩
          rw [← eW9] at hP
          have hP : va_P D vwCl (ob_wX ax ao al am ac ++ ob_wC t ac cn st W9 ++ ob_wH t xh fh ++ ob_wV t xm fm) H1 := hP
          have hD : va_D (va_A (ob_wX ax ao al am ac ++ ob_wC t ac cn st Wt ++ ob_wH t xh fh ++ ob_wV t xm fm) sz) (ob_wX ax ao al am ac ++ ob_wC t ac cn st W9 ++ ob_wH t xh fh ++ ob_wV t xm fm) := ob_dXCHV hD
          generalize H1 = H at hP hS ⊢
          subst hw9
          rw [show (Wt (nI cA).toNatClampNeg (nI cR).toNatClampNeg) = (Wt cA cR) from (by rw [ob_cl (by omega), ob_cl (by omega)])]
          refine lv_istore (lv' := [(9, .int (Wt cA cR)), (8, .int (Wt cA cR)), (7, .int (nI 0)), (0, .ref ax), (1, .ref xh), (2, .ref xm), (3, .int (nI cA)), (4, .int (nI cR)), (5, .int (nI wT)), (6, .int (ob_q8 fh cR 8))]) hx hb dL_isReasoned_118 hl (by decide) rfl (fun ls hl => ?_)
          refine lv_aload_n hx hb dL_isReasoned_120 rfl (lv_at hl 4 rfl) ?_
          refine lv_bipush (v := nI 8) hx hb dL_isReasoned_121 (by decide) ?_
          refine lv_iload_n hx hb dL_isReasoned_123 rfl (lv_at hl 6 rfl) ?_
          refine lv_imul hx hb dL_isReasoned_124 ?_
          rw [show (nI 8) * (nI cA) = nI (8 * cA) from pk_mul _ _]
          refine lv_iload hx hb dL_isReasoned_125 (lv_at hl 7 rfl) ?_
          refine lv_iadd hx hb dL_isReasoned_127 ?_
          rw [show (nI (8 * cA)) + (nI cR) = nI ((8 * cA) + cR) from nI_add _ _]
          refine lv_iload hx hb dL_isReasoned_128 (lv_at hl 2 rfl) ?_
          refine lv_if_eq (tgt := 138) hx hb dL_isReasoned_130 (by decide) (fun _ => ?_) (fun c9 => absurd c9 (by decide))
          refine lv_iload hx hb dL_isReasoned_138 (lv_at hl 8 rfl) ?_
          refine ob_iast hx hb hK hP hD hS 19 0 rfl rfl (by omega) (by decide) dL_isReasoned_140 (fun H locs hP hD hS => ?_)
          have hP : va_P D vwCl (ob_wX ax ao al am ac ++ ob_wC t ac cn st W9 ++ ob_wH t xh (upd fh ((8 * cA) + cR) (nI wT)) ++ ob_wV t xm fm) H := hP
          have hD : va_D (va_A (ob_wX ax ao al am ac ++ ob_wC t ac cn st Wt ++ ob_wH t xh fh ++ ob_wV t xm fm) sz) (ob_wX ax ao al am ac ++ ob_wC t ac cn st W9 ++ ob_wH t xh (upd fh ((8 * cA) + cR) (nI wT)) ++ ob_wV t xm fm) := hD
          refine lv_iload hx hb dL_isReasoned_141 (lv_at hl 0 rfl) ?_
          refine lv_iload hx hb dL_isReasoned_143 (lv_at hl 2 rfl) ?_
          refine lv_if_eq (tgt := 153) hx hb dL_isReasoned_145 (by decide) (fun _ => ?_) (fun c9 => absurd c9 (by decide))
          refine lv_iload hx hb dL_isReasoned_153 (lv_at hl 1 rfl) ?_
          refine lv_icmp_ne (tgt := 162) hx hb dL_isReasoned_155 (by decide) (fun c155 => ?_) (fun c155 => ?_)
          · exact absurd rfl c155
          · refine lv_iconst (v := nI 1) hx hb dL_isReasoned_158 (by decide) ?_
            refine lv_goto (tgt := 163) hx hb dL_isReasoned_159 (by decide) ?_
            refine W.widen (k := 1) (n := 6) (Nat.le_of_ble_eq_true rfl) (Nat.le_of_ble_eq_true rfl) ?_
            exact W.zret (v := nI 1) hx hb hr rfl (fun t9 ht hW => ⟨⟨nI 1, (), rfl, rfl, ⟨W9, _, ob_th ht hP, ob_Jr_2 hcn hh hz0 h1 h2 eW9⟩⟩, hS.F ht⟩) hS.2.2 dL_isReasoned_163
        have k90 : (((!decide (nI wT ≤ 0)) && ob_hb (ob_rcO Wt cn (ob_bit (nI cn) - nI 1) (nI cR) cn) (nI cA)) = true) → ∀ ls : Array Slot, lv_has ls 10 [(0, .ref ax), (1, .ref xh), (2, .ref xm), (3, .int (nI cA)), (4, .int (nI cR)), (5, .int (nI wT)), (6, .int (ob_q8 fh cR 8))] → W p l e (headSpec wsL_isReasoned ({ frames := 8, cells := 1, slots := 6, locals := 161 } : Room)).room s m ([.ref ax, .ref xh, .ref xm, .int (nI cA), .int (nI cR), .int (nI wT)] : List Value).toArray below meth c s.heap [] 0 0 (MQ below (va_Qi (fun (r : Int32) (_ : Unit) => r = nI 1) (fun (_ : Unit) (t9 : State) => ∃ (Wt' : Nat → Nat → Int32) (fh' : Nat → Int32), va_P D vwCl (ob_wX ax ao al am ac ++ ob_wC t ac cn st Wt' ++ ob_wH t xh fh' ++ ob_wV t xm fm) t9.heap ∧ ob_Jr cn Wt' fh') (va_A (ob_wX ax ao al am ac ++ ob_wC t ac cn st Wt ++ ob_wH t xh fh ++ ob_wV t xm fm) sz)) ([.ref ax, .ref xh, .ref xm, .int (nI cA), .int (nI cR), .int (nI wT)] : List Value).toArray s 1 6 (va_A (ob_wX ax ao al am ac ++ ob_wC t ac cn st Wt ++ ob_wH t xh fh ++ ob_wV t xm fm) sz)) (F0 m 90 ls []) := by
          intro  hyes ls hl
          refine lv_iconst (v := nI 1) hx hb dL_isReasoned_90 (by decide) ?_
          refine lv_goto (tgt := 95) hx hb dL_isReasoned_91 (by decide) ?_
          refine lv_istore (lv' := [(7, .int (nI 1)), (0, .ref ax), (1, .ref xh), (2, .ref xm), (3, .int (nI cA)), (4, .int (nI cR)), (5, .int (nI wT)), (6, .int (ob_q8 fh cR 8))]) hx hb dL_isReasoned_95 hl (by decide) rfl (fun ls hl => ?_)
          refine lv_aload_n hx hb dL_isReasoned_97 rfl (lv_at hl 2 rfl) ?_
          refine lv_bipush (v := nI 8) hx hb dL_isReasoned_98 (by decide) ?_
          refine lv_iload_n hx hb dL_isReasoned_100 rfl (lv_at hl 4 rfl) ?_
          refine lv_imul hx hb dL_isReasoned_101 ?_
          rw [show (nI 8) * (nI cA) = nI (8 * cA) from pk_mul _ _]
          refine lv_iload hx hb dL_isReasoned_102 (lv_at hl 5 rfl) ?_
          refine lv_iadd hx hb dL_isReasoned_104 ?_
          rw [show (nI (8 * cA)) + (nI cR) = nI ((8 * cA) + cR) from nI_add _ _]
          refine ob_iald hx hb hK hP 19 0 rfl rfl (by omega) (by decide) dL_isReasoned_105 ?_
          rw [show fh ((8 * cA) + cR) = Wt cA cR from (hh cA cR (by omega) (by omega))]
          refine lv_istore (lv' := [(8, .int (Wt cA cR)), (7, .int (nI 1)), (0, .ref ax), (1, .ref xh), (2, .ref xm), (3, .int (nI cA)), (4, .int (nI cR)), (5, .int (nI wT)), (6, .int (ob_q8 fh cR 8))]) hx hb dL_isReasoned_106 hl (by decide) rfl (fun ls hl => ?_)
          refine lv_aload_n hx hb dL_isReasoned_108 rfl (lv_at hl 2 rfl) ?_
          refine lv_iconst (v := nI 1) hx hb dL_isReasoned_109 (by decide) ?_
          refine lv_iload_n hx hb dL_isReasoned_110 rfl (lv_at hl 5 rfl) ?_
          refine lv_iload hx hb dL_isReasoned_111 (lv_at hl 6 rfl) ?_
          refine lv_iload hx hb dL_isReasoned_113 (lv_at hl 7 rfl) ?_
          have hFc := va_free (wc := ob_wX ax ao al am ac ++ ob_wC t ac cn st Wt) hD hS hA [0, 1, 2, 3, 4, 5, 6, 7, 8, 9, 10, 11, 12, 13, 14, 15, 16, 17, 18] rfl
          refine va_calli (ob_runN (vx_runSX (As := [.ref ax, .int (nI 1), .int (nI cA), .int (nI cR), .int (nI wT)]) (rest := []) ⟨hx, hb, hml, hown, hts⟩ (y_act1_no2 l hl9 sa D t s.heap.size ax ao al am ac cn st Wt (nI cA) (nI cR) (nI wT) (by omega) (ob_rzz hcn h1 h2 h12 h3 hyes rfl)) (vx_cwSW 5 hts gL_isReasoned_L_act rfl rfl rfl (by decide +kernel) ⟨Nat.le_of_ble_eq_true rfl, Nat.le_of_ble_eq_true rfl⟩) (ob_pYS (hP.sub [0, 1, 2, 3, 4, 5, 6, 7, 8, 9, 10, 11, 12, 13, 14, 15, 16, 17, 18] rfl) (hD.sub [0, 1, 2, 3, 4, 5, 6, 7, 8, 9, 10, 11, 12, 13, 14, 15, 16, 17, 18] (by decide) rfl) hk (ob_exN hE0 hS hFc) hN) rfl rfl hl.1 rfl (lv_room (Nat.le_of_ble_eq_true rfl)) dL_isReasoned_115 ⟨Nat.le_of_ble_eq_true rfl, Nat.le_of_ble_eq_true rfl⟩)) hS (fun q _ h => hFc q h) hFc (fun r9 u9 t9 H1 locs ht hvm hw9 hB hz1 hk1 hS => ?_)
          refine W.widen (k := 1) (n := 6) (Nat.le_of_ble_eq_true rfl) (Nat.le_of_ble_eq_true rfl) ?_
          rw [ht] at hB
          have hP := ob_jn (ws' := ob_wX ax ao al am ac ++ ob_wC t ac cn st Wt ++ ob_wH t xh fh ++ ob_wV t xm fm) hP hD [some 0, some 1, some 2, some 3, some 4, some 5, some 6, some 7, some 8, some 9, some 10, some 11, some 12, some 13, some 14, some 15, some 16, some 17, some 18, none, none] [0, 1, 2, 3, 4, 5, 6, 7, 8, 9, 10, 11, 12, 13, 14, 15, 16, 17, 18] rfl rfl hk1 hB rfl
          have hD : va_D (va_A (ob_wX ax ao al am ac ++ ob_wC t ac cn st Wt ++ ob_wH t xh fh ++ ob_wV t xm fm) sz) (ob_wX ax ao al am ac ++ ob_wC t ac cn st Wt ++ ob_wH t xh fh ++ ob_wV t xm fm) := ob_dXCHV hD
          generalize H1 = H at hP hS ⊢
          subst hw9
          refine lv_istore (lv' := [(9, .int (-3000003)), (8, .int (Wt cA cR)), (7, .int (nI 1)), (0, .ref ax), (1, .ref xh), (2, .ref xm), (3, .int (nI cA)), (4, .int (nI cR)), (5, .int (nI wT)), (6, .int (ob_q8 fh cR 8))]) hx hb dL_isReasoned_118 hl (by decide) rfl (fun ls hl => ?_)
          refine lv_aload_n hx hb dL_isReasoned_120 rfl (lv_at hl 4 rfl) ?_
          refine lv_bipush (v := nI 8) hx hb dL_isReasoned_121 (by decide) ?_
          refine lv_iload_n hx hb dL_isReasoned_123 rfl (lv_at hl 6 rfl) ?_
          refine lv_imul hx hb dL_isReasoned_124 ?_
          rw [show (nI 8) * (nI cA) = nI (8 * cA) from pk_mul _ _]
          refine lv_iload hx hb dL_isReasoned_125 (lv_at hl 7 rfl) ?_
          refine lv_iadd hx hb dL_isReasoned_127 ?_
          rw [show (nI (8 * cA)) + (nI cR) = nI ((8 * cA) + cR) from nI_add _ _]
          refine lv_iload hx hb dL_isReasoned_128 (lv_at hl 2 rfl) ?_
          refine lv_if_eq (tgt := 138) hx hb dL_isReasoned_130 (by decide) (fun c9 => absurd c9 (by decide)) (fun _ => ?_)
          refine lv_iload hx hb dL_isReasoned_133 (lv_at hl 1 rfl) ?_
          refine lv_goto (tgt := 140) hx hb dL_isReasoned_135 (by decide) ?_
          refine ob_iast hx hb hK hP hD hS 19 0 rfl rfl (by omega) (by decide) dL_isReasoned_140 (fun H locs hP hD hS => ?_)
          have hP : va_P D vwCl (ob_wX ax ao al am ac ++ ob_wC t ac cn st Wt ++ ob_wH t xh (upd fh ((8 * cA) + cR) (Wt cA cR)) ++ ob_wV t xm fm) H := hP
          have hD : va_D (va_A (ob_wX ax ao al am ac ++ ob_wC t ac cn st Wt ++ ob_wH t xh fh ++ ob_wV t xm fm) sz) (ob_wX ax ao al am ac ++ ob_wC t ac cn st Wt ++ ob_wH t xh (upd fh ((8 * cA) + cR) (Wt cA cR)) ++ ob_wV t xm fm) := hD
          refine lv_iload hx hb dL_isReasoned_141 (lv_at hl 0 rfl) ?_
          refine lv_iload hx hb dL_isReasoned_143 (lv_at hl 2 rfl) ?_
          refine lv_if_eq (tgt := 153) hx hb dL_isReasoned_145 (by decide) (fun c9 => absurd c9 (by decide)) (fun _ => ?_)
          refine lv_ldc (v := -3000003) hx hb hown (hts (Cond.constant RL 20 (-3000003)) (List.mem_of_getElem? (i := 1) rfl)) dL_isReasoned_148 ?_
          refine lv_goto (tgt := 155) hx hb dL_isReasoned_150 (by decide) ?_
          refine lv_icmp_ne (tgt := 162) hx hb dL_isReasoned_155 (by decide) (fun c9 => absurd c9 (by decide)) (fun _ => ?_)
          refine lv_iconst (v := nI 1) hx hb dL_isReasoned_158 (by decide) ?_
          refine lv_goto (tgt := 163) hx hb dL_isReasoned_159 (by decide) ?_
          refine W.widen (k := 1) (n := 6) (Nat.le_of_ble_eq_true rfl) (Nat.le_of_ble_eq_true rfl) ?_
          exact W.zret (v := nI 1) hx hb hr rfl (fun t9 ht hW => ⟨⟨nI 1, (), rfl, rfl, ⟨Wt, _, ob_th ht hP, ob_Jr_1 hcn hh hz0 h1 h2⟩⟩, hS.F ht⟩) hS.2.2 dL_isReasoned_163
        refine ob_nif_le (tgt := 94) hx hb (by omega) dL_isReasoned_77 (by decide) (fun c77 => ?_) (fun c77 => ?_)
        · exact k94  (by first | (rw [c77]; rfl) | rw [← ob_pq hcn hh hz0 h2 h1, c87, Bool.and_false]) _ (lv_sub hl [0, 1, 2, 3, 4, 5, 6] rfl)
        · refine lv_iload hx hb dL_isReasoned_80 (lv_at hl 6 rfl) ?_
          refine lv_iload_n hx hb dL_isReasoned_82 rfl (lv_at hl 3 rfl) ?_
          refine lv_ishr hx hb dL_isReasoned_83 ?_
          refine lv_iconst (v := nI 1) hx hb dL_isReasoned_84 (by decide) ?_
          refine lv_iand hx hb dL_isReasoned_85 ?_
          rw [show ((ob_q8 fh cR 8) >>> ((nI cA) &&& 31)) &&& (nI 1) = ob_bi (ob_hb (ob_q8 fh cR 8) (nI cA)) from (ob_sh1 (by omega))]
          refine lv_iconst (v := nI 1) hx hb dL_isReasoned_86 (by decide) ?_
          refine ob_bcmp_ne (tgt := 94) hx hb dL_isReasoned_87 (by decide) (fun c87 => ?_) (fun c87 => ?_)
          · exact k94  (by first | (rw [c77]; rfl) | rw [← ob_pq hcn hh hz0 h2 h1, c87, Bool.and_false]) _ (lv_sub hl [0, 1, 2, 3, 4, 5, 6] rfl)
          · exact k90  (by rw [← ob_pq hcn hh hz0 h2 h1, c87, decide_eq_false (nI_nle c77 (by omega))]; rfl) _ (lv_sub hl [0, 1, 2, 3, 4, 5, 6] rfl)
      · refine lv_iconst (v := nI 0) hx hb dL_isReasoned_16 (by decide) ?_
        refine lv_istore (lv' := [(8, .int (nI 0)), (0, .ref ax), (1, .ref xh), (2, .ref xm), (3, .int (nI cA)), (4, .int (nI cR)), (5, .int (nI wT)), (6, .int (ob_q8 fh cR r)), (7, .int (nI r))]) hx hb dL_isReasoned_17 hl (by decide) rfl (fun ls hl => ?_)
        have k19 : ∀ fu : Nat, ∀ (k : Nat), 64 - k < fu → (k ≤ 64) → ∀ ls : Array Slot, lv_has ls 10 [(0, .ref ax), (1, .ref xh), (2, .ref xm), (3, .int (nI cA)), (4, .int (nI cR)), (5, .int (nI wT)), (6, .int (ob_q1 fh (ob_q8 fh cR r) k)), (7, .int (nI r)), (8, .int (nI k))] → W p l e (headSpec wsL_isReasoned ({ frames := 8, cells := 1, slots := 6, locals := 161 } : Room)).room s m ([.ref ax, .ref xh, .ref xm, .int (nI cA), .int (nI cR), .int (nI wT)] : List Value).toArray below meth c s.heap [] 0 0 (MQ below (va_Qi (fun (r : Int32) (_ : Unit) => r = nI 1) (fun (_ : Unit) (t9 : State) => ∃ (Wt' : Nat → Nat → Int32) (fh' : Nat → Int32), va_P D vwCl (ob_wX ax ao al am ac ++ ob_wC t ac cn st Wt' ++ ob_wH t xh fh' ++ ob_wV t xm fm) t9.heap ∧ ob_Jr cn Wt' fh') (va_A (ob_wX ax ao al am ac ++ ob_wC t ac cn st Wt ++ ob_wH t xh fh ++ ob_wV t xm fm) sz)) ([.ref ax, .ref xh, .ref xm, .int (nI cA), .int (nI cR), .int (nI wT)] : List Value).toArray s 1 6 (va_A (ob_wX ax ao al am ac ++ ob_wC t ac cn st Wt ++ ob_wH t xh fh ++ ob_wV t xm fm) sz)) (F0 m 19 ls []) := by
          intro fu
          induction fu with
          | zero => intro k hfu; exact absurd hfu (Nat.not_lt_zero _)
          | succ fu ih =>
            intro k hfu hk9 ls hl
            have ih19 := ih
            refine lv_iload hx hb dL_isReasoned_19 (lv_at hl 8 rfl) ?_
            refine lv_bipush (v := nI 64) hx hb dL_isReasoned_21 (by decide) ?_
            refine ob_icmp_ge (tgt := 69) hx hb (by omega) (by omega) dL_isReasoned_23 (by decide) (fun c23 => ?_) (fun c23 => ?_)
            · obtain rfl : k = 64 := by omega
              rw [show ob_q1 fh (ob_q8 fh cR r) 64 = ob_q8 fh cR (r + 1) from rfl] at hl
              refine ob_inc (k := 7) (lv' := [(7, .int (nI (r + 1))), (0, .ref ax), (1, .ref xh), (2, .ref xm), (3, .int (nI cA)), (4, .int (nI cR)), (5, .int (nI wT)), (6, .int (ob_q8 fh cR (r + 1))), (8, .int (nI 64))]) hx hb dL_isReasoned_69 hl rfl (by decide) rfl (fun ls hl => ?_)
              refine lv_goto (tgt := 9) hx hb dL_isReasoned_72 (by decide) ?_
              exact ih9 (r + 1) (by omega) (by omega) _ (lv_sub hl [1, 2, 3, 4, 5, 6, 7, 0] rfl)
            · refine lv_iload hx hb dL_isReasoned_26 (lv_at hl 6 rfl) ?_
              have k60 : ∀ (v : Int32), (v = if (ob_hb (ob_q1 fh (ob_q8 fh cR r) k) (nI (k / 8)) && decide (0 < fh k)) = true then ob_bit (nI (k % 8)) else nI 0) → ∀ ls : Array Slot, lv_has ls 10 [(0, .ref ax), (1, .ref xh), (2, .ref xm), (3, .int (nI cA)), (4, .int (nI cR)), (5, .int (nI wT)), (6, .int (ob_q1 fh (ob_q8 fh cR r) k)), (7, .int (nI r)), (8, .int (nI k))] → W p l e (headSpec wsL_isReasoned ({ frames := 8, cells := 1, slots := 6, locals := 161 } : Room)).room s m ([.ref ax, .ref xh, .ref xm, .int (nI cA), .int (nI cR), .int (nI wT)] : List Value).toArray below meth c s.heap [] 0 0 (MQ below (va_Qi (fun (r : Int32) (_ : Unit) => r = nI 1) (fun (_ : Unit) (t9 : State) => ∃ (Wt' : Nat → Nat → Int32) (fh' : Nat → Int32), va_P D vwCl (ob_wX ax ao al am ac ++ ob_wC t ac cn st Wt' ++ ob_wH t xh fh' ++ ob_wV t xm fm) t9.heap ∧ ob_Jr cn Wt' fh') (va_A (ob_wX ax ao al am ac ++ ob_wC t ac cn st Wt ++ ob_wH t xh fh ++ ob_wV t xm fm) sz)) ([.ref ax, .ref xh, .ref xm, .int (nI cA), .int (nI cR), .int (nI wT)] : List Value).toArray s 1 6 (va_A (ob_wX ax ao al am ac ++ ob_wC t ac cn st Wt ++ ob_wH t xh fh ++ ob_wV t xm fm) sz)) (F0 m 60 ls [.int v, .int (ob_q1 fh (ob_q8 fh cR r) k)]) := by
                intro v hv ls hl
                refine lv_ior hx hb dL_isReasoned_60 ?_
                rw [show (ob_q1 fh (ob_q8 fh cR r) k) ||| v = ob_q1 fh (ob_q8 fh cR r) (k + 1) from (by rw [hv]; rfl)]
                refine lv_istore (lv' := [(6, .int (ob_q1 fh (ob_q8 fh cR r) (k + 1))), (0, .ref ax), (1, .ref xh), (2, .ref xm), (3, .int (nI cA)), (4, .int (nI cR)), (5, .int (nI wT)), (7, .int (nI r)), (8, .int (nI k))]) hx hb dL_isReasoned_61 hl (by decide) rfl (fun ls hl => ?_)
                refine ob_inc (k := 8) (lv' := [(8, .int (nI (k + 1))), (6, .int (ob_q1 fh (ob_q8 fh cR r) (k + 1))), (0, .ref ax), (1, .ref xh), (2, .ref xm), (3, .int (nI cA)), (4, .int (nI cR)), (5, .int (nI wT)), (7, .int (nI r))]) hx hb dL_isReasoned_63 hl rfl (by decide) rfl (fun ls hl => ?_)
                refine lv_goto (tgt := 19) hx hb dL_isReasoned_66 (by decide) ?_
                exact ih19 (k + 1) (by omega) (by omega) _ (lv_sub hl [2, 3, 4, 5, 6, 7, 1, 8, 0] rfl)
              refine lv_iload hx hb dL_isReasoned_28 (lv_at hl 6 rfl) ?_
              refine lv_iload hx hb dL_isReasoned_30 (lv_at hl 8 rfl) ?_
              refine lv_bipush (v := nI 8) hx hb dL_isReasoned_32 (by decide) ?_
              refine lv_idiv hx hb dL_isReasoned_34 (by decide) ?_
              rw [show (nI k) / (nI 8) = nI (k / 8) from pk_div (by omega) (by omega) (by omega)]
              refine lv_ishr hx hb dL_isReasoned_35 ?_
              refine lv_iconst (v := nI 1) hx hb dL_isReasoned_36 (by decide) ?_
              refine lv_iand hx hb dL_isReasoned_37 ?_
              rw [show ((ob_q1 fh (ob_q8 fh cR r) k) >>> ((nI (k / 8)) &&& 31)) &&& (nI 1) = ob_bi (ob_hb (ob_q1 fh (ob_q8 fh cR r) k) (nI (k / 8))) from (ob_sh1 (by omega))]
              refine lv_iconst (v := nI 1) hx hb dL_isReasoned_38 (by decide) ?_
              refine ob_bcmp_ne (tgt := 59) hx hb dL_isReasoned_39 (by decide) (fun c39 => ?_) (fun c39 => ?_)
              · refine lv_iconst (v := nI 0) hx hb dL_isReasoned_59 (by decide) ?_
                exact k60 (nI 0) (by first | (rw [c39]; rfl; done) | (rw [c39, decide_eq_false (Int32.not_lt.mpr c46)]; rfl; done) | (rw [c39, decide_eq_true (Int32.not_le.mp c46)]; rfl; done)) _ (lv_sub hl [0, 1, 2, 3, 4, 5, 6, 7, 8] rfl)
              · refine lv_aload_n hx hb dL_isReasoned_42 rfl (lv_at hl 1 rfl) ?_
                refine lv_iload hx hb dL_isReasoned_43 (lv_at hl 8 rfl) ?_
                refine ob_iald hx hb hK hP 19 0 rfl rfl (by omega) (by decide) dL_isReasoned_45 ?_
                refine lv_if_le (tgt := 59) hx hb dL_isReasoned_46 (by decide) (fun c46 => ?_) (fun c46 => ?_)
                · refine lv_iconst (v := nI 0) hx hb dL_isReasoned_59 (by decide) ?_
                  exact k60 (nI 0) (by first | (rw [c39]; rfl; done) | (rw [c39, decide_eq_false (Int32.not_lt.mpr c46)]; rfl; done) | (rw [c39, decide_eq_true (Int32.not_le.mp c46)]; rfl; done)) _ (lv_sub hl [0, 1, 2, 3, 4, 5, 6, 7, 8] rfl)
                · refine lv_iconst (v := nI 1) hx hb dL_isReasoned_49 (by decide) ?_
                  refine lv_iload hx hb dL_isReasoned_50 (lv_at hl 8 rfl) ?_
                  refine lv_bipush (v := nI 8) hx hb dL_isReasoned_52 (by decide) ?_
                  refine lv_irem hx hb dL_isReasoned_54 (by decide) ?_
                  rw [show (nI k) - (nI k) / (nI 8) * (nI 8) = nI (k % 8) from pk_rem (by omega) (by omega) (by omega)]
                  refine lv_ishl hx hb dL_isReasoned_55 ?_
                  rw [show (nI 1) <<< ((nI (k % 8)) &&& 31) = ob_bit (nI (k % 8)) from rfl]
                  refine lv_goto (tgt := 60) hx hb dL_isReasoned_56 (by decide) ?_
                  exact k60 (ob_bit (nI (k % 8))) (by first | (rw [c39]; rfl; done) | (rw [c39, decide_eq_false (Int32.not_lt.mpr c46)]; rfl; done) | (rw [c39, decide_eq_true (Int32.not_le.mp c46)]; rfl; done)) _ (lv_sub hl [0, 1, 2, 3, 4, 5, 6, 7, 8] rfl)
        exact k19 _ 0 (Nat.lt_succ_self _) (by omega) _ (lv_sub hl [1, 2, 3, 4, 5, 6, 7, 8, 0] rfl)
  exact k9 _ 0 (Nat.lt_succ_self _) (by omega) _ (lv_sub hl [2, 3, 4, 5, 6, 7, 1, 0] rfl)
