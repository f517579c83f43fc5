set_option maxRecDepth 100000 in
set_option maxHeartbeats 4000000 in
theorem c_L_areCauses (l : Launch) (D : va_G) (t : Nat → ClassId) (ax : Nat) (ao al am ac : Nat → Nat) (cn : Nat) (st : Int32) (Wt : Nat → Nat → Int32) (xh xm : Nat) (fh fm : Nat → Int32) (hcn : cn ≤ 8) (hh : ∀ i j, i < 8 → j < 8 → fh (8 * i + j) = Wt i j) (hf2 : fm 2 = nI cn) (hf3 : fm 3 = st) : Met l yL_areCauses wsL_areCauses ({ frames := 6, cells := 0, slots := 0, locals := 136 } : Room) (ob_Pp D t (ob_wX ax ao al am ac ++ ob_wC t ac cn st Wt ++ ob_wH t xh fh ++ ob_wV t xm fm) [.ref ax, .ref xh, .ref xm]) (vp_Si (fun r : Int32 => r = nI 1)) 0 0 (fun _ => False) := by
  refine Met.ofW (cc := cL_areCauses) (maxL := 10) (ret := (some .boolean)) (by decide) rfl ?_
  intro p e s m args below meth c s₁ B hml hv
  obtain ⟨rfl, hP, hk⟩ := hv
  have hx := B.exec
  have hb := B.bytes
  have hr := B.returns
  have hts := atoms_spec (ws := wsL_areCauses) B.pre
  have hown : s.vm.findClass RL = some m.cls := findClass_of_methodNamed B.named
  have hlocks := B.notSynchronized
  have hK := hk.1
  have hl := lv_entry [.ref ax, .ref xh, .ref xm] (n := 10) (Nat.le_of_ble_eq_true rfl)
  rw [lg_entry_eq]
  generalize (lg_sl [.ref ax, .ref xh, .ref xm] ++ List.replicate (10 - (lg_sl [.ref ax, .ref xh, .ref xm]).length) Slot.unset).toArray = ls at hl ⊢
  have hl : lv_has ls 10 [(0, .ref ax), (1, .ref xh), (2, .ref xm)] := hl
  refine lv_iconst (v := nI 1) hx hb dL_areCauses_0 (by decide) ?_
  refine lv_istore_n (lv' := [(3, .int (nI 1)), (0, .ref ax), (1, .ref xh), (2, .ref xm)]) hx hb dL_areCauses_1 rfl hl (by decide) rfl (fun ls hl => ?_)
  refine lv_iconst (v := nI 0) hx hb dL_areCauses_2 (by decide) ?_
  refine lv_istore (lv' := [(4, .int (nI 0)), (3, .int (nI 1)), (0, .ref ax), (1, .ref xh), (2, .ref xm)]) hx hb dL_areCauses_3 hl (by decide) rfl (fun ls hl => ?_)
  have k5 : ∀ fu : Nat, ∀ (k : Nat), cn - k < fu → (k ≤ cn) → ∀ ls : Array Slot, lv_has ls 10 [(0, .ref ax), (1, .ref xh), (2, .ref xm), (3, .int (nI 1)), (4, .int (nI k))] → W p l e (headSpec wsL_areCauses ({ frames := 6, cells := 0, slots := 0, locals := 136 } : Room)).room s m ([.ref ax, .ref xh, .ref xm] : List Value).toArray below meth c s.heap [] 0 0 (MQ below (vp_Si (fun r : Int32 => r = nI 1)) ([.ref ax, .ref xh, .ref xm] : List Value).toArray s 0 0 (fun _ => False)) (F0 m 5 ls []) := by
    intro fu
    induction fu with
    | zero => intro k hfu; exact absurd hfu (Nat.not_lt_zero _)
    | succ fu ih =>
      intro k hfu hq ls hl
      have ih5 := ih
      refine lv_iload hx hb dL_areCauses_5 (lv_at hl 4 rfl) ?_
      refine lv_aload_n hx hb dL_areCauses_7 rfl (lv_at hl 2 rfl) ?_
      refine lv_iconst (v := nI 2) hx hb dL_areCauses_8 (by decide) ?_
      refine ob_iald hx hb hK hP 20 0 rfl rfl (by omega) (by decide) dL_areCauses_9 ?_
      rw [show fm 2 = nI cn from hf2]
      refine ob_icmp_ge (tgt := 282) hx hb (by omega) (by omega) dL_areCauses_10 (by decide) (fun c10 => ?_) (fun c10 => ?_)
      · refine lv_iload_n hx hb dL_areCauses_282 rfl (lv_at hl 3 rfl) ?_
        exact W.zret (v := nI 1) hx hb hr rfl (fun t9 ht hW => ⟨nI 1, rfl, rfl, ht⟩) (fun _ h => absurd h List.not_mem_nil) dL_areCauses_283
      · refine lv_iload_n hx hb dL_areCauses_13 rfl (lv_at hl 3 rfl) ?_
        refine lv_if_eq (tgt := 282) hx hb dL_areCauses_14 (by decide) (fun c9 => absurd c9 (by decide)) (fun _ => ?_)
        refine lv_iconst (v := nI 0) hx hb dL_areCauses_17 (by decide) ?_
        refine lv_istore (lv' := [(5, .int (nI 0)), (0, .ref ax), (1, .ref xh), (2, .ref xm), (3, .int (nI 1)), (4, .int (nI k))]) hx hb dL_areCauses_18 hl (by decide) rfl (fun ls hl => ?_)
        refine lv_aload_n hx hb dL_areCauses_20 rfl (lv_at hl 1 rfl) ?_
        refine lv_iload hx hb dL_areCauses_21 (lv_at hl 5 rfl) ?_
        refine vp_callSi (va_Run.run (va_runV (As := [.int (nI k)]) (rest := []) ⟨hx, hb, hml, hown, hts⟩ (n_X4_roots l D t ax ao al am ac cn st Wt k (by first | assumption | omega) (by first | assumption | omega)) (cwV 1 hts gL_areCauses_X4_roots rfl rfl rfl (by decide +kernel) ⟨Nat.le_of_ble_eq_true rfl, Nat.le_of_ble_eq_true rfl⟩) (ob_preV (ci := 4) (q0 := 0) (hP.sub [0, 1, 2, 3, 4, 5, 6, 7, 8, 9, 10, 11, 12, 13, 14, 15, 16, 17, 18] rfl) hk rfl rfl) rfl rfl hl.1 rfl (lv_room (Nat.le_of_ble_eq_true rfl)) dL_areCauses_23 ⟨Nat.le_of_ble_eq_true rfl, Nat.le_of_ble_eq_true rfl⟩)) (fun r9 hr9 => ?_)
        subst hr9
        refine lv_istore (lv' := [(6, .int (ob_ro st Wt cn k)), (5, .int (nI 0)), (0, .ref ax), (1, .ref xh), (2, .ref xm), (3, .int (nI 1)), (4, .int (nI k))]) hx hb dL_areCauses_26 hl (by decide) rfl (fun ls hl => ?_)
        refine lv_aload_n hx hb dL_areCauses_28 rfl (lv_at hl 2 rfl) ?_
        refine lv_iload hx hb dL_areCauses_29 (lv_at hl 6 rfl) ?_
        refine vp_callSi (va_Run.run (va_runV (As := [.int (nI k)]) (rest := []) ⟨hx, hb, hml, hown, hts⟩ (n_X4_mainReason l D t ax ao al am ac cn st Wt k (by first | assumption | omega) (by first | assumption | omega)) (cwV 1 hts gL_areCauses_X4_mainReason rfl rfl rfl (by decide +kernel) ⟨Nat.le_of_ble_eq_true rfl, Nat.le_of_ble_eq_true rfl⟩) (ob_preV (ci := 4) (q0 := 0) (hP.sub [0, 1, 2, 3, 4, 5, 6, 7, 8, 9, 10, 11, 12, 13, 14, 15, 16, 17, 18] rfl) hk rfl rfl) rfl rfl hl.1 rfl (lv_room (Nat.le_of_ble_eq_true rfl)) dL_areCauses_31 ⟨Nat.le_of_ble_eq_true rfl, Nat.le_of_ble_eq_true rfl⟩)) (fun r9 hr9 => ?_)
        subst hr9
        refine lv_topi (fun w e31 => ?_)
        refine lv_istore (lv' := [(7, .int w), (6, .int (ob_ro st Wt cn k)), (5, .int (nI 0)), (0, .ref ax), (1, .ref xh), (2, .ref xm), (3, .int (nI 1)), (4, .int (nI k))]) hx hb dL_areCauses_34 hl (by decide) rfl (fun ls hl => ?_)
        have hmn : ob_mnS st Wt cn k w := by rw [e31]; exact ob_wrS (by omega) c10
        refine lv_iconst (v := nI 0) hx hb dL_areCauses_36 (by decide) ?_
        refine lv_istore (lv' := [(8, .int (nI 0)), (7, .int w), (6, .int (ob_ro st Wt cn k)), (5, .int (nI 0)), (0, .ref ax), (1, .ref xh), (2, .ref xm), (3, .int (nI 1)), (4, .int (nI k))]) hx hb dL_areCauses_37 hl (by decide) rfl (fun ls hl => ?_)
        have k39 : ∀ fu : Nat, ∀ (j : Nat), cn - j < fu → (j ≤ cn) → ∀ ls : Array Slot, lv_has ls 10 [(0, .ref ax), (1, .ref xh), (2, .ref xm), (3, .int (nI 1)), (4, .int (nI k)), (5, .int (ob_uz st Wt cn k j)), (6, .int (ob_ro st Wt cn k)), (7, .int w), (8, .int (nI j))] → W p l e (headSpec wsL_areCauses ({ frames := 6, cells := 0, slots := 0, locals := 136 } : Room)).room s m ([.ref ax, .ref xh, .ref xm] : List Value).toArray below meth c s.heap [] 0 0 (MQ below (vp_Si (fun r : Int32 => r = nI 1)) ([.ref ax, .ref xh, .ref xm] : List Value).toArray s 0 0 (fun _ => False)) (F0 m 39 ls []) := by
          intro fu
          induction fu with
          | zero => intro j hfu; exact absurd hfu (Nat.not_lt_zero _)
          | succ fu ih =>
            intro j hfu hj ls hl
            have ih39 := ih
            refine lv_iload hx hb dL_areCauses_39 (lv_at hl 8 rfl) ?_
            refine lv_aload_n hx hb dL_areCauses_41 rfl (lv_at hl 2 rfl) ?_
            refine lv_iconst (v := nI 2) hx hb dL_areCauses_42 (by decide) ?_
            refine ob_iald hx hb hK hP 20 0 rfl rfl (by omega) (by decide) dL_areCauses_43 ?_
            rw [show fm 2 = nI cn from hf2]
            refine ob_icmp_ge (tgt := 178) hx hb (by omega) (by omega) dL_areCauses_44 (by decide) (fun c44 => ?_) (fun c44 => ?_)
            · obtain rfl : cn = j := Nat.le_antisymm c44 hj
              refine lv_aload_n hx hb dL_areCauses_178 rfl (lv_at hl 2 rfl) ?_
              refine lv_iconst (v := nI 3) hx hb dL_areCauses_179 (by decide) ?_
              have k195 : ∀ (b2 : Bool), (b2 = ob_hb st (nI k)) → ∀ ls : Array Slot, lv_has ls 10 [(0, .ref ax), (1, .ref xh), (2, .ref xm), (3, .int (nI 1)), (4, .int (nI k)), (5, .int (ob_uz st Wt cn k cn)), (6, .int (ob_ro st Wt cn k)), (7, .int w)] → W p l e (headSpec wsL_areCauses ({ frames := 6, cells := 0, slots := 0, locals := 136 } : Room)).room s m ([.ref ax, .ref xh, .ref xm] : List Value).toArray below meth c s.heap [] 0 0 (MQ below (vp_Si (fun r : Int32 => r = nI 1)) ([.ref ax, .ref xh, .ref xm] : List Value).toArray s 0 0 (fun _ => False)) (F0 m 195 ls [.int (ob_bi b2)]) := by
                intro b2 hb2 ls hl
                refine lv_istore (lv' := [(8, .int (ob_bi b2)), (0, .ref ax), (1, .ref xh), (2, .ref xm), (3, .int (nI 1)), (4, .int (nI k)), (5, .int (ob_uz st Wt cn k cn)), (6, .int (ob_ro st Wt cn k)), (7, .int w)]) hx hb dL_areCauses_195 hl (by decide) rfl (fun ls hl => ?_)
                have k231 : ∀ ls : Array Slot, lv_has ls 10 [(0, .ref ax), (1, .ref xh), (2, .ref xm), (3, .int (nI 1)), (4, .int (nI k)), (5, .int (ob_uz st Wt cn k cn)), (6, .int (ob_ro st Wt cn k)), (7, .int w), (8, .int (ob_bi b2))] → W p l e (headSpec wsL_areCauses ({ frames := 6, cells := 0, slots := 0, locals := 136 } : Room)).room s m ([.ref ax, .ref xh, .ref xm] : List Value).toArray below meth c s.heap [] 0 0 (MQ below (vp_Si (fun r : Int32 => r = nI 1)) ([.ref ax, .ref xh, .ref xm] : List Value).toArray s 0 0 (fun _ => False)) (F0 m 231 ls []) := by
                  intro   ls hl
                  have k259 : ∀ ls : Array Slot, lv_has ls 10 [(0, .ref ax), (1, .ref xh), (2, .ref xm), (3, .int (nI 1)), (4, .int (nI k)), (5, .int (ob_uz st Wt cn k cn)), (6, .int (ob_ro st Wt cn k)), (7, .int w), (8, .int (ob_bi b2))] → W p l e (headSpec wsL_areCauses ({ frames := 6, cells := 0, slots := 0, locals := 136 } : Room)).room s m ([.ref ax, .ref xh, .ref xm] : List Value).toArray below meth c s.heap [] 0 0 (MQ below (vp_Si (fun r : Int32 => r = nI 1)) ([.ref ax, .ref xh, .ref xm] : List Value).toArray s 0 0 (fun _ => False)) (F0 m 259 ls []) := by
                    intro   ls hl
                    refine lv_iload hx hb dL_areCauses_259 (lv_at hl 6 rfl) ?_
                    refine lv_aload_n hx hb dL_areCauses_261 rfl (lv_at hl 2 rfl) ?_
                    refine lv_iconst (v := nI 3) hx hb dL_areCauses_262 (by decide) ?_
                    refine ob_iald hx hb hK hP 20 0 rfl rfl (by omega) (by decide) dL_areCauses_263 ?_
                    rw [show fm 3 = st from hf3]
                    refine lv_iconst (v := (-1)) hx hb dL_areCauses_264 (by decide) ?_
                    refine lv_ixor hx hb dL_areCauses_265 ?_
                    refine lv_iand hx hb dL_areCauses_266 ?_
                    refine lv_if_ne (tgt := 274) hx hb dL_areCauses_267 (by decide) (fun c267 => ?_) (fun c267 => ?_)
                    · first | (exact absurd c216 (Int32.not_le.mpr hpr)) | (exact absurd c228 (by rw [hsr]; decide)) | (exact absurd (ob_rz0 (hb2.symm.trans c235)) c256) | (exact absurd (ob_rz1 (by omega) c10 (hb2.symm.trans c235) (ob_mnN (by omega) hmn (Int32.not_le.mp c244))) c256) | (exact absurd (by obtain ⟨r, hr9, er, hsr, hpr, hmx⟩ := ob_mnP hmn (Int32.not_lt.mpr c244); exact ob_rz2 (by omega) c10 (hb2.symm.trans c235) hr9 ⟨hsr, hpr⟩) c256) | (exact absurd (ob_rz3 (by omega) c10) c267)
                    · refine lv_iconst (v := nI 1) hx hb dL_areCauses_270 (by decide) ?_
                      refine lv_goto (tgt := 275) hx hb dL_areCauses_271 (by decide) ?_
                      refine lv_istore_n (lv' := [(3, .int (nI 1)), (0, .ref ax), (1, .ref xh), (2, .ref xm), (4, .int (nI k)), (5, .int (ob_uz st Wt cn k cn)), (6, .int (ob_ro st Wt cn k)), (7, .int w), (8, .int (ob_bi b2))]) hx hb dL_areCauses_275 rfl hl (by decide) rfl (fun ls hl => ?_)
                      refine ob_inc (k := 4) (lv' := [(4, .int (nI (k + 1))), (3, .int (nI 1)), (0, .ref ax), (1, .ref xh), (2, .ref xm), (5, .int (ob_uz st Wt cn k cn)), (6, .int (ob_ro st Wt cn k)), (7, .int w), (8, .int (ob_bi b2))]) hx hb dL_areCauses_276 hl rfl (by decide) rfl (fun ls hl => ?_)
                      refine lv_goto (tgt := 5) hx hb dL_areCauses_279 (by decide) ?_
                      exact ih5 (k + 1) (by omega) (by omega) _ (lv_sub hl [2, 3, 4, 1, 0] rfl)
                  refine lv_iload hx hb dL_areCauses_231 (lv_at hl 6 rfl) ?_
                  refine lv_iload hx hb dL_areCauses_233 (lv_at hl 8 rfl) ?_
                  refine ob_if_ne (tgt := 242) hx hb dL_areCauses_235 (by decide) (fun c235 => ?_) (fun c235 => ?_)
                  · refine lv_iload hx hb dL_areCauses_242 (lv_at hl 7 rfl) ?_
                    refine lv_if_ge (tgt := 254) hx hb dL_areCauses_244 (by decide) (fun c244 => ?_) (fun c244 => ?_)
                    · refine lv_iload hx hb dL_areCauses_254 (lv_at hl 5 rfl) ?_
                      refine lv_icmp_ne (tgt := 274) hx hb dL_areCauses_256 (by decide) (fun c256 => ?_) (fun c256 => ?_)
                      · first | (exact absurd c216 (Int32.not_le.mpr hpr)) | (exact absurd c228 (by rw [hsr]; decide)) | (exact absurd (ob_rz0 (hb2.symm.trans c235)) c256) | (exact absurd (ob_rz1 (by omega) c10 (hb2.symm.trans c235) (ob_mnN (by omega) hmn (Int32.not_le.mp c244))) c256) | (exact absurd (by obtain ⟨r, hr9, er, hsr, hpr, hmx⟩ := ob_mnP hmn (Int32.not_lt.mpr c244); exact ob_rz2 (by omega) c10 (hb2.symm.trans c235) hr9 ⟨hsr, hpr⟩) c256) | (exact absurd (ob_rz3 (by omega) c10) c267)
                      · exact k259   _ (lv_sub hl [0, 1, 2, 3, 4, 5, 6, 7, 8] rfl)
                    · refine lv_iconst (v := nI 1) hx hb dL_areCauses_247 (by decide) ?_
                      refine lv_iload hx hb dL_areCauses_248 (lv_at hl 4 rfl) ?_
                      refine lv_ishl hx hb dL_areCauses_250 ?_
                      refine lv_goto (tgt := 256) hx hb dL_areCauses_251 (by decide) ?_
                      refine lv_icmp_ne (tgt := 274) hx hb dL_areCauses_256 (by decide) (fun c256 => ?_) (fun c256 => ?_)
                      · first | (exact absurd c216 (Int32.not_le.mpr hpr)) | (exact absurd c228 (by rw [hsr]; decide)) | (exact absurd (ob_rz0 (hb2.symm.trans c235)) c256) | (exact absurd (ob_rz1 (by omega) c10 (hb2.symm.trans c235) (ob_mnN (by omega) hmn (Int32.not_le.mp c244))) c256) | (exact absurd (by obtain ⟨r, hr9, er, hsr, hpr, hmx⟩ := ob_mnP hmn (Int32.not_lt.mpr c244); exact ob_rz2 (by omega) c10 (hb2.symm.trans c235) hr9 ⟨hsr, hpr⟩) c256) | (exact absurd (ob_rz3 (by omega) c10) c267)
                      · exact k259   _ (lv_sub hl [0, 1, 2, 3, 4, 5, 6, 7, 8] rfl)
                  · refine lv_iconst (v := nI 0) hx hb dL_areCauses_238 (by decide) ?_
                    refine lv_goto (tgt := 256) hx hb dL_areCauses_239 (by decide) ?_
                    refine lv_icmp_ne (tgt := 274) hx hb dL_areCauses_256 (by decide) (fun c256 => ?_) (fun c256 => ?_)
                    · first | (exact absurd c216 (Int32.not_le.mpr hpr)) | (exact absurd c228 (by rw [hsr]; decide)) | (exact absurd (ob_rz0 (hb2.symm.trans c235)) c256) | (exact absurd (ob_rz1 (by omega) c10 (hb2.symm.trans c235) (ob_mnN (by omega) hmn (Int32.not_le.mp c244))) c256) | (exact absurd (by obtain ⟨r, hr9, er, hsr, hpr, hmx⟩ := ob_mnP hmn (Int32.not_lt.mpr c244); exact ob_rz2 (by omega) c10 (hb2.symm.trans c235) hr9 ⟨hsr, hpr⟩) c256) | (exact absurd (ob_rz3 (by omega) c10) c267)
                    · exact k259   _ (lv_sub hl [0, 1, 2, 3, 4, 5, 6, 7, 8] rfl)
                refine lv_iload_n hx hb dL_areCauses_197 rfl (lv_at hl 4 rfl) ?_
                refine lv_if_eq (tgt := 274) hx hb dL_areCauses_198 (by decide) (fun c9 => absurd c9 (by decide)) (fun _ => ?_)
                refine lv_iload hx hb dL_areCauses_201 (lv_at hl 8 rfl) ?_
                refine lv_if_lt (tgt := 231) hx hb dL_areCauses_203 (by decide) (fun c203 => ?_) (fun c203 => ?_)
                · exact k231   _ (lv_sub hl [1, 2, 3, 4, 5, 6, 7, 8, 0] rfl)
                · obtain ⟨r, hr9, er, hsr, hpr, hmx⟩ := ob_mnP hmn c203
                  refine lv_aload_n hx hb dL_areCauses_206 rfl (lv_at hl 2 rfl) ?_
                  refine lv_bipush (v := nI 8) hx hb dL_areCauses_207 (by decide) ?_
                  refine lv_iload hx hb dL_areCauses_209 (lv_at hl 5 rfl) ?_
                  refine lv_imul hx hb dL_areCauses_211 ?_
                  rw [show (nI 8) * (nI k) = nI (8 * k) from pk_mul _ _]
                  refine lv_iload hx hb dL_areCauses_212 (lv_at hl 8 rfl) ?_
                  refine lv_iadd hx hb dL_areCauses_214 ?_
                  rw [show (nI (8 * k)) + w = nI ((8 * k) + r) from (by rw [er]; exact nI_add _ _)]
                  refine ob_iald hx hb hK hP 19 0 rfl rfl (by omega) (by decide) dL_areCauses_215 ?_
                  rw [show fh ((8 * k) + r) = Wt k r from (hh k r (by omega) (by omega))]
                  refine lv_if_le (tgt := 274) hx hb dL_areCauses_216 (by decide) (fun c216 => ?_) (fun c216 => ?_)
                  · first | (exact absurd c216 (Int32.not_le.mpr hpr)) | (exact absurd c228 (by rw [hsr]; decide)) | (exact absurd (ob_rz0 (hb2.symm.trans c235)) c256) | (exact absurd (ob_rz1 (by omega) c10 (hb2.symm.trans c235) (ob_mnN (by omega) hmn (Int32.not_le.mp c244))) c256) | (exact absurd (by obtain ⟨r, hr9, er, hsr, hpr, hmx⟩ := ob_mnP hmn (Int32.not_lt.mpr c244); exact ob_rz2 (by omega) c10 (hb2.symm.trans c235) hr9 ⟨hsr, hpr⟩) c256) | (exact absurd (ob_rz3 (by omega) c10) c267)
                  · refine lv_aload_n hx hb dL_areCauses_219 rfl (lv_at hl 3 rfl) ?_
                    refine lv_iconst (v := nI 3) hx hb dL_areCauses_220 (by decide) ?_
                    refine ob_iald hx hb hK hP 20 0 rfl rfl (by omega) (by decide) dL_areCauses_221 ?_
                    rw [show fm 3 = st from hf3]
                    refine lv_iload hx hb dL_areCauses_222 (lv_at hl 8 rfl) ?_
                    refine lv_ishr hx hb dL_areCauses_224 ?_
                    refine lv_iconst (v := nI 1) hx hb dL_areCauses_225 (by decide) ?_
                    refine lv_iand hx hb dL_areCauses_226 ?_
                    rw [show (st >>> (w &&& 31)) &&& (nI 1) = ob_bi (ob_hb st (nI r)) from (by rw [er]; exact ob_sh1 (by omega))]
                    refine lv_iconst (v := nI 1) hx hb dL_areCauses_227 (by decide) ?_
                    refine ob_bcmp_ne (tgt := 274) hx hb dL_areCauses_228 (by decide) (fun c228 => ?_) (fun c228 => ?_)
                    · first | (exact absurd c216 (Int32.not_le.mpr hpr)) | (exact absurd c228 (by rw [hsr]; decide)) | (exact absurd (ob_rz0 (hb2.symm.trans c235)) c256) | (exact absurd (ob_rz1 (by omega) c10 (hb2.symm.trans c235) (ob_mnN (by omega) hmn (Int32.not_le.mp c244))) c256) | (exact absurd (by obtain ⟨r, hr9, er, hsr, hpr, hmx⟩ := ob_mnP hmn (Int32.not_lt.mpr c244); exact ob_rz2 (by omega) c10 (hb2.symm.trans c235) hr9 ⟨hsr, hpr⟩) c256) | (exact absurd (ob_rz3 (by omega) c10) c267)
                    · exact k231   _ (lv_sub hl [1, 2, 3, 4, 5, 6, 7, 8, 0] rfl)
              refine ob_iald hx hb hK hP 20 0 rfl rfl (by omega) (by decide) dL_areCauses_180 ?_
              rw [show fm 3 = st from hf3]
              refine lv_iload hx hb dL_areCauses_181 (lv_at hl 4 rfl) ?_
              refine lv_ishr hx hb dL_areCauses_183 ?_
              refine lv_iconst (v := nI 1) hx hb dL_areCauses_184 (by decide) ?_
              refine lv_iand hx hb dL_areCauses_185 ?_
              rw [show (st >>> ((nI k) &&& 31)) &&& (nI 1) = ob_bi (ob_hb st (nI k)) from (ob_sh1 (by omega))]
              refine lv_iconst (v := nI 1) hx hb dL_areCauses_186 (by decide) ?_
              refine ob_bcmp_ne (tgt := 194) hx hb dL_areCauses_187 (by decide) (fun c187 => ?_) (fun c187 => ?_)
              · refine lv_iconst (v := nI 0) hx hb dL_areCauses_194 (by decide) ?_
                exact k195 false c187.symm _ (lv_sub hl [0, 1, 2, 3, 4, 5, 6, 7] rfl)
              · refine lv_iconst (v := nI 1) hx hb dL_areCauses_190 (by decide) ?_
                refine lv_goto (tgt := 195) hx hb dL_areCauses_191 (by decide) ?_
                exact k195 true c187.symm _ (lv_sub hl [0, 1, 2, 3, 4, 5, 6, 7] rfl)
            · refine lv_iload_n hx hb dL_areCauses_47 rfl (lv_at hl 3 rfl) ?_
              refine lv_if_eq (tgt := 178) hx hb dL_areCauses_48 (by decide) (fun c9 => absurd c9 (by decide)) (fun _ => ?_)
              have k81 : ∀ (b : Bool), (b = (ob_hb st (nI j) && decide (0 < Wt k j))) → ∀ ls : Array Slot, lv_has ls 10 [(0, .ref ax), (1, .ref xh), (2, .ref xm), (3, .int (nI 1)), (4, .int (nI k)), (5, .int (ob_uz st Wt cn k j)), (6, .int (ob_ro st Wt cn k)), (7, .int w), (8, .int (nI j))] → W p l e (headSpec wsL_areCauses ({ frames := 6, cells := 0, slots := 0, locals := 136 } : Room)).room s m ([.ref ax, .ref xh, .ref xm] : List Value).toArray below meth c s.heap [] 0 0 (MQ below (vp_Si (fun r : Int32 => r = nI 1)) ([.ref ax, .ref xh, .ref xm] : List Value).toArray s 0 0 (fun _ => False)) (F0 m 81 ls [.int (ob_bi b)]) := by
                intro b hb9 ls hl
                refine lv_istore (lv' := [(9, .int (ob_bi b)), (0, .ref ax), (1, .ref xh), (2, .ref xm), (3, .int (nI 1)), (4, .int (nI k)), (5, .int (ob_uz st Wt cn k j)), (6, .int (ob_ro st Wt cn k)), (7, .int w), (8, .int (nI j))]) hx hb dL_areCauses_81 hl (by decide) rfl (fun ls hl => ?_)
                have k100 : ∀ (v : Int32), (v = if (ob_hb st (nI j) && decide (0 < Wt k j)) = true then ob_ro st Wt cn j else nI 0) → ∀ ls : Array Slot, lv_has ls 10 [(0, .ref ax), (1, .ref xh), (2, .ref xm), (3, .int (nI 1)), (4, .int (nI k)), (5, .int (ob_uz st Wt cn k j)), (6, .int (ob_ro st Wt cn k)), (7, .int w), (8, .int (nI j)), (9, .int (ob_bi b))] → W p l e (headSpec wsL_areCauses ({ frames := 6, cells := 0, slots := 0, locals := 136 } : Room)).room s m ([.ref ax, .ref xh, .ref xm] : List Value).toArray below meth c s.heap [] 0 0 (MQ below (vp_Si (fun r : Int32 => r = nI 1)) ([.ref ax, .ref xh, .ref xm] : List Value).toArray s 0 0 (fun _ => False)) (F0 m 100 ls [.int v, .int (ob_uz st Wt cn k j)]) := by
                  intro v hv ls hl
                  refine lv_ior hx hb dL_areCauses_100 ?_
                  rw [show (ob_uz st Wt cn k j) ||| v = ob_uz st Wt cn k (j + 1) from (by rw [hv]; rfl)]
                  refine lv_istore (lv' := [(5, .int (ob_uz st Wt cn k (j + 1))), (0, .ref ax), (1, .ref xh), (2, .ref xm), (3, .int (nI 1)), (4, .int (nI k)), (6, .int (ob_ro st Wt cn k)), (7, .int w), (8, .int (nI j)), (9, .int (ob_bi b))]) hx hb dL_areCauses_101 hl (by decide) rfl (fun ls hl => ?_)
                  have k166 : ∀ ls : Array Slot, lv_has ls 10 [(0, .ref ax), (1, .ref xh), (2, .ref xm), (3, .int (nI 1)), (4, .int (nI k)), (5, .int (ob_uz st Wt cn k (j + 1))), (6, .int (ob_ro st Wt cn k)), (7, .int w), (8, .int (nI j))] → W p l e (headSpec wsL_areCauses ({ frames := 6, cells := 0, slots := 0, locals := 136 } : Room)).room s m ([.ref ax, .ref xh, .ref xm] : List Value).toArray below meth c s.heap [] 0 0 (MQ below (vp_Si (fun r : Int32 => r = nI 1)) ([.ref ax, .ref xh, .ref xm] : List Value).toArray s 0 0 (fun _ => False)) (F0 m 166 ls []) := by
                    intro   ls hl
                    refine lv_iconst (v := nI 1) hx hb dL_areCauses_166 (by decide) ?_
                    refine lv_goto (tgt := 171) hx hb dL_areCauses_167 (by decide) ?_
                    refine lv_istore_n (lv' := [(3, .int (nI 1)), (0, .ref ax), (1, .ref xh), (2, .ref xm), (4, .int (nI k)), (5, .int (ob_uz st Wt cn k (j + 1))), (6, .int (ob_ro st Wt cn k)), (7, .int w), (8, .int (nI j))]) hx hb dL_areCauses_171 rfl hl (by decide) rfl (fun ls hl => ?_)
                    refine ob_inc (k := 8) (lv' := [(8, .int (nI (j + 1))), (3, .int (nI 1)), (0, .ref ax), (1, .ref xh), (2, .ref xm), (4, .int (nI k)), (5, .int (ob_uz st Wt cn k (j + 1))), (6, .int (ob_ro st Wt cn k)), (7, .int w)]) hx hb dL_areCauses_172 hl rfl (by decide) rfl (fun ls hl => ?_)
                    refine lv_goto (tgt := 39) hx hb dL_areCauses_175 (by decide) ?_
                    exact ih39 (j + 1) (by omega) (by omega) _ (lv_sub hl [2, 3, 4, 1, 5, 6, 7, 8, 0] rfl)
                  refine lv_iload hx hb dL_areCauses_103 (lv_at hl 9 rfl) ?_
                  refine ob_if_eq (tgt := 166) hx hb dL_areCauses_105 (by decide) (fun c105 => ?_) (fun c105 => ?_)
                  · exact k166   _ (lv_sub hl [1, 2, 3, 4, 5, 0, 6, 7, 8] rfl)
                  · have hb2 := ob_and2 (hb9.symm.trans c105)
                    have hb3 := of_decide_eq_true hb2.2
                    refine lv_iload hx hb dL_areCauses_108 (lv_at hl 7 rfl) ?_
                    refine lv_if_lt (tgt := 170) hx hb dL_areCauses_110 (by decide) (fun c110 => ?_) (fun c110 => ?_)
                    · first | (exact absurd ⟨hb2.1, hb3⟩ (ob_mnN (by omega) hmn c110 j c44)) | (exact absurd hx9 (by rintro (z | ⟨z, -⟩); exact c133 z; exact c156 z)) | (exact absurd hx9 (by rintro (z | ⟨-, z⟩); exact c133 z; rw [er] at c163; exact absurd ((ob_ltN (by omega) (by omega)).mp c163) (by omega)))
                    · obtain ⟨r, hr9, er, hsr, hpr, hmx⟩ := ob_mnP hmn c110
                      have hx9 := hmx j c44 hb2.1 hb3
                      refine lv_aload_n hx hb dL_areCauses_113 rfl (lv_at hl 2 rfl) ?_
                      refine lv_bipush (v := nI 8) hx hb dL_areCauses_114 (by decide) ?_
                      refine lv_iload hx hb dL_areCauses_116 (lv_at hl 5 rfl) ?_
                      refine lv_imul hx hb dL_areCauses_118 ?_
                      rw [show (nI 8) * (nI k) = nI (8 * k) from pk_mul _ _]
                      refine lv_iload hx hb dL_areCauses_119 (lv_at hl 8 rfl) ?_
                      refine lv_iadd hx hb dL_areCauses_121 ?_
                      rw [show (nI (8 * k)) + (nI j) = nI ((8 * k) + j) from nI_add _ _]
                      refine ob_iald hx hb hK hP 19 0 rfl rfl (by omega) (by decide) dL_areCauses_122 ?_
                      rw [show fh ((8 * k) + j) = Wt k j from (hh k j (by omega) (by omega))]
                      refine lv_aload_n hx hb dL_areCauses_123 rfl (lv_at hl 2 rfl) ?_
                      refine lv_bipush (v := nI 8) hx hb dL_areCauses_124 (by decide) ?_
                      refine lv_iload hx hb dL_areCauses_126 (lv_at hl 5 rfl) ?_
                      refine lv_imul hx hb dL_areCauses_128 ?_
                      rw [show (nI 8) * (nI k) = nI (8 * k) from pk_mul _ _]
                      refine lv_iload hx hb dL_areCauses_129 (lv_at hl 7 rfl) ?_
                      refine lv_iadd hx hb dL_areCauses_131 ?_
                      rw [show (nI (8 * k)) + w = nI ((8 * k) + r) from (by rw [er]; exact nI_add _ _)]
                      refine ob_iald hx hb hK hP 19 0 rfl rfl (by omega) (by decide) dL_areCauses_132 ?_
                      rw [show fh ((8 * k) + r) = Wt k r from (hh k r (by omega) (by omega))]
                      refine lv_icmp_lt (tgt := 166) hx hb dL_areCauses_133 (by decide) (fun c133 => ?_) (fun c133 => ?_)
                      · exact k166   _ (lv_sub hl [1, 2, 3, 4, 5, 0, 6, 7, 8] rfl)
                      · refine lv_aload_n hx hb dL_areCauses_136 rfl (lv_at hl 2 rfl) ?_
                        refine lv_bipush (v := nI 8) hx hb dL_areCauses_137 (by decide) ?_
                        refine lv_iload hx hb dL_areCauses_139 (lv_at hl 5 rfl) ?_
                        refine lv_imul hx hb dL_areCauses_141 ?_
                        rw [show (nI 8) * (nI k) = nI (8 * k) from pk_mul _ _]
                        refine lv_iload hx hb dL_areCauses_142 (lv_at hl 8 rfl) ?_
                        refine lv_iadd hx hb dL_areCauses_144 ?_
                        rw [show (nI (8 * k)) + (nI j) = nI ((8 * k) + j) from nI_add _ _]
                        refine ob_iald hx hb hK hP 19 0 rfl rfl (by omega) (by decide) dL_areCauses_145 ?_
                        rw [show fh ((8 * k) + j) = Wt k j from (hh k j (by omega) (by omega))]
                        refine lv_aload_n hx hb dL_areCauses_146 rfl (lv_at hl 2 rfl) ?_
                        refine lv_bipush (v := nI 8) hx hb dL_areCauses_147 (by decide) ?_
                        refine lv_iload hx hb dL_areCauses_149 (lv_at hl 5 rfl) ?_
                        refine lv_imul hx hb dL_areCauses_151 ?_
                        rw [show (nI 8) * (nI k) = nI (8 * k) from pk_mul _ _]
                        refine lv_iload hx hb dL_areCauses_152 (lv_at hl 7 rfl) ?_
                        refine lv_iadd hx hb dL_areCauses_154 ?_
                        rw [show (nI (8 * k)) + w = nI ((8 * k) + r) from (by rw [er]; exact nI_add _ _)]
                        refine ob_iald hx hb hK hP 19 0 rfl rfl (by omega) (by decide) dL_areCauses_155 ?_
                        rw [show fh ((8 * k) + r) = Wt k r from (hh k r (by omega) (by omega))]
                        refine lv_icmp_ne (tgt := 170) hx hb dL_areCauses_156 (by decide) (fun c156 => ?_) (fun c156 => ?_)
                        · first | (exact absurd ⟨hb2.1, hb3⟩ (ob_mnN (by omega) hmn c110 j c44)) | (exact absurd hx9 (by rintro (z | ⟨z, -⟩); exact c133 z; exact c156 z)) | (exact absurd hx9 (by rintro (z | ⟨-, z⟩); exact c133 z; rw [er] at c163; exact absurd ((ob_ltN (by omega) (by omega)).mp c163) (by omega)))
                        · refine lv_iload hx hb dL_areCauses_159 (lv_at hl 7 rfl) ?_
                          refine lv_iload hx hb dL_areCauses_161 (lv_at hl 8 rfl) ?_
                          refine lv_icmp_gt (tgt := 170) hx hb dL_areCauses_163 (by decide) (fun c163 => ?_) (fun c163 => ?_)
                          · first | (exact absurd ⟨hb2.1, hb3⟩ (ob_mnN (by omega) hmn c110 j c44)) | (exact absurd hx9 (by rintro (z | ⟨z, -⟩); exact c133 z; exact c156 z)) | (exact absurd hx9 (by rintro (z | ⟨-, z⟩); exact c133 z; rw [er] at c163; exact absurd ((ob_ltN (by omega) (by omega)).mp c163) (by omega)))
                          · exact k166   _ (lv_sub hl [1, 2, 3, 4, 5, 0, 6, 7, 8] rfl)
                refine lv_iload hx hb dL_areCauses_83 (lv_at hl 6 rfl) ?_
                refine lv_iload hx hb dL_areCauses_85 (lv_at hl 0 rfl) ?_
                refine ob_if_eq (tgt := 99) hx hb dL_areCauses_87 (by decide) (fun c87 => ?_) (fun c87 => ?_)
                · refine lv_iconst (v := nI 0) hx hb dL_areCauses_99 (by decide) ?_
                  exact k100 (nI 0) (by first | (rw [← hb9, c87]; rfl; done) | (rw [← hb9, c87, if_pos rfl]; done)) _ (lv_sub hl [1, 2, 3, 4, 5, 6, 7, 8, 9, 0] rfl)
                · refine lv_aload_n hx hb dL_areCauses_90 rfl (lv_at hl 1 rfl) ?_
                  refine lv_iload hx hb dL_areCauses_91 (lv_at hl 9 rfl) ?_
                  refine vp_callSi (va_Run.run (va_runV (As := [.int (nI j)]) (rest := [.int (ob_uz st Wt cn k j)]) ⟨hx, hb, hml, hown, hts⟩ (n_X4_roots l D t ax ao al am ac cn st Wt j (by first | assumption | omega) (by first | assumption | omega)) (cwV 1 hts gL_areCauses_X4_roots rfl rfl rfl (by decide +kernel) ⟨Nat.le_of_ble_eq_true rfl, Nat.le_of_ble_eq_true rfl⟩) (ob_preV (ci := 4) (q0 := 0) (hP.sub [0, 1, 2, 3, 4, 5, 6, 7, 8, 9, 10, 11, 12, 13, 14, 15, 16, 17, 18] rfl) hk rfl rfl) rfl rfl hl.1 rfl (lv_room (Nat.le_of_ble_eq_true rfl)) dL_areCauses_93 ⟨Nat.le_of_ble_eq_true rfl, Nat.le_of_ble_eq_true rfl⟩)) (fun r9 hr9 => ?_)
                  subst hr9
                  refine lv_goto (tgt := 100) hx hb dL_areCauses_96 (by decide) ?_
                  exact k100 (ob_ro st Wt cn j) (by first | (rw [← hb9, c87]; rfl; done) | (rw [← hb9, c87, if_pos rfl]; done)) _ (lv_sub hl [1, 2, 3, 4, 5, 6, 7, 8, 9, 0] rfl)
              refine lv_aload_n hx hb dL_areCauses_51 rfl (lv_at hl 1 rfl) ?_
              refine lv_bipush (v := nI 8) hx hb dL_areCauses_52 (by decide) ?_
              refine lv_iload hx hb dL_areCauses_54 (lv_at hl 4 rfl) ?_
              refine lv_imul hx hb dL_areCauses_56 ?_
              rw [show (nI 8) * (nI k) = nI (8 * k) from pk_mul _ _]
              refine lv_iload hx hb dL_areCauses_57 (lv_at hl 8 rfl) ?_
              refine lv_iadd hx hb dL_areCauses_59 ?_
              rw [show (nI (8 * k)) + (nI j) = nI ((8 * k) + j) from nI_add _ _]
              refine ob_iald hx hb hK hP 19 0 rfl rfl (by omega) (by decide) dL_areCauses_60 ?_
              rw [show fh ((8 * k) + j) = Wt k j from (hh k j (by omega) (by omega))]
              refine lv_if_le (tgt := 80) hx hb dL_areCauses_61 (by decide) (fun c61 => ?_) (fun c61 => ?_)
              · refine lv_iconst (v := nI 0) hx hb dL_areCauses_80 (by decide) ?_
                exact k81 false (by first | (rw [decide_eq_false (Int32.not_lt.mpr c61), Bool.and_false]; done) | (rw [c73]; rfl; done) | (rw [c73, decide_eq_true (Int32.not_le.mp c61)]; rfl; done)) _ (lv_sub hl [0, 1, 2, 3, 4, 5, 6, 7, 8] rfl)
              · refine lv_aload_n hx hb dL_areCauses_64 rfl (lv_at hl 2 rfl) ?_
                refine lv_iconst (v := nI 3) hx hb dL_areCauses_65 (by decide) ?_
                refine ob_iald hx hb hK hP 20 0 rfl rfl (by omega) (by decide) dL_areCauses_66 ?_
                rw [show fm 3 = st from hf3]
                refine lv_iload hx hb dL_areCauses_67 (lv_at hl 8 rfl) ?_
                refine lv_ishr hx hb dL_areCauses_69 ?_
                refine lv_iconst (v := nI 1) hx hb dL_areCauses_70 (by decide) ?_
                refine lv_iand hx hb dL_areCauses_71 ?_
                rw [show (st >>> ((nI j) &&& 31)) &&& (nI 1) = ob_bi (ob_hb st (nI j)) from (ob_sh1 (by omega))]
                refine lv_iconst (v := nI 1) hx hb dL_areCauses_72 (by decide) ?_
                refine ob_bcmp_ne (tgt := 80) hx hb dL_areCauses_73 (by decide) (fun c73 => ?_) (fun c73 => ?_)
                · refine lv_iconst (v := nI 0) hx hb dL_areCauses_80 (by decide) ?_
                  exact k81 false (by first | (rw [decide_eq_false (Int32.not_lt.mpr c61), Bool.and_false]; done) | (rw [c73]; rfl; done) | (rw [c73, decide_eq_true (Int32.not_le.mp c61)]; rfl; done)) _ (lv_sub hl [0, 1, 2, 3, 4, 5, 6, 7, 8] rfl)
                · refine lv_iconst (v := nI 1) hx hb dL_areCauses_76 (by decide) ?_
                  refine lv_goto (tgt := 81) hx hb dL_areCauses_77 (by decide) ?_
                  exact k81 true (by first | (rw [decide_eq_false (Int32.not_lt.mpr c61), Bool.and_false]; done) | (rw [c73]; rfl; done) | (rw [c73, decide_eq_true (Int32.not_le.mp c61)]; rfl; done)) _ (lv_sub hl [0, 1, 2, 3, 4, 5, 6, 7, 8] rfl)
        exact k39 _ 0 (Nat.lt_succ_self _) (by omega) _ (lv_sub hl [4, 5, 6, 7, 8, 3, 2, 1, 0] rfl)
  exact k5 _ 0 (Nat.lt_succ_self _) (by omega) _ (lv_sub hl [2, 3, 4, 1, 0] rfl)
