set_option maxRecDepth 100000 in
set_option maxHeartbeats 4000000 in
theorem c_L_areClocks (l : Launch) (D : va_G) (t : Nat → ClassId) (ax : Nat) (ao al am ac : Nat → Nat) (M : Nat → Nat → Int32) (n : Nat) (cl rd sv pb ba bf od : Nat → Int32) (bg : Nat → Int64) (xe : Nat) (fe : Nat → Int32) (mk : Nat) (hM : ob_KM M) (hm : mk ≤ 12) (hmk : ∀ k, k < mk → ob_mkd M fe k) : Met l yL_areClocks wsL_areClocks ({ frames := 4, cells := 0, slots := 0, locals := 86 } : Room) (ob_Pp D t (ob_wX ax ao al am ac ++ ob_wO t ao M ++ ob_wL t al n cl rd sv pb ba bf od bg ++ ob_wE t xe fe) [.ref ax, .ref xe, .int (nI mk)]) (vp_Si (fun r : Int32 => r = nI 1)) 0 0 (fun _ => False) := by
  refine Met.ofW (cc := cL_areClocks) (maxL := 11) (ret := (some .boolean)) (by decide) rfl ?_
  intro p e s m args below meth c s₁ B hml hv
  obtain ⟨rfl, hP, hk⟩ := hv
  have hx := B.exec
  have hb := B.bytes
  have hr := B.returns
  have hts := atoms_spec (ws := wsL_areClocks) B.pre
  have hown : s.vm.findClass RL = some m.cls := findClass_of_methodNamed B.named
  have hlocks := B.notSynchronized
  have hK := hk.1
  have hl := lv_entry [.ref ax, .ref xe, .int (nI mk)] (n := 11) (Nat.le_of_ble_eq_true rfl)
  rw [lg_entry_eq]
  generalize (lg_sl [.ref ax, .ref xe, .int (nI mk)] ++ List.replicate (11 - (lg_sl [.ref ax, .ref xe, .int (nI mk)]).length) Slot.unset).toArray = ls at hl ⊢
  have hl : lv_has ls 11 [(0, .ref ax), (1, .ref xe), (2, .int (nI mk))] := hl
  refine lv_iconst (v := nI 1) hx hb dL_areClocks_0 (by decide) ?_
  refine lv_istore_n (lv' := [(3, .int (nI 1)), (0, .ref ax), (1, .ref xe), (2, .int (nI mk))]) hx hb dL_areClocks_1 rfl hl (by decide) rfl (fun ls hl => ?_)
  refine lv_iconst (v := nI 0) hx hb dL_areClocks_2 (by decide) ?_
  refine lv_istore (lv' := [(4, .int (nI 0)), (3, .int (nI 1)), (0, .ref ax), (1, .ref xe), (2, .int (nI mk))]) hx hb dL_areClocks_3 hl (by decide) rfl (fun ls hl => ?_)
  have k5 : ∀ fu : Nat, ∀ (k : Nat), 125 - k < fu → (k ≤ 125) → ∀ ls : Array Slot, lv_has ls 11 [(0, .ref ax), (1, .ref xe), (2, .int (nI mk)), (3, .int (nI 1)), (4, .int (nI k))] → W p l e (headSpec wsL_areClocks ({ frames := 4, cells := 0, slots := 0, locals := 86 } : Room)).room s m ([.ref ax, .ref xe, .int (nI mk)] : List Value).toArray below meth c s.heap [] 0 0 (MQ below (vp_Si (fun r : Int32 => r = nI 1)) ([.ref ax, .ref xe, .int (nI mk)] : List Value).toArray s 0 0 (fun _ => False)) (F0 m 5 ls []) := by
    intro fu
    induction fu with
    | zero => intro k hfu; exact absurd hfu (Nat.not_lt_zero _)
    | succ fu ih =>
      intro k hfu hq ls hl
      have ih5 := ih
      refine lv_iload hx hb dL_areClocks_5 (lv_at hl 4 rfl) ?_
      refine lv_bipush (v := nI 125) hx hb dL_areClocks_7 (by decide) ?_
      refine ob_icmp_ge (tgt := 169) hx hb (by omega) (by omega) dL_areClocks_9 (by decide) (fun c9 => ?_) (fun c9 => ?_)
      · refine lv_iconst (v := nI 0) hx hb dL_areClocks_169 (by decide) ?_
        refine lv_istore (lv' := [(4, .int (nI 0)), (0, .ref ax), (1, .ref xe), (2, .int (nI mk)), (3, .int (nI 1))]) hx hb dL_areClocks_170 hl (by decide) rfl (fun ls hl => ?_)
        have k172 : ∀ fu : Nat, ∀ (k : Nat), mk - k < fu → (k ≤ mk) → ∀ ls : Array Slot, lv_has ls 11 [(0, .ref ax), (1, .ref xe), (2, .int (nI mk)), (3, .int (nI 1)), (4, .int (nI k))] → W p l e (headSpec wsL_areClocks ({ frames := 4, cells := 0, slots := 0, locals := 86 } : Room)).room s m ([.ref ax, .ref xe, .int (nI mk)] : List Value).toArray below meth c s.heap [] 0 0 (MQ below (vp_Si (fun r : Int32 => r = nI 1)) ([.ref ax, .ref xe, .int (nI mk)] : List Value).toArray s 0 0 (fun _ => False)) (F0 m 172 ls []) := by
          intro fu
          induction fu with
          | zero => intro k hfu; exact absurd hfu (Nat.not_lt_zero _)
          | succ fu ih =>
            intro k hfu hq ls hl
            have ih172 := ih
            refine lv_iload hx hb dL_areClocks_172 (lv_at hl 4 rfl) ?_
            refine lv_iload_n hx hb dL_areClocks_174 rfl (lv_at hl 2 rfl) ?_
            refine ob_icmp_ge (tgt := 288) hx hb (by omega) (by omega) dL_areClocks_175 (by decide) (fun c175 => ?_) (fun c175 => ?_)
            · refine lv_iload_n hx hb dL_areClocks_288 rfl (lv_at hl 3 rfl) ?_
              exact W.zret (v := nI 1) hx hb hr rfl (fun t9 ht hW => ⟨nI 1, rfl, rfl, ht⟩) (fun _ h => absurd h List.not_mem_nil) dL_areClocks_289
            · refine lv_iload_n hx hb dL_areClocks_178 rfl (lv_at hl 3 rfl) ?_
              refine lv_if_eq (tgt := 288) hx hb dL_areClocks_179 (by decide) (fun c9 => absurd c9 (by decide)) (fun _ => ?_)
              obtain ⟨f, a, s9, b, z, hf, hs9, ha, hb9, hz9, ef, ea, es, eb, ez, m1, m2⟩ := hmk k c175
              refine lv_aload_n hx hb dL_areClocks_182 rfl (lv_at hl 0 rfl) ?_
              refine lv_aload_n hx hb dL_areClocks_183 rfl (lv_at hl 1 rfl) ?_
              refine lv_iconst (v := nI 5) hx hb dL_areClocks_184 (by decide) ?_
              refine lv_iload hx hb dL_areClocks_185 (lv_at hl 4 rfl) ?_
              refine lv_imul hx hb dL_areClocks_187 ?_
              rw [show (nI 5) * (nI k) = nI (5 * k) from pk_mul _ _]
              refine ob_iald hx hb hK hP 17 0 rfl rfl (by omega) (by decide) dL_areClocks_188 ?_
              rw [show fe (5 * k) = nI f from ef]
              refine lv_aload_n hx hb dL_areClocks_189 rfl (lv_at hl 1 rfl) ?_
              refine lv_iconst (v := nI 5) hx hb dL_areClocks_190 (by decide) ?_
              refine lv_iload hx hb dL_areClocks_191 (lv_at hl 4 rfl) ?_
              refine lv_imul hx hb dL_areClocks_193 ?_
              rw [show (nI 5) * (nI k) = nI (5 * k) from pk_mul _ _]
              refine lv_iconst (v := nI 2) hx hb dL_areClocks_194 (by decide) ?_
              refine lv_iadd hx hb dL_areClocks_195 ?_
              rw [show (nI (5 * k)) + (nI 2) = nI ((5 * k) + 2) from nI_add _ _]
              refine ob_iald hx hb hK hP 17 0 rfl rfl (by omega) (by decide) dL_areClocks_196 ?_
              rw [show fe ((5 * k) + 2) = nI s9 from es]
              refine vp_callSi (va_Run.run (va_runV (As := [.int (nI f), .int (nI s9)]) (rest := []) ⟨hx, hb, hml, hown, hts⟩ (n_X4_greatest l D t ax ao al am ac M n cl rd sv pb ba bf od bg f s9 (by first | assumption | omega) (by first | assumption | omega)) (cwV 2 hts gL_areClocks_X4_greatest rfl rfl rfl (by decide +kernel) ⟨Nat.le_of_ble_eq_true rfl, Nat.le_of_ble_eq_true rfl⟩) (ob_preV (ci := 4) (q0 := 0) (hP.sub [0, 1, 2, 3, 4, 5, 6, 7, 8, 9, 10, 11, 12, 13, 14, 15, 16] rfl) hk rfl rfl) rfl rfl hl.1 rfl (lv_room (Nat.le_of_ble_eq_true rfl)) dL_areClocks_197 ⟨Nat.le_of_ble_eq_true rfl, Nat.le_of_ble_eq_true rfl⟩)) (fun r9 hr9 => ?_)
              subst hr9
              refine lv_aload_n hx hb dL_areClocks_200 rfl (lv_at hl 1 rfl) ?_
              refine lv_iconst (v := nI 5) hx hb dL_areClocks_201 (by decide) ?_
              refine lv_iload hx hb dL_areClocks_202 (lv_at hl 4 rfl) ?_
              refine lv_imul hx hb dL_areClocks_204 ?_
              rw [show (nI 5) * (nI k) = nI (5 * k) from pk_mul _ _]
              refine lv_iconst (v := nI 4) hx hb dL_areClocks_205 (by decide) ?_
              refine lv_iadd hx hb dL_areClocks_206 ?_
              rw [show (nI (5 * k)) + (nI 4) = nI ((5 * k) + 4) from nI_add _ _]
              refine ob_iald hx hb hK hP 17 0 rfl rfl (by omega) (by decide) dL_areClocks_207 ?_
              rw [show fe ((5 * k) + 4) = nI z from ez]
              refine lv_aload_n hx hb dL_areClocks_208 rfl (lv_at hl 1 rfl) ?_
              refine lv_iconst (v := nI 5) hx hb dL_areClocks_209 (by decide) ?_
              refine lv_iload hx hb dL_areClocks_210 (lv_at hl 4 rfl) ?_
              refine lv_imul hx hb dL_areClocks_212 ?_
              rw [show (nI 5) * (nI k) = nI (5 * k) from pk_mul _ _]
              refine lv_iconst (v := nI 1) hx hb dL_areClocks_213 (by decide) ?_
              refine lv_iadd hx hb dL_areClocks_214 ?_
              rw [show (nI (5 * k)) + (nI 1) = nI ((5 * k) + 1) from nI_add _ _]
              refine ob_iald hx hb hK hP 17 0 rfl rfl (by omega) (by decide) dL_areClocks_215 ?_
              rw [show fe ((5 * k) + 1) = nI a from ea]
              refine lv_isub hx hb dL_areClocks_216 ?_
              refine lv_aload_n hx hb dL_areClocks_217 rfl (lv_at hl 1 rfl) ?_
              refine lv_iconst (v := nI 5) hx hb dL_areClocks_218 (by decide) ?_
              refine lv_iload hx hb dL_areClocks_219 (lv_at hl 4 rfl) ?_
              refine lv_imul hx hb dL_areClocks_221 ?_
              rw [show (nI 5) * (nI k) = nI (5 * k) from pk_mul _ _]
              refine lv_iconst (v := nI 3) hx hb dL_areClocks_222 (by decide) ?_
              refine lv_iadd hx hb dL_areClocks_223 ?_
              rw [show (nI (5 * k)) + (nI 3) = nI ((5 * k) + 3) from nI_add _ _]
              refine ob_iald hx hb hK hP 17 0 rfl rfl (by omega) (by decide) dL_areClocks_224 ?_
              rw [show fe ((5 * k) + 3) = nI b from eb]
              refine lv_iadd hx hb dL_areClocks_225 ?_
              refine lv_icmp_gt (tgt := 280) hx hb dL_areClocks_226 (by decide) (fun c226 => ?_) (fun c226 => ?_)
              · first | exact absurd c226 (ob_mk1 ha hb9 hz9 m1) | exact absurd c273 (ob_mk2 ha hb9 hz9 m2)
              · refine lv_aload_n hx hb dL_areClocks_229 rfl (lv_at hl 0 rfl) ?_
                refine lv_aload_n hx hb dL_areClocks_230 rfl (lv_at hl 1 rfl) ?_
                refine lv_iconst (v := nI 5) hx hb dL_areClocks_231 (by decide) ?_
                refine lv_iload hx hb dL_areClocks_232 (lv_at hl 4 rfl) ?_
                refine lv_imul hx hb dL_areClocks_234 ?_
                rw [show (nI 5) * (nI k) = nI (5 * k) from pk_mul _ _]
                refine lv_iconst (v := nI 2) hx hb dL_areClocks_235 (by decide) ?_
                refine lv_iadd hx hb dL_areClocks_236 ?_
                rw [show (nI (5 * k)) + (nI 2) = nI ((5 * k) + 2) from nI_add _ _]
                refine ob_iald hx hb hK hP 17 0 rfl rfl (by omega) (by decide) dL_areClocks_237 ?_
                rw [show fe ((5 * k) + 2) = nI s9 from es]
                refine lv_aload_n hx hb dL_areClocks_238 rfl (lv_at hl 1 rfl) ?_
                refine lv_iconst (v := nI 5) hx hb dL_areClocks_239 (by decide) ?_
                refine lv_iload hx hb dL_areClocks_240 (lv_at hl 4 rfl) ?_
                refine lv_imul hx hb dL_areClocks_242 ?_
                rw [show (nI 5) * (nI k) = nI (5 * k) from pk_mul _ _]
                refine ob_iald hx hb hK hP 17 0 rfl rfl (by omega) (by decide) dL_areClocks_243 ?_
                rw [show fe (5 * k) = nI f from ef]
                refine vp_callSi (va_Run.run (va_runV (As := [.int (nI s9), .int (nI f)]) (rest := []) ⟨hx, hb, hml, hown, hts⟩ (n_X4_greatest l D t ax ao al am ac M n cl rd sv pb ba bf od bg s9 f (by first | assumption | omega) (by first | assumption | omega)) (cwV 2 hts gL_areClocks_X4_greatest rfl rfl rfl (by decide +kernel) ⟨Nat.le_of_ble_eq_true rfl, Nat.le_of_ble_eq_true rfl⟩) (ob_preV (ci := 4) (q0 := 0) (hP.sub [0, 1, 2, 3, 4, 5, 6, 7, 8, 9, 10, 11, 12, 13, 14, 15, 16] rfl) hk rfl rfl) rfl rfl hl.1 rfl (lv_room (Nat.le_of_ble_eq_true rfl)) dL_areClocks_244 ⟨Nat.le_of_ble_eq_true rfl, Nat.le_of_ble_eq_true rfl⟩)) (fun r9 hr9 => ?_)
                subst hr9
                refine lv_aload_n hx hb dL_areClocks_247 rfl (lv_at hl 1 rfl) ?_
                refine lv_iconst (v := nI 5) hx hb dL_areClocks_248 (by decide) ?_
                refine lv_iload hx hb dL_areClocks_249 (lv_at hl 4 rfl) ?_
                refine lv_imul hx hb dL_areClocks_251 ?_
                rw [show (nI 5) * (nI k) = nI (5 * k) from pk_mul _ _]
                refine lv_iconst (v := nI 4) hx hb dL_areClocks_252 (by decide) ?_
                refine lv_iadd hx hb dL_areClocks_253 ?_
                rw [show (nI (5 * k)) + (nI 4) = nI ((5 * k) + 4) from nI_add _ _]
                refine ob_iald hx hb hK hP 17 0 rfl rfl (by omega) (by decide) dL_areClocks_254 ?_
                rw [show fe ((5 * k) + 4) = nI z from ez]
                refine lv_aload_n hx hb dL_areClocks_255 rfl (lv_at hl 1 rfl) ?_
                refine lv_iconst (v := nI 5) hx hb dL_areClocks_256 (by decide) ?_
                refine lv_iload hx hb dL_areClocks_257 (lv_at hl 4 rfl) ?_
                refine lv_imul hx hb dL_areClocks_259 ?_
                rw [show (nI 5) * (nI k) = nI (5 * k) from pk_mul _ _]
                refine lv_iconst (v := nI 1) hx hb dL_areClocks_260 (by decide) ?_
                refine lv_iadd hx hb dL_areClocks_261 ?_
                rw [show (nI (5 * k)) + (nI 1) = nI ((5 * k) + 1) from nI_add _ _]
                refine ob_iald hx hb hK hP 17 0 rfl rfl (by omega) (by decide) dL_areClocks_262 ?_
                rw [show fe ((5 * k) + 1) = nI a from ea]
                refine lv_iadd hx hb dL_areClocks_263 ?_
                rw [show (nI z) + (nI a) = nI (z + a) from nI_add _ _]
                refine lv_aload_n hx hb dL_areClocks_264 rfl (lv_at hl 1 rfl) ?_
                refine lv_iconst (v := nI 5) hx hb dL_areClocks_265 (by decide) ?_
                refine lv_iload hx hb dL_areClocks_266 (lv_at hl 4 rfl) ?_
                refine lv_imul hx hb dL_areClocks_268 ?_
                rw [show (nI 5) * (nI k) = nI (5 * k) from pk_mul _ _]
                refine lv_iconst (v := nI 3) hx hb dL_areClocks_269 (by decide) ?_
                refine lv_iadd hx hb dL_areClocks_270 ?_
                rw [show (nI (5 * k)) + (nI 3) = nI ((5 * k) + 3) from nI_add _ _]
                refine ob_iald hx hb hK hP 17 0 rfl rfl (by omega) (by decide) dL_areClocks_271 ?_
                rw [show fe ((5 * k) + 3) = nI b from eb]
                refine lv_isub hx hb dL_areClocks_272 ?_
                refine lv_icmp_gt (tgt := 280) hx hb dL_areClocks_273 (by decide) (fun c273 => ?_) (fun c273 => ?_)
                · first | exact absurd c226 (ob_mk1 ha hb9 hz9 m1) | exact absurd c273 (ob_mk2 ha hb9 hz9 m2)
                · refine lv_iconst (v := nI 1) hx hb dL_areClocks_276 (by decide) ?_
                  refine lv_goto (tgt := 281) hx hb dL_areClocks_277 (by decide) ?_
                  refine lv_istore_n (lv' := [(3, .int (nI 1)), (0, .ref ax), (1, .ref xe), (2, .int (nI mk)), (4, .int (nI k))]) hx hb dL_areClocks_281 rfl hl (by decide) rfl (fun ls hl => ?_)
                  refine ob_inc (k := 4) (lv' := [(4, .int (nI (k + 1))), (3, .int (nI 1)), (0, .ref ax), (1, .ref xe), (2, .int (nI mk))]) hx hb dL_areClocks_282 hl rfl (by decide) rfl (fun ls hl => ?_)
                  refine lv_goto (tgt := 172) hx hb dL_areClocks_285 (by decide) ?_
                  exact ih172 (k + 1) (by omega) (by omega) _ (lv_sub hl [2, 3, 4, 1, 0] rfl)
        exact k172 _ 0 (Nat.lt_succ_self _) (by omega) _ (lv_sub hl [1, 2, 3, 4, 0] rfl)
      · refine lv_iload_n hx hb dL_areClocks_12 rfl (lv_at hl 3 rfl) ?_
        refine lv_if_eq (tgt := 169) hx hb dL_areClocks_13 (by decide) (fun c9 => absurd c9 (by decide)) (fun _ => ?_)
        refine lv_iload hx hb dL_areClocks_16 (lv_at hl 4 rfl) ?_
        refine lv_bipush (v := nI 25) hx hb dL_areClocks_18 (by decide) ?_
        refine lv_idiv hx hb dL_areClocks_20 (by decide) ?_
        rw [show (nI k) / (nI 25) = nI (k / 25) from pk_div (by omega) (by omega) (by omega)]
        refine lv_istore (lv' := [(5, .int (nI (k / 25))), (0, .ref ax), (1, .ref xe), (2, .int (nI mk)), (3, .int (nI 1)), (4, .int (nI k))]) hx hb dL_areClocks_21 hl (by decide) rfl (fun ls hl => ?_)
        refine lv_iload hx hb dL_areClocks_23 (lv_at hl 5 rfl) ?_
        refine lv_iconst (v := nI 5) hx hb dL_areClocks_25 (by decide) ?_
        refine lv_idiv hx hb dL_areClocks_26 (by decide) ?_
        rw [show (nI k) / (nI 5) = nI (k / 5) from pk_div (by omega) (by omega) (by omega)]
        refine lv_iconst (v := nI 5) hx hb dL_areClocks_27 (by decide) ?_
        refine lv_irem hx hb dL_areClocks_28 (by decide) ?_
        rw [show (nI (k / 5)) - (nI (k / 5)) / (nI 5) * (nI 5) = nI ((k / 5) % 5) from pk_rem (by omega) (by omega) (by omega)]
        refine lv_istore (lv' := [(6, .int (nI ((k / 5) % 5))), (5, .int (nI (k / 25))), (0, .ref ax), (1, .ref xe), (2, .int (nI mk)), (3, .int (nI 1)), (4, .int (nI k))]) hx hb dL_areClocks_29 hl (by decide) rfl (fun ls hl => ?_)
        refine lv_iload hx hb dL_areClocks_31 (lv_at hl 6 rfl) ?_
        refine lv_iconst (v := nI 5) hx hb dL_areClocks_33 (by decide) ?_
        refine lv_irem hx hb dL_areClocks_34 (by decide) ?_
        rw [show (nI k) - (nI k) / (nI 5) * (nI 5) = nI (k % 5) from pk_rem (by omega) (by omega) (by omega)]
        refine lv_istore (lv' := [(7, .int (nI (k % 5))), (6, .int (nI ((k / 5) % 5))), (5, .int (nI (k / 25))), (0, .ref ax), (1, .ref xe), (2, .int (nI mk)), (3, .int (nI 1)), (4, .int (nI k))]) hx hb dL_areClocks_35 hl (by decide) rfl (fun ls hl => ?_)
        obtain ⟨a, ea⟩ : ∃ z, z = k / 25 := ⟨_, rfl⟩
        obtain ⟨b, eb⟩ : ∃ z, z = k / 5 % 5 := ⟨_, rfl⟩
        obtain ⟨d, ed⟩ : ∃ z, z = k % 5 := ⟨_, rfl⟩
        rw [← ea, ← eb, ← ed] at hl
        have ha : a ≤ 4 := by omega
        have hb4 : b ≤ 4 := by omega
        have hd4 : d ≤ 4 := by omega
        refine lv_aload_n hx hb dL_areClocks_37 rfl (lv_at hl 3 rfl) ?_
        refine lv_iload hx hb dL_areClocks_38 (lv_at hl 2 rfl) ?_
        refine lv_iload hx hb dL_areClocks_40 (lv_at hl 1 rfl) ?_
        refine vp_callSi (va_Run.run (va_runV (As := [.int (nI (a)), .int (nI (b))]) (rest := []) ⟨hx, hb, hml, hown, hts⟩ (n_X4_greatest l D t ax ao al am ac M n cl rd sv pb ba bf od bg a b (by first | assumption | omega) (by first | assumption | omega)) (cwV 2 hts gL_areClocks_X4_greatest rfl rfl rfl (by decide +kernel) ⟨Nat.le_of_ble_eq_true rfl, Nat.le_of_ble_eq_true rfl⟩) (ob_preV (ci := 4) (q0 := 0) (hP.sub [0, 1, 2, 3, 4, 5, 6, 7, 8, 9, 10, 11, 12, 13, 14, 15, 16] rfl) hk rfl rfl) rfl rfl hl.1 rfl (lv_room (Nat.le_of_ble_eq_true rfl)) dL_areClocks_42 ⟨Nat.le_of_ble_eq_true rfl, Nat.le_of_ble_eq_true rfl⟩)) (fun r9 hr9 => ?_)
        subst hr9
        refine lv_istore (lv' := [(8, .int (M a b)), (7, .int (nI (d))), (6, .int (nI (b))), (5, .int (nI (a))), (0, .ref ax), (1, .ref xe), (2, .int (nI mk)), (3, .int (nI 1)), (4, .int (nI k))]) hx hb dL_areClocks_45 hl (by decide) rfl (fun ls hl => ?_)
        refine lv_aload_n hx hb dL_areClocks_47 rfl (lv_at hl 4 rfl) ?_
        refine lv_iload hx hb dL_areClocks_48 (lv_at hl 3 rfl) ?_
        refine lv_iload hx hb dL_areClocks_50 (lv_at hl 1 rfl) ?_
        refine vp_callSi (va_Run.run (va_runV (As := [.int (nI (a)), .int (nI (d))]) (rest := []) ⟨hx, hb, hml, hown, hts⟩ (n_X4_greatest l D t ax ao al am ac M n cl rd sv pb ba bf od bg a d (by first | assumption | omega) (by first | assumption | omega)) (cwV 2 hts gL_areClocks_X4_greatest rfl rfl rfl (by decide +kernel) ⟨Nat.le_of_ble_eq_true rfl, Nat.le_of_ble_eq_true rfl⟩) (ob_preV (ci := 4) (q0 := 0) (hP.sub [0, 1, 2, 3, 4, 5, 6, 7, 8, 9, 10, 11, 12, 13, 14, 15, 16] rfl) hk rfl rfl) rfl rfl hl.1 rfl (lv_room (Nat.le_of_ble_eq_true rfl)) dL_areClocks_52 ⟨Nat.le_of_ble_eq_true rfl, Nat.le_of_ble_eq_true rfl⟩)) (fun r9 hr9 => ?_)
        subst hr9
        refine lv_istore (lv' := [(9, .int (M a d)), (8, .int (M a b)), (7, .int (nI (d))), (6, .int (nI (b))), (5, .int (nI (a))), (0, .ref ax), (1, .ref xe), (2, .int (nI mk)), (3, .int (nI 1)), (4, .int (nI k))]) hx hb dL_areClocks_55 hl (by decide) rfl (fun ls hl => ?_)
        refine lv_aload_n hx hb dL_areClocks_57 rfl (lv_at hl 5 rfl) ?_
        refine lv_iload hx hb dL_areClocks_58 (lv_at hl 2 rfl) ?_
        refine lv_iload hx hb dL_areClocks_60 (lv_at hl 3 rfl) ?_
        refine vp_callSi (va_Run.run (va_runV (As := [.int (nI (d)), .int (nI (b))]) (rest := []) ⟨hx, hb, hml, hown, hts⟩ (n_X4_greatest l D t ax ao al am ac M n cl rd sv pb ba bf od bg d b (by first | assumption | omega) (by first | assumption | omega)) (cwV 2 hts gL_areClocks_X4_greatest rfl rfl rfl (by decide +kernel) ⟨Nat.le_of_ble_eq_true rfl, Nat.le_of_ble_eq_true rfl⟩) (ob_preV (ci := 4) (q0 := 0) (hP.sub [0, 1, 2, 3, 4, 5, 6, 7, 8, 9, 10, 11, 12, 13, 14, 15, 16] rfl) hk rfl rfl) rfl rfl hl.1 rfl (lv_room (Nat.le_of_ble_eq_true rfl)) dL_areClocks_62 ⟨Nat.le_of_ble_eq_true rfl, Nat.le_of_ble_eq_true rfl⟩)) (fun r9 hr9 => ?_)
        subst hr9
        refine lv_istore (lv' := [(10, .int (M d b)), (9, .int (M a d)), (8, .int (M a b)), (7, .int (nI (d))), (6, .int (nI (b))), (5, .int (nI (a))), (0, .ref ax), (1, .ref xe), (2, .int (nI mk)), (3, .int (nI 1)), (4, .int (nI k))]) hx hb dL_areClocks_65 hl (by decide) rfl (fun ls hl => ?_)
        have k79 : ∀ ls : Array Slot, lv_has ls 11 [(0, .ref ax), (1, .ref xe), (2, .int (nI mk)), (3, .int (nI 1)), (4, .int (nI k)), (5, .int (nI a)), (6, .int (nI b)), (7, .int (nI d)), (8, .int (M a b)), (9, .int (M a d)), (10, .int (M d b))] → W p l e (headSpec wsL_areClocks ({ frames := 4, cells := 0, slots := 0, locals := 86 } : Room)).room s m ([.ref ax, .ref xe, .int (nI mk)] : List Value).toArray below meth c s.heap [] 0 0 (MQ below (vp_Si (fun r : Int32 => r = nI 1)) ([.ref ax, .ref xe, .int (nI mk)] : List Value).toArray s 0 0 (fun _ => False)) (F0 m 79 ls []) := by
          intro   ls hl
          have k112 : ∀ ls : Array Slot, lv_has ls 11 [(0, .ref ax), (1, .ref xe), (2, .int (nI mk)), (3, .int (nI 1)), (4, .int (nI k)), (5, .int (nI a)), (6, .int (nI b)), (7, .int (nI d)), (8, .int (M a b)), (9, .int (M a d)), (10, .int (M d b))] → W p l e (headSpec wsL_areClocks ({ frames := 4, cells := 0, slots := 0, locals := 86 } : Room)).room s m ([.ref ax, .ref xe, .int (nI mk)] : List Value).toArray below meth c s.heap [] 0 0 (MQ below (vp_Si (fun r : Int32 => r = nI 1)) ([.ref ax, .ref xe, .int (nI mk)] : List Value).toArray s 0 0 (fun _ => False)) (F0 m 112 ls []) := by
            intro   ls hl
            have k136 : ∀ ls : Array Slot, lv_has ls 11 [(0, .ref ax), (1, .ref xe), (2, .int (nI mk)), (3, .int (nI 1)), (4, .int (nI k)), (5, .int (nI a)), (6, .int (nI b)), (7, .int (nI d)), (8, .int (M a b)), (9, .int (M a d)), (10, .int (M d b))] → W p l e (headSpec wsL_areClocks ({ frames := 4, cells := 0, slots := 0, locals := 86 } : Room)).room s m ([.ref ax, .ref xe, .int (nI mk)] : List Value).toArray below meth c s.heap [] 0 0 (MQ below (vp_Si (fun r : Int32 => r = nI 1)) ([.ref ax, .ref xe, .int (nI mk)] : List Value).toArray s 0 0 (fun _ => False)) (F0 m 136 ls []) := by
              intro   ls hl
              have k157 : ∀ ls : Array Slot, lv_has ls 11 [(0, .ref ax), (1, .ref xe), (2, .int (nI mk)), (3, .int (nI 1)), (4, .int (nI k)), (5, .int (nI a)), (6, .int (nI b)), (7, .int (nI d)), (8, .int (M a b)), (9, .int (M a d)), (10, .int (M d b))] → W p l e (headSpec wsL_areClocks ({ frames := 4, cells := 0, slots := 0, locals := 86 } : Room)).room s m ([.ref ax, .ref xe, .int (nI mk)] : List Value).toArray below meth c s.heap [] 0 0 (MQ below (vp_Si (fun r : Int32 => r = nI 1)) ([.ref ax, .ref xe, .int (nI mk)] : List Value).toArray s 0 0 (fun _ => False)) (F0 m 157 ls []) := by
                intro   ls hl
                refine lv_iconst (v := nI 1) hx hb dL_areClocks_157 (by decide) ?_
                refine lv_goto (tgt := 162) hx hb dL_areClocks_158 (by decide) ?_
                refine lv_istore_n (lv' := [(3, .int (nI 1)), (0, .ref ax), (1, .ref xe), (2, .int (nI mk)), (4, .int (nI k)), (5, .int (nI a)), (6, .int (nI b)), (7, .int (nI d)), (8, .int (M a b)), (9, .int (M a d)), (10, .int (M d b))]) hx hb dL_areClocks_162 rfl hl (by decide) rfl (fun ls hl => ?_)
                refine ob_inc (k := 4) (lv' := [(4, .int (nI (k + 1))), (3, .int (nI 1)), (0, .ref ax), (1, .ref xe), (2, .int (nI mk)), (5, .int (nI a)), (6, .int (nI b)), (7, .int (nI d)), (8, .int (M a b)), (9, .int (M a d)), (10, .int (M d b))]) hx hb dL_areClocks_163 hl rfl (by decide) rfl (fun ls hl => ?_)
                refine lv_goto (tgt := 5) hx hb dL_areClocks_166 (by decide) ?_
                exact ih5 (k + 1) (by omega) (by omega) _ (lv_sub hl [2, 3, 4, 1, 0] rfl)
              refine lv_iload hx hb dL_areClocks_136 (lv_at hl 8 rfl) ?_
              refine lv_ldc (v := 1000000) hx hb hown (hts (Cond.constant RL 111 (1000000)) (List.mem_of_getElem? (i := 1) rfl)) dL_areClocks_138 ?_
              refine lv_icmp_eq (tgt := 157) hx hb dL_areClocks_140 (by decide) (fun c140 => ?_) (fun c140 => ?_)
              · exact k157   _ (lv_sub hl [0, 1, 2, 3, 4, 5, 6, 7, 8, 9, 10] rfl)
              · refine lv_iload hx hb dL_areClocks_143 (lv_at hl 8 rfl) ?_
                refine lv_aload_n hx hb dL_areClocks_145 rfl (lv_at hl 0 rfl) ?_
                refine lv_iload hx hb dL_areClocks_146 (lv_at hl 6 rfl) ?_
                refine lv_iload hx hb dL_areClocks_148 (lv_at hl 5 rfl) ?_
                refine vp_callSi (va_Run.run (va_runV (As := [.int (nI b), .int (nI a)]) (rest := [.int (M a b)]) ⟨hx, hb, hml, hown, hts⟩ (n_X4_greatest l D t ax ao al am ac M n cl rd sv pb ba bf od bg b a (by first | assumption | omega) (by first | assumption | omega)) (cwV 2 hts gL_areClocks_X4_greatest rfl rfl rfl (by decide +kernel) ⟨Nat.le_of_ble_eq_true rfl, Nat.le_of_ble_eq_true rfl⟩) (ob_preV (ci := 4) (q0 := 0) (hP.sub [0, 1, 2, 3, 4, 5, 6, 7, 8, 9, 10, 11, 12, 13, 14, 15, 16] rfl) hk rfl rfl) rfl rfl hl.1 rfl (lv_room (Nat.le_of_ble_eq_true rfl)) dL_areClocks_150 ⟨Nat.le_of_ble_eq_true rfl, Nat.le_of_ble_eq_true rfl⟩)) (fun r9 hr9 => ?_)
                subst hr9
                refine lv_iadd hx hb dL_areClocks_153 ?_
                refine lv_if_lt (tgt := 161) hx hb dL_areClocks_154 (by decide) (fun c154 => ?_) (fun c154 => ?_)
                · first | exact absurd (ob_km0 hM ha) (c71 ▸ c76) | exact absurd (ob_kmU hM ha hb4 c83) c101 | exact absurd (ob_kmU hM hb4 ha c101) c83 | exact absurd c133 (ob_kmT hM ha hb4 hd4 c116 c123) | exact absurd c154 (ob_kmN hM ha hb4 c140)
                · exact k157   _ (lv_sub hl [0, 1, 2, 3, 4, 5, 6, 7, 8, 9, 10] rfl)
            refine lv_iload hx hb dL_areClocks_112 (lv_at hl 9 rfl) ?_
            refine lv_ldc (v := 1000000) hx hb hown (hts (Cond.constant RL 111 (1000000)) (List.mem_of_getElem? (i := 1) rfl)) dL_areClocks_114 ?_
            refine lv_icmp_eq (tgt := 136) hx hb dL_areClocks_116 (by decide) (fun c116 => ?_) (fun c116 => ?_)
            · exact k136   _ (lv_sub hl [0, 1, 2, 3, 4, 5, 6, 7, 8, 9, 10] rfl)
            · refine lv_iload hx hb dL_areClocks_119 (lv_at hl 10 rfl) ?_
              refine lv_ldc (v := 1000000) hx hb hown (hts (Cond.constant RL 111 (1000000)) (List.mem_of_getElem? (i := 1) rfl)) dL_areClocks_121 ?_
              refine lv_icmp_eq (tgt := 136) hx hb dL_areClocks_123 (by decide) (fun c123 => ?_) (fun c123 => ?_)
              · exact k136   _ (lv_sub hl [0, 1, 2, 3, 4, 5, 6, 7, 8, 9, 10] rfl)
              · refine lv_iload hx hb dL_areClocks_126 (lv_at hl 8 rfl) ?_
                refine lv_iload hx hb dL_areClocks_128 (lv_at hl 9 rfl) ?_
                refine lv_iload hx hb dL_areClocks_130 (lv_at hl 10 rfl) ?_
                refine lv_iadd hx hb dL_areClocks_132 ?_
                refine lv_icmp_gt (tgt := 161) hx hb dL_areClocks_133 (by decide) (fun c133 => ?_) (fun c133 => ?_)
                · first | exact absurd (ob_km0 hM ha) (c71 ▸ c76) | exact absurd (ob_kmU hM ha hb4 c83) c101 | exact absurd (ob_kmU hM hb4 ha c101) c83 | exact absurd c133 (ob_kmT hM ha hb4 hd4 c116 c123) | exact absurd c154 (ob_kmN hM ha hb4 c140)
                · exact k136   _ (lv_sub hl [0, 1, 2, 3, 4, 5, 6, 7, 8, 9, 10] rfl)
          refine lv_iload hx hb dL_areClocks_79 (lv_at hl 8 rfl) ?_
          refine lv_ldc (v := 1000000) hx hb hown (hts (Cond.constant RL 111 (1000000)) (List.mem_of_getElem? (i := 1) rfl)) dL_areClocks_81 ?_
          refine lv_icmp_ne (tgt := 90) hx hb dL_areClocks_83 (by decide) (fun c83 => ?_) (fun c83 => ?_)
          · refine lv_iconst (v := nI 0) hx hb dL_areClocks_90 (by decide) ?_
            refine lv_aload_n hx hb dL_areClocks_91 rfl (lv_at hl 0 rfl) ?_
            refine lv_iload hx hb dL_areClocks_92 (lv_at hl 6 rfl) ?_
            refine lv_iload hx hb dL_areClocks_94 (lv_at hl 5 rfl) ?_
            refine vp_callSi (va_Run.run (va_runV (As := [.int (nI b), .int (nI a)]) (rest := [.int (nI 0)]) ⟨hx, hb, hml, hown, hts⟩ (n_X4_greatest l D t ax ao al am ac M n cl rd sv pb ba bf od bg b a (by first | assumption | omega) (by first | assumption | omega)) (cwV 2 hts gL_areClocks_X4_greatest rfl rfl rfl (by decide +kernel) ⟨Nat.le_of_ble_eq_true rfl, Nat.le_of_ble_eq_true rfl⟩) (ob_preV (ci := 4) (q0 := 0) (hP.sub [0, 1, 2, 3, 4, 5, 6, 7, 8, 9, 10, 11, 12, 13, 14, 15, 16] rfl) hk rfl rfl) rfl rfl hl.1 rfl (lv_room (Nat.le_of_ble_eq_true rfl)) dL_areClocks_96 ⟨Nat.le_of_ble_eq_true rfl, Nat.le_of_ble_eq_true rfl⟩)) (fun r9 hr9 => ?_)
            subst hr9
            refine lv_ldc (v := 1000000) hx hb hown (hts (Cond.constant RL 111 (1000000)) (List.mem_of_getElem? (i := 1) rfl)) dL_areClocks_99 ?_
            refine lv_icmp_ne (tgt := 108) hx hb dL_areClocks_101 (by decide) (fun c101 => ?_) (fun c101 => ?_)
            · refine lv_iconst (v := nI 0) hx hb dL_areClocks_108 (by decide) ?_
              refine lv_icmp_ne (tgt := 161) hx hb dL_areClocks_109 (by decide) (fun c9 => absurd c9 (by decide)) (fun _ => ?_)
              exact k112   _ (lv_sub hl [0, 1, 2, 3, 4, 5, 6, 7, 8, 9, 10] rfl)
            · refine lv_iconst (v := nI 1) hx hb dL_areClocks_104 (by decide) ?_
              refine lv_goto (tgt := 109) hx hb dL_areClocks_105 (by decide) ?_
              refine lv_icmp_ne (tgt := 161) hx hb dL_areClocks_109 (by decide) (fun _ => ?_) (fun c9 => absurd c9 (by decide))
              first | exact absurd (ob_km0 hM ha) (c71 ▸ c76) | exact absurd (ob_kmU hM ha hb4 c83) c101 | exact absurd (ob_kmU hM hb4 ha c101) c83 | exact absurd c133 (ob_kmT hM ha hb4 hd4 c116 c123) | exact absurd c154 (ob_kmN hM ha hb4 c140)
          · refine lv_iconst (v := nI 1) hx hb dL_areClocks_86 (by decide) ?_
            refine lv_goto (tgt := 91) hx hb dL_areClocks_87 (by decide) ?_
            refine lv_aload_n hx hb dL_areClocks_91 rfl (lv_at hl 0 rfl) ?_
            refine lv_iload hx hb dL_areClocks_92 (lv_at hl 6 rfl) ?_
            refine lv_iload hx hb dL_areClocks_94 (lv_at hl 5 rfl) ?_
            refine vp_callSi (va_Run.run (va_runV (As := [.int (nI b), .int (nI a)]) (rest := [.int (nI 1)]) ⟨hx, hb, hml, hown, hts⟩ (n_X4_greatest l D t ax ao al am ac M n cl rd sv pb ba bf od bg b a (by first | assumption | omega) (by first | assumption | omega)) (cwV 2 hts gL_areClocks_X4_greatest rfl rfl rfl (by decide +kernel) ⟨Nat.le_of_ble_eq_true rfl, Nat.le_of_ble_eq_true rfl⟩) (ob_preV (ci := 4) (q0 := 0) (hP.sub [0, 1, 2, 3, 4, 5, 6, 7, 8, 9, 10, 11, 12, 13, 14, 15, 16] rfl) hk rfl rfl) rfl rfl hl.1 rfl (lv_room (Nat.le_of_ble_eq_true rfl)) dL_areClocks_96 ⟨Nat.le_of_ble_eq_true rfl, Nat.le_of_ble_eq_true rfl⟩)) (fun r9 hr9 => ?_)
            subst hr9
            refine lv_ldc (v := 1000000) hx hb hown (hts (Cond.constant RL 111 (1000000)) (List.mem_of_getElem? (i := 1) rfl)) dL_areClocks_99 ?_
            refine lv_icmp_ne (tgt := 108) hx hb dL_areClocks_101 (by decide) (fun c101 => ?_) (fun c101 => ?_)
            · refine lv_iconst (v := nI 0) hx hb dL_areClocks_108 (by decide) ?_
              refine lv_icmp_ne (tgt := 161) hx hb dL_areClocks_109 (by decide) (fun _ => ?_) (fun c9 => absurd c9 (by decide))
              first | exact absurd (ob_km0 hM ha) (c71 ▸ c76) | exact absurd (ob_kmU hM ha hb4 c83) c101 | exact absurd (ob_kmU hM hb4 ha c101) c83 | exact absurd c133 (ob_kmT hM ha hb4 hd4 c116 c123) | exact absurd c154 (ob_kmN hM ha hb4 c140)
            · refine lv_iconst (v := nI 1) hx hb dL_areClocks_104 (by decide) ?_
              refine lv_goto (tgt := 109) hx hb dL_areClocks_105 (by decide) ?_
              refine lv_icmp_ne (tgt := 161) hx hb dL_areClocks_109 (by decide) (fun c9 => absurd c9 (by decide)) (fun _ => ?_)
              exact k112   _ (lv_sub hl [0, 1, 2, 3, 4, 5, 6, 7, 8, 9, 10] rfl)
        refine lv_iload hx hb dL_areClocks_67 (lv_at hl 5 rfl) ?_
        refine lv_iload hx hb dL_areClocks_69 (lv_at hl 4 rfl) ?_
        refine ob_icmp_ne (tgt := 79) hx hb (by omega) (by omega) dL_areClocks_71 (by decide) (fun c71 => ?_) (fun c71 => ?_)
        · exact k79   _ (lv_sub hl [6, 7, 8, 9, 10, 5, 4, 3, 2, 1, 0] rfl)
        · refine lv_iload hx hb dL_areClocks_74 (lv_at hl 2 rfl) ?_
          refine lv_if_ne (tgt := 161) hx hb dL_areClocks_76 (by decide) (fun c76 => ?_) (fun c76 => ?_)
          · first | exact absurd (ob_km0 hM ha) (c71 ▸ c76) | exact absurd (ob_kmU hM ha hb4 c83) c101 | exact absurd (ob_kmU hM hb4 ha c101) c83 | exact absurd c133 (ob_kmT hM ha hb4 hd4 c116 c123) | exact absurd c154 (ob_kmN hM ha hb4 c140)
          · exact k79   _ (lv_sub hl [6, 7, 8, 9, 10, 5, 4, 3, 2, 1, 0] rfl)
  exact k5 _ 0 (Nat.lt_succ_self _) (by omega) _ (lv_sub hl [2, 3, 4, 1, 0] rfl)
