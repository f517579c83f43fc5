theorem ob_dXOLMCV {ax : Nat} {ao : Nat → Nat} {al : Nat → Nat} {am : Nat → Nat} {ac : Nat → Nat} {t : Nat → ClassId} {M : Nat → Nat → Int32} {n : Nat} {cl : Nat → Int32} {rd : Nat → Int32} {sv : Nat → Int32} {pb : Nat → Int32} {ba : Nat → Int32} {bf : Nat → Int32} {od : Nat → Int32} {bg : Nat → Int64} {mn : Nat} {ms : Nat → Int32} {mf : Nat → Int32} {mt : Nat → Int32} {mp : Nat → Int32} {cn : Nat} {st : Int32} {Wt : Nat → Nat → Int32} {xm : Nat} {fm : Nat → Int32} {M' : Nat → Nat → Int32} {n' : Nat} {cl' : Nat → Int32} {rd' : Nat → Int32} {sv' : Nat → Int32} {pb' : Nat → Int32} {ba' : Nat → Int32} {bf' : Nat → Int32} {od' : Nat → Int32} {bg' : Nat → Int64} {mn' : Nat} {ms' : Nat → Int32} {mf' : Nat → Int32} {mt' : Nat → Int32} {mp' : Nat → Int32} {cn' : Nat} {st' : Int32} {Wt' : Nat → Nat → Int32} {fm' : Nat → Int32} {A : Nat → Prop} (h : va_D A (ob_wX ax ao al am ac ++ ob_wO t ao M ++ ob_wL t al n cl rd sv pb ba bf od bg ++ ob_wM t am mn ms mf mt mp ++ ob_wC t ac cn st Wt ++ ob_wV t xm fm)) : va_D A (ob_wX ax ao al am ac ++ ob_wO t ao M' ++ ob_wL t al n' cl' rd' sv' pb' ba' bf' od' bg' ++ ob_wM t am mn' ms' mf' mt' mp' ++ ob_wC t ac cn' st' Wt' ++ ob_wV t xm fm') := ob_ds h rfl
theorem ob_m1k {k : Nat} (hk : k ≤ 1000) : ((-1 : Int32) - nI k).toInt = -1 - (k : Int) := by
  have h1 : (-1 : Int32).toInt = -1 := rfl
  have h2 := ob_ti (show k ≤ 1073741824 by omega)
  rw [ob_subI (by omega) (by omega), h1, h2]
theorem ob_m1n {k : Nat} (hk : k ≤ 1000) : (-1 : Int32) - nI k < 0 := by
  rw [ob_lti, ob_m1k hk, ob_0I]
  omega
theorem ob_wlo {k : Nat} {hi : Int32} (hk : k ≤ 1000) : ob_wi ((-1 : Int32) - nI k) (nI 0) hi = false := ob_wi_lo (ob_m1n hk)
theorem ob_whi {k b : Nat} {lo : Int32} (h : b < k) (hk : k ≤ 1000000) : ob_wi (nI k) lo (nI b) = false := ob_wi_hi ((ob_ltN (by omega) (by omega)).mpr h)
theorem ob_wm1 {hi : Int32} : ob_wi (-1) (nI 0) hi = false := ob_wi_lo (by decide)
theorem ob_wsub {k : Nat} {hi : Int32} (hk : k ≤ 30) : ob_wi (nI 49 - nI k) (nI 50) hi = false := by
  refine ob_wi_lo ?_
  have h1 := ob_ti (show 49 ≤ 1073741824 by omega)
  have h2 := ob_ti (show k ≤ 1073741824 by omega)
  have h3 := ob_ti (show 50 ≤ 1073741824 by omega)
  rw [ob_lti, ob_subI (by omega) (by omega)]
  omega
theorem ob_w01 {hi : Int32} : ob_wi (nI 0) (nI 1) hi = false := ob_wi_lo (by decide)
set_option maxRecDepth 100000 in
set_option maxHeartbeats 16000000 in
theorem c_L_isRefused (l : Launch) (hl9 : l.stackTraces = false) (sa : Nat → Nat) (D : va_G) (t : Nat → ClassId) (sz : Nat) (ax : Nat) (ao al am ac : Nat → Nat) (M : Nat → Nat → Int32) (n : Nat) (cl rd sv pb ba bf od : Nat → Int32) (bg : Nat → Int64) (mn : Nat) (ms mf mt mp : Nat → Int32) (cn : Nat) (st : Int32) (Wt : Nat → Nat → Int32) (xm : Nat) (fm : Nat → Int32) (x : Nat) (hn : n ≤ 12) (hmn : mn ≤ 40) (hcn : cn ≤ 8) (hf0 : fm 0 = nI n) (hf2 : fm 2 = nI cn) (hx9 : x ≤ 1000000000) : Met l yL_isRefused wsL_isRefused ({ frames := 8, cells := 31, slots := 186, locals := 187 } : Room) (ob_PY D t (ob_wX ax ao al am ac ++ ob_wO t ao M ++ ob_wL t al n cl rd sv pb ba bf od bg ++ ob_wM t am mn ms mf mt mp ++ ob_wC t ac cn st Wt ++ ob_wV t xm fm) sz sa [.ref ax, .ref xm, .int (nI x)]) (va_Qi (fun (r : Int32) (_ : Unit) => r = nI 1) (fun (_ : Unit) (t9 : State) => va_P D vwCl (ob_wX ax ao al am ac ++ ob_wO t ao M ++ ob_wL t al n cl rd sv pb ba bf od bg ++ ob_wM t am mn ms mf mt mp ++ ob_wC t ac cn st Wt ++ ob_wV t xm fm) t9.heap) (va_A (ob_wX ax ao al am ac ++ ob_wO t ao M ++ ob_wL t al n cl rd sv pb ba bf od bg ++ ob_wM t am mn ms mf mt mp ++ ob_wC t ac cn st Wt ++ ob_wV t xm fm) sz)) 31 186 (va_A (ob_wX ax ao al am ac ++ ob_wO t ao M ++ ob_wL t al n cl rd sv pb ba bf od bg ++ ob_wM t am mn ms mf mt mp ++ ob_wC t ac cn st Wt ++ ob_wV t xm fm) sz) := by
  refine Met.ofW (cc := cL_isRefused) (maxL := 12) (ret := (some .boolean)) (by decide) rfl ?_
  intro p e s m args below meth c s₁ B hml hv
  obtain ⟨rfl, hsz, hP, hk, hD0, hE0, hN⟩ := hv
  have hx := B.exec
  have hb := B.bytes
  have hr := B.returns
  have hts := atoms_spec (ws := wsL_isRefused) B.pre
  have hown : s.vm.findClass RL = some m.cls := findClass_of_methodNamed B.named
  have hlocks := B.notSynchronized
  have hK := hk.1
  have hD : va_D (va_A (ob_wX ax ao al am ac ++ ob_wO t ao M ++ ob_wL t al n cl rd sv pb ba bf od bg ++ ob_wM t am mn ms mf mt mp ++ ob_wC t ac cn st Wt ++ ob_wV t xm fm) sz) (ob_wX ax ao al am ac ++ ob_wO t ao M ++ ob_wL t al n cl rd sv pb ba bf od bg ++ ob_wM t am mn ms mf mt mp ++ ob_wC t ac cn st Wt ++ ob_wV t xm fm) := hD0.self (sz := sz)
  have hA : ∀ q : Nat, s.heap.size ≤ q → (va_A (ob_wX ax ao al am ac ++ ob_wO t ao M ++ ob_wL t al n cl rd sv pb ba bf od bg ++ ob_wM t am mn ms mf mt mp ++ ob_wC t ac cn st Wt ++ ob_wV t xm fm) sz) q := fun q h => Or.inr (hsz ▸ h)
  have hS : va_S (va_A (ob_wX ax ao al am ac ++ ob_wO t ao M ++ ob_wL t al n cl rd sv pb ba bf od bg ++ ob_wM t am mn ms mf mt mp ++ ob_wC t ac cn st Wt ++ ob_wV t xm fm) sz) s.heap s.heap [] := va_S.rf
  have hl := lv_entry [.ref ax, .ref xm, .int (nI x)] (n := 12) (Nat.le_of_ble_eq_true rfl)
  rw [lg_entry_eq]
  generalize (lg_sl [.ref ax, .ref xm, .int (nI x)] ++ List.replicate (12 - (lg_sl [.ref ax, .ref xm, .int (nI x)]).length) Slot.unset).toArray = ls at hl ⊢
  have hl : lv_has ls 12 [(0, .ref ax), (1, .ref xm), (2, .int (nI x))] := hl
  have hP : va_P D vwCl (ob_wX ax ao al am ac ++ ob_wO t ao M ++ ob_wL t al n cl rd sv pb ba bf od bg ++ ob_wM t am mn ms mf mt mp ++ ob_wC t ac cn st Wt ++ ob_wV t xm fm) s.heap := hP
  have k11 : ∀ (b3 : Bool), ∀ ls : Array Slot, lv_has ls 12 [(0, .ref ax), (1, .ref xm), (2, .int (nI x))] → W p l e (headSpec wsL_isRefused ({ frames := 8, cells := 31, slots := 186, locals := 187 } : Room)).room s m ([.ref ax, .ref xm, .int (nI x)] : List Value).toArray below meth c s.heap [] 0 0 (MQ below (va_Qi (fun (r : Int32) (_ : Unit) => r = nI 1) (fun (_ : Unit) (t9 : State) => va_P D vwCl (ob_wX ax ao al am ac ++ ob_wO t ao M ++ ob_wL t al n cl rd sv pb ba bf od bg ++ ob_wM t am mn ms mf mt mp ++ ob_wC t ac cn st Wt ++ ob_wV t xm fm) t9.heap) (va_A (ob_wX ax ao al am ac ++ ob_wO t ao M ++ ob_wL t al n cl rd sv pb ba bf od bg ++ ob_wM t am mn ms mf mt mp ++ ob_wC t ac cn st Wt ++ ob_wV t xm fm) sz)) ([.ref ax, .ref xm, .int (nI x)] : List Value).toArray s 31 186 (va_A (ob_wX ax ao al am ac ++ ob_wO t ao M ++ ob_wL t al n cl rd sv pb ba bf od bg ++ ob_wM t am mn ms mf mt mp ++ ob_wC t ac cn st Wt ++ ob_wV t xm fm) sz)) (F0 m 11 ls [.int (ob_bi b3)]) := by
    intro b3  ls hl
    refine lv_istore_n (lv' := [(3, .int (ob_bi b3)), (0, .ref ax), (1, .ref xm), (2, .int (nI x))]) hx hb dL_isRefused_11 rfl hl (by decide) rfl (fun ls hl => ?_)
    have k31 : ∀ (z5 : Int32), (ob_wi z5 (nI 0) (nI 4) = false) → ∀ ls : Array Slot, lv_has ls 12 [(0, .ref ax), (1, .ref xm), (2, .int (nI x)), (3, .int (ob_bi b3))] → W p l e (headSpec wsL_isRefused ({ frames := 8, cells := 31, slots := 186, locals := 187 } : Room)).room s m ([.ref ax, .ref xm, .int (nI x)] : List Value).toArray below meth c s.heap [] 0 0 (MQ below (va_Qi (fun (r : Int32) (_ : Unit) => r = nI 1) (fun (_ : Unit) (t9 : State) => va_P D vwCl (ob_wX ax ao al am ac ++ ob_wO t ao M ++ ob_wL t al n cl rd sv pb ba bf od bg ++ ob_wM t am mn ms mf mt mp ++ ob_wC t ac cn st Wt ++ ob_wV t xm fm) t9.heap) (va_A (ob_wX ax ao al am ac ++ ob_wO t ao M ++ ob_wL t al n cl rd sv pb ba bf od bg ++ ob_wM t am mn ms mf mt mp ++ ob_wC t ac cn st Wt ++ ob_wV t xm fm) sz)) ([.ref ax, .ref xm, .int (nI x)] : List Value).toArray s 31 186 (va_A (ob_wX ax ao al am ac ++ ob_wO t ao M ++ ob_wL t al n cl rd sv pb ba bf od bg ++ ob_wM t am mn ms mf mt mp ++ ob_wC t ac cn st Wt ++ ob_wV t xm fm) sz)) (F0 m 31 ls [.int z5]) := by
      intro z5 h5 ls hl
      refine lv_istore (lv' := [(4, .int z5), (0, .ref ax), (1, .ref xm), (2, .int (nI x)), (3, .int (ob_bi b3))]) hx hb dL_isRefused_31 hl (by decide) rfl (fun ls hl => ?_)
      have k53 : ∀ (z6 : Int32), (ob_wi z6 (nI 0) (nI 5) = false) → ∀ ls : Array Slot, lv_has ls 12 [(0, .ref ax), (1, .ref xm), (2, .int (nI x)), (3, .int (ob_bi b3)), (4, .int z5)] → W p l e (headSpec wsL_isRefused ({ frames := 8, cells := 31, slots := 186, locals := 187 } : Room)).room s m ([.ref ax, .ref xm, .int (nI x)] : List Value).toArray below meth c s.heap [] 0 0 (MQ below (va_Qi (fun (r : Int32) (_ : Unit) => r = nI 1) (fun (_ : Unit) (t9 : State) => va_P D vwCl (ob_wX ax ao al am ac ++ ob_wO t ao M ++ ob_wL t al n cl rd sv pb ba bf od bg ++ ob_wM t am mn ms mf mt mp ++ ob_wC t ac cn st Wt ++ ob_wV t xm fm) t9.heap) (va_A (ob_wX ax ao al am ac ++ ob_wO t ao M ++ ob_wL t al n cl rd sv pb ba bf od bg ++ ob_wM t am mn ms mf mt mp ++ ob_wC t ac cn st Wt ++ ob_wV t xm fm) sz)) ([.ref ax, .ref xm, .int (nI x)] : List Value).toArray s 31 186 (va_A (ob_wX ax ao al am ac ++ ob_wO t ao M ++ ob_wL t al n cl rd sv pb ba bf od bg ++ ob_wM t am mn ms mf mt mp ++ ob_wC t ac cn st Wt ++ ob_wV t xm fm) sz)) (F0 m 53 ls [.int z6]) := by
        intro z6 h6 ls hl
        refine lv_istore (lv' := [(5, .int z6), (0, .ref ax), (1, .ref xm), (2, .int (nI x)), (3, .int (ob_bi b3)), (4, .int z5)]) hx hb dL_isRefused_53 hl (by decide) rfl (fun ls hl => ?_)
        have k76 : ∀ (z7 : Int32), (ob_wi z7 (nI 0) (nI 10000) = false) → ∀ ls : Array Slot, lv_has ls 12 [(0, .ref ax), (1, .ref xm), (2, .int (nI x)), (3, .int (ob_bi b3)), (4, .int z5), (5, .int z6)] → W p l e (headSpec wsL_isRefused ({ frames := 8, cells := 31, slots := 186, locals := 187 } : Room)).room s m ([.ref ax, .ref xm, .int (nI x)] : List Value).toArray below meth c s.heap [] 0 0 (MQ below (va_Qi (fun (r : Int32) (_ : Unit) => r = nI 1) (fun (_ : Unit) (t9 : State) => va_P D vwCl (ob_wX ax ao al am ac ++ ob_wO t ao M ++ ob_wL t al n cl rd sv pb ba bf od bg ++ ob_wM t am mn ms mf mt mp ++ ob_wC t ac cn st Wt ++ ob_wV t xm fm) t9.heap) (va_A (ob_wX ax ao al am ac ++ ob_wO t ao M ++ ob_wL t al n cl rd sv pb ba bf od bg ++ ob_wM t am mn ms mf mt mp ++ ob_wC t ac cn st Wt ++ ob_wV t xm fm) sz)) ([.ref ax, .ref xm, .int (nI x)] : List Value).toArray s 31 186 (va_A (ob_wX ax ao al am ac ++ ob_wO t ao M ++ ob_wL t al n cl rd sv pb ba bf od bg ++ ob_wM t am mn ms mf mt mp ++ ob_wC t ac cn st Wt ++ ob_wV t xm fm) sz)) (F0 m 76 ls [.int z7]) := by
          intro z7 h7 ls hl
          refine lv_istore (lv' := [(6, .int z7), (0, .ref ax), (1, .ref xm), (2, .int (nI x)), (3, .int (ob_bi b3)), (4, .int z5), (5, .int z6)]) hx hb dL_isRefused_76 hl (by decide) rfl (fun ls hl => ?_)
          have k99 : ∀ (z8 : Int32), (ob_hd n z8 = false) → ∀ ls : Array Slot, lv_has ls 12 [(0, .ref ax), (1, .ref xm), (2, .int (nI x)), (3, .int (ob_bi b3)), (4, .int z5), (5, .int z6), (6, .int z7)] → W p l e (headSpec wsL_isRefused ({ frames := 8, cells := 31, slots := 186, locals := 187 } : Room)).room s m ([.ref ax, .ref xm, .int (nI x)] : List Value).toArray below meth c s.heap [] 0 0 (MQ below (va_Qi (fun (r : Int32) (_ : Unit) => r = nI 1) (fun (_ : Unit) (t9 : State) => va_P D vwCl (ob_wX ax ao al am ac ++ ob_wO t ao M ++ ob_wL t al n cl rd sv pb ba bf od bg ++ ob_wM t am mn ms mf mt mp ++ ob_wC t ac cn st Wt ++ ob_wV t xm fm) t9.heap) (va_A (ob_wX ax ao al am ac ++ ob_wO t ao M ++ ob_wL t al n cl rd sv pb ba bf od bg ++ ob_wM t am mn ms mf mt mp ++ ob_wC t ac cn st Wt ++ ob_wV t xm fm) sz)) ([.ref ax, .ref xm, .int (nI x)] : List Value).toArray s 31 186 (va_A (ob_wX ax ao al am ac ++ ob_wO t ao M ++ ob_wL t al n cl rd sv pb ba bf od bg ++ ob_wM t am mn ms mf mt mp ++ ob_wC t ac cn st Wt ++ ob_wV t xm fm) sz)) (F0 m 99 ls [.int z8]) := by
            intro z8 h8 ls hl
            refine lv_istore (lv' := [(7, .int z8), (0, .ref ax), (1, .ref xm), (2, .int (nI x)), (3, .int (ob_bi b3)), (4, .int z5), (5, .int z6), (6, .int z7)]) hx hb dL_isRefused_99 hl (by decide) rfl (fun ls hl => ?_)
            have k122 : ∀ (z9 : Int32), (ob_hd cn z9 = false) → ∀ ls : Array Slot, lv_has ls 12 [(0, .ref ax), (1, .ref xm), (2, .int (nI x)), (3, .int (ob_bi b3)), (4, .int z5), (5, .int z6), (6, .int z7), (7, .int z8)] → W p l e (headSpec wsL_isRefused ({ frames := 8, cells := 31, slots := 186, locals := 187 } : Room)).room s m ([.ref ax, .ref xm, .int (nI x)] : List Value).toArray below meth c s.heap [] 0 0 (MQ below (va_Qi (fun (r : Int32) (_ : Unit) => r = nI 1) (fun (_ : Unit) (t9 : State) => va_P D vwCl (ob_wX ax ao al am ac ++ ob_wO t ao M ++ ob_wL t al n cl rd sv pb ba bf od bg ++ ob_wM t am mn ms mf mt mp ++ ob_wC t ac cn st Wt ++ ob_wV t xm fm) t9.heap) (va_A (ob_wX ax ao al am ac ++ ob_wO t ao M ++ ob_wL t al n cl rd sv pb ba bf od bg ++ ob_wM t am mn ms mf mt mp ++ ob_wC t ac cn st Wt ++ ob_wV t xm fm) sz)) ([.ref ax, .ref xm, .int (nI x)] : List Value).toArray s 31 186 (va_A (ob_wX ax ao al am ac ++ ob_wO t ao M ++ ob_wL t al n cl rd sv pb ba bf od bg ++ ob_wM t am mn ms mf mt mp ++ ob_wC t ac cn st Wt ++ ob_wV t xm fm) sz)) (F0 m 122 ls [.int z9]) := by
              intro z9 h9 ls hl
              refine lv_istore (lv' := [(8, .int z9), (0, .ref ax), (1, .ref xm), (2, .int (nI x)), (3, .int (ob_bi b3)), (4, .int z5), (5, .int z6), (6, .int z7), (7, .int z8)]) hx hb dL_isRefused_122 hl (by decide) rfl (fun ls hl => ?_)
              refine lv_aload_n hx hb dL_isRefused_124 rfl (lv_at hl 1 rfl) ?_
              refine lv_aload_n hx hb dL_isRefused_125 rfl (lv_at hl 2 rfl) ?_
              refine vp_callSl (va_Run.run (va_runS (As := [.ref ax, .ref xm]) (rest := []) ⟨hx, hb, hml, hown, hts⟩ (c_L_all l D t ax ao al am ac M n cl rd sv pb ba bf od bg mn ms mf mt mp cn st Wt xm fm (by first | assumption | omega) (by first | assumption | omega) (by first | assumption | omega) (by first | assumption | omega) (by first | assumption | omega)) (va_cwS 2 hts gL_isRefused_L_all rfl rfl rfl (by decide +kernel) ⟨Nat.le_of_ble_eq_true rfl, Nat.le_of_ble_eq_true rfl⟩) (ob_preS hP hk) rfl rfl hl.1 rfl (lv_room (Nat.le_of_ble_eq_true rfl)) dL_isRefused_126 ⟨Nat.le_of_ble_eq_true rfl, Nat.le_of_ble_eq_true rfl⟩)) (fun r9 hr9 => ?_)
              subst hr9
              refine lv_lstore (lv' := [(9, .long (ob_all M n pb ba od mn ms mf mt mp cn st Wt)), (8, .int z9), (0, .ref ax), (1, .ref xm), (2, .int (nI x)), (3, .int (ob_bi b3)), (4, .int z5), (5, .int z6), (6, .int z7), (7, .int z8)]) hx hb dL_isRefused_129 hl (by decide) rfl (fun ls hl => ?_)
              refine lv_aload_n hx hb dL_isRefused_131 rfl (lv_at hl 2 rfl) ?_
              refine lv_iload hx hb dL_isRefused_132 (lv_at hl 6 rfl) ?_
              refine lv_iconst (v := nI 5) hx hb dL_isRefused_134 (by decide) ?_
              refine lv_iconst (v := nI 1) hx hb dL_isRefused_135 (by decide) ?_
              refine lv_iconst (v := nI 5) hx hb dL_isRefused_136 (by decide) ?_
              refine lv_iconst (v := nI 5) hx hb dL_isRefused_137 (by decide) ?_
              have hFc := va_free (wc := ob_wX ax ao al am ac ++ ob_wO t ao M ++ ob_wL t al n cl rd sv pb ba bf od bg) hD hS hA [0, 1, 2, 3, 4, 5, 6, 7, 8, 9, 10, 11, 12, 13, 14, 15, 16] rfl
              refine va_calli (ob_runN (vx_runSX (As := [.ref ax, .int z5, .int (nI 5), .int (nI 1), .int (nI 5), .int (nI 5)]) (rest := []) ⟨hx, hb, hml, hown, hts⟩ (y_mark_no0 l hl9 sa D t s.heap.size ax ao al am ac M n cl rd sv pb ba bf od bg z5 (nI 5) (nI 1) (nI 5) (nI 5) (by first | assumption | omega) (by simp only [h5, Bool.false_and, Bool.and_false]; rfl)) (vx_cwSW 6 hts gL_isRefused_L_mark rfl rfl rfl (by decide +kernel) ⟨Nat.le_of_ble_eq_true rfl, Nat.le_of_ble_eq_true rfl⟩) (ob_pYS (hP.sub [0, 1, 2, 3, 4, 5, 6, 7, 8, 9, 10, 11, 12, 13, 14, 15, 16] rfl) (hD.sub [0, 1, 2, 3, 4, 5, 6, 7, 8, 9, 10, 11, 12, 13, 14, 15, 16] (by decide) rfl) hk (ob_exN hE0 hS hFc) hN) rfl rfl hl.1 rfl (lv_room (Nat.le_of_ble_eq_true rfl)) dL_isRefused_138 ⟨Nat.le_of_ble_eq_true rfl, Nat.le_of_ble_eq_true rfl⟩)) hS (fun q _ h => hFc q h) hFc (fun r9 u9 t9 H1 locs ht hvm hw9 hB hz1 hk1 hS => ?_)
              refine W.widen (k := 1) (n := 6) (Nat.le_of_ble_eq_true rfl) (Nat.le_of_ble_eq_true rfl) ?_
              rw [ht] at hB
              have hP := ob_jn (ws' := ob_wX ax ao al am ac ++ ob_wO t ao M ++ ob_wL t al n cl rd sv pb ba bf od bg ++ ob_wM t am mn ms mf mt mp ++ ob_wC t ac cn st Wt ++ ob_wV t xm fm) hP hD [some 0, some 1, some 2, some 3, some 4, some 5, some 6, some 7, some 8, some 9, some 10, some 11, some 12, some 13, some 14, some 15, some 16, none, none, none, none, none, none, none, none, none, none, none, none, none, none, none, none, none, none, none, none, none, none, none, none] [0, 1, 2, 3, 4, 5, 6, 7, 8, 9, 10, 11, 12, 13, 14, 15, 16] rfl rfl hk1 hB rfl
              have hD : va_D (va_A (ob_wX ax ao al am ac ++ ob_wO t ao M ++ ob_wL t al n cl rd sv pb ba bf od bg ++ ob_wM t am mn ms mf mt mp ++ ob_wC t ac cn st Wt ++ ob_wV t xm fm) sz) (ob_wX ax ao al am ac ++ ob_wO t ao M ++ ob_wL t al n cl rd sv pb ba bf od bg ++ ob_wM t am mn ms mf mt mp ++ ob_wC t ac cn st Wt ++ ob_wV t xm fm) := ob_dXOLMCV hD
              generalize H1 = H at hP hS ⊢
              subst hw9
              refine lv_ldc (v := -3000002) hx hb hown (hts (Cond.constant RL 17 (-3000002)) (List.mem_of_getElem? (i := 1) rfl)) dL_isRefused_141 ?_
              refine lv_icmp_ne (tgt := 428) hx hb dL_isRefused_143 (by decide) (fun c9 => absurd c9 (by decide)) (fun _ => ?_)
              refine lv_aload_n hx hb dL_isRefused_146 rfl (lv_at hl 2 rfl) ?_
              refine lv_iconst (v := nI 1) hx hb dL_isRefused_147 (by decide) ?_
              refine lv_iload hx hb dL_isRefused_148 (lv_at hl 8 rfl) ?_
              refine lv_iconst (v := nI 2) hx hb dL_isRefused_150 (by decide) ?_
              refine lv_iconst (v := nI 5) hx hb dL_isRefused_151 (by decide) ?_
              refine lv_iconst (v := nI 5) hx hb dL_isRefused_152 (by decide) ?_
              have hFc := va_free (wc := ob_wX ax ao al am ac ++ ob_wO t ao M ++ ob_wL t al n cl rd sv pb ba bf od bg) hD hS hA [0, 1, 2, 3, 4, 5, 6, 7, 8, 9, 10, 11, 12, 13, 14, 15, 16] rfl
              refine va_calli (ob_runN (vx_runSX (As := [.ref ax, .int (nI 1), .int z7, .int (nI 2), .int (nI 5), .int (nI 5)]) (rest := []) ⟨hx, hb, hml, hown, hts⟩ (y_mark_no0 l hl9 sa D t H.size ax ao al am ac M n cl rd sv pb ba bf od bg (nI 1) z7 (nI 2) (nI 5) (nI 5) (by first | assumption | omega) (by simp only [h7, Bool.false_and, Bool.and_false]; rfl)) (vx_cwSW 6 hts gL_isRefused_L_mark rfl rfl rfl (by decide +kernel) ⟨Nat.le_of_ble_eq_true rfl, Nat.le_of_ble_eq_true rfl⟩) (ob_pYS (hP.sub [0, 1, 2, 3, 4, 5, 6, 7, 8, 9, 10, 11, 12, 13, 14, 15, 16] rfl) (hD.sub [0, 1, 2, 3, 4, 5, 6, 7, 8, 9, 10, 11, 12, 13, 14, 15, 16] (by decide) rfl) hk (ob_exN hE0 hS hFc) hN) rfl rfl hl.1 rfl (lv_room (Nat.le_of_ble_eq_true rfl)) dL_isRefused_153 ⟨Nat.le_of_ble_eq_true rfl, Nat.le_of_ble_eq_true rfl⟩)) hS (fun q _ h => hFc q h) hFc (fun r9 u9 t9 H1 locs ht hvm hw9 hB hz1 hk1 hS => ?_)
              refine W.widen (k := 2) (n := 12) (Nat.le_of_ble_eq_true rfl) (Nat.le_of_ble_eq_true rfl) ?_
              rw [ht] at hB
              have hP := ob_jn (ws' := ob_wX ax ao al am ac ++ ob_wO t ao M ++ ob_wL t al n cl rd sv pb ba bf od bg ++ ob_wM t am mn ms mf mt mp ++ ob_wC t ac cn st Wt ++ ob_wV t xm fm) hP hD [some 0, some 1, some 2, some 3, some 4, some 5, some 6, some 7, some 8, some 9, some 10, some 11, some 12, some 13, some 14, some 15, some 16, none, none, none, none, none, none, none, none, none, none, none, none, none, none, none, none, none, none, none, none, none, none, none, none] [0, 1, 2, 3, 4, 5, 6, 7, 8, 9, 10, 11, 12, 13, 14, 15, 16] rfl rfl hk1 hB rfl
              have hD : va_D (va_A (ob_wX ax ao al am ac ++ ob_wO t ao M ++ ob_wL t al n cl rd sv pb ba bf od bg ++ ob_wM t am mn ms mf mt mp ++ ob_wC t ac cn st Wt ++ ob_wV t xm fm) sz) (ob_wX ax ao al am ac ++ ob_wO t ao M ++ ob_wL t al n cl rd sv pb ba bf od bg ++ ob_wM t am mn ms mf mt mp ++ ob_wC t ac cn st Wt ++ ob_wV t xm fm) := ob_dXOLMCV hD
              generalize H1 = H at hP hS ⊢
              subst hw9
              refine lv_ldc (v := -3000002) hx hb hown (hts (Cond.constant RL 17 (-3000002)) (List.mem_of_getElem? (i := 1) rfl)) dL_isRefused_156 ?_
              refine lv_icmp_ne (tgt := 428) hx hb dL_isRefused_158 (by decide) (fun c9 => absurd c9 (by decide)) (fun _ => ?_)
              refine lv_aload_n hx hb dL_isRefused_161 rfl (lv_at hl 2 rfl) ?_
              refine lv_iconst (v := nI 1) hx hb dL_isRefused_162 (by decide) ?_
              refine lv_iconst (v := nI 5) hx hb dL_isRefused_163 (by decide) ?_
              refine lv_iload hx hb dL_isRefused_164 (lv_at hl 6 rfl) ?_
              refine lv_iconst (v := nI 5) hx hb dL_isRefused_166 (by decide) ?_
              refine lv_iconst (v := nI 5) hx hb dL_isRefused_167 (by decide) ?_
              have hFc := va_free (wc := ob_wX ax ao al am ac ++ ob_wO t ao M ++ ob_wL t al n cl rd sv pb ba bf od bg) hD hS hA [0, 1, 2, 3, 4, 5, 6, 7, 8, 9, 10, 11, 12, 13, 14, 15, 16] rfl
              refine va_calli (ob_runN (vx_runSX (As := [.ref ax, .int (nI 1), .int (nI 5), .int z5, .int (nI 5), .int (nI 5)]) (rest := []) ⟨hx, hb, hml, hown, hts⟩ (y_mark_no0 l hl9 sa D t H.size ax ao al am ac M n cl rd sv pb ba bf od bg (nI 1) (nI 5) z5 (nI 5) (nI 5) (by first | assumption | omega) (by simp only [h5, Bool.false_and, Bool.and_false]; rfl)) (vx_cwSW 6 hts gL_isRefused_L_mark rfl rfl rfl (by decide +kernel) ⟨Nat.le_of_ble_eq_true rfl, Nat.le_of_ble_eq_true rfl⟩) (ob_pYS (hP.sub [0, 1, 2, 3, 4, 5, 6, 7, 8, 9, 10, 11, 12, 13, 14, 15, 16] rfl) (hD.sub [0, 1, 2, 3, 4, 5, 6, 7, 8, 9, 10, 11, 12, 13, 14, 15, 16] (by decide) rfl) hk (ob_exN hE0 hS hFc) hN) rfl rfl hl.1 rfl (lv_room (Nat.le_of_ble_eq_true rfl)) dL_isRefused_168 ⟨Nat.le_of_ble_eq_true rfl, Nat.le_of_ble_eq_true rfl⟩)) hS (fun q _ h => hFc q h) hFc (fun r9 u9 t9 H1 locs ht hvm hw9 hB hz1 hk1 hS => ?_)
              refine W.widen (k := 3) (n := 18) (Nat.le_of_ble_eq_true rfl) (Nat.le_of_ble_eq_true rfl) ?_
              rw [ht] at hB
              have hP := ob_jn (ws' := ob_wX ax ao al am ac ++ ob_wO t ao M ++ ob_wL t al n cl rd sv pb ba bf od bg ++ ob_wM t am mn ms mf mt mp ++ ob_wC t ac cn st Wt ++ ob_wV t xm fm) hP hD [some 0, some 1, some 2, some 3, some 4, some 5, some 6, some 7, some 8, some 9, some 10, some 11, some 12, some 13, some 14, some 15, some 16, none, none, none, none, none, none, none, none, none, none, none, none, none, none, none, none, none, none, none, none, none, none, none, none] [0, 1, 2, 3, 4, 5, 6, 7, 8, 9, 10, 11, 12, 13, 14, 15, 16] rfl rfl hk1 hB rfl
              have hD : va_D (va_A (ob_wX ax ao al am ac ++ ob_wO t ao M ++ ob_wL t al n cl rd sv pb ba bf od bg ++ ob_wM t am mn ms mf mt mp ++ ob_wC t ac cn st Wt ++ ob_wV t xm fm) sz) (ob_wX ax ao al am ac ++ ob_wO t ao M ++ ob_wL t al n cl rd sv pb ba bf od bg ++ ob_wM t am mn ms mf mt mp ++ ob_wC t ac cn st Wt ++ ob_wV t xm fm) := ob_dXOLMCV hD
              generalize H1 = H at hP hS ⊢
              subst hw9
              refine lv_ldc (v := -3000002) hx hb hown (hts (Cond.constant RL 17 (-3000002)) (List.mem_of_getElem? (i := 1) rfl)) dL_isRefused_171 ?_
              refine lv_icmp_ne (tgt := 428) hx hb dL_isRefused_173 (by decide) (fun c9 => absurd c9 (by decide)) (fun _ => ?_)
              refine lv_aload_n hx hb dL_isRefused_176 rfl (lv_at hl 2 rfl) ?_
              refine lv_iconst (v := nI 1) hx hb dL_isRefused_177 (by decide) ?_
              refine lv_iconst (v := nI 5) hx hb dL_isRefused_178 (by decide) ?_
              refine lv_iconst (v := nI 2) hx hb dL_isRefused_179 (by decide) ?_
              refine lv_iload hx hb dL_isRefused_180 (lv_at hl 8 rfl) ?_
              refine lv_iconst (v := nI 5) hx hb dL_isRefused_182 (by decide) ?_
              have hFc := va_free (wc := ob_wX ax ao al am ac ++ ob_wO t ao M ++ ob_wL t al n cl rd sv pb ba bf od bg) hD hS hA [0, 1, 2, 3, 4, 5, 6, 7, 8, 9, 10, 11, 12, 13, 14, 15, 16] rfl
              refine va_calli (ob_runN (vx_runSX (As := [.ref ax, .int (nI 1), .int (nI 5), .int (nI 2), .int z7, .int (nI 5)]) (rest := []) ⟨hx, hb, hml, hown, hts⟩ (y_mark_no0 l hl9 sa D t H.size ax ao al am ac M n cl rd sv pb ba bf od bg (nI 1) (nI 5) (nI 2) z7 (nI 5) (by first | assumption | omega) (by simp only [h7, Bool.false_and, Bool.and_false]; rfl)) (vx_cwSW 6 hts gL_isRefused_L_mark rfl rfl rfl (by decide +kernel) ⟨Nat.le_of_ble_eq_true rfl, Nat.le_of_ble_eq_true rfl⟩) (ob_pYS (hP.sub [0, 1, 2, 3, 4, 5, 6, 7, 8, 9, 10, 11, 12, 13, 14, 15, 16] rfl) (hD.sub [0, 1, 2, 3, 4, 5, 6, 7, 8, 9, 10, 11, 12, 13, 14, 15, 16] (by decide) rfl) hk (ob_exN hE0 hS hFc) hN) rfl rfl hl.1 rfl (lv_room (Nat.le_of_ble_eq_true rfl)) dL_isRefused_183 ⟨Nat.le_of_ble_eq_true rfl, Nat.le_of_ble_eq_true rfl⟩)) hS (fun q _ h => hFc q h) hFc (fun r9 u9 t9 H1 locs ht hvm hw9 hB hz1 hk1 hS => ?_)
              refine W.widen (k := 4) (n := 24) (Nat.le_of_ble_eq_true rfl) (Nat.le_of_ble_eq_true rfl) ?_
              rw [ht] at hB
              have hP := ob_jn (ws' := ob_wX ax ao al am ac ++ ob_wO t ao M ++ ob_wL t al n cl rd sv pb ba bf od bg ++ ob_wM t am mn ms mf mt mp ++ ob_wC t ac cn st Wt ++ ob_wV t xm fm) hP hD [some 0, some 1, some 2, some 3, some 4, some 5, some 6, some 7, some 8, some 9, some 10, some 11, some 12, some 13, some 14, some 15, some 16, none, none, none, none, none, none, none, none, none, none, none, none, none, none, none, none, none, none, none, none, none, none, none, none] [0, 1, 2, 3, 4, 5, 6, 7, 8, 9, 10, 11, 12, 13, 14, 15, 16] rfl rfl hk1 hB rfl
              have hD : va_D (va_A (ob_wX ax ao al am ac ++ ob_wO t ao M ++ ob_wL t al n cl rd sv pb ba bf od bg ++ ob_wM t am mn ms mf mt mp ++ ob_wC t ac cn st Wt ++ ob_wV t xm fm) sz) (ob_wX ax ao al am ac ++ ob_wO t ao M ++ ob_wL t al n cl rd sv pb ba bf od bg ++ ob_wM t am mn ms mf mt mp ++ ob_wC t ac cn st Wt ++ ob_wV t xm fm) := ob_dXOLMCV hD
              generalize H1 = H at hP hS ⊢
              subst hw9
              refine lv_ldc (v := -3000002) hx hb hown (hts (Cond.constant RL 17 (-3000002)) (List.mem_of_getElem? (i := 1) rfl)) dL_isRefused_186 ?_
              refine lv_icmp_ne (tgt := 428) hx hb dL_isRefused_188 (by decide) (fun c9 => absurd c9 (by decide)) (fun _ => ?_)
              have k207 : ∀ (w : Int32), (ob_wi w (nI 0) (nI 1000) = false) → ∀ ls : Array Slot, lv_has ls 12 [(0, .ref ax), (1, .ref xm), (2, .int (nI x)), (3, .int (ob_bi b3)), (4, .int z5), (5, .int z6), (6, .int z7), (7, .int z8), (8, .int z9), (9, .long (ob_all M n pb ba od mn ms mf mt mp cn st Wt))] → W p l e (headSpec wsL_isRefused ({ frames := 8, cells := 31, slots := 186, locals := 187 } : Room)).room s m ([.ref ax, .ref xm, .int (nI x)] : List Value).toArray below meth c H locs 4 24 (MQ below (va_Qi (fun (r : Int32) (_ : Unit) => r = nI 1) (fun (_ : Unit) (t9 : State) => va_P D vwCl (ob_wX ax ao al am ac ++ ob_wO t ao M ++ ob_wL t al n cl rd sv pb ba bf od bg ++ ob_wM t am mn ms mf mt mp ++ ob_wC t ac cn st Wt ++ ob_wV t xm fm) t9.heap) (va_A (ob_wX ax ao al am ac ++ ob_wO t ao M ++ ob_wL t al n cl rd sv pb ba bf od bg ++ ob_wM t am mn ms mf mt mp ++ ob_wC t ac cn st Wt ++ ob_wV t xm fm) sz)) ([.ref ax, .ref xm, .int (nI x)] : List Value).toArray s 31 186 (va_A (ob_wX ax ao al am ac ++ ob_wO t ao M ++ ob_wL t al n cl rd sv pb ba bf od bg ++ ob_wM t am mn ms mf mt mp ++ ob_wC t ac cn st Wt ++ ob_wV t xm fm) sz)) (F0 m 207 ls [.int w, .int (nI 5), .int (nI 2), .int (nI 5), .int (nI 1), .ref ax]) := by
                intro w hw ls hl
                have hFc := va_free (wc := ob_wX ax ao al am ac ++ ob_wO t ao M ++ ob_wL t al n cl rd sv pb ba bf od bg) hD hS hA [0, 1, 2, 3, 4, 5, 6, 7, 8, 9, 10, 11, 12, 13, 14, 15, 16] rfl
                refine va_calli (ob_runN (vx_runSX (As := [.ref ax, .int (nI 1), .int (nI 5), .int (nI 2), .int (nI 5), .int w]) (rest := []) ⟨hx, hb, hml, hown, hts⟩ (y_mark_no0 l hl9 sa D t H.size ax ao al am ac M n cl rd sv pb ba bf od bg (nI 1) (nI 5) (nI 2) (nI 5) w (by first | assumption | omega) (by simp only [hw, Bool.false_and, Bool.and_false]; rfl)) (vx_cwSW 6 hts gL_isRefused_L_mark rfl rfl rfl (by decide +kernel) ⟨Nat.le_of_ble_eq_true rfl, Nat.le_of_ble_eq_true rfl⟩) (ob_pYS (hP.sub [0, 1, 2, 3, 4, 5, 6, 7, 8, 9, 10, 11, 12, 13, 14, 15, 16] rfl) (hD.sub [0, 1, 2, 3, 4, 5, 6, 7, 8, 9, 10, 11, 12, 13, 14, 15, 16] (by decide) rfl) hk (ob_exN hE0 hS hFc) hN) rfl rfl hl.1 rfl (lv_room (Nat.le_of_ble_eq_true rfl)) dL_isRefused_207 ⟨Nat.le_of_ble_eq_true rfl, Nat.le_of_ble_eq_true rfl⟩)) hS (fun q _ h => hFc q h) hFc (fun r9 u9 t9 H1 locs ht hvm hw9 hB hz1 hk1 hS => ?_)
                refine W.widen (k := 5) (n := 30) (Nat.le_of_ble_eq_true rfl) (Nat.le_of_ble_eq_true rfl) ?_
                rw [ht] at hB
                have hP := ob_jn (ws' := ob_wX ax ao al am ac ++ ob_wO t ao M ++ ob_wL t al n cl rd sv pb ba bf od bg ++ ob_wM t am mn ms mf mt mp ++ ob_wC t ac cn st Wt ++ ob_wV t xm fm) hP hD [some 0, some 1, some 2, some 3, some 4, some 5, some 6, some 7, some 8, some 9, some 10, some 11, some 12, some 13, some 14, some 15, some 16, none, none, none, none, none, none, none, none, none, none, none, none, none, none, none, none, none, none, none, none, none, none, none, none] [0, 1, 2, 3, 4, 5, 6, 7, 8, 9, 10, 11, 12, 13, 14, 15, 16] rfl rfl hk1 hB rfl
                have hD : va_D (va_A (ob_wX ax ao al am ac ++ ob_wO t ao M ++ ob_wL t al n cl rd sv pb ba bf od bg ++ ob_wM t am mn ms mf mt mp ++ ob_wC t ac cn st Wt ++ ob_wV t xm fm) sz) (ob_wX ax ao al am ac ++ ob_wO t ao M ++ ob_wL t al n cl rd sv pb ba bf od bg ++ ob_wM t am mn ms mf mt mp ++ ob_wC t ac cn st Wt ++ ob_wV t xm fm) := ob_dXOLMCV hD
                generalize H1 = H at hP hS ⊢
                subst hw9
                refine lv_ldc (v := -3000002) hx hb hown (hts (Cond.constant RL 17 (-3000002)) (List.mem_of_getElem? (i := 1) rfl)) dL_isRefused_210 ?_
                refine lv_icmp_ne (tgt := 428) hx hb dL_isRefused_212 (by decide) (fun c9 => absurd c9 (by decide)) (fun _ => ?_)
                refine lv_aload_n hx hb dL_isRefused_215 rfl (lv_at hl 0 rfl) ?_
                refine lv_iload_n hx hb dL_isRefused_216 rfl (lv_at hl 2 rfl) ?_
                refine lv_iconst (v := nI 5) hx hb dL_isRefused_217 (by decide) ?_
                refine lv_irem hx hb dL_isRefused_218 (by decide) ?_
                rw [show (nI x) - (nI x) / (nI 5) * (nI 5) = nI (x % 5) from pk_rem (by omega) (by omega) (by omega)]
                refine lv_iconst (v := nI 5) hx hb dL_isRefused_219 (by decide) ?_
                refine lv_iload_n hx hb dL_isRefused_220 rfl (lv_at hl 2 rfl) ?_
                refine lv_iconst (v := nI 5) hx hb dL_isRefused_221 (by decide) ?_
                refine lv_irem hx hb dL_isRefused_222 (by decide) ?_
                rw [show (nI x) - (nI x) / (nI 5) * (nI 5) = nI (x % 5) from pk_rem (by omega) (by omega) (by omega)]
                refine lv_iconst (v := nI 5) hx hb dL_isRefused_223 (by decide) ?_
                refine lv_iconst (v := nI 5) hx hb dL_isRefused_224 (by decide) ?_
                have hFc := va_free (wc := ob_wX ax ao al am ac ++ ob_wO t ao M ++ ob_wL t al n cl rd sv pb ba bf od bg) hD hS hA [0, 1, 2, 3, 4, 5, 6, 7, 8, 9, 10, 11, 12, 13, 14, 15, 16] rfl
                refine va_calli (ob_runN (vx_runSX (As := [.ref ax, .int (nI (x % 5)), .int (nI 5), .int (nI (x % 5)), .int (nI 5), .int (nI 5)]) (rest := []) ⟨hx, hb, hml, hown, hts⟩ (y_mark_no0 l hl9 sa D t H.size ax ao al am ac M n cl rd sv pb ba bf od bg (nI (x % 5)) (nI 5) (nI (x % 5)) (nI 5) (nI 5) (by first | assumption | omega) (by rw [decide_eq_true (rfl : nI (x % 5) = nI (x % 5))]; simp only [Bool.not_true, Bool.false_and, Bool.and_false]; rfl)) (vx_cwSW 6 hts gL_isRefused_L_mark rfl rfl rfl (by decide +kernel) ⟨Nat.le_of_ble_eq_true rfl, Nat.le_of_ble_eq_true rfl⟩) (ob_pYS (hP.sub [0, 1, 2, 3, 4, 5, 6, 7, 8, 9, 10, 11, 12, 13, 14, 15, 16] rfl) (hD.sub [0, 1, 2, 3, 4, 5, 6, 7, 8, 9, 10, 11, 12, 13, 14, 15, 16] (by decide) rfl) hk (ob_exN hE0 hS hFc) hN) rfl rfl hl.1 rfl (lv_room (Nat.le_of_ble_eq_true rfl)) dL_isRefused_225 ⟨Nat.le_of_ble_eq_true rfl, Nat.le_of_ble_eq_true rfl⟩)) hS (fun q _ h => hFc q h) hFc (fun r9 u9 t9 H1 locs ht hvm hw9 hB hz1 hk1 hS => ?_)
                refine W.widen (k := 6) (n := 36) (Nat.le_of_ble_eq_true rfl) (Nat.le_of_ble_eq_true rfl) ?_
                rw [ht] at hB
                have hP := ob_jn (ws' := ob_wX ax ao al am ac ++ ob_wO t ao M ++ ob_wL t al n cl rd sv pb ba bf od bg ++ ob_wM t am mn ms mf mt mp ++ ob_wC t ac cn st Wt ++ ob_wV t xm fm) hP hD [some 0, some 1, some 2, some 3, some 4, some 5, some 6, some 7, some 8, some 9, some 10, some 11, some 12, some 13, some 14, some 15, some 16, none, none, none, none, none, none, none, none, none, none, none, none, none, none, none, none, none, none, none, none, none, none, none, none] [0, 1, 2, 3, 4, 5, 6, 7, 8, 9, 10, 11, 12, 13, 14, 15, 16] rfl rfl hk1 hB rfl
                have hD : va_D (va_A (ob_wX ax ao al am ac ++ ob_wO t ao M ++ ob_wL t al n cl rd sv pb ba bf od bg ++ ob_wM t am mn ms mf mt mp ++ ob_wC t ac cn st Wt ++ ob_wV t xm fm) sz) (ob_wX ax ao al am ac ++ ob_wO t ao M ++ ob_wL t al n cl rd sv pb ba bf od bg ++ ob_wM t am mn ms mf mt mp ++ ob_wC t ac cn st Wt ++ ob_wV t xm fm) := ob_dXOLMCV hD
                generalize H1 = H at hP hS ⊢
                subst hw9
                refine lv_ldc (v := -3000002) hx hb hown (hts (Cond.constant RL 17 (-3000002)) (List.mem_of_getElem? (i := 1) rfl)) dL_isRefused_228 ?_
                refine lv_icmp_ne (tgt := 428) hx hb dL_isRefused_230 (by decide) (fun c9 => absurd c9 (by decide)) (fun _ => ?_)
                refine lv_aload_n hx hb dL_isRefused_233 rfl (lv_at hl 0 rfl) ?_
                refine lv_bipush (v := nI 10) hx hb dL_isRefused_234 (by decide) ?_
                refine lv_iload hx hb dL_isRefused_236 (lv_at hl 4 rfl) ?_
                refine lv_iconst (v := nI 0) hx hb dL_isRefused_238 (by decide) ?_
                refine lv_iconst (v := nI 0) hx hb dL_isRefused_239 (by decide) ?_
                have hFc := va_free (wc := ob_wX ax ao al am ac ++ ob_wO t ao M ++ ob_wL t al n cl rd sv pb ba bf od bg) hD hS hA [0, 1, 2, 3, 4, 5, 6, 7, 8, 9, 10, 11, 12, 13, 14, 15, 16] rfl
                refine va_calli (ob_runN (vx_runSX (As := [.ref ax, .int (nI 10), .int z5, .int (nI 0), .int (nI 0)]) (rest := []) ⟨hx, hb, hml, hown, hts⟩ (y_act10_no0 l hl9 sa D t H.size ax ao al am ac M n cl rd sv pb ba bf od bg z5 (nI 0) (nI 0) (by simp only [h5, Bool.false_and, Bool.and_false]; rfl)) (vx_cwSW 5 hts gL_isRefused_L_act rfl rfl rfl (by decide +kernel) ⟨Nat.le_of_ble_eq_true rfl, Nat.le_of_ble_eq_true rfl⟩) (ob_pYS (hP.sub [0, 1, 2, 3, 4, 5, 6, 7, 8, 9, 10, 11, 12, 13, 14, 15, 16] rfl) (hD.sub [0, 1, 2, 3, 4, 5, 6, 7, 8, 9, 10, 11, 12, 13, 14, 15, 16] (by decide) rfl) hk (ob_exN hE0 hS hFc) hN) rfl rfl hl.1 rfl (lv_room (Nat.le_of_ble_eq_true rfl)) dL_isRefused_240 ⟨Nat.le_of_ble_eq_true rfl, Nat.le_of_ble_eq_true rfl⟩)) hS (fun q _ h => hFc q h) hFc (fun r9 u9 t9 H1 locs ht hvm hw9 hB hz1 hk1 hS => ?_)
                refine W.widen (k := 7) (n := 42) (Nat.le_of_ble_eq_true rfl) (Nat.le_of_ble_eq_true rfl) ?_
                rw [ht] at hB
                have hP := ob_jn (ws' := ob_wX ax ao al am ac ++ ob_wO t ao M ++ ob_wL t al n cl rd sv pb ba bf od bg ++ ob_wM t am mn ms mf mt mp ++ ob_wC t ac cn st Wt ++ ob_wV t xm fm) hP hD [some 0, some 1, some 2, some 3, some 4, some 5, some 6, some 7, some 8, some 9, some 10, some 11, some 12, some 13, some 14, some 15, some 16, none, none, none, none, none, none, none, none, none, none, none, none, none, none, none, none, none, none, none, none, none, none, none, none] [0, 1, 2, 3, 4, 5, 6, 7, 8, 9, 10, 11, 12, 13, 14, 15, 16] rfl rfl hk1 hB rfl
                have hD : va_D (va_A (ob_wX ax ao al am ac ++ ob_wO t ao M ++ ob_wL t al n cl rd sv pb ba bf od bg ++ ob_wM t am mn ms mf mt mp ++ ob_wC t ac cn st Wt ++ ob_wV t xm fm) sz) (ob_wX ax ao al am ac ++ ob_wO t ao M ++ ob_wL t al n cl rd sv pb ba bf od bg ++ ob_wM t am mn ms mf mt mp ++ ob_wC t ac cn st Wt ++ ob_wV t xm fm) := ob_dXOLMCV hD
                generalize H1 = H at hP hS ⊢
                subst hw9
                refine lv_ldc (v := -3000002) hx hb hown (hts (Cond.constant RL 17 (-3000002)) (List.mem_of_getElem? (i := 1) rfl)) dL_isRefused_243 ?_
                refine lv_icmp_ne (tgt := 428) hx hb dL_isRefused_245 (by decide) (fun c9 => absurd c9 (by decide)) (fun _ => ?_)
                refine lv_aload_n hx hb dL_isRefused_248 rfl (lv_at hl 0 rfl) ?_
                refine lv_bipush (v := nI 10) hx hb dL_isRefused_249 (by decide) ?_
                refine lv_iconst (v := nI 0) hx hb dL_isRefused_251 (by decide) ?_
                refine lv_iload hx hb dL_isRefused_252 (lv_at hl 4 rfl) ?_
                refine lv_iconst (v := nI 0) hx hb dL_isRefused_254 (by decide) ?_
                have hFc := va_free (wc := ob_wX ax ao al am ac ++ ob_wO t ao M ++ ob_wL t al n cl rd sv pb ba bf od bg) hD hS hA [0, 1, 2, 3, 4, 5, 6, 7, 8, 9, 10, 11, 12, 13, 14, 15, 16] rfl
                refine va_calli (ob_runN (vx_runSX (As := [.ref ax, .int (nI 10), .int (nI 0), .int z5, .int (nI 0)]) (rest := []) ⟨hx, hb, hml, hown, hts⟩ (y_act10_no0 l hl9 sa D t H.size ax ao al am ac M n cl rd sv pb ba bf od bg (nI 0) z5 (nI 0) (by simp only [h5, Bool.false_and, Bool.and_false]; rfl)) (vx_cwSW 5 hts gL_isRefused_L_act rfl rfl rfl (by decide +kernel) ⟨Nat.le_of_ble_eq_true rfl, Nat.le_of_ble_eq_true rfl⟩) (ob_pYS (hP.sub [0, 1, 2, 3, 4, 5, 6, 7, 8, 9, 10, 11, 12, 13, 14, 15, 16] rfl) (hD.sub [0, 1, 2, 3, 4, 5, 6, 7, 8, 9, 10, 11, 12, 13, 14, 15, 16] (by decide) rfl) hk (ob_exN hE0 hS hFc) hN) rfl rfl hl.1 rfl (lv_room (Nat.le_of_ble_eq_true rfl)) dL_isRefused_255 ⟨Nat.le_of_ble_eq_true rfl, Nat.le_of_ble_eq_true rfl⟩)) hS (fun q _ h => hFc q h) hFc (fun r9 u9 t9 H1 locs ht hvm hw9 hB hz1 hk1 hS => ?_)
                refine W.widen (k := 8) (n := 48) (Nat.le_of_ble_eq_true rfl) (Nat.le_of_ble_eq_true rfl) ?_
                rw [ht] at hB
                have hP := ob_jn (ws' := ob_wX ax ao al am ac ++ ob_wO t ao M ++ ob_wL t al n cl rd sv pb ba bf od bg ++ ob_wM t am mn ms mf mt mp ++ ob_wC t ac cn st Wt ++ ob_wV t xm fm) hP hD [some 0, some 1, some 2, some 3, some 4, some 5, some 6, some 7, some 8, some 9, some 10, some 11, some 12, some 13, some 14, some 15, some 16, none, none, none, none, none, none, none, none, none, none, none, none, none, none, none, none, none, none, none, none, none, none, none, none] [0, 1, 2, 3, 4, 5, 6, 7, 8, 9, 10, 11, 12, 13, 14, 15, 16] rfl rfl hk1 hB rfl
                have hD : va_D (va_A (ob_wX ax ao al am ac ++ ob_wO t ao M ++ ob_wL t al n cl rd sv pb ba bf od bg ++ ob_wM t am mn ms mf mt mp ++ ob_wC t ac cn st Wt ++ ob_wV t xm fm) sz) (ob_wX ax ao al am ac ++ ob_wO t ao M ++ ob_wL t al n cl rd sv pb ba bf od bg ++ ob_wM t am mn ms mf mt mp ++ ob_wC t ac cn st Wt ++ ob_wV t xm fm) := ob_dXOLMCV hD
                generalize H1 = H at hP hS ⊢
                subst hw9
                refine lv_ldc (v := -3000002) hx hb hown (hts (Cond.constant RL 17 (-3000002)) (List.mem_of_getElem? (i := 1) rfl)) dL_isRefused_258 ?_
                refine lv_icmp_ne (tgt := 428) hx hb dL_isRefused_260 (by decide) (fun c9 => absurd c9 (by decide)) (fun _ => ?_)
                refine lv_aload_n hx hb dL_isRefused_263 rfl (lv_at hl 0 rfl) ?_
                refine lv_iconst (v := nI 0) hx hb dL_isRefused_264 (by decide) ?_
                refine lv_iload hx hb dL_isRefused_265 (lv_at hl 4 rfl) ?_
                refine lv_iconst (v := nI 5) hx hb dL_isRefused_267 (by decide) ?_
                refine lv_iconst (v := nI 5) hx hb dL_isRefused_268 (by decide) ?_
                refine lv_iconst (v := nI 1) hx hb dL_isRefused_269 (by decide) ?_
                have hFc := va_free (wc := ob_wX ax ao al am ac ++ ob_wO t ao M ++ ob_wL t al n cl rd sv pb ba bf od bg) hD hS hA [0, 1, 2, 3, 4, 5, 6, 7, 8, 9, 10, 11, 12, 13, 14, 15, 16] rfl
                refine va_calli (ob_runN (vx_runSX (As := [.ref ax, .int (nI 0), .int z5, .int (nI 5), .int (nI 5), .int (nI 1)]) (rest := []) ⟨hx, hb, hml, hown, hts⟩ (y_add0_no0 l hl9 sa D t H.size ax ao al am ac M n cl rd sv pb ba bf od bg z5 (nI 5) (nI 5) (nI 1) (by first | assumption | omega) (by simp only [h5, Bool.false_and, Bool.and_false]; rfl)) (vx_cwSW 6 hts gL_isRefused_L_add rfl rfl rfl (by decide +kernel) ⟨Nat.le_of_ble_eq_true rfl, Nat.le_of_ble_eq_true rfl⟩) (ob_pYS (hP.sub [0, 1, 2, 3, 4, 5, 6, 7, 8, 9, 10, 11, 12, 13, 14, 15, 16] rfl) (hD.sub [0, 1, 2, 3, 4, 5, 6, 7, 8, 9, 10, 11, 12, 13, 14, 15, 16] (by decide) rfl) hk (ob_exN hE0 hS hFc) hN) rfl rfl hl.1 rfl (lv_room (Nat.le_of_ble_eq_true rfl)) dL_isRefused_270 ⟨Nat.le_of_ble_eq_true rfl, Nat.le_of_ble_eq_true rfl⟩)) hS (fun q _ h => hFc q h) hFc (fun r9 u9 t9 H1 locs ht hvm hw9 hB hz1 hk1 hS => ?_)
                refine W.widen (k := 9) (n := 54) (Nat.le_of_ble_eq_true rfl) (Nat.le_of_ble_eq_true rfl) ?_
                rw [ht] at hB
                have hP := ob_jn (ws' := ob_wX ax ao al am ac ++ ob_wO t ao M ++ ob_wL t al n cl rd sv pb ba bf od bg ++ ob_wM t am mn ms mf mt mp ++ ob_wC t ac cn st Wt ++ ob_wV t xm fm) hP hD [some 0, some 1, some 2, some 3, some 4, some 5, some 6, some 7, some 8, some 9, some 10, some 11, some 12, some 13, some 14, some 15, some 16, none, none, none, none, none, none, none, none, none, none, none, none, none, none, none, none, none, none, none, none, none, none, none, none] [0, 1, 2, 3, 4, 5, 6, 7, 8, 9, 10, 11, 12, 13, 14, 15, 16] rfl rfl hk1 hB rfl
                have hD : va_D (va_A (ob_wX ax ao al am ac ++ ob_wO t ao M ++ ob_wL t al n cl rd sv pb ba bf od bg ++ ob_wM t am mn ms mf mt mp ++ ob_wC t ac cn st Wt ++ ob_wV t xm fm) sz) (ob_wX ax ao al am ac ++ ob_wO t ao M ++ ob_wL t al n cl rd sv pb ba bf od bg ++ ob_wM t am mn ms mf mt mp ++ ob_wC t ac cn st Wt ++ ob_wV t xm fm) := ob_dXOLMCV hD
                generalize H1 = H at hP hS ⊢
                subst hw9
                refine lv_ldc (v := -3000002) hx hb hown (hts (Cond.constant RL 17 (-3000002)) (List.mem_of_getElem? (i := 1) rfl)) dL_isRefused_273 ?_
                refine lv_icmp_ne (tgt := 428) hx hb dL_isRefused_275 (by decide) (fun c9 => absurd c9 (by decide)) (fun _ => ?_)
                refine lv_aload_n hx hb dL_isRefused_278 rfl (lv_at hl 0 rfl) ?_
                refine lv_iconst (v := nI 0) hx hb dL_isRefused_279 (by decide) ?_
                refine lv_iconst (v := nI 1) hx hb dL_isRefused_280 (by decide) ?_
                refine lv_iload hx hb dL_isRefused_281 (lv_at hl 6 rfl) ?_
                refine lv_iconst (v := nI 5) hx hb dL_isRefused_283 (by decide) ?_
                refine lv_iconst (v := nI 1) hx hb dL_isRefused_284 (by decide) ?_
                have hFc := va_free (wc := ob_wX ax ao al am ac ++ ob_wO t ao M ++ ob_wL t al n cl rd sv pb ba bf od bg) hD hS hA [0, 1, 2, 3, 4, 5, 6, 7, 8, 9, 10, 11, 12, 13, 14, 15, 16] rfl
                refine va_calli (ob_runN (vx_runSX (As := [.ref ax, .int (nI 0), .int (nI 1), .int z7, .int (nI 5), .int (nI 1)]) (rest := []) ⟨hx, hb, hml, hown, hts⟩ (y_add0_no0 l hl9 sa D t H.size ax ao al am ac M n cl rd sv pb ba bf od bg (nI 1) z7 (nI 5) (nI 1) (by first | assumption | omega) (by simp only [h7, Bool.false_and, Bool.and_false]; rfl)) (vx_cwSW 6 hts gL_isRefused_L_add rfl rfl rfl (by decide +kernel) ⟨Nat.le_of_ble_eq_true rfl, Nat.le_of_ble_eq_true rfl⟩) (ob_pYS (hP.sub [0, 1, 2, 3, 4, 5, 6, 7, 8, 9, 10, 11, 12, 13, 14, 15, 16] rfl) (hD.sub [0, 1, 2, 3, 4, 5, 6, 7, 8, 9, 10, 11, 12, 13, 14, 15, 16] (by decide) rfl) hk (ob_exN hE0 hS hFc) hN) rfl rfl hl.1 rfl (lv_room (Nat.le_of_ble_eq_true rfl)) dL_isRefused_285 ⟨Nat.le_of_ble_eq_true rfl, Nat.le_of_ble_eq_true rfl⟩)) hS (fun q _ h => hFc q h) hFc (fun r9 u9 t9 H1 locs ht hvm hw9 hB hz1 hk1 hS => ?_)
                refine W.widen (k := 10) (n := 60) (Nat.le_of_ble_eq_true rfl) (Nat.le_of_ble_eq_true rfl) ?_
                rw [ht] at hB
                have hP := ob_jn (ws' := ob_wX ax ao al am ac ++ ob_wO t ao M ++ ob_wL t al n cl rd sv pb ba bf od bg ++ ob_wM t am mn ms mf mt mp ++ ob_wC t ac cn st Wt ++ ob_wV t xm fm) hP hD [some 0, some 1, some 2, some 3, some 4, some 5, some 6, some 7, some 8, some 9, some 10, some 11, some 12, some 13, some 14, some 15, some 16, none, none, none, none, none, none, none, none, none, none, none, none, none, none, none, none, none, none, none, none, none, none, none, none] [0, 1, 2, 3, 4, 5, 6, 7, 8, 9, 10, 11, 12, 13, 14, 15, 16] rfl rfl hk1 hB rfl
                have hD : va_D (va_A (ob_wX ax ao al am ac ++ ob_wO t ao M ++ ob_wL t al n cl rd sv pb ba bf od bg ++ ob_wM t am mn ms mf mt mp ++ ob_wC t ac cn st Wt ++ ob_wV t xm fm) sz) (ob_wX ax ao al am ac ++ ob_wO t ao M ++ ob_wL t al n cl rd sv pb ba bf od bg ++ ob_wM t am mn ms mf mt mp ++ ob_wC t ac cn st Wt ++ ob_wV t xm fm) := ob_dXOLMCV hD
                generalize H1 = H at hP hS ⊢
                subst hw9
                refine lv_ldc (v := -3000002) hx hb hown (hts (Cond.constant RL 17 (-3000002)) (List.mem_of_getElem? (i := 1) rfl)) dL_isRefused_288 ?_
                refine lv_icmp_ne (tgt := 428) hx hb dL_isRefused_290 (by decide) (fun c9 => absurd c9 (by decide)) (fun _ => ?_)
                refine lv_aload_n hx hb dL_isRefused_293 rfl (lv_at hl 0 rfl) ?_
                refine lv_iconst (v := nI 0) hx hb dL_isRefused_294 (by decide) ?_
                refine lv_iconst (v := nI 1) hx hb dL_isRefused_295 (by decide) ?_
                refine lv_iconst (v := nI 5) hx hb dL_isRefused_296 (by decide) ?_
                refine lv_iload hx hb dL_isRefused_297 (lv_at hl 5 rfl) ?_
                refine lv_iconst (v := nI 1) hx hb dL_isRefused_299 (by decide) ?_
                have hFc := va_free (wc := ob_wX ax ao al am ac ++ ob_wO t ao M ++ ob_wL t al n cl rd sv pb ba bf od bg) hD hS hA [0, 1, 2, 3, 4, 5, 6, 7, 8, 9, 10, 11, 12, 13, 14, 15, 16] rfl
                refine va_calli (ob_runN (vx_runSX (As := [.ref ax, .int (nI 0), .int (nI 1), .int (nI 5), .int z6, .int (nI 1)]) (rest := []) ⟨hx, hb, hml, hown, hts⟩ (y_add0_no0 l hl9 sa D t H.size ax ao al am ac M n cl rd sv pb ba bf od bg (nI 1) (nI 5) z6 (nI 1) (by first | assumption | omega) (by simp only [h6, Bool.false_and, Bool.and_false]; rfl)) (vx_cwSW 6 hts gL_isRefused_L_add rfl rfl rfl (by decide +kernel) ⟨Nat.le_of_ble_eq_true rfl, Nat.le_of_ble_eq_true rfl⟩) (ob_pYS (hP.sub [0, 1, 2, 3, 4, 5, 6, 7, 8, 9, 10, 11, 12, 13, 14, 15, 16] rfl) (hD.sub [0, 1, 2, 3, 4, 5, 6, 7, 8, 9, 10, 11, 12, 13, 14, 15, 16] (by decide) rfl) hk (ob_exN hE0 hS hFc) hN) rfl rfl hl.1 rfl (lv_room (Nat.le_of_ble_eq_true rfl)) dL_isRefused_300 ⟨Nat.le_of_ble_eq_true rfl, Nat.le_of_ble_eq_true rfl⟩)) hS (fun q _ h => hFc q h) hFc (fun r9 u9 t9 H1 locs ht hvm hw9 hB hz1 hk1 hS => ?_)
                refine W.widen (k := 11) (n := 66) (Nat.le_of_ble_eq_true rfl) (Nat.le_of_ble_eq_true rfl) ?_
                rw [ht] at hB
                have hP := ob_jn (ws' := ob_wX ax ao al am ac ++ ob_wO t ao M ++ ob_wL t al n cl rd sv pb ba bf od bg ++ ob_wM t am mn ms mf mt mp ++ ob_wC t ac cn st Wt ++ ob_wV t xm fm) hP hD [some 0, some 1, some 2, some 3, some 4, some 5, some 6, some 7, some 8, some 9, some 10, some 11, some 12, some 13, some 14, some 15, some 16, none, none, none, none, none, none, none, none, none, none, none, none, none, none, none, none, none, none, none, none, none, none, none, none] [0, 1, 2, 3, 4, 5, 6, 7, 8, 9, 10, 11, 12, 13, 14, 15, 16] rfl rfl hk1 hB rfl
                have hD : va_D (va_A (ob_wX ax ao al am ac ++ ob_wO t ao M ++ ob_wL t al n cl rd sv pb ba bf od bg ++ ob_wM t am mn ms mf mt mp ++ ob_wC t ac cn st Wt ++ ob_wV t xm fm) sz) (ob_wX ax ao al am ac ++ ob_wO t ao M ++ ob_wL t al n cl rd sv pb ba bf od bg ++ ob_wM t am mn ms mf mt mp ++ ob_wC t ac cn st Wt ++ ob_wV t xm fm) := ob_dXOLMCV hD
                generalize H1 = H at hP hS ⊢
                subst hw9
                refine lv_ldc (v := -3000002) hx hb hown (hts (Cond.constant RL 17 (-3000002)) (List.mem_of_getElem? (i := 1) rfl)) dL_isRefused_303 ?_
                refine lv_icmp_ne (tgt := 428) hx hb dL_isRefused_305 (by decide) (fun c9 => absurd c9 (by decide)) (fun _ => ?_)
                refine lv_aload_n hx hb dL_isRefused_308 rfl (lv_at hl 0 rfl) ?_
                refine lv_iconst (v := nI 1) hx hb dL_isRefused_309 (by decide) ?_
                refine lv_iload hx hb dL_isRefused_310 (lv_at hl 5 rfl) ?_
                refine lv_iconst (v := nI 5) hx hb dL_isRefused_312 (by decide) ?_
                refine lv_iconst (v := nI 5) hx hb dL_isRefused_313 (by decide) ?_
                refine lv_iconst (v := nI 5) hx hb dL_isRefused_314 (by decide) ?_
                have hFc := va_free (wc := ob_wX ax ao al am ac ++ ob_wM t am mn ms mf mt mp) hD hS hA [0, 17, 18, 19, 20, 21] rfl
                refine va_calli (ob_runN (vx_runSX (As := [.ref ax, .int (nI 1), .int z6, .int (nI 5), .int (nI 5), .int (nI 5)]) (rest := []) ⟨hx, hb, hml, hown, hts⟩ (y_add1_no0 l hl9 sa D t H.size ax ao al am ac mn ms mf mt mp z6 (nI 5) (nI 5) (nI 5) (by first | assumption | omega) (by simp only [h6, Bool.false_and, Bool.and_false]; rfl)) (vx_cwSW 6 hts gL_isRefused_L_add rfl rfl rfl (by decide +kernel) ⟨Nat.le_of_ble_eq_true rfl, Nat.le_of_ble_eq_true rfl⟩) (ob_pYS (hP.sub [0, 17, 18, 19, 20, 21] rfl) (hD.sub [0, 17, 18, 19, 20, 21] (by decide) rfl) hk (ob_exN hE0 hS hFc) hN) rfl rfl hl.1 rfl (lv_room (Nat.le_of_ble_eq_true rfl)) dL_isRefused_315 ⟨Nat.le_of_ble_eq_true rfl, Nat.le_of_ble_eq_true rfl⟩)) hS (fun q _ h => hFc q h) hFc (fun r9 u9 t9 H1 locs ht hvm hw9 hB hz1 hk1 hS => ?_)
                refine W.widen (k := 12) (n := 72) (Nat.le_of_ble_eq_true rfl) (Nat.le_of_ble_eq_true rfl) ?_
                rw [ht] at hB
                have hP := ob_jn (ws' := ob_wX ax ao al am ac ++ ob_wO t ao M ++ ob_wL t al n cl rd sv pb ba bf od bg ++ ob_wM t am mn ms mf mt mp ++ ob_wC t ac cn st Wt ++ ob_wV t xm fm) hP hD [some 0, none, none, none, none, none, none, none, none, none, none, none, none, none, none, none, none, some 1, some 2, some 3, some 4, some 5, none, none, none, none, none, none, none, none, none, none, none, none, none, none, none, none, none, none, none] [0, 17, 18, 19, 20, 21] rfl rfl hk1 hB rfl
                have hD : va_D (va_A (ob_wX ax ao al am ac ++ ob_wO t ao M ++ ob_wL t al n cl rd sv pb ba bf od bg ++ ob_wM t am mn ms mf mt mp ++ ob_wC t ac cn st Wt ++ ob_wV t xm fm) sz) (ob_wX ax ao al am ac ++ ob_wO t ao M ++ ob_wL t al n cl rd sv pb ba bf od bg ++ ob_wM t am mn ms mf mt mp ++ ob_wC t ac cn st Wt ++ ob_wV t xm fm) := ob_dXOLMCV hD
                generalize H1 = H at hP hS ⊢
                subst hw9
                refine lv_ldc (v := -3000002) hx hb hown (hts (Cond.constant RL 17 (-3000002)) (List.mem_of_getElem? (i := 1) rfl)) dL_isRefused_318 ?_
                refine lv_icmp_ne (tgt := 428) hx hb dL_isRefused_320 (by decide) (fun c9 => absurd c9 (by decide)) (fun _ => ?_)
                refine lv_aload_n hx hb dL_isRefused_323 rfl (lv_at hl 0 rfl) ?_
                refine lv_iconst (v := nI 1) hx hb dL_isRefused_324 (by decide) ?_
                refine lv_iconst (v := nI 1) hx hb dL_isRefused_325 (by decide) ?_
                refine lv_iload hx hb dL_isRefused_326 (lv_at hl 6 rfl) ?_
                refine lv_sipush (v := nI 9999) hx hb dL_isRefused_328 (by decide) ?_
                refine lv_iconst (v := nI 5) hx hb dL_isRefused_331 (by decide) ?_
                have hFc := va_free (wc := ob_wX ax ao al am ac ++ ob_wM t am mn ms mf mt mp) hD hS hA [0, 17, 18, 19, 20, 21] rfl
                refine va_calli (ob_runN (vx_runSX (As := [.ref ax, .int (nI 1), .int (nI 1), .int z7, .int (nI 9999), .int (nI 5)]) (rest := []) ⟨hx, hb, hml, hown, hts⟩ (y_add1_no0 l hl9 sa D t H.size ax ao al am ac mn ms mf mt mp (nI 1) z7 (nI 9999) (nI 5) (by first | assumption | omega) (by simp only [h7, Bool.false_and, Bool.and_false]; rfl)) (vx_cwSW 6 hts gL_isRefused_L_add rfl rfl rfl (by decide +kernel) ⟨Nat.le_of_ble_eq_true rfl, Nat.le_of_ble_eq_true rfl⟩) (ob_pYS (hP.sub [0, 17, 18, 19, 20, 21] rfl) (hD.sub [0, 17, 18, 19, 20, 21] (by decide) rfl) hk (ob_exN hE0 hS hFc) hN) rfl rfl hl.1 rfl (lv_room (Nat.le_of_ble_eq_true rfl)) dL_isRefused_332 ⟨Nat.le_of_ble_eq_true rfl, Nat.le_of_ble_eq_true rfl⟩)) hS (fun q _ h => hFc q h) hFc (fun r9 u9 t9 H1 locs ht hvm hw9 hB hz1 hk1 hS => ?_)
                refine W.widen (k := 13) (n := 78) (Nat.le_of_ble_eq_true rfl) (Nat.le_of_ble_eq_true rfl) ?_
                rw [ht] at hB
                have hP := ob_jn (ws' := ob_wX ax ao al am ac ++ ob_wO t ao M ++ ob_wL t al n cl rd sv pb ba bf od bg ++ ob_wM t am mn ms mf mt mp ++ ob_wC t ac cn st Wt ++ ob_wV t xm fm) hP hD [some 0, none, none, none, none, none, none, none, none, none, none, none, none, none, none, none, none, some 1, some 2, some 3, some 4, some 5, none, none, none, none, none, none, none, none, none, none, none, none, none, none, none, none, none, none, none] [0, 17, 18, 19, 20, 21] rfl rfl hk1 hB rfl
                have hD : va_D (va_A (ob_wX ax ao al am ac ++ ob_wO t ao M ++ ob_wL t al n cl rd sv pb ba bf od bg ++ ob_wM t am mn ms mf mt mp ++ ob_wC t ac cn st Wt ++ ob_wV t xm fm) sz) (ob_wX ax ao al am ac ++ ob_wO t ao M ++ ob_wL t al n cl rd sv pb ba bf od bg ++ ob_wM t am mn ms mf mt mp ++ ob_wC t ac cn st Wt ++ ob_wV t xm fm) := ob_dXOLMCV hD
                generalize H1 = H at hP hS ⊢
                subst hw9
                refine lv_ldc (v := -3000002) hx hb hown (hts (Cond.constant RL 17 (-3000002)) (List.mem_of_getElem? (i := 1) rfl)) dL_isRefused_335 ?_
                refine lv_icmp_ne (tgt := 428) hx hb dL_isRefused_337 (by decide) (fun c9 => absurd c9 (by decide)) (fun _ => ?_)
                have k362 : ∀ (w : Int32), (ob_wi w (nI 50) (nI 10000) = false) → ∀ ls : Array Slot, lv_has ls 12 [(0, .ref ax), (1, .ref xm), (2, .int (nI x)), (3, .int (ob_bi b3)), (4, .int z5), (5, .int z6), (6, .int z7), (7, .int z8), (8, .int z9), (9, .long (ob_all M n pb ba od mn ms mf mt mp cn st Wt))] → W p l e (headSpec wsL_isRefused ({ frames := 8, cells := 31, slots := 186, locals := 187 } : Room)).room s m ([.ref ax, .ref xm, .int (nI x)] : List Value).toArray below meth c H locs 13 78 (MQ below (va_Qi (fun (r : Int32) (_ : Unit) => r = nI 1) (fun (_ : Unit) (t9 : State) => va_P D vwCl (ob_wX ax ao al am ac ++ ob_wO t ao M ++ ob_wL t al n cl rd sv pb ba bf od bg ++ ob_wM t am mn ms mf mt mp ++ ob_wC t ac cn st Wt ++ ob_wV t xm fm) t9.heap) (va_A (ob_wX ax ao al am ac ++ ob_wO t ao M ++ ob_wL t al n cl rd sv pb ba bf od bg ++ ob_wM t am mn ms mf mt mp ++ ob_wC t ac cn st Wt ++ ob_wV t xm fm) sz)) ([.ref ax, .ref xm, .int (nI x)] : List Value).toArray s 31 186 (va_A (ob_wX ax ao al am ac ++ ob_wO t ao M ++ ob_wL t al n cl rd sv pb ba bf od bg ++ ob_wM t am mn ms mf mt mp ++ ob_wC t ac cn st Wt ++ ob_wV t xm fm) sz)) (F0 m 362 ls [.int w, .int (nI 50), .int (nI 1), .int (nI 1), .ref ax]) := by
                  intro w hw ls hl
                  refine lv_iconst (v := nI 5) hx hb dL_isRefused_362 (by decide) ?_
                  have hFc := va_free (wc := ob_wX ax ao al am ac ++ ob_wM t am mn ms mf mt mp) hD hS hA [0, 17, 18, 19, 20, 21] rfl
                  refine va_calli (ob_runN (vx_runSX (As := [.ref ax, .int (nI 1), .int (nI 1), .int (nI 50), .int w, .int (nI 5)]) (rest := []) ⟨hx, hb, hml, hown, hts⟩ (y_add1_no0 l hl9 sa D t H.size ax ao al am ac mn ms mf mt mp (nI 1) (nI 50) w (nI 5) (by first | assumption | omega) (by simp only [hw, Bool.false_and, Bool.and_false]; rfl)) (vx_cwSW 6 hts gL_isRefused_L_add rfl rfl rfl (by decide +kernel) ⟨Nat.le_of_ble_eq_true rfl, Nat.le_of_ble_eq_true rfl⟩) (ob_pYS (hP.sub [0, 17, 18, 19, 20, 21] rfl) (hD.sub [0, 17, 18, 19, 20, 21] (by decide) rfl) hk (ob_exN hE0 hS hFc) hN) rfl rfl hl.1 rfl (lv_room (Nat.le_of_ble_eq_true rfl)) dL_isRefused_363 ⟨Nat.le_of_ble_eq_true rfl, Nat.le_of_ble_eq_true rfl⟩)) hS (fun q _ h => hFc q h) hFc (fun r9 u9 t9 H1 locs ht hvm hw9 hB hz1 hk1 hS => ?_)
                  refine W.widen (k := 14) (n := 84) (Nat.le_of_ble_eq_true rfl) (Nat.le_of_ble_eq_true rfl) ?_
                  rw [ht] at hB
                  have hP := ob_jn (ws' := ob_wX ax ao al am ac ++ ob_wO t ao M ++ ob_wL t al n cl rd sv pb ba bf od bg ++ ob_wM t am mn ms mf mt mp ++ ob_wC t ac cn st Wt ++ ob_wV t xm fm) hP hD [some 0, none, none, none, none, none, none, none, none, none, none, none, none, none, none, none, none, some 1, some 2, some 3, some 4, some 5, none, none, none, none, none, none, none, none, none, none, none, none, none, none, none, none, none, none, none] [0, 17, 18, 19, 20, 21] rfl rfl hk1 hB rfl
                  have hD : va_D (va_A (ob_wX ax ao al am ac ++ ob_wO t ao M ++ ob_wL t al n cl rd sv pb ba bf od bg ++ ob_wM t am mn ms mf mt mp ++ ob_wC t ac cn st Wt ++ ob_wV t xm fm) sz) (ob_wX ax ao al am ac ++ ob_wO t ao M ++ ob_wL t al n cl rd sv pb ba bf od bg ++ ob_wM t am mn ms mf mt mp ++ ob_wC t ac cn st Wt ++ ob_wV t xm fm) := ob_dXOLMCV hD
                  generalize H1 = H at hP hS ⊢
                  subst hw9
                  refine lv_ldc (v := -3000002) hx hb hown (hts (Cond.constant RL 17 (-3000002)) (List.mem_of_getElem? (i := 1) rfl)) dL_isRefused_366 ?_
                  refine lv_icmp_ne (tgt := 428) hx hb dL_isRefused_368 (by decide) (fun c9 => absurd c9 (by decide)) (fun _ => ?_)
                  have k386 : ∀ (w : Int32), (ob_wi w (nI 0) (nI 100) = false) → ∀ ls : Array Slot, lv_has ls 12 [(0, .ref ax), (1, .ref xm), (2, .int (nI x)), (3, .int (ob_bi b3)), (4, .int z5), (5, .int z6), (6, .int z7), (7, .int z8), (8, .int z9), (9, .long (ob_all M n pb ba od mn ms mf mt mp cn st Wt))] → W p l e (headSpec wsL_isRefused ({ frames := 8, cells := 31, slots := 186, locals := 187 } : Room)).room s m ([.ref ax, .ref xm, .int (nI x)] : List Value).toArray below meth c H locs 14 84 (MQ below (va_Qi (fun (r : Int32) (_ : Unit) => r = nI 1) (fun (_ : Unit) (t9 : State) => va_P D vwCl (ob_wX ax ao al am ac ++ ob_wO t ao M ++ ob_wL t al n cl rd sv pb ba bf od bg ++ ob_wM t am mn ms mf mt mp ++ ob_wC t ac cn st Wt ++ ob_wV t xm fm) t9.heap) (va_A (ob_wX ax ao al am ac ++ ob_wO t ao M ++ ob_wL t al n cl rd sv pb ba bf od bg ++ ob_wM t am mn ms mf mt mp ++ ob_wC t ac cn st Wt ++ ob_wV t xm fm) sz)) ([.ref ax, .ref xm, .int (nI x)] : List Value).toArray s 31 186 (va_A (ob_wX ax ao al am ac ++ ob_wO t ao M ++ ob_wL t al n cl rd sv pb ba bf od bg ++ ob_wM t am mn ms mf mt mp ++ ob_wC t ac cn st Wt ++ ob_wV t xm fm) sz)) (F0 m 386 ls [.int w, .int (nI 5), .int (nI 5), .int (nI 1), .int (nI 1), .ref ax]) := by
                    intro w hw ls hl
                    have hFc := va_free (wc := ob_wX ax ao al am ac ++ ob_wM t am mn ms mf mt mp) hD hS hA [0, 17, 18, 19, 20, 21] rfl
                    refine va_calli (ob_runN (vx_runSX (As := [.ref ax, .int (nI 1), .int (nI 1), .int (nI 5), .int (nI 5), .int w]) (rest := []) ⟨hx, hb, hml, hown, hts⟩ (y_add1_no0 l hl9 sa D t H.size ax ao al am ac mn ms mf mt mp (nI 1) (nI 5) (nI 5) w (by first | assumption | omega) (by simp only [hw, Bool.false_and, Bool.and_false]; rfl)) (vx_cwSW 6 hts gL_isRefused_L_add rfl rfl rfl (by decide +kernel) ⟨Nat.le_of_ble_eq_true rfl, Nat.le_of_ble_eq_true rfl⟩) (ob_pYS (hP.sub [0, 17, 18, 19, 20, 21] rfl) (hD.sub [0, 17, 18, 19, 20, 21] (by decide) rfl) hk (ob_exN hE0 hS hFc) hN) rfl rfl hl.1 rfl (lv_room (Nat.le_of_ble_eq_true rfl)) dL_isRefused_386 ⟨Nat.le_of_ble_eq_true rfl, Nat.le_of_ble_eq_true rfl⟩)) hS (fun q _ h => hFc q h) hFc (fun r9 u9 t9 H1 locs ht hvm hw9 hB hz1 hk1 hS => ?_)
                    refine W.widen (k := 15) (n := 90) (Nat.le_of_ble_eq_true rfl) (Nat.le_of_ble_eq_true rfl) ?_
                    rw [ht] at hB
                    have hP := ob_jn (ws' := ob_wX ax ao al am ac ++ ob_wO t ao M ++ ob_wL t al n cl rd sv pb ba bf od bg ++ ob_wM t am mn ms mf mt mp ++ ob_wC t ac cn st Wt ++ ob_wV t xm fm) hP hD [some 0, none, none, none, none, none, none, none, none, none, none, none, none, none, none, none, none, some 1, some 2, some 3, some 4, some 5, none, none, none, none, none, none, none, none, none, none, none, none, none, none, none, none, none, none, none] [0, 17, 18, 19, 20, 21] rfl rfl hk1 hB rfl
                    have hD : va_D (va_A (ob_wX ax ao al am ac ++ ob_wO t ao M ++ ob_wL t al n cl rd sv pb ba bf od bg ++ ob_wM t am mn ms mf mt mp ++ ob_wC t ac cn st Wt ++ ob_wV t xm fm) sz) (ob_wX ax ao al am ac ++ ob_wO t ao M ++ ob_wL t al n cl rd sv pb ba bf od bg ++ ob_wM t am mn ms mf mt mp ++ ob_wC t ac cn st Wt ++ ob_wV t xm fm) := ob_dXOLMCV hD
                    generalize H1 = H at hP hS ⊢
                    subst hw9
                    refine lv_ldc (v := -3000002) hx hb hown (hts (Cond.constant RL 17 (-3000002)) (List.mem_of_getElem? (i := 1) rfl)) dL_isRefused_389 ?_
                    refine lv_icmp_ne (tgt := 428) hx hb dL_isRefused_391 (by decide) (fun c9 => absurd c9 (by decide)) (fun _ => ?_)
                    refine lv_aload_n hx hb dL_isRefused_394 rfl (lv_at hl 0 rfl) ?_
                    refine lv_bipush (v := nI 11) hx hb dL_isRefused_395 (by decide) ?_
                    refine lv_iload hx hb dL_isRefused_397 (lv_at hl 5 rfl) ?_
                    refine lv_iconst (v := nI 0) hx hb dL_isRefused_399 (by decide) ?_
                    refine lv_iconst (v := nI 0) hx hb dL_isRefused_400 (by decide) ?_
                    have hFc := va_free (wc := ob_wX ax ao al am ac ++ ob_wL t al n cl rd sv pb ba bf od bg) hD hS hA [0, 8, 9, 10, 11, 12, 13, 14, 15, 16] rfl
                    refine va_calli (ob_runN (vx_runSX (As := [.ref ax, .int (nI 11), .int z6, .int (nI 0), .int (nI 0)]) (rest := []) ⟨hx, hb, hml, hown, hts⟩ (y_act11_no0 l hl9 sa D t H.size ax ao al am ac n cl rd sv pb ba bf od bg z6 (nI 0) (nI 0) (by first | assumption | omega) (by simp only [h6, Bool.false_and, Bool.and_false]; rfl)) (vx_cwSW 5 hts gL_isRefused_L_act rfl rfl rfl (by decide +kernel) ⟨Nat.le_of_ble_eq_true rfl, Nat.le_of_ble_eq_true rfl⟩) (ob_pYS (hP.sub [0, 8, 9, 10, 11, 12, 13, 14, 15, 16] rfl) (hD.sub [0, 8, 9, 10, 11, 12, 13, 14, 15, 16] (by decide) rfl) hk (ob_exN hE0 hS hFc) hN) rfl rfl hl.1 rfl (lv_room (Nat.le_of_ble_eq_true rfl)) dL_isRefused_401 ⟨Nat.le_of_ble_eq_true rfl, Nat.le_of_ble_eq_true rfl⟩)) hS (fun q _ h => hFc q h) hFc (fun r9 u9 t9 H1 locs ht hvm hw9 hB hz1 hk1 hS => ?_)
                    refine W.widen (k := 16) (n := 96) (Nat.le_of_ble_eq_true rfl) (Nat.le_of_ble_eq_true rfl) ?_
                    rw [ht] at hB
                    have hP := ob_jn (ws' := ob_wX ax ao al am ac ++ ob_wO t ao M ++ ob_wL t al n cl rd sv pb ba bf od bg ++ ob_wM t am mn ms mf mt mp ++ ob_wC t ac cn st Wt ++ ob_wV t xm fm) hP hD [some 0, none, none, none, none, none, none, none, some 1, some 2, some 3, some 4, some 5, some 6, some 7, some 8, some 9, none, none, none, none, none, none, none, none, none, none, none, none, none, none, none, none, none, none, none, none, none, none, none, none] [0, 8, 9, 10, 11, 12, 13, 14, 15, 16] rfl rfl hk1 hB rfl
                    have hD : va_D (va_A (ob_wX ax ao al am ac ++ ob_wO t ao M ++ ob_wL t al n cl rd sv pb ba bf od bg ++ ob_wM t am mn ms mf mt mp ++ ob_wC t ac cn st Wt ++ ob_wV t xm fm) sz) (ob_wX ax ao al am ac ++ ob_wO t ao M ++ ob_wL t al n cl rd sv pb ba bf od bg ++ ob_wM t am mn ms mf mt mp ++ ob_wC t ac cn st Wt ++ ob_wV t xm fm) := ob_dXOLMCV hD
                    generalize H1 = H at hP hS ⊢
                    subst hw9
                    refine lv_ldc (v := -3000002) hx hb hown (hts (Cond.constant RL 17 (-3000002)) (List.mem_of_getElem? (i := 1) rfl)) dL_isRefused_404 ?_
                    refine lv_icmp_ne (tgt := 428) hx hb dL_isRefused_406 (by decide) (fun c9 => absurd c9 (by decide)) (fun _ => ?_)
                    refine lv_aload_n hx hb dL_isRefused_409 rfl (lv_at hl 0 rfl) ?_
                    refine lv_bipush (v := nI 12) hx hb dL_isRefused_410 (by decide) ?_
                    refine lv_iload hx hb dL_isRefused_412 (lv_at hl 5 rfl) ?_
                    refine lv_iconst (v := nI 0) hx hb dL_isRefused_414 (by decide) ?_
                    refine lv_iconst (v := nI 0) hx hb dL_isRefused_415 (by decide) ?_
                    have hFc := va_free (wc := ob_wX ax ao al am ac ++ ob_wM t am mn ms mf mt mp) hD hS hA [0, 17, 18, 19, 20, 21] rfl
                    refine va_calli (ob_runN (vx_runSX (As := [.ref ax, .int (nI 12), .int z6, .int (nI 0), .int (nI 0)]) (rest := []) ⟨hx, hb, hml, hown, hts⟩ (y_act12_no0 l hl9 sa D t H.size ax ao al am ac mn ms mf mt mp z6 (nI 0) (nI 0) (by first | assumption | omega) (by simp only [h6, Bool.false_and, Bool.and_false]; rfl)) (vx_cwSW 5 hts gL_isRefused_L_act rfl rfl rfl (by decide +kernel) ⟨Nat.le_of_ble_eq_true rfl, Nat.le_of_ble_eq_true rfl⟩) (ob_pYS (hP.sub [0, 17, 18, 19, 20, 21] rfl) (hD.sub [0, 17, 18, 19, 20, 21] (by decide) rfl) hk (ob_exN hE0 hS hFc) hN) rfl rfl hl.1 rfl (lv_room (Nat.le_of_ble_eq_true rfl)) dL_isRefused_416 ⟨Nat.le_of_ble_eq_true rfl, Nat.le_of_ble_eq_true rfl⟩)) hS (fun q _ h => hFc q h) hFc (fun r9 u9 t9 H1 locs ht hvm hw9 hB hz1 hk1 hS => ?_)
                    refine W.widen (k := 17) (n := 102) (Nat.le_of_ble_eq_true rfl) (Nat.le_of_ble_eq_true rfl) ?_
                    rw [ht] at hB
                    have hP := ob_jn (ws' := ob_wX ax ao al am ac ++ ob_wO t ao M ++ ob_wL t al n cl rd sv pb ba bf od bg ++ ob_wM t am mn ms mf mt mp ++ ob_wC t ac cn st Wt ++ ob_wV t xm fm) hP hD [some 0, none, none, none, none, none, none, none, none, none, none, none, none, none, none, none, none, some 1, some 2, some 3, some 4, some 5, none, none, none, none, none, none, none, none, none, none, none, none, none, none, none, none, none, none, none] [0, 17, 18, 19, 20, 21] rfl rfl hk1 hB rfl
                    have hD : va_D (va_A (ob_wX ax ao al am ac ++ ob_wO t ao M ++ ob_wL t al n cl rd sv pb ba bf od bg ++ ob_wM t am mn ms mf mt mp ++ ob_wC t ac cn st Wt ++ ob_wV t xm fm) sz) (ob_wX ax ao al am ac ++ ob_wO t ao M ++ ob_wL t al n cl rd sv pb ba bf od bg ++ ob_wM t am mn ms mf mt mp ++ ob_wC t ac cn st Wt ++ ob_wV t xm fm) := ob_dXOLMCV hD
                    generalize H1 = H at hP hS ⊢
                    subst hw9
                    refine lv_ldc (v := -3000002) hx hb hown (hts (Cond.constant RL 17 (-3000002)) (List.mem_of_getElem? (i := 1) rfl)) dL_isRefused_419 ?_
                    refine lv_icmp_ne (tgt := 428) hx hb dL_isRefused_421 (by decide) (fun c9 => absurd c9 (by decide)) (fun _ => ?_)
                    refine lv_iconst (v := nI 1) hx hb dL_isRefused_424 (by decide) ?_
                    refine lv_goto (tgt := 429) hx hb dL_isRefused_425 (by decide) ?_
                    refine lv_istore (lv' := [(11, .int (nI 1)), (0, .ref ax), (1, .ref xm), (2, .int (nI x)), (3, .int (ob_bi b3)), (4, .int z5), (5, .int z6), (6, .int z7), (7, .int z8), (8, .int z9), (9, .long (ob_all M n pb ba od mn ms mf mt mp cn st Wt))]) hx hb dL_isRefused_429 hl (by decide) rfl (fun ls hl => ?_)
                    refine lv_iload hx hb dL_isRefused_431 (lv_at hl 0 rfl) ?_
                    refine lv_if_eq (tgt := 599) hx hb dL_isRefused_433 (by decide) (fun c9 => absurd c9 (by decide)) (fun _ => ?_)
                    refine lv_aload_n hx hb dL_isRefused_436 rfl (lv_at hl 1 rfl) ?_
                    refine lv_iconst (v := nI 0) hx hb dL_isRefused_437 (by decide) ?_
                    refine lv_iload hx hb dL_isRefused_438 (lv_at hl 8 rfl) ?_
                    refine lv_iconst (v := nI 0) hx hb dL_isRefused_440 (by decide) ?_
                    refine lv_iconst (v := nI 1) hx hb dL_isRefused_441 (by decide) ?_
                    have hFc := va_free (wc := ob_wX ax ao al am ac ++ ob_wL t al n cl rd sv pb ba bf od bg) hD hS hA [0, 8, 9, 10, 11, 12, 13, 14, 15, 16] rfl
                    refine va_calli (ob_runN (vx_runSX (As := [.ref ax, .int (nI 0), .int z8, .int (nI 0), .int (nI 1)]) (rest := []) ⟨hx, hb, hml, hown, hts⟩ (y_act0_no0 l hl9 sa D t H.size ax ao al am ac n cl rd sv pb ba bf od bg z8 (nI 0) (nI 1) (by first | assumption | omega) (by simp only [h8, Bool.false_and, Bool.and_false]; rfl)) (vx_cwSW 5 hts gL_isRefused_L_act rfl rfl rfl (by decide +kernel) ⟨Nat.le_of_ble_eq_true rfl, Nat.le_of_ble_eq_true rfl⟩) (ob_pYS (hP.sub [0, 8, 9, 10, 11, 12, 13, 14, 15, 16] rfl) (hD.sub [0, 8, 9, 10, 11, 12, 13, 14, 15, 16] (by decide) rfl) hk (ob_exN hE0 hS hFc) hN) rfl rfl hl.1 rfl (lv_room (Nat.le_of_ble_eq_true rfl)) dL_isRefused_442 ⟨Nat.le_of_ble_eq_true rfl, Nat.le_of_ble_eq_true rfl⟩)) hS (fun q _ h => hFc q h) hFc (fun r9 u9 t9 H1 locs ht hvm hw9 hB hz1 hk1 hS => ?_)
                    refine W.widen (k := 18) (n := 108) (Nat.le_of_ble_eq_true rfl) (Nat.le_of_ble_eq_true rfl) ?_
                    rw [ht] at hB
                    have hP := ob_jn (ws' := ob_wX ax ao al am ac ++ ob_wO t ao M ++ ob_wL t al n cl rd sv pb ba bf od bg ++ ob_wM t am mn ms mf mt mp ++ ob_wC t ac cn st Wt ++ ob_wV t xm fm) hP hD [some 0, none, none, none, none, none, none, none, some 1, some 2, some 3, some 4, some 5, some 6, some 7, some 8, some 9, none, none, none, none, none, none, none, none, none, none, none, none, none, none, none, none, none, none, none, none, none, none, none, none] [0, 8, 9, 10, 11, 12, 13, 14, 15, 16] rfl rfl hk1 hB rfl
                    have hD : va_D (va_A (ob_wX ax ao al am ac ++ ob_wO t ao M ++ ob_wL t al n cl rd sv pb ba bf od bg ++ ob_wM t am mn ms mf mt mp ++ ob_wC t ac cn st Wt ++ ob_wV t xm fm) sz) (ob_wX ax ao al am ac ++ ob_wO t ao M ++ ob_wL t al n cl rd sv pb ba bf od bg ++ ob_wM t am mn ms mf mt mp ++ ob_wC t ac cn st Wt ++ ob_wV t xm fm) := ob_dXOLMCV hD
                    generalize H1 = H at hP hS ⊢
                    subst hw9
                    refine lv_ldc (v := -3000001) hx hb hown (hts (Cond.constant RL 81 (-3000001)) (List.mem_of_getElem? (i := 2) rfl)) dL_isRefused_445 ?_
                    refine lv_icmp_ne (tgt := 599) hx hb dL_isRefused_447 (by decide) (fun c9 => absurd c9 (by decide)) (fun _ => ?_)
                    refine lv_aload_n hx hb dL_isRefused_450 rfl (lv_at hl 1 rfl) ?_
                    refine lv_iconst (v := nI 3) hx hb dL_isRefused_451 (by decide) ?_
                    refine lv_iload hx hb dL_isRefused_452 (lv_at hl 8 rfl) ?_
                    refine lv_iload hx hb dL_isRefused_454 (lv_at hl 8 rfl) ?_
                    refine lv_iconst (v := nI 0) hx hb dL_isRefused_456 (by decide) ?_
                    have hFc := va_free (wc := ob_wX ax ao al am ac ++ ob_wL t al n cl rd sv pb ba bf od bg) hD hS hA [0, 8, 9, 10, 11, 12, 13, 14, 15, 16] rfl
                    refine va_calli (ob_runN (vx_runSX (As := [.ref ax, .int (nI 3), .int z8, .int z8, .int (nI 0)]) (rest := []) ⟨hx, hb, hml, hown, hts⟩ (y_act3_no0 l hl9 sa D t H.size ax ao al am ac n cl rd sv pb ba bf od bg z8 z8 (nI 0) (by first | assumption | omega) (by simp only [h8, Bool.false_and, Bool.and_false]; rfl)) (vx_cwSW 5 hts gL_isRefused_L_act rfl rfl rfl (by decide +kernel) ⟨Nat.le_of_ble_eq_true rfl, Nat.le_of_ble_eq_true rfl⟩) (ob_pYS (hP.sub [0, 8, 9, 10, 11, 12, 13, 14, 15, 16] rfl) (hD.sub [0, 8, 9, 10, 11, 12, 13, 14, 15, 16] (by decide) rfl) hk (ob_exN hE0 hS hFc) hN) rfl rfl hl.1 rfl (lv_room (Nat.le_of_ble_eq_true rfl)) dL_isRefused_457 ⟨Nat.le_of_ble_eq_true rfl, Nat.le_of_ble_eq_true rfl⟩)) hS (fun q _ h => hFc q h) hFc (fun r9 u9 t9 H1 locs ht hvm hw9 hB hz1 hk1 hS => ?_)
                    refine W.widen (k := 19) (n := 114) (Nat.le_of_ble_eq_true rfl) (Nat.le_of_ble_eq_true rfl) ?_
                    rw [ht] at hB
                    have hP := ob_jn (ws' := ob_wX ax ao al am ac ++ ob_wO t ao M ++ ob_wL t al n cl rd sv pb ba bf od bg ++ ob_wM t am mn ms mf mt mp ++ ob_wC t ac cn st Wt ++ ob_wV t xm fm) hP hD [some 0, none, none, none, none, none, none, none, some 1, some 2, some 3, some 4, some 5, some 6, some 7, some 8, some 9, none, none, none, none, none, none, none, none, none, none, none, none, none, none, none, none, none, none, none, none, none, none, none, none] [0, 8, 9, 10, 11, 12, 13, 14, 15, 16] rfl rfl hk1 hB rfl
                    have hD : va_D (va_A (ob_wX ax ao al am ac ++ ob_wO t ao M ++ ob_wL t al n cl rd sv pb ba bf od bg ++ ob_wM t am mn ms mf mt mp ++ ob_wC t ac cn st Wt ++ ob_wV t xm fm) sz) (ob_wX ax ao al am ac ++ ob_wO t ao M ++ ob_wL t al n cl rd sv pb ba bf od bg ++ ob_wM t am mn ms mf mt mp ++ ob_wC t ac cn st Wt ++ ob_wV t xm fm) := ob_dXOLMCV hD
                    generalize H1 = H at hP hS ⊢
                    subst hw9
                    refine lv_ldc (v := -3000001) hx hb hown (hts (Cond.constant RL 81 (-3000001)) (List.mem_of_getElem? (i := 2) rfl)) dL_isRefused_460 ?_
                    refine lv_icmp_ne (tgt := 599) hx hb dL_isRefused_462 (by decide) (fun c9 => absurd c9 (by decide)) (fun _ => ?_)
                    refine lv_aload_n hx hb dL_isRefused_465 rfl (lv_at hl 1 rfl) ?_
                    refine lv_iconst (v := nI 5) hx hb dL_isRefused_466 (by decide) ?_
                    refine lv_iload hx hb dL_isRefused_467 (lv_at hl 8 rfl) ?_
                    refine lv_iconst (v := nI 0) hx hb dL_isRefused_469 (by decide) ?_
                    refine lv_iconst (v := nI 0) hx hb dL_isRefused_470 (by decide) ?_
                    have hFc := va_free (wc := ob_wX ax ao al am ac ++ ob_wL t al n cl rd sv pb ba bf od bg) hD hS hA [0, 8, 9, 10, 11, 12, 13, 14, 15, 16] rfl
                    refine va_calli (ob_runN (vx_runSX (As := [.ref ax, .int (nI 5), .int z8, .int (nI 0), .int (nI 0)]) (rest := []) ⟨hx, hb, hml, hown, hts⟩ (y_act5_no0 l hl9 sa D t H.size ax ao al am ac n cl rd sv pb ba bf od bg z8 (nI 0) (nI 0) (by first | assumption | omega) (by simp only [h8, Bool.false_and, Bool.and_false]; rfl)) (vx_cwSW 5 hts gL_isRefused_L_act rfl rfl rfl (by decide +kernel) ⟨Nat.le_of_ble_eq_true rfl, Nat.le_of_ble_eq_true rfl⟩) (ob_pYS (hP.sub [0, 8, 9, 10, 11, 12, 13, 14, 15, 16] rfl) (hD.sub [0, 8, 9, 10, 11, 12, 13, 14, 15, 16] (by decide) rfl) hk (ob_exN hE0 hS hFc) hN) rfl rfl hl.1 rfl (lv_room (Nat.le_of_ble_eq_true rfl)) dL_isRefused_471 ⟨Nat.le_of_ble_eq_true rfl, Nat.le_of_ble_eq_true rfl⟩)) hS (fun q _ h => hFc q h) hFc (fun r9 u9 t9 H1 locs ht hvm hw9 hB hz1 hk1 hS => ?_)
                    refine W.widen (k := 20) (n := 120) (Nat.le_of_ble_eq_true rfl) (Nat.le_of_ble_eq_true rfl) ?_
                    rw [ht] at hB
                    have hP := ob_jn (ws' := ob_wX ax ao al am ac ++ ob_wO t ao M ++ ob_wL t al n cl rd sv pb ba bf od bg ++ ob_wM t am mn ms mf mt mp ++ ob_wC t ac cn st Wt ++ ob_wV t xm fm) hP hD [some 0, none, none, none, none, none, none, none, some 1, some 2, some 3, some 4, some 5, some 6, some 7, some 8, some 9, none, none, none, none, none, none, none, none, none, none, none, none, none, none, none, none, none, none, none, none, none, none, none, none] [0, 8, 9, 10, 11, 12, 13, 14, 15, 16] rfl rfl hk1 hB rfl
                    have hD : va_D (va_A (ob_wX ax ao al am ac ++ ob_wO t ao M ++ ob_wL t al n cl rd sv pb ba bf od bg ++ ob_wM t am mn ms mf mt mp ++ ob_wC t ac cn st Wt ++ ob_wV t xm fm) sz) (ob_wX ax ao al am ac ++ ob_wO t ao M ++ ob_wL t al n cl rd sv pb ba bf od bg ++ ob_wM t am mn ms mf mt mp ++ ob_wC t ac cn st Wt ++ ob_wV t xm fm) := ob_dXOLMCV hD
                    generalize H1 = H at hP hS ⊢
                    subst hw9
                    refine lv_ldc (v := -3000001) hx hb hown (hts (Cond.constant RL 81 (-3000001)) (List.mem_of_getElem? (i := 2) rfl)) dL_isRefused_474 ?_
                    refine lv_icmp_ne (tgt := 599) hx hb dL_isRefused_476 (by decide) (fun c9 => absurd c9 (by decide)) (fun _ => ?_)
                    refine lv_aload_n hx hb dL_isRefused_479 rfl (lv_at hl 1 rfl) ?_
                    refine lv_bipush (v := nI 7) hx hb dL_isRefused_480 (by decide) ?_
                    refine lv_iload hx hb dL_isRefused_482 (lv_at hl 8 rfl) ?_
                    refine lv_iconst (v := nI 0) hx hb dL_isRefused_484 (by decide) ?_
                    refine lv_iconst (v := nI 0) hx hb dL_isRefused_485 (by decide) ?_
                    have hFc := va_free (wc := ob_wX ax ao al am ac ++ ob_wO t ao M ++ ob_wL t al n cl rd sv pb ba bf od bg) hD hS hA [0, 1, 2, 3, 4, 5, 6, 7, 8, 9, 10, 11, 12, 13, 14, 15, 16] rfl
                    refine va_calli (ob_runN (vx_runSX (As := [.ref ax, .int (nI 7), .int z8, .int (nI 0), .int (nI 0)]) (rest := []) ⟨hx, hb, hml, hown, hts⟩ (y_act7_no0 l hl9 sa D t H.size ax ao al am ac M n cl rd sv pb ba bf od bg z8 (nI 0) (nI 0) (by first | assumption | omega) (by simp only [h8, Bool.false_and, Bool.and_false]; rfl)) (vx_cwSW 5 hts gL_isRefused_L_act rfl rfl rfl (by decide +kernel) ⟨Nat.le_of_ble_eq_true rfl, Nat.le_of_ble_eq_true rfl⟩) (ob_pYS (hP.sub [0, 1, 2, 3, 4, 5, 6, 7, 8, 9, 10, 11, 12, 13, 14, 15, 16] rfl) (hD.sub [0, 1, 2, 3, 4, 5, 6, 7, 8, 9, 10, 11, 12, 13, 14, 15, 16] (by decide) rfl) hk (ob_exN hE0 hS hFc) hN) rfl rfl hl.1 rfl (lv_room (Nat.le_of_ble_eq_true rfl)) dL_isRefused_486 ⟨Nat.le_of_ble_eq_true rfl, Nat.le_of_ble_eq_true rfl⟩)) hS (fun q _ h => hFc q h) hFc (fun r9 u9 t9 H1 locs ht hvm hw9 hB hz1 hk1 hS => ?_)
                    refine W.widen (k := 21) (n := 126) (Nat.le_of_ble_eq_true rfl) (Nat.le_of_ble_eq_true rfl) ?_
                    rw [ht] at hB
                    have hP := ob_jn (ws' := ob_wX ax ao al am ac ++ ob_wO t ao M ++ ob_wL t al n cl rd sv pb ba bf od bg ++ ob_wM t am mn ms mf mt mp ++ ob_wC t ac cn st Wt ++ ob_wV t xm fm) hP hD [some 0, some 1, some 2, some 3, some 4, some 5, some 6, some 7, some 8, some 9, some 10, some 11, some 12, some 13, some 14, some 15, some 16, none, none, none, none, none, none, none, none, none, none, none, none, none, none, none, none, none, none, none, none, none, none, none, none] [0, 1, 2, 3, 4, 5, 6, 7, 8, 9, 10, 11, 12, 13, 14, 15, 16] rfl rfl hk1 hB rfl
                    have hD : va_D (va_A (ob_wX ax ao al am ac ++ ob_wO t ao M ++ ob_wL t al n cl rd sv pb ba bf od bg ++ ob_wM t am mn ms mf mt mp ++ ob_wC t ac cn st Wt ++ ob_wV t xm fm) sz) (ob_wX ax ao al am ac ++ ob_wO t ao M ++ ob_wL t al n cl rd sv pb ba bf od bg ++ ob_wM t am mn ms mf mt mp ++ ob_wC t ac cn st Wt ++ ob_wV t xm fm) := ob_dXOLMCV hD
                    generalize H1 = H at hP hS ⊢
                    subst hw9
                    refine lv_ldc (v := -3000001) hx hb hown (hts (Cond.constant RL 81 (-3000001)) (List.mem_of_getElem? (i := 2) rfl)) dL_isRefused_489 ?_
                    refine lv_icmp_ne (tgt := 599) hx hb dL_isRefused_491 (by decide) (fun c9 => absurd c9 (by decide)) (fun _ => ?_)
                    refine lv_aload_n hx hb dL_isRefused_494 rfl (lv_at hl 1 rfl) ?_
                    refine lv_iconst (v := nI 1) hx hb dL_isRefused_495 (by decide) ?_
                    refine lv_iload hx hb dL_isRefused_496 (lv_at hl 9 rfl) ?_
                    refine lv_iload hx hb dL_isRefused_498 (lv_at hl 9 rfl) ?_
                    refine lv_bipush (v := (-9)) hx hb dL_isRefused_500 (by decide) ?_
                    have hFc := va_free (wc := ob_wX ax ao al am ac ++ ob_wC t ac cn st Wt) hD hS hA [0, 22, 23, 24, 25, 26, 27, 28, 29, 30, 31, 32, 33, 34, 35, 36, 37, 38, 39] rfl
                    refine va_calli (ob_runN (vx_runSX (As := [.ref ax, .int (nI 1), .int z9, .int z9, .int (-9)]) (rest := []) ⟨hx, hb, hml, hown, hts⟩ (y_act1_no0 l hl9 sa D t H.size ax ao al am ac cn st Wt z9 z9 (-9) (by first | assumption | omega) (by simp only [h9, Bool.false_and, Bool.and_false]; rfl)) (vx_cwSW 5 hts gL_isRefused_L_act rfl rfl rfl (by decide +kernel) ⟨Nat.le_of_ble_eq_true rfl, Nat.le_of_ble_eq_true rfl⟩) (ob_pYS (hP.sub [0, 22, 23, 24, 25, 26, 27, 28, 29, 30, 31, 32, 33, 34, 35, 36, 37, 38, 39] rfl) (hD.sub [0, 22, 23, 24, 25, 26, 27, 28, 29, 30, 31, 32, 33, 34, 35, 36, 37, 38, 39] (by decide) rfl) hk (ob_exN hE0 hS hFc) hN) rfl rfl hl.1 rfl (lv_room (Nat.le_of_ble_eq_true rfl)) dL_isRefused_502 ⟨Nat.le_of_ble_eq_true rfl, Nat.le_of_ble_eq_true rfl⟩)) hS (fun q _ h => hFc q h) hFc (fun r9 u9 t9 H1 locs ht hvm hw9 hB hz1 hk1 hS => ?_)
                    refine W.widen (k := 22) (n := 132) (Nat.le_of_ble_eq_true rfl) (Nat.le_of_ble_eq_true rfl) ?_
                    rw [ht] at hB
                    have hP := ob_jn (ws' := ob_wX ax ao al am ac ++ ob_wO t ao M ++ ob_wL t al n cl rd sv pb ba bf od bg ++ ob_wM t am mn ms mf mt mp ++ ob_wC t ac cn st Wt ++ ob_wV t xm fm) hP hD [some 0, none, none, none, none, none, none, none, none, none, none, none, none, none, none, none, none, none, none, none, none, none, some 1, some 2, some 3, some 4, some 5, some 6, some 7, some 8, some 9, some 10, some 11, some 12, some 13, some 14, some 15, some 16, some 17, some 18, none] [0, 22, 23, 24, 25, 26, 27, 28, 29, 30, 31, 32, 33, 34, 35, 36, 37, 38, 39] rfl rfl hk1 hB rfl
                    have hD : va_D (va_A (ob_wX ax ao al am ac ++ ob_wO t ao M ++ ob_wL t al n cl rd sv pb ba bf od bg ++ ob_wM t am mn ms mf mt mp ++ ob_wC t ac cn st Wt ++ ob_wV t xm fm) sz) (ob_wX ax ao al am ac ++ ob_wO t ao M ++ ob_wL t al n cl rd sv pb ba bf od bg ++ ob_wM t am mn ms mf mt mp ++ ob_wC t ac cn st Wt ++ ob_wV t xm fm) := ob_dXOLMCV hD
                    generalize H1 = H at hP hS ⊢
                    subst hw9
                    refine lv_ldc (v := -3000001) hx hb hown (hts (Cond.constant RL 81 (-3000001)) (List.mem_of_getElem? (i := 2) rfl)) dL_isRefused_505 ?_
                    refine lv_icmp_ne (tgt := 599) hx hb dL_isRefused_507 (by decide) (fun c9 => absurd c9 (by decide)) (fun _ => ?_)
                    refine lv_aload_n hx hb dL_isRefused_510 rfl (lv_at hl 1 rfl) ?_
                    refine lv_iconst (v := nI 2) hx hb dL_isRefused_511 (by decide) ?_
                    refine lv_iload hx hb dL_isRefused_512 (lv_at hl 9 rfl) ?_
                    refine lv_iconst (v := nI 1) hx hb dL_isRefused_514 (by decide) ?_
                    refine lv_iconst (v := nI 0) hx hb dL_isRefused_515 (by decide) ?_
                    have hFc := va_free (wc := ob_wX ax ao al am ac ++ ob_wC t ac cn st Wt) hD hS hA [0, 22, 23, 24, 25, 26, 27, 28, 29, 30, 31, 32, 33, 34, 35, 36, 37, 38, 39] rfl
                    refine va_calli (ob_runN (vx_runSX (As := [.ref ax, .int (nI 2), .int z9, .int (nI 1), .int (nI 0)]) (rest := []) ⟨hx, hb, hml, hown, hts⟩ (y_act2_no0 l hl9 sa D t H.size ax ao al am ac cn st Wt z9 (nI 1) (nI 0) (by first | assumption | omega) (by simp only [h9, Bool.false_and, Bool.and_false]; rfl)) (vx_cwSW 5 hts gL_isRefused_L_act rfl rfl rfl (by decide +kernel) ⟨Nat.le_of_ble_eq_true rfl, Nat.le_of_ble_eq_true rfl⟩) (ob_pYS (hP.sub [0, 22, 23, 24, 25, 26, 27, 28, 29, 30, 31, 32, 33, 34, 35, 36, 37, 38, 39] rfl) (hD.sub [0, 22, 23, 24, 25, 26, 27, 28, 29, 30, 31, 32, 33, 34, 35, 36, 37, 38, 39] (by decide) rfl) hk (ob_exN hE0 hS hFc) hN) rfl rfl hl.1 rfl (lv_room (Nat.le_of_ble_eq_true rfl)) dL_isRefused_516 ⟨Nat.le_of_ble_eq_true rfl, Nat.le_of_ble_eq_true rfl⟩)) hS (fun q _ h => hFc q h) hFc (fun r9 u9 t9 H1 locs ht hvm hw9 hB hz1 hk1 hS => ?_)
                    refine W.widen (k := 23) (n := 138) (Nat.le_of_ble_eq_true rfl) (Nat.le_of_ble_eq_true rfl) ?_
                    rw [ht] at hB
                    have hP := ob_jn (ws' := ob_wX ax ao al am ac ++ ob_wO t ao M ++ ob_wL t al n cl rd sv pb ba bf od bg ++ ob_wM t am mn ms mf mt mp ++ ob_wC t ac cn st Wt ++ ob_wV t xm fm) hP hD [some 0, none, none, none, none, none, none, none, none, none, none, none, none, none, none, none, none, none, none, none, none, none, some 1, some 2, some 3, some 4, some 5, some 6, some 7, some 8, some 9, some 10, some 11, some 12, some 13, some 14, some 15, some 16, some 17, some 18, none] [0, 22, 23, 24, 25, 26, 27, 28, 29, 30, 31, 32, 33, 34, 35, 36, 37, 38, 39] rfl rfl hk1 hB rfl
                    have hD : va_D (va_A (ob_wX ax ao al am ac ++ ob_wO t ao M ++ ob_wL t al n cl rd sv pb ba bf od bg ++ ob_wM t am mn ms mf mt mp ++ ob_wC t ac cn st Wt ++ ob_wV t xm fm) sz) (ob_wX ax ao al am ac ++ ob_wO t ao M ++ ob_wL t al n cl rd sv pb ba bf od bg ++ ob_wM t am mn ms mf mt mp ++ ob_wC t ac cn st Wt ++ ob_wV t xm fm) := ob_dXOLMCV hD
                    generalize H1 = H at hP hS ⊢
                    subst hw9
                    refine lv_ldc (v := -3000001) hx hb hown (hts (Cond.constant RL 81 (-3000001)) (List.mem_of_getElem? (i := 2) rfl)) dL_isRefused_519 ?_
                    refine lv_icmp_ne (tgt := 599) hx hb dL_isRefused_521 (by decide) (fun c9 => absurd c9 (by decide)) (fun _ => ?_)
                    refine lv_aload_n hx hb dL_isRefused_524 rfl (lv_at hl 1 rfl) ?_
                    refine lv_bipush (v := nI 8) hx hb dL_isRefused_525 (by decide) ?_
                    refine lv_iload hx hb dL_isRefused_527 (lv_at hl 9 rfl) ?_
                    refine lv_iconst (v := nI 0) hx hb dL_isRefused_529 (by decide) ?_
                    refine lv_iconst (v := nI 0) hx hb dL_isRefused_530 (by decide) ?_
                    have hFc := va_free (wc := ob_wX ax ao al am ac ++ ob_wC t ac cn st Wt) hD hS hA [0, 22, 23, 24, 25, 26, 27, 28, 29, 30, 31, 32, 33, 34, 35, 36, 37, 38, 39] rfl
                    refine va_calli (ob_runN (vx_runSX (As := [.ref ax, .int (nI 8), .int z9, .int (nI 0), .int (nI 0)]) (rest := []) ⟨hx, hb, hml, hown, hts⟩ (y_act8_no0 l hl9 sa D t H.size ax ao al am ac cn st Wt z9 (nI 0) (nI 0) (by first | assumption | omega) (by simp only [h9, Bool.false_and, Bool.and_false]; rfl)) (vx_cwSW 5 hts gL_isRefused_L_act rfl rfl rfl (by decide +kernel) ⟨Nat.le_of_ble_eq_true rfl, Nat.le_of_ble_eq_true rfl⟩) (ob_pYS (hP.sub [0, 22, 23, 24, 25, 26, 27, 28, 29, 30, 31, 32, 33, 34, 35, 36, 37, 38, 39] rfl) (hD.sub [0, 22, 23, 24, 25, 26, 27, 28, 29, 30, 31, 32, 33, 34, 35, 36, 37, 38, 39] (by decide) rfl) hk (ob_exN hE0 hS hFc) hN) rfl rfl hl.1 rfl (lv_room (Nat.le_of_ble_eq_true rfl)) dL_isRefused_531 ⟨Nat.le_of_ble_eq_true rfl, Nat.le_of_ble_eq_true rfl⟩)) hS (fun q _ h => hFc q h) hFc (fun r9 u9 t9 H1 locs ht hvm hw9 hB hz1 hk1 hS => ?_)
                    refine W.widen (k := 24) (n := 144) (Nat.le_of_ble_eq_true rfl) (Nat.le_of_ble_eq_true rfl) ?_
                    rw [ht] at hB
                    have hP := ob_jn (ws' := ob_wX ax ao al am ac ++ ob_wO t ao M ++ ob_wL t al n cl rd sv pb ba bf od bg ++ ob_wM t am mn ms mf mt mp ++ ob_wC t ac cn st Wt ++ ob_wV t xm fm) hP hD [some 0, none, none, none, none, none, none, none, none, none, none, none, none, none, none, none, none, none, none, none, none, none, some 1, some 2, some 3, some 4, some 5, some 6, some 7, some 8, some 9, some 10, some 11, some 12, some 13, some 14, some 15, some 16, some 17, some 18, none] [0, 22, 23, 24, 25, 26, 27, 28, 29, 30, 31, 32, 33, 34, 35, 36, 37, 38, 39] rfl rfl hk1 hB rfl
                    have hD : va_D (va_A (ob_wX ax ao al am ac ++ ob_wO t ao M ++ ob_wL t al n cl rd sv pb ba bf od bg ++ ob_wM t am mn ms mf mt mp ++ ob_wC t ac cn st Wt ++ ob_wV t xm fm) sz) (ob_wX ax ao al am ac ++ ob_wO t ao M ++ ob_wL t al n cl rd sv pb ba bf od bg ++ ob_wM t am mn ms mf mt mp ++ ob_wC t ac cn st Wt ++ ob_wV t xm fm) := ob_dXOLMCV hD
                    generalize H1 = H at hP hS ⊢
                    subst hw9
                    refine lv_ldc (v := -3000001) hx hb hown (hts (Cond.constant RL 81 (-3000001)) (List.mem_of_getElem? (i := 2) rfl)) dL_isRefused_534 ?_
                    refine lv_icmp_ne (tgt := 599) hx hb dL_isRefused_536 (by decide) (fun c9 => absurd c9 (by decide)) (fun _ => ?_)
                    refine lv_aload_n hx hb dL_isRefused_539 rfl (lv_at hl 1 rfl) ?_
                    refine lv_bipush (v := nI 9) hx hb dL_isRefused_540 (by decide) ?_
                    refine lv_iload hx hb dL_isRefused_542 (lv_at hl 9 rfl) ?_
                    refine lv_iconst (v := nI 0) hx hb dL_isRefused_544 (by decide) ?_
                    refine lv_iconst (v := nI 0) hx hb dL_isRefused_545 (by decide) ?_
                    have hFc := va_free (wc := ob_wX ax ao al am ac ++ ob_wC t ac cn st Wt) hD hS hA [0, 22, 23, 24, 25, 26, 27, 28, 29, 30, 31, 32, 33, 34, 35, 36, 37, 38, 39] rfl
                    refine va_calli (ob_runN (vx_runSX (As := [.ref ax, .int (nI 9), .int z9, .int (nI 0), .int (nI 0)]) (rest := []) ⟨hx, hb, hml, hown, hts⟩ (y_act9_no0 l hl9 sa D t H.size ax ao al am ac cn st Wt z9 (nI 0) (nI 0) (by first | assumption | omega) (by simp only [h9, Bool.false_and, Bool.and_false]; rfl)) (vx_cwSW 5 hts gL_isRefused_L_act rfl rfl rfl (by decide +kernel) ⟨Nat.le_of_ble_eq_true rfl, Nat.le_of_ble_eq_true rfl⟩) (ob_pYS (hP.sub [0, 22, 23, 24, 25, 26, 27, 28, 29, 30, 31, 32, 33, 34, 35, 36, 37, 38, 39] rfl) (hD.sub [0, 22, 23, 24, 25, 26, 27, 28, 29, 30, 31, 32, 33, 34, 35, 36, 37, 38, 39] (by decide) rfl) hk (ob_exN hE0 hS hFc) hN) rfl rfl hl.1 rfl (lv_room (Nat.le_of_ble_eq_true rfl)) dL_isRefused_546 ⟨Nat.le_of_ble_eq_true rfl, Nat.le_of_ble_eq_true rfl⟩)) hS (fun q _ h => hFc q h) hFc (fun r9 u9 t9 H1 locs ht hvm hw9 hB hz1 hk1 hS => ?_)
                    refine W.widen (k := 25) (n := 150) (Nat.le_of_ble_eq_true rfl) (Nat.le_of_ble_eq_true rfl) ?_
                    rw [ht] at hB
                    have hP := ob_jn (ws' := ob_wX ax ao al am ac ++ ob_wO t ao M ++ ob_wL t al n cl rd sv pb ba bf od bg ++ ob_wM t am mn ms mf mt mp ++ ob_wC t ac cn st Wt ++ ob_wV t xm fm) hP hD [some 0, none, none, none, none, none, none, none, none, none, none, none, none, none, none, none, none, none, none, none, none, none, some 1, some 2, some 3, some 4, some 5, some 6, some 7, some 8, some 9, some 10, some 11, some 12, some 13, some 14, some 15, some 16, some 17, some 18, none] [0, 22, 23, 24, 25, 26, 27, 28, 29, 30, 31, 32, 33, 34, 35, 36, 37, 38, 39] rfl rfl hk1 hB rfl
                    have hD : va_D (va_A (ob_wX ax ao al am ac ++ ob_wO t ao M ++ ob_wL t al n cl rd sv pb ba bf od bg ++ ob_wM t am mn ms mf mt mp ++ ob_wC t ac cn st Wt ++ ob_wV t xm fm) sz) (ob_wX ax ao al am ac ++ ob_wO t ao M ++ ob_wL t al n cl rd sv pb ba bf od bg ++ ob_wM t am mn ms mf mt mp ++ ob_wC t ac cn st Wt ++ ob_wV t xm fm) := ob_dXOLMCV hD
                    generalize H1 = H at hP hS ⊢
                    subst hw9
                    refine lv_ldc (v := -3000001) hx hb hown (hts (Cond.constant RL 81 (-3000001)) (List.mem_of_getElem? (i := 2) rfl)) dL_isRefused_549 ?_
                    refine lv_icmp_ne (tgt := 599) hx hb dL_isRefused_551 (by decide) (fun c9 => absurd c9 (by decide)) (fun _ => ?_)
                    refine lv_aload_n hx hb dL_isRefused_554 rfl (lv_at hl 2 rfl) ?_
                    refine lv_iconst (v := nI 0) hx hb dL_isRefused_555 (by decide) ?_
                    refine ob_iald hx hb hK hP 40 0 rfl rfl (by omega) (by decide) dL_isRefused_556 ?_
                    rw [show fm 0 = nI n from hf0]
                    refine lv_bipush (v := nI 12) hx hb dL_isRefused_557 (by decide) ?_
                    refine ob_icmp_le (tgt := 573) hx hb (by omega) (by omega) dL_isRefused_559 (by decide) (fun c559 => ?_) (fun c559 => ?_)
                    · refine lv_aload_n hx hb dL_isRefused_573 rfl (lv_at hl 2 rfl) ?_
                      refine lv_iconst (v := nI 0) hx hb dL_isRefused_574 (by decide) ?_
                      refine ob_iald hx hb hK hP 40 0 rfl rfl (by omega) (by decide) dL_isRefused_575 ?_
                      rw [show fm 0 = nI n from hf0]
                      refine lv_bipush (v := nI 30) hx hb dL_isRefused_576 (by decide) ?_
                      refine ob_icmp_lt (tgt := 595) hx hb (by omega) (by omega) dL_isRefused_578 (by decide) (fun c578 => ?_) (fun c578 => ?_)
                      · refine lv_iconst (v := nI 1) hx hb dL_isRefused_595 (by decide) ?_
                        refine lv_goto (tgt := 600) hx hb dL_isRefused_596 (by decide) ?_
                        refine lv_istore (lv' := [(11, .int (nI 1)), (0, .ref ax), (1, .ref xm), (2, .int (nI x)), (3, .int (ob_bi b3)), (4, .int z5), (5, .int z6), (6, .int z7), (7, .int z8), (8, .int z9), (9, .long (ob_all M n pb ba od mn ms mf mt mp cn st Wt))]) hx hb dL_isRefused_600 hl (by decide) rfl (fun ls hl => ?_)
                        refine lv_iload hx hb dL_isRefused_602 (lv_at hl 0 rfl) ?_
                        refine lv_if_eq (tgt := 764) hx hb dL_isRefused_604 (by decide) (fun c9 => absurd c9 (by decide)) (fun _ => ?_)
                        have k675 : ∀ (H : Heap) (locs : List Loc), va_P D vwCl (ob_wX ax ao al am ac ++ ob_wO t ao M ++ ob_wL t al n cl rd sv pb ba bf od bg ++ ob_wM t am mn ms mf mt mp ++ ob_wC t ac cn st Wt ++ ob_wV t xm fm) H → va_D (va_A (ob_wX ax ao al am ac ++ ob_wO t ao M ++ ob_wL t al n cl rd sv pb ba bf od bg ++ ob_wM t am mn ms mf mt mp ++ ob_wC t ac cn st Wt ++ ob_wV t xm fm) sz) (ob_wX ax ao al am ac ++ ob_wO t ao M ++ ob_wL t al n cl rd sv pb ba bf od bg ++ ob_wM t am mn ms mf mt mp ++ ob_wC t ac cn st Wt ++ ob_wV t xm fm) → va_S (va_A (ob_wX ax ao al am ac ++ ob_wO t ao M ++ ob_wL t al n cl rd sv pb ba bf od bg ++ ob_wM t am mn ms mf mt mp ++ ob_wC t ac cn st Wt ++ ob_wV t xm fm) sz) s.heap H locs → ∀ ls : Array Slot, lv_has ls 12 [(0, .ref ax), (1, .ref xm), (2, .int (nI x)), (3, .int (ob_bi b3)), (4, .int z5), (5, .int z6), (6, .int z7), (7, .int z8), (8, .int z9), (9, .long (ob_all M n pb ba od mn ms mf mt mp cn st Wt))] → W p l e (headSpec wsL_isRefused ({ frames := 8, cells := 31, slots := 186, locals := 187 } : Room)).room s m ([.ref ax, .ref xm, .int (nI x)] : List Value).toArray below meth c H locs 28 168 (MQ below (va_Qi (fun (r : Int32) (_ : Unit) => r = nI 1) (fun (_ : Unit) (t9 : State) => va_P D vwCl (ob_wX ax ao al am ac ++ ob_wO t ao M ++ ob_wL t al n cl rd sv pb ba bf od bg ++ ob_wM t am mn ms mf mt mp ++ ob_wC t ac cn st Wt ++ ob_wV t xm fm) t9.heap) (va_A (ob_wX ax ao al am ac ++ ob_wO t ao M ++ ob_wL t al n cl rd sv pb ba bf od bg ++ ob_wM t am mn ms mf mt mp ++ ob_wC t ac cn st Wt ++ ob_wV t xm fm) sz)) ([.ref ax, .ref xm, .int (nI x)] : List Value).toArray s 31 186 (va_A (ob_wX ax ao al am ac ++ ob_wO t ao M ++ ob_wL t al n cl rd sv pb ba bf od bg ++ ob_wM t am mn ms mf mt mp ++ ob_wC t ac cn st Wt ++ ob_wV t xm fm) sz)) (F0 m 675 ls []) := by
                          intro   H locs hP hD hS ls hl
                          have k720 : ∀ (H : Heap) (locs : List Loc), va_P D vwCl (ob_wX ax ao al am ac ++ ob_wO t ao M ++ ob_wL t al n cl rd sv pb ba bf od bg ++ ob_wM t am mn ms mf mt mp ++ ob_wC t ac cn st Wt ++ ob_wV t xm fm) H → va_D (va_A (ob_wX ax ao al am ac ++ ob_wO t ao M ++ ob_wL t al n cl rd sv pb ba bf od bg ++ ob_wM t am mn ms mf mt mp ++ ob_wC t ac cn st Wt ++ ob_wV t xm fm) sz) (ob_wX ax ao al am ac ++ ob_wO t ao M ++ ob_wL t al n cl rd sv pb ba bf od bg ++ ob_wM t am mn ms mf mt mp ++ ob_wC t ac cn st Wt ++ ob_wV t xm fm) → va_S (va_A (ob_wX ax ao al am ac ++ ob_wO t ao M ++ ob_wL t al n cl rd sv pb ba bf od bg ++ ob_wM t am mn ms mf mt mp ++ ob_wC t ac cn st Wt ++ ob_wV t xm fm) sz) s.heap H locs → ∀ ls : Array Slot, lv_has ls 12 [(0, .ref ax), (1, .ref xm), (2, .int (nI x)), (3, .int (ob_bi b3)), (4, .int z5), (5, .int z6), (6, .int z7), (7, .int z8), (8, .int z9), (9, .long (ob_all M n pb ba od mn ms mf mt mp cn st Wt))] → W p l e (headSpec wsL_isRefused ({ frames := 8, cells := 31, slots := 186, locals := 187 } : Room)).room s m ([.ref ax, .ref xm, .int (nI x)] : List Value).toArray below meth c H locs 30 180 (MQ below (va_Qi (fun (r : Int32) (_ : Unit) => r = nI 1) (fun (_ : Unit) (t9 : State) => va_P D vwCl (ob_wX ax ao al am ac ++ ob_wO t ao M ++ ob_wL t al n cl rd sv pb ba bf od bg ++ ob_wM t am mn ms mf mt mp ++ ob_wC t ac cn st Wt ++ ob_wV t xm fm) t9.heap) (va_A (ob_wX ax ao al am ac ++ ob_wO t ao M ++ ob_wL t al n cl rd sv pb ba bf od bg ++ ob_wM t am mn ms mf mt mp ++ ob_wC t ac cn st Wt ++ ob_wV t xm fm) sz)) ([.ref ax, .ref xm, .int (nI x)] : List Value).toArray s 31 186 (va_A (ob_wX ax ao al am ac ++ ob_wO t ao M ++ ob_wL t al n cl rd sv pb ba bf od bg ++ ob_wM t am mn ms mf mt mp ++ ob_wC t ac cn st Wt ++ ob_wV t xm fm) sz)) (F0 m 720 ls []) := by
                            intro   H locs hP hD hS ls hl
                            have k749 : ∀ (H : Heap) (locs : List Loc), va_P D vwCl (ob_wX ax ao al am ac ++ ob_wO t ao M ++ ob_wL t al n cl rd sv pb ba bf od bg ++ ob_wM t am mn ms mf mt mp ++ ob_wC t ac cn st Wt ++ ob_wV t xm fm) H → va_D (va_A (ob_wX ax ao al am ac ++ ob_wO t ao M ++ ob_wL t al n cl rd sv pb ba bf od bg ++ ob_wM t am mn ms mf mt mp ++ ob_wC t ac cn st Wt ++ ob_wV t xm fm) sz) (ob_wX ax ao al am ac ++ ob_wO t ao M ++ ob_wL t al n cl rd sv pb ba bf od bg ++ ob_wM t am mn ms mf mt mp ++ ob_wC t ac cn st Wt ++ ob_wV t xm fm) → va_S (va_A (ob_wX ax ao al am ac ++ ob_wO t ao M ++ ob_wL t al n cl rd sv pb ba bf od bg ++ ob_wM t am mn ms mf mt mp ++ ob_wC t ac cn st Wt ++ ob_wV t xm fm) sz) s.heap H locs → ∀ ls : Array Slot, lv_has ls 12 [(0, .ref ax), (1, .ref xm), (2, .int (nI x)), (3, .int (ob_bi b3)), (4, .int z5), (5, .int z6), (6, .int z7), (7, .int z8), (8, .int z9), (9, .long (ob_all M n pb ba od mn ms mf mt mp cn st Wt))] → W p l e (headSpec wsL_isRefused ({ frames := 8, cells := 31, slots := 186, locals := 187 } : Room)).room s m ([.ref ax, .ref xm, .int (nI x)] : List Value).toArray below meth c H locs 31 186 (MQ below (va_Qi (fun (r : Int32) (_ : Unit) => r = nI 1) (fun (_ : Unit) (t9 : State) => va_P D vwCl (ob_wX ax ao al am ac ++ ob_wO t ao M ++ ob_wL t al n cl rd sv pb ba bf od bg ++ ob_wM t am mn ms mf mt mp ++ ob_wC t ac cn st Wt ++ ob_wV t xm fm) t9.heap) (va_A (ob_wX ax ao al am ac ++ ob_wO t ao M ++ ob_wL t al n cl rd sv pb ba bf od bg ++ ob_wM t am mn ms mf mt mp ++ ob_wC t ac cn st Wt ++ ob_wV t xm fm) sz)) ([.ref ax, .ref xm, .int (nI x)] : List Value).toArray s 31 186 (va_A (ob_wX ax ao al am ac ++ ob_wO t ao M ++ ob_wL t al n cl rd sv pb ba bf od bg ++ ob_wM t am mn ms mf mt mp ++ ob_wC t ac cn st Wt ++ ob_wV t xm fm) sz)) (F0 m 749 ls []) := by
                              intro   H locs hP hD hS ls hl
                              refine lv_aload_n hx hb dL_isRefused_749 rfl (lv_at hl 0 rfl) ?_
                              refine lv_aload_n hx hb dL_isRefused_750 rfl (lv_at hl 1 rfl) ?_
                              refine vp_callSl (va_Run.run (va_runS (As := [.ref ax, .ref xm]) (rest := []) ⟨hx, hb, hml, hown, hts⟩ (c_L_all l D t ax ao al am ac M n cl rd sv pb ba bf od bg mn ms mf mt mp cn st Wt xm fm (by first | assumption | omega) (by first | assumption | omega) (by first | assumption | omega) (by first | assumption | omega) (by first | assumption | omega)) (va_cwS 2 hts gL_isRefused_L_all rfl rfl rfl (by decide +kernel) ⟨Nat.le_of_ble_eq_true rfl, Nat.le_of_ble_eq_true rfl⟩) (ob_preS hP hk) rfl rfl hl.1 rfl (lv_room (Nat.le_of_ble_eq_true rfl)) dL_isRefused_751 ⟨Nat.le_of_ble_eq_true rfl, Nat.le_of_ble_eq_true rfl⟩)) (fun r9 hr9 => ?_)
                              subst hr9
                              refine lv_lload hx hb dL_isRefused_754 (lv_at hl 9 rfl) ?_
                              refine W.lcmp hx hb dL_isRefused_756 ?_
                              refine lv_if_ne (tgt := 764) hx hb dL_isRefused_757 (by decide) (fun c757 => ?_) (fun c757 => ?_)
                              · exact absurd ((lg_cmp_eq _ _).mpr rfl) c757
                              · refine lv_iconst (v := nI 1) hx hb dL_isRefused_760 (by decide) ?_
                                refine lv_goto (tgt := 765) hx hb dL_isRefused_761 (by decide) ?_
                                refine W.widen (k := 31) (n := 186) (Nat.le_of_ble_eq_true rfl) (Nat.le_of_ble_eq_true rfl) ?_
                                exact W.zret (v := nI 1) hx hb hr rfl (fun t9 ht hW => ⟨⟨nI 1, (), rfl, rfl, ob_th ht hP⟩, hS.F ht⟩) hS.2.2 dL_isRefused_765
                            refine lv_aload_n hx hb dL_isRefused_720 rfl (lv_at hl 1 rfl) ?_
                            refine lv_iconst (v := nI 2) hx hb dL_isRefused_721 (by decide) ?_
                            refine ob_iald hx hb hK hP 40 0 rfl rfl (by omega) (by decide) dL_isRefused_722 ?_
                            rw [show fm 2 = nI cn from hf2]
                            refine lv_iconst (v := nI 2) hx hb dL_isRefused_723 (by decide) ?_
                            refine ob_icmp_lt (tgt := 749) hx hb (by omega) (by omega) dL_isRefused_724 (by decide) (fun c724 => ?_) (fun c724 => ?_)
                            · refine W.widen (k := 31) (n := 186) (Nat.le_of_ble_eq_true rfl) (Nat.le_of_ble_eq_true rfl) ?_
                              exact k749   _ _ hP (ob_dXOLMCV hD) hS _ (lv_sub hl [0, 1, 2, 3, 4, 5, 6, 7, 8, 9] rfl)
                            · have k741 : ∀ (w : Int32), (ob_wi w (nI 0) (nI 100) = false) → ∀ ls : Array Slot, lv_has ls 12 [(0, .ref ax), (1, .ref xm), (2, .int (nI x)), (3, .int (ob_bi b3)), (4, .int z5), (5, .int z6), (6, .int z7), (7, .int z8), (8, .int z9), (9, .long (ob_all M n pb ba od mn ms mf mt mp cn st Wt))] → W p l e (headSpec wsL_isRefused ({ frames := 8, cells := 31, slots := 186, locals := 187 } : Room)).room s m ([.ref ax, .ref xm, .int (nI x)] : List Value).toArray below meth c H locs 30 180 (MQ below (va_Qi (fun (r : Int32) (_ : Unit) => r = nI 1) (fun (_ : Unit) (t9 : State) => va_P D vwCl (ob_wX ax ao al am ac ++ ob_wO t ao M ++ ob_wL t al n cl rd sv pb ba bf od bg ++ ob_wM t am mn ms mf mt mp ++ ob_wC t ac cn st Wt ++ ob_wV t xm fm) t9.heap) (va_A (ob_wX ax ao al am ac ++ ob_wO t ao M ++ ob_wL t al n cl rd sv pb ba bf od bg ++ ob_wM t am mn ms mf mt mp ++ ob_wC t ac cn st Wt ++ ob_wV t xm fm) sz)) ([.ref ax, .ref xm, .int (nI x)] : List Value).toArray s 31 186 (va_A (ob_wX ax ao al am ac ++ ob_wO t ao M ++ ob_wL t al n cl rd sv pb ba bf od bg ++ ob_wM t am mn ms mf mt mp ++ ob_wC t ac cn st Wt ++ ob_wV t xm fm) sz)) (F0 m 741 ls [.int w, .int (nI 0), .int (nI 1), .int (nI 1), .ref ax]) := by
                                intro w hw ls hl
                                have hFc := va_free (wc := ob_wX ax ao al am ac ++ ob_wC t ac cn st Wt) hD hS hA [0, 22, 23, 24, 25, 26, 27, 28, 29, 30, 31, 32, 33, 34, 35, 36, 37, 38, 39] rfl
                                refine va_calli (ob_runN (vx_runSX (As := [.ref ax, .int (nI 1), .int (nI 1), .int (nI 0), .int w]) (rest := []) ⟨hx, hb, hml, hown, hts⟩ (y_act1_no1 l hl9 sa D t H.size ax ao al am ac cn st Wt (nI 1) (nI 0) w (by first | assumption | omega) (by rw [ob_hd_nI (show 1 < cn by omega) (by omega), ob_hd_nI (show 0 < cn by omega) (by omega), hw, Bool.and_false]; rfl)) (vx_cwSW 5 hts gL_isRefused_L_act rfl rfl rfl (by decide +kernel) ⟨Nat.le_of_ble_eq_true rfl, Nat.le_of_ble_eq_true rfl⟩) (ob_pYS (hP.sub [0, 22, 23, 24, 25, 26, 27, 28, 29, 30, 31, 32, 33, 34, 35, 36, 37, 38, 39] rfl) (hD.sub [0, 22, 23, 24, 25, 26, 27, 28, 29, 30, 31, 32, 33, 34, 35, 36, 37, 38, 39] (by decide) rfl) hk (ob_exN hE0 hS hFc) hN) rfl rfl hl.1 rfl (lv_room (Nat.le_of_ble_eq_true rfl)) dL_isRefused_741 ⟨Nat.le_of_ble_eq_true rfl, Nat.le_of_ble_eq_true rfl⟩)) hS (fun q _ h => hFc q h) hFc (fun r9 u9 t9 H1 locs ht hvm hw9 hB hz1 hk1 hS => ?_)
                                refine W.widen (k := 31) (n := 186) (Nat.le_of_ble_eq_true rfl) (Nat.le_of_ble_eq_true rfl) ?_
                                rw [ht] at hB
                                have hP := ob_jn (ws' := ob_wX ax ao al am ac ++ ob_wO t ao M ++ ob_wL t al n cl rd sv pb ba bf od bg ++ ob_wM t am mn ms mf mt mp ++ ob_wC t ac cn st Wt ++ ob_wV t xm fm) hP hD [some 0, none, none, none, none, none, none, none, none, none, none, none, none, none, none, none, none, none, none, none, none, none, some 1, some 2, some 3, some 4, some 5, some 6, some 7, some 8, some 9, some 10, some 11, some 12, some 13, some 14, some 15, some 16, some 17, some 18, none] [0, 22, 23, 24, 25, 26, 27, 28, 29, 30, 31, 32, 33, 34, 35, 36, 37, 38, 39] rfl rfl hk1 hB rfl
                                have hD : va_D (va_A (ob_wX ax ao al am ac ++ ob_wO t ao M ++ ob_wL t al n cl rd sv pb ba bf od bg ++ ob_wM t am mn ms mf mt mp ++ ob_wC t ac cn st Wt ++ ob_wV t xm fm) sz) (ob_wX ax ao al am ac ++ ob_wO t ao M ++ ob_wL t al n cl rd sv pb ba bf od bg ++ ob_wM t am mn ms mf mt mp ++ ob_wC t ac cn st Wt ++ ob_wV t xm fm) := ob_dXOLMCV hD
                                generalize H1 = H at hP hS ⊢
                                subst hw9
                                refine lv_ldc (v := -3000002) hx hb hown (hts (Cond.constant RL 17 (-3000002)) (List.mem_of_getElem? (i := 1) rfl)) dL_isRefused_744 ?_
                                refine lv_icmp_ne (tgt := 764) hx hb dL_isRefused_746 (by decide) (fun c9 => absurd c9 (by decide)) (fun _ => ?_)
                                exact k749   _ _ hP (ob_dXOLMCV hD) hS _ (lv_sub hl [0, 1, 2, 3, 4, 5, 6, 7, 8, 9] rfl)
                              refine lv_aload_n hx hb dL_isRefused_727 rfl (lv_at hl 0 rfl) ?_
                              refine lv_iconst (v := nI 1) hx hb dL_isRefused_728 (by decide) ?_
                              refine lv_iconst (v := nI 1) hx hb dL_isRefused_729 (by decide) ?_
                              refine lv_iconst (v := nI 0) hx hb dL_isRefused_730 (by decide) ?_
                              refine lv_iload_n hx hb dL_isRefused_731 rfl (lv_at hl 3 rfl) ?_
                              refine ob_if_eq (tgt := 739) hx hb dL_isRefused_732 (by decide) (fun c732 => ?_) (fun c732 => ?_)
                              · refine lv_bipush (v := nI 101) hx hb dL_isRefused_739 (by decide) ?_
                                exact k741 (nI 101) (by first | exact ob_wm1 | exact ob_whi (by omega) (by omega)) _ (lv_sub hl [0, 1, 2, 3, 4, 5, 6, 7, 8, 9] rfl)
                              · refine lv_iconst (v := (-1)) hx hb dL_isRefused_735 (by decide) ?_
                                refine lv_goto (tgt := 741) hx hb dL_isRefused_736 (by decide) ?_
                                exact k741 (-1) (by first | exact ob_wm1 | exact ob_whi (by omega) (by omega)) _ (lv_sub hl [0, 1, 2, 3, 4, 5, 6, 7, 8, 9] rfl)
                          refine lv_aload_n hx hb dL_isRefused_675 rfl (lv_at hl 1 rfl) ?_
                          refine lv_iconst (v := nI 2) hx hb dL_isRefused_676 (by decide) ?_
                          refine ob_iald hx hb hK hP 40 0 rfl rfl (by omega) (by decide) dL_isRefused_677 ?_
                          rw [show fm 2 = nI cn from hf2]
                          refine ob_nif_eq (tgt := 720) hx hb (by omega) dL_isRefused_678 (by decide) (fun c678 => ?_) (fun c678 => ?_)
                          · refine W.widen (k := 30) (n := 180) (Nat.le_of_ble_eq_true rfl) (Nat.le_of_ble_eq_true rfl) ?_
                            exact k720   _ _ hP (ob_dXOLMCV hD) hS _ (lv_sub hl [0, 1, 2, 3, 4, 5, 6, 7, 8, 9] rfl)
                          · refine lv_aload_n hx hb dL_isRefused_681 rfl (lv_at hl 0 rfl) ?_
                            refine lv_iconst (v := nI 1) hx hb dL_isRefused_682 (by decide) ?_
                            refine lv_iload_n hx hb dL_isRefused_683 rfl (lv_at hl 2 rfl) ?_
                            refine lv_aload_n hx hb dL_isRefused_684 rfl (lv_at hl 1 rfl) ?_
                            refine lv_iconst (v := nI 2) hx hb dL_isRefused_685 (by decide) ?_
                            refine ob_iald hx hb hK hP 40 0 rfl rfl (by omega) (by decide) dL_isRefused_686 ?_
                            rw [show fm 2 = nI cn from hf2]
                            refine lv_irem hx hb dL_isRefused_687 (nI_ne0 (by omega) (by omega)) ?_
                            rw [show (nI x) - (nI x) / (nI cn) * (nI cn) = nI (x % cn) from pk_rem (by omega) (by omega) (by omega)]
                            refine lv_iload hx hb dL_isRefused_688 (lv_at hl 8 rfl) ?_
                            refine lv_iconst (v := nI 5) hx hb dL_isRefused_690 (by decide) ?_
                            have hFc := va_free (wc := ob_wX ax ao al am ac ++ ob_wC t ac cn st Wt) hD hS hA [0, 22, 23, 24, 25, 26, 27, 28, 29, 30, 31, 32, 33, 34, 35, 36, 37, 38, 39] rfl
                            refine va_calli (ob_runN (vx_runSX (As := [.ref ax, .int (nI 1), .int (nI (x % cn)), .int z9, .int (nI 5)]) (rest := []) ⟨hx, hb, hml, hown, hts⟩ (y_act1_no0 l hl9 sa D t H.size ax ao al am ac cn st Wt (nI (x % cn)) z9 (nI 5) (by first | assumption | omega) (by simp only [h9, Bool.false_and, Bool.and_false]; rfl)) (vx_cwSW 5 hts gL_isRefused_L_act rfl rfl rfl (by decide +kernel) ⟨Nat.le_of_ble_eq_true rfl, Nat.le_of_ble_eq_true rfl⟩) (ob_pYS (hP.sub [0, 22, 23, 24, 25, 26, 27, 28, 29, 30, 31, 32, 33, 34, 35, 36, 37, 38, 39] rfl) (hD.sub [0, 22, 23, 24, 25, 26, 27, 28, 29, 30, 31, 32, 33, 34, 35, 36, 37, 38, 39] (by decide) rfl) hk (ob_exN hE0 hS hFc) hN) rfl rfl hl.1 rfl (lv_room (Nat.le_of_ble_eq_true rfl)) dL_isRefused_691 ⟨Nat.le_of_ble_eq_true rfl, Nat.le_of_ble_eq_true rfl⟩)) hS (fun q _ h => hFc q h) hFc (fun r9 u9 t9 H1 locs ht hvm hw9 hB hz1 hk1 hS => ?_)
                            refine W.widen (k := 29) (n := 174) (Nat.le_of_ble_eq_true rfl) (Nat.le_of_ble_eq_true rfl) ?_
                            rw [ht] at hB
                            have hP := ob_jn (ws' := ob_wX ax ao al am ac ++ ob_wO t ao M ++ ob_wL t al n cl rd sv pb ba bf od bg ++ ob_wM t am mn ms mf mt mp ++ ob_wC t ac cn st Wt ++ ob_wV t xm fm) hP hD [some 0, none, none, none, none, none, none, none, none, none, none, none, none, none, none, none, none, none, none, none, none, none, some 1, some 2, some 3, some 4, some 5, some 6, some 7, some 8, some 9, some 10, some 11, some 12, some 13, some 14, some 15, some 16, some 17, some 18, none] [0, 22, 23, 24, 25, 26, 27, 28, 29, 30, 31, 32, 33, 34, 35, 36, 37, 38, 39] rfl rfl hk1 hB rfl
                            have hD : va_D (va_A (ob_wX ax ao al am ac ++ ob_wO t ao M ++ ob_wL t al n cl rd sv pb ba bf od bg ++ ob_wM t am mn ms mf mt mp ++ ob_wC t ac cn st Wt ++ ob_wV t xm fm) sz) (ob_wX ax ao al am ac ++ ob_wO t ao M ++ ob_wL t al n cl rd sv pb ba bf od bg ++ ob_wM t am mn ms mf mt mp ++ ob_wC t ac cn st Wt ++ ob_wV t xm fm) := ob_dXOLMCV hD
                            generalize H1 = H at hP hS ⊢
                            subst hw9
                            refine lv_ldc (v := -3000001) hx hb hown (hts (Cond.constant RL 81 (-3000001)) (List.mem_of_getElem? (i := 2) rfl)) dL_isRefused_694 ?_
                            refine lv_icmp_ne (tgt := 764) hx hb dL_isRefused_696 (by decide) (fun c9 => absurd c9 (by decide)) (fun _ => ?_)
                            refine lv_aload_n hx hb dL_isRefused_699 rfl (lv_at hl 0 rfl) ?_
                            refine lv_iconst (v := nI 1) hx hb dL_isRefused_700 (by decide) ?_
                            refine lv_iload_n hx hb dL_isRefused_701 rfl (lv_at hl 2 rfl) ?_
                            refine lv_aload_n hx hb dL_isRefused_702 rfl (lv_at hl 1 rfl) ?_
                            refine lv_iconst (v := nI 2) hx hb dL_isRefused_703 (by decide) ?_
                            refine ob_iald hx hb hK hP 40 0 rfl rfl (by omega) (by decide) dL_isRefused_704 ?_
                            rw [show fm 2 = nI cn from hf2]
                            refine lv_irem hx hb dL_isRefused_705 (nI_ne0 (by omega) (by omega)) ?_
                            rw [show (nI x) - (nI x) / (nI cn) * (nI cn) = nI (x % cn) from pk_rem (by omega) (by omega) (by omega)]
                            refine lv_iload_n hx hb dL_isRefused_706 rfl (lv_at hl 2 rfl) ?_
                            refine lv_aload_n hx hb dL_isRefused_707 rfl (lv_at hl 1 rfl) ?_
                            refine lv_iconst (v := nI 2) hx hb dL_isRefused_708 (by decide) ?_
                            refine ob_iald hx hb hK hP 40 0 rfl rfl (by omega) (by decide) dL_isRefused_709 ?_
                            rw [show fm 2 = nI cn from hf2]
                            refine lv_irem hx hb dL_isRefused_710 (nI_ne0 (by omega) (by omega)) ?_
                            rw [show (nI x) - (nI x) / (nI cn) * (nI cn) = nI (x % cn) from pk_rem (by omega) (by omega) (by omega)]
                            refine lv_iconst (v := nI 5) hx hb dL_isRefused_711 (by decide) ?_
                            have hFc := va_free (wc := ob_wX ax ao al am ac ++ ob_wC t ac cn st Wt) hD hS hA [0, 22, 23, 24, 25, 26, 27, 28, 29, 30, 31, 32, 33, 34, 35, 36, 37, 38, 39] rfl
                            refine va_calli (ob_runN (vx_runSX (As := [.ref ax, .int (nI 1), .int (nI (x % cn)), .int (nI (x % cn)), .int (nI 5)]) (rest := []) ⟨hx, hb, hml, hown, hts⟩ (y_act1_no1 l hl9 sa D t H.size ax ao al am ac cn st Wt (nI (x % cn)) (nI (x % cn)) (nI 5) (by first | assumption | omega) (by rw [ob_hd_nI (Nat.mod_lt x (by omega)) (by omega), decide_eq_true (rfl : nI (x % cn) = nI (x % cn))]; rfl)) (vx_cwSW 5 hts gL_isRefused_L_act rfl rfl rfl (by decide +kernel) ⟨Nat.le_of_ble_eq_true rfl, Nat.le_of_ble_eq_true rfl⟩) (ob_pYS (hP.sub [0, 22, 23, 24, 25, 26, 27, 28, 29, 30, 31, 32, 33, 34, 35, 36, 37, 38, 39] rfl) (hD.sub [0, 22, 23, 24, 25, 26, 27, 28, 29, 30, 31, 32, 33, 34, 35, 36, 37, 38, 39] (by decide) rfl) hk (ob_exN hE0 hS hFc) hN) rfl rfl hl.1 rfl (lv_room (Nat.le_of_ble_eq_true rfl)) dL_isRefused_712 ⟨Nat.le_of_ble_eq_true rfl, Nat.le_of_ble_eq_true rfl⟩)) hS (fun q _ h => hFc q h) hFc (fun r9 u9 t9 H1 locs ht hvm hw9 hB hz1 hk1 hS => ?_)
                            refine W.widen (k := 30) (n := 180) (Nat.le_of_ble_eq_true rfl) (Nat.le_of_ble_eq_true rfl) ?_
                            rw [ht] at hB
                            have hP := ob_jn (ws' := ob_wX ax ao al am ac ++ ob_wO t ao M ++ ob_wL t al n cl rd sv pb ba bf od bg ++ ob_wM t am mn ms mf mt mp ++ ob_wC t ac cn st Wt ++ ob_wV t xm fm) hP hD [some 0, none, none, none, none, none, none, none, none, none, none, none, none, none, none, none, none, none, none, none, none, none, some 1, some 2, some 3, some 4, some 5, some 6, some 7, some 8, some 9, some 10, some 11, some 12, some 13, some 14, some 15, some 16, some 17, some 18, none] [0, 22, 23, 24, 25, 26, 27, 28, 29, 30, 31, 32, 33, 34, 35, 36, 37, 38, 39] rfl rfl hk1 hB rfl
                            have hD : va_D (va_A (ob_wX ax ao al am ac ++ ob_wO t ao M ++ ob_wL t al n cl rd sv pb ba bf od bg ++ ob_wM t am mn ms mf mt mp ++ ob_wC t ac cn st Wt ++ ob_wV t xm fm) sz) (ob_wX ax ao al am ac ++ ob_wO t ao M ++ ob_wL t al n cl rd sv pb ba bf od bg ++ ob_wM t am mn ms mf mt mp ++ ob_wC t ac cn st Wt ++ ob_wV t xm fm) := ob_dXOLMCV hD
                            generalize H1 = H at hP hS ⊢
                            subst hw9
                            refine lv_ldc (v := -3000002) hx hb hown (hts (Cond.constant RL 17 (-3000002)) (List.mem_of_getElem? (i := 1) rfl)) dL_isRefused_715 ?_
                            refine lv_icmp_ne (tgt := 764) hx hb dL_isRefused_717 (by decide) (fun c9 => absurd c9 (by decide)) (fun _ => ?_)
                            exact k720   _ _ hP (ob_dXOLMCV hD) hS _ (lv_sub hl [0, 1, 2, 3, 4, 5, 6, 7, 8, 9] rfl)
                        refine lv_aload_n hx hb dL_isRefused_607 rfl (lv_at hl 2 rfl) ?_
                        refine lv_iconst (v := nI 0) hx hb dL_isRefused_608 (by decide) ?_
                        refine ob_iald hx hb hK hP 40 0 rfl rfl (by omega) (by decide) dL_isRefused_609 ?_
                        rw [show fm 0 = nI n from hf0]
                        refine ob_nif_eq (tgt := 675) hx hb (by omega) dL_isRefused_610 (by decide) (fun c610 => ?_) (fun c610 => ?_)
                        · refine W.widen (k := 28) (n := 168) (Nat.le_of_ble_eq_true rfl) (Nat.le_of_ble_eq_true rfl) ?_
                          exact k675   _ _ hP (ob_dXOLMCV hD) hS _ (lv_sub hl [1, 2, 3, 4, 5, 6, 7, 8, 9, 10] rfl)
                        · refine lv_aload_n hx hb dL_isRefused_613 rfl (lv_at hl 1 rfl) ?_
                          refine lv_iconst (v := nI 0) hx hb dL_isRefused_614 (by decide) ?_
                          refine lv_iload_n hx hb dL_isRefused_615 rfl (lv_at hl 3 rfl) ?_
                          refine lv_aload_n hx hb dL_isRefused_616 rfl (lv_at hl 2 rfl) ?_
                          refine lv_iconst (v := nI 0) hx hb dL_isRefused_617 (by decide) ?_
                          refine ob_iald hx hb hK hP 40 0 rfl rfl (by omega) (by decide) dL_isRefused_618 ?_
                          rw [show fm 0 = nI n from hf0]
                          refine lv_irem hx hb dL_isRefused_619 (nI_ne0 (by omega) (by omega)) ?_
                          rw [show (nI x) - (nI x) / (nI n) * (nI n) = nI (x % n) from pk_rem (by omega) (by omega) (by omega)]
                          have k630 : ∀ (w : Int32), (ob_wi w (nI 1) (nI 100) = false) → ∀ ls : Array Slot, lv_has ls 12 [(0, .ref ax), (1, .ref xm), (2, .int (nI x)), (3, .int (ob_bi b3)), (4, .int z5), (5, .int z6), (6, .int z7), (7, .int z8), (8, .int z9), (9, .long (ob_all M n pb ba od mn ms mf mt mp cn st Wt))] → W p l e (headSpec wsL_isRefused ({ frames := 8, cells := 31, slots := 186, locals := 187 } : Room)).room s m ([.ref ax, .ref xm, .int (nI x)] : List Value).toArray below meth c H locs 25 150 (MQ below (va_Qi (fun (r : Int32) (_ : Unit) => r = nI 1) (fun (_ : Unit) (t9 : State) => va_P D vwCl (ob_wX ax ao al am ac ++ ob_wO t ao M ++ ob_wL t al n cl rd sv pb ba bf od bg ++ ob_wM t am mn ms mf mt mp ++ ob_wC t ac cn st Wt ++ ob_wV t xm fm) t9.heap) (va_A (ob_wX ax ao al am ac ++ ob_wO t ao M ++ ob_wL t al n cl rd sv pb ba bf od bg ++ ob_wM t am mn ms mf mt mp ++ ob_wC t ac cn st Wt ++ ob_wV t xm fm) sz)) ([.ref ax, .ref xm, .int (nI x)] : List Value).toArray s 31 186 (va_A (ob_wX ax ao al am ac ++ ob_wO t ao M ++ ob_wL t al n cl rd sv pb ba bf od bg ++ ob_wM t am mn ms mf mt mp ++ ob_wC t ac cn st Wt ++ ob_wV t xm fm) sz)) (F0 m 630 ls [.int w, .int (nI (x % n)), .int (nI 0), .ref ax]) := by
                            intro w hw ls hl
                            refine lv_iconst (v := nI 1) hx hb dL_isRefused_630 (by decide) ?_
                            have hFc := va_free (wc := ob_wX ax ao al am ac ++ ob_wL t al n cl rd sv pb ba bf od bg) hD hS hA [0, 8, 9, 10, 11, 12, 13, 14, 15, 16] rfl
                            refine va_calli (ob_runN (vx_runSX (As := [.ref ax, .int (nI 0), .int (nI (x % n)), .int w, .int (nI 1)]) (rest := []) ⟨hx, hb, hml, hown, hts⟩ (y_act0_no1 l hl9 sa D t H.size ax ao al am ac n cl rd sv pb ba bf od bg (nI (x % n)) w (nI 1) (by first | assumption | omega) (by rw [ob_hd_nI (Nat.mod_lt x (by omega)) (by omega), hw]; rfl)) (vx_cwSW 5 hts gL_isRefused_L_act rfl rfl rfl (by decide +kernel) ⟨Nat.le_of_ble_eq_true rfl, Nat.le_of_ble_eq_true rfl⟩) (ob_pYS (hP.sub [0, 8, 9, 10, 11, 12, 13, 14, 15, 16] rfl) (hD.sub [0, 8, 9, 10, 11, 12, 13, 14, 15, 16] (by decide) rfl) hk (ob_exN hE0 hS hFc) hN) rfl rfl hl.1 rfl (lv_room (Nat.le_of_ble_eq_true rfl)) dL_isRefused_631 ⟨Nat.le_of_ble_eq_true rfl, Nat.le_of_ble_eq_true rfl⟩)) hS (fun q _ h => hFc q h) hFc (fun r9 u9 t9 H1 locs ht hvm hw9 hB hz1 hk1 hS => ?_)
                            refine W.widen (k := 26) (n := 156) (Nat.le_of_ble_eq_true rfl) (Nat.le_of_ble_eq_true rfl) ?_
                            rw [ht] at hB
                            have hP := ob_jn (ws' := ob_wX ax ao al am ac ++ ob_wO t ao M ++ ob_wL t al n cl rd sv pb ba bf od bg ++ ob_wM t am mn ms mf mt mp ++ ob_wC t ac cn st Wt ++ ob_wV t xm fm) hP hD [some 0, none, none, none, none, none, none, none, some 1, some 2, some 3, some 4, some 5, some 6, some 7, some 8, some 9, none, none, none, none, none, none, none, none, none, none, none, none, none, none, none, none, none, none, none, none, none, none, none, none] [0, 8, 9, 10, 11, 12, 13, 14, 15, 16] rfl rfl hk1 hB rfl
                            have hD : va_D (va_A (ob_wX ax ao al am ac ++ ob_wO t ao M ++ ob_wL t al n cl rd sv pb ba bf od bg ++ ob_wM t am mn ms mf mt mp ++ ob_wC t ac cn st Wt ++ ob_wV t xm fm) sz) (ob_wX ax ao al am ac ++ ob_wO t ao M ++ ob_wL t al n cl rd sv pb ba bf od bg ++ ob_wM t am mn ms mf mt mp ++ ob_wC t ac cn st Wt ++ ob_wV t xm fm) := ob_dXOLMCV hD
                            generalize H1 = H at hP hS ⊢
                            subst hw9
                            refine lv_ldc (v := -3000002) hx hb hown (hts (Cond.constant RL 17 (-3000002)) (List.mem_of_getElem? (i := 1) rfl)) dL_isRefused_634 ?_
                            refine lv_icmp_ne (tgt := 764) hx hb dL_isRefused_636 (by decide) (fun c9 => absurd c9 (by decide)) (fun _ => ?_)
                            refine lv_aload_n hx hb dL_isRefused_639 rfl (lv_at hl 0 rfl) ?_
                            refine lv_iconst (v := nI 3) hx hb dL_isRefused_640 (by decide) ?_
                            refine lv_iload_n hx hb dL_isRefused_641 rfl (lv_at hl 2 rfl) ?_
                            refine lv_aload_n hx hb dL_isRefused_642 rfl (lv_at hl 1 rfl) ?_
                            refine lv_iconst (v := nI 0) hx hb dL_isRefused_643 (by decide) ?_
                            refine ob_iald hx hb hK hP 40 0 rfl rfl (by omega) (by decide) dL_isRefused_644 ?_
                            rw [show fm 0 = nI n from hf0]
                            refine lv_irem hx hb dL_isRefused_645 (nI_ne0 (by omega) (by omega)) ?_
                            rw [show (nI x) - (nI x) / (nI n) * (nI n) = nI (x % n) from pk_rem (by omega) (by omega) (by omega)]
                            refine lv_iload hx hb dL_isRefused_646 (lv_at hl 7 rfl) ?_
                            refine lv_iconst (v := nI 0) hx hb dL_isRefused_648 (by decide) ?_
                            have hFc := va_free (wc := ob_wX ax ao al am ac ++ ob_wL t al n cl rd sv pb ba bf od bg) hD hS hA [0, 8, 9, 10, 11, 12, 13, 14, 15, 16] rfl
                            refine va_calli (ob_runN (vx_runSX (As := [.ref ax, .int (nI 3), .int (nI (x % n)), .int z8, .int (nI 0)]) (rest := []) ⟨hx, hb, hml, hown, hts⟩ (y_act3_no0 l hl9 sa D t H.size ax ao al am ac n cl rd sv pb ba bf od bg (nI (x % n)) z8 (nI 0) (by first | assumption | omega) (by simp only [h8, Bool.false_and, Bool.and_false]; rfl)) (vx_cwSW 5 hts gL_isRefused_L_act rfl rfl rfl (by decide +kernel) ⟨Nat.le_of_ble_eq_true rfl, Nat.le_of_ble_eq_true rfl⟩) (ob_pYS (hP.sub [0, 8, 9, 10, 11, 12, 13, 14, 15, 16] rfl) (hD.sub [0, 8, 9, 10, 11, 12, 13, 14, 15, 16] (by decide) rfl) hk (ob_exN hE0 hS hFc) hN) rfl rfl hl.1 rfl (lv_room (Nat.le_of_ble_eq_true rfl)) dL_isRefused_649 ⟨Nat.le_of_ble_eq_true rfl, Nat.le_of_ble_eq_true rfl⟩)) hS (fun q _ h => hFc q h) hFc (fun r9 u9 t9 H1 locs ht hvm hw9 hB hz1 hk1 hS => ?_)
                            refine W.widen (k := 27) (n := 162) (Nat.le_of_ble_eq_true rfl) (Nat.le_of_ble_eq_true rfl) ?_
                            rw [ht] at hB
                            have hP := ob_jn (ws' := ob_wX ax ao al am ac ++ ob_wO t ao M ++ ob_wL t al n cl rd sv pb ba bf od bg ++ ob_wM t am mn ms mf mt mp ++ ob_wC t ac cn st Wt ++ ob_wV t xm fm) hP hD [some 0, none, none, none, none, none, none, none, some 1, some 2, some 3, some 4, some 5, some 6, some 7, some 8, some 9, none, none, none, none, none, none, none, none, none, none, none, none, none, none, none, none, none, none, none, none, none, none, none, none] [0, 8, 9, 10, 11, 12, 13, 14, 15, 16] rfl rfl hk1 hB rfl
                            have hD : va_D (va_A (ob_wX ax ao al am ac ++ ob_wO t ao M ++ ob_wL t al n cl rd sv pb ba bf od bg ++ ob_wM t am mn ms mf mt mp ++ ob_wC t ac cn st Wt ++ ob_wV t xm fm) sz) (ob_wX ax ao al am ac ++ ob_wO t ao M ++ ob_wL t al n cl rd sv pb ba bf od bg ++ ob_wM t am mn ms mf mt mp ++ ob_wC t ac cn st Wt ++ ob_wV t xm fm) := ob_dXOLMCV hD
                            generalize H1 = H at hP hS ⊢
                            subst hw9
                            refine lv_ldc (v := -3000001) hx hb hown (hts (Cond.constant RL 81 (-3000001)) (List.mem_of_getElem? (i := 2) rfl)) dL_isRefused_652 ?_
                            refine lv_icmp_ne (tgt := 764) hx hb dL_isRefused_654 (by decide) (fun c9 => absurd c9 (by decide)) (fun _ => ?_)
                            refine lv_aload_n hx hb dL_isRefused_657 rfl (lv_at hl 0 rfl) ?_
                            refine lv_iconst (v := nI 3) hx hb dL_isRefused_658 (by decide) ?_
                            refine lv_iload hx hb dL_isRefused_659 (lv_at hl 7 rfl) ?_
                            refine lv_iload_n hx hb dL_isRefused_661 rfl (lv_at hl 2 rfl) ?_
                            refine lv_aload_n hx hb dL_isRefused_662 rfl (lv_at hl 1 rfl) ?_
                            refine lv_iconst (v := nI 0) hx hb dL_isRefused_663 (by decide) ?_
                            refine ob_iald hx hb hK hP 40 0 rfl rfl (by omega) (by decide) dL_isRefused_664 ?_
                            rw [show fm 0 = nI n from hf0]
                            refine lv_irem hx hb dL_isRefused_665 (nI_ne0 (by omega) (by omega)) ?_
                            rw [show (nI x) - (nI x) / (nI n) * (nI n) = nI (x % n) from pk_rem (by omega) (by omega) (by omega)]
                            refine lv_iconst (v := nI 0) hx hb dL_isRefused_666 (by decide) ?_
                            have hFc := va_free (wc := ob_wX ax ao al am ac ++ ob_wL t al n cl rd sv pb ba bf od bg) hD hS hA [0, 8, 9, 10, 11, 12, 13, 14, 15, 16] rfl
                            refine va_calli (ob_runN (vx_runSX (As := [.ref ax, .int (nI 3), .int z8, .int (nI (x % n)), .int (nI 0)]) (rest := []) ⟨hx, hb, hml, hown, hts⟩ (y_act3_no0 l hl9 sa D t H.size ax ao al am ac n cl rd sv pb ba bf od bg z8 (nI (x % n)) (nI 0) (by first | assumption | omega) (by simp only [h8, Bool.false_and, Bool.and_false]; rfl)) (vx_cwSW 5 hts gL_isRefused_L_act rfl rfl rfl (by decide +kernel) ⟨Nat.le_of_ble_eq_true rfl, Nat.le_of_ble_eq_true rfl⟩) (ob_pYS (hP.sub [0, 8, 9, 10, 11, 12, 13, 14, 15, 16] rfl) (hD.sub [0, 8, 9, 10, 11, 12, 13, 14, 15, 16] (by decide) rfl) hk (ob_exN hE0 hS hFc) hN) rfl rfl hl.1 rfl (lv_room (Nat.le_of_ble_eq_true rfl)) dL_isRefused_667 ⟨Nat.le_of_ble_eq_true rfl, Nat.le_of_ble_eq_true rfl⟩)) hS (fun q _ h => hFc q h) hFc (fun r9 u9 t9 H1 locs ht hvm hw9 hB hz1 hk1 hS => ?_)
                            refine W.widen (k := 28) (n := 168) (Nat.le_of_ble_eq_true rfl) (Nat.le_of_ble_eq_true rfl) ?_
                            rw [ht] at hB
                            have hP := ob_jn (ws' := ob_wX ax ao al am ac ++ ob_wO t ao M ++ ob_wL t al n cl rd sv pb ba bf od bg ++ ob_wM t am mn ms mf mt mp ++ ob_wC t ac cn st Wt ++ ob_wV t xm fm) hP hD [some 0, none, none, none, none, none, none, none, some 1, some 2, some 3, some 4, some 5, some 6, some 7, some 8, some 9, none, none, none, none, none, none, none, none, none, none, none, none, none, none, none, none, none, none, none, none, none, none, none, none] [0, 8, 9, 10, 11, 12, 13, 14, 15, 16] rfl rfl hk1 hB rfl
                            have hD : va_D (va_A (ob_wX ax ao al am ac ++ ob_wO t ao M ++ ob_wL t al n cl rd sv pb ba bf od bg ++ ob_wM t am mn ms mf mt mp ++ ob_wC t ac cn st Wt ++ ob_wV t xm fm) sz) (ob_wX ax ao al am ac ++ ob_wO t ao M ++ ob_wL t al n cl rd sv pb ba bf od bg ++ ob_wM t am mn ms mf mt mp ++ ob_wC t ac cn st Wt ++ ob_wV t xm fm) := ob_dXOLMCV hD
                            generalize H1 = H at hP hS ⊢
                            subst hw9
                            refine lv_ldc (v := -3000001) hx hb hown (hts (Cond.constant RL 81 (-3000001)) (List.mem_of_getElem? (i := 2) rfl)) dL_isRefused_670 ?_
                            refine lv_icmp_ne (tgt := 764) hx hb dL_isRefused_672 (by decide) (fun c9 => absurd c9 (by decide)) (fun _ => ?_)
                            exact k675   _ _ hP (ob_dXOLMCV hD) hS _ (lv_sub hl [0, 1, 2, 3, 4, 5, 6, 7, 8, 9] rfl)
                          refine lv_iload_n hx hb dL_isRefused_620 rfl (lv_at hl 4 rfl) ?_
                          refine ob_if_eq (tgt := 628) hx hb dL_isRefused_621 (by decide) (fun c621 => ?_) (fun c621 => ?_)
                          · refine lv_bipush (v := nI 101) hx hb dL_isRefused_628 (by decide) ?_
                            exact k630 (nI 101) (by first | exact ob_w01 | exact ob_whi (by omega) (by omega)) _ (lv_sub hl [1, 2, 3, 4, 5, 6, 7, 8, 9, 10] rfl)
                          · refine lv_iconst (v := nI 0) hx hb dL_isRefused_624 (by decide) ?_
                            refine lv_goto (tgt := 630) hx hb dL_isRefused_625 (by decide) ?_
                            exact k630 (nI 0) (by first | exact ob_w01 | exact ob_whi (by omega) (by omega)) _ (lv_sub hl [1, 2, 3, 4, 5, 6, 7, 8, 9, 10] rfl)
                      · exact absurd c578 (by omega)
                    · exact absurd c559 (by omega)
                  refine lv_aload_n hx hb dL_isRefused_371 rfl (lv_at hl 0 rfl) ?_
                  refine lv_iconst (v := nI 1) hx hb dL_isRefused_372 (by decide) ?_
                  refine lv_iconst (v := nI 1) hx hb dL_isRefused_373 (by decide) ?_
                  refine lv_iconst (v := nI 5) hx hb dL_isRefused_374 (by decide) ?_
                  refine lv_iconst (v := nI 5) hx hb dL_isRefused_375 (by decide) ?_
                  refine lv_iload_n hx hb dL_isRefused_376 rfl (lv_at hl 3 rfl) ?_
                  refine ob_if_eq (tgt := 384) hx hb dL_isRefused_377 (by decide) (fun c377 => ?_) (fun c377 => ?_)
                  · refine lv_bipush (v := nI 101) hx hb dL_isRefused_384 (by decide) ?_
                    exact k386 (nI 101) (by first | exact ob_wm1 | exact ob_whi (by omega) (by omega)) _ (lv_sub hl [0, 1, 2, 3, 4, 5, 6, 7, 8, 9] rfl)
                  · refine lv_iconst (v := (-1)) hx hb dL_isRefused_380 (by decide) ?_
                    refine lv_goto (tgt := 386) hx hb dL_isRefused_381 (by decide) ?_
                    exact k386 (-1) (by first | exact ob_wm1 | exact ob_whi (by omega) (by omega)) _ (lv_sub hl [0, 1, 2, 3, 4, 5, 6, 7, 8, 9] rfl)
                refine lv_aload_n hx hb dL_isRefused_340 rfl (lv_at hl 0 rfl) ?_
                refine lv_iconst (v := nI 1) hx hb dL_isRefused_341 (by decide) ?_
                refine lv_iconst (v := nI 1) hx hb dL_isRefused_342 (by decide) ?_
                refine lv_bipush (v := nI 50) hx hb dL_isRefused_343 (by decide) ?_
                refine lv_iload_n hx hb dL_isRefused_345 rfl (lv_at hl 3 rfl) ?_
                refine ob_if_eq (tgt := 359) hx hb dL_isRefused_346 (by decide) (fun c346 => ?_) (fun c346 => ?_)
                · refine lv_sipush (v := nI 10001) hx hb dL_isRefused_359 (by decide) ?_
                  exact k362 (nI 10001) (by first | exact ob_wsub (by omega) | exact ob_whi (by omega) (by omega)) _ (lv_sub hl [0, 1, 2, 3, 4, 5, 6, 7, 8, 9] rfl)
                · refine lv_bipush (v := nI 49) hx hb dL_isRefused_349 (by decide) ?_
                  refine lv_iload_n hx hb dL_isRefused_351 rfl (lv_at hl 2 rfl) ?_
                  refine lv_bipush (v := nI 30) hx hb dL_isRefused_352 (by decide) ?_
                  refine lv_irem hx hb dL_isRefused_354 (by decide) ?_
                  rw [show (nI x) - (nI x) / (nI 30) * (nI 30) = nI (x % 30) from pk_rem (by omega) (by omega) (by omega)]
                  refine lv_isub hx hb dL_isRefused_355 ?_
                  refine lv_goto (tgt := 362) hx hb dL_isRefused_356 (by decide) ?_
                  exact k362 ((nI 49) - (nI (x % 30))) (by first | exact ob_wsub (by omega) | exact ob_whi (by omega) (by omega)) _ (lv_sub hl [0, 1, 2, 3, 4, 5, 6, 7, 8, 9] rfl)
              refine lv_aload_n hx hb dL_isRefused_191 rfl (lv_at hl 2 rfl) ?_
              refine lv_iconst (v := nI 1) hx hb dL_isRefused_192 (by decide) ?_
              refine lv_iconst (v := nI 5) hx hb dL_isRefused_193 (by decide) ?_
              refine lv_iconst (v := nI 2) hx hb dL_isRefused_194 (by decide) ?_
              refine lv_iconst (v := nI 5) hx hb dL_isRefused_195 (by decide) ?_
              refine lv_iload_n hx hb dL_isRefused_196 rfl (lv_at hl 5 rfl) ?_
              refine ob_if_eq (tgt := 204) hx hb dL_isRefused_197 (by decide) (fun c197 => ?_) (fun c197 => ?_)
              · refine lv_sipush (v := nI 1001) hx hb dL_isRefused_204 (by decide) ?_
                exact k207 (nI 1001) (by first | exact ob_wm1 | exact ob_whi (by omega) (by omega)) _ (lv_sub hl [2, 3, 4, 5, 6, 7, 8, 9, 1, 0] rfl)
              · refine lv_iconst (v := (-1)) hx hb dL_isRefused_200 (by decide) ?_
                refine lv_goto (tgt := 207) hx hb dL_isRefused_201 (by decide) ?_
                exact k207 (-1) (by first | exact ob_wm1 | exact ob_whi (by omega) (by omega)) _ (lv_sub hl [2, 3, 4, 5, 6, 7, 8, 9, 1, 0] rfl)
            refine lv_iload_n hx hb dL_isRefused_101 rfl (lv_at hl 4 rfl) ?_
            refine ob_if_eq (tgt := 114) hx hb dL_isRefused_102 (by decide) (fun c102 => ?_) (fun c102 => ?_)
            · refine lv_aload_n hx hb dL_isRefused_114 rfl (lv_at hl 2 rfl) ?_
              refine lv_iconst (v := nI 2) hx hb dL_isRefused_115 (by decide) ?_
              refine ob_iald hx hb hK hP 40 0 rfl rfl (by omega) (by decide) dL_isRefused_116 ?_
              rw [show fm 2 = nI cn from hf2]
              refine lv_iload_n hx hb dL_isRefused_117 rfl (lv_at hl 3 rfl) ?_
              refine lv_bipush (v := nI 30) hx hb dL_isRefused_118 (by decide) ?_
              refine lv_irem hx hb dL_isRefused_120 (by decide) ?_
              rw [show (nI x) - (nI x) / (nI 30) * (nI 30) = nI (x % 30) from pk_rem (by omega) (by omega) (by omega)]
              refine lv_iadd hx hb dL_isRefused_121 ?_
              rw [show (nI cn) + (nI (x % 30)) = nI (cn + (x % 30)) from nI_add _ _]
              exact k122 (nI (cn + (x % 30))) (ob_hd_ge (k := cn + x % 30) (Int32.le_refl _) (by omega) (by omega)) _ (lv_sub hl [1, 2, 3, 4, 5, 6, 7, 0] rfl)
            · refine lv_iconst (v := (-1)) hx hb dL_isRefused_105 (by decide) ?_
              refine lv_iload_n hx hb dL_isRefused_106 rfl (lv_at hl 3 rfl) ?_
              refine lv_bipush (v := nI 30) hx hb dL_isRefused_107 (by decide) ?_
              refine lv_irem hx hb dL_isRefused_109 (by decide) ?_
              rw [show (nI x) - (nI x) / (nI 30) * (nI 30) = nI (x % 30) from pk_rem (by omega) (by omega) (by omega)]
              refine lv_isub hx hb dL_isRefused_110 ?_
              refine lv_goto (tgt := 122) hx hb dL_isRefused_111 (by decide) ?_
              exact k122 ((-1) - (nI (x % 30))) (ob_hd_neg (ob_m1n (by omega))) _ (lv_sub hl [1, 2, 3, 4, 5, 6, 7, 0] rfl)
          refine lv_iload_n hx hb dL_isRefused_78 rfl (lv_at hl 4 rfl) ?_
          refine ob_if_eq (tgt := 91) hx hb dL_isRefused_79 (by decide) (fun c79 => ?_) (fun c79 => ?_)
          · refine lv_aload_n hx hb dL_isRefused_91 rfl (lv_at hl 2 rfl) ?_
            refine lv_iconst (v := nI 0) hx hb dL_isRefused_92 (by decide) ?_
            refine ob_iald hx hb hK hP 40 0 rfl rfl (by omega) (by decide) dL_isRefused_93 ?_
            rw [show fm 0 = nI n from hf0]
            refine lv_iload_n hx hb dL_isRefused_94 rfl (lv_at hl 3 rfl) ?_
            refine lv_bipush (v := nI 30) hx hb dL_isRefused_95 (by decide) ?_
            refine lv_irem hx hb dL_isRefused_97 (by decide) ?_
            rw [show (nI x) - (nI x) / (nI 30) * (nI 30) = nI (x % 30) from pk_rem (by omega) (by omega) (by omega)]
            refine lv_iadd hx hb dL_isRefused_98 ?_
            rw [show (nI n) + (nI (x % 30)) = nI (n + (x % 30)) from nI_add _ _]
            exact k99 (nI (n + (x % 30))) (ob_hd_ge (k := n + x % 30) (Int32.le_refl _) (by omega) (by omega)) _ (lv_sub hl [1, 2, 3, 4, 5, 6, 0] rfl)
          · refine lv_iconst (v := (-1)) hx hb dL_isRefused_82 (by decide) ?_
            refine lv_iload_n hx hb dL_isRefused_83 rfl (lv_at hl 3 rfl) ?_
            refine lv_bipush (v := nI 30) hx hb dL_isRefused_84 (by decide) ?_
            refine lv_irem hx hb dL_isRefused_86 (by decide) ?_
            rw [show (nI x) - (nI x) / (nI 30) * (nI 30) = nI (x % 30) from pk_rem (by omega) (by omega) (by omega)]
            refine lv_isub hx hb dL_isRefused_87 ?_
            refine lv_goto (tgt := 99) hx hb dL_isRefused_88 (by decide) ?_
            exact k99 ((-1) - (nI (x % 30))) (ob_hd_neg (ob_m1n (by omega))) _ (lv_sub hl [1, 2, 3, 4, 5, 6, 0] rfl)
        refine lv_iload_n hx hb dL_isRefused_55 rfl (lv_at hl 4 rfl) ?_
        refine ob_if_eq (tgt := 68) hx hb dL_isRefused_56 (by decide) (fun c56 => ?_) (fun c56 => ?_)
        · refine lv_sipush (v := nI 10001) hx hb dL_isRefused_68 (by decide) ?_
          refine lv_iload_n hx hb dL_isRefused_71 rfl (lv_at hl 3 rfl) ?_
          refine lv_bipush (v := nI 30) hx hb dL_isRefused_72 (by decide) ?_
          refine lv_irem hx hb dL_isRefused_74 (by decide) ?_
          rw [show (nI x) - (nI x) / (nI 30) * (nI 30) = nI (x % 30) from pk_rem (by omega) (by omega) (by omega)]
          refine lv_iadd hx hb dL_isRefused_75 ?_
          rw [show (nI 10001) + (nI (x % 30)) = nI (10001 + (x % 30)) from nI_add _ _]
          exact k76 (nI (10001 + (x % 30))) (ob_whi (by omega) (by omega)) _ (lv_sub hl [1, 2, 3, 4, 5, 0] rfl)
        · refine lv_iconst (v := (-1)) hx hb dL_isRefused_59 (by decide) ?_
          refine lv_iload_n hx hb dL_isRefused_60 rfl (lv_at hl 3 rfl) ?_
          refine lv_bipush (v := nI 30) hx hb dL_isRefused_61 (by decide) ?_
          refine lv_irem hx hb dL_isRefused_63 (by decide) ?_
          rw [show (nI x) - (nI x) / (nI 30) * (nI 30) = nI (x % 30) from pk_rem (by omega) (by omega) (by omega)]
          refine lv_isub hx hb dL_isRefused_64 ?_
          refine lv_goto (tgt := 76) hx hb dL_isRefused_65 (by decide) ?_
          exact k76 ((-1) - (nI (x % 30))) (ob_wlo (by omega)) _ (lv_sub hl [1, 2, 3, 4, 5, 0] rfl)
      refine lv_iload_n hx hb dL_isRefused_33 rfl (lv_at hl 4 rfl) ?_
      refine ob_if_eq (tgt := 46) hx hb dL_isRefused_34 (by decide) (fun c34 => ?_) (fun c34 => ?_)
      · refine lv_bipush (v := nI 6) hx hb dL_isRefused_46 (by decide) ?_
        refine lv_iload_n hx hb dL_isRefused_48 rfl (lv_at hl 3 rfl) ?_
        refine lv_bipush (v := nI 30) hx hb dL_isRefused_49 (by decide) ?_
        refine lv_irem hx hb dL_isRefused_51 (by decide) ?_
        rw [show (nI x) - (nI x) / (nI 30) * (nI 30) = nI (x % 30) from pk_rem (by omega) (by omega) (by omega)]
        refine lv_iadd hx hb dL_isRefused_52 ?_
        rw [show (nI 6) + (nI (x % 30)) = nI (6 + (x % 30)) from nI_add _ _]
        exact k53 (nI (6 + (x % 30))) (ob_whi (by omega) (by omega)) _ (lv_sub hl [1, 2, 3, 4, 0] rfl)
      · refine lv_iconst (v := (-1)) hx hb dL_isRefused_37 (by decide) ?_
        refine lv_iload_n hx hb dL_isRefused_38 rfl (lv_at hl 3 rfl) ?_
        refine lv_bipush (v := nI 30) hx hb dL_isRefused_39 (by decide) ?_
        refine lv_irem hx hb dL_isRefused_41 (by decide) ?_
        rw [show (nI x) - (nI x) / (nI 30) * (nI 30) = nI (x % 30) from pk_rem (by omega) (by omega) (by omega)]
        refine lv_isub hx hb dL_isRefused_42 ?_
        refine lv_goto (tgt := 53) hx hb dL_isRefused_43 (by decide) ?_
        exact k53 ((-1) - (nI (x % 30))) (ob_wlo (by omega)) _ (lv_sub hl [1, 2, 3, 4, 0] rfl)
    refine lv_iload_n hx hb dL_isRefused_12 rfl (lv_at hl 0 rfl) ?_
    refine ob_if_eq (tgt := 25) hx hb dL_isRefused_13 (by decide) (fun c13 => ?_) (fun c13 => ?_)
    · refine lv_iconst (v := nI 5) hx hb dL_isRefused_25 (by decide) ?_
      refine lv_iload_n hx hb dL_isRefused_26 rfl (lv_at hl 3 rfl) ?_
      refine lv_bipush (v := nI 30) hx hb dL_isRefused_27 (by decide) ?_
      refine lv_irem hx hb dL_isRefused_29 (by decide) ?_
      rw [show (nI x) - (nI x) / (nI 30) * (nI 30) = nI (x % 30) from pk_rem (by omega) (by omega) (by omega)]
      refine lv_iadd hx hb dL_isRefused_30 ?_
      rw [show (nI 5) + (nI (x % 30)) = nI (5 + (x % 30)) from nI_add _ _]
      exact k31 (nI (5 + (x % 30))) (ob_whi (by omega) (by omega)) _ (lv_sub hl [1, 2, 3, 0] rfl)
    · refine lv_iconst (v := (-1)) hx hb dL_isRefused_16 (by decide) ?_
      refine lv_iload_n hx hb dL_isRefused_17 rfl (lv_at hl 3 rfl) ?_
      refine lv_bipush (v := nI 30) hx hb dL_isRefused_18 (by decide) ?_
      refine lv_irem hx hb dL_isRefused_20 (by decide) ?_
      rw [show (nI x) - (nI x) / (nI 30) * (nI 30) = nI (x % 30) from pk_rem (by omega) (by omega) (by omega)]
      refine lv_isub hx hb dL_isRefused_21 ?_
      refine lv_goto (tgt := 31) hx hb dL_isRefused_22 (by decide) ?_
      exact k31 ((-1) - (nI (x % 30))) (ob_wlo (by omega)) _ (lv_sub hl [1, 2, 3, 0] rfl)
  refine lv_iload_n hx hb dL_isRefused_0 rfl (lv_at hl 2 rfl) ?_
  refine lv_iconst (v := nI 2) hx hb dL_isRefused_1 (by decide) ?_
  refine lv_irem hx hb dL_isRefused_2 (by decide) ?_
  rw [show (nI x) - (nI x) / (nI 2) * (nI 2) = nI (x % 2) from pk_rem (by omega) (by omega) (by omega)]
  refine ob_nif_ne (tgt := 10) hx hb (by omega) dL_isRefused_3 (by decide) (fun c3 => ?_) (fun c3 => ?_)
  · refine lv_iconst (v := nI 0) hx hb dL_isRefused_10 (by decide) ?_
    exact k11 false  _ (lv_sub hl [0, 1, 2] rfl)
  · refine lv_iconst (v := nI 1) hx hb dL_isRefused_6 (by decide) ?_
    refine lv_goto (tgt := 11) hx hb dL_isRefused_7 (by decide) ?_
    exact k11 true  _ (lv_sub hl [0, 1, 2] rfl)
