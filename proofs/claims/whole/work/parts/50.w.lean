abbrev ob_wU (t : Nat → ClassId) (au : Nat) (ov : Nat → Int64) : va_W := [(au, .inl (t 1, 1, .inr (.inl ov)))]
/-- which thrown classes aren't which -/
def ob_nc (U : State) : Prop := va_Nc "java/lang/IllegalStateException" "java/lang/IllegalArgumentException" U ∧ va_Nc "java/lang/IllegalArgumentException" "java/lang/IndexOutOfBoundsException" U ∧ va_Nc "java/lang/IllegalStateException" "java/lang/IndexOutOfBoundsException" U
theorem ob_nc.moved {u U : State} (hvm : u.vm.Alike U.vm) (h : ob_nc u) : ob_nc U := ⟨h.1.moved hvm, h.2.1.moved hvm, h.2.2.moved hvm⟩
/-- the start of a caller that catches -/
def ob_Py (D : va_G) (t : Nat → ClassId) (ws : va_W) (sz : Nat) (sa : Nat → Nat) (av : List Value) : Array Value → State → Prop := va_Pc av (fun U => U.heap.size = sz ∧ va_P D vwCl ws U.heap ∧ ob_kx D t U ∧ va_D (fun _ => True) ws ∧ ob_ex sa U U.heap ∧ ob_nc U)
theorem ob_pyS {D : va_G} {t : Nat → ClassId} {sa : Nat → Nat} {ws : va_W} {A : Nat → Prop} {H : Heap} {s : State} {As : List Value} (hP : va_P D vwCl ws H) (hD : va_D A ws) (hk : ob_kx D t s) (hE : ob_ex sa s H) (hN : ob_nc s) : PreS s H (ob_Py D t ws H.size sa As) As :=
  ⟨fun a U g mk q => ⟨q.1, q.2.1, q.2.2.1, q.2.2.2.1.call, q.2.2.2.2.1, q.2.2.2.2.2.1.call, ob_nc.moved (u := U) (U := U.calling g mk a) (Vm.Alike.refl U.vm) q.2.2.2.2.2.2⟩, fun U hU hW => ⟨rfl, by rw [hU], by rw [hU]; exact hP, hk.warm hW, hD.weaken (fun _ _ _ _ => trivial), by rw [hU]; exact hE.warm hW, hN.moved hW.alike⟩⟩
theorem ob_dXOLU {ax : Nat} {ao : Nat → Nat} {al : Nat → Nat} {am : Nat → Nat} {ac : Nat → Nat} {t : Nat → ClassId} {M : Nat → Nat → Int32} {n : Nat} {cl : Nat → Int32} {rd : Nat → Int32} {sv : Nat → Int32} {pb : Nat → Int32} {ba : Nat → Int32} {bf : Nat → Int32} {od : Nat → Int32} {bg : Nat → Int64} {au : Nat} {ov : Nat → Int64} {M' : Nat → Nat → Int32} {n' : Nat} {cl' : Nat → Int32} {rd' : Nat → Int32} {sv' : Nat → Int32} {pb' : Nat → Int32} {ba' : Nat → Int32} {bf' : Nat → Int32} {od' : Nat → Int32} {bg' : Nat → Int64} {ov' : Nat → Int64} {A : Nat → Prop} (h : va_D A (ob_wX ax ao al am ac ++ ob_wO t ao M ++ ob_wL t al n cl rd sv pb ba bf od bg ++ ob_wU t au ov)) : va_D A (ob_wX ax ao al am ac ++ ob_wO t ao M' ++ ob_wL t al n' cl' rd' sv' pb' ba' bf' od' bg' ++ ob_wU t au ov') := ob_ds h rfl
theorem ob_dXLU {ax : Nat} {ao : Nat → Nat} {al : Nat → Nat} {am : Nat → Nat} {ac : Nat → Nat} {t : Nat → ClassId} {n : Nat} {cl : Nat → Int32} {rd : Nat → Int32} {sv : Nat → Int32} {pb : Nat → Int32} {ba : Nat → Int32} {bf : Nat → Int32} {od : Nat → Int32} {bg : Nat → Int64} {au : Nat} {ov : Nat → Int64} {n' : Nat} {cl' : Nat → Int32} {rd' : Nat → Int32} {sv' : Nat → Int32} {pb' : Nat → Int32} {ba' : Nat → Int32} {bf' : Nat → Int32} {od' : Nat → Int32} {bg' : Nat → Int64} {ov' : Nat → Int64} {A : Nat → Prop} (h : va_D A (ob_wX ax ao al am ac ++ ob_wL t al n cl rd sv pb ba bf od bg ++ ob_wU t au ov)) : va_D A (ob_wX ax ao al am ac ++ ob_wL t al n' cl' rd' sv' pb' ba' bf' od' bg' ++ ob_wU t au ov') := ob_ds h rfl
theorem ob_dXMU {ax : Nat} {ao : Nat → Nat} {al : Nat → Nat} {am : Nat → Nat} {ac : Nat → Nat} {t : Nat → ClassId} {mn : Nat} {ms : Nat → Int32} {mf : Nat → Int32} {mt : Nat → Int32} {mp : Nat → Int32} {au : Nat} {ov : Nat → Int64} {mn' : Nat} {ms' : Nat → Int32} {mf' : Nat → Int32} {mt' : Nat → Int32} {mp' : Nat → Int32} {ov' : Nat → Int64} {A : Nat → Prop} (h : va_D A (ob_wX ax ao al am ac ++ ob_wM t am mn ms mf mt mp ++ ob_wU t au ov)) : va_D A (ob_wX ax ao al am ac ++ ob_wM t am mn' ms' mf' mt' mp' ++ ob_wU t au ov') := ob_ds h rfl
theorem ob_dXCU {ax : Nat} {ao : Nat → Nat} {al : Nat → Nat} {am : Nat → Nat} {ac : Nat → Nat} {t : Nat → ClassId} {cn : Nat} {st : Int32} {Wt : Nat → Nat → Int32} {au : Nat} {ov : Nat → Int64} {cn' : Nat} {st' : Int32} {Wt' : Nat → Nat → Int32} {ov' : Nat → Int64} {A : Nat → Prop} (h : va_D A (ob_wX ax ao al am ac ++ ob_wC t ac cn st Wt ++ ob_wU t au ov)) : va_D A (ob_wX ax ao al am ac ++ ob_wC t ac cn' st' Wt' ++ ob_wU t au ov') := ob_ds h rfl
set_option maxRecDepth 100000 in
set_option maxHeartbeats 8000000 in
theorem c_L_mark (l : Launch) (hl9 : l.stackTraces = false) (sa : Nat → Nat) (D : va_G) (t : Nat → ClassId) (sz : Nat) (ax : Nat) (ao al am ac : Nat → Nat) (M : Nat → Nat → Int32) (n : Nat) (cl rd sv pb ba bf od : Nat → Int32) (bg : Nat → Int64) (x1 x2 x3 x4 x5 : Int32) (zx : Nat) (hn : n ≤ 30) (hzx : ob_z2 (ob_wi x1 (nI 0) (nI 4) && (ob_wi x3 (nI 0) (nI 4) && (!decide (x1 = x3) && (ob_wi x2 (nI 0) (nI 10000) && (ob_wi x4 (nI 0) (nI 10000) && ob_wi x5 (nI 0) (nI 1000)))))) (decide (-(x4 - x2 + x5) ≤ ob_ms M x3 x1) && decide (-(x5 - (x4 - x2)) ≤ ob_ms M x1 x3)) = zx) : vx_Met l yL_mark wsL_mark ({ frames := 7, cells := 1, slots := 6, locals := 161 } : Room) (ob_Py D t (ob_wX ax ao al am ac ++ ob_wO t ao M ++ ob_wL t al n cl rd sv pb ba bf od bg) sz sa [.ref ax, .int x1, .int x2, .int x3, .int x4, .int x5]) (va_Qi (fun (r : Int32) (u : Unit) => r = nI zx ∧ (zx = 0 → (True))) (fun (u : Unit) (t9 : State) => va_P D vwCl (ob_wX ax ao al am ac ++ ob_wO t ao (if zx = 0 then ob_mk M x1.toNatClampNeg x3.toNatClampNeg x2 x4 x5 else M) ++ ob_wL t al n cl rd sv pb ba (if zx = 0 then ob_bf2 (ob_mk M x1.toNatClampNeg x3.toNatClampNeg x2 x4 x5) cl rd n bf n else bf) (if zx = 0 then ob_od2 (ob_bf2 (ob_mk M x1.toNatClampNeg x3.toNatClampNeg x2 x4 x5) cl rd n bf n) n od n else od) bg) t9.heap) (va_A (ob_wX ax ao al am ac ++ ob_wO t ao M ++ ob_wL t al n cl rd sv pb ba bf od bg) sz)) (fun _ _ _ => False) 1 6 (va_A (ob_wX ax ao al am ac ++ ob_wO t ao M ++ ob_wL t al n cl rd sv pb ba bf od bg) sz) := by
  refine vx_ofWH (cc := cL_mark) (maxL := 7) (ret := (some .int)) (hh := [(0, 11, 14, 13), (0, 11, 18, 15)]) (by decide) rfl ?_
  intro p e s m args below meth c s₁ B hml hv
  obtain ⟨rfl, hsz, hP, hk, hD0, hE, hN⟩ := hv
  have hx := B.exec
  have hb := B.bytes
  have hr := B.returns
  have hts := atoms_spec (ws := wsL_mark) B.pre
  have hown : s.vm.findClass RL = some m.cls := findClass_of_methodNamed B.named
  have hlocks := B.notSynchronized
  have hK := hk.1
  have htab := vx_table (x := yL_mark) B (hts (Cond.codeWith yL_mark cL_mark 7 (some .int) [(0, 11, 14, 13), (0, 11, 18, 15)]) (List.mem_of_getElem? (i := 0) rfl))
  have hD : va_D (va_A (ob_wX ax ao al am ac ++ ob_wO t ao M ++ ob_wL t al n cl rd sv pb ba bf od bg) sz) (ob_wX ax ao al am ac ++ ob_wO t ao M ++ ob_wL t al n cl rd sv pb ba bf od bg) := hD0.self (sz := sz)
  have hA : ∀ q : Nat, s.heap.size ≤ q → (va_A (ob_wX ax ao al am ac ++ ob_wO t ao M ++ ob_wL t al n cl rd sv pb ba bf od bg) sz) q := fun q h => Or.inr (hsz ▸ h)
  have hS : va_S (va_A (ob_wX ax ao al am ac ++ ob_wO t ao M ++ ob_wL t al n cl rd sv pb ba bf od bg) sz) s.heap s.heap [] := va_S.rf
  have hl := lv_entry [.ref ax, .int x1, .int x2, .int x3, .int x4, .int x5] (n := 7) (Nat.le_of_ble_eq_true rfl)
  rw [lg_entry_eq]
  generalize (lg_sl [.ref ax, .int x1, .int x2, .int x3, .int x4, .int x5] ++ List.replicate (7 - (lg_sl [.ref ax, .int x1, .int x2, .int x3, .int x4, .int x5]).length) Slot.unset).toArray = ls at hl ⊢
  have hl : lv_has ls 7 [(0, .ref ax), (1, .int x1), (2, .int x2), (3, .int x3), (4, .int x4), (5, .int x5)] := hl
  have hP : va_P D vwCl (ob_wX ax ao al am ac ++ ob_wO t ao M ++ ob_wL t al n cl rd sv pb ba bf od bg) s.heap := hP
  refine lv_aload_n hx hb dL_mark_0 rfl (lv_at hl 0 rfl) ?_
  refine lv_iload_n hx hb dL_mark_1 rfl (lv_at hl 1 rfl) ?_
  refine lv_iload_n hx hb dL_mark_2 rfl (lv_at hl 2 rfl) ?_
  refine lv_iload_n hx hb dL_mark_3 rfl (lv_at hl 3 rfl) ?_
  refine lv_iload hx hb dL_mark_4 (lv_at hl 4 rfl) ?_
  refine lv_iload hx hb dL_mark_6 (lv_at hl 5 rfl) ?_
  have hFc := va_free (wc := ob_wX ax ao al am ac ++ ob_wO t ao M ++ ob_wL t al n cl rd sv pb ba bf od bg) hD hS hA [0, 1, 2, 3, 4, 5, 6, 7, 8, 9, 10, 11, 12, 13, 14, 15, 16] rfl
  refine vx_callv (vx_runV (As := [.int x1, .int x2, .int x3, .int x4, .int x5]) (rest := []) ⟨hx, hb, hml, hown, hts⟩ (c_X4_mark l hl9 sa D t s.heap.size ax ao al am ac M n cl rd sv pb ba bf od bg x1 x2 x3 x4 x5 hn) (cwV 5 hts gL_mark_X4_mark rfl rfl rfl (by decide +kernel) ⟨Nat.le_of_ble_eq_true rfl, Nat.le_of_ble_eq_true rfl⟩) (ob_pxV (ci := 4) (q0 := 0) hP hD hk hE rfl rfl) rfl rfl hl.1 rfl (lv_room (Nat.le_of_ble_eq_true rfl)) dL_mark_8 ⟨Nat.le_of_ble_eq_true rfl, Nat.le_of_ble_eq_true rfl⟩) hS (fun q _ h => hFc q h) hFc (fun _ _ h => h.elim) (fun E9 ce9 q9 u9 t9 H1 locs ht hvm hpx hBX hz1 hk1 hS hce hcv hcl => ?_) (fun u9 t9 H1 locs ht hvm hw9 hB hz1 hk1 hS => ?_)
  · obtain ⟨i9, hz9, hi9⟩ := hBX
    have hne : ¬ zx = 0 := by rw [← hzx, hz9]; exact Nat.succ_ne_zero _
    have hP := hP.kept (fun k q h => hk1 q.1 (hP k q h).lt id)
    rcases i9 with _ | i9
    · cases hi9
      refine vx_catch (own := RL) (name := "java/lang/IllegalArgumentException") hown [] ⟨0, 11, 14, 13⟩ [⟨0, 11, 18, 15⟩] (by rw [htab]; rfl) (fun z h => absurd h List.not_mem_nil) rfl (by decide) (hts (Cond.classLink RL 13 "java/lang/IllegalArgumentException") (List.mem_of_getElem? (i := 1) rfl)) (va_Nw.use rfl hE.2.2.1) hce hcv hcl ?_
      refine lv_astore (lv' := [(6, .ref q9), (0, .ref ax), (1, .int x1), (2, .int x2), (3, .int x3), (4, .int x4), (5, .int x5)]) hx hb dL_mark_14 hl (by decide) rfl (fun ls hl => ?_)
      refine lv_iconst (v := nI 1) hx hb dL_mark_16 (by decide) ?_
      exact vx_ret (W.iret (v := nI 1) hx hb hr (fun t9 ht hW => ⟨⟨nI 1, (), rfl, ⟨(by rw [← hzx, hz9]), fun h => absurd h hne⟩, ob_th ht (by simp only [hne, if_false]; exact hP)⟩, hS.F ht⟩) hS.2.2 dL_mark_17)
    rcases i9 with _ | i9
    · cases hi9
      refine vx_catch (own := RL) (name := "java/lang/IllegalStateException") hown [⟨0, 11, 14, 13⟩] ⟨0, 11, 18, 15⟩ [] (by rw [htab]; rfl) (List.forall_mem_cons.mpr ⟨Or.inr ⟨(by decide), "java/lang/IllegalArgumentException", (hts (Cond.classLink RL 13 "java/lang/IllegalArgumentException") (List.mem_of_getElem? (i := 1) rfl)), hN.1⟩, (fun z h => absurd h List.not_mem_nil)⟩) rfl (by decide) (hts (Cond.classLink RL 15 "java/lang/IllegalStateException") (List.mem_of_getElem? (i := 2) rfl)) (va_Nw.use rfl hE.2.2.2.1) hce hcv hcl ?_
      refine lv_astore (lv' := [(6, .ref q9), (0, .ref ax), (1, .int x1), (2, .int x2), (3, .int x3), (4, .int x4), (5, .int x5)]) hx hb dL_mark_18 hl (by decide) rfl (fun ls hl => ?_)
      refine lv_iconst (v := nI 2) hx hb dL_mark_20 (by decide) ?_
      exact vx_ret (W.iret (v := nI 2) hx hb hr (fun t9 ht hW => ⟨⟨nI 2, (), rfl, ⟨(by rw [← hzx, hz9]), fun h => absurd h hne⟩, ob_th ht (by simp only [hne, if_false]; exact hP)⟩, hS.F ht⟩) hS.2.2 dL_mark_21)
    · cases hi9
  · rw [ht] at hB
    have hz0 : zx = 0 := hzx.symm.trans hw9
    have hP := ob_jn (ws' := ob_wX ax ao al am ac ++ ob_wO t ao (ob_mk M x1.toNatClampNeg x3.toNatClampNeg x2 x4 x5) ++ ob_wL t al n cl rd sv pb ba (ob_bf2 (ob_mk M x1.toNatClampNeg x3.toNatClampNeg x2 x4 x5) cl rd n bf n) (ob_od2 (ob_bf2 (ob_mk M x1.toNatClampNeg x3.toNatClampNeg x2 x4 x5) cl rd n bf n) n od n) bg) hP hD [some 0, some 1, some 2, some 3, some 4, some 5, some 6, some 7, some 8, some 9, some 10, some 11, some 12, some 13, some 14, some 15, some 16] [0, 1, 2, 3, 4, 5, 6, 7, 8, 9, 10, 11, 12, 13, 14, 15, 16] rfl rfl hk1 hB rfl
    have hD : va_D (va_A (ob_wX ax ao al am ac ++ ob_wO t ao M ++ ob_wL t al n cl rd sv pb ba bf od bg) sz) (ob_wX ax ao al am ac ++ ob_wO t ao (ob_mk M x1.toNatClampNeg x3.toNatClampNeg x2 x4 x5) ++ ob_wL t al n cl rd sv pb ba (ob_bf2 (ob_mk M x1.toNatClampNeg x3.toNatClampNeg x2 x4 x5) cl rd n bf n) (ob_od2 (ob_bf2 (ob_mk M x1.toNatClampNeg x3.toNatClampNeg x2 x4 x5) cl rd n bf n) n od n) bg) := ob_dXOL hD
    generalize H1 = H at hP hS ⊢
    refine lv_goto (tgt := 22) hx hb dL_mark_11 (by decide) ?_
    refine lv_iconst (v := nI 0) hx hb dL_mark_22 (by decide) ?_
    exact vx_ret (W.iret (v := nI 0) hx hb hr (fun t9 ht hW => ⟨⟨nI 0, (), rfl, ⟨(by rw [hz0]), fun _ => trivial⟩, ob_th ht (by simp only [hz0, if_true]; exact hP)⟩, hS.F ht⟩) hS.2.2 dL_mark_23)

set_option maxRecDepth 100000 in
set_option maxHeartbeats 8000000 in
theorem c_L_greatest (l : Launch) (hl9 : l.stackTraces = false) (sa : Nat → Nat) (D : va_G) (t : Nat → ClassId) (sz : Nat) (ax : Nat) (ao al am ac : Nat → Nat) (M : Nat → Nat → Int32) (n : Nat) (cl rd sv pb ba bf od : Nat → Int32) (bg : Nat → Int64) (x1 x2 : Int32) (au : Nat) (ov : Nat → Int64) (zx : Nat) (hzx : ob_z1 (ob_wi x1 (nI 0) (nI 4) && ob_wi x2 (nI 0) (nI 4)) = zx) : vx_Met l yL_greatest wsL_greatest ({ frames := 7, cells := 1, slots := 6, locals := 104 } : Room) (ob_Py D t (ob_wX ax ao al am ac ++ ob_wO t ao M ++ ob_wL t al n cl rd sv pb ba bf od bg ++ ob_wU t au ov) sz sa [.ref ax, .int x1, .int x2, .ref au]) (va_Qi (fun (r : Int32) (u : Int32) => r = nI zx ∧ (zx = 0 → (u = (ob_ms M x1 x2)))) (fun (u : Int32) (t9 : State) => va_P D vwCl (ob_wX ax ao al am ac ++ ob_wO t ao M ++ ob_wL t al n cl rd sv pb ba bf od bg ++ ob_wU t au (if zx = 0 then vp_updL ov 0 u.toInt64 else ov)) t9.heap) (va_A (ob_wX ax ao al am ac ++ ob_wO t ao M ++ ob_wL t al n cl rd sv pb ba bf od bg ++ ob_wU t au ov) sz)) (fun _ _ _ => False) 1 6 (va_A (ob_wX ax ao al am ac ++ ob_wO t ao M ++ ob_wL t al n cl rd sv pb ba bf od bg ++ ob_wU t au ov) sz) := by
  refine vx_ofWH (cc := cL_greatest) (maxL := 5) (ret := (some .int)) (hh := [(0, 10, 13, 13)]) (by decide) rfl ?_
  intro p e s m args below meth c s₁ B hml hv
  obtain ⟨rfl, hsz, hP, hk, hD0, hE, hN⟩ := hv
  have hx := B.exec
  have hb := B.bytes
  have hr := B.returns
  have hts := atoms_spec (ws := wsL_greatest) B.pre
  have hown : s.vm.findClass RL = some m.cls := findClass_of_methodNamed B.named
  have hlocks := B.notSynchronized
  have hK := hk.1
  have htab := vx_table (x := yL_greatest) B (hts (Cond.codeWith yL_greatest cL_greatest 5 (some .int) [(0, 10, 13, 13)]) (List.mem_of_getElem? (i := 0) rfl))
  have hD : va_D (va_A (ob_wX ax ao al am ac ++ ob_wO t ao M ++ ob_wL t al n cl rd sv pb ba bf od bg ++ ob_wU t au ov) sz) (ob_wX ax ao al am ac ++ ob_wO t ao M ++ ob_wL t al n cl rd sv pb ba bf od bg ++ ob_wU t au ov) := hD0.self (sz := sz)
  have hA : ∀ q : Nat, s.heap.size ≤ q → (va_A (ob_wX ax ao al am ac ++ ob_wO t ao M ++ ob_wL t al n cl rd sv pb ba bf od bg ++ ob_wU t au ov) sz) q := fun q h => Or.inr (hsz ▸ h)
  have hS : va_S (va_A (ob_wX ax ao al am ac ++ ob_wO t ao M ++ ob_wL t al n cl rd sv pb ba bf od bg ++ ob_wU t au ov) sz) s.heap s.heap [] := va_S.rf
  have hl := lv_entry [.ref ax, .int x1, .int x2, .ref au] (n := 5) (Nat.le_of_ble_eq_true rfl)
  rw [lg_entry_eq]
  generalize (lg_sl [.ref ax, .int x1, .int x2, .ref au] ++ List.replicate (5 - (lg_sl [.ref ax, .int x1, .int x2, .ref au]).length) Slot.unset).toArray = ls at hl ⊢
  have hl : lv_has ls 5 [(0, .ref ax), (1, .int x1), (2, .int x2), (3, .ref au)] := hl
  have hP : va_P D vwCl (ob_wX ax ao al am ac ++ ob_wO t ao M ++ ob_wL t al n cl rd sv pb ba bf od bg ++ ob_wU t au ov) s.heap := hP
  refine lv_aload_n hx hb dL_greatest_0 rfl (lv_at hl 3 rfl) ?_
  refine lv_iconst (v := nI 0) hx hb dL_greatest_1 (by decide) ?_
  refine lv_aload_n hx hb dL_greatest_2 rfl (lv_at hl 0 rfl) ?_
  refine lv_iload_n hx hb dL_greatest_3 rfl (lv_at hl 1 rfl) ?_
  refine lv_iload_n hx hb dL_greatest_4 rfl (lv_at hl 2 rfl) ?_
  have hFc := va_free (wc := ob_wX ax ao al am ac ++ ob_wO t ao M ++ ob_wL t al n cl rd sv pb ba bf od bg) hD hS hA [0, 1, 2, 3, 4, 5, 6, 7, 8, 9, 10, 11, 12, 13, 14, 15, 16] rfl
  refine vx_calli (vx_runV (As := [.int x1, .int x2]) (rest := [.int (nI 0), .ref au]) ⟨hx, hb, hml, hown, hts⟩ (c_X4_greatest l hl9 sa D t s.heap.size ax ao al am ac M n cl rd sv pb ba bf od bg x1 x2) (cwV 2 hts gL_greatest_X4_greatest rfl rfl rfl (by decide +kernel) ⟨Nat.le_of_ble_eq_true rfl, Nat.le_of_ble_eq_true rfl⟩) (ob_pxV (ci := 4) (q0 := 0) (hP.sub [0, 1, 2, 3, 4, 5, 6, 7, 8, 9, 10, 11, 12, 13, 14, 15, 16] rfl) (hD.sub [0, 1, 2, 3, 4, 5, 6, 7, 8, 9, 10, 11, 12, 13, 14, 15, 16] (by decide) rfl) hk hE rfl rfl) rfl rfl hl.1 rfl (lv_room (Nat.le_of_ble_eq_true rfl)) dL_greatest_5 ⟨Nat.le_of_ble_eq_true rfl, Nat.le_of_ble_eq_true rfl⟩) hS (fun q _ h => hFc q h) hFc (fun _ _ h => h.elim) (fun E9 ce9 q9 u9 t9 H1 locs ht hvm hpx hBX hz1 hk1 hS hce hcv hcl => ?_) (fun r9 u9 t9 H1 locs ht hvm hw9 hB hz1 hk1 hS => ?_)
  · obtain ⟨i9, hz9, hi9⟩ := hBX
    have hne : ¬ zx = 0 := by rw [← hzx, hz9]; exact Nat.succ_ne_zero _
    have hP := hP.kept (fun k q h => hk1 q.1 (hP k q h).lt id)
    rcases i9 with _ | i9
    · cases hi9
      refine vx_catch (own := RL) (name := "java/lang/IllegalArgumentException") hown [] ⟨0, 10, 13, 13⟩ [] (by rw [htab]; rfl) (fun z h => absurd h List.not_mem_nil) rfl (by decide) (hts (Cond.classLink RL 13 "java/lang/IllegalArgumentException") (List.mem_of_getElem? (i := 1) rfl)) (va_Nw.use rfl hE.2.2.1) hce hcv hcl ?_
      refine lv_astore (lv' := [(4, .ref q9), (0, .ref ax), (1, .int x1), (2, .int x2), (3, .ref au)]) hx hb dL_greatest_13 hl (by decide) rfl (fun ls hl => ?_)
      refine lv_iconst (v := nI 1) hx hb dL_greatest_15 (by decide) ?_
      exact vx_ret (W.iret (v := nI 1) hx hb hr (fun t9 ht hW => ⟨⟨nI 1, 0, rfl, ⟨(by rw [← hzx, hz9]), fun h => absurd h hne⟩, ob_th ht (by simp only [hne, if_false]; exact hP)⟩, hS.F ht⟩) hS.2.2 dL_greatest_16)
    · cases hi9
  · rw [ht] at hB
    obtain ⟨hz9, hp9⟩ := hw9
    have hz0 : zx = 0 := hzx.symm.trans hz9
    have hP := ob_jn (ws' := ob_wX ax ao al am ac ++ ob_wO t ao M ++ ob_wL t al n cl rd sv pb ba bf od bg ++ ob_wU t au ov) hP hD [some 0, some 1, some 2, some 3, some 4, some 5, some 6, some 7, some 8, some 9, some 10, some 11, some 12, some 13, some 14, some 15, some 16, none] [0, 1, 2, 3, 4, 5, 6, 7, 8, 9, 10, 11, 12, 13, 14, 15, 16] rfl rfl hk1 hB rfl
    have hD : va_D (va_A (ob_wX ax ao al am ac ++ ob_wO t ao M ++ ob_wL t al n cl rd sv pb ba bf od bg ++ ob_wU t au ov) sz) (ob_wX ax ao al am ac ++ ob_wO t ao M ++ ob_wL t al n cl rd sv pb ba bf od bg ++ ob_wU t au ov) := ob_dXOLU hD
    generalize H1 = H at hP hS ⊢
    refine lv_i2l (v := r9.toInt64) hx hb dL_greatest_8 rfl ?_
    refine ob_last hx hb hK hP hD hS 17 1 rfl rfl (show 0 < 1 by decide) (by decide) dL_greatest_9 (fun H locs hP hD hS => ?_)
    have hP : va_P D vwCl (ob_wX ax ao al am ac ++ ob_wO t ao M ++ ob_wL t al n cl rd sv pb ba bf od bg ++ ob_wU t au (vp_updL ov 0 r9.toInt64)) H := hP
    refine lv_goto (tgt := 17) hx hb dL_greatest_10 (by decide) ?_
    refine lv_iconst (v := nI 0) hx hb dL_greatest_17 (by decide) ?_
    exact vx_ret (W.iret (v := nI 0) hx hb hr (fun t9 ht hW => ⟨⟨nI 0, r9, rfl, ⟨(by rw [hz0]), fun _ => hp9⟩, ob_th ht (by simp only [hz0, if_true]; exact hP)⟩, hS.F ht⟩) hS.2.2 dL_greatest_18)

set_option maxRecDepth 100000 in
set_option maxHeartbeats 8000000 in
theorem c_L_write (l : Launch) (hl9 : l.stackTraces = false) (sa : Nat → Nat) (D : va_G) (t : Nat → ClassId) (sz : Nat) (ax : Nat) (ao al am ac : Nat → Nat) (M : Nat → Nat → Int32) (n : Nat) (cl rd sv pb ba bf od : Nat → Int32) (bg : Nat → Int64) (x1 x2 x3 : Int32) (b4 : Bool) (au : Nat) (ov : Nat → Int64) (zx : Nat) (hn : n ≤ 30) (hzx : ob_z2 (ob_wi x1 (nI 0) (nI 4) && (ob_wi x2 (nI 0) (nI 10000) && ob_wi x3 (nI 0) (nI 5))) (decide (n < 30)) = zx) : vx_Met l yL_write wsL_write ({ frames := 7, cells := 1, slots := 6, locals := 160 } : Room) (ob_Py D t (ob_wX ax ao al am ac ++ ob_wO t ao M ++ ob_wL t al n cl rd sv pb ba bf od bg ++ ob_wU t au ov) sz sa [.ref ax, .int x1, .int x2, .int x3, .int (ob_bi b4), .ref au]) (va_Qi (fun (r : Int32) (u : Int32) => r = nI zx ∧ (zx = 0 → (u = (nI n)))) (fun (u : Int32) (t9 : State) => va_P D vwCl (ob_wX ax ao al am ac ++ ob_wO t ao M ++ ob_wL t al (if zx = 0 then n + 1 else n) (if zx = 0 then upd cl n x1 else cl) (if zx = 0 then upd rd n x2 else rd) (if zx = 0 then upd sv n x3 else sv) (if zx = 0 then upd pb n (ob_bi b4) else pb) ba (if zx = 0 then ob_bf2 M (upd cl n x1) (upd rd n x2) (n + 1) bf (n + 1) else bf) (if zx = 0 then ob_od2 (ob_bf2 M (upd cl n x1) (upd rd n x2) (n + 1) bf (n + 1)) (n + 1) od (n + 1) else od) bg ++ ob_wU t au (if zx = 0 then vp_updL ov 0 u.toInt64 else ov)) t9.heap) (va_A (ob_wX ax ao al am ac ++ ob_wO t ao M ++ ob_wL t al n cl rd sv pb ba bf od bg ++ ob_wU t au ov) sz)) (fun _ _ _ => False) 1 6 (va_A (ob_wX ax ao al am ac ++ ob_wO t ao M ++ ob_wL t al n cl rd sv pb ba bf od bg ++ ob_wU t au ov) sz) := by
  refine vx_ofWH (cc := cL_write) (maxL := 7) (ret := (some .int)) (hh := [(0, 14, 17, 13), (0, 14, 21, 15)]) (by decide) rfl ?_
  intro p e s m args below meth c s₁ B hml hv
  obtain ⟨rfl, hsz, hP, hk, hD0, hE, hN⟩ := hv
  have hx := B.exec
  have hb := B.bytes
  have hr := B.returns
  have hts := atoms_spec (ws := wsL_write) B.pre
  have hown : s.vm.findClass RL = some m.cls := findClass_of_methodNamed B.named
  have hlocks := B.notSynchronized
  have hK := hk.1
  have htab := vx_table (x := yL_write) B (hts (Cond.codeWith yL_write cL_write 7 (some .int) [(0, 14, 17, 13), (0, 14, 21, 15)]) (List.mem_of_getElem? (i := 0) rfl))
  have hD : va_D (va_A (ob_wX ax ao al am ac ++ ob_wO t ao M ++ ob_wL t al n cl rd sv pb ba bf od bg ++ ob_wU t au ov) sz) (ob_wX ax ao al am ac ++ ob_wO t ao M ++ ob_wL t al n cl rd sv pb ba bf od bg ++ ob_wU t au ov) := hD0.self (sz := sz)
  have hA : ∀ q : Nat, s.heap.size ≤ q → (va_A (ob_wX ax ao al am ac ++ ob_wO t ao M ++ ob_wL t al n cl rd sv pb ba bf od bg ++ ob_wU t au ov) sz) q := fun q h => Or.inr (hsz ▸ h)
  have hS : va_S (va_A (ob_wX ax ao al am ac ++ ob_wO t ao M ++ ob_wL t al n cl rd sv pb ba bf od bg ++ ob_wU t au ov) sz) s.heap s.heap [] := va_S.rf
  have hl := lv_entry [.ref ax, .int x1, .int x2, .int x3, .int (ob_bi b4), .ref au] (n := 7) (Nat.le_of_ble_eq_true rfl)
  rw [lg_entry_eq]
  generalize (lg_sl [.ref ax, .int x1, .int x2, .int x3, .int (ob_bi b4), .ref au] ++ List.replicate (7 - (lg_sl [.ref ax, .int x1, .int x2, .int x3, .int (ob_bi b4), .ref au]).length) Slot.unset).toArray = ls at hl ⊢
  have hl : lv_has ls 7 [(0, .ref ax), (1, .int x1), (2, .int x2), (3, .int x3), (4, .int (ob_bi b4)), (5, .ref au)] := hl
  have hP : va_P D vwCl (ob_wX ax ao al am ac ++ ob_wO t ao M ++ ob_wL t al n cl rd sv pb ba bf od bg ++ ob_wU t au ov) s.heap := hP
  refine lv_aload hx hb dL_write_0 (lv_at hl 5 rfl) ?_
  refine lv_iconst (v := nI 0) hx hb dL_write_2 (by decide) ?_
  refine lv_aload_n hx hb dL_write_3 rfl (lv_at hl 0 rfl) ?_
  refine lv_iload_n hx hb dL_write_4 rfl (lv_at hl 1 rfl) ?_
  refine lv_iload_n hx hb dL_write_5 rfl (lv_at hl 2 rfl) ?_
  refine lv_iload_n hx hb dL_write_6 rfl (lv_at hl 3 rfl) ?_
  refine lv_iload hx hb dL_write_7 (lv_at hl 4 rfl) ?_
  have hFc := va_free (wc := ob_wX ax ao al am ac ++ ob_wO t ao M ++ ob_wL t al n cl rd sv pb ba bf od bg) hD hS hA [0, 1, 2, 3, 4, 5, 6, 7, 8, 9, 10, 11, 12, 13, 14, 15, 16] rfl
  refine vx_calli (vx_runV (As := [.int x1, .int x2, .int x3, .int (ob_bi b4)]) (rest := [.int (nI 0), .ref au]) ⟨hx, hb, hml, hown, hts⟩ (c_X4_write l hl9 sa D t s.heap.size ax ao al am ac M n cl rd sv pb ba bf od bg x1 x2 x3 b4 hn) (cwV 4 hts gL_write_X4_write rfl rfl rfl (by decide +kernel) ⟨Nat.le_of_ble_eq_true rfl, Nat.le_of_ble_eq_true rfl⟩) (ob_pxV (ci := 4) (q0 := 0) (hP.sub [0, 1, 2, 3, 4, 5, 6, 7, 8, 9, 10, 11, 12, 13, 14, 15, 16] rfl) (hD.sub [0, 1, 2, 3, 4, 5, 6, 7, 8, 9, 10, 11, 12, 13, 14, 15, 16] (by decide) rfl) hk hE rfl rfl) rfl rfl hl.1 rfl (lv_room (Nat.le_of_ble_eq_true rfl)) dL_write_9 ⟨Nat.le_of_ble_eq_true rfl, Nat.le_of_ble_eq_true rfl⟩) hS (fun q _ h => hFc q h) hFc (fun _ _ h => h.elim) (fun E9 ce9 q9 u9 t9 H1 locs ht hvm hpx hBX hz1 hk1 hS hce hcv hcl => ?_) (fun r9 u9 t9 H1 locs ht hvm hw9 hB hz1 hk1 hS => ?_)
  · obtain ⟨i9, hz9, hi9⟩ := hBX
    have hne : ¬ zx = 0 := by rw [← hzx, hz9]; exact Nat.succ_ne_zero _
    have hP := hP.kept (fun k q h => hk1 q.1 (hP k q h).lt id)
    rcases i9 with _ | i9
    · cases hi9
      refine vx_catch (own := RL) (name := "java/lang/IllegalArgumentException") hown [] ⟨0, 14, 17, 13⟩ [⟨0, 14, 21, 15⟩] (by rw [htab]; rfl) (fun z h => absurd h List.not_mem_nil) rfl (by decide) (hts (Cond.classLink RL 13 "java/lang/IllegalArgumentException") (List.mem_of_getElem? (i := 1) rfl)) (va_Nw.use rfl hE.2.2.1) hce hcv hcl ?_
      refine lv_astore (lv' := [(6, .ref q9), (0, .ref ax), (1, .int x1), (2, .int x2), (3, .int x3), (4, .int (ob_bi b4)), (5, .ref au)]) hx hb dL_write_17 hl (by decide) rfl (fun ls hl => ?_)
      refine lv_iconst (v := nI 1) hx hb dL_write_19 (by decide) ?_
      exact vx_ret (W.iret (v := nI 1) hx hb hr (fun t9 ht hW => ⟨⟨nI 1, 0, rfl, ⟨(by rw [← hzx, hz9]), fun h => absurd h hne⟩, ob_th ht (by simp only [hne, if_false]; exact hP)⟩, hS.F ht⟩) hS.2.2 dL_write_20)
    rcases i9 with _ | i9
    · cases hi9
      refine vx_catch (own := RL) (name := "java/lang/IllegalStateException") hown [⟨0, 14, 17, 13⟩] ⟨0, 14, 21, 15⟩ [] (by rw [htab]; rfl) (List.forall_mem_cons.mpr ⟨Or.inr ⟨(by decide), "java/lang/IllegalArgumentException", (hts (Cond.classLink RL 13 "java/lang/IllegalArgumentException") (List.mem_of_getElem? (i := 1) rfl)), hN.1⟩, (fun z h => absurd h List.not_mem_nil)⟩) rfl (by decide) (hts (Cond.classLink RL 15 "java/lang/IllegalStateException") (List.mem_of_getElem? (i := 2) rfl)) (va_Nw.use rfl hE.2.2.2.1) hce hcv hcl ?_
      refine lv_astore (lv' := [(6, .ref q9), (0, .ref ax), (1, .int x1), (2, .int x2), (3, .int x3), (4, .int (ob_bi b4)), (5, .ref au)]) hx hb dL_write_21 hl (by decide) rfl (fun ls hl => ?_)
      refine lv_iconst (v := nI 2) hx hb dL_write_23 (by decide) ?_
      exact vx_ret (W.iret (v := nI 2) hx hb hr (fun t9 ht hW => ⟨⟨nI 2, 0, rfl, ⟨(by rw [← hzx, hz9]), fun h => absurd h hne⟩, ob_th ht (by simp only [hne, if_false]; exact hP)⟩, hS.F ht⟩) hS.2.2 dL_write_24)
    · cases hi9
  · rw [ht] at hB
    obtain ⟨hz9, hp9⟩ := hw9
    have hz0 : zx = 0 := hzx.symm.trans hz9
    have hP := ob_jn (ws' := ob_wX ax ao al am ac ++ ob_wO t ao M ++ ob_wL t al (n + 1) (upd cl n x1) (upd rd n x2) (upd sv n x3) (upd pb n (ob_bi b4)) ba (ob_bf2 M (upd cl n x1) (upd rd n x2) (n + 1) bf (n + 1)) (ob_od2 (ob_bf2 M (upd cl n x1) (upd rd n x2) (n + 1) bf (n + 1)) (n + 1) od (n + 1)) bg ++ ob_wU t au ov) hP hD [some 0, some 1, some 2, some 3, some 4, some 5, some 6, some 7, some 8, some 9, some 10, some 11, some 12, some 13, some 14, some 15, some 16, none] [0, 1, 2, 3, 4, 5, 6, 7, 8, 9, 10, 11, 12, 13, 14, 15, 16] rfl rfl hk1 hB rfl
    have hD : va_D (va_A (ob_wX ax ao al am ac ++ ob_wO t ao M ++ ob_wL t al n cl rd sv pb ba bf od bg ++ ob_wU t au ov) sz) (ob_wX ax ao al am ac ++ ob_wO t ao M ++ ob_wL t al (n + 1) (upd cl n x1) (upd rd n x2) (upd sv n x3) (upd pb n (ob_bi b4)) ba (ob_bf2 M (upd cl n x1) (upd rd n x2) (n + 1) bf (n + 1)) (ob_od2 (ob_bf2 M (upd cl n x1) (upd rd n x2) (n + 1) bf (n + 1)) (n + 1) od (n + 1)) bg ++ ob_wU t au ov) := ob_dXOLU hD
    generalize H1 = H at hP hS ⊢
    refine lv_i2l (v := r9.toInt64) hx hb dL_write_12 rfl ?_
    refine ob_last hx hb hK hP hD hS 17 1 rfl rfl (show 0 < 1 by decide) (by decide) dL_write_13 (fun H locs hP hD hS => ?_)
    have hP : va_P D vwCl (ob_wX ax ao al am ac ++ ob_wO t ao M ++ ob_wL t al (n + 1) (upd cl n x1) (upd rd n x2) (upd sv n x3) (upd pb n (ob_bi b4)) ba (ob_bf2 M (upd cl n x1) (upd rd n x2) (n + 1) bf (n + 1)) (ob_od2 (ob_bf2 M (upd cl n x1) (upd rd n x2) (n + 1) bf (n + 1)) (n + 1) od (n + 1)) bg ++ ob_wU t au (vp_updL ov 0 r9.toInt64)) H := hP
    refine lv_goto (tgt := 25) hx hb dL_write_14 (by decide) ?_
    refine lv_iconst (v := nI 0) hx hb dL_write_25 (by decide) ?_
    exact vx_ret (W.iret (v := nI 0) hx hb hr (fun t9 ht hW => ⟨⟨nI 0, r9, rfl, ⟨(by rw [hz0]), fun _ => hp9⟩, ob_th ht (by simp only [hz0, if_true]; exact hP)⟩, hS.F ht⟩) hS.2.2 dL_write_26)

set_option maxRecDepth 100000 in
set_option maxHeartbeats 8000000 in
theorem c_L_mustComeBefore (l : Launch) (hl9 : l.stackTraces = false) (sa : Nat → Nat) (D : va_G) (t : Nat → ClassId) (sz : Nat) (ax : Nat) (ao al am ac : Nat → Nat) (n : Nat) (cl rd sv pb ba bf od : Nat → Int32) (bg : Nat → Int64) (x1 x2 : Int32) (au : Nat) (ov : Nat → Int64) (zx : Nat) (hn : n ≤ 30) (hzx : ob_z1 (ob_hd n x1 && ob_hd n x2) = zx) : vx_Met l yL_mustComeBefore wsL_mustComeBefore ({ frames := 7, cells := 1, slots := 6, locals := 104 } : Room) (ob_Py D t (ob_wX ax ao al am ac ++ ob_wL t al n cl rd sv pb ba bf od bg ++ ob_wU t au ov) sz sa [.ref ax, .int x1, .int x2, .ref au]) (va_Qi (fun (r : Int32) (u : Bool) => r = nI zx ∧ (zx = 0 → (u = (ob_hd n x2 && ob_hb (bf x2.toNatClampNeg) x1)))) (fun (u : Bool) (t9 : State) => va_P D vwCl (ob_wX ax ao al am ac ++ ob_wL t al n cl rd sv pb ba bf od bg ++ ob_wU t au (if zx = 0 then vp_updL ov 0 (if u then lN 1 else lN 0) else ov)) t9.heap) (va_A (ob_wX ax ao al am ac ++ ob_wL t al n cl rd sv pb ba bf od bg ++ ob_wU t au ov) sz)) (fun _ _ _ => False) 1 6 (va_A (ob_wX ax ao al am ac ++ ob_wL t al n cl rd sv pb ba bf od bg ++ ob_wU t au ov) sz) := by
  refine vx_ofWH (cc := cL_mustComeBefore) (maxL := 5) (ret := (some .int)) (hh := [(0, 17, 20, 29)]) (by decide) rfl ?_
  intro p e s m args below meth c s₁ B hml hv
  obtain ⟨rfl, hsz, hP, hk, hD0, hE, hN⟩ := hv
  have hx := B.exec
  have hb := B.bytes
  have hr := B.returns
  have hts := atoms_spec (ws := wsL_mustComeBefore) B.pre
  have hown : s.vm.findClass RL = some m.cls := findClass_of_methodNamed B.named
  have hlocks := B.notSynchronized
  have hK := hk.1
  have htab := vx_table (x := yL_mustComeBefore) B (hts (Cond.codeWith yL_mustComeBefore cL_mustComeBefore 5 (some .int) [(0, 17, 20, 29)]) (List.mem_of_getElem? (i := 0) rfl))
  have hD : va_D (va_A (ob_wX ax ao al am ac ++ ob_wL t al n cl rd sv pb ba bf od bg ++ ob_wU t au ov) sz) (ob_wX ax ao al am ac ++ ob_wL t al n cl rd sv pb ba bf od bg ++ ob_wU t au ov) := hD0.self (sz := sz)
  have hA : ∀ q : Nat, s.heap.size ≤ q → (va_A (ob_wX ax ao al am ac ++ ob_wL t al n cl rd sv pb ba bf od bg ++ ob_wU t au ov) sz) q := fun q h => Or.inr (hsz ▸ h)
  have hS : va_S (va_A (ob_wX ax ao al am ac ++ ob_wL t al n cl rd sv pb ba bf od bg ++ ob_wU t au ov) sz) s.heap s.heap [] := va_S.rf
  have hl := lv_entry [.ref ax, .int x1, .int x2, .ref au] (n := 5) (Nat.le_of_ble_eq_true rfl)
  rw [lg_entry_eq]
  generalize (lg_sl [.ref ax, .int x1, .int x2, .ref au] ++ List.replicate (5 - (lg_sl [.ref ax, .int x1, .int x2, .ref au]).length) Slot.unset).toArray = ls at hl ⊢
  have hl : lv_has ls 5 [(0, .ref ax), (1, .int x1), (2, .int x2), (3, .ref au)] := hl
  have hP : va_P D vwCl (ob_wX ax ao al am ac ++ ob_wL t al n cl rd sv pb ba bf od bg ++ ob_wU t au ov) s.heap := hP
  refine lv_aload_n hx hb dL_mustComeBefore_0 rfl (lv_at hl 3 rfl) ?_
  refine lv_iconst (v := nI 0) hx hb dL_mustComeBefore_1 (by decide) ?_
  refine lv_aload_n hx hb dL_mustComeBefore_2 rfl (lv_at hl 0 rfl) ?_
  refine lv_iload_n hx hb dL_mustComeBefore_3 rfl (lv_at hl 1 rfl) ?_
  refine lv_iload_n hx hb dL_mustComeBefore_4 rfl (lv_at hl 2 rfl) ?_
  have hFc := va_free (wc := ob_wX ax ao al am ac ++ ob_wL t al n cl rd sv pb ba bf od bg) hD hS hA [0, 1, 2, 3, 4, 5, 6, 7, 8, 9] rfl
  refine vx_calli (vx_runV (As := [.int x1, .int x2]) (rest := [.int (nI 0), .ref au]) ⟨hx, hb, hml, hown, hts⟩ (c_X4_mustComeBefore l hl9 sa D t s.heap.size ax ao al am ac n cl rd sv pb ba bf od bg x1 x2 hn) (cwV 2 hts gL_mustComeBefore_X4_mustComeBefore rfl rfl rfl (by decide +kernel) ⟨Nat.le_of_ble_eq_true rfl, Nat.le_of_ble_eq_true rfl⟩) (ob_pxV (ci := 4) (q0 := 0) (hP.sub [0, 1, 2, 3, 4, 5, 6, 7, 8, 9] rfl) (hD.sub [0, 1, 2, 3, 4, 5, 6, 7, 8, 9] (by decide) rfl) hk hE rfl rfl) rfl rfl hl.1 rfl (lv_room (Nat.le_of_ble_eq_true rfl)) dL_mustComeBefore_5 ⟨Nat.le_of_ble_eq_true rfl, Nat.le_of_ble_eq_true rfl⟩) hS (fun q _ h => hFc q h) hFc (fun _ _ h => h.elim) (fun E9 ce9 q9 u9 t9 H1 locs ht hvm hpx hBX hz1 hk1 hS hce hcv hcl => ?_) (fun r9 u9 t9 H1 locs ht hvm hw9 hB hz1 hk1 hS => ?_)
  · obtain ⟨i9, hz9, hi9⟩ := hBX
    have hne : ¬ zx = 0 := by rw [← hzx, hz9]; exact Nat.succ_ne_zero _
    have hP := hP.kept (fun k q h => hk1 q.1 (hP k q h).lt id)
    rcases i9 with _ | i9
    · cases hi9
      refine vx_catch (own := RL) (name := "java/lang/IndexOutOfBoundsException") hown [] ⟨0, 17, 20, 29⟩ [] (by rw [htab]; rfl) (fun z h => absurd h List.not_mem_nil) rfl (by decide) (hts (Cond.classLink RL 29 "java/lang/IndexOutOfBoundsException") (List.mem_of_getElem? (i := 1) rfl)) (va_Nw.use rfl hE.2.2.2.2.1) hce hcv hcl ?_
      refine lv_astore (lv' := [(4, .ref q9), (0, .ref ax), (1, .int x1), (2, .int x2), (3, .ref au)]) hx hb dL_mustComeBefore_20 hl (by decide) rfl (fun ls hl => ?_)
      refine lv_iconst (v := nI 1) hx hb dL_mustComeBefore_22 (by decide) ?_
      exact vx_ret (W.iret (v := nI 1) hx hb hr (fun t9 ht hW => ⟨⟨nI 1, false, rfl, ⟨(by rw [← hzx, hz9]), fun h => absurd h hne⟩, ob_th ht (by simp only [hne, if_false]; exact hP)⟩, hS.F ht⟩) hS.2.2 dL_mustComeBefore_23)
    · cases hi9
  · rw [ht] at hB
    obtain ⟨hz9, hp9⟩ := hw9
    have hz0 : zx = 0 := hzx.symm.trans hz9
    have hP := ob_jn (ws' := ob_wX ax ao al am ac ++ ob_wL t al n cl rd sv pb ba bf od bg ++ ob_wU t au ov) hP hD [some 0, some 1, some 2, some 3, some 4, some 5, some 6, some 7, some 8, some 9, none] [0, 1, 2, 3, 4, 5, 6, 7, 8, 9] rfl rfl hk1 hB rfl
    have hD : va_D (va_A (ob_wX ax ao al am ac ++ ob_wL t al n cl rd sv pb ba bf od bg ++ ob_wU t au ov) sz) (ob_wX ax ao al am ac ++ ob_wL t al n cl rd sv pb ba bf od bg ++ ob_wU t au ov) := ob_dXLU hD
    generalize H1 = H at hP hS ⊢
    subst hp9
    refine ob_if_eq (tgt := 15) hx hb dL_mustComeBefore_8 (by decide) (fun c9 => ?_) (fun c9 => ?_)
    · refine lv_lconst (v := lN 0) hx hb dL_mustComeBefore_15 rfl ?_
      refine ob_last hx hb hK hP hD hS 10 1 rfl rfl (show 0 < 1 by decide) (by decide) dL_mustComeBefore_16 (fun H locs hP hD hS => ?_)
      have hP : va_P D vwCl (ob_wX ax ao al am ac ++ ob_wL t al n cl rd sv pb ba bf od bg ++ ob_wU t au (vp_updL ov 0 (lN 0))) H := hP
      refine lv_goto (tgt := 24) hx hb dL_mustComeBefore_17 (by decide) ?_
      refine lv_iconst (v := nI 0) hx hb dL_mustComeBefore_24 (by decide) ?_
      exact vx_ret (W.iret (v := nI 0) hx hb hr (fun t9 ht hW => ⟨⟨nI 0, false, rfl, ⟨(by rw [hz0]), fun _ => c9.symm⟩, ob_th ht (by simp only [hz0, if_true]; exact hP)⟩, hS.F ht⟩) hS.2.2 dL_mustComeBefore_25)
    · refine lv_lconst (v := lN 1) hx hb dL_mustComeBefore_11 rfl ?_
      refine lv_goto (tgt := 16) hx hb dL_mustComeBefore_12 (by decide) ?_
      refine ob_last hx hb hK hP hD hS 10 1 rfl rfl (show 0 < 1 by decide) (by decide) dL_mustComeBefore_16 (fun H locs hP hD hS => ?_)
      have hP : va_P D vwCl (ob_wX ax ao al am ac ++ ob_wL t al n cl rd sv pb ba bf od bg ++ ob_wU t au (vp_updL ov 0 (lN 1))) H := hP
      refine lv_goto (tgt := 24) hx hb dL_mustComeBefore_17 (by decide) ?_
      refine lv_iconst (v := nI 0) hx hb dL_mustComeBefore_24 (by decide) ?_
      exact vx_ret (W.iret (v := nI 0) hx hb hr (fun t9 ht hW => ⟨⟨nI 0, true, rfl, ⟨(by rw [hz0]), fun _ => c9.symm⟩, ob_th ht (by simp only [hz0, if_true]; exact hP)⟩, hS.F ht⟩) hS.2.2 dL_mustComeBefore_25)

set_option maxRecDepth 100000 in
set_option maxHeartbeats 8000000 in
theorem c_L_lineAt (l : Launch) (hl9 : l.stackTraces = false) (sa : Nat → Nat) (D : va_G) (t : Nat → ClassId) (sz : Nat) (ax : Nat) (ao al am ac : Nat → Nat) (n : Nat) (cl rd sv pb ba bf od : Nat → Int32) (bg : Nat → Int64) (x : Int32) (au : Nat) (ov : Nat → Int64) (zx : Nat) (hn : n ≤ 30) (hzx : ob_z1 (ob_hd n x) = zx) : vx_Met l yL_lineAt wsL_lineAt ({ frames := 7, cells := 1, slots := 6, locals := 103 } : Room) (ob_Py D t (ob_wX ax ao al am ac ++ ob_wL t al n cl rd sv pb ba bf od bg ++ ob_wU t au ov) sz sa [.ref ax, .int x, .ref au]) (va_Qi (fun (r : Int32) (u : Int32) => r = nI zx ∧ (zx = 0 → (u = (ob_at n od x)))) (fun (u : Int32) (t9 : State) => va_P D vwCl (ob_wX ax ao al am ac ++ ob_wL t al n cl rd sv pb ba bf od bg ++ ob_wU t au (if zx = 0 then vp_updL ov 0 u.toInt64 else ov)) t9.heap) (va_A (ob_wX ax ao al am ac ++ ob_wL t al n cl rd sv pb ba bf od bg ++ ob_wU t au ov) sz)) (fun _ _ _ => False) 1 6 (va_A (ob_wX ax ao al am ac ++ ob_wL t al n cl rd sv pb ba bf od bg ++ ob_wU t au ov) sz) := by
  refine vx_ofWH (cc := cL_lineAt) (maxL := 4) (ret := (some .int)) (hh := [(0, 9, 12, 29)]) (by decide) rfl ?_
  intro p e s m args below meth c s₁ B hml hv
  obtain ⟨rfl, hsz, hP, hk, hD0, hE, hN⟩ := hv
  have hx := B.exec
  have hb := B.bytes
  have hr := B.returns
  have hts := atoms_spec (ws := wsL_lineAt) B.pre
  have hown : s.vm.findClass RL = some m.cls := findClass_of_methodNamed B.named
  have hlocks := B.notSynchronized
  have hK := hk.1
  have htab := vx_table (x := yL_lineAt) B (hts (Cond.codeWith yL_lineAt cL_lineAt 4 (some .int) [(0, 9, 12, 29)]) (List.mem_of_getElem? (i := 0) rfl))
  have hD : va_D (va_A (ob_wX ax ao al am ac ++ ob_wL t al n cl rd sv pb ba bf od bg ++ ob_wU t au ov) sz) (ob_wX ax ao al am ac ++ ob_wL t al n cl rd sv pb ba bf od bg ++ ob_wU t au ov) := hD0.self (sz := sz)
  have hA : ∀ q : Nat, s.heap.size ≤ q → (va_A (ob_wX ax ao al am ac ++ ob_wL t al n cl rd sv pb ba bf od bg ++ ob_wU t au ov) sz) q := fun q h => Or.inr (hsz ▸ h)
  have hS : va_S (va_A (ob_wX ax ao al am ac ++ ob_wL t al n cl rd sv pb ba bf od bg ++ ob_wU t au ov) sz) s.heap s.heap [] := va_S.rf
  have hl := lv_entry [.ref ax, .int x, .ref au] (n := 4) (Nat.le_of_ble_eq_true rfl)
  rw [lg_entry_eq]
  generalize (lg_sl [.ref ax, .int x, .ref au] ++ List.replicate (4 - (lg_sl [.ref ax, .int x, .ref au]).length) Slot.unset).toArray = ls at hl ⊢
  have hl : lv_has ls 4 [(0, .ref ax), (1, .int x), (2, .ref au)] := hl
  have hP : va_P D vwCl (ob_wX ax ao al am ac ++ ob_wL t al n cl rd sv pb ba bf od bg ++ ob_wU t au ov) s.heap := hP
  refine lv_aload_n hx hb dL_lineAt_0 rfl (lv_at hl 2 rfl) ?_
  refine lv_iconst (v := nI 0) hx hb dL_lineAt_1 (by decide) ?_
  refine lv_aload_n hx hb dL_lineAt_2 rfl (lv_at hl 0 rfl) ?_
  refine lv_iload_n hx hb dL_lineAt_3 rfl (lv_at hl 1 rfl) ?_
  have hFc := va_free (wc := ob_wX ax ao al am ac ++ ob_wL t al n cl rd sv pb ba bf od bg) hD hS hA [0, 1, 2, 3, 4, 5, 6, 7, 8, 9] rfl
  refine vx_calli (vx_runV (As := [.int x]) (rest := [.int (nI 0), .ref au]) ⟨hx, hb, hml, hown, hts⟩ (c_X4_lineAt l hl9 sa D t s.heap.size ax ao al am ac n cl rd sv pb ba bf od bg x hn) (cwV 1 hts gL_lineAt_X4_lineAt rfl rfl rfl (by decide +kernel) ⟨Nat.le_of_ble_eq_true rfl, Nat.le_of_ble_eq_true rfl⟩) (ob_pxV (ci := 4) (q0 := 0) (hP.sub [0, 1, 2, 3, 4, 5, 6, 7, 8, 9] rfl) (hD.sub [0, 1, 2, 3, 4, 5, 6, 7, 8, 9] (by decide) rfl) hk hE rfl rfl) rfl rfl hl.1 rfl (lv_room (Nat.le_of_ble_eq_true rfl)) dL_lineAt_4 ⟨Nat.le_of_ble_eq_true rfl, Nat.le_of_ble_eq_true rfl⟩) hS (fun q _ h => hFc q h) hFc (fun _ _ h => h.elim) (fun E9 ce9 q9 u9 t9 H1 locs ht hvm hpx hBX hz1 hk1 hS hce hcv hcl => ?_) (fun r9 u9 t9 H1 locs ht hvm hw9 hB hz1 hk1 hS => ?_)
  · obtain ⟨i9, hz9, hi9⟩ := hBX
    have hne : ¬ zx = 0 := by rw [← hzx, hz9]; exact Nat.succ_ne_zero _
    have hP := hP.kept (fun k q h => hk1 q.1 (hP k q h).lt id)
    rcases i9 with _ | i9
    · cases hi9
      refine vx_catch (own := RL) (name := "java/lang/IndexOutOfBoundsException") hown [] ⟨0, 9, 12, 29⟩ [] (by rw [htab]; rfl) (fun z h => absurd h List.not_mem_nil) rfl (by decide) (hts (Cond.classLink RL 29 "java/lang/IndexOutOfBoundsException") (List.mem_of_getElem? (i := 1) rfl)) (va_Nw.use rfl hE.2.2.2.2.1) hce hcv hcl ?_
      refine lv_astore_n (lv' := [(3, .ref q9), (0, .ref ax), (1, .int x), (2, .ref au)]) hx hb dL_lineAt_12 rfl hl (by decide) rfl (fun ls hl => ?_)
      refine lv_iconst (v := nI 1) hx hb dL_lineAt_13 (by decide) ?_
      exact vx_ret (W.iret (v := nI 1) hx hb hr (fun t9 ht hW => ⟨⟨nI 1, 0, rfl, ⟨(by rw [← hzx, hz9]), fun h => absurd h hne⟩, ob_th ht (by simp only [hne, if_false]; exact hP)⟩, hS.F ht⟩) hS.2.2 dL_lineAt_14)
    · cases hi9
  · rw [ht] at hB
    obtain ⟨hz9, hp9⟩ := hw9
    have hz0 : zx = 0 := hzx.symm.trans hz9
    have hP := ob_jn (ws' := ob_wX ax ao al am ac ++ ob_wL t al n cl rd sv pb ba bf od bg ++ ob_wU t au ov) hP hD [some 0, some 1, some 2, some 3, some 4, some 5, some 6, some 7, some 8, some 9, none] [0, 1, 2, 3, 4, 5, 6, 7, 8, 9] rfl rfl hk1 hB rfl
    have hD : va_D (va_A (ob_wX ax ao al am ac ++ ob_wL t al n cl rd sv pb ba bf od bg ++ ob_wU t au ov) sz) (ob_wX ax ao al am ac ++ ob_wL t al n cl rd sv pb ba bf od bg ++ ob_wU t au ov) := ob_dXLU hD
    generalize H1 = H at hP hS ⊢
    refine lv_i2l (v := r9.toInt64) hx hb dL_lineAt_7 rfl ?_
    refine ob_last hx hb hK hP hD hS 10 1 rfl rfl (show 0 < 1 by decide) (by decide) dL_lineAt_8 (fun H locs hP hD hS => ?_)
    have hP : va_P D vwCl (ob_wX ax ao al am ac ++ ob_wL t al n cl rd sv pb ba bf od bg ++ ob_wU t au (vp_updL ov 0 r9.toInt64)) H := hP
    refine lv_goto (tgt := 15) hx hb dL_lineAt_9 (by decide) ?_
    refine lv_iconst (v := nI 0) hx hb dL_lineAt_15 (by decide) ?_
    exact vx_ret (W.iret (v := nI 0) hx hb hr (fun t9 ht hW => ⟨⟨nI 0, r9, rfl, ⟨(by rw [hz0]), fun _ => hp9⟩, ob_th ht (by simp only [hz0, if_true]; exact hP)⟩, hS.F ht⟩) hS.2.2 dL_lineAt_16)

set_option maxRecDepth 100000 in
set_option maxHeartbeats 8000000 in
theorem c_L_orders (l : Launch) (hl9 : l.stackTraces = false) (sa : Nat → Nat) (D : va_G) (t : Nat → ClassId) (sz : Nat) (ax : Nat) (ao al am ac : Nat → Nat) (n : Nat) (cl rd sv pb ba bf od : Nat → Int32) (bg : Nat → Int64) (au : Nat) (ov : Nat → Int64) (zx : Nat) (hn : n ≤ 30) (hzx : ob_z1 (decide (n ≤ 12)) = zx) : vx_Met l yL_orders wsL_orders ({ frames := 7, cells := 1, slots := 6, locals := 102 } : Room) (ob_Py D t (ob_wX ax ao al am ac ++ ob_wL t al n cl rd sv pb ba bf od bg ++ ob_wU t au ov) sz sa [.ref ax, .ref au]) (va_Qi (fun (r : Int32) (u : Int64) => r = nI zx ∧ (zx = 0 → (u = (ob_F bf n bg (2 ^ n) (2 ^ n - 1))))) (fun (u : Int64) (t9 : State) => va_P D vwCl (ob_wX ax ao al am ac ++ ob_wL t al n cl rd sv pb ba bf od (if zx = 0 then ob_F bf n bg (2 ^ n) else bg) ++ ob_wU t au (if zx = 0 then vp_updL ov 0 u else ov)) t9.heap) (va_A (ob_wX ax ao al am ac ++ ob_wL t al n cl rd sv pb ba bf od bg ++ ob_wU t au ov) sz)) (fun _ _ _ => False) 1 6 (va_A (ob_wX ax ao al am ac ++ ob_wL t al n cl rd sv pb ba bf od bg ++ ob_wU t au ov) sz) := by
  refine vx_ofWH (cc := cL_orders) (maxL := 3) (ret := (some .int)) (hh := [(0, 7, 10, 15)]) (by decide) rfl ?_
  intro p e s m args below meth c s₁ B hml hv
  obtain ⟨rfl, hsz, hP, hk, hD0, hE, hN⟩ := hv
  have hx := B.exec
  have hb := B.bytes
  have hr := B.returns
  have hts := atoms_spec (ws := wsL_orders) B.pre
  have hown : s.vm.findClass RL = some m.cls := findClass_of_methodNamed B.named
  have hlocks := B.notSynchronized
  have hK := hk.1
  have htab := vx_table (x := yL_orders) B (hts (Cond.codeWith yL_orders cL_orders 3 (some .int) [(0, 7, 10, 15)]) (List.mem_of_getElem? (i := 0) rfl))
  have hD : va_D (va_A (ob_wX ax ao al am ac ++ ob_wL t al n cl rd sv pb ba bf od bg ++ ob_wU t au ov) sz) (ob_wX ax ao al am ac ++ ob_wL t al n cl rd sv pb ba bf od bg ++ ob_wU t au ov) := hD0.self (sz := sz)
  have hA : ∀ q : Nat, s.heap.size ≤ q → (va_A (ob_wX ax ao al am ac ++ ob_wL t al n cl rd sv pb ba bf od bg ++ ob_wU t au ov) sz) q := fun q h => Or.inr (hsz ▸ h)
  have hS : va_S (va_A (ob_wX ax ao al am ac ++ ob_wL t al n cl rd sv pb ba bf od bg ++ ob_wU t au ov) sz) s.heap s.heap [] := va_S.rf
  have hl := lv_entry [.ref ax, .ref au] (n := 3) (Nat.le_of_ble_eq_true rfl)
  rw [lg_entry_eq]
  generalize (lg_sl [.ref ax, .ref au] ++ List.replicate (3 - (lg_sl [.ref ax, .ref au]).length) Slot.unset).toArray = ls at hl ⊢
  have hl : lv_has ls 3 [(0, .ref ax), (1, .ref au)] := hl
  have hP : va_P D vwCl (ob_wX ax ao al am ac ++ ob_wL t al n cl rd sv pb ba bf od bg ++ ob_wU t au ov) s.heap := hP
  refine lv_aload_n hx hb dL_orders_0 rfl (lv_at hl 1 rfl) ?_
  refine lv_iconst (v := nI 0) hx hb dL_orders_1 (by decide) ?_
  refine lv_aload_n hx hb dL_orders_2 rfl (lv_at hl 0 rfl) ?_
  have hFc := va_free (wc := ob_wX ax ao al am ac ++ ob_wL t al n cl rd sv pb ba bf od bg) hD hS hA [0, 1, 2, 3, 4, 5, 6, 7, 8, 9] rfl
  refine vx_calll (vx_runV (As := []) (rest := [.int (nI 0), .ref au]) ⟨hx, hb, hml, hown, hts⟩ (c_X4_orders l hl9 sa D t s.heap.size ax ao al am ac n cl rd sv pb ba bf od bg hn) (cwV 0 hts gL_orders_X4_orders rfl rfl rfl (by decide +kernel) ⟨Nat.le_of_ble_eq_true rfl, Nat.le_of_ble_eq_true rfl⟩) (ob_pxV (ci := 4) (q0 := 0) (hP.sub [0, 1, 2, 3, 4, 5, 6, 7, 8, 9] rfl) (hD.sub [0, 1, 2, 3, 4, 5, 6, 7, 8, 9] (by decide) rfl) hk hE rfl rfl) rfl rfl hl.1 rfl (lv_room (Nat.le_of_ble_eq_true rfl)) dL_orders_3 ⟨Nat.le_of_ble_eq_true rfl, Nat.le_of_ble_eq_true rfl⟩) hS (fun q _ h => hFc q h) hFc (fun _ _ h => h.elim) (fun E9 ce9 q9 u9 t9 H1 locs ht hvm hpx hBX hz1 hk1 hS hce hcv hcl => ?_) (fun r9 u9 t9 H1 locs ht hvm hw9 hB hz1 hk1 hS => ?_)
  · obtain ⟨i9, hz9, hi9⟩ := hBX
    have hne : ¬ zx = 0 := by rw [← hzx, hz9]; exact Nat.succ_ne_zero _
    have hP := hP.kept (fun k q h => hk1 q.1 (hP k q h).lt id)
    rcases i9 with _ | i9
    · cases hi9
      refine vx_catch (own := RL) (name := "java/lang/IllegalStateException") hown [] ⟨0, 7, 10, 15⟩ [] (by rw [htab]; rfl) (fun z h => absurd h List.not_mem_nil) rfl (by decide) (hts (Cond.classLink RL 15 "java/lang/IllegalStateException") (List.mem_of_getElem? (i := 1) rfl)) (va_Nw.use rfl hE.2.2.2.1) hce hcv hcl ?_
      refine lv_astore_n (lv' := [(2, .ref q9), (0, .ref ax), (1, .ref au)]) hx hb dL_orders_10 rfl hl (by decide) rfl (fun ls hl => ?_)
      refine lv_iconst (v := nI 1) hx hb dL_orders_11 (by decide) ?_
      exact vx_ret (W.iret (v := nI 1) hx hb hr (fun t9 ht hW => ⟨⟨nI 1, 0, rfl, ⟨(by rw [← hzx, hz9]), fun h => absurd h hne⟩, ob_th ht (by simp only [hne, if_false]; exact hP)⟩, hS.F ht⟩) hS.2.2 dL_orders_12)
    · cases hi9
  · rw [ht] at hB
    obtain ⟨hz9, hp9⟩ := hw9
    have hz0 : zx = 0 := hzx.symm.trans hz9
    have hP := ob_jn (ws' := ob_wX ax ao al am ac ++ ob_wL t al n cl rd sv pb ba bf od (ob_F bf n bg (2 ^ n)) ++ ob_wU t au ov) hP hD [some 0, some 1, some 2, some 3, some 4, some 5, some 6, some 7, some 8, some 9, none] [0, 1, 2, 3, 4, 5, 6, 7, 8, 9] rfl rfl hk1 hB rfl
    have hD : va_D (va_A (ob_wX ax ao al am ac ++ ob_wL t al n cl rd sv pb ba bf od bg ++ ob_wU t au ov) sz) (ob_wX ax ao al am ac ++ ob_wL t al n cl rd sv pb ba bf od (ob_F bf n bg (2 ^ n)) ++ ob_wU t au ov) := ob_dXLU hD
    generalize H1 = H at hP hS ⊢
    refine ob_last hx hb hK hP hD hS 10 1 rfl rfl (show 0 < 1 by decide) (by decide) dL_orders_6 (fun H locs hP hD hS => ?_)
    have hP : va_P D vwCl (ob_wX ax ao al am ac ++ ob_wL t al n cl rd sv pb ba bf od (ob_F bf n bg (2 ^ n)) ++ ob_wU t au (vp_updL ov 0 r9)) H := hP
    refine lv_goto (tgt := 13) hx hb dL_orders_7 (by decide) ?_
    refine lv_iconst (v := nI 0) hx hb dL_orders_13 (by decide) ?_
    exact vx_ret (W.iret (v := nI 0) hx hb hr (fun t9 ht hW => ⟨⟨nI 0, r9, rfl, ⟨(by rw [hz0]), fun _ => hp9⟩, ob_th ht (by simp only [hz0, if_true]; exact hP)⟩, hS.F ht⟩) hS.2.2 dL_orders_14)

set_option maxRecDepth 100000 in
set_option maxHeartbeats 8000000 in
theorem c_L_argue (l : Launch) (hl9 : l.stackTraces = false) (sa : Nat → Nat) (D : va_G) (t : Nat → ClassId) (sz : Nat) (ax : Nat) (ao al am ac : Nat → Nat) (n : Nat) (cl rd sv pb ba bf od : Nat → Int32) (bg : Nat → Int64) (x1 x2 : Int32) (b3 : Bool) (au : Nat) (ov : Nat → Int64) (zx : Nat) (hn : n ≤ 30) (hzx : ob_z2 (ob_hd n x1) (ob_wi x2 (nI 1) (nI 100)) = zx) : vx_Met l yL_argue wsL_argue ({ frames := 7, cells := 1, slots := 6, locals := 105 } : Room) (ob_Py D t (ob_wX ax ao al am ac ++ ob_wL t al n cl rd sv pb ba bf od bg ++ ob_wU t au ov) sz sa [.ref ax, .int x1, .int x2, .int (ob_bi b3), .ref au]) (va_Qi (fun (r : Int32) (u : Int32) => r = nI zx ∧ (zx = 0 → (u = (ba x1.toNatClampNeg + if b3 then x2 else -x2)))) (fun (u : Int32) (t9 : State) => va_P D vwCl (ob_wX ax ao al am ac ++ ob_wL t al n cl rd sv pb (if zx = 0 then upd ba x1.toNatClampNeg (ba x1.toNatClampNeg + if b3 then x2 else -x2) else ba) bf od bg ++ ob_wU t au (if zx = 0 then vp_updL ov 0 u.toInt64 else ov)) t9.heap) (va_A (ob_wX ax ao al am ac ++ ob_wL t al n cl rd sv pb ba bf od bg ++ ob_wU t au ov) sz)) (fun _ _ _ => False) 1 6 (va_A (ob_wX ax ao al am ac ++ ob_wL t al n cl rd sv pb ba bf od bg ++ ob_wU t au ov) sz) := by
  refine vx_ofWH (cc := cL_argue) (maxL := 6) (ret := (some .int)) (hh := [(0, 12, 15, 29), (0, 12, 19, 13)]) (by decide) rfl ?_
  intro p e s m args below meth c s₁ B hml hv
  obtain ⟨rfl, hsz, hP, hk, hD0, hE, hN⟩ := hv
  have hx := B.exec
  have hb := B.bytes
  have hr := B.returns
  have hts := atoms_spec (ws := wsL_argue) B.pre
  have hown : s.vm.findClass RL = some m.cls := findClass_of_methodNamed B.named
  have hlocks := B.notSynchronized
  have hK := hk.1
  have htab := vx_table (x := yL_argue) B (hts (Cond.codeWith yL_argue cL_argue 6 (some .int) [(0, 12, 15, 29), (0, 12, 19, 13)]) (List.mem_of_getElem? (i := 0) rfl))
  have hD : va_D (va_A (ob_wX ax ao al am ac ++ ob_wL t al n cl rd sv pb ba bf od bg ++ ob_wU t au ov) sz) (ob_wX ax ao al am ac ++ ob_wL t al n cl rd sv pb ba bf od bg ++ ob_wU t au ov) := hD0.self (sz := sz)
  have hA : ∀ q : Nat, s.heap.size ≤ q → (va_A (ob_wX ax ao al am ac ++ ob_wL t al n cl rd sv pb ba bf od bg ++ ob_wU t au ov) sz) q := fun q h => Or.inr (hsz ▸ h)
  have hS : va_S (va_A (ob_wX ax ao al am ac ++ ob_wL t al n cl rd sv pb ba bf od bg ++ ob_wU t au ov) sz) s.heap s.heap [] := va_S.rf
  have hl := lv_entry [.ref ax, .int x1, .int x2, .int (ob_bi b3), .ref au] (n := 6) (Nat.le_of_ble_eq_true rfl)
  rw [lg_entry_eq]
  generalize (lg_sl [.ref ax, .int x1, .int x2, .int (ob_bi b3), .ref au] ++ List.replicate (6 - (lg_sl [.ref ax, .int x1, .int x2, .int (ob_bi b3), .ref au]).length) Slot.unset).toArray = ls at hl ⊢
  have hl : lv_has ls 6 [(0, .ref ax), (1, .int x1), (2, .int x2), (3, .int (ob_bi b3)), (4, .ref au)] := hl
  have hP : va_P D vwCl (ob_wX ax ao al am ac ++ ob_wL t al n cl rd sv pb ba bf od bg ++ ob_wU t au ov) s.heap := hP
  refine lv_aload hx hb dL_argue_0 (lv_at hl 4 rfl) ?_
  refine lv_iconst (v := nI 0) hx hb dL_argue_2 (by decide) ?_
  refine lv_aload_n hx hb dL_argue_3 rfl (lv_at hl 0 rfl) ?_
  refine lv_iload_n hx hb dL_argue_4 rfl (lv_at hl 1 rfl) ?_
  refine lv_iload_n hx hb dL_argue_5 rfl (lv_at hl 2 rfl) ?_
  refine lv_iload_n hx hb dL_argue_6 rfl (lv_at hl 3 rfl) ?_
  have hFc := va_free (wc := ob_wX ax ao al am ac ++ ob_wL t al n cl rd sv pb ba bf od bg) hD hS hA [0, 1, 2, 3, 4, 5, 6, 7, 8, 9] rfl
  refine vx_calli (vx_runV (As := [.int x1, .int x2, .int (ob_bi b3)]) (rest := [.int (nI 0), .ref au]) ⟨hx, hb, hml, hown, hts⟩ (c_X4_argue l hl9 sa D t s.heap.size ax ao al am ac n cl rd sv pb ba bf od bg x1 x2 b3 hn) (cwV 3 hts gL_argue_X4_argue rfl rfl rfl (by decide +kernel) ⟨Nat.le_of_ble_eq_true rfl, Nat.le_of_ble_eq_true rfl⟩) (ob_pxV (ci := 4) (q0 := 0) (hP.sub [0, 1, 2, 3, 4, 5, 6, 7, 8, 9] rfl) (hD.sub [0, 1, 2, 3, 4, 5, 6, 7, 8, 9] (by decide) rfl) hk hE rfl rfl) rfl rfl hl.1 rfl (lv_room (Nat.le_of_ble_eq_true rfl)) dL_argue_7 ⟨Nat.le_of_ble_eq_true rfl, Nat.le_of_ble_eq_true rfl⟩) hS (fun q _ h => hFc q h) hFc (fun _ _ h => h.elim) (fun E9 ce9 q9 u9 t9 H1 locs ht hvm hpx hBX hz1 hk1 hS hce hcv hcl => ?_) (fun r9 u9 t9 H1 locs ht hvm hw9 hB hz1 hk1 hS => ?_)
  · obtain ⟨i9, hz9, hi9⟩ := hBX
    have hne : ¬ zx = 0 := by rw [← hzx, hz9]; exact Nat.succ_ne_zero _
    have hP := hP.kept (fun k q h => hk1 q.1 (hP k q h).lt id)
    rcases i9 with _ | i9
    · cases hi9
      refine vx_catch (own := RL) (name := "java/lang/IndexOutOfBoundsException") hown [] ⟨0, 12, 15, 29⟩ [⟨0, 12, 19, 13⟩] (by rw [htab]; rfl) (fun z h => absurd h List.not_mem_nil) rfl (by decide) (hts (Cond.classLink RL 29 "java/lang/IndexOutOfBoundsException") (List.mem_of_getElem? (i := 1) rfl)) (va_Nw.use rfl hE.2.2.2.2.1) hce hcv hcl ?_
      refine lv_astore (lv' := [(5, .ref q9), (0, .ref ax), (1, .int x1), (2, .int x2), (3, .int (ob_bi b3)), (4, .ref au)]) hx hb dL_argue_15 hl (by decide) rfl (fun ls hl => ?_)
      refine lv_iconst (v := nI 1) hx hb dL_argue_17 (by decide) ?_
      exact vx_ret (W.iret (v := nI 1) hx hb hr (fun t9 ht hW => ⟨⟨nI 1, 0, rfl, ⟨(by rw [← hzx, hz9]), fun h => absurd h hne⟩, ob_th ht (by simp only [hne, if_false]; exact hP)⟩, hS.F ht⟩) hS.2.2 dL_argue_18)
    rcases i9 with _ | i9
    · cases hi9
      refine vx_catch (own := RL) (name := "java/lang/IllegalArgumentException") hown [⟨0, 12, 15, 29⟩] ⟨0, 12, 19, 13⟩ [] (by rw [htab]; rfl) (List.forall_mem_cons.mpr ⟨Or.inr ⟨(by decide), "java/lang/IndexOutOfBoundsException", (hts (Cond.classLink RL 29 "java/lang/IndexOutOfBoundsException") (List.mem_of_getElem? (i := 1) rfl)), hN.2.1⟩, (fun z h => absurd h List.not_mem_nil)⟩) rfl (by decide) (hts (Cond.classLink RL 13 "java/lang/IllegalArgumentException") (List.mem_of_getElem? (i := 2) rfl)) (va_Nw.use rfl hE.2.2.1) hce hcv hcl ?_
      refine lv_astore (lv' := [(5, .ref q9), (0, .ref ax), (1, .int x1), (2, .int x2), (3, .int (ob_bi b3)), (4, .ref au)]) hx hb dL_argue_19 hl (by decide) rfl (fun ls hl => ?_)
      refine lv_iconst (v := nI 2) hx hb dL_argue_21 (by decide) ?_
      exact vx_ret (W.iret (v := nI 2) hx hb hr (fun t9 ht hW => ⟨⟨nI 2, 0, rfl, ⟨(by rw [← hzx, hz9]), fun h => absurd h hne⟩, ob_th ht (by simp only [hne, if_false]; exact hP)⟩, hS.F ht⟩) hS.2.2 dL_argue_22)
    · cases hi9
  · rw [ht] at hB
    obtain ⟨hz9, hp9⟩ := hw9
    have hz0 : zx = 0 := hzx.symm.trans hz9
    have hP := ob_jn (ws' := ob_wX ax ao al am ac ++ ob_wL t al n cl rd sv pb (upd ba x1.toNatClampNeg (ba x1.toNatClampNeg + if b3 then x2 else -x2)) bf od bg ++ ob_wU t au ov) hP hD [some 0, some 1, some 2, some 3, some 4, some 5, some 6, some 7, some 8, some 9, none] [0, 1, 2, 3, 4, 5, 6, 7, 8, 9] rfl rfl hk1 hB rfl
    have hD : va_D (va_A (ob_wX ax ao al am ac ++ ob_wL t al n cl rd sv pb ba bf od bg ++ ob_wU t au ov) sz) (ob_wX ax ao al am ac ++ ob_wL t al n cl rd sv pb (upd ba x1.toNatClampNeg (ba x1.toNatClampNeg + if b3 then x2 else -x2)) bf od bg ++ ob_wU t au ov) := ob_dXLU hD
    generalize H1 = H at hP hS ⊢
    refine lv_i2l (v := r9.toInt64) hx hb dL_argue_10 rfl ?_
    refine ob_last hx hb hK hP hD hS 10 1 rfl rfl (show 0 < 1 by decide) (by decide) dL_argue_11 (fun H locs hP hD hS => ?_)
    have hP : va_P D vwCl (ob_wX ax ao al am ac ++ ob_wL t al n cl rd sv pb (upd ba x1.toNatClampNeg (ba x1.toNatClampNeg + if b3 then x2 else -x2)) bf od bg ++ ob_wU t au (vp_updL ov 0 r9.toInt64)) H := hP
    refine lv_goto (tgt := 23) hx hb dL_argue_12 (by decide) ?_
    refine lv_iconst (v := nI 0) hx hb dL_argue_23 (by decide) ?_
    exact vx_ret (W.iret (v := nI 0) hx hb hr (fun t9 ht hW => ⟨⟨nI 0, r9, rfl, ⟨(by rw [hz0]), fun _ => hp9⟩, ob_th ht (by simp only [hz0, if_true]; exact hP)⟩, hS.F ht⟩) hS.2.2 dL_argue_24)

set_option maxRecDepth 100000 in
set_option maxHeartbeats 8000000 in
theorem c_L_isDoubtful (l : Launch) (hl9 : l.stackTraces = false) (sa : Nat → Nat) (D : va_G) (t : Nat → ClassId) (sz : Nat) (ax : Nat) (ao al am ac : Nat → Nat) (n : Nat) (cl rd sv pb ba bf od : Nat → Int32) (bg : Nat → Int64) (x : Int32) (au : Nat) (ov : Nat → Int64) (zx : Nat) (hn : n ≤ 30) (hzx : ob_z1 (ob_hd n x) = zx) : vx_Met l yL_isDoubtful wsL_isDoubtful ({ frames := 7, cells := 1, slots := 6, locals := 103 } : Room) (ob_Py D t (ob_wX ax ao al am ac ++ ob_wL t al n cl rd sv pb ba bf od bg ++ ob_wU t au ov) sz sa [.ref ax, .int x, .ref au]) (va_Qi (fun (r : Int32) (u : Bool) => r = nI zx ∧ (zx = 0 → (u = (ob_hd n x && decide (ba x.toNatClampNeg < 0))))) (fun (u : Bool) (t9 : State) => va_P D vwCl (ob_wX ax ao al am ac ++ ob_wL t al n cl rd sv pb ba bf od bg ++ ob_wU t au (if zx = 0 then vp_updL ov 0 (if u then lN 1 else lN 0) else ov)) t9.heap) (va_A (ob_wX ax ao al am ac ++ ob_wL t al n cl rd sv pb ba bf od bg ++ ob_wU t au ov) sz)) (fun _ _ _ => False) 1 6 (va_A (ob_wX ax ao al am ac ++ ob_wL t al n cl rd sv pb ba bf od bg ++ ob_wU t au ov) sz) := by
  refine vx_ofWH (cc := cL_isDoubtful) (maxL := 4) (ret := (some .int)) (hh := [(0, 16, 19, 29)]) (by decide) rfl ?_
  intro p e s m args below meth c s₁ B hml hv
  obtain ⟨rfl, hsz, hP, hk, hD0, hE, hN⟩ := hv
  have hx := B.exec
  have hb := B.bytes
  have hr := B.returns
  have hts := atoms_spec (ws := wsL_isDoubtful) B.pre
  have hown : s.vm.findClass RL = some m.cls := findClass_of_methodNamed B.named
  have hlocks := B.notSynchronized
  have hK := hk.1
  have htab := vx_table (x := yL_isDoubtful) B (hts (Cond.codeWith yL_isDoubtful cL_isDoubtful 4 (some .int) [(0, 16, 19, 29)]) (List.mem_of_getElem? (i := 0) rfl))
  have hD : va_D (va_A (ob_wX ax ao al am ac ++ ob_wL t al n cl rd sv pb ba bf od bg ++ ob_wU t au ov) sz) (ob_wX ax ao al am ac ++ ob_wL t al n cl rd sv pb ba bf od bg ++ ob_wU t au ov) := hD0.self (sz := sz)
  have hA : ∀ q : Nat, s.heap.size ≤ q → (va_A (ob_wX ax ao al am ac ++ ob_wL t al n cl rd sv pb ba bf od bg ++ ob_wU t au ov) sz) q := fun q h => Or.inr (hsz ▸ h)
  have hS : va_S (va_A (ob_wX ax ao al am ac ++ ob_wL t al n cl rd sv pb ba bf od bg ++ ob_wU t au ov) sz) s.heap s.heap [] := va_S.rf
  have hl := lv_entry [.ref ax, .int x, .ref au] (n := 4) (Nat.le_of_ble_eq_true rfl)
  rw [lg_entry_eq]
  generalize (lg_sl [.ref ax, .int x, .ref au] ++ List.replicate (4 - (lg_sl [.ref ax, .int x, .ref au]).length) Slot.unset).toArray = ls at hl ⊢
  have hl : lv_has ls 4 [(0, .ref ax), (1, .int x), (2, .ref au)] := hl
  have hP : va_P D vwCl (ob_wX ax ao al am ac ++ ob_wL t al n cl rd sv pb ba bf od bg ++ ob_wU t au ov) s.heap := hP
  refine lv_aload_n hx hb dL_isDoubtful_0 rfl (lv_at hl 2 rfl) ?_
  refine lv_iconst (v := nI 0) hx hb dL_isDoubtful_1 (by decide) ?_
  refine lv_aload_n hx hb dL_isDoubtful_2 rfl (lv_at hl 0 rfl) ?_
  refine lv_iload_n hx hb dL_isDoubtful_3 rfl (lv_at hl 1 rfl) ?_
  have hFc := va_free (wc := ob_wX ax ao al am ac ++ ob_wL t al n cl rd sv pb ba bf od bg) hD hS hA [0, 1, 2, 3, 4, 5, 6, 7, 8, 9] rfl
  refine vx_calli (vx_runV (As := [.int x]) (rest := [.int (nI 0), .ref au]) ⟨hx, hb, hml, hown, hts⟩ (c_X4_isDoubtful l hl9 sa D t s.heap.size ax ao al am ac n cl rd sv pb ba bf od bg x hn) (cwV 1 hts gL_isDoubtful_X4_isDoubtful rfl rfl rfl (by decide +kernel) ⟨Nat.le_of_ble_eq_true rfl, Nat.le_of_ble_eq_true rfl⟩) (ob_pxV (ci := 4) (q0 := 0) (hP.sub [0, 1, 2, 3, 4, 5, 6, 7, 8, 9] rfl) (hD.sub [0, 1, 2, 3, 4, 5, 6, 7, 8, 9] (by decide) rfl) hk hE rfl rfl) rfl rfl hl.1 rfl (lv_room (Nat.le_of_ble_eq_true rfl)) dL_isDoubtful_4 ⟨Nat.le_of_ble_eq_true rfl, Nat.le_of_ble_eq_true rfl⟩) hS (fun q _ h => hFc q h) hFc (fun _ _ h => h.elim) (fun E9 ce9 q9 u9 t9 H1 locs ht hvm hpx hBX hz1 hk1 hS hce hcv hcl => ?_) (fun r9 u9 t9 H1 locs ht hvm hw9 hB hz1 hk1 hS => ?_)
  · obtain ⟨i9, hz9, hi9⟩ := hBX
    have hne : ¬ zx = 0 := by rw [← hzx, hz9]; exact Nat.succ_ne_zero _
    have hP := hP.kept (fun k q h => hk1 q.1 (hP k q h).lt id)
    rcases i9 with _ | i9
    · cases hi9
      refine vx_catch (own := RL) (name := "java/lang/IndexOutOfBoundsException") hown [] ⟨0, 16, 19, 29⟩ [] (by rw [htab]; rfl) (fun z h => absurd h List.not_mem_nil) rfl (by decide) (hts (Cond.classLink RL 29 "java/lang/IndexOutOfBoundsException") (List.mem_of_getElem? (i := 1) rfl)) (va_Nw.use rfl hE.2.2.2.2.1) hce hcv hcl ?_
      refine lv_astore_n (lv' := [(3, .ref q9), (0, .ref ax), (1, .int x), (2, .ref au)]) hx hb dL_isDoubtful_19 rfl hl (by decide) rfl (fun ls hl => ?_)
      refine lv_iconst (v := nI 1) hx hb dL_isDoubtful_20 (by decide) ?_
      exact vx_ret (W.iret (v := nI 1) hx hb hr (fun t9 ht hW => ⟨⟨nI 1, false, rfl, ⟨(by rw [← hzx, hz9]), fun h => absurd h hne⟩, ob_th ht (by simp only [hne, if_false]; exact hP)⟩, hS.F ht⟩) hS.2.2 dL_isDoubtful_21)
    · cases hi9
  · rw [ht] at hB
    obtain ⟨hz9, hp9⟩ := hw9
    have hz0 : zx = 0 := hzx.symm.trans hz9
    have hP := ob_jn (ws' := ob_wX ax ao al am ac ++ ob_wL t al n cl rd sv pb ba bf od bg ++ ob_wU t au ov) hP hD [some 0, some 1, some 2, some 3, some 4, some 5, some 6, some 7, some 8, some 9, none] [0, 1, 2, 3, 4, 5, 6, 7, 8, 9] rfl rfl hk1 hB rfl
    have hD : va_D (va_A (ob_wX ax ao al am ac ++ ob_wL t al n cl rd sv pb ba bf od bg ++ ob_wU t au ov) sz) (ob_wX ax ao al am ac ++ ob_wL t al n cl rd sv pb ba bf od bg ++ ob_wU t au ov) := ob_dXLU hD
    generalize H1 = H at hP hS ⊢
    subst hp9
    refine ob_if_eq (tgt := 14) hx hb dL_isDoubtful_7 (by decide) (fun c9 => ?_) (fun c9 => ?_)
    · refine lv_lconst (v := lN 0) hx hb dL_isDoubtful_14 rfl ?_
      refine ob_last hx hb hK hP hD hS 10 1 rfl rfl (show 0 < 1 by decide) (by decide) dL_isDoubtful_15 (fun H locs hP hD hS => ?_)
      have hP : va_P D vwCl (ob_wX ax ao al am ac ++ ob_wL t al n cl rd sv pb ba bf od bg ++ ob_wU t au (vp_updL ov 0 (lN 0))) H := hP
      refine lv_goto (tgt := 22) hx hb dL_isDoubtful_16 (by decide) ?_
      refine lv_iconst (v := nI 0) hx hb dL_isDoubtful_22 (by decide) ?_
      exact vx_ret (W.iret (v := nI 0) hx hb hr (fun t9 ht hW => ⟨⟨nI 0, false, rfl, ⟨(by rw [hz0]), fun _ => c9.symm⟩, ob_th ht (by simp only [hz0, if_true]; exact hP)⟩, hS.F ht⟩) hS.2.2 dL_isDoubtful_23)
    · refine lv_lconst (v := lN 1) hx hb dL_isDoubtful_10 rfl ?_
      refine lv_goto (tgt := 15) hx hb dL_isDoubtful_11 (by decide) ?_
      refine ob_last hx hb hK hP hD hS 10 1 rfl rfl (show 0 < 1 by decide) (by decide) dL_isDoubtful_15 (fun H locs hP hD hS => ?_)
      have hP : va_P D vwCl (ob_wX ax ao al am ac ++ ob_wL t al n cl rd sv pb ba bf od bg ++ ob_wU t au (vp_updL ov 0 (lN 1))) H := hP
      refine lv_goto (tgt := 22) hx hb dL_isDoubtful_16 (by decide) ?_
      refine lv_iconst (v := nI 0) hx hb dL_isDoubtful_22 (by decide) ?_
      exact vx_ret (W.iret (v := nI 0) hx hb hr (fun t9 ht hW => ⟨⟨nI 0, true, rfl, ⟨(by rw [hz0]), fun _ => c9.symm⟩, ob_th ht (by simp only [hz0, if_true]; exact hP)⟩, hS.F ht⟩) hS.2.2 dL_isDoubtful_23)

set_option maxRecDepth 100000 in
set_option maxHeartbeats 8000000 in
theorem c_L_storyAt (l : Launch) (hl9 : l.stackTraces = false) (sa : Nat → Nat) (D : va_G) (t : Nat → ClassId) (sz : Nat) (ax : Nat) (ao al am ac : Nat → Nat) (n : Nat) (cl rd sv pb ba bf od : Nat → Int32) (bg : Nat → Int64) (pm : Nat → Nat) (x : Int32) (au : Nat) (ov : Nat → Int64) (zx : Nat) (hn : n ≤ 30) (hpm : ∀ k, k < n → od k = nI (pm k) ∧ pm k < n) (hzx : ob_z1 (ob_sx (ob_is n pb ba od) x n) = zx) : vx_Met l yL_storyAt wsL_storyAt ({ frames := 7, cells := 1, slots := 6, locals := 104 } : Room) (ob_Py D t (ob_wX ax ao al am ac ++ ob_wL t al n cl rd sv pb ba bf od bg ++ ob_wU t au ov) sz sa [.ref ax, .int x, .ref au]) (va_Qi (fun (r : Int32) (u : Int32) => r = nI zx ∧ (zx = 0 → (∃ k, k < n ∧ ob_is n pb ba od k = true ∧ nI (ob_ct (ob_is n pb ba od) k) = x ∧ u = od k))) (fun (u : Int32) (t9 : State) => va_P D vwCl (ob_wX ax ao al am ac ++ ob_wL t al n cl rd sv pb ba bf od bg ++ ob_wU t au (if zx = 0 then vp_updL ov 0 u.toInt64 else ov)) t9.heap) (va_A (ob_wX ax ao al am ac ++ ob_wL t al n cl rd sv pb ba bf od bg ++ ob_wU t au ov) sz)) (fun _ _ _ => False) 1 6 (va_A (ob_wX ax ao al am ac ++ ob_wL t al n cl rd sv pb ba bf od bg ++ ob_wU t au ov) sz) := by
  refine vx_ofWH (cc := cL_storyAt) (maxL := 4) (ret := (some .int)) (hh := [(0, 9, 12, 29)]) (by decide) rfl ?_
  intro p e s m args below meth c s₁ B hml hv
  obtain ⟨rfl, hsz, hP, hk, hD0, hE, hN⟩ := hv
  have hx := B.exec
  have hb := B.bytes
  have hr := B.returns
  have hts := atoms_spec (ws := wsL_storyAt) B.pre
  have hown : s.vm.findClass RL = some m.cls := findClass_of_methodNamed B.named
  have hlocks := B.notSynchronized
  have hK := hk.1
  have htab := vx_table (x := yL_storyAt) B (hts (Cond.codeWith yL_storyAt cL_storyAt 4 (some .int) [(0, 9, 12, 29)]) (List.mem_of_getElem? (i := 0) rfl))
  have hD : va_D (va_A (ob_wX ax ao al am ac ++ ob_wL t al n cl rd sv pb ba bf od bg ++ ob_wU t au ov) sz) (ob_wX ax ao al am ac ++ ob_wL t al n cl rd sv pb ba bf od bg ++ ob_wU t au ov) := hD0.self (sz := sz)
  have hA : ∀ q : Nat, s.heap.size ≤ q → (va_A (ob_wX ax ao al am ac ++ ob_wL t al n cl rd sv pb ba bf od bg ++ ob_wU t au ov) sz) q := fun q h => Or.inr (hsz ▸ h)
  have hS : va_S (va_A (ob_wX ax ao al am ac ++ ob_wL t al n cl rd sv pb ba bf od bg ++ ob_wU t au ov) sz) s.heap s.heap [] := va_S.rf
  have hl := lv_entry [.ref ax, .int x, .ref au] (n := 4) (Nat.le_of_ble_eq_true rfl)
  rw [lg_entry_eq]
  generalize (lg_sl [.ref ax, .int x, .ref au] ++ List.replicate (4 - (lg_sl [.ref ax, .int x, .ref au]).length) Slot.unset).toArray = ls at hl ⊢
  have hl : lv_has ls 4 [(0, .ref ax), (1, .int x), (2, .ref au)] := hl
  have hP : va_P D vwCl (ob_wX ax ao al am ac ++ ob_wL t al n cl rd sv pb ba bf od bg ++ ob_wU t au ov) s.heap := hP
  refine lv_aload_n hx hb dL_storyAt_0 rfl (lv_at hl 2 rfl) ?_
  refine lv_iconst (v := nI 0) hx hb dL_storyAt_1 (by decide) ?_
  refine lv_aload_n hx hb dL_storyAt_2 rfl (lv_at hl 0 rfl) ?_
  refine lv_iload_n hx hb dL_storyAt_3 rfl (lv_at hl 1 rfl) ?_
  have hFc := va_free (wc := ob_wX ax ao al am ac ++ ob_wL t al n cl rd sv pb ba bf od bg) hD hS hA [0, 1, 2, 3, 4, 5, 6, 7, 8, 9] rfl
  refine vx_calli (vx_runV (As := [.int x]) (rest := [.int (nI 0), .ref au]) ⟨hx, hb, hml, hown, hts⟩ (c_X4_storyAt l hl9 sa D t s.heap.size ax ao al am ac n cl rd sv pb ba bf od bg pm x hn hpm) (cwV 1 hts gL_storyAt_X4_storyAt rfl rfl rfl (by decide +kernel) ⟨Nat.le_of_ble_eq_true rfl, Nat.le_of_ble_eq_true rfl⟩) (ob_pxV (ci := 4) (q0 := 0) (hP.sub [0, 1, 2, 3, 4, 5, 6, 7, 8, 9] rfl) (hD.sub [0, 1, 2, 3, 4, 5, 6, 7, 8, 9] (by decide) rfl) hk hE rfl rfl) rfl rfl hl.1 rfl (lv_room (Nat.le_of_ble_eq_true rfl)) dL_storyAt_4 ⟨Nat.le_of_ble_eq_true rfl, Nat.le_of_ble_eq_true rfl⟩) hS (fun q _ h => hFc q h) hFc (fun _ _ h => h.elim) (fun E9 ce9 q9 u9 t9 H1 locs ht hvm hpx hBX hz1 hk1 hS hce hcv hcl => ?_) (fun r9 u9 t9 H1 locs ht hvm hw9 hB hz1 hk1 hS => ?_)
  · obtain ⟨i9, hz9, hi9⟩ := hBX
    have hne : ¬ zx = 0 := by rw [← hzx, hz9]; exact Nat.succ_ne_zero _
    have hP := hP.kept (fun k q h => hk1 q.1 (hP k q h).lt id)
    rcases i9 with _ | i9
    · cases hi9
      refine vx_catch (own := RL) (name := "java/lang/IndexOutOfBoundsException") hown [] ⟨0, 9, 12, 29⟩ [] (by rw [htab]; rfl) (fun z h => absurd h List.not_mem_nil) rfl (by decide) (hts (Cond.classLink RL 29 "java/lang/IndexOutOfBoundsException") (List.mem_of_getElem? (i := 1) rfl)) (va_Nw.use rfl hE.2.2.2.2.1) hce hcv hcl ?_
      refine lv_astore_n (lv' := [(3, .ref q9), (0, .ref ax), (1, .int x), (2, .ref au)]) hx hb dL_storyAt_12 rfl hl (by decide) rfl (fun ls hl => ?_)
      refine lv_iconst (v := nI 1) hx hb dL_storyAt_13 (by decide) ?_
      exact vx_ret (W.iret (v := nI 1) hx hb hr (fun t9 ht hW => ⟨⟨nI 1, 0, rfl, ⟨(by rw [← hzx, hz9]), fun h => absurd h hne⟩, ob_th ht (by simp only [hne, if_false]; exact hP)⟩, hS.F ht⟩) hS.2.2 dL_storyAt_14)
    · cases hi9
  · rw [ht] at hB
    obtain ⟨hz9, hp9⟩ := hw9
    have hz0 : zx = 0 := hzx.symm.trans hz9
    have hP := ob_jn (ws' := ob_wX ax ao al am ac ++ ob_wL t al n cl rd sv pb ba bf od bg ++ ob_wU t au ov) hP hD [some 0, some 1, some 2, some 3, some 4, some 5, some 6, some 7, some 8, some 9, none] [0, 1, 2, 3, 4, 5, 6, 7, 8, 9] rfl rfl hk1 hB rfl
    have hD : va_D (va_A (ob_wX ax ao al am ac ++ ob_wL t al n cl rd sv pb ba bf od bg ++ ob_wU t au ov) sz) (ob_wX ax ao al am ac ++ ob_wL t al n cl rd sv pb ba bf od bg ++ ob_wU t au ov) := ob_dXLU hD
    generalize H1 = H at hP hS ⊢
    refine lv_i2l (v := r9.toInt64) hx hb dL_storyAt_7 rfl ?_
    refine ob_last hx hb hK hP hD hS 10 1 rfl rfl (show 0 < 1 by decide) (by decide) dL_storyAt_8 (fun H locs hP hD hS => ?_)
    have hP : va_P D vwCl (ob_wX ax ao al am ac ++ ob_wL t al n cl rd sv pb ba bf od bg ++ ob_wU t au (vp_updL ov 0 r9.toInt64)) H := hP
    refine lv_goto (tgt := 15) hx hb dL_storyAt_9 (by decide) ?_
    refine lv_iconst (v := nI 0) hx hb dL_storyAt_15 (by decide) ?_
    exact vx_ret (W.iret (v := nI 0) hx hb hr (fun t9 ht hW => ⟨⟨nI 0, r9, rfl, ⟨(by rw [hz0]), fun _ => hp9⟩, ob_th ht (by simp only [hz0, if_true]; exact hP)⟩, hS.F ht⟩) hS.2.2 dL_storyAt_16)

set_option maxRecDepth 100000 in
set_option maxHeartbeats 8000000 in
theorem c_L_earliest (l : Launch) (hl9 : l.stackTraces = false) (sa : Nat → Nat) (D : va_G) (t : Nat → ClassId) (sz : Nat) (ax : Nat) (ao al am ac : Nat → Nat) (M : Nat → Nat → Int32) (n : Nat) (cl rd sv pb ba bf od : Nat → Int32) (bg : Nat → Int64) (x : Int32) (au : Nat) (ov : Nat → Int64) (zx : Nat) (hn : n ≤ 30) (hzx : ob_z1 (ob_hd n x) = zx) : vx_Met l yL_earliest wsL_earliest ({ frames := 7, cells := 1, slots := 6, locals := 108 } : Room) (ob_Py D t (ob_wX ax ao al am ac ++ ob_wO t ao M ++ ob_wL t al n cl rd sv pb ba bf od bg ++ ob_wU t au ov) sz sa [.ref ax, .int x, .ref au]) (va_Qi (fun (r : Int32) (u : Int32) => r = nI zx ∧ (zx = 0 → (u = (ob_et n M cl rd x)))) (fun (u : Int32) (t9 : State) => va_P D vwCl (ob_wX ax ao al am ac ++ ob_wO t ao M ++ ob_wL t al n cl rd sv pb ba bf od bg ++ ob_wU t au (if zx = 0 then vp_updL ov 0 u.toInt64 else ov)) t9.heap) (va_A (ob_wX ax ao al am ac ++ ob_wO t ao M ++ ob_wL t al n cl rd sv pb ba bf od bg ++ ob_wU t au ov) sz)) (fun _ _ _ => False) 1 6 (va_A (ob_wX ax ao al am ac ++ ob_wO t ao M ++ ob_wL t al n cl rd sv pb ba bf od bg ++ ob_wU t au ov) sz) := by
  refine vx_ofWH (cc := cL_earliest) (maxL := 4) (ret := (some .int)) (hh := [(0, 9, 12, 29)]) (by decide) rfl ?_
  intro p e s m args below meth c s₁ B hml hv
  obtain ⟨rfl, hsz, hP, hk, hD0, hE, hN⟩ := hv
  have hx := B.exec
  have hb := B.bytes
  have hr := B.returns
  have hts := atoms_spec (ws := wsL_earliest) B.pre
  have hown : s.vm.findClass RL = some m.cls := findClass_of_methodNamed B.named
  have hlocks := B.notSynchronized
  have hK := hk.1
  have htab := vx_table (x := yL_earliest) B (hts (Cond.codeWith yL_earliest cL_earliest 4 (some .int) [(0, 9, 12, 29)]) (List.mem_of_getElem? (i := 0) rfl))
  have hD : va_D (va_A (ob_wX ax ao al am ac ++ ob_wO t ao M ++ ob_wL t al n cl rd sv pb ba bf od bg ++ ob_wU t au ov) sz) (ob_wX ax ao al am ac ++ ob_wO t ao M ++ ob_wL t al n cl rd sv pb ba bf od bg ++ ob_wU t au ov) := hD0.self (sz := sz)
  have hA : ∀ q : Nat, s.heap.size ≤ q → (va_A (ob_wX ax ao al am ac ++ ob_wO t ao M ++ ob_wL t al n cl rd sv pb ba bf od bg ++ ob_wU t au ov) sz) q := fun q h => Or.inr (hsz ▸ h)
  have hS : va_S (va_A (ob_wX ax ao al am ac ++ ob_wO t ao M ++ ob_wL t al n cl rd sv pb ba bf od bg ++ ob_wU t au ov) sz) s.heap s.heap [] := va_S.rf
  have hl := lv_entry [.ref ax, .int x, .ref au] (n := 4) (Nat.le_of_ble_eq_true rfl)
  rw [lg_entry_eq]
  generalize (lg_sl [.ref ax, .int x, .ref au] ++ List.replicate (4 - (lg_sl [.ref ax, .int x, .ref au]).length) Slot.unset).toArray = ls at hl ⊢
  have hl : lv_has ls 4 [(0, .ref ax), (1, .int x), (2, .ref au)] := hl
  have hP : va_P D vwCl (ob_wX ax ao al am ac ++ ob_wO t ao M ++ ob_wL t al n cl rd sv pb ba bf od bg ++ ob_wU t au ov) s.heap := hP
  refine lv_aload_n hx hb dL_earliest_0 rfl (lv_at hl 2 rfl) ?_
  refine lv_iconst (v := nI 0) hx hb dL_earliest_1 (by decide) ?_
  refine lv_aload_n hx hb dL_earliest_2 rfl (lv_at hl 0 rfl) ?_
  refine lv_iload_n hx hb dL_earliest_3 rfl (lv_at hl 1 rfl) ?_
  have hFc := va_free (wc := ob_wX ax ao al am ac ++ ob_wO t ao M ++ ob_wL t al n cl rd sv pb ba bf od bg) hD hS hA [0, 1, 2, 3, 4, 5, 6, 7, 8, 9, 10, 11, 12, 13, 14, 15, 16] rfl
  refine vx_calli (vx_runV (As := [.int x]) (rest := [.int (nI 0), .ref au]) ⟨hx, hb, hml, hown, hts⟩ (c_X4_earliest l hl9 sa D t s.heap.size ax ao al am ac M n cl rd sv pb ba bf od bg x hn) (cwV 1 hts gL_earliest_X4_earliest rfl rfl rfl (by decide +kernel) ⟨Nat.le_of_ble_eq_true rfl, Nat.le_of_ble_eq_true rfl⟩) (ob_pxV (ci := 4) (q0 := 0) (hP.sub [0, 1, 2, 3, 4, 5, 6, 7, 8, 9, 10, 11, 12, 13, 14, 15, 16] rfl) (hD.sub [0, 1, 2, 3, 4, 5, 6, 7, 8, 9, 10, 11, 12, 13, 14, 15, 16] (by decide) rfl) hk hE rfl rfl) rfl rfl hl.1 rfl (lv_room (Nat.le_of_ble_eq_true rfl)) dL_earliest_4 ⟨Nat.le_of_ble_eq_true rfl, Nat.le_of_ble_eq_true rfl⟩) hS (fun q _ h => hFc q h) hFc (fun _ _ h => h.elim) (fun E9 ce9 q9 u9 t9 H1 locs ht hvm hpx hBX hz1 hk1 hS hce hcv hcl => ?_) (fun r9 u9 t9 H1 locs ht hvm hw9 hB hz1 hk1 hS => ?_)
  · obtain ⟨i9, hz9, hi9⟩ := hBX
    have hne : ¬ zx = 0 := by rw [← hzx, hz9]; exact Nat.succ_ne_zero _
    have hP := hP.kept (fun k q h => hk1 q.1 (hP k q h).lt id)
    rcases i9 with _ | i9
    · cases hi9
      refine vx_catch (own := RL) (name := "java/lang/IndexOutOfBoundsException") hown [] ⟨0, 9, 12, 29⟩ [] (by rw [htab]; rfl) (fun z h => absurd h List.not_mem_nil) rfl (by decide) (hts (Cond.classLink RL 29 "java/lang/IndexOutOfBoundsException") (List.mem_of_getElem? (i := 1) rfl)) (va_Nw.use rfl hE.2.2.2.2.1) hce hcv hcl ?_
      refine lv_astore_n (lv' := [(3, .ref q9), (0, .ref ax), (1, .int x), (2, .ref au)]) hx hb dL_earliest_12 rfl hl (by decide) rfl (fun ls hl => ?_)
      refine lv_iconst (v := nI 1) hx hb dL_earliest_13 (by decide) ?_
      exact vx_ret (W.iret (v := nI 1) hx hb hr (fun t9 ht hW => ⟨⟨nI 1, 0, rfl, ⟨(by rw [← hzx, hz9]), fun h => absurd h hne⟩, ob_th ht (by simp only [hne, if_false]; exact hP)⟩, hS.F ht⟩) hS.2.2 dL_earliest_14)
    · cases hi9
  · rw [ht] at hB
    obtain ⟨hz9, hp9⟩ := hw9
    have hz0 : zx = 0 := hzx.symm.trans hz9
    have hP := ob_jn (ws' := ob_wX ax ao al am ac ++ ob_wO t ao M ++ ob_wL t al n cl rd sv pb ba bf od bg ++ ob_wU t au ov) hP hD [some 0, some 1, some 2, some 3, some 4, some 5, some 6, some 7, some 8, some 9, some 10, some 11, some 12, some 13, some 14, some 15, some 16, none] [0, 1, 2, 3, 4, 5, 6, 7, 8, 9, 10, 11, 12, 13, 14, 15, 16] rfl rfl hk1 hB rfl
    have hD : va_D (va_A (ob_wX ax ao al am ac ++ ob_wO t ao M ++ ob_wL t al n cl rd sv pb ba bf od bg ++ ob_wU t au ov) sz) (ob_wX ax ao al am ac ++ ob_wO t ao M ++ ob_wL t al n cl rd sv pb ba bf od bg ++ ob_wU t au ov) := ob_dXOLU hD
    generalize H1 = H at hP hS ⊢
    refine lv_i2l (v := r9.toInt64) hx hb dL_earliest_7 rfl ?_
    refine ob_last hx hb hK hP hD hS 17 1 rfl rfl (show 0 < 1 by decide) (by decide) dL_earliest_8 (fun H locs hP hD hS => ?_)
    have hP : va_P D vwCl (ob_wX ax ao al am ac ++ ob_wO t ao M ++ ob_wL t al n cl rd sv pb ba bf od bg ++ ob_wU t au (vp_updL ov 0 r9.toInt64)) H := hP
    refine lv_goto (tgt := 15) hx hb dL_earliest_9 (by decide) ?_
    refine lv_iconst (v := nI 0) hx hb dL_earliest_15 (by decide) ?_
    exact vx_ret (W.iret (v := nI 0) hx hb hr (fun t9 ht hW => ⟨⟨nI 0, r9, rfl, ⟨(by rw [hz0]), fun _ => hp9⟩, ob_th ht (by simp only [hz0, if_true]; exact hP)⟩, hS.F ht⟩) hS.2.2 dL_earliest_16)

set_option maxRecDepth 100000 in
set_option maxHeartbeats 8000000 in
theorem c_L_firstOf (l : Launch) (hl9 : l.stackTraces = false) (sa : Nat → Nat) (D : va_G) (t : Nat → ClassId) (sz : Nat) (ax : Nat) (ao al am ac : Nat → Nat) (n : Nat) (cl rd sv pb ba bf od : Nat → Int32) (bg : Nat → Int64) (x : Int32) (au : Nat) (ov : Nat → Int64) (zx : Nat) (hn : n ≤ 30) (hzx : ob_z1 (ob_wi x (nI 0) (nI 5)) = zx) : vx_Met l yL_firstOf wsL_firstOf ({ frames := 7, cells := 1, slots := 6, locals := 103 } : Room) (ob_Py D t (ob_wX ax ao al am ac ++ ob_wL t al n cl rd sv pb ba bf od bg ++ ob_wU t au ov) sz sa [.ref ax, .int x, .ref au]) (va_Qi (fun (r : Int32) (u : Int32) => r = nI zx ∧ (zx = 0 → ((∃ k, k < n ∧ ob_fp n sv od x k = true ∧ (∀ j, j < k → ob_fp n sv od x j = false) ∧ u = od k) ∨ ((∀ j, j < n → ob_fp n sv od x j = false) ∧ u = -1)))) (fun (u : Int32) (t9 : State) => va_P D vwCl (ob_wX ax ao al am ac ++ ob_wL t al n cl rd sv pb ba bf od bg ++ ob_wU t au (if zx = 0 then vp_updL ov 0 u.toInt64 else ov)) t9.heap) (va_A (ob_wX ax ao al am ac ++ ob_wL t al n cl rd sv pb ba bf od bg ++ ob_wU t au ov) sz)) (fun _ _ _ => False) 1 6 (va_A (ob_wX ax ao al am ac ++ ob_wL t al n cl rd sv pb ba bf od bg ++ ob_wU t au ov) sz) := by
  refine vx_ofWH (cc := cL_firstOf) (maxL := 4) (ret := (some .int)) (hh := [(0, 9, 12, 13)]) (by decide) rfl ?_
  intro p e s m args below meth c s₁ B hml hv
  obtain ⟨rfl, hsz, hP, hk, hD0, hE, hN⟩ := hv
  have hx := B.exec
  have hb := B.bytes
  have hr := B.returns
  have hts := atoms_spec (ws := wsL_firstOf) B.pre
  have hown : s.vm.findClass RL = some m.cls := findClass_of_methodNamed B.named
  have hlocks := B.notSynchronized
  have hK := hk.1
  have htab := vx_table (x := yL_firstOf) B (hts (Cond.codeWith yL_firstOf cL_firstOf 4 (some .int) [(0, 9, 12, 13)]) (List.mem_of_getElem? (i := 0) rfl))
  have hD : va_D (va_A (ob_wX ax ao al am ac ++ ob_wL t al n cl rd sv pb ba bf od bg ++ ob_wU t au ov) sz) (ob_wX ax ao al am ac ++ ob_wL t al n cl rd sv pb ba bf od bg ++ ob_wU t au ov) := hD0.self (sz := sz)
  have hA : ∀ q : Nat, s.heap.size ≤ q → (va_A (ob_wX ax ao al am ac ++ ob_wL t al n cl rd sv pb ba bf od bg ++ ob_wU t au ov) sz) q := fun q h => Or.inr (hsz ▸ h)
  have hS : va_S (va_A (ob_wX ax ao al am ac ++ ob_wL t al n cl rd sv pb ba bf od bg ++ ob_wU t au ov) sz) s.heap s.heap [] := va_S.rf
  have hl := lv_entry [.ref ax, .int x, .ref au] (n := 4) (Nat.le_of_ble_eq_true rfl)
  rw [lg_entry_eq]
  generalize (lg_sl [.ref ax, .int x, .ref au] ++ List.replicate (4 - (lg_sl [.ref ax, .int x, .ref au]).length) Slot.unset).toArray = ls at hl ⊢
  have hl : lv_has ls 4 [(0, .ref ax), (1, .int x), (2, .ref au)] := hl
  have hP : va_P D vwCl (ob_wX ax ao al am ac ++ ob_wL t al n cl rd sv pb ba bf od bg ++ ob_wU t au ov) s.heap := hP
  refine lv_aload_n hx hb dL_firstOf_0 rfl (lv_at hl 2 rfl) ?_
  refine lv_iconst (v := nI 0) hx hb dL_firstOf_1 (by decide) ?_
  refine lv_aload_n hx hb dL_firstOf_2 rfl (lv_at hl 0 rfl) ?_
  refine lv_iload_n hx hb dL_firstOf_3 rfl (lv_at hl 1 rfl) ?_
  have hFc := va_free (wc := ob_wX ax ao al am ac ++ ob_wL t al n cl rd sv pb ba bf od bg) hD hS hA [0, 1, 2, 3, 4, 5, 6, 7, 8, 9] rfl
  refine vx_calli (vx_runV (As := [.int x]) (rest := [.int (nI 0), .ref au]) ⟨hx, hb, hml, hown, hts⟩ (c_X4_firstOf l hl9 sa D t s.heap.size ax ao al am ac n cl rd sv pb ba bf od bg x hn) (cwV 1 hts gL_firstOf_X4_firstOf rfl rfl rfl (by decide +kernel) ⟨Nat.le_of_ble_eq_true rfl, Nat.le_of_ble_eq_true rfl⟩) (ob_pxV (ci := 4) (q0 := 0) (hP.sub [0, 1, 2, 3, 4, 5, 6, 7, 8, 9] rfl) (hD.sub [0, 1, 2, 3, 4, 5, 6, 7, 8, 9] (by decide) rfl) hk hE rfl rfl) rfl rfl hl.1 rfl (lv_room (Nat.le_of_ble_eq_true rfl)) dL_firstOf_4 ⟨Nat.le_of_ble_eq_true rfl, Nat.le_of_ble_eq_true rfl⟩) hS (fun q _ h => hFc q h) hFc (fun _ _ h => h.elim) (fun E9 ce9 q9 u9 t9 H1 locs ht hvm hpx hBX hz1 hk1 hS hce hcv hcl => ?_) (fun r9 u9 t9 H1 locs ht hvm hw9 hB hz1 hk1 hS => ?_)
  · obtain ⟨i9, hz9, hi9⟩ := hBX
    have hne : ¬ zx = 0 := by rw [← hzx, hz9]; exact Nat.succ_ne_zero _
    have hP := hP.kept (fun k q h => hk1 q.1 (hP k q h).lt id)
    rcases i9 with _ | i9
    · cases hi9
      refine vx_catch (own := RL) (name := "java/lang/IllegalArgumentException") hown [] ⟨0, 9, 12, 13⟩ [] (by rw [htab]; rfl) (fun z h => absurd h List.not_mem_nil) rfl (by decide) (hts (Cond.classLink RL 13 "java/lang/IllegalArgumentException") (List.mem_of_getElem? (i := 1) rfl)) (va_Nw.use rfl hE.2.2.1) hce hcv hcl ?_
      refine lv_astore_n (lv' := [(3, .ref q9), (0, .ref ax), (1, .int x), (2, .ref au)]) hx hb dL_firstOf_12 rfl hl (by decide) rfl (fun ls hl => ?_)
      refine lv_iconst (v := nI 1) hx hb dL_firstOf_13 (by decide) ?_
      exact vx_ret (W.iret (v := nI 1) hx hb hr (fun t9 ht hW => ⟨⟨nI 1, 0, rfl, ⟨(by rw [← hzx, hz9]), fun h => absurd h hne⟩, ob_th ht (by simp only [hne, if_false]; exact hP)⟩, hS.F ht⟩) hS.2.2 dL_firstOf_14)
    · cases hi9
  · rw [ht] at hB
    obtain ⟨hz9, hp9⟩ := hw9
    have hz0 : zx = 0 := hzx.symm.trans hz9
    have hP := ob_jn (ws' := ob_wX ax ao al am ac ++ ob_wL t al n cl rd sv pb ba bf od bg ++ ob_wU t au ov) hP hD [some 0, some 1, some 2, some 3, some 4, some 5, some 6, some 7, some 8, some 9, none] [0, 1, 2, 3, 4, 5, 6, 7, 8, 9] rfl rfl hk1 hB rfl
    have hD : va_D (va_A (ob_wX ax ao al am ac ++ ob_wL t al n cl rd sv pb ba bf od bg ++ ob_wU t au ov) sz) (ob_wX ax ao al am ac ++ ob_wL t al n cl rd sv pb ba bf od bg ++ ob_wU t au ov) := ob_dXLU hD
    generalize H1 = H at hP hS ⊢
    refine lv_i2l (v := r9.toInt64) hx hb dL_firstOf_7 rfl ?_
    refine ob_last hx hb hK hP hD hS 10 1 rfl rfl (show 0 < 1 by decide) (by decide) dL_firstOf_8 (fun H locs hP hD hS => ?_)
    have hP : va_P D vwCl (ob_wX ax ao al am ac ++ ob_wL t al n cl rd sv pb ba bf od bg ++ ob_wU t au (vp_updL ov 0 r9.toInt64)) H := hP
    refine lv_goto (tgt := 15) hx hb dL_firstOf_9 (by decide) ?_
    refine lv_iconst (v := nI 0) hx hb dL_firstOf_15 (by decide) ?_
    exact vx_ret (W.iret (v := nI 0) hx hb hr (fun t9 ht hW => ⟨⟨nI 0, r9, rfl, ⟨(by rw [hz0]), fun _ => hp9⟩, ob_th ht (by simp only [hz0, if_true]; exact hP)⟩, hS.F ht⟩) hS.2.2 dL_firstOf_16)

set_option maxRecDepth 100000 in
set_option maxHeartbeats 8000000 in
theorem c_L_measure (l : Launch) (hl9 : l.stackTraces = false) (sa : Nat → Nat) (D : va_G) (t : Nat → ClassId) (sz : Nat) (ax : Nat) (ao al am ac : Nat → Nat) (mn : Nat) (ms mf mt mp : Nat → Int32) (x1 x2 x3 x4 : Int32) (au : Nat) (ov : Nat → Int64) (zx : Nat) (hmn : mn ≤ 40) (hzx : ob_z2 (ob_wi x1 (nI 0) (nI 5) && (ob_wi x4 (nI 0) (nI 100) && (ob_wi x2 (nI 0) (nI 10000) && ob_wi x3 x2 (nI 10000)))) (decide (mn < 40)) = zx) : vx_Met l yL_measure wsL_measure ({ frames := 7, cells := 1, slots := 6, locals := 106 } : Room) (ob_Py D t (ob_wX ax ao al am ac ++ ob_wM t am mn ms mf mt mp ++ ob_wU t au ov) sz sa [.ref ax, .int x1, .int x2, .int x3, .int x4, .ref au]) (va_Qi (fun (r : Int32) (u : Int32) => r = nI zx ∧ (zx = 0 → (u = (nI mn)))) (fun (u : Int32) (t9 : State) => va_P D vwCl (ob_wX ax ao al am ac ++ ob_wM t am (if zx = 0 then mn + 1 else mn) (if zx = 0 then upd ms mn x1 else ms) (if zx = 0 then upd mf mn x2 else mf) (if zx = 0 then upd mt mn x3 else mt) (if zx = 0 then upd mp mn x4 else mp) ++ ob_wU t au (if zx = 0 then vp_updL ov 0 u.toInt64 else ov)) t9.heap) (va_A (ob_wX ax ao al am ac ++ ob_wM t am mn ms mf mt mp ++ ob_wU t au ov) sz)) (fun _ _ _ => False) 1 6 (va_A (ob_wX ax ao al am ac ++ ob_wM t am mn ms mf mt mp ++ ob_wU t au ov) sz) := by
  refine vx_ofWH (cc := cL_measure) (maxL := 7) (ret := (some .int)) (hh := [(0, 14, 17, 13), (0, 14, 21, 15)]) (by decide) rfl ?_
  intro p e s m args below meth c s₁ B hml hv
  obtain ⟨rfl, hsz, hP, hk, hD0, hE, hN⟩ := hv
  have hx := B.exec
  have hb := B.bytes
  have hr := B.returns
  have hts := atoms_spec (ws := wsL_measure) B.pre
  have hown : s.vm.findClass RL = some m.cls := findClass_of_methodNamed B.named
  have hlocks := B.notSynchronized
  have hK := hk.1
  have htab := vx_table (x := yL_measure) B (hts (Cond.codeWith yL_measure cL_measure 7 (some .int) [(0, 14, 17, 13), (0, 14, 21, 15)]) (List.mem_of_getElem? (i := 0) rfl))
  have hD : va_D (va_A (ob_wX ax ao al am ac ++ ob_wM t am mn ms mf mt mp ++ ob_wU t au ov) sz) (ob_wX ax ao al am ac ++ ob_wM t am mn ms mf mt mp ++ ob_wU t au ov) := hD0.self (sz := sz)
  have hA : ∀ q : Nat, s.heap.size ≤ q → (va_A (ob_wX ax ao al am ac ++ ob_wM t am mn ms mf mt mp ++ ob_wU t au ov) sz) q := fun q h => Or.inr (hsz ▸ h)
  have hS : va_S (va_A (ob_wX ax ao al am ac ++ ob_wM t am mn ms mf mt mp ++ ob_wU t au ov) sz) s.heap s.heap [] := va_S.rf
  have hl := lv_entry [.ref ax, .int x1, .int x2, .int x3, .int x4, .ref au] (n := 7) (Nat.le_of_ble_eq_true rfl)
  rw [lg_entry_eq]
  generalize (lg_sl [.ref ax, .int x1, .int x2, .int x3, .int x4, .ref au] ++ List.replicate (7 - (lg_sl [.ref ax, .int x1, .int x2, .int x3, .int x4, .ref au]).length) Slot.unset).toArray = ls at hl ⊢
  have hl : lv_has ls 7 [(0, .ref ax), (1, .int x1), (2, .int x2), (3, .int x3), (4, .int x4), (5, .ref au)] := hl
  have hP : va_P D vwCl (ob_wX ax ao al am ac ++ ob_wM t am mn ms mf mt mp ++ ob_wU t au ov) s.heap := hP
  refine lv_aload hx hb dL_measure_0 (lv_at hl 5 rfl) ?_
  refine lv_iconst (v := nI 0) hx hb dL_measure_2 (by decide) ?_
  refine lv_aload_n hx hb dL_measure_3 rfl (lv_at hl 0 rfl) ?_
  refine lv_iload_n hx hb dL_measure_4 rfl (lv_at hl 1 rfl) ?_
  refine lv_iload_n hx hb dL_measure_5 rfl (lv_at hl 2 rfl) ?_
  refine lv_iload_n hx hb dL_measure_6 rfl (lv_at hl 3 rfl) ?_
  refine lv_iload hx hb dL_measure_7 (lv_at hl 4 rfl) ?_
  have hFc := va_free (wc := ob_wX ax ao al am ac ++ ob_wM t am mn ms mf mt mp) hD hS hA [0, 1, 2, 3, 4, 5] rfl
  refine vx_calli (vx_runV (As := [.int x1, .int x2, .int x3, .int x4]) (rest := [.int (nI 0), .ref au]) ⟨hx, hb, hml, hown, hts⟩ (c_X4_measure l hl9 sa D t s.heap.size ax ao al am ac mn ms mf mt mp x1 x2 x3 x4 hmn) (cwV 4 hts gL_measure_X4_measure rfl rfl rfl (by decide +kernel) ⟨Nat.le_of_ble_eq_true rfl, Nat.le_of_ble_eq_true rfl⟩) (ob_pxV (ci := 4) (q0 := 0) (hP.sub [0, 1, 2, 3, 4, 5] rfl) (hD.sub [0, 1, 2, 3, 4, 5] (by decide) rfl) hk hE rfl rfl) rfl rfl hl.1 rfl (lv_room (Nat.le_of_ble_eq_true rfl)) dL_measure_9 ⟨Nat.le_of_ble_eq_true rfl, Nat.le_of_ble_eq_true rfl⟩) hS (fun q _ h => hFc q h) hFc (fun _ _ h => h.elim) (fun E9 ce9 q9 u9 t9 H1 locs ht hvm hpx hBX hz1 hk1 hS hce hcv hcl => ?_) (fun r9 u9 t9 H1 locs ht hvm hw9 hB hz1 hk1 hS => ?_)
  · obtain ⟨i9, hz9, hi9⟩ := hBX
    have hne : ¬ zx = 0 := by rw [← hzx, hz9]; exact Nat.succ_ne_zero _
    have hP := hP.kept (fun k q h => hk1 q.1 (hP k q h).lt id)
    rcases i9 with _ | i9
    · cases hi9
      refine vx_catch (own := RL) (name := "java/lang/IllegalArgumentException") hown [] ⟨0, 14, 17, 13⟩ [⟨0, 14, 21, 15⟩] (by rw [htab]; rfl) (fun z h => absurd h List.not_mem_nil) rfl (by decide) (hts (Cond.classLink RL 13 "java/lang/IllegalArgumentException") (List.mem_of_getElem? (i := 1) rfl)) (va_Nw.use rfl hE.2.2.1) hce hcv hcl ?_
      refine lv_astore (lv' := [(6, .ref q9), (0, .ref ax), (1, .int x1), (2, .int x2), (3, .int x3), (4, .int x4), (5, .ref au)]) hx hb dL_measure_17 hl (by decide) rfl (fun ls hl => ?_)
      refine lv_iconst (v := nI 1) hx hb dL_measure_19 (by decide) ?_
      exact vx_ret (W.iret (v := nI 1) hx hb hr (fun t9 ht hW => ⟨⟨nI 1, 0, rfl, ⟨(by rw [← hzx, hz9]), fun h => absurd h hne⟩, ob_th ht (by simp only [hne, if_false]; exact hP)⟩, hS.F ht⟩) hS.2.2 dL_measure_20)
    rcases i9 with _ | i9
    · cases hi9
      refine vx_catch (own := RL) (name := "java/lang/IllegalStateException") hown [⟨0, 14, 17, 13⟩] ⟨0, 14, 21, 15⟩ [] (by rw [htab]; rfl) (List.forall_mem_cons.mpr ⟨Or.inr ⟨(by decide), "java/lang/IllegalArgumentException", (hts (Cond.classLink RL 13 "java/lang/IllegalArgumentException") (List.mem_of_getElem? (i := 1) rfl)), hN.1⟩, (fun z h => absurd h List.not_mem_nil)⟩) rfl (by decide) (hts (Cond.classLink RL 15 "java/lang/IllegalStateException") (List.mem_of_getElem? (i := 2) rfl)) (va_Nw.use rfl hE.2.2.2.1) hce hcv hcl ?_
      refine lv_astore (lv' := [(6, .ref q9), (0, .ref ax), (1, .int x1), (2, .int x2), (3, .int x3), (4, .int x4), (5, .ref au)]) hx hb dL_measure_21 hl (by decide) rfl (fun ls hl => ?_)
      refine lv_iconst (v := nI 2) hx hb dL_measure_23 (by decide) ?_
      exact vx_ret (W.iret (v := nI 2) hx hb hr (fun t9 ht hW => ⟨⟨nI 2, 0, rfl, ⟨(by rw [← hzx, hz9]), fun h => absurd h hne⟩, ob_th ht (by simp only [hne, if_false]; exact hP)⟩, hS.F ht⟩) hS.2.2 dL_measure_24)
    · cases hi9
  · rw [ht] at hB
    obtain ⟨hz9, hp9⟩ := hw9
    have hz0 : zx = 0 := hzx.symm.trans hz9
    have hP := ob_jn (ws' := ob_wX ax ao al am ac ++ ob_wM t am (mn + 1) (upd ms mn x1) (upd mf mn x2) (upd mt mn x3) (upd mp mn x4) ++ ob_wU t au ov) hP hD [some 0, some 1, some 2, some 3, some 4, some 5, none] [0, 1, 2, 3, 4, 5] rfl rfl hk1 hB rfl
    have hD : va_D (va_A (ob_wX ax ao al am ac ++ ob_wM t am mn ms mf mt mp ++ ob_wU t au ov) sz) (ob_wX ax ao al am ac ++ ob_wM t am (mn + 1) (upd ms mn x1) (upd mf mn x2) (upd mt mn x3) (upd mp mn x4) ++ ob_wU t au ov) := ob_dXMU hD
    generalize H1 = H at hP hS ⊢
    refine lv_i2l (v := r9.toInt64) hx hb dL_measure_12 rfl ?_
    refine ob_last hx hb hK hP hD hS 6 1 rfl rfl (show 0 < 1 by decide) (by decide) dL_measure_13 (fun H locs hP hD hS => ?_)
    have hP : va_P D vwCl (ob_wX ax ao al am ac ++ ob_wM t am (mn + 1) (upd ms mn x1) (upd mf mn x2) (upd mt mn x3) (upd mp mn x4) ++ ob_wU t au (vp_updL ov 0 r9.toInt64)) H := hP
    refine lv_goto (tgt := 25) hx hb dL_measure_14 (by decide) ?_
    refine lv_iconst (v := nI 0) hx hb dL_measure_25 (by decide) ?_
    exact vx_ret (W.iret (v := nI 0) hx hb hr (fun t9 ht hW => ⟨⟨nI 0, r9, rfl, ⟨(by rw [hz0]), fun _ => hp9⟩, ob_th ht (by simp only [hz0, if_true]; exact hP)⟩, hS.F ht⟩) hS.2.2 dL_measure_26)

set_option maxRecDepth 100000 in
set_option maxHeartbeats 8000000 in
theorem c_L_impact (l : Launch) (hl9 : l.stackTraces = false) (sa : Nat → Nat) (D : va_G) (t : Nat → ClassId) (sz : Nat) (ax : Nat) (ao al am ac : Nat → Nat) (mn : Nat) (ms mf mt mp : Nat → Int32) (x : Int32) (au : Nat) (ov : Nat → Int64) (zx : Nat) (hmn : mn ≤ 40) (hzx : ob_z1 (ob_wi x (nI 0) (nI 5)) = zx) : vx_Met l yL_impact wsL_impact ({ frames := 7, cells := 1, slots := 6, locals := 103 } : Room) (ob_Py D t (ob_wX ax ao al am ac ++ ob_wM t am mn ms mf mt mp ++ ob_wU t au ov) sz sa [.ref ax, .int x, .ref au]) (va_Qi (fun (r : Int32) (u : Int32) => r = nI zx ∧ (zx = 0 → (u = ((ob_sw ms mf mt mp mn x (2 * mn + 1)).1)))) (fun (u : Int32) (t9 : State) => va_P D vwCl (ob_wX ax ao al am ac ++ ob_wM t am mn ms mf mt mp ++ ob_wU t au (if zx = 0 then vp_updL ov 0 u.toInt64 else ov)) t9.heap) (va_A (ob_wX ax ao al am ac ++ ob_wM t am mn ms mf mt mp ++ ob_wU t au ov) sz)) (fun _ _ _ => False) 1 6 (va_A (ob_wX ax ao al am ac ++ ob_wM t am mn ms mf mt mp ++ ob_wU t au ov) sz) := by
  refine vx_ofWH (cc := cL_impact) (maxL := 4) (ret := (some .int)) (hh := [(0, 9, 12, 13)]) (by decide) rfl ?_
  intro p e s m args below meth c s₁ B hml hv
  obtain ⟨rfl, hsz, hP, hk, hD0, hE, hN⟩ := hv
  have hx := B.exec
  have hb := B.bytes
  have hr := B.returns
  have hts := atoms_spec (ws := wsL_impact) B.pre
  have hown : s.vm.findClass RL = some m.cls := findClass_of_methodNamed B.named
  have hlocks := B.notSynchronized
  have hK := hk.1
  have htab := vx_table (x := yL_impact) B (hts (Cond.codeWith yL_impact cL_impact 4 (some .int) [(0, 9, 12, 13)]) (List.mem_of_getElem? (i := 0) rfl))
  have hD : va_D (va_A (ob_wX ax ao al am ac ++ ob_wM t am mn ms mf mt mp ++ ob_wU t au ov) sz) (ob_wX ax ao al am ac ++ ob_wM t am mn ms mf mt mp ++ ob_wU t au ov) := hD0.self (sz := sz)
  have hA : ∀ q : Nat, s.heap.size ≤ q → (va_A (ob_wX ax ao al am ac ++ ob_wM t am mn ms mf mt mp ++ ob_wU t au ov) sz) q := fun q h => Or.inr (hsz ▸ h)
  have hS : va_S (va_A (ob_wX ax ao al am ac ++ ob_wM t am mn ms mf mt mp ++ ob_wU t au ov) sz) s.heap s.heap [] := va_S.rf
  have hl := lv_entry [.ref ax, .int x, .ref au] (n := 4) (Nat.le_of_ble_eq_true rfl)
  rw [lg_entry_eq]
  generalize (lg_sl [.ref ax, .int x, .ref au] ++ List.replicate (4 - (lg_sl [.ref ax, .int x, .ref au]).length) Slot.unset).toArray = ls at hl ⊢
  have hl : lv_has ls 4 [(0, .ref ax), (1, .int x), (2, .ref au)] := hl
  have hP : va_P D vwCl (ob_wX ax ao al am ac ++ ob_wM t am mn ms mf mt mp ++ ob_wU t au ov) s.heap := hP
  refine lv_aload_n hx hb dL_impact_0 rfl (lv_at hl 2 rfl) ?_
  refine lv_iconst (v := nI 0) hx hb dL_impact_1 (by decide) ?_
  refine lv_aload_n hx hb dL_impact_2 rfl (lv_at hl 0 rfl) ?_
  refine lv_iload_n hx hb dL_impact_3 rfl (lv_at hl 1 rfl) ?_
  have hFc := va_free (wc := ob_wX ax ao al am ac ++ ob_wM t am mn ms mf mt mp) hD hS hA [0, 1, 2, 3, 4, 5] rfl
  refine vx_calli (vx_runV (As := [.int x]) (rest := [.int (nI 0), .ref au]) ⟨hx, hb, hml, hown, hts⟩ (c_X4_impact l hl9 sa D t s.heap.size ax ao al am ac mn ms mf mt mp x hmn) (cwV 1 hts gL_impact_X4_impact rfl rfl rfl (by decide +kernel) ⟨Nat.le_of_ble_eq_true rfl, Nat.le_of_ble_eq_true rfl⟩) (ob_pxV (ci := 4) (q0 := 0) (hP.sub [0, 1, 2, 3, 4, 5] rfl) (hD.sub [0, 1, 2, 3, 4, 5] (by decide) rfl) hk hE rfl rfl) rfl rfl hl.1 rfl (lv_room (Nat.le_of_ble_eq_true rfl)) dL_impact_4 ⟨Nat.le_of_ble_eq_true rfl, Nat.le_of_ble_eq_true rfl⟩) hS (fun q _ h => hFc q h) hFc (fun _ _ h => h.elim) (fun E9 ce9 q9 u9 t9 H1 locs ht hvm hpx hBX hz1 hk1 hS hce hcv hcl => ?_) (fun r9 u9 t9 H1 locs ht hvm hw9 hB hz1 hk1 hS => ?_)
  · obtain ⟨i9, hz9, hi9⟩ := hBX
    have hne : ¬ zx = 0 := by rw [← hzx, hz9]; exact Nat.succ_ne_zero _
    have hP := hP.kept (fun k q h => hk1 q.1 (hP k q h).lt id)
    rcases i9 with _ | i9
    · cases hi9
      refine vx_catch (own := RL) (name := "java/lang/IllegalArgumentException") hown [] ⟨0, 9, 12, 13⟩ [] (by rw [htab]; rfl) (fun z h => absurd h List.not_mem_nil) rfl (by decide) (hts (Cond.classLink RL 13 "java/lang/IllegalArgumentException") (List.mem_of_getElem? (i := 1) rfl)) (va_Nw.use rfl hE.2.2.1) hce hcv hcl ?_
      refine lv_astore_n (lv' := [(3, .ref q9), (0, .ref ax), (1, .int x), (2, .ref au)]) hx hb dL_impact_12 rfl hl (by decide) rfl (fun ls hl => ?_)
      refine lv_iconst (v := nI 1) hx hb dL_impact_13 (by decide) ?_
      exact vx_ret (W.iret (v := nI 1) hx hb hr (fun t9 ht hW => ⟨⟨nI 1, 0, rfl, ⟨(by rw [← hzx, hz9]), fun h => absurd h hne⟩, ob_th ht (by simp only [hne, if_false]; exact hP)⟩, hS.F ht⟩) hS.2.2 dL_impact_14)
    · cases hi9
  · rw [ht] at hB
    obtain ⟨hz9, hp9⟩ := hw9
    have hz0 : zx = 0 := hzx.symm.trans hz9
    have hP := ob_jn (ws' := ob_wX ax ao al am ac ++ ob_wM t am mn ms mf mt mp ++ ob_wU t au ov) hP hD [some 0, some 1, some 2, some 3, some 4, some 5, none] [0, 1, 2, 3, 4, 5] rfl rfl hk1 hB rfl
    have hD : va_D (va_A (ob_wX ax ao al am ac ++ ob_wM t am mn ms mf mt mp ++ ob_wU t au ov) sz) (ob_wX ax ao al am ac ++ ob_wM t am mn ms mf mt mp ++ ob_wU t au ov) := ob_dXMU hD
    generalize H1 = H at hP hS ⊢
    refine lv_i2l (v := r9.toInt64) hx hb dL_impact_7 rfl ?_
    refine ob_last hx hb hK hP hD hS 6 1 rfl rfl (show 0 < 1 by decide) (by decide) dL_impact_8 (fun H locs hP hD hS => ?_)
    have hP : va_P D vwCl (ob_wX ax ao al am ac ++ ob_wM t am mn ms mf mt mp ++ ob_wU t au (vp_updL ov 0 r9.toInt64)) H := hP
    refine lv_goto (tgt := 15) hx hb dL_impact_9 (by decide) ?_
    refine lv_iconst (v := nI 0) hx hb dL_impact_15 (by decide) ?_
    exact vx_ret (W.iret (v := nI 0) hx hb hr (fun t9 ht hW => ⟨⟨nI 0, r9, rfl, ⟨(by rw [hz0]), fun _ => hp9⟩, ob_th ht (by simp only [hz0, if_true]; exact hP)⟩, hS.F ht⟩) hS.2.2 dL_impact_16)

set_option maxRecDepth 100000 in
set_option maxHeartbeats 8000000 in
theorem c_L_addCause (l : Launch) (hl9 : l.stackTraces = false) (sa : Nat → Nat) (D : va_G) (t : Nat → ClassId) (sz : Nat) (ax : Nat) (ao al am ac : Nat → Nat) (cn : Nat) (st : Int32) (Wt : Nat → Nat → Int32) (au : Nat) (ov : Nat → Int64) (zx : Nat) (hcn : cn ≤ 16) (hzx : ob_z1 (decide (cn < 16)) = zx) : vx_Met l yL_addCause wsL_addCause ({ frames := 7, cells := 1, slots := 6, locals := 102 } : Room) (ob_Py D t (ob_wX ax ao al am ac ++ ob_wC t ac cn st Wt ++ ob_wU t au ov) sz sa [.ref ax, .ref au]) (va_Qi (fun (r : Int32) (u : Int32) => r = nI zx ∧ (zx = 0 → (u = (nI cn)))) (fun (u : Int32) (t9 : State) => va_P D vwCl (ob_wX ax ao al am ac ++ ob_wC t ac (if zx = 0 then cn + 1 else cn) (if zx = 0 then st ||| ob_bit (nI cn) else st) Wt ++ ob_wU t au (if zx = 0 then vp_updL ov 0 u.toInt64 else ov)) t9.heap) (va_A (ob_wX ax ao al am ac ++ ob_wC t ac cn st Wt ++ ob_wU t au ov) sz)) (fun _ _ _ => False) 1 6 (va_A (ob_wX ax ao al am ac ++ ob_wC t ac cn st Wt ++ ob_wU t au ov) sz) := by
  refine vx_ofWH (cc := cL_addCause) (maxL := 3) (ret := (some .int)) (hh := [(0, 8, 11, 15)]) (by decide) rfl ?_
  intro p e s m args below meth c s₁ B hml hv
  obtain ⟨rfl, hsz, hP, hk, hD0, hE, hN⟩ := hv
  have hx := B.exec
  have hb := B.bytes
  have hr := B.returns
  have hts := atoms_spec (ws := wsL_addCause) B.pre
  have hown : s.vm.findClass RL = some m.cls := findClass_of_methodNamed B.named
  have hlocks := B.notSynchronized
  have hK := hk.1
  have htab := vx_table (x := yL_addCause) B (hts (Cond.codeWith yL_addCause cL_addCause 3 (some .int) [(0, 8, 11, 15)]) (List.mem_of_getElem? (i := 0) rfl))
  have hD : va_D (va_A (ob_wX ax ao al am ac ++ ob_wC t ac cn st Wt ++ ob_wU t au ov) sz) (ob_wX ax ao al am ac ++ ob_wC t ac cn st Wt ++ ob_wU t au ov) := hD0.self (sz := sz)
  have hA : ∀ q : Nat, s.heap.size ≤ q → (va_A (ob_wX ax ao al am ac ++ ob_wC t ac cn st Wt ++ ob_wU t au ov) sz) q := fun q h => Or.inr (hsz ▸ h)
  have hS : va_S (va_A (ob_wX ax ao al am ac ++ ob_wC t ac cn st Wt ++ ob_wU t au ov) sz) s.heap s.heap [] := va_S.rf
  have hl := lv_entry [.ref ax, .ref au] (n := 3) (Nat.le_of_ble_eq_true rfl)
  rw [lg_entry_eq]
  generalize (lg_sl [.ref ax, .ref au] ++ List.replicate (3 - (lg_sl [.ref ax, .ref au]).length) Slot.unset).toArray = ls at hl ⊢
  have hl : lv_has ls 3 [(0, .ref ax), (1, .ref au)] := hl
  have hP : va_P D vwCl (ob_wX ax ao al am ac ++ ob_wC t ac cn st Wt ++ ob_wU t au ov) s.heap := hP
  refine lv_aload_n hx hb dL_addCause_0 rfl (lv_at hl 1 rfl) ?_
  refine lv_iconst (v := nI 0) hx hb dL_addCause_1 (by decide) ?_
  refine lv_aload_n hx hb dL_addCause_2 rfl (lv_at hl 0 rfl) ?_
  have hFc := va_free (wc := ob_wX ax ao al am ac ++ ob_wC t ac cn st Wt) hD hS hA [0, 1, 2, 3, 4, 5, 6, 7, 8, 9, 10, 11, 12, 13, 14, 15, 16, 17, 18] rfl
  refine vx_calli (vx_runV (As := []) (rest := [.int (nI 0), .ref au]) ⟨hx, hb, hml, hown, hts⟩ (c_X4_addCause l hl9 sa D t s.heap.size ax ao al am ac cn st Wt hcn) (cwV 0 hts gL_addCause_X4_addCause rfl rfl rfl (by decide +kernel) ⟨Nat.le_of_ble_eq_true rfl, Nat.le_of_ble_eq_true rfl⟩) (ob_pxV (ci := 4) (q0 := 0) (hP.sub [0, 1, 2, 3, 4, 5, 6, 7, 8, 9, 10, 11, 12, 13, 14, 15, 16, 17, 18] rfl) (hD.sub [0, 1, 2, 3, 4, 5, 6, 7, 8, 9, 10, 11, 12, 13, 14, 15, 16, 17, 18] (by decide) rfl) hk hE rfl rfl) rfl rfl hl.1 rfl (lv_room (Nat.le_of_ble_eq_true rfl)) dL_addCause_3 ⟨Nat.le_of_ble_eq_true rfl, Nat.le_of_ble_eq_true rfl⟩) hS (fun q _ h => hFc q h) hFc (fun _ _ h => h.elim) (fun E9 ce9 q9 u9 t9 H1 locs ht hvm hpx hBX hz1 hk1 hS hce hcv hcl => ?_) (fun r9 u9 t9 H1 locs ht hvm hw9 hB hz1 hk1 hS => ?_)
  · obtain ⟨i9, hz9, hi9⟩ := hBX
    have hne : ¬ zx = 0 := by rw [← hzx, hz9]; exact Nat.succ_ne_zero _
    have hP := hP.kept (fun k q h => hk1 q.1 (hP k q h).lt id)
    rcases i9 with _ | i9
    · cases hi9
      refine vx_catch (own := RL) (name := "java/lang/IllegalStateException") hown [] ⟨0, 8, 11, 15⟩ [] (by rw [htab]; rfl) (fun z h => absurd h List.not_mem_nil) rfl (by decide) (hts (Cond.classLink RL 15 "java/lang/IllegalStateException") (List.mem_of_getElem? (i := 1) rfl)) (va_Nw.use rfl hE.2.2.2.1) hce hcv hcl ?_
      refine lv_astore_n (lv' := [(2, .ref q9), (0, .ref ax), (1, .ref au)]) hx hb dL_addCause_11 rfl hl (by decide) rfl (fun ls hl => ?_)
      refine lv_iconst (v := nI 1) hx hb dL_addCause_12 (by decide) ?_
      exact vx_ret (W.iret (v := nI 1) hx hb hr (fun t9 ht hW => ⟨⟨nI 1, 0, rfl, ⟨(by rw [← hzx, hz9]), fun h => absurd h hne⟩, ob_th ht (by simp only [hne, if_false]; exact hP)⟩, hS.F ht⟩) hS.2.2 dL_addCause_13)
    · cases hi9
  · rw [ht] at hB
    obtain ⟨hz9, hp9⟩ := hw9
    have hz0 : zx = 0 := hzx.symm.trans hz9
    have hP := ob_jn (ws' := ob_wX ax ao al am ac ++ ob_wC t ac (cn + 1) (st ||| ob_bit (nI cn)) Wt ++ ob_wU t au ov) hP hD [some 0, some 1, some 2, some 3, some 4, some 5, some 6, some 7, some 8, some 9, some 10, some 11, some 12, some 13, some 14, some 15, some 16, some 17, some 18, none] [0, 1, 2, 3, 4, 5, 6, 7, 8, 9, 10, 11, 12, 13, 14, 15, 16, 17, 18] rfl rfl hk1 hB rfl
    have hD : va_D (va_A (ob_wX ax ao al am ac ++ ob_wC t ac cn st Wt ++ ob_wU t au ov) sz) (ob_wX ax ao al am ac ++ ob_wC t ac (cn + 1) (st ||| ob_bit (nI cn)) Wt ++ ob_wU t au ov) := ob_dXCU hD
    generalize H1 = H at hP hS ⊢
    refine lv_i2l (v := r9.toInt64) hx hb dL_addCause_6 rfl ?_
    refine ob_last hx hb hK hP hD hS 19 1 rfl rfl (show 0 < 1 by decide) (by decide) dL_addCause_7 (fun H locs hP hD hS => ?_)
    have hP : va_P D vwCl (ob_wX ax ao al am ac ++ ob_wC t ac (cn + 1) (st ||| ob_bit (nI cn)) Wt ++ ob_wU t au (vp_updL ov 0 r9.toInt64)) H := hP
    refine lv_goto (tgt := 14) hx hb dL_addCause_8 (by decide) ?_
    refine lv_iconst (v := nI 0) hx hb dL_addCause_14 (by decide) ?_
    exact vx_ret (W.iret (v := nI 0) hx hb hr (fun t9 ht hW => ⟨⟨nI 0, r9, rfl, ⟨(by rw [hz0]), fun _ => hp9⟩, ob_th ht (by simp only [hz0, if_true]; exact hP)⟩, hS.F ht⟩) hS.2.2 dL_addCause_15)

set_option maxRecDepth 100000 in
set_option maxHeartbeats 8000000 in
theorem c_L_argueReason (l : Launch) (hl9 : l.stackTraces = false) (sa : Nat → Nat) (D : va_G) (t : Nat → ClassId) (sz : Nat) (ax : Nat) (ao al am ac : Nat → Nat) (cn : Nat) (st : Int32) (Wt : Nat → Nat → Int32) (x1 x2 x3 : Int32) (au : Nat) (ov : Nat → Int64) (zx : Nat) (hcn : cn ≤ 16) (hzx : ob_z4 (ob_hd cn x1 && ob_hd cn x2) (!decide (x1 = x2) && ob_wi x3 (nI 0) (nI 100)) ((!decide (x3 ≤ 0)) && ob_hb (ob_rcO Wt cn (ob_bit (nI cn) - nI 1) x2 cn) x1) = zx) : vx_Met l yL_argueReason wsL_argueReason ({ frames := 7, cells := 1, slots := 6, locals := 136 } : Room) (ob_Py D t (ob_wX ax ao al am ac ++ ob_wC t ac cn st Wt ++ ob_wU t au ov) sz sa [.ref ax, .int x1, .int x2, .int x3, .ref au]) (va_Qi (fun (r : Int32) (u : Int32) => r = nI zx ∧ (zx = 0 → (u = (Wt x1.toNatClampNeg x2.toNatClampNeg)))) (fun (u : Int32) (t9 : State) => va_P D vwCl (ob_wX ax ao al am ac ++ ob_wC t ac cn st (if zx = 0 then ob_up2 Wt x1.toNatClampNeg x2.toNatClampNeg x3 else Wt) ++ ob_wU t au (if zx = 0 then vp_updL ov 0 u.toInt64 else ov)) t9.heap) (va_A (ob_wX ax ao al am ac ++ ob_wC t ac cn st Wt ++ ob_wU t au ov) sz)) (fun _ _ _ => False) 1 6 (va_A (ob_wX ax ao al am ac ++ ob_wC t ac cn st Wt ++ ob_wU t au ov) sz) := by
  refine vx_ofWH (cc := cL_argueReason) (maxL := 6) (ret := (some .int)) (hh := [(0, 12, 15, 29), (0, 12, 19, 13), (0, 12, 23, 15)]) (by decide) rfl ?_
  intro p e s m args below meth c s₁ B hml hv
  obtain ⟨rfl, hsz, hP, hk, hD0, hE, hN⟩ := hv
  have hx := B.exec
  have hb := B.bytes
  have hr := B.returns
  have hts := atoms_spec (ws := wsL_argueReason) B.pre
  have hown : s.vm.findClass RL = some m.cls := findClass_of_methodNamed B.named
  have hlocks := B.notSynchronized
  have hK := hk.1
  have htab := vx_table (x := yL_argueReason) B (hts (Cond.codeWith yL_argueReason cL_argueReason 6 (some .int) [(0, 12, 15, 29), (0, 12, 19, 13), (0, 12, 23, 15)]) (List.mem_of_getElem? (i := 0) rfl))
  have hD : va_D (va_A (ob_wX ax ao al am ac ++ ob_wC t ac cn st Wt ++ ob_wU t au ov) sz) (ob_wX ax ao al am ac ++ ob_wC t ac cn st Wt ++ ob_wU t au ov) := hD0.self (sz := sz)
  have hA : ∀ q : Nat, s.heap.size ≤ q → (va_A (ob_wX ax ao al am ac ++ ob_wC t ac cn st Wt ++ ob_wU t au ov) sz) q := fun q h => Or.inr (hsz ▸ h)
  have hS : va_S (va_A (ob_wX ax ao al am ac ++ ob_wC t ac cn st Wt ++ ob_wU t au ov) sz) s.heap s.heap [] := va_S.rf
  have hl := lv_entry [.ref ax, .int x1, .int x2, .int x3, .ref au] (n := 6) (Nat.le_of_ble_eq_true rfl)
  rw [lg_entry_eq]
  generalize (lg_sl [.ref ax, .int x1, .int x2, .int x3, .ref au] ++ List.replicate (6 - (lg_sl [.ref ax, .int x1, .int x2, .int x3, .ref au]).length) Slot.unset).toArray = ls at hl ⊢
  have hl : lv_has ls 6 [(0, .ref ax), (1, .int x1), (2, .int x2), (3, .int x3), (4, .ref au)] := hl
  have hP : va_P D vwCl (ob_wX ax ao al am ac ++ ob_wC t ac cn st Wt ++ ob_wU t au ov) s.heap := hP
  refine lv_aload hx hb dL_argueReason_0 (lv_at hl 4 rfl) ?_
  refine lv_iconst (v := nI 0) hx hb dL_argueReason_2 (by decide) ?_
  refine lv_aload_n hx hb dL_argueReason_3 rfl (lv_at hl 0 rfl) ?_
  refine lv_iload_n hx hb dL_argueReason_4 rfl (lv_at hl 1 rfl) ?_
  refine lv_iload_n hx hb dL_argueReason_5 rfl (lv_at hl 2 rfl) ?_
  refine lv_iload_n hx hb dL_argueReason_6 rfl (lv_at hl 3 rfl) ?_
  have hFc := va_free (wc := ob_wX ax ao al am ac ++ ob_wC t ac cn st Wt) hD hS hA [0, 1, 2, 3, 4, 5, 6, 7, 8, 9, 10, 11, 12, 13, 14, 15, 16, 17, 18] rfl
  refine vx_calli (vx_runV (As := [.int x1, .int x2, .int x3]) (rest := [.int (nI 0), .ref au]) ⟨hx, hb, hml, hown, hts⟩ (c_X4_argueReason l hl9 sa D t s.heap.size ax ao al am ac cn st Wt x1 x2 x3 hcn) (cwV 3 hts gL_argueReason_X4_argueReason rfl rfl rfl (by decide +kernel) ⟨Nat.le_of_ble_eq_true rfl, Nat.le_of_ble_eq_true rfl⟩) (ob_pxV (ci := 4) (q0 := 0) (hP.sub [0, 1, 2, 3, 4, 5, 6, 7, 8, 9, 10, 11, 12, 13, 14, 15, 16, 17, 18] rfl) (hD.sub [0, 1, 2, 3, 4, 5, 6, 7, 8, 9, 10, 11, 12, 13, 14, 15, 16, 17, 18] (by decide) rfl) hk hE rfl rfl) rfl rfl hl.1 rfl (lv_room (Nat.le_of_ble_eq_true rfl)) dL_argueReason_7 ⟨Nat.le_of_ble_eq_true rfl, Nat.le_of_ble_eq_true rfl⟩) hS (fun q _ h => hFc q h) hFc (fun _ _ h => h.elim) (fun E9 ce9 q9 u9 t9 H1 locs ht hvm hpx hBX hz1 hk1 hS hce hcv hcl => ?_) (fun r9 u9 t9 H1 locs ht hvm hw9 hB hz1 hk1 hS => ?_)
  · obtain ⟨i9, hz9, hi9⟩ := hBX
    have hne : ¬ zx = 0 := by rw [← hzx, hz9]; exact Nat.succ_ne_zero _
    have hP := hP.kept (fun k q h => hk1 q.1 (hP k q h).lt id)
    rcases i9 with _ | i9
    · cases hi9
      refine vx_catch (own := RL) (name := "java/lang/IndexOutOfBoundsException") hown [] ⟨0, 12, 15, 29⟩ [⟨0, 12, 19, 13⟩, ⟨0, 12, 23, 15⟩] (by rw [htab]; rfl) (fun z h => absurd h List.not_mem_nil) rfl (by decide) (hts (Cond.classLink RL 29 "java/lang/IndexOutOfBoundsException") (List.mem_of_getElem? (i := 1) rfl)) (va_Nw.use rfl hE.2.2.2.2.1) hce hcv hcl ?_
      refine lv_astore (lv' := [(5, .ref q9), (0, .ref ax), (1, .int x1), (2, .int x2), (3, .int x3), (4, .ref au)]) hx hb dL_argueReason_15 hl (by decide) rfl (fun ls hl => ?_)
      refine lv_iconst (v := nI 1) hx hb dL_argueReason_17 (by decide) ?_
      exact vx_ret (W.iret (v := nI 1) hx hb hr (fun t9 ht hW => ⟨⟨nI 1, 0, rfl, ⟨(by rw [← hzx, hz9]), fun h => absurd h hne⟩, ob_th ht (by simp only [hne, if_false]; exact hP)⟩, hS.F ht⟩) hS.2.2 dL_argueReason_18)
    rcases i9 with _ | i9
    · cases hi9
      refine vx_catch (own := RL) (name := "java/lang/IllegalArgumentException") hown [⟨0, 12, 15, 29⟩] ⟨0, 12, 19, 13⟩ [⟨0, 12, 23, 15⟩] (by rw [htab]; rfl) (List.forall_mem_cons.mpr ⟨Or.inr ⟨(by decide), "java/lang/IndexOutOfBoundsException", (hts (Cond.classLink RL 29 "java/lang/IndexOutOfBoundsException") (List.mem_of_getElem? (i := 1) rfl)), hN.2.1⟩, (fun z h => absurd h List.not_mem_nil)⟩) rfl (by decide) (hts (Cond.classLink RL 13 "java/lang/IllegalArgumentException") (List.mem_of_getElem? (i := 2) rfl)) (va_Nw.use rfl hE.2.2.1) hce hcv hcl ?_
      refine lv_astore (lv' := [(5, .ref q9), (0, .ref ax), (1, .int x1), (2, .int x2), (3, .int x3), (4, .ref au)]) hx hb dL_argueReason_19 hl (by decide) rfl (fun ls hl => ?_)
      refine lv_iconst (v := nI 2) hx hb dL_argueReason_21 (by decide) ?_
      exact vx_ret (W.iret (v := nI 2) hx hb hr (fun t9 ht hW => ⟨⟨nI 2, 0, rfl, ⟨(by rw [← hzx, hz9]), fun h => absurd h hne⟩, ob_th ht (by simp only [hne, if_false]; exact hP)⟩, hS.F ht⟩) hS.2.2 dL_argueReason_22)
    rcases i9 with _ | i9
    · cases hi9
      refine vx_catch (own := RL) (name := "java/lang/IllegalStateException") hown [⟨0, 12, 15, 29⟩, ⟨0, 12, 19, 13⟩] ⟨0, 12, 23, 15⟩ [] (by rw [htab]; rfl) (List.forall_mem_cons.mpr ⟨Or.inr ⟨(by decide), "java/lang/IndexOutOfBoundsException", (hts (Cond.classLink RL 29 "java/lang/IndexOutOfBoundsException") (List.mem_of_getElem? (i := 1) rfl)), hN.2.2⟩, (List.forall_mem_cons.mpr ⟨Or.inr ⟨(by decide), "java/lang/IllegalArgumentException", (hts (Cond.classLink RL 13 "java/lang/IllegalArgumentException") (List.mem_of_getElem? (i := 2) rfl)), hN.1⟩, (fun z h => absurd h List.not_mem_nil)⟩)⟩) rfl (by decide) (hts (Cond.classLink RL 15 "java/lang/IllegalStateException") (List.mem_of_getElem? (i := 3) rfl)) (va_Nw.use rfl hE.2.2.2.1) hce hcv hcl ?_
      refine lv_astore (lv' := [(5, .ref q9), (0, .ref ax), (1, .int x1), (2, .int x2), (3, .int x3), (4, .ref au)]) hx hb dL_argueReason_23 hl (by decide) rfl (fun ls hl => ?_)
      refine lv_iconst (v := nI 3) hx hb dL_argueReason_25 (by decide) ?_
      exact vx_ret (W.iret (v := nI 3) hx hb hr (fun t9 ht hW => ⟨⟨nI 3, 0, rfl, ⟨(by rw [← hzx, hz9]), fun h => absurd h hne⟩, ob_th ht (by simp only [hne, if_false]; exact hP)⟩, hS.F ht⟩) hS.2.2 dL_argueReason_26)
    · cases hi9
  · rw [ht] at hB
    obtain ⟨hz9, hp9⟩ := hw9
    have hz0 : zx = 0 := hzx.symm.trans hz9
    have hP := ob_jn (ws' := ob_wX ax ao al am ac ++ ob_wC t ac cn st (ob_up2 Wt x1.toNatClampNeg x2.toNatClampNeg x3) ++ ob_wU t au ov) hP hD [some 0, some 1, some 2, some 3, some 4, some 5, some 6, some 7, some 8, some 9, some 10, some 11, some 12, some 13, some 14, some 15, some 16, some 17, some 18, none] [0, 1, 2, 3, 4, 5, 6, 7, 8, 9, 10, 11, 12, 13, 14, 15, 16, 17, 18] rfl rfl hk1 hB rfl
    have hD : va_D (va_A (ob_wX ax ao al am ac ++ ob_wC t ac cn st Wt ++ ob_wU t au ov) sz) (ob_wX ax ao al am ac ++ ob_wC t ac cn st (ob_up2 Wt x1.toNatClampNeg x2.toNatClampNeg x3) ++ ob_wU t au ov) := ob_dXCU hD
    generalize H1 = H at hP hS ⊢
    refine lv_i2l (v := r9.toInt64) hx hb dL_argueReason_10 rfl ?_
    refine ob_last hx hb hK hP hD hS 19 1 rfl rfl (show 0 < 1 by decide) (by decide) dL_argueReason_11 (fun H locs hP hD hS => ?_)
    have hP : va_P D vwCl (ob_wX ax ao al am ac ++ ob_wC t ac cn st (ob_up2 Wt x1.toNatClampNeg x2.toNatClampNeg x3) ++ ob_wU t au (vp_updL ov 0 r9.toInt64)) H := hP
    refine lv_goto (tgt := 27) hx hb dL_argueReason_12 (by decide) ?_
    refine lv_iconst (v := nI 0) hx hb dL_argueReason_27 (by decide) ?_
    exact vx_ret (W.iret (v := nI 0) hx hb hr (fun t9 ht hW => ⟨⟨nI 0, r9, rfl, ⟨(by rw [hz0]), fun _ => hp9⟩, ob_th ht (by simp only [hz0, if_true]; exact hP)⟩, hS.F ht⟩) hS.2.2 dL_argueReason_28)

set_option maxRecDepth 100000 in
set_option maxHeartbeats 8000000 in
theorem c_L_setStanding (l : Launch) (hl9 : l.stackTraces = false) (sa : Nat → Nat) (D : va_G) (t : Nat → ClassId) (sz : Nat) (ax : Nat) (ao al am ac : Nat → Nat) (cn : Nat) (st : Int32) (Wt : Nat → Nat → Int32) (x : Int32) (b2 : Bool) (au : Nat) (ov : Nat → Int64) (zx : Nat) (hcn : cn ≤ 16) (hzx : ob_z1 (ob_hd cn x) = zx) : vx_Met l yL_setStanding wsL_setStanding ({ frames := 7, cells := 1, slots := 6, locals := 104 } : Room) (ob_Py D t (ob_wX ax ao al am ac ++ ob_wC t ac cn st Wt ++ ob_wU t au ov) sz sa [.ref ax, .int x, .int (ob_bi b2), .ref au]) (va_Qi (fun (r : Int32) (u : Bool) => r = nI zx ∧ (zx = 0 → (u = (ob_hb st x)))) (fun (u : Bool) (t9 : State) => va_P D vwCl (ob_wX ax ao al am ac ++ ob_wC t ac cn (if zx = 0 then if b2 then st ||| ob_bit x else st &&& (ob_bit x ^^^ (-1)) else st) Wt ++ ob_wU t au (if zx = 0 then vp_updL ov 0 (if u then lN 1 else lN 0) else ov)) t9.heap) (va_A (ob_wX ax ao al am ac ++ ob_wC t ac cn st Wt ++ ob_wU t au ov) sz)) (fun _ _ _ => False) 1 6 (va_A (ob_wX ax ao al am ac ++ ob_wC t ac cn st Wt ++ ob_wU t au ov) sz) := by
  refine vx_ofWH (cc := cL_setStanding) (maxL := 5) (ret := (some .int)) (hh := [(0, 17, 20, 29)]) (by decide) rfl ?_
  intro p e s m args below meth c s₁ B hml hv
  obtain ⟨rfl, hsz, hP, hk, hD0, hE, hN⟩ := hv
  have hx := B.exec
  have hb := B.bytes
  have hr := B.returns
  have hts := atoms_spec (ws := wsL_setStanding) B.pre
  have hown : s.vm.findClass RL = some m.cls := findClass_of_methodNamed B.named
  have hlocks := B.notSynchronized
  have hK := hk.1
  have htab := vx_table (x := yL_setStanding) B (hts (Cond.codeWith yL_setStanding cL_setStanding 5 (some .int) [(0, 17, 20, 29)]) (List.mem_of_getElem? (i := 0) rfl))
  have hD : va_D (va_A (ob_wX ax ao al am ac ++ ob_wC t ac cn st Wt ++ ob_wU t au ov) sz) (ob_wX ax ao al am ac ++ ob_wC t ac cn st Wt ++ ob_wU t au ov) := hD0.self (sz := sz)
  have hA : ∀ q : Nat, s.heap.size ≤ q → (va_A (ob_wX ax ao al am ac ++ ob_wC t ac cn st Wt ++ ob_wU t au ov) sz) q := fun q h => Or.inr (hsz ▸ h)
  have hS : va_S (va_A (ob_wX ax ao al am ac ++ ob_wC t ac cn st Wt ++ ob_wU t au ov) sz) s.heap s.heap [] := va_S.rf
  have hl := lv_entry [.ref ax, .int x, .int (ob_bi b2), .ref au] (n := 5) (Nat.le_of_ble_eq_true rfl)
  rw [lg_entry_eq]
  generalize (lg_sl [.ref ax, .int x, .int (ob_bi b2), .ref au] ++ List.replicate (5 - (lg_sl [.ref ax, .int x, .int (ob_bi b2), .ref au]).length) Slot.unset).toArray = ls at hl ⊢
  have hl : lv_has ls 5 [(0, .ref ax), (1, .int x), (2, .int (ob_bi b2)), (3, .ref au)] := hl
  have hP : va_P D vwCl (ob_wX ax ao al am ac ++ ob_wC t ac cn st Wt ++ ob_wU t au ov) s.heap := hP
  refine lv_aload_n hx hb dL_setStanding_0 rfl (lv_at hl 3 rfl) ?_
  refine lv_iconst (v := nI 0) hx hb dL_setStanding_1 (by decide) ?_
  refine lv_aload_n hx hb dL_setStanding_2 rfl (lv_at hl 0 rfl) ?_
  refine lv_iload_n hx hb dL_setStanding_3 rfl (lv_at hl 1 rfl) ?_
  refine lv_iload_n hx hb dL_setStanding_4 rfl (lv_at hl 2 rfl) ?_
  have hFc := va_free (wc := ob_wX ax ao al am ac ++ ob_wC t ac cn st Wt) hD hS hA [0, 1, 2, 3, 4, 5, 6, 7, 8, 9, 10, 11, 12, 13, 14, 15, 16, 17, 18] rfl
  refine vx_calli (vx_runV (As := [.int x, .int (ob_bi b2)]) (rest := [.int (nI 0), .ref au]) ⟨hx, hb, hml, hown, hts⟩ (c_X4_setStanding l hl9 sa D t s.heap.size ax ao al am ac cn st Wt x b2 hcn) (cwV 2 hts gL_setStanding_X4_setStanding rfl rfl rfl (by decide +kernel) ⟨Nat.le_of_ble_eq_true rfl, Nat.le_of_ble_eq_true rfl⟩) (ob_pxV (ci := 4) (q0 := 0) (hP.sub [0, 1, 2, 3, 4, 5, 6, 7, 8, 9, 10, 11, 12, 13, 14, 15, 16, 17, 18] rfl) (hD.sub [0, 1, 2, 3, 4, 5, 6, 7, 8, 9, 10, 11, 12, 13, 14, 15, 16, 17, 18] (by decide) rfl) hk hE rfl rfl) rfl rfl hl.1 rfl (lv_room (Nat.le_of_ble_eq_true rfl)) dL_setStanding_5 ⟨Nat.le_of_ble_eq_true rfl, Nat.le_of_ble_eq_true rfl⟩) hS (fun q _ h => hFc q h) hFc (fun _ _ h => h.elim) (fun E9 ce9 q9 u9 t9 H1 locs ht hvm hpx hBX hz1 hk1 hS hce hcv hcl => ?_) (fun r9 u9 t9 H1 locs ht hvm hw9 hB hz1 hk1 hS => ?_)
  · obtain ⟨i9, hz9, hi9⟩ := hBX
    have hne : ¬ zx = 0 := by rw [← hzx, hz9]; exact Nat.succ_ne_zero _
    have hP := hP.kept (fun k q h => hk1 q.1 (hP k q h).lt id)
    rcases i9 with _ | i9
    · cases hi9
      refine vx_catch (own := RL) (name := "java/lang/IndexOutOfBoundsException") hown [] ⟨0, 17, 20, 29⟩ [] (by rw [htab]; rfl) (fun z h => absurd h List.not_mem_nil) rfl (by decide) (hts (Cond.classLink RL 29 "java/lang/IndexOutOfBoundsException") (List.mem_of_getElem? (i := 1) rfl)) (va_Nw.use rfl hE.2.2.2.2.1) hce hcv hcl ?_
      refine lv_astore (lv' := [(4, .ref q9), (0, .ref ax), (1, .int x), (2, .int (ob_bi b2)), (3, .ref au)]) hx hb dL_setStanding_20 hl (by decide) rfl (fun ls hl => ?_)
      refine lv_iconst (v := nI 1) hx hb dL_setStanding_22 (by decide) ?_
      exact vx_ret (W.iret (v := nI 1) hx hb hr (fun t9 ht hW => ⟨⟨nI 1, false, rfl, ⟨(by rw [← hzx, hz9]), fun h => absurd h hne⟩, ob_th ht (by simp only [hne, if_false]; exact hP)⟩, hS.F ht⟩) hS.2.2 dL_setStanding_23)
    · cases hi9
  · rw [ht] at hB
    obtain ⟨hz9, hp9⟩ := hw9
    have hz0 : zx = 0 := hzx.symm.trans hz9
    have hP := ob_jn (ws' := ob_wX ax ao al am ac ++ ob_wC t ac cn (if b2 then st ||| ob_bit x else st &&& (ob_bit x ^^^ (-1))) Wt ++ ob_wU t au ov) hP hD [some 0, some 1, some 2, some 3, some 4, some 5, some 6, some 7, some 8, some 9, some 10, some 11, some 12, some 13, some 14, some 15, some 16, some 17, some 18, none] [0, 1, 2, 3, 4, 5, 6, 7, 8, 9, 10, 11, 12, 13, 14, 15, 16, 17, 18] rfl rfl hk1 hB rfl
    have hD : va_D (va_A (ob_wX ax ao al am ac ++ ob_wC t ac cn st Wt ++ ob_wU t au ov) sz) (ob_wX ax ao al am ac ++ ob_wC t ac cn (if b2 then st ||| ob_bit x else st &&& (ob_bit x ^^^ (-1))) Wt ++ ob_wU t au ov) := ob_dXCU hD
    generalize H1 = H at hP hS ⊢
    subst hp9
    refine ob_if_eq (tgt := 15) hx hb dL_setStanding_8 (by decide) (fun c9 => ?_) (fun c9 => ?_)
    · refine lv_lconst (v := lN 0) hx hb dL_setStanding_15 rfl ?_
      refine ob_last hx hb hK hP hD hS 19 1 rfl rfl (show 0 < 1 by decide) (by decide) dL_setStanding_16 (fun H locs hP hD hS => ?_)
      have hP : va_P D vwCl (ob_wX ax ao al am ac ++ ob_wC t ac cn (if b2 then st ||| ob_bit x else st &&& (ob_bit x ^^^ (-1))) Wt ++ ob_wU t au (vp_updL ov 0 (lN 0))) H := hP
      refine lv_goto (tgt := 24) hx hb dL_setStanding_17 (by decide) ?_
      refine lv_iconst (v := nI 0) hx hb dL_setStanding_24 (by decide) ?_
      exact vx_ret (W.iret (v := nI 0) hx hb hr (fun t9 ht hW => ⟨⟨nI 0, false, rfl, ⟨(by rw [hz0]), fun _ => c9.symm⟩, ob_th ht (by simp only [hz0, if_true]; exact hP)⟩, hS.F ht⟩) hS.2.2 dL_setStanding_25)
    · refine lv_lconst (v := lN 1) hx hb dL_setStanding_11 rfl ?_
      refine lv_goto (tgt := 16) hx hb dL_setStanding_12 (by decide) ?_
      refine ob_last hx hb hK hP hD hS 19 1 rfl rfl (show 0 < 1 by decide) (by decide) dL_setStanding_16 (fun H locs hP hD hS => ?_)
      have hP : va_P D vwCl (ob_wX ax ao al am ac ++ ob_wC t ac cn (if b2 then st ||| ob_bit x else st &&& (ob_bit x ^^^ (-1))) Wt ++ ob_wU t au (vp_updL ov 0 (lN 1))) H := hP
      refine lv_goto (tgt := 24) hx hb dL_setStanding_17 (by decide) ?_
      refine lv_iconst (v := nI 0) hx hb dL_setStanding_24 (by decide) ?_
      exact vx_ret (W.iret (v := nI 0) hx hb hr (fun t9 ht hW => ⟨⟨nI 0, true, rfl, ⟨(by rw [hz0]), fun _ => c9.symm⟩, ob_th ht (by simp only [hz0, if_true]; exact hP)⟩, hS.F ht⟩) hS.2.2 dL_setStanding_25)

set_option maxRecDepth 100000 in
set_option maxHeartbeats 8000000 in
theorem c_L_roots (l : Launch) (hl9 : l.stackTraces = false) (sa : Nat → Nat) (D : va_G) (t : Nat → ClassId) (sz : Nat) (ax : Nat) (ao al am ac : Nat → Nat) (cn : Nat) (st : Int32) (Wt : Nat → Nat → Int32) (x : Int32) (au : Nat) (ov : Nat → Int64) (zx : Nat) (hcn : cn ≤ 16) (hzx : ob_z1 (ob_hd cn x) = zx) : vx_Met l yL_roots wsL_roots ({ frames := 7, cells := 1, slots := 6, locals := 136 } : Room) (ob_Py D t (ob_wX ax ao al am ac ++ ob_wC t ac cn st Wt ++ ob_wU t au ov) sz sa [.ref ax, .int x, .ref au]) (va_Qi (fun (r : Int32) (u : Int32) => r = nI zx ∧ (zx = 0 → (u = (if ob_hb st x then ob_rt st Wt cn (ob_rcO Wt cn st x cn) cn else nI 0)))) (fun (u : Int32) (t9 : State) => va_P D vwCl (ob_wX ax ao al am ac ++ ob_wC t ac cn st Wt ++ ob_wU t au (if zx = 0 then vp_updL ov 0 u.toInt64 else ov)) t9.heap) (va_A (ob_wX ax ao al am ac ++ ob_wC t ac cn st Wt ++ ob_wU t au ov) sz)) (fun _ _ _ => False) 1 6 (va_A (ob_wX ax ao al am ac ++ ob_wC t ac cn st Wt ++ ob_wU t au ov) sz) := by
  refine vx_ofWH (cc := cL_roots) (maxL := 4) (ret := (some .int)) (hh := [(0, 9, 12, 29)]) (by decide) rfl ?_
  intro p e s m args below meth c s₁ B hml hv
  obtain ⟨rfl, hsz, hP, hk, hD0, hE, hN⟩ := hv
  have hx := B.exec
  have hb := B.bytes
  have hr := B.returns
  have hts := atoms_spec (ws := wsL_roots) B.pre
  have hown : s.vm.findClass RL = some m.cls := findClass_of_methodNamed B.named
  have hlocks := B.notSynchronized
  have hK := hk.1
  have htab := vx_table (x := yL_roots) B (hts (Cond.codeWith yL_roots cL_roots 4 (some .int) [(0, 9, 12, 29)]) (List.mem_of_getElem? (i := 0) rfl))
  have hD : va_D (va_A (ob_wX ax ao al am ac ++ ob_wC t ac cn st Wt ++ ob_wU t au ov) sz) (ob_wX ax ao al am ac ++ ob_wC t ac cn st Wt ++ ob_wU t au ov) := hD0.self (sz := sz)
  have hA : ∀ q : Nat, s.heap.size ≤ q → (va_A (ob_wX ax ao al am ac ++ ob_wC t ac cn st Wt ++ ob_wU t au ov) sz) q := fun q h => Or.inr (hsz ▸ h)
  have hS : va_S (va_A (ob_wX ax ao al am ac ++ ob_wC t ac cn st Wt ++ ob_wU t au ov) sz) s.heap s.heap [] := va_S.rf
  have hl := lv_entry [.ref ax, .int x, .ref au] (n := 4) (Nat.le_of_ble_eq_true rfl)
  rw [lg_entry_eq]
  generalize (lg_sl [.ref ax, .int x, .ref au] ++ List.replicate (4 - (lg_sl [.ref ax, .int x, .ref au]).length) Slot.unset).toArray = ls at hl ⊢
  have hl : lv_has ls 4 [(0, .ref ax), (1, .int x), (2, .ref au)] := hl
  have hP : va_P D vwCl (ob_wX ax ao al am ac ++ ob_wC t ac cn st Wt ++ ob_wU t au ov) s.heap := hP
  refine lv_aload_n hx hb dL_roots_0 rfl (lv_at hl 2 rfl) ?_
  refine lv_iconst (v := nI 0) hx hb dL_roots_1 (by decide) ?_
  refine lv_aload_n hx hb dL_roots_2 rfl (lv_at hl 0 rfl) ?_
  refine lv_iload_n hx hb dL_roots_3 rfl (lv_at hl 1 rfl) ?_
  have hFc := va_free (wc := ob_wX ax ao al am ac ++ ob_wC t ac cn st Wt) hD hS hA [0, 1, 2, 3, 4, 5, 6, 7, 8, 9, 10, 11, 12, 13, 14, 15, 16, 17, 18] rfl
  refine vx_calli (vx_runV (As := [.int x]) (rest := [.int (nI 0), .ref au]) ⟨hx, hb, hml, hown, hts⟩ (c_X4_roots l hl9 sa D t s.heap.size ax ao al am ac cn st Wt x hcn) (cwV 1 hts gL_roots_X4_roots rfl rfl rfl (by decide +kernel) ⟨Nat.le_of_ble_eq_true rfl, Nat.le_of_ble_eq_true rfl⟩) (ob_pxV (ci := 4) (q0 := 0) (hP.sub [0, 1, 2, 3, 4, 5, 6, 7, 8, 9, 10, 11, 12, 13, 14, 15, 16, 17, 18] rfl) (hD.sub [0, 1, 2, 3, 4, 5, 6, 7, 8, 9, 10, 11, 12, 13, 14, 15, 16, 17, 18] (by decide) rfl) hk hE rfl rfl) rfl rfl hl.1 rfl (lv_room (Nat.le_of_ble_eq_true rfl)) dL_roots_4 ⟨Nat.le_of_ble_eq_true rfl, Nat.le_of_ble_eq_true rfl⟩) hS (fun q _ h => hFc q h) hFc (fun _ _ h => h.elim) (fun E9 ce9 q9 u9 t9 H1 locs ht hvm hpx hBX hz1 hk1 hS hce hcv hcl => ?_) (fun r9 u9 t9 H1 locs ht hvm hw9 hB hz1 hk1 hS => ?_)
  · obtain ⟨i9, hz9, hi9⟩ := hBX
    have hne : ¬ zx = 0 := by rw [← hzx, hz9]; exact Nat.succ_ne_zero _
    have hP := hP.kept (fun k q h => hk1 q.1 (hP k q h).lt id)
    rcases i9 with _ | i9
    · cases hi9
      refine vx_catch (own := RL) (name := "java/lang/IndexOutOfBoundsException") hown [] ⟨0, 9, 12, 29⟩ [] (by rw [htab]; rfl) (fun z h => absurd h List.not_mem_nil) rfl (by decide) (hts (Cond.classLink RL 29 "java/lang/IndexOutOfBoundsException") (List.mem_of_getElem? (i := 1) rfl)) (va_Nw.use rfl hE.2.2.2.2.1) hce hcv hcl ?_
      refine lv_astore_n (lv' := [(3, .ref q9), (0, .ref ax), (1, .int x), (2, .ref au)]) hx hb dL_roots_12 rfl hl (by decide) rfl (fun ls hl => ?_)
      refine lv_iconst (v := nI 1) hx hb dL_roots_13 (by decide) ?_
      exact vx_ret (W.iret (v := nI 1) hx hb hr (fun t9 ht hW => ⟨⟨nI 1, 0, rfl, ⟨(by rw [← hzx, hz9]), fun h => absurd h hne⟩, ob_th ht (by simp only [hne, if_false]; exact hP)⟩, hS.F ht⟩) hS.2.2 dL_roots_14)
    · cases hi9
  · rw [ht] at hB
    obtain ⟨hz9, hp9⟩ := hw9
    have hz0 : zx = 0 := hzx.symm.trans hz9
    have hP := ob_jn (ws' := ob_wX ax ao al am ac ++ ob_wC t ac cn st Wt ++ ob_wU t au ov) hP hD [some 0, some 1, some 2, some 3, some 4, some 5, some 6, some 7, some 8, some 9, some 10, some 11, some 12, some 13, some 14, some 15, some 16, some 17, some 18, none] [0, 1, 2, 3, 4, 5, 6, 7, 8, 9, 10, 11, 12, 13, 14, 15, 16, 17, 18] rfl rfl hk1 hB rfl
    have hD : va_D (va_A (ob_wX ax ao al am ac ++ ob_wC t ac cn st Wt ++ ob_wU t au ov) sz) (ob_wX ax ao al am ac ++ ob_wC t ac cn st Wt ++ ob_wU t au ov) := ob_dXCU hD
    generalize H1 = H at hP hS ⊢
    refine lv_i2l (v := r9.toInt64) hx hb dL_roots_7 rfl ?_
    refine ob_last hx hb hK hP hD hS 19 1 rfl rfl (show 0 < 1 by decide) (by decide) dL_roots_8 (fun H locs hP hD hS => ?_)
    have hP : va_P D vwCl (ob_wX ax ao al am ac ++ ob_wC t ac cn st Wt ++ ob_wU t au (vp_updL ov 0 r9.toInt64)) H := hP
    refine lv_goto (tgt := 15) hx hb dL_roots_9 (by decide) ?_
    refine lv_iconst (v := nI 0) hx hb dL_roots_15 (by decide) ?_
    exact vx_ret (W.iret (v := nI 0) hx hb hr (fun t9 ht hW => ⟨⟨nI 0, r9, rfl, ⟨(by rw [hz0]), fun _ => hp9⟩, ob_th ht (by simp only [hz0, if_true]; exact hP)⟩, hS.F ht⟩) hS.2.2 dL_roots_16)

set_option maxRecDepth 100000 in
set_option maxHeartbeats 8000000 in
theorem c_L_mainReason (l : Launch) (hl9 : l.stackTraces = false) (sa : Nat → Nat) (D : va_G) (t : Nat → ClassId) (sz : Nat) (ax : Nat) (ao al am ac : Nat → Nat) (cn : Nat) (st : Int32) (Wt : Nat → Nat → Int32) (x : Int32) (au : Nat) (ov : Nat → Int64) (zx : Nat) (hcn : cn ≤ 16) (hzx : ob_z1 (ob_hd cn x) = zx) : vx_Met l yL_mainReason wsL_mainReason ({ frames := 7, cells := 1, slots := 6, locals := 103 } : Room) (ob_Py D t (ob_wX ax ao al am ac ++ ob_wC t ac cn st Wt ++ ob_wU t au ov) sz sa [.ref ax, .int x, .ref au]) (va_Qi (fun (r : Int32) (u : Int32) => r = nI zx ∧ (zx = 0 → (u = ((ob_wr st Wt cn x cn).1)))) (fun (u : Int32) (t9 : State) => va_P D vwCl (ob_wX ax ao al am ac ++ ob_wC t ac cn st Wt ++ ob_wU t au (if zx = 0 then vp_updL ov 0 u.toInt64 else ov)) t9.heap) (va_A (ob_wX ax ao al am ac ++ ob_wC t ac cn st Wt ++ ob_wU t au ov) sz)) (fun _ _ _ => False) 1 6 (va_A (ob_wX ax ao al am ac ++ ob_wC t ac cn st Wt ++ ob_wU t au ov) sz) := by
  refine vx_ofWH (cc := cL_mainReason) (maxL := 4) (ret := (some .int)) (hh := [(0, 9, 12, 29)]) (by decide) rfl ?_
  intro p e s m args below meth c s₁ B hml hv
  obtain ⟨rfl, hsz, hP, hk, hD0, hE, hN⟩ := hv
  have hx := B.exec
  have hb := B.bytes
  have hr := B.returns
  have hts := atoms_spec (ws := wsL_mainReason) B.pre
  have hown : s.vm.findClass RL = some m.cls := findClass_of_methodNamed B.named
  have hlocks := B.notSynchronized
  have hK := hk.1
  have htab := vx_table (x := yL_mainReason) B (hts (Cond.codeWith yL_mainReason cL_mainReason 4 (some .int) [(0, 9, 12, 29)]) (List.mem_of_getElem? (i := 0) rfl))
  have hD : va_D (va_A (ob_wX ax ao al am ac ++ ob_wC t ac cn st Wt ++ ob_wU t au ov) sz) (ob_wX ax ao al am ac ++ ob_wC t ac cn st Wt ++ ob_wU t au ov) := hD0.self (sz := sz)
  have hA : ∀ q : Nat, s.heap.size ≤ q → (va_A (ob_wX ax ao al am ac ++ ob_wC t ac cn st Wt ++ ob_wU t au ov) sz) q := fun q h => Or.inr (hsz ▸ h)
  have hS : va_S (va_A (ob_wX ax ao al am ac ++ ob_wC t ac cn st Wt ++ ob_wU t au ov) sz) s.heap s.heap [] := va_S.rf
  have hl := lv_entry [.ref ax, .int x, .ref au] (n := 4) (Nat.le_of_ble_eq_true rfl)
  rw [lg_entry_eq]
  generalize (lg_sl [.ref ax, .int x, .ref au] ++ List.replicate (4 - (lg_sl [.ref ax, .int x, .ref au]).length) Slot.unset).toArray = ls at hl ⊢
  have hl : lv_has ls 4 [(0, .ref ax), (1, .int x), (2, .ref au)] := hl
  have hP : va_P D vwCl (ob_wX ax ao al am ac ++ ob_wC t ac cn st Wt ++ ob_wU t au ov) s.heap := hP
  refine lv_aload_n hx hb dL_mainReason_0 rfl (lv_at hl 2 rfl) ?_
  refine lv_iconst (v := nI 0) hx hb dL_mainReason_1 (by decide) ?_
  refine lv_aload_n hx hb dL_mainReason_2 rfl (lv_at hl 0 rfl) ?_
  refine lv_iload_n hx hb dL_mainReason_3 rfl (lv_at hl 1 rfl) ?_
  have hFc := va_free (wc := ob_wX ax ao al am ac ++ ob_wC t ac cn st Wt) hD hS hA [0, 1, 2, 3, 4, 5, 6, 7, 8, 9, 10, 11, 12, 13, 14, 15, 16, 17, 18] rfl
  refine vx_calli (vx_runV (As := [.int x]) (rest := [.int (nI 0), .ref au]) ⟨hx, hb, hml, hown, hts⟩ (c_X4_mainReason l hl9 sa D t s.heap.size ax ao al am ac cn st Wt x hcn) (cwV 1 hts gL_mainReason_X4_mainReason rfl rfl rfl (by decide +kernel) ⟨Nat.le_of_ble_eq_true rfl, Nat.le_of_ble_eq_true rfl⟩) (ob_pxV (ci := 4) (q0 := 0) (hP.sub [0, 1, 2, 3, 4, 5, 6, 7, 8, 9, 10, 11, 12, 13, 14, 15, 16, 17, 18] rfl) (hD.sub [0, 1, 2, 3, 4, 5, 6, 7, 8, 9, 10, 11, 12, 13, 14, 15, 16, 17, 18] (by decide) rfl) hk hE rfl rfl) rfl rfl hl.1 rfl (lv_room (Nat.le_of_ble_eq_true rfl)) dL_mainReason_4 ⟨Nat.le_of_ble_eq_true rfl, Nat.le_of_ble_eq_true rfl⟩) hS (fun q _ h => hFc q h) hFc (fun _ _ h => h.elim) (fun E9 ce9 q9 u9 t9 H1 locs ht hvm hpx hBX hz1 hk1 hS hce hcv hcl => ?_) (fun r9 u9 t9 H1 locs ht hvm hw9 hB hz1 hk1 hS => ?_)
  · obtain ⟨i9, hz9, hi9⟩ := hBX
    have hne : ¬ zx = 0 := by rw [← hzx, hz9]; exact Nat.succ_ne_zero _
    have hP := hP.kept (fun k q h => hk1 q.1 (hP k q h).lt id)
    rcases i9 with _ | i9
    · cases hi9
      refine vx_catch (own := RL) (name := "java/lang/IndexOutOfBoundsException") hown [] ⟨0, 9, 12, 29⟩ [] (by rw [htab]; rfl) (fun z h => absurd h List.not_mem_nil) rfl (by decide) (hts (Cond.classLink RL 29 "java/lang/IndexOutOfBoundsException") (List.mem_of_getElem? (i := 1) rfl)) (va_Nw.use rfl hE.2.2.2.2.1) hce hcv hcl ?_
      refine lv_astore_n (lv' := [(3, .ref q9), (0, .ref ax), (1, .int x), (2, .ref au)]) hx hb dL_mainReason_12 rfl hl (by decide) rfl (fun ls hl => ?_)
      refine lv_iconst (v := nI 1) hx hb dL_mainReason_13 (by decide) ?_
      exact vx_ret (W.iret (v := nI 1) hx hb hr (fun t9 ht hW => ⟨⟨nI 1, 0, rfl, ⟨(by rw [← hzx, hz9]), fun h => absurd h hne⟩, ob_th ht (by simp only [hne, if_false]; exact hP)⟩, hS.F ht⟩) hS.2.2 dL_mainReason_14)
    · cases hi9
  · rw [ht] at hB
    obtain ⟨hz9, hp9⟩ := hw9
    have hz0 : zx = 0 := hzx.symm.trans hz9
    have hP := ob_jn (ws' := ob_wX ax ao al am ac ++ ob_wC t ac cn st Wt ++ ob_wU t au ov) hP hD [some 0, some 1, some 2, some 3, some 4, some 5, some 6, some 7, some 8, some 9, some 10, some 11, some 12, some 13, some 14, some 15, some 16, some 17, some 18, none] [0, 1, 2, 3, 4, 5, 6, 7, 8, 9, 10, 11, 12, 13, 14, 15, 16, 17, 18] rfl rfl hk1 hB rfl
    have hD : va_D (va_A (ob_wX ax ao al am ac ++ ob_wC t ac cn st Wt ++ ob_wU t au ov) sz) (ob_wX ax ao al am ac ++ ob_wC t ac cn st Wt ++ ob_wU t au ov) := ob_dXCU hD
    generalize H1 = H at hP hS ⊢
    refine lv_i2l (v := r9.toInt64) hx hb dL_mainReason_7 rfl ?_
    refine ob_last hx hb hK hP hD hS 19 1 rfl rfl (show 0 < 1 by decide) (by decide) dL_mainReason_8 (fun H locs hP hD hS => ?_)
    have hP : va_P D vwCl (ob_wX ax ao al am ac ++ ob_wC t ac cn st Wt ++ ob_wU t au (vp_updL ov 0 r9.toInt64)) H := hP
    refine lv_goto (tgt := 15) hx hb dL_mainReason_9 (by decide) ?_
    refine lv_iconst (v := nI 0) hx hb dL_mainReason_15 (by decide) ?_
    exact vx_ret (W.iret (v := nI 0) hx hb hr (fun t9 ht hW => ⟨⟨nI 0, r9, rfl, ⟨(by rw [hz0]), fun _ => hp9⟩, ob_th ht (by simp only [hz0, if_true]; exact hP)⟩, hS.F ht⟩) hS.2.2 dL_mainReason_16)
