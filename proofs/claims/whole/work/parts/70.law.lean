-- ===== the law's loop: the rows that it needs
section
variable {p : Program} {l : Launch} {e : Env} {R : Room} {s : State} {m : MethodId} {args : Array Value} {below : List Frame} {meth : Method} {c : Code} {H : Heap} {locs : List Loc} {cells slots : Nat} {Q : State → Prop}
variable {cc : ByteArray} {pc : Nat} {ls : Array Slot} {rest : List Value}
theorem ob_lcmp (hexec : p.tables.exec = Jvm.exec) (hb : c.code = cc) {x y : Int64} (hdg : decode cc pc = .ok (.lcmp, 1)) (h : x = y)
    (k : W p l e R s m args below meth c H locs cells slots Q (F0 m (pc + 1) ls (.int 0 :: rest))) : W p l e R s m args below meth c H locs cells slots Q (F0 m pc ls (.long y :: .long x :: rest)) := by
  subst h
  intro T hT X
  obtain ⟨t, a, b⟩ := k T hT X
  refine ⟨t, ?_, b⟩
  have n1 : ¬ x < x := fun z => absurd (Int64.lt_iff_toInt_lt.mp z) (Int.lt_irrefl _)
  jvm_step X.here [X.here.top, hexec, hb, hdg, n1]
  exact a
/-- script[i + j] -/
theorem ob_ldp (hexec : p.tables.exec = Jvm.exec) (hb : c.code = cc) {A : Nat → Prop} {H0 : Heap} {b L : Nat} {xs : Nat → Int32} (hX : va_X b L xs s H0) (hbl : b < H0.size) (hbA : ¬ A b) (hS : va_S A H0 H locs) {i j : Nat} {v : Int32} (hv : xs (i + j) = v) (hL : i + j < L) (hL2 : L ≤ 1000000) {z : Int} (hz : Int32.ofInt z = nI j)
    (h0 : ls[0]? = some (.val (.ref b))) (h4 : ls[4]? = some (.val (.int (nI i))))
    (d0 : decode cc pc = .ok (.aload_n 0, 1)) (d1 : decode cc (pc + 1) = .ok (.iload 4, 2)) (d3 : decode cc (pc + 3) = .ok (.iconst z, 1)) (d4 : decode cc (pc + 4) = .ok (.iadd, 1)) (d5 : decode cc (pc + 5) = .ok (.iaload, 1))
    (kk : W p l e R s m args below meth c H locs cells slots Q (F0 m (pc + 6) ls (.int v :: rest))) : W p l e R s m args below meth c H locs cells slots Q (F0 m pc ls rest) := by
  refine lv_aload_n hexec hb d0 rfl h0 ?_
  refine lv_iload hexec hb d1 h4 ?_
  refine lv_iconst (v := nI j) hexec hb d3 hz ?_
  refine lv_iadd hexec hb d4 ?_
  rw [nI_add]
  refine va_sld hexec hb hX hbl hbA hS (vp_in_nI hL (by omega)) d5 ?_
  rw [nI_clamp (by omega), hv]
  exact kk
/-- script[i + j] != 0 -/
theorem ob_ldb (hexec : p.tables.exec = Jvm.exec) (hb : c.code = cc) {A : Nat → Prop} {H0 : Heap} {b L : Nat} {xs : Nat → Int32} (hX : va_X b L xs s H0) (hbl : b < H0.size) (hbA : ¬ A b) (hS : va_S A H0 H locs) {i j : Nat} {v : Bool} (hv : (!decide (xs (i + j) = 0)) = v) (hL : i + j < L) (hL2 : L ≤ 1000000) {z : Int} (hz : Int32.ofInt z = nI j)
    (h0 : ls[0]? = some (.val (.ref b))) (h4 : ls[4]? = some (.val (.int (nI i))))
    (d0 : decode cc pc = .ok (.aload_n 0, 1)) (d1 : decode cc (pc + 1) = .ok (.iload 4, 2)) (d3 : decode cc (pc + 3) = .ok (.iconst z, 1)) (d4 : decode cc (pc + 4) = .ok (.iadd, 1)) (d5 : decode cc (pc + 5) = .ok (.iaload, 1))
    (d6 : decode cc (pc + 6) = .ok (.ifCond .eq 7, 3)) (d9 : decode cc (pc + 9) = .ok (.iconst 1, 1)) (d10 : decode cc (pc + 10) = .ok (.goto 4, 3)) (d13 : decode cc (pc + 13) = .ok (.iconst 0, 1))
    (kk : W p l e R s m args below meth c H locs cells slots Q (F0 m (pc + 14) ls (.int (ob_bi v) :: rest))) : W p l e R s m args below meth c H locs cells slots Q (F0 m pc ls rest) := by
  refine ob_ldp hexec hb hX hbl hbA hS (v := xs (i + j)) rfl hL hL2 hz h0 h4 d0 d1 d3 d4 d5 ?_
  refine lv_if_eq (tgt := pc + 13) hexec hb d6 (by omega) (fun h => ?_) (fun h => ?_)
  · refine lv_iconst (v := ob_bi v) hexec hb d13 (by rw [← hv, h]; rfl) ?_
    exact kk
  · refine lv_iconst (v := ob_bi v) hexec hb d9 (by rw [← hv, decide_eq_false h]; rfl) ?_
    refine lv_goto (tgt := pc + 14) hexec hb d10 (by omega) ?_
    exact kk
theorem ob_runN {mc ms : Nat} {g : JFrame} {Qa : State → Outcome → State → Prop} {free : Addr → Prop} (h : vx_Run p l e R s m args below meth c H locs cells slots mc ms g rest Qa (fun _ _ _ => False) free) : va_Run p l e R s m args below meth c H locs cells slots mc ms g rest Qa free := fun T hT X => by
  rcases h T hT X with h | ⟨q, st₀, t, T', L, E, ce, h0, X', hL, e1, e2, hf, -⟩
  · exact h
  · exact hf.elim
end
theorem ob_exK {sa : Nat → Nat} {s : State} {H : Heap} {locs : List Loc} (h : ob_ex sa s s.heap) (hS : va_S (fun q : Nat => s.heap.size ≤ q) s.heap H locs) : ob_ex sa s H := ⟨vx_Zq.kept h.1 (fun a ha _ => hS.2.1 a ha (Nat.not_le.mpr ha)), vx_Zq.kept h.2.1 (fun a ha _ => hS.2.1 a ha (Nat.not_le.mpr ha)), h.2.2⟩
theorem ob_z1_3 (b : Bool) : ob_z1 b ≤ 3 := by cases b <;> decide
theorem ob_z2_3 (b c : Bool) : ob_z2 b c ≤ 3 := by cases b <;> cases c <;> decide
theorem ob_z3_3 (b c r : Bool) (z : Nat) (h : z = if b && c then ob_z3 r else ob_z2 b c) : z ≤ 3 := by subst h; cases b <;> cases c <;> cases r <;> decide
theorem ob_z0 {z : Nat} (hz : z ≤ 3) (h : nI z = 0) : z = 0 := (nI_eq (ob_nlt (by omega)) (show 0 < 2 ^ 31 by decide)).mp h
/-- the law's fixed surroundings -/
def ob_At (p : Program) (l : Launch) (s : State) (m : MethodId) (c : Code) (b L : Nat) (xs : Nat → Int32) (D : va_G) (t : Nat → ClassId) (sa : Nat → Nat) : Prop := p.tables.exec = Jvm.exec ∧ c.code = cL_law ∧ c.maxLocals = 8 ∧ s.vm.findClass RL = some m.cls ∧ (∀ w ∈ wsL_law, w.before #[Value.ref b] s = true) ∧ va_X b L xs s s.heap ∧ b < s.heap.size ∧ ob_kx D t s ∧ ob_ex sa s s.heap ∧ ob_nc s ∧ l.stackTraces = false ∧ L ≤ 3072
/-- what the law's cells hold between two calls -/
def ob_St (D : va_G) (t : Nat → ClassId) (ax : Nat) (ao al am ac ar : Nat → Nat) (au : Nat) (k : Nat) (H : Heap) : Prop := ∃ (M : Nat → Nat → Int32) (n : Nat) (cl : Nat → Int32) (rd : Nat → Int32) (sv : Nat → Int32) (pb : Nat → Int32) (ba : Nat → Int32) (bf : Nat → Int32) (od : Nat → Int32) (bg : Nat → Int64) (mn : Nat) (ms : Nat → Int32) (mf : Nat → Int32) (mt : Nat → Int32) (mp : Nat → Int32) (cn : Nat) (st : Int32) (Wt : Nat → Nat → Int32) (Bd : Nat → Int32) (Tr : Nat → Int32) (rn : Nat) (rcl : Nat → Int32) (rrd : Nat → Int32) (rsv : Nat → Int32) (rpb : Nat → Int32) (wf : Nat → Int32) (wa : Nat → Int32) (ro : Nat → Int32) (ah : Nat → Int32) (ct : Nat → Int64) (rmn : Nat) (rms : Nat → Int32) (rmf : Nat → Int32) (rmt : Nat → Int32) (rmp : Nat → Int32) (rcn : Nat) (sd : Nat → Int32) (V : Nat → Int32) (th : Int32) (ov : Nat → Int64), va_P D vwCl (ob_wX ax ao al am ac ++ ob_wO t ao M ++ ob_wL t al n cl rd sv pb ba bf od bg ++ ob_wM t am mn ms mf mt mp ++ ob_wC t ac cn st Wt ++ ob_wR t ar Bd Tr rn rcl rrd rsv rpb wf wa ro ah ct rmn rms rmf rmt rmp rcn sd V th ++ ob_wU t au ov) H ∧ ob_IL k M Bd n cl rd sv pb ba bf od rn rcl rrd rsv rpb wf wa ∧ ob_IM mn ms mf mt mp rmn rms rmf rmt rmp ∧ ob_IC cn st Wt rcn sd V
theorem ob_St_s {D : va_G} {t : Nat → ClassId} {ax : Nat} {ao al am ac ar : Nat → Nat} {au : Nat} {k : Nat} {H : Heap} (h : ob_St D t ax ao al am ac ar au k H) : ob_St D t ax ao al am ac ar au (k + 1) H := by
  obtain ⟨M, n, cl, rd, sv, pb, ba, bf, od, bg, mn, ms, mf, mt, mp, cn, st, Wt, Bd, Tr, rn, rcl, rrd, rsv, rpb, wf, wa, ro, ah, ct, rmn, rms, rmf, rmt, rmp, rcn, sd, V, th, ov, h1, h2, h3⟩ := h
  exact ⟨M, n, cl, rd, sv, pb, ba, bf, od, bg, mn, ms, mf, mt, mp, cn, st, Wt, Bd, Tr, rn, rcl, rrd, rsv, rpb, wf, wa, ro, ah, ct, rmn, rms, rmf, rmt, rmp, rcn, sd, V, th, ov, h1, ob_IL_s h2, h3⟩
theorem ob_dXOLMCRU {ax : Nat} {ao : Nat → Nat} {al : Nat → Nat} {am : Nat → Nat} {ac : Nat → Nat} {t : Nat → ClassId} {M : Nat → Nat → Int32} {n : Nat} {cl : Nat → Int32} {rd : Nat → Int32} {sv : Nat → Int32} {pb : Nat → Int32} {ba : Nat → Int32} {bf : Nat → Int32} {od : Nat → Int32} {bg : Nat → Int64} {mn : Nat} {ms : Nat → Int32} {mf : Nat → Int32} {mt : Nat → Int32} {mp : Nat → Int32} {cn : Nat} {st : Int32} {Wt : Nat → Nat → Int32} {ar : Nat → Nat} {B : Nat → Int32} {Tr : Nat → Int32} {rn : Nat} {rcl : Nat → Int32} {rrd : Nat → Int32} {rsv : Nat → Int32} {rpb : Nat → Int32} {wf : Nat → Int32} {wa : Nat → Int32} {ro : Nat → Int32} {ah : Nat → Int32} {ct : Nat → Int64} {rmn : Nat} {rms : Nat → Int32} {rmf : Nat → Int32} {rmt : Nat → Int32} {rmp : Nat → Int32} {rcn : Nat} {sd : Nat → Int32} {V : Nat → Int32} {th : Int32} {au : Nat} {ov : Nat → Int64} {M' : Nat → Nat → Int32} {n' : Nat} {cl' : Nat → Int32} {rd' : Nat → Int32} {sv' : Nat → Int32} {pb' : Nat → Int32} {ba' : Nat → Int32} {bf' : Nat → Int32} {od' : Nat → Int32} {bg' : Nat → Int64} {mn' : Nat} {ms' : Nat → Int32} {mf' : Nat → Int32} {mt' : Nat → Int32} {mp' : Nat → Int32} {cn' : Nat} {st' : Int32} {Wt' : Nat → Nat → Int32} {B' : Nat → Int32} {Tr' : Nat → Int32} {rn' : Nat} {rcl' : Nat → Int32} {rrd' : Nat → Int32} {rsv' : Nat → Int32} {rpb' : Nat → Int32} {wf' : Nat → Int32} {wa' : Nat → Int32} {ro' : Nat → Int32} {ah' : Nat → Int32} {ct' : Nat → Int64} {rmn' : Nat} {rms' : Nat → Int32} {rmf' : Nat → Int32} {rmt' : Nat → Int32} {rmp' : Nat → Int32} {rcn' : Nat} {sd' : Nat → Int32} {V' : Nat → Int32} {th' : Int32} {ov' : Nat → Int64} {A : Nat → Prop} (h : va_D A (ob_wX ax ao al am ac ++ ob_wO t ao M ++ ob_wL t al n cl rd sv pb ba bf od bg ++ ob_wM t am mn ms mf mt mp ++ ob_wC t ac cn st Wt ++ ob_wR t ar B Tr rn rcl rrd rsv rpb wf wa ro ah ct rmn rms rmf rmt rmp rcn sd V th ++ ob_wU t au ov)) : va_D A (ob_wX ax ao al am ac ++ ob_wO t ao M' ++ ob_wL t al n' cl' rd' sv' pb' ba' bf' od' bg' ++ ob_wM t am mn' ms' mf' mt' mp' ++ ob_wC t ac cn' st' Wt' ++ ob_wR t ar B' Tr' rn' rcl' rrd' rsv' rpb' wf' wa' ro' ah' ct' rmn' rms' rmf' rmt' rmp' rcn' sd' V' th' ++ ob_wU t au ov') := ob_ds h rfl
