theorem ob_dXOLMCGHEV {ax : Nat} {ao : Nat → Nat} {al : Nat → Nat} {am : Nat → Nat} {ac : Nat → Nat} {t : Nat → ClassId} {M : Nat → Nat → Int32} {n : Nat} {cl : Nat → Int32} {rd : Nat → Int32} {sv : Nat → Int32} {pb : Nat → Int32} {ba : Nat → Int32} {bf : Nat → Int32} {od : Nat → Int32} {bg : Nat → Int64} {mn : Nat} {ms : Nat → Int32} {mf : Nat → Int32} {mt : Nat → Int32} {mp : Nat → Int32} {cn : Nat} {st : Int32} {Wt : Nat → Nat → Int32} {xg : Nat} {fg : Nat → Int32} {xh : Nat} {fh : Nat → Int32} {xe : Nat} {fe : Nat → Int32} {xm : Nat} {fm : Nat → Int32} {M' : Nat → Nat → Int32} {n' : Nat} {cl' : Nat → Int32} {rd' : Nat → Int32} {sv' : Nat → Int32} {pb' : Nat → Int32} {ba' : Nat → Int32} {bf' : Nat → Int32} {od' : Nat → Int32} {bg' : Nat → Int64} {mn' : Nat} {ms' : Nat → Int32} {mf' : Nat → Int32} {mt' : Nat → Int32} {mp' : Nat → Int32} {cn' : Nat} {st' : Int32} {Wt' : Nat → Nat → Int32} {fg' : Nat → Int32} {fh' : Nat → Int32} {fe' : Nat → Int32} {fm' : Nat → Int32} {A : Nat → Prop} (h : va_D A (ob_wX ax ao al am ac ++ ob_wO t ao M ++ ob_wL t al n cl rd sv pb ba bf od bg ++ ob_wM t am mn ms mf mt mp ++ ob_wC t ac cn st Wt ++ ob_wG t xg fg ++ ob_wH t xh fh ++ ob_wE t xe fe ++ ob_wV t xm fm)) : va_D A (ob_wX ax ao al am ac ++ ob_wO t ao M' ++ ob_wL t al n' cl' rd' sv' pb' ba' bf' od' bg' ++ ob_wM t am mn' ms' mf' mt' mp' ++ ob_wC t ac cn' st' Wt' ++ ob_wG t xg fg' ++ ob_wH t xh fh' ++ ob_wE t xe fe' ++ ob_wV t xm fm') := ob_ds h rfl
-- ===== the dice
def ob_Pz (b L : Nat) (xs : Nat → Int32) (av : List Value) : Array Value → State → Prop := va_Pc av (fun U => va_X b L xs U U.heap ∧ b < U.heap.size)
theorem ob_pzS {b L : Nat} {xs : Nat → Int32} {A : Nat → Prop} {s : State} {H : Heap} {locs : List Loc} {av : List Value} (hX : va_X b L xs s s.heap) (hbl : b < s.heap.size) (hbA : ¬ A b) (hS : va_S A s.heap H locs) : PreS s H (ob_Pz b L xs av) av :=
  ⟨fun a U g mk q => ⟨q.1, va_X.moved (u := U) (U := U.calling g mk a) (Vm.Alike.refl U.vm) q.2.1, q.2.2⟩, fun U hU hW => ⟨rfl, by rw [hU]; exact va_X.moved hW.alike (hX.kept (hS.2.1 b hbl hbA)), by rw [hU]; exact Nat.lt_of_lt_of_le hbl hS.1⟩⟩
set_option maxRecDepth 100000 in
theorem c_L_dice (l : Launch) (b L : Nat) (xs : Nat → Int32) (k : Nat) (hL : L ≤ 1000) (hk8 : k ≤ 1000) : Met l yL_dice wsL_dice ({ frames := 0, cells := 0, slots := 0, locals := 0 } : Room) (ob_Pz b L xs [.ref b, .int (nI k)]) (vp_Si (fun r : Int32 => ∃ d : Nat, d < 2147483648 ∧ r = nI d)) 0 0 (fun _ => False) := by
  refine Met.ofW (cc := cL_dice) (maxL := 2) (ret := (some .int)) (by decide) rfl ?_
  intro p e s m args below meth c s₁ B hml hv
  obtain ⟨rfl, hX, hbl⟩ := hv
  have hx := B.exec
  have hb := B.bytes
  have hr := B.returns
  have hts := atoms_spec (ws := wsL_dice) B.pre
  have hown : s.vm.findClass RL = some m.cls := findClass_of_methodNamed B.named
  have hl := lv_entry [.ref b, .int (nI k)] (n := 2) (Nat.le_of_ble_eq_true rfl)
  rw [lg_entry_eq]
  generalize (lg_sl [.ref b, .int (nI k)] ++ List.replicate (2 - (lg_sl [.ref b, .int (nI k)]).length) Slot.unset).toArray = ls at hl ⊢
  have hl : lv_has ls 2 [(0, .ref b), (1, .int (nI k))] := hl
  have hS : va_S (fun _ => False) s.heap s.heap [] := va_S.rf
  have fin : ∀ y : Int32, W p l e (headSpec wsL_dice ({ frames := 0, cells := 0, slots := 0, locals := 0 } : Room)).room s m ([.ref b, .int (nI k)] : List Value).toArray below meth c s.heap [] 0 0 (MQ below (vp_Si (fun r : Int32 => ∃ d : Nat, d < 2147483648 ∧ r = nI d)) ([.ref b, .int (nI k)] : List Value).toArray s 0 0 (fun _ => False)) (F0 m 31 ls [.int y]) := fun y => by
    refine lv_ldc (v := 2147483647) hx hb hown (hts (Cond.constant RL 8 (2147483647)) (List.mem_of_getElem? (i := 2) rfl)) dL_dice_31 ?_
    refine lv_iand hx hb dL_dice_33 ?_
    obtain ⟨d, h1, h2⟩ := pk_andE y (m := 2147483647) 31 (by decide)
    exact W.iret (v := y &&& 2147483647) hx hb hr (fun t9 ht hW => ⟨y &&& 2147483647, rfl, ⟨d, h1, h2⟩, ht⟩) (fun _ h => absurd h List.not_mem_nil) dL_dice_34
  refine lv_iload_n hx hb dL_dice_0 rfl (lv_at hl 1 rfl) ?_
  refine lv_aload_n hx hb dL_dice_1 rfl (lv_at hl 0 rfl) ?_
  refine va_slen hx hb hX hbl (fun h => h) hS dL_dice_2 ?_
  refine ob_icmp_ge (x := k) (y := L) (tgt := 12) hx hb (by omega) (by omega) dL_dice_3 (by decide) (fun c3 => ?_) (fun c3 => ?_)
  · refine lv_ldc (v := 1899447441) hx hb hown (hts (Cond.constant RL 7 (1899447441)) (List.mem_of_getElem? (i := 1) rfl)) dL_dice_12 ?_
    refine lv_iload_n hx hb dL_dice_14 rfl (lv_at hl 1 rfl) ?_
    refine lv_sipush (v := nI 149) hx hb dL_dice_15 (by decide) ?_
    refine lv_iadd hx hb dL_dice_18 ?_
    refine lv_imul hx hb dL_dice_19 ?_
    refine lv_sipush (v := nI 529) hx hb dL_dice_20 (by decide) ?_
    refine lv_iload_n hx hb dL_dice_23 rfl (lv_at hl 1 rfl) ?_
    refine lv_imul hx hb dL_dice_24 ?_
    refine lv_iload_n hx hb dL_dice_25 rfl (lv_at hl 1 rfl) ?_
    refine lv_imul hx hb dL_dice_26 ?_
    refine lv_iadd hx hb dL_dice_27 ?_
    refine lv_bipush (v := nI 47) hx hb dL_dice_28 (by decide) ?_
    refine lv_iadd hx hb dL_dice_30 ?_
    exact fin _
  · refine lv_aload_n hx hb dL_dice_6 rfl (lv_at hl 0 rfl) ?_
    refine lv_iload_n hx hb dL_dice_7 rfl (lv_at hl 1 rfl) ?_
    refine va_sld hx hb hX hbl (fun h => h) hS (vp_in_nI c3 (by omega)) dL_dice_8 ?_
    refine lv_goto (tgt := 31) hx hb dL_dice_9 (by decide) ?_
    exact fin _
-- ===== the law's surroundings, and what holds between two rounds
def ob_At (p : Program) (l : Launch) (s : State) (m : MethodId) (c : Code) (b L : Nat) (xs : Nat → Int32) (D : va_G) (t : Nat → ClassId) (sa : Nat → Nat) : Prop := p.tables.exec = Jvm.exec ∧ c.code = cL_law ∧ c.maxLocals = 15 ∧ s.vm.findClass RL = some m.cls ∧ (∀ w ∈ wsL_law, w.before #[Value.ref b] s = true) ∧ va_X b L xs s s.heap ∧ b < s.heap.size ∧ ob_kx D t s ∧ ob_exA (fun q : Nat => s.heap.size ≤ q) sa s s.heap ∧ ob_nc s ∧ l.stackTraces = false ∧ L ≤ 260
def ob_St (D : va_G) (t : Nat → ClassId) (ax : Nat) (ao al am ac : Nat → Nat) (xg xh xe xm : Nat) (H : Heap) : Prop := ∃ (M : Nat → Nat → Int32) (n : Nat) (cl rd sv pb ba bf od : Nat → Int32) (bg : Nat → Int64) (mn : Nat) (ms mf mt mp : Nat → Int32) (cn : Nat) (st : Int32) (Wt : Nat → Nat → Int32) (fg fh fe fm : Nat → Int32) (mk : Nat), va_P D vwCl (ob_wX ax ao al am ac ++ ob_wO t ao M ++ ob_wL t al n cl rd sv pb ba bf od bg ++ ob_wM t am mn ms mf mt mp ++ ob_wC t ac cn st Wt ++ ob_wG t xg fg ++ ob_wH t xh fh ++ ob_wE t xe fe ++ ob_wV t xm fm) H ∧ ob_Jc M fe mk ∧ ob_Jl M n cl rd sv pb ba bf od fg ∧ ob_Jm mn mf mt mp ∧ ob_Jr cn Wt fh ∧ ob_Jf n mn cn st mk fm
theorem ob_mdw {wd : Nat} (h : wd = 10001 ∨ wd = 60) (a : Nat) : a % wd ≤ 10000 := by
  rcases h with rfl | rfl
  · have := Nat.mod_lt a (show 0 < 10001 by omega)
    omega
  · have := Nat.mod_lt a (show 0 < 60 by omega)
    omega
theorem ob_crn {cn cA d : Nat} (h1 : cA < cn) (h2 : d + 1 < cn) : (cA + 1 + d) % cn < cn ∧ cA ≠ (cA + 1 + d) % cn := by
  refine ⟨Nat.mod_lt _ (by omega), ?_⟩
  rcases Nat.lt_or_ge (cA + 1 + d) cn with c | c
  · rw [Nat.mod_eq_of_lt c]
    omega
  · rw [Nat.mod_eq_sub_mod c, Nat.mod_eq_of_lt (by omega)]
    omega
theorem ob_Jf_0 {n mn cn mk : Nat} {st : Int32} {fm : Nat → Int32} (h : ob_Jf n mn cn st mk fm) : ob_Jf (n + 1) mn cn st mk (upd fm 0 (nI (n + 1))) := ⟨pk_us, (pk_un (by decide)).trans h.2.1, (pk_un (by decide)).trans h.2.2.1, (pk_un (by decide)).trans h.2.2.2.1, (pk_un (by decide)).trans h.2.2.2.2⟩
theorem ob_Jf_1 {n mn cn mk : Nat} {st : Int32} {fm : Nat → Int32} (h : ob_Jf n mn cn st mk fm) : ob_Jf n (mn + 1) cn st mk (upd fm 1 (nI (mn + 1))) := ⟨(pk_un (by decide)).trans h.1, pk_us, (pk_un (by decide)).trans h.2.2.1, (pk_un (by decide)).trans h.2.2.2.1, (pk_un (by decide)).trans h.2.2.2.2⟩
theorem ob_Jf_2 {n mn cn mk : Nat} {st st' : Int32} {fm : Nat → Int32} (h : ob_Jf n mn cn st mk fm) : ob_Jf n mn (cn + 1) st' mk (upd (upd fm 3 st') 2 (nI (cn + 1))) := ⟨(pk_un (by decide)).trans ((pk_un (by decide)).trans h.1), (pk_un (by decide)).trans ((pk_un (by decide)).trans h.2.1), pk_us, (pk_un (by decide)).trans pk_us, (pk_un (by decide)).trans ((pk_un (by decide)).trans h.2.2.2.2)⟩
theorem ob_Jf_3 {n mn cn mk : Nat} {st st' : Int32} {fm : Nat → Int32} (h : ob_Jf n mn cn st mk fm) : ob_Jf n mn cn st' mk (upd fm 3 st') := ⟨(pk_un (by decide)).trans h.1, (pk_un (by decide)).trans h.2.1, (pk_un (by decide)).trans h.2.2.1, pk_us, (pk_un (by decide)).trans h.2.2.2.2⟩
theorem ob_Jl_m {M M9 : Nat → Nat → Int32} {n : Nat} {cl rd sv pb ba bf od fg bf9 od9 : Nat → Int32} (h : ob_Jl M n cl rd sv pb ba bf od fg) (ha : ob_arr M9 n cl rd bf9 od9) : ob_Jl M9 n cl rd sv pb ba bf9 od9 fg := ⟨h.1, h.2.1, h.2.2.1, ha.1, ha.2, h.2.2.2.2.2⟩
theorem ob_Jl_a {M : Nat → Nat → Int32} {n j : Nat} {z : Int32} {cl rd sv pb ba bf od fg : Nat → Int32} (h : ob_Jl M n cl rd sv pb ba bf od fg) (hj : j < 12) : ob_Jl M n cl rd sv pb (upd ba j z) bf od (upd fg (5 * j + 4) z) := by
  obtain ⟨h1, h2, h3, h4, h5, h6, h7, h8⟩ := h
  refine ⟨h1, h2, h3, h4, h5, h6, fun k hk => ?_, fun k hk => ?_⟩
  · rw [pk_un (by omega), pk_un (by omega), pk_un (by omega), pk_un (by omega)]
    exact h7 k hk
  · by_cases e : k = j
    · subst e
      rw [pk_us, pk_us]
    · rw [pk_un (by omega), pk_un e]
      exact h8 k hk
theorem ob_Jr_n {cn : Nat} {Wt : Nat → Nat → Int32} {fh : Nat → Int32} (h : ob_Jr cn Wt fh) (hc : cn < 8) : ob_Jr (cn + 1) Wt fh := ⟨by omega, h.2.1, fun i j hij => h.2.2 i j (by omega)⟩
/-- a line more -/
theorem ob_Jl_w {M : Nat → Nat → Int32} {n u r q w : Nat} {cl rd sv pb ba bf od fg cl9 rd9 sv9 pb9 bf9 od9 fg9 : Nat → Int32} (h : ob_Jl M n cl rd sv pb ba bf od fg) (hn : n < 12) (hu : u ≤ 4) (hr : r ≤ 10000) (hw : w ≤ 1) (ef : fg9 = upd (upd (upd (upd fg (5 * n) (nI u)) (5 * n + 1) (nI r)) (5 * n + 2) (nI q)) (5 * n + 3) (nI w)) (ec : cl9 = upd cl n (nI u)) (er : rd9 = upd rd n (nI r)) (es : sv9 = upd sv n (nI q)) (ep : pb9 = upd pb n (ob_bi (decide (nI w = nI 1)))) (eb : bf9 = ob_bf2 M cl9 rd9 (n + 1) bf (n + 1)) (eo : od9 = ob_od2 bf9 (n + 1) od (n + 1)) :
    ob_Jl M (n + 1) cl9 rd9 sv9 pb9 ba bf9 od9 fg9 ∧ (∀ k, k < n → cl9 k = cl k) ∧ ∀ k, k < n → rd9 k = rd k := by
  obtain ⟨h1, h2, h3, h4, h5, h6, h7, h8⟩ := h
  have ew : ob_bi (decide (nI w = nI 1)) = nI w := by
    rcases (show w = 0 ∨ w = 1 by omega) with rfl | rfl
    · rfl
    · rfl
  rw [ew] at ep
  have hcl : ∀ k, ∃ v : Nat, v ≤ 4 ∧ cl9 k = nI v := fun k => by
    rw [ec]
    by_cases e : k = n
    · subst e
      exact ⟨u, hu, pk_us⟩
    · exact ⟨ob_kc cl k, (h2 k).2, (pk_un e).trans (h2 k).1⟩
  refine ⟨⟨by omega, fun k => ?_, fun k => ?_, fun j hj => ?_, fun j hj => ?_, fun k => ?_, fun k hk => ?_, fun k hk => ?_⟩, fun k hk => ?_, fun k hk => ?_⟩
  · obtain ⟨v, hv, e⟩ := hcl k
    have e2 : ob_kc cl9 k = v := by
      unfold ob_kc
      rw [e, ob_cl (by omega)]
    rw [e2]
    exact ⟨e, hv⟩
  · rw [er]
    by_cases e : k = n
    · subst e
      exact ⟨r, hr, pk_us⟩
    · obtain ⟨v, hv, e2⟩ := h3 k
      exact ⟨v, hv, (pk_un e).trans e2⟩
  · rw [eb]
    exact ob_fl_in hj
  · rw [eo]
    exact ob_fl_in hj
  · rw [ep]
    by_cases e : k = n
    · subst e
      rw [pk_us]
      rcases (show w = 0 ∨ w = 1 by omega) with rfl | rfl
      · exact Or.inl rfl
      · exact Or.inr rfl
    · rw [pk_un e]
      exact h6 k
  · rw [ef, ec, er, es, ep]
    by_cases e : k = n
    · subst e
      rw [pk_us, pk_us, pk_us, pk_us]
      refine ⟨?_, ?_, ?_, ?_⟩
      · rw [pk_un (by omega), pk_un (by omega), pk_un (by omega), pk_us]
      · rw [pk_un (by omega), pk_un (by omega), pk_us]
      · rw [pk_un (by omega), pk_us]
      · rw [pk_us]
    · rw [pk_un (f := cl) e, pk_un (f := rd) e, pk_un (f := sv) e, pk_un (f := pb) e]
      rw [pk_un (by omega), pk_un (by omega), pk_un (by omega), pk_un (by omega), pk_un (by omega), pk_un (by omega), pk_un (by omega), pk_un (by omega), pk_un (by omega), pk_un (by omega), pk_un (by omega), pk_un (by omega), pk_un (by omega), pk_un (by omega), pk_un (by omega), pk_un (by omega)]
      exact h7 k (by omega)
  · rw [ef, pk_un (by omega), pk_un (by omega), pk_un (by omega), pk_un (by omega)]
    exact h8 k hk
  · rw [ec]
    exact pk_un (by omega)
  · rw [er]
    exact pk_un (by omega)
/-- the orders grow within bounds, as the law compares them -/
theorem ob_grow2 {M : Nat → Nat → Int32} {n : Nat} {cl rd sv pb ba bf od fg cl9 rd9 sv9 pb9 bf9 od9 fg9 : Nat → Int32} (hn : n < 12) (hM : ob_KM M) (h : ob_Jl M n cl rd sv pb ba bf od fg) (h9 : ob_Jl M (n + 1) cl9 rd9 sv9 pb9 ba bf9 od9 fg9) (hc : ∀ k, k < n → cl9 k = cl k) (hd : ∀ k, k < n → rd9 k = rd k) (bg bg' : Nat → Int64) :
    ¬ ob_F bf9 (n + 1) bg' (2 ^ (n + 1)) (2 ^ (n + 1) - 1) < ob_F bf n bg (2 ^ n) (2 ^ n - 1) ∧ ¬ ob_F bf n bg (2 ^ n) (2 ^ n - 1) * (nI (n + 1)).toInt64 < ob_F bf9 (n + 1) bg' (2 ^ (n + 1)) (2 ^ (n + 1) - 1) := by
  obtain ⟨N0, N1, e0, e1, g1, g2, g3, g4⟩ := ob_grow (bg := bg) (bg' := bg') (show n ≤ 11 by omega) hM h9.2.1 h9.2.2.1 hc hd h.2.2.2.1 h9.2.2.2.1
  have b1 : N0 * (n + 1) ≤ 479001600 * 12 := Nat.mul_le_mul g3 (by omega)
  rw [e0, e1, nI_l (by omega), lN_mul, pk_lLT (by omega) (by omega), pk_lLT (by omega) (by omega)]
  omega
