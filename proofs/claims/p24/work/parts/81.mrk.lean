theorem ob_dXOLMCEV {ax : Nat} {ao : Nat → Nat} {al : Nat → Nat} {am : Nat → Nat} {ac : Nat → Nat} {t : Nat → ClassId} {M : Nat → Nat → Int32} {n : Nat} {cl : Nat → Int32} {rd : Nat → Int32} {sv : Nat → Int32} {pb : Nat → Int32} {ba : Nat → Int32} {bf : Nat → Int32} {od : Nat → Int32} {bg : Nat → Int64} {mn : Nat} {ms : Nat → Int32} {mf : Nat → Int32} {mt : Nat → Int32} {mp : Nat → Int32} {cn : Nat} {st : Int32} {Wt : Nat → Nat → Int32} {xe : Nat} {fe : Nat → Int32} {xm : Nat} {fm : Nat → Int32} {M' : Nat → Nat → Int32} {n' : Nat} {cl' : Nat → Int32} {rd' : Nat → Int32} {sv' : Nat → Int32} {pb' : Nat → Int32} {ba' : Nat → Int32} {bf' : Nat → Int32} {od' : Nat → Int32} {bg' : Nat → Int64} {mn' : Nat} {ms' : Nat → Int32} {mf' : Nat → Int32} {mt' : Nat → Int32} {mp' : Nat → Int32} {cn' : Nat} {st' : Int32} {Wt' : Nat → Nat → Int32} {fe' : Nat → Int32} {fm' : Nat → Int32} {A : Nat → Prop} (h : va_D A (ob_wX ax ao al am ac ++ ob_wO t ao M ++ ob_wL t al n cl rd sv pb ba bf od bg ++ ob_wM t am mn ms mf mt mp ++ ob_wC t ac cn st Wt ++ ob_wE t xe fe ++ ob_wV t xm fm)) : va_D A (ob_wX ax ao al am ac ++ ob_wO t ao M' ++ ob_wL t al n' cl' rd' sv' pb' ba' bf' od' bg' ++ ob_wM t am mn' ms' mf' mt' mp' ++ ob_wC t ac cn' st' Wt' ++ ob_wE t xe fe' ++ ob_wV t xm fm') := ob_ds h rfl
-- ===== a mark more
def ob_arr (M : Nat → Nat → Int32) (n : Nat) (cl rd bf od : Nat → Int32) : Prop := (∀ j, j < n → bf j = ob_bs (fun i => ob_se M cl rd i j) n) ∧ ∀ j, j < n → od j = ob_nl bf n (ob_lf bf n j)
theorem ob_arr_2 (M : Nat → Nat → Int32) (n : Nat) (cl rd bf od : Nat → Int32) : ob_arr M n cl rd (ob_bf2 M cl rd n bf n) (ob_od2 (ob_bf2 M cl rd n bf n) n od n) := ⟨fun _ hj => ob_fl_in hj, fun _ hj => ob_fl_in hj⟩
theorem ob_mkq {M N : Nat → Nat → Int32} {a c : Nat} {x y : Int32} (hM : ob_KM M) (ha : a ≤ 4) (hc : c ≤ 4) (hac : a ≠ c) (hx : -11000 ≤ x.toInt ∧ x.toInt ≤ 11000) (hy : -11000 ≤ y.toInt ∧ y.toInt ≤ 11000) (hxy : 0 ≤ x.toInt + y.toInt) (ok : (decide (-x ≤ M c a) && decide (-y ≤ M a c)) = true) (hN : N = ob_bO c a y (ob_bO a c x M 5) 5) :
    ob_KM N ∧ (∀ i j, i ≤ 4 → j ≤ 4 → (N i j).toInt ≤ (M i j).toInt) ∧ (N a c).toInt = (if (M a c).toInt < x.toInt then (M a c).toInt else x.toInt) ∧ (N c a).toInt = (if (M c a).toInt < y.toInt then (M c a).toInt else y.toInt) := by
  obtain ⟨m1, m2⟩ := ob_mk_at (F := ob_Bd M) hM ha hc hac hx hy hxy (fun i j _ hj => (ob_hBq M hj).symm)
  have hKM : ob_KM N := by rw [hN]; exact (m2 ok).1
  obtain ⟨hK, hs, hn⟩ := hM
  have hok : ob_mok (ob_mI M) a c x.toInt y.toInt := by
    rw [Bool.and_eq_true, decide_eq_true_eq, decide_eq_true_eq, ob_lei, ob_lei, ob_negI (by omega) (by omega), ob_negI (by omega) (by omega)] at ok
    simp only [ob_mI, ob_mok]
    omega
  obtain ⟨K1, h2, K2⟩ := ob_m1 hK ha hc hx hy hxy hok
  have e1 : ∀ i j, i ≤ 4 → j ≤ 4 → ob_mI (ob_bO a c x M 5) i j = ob_nb (ob_mI M) a c x.toInt i j := fun i j hi hj => ob_bO5 hK ha hc hx hok.1 (by omega) (by omega) hi hj
  have K1' := ob_K_cg K1 e1
  have e2 : ∀ i j, i ≤ 4 → j ≤ 4 → (N i j).toInt = ob_nb (ob_nb (ob_mI M) a c x.toInt) c a y.toInt i j := fun i j hi hj => by
    rw [hN]
    have := ob_bO5 K1' hc ha hy (by rw [e1 a c ha hc]; exact h2) (by omega) (by omega) hi hj
    exact this.trans (ob_nb_cg e1 hi hj hc ha)
  have z1 : (M a a).toInt = 0 := hK.1 a ha
  have z2 : (M c c).toInt = 0 := hK.1 c hc
  have z3 := K1.1 a ha
  have z4 := K1.1 c hc
  have p1 : ob_nb (ob_mI M) a c x.toInt a c = if (M a c).toInt < x.toInt then (M a c).toInt else x.toInt := by
    simp only [ob_nb, ob_mI]
    split <;> split <;> omega
  have p2 : ob_nb (ob_mI M) a c x.toInt c a = (M c a).toInt := by
    have := hok.1
    simp only [ob_mI] at this
    simp only [ob_nb, ob_mI]
    split <;> omega
  refine ⟨hKM, fun i j hi hj => ?_, ?_, ?_⟩
  · have a2 := @ob_nb_le (ob_nb (ob_mI M) a c x.toInt) c a y.toInt i j
    have a3 : ob_nb (ob_mI M) a c x.toInt i j ≤ (M i j).toInt := ob_nb_le
    rw [e2 i j hi hj]
    omega
  · rw [e2 a c ha hc, ← p1]
    obtain ⟨N1, hN1⟩ : ∃ z, z = ob_nb (ob_mI M) a c x.toInt := ⟨_, rfl⟩
    rw [← hN1] at h2 ⊢
    show (if N1 a c < 1000000 ∧ N1 a c < 1000000 ∧ N1 a c + y.toInt + N1 a c < N1 a c then N1 a c + y.toInt + N1 a c else N1 a c) = N1 a c
    rw [if_neg]
    rintro ⟨f1, -, f2⟩
    have := h2 f1
    omega
  · rw [e2 c a hc ha, ← p2]
    obtain ⟨N1, hN1⟩ : ∃ z, z = ob_nb (ob_mI M) a c x.toInt := ⟨_, rfl⟩
    rw [← hN1] at z3 z4 ⊢
    show (if N1 c c < 1000000 ∧ N1 a a < 1000000 ∧ N1 c c + y.toInt + N1 a a < N1 c a then N1 c c + y.toInt + N1 a a else N1 c a) = _
    split <;> split <;> omega
theorem ob_mkI {sl ra rb : Nat} (h3 : ra ≤ 10000) (h4 : rb ≤ 10000) (h5 : sl ≤ 1000) : (nI sl - nI ra + nI rb).toInt = (sl : Int) - ra + rb ∧ (-(nI sl) - nI ra + nI rb).toInt = -(sl : Int) - ra + rb ∧ (nI rb - nI ra + nI sl).toInt = (rb : Int) - ra + sl ∧ (nI sl - (nI rb - nI ra)).toInt = (sl : Int) - (rb - ra) := by
  have t1 := ob_ti (show sl ≤ 1073741824 by omega)
  have t2 := ob_ti (show ra ≤ 1073741824 by omega)
  have t3 := ob_ti (show rb ≤ 1073741824 by omega)
  have u1 : (nI sl - nI ra).toInt = (sl : Int) - ra := by rw [ob_subI (by omega) (by omega)]; omega
  have u2 : (-(nI sl)).toInt = -(sl : Int) := by rw [ob_negI (by omega) (by omega)]; omega
  have u3 : (-(nI sl) - nI ra).toInt = -(sl : Int) - ra := by rw [ob_subI (by omega) (by omega)]; omega
  have u4 : (nI rb - nI ra).toInt = (rb : Int) - ra := by rw [ob_subI (by omega) (by omega)]; omega
  refine ⟨?_, ?_, ?_, ?_⟩
  · rw [ob_addI (by omega) (by omega)]; omega
  · rw [ob_addI (by omega) (by omega)]; omega
  · rw [ob_addI (by omega) (by omega)]; omega
  · rw [ob_subI (by omega) (by omega)]; omega
def ob_cK (M : Nat → Nat → Int32) (cf ra cs rb sl : Nat) : Bool := decide (-(nI rb - nI ra + nI sl) ≤ M cs cf) && decide (-(nI sl - (nI rb - nI ra)) ≤ M cf cs)
section
variable {M : Nat → Nat → Int32} {cf ra cs rb sl : Nat} {hi lo : Int32}
theorem ob_kmB {a b : Nat} (hM : ob_KM M) (ha : a ≤ 4) (hb : b ≤ 4) : -44000 ≤ (M a b).toInt ∧ (M a b).toInt ≤ 1000000 := by
  have h1 := hM.1.2.1 a b ha hb
  have h2 := hM.1.2.2.1 a b ha hb
  simp only [ob_mI] at h1 h2
  by_cases c : (M a b).toInt < 1000000
  · have := h2 c
    omega
  · omega
theorem ob_cK_i (h3 : ra ≤ 10000) (h4 : rb ≤ 10000) (h5 : sl ≤ 1000) : ob_cK M cf ra cs rb sl = true ↔ -((rb : Int) - ra + sl) ≤ (M cs cf).toInt ∧ -((sl : Int) - (rb - ra)) ≤ (M cf cs).toInt := by
  obtain ⟨-, -, i3, i4⟩ := ob_mkI h3 h4 h5
  unfold ob_cK
  rw [Bool.and_eq_true, decide_eq_true_eq, decide_eq_true_eq, ob_lei, ob_lei, ob_negI (by omega) (by omega), ob_negI (by omega) (by omega), i3, i4]
theorem ob_cK_t (hM : ob_KM M) (h1 : cf ≤ 4) (h2 : cs ≤ 4) (h3 : ra ≤ 10000) (h4 : rb ≤ 10000) (h5 : sl ≤ 1000) (e7 : hi = nI sl - nI ra + nI rb) (e18 : lo = -(nI sl) - nI ra + nI rb) (hA : M cf cs = 1000000 ∨ ¬ M cf cs < lo) (hB : M cs cf = 1000000 ∨ ¬ hi < -(M cs cf)) : ob_cK M cf ra cs rb sl = true := by
  obtain ⟨i1, i2, -, -⟩ := ob_mkI h3 h4 h5
  have b1 := ob_kmB hM h2 h1
  rw [ob_cK_i h3 h4 h5]
  rw [ob_eqi, ob_UI, ob_lti, e18, i2] at hA
  rw [ob_eqi, ob_UI, ob_lti, e7, i1, ob_negI (by omega) (by omega)] at hB
  omega
theorem ob_cK_f1 (h3 : ra ≤ 10000) (h4 : rb ≤ 10000) (h5 : sl ≤ 1000) (e18 : lo = -(nI sl) - nI ra + nI rb) (h : M cf cs < lo) : ob_cK M cf ra cs rb sl = false := by
  obtain ⟨i1, i2, -, -⟩ := ob_mkI h3 h4 h5
  rw [ob_lti, e18, i2] at h
  cases c : ob_cK M cf ra cs rb sl with
  | false => rfl
  | true =>
    have := (ob_cK_i h3 h4 h5).mp c
    omega
theorem ob_cK_f2 (hM : ob_KM M) (h1 : cf ≤ 4) (h2 : cs ≤ 4) (h3 : ra ≤ 10000) (h4 : rb ≤ 10000) (h5 : sl ≤ 1000) (e7 : hi = nI sl - nI ra + nI rb) (h : hi < -(M cs cf)) : ob_cK M cf ra cs rb sl = false := by
  obtain ⟨i1, i2, -, -⟩ := ob_mkI h3 h4 h5
  have b1 := ob_kmB hM h2 h1
  rw [ob_lti, e7, i1, ob_negI (by omega) (by omega)] at h
  cases c : ob_cK M cf ra cs rb sl with
  | false => rfl
  | true =>
    have := (ob_cK_i h3 h4 h5).mp c
    omega
theorem ob_mkz (h1 : cf ≤ 4) (h2 : cs ≤ 4) (h12 : cf ≠ cs) (h3 : ra ≤ 10000) (h4 : rb ≤ 10000) (h5 : sl ≤ 1000) : ob_z2 (ob_wi (nI cf) (nI 0) (nI 4) && (ob_wi (nI cs) (nI 0) (nI 4) && (!decide (nI cf = nI cs) && (ob_wi (nI ra) (nI 0) (nI 10000) && (ob_wi (nI rb) (nI 0) (nI 10000) && ob_wi (nI sl) (nI 0) (nI 1000)))))) (decide (-(nI rb - nI ra + nI sl) ≤ ob_ms M (nI cs) (nI cf)) && decide (-(nI sl - (nI rb - nI ra)) ≤ ob_ms M (nI cf) (nI cs))) = if ob_cK M cf ra cs rb sl = true then 0 else 2 := by
  have hne : ¬ nI cf = nI cs := fun z => h12 ((nI_eq (ob_nlt (by omega)) (ob_nlt (by omega))).mp z)
  rw [ob_wi_nI h1 (by decide), ob_wi_nI h2 (by decide), ob_wi_nI h3 (by decide), ob_wi_nI h4 (by decide), ob_wi_nI h5 (by decide), ob_ms_nI h2 h1, ob_ms_nI h1 h2, decide_eq_false hne]
  show ob_z2 true (ob_cK M cf ra cs rb sl) = _
  cases ob_cK M cf ra cs rb sl <;> rfl
/-- what a mark that is taken leaves -/
theorem ob_mkJ {M9 : Nat → Nat → Int32} (hM : ob_KM M) (h1 : cf ≤ 4) (h2 : cs ≤ 4) (h12 : cf ≠ cs) (h3 : ra ≤ 10000) (h4 : rb ≤ 10000) (h5 : sl ≤ 1000) (hc : ob_cK M cf ra cs rb sl = true) (eM : M9 = ob_mk M (nI cf).toNatClampNeg (nI cs).toNatClampNeg (nI ra) (nI rb) (nI sl)) :
    ob_KM M9 ∧ (∀ i j, i ≤ 4 → j ≤ 4 → (M9 i j).toInt ≤ (M i j).toInt) ∧ (M9 cf cs).toInt = (if (M cf cs).toInt < (rb : Int) - ra + sl then (M cf cs).toInt else (rb : Int) - ra + sl) ∧ (M9 cs cf).toInt = (if (M cs cf).toInt < (sl : Int) - (rb - ra) then (M cs cf).toInt else (sl : Int) - (rb - ra)) := by
  obtain ⟨-, -, i3, i4⟩ := ob_mkI h3 h4 h5
  rw [ob_cl (by omega), ob_cl (by omega)] at eM
  have := ob_mkq (x := nI rb - nI ra + nI sl) (y := nI sl - (nI rb - nI ra)) hM h1 h2 h12 (by omega) (by omega) (by omega) hc eM
  rw [i3, i4] at this
  exact this
theorem ob_mkA {M9 : Nat → Nat → Int32} (h3 : ra ≤ 10000) (h4 : rb ≤ 10000) (h5 : sl ≤ 1000) (e7 : hi = nI sl - nI ra + nI rb) (e18 : lo = -(nI sl) - nI ra + nI rb) (hc1 : (M9 cf cs).toInt = (if (M cf cs).toInt < (rb : Int) - ra + sl then (M cf cs).toInt else (rb : Int) - ra + sl)) (hc2 : (M9 cs cf).toInt = (if (M cs cf).toInt < (sl : Int) - (rb - ra) then (M cs cf).toInt else (sl : Int) - (rb - ra))) :
    (¬ hi ≤ M cf cs → M9 cf cs = M cf cs) ∧ (hi ≤ M cf cs → M9 cf cs = hi) ∧ (¬ -lo ≤ M cs cf → M9 cs cf = M cs cf) ∧ (-lo ≤ M cs cf → M9 cs cf = -lo) := by
  obtain ⟨i1, i2, -, -⟩ := ob_mkI h3 h4 h5
  have n2 : (-lo).toInt = (sl : Int) - (rb - ra) := by
    rw [e18, ob_negI (by omega) (by omega), i2]
    omega
  have n1 : hi.toInt = (rb : Int) - ra + sl := by rw [e7, i1]; omega
  refine ⟨fun h => ?_, fun h => ?_, fun h => ?_, fun h => ?_⟩
  · rw [ob_lei, n1] at h
    rw [ob_eqi, hc1, if_pos (by omega)]
  · rw [ob_lei, n1] at h
    rw [ob_eqi, hc1, n1, if_neg (by omega)]
  · rw [ob_lei, n2] at h
    rw [ob_eqi, hc2, if_pos (by omega)]
  · rw [ob_lei, n2] at h
    rw [ob_eqi, hc2, n2, if_neg (by omega)]
theorem ob_Jc_s {M9 : Nat → Nat → Int32} {fe : Nat → Int32} {mk : Nat} (h1 : cf ≤ 4) (h2 : cs ≤ 4) (h3 : ra ≤ 10000) (h4 : rb ≤ 10000) (h5 : sl ≤ 1000) (hm : mk < 12) (hmk : ∀ k, k < mk → ob_mkd M fe k) (hK : ob_KM M9) (hle : ∀ i j, i ≤ 4 → j ≤ 4 → (M9 i j).toInt ≤ (M i j).toInt)
    (hc1 : (M9 cf cs).toInt = (if (M cf cs).toInt < (rb : Int) - ra + sl then (M cf cs).toInt else (rb : Int) - ra + sl)) (hc2 : (M9 cs cf).toInt = (if (M cs cf).toInt < (sl : Int) - (rb - ra) then (M cs cf).toInt else (sl : Int) - (rb - ra))) :
    ob_Jc M9 (upd (upd (upd (upd (upd fe (5 * mk) (nI cf)) (5 * mk + 1) (nI ra)) (5 * mk + 2) (nI cs)) (5 * mk + 3) (nI rb)) (5 * mk + 4) (nI sl)) (mk + 1) := by
  refine ⟨hK, by omega, fun k hk => ?_⟩
  rcases Nat.lt_or_ge k mk with c | c
  · obtain ⟨f, a, s, b, z, g1, g2, g3, g4, g5, e1, e2, e3, e4, e5, g6, g7⟩ := hmk k c
    have l1 := hle f s g1 g2
    have l2 := hle s f g2 g1
    refine ⟨f, a, s, b, z, g1, g2, g3, g4, g5, ?_, ?_, ?_, ?_, ?_, by omega, by omega⟩
    · rw [pk_un (by omega), pk_un (by omega), pk_un (by omega), pk_un (by omega), pk_un (by omega), e1]
    · rw [pk_un (by omega), pk_un (by omega), pk_un (by omega), pk_un (by omega), pk_un (by omega), e2]
    · rw [pk_un (by omega), pk_un (by omega), pk_un (by omega), pk_un (by omega), pk_un (by omega), e3]
    · rw [pk_un (by omega), pk_un (by omega), pk_un (by omega), pk_un (by omega), pk_un (by omega), e4]
    · rw [pk_un (by omega), pk_un (by omega), pk_un (by omega), pk_un (by omega), pk_un (by omega), e5]
  · have ek : k = mk := by omega
    subst ek
    refine ⟨cf, ra, cs, rb, sl, h1, h2, h3, h4, h5, ?_, ?_, ?_, ?_, ?_, ?_, ?_⟩
    · rw [pk_un (by omega), pk_un (by omega), pk_un (by omega), pk_un (by omega), pk_us]
    · rw [pk_un (by omega), pk_un (by omega), pk_un (by omega), pk_us]
    · rw [pk_un (by omega), pk_un (by omega), pk_us]
    · rw [pk_un (by omega), pk_us]
    · rw [pk_us]
    · rw [hc1]
      split <;> omega
    · rw [hc2]
      split <;> omega
end
set_option maxRecDepth 100000 in
set_option maxHeartbeats 16000000 in
theorem c_L_isMarked (l : Launch) (hl9 : l.stackTraces = false) (sa : Nat → Nat) (D : va_G) (t : Nat → ClassId) (sz : Nat) (ax : Nat) (ao al am ac : Nat → Nat) (M : Nat → Nat → Int32) (n : Nat) (cl rd sv pb ba bf od : Nat → Int32) (bg : Nat → Int64) (mn : Nat) (ms mf mt mp : Nat → Int32) (cn : Nat) (st : Int32) (Wt : Nat → Nat → Int32) (xe xm : Nat) (fe fm : Nat → Int32) (mk cf ra cs rb sl : Nat) (hM : ob_KM M) (hmk : ∀ k, k < mk → ob_mkd M fe k) (hm : mk < 12) (harr : ob_arr M n cl rd bf od) (hJf : ob_Jf n mn cn st mk fm) (hn : n ≤ 12) (hmn : mn ≤ 40) (hcn : cn ≤ 8) (h1 : cf ≤ 4) (h2 : cs ≤ 4) (h12 : cf ≠ cs) (h3 : ra ≤ 10000) (h4 : rb ≤ 10000) (h5 : sl ≤ 1000) : Met l yL_isMarked wsL_isMarked ({ frames := 8, cells := 1, slots := 6, locals := 187 } : Room) (ob_PY D t (ob_wX ax ao al am ac ++ ob_wO t ao M ++ ob_wL t al n cl rd sv pb ba bf od bg ++ ob_wM t am mn ms mf mt mp ++ ob_wC t ac cn st Wt ++ ob_wE t xe fe ++ ob_wV t xm fm) sz sa [.ref ax, .ref xe, .ref xm, .int (nI cf), .int (nI ra), .int (nI cs), .int (nI rb), .int (nI sl)]) (va_Qi (fun (r : Int32) (_ : Unit) => r = nI 1) (fun (_ : Unit) (t9 : State) => ∃ (M' : Nat → Nat → Int32) (bf' od' fe' fm' : Nat → Int32) (mk' : Nat), va_P D vwCl (ob_wX ax ao al am ac ++ ob_wO t ao M' ++ ob_wL t al n cl rd sv pb ba bf' od' bg ++ ob_wM t am mn ms mf mt mp ++ ob_wC t ac cn st Wt ++ ob_wE t xe fe' ++ ob_wV t xm fm') t9.heap ∧ ob_Jc M' fe' mk' ∧ ob_arr M' n cl rd bf' od' ∧ ob_Jf n mn cn st mk' fm') (va_A (ob_wX ax ao al am ac ++ ob_wO t ao M ++ ob_wL t al n cl rd sv pb ba bf od bg ++ ob_wM t am mn ms mf mt mp ++ ob_wC t ac cn st Wt ++ ob_wE t xe fe ++ ob_wV t xm fm) sz)) 1 6 (va_A (ob_wX ax ao al am ac ++ ob_wO t ao M ++ ob_wL t al n cl rd sv pb ba bf od bg ++ ob_wM t am mn ms mf mt mp ++ ob_wC t ac cn st Wt ++ ob_wE t xe fe ++ ob_wV t xm fm) sz) := by
  refine Met.ofW (cc := cL_isMarked) (maxL := 17) (ret := (some .boolean)) (by decide) rfl ?_
  intro p e s m args below meth c s₁ B hml hv
  obtain ⟨rfl, hsz, hP, hk, hD0, hE0, hN⟩ := hv
  have hx := B.exec
  have hb := B.bytes
  have hr := B.returns
  have hts := atoms_spec (ws := wsL_isMarked) B.pre
  have hown : s.vm.findClass RL = some m.cls := findClass_of_methodNamed B.named
  have hlocks := B.notSynchronized
  have hK := hk.1
  have hD : va_D (va_A (ob_wX ax ao al am ac ++ ob_wO t ao M ++ ob_wL t al n cl rd sv pb ba bf od bg ++ ob_wM t am mn ms mf mt mp ++ ob_wC t ac cn st Wt ++ ob_wE t xe fe ++ ob_wV t xm fm) sz) (ob_wX ax ao al am ac ++ ob_wO t ao M ++ ob_wL t al n cl rd sv pb ba bf od bg ++ ob_wM t am mn ms mf mt mp ++ ob_wC t ac cn st Wt ++ ob_wE t xe fe ++ ob_wV t xm fm) := hD0.self (sz := sz)
  have hA : ∀ q : Nat, s.heap.size ≤ q → (va_A (ob_wX ax ao al am ac ++ ob_wO t ao M ++ ob_wL t al n cl rd sv pb ba bf od bg ++ ob_wM t am mn ms mf mt mp ++ ob_wC t ac cn st Wt ++ ob_wE t xe fe ++ ob_wV t xm fm) sz) q := fun q h => Or.inr (hsz ▸ h)
  have hS : va_S (va_A (ob_wX ax ao al am ac ++ ob_wO t ao M ++ ob_wL t al n cl rd sv pb ba bf od bg ++ ob_wM t am mn ms mf mt mp ++ ob_wC t ac cn st Wt ++ ob_wE t xe fe ++ ob_wV t xm fm) sz) s.heap s.heap [] := va_S.rf
  have hl := lv_entry [.ref ax, .ref xe, .ref xm, .int (nI cf), .int (nI ra), .int (nI cs), .int (nI rb), .int (nI sl)] (n := 17) (Nat.le_of_ble_eq_true rfl)
  rw [lg_entry_eq]
  generalize (lg_sl [.ref ax, .ref xe, .ref xm, .int (nI cf), .int (nI ra), .int (nI cs), .int (nI rb), .int (nI sl)] ++ List.replicate (17 - (lg_sl [.ref ax, .ref xe, .ref xm, .int (nI cf), .int (nI ra), .int (nI cs), .int (nI rb), .int (nI sl)]).length) Slot.unset).toArray = ls at hl ⊢
  have hl : lv_has ls 17 [(0, .ref ax), (1, .ref xe), (2, .ref xm), (3, .int (nI cf)), (4, .int (nI ra)), (5, .int (nI cs)), (6, .int (nI rb)), (7, .int (nI sl))] := hl
  have hP : va_P D vwCl (ob_wX ax ao al am ac ++ ob_wO t ao M ++ ob_wL t al n cl rd sv pb ba bf od bg ++ ob_wM t am mn ms mf mt mp ++ ob_wC t ac cn st Wt ++ ob_wE t xe fe ++ ob_wV t xm fm) s.heap := hP
  obtain ⟨hf0, hf1, hf2, hf3, hf5⟩ := id hJf
  refine lv_iload hx hb dL_isMarked_0 (lv_at hl 7 rfl) ?_
  refine lv_iload hx hb dL_isMarked_2 (lv_at hl 4 rfl) ?_
  refine lv_isub hx hb dL_isMarked_4 ?_
  refine lv_iload hx hb dL_isMarked_5 (lv_at hl 6 rfl) ?_
  refine lv_iadd hx hb dL_isMarked_7 ?_
  refine lv_topi (fun hi e7 => ?_)
  refine lv_istore (lv' := [(8, .int hi), (0, .ref ax), (1, .ref xe), (2, .ref xm), (3, .int (nI cf)), (4, .int (nI ra)), (5, .int (nI cs)), (6, .int (nI rb)), (7, .int (nI sl))]) hx hb dL_isMarked_8 hl (by decide) rfl (fun ls hl => ?_)
  refine lv_iload hx hb dL_isMarked_10 (lv_at hl 8 rfl) ?_
  refine lv_ineg hx hb dL_isMarked_12 ?_
  refine lv_iload hx hb dL_isMarked_13 (lv_at hl 5 rfl) ?_
  refine lv_isub hx hb dL_isMarked_15 ?_
  refine lv_iload hx hb dL_isMarked_16 (lv_at hl 7 rfl) ?_
  refine lv_iadd hx hb dL_isMarked_18 ?_
  refine lv_topi (fun lo e18 => ?_)
  refine lv_istore (lv' := [(9, .int lo), (8, .int hi), (0, .ref ax), (1, .ref xe), (2, .ref xm), (3, .int (nI cf)), (4, .int (nI ra)), (5, .int (nI cs)), (6, .int (nI rb)), (7, .int (nI sl))]) hx hb dL_isMarked_19 hl (by decide) rfl (fun ls hl => ?_)
  refine lv_aload_n hx hb dL_isMarked_21 rfl (lv_at hl 2 rfl) ?_
  refine lv_iload_n hx hb dL_isMarked_22 rfl (lv_at hl 5 rfl) ?_
  refine lv_iload hx hb dL_isMarked_23 (lv_at hl 7 rfl) ?_
  refine vp_callSi (va_Run.run (va_runV (As := [.int (nI cf), .int (nI cs)]) (rest := []) ⟨hx, hb, hml, hown, hts⟩ (n_X4_greatest l D t ax ao al am ac M n cl rd sv pb ba bf od bg cf cs (by first | assumption | omega) (by first | assumption | omega)) (cwV 2 hts gL_isMarked_X4_greatest rfl rfl rfl (by decide +kernel) ⟨Nat.le_of_ble_eq_true rfl, Nat.le_of_ble_eq_true rfl⟩) (ob_preV (ci := 4) (q0 := 0) (hP.sub [0, 1, 2, 3, 4, 5, 6, 7, 8, 9, 10, 11, 12, 13, 14, 15, 16] rfl) hk rfl rfl) rfl rfl hl.1 rfl (lv_room (Nat.le_of_ble_eq_true rfl)) dL_isMarked_25 ⟨Nat.le_of_ble_eq_true rfl, Nat.le_of_ble_eq_true rfl⟩)) (fun r9 hr9 => ?_)
  subst hr9
  refine lv_istore (lv' := [(10, .int (M cf cs)), (9, .int lo), (8, .int hi), (0, .ref ax), (1, .ref xe), (2, .ref xm), (3, .int (nI cf)), (4, .int (nI ra)), (5, .int (nI cs)), (6, .int (nI rb)), (7, .int (nI sl))]) hx hb dL_isMarked_28 hl (by decide) rfl (fun ls hl => ?_)
  refine lv_aload_n hx hb dL_isMarked_30 rfl (lv_at hl 3 rfl) ?_
  refine lv_iload hx hb dL_isMarked_31 (lv_at hl 8 rfl) ?_
  refine lv_iload_n hx hb dL_isMarked_33 rfl (lv_at hl 6 rfl) ?_
  refine vp_callSi (va_Run.run (va_runV (As := [.int (nI cs), .int (nI cf)]) (rest := []) ⟨hx, hb, hml, hown, hts⟩ (n_X4_greatest l D t ax ao al am ac M n cl rd sv pb ba bf od bg cs cf (by first | assumption | omega) (by first | assumption | omega)) (cwV 2 hts gL_isMarked_X4_greatest rfl rfl rfl (by decide +kernel) ⟨Nat.le_of_ble_eq_true rfl, Nat.le_of_ble_eq_true rfl⟩) (ob_preV (ci := 4) (q0 := 0) (hP.sub [0, 1, 2, 3, 4, 5, 6, 7, 8, 9, 10, 11, 12, 13, 14, 15, 16] rfl) hk rfl rfl) rfl rfl hl.1 rfl (lv_room (Nat.le_of_ble_eq_true rfl)) dL_isMarked_34 ⟨Nat.le_of_ble_eq_true rfl, Nat.le_of_ble_eq_true rfl⟩)) (fun r9 hr9 => ?_)
  subst hr9
  refine lv_istore (lv' := [(11, .int (M cs cf)), (10, .int (M cf cs)), (9, .int lo), (8, .int hi), (0, .ref ax), (1, .ref xe), (2, .ref xm), (3, .int (nI cf)), (4, .int (nI ra)), (5, .int (nI cs)), (6, .int (nI rb)), (7, .int (nI sl))]) hx hb dL_isMarked_37 hl (by decide) rfl (fun ls hl => ?_)
  have k72 : (ob_cK M cf ra cs rb sl = false) → ∀ ls : Array Slot, lv_has ls 17 [(0, .ref ax), (1, .ref xe), (2, .ref xm), (3, .int (nI cf)), (4, .int (nI ra)), (5, .int (nI cs)), (6, .int (nI rb)), (7, .int (nI sl)), (8, .int hi), (9, .int lo), (10, .int (M cf cs)), (11, .int (M cs cf))] → W p l e (headSpec wsL_isMarked ({ frames := 8, cells := 1, slots := 6, locals := 187 } : Room)).room s m ([.ref ax, .ref xe, .ref xm, .int (nI cf), .int (nI ra), .int (nI cs), .int (nI rb), .int (nI sl)] : List Value).toArray below meth c s.heap [] 0 0 (MQ below (va_Qi (fun (r : Int32) (_ : Unit) => r = nI 1) (fun (_ : Unit) (t9 : State) => ∃ (M' : Nat → Nat → Int32) (bf' od' fe' fm' : Nat → Int32) (mk' : Nat), va_P D vwCl (ob_wX ax ao al am ac ++ ob_wO t ao M' ++ ob_wL t al n cl rd sv pb ba bf' od' bg ++ ob_wM t am mn ms mf mt mp ++ ob_wC t ac cn st Wt ++ ob_wE t xe fe' ++ ob_wV t xm fm') t9.heap ∧ ob_Jc M' fe' mk' ∧ ob_arr M' n cl rd bf' od' ∧ ob_Jf n mn cn st mk' fm') (va_A (ob_wX ax ao al am ac ++ ob_wO t ao M ++ ob_wL t al n cl rd sv pb ba bf od bg ++ ob_wM t am mn ms mf mt mp ++ ob_wC t ac cn st Wt ++ ob_wE t xe fe ++ ob_wV t xm fm) sz)) ([.ref ax, .ref xe, .ref xm, .int (nI cf), .int (nI ra), .int (nI cs), .int (nI rb), .int (nI sl)] : List Value).toArray s 1 6 (va_A (ob_wX ax ao al am ac ++ ob_wO t ao M ++ ob_wL t al n cl rd sv pb ba bf od bg ++ ob_wM t am mn ms mf mt mp ++ ob_wC t ac cn st Wt ++ ob_wE t xe fe ++ ob_wV t xm fm) sz)) (F0 m 72 ls []) := by
    intro  hno ls hl
    refine lv_iconst (v := nI 0) hx hb dL_isMarked_72 (by decide) ?_
    refine lv_istore (lv' := [(12, .int (nI 0)), (0, .ref ax), (1, .ref xe), (2, .ref xm), (3, .int (nI cf)), (4, .int (nI ra)), (5, .int (nI cs)), (6, .int (nI rb)), (7, .int (nI sl)), (8, .int hi), (9, .int lo), (10, .int (M cf cs)), (11, .int (M cs cf))]) hx hb dL_isMarked_73 hl (by decide) rfl (fun ls hl => ?_)
    refine lv_aload_n hx hb dL_isMarked_75 rfl (lv_at hl 1 rfl) ?_
    refine lv_aload_n hx hb dL_isMarked_76 rfl (lv_at hl 3 rfl) ?_
    refine vp_callSl (va_Run.run (va_runS (As := [.ref ax, .ref xm]) (rest := []) ⟨hx, hb, hml, hown, hts⟩ (c_L_all l D t ax ao al am ac M n cl rd sv pb ba bf od bg mn ms mf mt mp cn st Wt xm fm (by first | assumption | omega) (by first | assumption | omega) (by first | assumption | omega) (by first | assumption | omega) (by first | assumption | omega)) (va_cwS 2 hts gL_isMarked_L_all rfl rfl rfl (by decide +kernel) ⟨Nat.le_of_ble_eq_true rfl, Nat.le_of_ble_eq_true rfl⟩) (ob_preS (hP.sub [0, 1, 2, 3, 4, 5, 6, 7, 8, 9, 10, 11, 12, 13, 14, 15, 16, 17, 18, 19, 20, 21, 22, 23, 24, 25, 26, 27, 28, 29, 30, 31, 32, 33, 34, 35, 36, 37, 38, 39, 41] rfl) hk) rfl rfl hl.1 rfl (lv_room (Nat.le_of_ble_eq_true rfl)) dL_isMarked_77 ⟨Nat.le_of_ble_eq_true rfl, Nat.le_of_ble_eq_true rfl⟩)) (fun r9 hr9 => ?_)
    subst hr9
    refine lv_lstore (lv' := [(13, .long (ob_all M n pb ba od mn ms mf mt mp cn st Wt)), (12, .int (nI 0)), (0, .ref ax), (1, .ref xe), (2, .ref xm), (3, .int (nI cf)), (4, .int (nI ra)), (5, .int (nI cs)), (6, .int (nI rb)), (7, .int (nI sl)), (8, .int hi), (9, .int lo), (10, .int (M cf cs)), (11, .int (M cs cf))]) hx hb dL_isMarked_80 hl (by decide) rfl (fun ls hl => ?_)
    refine lv_aload_n hx hb dL_isMarked_82 rfl (lv_at hl 2 rfl) ?_
    refine lv_iload_n hx hb dL_isMarked_83 rfl (lv_at hl 5 rfl) ?_
    refine lv_iload hx hb dL_isMarked_84 (lv_at hl 6 rfl) ?_
    refine lv_iload hx hb dL_isMarked_86 (lv_at hl 7 rfl) ?_
    refine lv_iload hx hb dL_isMarked_88 (lv_at hl 8 rfl) ?_
    refine lv_iload hx hb dL_isMarked_90 (lv_at hl 9 rfl) ?_
    have hFc := va_free (wc := ob_wX ax ao al am ac ++ ob_wO t ao M ++ ob_wL t al n cl rd sv pb ba bf od bg) hD hS hA [0, 1, 2, 3, 4, 5, 6, 7, 8, 9, 10, 11, 12, 13, 14, 15, 16] rfl
    refine va_calli (ob_runN (vx_runSX (As := [.ref ax, .int (nI cf), .int (nI ra), .int (nI cs), .int (nI rb), .int (nI sl)]) (rest := []) ⟨hx, hb, hml, hown, hts⟩ (y_mark_no1 l hl9 sa D t s.heap.size ax ao al am ac M n cl rd sv pb ba bf od bg (nI cf) (nI ra) (nI cs) (nI rb) (nI sl) (by first | assumption | omega) (by rw [ob_mkz h1 h2 h12 h3 h4 h5, hno]; rfl)) (vx_cwSW 6 hts gL_isMarked_L_mark rfl rfl rfl (by decide +kernel) ⟨Nat.le_of_ble_eq_true rfl, Nat.le_of_ble_eq_true rfl⟩) (ob_pYS (hP.sub [0, 1, 2, 3, 4, 5, 6, 7, 8, 9, 10, 11, 12, 13, 14, 15, 16] rfl) (hD.sub [0, 1, 2, 3, 4, 5, 6, 7, 8, 9, 10, 11, 12, 13, 14, 15, 16] (by decide) rfl) hk (ob_exN hE0 hS hFc) hN) rfl rfl hl.1 rfl (lv_room (Nat.le_of_ble_eq_true rfl)) dL_isMarked_92 ⟨Nat.le_of_ble_eq_true rfl, Nat.le_of_ble_eq_true rfl⟩)) hS (fun q _ h => hFc q h) hFc (fun r9 u9 t9 H1 locs ht hvm hw9 hB hz1 hk1 hS => ?_)
    refine W.widen (k := 1) (n := 6) (Nat.le_of_ble_eq_true rfl) (Nat.le_of_ble_eq_true rfl) ?_
    rw [ht] at hB
    have hP := ob_jn (ws' := ob_wX ax ao al am ac ++ ob_wO t ao M ++ ob_wL t al n cl rd sv pb ba bf od bg ++ ob_wM t am mn ms mf mt mp ++ ob_wC t ac cn st Wt ++ ob_wE t xe fe ++ ob_wV t xm fm) hP hD [some 0, some 1, some 2, some 3, some 4, some 5, some 6, some 7, some 8, some 9, some 10, some 11, some 12, some 13, some 14, some 15, some 16, none, none, none, none, none, none, none, none, none, none, none, none, none, none, none, none, none, none, none, none, none, none, none, none, none] [0, 1, 2, 3, 4, 5, 6, 7, 8, 9, 10, 11, 12, 13, 14, 15, 16] rfl rfl hk1 hB rfl
    have hD : va_D (va_A (ob_wX ax ao al am ac ++ ob_wO t ao M ++ ob_wL t al n cl rd sv pb ba bf od bg ++ ob_wM t am mn ms mf mt mp ++ ob_wC t ac cn st Wt ++ ob_wE t xe fe ++ ob_wV t xm fm) sz) (ob_wX ax ao al am ac ++ ob_wO t ao M ++ ob_wL t al n cl rd sv pb ba bf od bg ++ ob_wM t am mn ms mf mt mp ++ ob_wC t ac cn st Wt ++ ob_wE t xe fe ++ ob_wV t xm fm) := ob_dXOLMCEV hD
    generalize H1 = H at hP hS ⊢
    subst hw9
    refine lv_istore (lv' := [(15, .int (-3000003)), (13, .long (ob_all M n pb ba od mn ms mf mt mp cn st Wt)), (12, .int (nI 0)), (0, .ref ax), (1, .ref xe), (2, .ref xm), (3, .int (nI cf)), (4, .int (nI ra)), (5, .int (nI cs)), (6, .int (nI rb)), (7, .int (nI sl)), (8, .int hi), (9, .int lo), (10, .int (M cf cs)), (11, .int (M cs cf))]) hx hb dL_isMarked_95 hl (by decide) rfl (fun ls hl => ?_)
    refine lv_iload hx hb dL_isMarked_97 (lv_at hl 2 rfl) ?_
    refine lv_if_ne (tgt := 126) hx hb dL_isMarked_99 (by decide) (fun c9 => absurd c9 (by decide)) (fun _ => ?_)
    refine lv_iload hx hb dL_isMarked_102 (lv_at hl 0 rfl) ?_
    refine lv_ldc (v := -3000003) hx hb hown (hts (Cond.constant RL 20 (-3000003)) (List.mem_of_getElem? (i := 2) rfl)) dL_isMarked_104 ?_
    refine lv_icmp_ne (tgt := 124) hx hb dL_isMarked_106 (by decide) (fun c9 => absurd c9 (by decide)) (fun _ => ?_)
    refine lv_aload_n hx hb dL_isMarked_109 rfl (lv_at hl 3 rfl) ?_
    refine lv_aload_n hx hb dL_isMarked_110 rfl (lv_at hl 5 rfl) ?_
    refine vp_callSl (va_Run.run (va_runS (As := [.ref ax, .ref xm]) (rest := []) ⟨hx, hb, hml, hown, hts⟩ (c_L_all l D t ax ao al am ac M n cl rd sv pb ba bf od bg mn ms mf mt mp cn st Wt xm fm (by first | assumption | omega) (by first | assumption | omega) (by first | assumption | omega) (by first | assumption | omega) (by first | assumption | omega)) (va_cwS 2 hts gL_isMarked_L_all rfl rfl rfl (by decide +kernel) ⟨Nat.le_of_ble_eq_true rfl, Nat.le_of_ble_eq_true rfl⟩) (ob_preS (hP.sub [0, 1, 2, 3, 4, 5, 6, 7, 8, 9, 10, 11, 12, 13, 14, 15, 16, 17, 18, 19, 20, 21, 22, 23, 24, 25, 26, 27, 28, 29, 30, 31, 32, 33, 34, 35, 36, 37, 38, 39, 41] rfl) hk) rfl rfl hl.1 rfl (lv_room (Nat.le_of_ble_eq_true rfl)) dL_isMarked_111 ⟨Nat.le_of_ble_eq_true rfl, Nat.le_of_ble_eq_true rfl⟩)) (fun r9 hr9 => ?_)
    subst hr9
    refine lv_lload hx hb dL_isMarked_114 (lv_at hl 1 rfl) ?_
    refine W.lcmp hx hb dL_isMarked_116 ?_
    refine lv_if_ne (tgt := 124) hx hb dL_isMarked_117 (by decide) (fun c117 => ?_) (fun c117 => ?_)
    · exact absurd ((lg_cmp_eq _ _).mpr rfl) c117
    · refine lv_iconst (v := nI 1) hx hb dL_isMarked_120 (by decide) ?_
      refine lv_goto (tgt := 125) hx hb dL_isMarked_121 (by decide) ?_
      refine W.widen (k := 1) (n := 6) (Nat.le_of_ble_eq_true rfl) (Nat.le_of_ble_eq_true rfl) ?_
      exact W.zret (v := nI 1) hx hb hr rfl (fun t9 ht hW => ⟨⟨nI 1, (), rfl, rfl, ⟨M, bf, od, fe, fm, mk, ob_th ht hP, ⟨hM, by omega, hmk⟩, harr, hJf⟩⟩, hS.F ht⟩) hS.2.2 dL_isMarked_125
  have k53 : (M cf cs = 1000000 ∨ ¬ M cf cs < lo) → ∀ ls : Array Slot, lv_has ls 17 [(0, .ref ax), (1, .ref xe), (2, .ref xm), (3, .int (nI cf)), (4, .int (nI ra)), (5, .int (nI cs)), (6, .int (nI rb)), (7, .int (nI sl)), (8, .int hi), (9, .int lo), (10, .int (M cf cs)), (11, .int (M cs cf))] → W p l e (headSpec wsL_isMarked ({ frames := 8, cells := 1, slots := 6, locals := 187 } : Room)).room s m ([.ref ax, .ref xe, .ref xm, .int (nI cf), .int (nI ra), .int (nI cs), .int (nI rb), .int (nI sl)] : List Value).toArray below meth c s.heap [] 0 0 (MQ below (va_Qi (fun (r : Int32) (_ : Unit) => r = nI 1) (fun (_ : Unit) (t9 : State) => ∃ (M' : Nat → Nat → Int32) (bf' od' fe' fm' : Nat → Int32) (mk' : Nat), va_P D vwCl (ob_wX ax ao al am ac ++ ob_wO t ao M' ++ ob_wL t al n cl rd sv pb ba bf' od' bg ++ ob_wM t am mn ms mf mt mp ++ ob_wC t ac cn st Wt ++ ob_wE t xe fe' ++ ob_wV t xm fm') t9.heap ∧ ob_Jc M' fe' mk' ∧ ob_arr M' n cl rd bf' od' ∧ ob_Jf n mn cn st mk' fm') (va_A (ob_wX ax ao al am ac ++ ob_wO t ao M ++ ob_wL t al n cl rd sv pb ba bf od bg ++ ob_wM t am mn ms mf mt mp ++ ob_wC t ac cn st Wt ++ ob_wE t xe fe ++ ob_wV t xm fm) sz)) ([.ref ax, .ref xe, .ref xm, .int (nI cf), .int (nI ra), .int (nI cs), .int (nI rb), .int (nI sl)] : List Value).toArray s 1 6 (va_A (ob_wX ax ao al am ac ++ ob_wO t ao M ++ ob_wL t al n cl rd sv pb ba bf od bg ++ ob_wM t am mn ms mf mt mp ++ ob_wC t ac cn st Wt ++ ob_wE t xe fe ++ ob_wV t xm fm) sz)) (F0 m 53 ls []) := by
    intro  hq1 ls hl
    have k68 : (ob_cK M cf ra cs rb sl = true) → ∀ ls : Array Slot, lv_has ls 17 [(0, .ref ax), (1, .ref xe), (2, .ref xm), (3, .int (nI cf)), (4, .int (nI ra)), (5, .int (nI cs)), (6, .int (nI rb)), (7, .int (nI sl)), (8, .int hi), (9, .int lo), (10, .int (M cf cs)), (11, .int (M cs cf))] → W p l e (headSpec wsL_isMarked ({ frames := 8, cells := 1, slots := 6, locals := 187 } : Room)).room s m ([.ref ax, .ref xe, .ref xm, .int (nI cf), .int (nI ra), .int (nI cs), .int (nI rb), .int (nI sl)] : List Value).toArray below meth c s.heap [] 0 0 (MQ below (va_Qi (fun (r : Int32) (_ : Unit) => r = nI 1) (fun (_ : Unit) (t9 : State) => ∃ (M' : Nat → Nat → Int32) (bf' od' fe' fm' : Nat → Int32) (mk' : Nat), va_P D vwCl (ob_wX ax ao al am ac ++ ob_wO t ao M' ++ ob_wL t al n cl rd sv pb ba bf' od' bg ++ ob_wM t am mn ms mf mt mp ++ ob_wC t ac cn st Wt ++ ob_wE t xe fe' ++ ob_wV t xm fm') t9.heap ∧ ob_Jc M' fe' mk' ∧ ob_arr M' n cl rd bf' od' ∧ ob_Jf n mn cn st mk' fm') (va_A (ob_wX ax ao al am ac ++ ob_wO t ao M ++ ob_wL t al n cl rd sv pb ba bf od bg ++ ob_wM t am mn ms mf mt mp ++ ob_wC t ac cn st Wt ++ ob_wE t xe fe ++ ob_wV t xm fm) sz)) ([.ref ax, .ref xe, .ref xm, .int (nI cf), .int (nI ra), .int (nI cs), .int (nI rb), .int (nI sl)] : List Value).toArray s 1 6 (va_A (ob_wX ax ao al am ac ++ ob_wO t ao M ++ ob_wL t al n cl rd sv pb ba bf od bg ++ ob_wM t am mn ms mf mt mp ++ ob_wC t ac cn st Wt ++ ob_wE t xe fe ++ ob_wV t xm fm) sz)) (F0 m 68 ls []) := by
      intro  hyes ls hl
      refine lv_iconst (v := nI 1) hx hb dL_isMarked_68 (by decide) ?_
      refine lv_goto (tgt := 73) hx hb dL_isMarked_69 (by decide) ?_
      refine lv_istore (lv' := [(12, .int (nI 1)), (0, .ref ax), (1, .ref xe), (2, .ref xm), (3, .int (nI cf)), (4, .int (nI ra)), (5, .int (nI cs)), (6, .int (nI rb)), (7, .int (nI sl)), (8, .int hi), (9, .int lo), (10, .int (M cf cs)), (11, .int (M cs cf))]) hx hb dL_isMarked_73 hl (by decide) rfl (fun ls hl => ?_)
      refine lv_aload_n hx hb dL_isMarked_75 rfl (lv_at hl 1 rfl) ?_
      refine lv_aload_n hx hb dL_isMarked_76 rfl (lv_at hl 3 rfl) ?_
      refine vp_callSl (va_Run.run (va_runS (As := [.ref ax, .ref xm]) (rest := []) ⟨hx, hb, hml, hown, hts⟩ (c_L_all l D t ax ao al am ac M n cl rd sv pb ba bf od bg mn ms mf mt mp cn st Wt xm fm (by first | assumption | omega) (by first | assumption | omega) (by first | assumption | omega) (by first | assumption | omega) (by first | assumption | omega)) (va_cwS 2 hts gL_isMarked_L_all rfl rfl rfl (by decide +kernel) ⟨Nat.le_of_ble_eq_true rfl, Nat.le_of_ble_eq_true rfl⟩) (ob_preS (hP.sub [0, 1, 2, 3, 4, 5, 6, 7, 8, 9, 10, 11, 12, 13, 14, 15, 16, 17, 18, 19, 20, 21, 22, 23, 24, 25, 26, 27, 28, 29, 30, 31, 32, 33, 34, 35, 36, 37, 38, 39, 41] rfl) hk) rfl rfl hl.1 rfl (lv_room (Nat.le_of_ble_eq_true rfl)) dL_isMarked_77 ⟨Nat.le_of_ble_eq_true rfl, Nat.le_of_ble_eq_true rfl⟩)) (fun r9 hr9 => ?_)
      subst hr9
      refine lv_lstore (lv' := [(13, .long (ob_all M n pb ba od mn ms mf mt mp cn st Wt)), (12, .int (nI 1)), (0, .ref ax), (1, .ref xe), (2, .ref xm), (3, .int (nI cf)), (4, .int (nI ra)), (5, .int (nI cs)), (6, .int (nI rb)), (7, .int (nI sl)), (8, .int hi), (9, .int lo), (10, .int (M cf cs)), (11, .int (M cs cf))]) hx hb dL_isMarked_80 hl (by decide) rfl (fun ls hl => ?_)
      refine lv_aload_n hx hb dL_isMarked_82 rfl (lv_at hl 2 rfl) ?_
      refine lv_iload_n hx hb dL_isMarked_83 rfl (lv_at hl 5 rfl) ?_
      refine lv_iload hx hb dL_isMarked_84 (lv_at hl 6 rfl) ?_
      refine lv_iload hx hb dL_isMarked_86 (lv_at hl 7 rfl) ?_
      refine lv_iload hx hb dL_isMarked_88 (lv_at hl 8 rfl) ?_
      refine lv_iload hx hb dL_isMarked_90 (lv_at hl 9 rfl) ?_
      have hFc := va_free (wc := ob_wX ax ao al am ac ++ ob_wO t ao M ++ ob_wL t al n cl rd sv pb ba bf od bg) hD hS hA [0, 1, 2, 3, 4, 5, 6, 7, 8, 9, 10, 11, 12, 13, 14, 15, 16] rfl
      refine va_calli (ob_runN (vx_runSX (As := [.ref ax, .int (nI cf), .int (nI ra), .int (nI cs), .int (nI rb), .int (nI sl)]) (rest := []) ⟨hx, hb, hml, hown, hts⟩ (y_mark_ok l hl9 sa D t s.heap.size ax ao al am ac M n cl rd sv pb ba bf od bg (nI cf) (nI ra) (nI cs) (nI rb) (nI sl) (by first | assumption | omega) (by rw [ob_mkz h1 h2 h12 h3 h4 h5, hyes, if_pos rfl])) (vx_cwSW 6 hts gL_isMarked_L_mark rfl rfl rfl (by decide +kernel) ⟨Nat.le_of_ble_eq_true rfl, Nat.le_of_ble_eq_true rfl⟩) (ob_pYS (hP.sub [0, 1, 2, 3, 4, 5, 6, 7, 8, 9, 10, 11, 12, 13, 14, 15, 16] rfl) (hD.sub [0, 1, 2, 3, 4, 5, 6, 7, 8, 9, 10, 11, 12, 13, 14, 15, 16] (by decide) rfl) hk (ob_exN hE0 hS hFc) hN) rfl rfl hl.1 rfl (lv_room (Nat.le_of_ble_eq_true rfl)) dL_isMarked_92 ⟨Nat.le_of_ble_eq_true rfl, Nat.le_of_ble_eq_true rfl⟩)) hS (fun q _ h => hFc q h) hFc (fun r9 u9 t9 H1 locs ht hvm hw9 hB hz1 hk1 hS => ?_)
      refine W.widen (k := 1) (n := 6) (Nat.le_of_ble_eq_true rfl) (Nat.le_of_ble_eq_true rfl) ?_
      rw [ht] at hB
      have hP := ob_jn (ws' := ob_wX ax ao al am ac ++ ob_wO t ao (ob_mk M (nI cf).toNatClampNeg (nI cs).toNatClampNeg (nI ra) (nI rb) (nI sl)) ++ ob_wL t al n cl rd sv pb ba (ob_bf2 (ob_mk M (nI cf).toNatClampNeg (nI cs).toNatClampNeg (nI ra) (nI rb) (nI sl)) cl rd n bf n) (ob_od2 (ob_bf2 (ob_mk M (nI cf).toNatClampNeg (nI cs).toNatClampNeg (nI ra) (nI rb) (nI sl)) cl rd n bf n) n od n) bg ++ ob_wM t am mn ms mf mt mp ++ ob_wC t ac cn st Wt ++ ob_wE t xe fe ++ ob_wV t xm fm) hP hD [some 0, some 1, some 2, some 3, some 4, some 5, some 6, some 7, some 8, some 9, some 10, some 11, some 12, some 13, some 14, some 15, some 16, none, none, none, none, none, none, none, none, none, none, none, none, none, none, none, none, none, none, none, none, none, none, none, none, none] [0, 1, 2, 3, 4, 5, 6, 7, 8, 9, 10, 11, 12, 13, 14, 15, 16] rfl rfl hk1 hB rfl
      obtain ⟨M9, eM9⟩ : ∃ z, z = ob_mk M (nI cf).toNatClampNeg (nI cs).toNatClampNeg (nI ra) (nI rb) (nI sl) := ⟨_, rfl⟩
      rw [← eM9] at hP
      obtain ⟨bf9, ebf9⟩ : ∃ z, z = ob_bf2 M9 cl rd n bf n := ⟨_, rfl⟩
      rw [← ebf9] at hP
      obtain ⟨od9, eod9⟩ : ∃ z, z = ob_od2 bf9 n od n := ⟨_, rfl⟩
      rw [← eod9] at hP
      have hP : va_P D vwCl (ob_wX ax ao al am ac ++ ob_wO t ao M9 ++ ob_wL t al n cl rd sv pb ba bf9 od9 bg ++ ob_wM t am mn ms mf mt mp ++ ob_wC t ac cn st Wt ++ ob_wE t xe fe ++ ob_wV t xm fm) H1 := hP
      have hD : va_D (va_A (ob_wX ax ao al am ac ++ ob_wO t ao M ++ ob_wL t al n cl rd sv pb ba bf od bg ++ ob_wM t am mn ms mf mt mp ++ ob_wC t ac cn st Wt ++ ob_wE t xe fe ++ ob_wV t xm fm) sz) (ob_wX ax ao al am ac ++ ob_wO t ao M9 ++ ob_wL t al n cl rd sv pb ba bf9 od9 bg ++ ob_wM t am mn ms mf mt mp ++ ob_wC t ac cn st Wt ++ ob_wE t xe fe ++ ob_wV t xm fm) := ob_dXOLMCEV hD
      generalize H1 = H at hP hS ⊢
      subst hw9
      refine lv_istore (lv' := [(15, .int (nI 0)), (13, .long (ob_all M n pb ba od mn ms mf mt mp cn st Wt)), (12, .int (nI 1)), (0, .ref ax), (1, .ref xe), (2, .ref xm), (3, .int (nI cf)), (4, .int (nI ra)), (5, .int (nI cs)), (6, .int (nI rb)), (7, .int (nI sl)), (8, .int hi), (9, .int lo), (10, .int (M cf cs)), (11, .int (M cs cf))]) hx hb dL_isMarked_95 hl (by decide) rfl (fun ls hl => ?_)
      refine lv_iload hx hb dL_isMarked_97 (lv_at hl 2 rfl) ?_
      refine lv_if_ne (tgt := 126) hx hb dL_isMarked_99 (by decide) (fun _ => ?_) (fun c9 => absurd c9 (by decide))
      obtain ⟨kM, kle, kc1, kc2⟩ := ob_mkJ hM h1 h2 h12 h3 h4 h5 hyes eM9
      obtain ⟨w1, w2, w3, w4⟩ := ob_mkA h3 h4 h5 e7 e18 kc1 kc2
      refine lv_iconst (v := nI 5) hx hb dL_isMarked_126 (by decide) ?_
      refine lv_aload_n hx hb dL_isMarked_127 rfl (lv_at hl 5 rfl) ?_
      refine lv_iconst (v := nI 5) hx hb dL_isMarked_128 (by decide) ?_
      refine ob_iald hx hb hK hP 41 0 rfl rfl (by omega) (by decide) dL_isMarked_129 ?_
      rw [show fm 5 = nI mk from hf5]
      refine lv_imul hx hb dL_isMarked_130 ?_
      rw [show (nI 5) * (nI mk) = nI (5 * mk) from pk_mul _ _]
      refine lv_istore (lv' := [(16, .int (nI (5 * mk))), (15, .int (nI 0)), (13, .long (ob_all M n pb ba od mn ms mf mt mp cn st Wt)), (12, .int (nI 1)), (0, .ref ax), (1, .ref xe), (2, .ref xm), (3, .int (nI cf)), (4, .int (nI ra)), (5, .int (nI cs)), (6, .int (nI rb)), (7, .int (nI sl)), (8, .int hi), (9, .int lo), (10, .int (M cf cs)), (11, .int (M cs cf))]) hx hb dL_isMarked_131 hl (by decide) rfl (fun ls hl => ?_)
      refine lv_aload_n hx hb dL_isMarked_133 rfl (lv_at hl 5 rfl) ?_
      refine lv_iload hx hb dL_isMarked_134 (lv_at hl 0 rfl) ?_
      refine lv_iload_n hx hb dL_isMarked_136 rfl (lv_at hl 7 rfl) ?_
      refine ob_iast hx hb hK hP hD hS 40 0 rfl rfl (by omega) (by decide) dL_isMarked_137 (fun H locs hP hD hS => ?_)
      have hP : va_P D vwCl (ob_wX ax ao al am ac ++ ob_wO t ao M9 ++ ob_wL t al n cl rd sv pb ba bf9 od9 bg ++ ob_wM t am mn ms mf mt mp ++ ob_wC t ac cn st Wt ++ ob_wE t xe (upd fe (5 * mk) (nI cf)) ++ ob_wV t xm fm) H := hP
      have hD : va_D (va_A (ob_wX ax ao al am ac ++ ob_wO t ao M ++ ob_wL t al n cl rd sv pb ba bf od bg ++ ob_wM t am mn ms mf mt mp ++ ob_wC t ac cn st Wt ++ ob_wE t xe fe ++ ob_wV t xm fm) sz) (ob_wX ax ao al am ac ++ ob_wO t ao M9 ++ ob_wL t al n cl rd sv pb ba bf9 od9 bg ++ ob_wM t am mn ms mf mt mp ++ ob_wC t ac cn st Wt ++ ob_wE t xe (upd fe (5 * mk) (nI cf)) ++ ob_wV t xm fm) := hD
      refine lv_aload_n hx hb dL_isMarked_138 rfl (lv_at hl 5 rfl) ?_
      refine lv_iload hx hb dL_isMarked_139 (lv_at hl 0 rfl) ?_
      refine lv_iconst (v := nI 1) hx hb dL_isMarked_141 (by decide) ?_
      refine lv_iadd hx hb dL_isMarked_142 ?_
      rw [show (nI (5 * mk)) + (nI 1) = nI ((5 * mk) + 1) from nI_add _ _]
      refine lv_iload hx hb dL_isMarked_143 (lv_at hl 8 rfl) ?_
      refine ob_iast hx hb hK hP hD hS 40 0 rfl rfl (by omega) (by decide) dL_isMarked_145 (fun H locs hP hD hS => ?_)
      have hP : va_P D vwCl (ob_wX ax ao al am ac ++ ob_wO t ao M9 ++ ob_wL t al n cl rd sv pb ba bf9 od9 bg ++ ob_wM t am mn ms mf mt mp ++ ob_wC t ac cn st Wt ++ ob_wE t xe (upd (upd fe (5 * mk) (nI cf)) ((5 * mk) + 1) (nI ra)) ++ ob_wV t xm fm) H := hP
      have hD : va_D (va_A (ob_wX ax ao al am ac ++ ob_wO t ao M ++ ob_wL t al n cl rd sv pb ba bf od bg ++ ob_wM t am mn ms mf mt mp ++ ob_wC t ac cn st Wt ++ ob_wE t xe fe ++ ob_wV t xm fm) sz) (ob_wX ax ao al am ac ++ ob_wO t ao M9 ++ ob_wL t al n cl rd sv pb ba bf9 od9 bg ++ ob_wM t am mn ms mf mt mp ++ ob_wC t ac cn st Wt ++ ob_wE t xe (upd (upd fe (5 * mk) (nI cf)) ((5 * mk) + 1) (nI ra)) ++ ob_wV t xm fm) := hD
      refine lv_aload_n hx hb dL_isMarked_146 rfl (lv_at hl 5 rfl) ?_
      refine lv_iload hx hb dL_isMarked_147 (lv_at hl 0 rfl) ?_
      refine lv_iconst (v := nI 2) hx hb dL_isMarked_149 (by decide) ?_
      refine lv_iadd hx hb dL_isMarked_150 ?_
      rw [show (nI (5 * mk)) + (nI 2) = nI ((5 * mk) + 2) from nI_add _ _]
      refine lv_iload hx hb dL_isMarked_151 (lv_at hl 9 rfl) ?_
      refine ob_iast hx hb hK hP hD hS 40 0 rfl rfl (by omega) (by decide) dL_isMarked_153 (fun H locs hP hD hS => ?_)
      have hP : va_P D vwCl (ob_wX ax ao al am ac ++ ob_wO t ao M9 ++ ob_wL t al n cl rd sv pb ba bf9 od9 bg ++ ob_wM t am mn ms mf mt mp ++ ob_wC t ac cn st Wt ++ ob_wE t xe (upd (upd (upd fe (5 * mk) (nI cf)) ((5 * mk) + 1) (nI ra)) ((5 * mk) + 2) (nI cs)) ++ ob_wV t xm fm) H := hP
      have hD : va_D (va_A (ob_wX ax ao al am ac ++ ob_wO t ao M ++ ob_wL t al n cl rd sv pb ba bf od bg ++ ob_wM t am mn ms mf mt mp ++ ob_wC t ac cn st Wt ++ ob_wE t xe fe ++ ob_wV t xm fm) sz) (ob_wX ax ao al am ac ++ ob_wO t ao M9 ++ ob_wL t al n cl rd sv pb ba bf9 od9 bg ++ ob_wM t am mn ms mf mt mp ++ ob_wC t ac cn st Wt ++ ob_wE t xe (upd (upd (upd fe (5 * mk) (nI cf)) ((5 * mk) + 1) (nI ra)) ((5 * mk) + 2) (nI cs)) ++ ob_wV t xm fm) := hD
      refine lv_aload_n hx hb dL_isMarked_154 rfl (lv_at hl 5 rfl) ?_
      refine lv_iload hx hb dL_isMarked_155 (lv_at hl 0 rfl) ?_
      refine lv_iconst (v := nI 3) hx hb dL_isMarked_157 (by decide) ?_
      refine lv_iadd hx hb dL_isMarked_158 ?_
      rw [show (nI (5 * mk)) + (nI 3) = nI ((5 * mk) + 3) from nI_add _ _]
      refine lv_iload hx hb dL_isMarked_159 (lv_at hl 10 rfl) ?_
      refine ob_iast hx hb hK hP hD hS 40 0 rfl rfl (by omega) (by decide) dL_isMarked_161 (fun H locs hP hD hS => ?_)
      have hP : va_P D vwCl (ob_wX ax ao al am ac ++ ob_wO t ao M9 ++ ob_wL t al n cl rd sv pb ba bf9 od9 bg ++ ob_wM t am mn ms mf mt mp ++ ob_wC t ac cn st Wt ++ ob_wE t xe (upd (upd (upd (upd fe (5 * mk) (nI cf)) ((5 * mk) + 1) (nI ra)) ((5 * mk) + 2) (nI cs)) ((5 * mk) + 3) (nI rb)) ++ ob_wV t xm fm) H := hP
      have hD : va_D (va_A (ob_wX ax ao al am ac ++ ob_wO t ao M ++ ob_wL t al n cl rd sv pb ba bf od bg ++ ob_wM t am mn ms mf mt mp ++ ob_wC t ac cn st Wt ++ ob_wE t xe fe ++ ob_wV t xm fm) sz) (ob_wX ax ao al am ac ++ ob_wO t ao M9 ++ ob_wL t al n cl rd sv pb ba bf9 od9 bg ++ ob_wM t am mn ms mf mt mp ++ ob_wC t ac cn st Wt ++ ob_wE t xe (upd (upd (upd (upd fe (5 * mk) (nI cf)) ((5 * mk) + 1) (nI ra)) ((5 * mk) + 2) (nI cs)) ((5 * mk) + 3) (nI rb)) ++ ob_wV t xm fm) := hD
      refine lv_aload_n hx hb dL_isMarked_162 rfl (lv_at hl 5 rfl) ?_
      refine lv_iload hx hb dL_isMarked_163 (lv_at hl 0 rfl) ?_
      refine lv_iconst (v := nI 4) hx hb dL_isMarked_165 (by decide) ?_
      refine lv_iadd hx hb dL_isMarked_166 ?_
      rw [show (nI (5 * mk)) + (nI 4) = nI ((5 * mk) + 4) from nI_add _ _]
      refine lv_iload hx hb dL_isMarked_167 (lv_at hl 11 rfl) ?_
      refine ob_iast hx hb hK hP hD hS 40 0 rfl rfl (by omega) (by decide) dL_isMarked_169 (fun H locs hP hD hS => ?_)
      have hP : va_P D vwCl (ob_wX ax ao al am ac ++ ob_wO t ao M9 ++ ob_wL t al n cl rd sv pb ba bf9 od9 bg ++ ob_wM t am mn ms mf mt mp ++ ob_wC t ac cn st Wt ++ ob_wE t xe (upd (upd (upd (upd (upd fe (5 * mk) (nI cf)) ((5 * mk) + 1) (nI ra)) ((5 * mk) + 2) (nI cs)) ((5 * mk) + 3) (nI rb)) ((5 * mk) + 4) (nI sl)) ++ ob_wV t xm fm) H := hP
      have hD : va_D (va_A (ob_wX ax ao al am ac ++ ob_wO t ao M ++ ob_wL t al n cl rd sv pb ba bf od bg ++ ob_wM t am mn ms mf mt mp ++ ob_wC t ac cn st Wt ++ ob_wE t xe fe ++ ob_wV t xm fm) sz) (ob_wX ax ao al am ac ++ ob_wO t ao M9 ++ ob_wL t al n cl rd sv pb ba bf9 od9 bg ++ ob_wM t am mn ms mf mt mp ++ ob_wC t ac cn st Wt ++ ob_wE t xe (upd (upd (upd (upd (upd fe (5 * mk) (nI cf)) ((5 * mk) + 1) (nI ra)) ((5 * mk) + 2) (nI cs)) ((5 * mk) + 3) (nI rb)) ((5 * mk) + 4) (nI sl)) ++ ob_wV t xm fm) := hD
      refine lv_aload_n hx hb dL_isMarked_170 rfl (lv_at hl 6 rfl) ?_
      refine lv_iconst (v := nI 5) hx hb dL_isMarked_171 (by decide) ?_
      refine lv_dup2_11 hx hb dL_isMarked_172 rfl rfl ?_
      refine ob_iald hx hb hK hP 41 0 rfl rfl (by omega) (by decide) dL_isMarked_173 ?_
      rw [show fm 5 = nI mk from hf5]
      refine lv_iconst (v := nI 1) hx hb dL_isMarked_174 (by decide) ?_
      refine lv_iadd hx hb dL_isMarked_175 ?_
      rw [show (nI mk) + (nI 1) = nI (mk + 1) from nI_add _ _]
      refine ob_iast hx hb hK hP hD hS 41 0 rfl rfl (by omega) (by decide) dL_isMarked_176 (fun H locs hP hD hS => ?_)
      have hP : va_P D vwCl (ob_wX ax ao al am ac ++ ob_wO t ao M9 ++ ob_wL t al n cl rd sv pb ba bf9 od9 bg ++ ob_wM t am mn ms mf mt mp ++ ob_wC t ac cn st Wt ++ ob_wE t xe (upd (upd (upd (upd (upd fe (5 * mk) (nI cf)) ((5 * mk) + 1) (nI ra)) ((5 * mk) + 2) (nI cs)) ((5 * mk) + 3) (nI rb)) ((5 * mk) + 4) (nI sl)) ++ ob_wV t xm (upd fm 5 (nI (mk + 1)))) H := hP
      have hD : va_D (va_A (ob_wX ax ao al am ac ++ ob_wO t ao M ++ ob_wL t al n cl rd sv pb ba bf od bg ++ ob_wM t am mn ms mf mt mp ++ ob_wC t ac cn st Wt ++ ob_wE t xe fe ++ ob_wV t xm fm) sz) (ob_wX ax ao al am ac ++ ob_wO t ao M9 ++ ob_wL t al n cl rd sv pb ba bf9 od9 bg ++ ob_wM t am mn ms mf mt mp ++ ob_wC t ac cn st Wt ++ ob_wE t xe (upd (upd (upd (upd (upd fe (5 * mk) (nI cf)) ((5 * mk) + 1) (nI ra)) ((5 * mk) + 2) (nI cs)) ((5 * mk) + 3) (nI rb)) ((5 * mk) + 4) (nI sl)) ++ ob_wV t xm (upd fm 5 (nI (mk + 1)))) := hD
      refine lv_iload hx hb dL_isMarked_177 (lv_at hl 1 rfl) ?_
      refine lv_if_ne (tgt := 236) hx hb dL_isMarked_179 (by decide) (fun c9 => absurd c9 (by decide)) (fun _ => ?_)
      have k206 : ∀ ls : Array Slot, lv_has ls 17 [(0, .ref ax), (1, .ref xe), (2, .ref xm), (3, .int (nI cf)), (4, .int (nI ra)), (5, .int (nI cs)), (6, .int (nI rb)), (7, .int (nI sl)), (8, .int hi), (9, .int lo), (10, .int (M cf cs)), (11, .int (M cs cf)), (12, .int (nI 1)), (13, .long (ob_all M n pb ba od mn ms mf mt mp cn st Wt)), (15, .int (nI 0)), (16, .int (nI (5 * mk)))] → W p l e (headSpec wsL_isMarked ({ frames := 8, cells := 1, slots := 6, locals := 187 } : Room)).room s m ([.ref ax, .ref xe, .ref xm, .int (nI cf), .int (nI ra), .int (nI cs), .int (nI rb), .int (nI sl)] : List Value).toArray below meth c H locs 1 6 (MQ below (va_Qi (fun (r : Int32) (_ : Unit) => r = nI 1) (fun (_ : Unit) (t9 : State) => ∃ (M' : Nat → Nat → Int32) (bf' od' fe' fm' : Nat → Int32) (mk' : Nat), va_P D vwCl (ob_wX ax ao al am ac ++ ob_wO t ao M' ++ ob_wL t al n cl rd sv pb ba bf' od' bg ++ ob_wM t am mn ms mf mt mp ++ ob_wC t ac cn st Wt ++ ob_wE t xe fe' ++ ob_wV t xm fm') t9.heap ∧ ob_Jc M' fe' mk' ∧ ob_arr M' n cl rd bf' od' ∧ ob_Jf n mn cn st mk' fm') (va_A (ob_wX ax ao al am ac ++ ob_wO t ao M ++ ob_wL t al n cl rd sv pb ba bf od bg ++ ob_wM t am mn ms mf mt mp ++ ob_wC t ac cn st Wt ++ ob_wE t xe fe ++ ob_wV t xm fm) sz)) ([.ref ax, .ref xe, .ref xm, .int (nI cf), .int (nI ra), .int (nI cs), .int (nI rb), .int (nI sl)] : List Value).toArray s 1 6 (va_A (ob_wX ax ao al am ac ++ ob_wO t ao M ++ ob_wL t al n cl rd sv pb ba bf od bg ++ ob_wM t am mn ms mf mt mp ++ ob_wC t ac cn st Wt ++ ob_wE t xe fe ++ ob_wV t xm fm) sz)) (F0 m 206 ls []) := by
        intro   ls hl
        refine lv_aload_n hx hb dL_isMarked_206 rfl (lv_at hl 0 rfl) ?_
        refine lv_iload hx hb dL_isMarked_207 (lv_at hl 5 rfl) ?_
        refine lv_iload_n hx hb dL_isMarked_209 rfl (lv_at hl 3 rfl) ?_
        refine vp_callSi (va_Run.run (va_runV (As := [.int (nI cs), .int (nI cf)]) (rest := []) ⟨hx, hb, hml, hown, hts⟩ (n_X4_greatest l D t ax ao al am ac M9 n cl rd sv pb ba bf9 od9 bg cs cf (by first | assumption | omega) (by first | assumption | omega)) (cwV 2 hts gL_isMarked_X4_greatest rfl rfl rfl (by decide +kernel) ⟨Nat.le_of_ble_eq_true rfl, Nat.le_of_ble_eq_true rfl⟩) (ob_preV (ci := 4) (q0 := 0) (hP.sub [0, 1, 2, 3, 4, 5, 6, 7, 8, 9, 10, 11, 12, 13, 14, 15, 16] rfl) hk rfl rfl) rfl rfl hl.1 rfl (lv_room (Nat.le_of_ble_eq_true rfl)) dL_isMarked_210 ⟨Nat.le_of_ble_eq_true rfl, Nat.le_of_ble_eq_true rfl⟩)) (fun r9 hr9 => ?_)
        subst hr9
        refine lv_iload hx hb dL_isMarked_213 (lv_at hl 11 rfl) ?_
        refine lv_iload hx hb dL_isMarked_215 (lv_at hl 9 rfl) ?_
        refine lv_ineg hx hb dL_isMarked_217 ?_
        refine lv_icmp_ge (tgt := 226) hx hb dL_isMarked_218 (by decide) (fun c218 => ?_) (fun c218 => ?_)
        · refine lv_iload hx hb dL_isMarked_226 (lv_at hl 9 rfl) ?_
          refine lv_ineg hx hb dL_isMarked_228 ?_
          refine lv_icmp_ne (tgt := 236) hx hb dL_isMarked_229 (by decide) (fun c229 => ?_) (fun c229 => ?_)
          · first | exact absurd (w1 c193) c203 | exact absurd (w2 c193) c203 | exact absurd (w3 c218) c229 | exact absurd (w4 c218) c229
          · refine lv_iconst (v := nI 1) hx hb dL_isMarked_232 (by decide) ?_
            refine lv_goto (tgt := 237) hx hb dL_isMarked_233 (by decide) ?_
            refine W.widen (k := 1) (n := 6) (Nat.le_of_ble_eq_true rfl) (Nat.le_of_ble_eq_true rfl) ?_
            exact W.zret (v := nI 1) hx hb hr rfl (fun t9 ht hW => ⟨⟨nI 1, (), rfl, rfl, ⟨M9, bf9, od9, _, _, mk + 1, ob_th ht hP, ob_Jc_s h1 h2 h3 h4 h5 hm hmk kM kle kc1 kc2, (by rw [eod9, ebf9]; exact ob_arr_2 M9 n cl rd bf od), ⟨(by rw [pk_un (by decide)]; exact hf0), (by rw [pk_un (by decide)]; exact hf1), (by rw [pk_un (by decide)]; exact hf2), (by rw [pk_un (by decide)]; exact hf3), pk_us⟩⟩⟩, hS.F ht⟩) hS.2.2 dL_isMarked_237
        · refine lv_iload hx hb dL_isMarked_221 (lv_at hl 11 rfl) ?_
          refine lv_goto (tgt := 229) hx hb dL_isMarked_223 (by decide) ?_
          refine lv_icmp_ne (tgt := 236) hx hb dL_isMarked_229 (by decide) (fun c229 => ?_) (fun c229 => ?_)
          · first | exact absurd (w1 c193) c203 | exact absurd (w2 c193) c203 | exact absurd (w3 c218) c229 | exact absurd (w4 c218) c229
          · refine lv_iconst (v := nI 1) hx hb dL_isMarked_232 (by decide) ?_
            refine lv_goto (tgt := 237) hx hb dL_isMarked_233 (by decide) ?_
            refine W.widen (k := 1) (n := 6) (Nat.le_of_ble_eq_true rfl) (Nat.le_of_ble_eq_true rfl) ?_
            exact W.zret (v := nI 1) hx hb hr rfl (fun t9 ht hW => ⟨⟨nI 1, (), rfl, rfl, ⟨M9, bf9, od9, _, _, mk + 1, ob_th ht hP, ob_Jc_s h1 h2 h3 h4 h5 hm hmk kM kle kc1 kc2, (by rw [eod9, ebf9]; exact ob_arr_2 M9 n cl rd bf od), ⟨(by rw [pk_un (by decide)]; exact hf0), (by rw [pk_un (by decide)]; exact hf1), (by rw [pk_un (by decide)]; exact hf2), (by rw [pk_un (by decide)]; exact hf3), pk_us⟩⟩⟩, hS.F ht⟩) hS.2.2 dL_isMarked_237
      refine lv_aload_n hx hb dL_isMarked_182 rfl (lv_at hl 4 rfl) ?_
      refine lv_iload_n hx hb dL_isMarked_183 rfl (lv_at hl 7 rfl) ?_
      refine lv_iload hx hb dL_isMarked_184 (lv_at hl 9 rfl) ?_
      refine vp_callSi (va_Run.run (va_runV (As := [.int (nI cf), .int (nI cs)]) (rest := []) ⟨hx, hb, hml, hown, hts⟩ (n_X4_greatest l D t ax ao al am ac M9 n cl rd sv pb ba bf9 od9 bg cf cs (by first | assumption | omega) (by first | assumption | omega)) (cwV 2 hts gL_isMarked_X4_greatest rfl rfl rfl (by decide +kernel) ⟨Nat.le_of_ble_eq_true rfl, Nat.le_of_ble_eq_true rfl⟩) (ob_preV (ci := 4) (q0 := 0) (hP.sub [0, 1, 2, 3, 4, 5, 6, 7, 8, 9, 10, 11, 12, 13, 14, 15, 16] rfl) hk rfl rfl) rfl rfl hl.1 rfl (lv_room (Nat.le_of_ble_eq_true rfl)) dL_isMarked_186 ⟨Nat.le_of_ble_eq_true rfl, Nat.le_of_ble_eq_true rfl⟩)) (fun r9 hr9 => ?_)
      subst hr9
      refine lv_iload hx hb dL_isMarked_189 (lv_at hl 14 rfl) ?_
      refine lv_iload hx hb dL_isMarked_191 (lv_at hl 12 rfl) ?_
      refine lv_icmp_ge (tgt := 201) hx hb dL_isMarked_193 (by decide) (fun c193 => ?_) (fun c193 => ?_)
      · refine lv_iload hx hb dL_isMarked_201 (lv_at hl 12 rfl) ?_
        refine lv_icmp_ne (tgt := 236) hx hb dL_isMarked_203 (by decide) (fun c203 => ?_) (fun c203 => ?_)
        · first | exact absurd (w1 c193) c203 | exact absurd (w2 c193) c203 | exact absurd (w3 c218) c229 | exact absurd (w4 c218) c229
        · exact k206   _ (lv_sub hl [4, 5, 6, 7, 8, 9, 10, 11, 12, 13, 14, 15, 3, 2, 1, 0] rfl)
      · refine lv_iload hx hb dL_isMarked_196 (lv_at hl 14 rfl) ?_
        refine lv_goto (tgt := 203) hx hb dL_isMarked_198 (by decide) ?_
        refine lv_icmp_ne (tgt := 236) hx hb dL_isMarked_203 (by decide) (fun c203 => ?_) (fun c203 => ?_)
        · first | exact absurd (w1 c193) c203 | exact absurd (w2 c193) c203 | exact absurd (w3 c218) c229 | exact absurd (w4 c218) c229
        · exact k206   _ (lv_sub hl [4, 5, 6, 7, 8, 9, 10, 11, 12, 13, 14, 15, 3, 2, 1, 0] rfl)
    refine lv_iload hx hb dL_isMarked_53 (lv_at hl 11 rfl) ?_
    refine lv_ldc (v := 1000000) hx hb hown (hts (Cond.constant RL 111 (1000000)) (List.mem_of_getElem? (i := 1) rfl)) dL_isMarked_55 ?_
    refine lv_icmp_eq (tgt := 68) hx hb dL_isMarked_57 (by decide) (fun c57 => ?_) (fun c57 => ?_)
    · exact k68  (by first | exact ob_cK_t hM h1 h2 h3 h4 h5 e7 e18 hq1 (Or.inl c57) | exact ob_cK_t hM h1 h2 h3 h4 h5 e7 e18 hq1 (Or.inr c65)) _ (lv_sub hl [0, 1, 2, 3, 4, 5, 6, 7, 8, 9, 10, 11] rfl)
    · refine lv_iload hx hb dL_isMarked_60 (lv_at hl 11 rfl) ?_
      refine lv_ineg hx hb dL_isMarked_62 ?_
      refine lv_iload hx hb dL_isMarked_63 (lv_at hl 8 rfl) ?_
      refine lv_icmp_gt (tgt := 72) hx hb dL_isMarked_65 (by decide) (fun c65 => ?_) (fun c65 => ?_)
      · exact k72  (by first | exact ob_cK_f1 h3 h4 h5 e18 c50 | exact ob_cK_f2 hM h1 h2 h3 h4 h5 e7 c65) _ (lv_sub hl [0, 1, 2, 3, 4, 5, 6, 7, 8, 9, 10, 11] rfl)
      · exact k68  (by first | exact ob_cK_t hM h1 h2 h3 h4 h5 e7 e18 hq1 (Or.inl c57) | exact ob_cK_t hM h1 h2 h3 h4 h5 e7 e18 hq1 (Or.inr c65)) _ (lv_sub hl [0, 1, 2, 3, 4, 5, 6, 7, 8, 9, 10, 11] rfl)
  refine lv_iload hx hb dL_isMarked_39 (lv_at hl 1 rfl) ?_
  refine lv_ldc (v := 1000000) hx hb hown (hts (Cond.constant RL 111 (1000000)) (List.mem_of_getElem? (i := 1) rfl)) dL_isMarked_41 ?_
  refine lv_icmp_eq (tgt := 53) hx hb dL_isMarked_43 (by decide) (fun c43 => ?_) (fun c43 => ?_)
  · exact k53  (by first | exact Or.inl c43 | exact Or.inr c50) _ (lv_sub hl [4, 5, 6, 7, 8, 9, 10, 11, 3, 2, 1, 0] rfl)
  · refine lv_iload hx hb dL_isMarked_46 (lv_at hl 2 rfl) ?_
    refine lv_iload hx hb dL_isMarked_48 (lv_at hl 1 rfl) ?_
    refine lv_icmp_gt (tgt := 72) hx hb dL_isMarked_50 (by decide) (fun c50 => ?_) (fun c50 => ?_)
    · exact k72  (by first | exact ob_cK_f1 h3 h4 h5 e18 c50 | exact ob_cK_f2 hM h1 h2 h3 h4 h5 e7 c65) _ (lv_sub hl [4, 5, 6, 7, 8, 9, 10, 11, 3, 2, 1, 0] rfl)
    · exact k53  (by first | exact Or.inl c43 | exact Or.inr c50) _ (lv_sub hl [4, 5, 6, 7, 8, 9, 10, 11, 3, 2, 1, 0] rfl)
