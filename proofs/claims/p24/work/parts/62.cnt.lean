-- ===== counting the orders
theorem ob_bx_ahI {Bd rd : Nat → Int32} {kc : Nat → Nat} {i l : Nat} (hl : l < 32) : ∀ {j : Nat}, j ≤ 32 → ob_bx (ob_ahI Bd kc rd i j) l = (decide (l < j) && ob_sb Bd kc rd l i)
  | 0, _ => by rw [ob_ahI, ob_n0, ob_bx_0]; simp
  | j + 1, hj => by
    rw [ob_ahI, ob_bx_or, ob_bx_ahI hl (j := j) (by omega)]
    have e : decide (l < j + 1) = (decide (l < j) || decide (l = j)) := by rw [← Bool.decide_or]; exact decide_eq_decide.mpr ⟨fun h => by omega, fun h => by omega⟩
    rw [e]
    by_cases c : l = j
    · subst c
      by_cases hs : ob_sb Bd kc rd l i = true
      · rw [if_pos hs, ob_bx_bit hl hl, hs]; simp
      · rw [if_neg hs, ob_n0, ob_bx_0]; simp [hs]
    · by_cases hs : ob_sb Bd kc rd j i = true
      · rw [if_pos hs, ob_bx_bit (by omega) hl]; simp [c]
      · rw [if_neg hs, ob_n0, ob_bx_0]; simp [c]
theorem ob_restN {q k : Nat} (hq : q < 2147483648) (hk : k < 31) (h : q.testBit k = true) : ob_rest (nI q) k = nI (q - 2 ^ k) := by
  have h2 := Nat.ge_two_pow_of_testBit h
  have bk : ob_bx (nI q) k = true := by rw [ob_bxN (by omega), h]
  have hz : ob_rest (nI q) k &&& ob_bit (nI k) = 0 := ob_bx_ext (fun i hi => by
    unfold ob_rest
    rw [ob_bx_and, ob_bx_and, ob_bx_not hi, ob_bx_bit (by omega) hi, ob_bx_0]
    cases decide (i = k) <;> simp)
  have ho : ob_rest (nI q) k ||| ob_bit (nI k) = nI q := ob_bx_ext (fun i hi => by
    unfold ob_rest
    rw [ob_bx_or, ob_bx_and, ob_bx_not hi, ob_bx_bit (by omega) hi]
    by_cases c : i = k
    · subst c; simp [bk]
    · simp [c])
  have ha : ob_rest (nI q) k + ob_bit (nI k) = nI q := by
    apply Int32.toBitVec_inj.mp
    rw [Int32.toBitVec_add, BitVec.add_eq_or_of_and_eq_zero _ _ (congrArg Int32.toBitVec hz)]
    exact congrArg Int32.toBitVec ho
  have hs : ob_rest (nI q) k = nI q - ob_bit (nI k) := by
    have := Int32.add_sub_cancel (ob_rest (nI q) k) (ob_bit (nI k))
    rw [ha] at this
    exact this.symm
  rw [hs, ob_bitN k hk, pk_sub h2]
theorem ob_cbp_eq {bf ah : Nat → Int32} {q k n : Nat} (hn : n ≤ 12) (hk : k < n) (hq : q < 2 ^ n) (he : bf k = ah k) (hi : ob_bx (bf k) k = false) : (ob_cbp bf (nI q) k && ob_hd 4096 (ob_rest (nI q) k)) = ob_ccp ah q k := by
  have hp := ob_p12 n hn
  have hq2 : q < 2147483648 := by omega
  unfold ob_cbp ob_ccp
  rw [ob_hb_bx (by omega), ob_bxN (by omega)]
  cases h : q.testBit k with
  | false =>
    have : ob_rest (nI q) k = nI q := by
      refine ob_bx_ext (fun i hi => ?_)
      unfold ob_rest
      rw [ob_bx_and, ob_bx_not hi, ob_bx_bit (by omega) hi, ob_bxN hi]
      by_cases c : i = k
      · subst c; simp [h]
      · simp [c]
    rw [this]
    simp
  | true =>
    have h2 := Nat.ge_two_pow_of_testBit h
    have h3 : 0 < 2 ^ k := Nat.two_pow_pos k
    rw [ob_restN hq2 (by omega) h, ob_hd_nI (by omega) (by decide)]
    have ne : ¬ nI (q - 2 ^ k) = nI q := fun z => by
      have := (nI_eq (by omega) (by omega)).mp z
      omega
    rw [decide_eq_false ne, Bool.and_true, Bool.not_false, Bool.true_and, Bool.true_and, ← he]
    refine decide_eq_decide.mpr ?_
    rw [ob_and0, ob_and0]
    have r := ob_restN hq2 (show k < 31 by omega) h
    rw [← r]
    unfold ob_rest
    refine forall_congr' (fun i => forall_congr' (fun hi32 => not_congr (and_congr_right (fun hb => ?_))))
    rw [ob_bx_not hi32, ob_bx_not hi32, ob_bx_and, ob_bx_not hi32, ob_bx_bit (by omega) hi32]
    by_cases c : i = k
    · subst c; rw [hi] at hb; cases hb
    · simp [c]
theorem ob_ccI_ne {ah : Nat → Int32} {q : Nat} {C : Nat → Int64} {t : Nat} (ht : t ≠ q) : ∀ k, ob_ccI ah q C k t = C t
  | 0 => by rw [ob_ccI]; exact if_neg ht
  | k + 1 => by rw [ob_ccI]; exact (if_neg ht).trans (ob_ccI_ne ht k)
theorem ob_ccI_q {ah bf : Nat → Int32} {q n : Nat} {C G : Nat → Int64} (hn : n ≤ 12) (hq : q < 2 ^ n) (he : ∀ k, k < n → bf k = ah k) (hi : ∀ k, k < n → ob_bx (bf k) k = false) (hC : ∀ t, t < q → G t = C t) : ∀ k, k ≤ n → ob_ccI ah q C k q = ob_cb bf G (nI q) k
  | 0, _ => if_pos rfl
  | k + 1, hk => by
    have ih := ob_ccI_q hn hq he hi hC k (by omega)
    have hp := ob_p12 n hn
    have e0 : ob_ccI ah q C (k + 1) q = ob_ccI ah q C k q + ob_ccs ah (ob_ccI ah q C k) q k := if_pos rfl
    rw [e0, ob_cb, ob_cbp_eq hn (show k < n by omega) hq (he k (by omega)) (hi k (by omega)), ih]
    unfold ob_ccs
    cases h : ob_ccp ah q k with
    | false =>
      simp only [Bool.false_eq_true, if_false]
      exact Int64.add_zero _
    | true =>
      simp only [if_true]
      have h1 := (ob_and2 h).1
      rw [ob_hb_bx (by omega), ob_bxN (by omega)] at h1
      have h2 := Nat.ge_two_pow_of_testBit h1
      have h3 : 0 < 2 ^ k := Nat.two_pow_pos k
      rw [ob_ccI_ne (by omega), ob_restN (by omega) (by omega) h1, ob_cl (by omega), hC (q - 2 ^ k) (by omega)]
theorem ob_porders {M : Nat → Nat → Int32} {Bd cl rd bf ah : Nat → Int32} {bg ct : Nat → Int64} {kc : Nat → Nat} {n : Nat} (hn : n ≤ 12) (hM : ob_KM M) (hB : ∀ a b, a ≤ 4 → b ≤ 4 → M a b = Bd (5 * a + b)) (hkc : ∀ k, cl k = nI (kc k) ∧ kc k ≤ 4) (hbf : ∀ j, j < n → bf j = ob_bs (fun i => ob_se M cl rd i j) n) :
    ob_ccO (ob_ah2 Bd kc rd n ah n) n ct (2 ^ n) (2 ^ n - 1) = ob_F bf n bg (2 ^ n) (2 ^ n - 1) := by
  have hK : ob_K (ob_eT Bd) 44000 := ob_K_cg hM.1 (fun i j hi hj => by simp only [ob_eT, ob_mI, hB i j hi hj])
  have he : ∀ k, k < n → bf k = ob_ah2 Bd kc rd n ah n k := fun k hk => by
    unfold ob_ah2
    rw [ob_fl_in hk, hbf k hk]
    refine ob_bx_ext (fun i hi => ?_)
    rw [ob_bx_bs _ hi (by omega), ob_bx_ahI hi (by omega), ob_seb hM hB hkc]
  have hi : ∀ k, k < n → ob_bx (bf k) k = false := fun k hk => by
    rw [hbf k hk, ob_bx_bs _ (by omega) (by omega), ob_seb hM hB hkc, ob_sb_irr hK (fun k => (hkc k).2), Bool.and_false]
  have key : ∀ m, m ≤ 2 ^ n → ∀ t, t < m → ob_F bf n bg m t = ob_ccO (ob_ah2 Bd kc rd n ah n) n ct m t := by
    intro m
    induction m with
    | zero => exact fun _ t ht => absurd ht (Nat.not_lt_zero _)
    | succ m ih =>
      intro hm t ht
      have ih := ih (by omega)
      rcases Nat.lt_or_ge t m with c | c
      · have a : ob_F bf n bg (m + 1) t = ob_F bf n bg m t := if_neg (by omega)
        rw [a, ih t c, ob_ccO]
        by_cases z : m = 0
        · omega
        · rw [if_neg z, ob_ccI_ne (by omega)]
      · have e : t = m := by omega
        subst e
        have a : ob_F bf n bg (t + 1) t = if t = 0 then lN 1 else ob_cb bf (ob_F bf n bg t) (nI t) n := if_pos rfl
        rw [a, ob_ccO]
        by_cases z : t = 0
        · subst z
          rw [if_pos rfl, if_pos rfl]
          exact (if_pos rfl).symm
        · rw [if_neg z, if_neg z]
          exact (ob_ccI_q hn (by omega) he hi ih n (Nat.le_refl _)).symm
  have h1 : 1 ≤ 2 ^ n := Nat.one_le_two_pow
  exact (key (2 ^ n) (Nat.le_refl _) (2 ^ n - 1) (by omega)).symm
-- ===== minutes
theorem ob_leN {a b : Nat} (ha : a ≤ 1073741824) (hb : b ≤ 1073741824) : nI a ≤ nI b ↔ a ≤ b := by rw [ob_lei, ob_ti ha, ob_ti hb]; omega
theorem ob_ltN {a b : Nat} (ha : a ≤ 1073741824) (hb : b ≤ 1073741824) : nI a < nI b ↔ a < b := by rw [ob_lti, ob_ti ha, ob_ti hb]; omega
def ob_mm (mn : Nat) (mf mt : Nat → Int32) : Prop := ∀ j, j < mn → ∃ f t : Nat, f ≤ t ∧ t ≤ 10000 ∧ mf j = nI f ∧ mt j = nI t
theorem ob_nxs {mn : Nat} {mf mt : Nat → Int32} (h : ob_mm mn mf mt) {q : Nat} (hq : q ≤ 10001) : ∀ {k : Nat}, k ≤ mn → ∃ v : Nat, ob_nx mf mt (nI q) k = nI v ∧ ob_cg mf mt (nI q) k = nI v ∧ v ≤ 10001 ∧ (q ≤ 10000 → q < v) ∧ (q = 10001 → v = 10001) ∧ (v < 10001 → ∃ j, j < k ∧ (mf j = nI v ∨ mt j + nI 1 = nI v))
  | 0, _ => ⟨10001, rfl, rfl, by omega, fun _ => by omega, fun _ => rfl, fun h => by omega⟩
  | k + 1, hk => by
    obtain ⟨v, e1, e2, v1, v2, v3, v4⟩ := ob_nxs h hq (k := k) (by omega)
    obtain ⟨f, t, hft, ht, ef, et⟩ := h k (by omega)
    have et1 : mt k + nI 1 = nI (t + 1) := by rw [et, nI_add]
    have lf : ∀ {a b : Nat}, a ≤ 20000 → b ≤ 20000 → (nI a ≤ nI b ↔ a ≤ b) := fun h1 h2 => ob_leN (by omega) (by omega)
    have ll : ∀ {a b : Nat}, a ≤ 20000 → b ≤ 20000 → (nI a < nI b ↔ a < b) := fun h1 h2 => ob_ltN (by omega) (by omega)
    have v4' : v < 10001 → ∃ j, j < k + 1 ∧ (mf j = nI v ∨ mt j + nI 1 = nI v) := fun z => by obtain ⟨j, hj, e⟩ := v4 z; exact ⟨j, by omega, e⟩
    rw [ob_nx, ob_cg, e1, e2, ef, et, nI_add]
    by_cases c1 : f ≤ q
    · have c1' : ¬ (nI q < nI f) := fun z => by have := (ll (by omega) (by omega)).mp z; omega
      rw [if_pos ((lf (by omega) (by omega)).mpr c1), decide_eq_false c1', Bool.false_and]
      simp only [Bool.false_eq_true, if_false]
      by_cases c2 : t + 1 ≤ q
      · have c2' : ¬ (nI q ≤ nI t) := fun z => by have := (lf (by omega) (by omega)).mp z; omega
        rw [if_pos ((lf (by omega) (by omega)).mpr c2), decide_eq_false c2', Bool.false_and]
        simp only [Bool.false_eq_true, if_false]
        exact ⟨v, rfl, rfl, v1, v2, v3, v4'⟩
      · have c2n : ¬ (nI (t + 1) ≤ nI q) := fun z => c2 ((lf (by omega) (by omega)).mp z)
        have c2' : nI q ≤ nI t := (lf (by omega) (by omega)).mpr (by omega)
        rw [if_neg c2n, decide_eq_true c2', Bool.true_and]
        by_cases c3 : t + 1 < v
        · have c3' := (ll (show t + 1 ≤ 20000 by omega) (show v ≤ 20000 by omega)).mpr c3
          rw [if_pos c3', decide_eq_true c3', if_pos rfl]
          exact ⟨t + 1, rfl, rfl, by omega, fun _ => by omega, fun _ => by omega, fun _ => ⟨k, by omega, Or.inr et1⟩⟩
        · have c3' : ¬ (nI (t + 1) < nI v) := fun z => c3 ((ll (by omega) (by omega)).mp z)
          rw [if_neg c3', decide_eq_false c3', if_neg (by decide)]
          exact ⟨v, rfl, rfl, v1, v2, v3, v4'⟩
    · have c1n : ¬ (nI f ≤ nI q) := fun z => c1 ((lf (by omega) (by omega)).mp z)
      have c1' : nI q < nI f := (ll (by omega) (by omega)).mpr (by omega)
      rw [if_neg c1n, decide_eq_true c1', Bool.true_and]
      by_cases c3 : f < v
      · have c3' := (ll (show f ≤ 20000 by omega) (show v ≤ 20000 by omega)).mpr c3
        have c4 : ¬ (nI (t + 1) < nI f) := fun z => by have := (ll (by omega) (by omega)).mp z; omega
        rw [if_pos c3', decide_eq_true c3', if_pos rfl, decide_eq_false c4, Bool.and_false]
        simp only [Bool.false_eq_true, if_false]
        exact ⟨f, rfl, rfl, by omega, fun _ => by omega, fun _ => by omega, fun _ => ⟨k, by omega, Or.inl ef⟩⟩
      · have c3' : ¬ (nI f < nI v) := fun z => c3 ((ll (by omega) (by omega)).mp z)
        have c4 : ¬ (nI (t + 1) < nI v) := fun z => by have := (ll (by omega) (by omega)).mp z; omega
        rw [if_neg c3', decide_eq_false c3']
        simp only [Bool.false_eq_true, if_false]
        rw [decide_eq_false c4, Bool.and_false]
        simp only [Bool.false_eq_true, if_false]
        exact ⟨v, rfl, rfl, v1, v2, v3, v4'⟩
def ob_tm (mf mt : Nat → Int32) (mn : Nat) : Nat → Nat
  | 0 => 0
  | k + 1 => (ob_nx mf mt (nI (ob_tm mf mt mn k)) mn).toNatClampNeg
theorem ob_tm_s {mn : Nat} {mf mt : Nat → Int32} (h : ob_mm mn mf mt) : ∀ k, ob_tm mf mt mn k ≤ 10001 ∧ ob_nx mf mt (nI (ob_tm mf mt mn k)) mn = nI (ob_tm mf mt mn (k + 1)) ∧ ob_cg mf mt (nI (ob_tm mf mt mn k)) mn = nI (ob_tm mf mt mn (k + 1)) := by
  have st : ∀ k, ob_tm mf mt mn k ≤ 10001 → ob_tm mf mt mn (k + 1) ≤ 10001 ∧ ob_nx mf mt (nI (ob_tm mf mt mn k)) mn = nI (ob_tm mf mt mn (k + 1)) ∧ ob_cg mf mt (nI (ob_tm mf mt mn k)) mn = nI (ob_tm mf mt mn (k + 1)) := fun k hk => by
    obtain ⟨v, e1, e2, v1, -⟩ := ob_nxs h hk (Nat.le_refl mn)
    have e : ob_tm mf mt mn (k + 1) = v := by rw [ob_tm, e1, ob_cl (by omega)]
    rw [e]
    exact ⟨v1, e1, e2⟩
  have b : ∀ k, ob_tm mf mt mn k ≤ 10001 := fun k => by
    induction k with
    | zero => exact Nat.zero_le _
    | succ k ih => exact (st k ih).1
  exact fun k => ⟨b k, (st k (b k)).2⟩
theorem ob_ct_lt {p q : Nat → Bool} {j : Nat} : ∀ {n : Nat}, (∀ k, k < n → p k = true → q k = true) → j < n → p j = false → q j = true → ob_ct p n + 1 ≤ ob_ct q n
  | 0, _, h, _, _ => absurd h (Nat.not_lt_zero _)
  | n + 1, h, hj, h1, h2 => by
    rw [ob_ct, ob_ct]
    rcases Nat.lt_or_ge j n with c | c
    · have := ob_ct_lt (n := n) (fun k hk => h k (by omega)) c h1 h2
      have h3 := h n (by omega)
      cases hp : p n <;> cases hq : q n <;> simp_all <;> omega
    · have e : j = n := by omega
      subst e
      have := ob_ct_mo (n := j) (p := p) (q := q) (fun k hk => h k (by omega))
      rw [h1, h2]
      simp
      omega
def ob_cq (mn : Nat) (mf mt : Nat → Int32) (q : Nat) : Nat := ob_ct (fun j => decide (nI q < mf j)) mn + ob_ct (fun j => decide (nI q < mt j + nI 1)) mn
theorem ob_tm_e {mn : Nat} {mf mt : Nat → Int32} (h : ob_mm mn mf mt) : ∀ k, ob_tm mf mt mn k = 10001 ∨ (ob_tm mf mt mn k ≤ 10000 ∧ ob_cq mn mf mt (ob_tm mf mt mn k) + k ≤ 2 * mn)
  | 0 => by
    right
    have h1 := ob_ct_le (fun j => decide (nI (ob_tm mf mt mn 0) < mf j)) mn
    have h2 := ob_ct_le (fun j => decide (nI (ob_tm mf mt mn 0) < mt j + nI 1)) mn
    exact ⟨Nat.zero_le _, by unfold ob_cq; omega⟩
  | k + 1 => by
    obtain ⟨b, s1, -⟩ := ob_tm_s h k
    obtain ⟨v, e1, -, v1, v2, v3, v4⟩ := ob_nxs h b (Nat.le_refl mn)
    have e : ob_tm mf mt mn (k + 1) = v := by rw [ob_tm, e1, ob_cl (by omega)]
    rw [e]
    rcases ob_tm_e h k with c | ⟨c, d⟩
    · exact Or.inl (v3 c)
    · by_cases z : v = 10001
      · exact Or.inl z
      · right
        refine ⟨by omega, ?_⟩
        obtain ⟨j, hj, ej⟩ := v4 (by omega)
        have lt := v2 c
        have tr : ∀ y : Int32, nI v < y → nI (ob_tm mf mt mn k) < y := fun y hy => by
          rw [ob_lti, ob_ti (by omega)] at hy ⊢
          omega
        have m1 := ob_ct_mo (n := mn) (p := fun j => decide (nI v < mf j)) (q := fun j => decide (nI (ob_tm mf mt mn k) < mf j)) (fun j _ hp => decide_eq_true (tr _ (of_decide_eq_true hp)))
        have m2 := ob_ct_mo (n := mn) (p := fun j => decide (nI v < mt j + nI 1)) (q := fun j => decide (nI (ob_tm mf mt mn k) < mt j + nI 1)) (fun j _ hp => decide_eq_true (tr _ (of_decide_eq_true hp)))
        have irr : ¬ (nI v < nI v) := fun c => absurd (ob_lti.mp c) (Int.lt_irrefl _)
        have l2 : nI (ob_tm mf mt mn k) < nI v := (ob_ltN (by omega) (by omega)).mpr lt
        have : ob_cq mn mf mt v + 1 ≤ ob_cq mn mf mt (ob_tm mf mt mn k) := by
          unfold ob_cq
          rcases ej with ej | ej
          · have := ob_ct_lt (n := mn) (j := j) (p := fun j => decide (nI v < mf j)) (q := fun j => decide (nI (ob_tm mf mt mn k) < mf j)) (fun j _ hp => decide_eq_true (tr _ (of_decide_eq_true hp))) hj (by simp only [ej]; exact decide_eq_false irr) (by simp only [ej]; exact decide_eq_true l2)
            omega
          · have := ob_ct_lt (n := mn) (j := j) (p := fun j => decide (nI v < mt j + nI 1)) (q := fun j => decide (nI (ob_tm mf mt mn k) < mt j + nI 1)) (fun j _ hp => decide_eq_true (tr _ (of_decide_eq_true hp))) hj (by simp only [ej]; exact decide_eq_false irr) (by simp only [ej]; exact decide_eq_true l2)
            omega
        omega
theorem ob_tm_end {mn : Nat} {mf mt : Nat → Int32} (h : ob_mm mn mf mt) : ob_tm mf mt mn (2 * mn + 1) = 10001 := by
  rcases ob_tm_e h (2 * mn + 1) with c | ⟨c, d⟩
  · exact c
  · omega
theorem ob_tm_st {mn : Nat} {mf mt : Nat → Int32} (h : ob_mm mn mf mt) {k : Nat} (hk : ob_tm mf mt mn k = 10001) : ob_tm mf mt mn (k + 1) = 10001 := by
  obtain ⟨v, e1, -, v1, v2, v3, v4⟩ := ob_nxs h (show 10001 ≤ 10001 from Nat.le_refl _) (Nat.le_refl mn)
  rw [ob_tm, hk, e1, ob_cl (by omega)]
  exact v3 rfl
theorem ob_wpc (ms mf mt mp : Nat → Int32) (p q : Int32) : ∀ k, ob_wst ms mf mt mp p q k = ob_pc ms mf mt mp p q k
  | 0 => rfl
  | k + 1 => by
    rw [ob_wst, ob_pc, ob_wpc ms mf mt mp p q k]
    cases (ob_wm ms p k && ob_wi q (mf k) (mt k)) with
    | false => simp
    | true =>
      simp only [if_true, Bool.true_and, decide_eq_true_eq]
theorem ob_sw_si {mn : Nat} {ms mf mt mp : Nat → Int32} (h : ob_mm mn mf mt) (p : Int32) : ∀ k, ob_sw ms mf mt mp mn p k = ob_si ms mf mt mp mn p k ∧ (ob_sw ms mf mt mp mn p k).2 = nI (ob_tm mf mt mn k)
  | 0 => ⟨rfl, rfl⟩
  | k + 1 => by
    obtain ⟨e1, e2⟩ := ob_sw_si h p k
    obtain ⟨-, s1, s2⟩ := ob_tm_s h k
    rw [ob_sw, ob_si, ← e1, e2, s1, s2, ob_wpc, Int32.mul_comm]
    exact ⟨rfl, rfl⟩
theorem ob_sw_k {mn : Nat} {ms mf mt mp : Nat → Int32} (h : ob_mm mn mf mt) (p : Int32) {k : Nat} (hk : ob_tm mf mt mn k = 10001) : ∀ m, (ob_sw ms mf mt mp mn p (k + m)).1 = (ob_sw ms mf mt mp mn p k).1 ∧ ob_tm mf mt mn (k + m) = 10001
  | 0 => ⟨rfl, hk⟩
  | m + 1 => by
    obtain ⟨e1, e2⟩ := ob_sw_k h p hk m
    have e3 := ob_tm_st h e2
    obtain ⟨-, s1, s2⟩ := ob_tm_s h (k + m)
    refine ⟨?_, e3⟩
    show (ob_sw ms mf mt mp mn p (k + m + 1)).1 = _
    rw [ob_sw, (ob_sw_si h p (k + m)).2, s1, e2, e3, Int32.sub_self, Int32.zero_mul, Int32.add_zero, e1]
theorem ob_10001 : ¬ nI 10001 ≤ nI 10000 := by decide
theorem ob_tmg {mn : Nat} {mf mt : Nat → Int32} (h : ob_mm mn mf mt) {k : Nat} (hk : ¬ nI (ob_tm mf mt mn k) ≤ nI 10000) : ob_tm mf mt mn k = 10001 := by
  have := (ob_tm_s h k).1
  rw [ob_leN (by omega) (by omega)] at hk
  omega
theorem ob_pimpact {mn : Nat} {ms mf mt mp : Nat → Int32} (h : ob_mm mn mf mt) (p : Int32) : ¬ (ob_si ms mf mt mp mn p (2 * mn + 1)).2 ≤ nI 10000 ∧ ∀ k, ¬ (ob_si ms mf mt mp mn p k).2 ≤ nI 10000 → (∀ j, j < k → (ob_si ms mf mt mp mn p j).2 ≤ nI 10000) → (ob_si ms mf mt mp mn p k).1 = (ob_sw ms mf mt mp mn p (2 * mn + 1)).1 := by
  have e : ∀ k, (ob_si ms mf mt mp mn p k).2 = nI (ob_tm mf mt mn k) := fun k => by rw [← (ob_sw_si h p k).1]; exact (ob_sw_si h p k).2
  have hend : ¬ (ob_si ms mf mt mp mn p (2 * mn + 1)).2 ≤ nI 10000 := by rw [e, ob_tm_end h]; exact ob_10001
  refine ⟨hend, fun k hk hj => ?_⟩
  have hle : k ≤ 2 * mn + 1 := by
    rcases Nat.lt_or_ge (2 * mn + 1) k with c | c
    · exact absurd (hj _ c) hend
    · exact c
  rw [e] at hk
  have := (ob_sw_k (ms := ms) (mp := mp) h p (ob_tmg h hk) (2 * mn + 1 - k)).1
  rw [show k + (2 * mn + 1 - k) = 2 * mn + 1 by omega] at this
  rw [this, (ob_sw_si h p k).1]
theorem ob_fm_sm {mn : Nat} {ms mf mt mp : Nat → Int32} (h : ob_mm mn mf mt) : ∀ k, ob_fm ms mf mt mp mn k = ob_sm2 ms mf mt mp mn k ∧ (ob_fm ms mf mt mp mn k).2 = nI (ob_tm mf mt mn k)
  | 0 => ⟨rfl, rfl⟩
  | k + 1 => by
    obtain ⟨e1, e2⟩ := ob_fm_sm h k
    obtain ⟨-, s1, s2⟩ := ob_tm_s h k
    rw [ob_fm, ob_sm2, ← e1, e2, s1, s2, ob_wpc]
    refine ⟨?_, rfl⟩
    by_cases c : ob_pc ms mf mt mp (-1) (nI (ob_tm mf mt mn k)) mn ≤ 0
    · rw [if_pos c, if_pos c, ob_n0, Int32.add_zero]
    · rw [if_neg c, if_neg c]
theorem ob_fm_k {mn : Nat} {ms mf mt mp : Nat → Int32} (h : ob_mm mn mf mt) {k : Nat} (hk : ob_tm mf mt mn k = 10001) : ∀ m, (ob_fm ms mf mt mp mn (k + m)).1 = (ob_fm ms mf mt mp mn k).1 ∧ ob_tm mf mt mn (k + m) = 10001
  | 0 => ⟨rfl, hk⟩
  | m + 1 => by
    obtain ⟨e1, e2⟩ := ob_fm_k h hk m
    have e3 := ob_tm_st h e2
    obtain ⟨-, s1, s2⟩ := ob_tm_s h (k + m)
    refine ⟨?_, e3⟩
    show (ob_fm ms mf mt mp mn (k + m + 1)).1 = _
    rw [ob_fm, (ob_fm_sm h (k + m)).2, s1, e2, e3, Int32.sub_self, Int32.add_zero, ite_self, e1]
theorem ob_pminutes {mn : Nat} {ms mf mt mp : Nat → Int32} (h : ob_mm mn mf mt) : ¬ (ob_sm2 ms mf mt mp mn (2 * mn + 1)).2 ≤ nI 10000 ∧ ∀ k, ¬ (ob_sm2 ms mf mt mp mn k).2 ≤ nI 10000 → (∀ j, j < k → (ob_sm2 ms mf mt mp mn j).2 ≤ nI 10000) → (ob_sm2 ms mf mt mp mn k).1 = (ob_fm ms mf mt mp mn (2 * mn + 1)).1 := by
  have e : ∀ k, (ob_sm2 ms mf mt mp mn k).2 = nI (ob_tm mf mt mn k) := fun k => by rw [← (ob_fm_sm h k).1]; exact (ob_fm_sm h k).2
  have hend : ¬ (ob_sm2 ms mf mt mp mn (2 * mn + 1)).2 ≤ nI 10000 := by rw [e, ob_tm_end h]; exact ob_10001
  refine ⟨hend, fun k hk hj => ?_⟩
  have hle : k ≤ 2 * mn + 1 := by
    rcases Nat.lt_or_ge (2 * mn + 1) k with c | c
    · exact absurd (hj _ c) hend
    · exact c
  rw [e] at hk
  have := (ob_fm_k (ms := ms) (mp := mp) h (ob_tmg h hk) (2 * mn + 1 - k)).1
  rw [show k + (2 * mn + 1 - k) = 2 * mn + 1 by omega] at this
  rw [this, (ob_fm_sm h k).1]
