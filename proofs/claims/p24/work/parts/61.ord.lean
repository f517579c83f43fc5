-- ===== the order of lines
theorem ob_seb {M : Nat → Nat → Int32} {Bd cl rd : Nat → Int32} {kc : Nat → Nat} (hM : ob_KM M) (hB : ∀ a b, a ≤ 4 → b ≤ 4 → M a b = Bd (5 * a + b)) (hkc : ∀ k, cl k = nI (kc k) ∧ kc k ≤ 4) (i j : Nat) : ob_se M cl rd i j = ob_sb Bd kc rd i j := by
  unfold ob_se ob_sb
  rw [(hkc i).1, (hkc j).1, ob_ms_nI (hkc i).2 (hkc j).2, hB _ _ (hkc i).2 (hkc j).2]
  have h1 := hM.1.2.1 _ _ (hkc i).2 (hkc j).2
  simp only [ob_mI, hB _ _ (hkc i).2 (hkc j).2] at h1
  congr 1
  by_cases e : Bd (5 * kc i + kc j) = 1000000
  · rw [e]; rfl
  · have : Bd (5 * kc i + kc j) < 1000000 := by
      rw [ob_lti, ob_UI]
      rw [ob_eqi, ob_UI] at e
      omega
    rw [decide_eq_true this, decide_eq_false e]; rfl
def ob_rdk (rd : Nat → Int32) : Prop := ∀ k, ∃ r : Nat, r ≤ 10000 ∧ rd k = nI r
theorem ob_sb_irr {Bd rd : Nat → Int32} {kc : Nat → Nat} (hK : ob_K (ob_eT Bd) 44000) (hk : ∀ k, kc k ≤ 4) (i : Nat) : ob_sb Bd kc rd i i = false := by
  have h := hK.1 (kc i) (hk i)
  have e : Bd (5 * kc i + kc i) = 0 := ob_eqi.mpr h
  unfold ob_sb
  rw [e, Int32.add_zero, decide_eq_false (show ¬ rd i < rd i from fun c => absurd (ob_lti.mp c) (Int.lt_irrefl _)), Bool.and_false]
theorem ob_sb_t {Bd rd : Nat → Int32} {kc : Nat → Nat} (hK : ob_K (ob_eT Bd) 44000) (hk : ∀ k, kc k ≤ 4) (hr : ob_rdk rd) {i j : Nat} : ob_sb Bd kc rd i j = true ↔ ob_eT Bd (kc i) (kc j) < 1000000 ∧ (rd i).toInt + ob_eT Bd (kc i) (kc j) < (rd j).toInt := by
  have h1 := hK.2.1 _ _ (hk i) (hk j)
  obtain ⟨r, hr1, hr2⟩ := hr i
  have t := ob_ti (show r ≤ 1073741824 by omega)
  unfold ob_sb
  simp only [ob_eT] at *
  rw [Bool.and_eq_true, Bool.not_eq_true', decide_eq_false_iff_not, decide_eq_true_eq, ob_eqi, ob_UI, ob_lti]
  constructor
  · rintro ⟨a, b⟩
    have h2 := hK.2.2.1 _ _ (hk i) (hk j) (by simp only [ob_eT]; omega)
    simp only [ob_eT] at h2
    rw [ob_addI (by rw [hr2]; omega) (by rw [hr2]; omega)] at b
    exact ⟨by omega, b⟩
  · rintro ⟨a, b⟩
    have h2 := hK.2.2.1 _ _ (hk i) (hk j) a
    simp only [ob_eT] at h2
    rw [ob_addI (by rw [hr2]; omega) (by rw [hr2]; omega)]
    exact ⟨by omega, b⟩
theorem ob_sb_tr {Bd rd : Nat → Int32} {kc : Nat → Nat} (hK : ob_K (ob_eT Bd) 44000) (hk : ∀ k, kc k ≤ 4) (hr : ob_rdk rd) {i j k : Nat} (h1 : ob_sb Bd kc rd i j = true) (h2 : ob_sb Bd kc rd j k = true) : ob_sb Bd kc rd i k = true := by
  rw [ob_sb_t hK hk hr] at h1 h2 ⊢
  have := hK.2.2.2 _ _ _ (hk i) (hk j) (hk k) h1.1 h2.1
  have := hK.2.2.1 _ _ (hk i) (hk j) h1.1
  have := hK.2.2.1 _ _ (hk j) (hk k) h2.1
  omega
/-- among some of those below n there is one that none of them is before -/
theorem ob_min {r : Nat → Nat → Bool} (irr : ∀ i, r i i = false) (tr : ∀ i j k, r i j = true → r j k = true → r i k = true) {p : Nat → Bool} : ∀ {n : Nat}, (∃ i, i < n ∧ p i = true) → ∃ i, i < n ∧ p i = true ∧ ∀ j, j < n → p j = true → r j i = false
  | 0, h => by obtain ⟨i, h, -⟩ := h; exact absurd h (Nat.not_lt_zero _)
  | n + 1, h => by
    by_cases q : ∃ i, i < n ∧ p i = true
    · obtain ⟨i, hi, pi, hm⟩ := ob_min irr tr q
      by_cases c : p n = true ∧ r n i = true
      · refine ⟨n, by omega, c.1, fun j hj pj => ?_⟩
        rcases Nat.lt_or_ge j n with h1 | h1
        · cases hjn : r j n with
          | false => rfl
          | true =>
            have := tr j n i hjn c.2
            rw [hm j h1 pj] at this
            cases this
        · rw [show j = n by omega]; exact irr n
      · refine ⟨i, by omega, pi, fun j hj pj => ?_⟩
        rcases Nat.lt_or_ge j n with h1 | h1
        · exact hm j h1 pj
        · have e : j = n := by omega
          subst e
          cases hji : r j i with
          | false => rfl
          | true => exact absurd ⟨pj, hji⟩ c
    · obtain ⟨i, hi, pi⟩ := h
      have e : i = n := by
        rcases Nat.lt_or_ge i n with h1 | h1
        · exact absurd ⟨i, h1, pi⟩ q
        · omega
      subst e
      refine ⟨i, by omega, pi, fun j hj pj => ?_⟩
      rcases Nat.lt_or_ge j i with h1 | h1
      · exact absurd ⟨j, h1, pj⟩ q
      · rw [show j = i by omega]; exact irr i
theorem ob_bx_bs (p : Nat → Bool) {i : Nat} (hi : i < 32) : ∀ {k : Nat}, k ≤ 32 → ob_bx (ob_bs p k) i = (decide (i < k) && p i)
  | 0, _ => by rw [ob_bs, ob_n0, ob_bx_0]; simp
  | k + 1, hk => by
    have ih := ob_bx_bs p hi (k := k) (by omega)
    have e : decide (i < k + 1) = (decide (i < k) || decide (i = k)) := by rw [← Bool.decide_or]; exact decide_eq_decide.mpr ⟨fun h => by omega, fun h => by omega⟩
    rw [ob_bs, e]
    by_cases hp : p k = true
    · rw [if_pos hp, ob_bx_or, ih, ob_bx_bit (by omega) hi]
      by_cases c : i = k
      · subst c; simp [hp]
      · simp [c]
    · rw [if_neg hp, ih]
      by_cases c : i = k
      · subst c; simp [hp]
      · simp [c]
theorem ob_bx_all {n i : Nat} (hn : n ≤ 30) (hi : i < 32) : ob_bx (ob_bit (nI n) - nI 1) i = decide (i < n) := by
  rw [ob_bitm1 hn, ob_bxN hi, Nat.testBit_two_pow_sub_one]
theorem ob_and0 {x y : Int32} : x &&& y = 0 ↔ ∀ i, i < 32 → ¬ (ob_bx x i = true ∧ ob_bx y i = true) := by
  constructor
  · intro h i hi
    have := congrArg (fun z => ob_bx z i) h
    simp only [ob_bx_and, ob_bx_0] at this
    intro ⟨a, b⟩
    rw [a, b] at this
    cases this
  · intro h
    refine ob_bx_ext (fun i hi => ?_)
    rw [ob_bx_and, ob_bx_0]
    have := h i hi
    cases ha : ob_bx x i <;> cases hb : ob_bx y i <;> simp_all
theorem ob_il_iff {B : Nat → Int32} {kc : Nat → Nat} {rd : Nat → Int32} {w : Int32} {i : Nat} : ∀ {j : Nat}, ob_il B kc rd w i j = true ↔ ob_hb w (nI i) = false ∧ ∀ l, l < j → ob_hb w (nI l) = true ∨ ob_sb B kc rd l i = false
  | 0 => by simp [ob_il]
  | j + 1 => by
    rw [ob_il, Bool.and_eq_true, ob_il_iff, Bool.or_eq_true, Bool.not_eq_true']
    exact ⟨fun h => ⟨h.1.1, fun l hl => by rcases Nat.lt_or_ge l j with q | q; exact h.1.2 l q; rw [show l = j by omega]; exact h.2⟩, fun h => ⟨⟨h.1, fun l hl => h.2 l (by omega)⟩, h.2 j (by omega)⟩⟩
theorem ob_f1_cg {p q : Nat → Bool} : ∀ {n : Nat}, (∀ k, k < n → p k = q k) → ob_f1 p n = ob_f1 q n
  | 0, _ => rfl
  | n + 1, h => by rw [ob_f1, ob_f1, ob_f1_cg (fun k hk => h k (by omega)), h n (by omega)]
theorem ob_f1_lt {p : Nat → Bool} : ∀ {n : Nat}, (∃ i, i < n ∧ p i = true) → ob_f1 p n < n ∧ p (ob_f1 p n) = true
  | 0, h => by obtain ⟨i, h, -⟩ := h; exact absurd h (Nat.not_lt_zero _)
  | n + 1, h => by
    rw [ob_f1]
    by_cases q : ob_f1 p n < n
    · simp only [q, if_true]
      refine ⟨by omega, ?_⟩
      by_cases c : ∃ i, i < n ∧ p i = true
      · exact (ob_f1_lt c).2
      · have := ob_f1_no (p := p) (n := n) (fun j hj => by cases hp : p j with | false => rfl | true => exact absurd ⟨j, hj, hp⟩ c)
        omega
    · simp only [q, if_false]
      obtain ⟨i, hi, pi⟩ := h
      have e : i = n := by
        rcases Nat.lt_or_ge i n with h1 | h1
        · exact absurd (ob_f1_lt ⟨i, h1, pi⟩).1 q
        · omega
      subst e
      simp [pi]
theorem ob_ct_rm {q q' : Nat → Bool} {m : Nat} : ∀ {n : Nat}, m < n → (∀ i, i < n → i ≠ m → q' i = q i) → q' m = false → ob_ct q n = ob_ct q' n + if q m then 1 else 0
  | 0, h, _, _ => absurd h (Nat.not_lt_zero _)
  | n + 1, h, he, h0 => by
    rw [ob_ct, ob_ct]
    rcases Nat.lt_or_ge m n with c | c
    · rw [ob_ct_rm c (fun i hi => he i (by omega)) h0, he n (by omega) (by omega)]
      omega
    · have e : m = n := by omega
      subst e
      rw [h0, ob_ct_cg (p := q) (q := q') (fun k hk => (he k (by omega) (by omega)).symm)]
      simp
theorem ob_ct_pos {p : Nat → Bool} : ∀ {n : Nat}, 0 < ob_ct p n → ∃ i, i < n ∧ p i = true
  | 0, h => absurd h (Nat.lt_irrefl _)
  | n + 1, h => by
    rw [ob_ct] at h
    by_cases c : p n = true
    · exact ⟨n, by omega, c⟩
    · rw [if_neg c] at h
      obtain ⟨i, hi, pi⟩ := ob_ct_pos h
      exact ⟨i, by omega, pi⟩
theorem ob_ct_t {n : Nat} : ob_ct (fun _ => true) n = n := by
  induction n with
  | zero => rfl
  | succ n ih => rw [ob_ct, ih]; rfl
/-- the two ways to lay the order give one order, with every line once -/
theorem ob_ordr {M : Nat → Nat → Int32} {Bd cl rd bf : Nat → Int32} {kc : Nat → Nat} {n : Nat} (hn : n ≤ 30) (hM : ob_KM M) (hB : ∀ a b, a ≤ 4 → b ≤ 4 → M a b = Bd (5 * a + b)) (hkc : ∀ k, cl k = nI (kc k) ∧ kc k ≤ 4) (hr : ob_rdk rd) (hbf : ∀ j, j < n → bf j = ob_bs (fun i => ob_se M cl rd i j) n) :
    ∀ k, k ≤ n → (∀ i, i < 32 → ob_bx (ob_lf bf n k) i = (decide (i < n) && !ob_bx (ob_tn Bd kc rd n k) i)) ∧ (∀ j, j < k → ∃ m, m < n ∧ ob_nl bf n (ob_lf bf n j) = nI m ∧ ob_nr Bd kc rd n (ob_tn Bd kc rd n j) = nI m) ∧ (∀ p : Nat → Bool, ob_ct (fun j => p (ob_nl bf n (ob_lf bf n j)).toNatClampNeg) k + ob_ct (fun i => p i && ob_bx (ob_lf bf n k) i) n = ob_ct p n) := by
  have hK : ob_K (ob_eT Bd) 44000 := ob_K_cg hM.1 (fun i j hi hj => by simp only [ob_eT, ob_mI, hB i j hi hj])
  have hk : ∀ k, kc k ≤ 4 := fun k => (hkc k).2
  intro k
  induction k with
  | zero =>
    intro _
    have b0 : ∀ i, i < 32 → ob_bx (ob_lf bf n 0) i = decide (i < n) := fun i hi => ob_bx_all hn hi
    refine ⟨fun i hi => by rw [b0 i hi, ob_tn, ob_n0, ob_bx_0]; simp, fun j hj => absurd hj (Nat.not_lt_zero _), fun p => ?_⟩
    rw [ob_ct, Nat.zero_add]
    exact ob_ct_cg (fun i hi => by rw [b0 i (by omega), decide_eq_true hi, Bool.and_true])
  | succ k ih =>
    intro hkn
    obtain ⟨i1, i2, i3⟩ := ih (by omega)
    have pkil : ∀ i, i < n → ob_pk bf (ob_lf bf n k) i = ob_il Bd kc rd (ob_tn Bd kc rd n k) i n := fun i hi => by
      refine Bool.eq_iff_iff.mpr ?_
      rw [ob_il_iff, ob_pk, Bool.and_eq_true, decide_eq_true_eq, ob_hb_bx (by omega), ob_hb_bx (by omega), i1 i (by omega), ob_and0, hbf i hi, decide_eq_true hi]
      simp only [Bool.true_and, Bool.not_eq_true']
      refine and_congr_right (fun _ => ⟨fun h l hl => ?_, fun h l hl => ?_⟩)
      · have := h l (by omega)
        rw [ob_bx_bs _ (by omega) (by omega), i1 l (by omega), decide_eq_true hl, ob_seb hM hB hkc] at this
        rw [ob_hb_bx (by omega)]
        simp only [Bool.true_and, Bool.not_eq_true'] at this
        cases h1 : ob_bx (ob_tn Bd kc rd n k) l
        · right
          cases h2 : ob_sb Bd kc rd l i
          · rfl
          · exact absurd ⟨h2, h1⟩ this
        · left; rfl
      · rw [ob_bx_bs _ hl (by omega), i1 l hl, ob_seb hM hB hkc]
        rintro ⟨a, b⟩
        obtain ⟨a1, a2⟩ := ob_and2 a
        obtain ⟨b1, b2⟩ := ob_and2 b
        have hln := of_decide_eq_true a1
        rcases h l hln with q | q
        · rw [ob_hb_bx (by omega)] at q
          rw [q] at b2
          cases b2
        · rw [q] at a2
          cases a2
    have f1e := ob_f1_cg pkil
    have hpos : 0 < ob_ct (fun i => true && ob_bx (ob_lf bf n k) i) n := by
      have := i3 (fun _ => true)
      rw [ob_ct_t, ob_ct_t] at this
      omega
    obtain ⟨i0, hi0, pi0⟩ := ob_ct_pos hpos
    have pi0 : ob_bx (ob_lf bf n k) i0 = true := pi0
    obtain ⟨im, him, pim, hmin⟩ := ob_min (r := fun i j => ob_sb Bd kc rd i j) (fun i => ob_sb_irr hK hk i) (fun i j k h1 h2 => ob_sb_tr hK hk hr h1 h2) (p := fun i => ob_bx (ob_lf bf n k) i) ⟨i0, hi0, pi0⟩
    have ex : ob_pk bf (ob_lf bf n k) im = true := by
      rw [pkil im him, ob_il_iff]
      have q := i1 im (by omega)
      rw [pim] at q
      have q2 := (ob_and2 q.symm).2
      refine ⟨by rw [ob_hb_bx (by omega)]; simpa using q2, fun l hl => ?_⟩
      rw [ob_hb_bx (by omega)]
      cases h1 : ob_bx (ob_tn Bd kc rd n k) l
      · right
        exact hmin l hl (by rw [i1 l (by omega), h1, decide_eq_true hl]; rfl)
      · left; rfl
    obtain ⟨g1, g2⟩ := ob_f1_lt ⟨im, him, ex⟩
    obtain ⟨m, hm⟩ : ∃ m, m = ob_f1 (ob_pk bf (ob_lf bf n k)) n := ⟨_, rfl⟩
    have enl : ob_nl bf n (ob_lf bf n k) = nI m := by unfold ob_nl; rw [if_pos g1, hm]
    have enr : ob_nr Bd kc rd n (ob_tn Bd kc rd n k) = nI m := by unfold ob_nr; rw [← f1e, if_pos g1, hm]
    rw [← hm] at g1 g2
    have hbm : ob_bx (ob_lf bf n k) m = true := by
      have := (ob_and2 g2).1
      rwa [ob_hb_bx (by omega)] at this
    have eL : ∀ i, i < 32 → ob_bx (ob_lf bf n (k + 1)) i = (ob_bx (ob_lf bf n k) i && !decide (i = m)) := fun i hi => by
      rw [ob_lf, ob_bx_and, ob_bx_not hi, enl, ob_bx_bit (by omega) hi]
    refine ⟨fun i hi => ?_, fun j hj => ?_, fun p => ?_⟩
    · rw [eL i hi, i1 i hi, ob_tn, ob_bx_or, enr, ob_bx_bit (by omega) hi]
      cases decide (i < n) <;> cases ob_bx (ob_tn Bd kc rd n k) i <;> cases decide (i = m) <;> rfl
    · rcases Nat.lt_or_ge j k with q | q
      · exact i2 j q
      · rw [show j = k by omega]
        exact ⟨m, g1, enl, enr⟩
    · rw [ob_ct, enl, ob_cl (show m ≤ 1073741824 by omega)]
      have := i3 p
      have rm := ob_ct_rm (q := fun i => p i && ob_bx (ob_lf bf n k) i) (q' := fun i => p i && ob_bx (ob_lf bf n (k + 1)) i) g1 (fun i hi him => by
        simp only [eL i (show i < 32 by omega), decide_eq_false him, Bool.not_false, Bool.and_true]) (by simp [eL m (show m < 32 by omega)])
      simp only [hbm, Bool.and_true] at rm
      omega
theorem ob_pm {M : Nat → Nat → Int32} {Bd cl rd bf : Nat → Int32} {kc : Nat → Nat} {n : Nat} (hn : n ≤ 30) (hM : ob_KM M) (hB : ∀ a b, a ≤ 4 → b ≤ 4 → M a b = Bd (5 * a + b)) (hkc : ∀ k, cl k = nI (kc k) ∧ kc k ≤ 4) (hr : ob_rdk rd) (hbf : ∀ j, j < n → bf j = ob_bs (fun i => ob_se M cl rd i j) n) :
    ∃ pm : Nat → Nat, (∀ k, k < n → ob_nl bf n (ob_lf bf n k) = nI (pm k) ∧ pm k < n) ∧ (∀ k, k < n → ob_nr Bd kc rd n (ob_tn Bd kc rd n k) = nI (pm k)) ∧ ∀ p : Nat → Bool, ob_ct (fun k => p (pm k)) n = ob_ct p n := by
  obtain ⟨-, h2, h3⟩ := ob_ordr hn hM hB hkc hr hbf n (Nat.le_refl _)
  have e : ∀ k, k < n → ∃ m, m < n ∧ (ob_nl bf n (ob_lf bf n k)).toNatClampNeg = m ∧ ob_nl bf n (ob_lf bf n k) = nI m ∧ ob_nr Bd kc rd n (ob_tn Bd kc rd n k) = nI m := fun k hk => by
    obtain ⟨m, hm, e1, e2⟩ := h2 k hk
    exact ⟨m, hm, by rw [e1, ob_cl (show m ≤ 1073741824 by omega)], e1, e2⟩
  refine ⟨fun k => (ob_nl bf n (ob_lf bf n k)).toNatClampNeg, fun k hk => ?_, fun k hk => ?_, fun p => ?_⟩
  · obtain ⟨m, hm, e0, e1, -⟩ := e k hk
    simp only [e0]
    exact ⟨e1, hm⟩
  · obtain ⟨m, hm, e0, -, e2⟩ := e k hk
    simp only [e0]
    exact e2
  · have h4 := h3 (fun _ => true)
    rw [ob_ct_t] at h4
    have h5 := h3 p
    show ob_ct (fun j => p (ob_nl bf n (ob_lf bf n j)).toNatClampNeg) n = ob_ct p n
    have h6 := ob_ct_mo (n := n) (p := fun i => p i && ob_bx (ob_lf bf n n) i) (q := fun i => true && ob_bx (ob_lf bf n n) i) (fun k hk h => by simp only [Bool.and_eq_true] at h ⊢; exact ⟨trivial, h.2⟩)
    omega
def ob_wk (K : Nat) (ba wf wa : Nat → Int32) : Prop := ∀ k, ∃ p q : Nat, p ≤ K ∧ q ≤ K ∧ wf k = nI p ∧ wa k = nI q ∧ ba k = wf k - wa k
theorem ob_dbt {K : Nat} {ba wf wa : Nat → Int32} (hK : K ≤ 1000000) (h : ob_wk K ba wf wa) (k : Nat) : decide (ba k < 0) = decide (wf k < wa k) := by
  obtain ⟨p, q, hp, hq, e1, e2, e3⟩ := h k
  refine decide_eq_decide.mpr ?_
  have t1 := ob_ti (show p ≤ 1073741824 by omega)
  have t2 := ob_ti (show q ≤ 1073741824 by omega)
  rw [ob_lti, ob_lti, e3, e1, e2, ob_subI (by omega) (by omega), ob_0I]
  omega
theorem ob_sto {K : Nat} {pb ba wf wa : Nat → Int32} (hK : K ≤ 1000000) (h : ob_wk K ba wf wa) (k : Nat) : ob_st pb ba k = ob_os pb wf wa k := by
  unfold ob_st ob_os
  rw [ob_dbt hK h]
theorem ob_iso {K n : Nat} {pb ba wf wa od : Nat → Int32} {pm : Nat → Nat} (hn : n ≤ 30) (hK : K ≤ 1000000) (h : ob_wk K ba wf wa) (hpm : ∀ k, k < n → od k = nI (pm k) ∧ pm k < n) {k : Nat} (hk : k < n) : ob_is n pb ba od k = ob_os pb wf wa (pm k) := by
  unfold ob_is
  rw [(hpm k hk).1, ob_hd_nI (hpm k hk).2, ob_cl (by have := (hpm k hk).2; omega), ob_sto hK h, Bool.true_and]
theorem ob_pstory {K n : Nat} {pb ba wf wa od : Nat → Int32} {pm : Nat → Nat} (hn : n ≤ 30) (hK : K ≤ 1000000) (h : ob_wk K ba wf wa) (hpm : ∀ k, k < n → od k = nI (pm k) ∧ pm k < n) (hc : ∀ p : Nat → Bool, ob_ct (fun k => p (pm k)) n = ob_ct p n) : ob_ct (ob_is n pb ba od) n = ob_ct (ob_os pb wf wa) n := by
  rw [← hc (ob_os pb wf wa)]
  exact ob_ct_cg (fun k hk => ob_iso hn hK h hpm hk)
theorem ob_ct_sm (p : Nat → Bool) {k : Nat} : ∀ m, ob_ct p k ≤ ob_ct p (k + m)
  | 0 => Nat.le_refl _
  | m + 1 => by
    have := ob_ct_sm p (k := k) m
    show _ ≤ ob_ct p (k + m + 1)
    rw [ob_ct]
    omega
theorem ob_ct_inj {p : Nat → Bool} {a b : Nat} (ha : p a = true) (hb : p b = true) (h : ob_ct p a = ob_ct p b) : a = b := by
  rcases Nat.lt_trichotomy a b with c | c | c
  · have := ob_ct_sm p (k := a + 1) (b - (a + 1))
    rw [show a + 1 + (b - (a + 1)) = b by omega, ob_ct, ha] at this
    simp at this
    omega
  · exact c
  · have := ob_ct_sm p (k := b + 1) (a - (b + 1))
    rw [show b + 1 + (a - (b + 1)) = a by omega, ob_ct, hb] at this
    simp at this
    omega
theorem ob_sx_hd {p : Nat → Bool} {x : Int32} : ∀ {n : Nat}, n ≤ 1000000 → ob_sx p x n = ob_hd (ob_ct p n) x
  | 0, _ => by
    rw [ob_sx, ob_ct]
    exact (decide_eq_false (fun h => by omega)).symm
  | n + 1, hn => by
    have hc := ob_ct_le p n
    rw [ob_sx, ob_sx_hd (n := n) (by omega), ob_ct]
    cases hp : p n with
    | false => simp
    | true =>
      simp only [Bool.true_and, if_true]
      unfold ob_hd
      rw [← Bool.decide_or]
      refine decide_eq_decide.mpr ?_
      rw [ob_eqi, ob_ti (by omega)]
      omega
theorem ob_sx_cg {p q : Nat → Bool} {x : Int32} {n : Nat} (hn : n ≤ 1000000) (h : ∀ k, k < n → p k = q k) : ob_sx p x n = ob_sx q x n := by rw [ob_sx_hd hn, ob_sx_hd hn, ob_ct_cg h]
theorem ob_pstoryAt {K n : Nat} {pb ba wf wa od : Nat → Int32} {pm : Nat → Nat} {x u b : Int32} (hn : n ≤ 30) (hK : K ≤ 1000000) (h : ob_wk K ba wf wa) (hpm : ∀ k, k < n → od k = nI (pm k) ∧ pm k < n) (hc : ∀ p : Nat → Bool, ob_ct (fun k => p (pm k)) n = ob_ct p n) :
    ob_z1 (ob_sx (ob_is n pb ba od) x n) = ob_z1 (ob_hd (ob_ct (ob_os pb wf wa) n) x) ∧ (ob_z1 (ob_sx (ob_is n pb ba od) x n) = 0 → (∃ k, k < n ∧ ob_is n pb ba od k = true ∧ nI (ob_ct (ob_is n pb ba od) k) = x ∧ u = od k) →
      ((ob_hd (ob_ct (ob_os pb wf wa) n) x = false ∧ b = nI 0) ∨ (ob_hd (ob_ct (ob_os pb wf wa) n) x = true ∧ ((∃ k, k < n ∧ (fun k => ob_os pb wf wa (pm k)) k = true ∧ nI (ob_ct (fun k => ob_os pb wf wa (pm k)) k) = x ∧ b = nI (pm k)) ∨ ((∀ k, k < n → (fun k => ob_os pb wf wa (pm k)) k = true → ¬ nI (ob_ct (fun k => ob_os pb wf wa (pm k)) k) = x) ∧ b = -1)))) → b = u) := by
  have e0 : ob_sx (ob_is n pb ba od) x n = ob_hd (ob_ct (ob_os pb wf wa) n) x := by rw [ob_sx_hd (by omega), ob_pstory hn hK h hpm hc]
  refine ⟨by rw [e0], fun hz => ?_⟩
  rw [e0] at hz
  have ht : ob_hd (ob_ct (ob_os pb wf wa) n) x = true := by
    cases q : ob_hd (ob_ct (ob_os pb wf wa) n) x with
    | true => rfl
    | false => rw [q] at hz; exact absurd hz (by decide)
  rintro ⟨k, hk, p1, p2, rfl⟩ hb
  have ek : ∀ k, k ≤ n → ob_ct (ob_is n pb ba od) k = ob_ct (fun k => ob_os pb wf wa (pm k)) k := fun k hk => ob_ct_cg (fun j hj => ob_iso hn hK h hpm (by omega))
  rw [ek k (by omega)] at p2
  rw [ob_iso hn hK h hpm hk] at p1
  rcases hb with ⟨hf, -⟩ | ⟨-, ⟨k2, hk2, q1, q2, rfl⟩ | ⟨q1, -⟩⟩
  · rw [ht] at hf; cases hf
  · have b1 := ob_ct_le (fun k => ob_os pb wf wa (pm k)) k
    have b2 := ob_ct_le (fun k => ob_os pb wf wa (pm k)) k2
    have e : ob_ct (fun k => ob_os pb wf wa (pm k)) k = ob_ct (fun k => ob_os pb wf wa (pm k)) k2 := (nI_eq (ob_nlt (by omega)) (ob_nlt (by omega))).mp (p2.trans q2.symm)
    have := ob_ct_inj (p := fun k => ob_os pb wf wa (pm k)) p1 q1 e
    subst this
    exact (hpm k hk).1.symm
  · exact absurd p2 (q1 k hk p1)
theorem ob_pfirstOf {n : Nat} {sv od : Nat → Int32} {pm : Nat → Nat} {x u b : Int32} {ok : Bool} (hok : ok = true) (hn : n ≤ 30) (hpm : ∀ k, k < n → od k = nI (pm k) ∧ pm k < n) (hu : (∃ k, k < n ∧ ob_fp n sv od x k = true ∧ (∀ j, j < k → ob_fp n sv od x j = false) ∧ u = od k) ∨ ((∀ j, j < n → ob_fp n sv od x j = false) ∧ u = -1))
    (hb : (ok = false ∧ b = nI 0) ∨ (ok = true ∧ ((∃ k, k < n ∧ (fun k => decide (sv (pm k) = x)) k = true ∧ (∀ j, j < k → (fun k => decide (sv (pm k) = x)) j = false) ∧ b = nI (pm k)) ∨ ((∀ k, k < n → (fun k => decide (sv (pm k) = x)) k = false) ∧ b = -1)))) : b = u := by
  have e : ∀ k, k < n → ob_fp n sv od x k = decide (sv (pm k) = x) := fun k hk => by
    unfold ob_fp
    rw [(hpm k hk).1, ob_hd_nI (hpm k hk).2, ob_cl (by have := (hpm k hk).2; omega), Bool.true_and]
  rcases hb with ⟨hf, -⟩ | ⟨-, hb⟩
  · rw [hok] at hf; cases hf
  · rcases hu with ⟨k, hk, p1, p2, rfl⟩ | ⟨p1, rfl⟩ <;> rcases hb with ⟨k2, hk2, q1, q2, rfl⟩ | ⟨q1, rfl⟩
    · rw [e k hk] at p1
      rcases Nat.lt_trichotomy k k2 with c | c | c
      · have := q2 k c
        simp only at this
        rw [p1] at this; cases this
      · subst c; exact (hpm k hk).1.symm
      · have := p2 k2 c
        rw [e k2 hk2] at this
        simp only at q1
        rw [q1] at this; cases this
    · rw [e k hk] at p1
      have := q1 k hk
      simp only at this
      rw [p1] at this; cases this
    · have := p1 k2 hk2
      rw [e k2 hk2] at this
      simp only at q1
      rw [q1] at this; cases this
    · rfl
