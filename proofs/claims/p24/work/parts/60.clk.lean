-- ===== whole numbers behind ints
theorem ob_bm {z : Int} (h1 : -2147483648 ≤ z) (h2 : z < 2147483648) : z.bmod (2 ^ 32) = z := Int.bmod_eq_of_le (by omega) (by omega)
theorem ob_addI {x y : Int32} (h1 : -2147483648 ≤ x.toInt + y.toInt) (h2 : x.toInt + y.toInt < 2147483648) : (x + y).toInt = x.toInt + y.toInt := by rw [Int32.toInt_add, ob_bm h1 h2]
theorem ob_subI {x y : Int32} (h1 : -2147483648 ≤ x.toInt - y.toInt) (h2 : x.toInt - y.toInt < 2147483648) : (x - y).toInt = x.toInt - y.toInt := by rw [Int32.toInt_sub, ob_bm h1 h2]
theorem ob_negI {x : Int32} (h1 : -2147483648 < x.toInt) (h2 : x.toInt ≤ 2147483647) : (-x).toInt = - x.toInt := by rw [Int32.toInt_neg, ob_bm (by omega) (by omega)]
theorem ob_UI : (1000000 : Int32).toInt = 1000000 := rfl
theorem ob_0I : (0 : Int32).toInt = 0 := rfl
theorem ob_eqi {x y : Int32} : x = y ↔ x.toInt = y.toInt := Int32.toInt_inj.symm
-- counting
theorem ob_ct_or {p q r : Nat → Bool} : ∀ {n : Nat}, (∀ k, k < n → r k = (p k || q k)) → (∀ k, k < n → ¬ (p k = true ∧ q k = true)) → ob_ct r n = ob_ct p n + ob_ct q n
  | 0, _, _ => rfl
  | n + 1, h, hd => by
    rw [ob_ct, ob_ct, ob_ct, ob_ct_or (fun k hk => h k (by omega)) (fun k hk => hd k (by omega)), h n (by omega)]
    have := hd n (by omega)
    cases hp : p n <;> cases hq : q n <;> simp_all <;> omega
theorem ob_ct_cg {p q : Nat → Bool} : ∀ {n : Nat}, (∀ k, k < n → p k = q k) → ob_ct p n = ob_ct q n
  | 0, _ => rfl
  | n + 1, h => by rw [ob_ct, ob_ct, ob_ct_cg (fun k hk => h k (by omega)), h n (by omega)]
theorem ob_ct_mo {p q : Nat → Bool} : ∀ {n : Nat}, (∀ k, k < n → p k = true → q k = true) → ob_ct p n ≤ ob_ct q n
  | 0, _ => Nat.le_refl _
  | n + 1, h => by
    have h1 := ob_ct_mo (n := n) (fun k hk => h k (by omega))
    have h2 := h n (by omega)
    rw [ob_ct, ob_ct]
    cases hp : p n <;> cases hq : q n <;> simp_all <;> omega
-- ===== how far clocks can be apart: tables of whole numbers
abbrev ob_mI (M : Nat → Nat → Int32) : Nat → Nat → Int := fun i j => (M i j).toInt
def ob_K (d : Nat → Nat → Int) (B : Int) : Prop := (∀ a, a ≤ 4 → d a a = 0) ∧ (∀ a b, a ≤ 4 → b ≤ 4 → d a b ≤ 1000000) ∧ (∀ a b, a ≤ 4 → b ≤ 4 → d a b < 1000000 → -B ≤ d a b ∧ d a b ≤ B) ∧ (∀ a b c, a ≤ 4 → b ≤ 4 → c ≤ 4 → d a b < 1000000 → d b c < 1000000 → d a c ≤ d a b + d b c)
def ob_nb (d : Nat → Nat → Int) (a b : Nat) (x : Int) (i j : Nat) : Int := if d i a < 1000000 ∧ d b j < 1000000 ∧ d i a + x + d b j < d i j then d i a + x + d b j else d i j
theorem ob_nb_le {d : Nat → Nat → Int} {a b : Nat} {x : Int} {i j : Nat} : ob_nb d a b x i j ≤ d i j := by unfold ob_nb; split <;> omega
theorem ob_nb_le2 {d : Nat → Nat → Int} {a b : Nat} {x : Int} {i j : Nat} (h1 : d i a < 1000000) (h2 : d b j < 1000000) : ob_nb d a b x i j ≤ d i a + x + d b j := by unfold ob_nb; split <;> omega
theorem ob_nb_or (d : Nat → Nat → Int) (a b : Nat) (x : Int) (i j : Nat) : ob_nb d a b x i j = d i j ∨ (d i a < 1000000 ∧ d b j < 1000000 ∧ ob_nb d a b x i j = d i a + x + d b j) := by unfold ob_nb; split <;> omega
theorem ob_nb_K {d : Nat → Nat → Int} {B : Int} {a b : Nat} {x : Int} (h : ob_K d B) (ha : a ≤ 4) (hb : b ≤ 4) (hx : -11000 ≤ x ∧ x ≤ 11000) (h0 : d b a < 1000000 → 0 ≤ d b a + x) (hB0 : 0 ≤ B) (hB : B ≤ 200000) : ob_K (ob_nb d a b x) (2 * B + 11000) := by
  obtain ⟨k1, k2, k3, k4⟩ := h
  refine ⟨fun i hi => ?_, fun i j hi hj => Int.le_trans ob_nb_le (k2 i j hi hj), fun i j hi hj hf => ?_, fun i j k hi hj hk f1 f2 => ?_⟩
  · rcases ob_nb_or d a b x i i with e | ⟨f1, f2, e⟩
    · rw [e, k1 i hi]
    · have := k4 b i a hb hi ha f2 f1
      have q1 := k3 i a hi ha f1
      have q2 := k3 b i hb hi f2
      have := h0 (by omega)
      have := @ob_nb_le d a b x i i
      have := k1 i hi
      omega
  · rcases ob_nb_or d a b x i j with e | ⟨f1, f2, e⟩
    · have := k3 i j hi hj (by omega)
      omega
    · have q1 := k3 i a hi ha f1
      have q2 := k3 b j hb hj f2
      omega
  · rcases ob_nb_or d a b x i j with e | ⟨g1, g2, e⟩ <;> rcases ob_nb_or d a b x j k with e' | ⟨g1', g2', e'⟩ <;> rw [e, e']
    · have := k4 i j k hi hj hk (by omega) (by omega)
      have := @ob_nb_le d a b x i k
      omega
    · have q := k4 i j a hi hj ha (by omega) g1'
      have q1 := k3 i j hi hj (by omega)
      have q2 := k3 j a hj ha g1'
      have := @ob_nb_le2 d a b x i k (by omega) g2'
      omega
    · have q := k4 b j k hb hj hk g2 (by omega)
      have q1 := k3 j k hj hk (by omega)
      have q2 := k3 b j hb hj g2
      have := @ob_nb_le2 d a b x i k g1 (by omega)
      omega
    · have q := k4 b j a hb hj ha g2 g1'
      have q1 := k3 b j hb hj g2
      have q2 := k3 j a hj ha g1'
      have := h0 (by omega)
      have := @ob_nb_le2 d a b x i k g1 g2'
      omega
/-- the class's bound, in place, is the bound at once -/
def ob_pt (d d' : Nat → Nat → Int) (N : Nat → Nat → Int32) (m : Nat) : Prop := ∀ i j, i ≤ 4 → j ≤ 4 → (N i j).toInt = if 5 * i + j < m then d' i j else d i j
theorem ob_bst_ok {d : Nat → Nat → Int} {B : Int} {a b : Nat} {x : Int32} {N : Nat → Nat → Int32} {i j : Nat} (h : ob_K d B) (ha : a ≤ 4) (hb : b ≤ 4) (hx : -11000 ≤ x.toInt ∧ x.toInt ≤ 11000) (h0 : d b a < 1000000 → 0 ≤ d b a + x.toInt) (hB0 : 0 ≤ B) (hB : B ≤ 200000) (hi : i ≤ 4) (hj : j ≤ 4)
    (hN : ob_pt d (ob_nb d a b x.toInt) N (5 * i + j)) : ob_pt d (ob_nb d a b x.toInt) (ob_bst a b x N i j) (5 * i + j + 1) := by
  obtain ⟨k1, k2, k3, k4⟩ := h
  have ea : ∀ i', i' ≤ 4 → ob_nb d a b x.toInt i' a = d i' a := fun i' hi' => by
    rcases ob_nb_or d a b x.toInt i' a with e | ⟨f1, f2, e⟩
    · exact e
    · have := h0 f2
      have := @ob_nb_le d a b x.toInt i' a
      omega
  have eb : ∀ j', j' ≤ 4 → ob_nb d a b x.toInt b j' = d b j' := fun j' hj' => by
    rcases ob_nb_or d a b x.toInt b j' with e | ⟨f1, f2, e⟩
    · exact e
    · have := h0 f1
      have := @ob_nb_le d a b x.toInt b j'
      omega
  have ha1 : (N i a).toInt = d i a := by rw [hN i a hi ha]; split; exact ea i hi; rfl
  have hb1 : (N b j).toInt = d b j := by rw [hN b j hb hj]; split; exact eb j hj; rfl
  have hij : (N i j).toInt = d i j := by rw [hN i j hi hj, if_neg (Nat.lt_irrefl _)]
  intro i' j' hi' hj'
  have key : 5 * i' + j' = 5 * i + j → i' = i ∧ j' = j := fun q => by omega
  by_cases hc : (decide (1000000 ≤ N i a) || decide (1000000 ≤ N b j)) = true
  · rw [ob_bst, if_pos hc, hN i' j' hi' hj']
    by_cases q : 5 * i' + j' = 5 * i + j
    · obtain ⟨rfl, rfl⟩ := key q
      rw [if_neg (by omega), if_pos (by omega)]
      rcases ob_nb_or d a b x.toInt i' j' with e | ⟨f1, f2, e⟩
      · exact e.symm
      · simp only [Bool.or_eq_true, decide_eq_true_eq, ob_lei, ha1, hb1, ob_UI] at hc
        omega
    · by_cases q2 : 5 * i' + j' < 5 * i + j
      · rw [if_pos q2, if_pos (by omega)]
      · rw [if_neg q2, if_neg (by omega)]
  · rw [ob_bst, if_neg hc]
    simp only [Bool.or_eq_true, decide_eq_true_eq, ob_lei, ha1, hb1, ob_UI, not_or, Int.not_le] at hc
    have q1 := k3 i a hi ha hc.1
    have q2 := k3 b j hb hj hc.2
    have s1 : (N i a + x).toInt = d i a + x.toInt := by rw [ob_addI (by omega) (by omega), ha1]
    have s2 : (N i a + x + N b j).toInt = d i a + x.toInt + d b j := by rw [ob_addI (by omega) (by omega), s1, hb1]
    unfold ob_up2 upd
    by_cases q : 5 * i' + j' = 5 * i + j
    · obtain ⟨rfl, rfl⟩ := key q
      simp only [if_true]
      rw [if_pos (show 5 * i' + j' < 5 * i' + j' + 1 by omega)]
      by_cases c : N i' a + x + N b j' < N i' j'
      · rw [if_pos c, s2]
        rw [ob_lti, s2, hij] at c
        unfold ob_nb
        rw [if_pos ⟨hc.1, hc.2, c⟩]
      · rw [if_neg c, hij]
        rw [ob_lti, s2, hij] at c
        unfold ob_nb
        rw [if_neg (fun z => c z.2.2)]
    · have : (if 5 * i' + j' < 5 * i + j + 1 then ob_nb d a b x.toInt i' j' else d i' j') = if 5 * i' + j' < 5 * i + j then ob_nb d a b x.toInt i' j' else d i' j' := by
        by_cases q2 : 5 * i' + j' < 5 * i + j
        · rw [if_pos q2, if_pos (by omega)]
        · rw [if_neg q2, if_neg (by omega)]
      rw [this]
      by_cases ei : i' = i
      · subst ei
        have : ¬ j' = j := fun z => q (by omega)
        simp only [if_true, this, if_false]
        exact hN i' j' hi' hj'
      · simp only [ei, if_false]
        exact hN i' j' hi' hj'
theorem ob_bI_ok {d : Nat → Nat → Int} {B : Int} {a b : Nat} {x : Int32} {N : Nat → Nat → Int32} {i : Nat} (h : ob_K d B) (ha : a ≤ 4) (hb : b ≤ 4) (hx : -11000 ≤ x.toInt ∧ x.toInt ≤ 11000) (h0 : d b a < 1000000 → 0 ≤ d b a + x.toInt) (hB0 : 0 ≤ B) (hB : B ≤ 200000) (hi : i ≤ 4)
    (hN : ob_pt d (ob_nb d a b x.toInt) N (5 * i)) : ∀ j, j ≤ 5 → ob_pt d (ob_nb d a b x.toInt) (ob_bI a b x i N j) (5 * i + j)
  | 0, _ => hN
  | j + 1, hj => ob_bst_ok h ha hb hx h0 hB0 hB hi (by omega) (ob_bI_ok h ha hb hx h0 hB0 hB hi hN j (by omega))
theorem ob_bO_ok {d : Nat → Nat → Int} {B : Int} {a b : Nat} {x : Int32} {N : Nat → Nat → Int32} (h : ob_K d B) (ha : a ≤ 4) (hb : b ≤ 4) (hx : -11000 ≤ x.toInt ∧ x.toInt ≤ 11000) (h0 : d b a < 1000000 → 0 ≤ d b a + x.toInt) (hB0 : 0 ≤ B) (hB : B ≤ 200000)
    (hN : ∀ i j, i ≤ 4 → j ≤ 4 → (N i j).toInt = d i j) : ∀ i, i ≤ 5 → ob_pt d (ob_nb d a b x.toInt) (ob_bO a b x N i) (5 * i)
  | 0, _ => fun i j hi hj => by rw [if_neg (by omega)]; exact hN i j hi hj
  | i + 1, hi => ob_bI_ok h ha hb hx h0 hB0 hB (by omega) (ob_bO_ok h ha hb hx h0 hB0 hB hN i (by omega)) 5 (Nat.le_refl _)
theorem ob_bO5 {M : Nat → Nat → Int32} {B : Int} {a b : Nat} {x : Int32} (h : ob_K (ob_mI M) B) (ha : a ≤ 4) (hb : b ≤ 4) (hx : -11000 ≤ x.toInt ∧ x.toInt ≤ 11000) (h0 : ob_mI M b a < 1000000 → 0 ≤ ob_mI M b a + x.toInt) (hB0 : 0 ≤ B) (hB : B ≤ 200000) {i j : Nat} (hi : i ≤ 4) (hj : j ≤ 4) : ob_mI (ob_bO a b x M 5) i j = ob_nb (ob_mI M) a b x.toInt i j := by
  have := ob_bO_ok (N := M) h ha hb hx h0 hB0 hB (fun _ _ _ _ => rfl) 5 (Nat.le_refl _) i j hi hj
  rw [if_pos (by omega)] at this
  exact this
theorem ob_K_cg {d d' : Nat → Nat → Int} {B : Int} (h : ob_K d B) (e : ∀ i j, i ≤ 4 → j ≤ 4 → d' i j = d i j) : ob_K d' B := by
  obtain ⟨k1, k2, k3, k4⟩ := h
  refine ⟨fun i hi => by rw [e i i hi hi]; exact k1 i hi, fun i j hi hj => by rw [e i j hi hj]; exact k2 i j hi hj, fun i j hi hj f => ?_, fun i j k hi hj hk f1 f2 => ?_⟩
  · rw [e i j hi hj] at f ⊢
    exact k3 i j hi hj f
  · rw [e i j hi hj] at f1 ⊢
    rw [e j k hj hk] at f2 ⊢
    rw [e i k hi hk]
    exact k4 i j k hi hj hk f1 f2
theorem ob_nb_cg {d d' : Nat → Nat → Int} {a b : Nat} {x : Int} (e : ∀ i j, i ≤ 4 → j ≤ 4 → d' i j = d i j) {i j : Nat} (hi : i ≤ 4) (hj : j ≤ 4) (ha : a ≤ 4) (hb : b ≤ 4) : ob_nb d' a b x i j = ob_nb d a b x i j := by
  unfold ob_nb
  rw [e i a hi ha, e b j hb hj, e i j hi hj]
-- ===== the reference's shortest ways
abbrev ob_eT (T : Nat → Int32) : Nat → Nat → Int := fun i j => (T (5 * i + j)).toInt
theorem ob_fv_le (T : Nat → Int32) (o k : Nat) : (ob_fv T o k).toInt ≤ (T k).toInt := by
  unfold ob_fv
  split
  · rename_i h
    have := ob_lti.mp (of_decide_eq_true (ob_and2 h).2)
    omega
  · exact Int.le_refl _
theorem ob_fI_s (o : Nat) (T : Nat → Int32) (m q : Nat) : (ob_fI o T (m + 1) q).toInt ≤ (ob_fI o T m q).toInt := by
  rw [ob_fI]
  unfold upd
  by_cases e : q = m
  · rw [if_pos e, e]; exact ob_fv_le _ _ _
  · rw [if_neg e]; exact Int.le_refl _
theorem ob_fI_mo (o : Nat) (T : Nat → Int32) (q m : Nat) : ∀ k, (ob_fI o T (m + k) q).toInt ≤ (ob_fI o T m q).toInt
  | 0 => Int.le_refl _
  | k + 1 => Int.le_trans (ob_fI_s o T (m + k) q) (ob_fI_mo o T q m k)
theorem ob_fI_le (o : Nat) (T : Nat → Int32) {m m' q : Nat} (h : m ≤ m') : (ob_fI o T m' q).toInt ≤ (ob_fI o T m q).toInt := by
  have := ob_fI_mo o T q m (m' - m)
  rwa [show m + (m' - m) = m' by omega] at this
theorem ob_fO_mo (T : Nat → Int32) (q m : Nat) : ∀ k, (ob_fO T (m + k) q).toInt ≤ (ob_fO T m q).toInt
  | 0 => Int.le_refl _
  | k + 1 => Int.le_trans (ob_fI_le (m + k) (ob_fO T (m + k)) (Nat.zero_le 25)) (ob_fO_mo T q m k)
theorem ob_fO_le (T : Nat → Int32) {m m' q : Nat} (h : m ≤ m') : (ob_fO T m' q).toInt ≤ (ob_fO T m q).toInt := by
  have := ob_fO_mo T q m (m' - m)
  rwa [show m + (m' - m) = m' by omega] at this
def ob_lb (P : Nat → Nat → Int) (T : Nat → Int32) : Prop := ∀ i j, i ≤ 4 → j ≤ 4 → P i j ≤ ob_eT T i j ∧ ob_eT T i j ≤ 1000000
theorem ob_fv_lb {P : Nat → Nat → Int} {B : Int} {T : Nat → Int32} {o i j : Nat} (hK : ob_K P B) (hB : B ≤ 500000) (h : ob_lb P T) (ho : o ≤ 4) (hi : i ≤ 4) (hj : j ≤ 4) : P i j ≤ (ob_fv T o (5 * i + j)).toInt := by
  unfold ob_fv
  rw [show (5 * i + j) / 5 = i by omega, show (5 * i + j) % 5 = j by omega]
  split
  · rename_i c
    obtain ⟨c1, c2⟩ := ob_and2 c
    obtain ⟨c3, c4⟩ := ob_and2 c1
    simp only [Bool.not_eq_true', decide_eq_false_iff_not, ob_eqi, ob_UI] at c3 c4
    obtain ⟨a1, a2⟩ := h i o hi ho
    obtain ⟨b1, b2⟩ := h o j ho hj
    simp only [ob_eT] at a1 a2 b1 b2
    obtain ⟨-, -, k3, k4⟩ := hK
    have q1 := k3 i o hi ho (by omega)
    have q2 := k3 o j ho hj (by omega)
    have q3 := k4 i o j hi ho hj (by omega) (by omega)
    rw [ob_addI (by omega) (by omega)]
    omega
  · exact (h i j hi hj).1
theorem ob_lb_fI {P : Nat → Nat → Int} {B : Int} {T : Nat → Int32} {o : Nat} (hK : ob_K P B) (hB : B ≤ 500000) (h : ob_lb P T) (ho : o ≤ 4) : ∀ m, m ≤ 25 → ob_lb P (ob_fI o T m)
  | 0, _ => h
  | m + 1, hm => by
    have ih := ob_lb_fI hK hB h ho m (by omega)
    intro i j hi hj
    refine ⟨?_, Int.le_trans (ob_fI_s o T m _) (ih i j hi hj).2⟩
    show P i j ≤ (ob_fI o T (m + 1) (5 * i + j)).toInt
    rw [ob_fI]
    unfold upd
    by_cases e : 5 * i + j = m
    · rw [if_pos e, ← e]
      have := ob_fv_lb hK hB (T := ob_fI o T m) ih ho hi hj
      rw [← e] at this
      exact this
    · rw [if_neg e]; exact (ih i j hi hj).1
theorem ob_lb_fO {P : Nat → Nat → Int} {B : Int} {T : Nat → Int32} (hK : ob_K P B) (hB : B ≤ 500000) (h : ob_lb P T) : ∀ m, m ≤ 5 → ob_lb P (ob_fO T m)
  | 0, _ => h
  | m + 1, hm => ob_lb_fI hK hB (ob_lb_fO hK hB h m (by omega)) (by omega) 25 (Nat.le_refl _)
/-- one whole round over o -/
theorem ob_fI_up {P : Nat → Nat → Int} {B : Int} {T : Nat → Int32} {o i j : Nat} (hK : ob_K P B) (hB : B ≤ 500000) (h : ob_lb P T) (ho : o ≤ 4) (hi : i ≤ 4) (hj : j ≤ 4) (f1 : ob_eT T i o < 1000000) (f2 : ob_eT T o j < 1000000) :
    ob_eT (ob_fI o T 25) i j ≤ ob_eT T i o + ob_eT T o j := by
  have hS := ob_lb_fI hK hB h ho (5 * i + j) (by omega)
  have l1 := ob_fI_le o T (Nat.zero_le (5 * i + j)) (q := 5 * i + o)
  have l2 := ob_fI_le o T (Nat.zero_le (5 * i + j)) (q := 5 * o + j)
  have l3 := ob_fI_le o T (show 5 * i + j + 1 ≤ 25 by omega) (q := 5 * i + j)
  have e : ob_fI o T (5 * i + j + 1) (5 * i + j) = ob_fv (ob_fI o T (5 * i + j)) o (5 * i + j) := by rw [ob_fI]; exact if_pos rfl
  rw [e] at l3
  have l0 : ∀ q, ob_fI o T 0 q = T q := fun q => rfl
  rw [l0] at l1 l2
  simp only [ob_eT] at *
  obtain ⟨a1, a2⟩ := hS i o hi ho
  obtain ⟨b1, b2⟩ := hS o j ho hj
  simp only [ob_eT] at a1 a2 b1 b2
  obtain ⟨-, -, k3, -⟩ := hK
  have q1 := k3 i o hi ho (by omega)
  have q2 := k3 o j ho hj (by omega)
  have s1 : (ob_fI o T (5 * i + j) (5 * i + o) + ob_fI o T (5 * i + j) (5 * o + j)).toInt = (ob_fI o T (5 * i + j) (5 * i + o)).toInt + (ob_fI o T (5 * i + j) (5 * o + j)).toInt := ob_addI (by omega) (by omega)
  unfold ob_fv at l3
  rw [show (5 * i + j) / 5 = i by omega, show (5 * i + j) % 5 = j by omega] at l3
  split at l3
  · omega
  · rename_i c
    simp only [Bool.and_eq_true, Bool.not_eq_true', decide_eq_false_iff_not, decide_eq_true_eq, ob_eqi, ob_lti, ob_UI, s1, not_and, Int.not_lt] at c
    have := c ⟨by omega, by omega⟩
    omega
/-- a way of three steps, of which the middle is p to q -/
theorem ob_fO_up {P : Nat → Nat → Int} {B : Int} {T : Nat → Int32} {i j p q : Nat} {x y z : Int} (hK : ob_K P B) (hB : B ≤ 500000) (h : ob_lb P T) (hp : p ≤ 4) (hq : q ≤ 4) (hi : i ≤ 4) (hj : j ≤ 4) (hpq : p ≠ q)
    (f1 : ob_eT T i p ≤ x) (f2 : ob_eT T p q ≤ y) (f3 : ob_eT T q j ≤ z) (g1 : x < 1000000) (g2 : y < 1000000) (g3 : z < 1000000) (g4 : x + y < 1000000) (g5 : y + z < 1000000) : ob_eT (ob_fO T 5) i j ≤ x + y + z := by
  have lm : ∀ {m m' a b : Nat}, m ≤ m' → ob_eT (ob_fO T m') a b ≤ ob_eT (ob_fO T m) a b := fun hm => ob_fO_le T hm
  rcases Nat.lt_or_ge p q with c | c
  · have r1 := lm (Nat.zero_le p) (a := i) (b := p)
    have r2 := lm (Nat.zero_le p) (a := p) (b := q)
    have e0 : ∀ a b, ob_eT (ob_fO T 0) a b = ob_eT T a b := fun a b => rfl
    rw [e0] at r1 r2
    have u1 := ob_fI_up (o := p) (i := i) (j := q) hK hB (ob_lb_fO hK hB h p (by omega)) hp hi hq (by omega) (by omega)
    have u1' : ob_eT (ob_fO T (p + 1)) i q ≤ ob_eT (ob_fO T p) i p + ob_eT (ob_fO T p) p q := u1
    have r3 := lm (show p + 1 ≤ q from c) (a := i) (b := q)
    have r4 := lm (Nat.zero_le q) (a := q) (b := j)
    rw [e0] at r4
    have u2 := ob_fI_up (o := q) (i := i) (j := j) hK hB (ob_lb_fO hK hB h q (by omega)) hq hi hj (by omega) (by omega)
    have u2' : ob_eT (ob_fO T (q + 1)) i j ≤ ob_eT (ob_fO T q) i q + ob_eT (ob_fO T q) q j := u2
    have r5 := lm (show q + 1 ≤ 5 by omega) (a := i) (b := j)
    omega
  · have c : q < p := by omega
    have r1 := lm (Nat.zero_le q) (a := p) (b := q)
    have r2 := lm (Nat.zero_le q) (a := q) (b := j)
    have e0 : ∀ a b, ob_eT (ob_fO T 0) a b = ob_eT T a b := fun a b => rfl
    rw [e0] at r1 r2
    have u1 := ob_fI_up (o := q) (i := p) (j := j) hK hB (ob_lb_fO hK hB h q (by omega)) hq hp hj (by omega) (by omega)
    have u1' : ob_eT (ob_fO T (q + 1)) p j ≤ ob_eT (ob_fO T q) p q + ob_eT (ob_fO T q) q j := u1
    have r3 := lm (show q + 1 ≤ p from c) (a := p) (b := j)
    have r4 := lm (Nat.zero_le p) (a := i) (b := p)
    rw [e0] at r4
    have u2 := ob_fI_up (o := p) (i := i) (j := j) hK hB (ob_lb_fO hK hB h p (by omega)) hp hi hj (by omega) (by omega)
    have u2' : ob_eT (ob_fO T (p + 1)) i j ≤ ob_eT (ob_fO T p) i p + ob_eT (ob_fO T p) p j := u2
    have r5 := lm (show p + 1 ≤ 5 by omega) (a := i) (b := j)
    omega
-- a round that changes nothing
theorem ob_upd_same {f : Nat → Int32} {k : Nat} {x : Int32} (h : x = f k) : upd f k x = f := by
  funext j
  unfold upd
  split
  · rename_i e; rw [e, h]
  · rfl
theorem ob_fI_id {T : Nat → Int32} {o : Nat} (h : ∀ k, k < 25 → ob_fv T o k = T k) : ∀ m, m ≤ 25 → ob_fI o T m = T
  | 0, _ => rfl
  | m + 1, hm => by rw [ob_fI, ob_fI_id h m (by omega)]; exact ob_upd_same (h m (by omega))
theorem ob_fO_id {T : Nat → Int32} : ∀ {m : Nat}, (∀ o k, o < m → k < 25 → ob_fv T o k = T k) → ob_fO T m = T
  | 0, _ => rfl
  | m + 1, h => by rw [ob_fO, ob_fO_id (m := m) (fun o k ho hk => h o k (by omega) hk)]; exact ob_fI_id (fun k hk => h m k (by omega) hk) 25 (Nat.le_refl _)
/-- the first round that finds that it can't be -/
theorem ob_fI_neg {T : Nat → Int32} {s q : Nat} (hs : s ≤ 4) (hq : q ≤ 4) (hsq : s ≠ q) (h0 : T (5 * s + s) = 0) (hf : ∀ i j, i ≤ 4 → j ≤ 4 → -500000 ≤ ob_eT T i j ∧ ob_eT T i j ≤ 1000000) (hq0 : ob_eT T q q = 0)
    (f1 : ob_eT T q s < 1000000) (f2 : ob_eT T s q < 1000000) (hneg : ob_eT T q s + ob_eT T s q < 0) : ob_eT (ob_fI s T 25) q q < 0 := by
  have piv : ∀ m, m ≤ 25 → (∀ i, i ≤ 4 → ob_fI s T m (5 * i + s) = T (5 * i + s)) ∧ (∀ j, j ≤ 4 → ob_fI s T m (5 * s + j) = T (5 * s + j)) ∧ ∀ k, m ≤ k → ob_fI s T m k = T k := by
    intro m
    induction m with
    | zero => exact fun _ => ⟨fun _ _ => rfl, fun _ _ => rfl, fun _ _ => rfl⟩
    | succ m ih =>
      intro hm
      obtain ⟨i1, i2, i3⟩ := ih (by omega)
      have z0 : ∀ x : Int32, x + 0 = x := fun x => Int32.add_zero x
      have z1 : ∀ x : Int32, 0 + x = x := fun x => Int32.zero_add x
      have irr : ∀ x : Int32, decide (x < x) = false := fun x => decide_eq_false (fun c => absurd (ob_lti.mp c) (Int.lt_irrefl _))
      refine ⟨fun i hi => ?_, fun j hj => ?_, fun k hk => ?_⟩
      · rw [ob_fI]; unfold upd
        split
        · rename_i e
          have ei := i1 i hi
          rw [e] at ei
          unfold ob_fv
          rw [← e, show (5 * i + s) / 5 = i by omega, show (5 * i + s) % 5 = s by omega, e, i1 s hs, h0, z0, irr, Bool.and_false, if_neg (by decide), ei]
        · exact i1 i hi
      · rw [ob_fI]; unfold upd
        split
        · rename_i e
          have ei := i2 j hj
          rw [e] at ei
          unfold ob_fv
          rw [← e, show (5 * s + j) / 5 = s by omega, show (5 * s + j) % 5 = j by omega, e, i1 s hs, h0, z1, irr, Bool.and_false, if_neg (by decide), ei]
        · exact i2 j hj
      · rw [ob_fI]; unfold upd
        rw [if_neg (by omega)]
        exact i3 k (by omega)
  obtain ⟨p1, p2, p3⟩ := piv (5 * q + q) (by omega)
  have l3 := ob_fI_le s T (show 5 * q + q + 1 ≤ 25 by omega) (q := 5 * q + q)
  have e : ob_fI s T (5 * q + q + 1) (5 * q + q) = ob_fv (ob_fI s T (5 * q + q)) s (5 * q + q) := by rw [ob_fI]; exact if_pos rfl
  rw [e] at l3
  unfold ob_fv at l3
  rw [show (5 * q + q) / 5 = q by omega, show (5 * q + q) % 5 = q by omega, p1 q hq, p2 q hq, p3 (5 * q + q) (Nat.le_refl _)] at l3
  simp only [ob_eT] at *
  obtain ⟨a1, a2⟩ := hf q s hq hs
  obtain ⟨b1, b2⟩ := hf s q hs hq
  have s1 : (T (5 * q + s) + T (5 * s + q)).toInt = (T (5 * q + s)).toInt + (T (5 * s + q)).toInt := ob_addI (by omega) (by omega)
  split at l3
  · omega
  · rename_i c
    simp only [Bool.and_eq_true, Bool.not_eq_true', decide_eq_false_iff_not, decide_eq_true_eq, ob_eqi, ob_lti, ob_UI, s1, not_and, Int.not_lt] at c
    have := c ⟨by omega, by omega⟩
    omega
theorem ob_cn_iff {T : Nat → Int32} : ∀ {m : Nat}, ob_cn T m = true ↔ ∀ j, j < m → T (5 * j + j) = 0
  | 0 => by simp [ob_cn]
  | m + 1 => by
    rw [ob_cn, Bool.and_eq_true, ob_cn_iff, decide_eq_true_eq]
    exact ⟨fun h j hj => by rcases Nat.lt_or_ge j m with q | q; exact h.1 j q; rw [show j = m by omega]; exact h.2, fun h => ⟨fun j hj => h j (by omega), h m (by omega)⟩⟩
-- ===== mark: the class's tables and the reference's
def ob_KM (M : Nat → Nat → Int32) : Prop := ob_K (ob_mI M) 44000 ∧ (∀ a b, a ≤ 4 → b ≤ 4 → ob_mI M a b < 1000000 → ob_mI M b a < 1000000) ∧ ∀ a b, a ≤ 4 → b ≤ 4 → ob_mI M a b < 1000000 → ob_mI M a b + 11000 ≤ 11000 * (ob_ct (fun c => decide (ob_mI M a c < 1000000)) 5 : Nat)
/-- what the reference begins with -/
def ob_T0 (d : Nat → Nat → Int) (T : Nat → Int32) (a c : Nat) (x y : Int) : Prop := (∀ i j, i ≤ 4 → j ≤ 4 → ¬ (i = a ∧ j = c) → ¬ (i = c ∧ j = a) → ob_eT T i j = d i j) ∧ (ob_eT T a c ≤ x ∧ ob_eT T a c ≤ d a c ∧ (ob_eT T a c = x ∨ ob_eT T a c = d a c)) ∧ (ob_eT T c a ≤ y ∧ ob_eT T c a ≤ d c a ∧ (ob_eT T c a = y ∨ ob_eT T c a = d c a))
theorem ob_T0_le {d : Nat → Nat → Int} {T : Nat → Int32} {a c : Nat} {x y : Int} (h : ob_T0 d T a c x y) {i j : Nat} (hi : i ≤ 4) (hj : j ≤ 4) : ob_eT T i j ≤ d i j := by
  by_cases e1 : i = a ∧ j = c
  · rw [e1.1, e1.2]; exact h.2.1.2.1
  · by_cases e2 : i = c ∧ j = a
    · rw [e2.1, e2.2]; exact h.2.2.2.1
    · rw [h.1 i j hi hj e1 e2]; exact Int.le_refl _
def ob_mok (d : Nat → Nat → Int) (a c : Nat) (x y : Int) : Prop := (d c a < 1000000 → 0 ≤ d c a + x) ∧ (d a c < 1000000 → 0 ≤ d a c + y)
section
variable {d : Nat → Nat → Int} {T : Nat → Int32} {a c : Nat} {x y : Int}
theorem ob_m1 (hK : ob_K d 44000) (ha : a ≤ 4) (hc : c ≤ 4) (hx : -11000 ≤ x ∧ x ≤ 11000) (hy : -11000 ≤ y ∧ y ≤ 11000) (hxy : 0 ≤ x + y) (ok : ob_mok d a c x y) :
    ob_K (ob_nb d a c x) 99000 ∧ (ob_nb d a c x a c < 1000000 → 0 ≤ ob_nb d a c x a c + y) ∧ ob_K (ob_nb (ob_nb d a c x) c a y) 209000 := by
  have k1 : ob_K (ob_nb d a c x) 99000 := ob_nb_K hK ha hc hx ok.1 (by omega) (by omega)
  have k2 : ob_nb d a c x a c < 1000000 → 0 ≤ ob_nb d a c x a c + y := fun f => by
    rcases ob_nb_or d a c x a c with e | ⟨f1, f2, e⟩
    · have := ok.2 (by omega)
      omega
    · have := hK.1 a ha
      have := hK.1 c hc
      omega
  exact ⟨k1, k2, ob_nb_K k1 hc ha hy k2 (by omega) (by omega)⟩
theorem ob_m2 (hK : ob_K d 44000) (ha : a ≤ 4) (hc : c ≤ 4) (hac : a ≠ c) (hx : -11000 ≤ x ∧ x ≤ 11000) (hy : -11000 ≤ y ∧ y ≤ 11000) (hxy : 0 ≤ x + y) (ok : ob_mok d a c x y) (hT : ob_T0 d T a c x y) :
    ∀ i j, i ≤ 4 → j ≤ 4 → ob_eT (ob_fO T 5) i j = ob_nb (ob_nb d a c x) c a y i j := by
  obtain ⟨K1, h2, K2⟩ := ob_m1 hK ha hc hx hy hxy ok
  have daa := hK.1 a ha
  have dcc := hK.1 c hc
  have lb : ob_lb (ob_nb (ob_nb d a c x) c a y) T := fun i j hi hj => by
    have t1 := @ob_nb_le (ob_nb d a c x) c a y i j
    have t2 := @ob_nb_le d a c x i j
    refine ⟨?_, Int.le_trans (ob_T0_le hT hi hj) (hK.2.1 i j hi hj)⟩
    by_cases e1 : i = a ∧ j = c
    · obtain ⟨rfl, rfl⟩ := e1
      rcases hT.2.1.2.2 with e | e
      · have := @ob_nb_le2 d i j x i j (by omega) (by omega)
        omega
      · omega
    · by_cases e2 : i = c ∧ j = a
      · obtain ⟨rfl, rfl⟩ := e2
        have c1 := K1.1 i hi
        have c2 := K1.1 j hj
        rcases hT.2.2.2.2 with e | e
        · have := @ob_nb_le2 (ob_nb d j i x) i j y i j (by omega) (by omega)
          omega
        · omega
      · rw [hT.1 i j hi hj e1 e2]; omega
  intro i j hi hj
  refine Int.le_antisymm ?_ ((ob_lb_fO K2 (by omega) lb 5 (Nat.le_refl _)) i j hi hj).1
  have r0 : ∀ i j, i ≤ 4 → j ≤ 4 → ob_eT (ob_fO T 5) i j ≤ d i j := fun i j hi hj => Int.le_trans (ob_fO_le T (Nat.zero_le 5)) (ob_T0_le hT hi hj)
  have r1 : ∀ i j, i ≤ 4 → j ≤ 4 → d i a < 1000000 → d c j < 1000000 → ob_eT (ob_fO T 5) i j ≤ d i a + x + d c j := fun i j hi hj f1 f2 => by
    have b1 := hK.2.2.1 i a hi ha f1
    have b2 := hK.2.2.1 c j hc hj f2
    exact ob_fO_up K2 (by omega) lb ha hc hi hj hac (ob_T0_le hT hi ha) hT.2.1.1 (ob_T0_le hT hc hj) f1 (by omega) f2 (by omega) (by omega)
  have r2 : ∀ i j, i ≤ 4 → j ≤ 4 → d i c < 1000000 → d a j < 1000000 → ob_eT (ob_fO T 5) i j ≤ d i c + y + d a j := fun i j hi hj f1 f2 => by
    have b1 := hK.2.2.1 i c hi hc f1
    have b2 := hK.2.2.1 a j ha hj f2
    exact ob_fO_up K2 (by omega) lb hc ha hi hj (fun e => hac e.symm) (ob_T0_le hT hi hc) hT.2.2.1 (ob_T0_le hT ha hj) f1 (by omega) f2 (by omega) (by omega)
  have r0' := r0 i j hi hj
  rcases ob_nb_or (ob_nb d a c x) c a y i j with e | ⟨f1, f2, e⟩
  · rw [e]
    rcases ob_nb_or d a c x i j with e' | ⟨g1, g2, e'⟩
    · omega
    · have := r1 i j hi hj g1 g2
      omega
  · rw [e]
    rcases ob_nb_or d a c x i c with e1 | ⟨g1, -, e1⟩ <;> rcases ob_nb_or d a c x a j with e2 | ⟨-, g2, e2⟩ <;> rw [e1] at f1 <;> rw [e2] at f2 <;> rw [e1, e2]
    · exact r2 i j hi hj f1 f2
    · have := hK.2.2.2 i c j hi hc hj f1 g2
      omega
    · have := hK.2.2.2 i a j hi ha hj g1 f2
      omega
    · have := r1 i j hi hj g1 g2
      omega
theorem ob_m3 (hK : ob_K d 44000) (ha : a ≤ 4) (hc : c ≤ 4) (hac : a ≠ c) (hx : -11000 ≤ x ∧ x ≤ 11000) (hy : -11000 ≤ y ∧ y ≤ 11000) (no : ¬ ob_mok d a c x y) (hT : ob_T0 d T a c x y) : ob_cn (ob_fO T 5) 5 = false := by
  have hf : ∀ i j, i ≤ 4 → j ≤ 4 → -500000 ≤ ob_eT T i j ∧ ob_eT T i j ≤ 1000000 := fun i j hi hj => by
    have h1 := hK.2.1 i j hi hj
    refine ⟨?_, Int.le_trans (ob_T0_le hT hi hj) h1⟩
    have h2 : -44000 ≤ d i j := by
      by_cases f : d i j < 1000000
      · exact (hK.2.2.1 i j hi hj f).1
      · omega
    by_cases e1 : i = a ∧ j = c
    · rw [e1.1, e1.2] at h2 ⊢
      rcases hT.2.1.2.2 with e | e <;> omega
    · by_cases e2 : i = c ∧ j = a
      · rw [e2.1, e2.2] at h2 ⊢
        rcases hT.2.2.2.2 with e | e <;> omega
      · rw [hT.1 i j hi hj e1 e2]; omega
  have neg : ob_eT T a c < 1000000 ∧ ob_eT T c a < 1000000 ∧ ob_eT T a c + ob_eT T c a < 0 := by
    obtain ⟨-, ⟨u1, u2, -⟩, ⟨v1, v2, -⟩⟩ := hT
    refine ⟨by omega, by omega, ?_⟩
    by_cases q : d c a < 1000000 → 0 ≤ d c a + x
    · have : ¬ (d a c < 1000000 → 0 ≤ d a c + y) := fun z => no ⟨q, z⟩
      omega
    · omega
  have idr : ∀ o k, o ≠ a → o ≠ c → o ≤ 4 → k < 25 → ob_fv T o k = T k := fun o k h1 h2 ho hk => by
    have hi : k / 5 ≤ 4 := by omega
    have hj : k % 5 ≤ 4 := by omega
    have e1 := hT.1 (k / 5) o hi ho (fun z => h2 z.2) (fun z => h1 z.2)
    have e2 := hT.1 o (k % 5) ho hj (fun z => h1 z.1) (fun z => h2 z.1)
    have l := ob_T0_le hT hi hj
    unfold ob_fv
    split
    · rename_i cc
      obtain ⟨c1, c2⟩ := ob_and2 cc
      obtain ⟨c3, c4⟩ := ob_and2 c1
      simp only [Bool.not_eq_true', decide_eq_false_iff_not, ob_eqi, ob_UI] at c3 c4
      have c2 := ob_lti.mp (of_decide_eq_true c2)
      simp only [ob_eT] at e1 e2 l
      rw [show 5 * (k / 5) + k % 5 = k by omega] at l
      have b1 := hK.2.1 (k / 5) o hi ho
      have b2 := hK.2.1 o (k % 5) ho hj
      have b3 := hK.2.2.1 (k / 5) o hi ho (by omega)
      have b4 := hK.2.2.1 o (k % 5) ho hj (by omega)
      have b5 := hK.2.2.2 (k / 5) o (k % 5) hi ho hj (by omega) (by omega)
      rw [ob_addI (by omega) (by omega)] at c2
      omega
    · rfl
  have done : ∀ s q, s ≤ 4 → q ≤ 4 → s ≠ q → (∀ o k, o < s → k < 25 → ob_fv T o k = T k) → ob_eT T s s = 0 → ob_eT T q q = 0 → ob_eT T q s < 1000000 → ob_eT T s q < 1000000 → ob_eT T q s + ob_eT T s q < 0 → ob_cn (ob_fO T 5) 5 = false := fun s q hs hq hsq hid h0 hq0 f1 f2 hn => by
    have h1 := ob_fI_neg hs hq hsq (ob_eqi.mpr h0) hf hq0 f1 f2 hn
    have h2 : ob_fO T (s + 1) = ob_fI s T 25 := by rw [ob_fO, ob_fO_id hid]
    have h3 := ob_fO_le T (show s + 1 ≤ 5 by omega) (q := 5 * q + q)
    rw [h2] at h3
    cases hcn : ob_cn (ob_fO T 5) 5 with
    | false => rfl
    | true =>
      have := ob_cn_iff.mp hcn q (by omega)
      rw [ob_eqi, ob_0I] at this
      simp only [ob_eT] at h1
      omega
  have z : ∀ i, i ≤ 4 → ob_eT T i i = 0 := fun i hi => by rw [hT.1 i i hi hi (fun e => hac (e.1.symm.trans e.2)) (fun e => hac (e.2.symm.trans e.1))]; exact hK.1 i hi
  rcases Nat.lt_or_ge a c with q | q
  · exact done a c ha hc hac (fun o k ho hk => idr o k (by omega) (by omega) (by omega) hk) (z a ha) (z c hc) neg.2.1 neg.1 (by omega)
  · exact done c a hc ha (fun e => hac e.symm) (fun o k ho hk => idr o k (by omega) (by omega) (by omega) hk) (z c hc) (z a ha) neg.1 neg.2.1 (by omega)
/-- what is bound stays within some bounds -/
theorem ob_m4 (hK : ob_K d 44000) (hs : ∀ a b, a ≤ 4 → b ≤ 4 → d a b < 1000000 → d b a < 1000000) (hn : ∀ a b, a ≤ 4 → b ≤ 4 → d a b < 1000000 → d a b + 11000 ≤ 11000 * (ob_ct (fun c => decide (d a c < 1000000)) 5 : Nat))
    (ha : a ≤ 4) (hc : c ≤ 4) (hac : a ≠ c) (hx : -11000 ≤ x ∧ x ≤ 11000) (hy : -11000 ≤ y ∧ y ≤ 11000) (hxy : 0 ≤ x + y) (ok : ob_mok d a c x y) :
    (∀ i j, i ≤ 4 → j ≤ 4 → ob_nb (ob_nb d a c x) c a y i j < 1000000 → ob_nb (ob_nb d a c x) c a y j i < 1000000) ∧ ∀ i j, i ≤ 4 → j ≤ 4 → ob_nb (ob_nb d a c x) c a y i j < 1000000 → ob_nb (ob_nb d a c x) c a y i j + 11000 ≤ 11000 * (ob_ct (fun k => decide (ob_nb (ob_nb d a c x) c a y i k < 1000000)) 5 : Nat) := by
  obtain ⟨K1, h2, K2⟩ := ob_m1 hK ha hc hx hy hxy ok
  obtain ⟨k1, k2, k3, k4⟩ := hK
  have fin : ∀ i j, i ≤ 4 → j ≤ 4 → (ob_nb (ob_nb d a c x) c a y i j < 1000000 ↔ d i j < 1000000 ∨ (d i a < 1000000 ∧ d c j < 1000000) ∨ (d i c < 1000000 ∧ d a j < 1000000)) := fun i j hi hj => by
    have daa := k1 a ha
    have dcc := k1 c hc
    constructor
    · intro f
      rcases ob_nb_or (ob_nb d a c x) c a y i j with e | ⟨f1, f2, e⟩
      · rcases ob_nb_or d a c x i j with e' | ⟨g1, g2, e'⟩
        · exact Or.inl (by omega)
        · exact Or.inr (Or.inl ⟨g1, g2⟩)
      · rcases ob_nb_or d a c x i c with e1 | ⟨g1, -, e1⟩ <;> rcases ob_nb_or d a c x a j with e2 | ⟨-, g2, e2⟩ <;> rw [e1] at f1 <;> rw [e2] at f2
        · exact Or.inr (Or.inr ⟨f1, f2⟩)
        · have := k4 i c j hi hc hj f1 g2
          have := k3 i c hi hc f1
          have := k3 c j hc hj g2
          exact Or.inl (by omega)
        · have := k4 i a j hi ha hj g1 f2
          have := k3 i a hi ha g1
          have := k3 a j ha hj f2
          exact Or.inl (by omega)
        · exact Or.inr (Or.inl ⟨g1, g2⟩)
    · have t1 := @ob_nb_le (ob_nb d a c x) c a y i j
      have t2 := @ob_nb_le d a c x i j
      rintro (f | ⟨f1, f2⟩ | ⟨f1, f2⟩)
      · omega
      · have := @ob_nb_le2 d a c x i j f1 f2
        have := k3 i a hi ha f1
        have := k3 c j hc hj f2
        omega
      · have u1 := @ob_nb_le d a c x i c
        have u2 := @ob_nb_le d a c x a j
        have := @ob_nb_le2 (ob_nb d a c x) c a y i j (by omega) (by omega)
        have := k3 i c hi hc f1
        have := k3 a j ha hj f2
        omega
  refine ⟨fun i j hi hj f => ?_, fun i j hi hj f => ?_⟩
  · rcases (fin i j hi hj).mp f with f | ⟨f1, f2⟩ | ⟨f1, f2⟩
    · exact (fin j i hj hi).mpr (Or.inl (hs i j hi hj f))
    · exact (fin j i hj hi).mpr (Or.inr (Or.inr ⟨hs c j hc hj f2, hs i a hi ha f1⟩))
    · exact (fin j i hj hi).mpr (Or.inr (Or.inl ⟨hs a j ha hj f2, hs i c hi hc f1⟩))
  · have t1 := @ob_nb_le (ob_nb d a c x) c a y i j
    have t2 := @ob_nb_le d a c x i j
    have mo : ob_ct (fun k => decide (d i k < 1000000)) 5 ≤ ob_ct (fun k => decide (ob_nb (ob_nb d a c x) c a y i k < 1000000)) 5 := ob_ct_mo (fun k hk hp => by
      simp only [decide_eq_true_eq] at hp ⊢
      exact (fin i k hi (by omega)).mpr (Or.inl hp))
    have tr : ∀ i j k, i ≤ 4 → j ≤ 4 → k ≤ 4 → d i j < 1000000 → d j k < 1000000 → d i k < 1000000 := fun i j k hi hj hk f g => by
      have := k4 i j k hi hj hk f g
      have := k3 i j hi hj f
      have := k3 j k hj hk g
      omega
    by_cases f0 : d i j < 1000000
    · have := hn i j hi hj f0
      omega
    · rcases (fin i j hi hj).mp f with f | ⟨f1, f2⟩ | ⟨f1, f2⟩
      · exact absurd f f0
      · have nac : ¬ d a c < 1000000 := fun z => f0 (tr i c j hi hc hj (tr i a c hi ha hc f1 z) f2)
        have e := ob_ct_or (n := 5) (p := fun k => decide (d i k < 1000000)) (q := fun k => decide (d c k < 1000000)) (r := fun k => decide (ob_nb (ob_nb d a c x) c a y i k < 1000000)) (fun k hk => by
          rw [← Bool.decide_or]
          refine decide_eq_decide.mpr ((fin i k hi (by omega)).trans ⟨?_, ?_⟩)
          · rintro (g | ⟨g1, g2⟩ | ⟨g1, g2⟩)
            · exact Or.inl g
            · exact Or.inr g2
            · exact absurd (tr a i c ha hi hc (hs i a hi ha f1) g1) nac
          · rintro (g | g)
            · exact Or.inl g
            · exact Or.inr (Or.inl ⟨f1, g⟩)) (fun k hk z => by
          simp only [decide_eq_true_eq] at z
          exact nac (tr a i c ha hi hc (hs i a hi ha f1) (tr i k c hi (by omega) hc z.1 (hs c k hc (by omega) z.2))))
        have := @ob_nb_le2 d a c x i j f1 f2
        have := hn i a hi ha f1
        have := hn c j hc hj f2
        omega
      · have nac : ¬ d c a < 1000000 := fun z => f0 (tr i a j hi ha hj (tr i c a hi hc ha f1 z) f2)
        have e := ob_ct_or (n := 5) (p := fun k => decide (d i k < 1000000)) (q := fun k => decide (d a k < 1000000)) (r := fun k => decide (ob_nb (ob_nb d a c x) c a y i k < 1000000)) (fun k hk => by
          rw [← Bool.decide_or]
          refine decide_eq_decide.mpr ((fin i k hi (by omega)).trans ⟨?_, ?_⟩)
          · rintro (g | ⟨g1, g2⟩ | ⟨g1, g2⟩)
            · exact Or.inl g
            · exact absurd (tr c i a hc hi ha (hs i c hi hc f1) g1) nac
            · exact Or.inr g2
          · rintro (g | g)
            · exact Or.inl g
            · exact Or.inr (Or.inr ⟨f1, g⟩)) (fun k hk z => by
          simp only [decide_eq_true_eq] at z
          exact nac (tr c i a hc hi ha (hs i c hi hc f1) (tr i k a hi (by omega) ha z.1 (hs a k ha (by omega) z.2))))
        have u1 := @ob_nb_le d a c x i c
        have u2 := @ob_nb_le d a c x a j
        have := @ob_nb_le2 (ob_nb d a c x) c a y i j (by omega) (by omega)
        have := hn i c hi hc f1
        have := hn a j ha hj f2
        omega
end
theorem ob_ct_le5 (p : Nat → Bool) : (ob_ct p 5 : Int) ≤ 5 := by have := ob_ct_le p 5; omega
theorem ob_K_b {d : Nat → Nat → Int} (hK : ob_K d 209000) (hs : ∀ a b, a ≤ 4 → b ≤ 4 → d a b < 1000000 → d b a < 1000000) (hn : ∀ a b, a ≤ 4 → b ≤ 4 → d a b < 1000000 → d a b + 11000 ≤ 11000 * (ob_ct (fun c => decide (d a c < 1000000)) 5 : Nat)) : ob_K d 44000 := by
  obtain ⟨k1, k2, k3, k4⟩ := hK
  have up : ∀ a b, a ≤ 4 → b ≤ 4 → d a b < 1000000 → d a b ≤ 44000 := fun a b ha hb f => by
    have := hn a b ha hb f
    have := ob_ct_le (fun c => decide (d a c < 1000000)) 5
    omega
  refine ⟨k1, k2, fun a b ha hb f => ⟨?_, up a b ha hb f⟩, k4⟩
  have f' := hs a b ha hb f
  have := k4 a b a ha hb ha f f'
  have := up b a hb ha f'
  have := k1 a ha
  omega
theorem ob_KM_of {M : Nat → Nat → Int32} {d : Nat → Nat → Int} (e : ∀ i j, i ≤ 4 → j ≤ 4 → ob_mI M i j = d i j) (hK : ob_K d 209000) (hs : ∀ a b, a ≤ 4 → b ≤ 4 → d a b < 1000000 → d b a < 1000000) (hn : ∀ a b, a ≤ 4 → b ≤ 4 → d a b < 1000000 → d a b + 11000 ≤ 11000 * (ob_ct (fun c => decide (d a c < 1000000)) 5 : Nat)) : ob_KM M := by
  refine ⟨ob_K_cg (ob_K_b hK hs hn) e, fun a b ha hb f => ?_, fun a b ha hb f => ?_⟩
  · rw [e a b ha hb] at f; rw [e b a hb ha]; exact hs a b ha hb f
  · have := ob_ct_cg (n := 5) (p := fun c => decide (ob_mI M a c < 1000000)) (q := fun c => decide (d a c < 1000000)) (fun k hk => by simp only [e a k ha (by omega)])
    rw [this]
    rw [e a b ha hb] at f ⊢
    exact hn a b ha hb f
theorem ob_pT0 {M : Nat → Nat → Int32} {F : Nat → Int32} {a c : Nat} {x y : Int32} (ha : a ≤ 4) (hc : c ≤ 4) (hac : a ≠ c) (hF : ∀ i j, i ≤ 4 → j ≤ 4 → F (5 * i + j) = M i j) : ob_T0 (ob_mI M) (ob_bn (ob_bn F a c x) c a y) a c x.toInt y.toInt := by
  have n1 : ∀ i j k l : Nat, j ≤ 4 → l ≤ 4 → 5 * i + j = 5 * k + l → i = k ∧ j = l := fun i j k l h1 h2 h => by omega
  refine ⟨fun i j hi hj h1 h2 => ?_, ?_, ?_⟩
  · show (ob_bn (ob_bn F a c x) c a y (5 * i + j)).toInt = (M i j).toInt
    unfold ob_bn upd
    rw [if_neg (fun e => h2 (n1 _ _ _ _ hj ha e)), if_neg (fun e => h1 (n1 _ _ _ _ hj hc e)), hF i j hi hj]
  · show (ob_bn (ob_bn F a c x) c a y (5 * a + c)).toInt ≤ x.toInt ∧ (ob_bn (ob_bn F a c x) c a y (5 * a + c)).toInt ≤ (M a c).toInt ∧ ((ob_bn (ob_bn F a c x) c a y (5 * a + c)).toInt = x.toInt ∨ (ob_bn (ob_bn F a c x) c a y (5 * a + c)).toInt = (M a c).toInt)
    have e : ob_bn (ob_bn F a c x) c a y (5 * a + c) = if x < M a c then x else M a c := by
      unfold ob_bn upd
      rw [if_neg (fun e => hac (n1 _ _ _ _ hc ha e).1), if_pos rfl, hF a c ha hc]
    rw [e]
    split <;> rename_i q <;> rw [ob_lti] at q <;> omega
  · show (ob_bn (ob_bn F a c x) c a y (5 * c + a)).toInt ≤ y.toInt ∧ (ob_bn (ob_bn F a c x) c a y (5 * c + a)).toInt ≤ (M c a).toInt ∧ ((ob_bn (ob_bn F a c x) c a y (5 * c + a)).toInt = y.toInt ∨ (ob_bn (ob_bn F a c x) c a y (5 * c + a)).toInt = (M c a).toInt)
    have e : ob_bn (ob_bn F a c x) c a y (5 * c + a) = if y < M c a then y else M c a := by
      have e0 : ob_bn F a c x (5 * c + a) = M c a := by
        unfold ob_bn upd
        rw [if_neg (fun e => hac (n1 _ _ _ _ ha hc e).1.symm), hF c a hc ha]
      show upd _ _ _ _ = _
      unfold upd
      rw [if_pos rfl, e0]
    rw [e]
    split <;> rename_i q <;> rw [ob_lti] at q <;> omega
theorem ob_mk_at {M : Nat → Nat → Int32} {F : Nat → Int32} {a c : Nat} {x y : Int32} (hM : ob_KM M) (ha : a ≤ 4) (hc : c ≤ 4) (hac : a ≠ c) (hx : -11000 ≤ x.toInt ∧ x.toInt ≤ 11000) (hy : -11000 ≤ y.toInt ∧ y.toInt ≤ 11000) (hxy : 0 ≤ x.toInt + y.toInt) (hF : ∀ i j, i ≤ 4 → j ≤ 4 → F (5 * i + j) = M i j) :
    (decide (-x ≤ M c a) && decide (-y ≤ M a c)) = ob_cn (ob_fO (ob_bn (ob_bn F a c x) c a y) 5) 5 ∧ ((decide (-x ≤ M c a) && decide (-y ≤ M a c)) = true → ob_KM (ob_bO c a y (ob_bO a c x M 5) 5) ∧ ∀ i j, i ≤ 4 → j ≤ 4 → ob_bO c a y (ob_bO a c x M 5) 5 i j = ob_fO (ob_bn (ob_bn F a c x) c a y) 5 (5 * i + j)) := by
  obtain ⟨hK, hs, hn⟩ := hM
  have hT := ob_pT0 (x := x) (y := y) ha hc hac hF
  have hok : (decide (-x ≤ M c a) && decide (-y ≤ M a c)) = true ↔ ob_mok (ob_mI M) a c x.toInt y.toInt := by
    rw [Bool.and_eq_true, decide_eq_true_eq, decide_eq_true_eq, ob_lei, ob_lei, ob_negI (by omega) (by omega), ob_negI (by omega) (by omega)]
    have h1 := hK.2.1 c a hc ha
    have h2 := hK.2.1 a c ha hc
    simp only [ob_mI, ob_mok] at *
    omega
  by_cases ok : ob_mok (ob_mI M) a c x.toInt y.toInt
  · have okt := hok.mpr ok
    rw [okt]
    obtain ⟨K1, h2, K2⟩ := ob_m1 hK ha hc hx hy hxy ok
    have e1 : ∀ i j, i ≤ 4 → j ≤ 4 → ob_mI (ob_bO a c x M 5) i j = ob_nb (ob_mI M) a c x.toInt i j := fun i j hi hj => ob_bO5 hK ha hc hx ok.1 (by omega) (by omega) hi hj
    have K1' := ob_K_cg K1 e1
    have e2 : ∀ i j, i ≤ 4 → j ≤ 4 → ob_mI (ob_bO c a y (ob_bO a c x M 5) 5) i j = ob_nb (ob_nb (ob_mI M) a c x.toInt) c a y.toInt i j := fun i j hi hj => by
      rw [ob_bO5 K1' hc ha hy (by rw [e1 a c ha hc]; exact h2) (by omega) (by omega) hi hj]
      exact ob_nb_cg e1 hi hj hc ha
    have e3 := ob_m2 hK ha hc hac hx hy hxy ok hT
    obtain ⟨s4, n4⟩ := ob_m4 hK hs hn ha hc hac hx hy hxy ok
    refine ⟨?_, fun _ => ⟨ob_KM_of e2 K2 s4 n4, fun i j hi hj => ?_⟩⟩
    · refine (ob_cn_iff.mpr (fun j hj => ?_)).symm
      rw [ob_eqi, ob_0I]
      exact (e3 j j (by omega) (by omega)).trans (K2.1 j (by omega))
    · rw [ob_eqi]
      exact (e2 i j hi hj).trans (e3 i j hi hj).symm
  · have okf : (decide (-x ≤ M c a) && decide (-y ≤ M a c)) = false := by
      cases h : (decide (-x ≤ M c a) && decide (-y ≤ M a c)) with
      | false => rfl
      | true => exact absurd (hok.mp h) ok
    rw [okf]
    exact ⟨(ob_m3 hK ha hc hac hx hy ok hT).symm, fun h => by cases h⟩
def ob_bK (x1 x2 x3 x4 x5 : Int32) : Bool := ob_wi x1 (nI 0) (nI 4) && (ob_wi x3 (nI 0) (nI 4) && (!decide (x1 = x3) && (ob_wi x2 (nI 0) (nI 10000) && (ob_wi x4 (nI 0) (nI 10000) && ob_wi x5 (nI 0) (nI 1000)))))
theorem ob_bK_okm (x1 x2 x3 x4 x5 : Int32) : ob_bK x1 x2 x3 x4 x5 = ob_okm x1 x2 x3 x4 x5 := by
  unfold ob_bK ob_okm
  cases ob_wi x1 (nI 0) (nI 4) <;> cases ob_wi x3 (nI 0) (nI 4) <;> cases ob_wi x2 (nI 0) (nI 10000) <;> cases ob_wi x4 (nI 0) (nI 10000) <;> cases ob_wi x5 (nI 0) (nI 1000) <;> simp
theorem ob_pmark {M : Nat → Nat → Int32} {Bd Tr : Nat → Int32} {x1 x2 x3 x4 x5 : Int32} (hM : ob_KM M) (hB : ∀ a b, a ≤ 4 → b ≤ 4 → M a b = Bd (5 * a + b)) :
    ob_z2 (ob_bK x1 x2 x3 x4 x5) (decide (-(x4 - x2 + x5) ≤ ob_ms M x3 x1) && decide (-(x5 - (x4 - x2)) ≤ ob_ms M x1 x3)) = ob_z2 (ob_okm x1 x2 x3 x4 x5) (ob_cn (ob_T9 Bd Tr x1.toNatClampNeg x3.toNatClampNeg x2 x4 x5) 5) ∧
    (ob_z2 (ob_okm x1 x2 x3 x4 x5) (ob_cn (ob_T9 Bd Tr x1.toNatClampNeg x3.toNatClampNeg x2 x4 x5) 5) = 0 → ob_KM (ob_mk M x1.toNatClampNeg x3.toNatClampNeg x2 x4 x5) ∧ ∀ a b, a ≤ 4 → b ≤ 4 → ob_mk M x1.toNatClampNeg x3.toNatClampNeg x2 x4 x5 a b = (if ob_okm x1 x2 x3 x4 x5 && ob_cn (ob_T9 Bd Tr x1.toNatClampNeg x3.toNatClampNeg x2 x4 x5) 5 then ob_fl (ob_T9 Bd Tr x1.toNatClampNeg x3.toNatClampNeg x2 x4 x5) Bd 25 else Bd) (5 * a + b)) ∧
    (¬ ob_z2 (ob_okm x1 x2 x3 x4 x5) (ob_cn (ob_T9 Bd Tr x1.toNatClampNeg x3.toNatClampNeg x2 x4 x5) 5) = 0 → (if ob_okm x1 x2 x3 x4 x5 && ob_cn (ob_T9 Bd Tr x1.toNatClampNeg x3.toNatClampNeg x2 x4 x5) 5 then ob_fl (ob_T9 Bd Tr x1.toNatClampNeg x3.toNatClampNeg x2 x4 x5) Bd 25 else Bd) = Bd) := by
  rw [ob_bK_okm]
  cases hok : ob_okm x1 x2 x3 x4 x5 with
  | false =>
    rw [ob_z2f, ob_z2f]
    simp only [Bool.false_and, Bool.false_eq_true, if_false]
    exact ⟨trivial, fun h => absurd h (by decide), fun _ => trivial⟩
  | true =>
    have hok2 := hok
    unfold ob_okm at hok2
    obtain ⟨p1, q⟩ := ob_and2 hok2
    obtain ⟨p2, q⟩ := ob_and2 q
    obtain ⟨p3, q⟩ := ob_and2 q
    obtain ⟨p4, q⟩ := ob_and2 q
    obtain ⟨p5, p6⟩ := ob_and2 q
    obtain ⟨a, ha, rfl⟩ := ob_wi_t p1
    obtain ⟨r2, h2, rfl⟩ := ob_wi_t p2
    obtain ⟨c, hc, rfl⟩ := ob_wi_t p3
    obtain ⟨r4, h4, rfl⟩ := ob_wi_t p4
    obtain ⟨s, h5, rfl⟩ := ob_wi_t p5
    have hac : a ≠ c := fun e => by rw [e] at p6; simp at p6
    rw [ob_cl (show a ≤ 1073741824 by omega), ob_cl (show c ≤ 1073741824 by omega), ob_ms_nI hc ha, ob_ms_nI ha hc]
    have t2 := ob_ti (show r2 ≤ 1073741824 by omega)
    have t4 := ob_ti (show r4 ≤ 1073741824 by omega)
    have t5 := ob_ti (show s ≤ 1073741824 by omega)
    have u1 : (nI r4 - nI r2).toInt = r4 - r2 := by rw [ob_subI (by omega) (by omega)]; omega
    have u2 : (nI s - nI r2).toInt = s - r2 := by rw [ob_subI (by omega) (by omega)]; omega
    have u3 : (nI s + nI r2).toInt = s + r2 := by rw [ob_addI (by omega) (by omega)]; omega
    have v1 : (nI r4 - nI r2 + nI s).toInt = r4 - r2 + s := by rw [ob_addI (by omega) (by omega)]; omega
    have v2 : (nI s - (nI r4 - nI r2)).toInt = s - (r4 - r2) := by rw [ob_subI (by omega) (by omega)]; omega
    have v3 : (nI s - nI r2 + nI r4).toInt = s - r2 + r4 := by rw [ob_addI (by omega) (by omega)]; omega
    have v4 : (nI s + nI r2 - nI r4).toInt = s + r2 - r4 := by rw [ob_subI (by omega) (by omega)]; omega
    have ex : nI s - nI r2 + nI r4 = nI r4 - nI r2 + nI s := by rw [ob_eqi]; omega
    have ey : nI s + nI r2 - nI r4 = nI s - (nI r4 - nI r2) := by rw [ob_eqi]; omega
    unfold ob_T9 ob_mk
    rw [ex, ey]
    obtain ⟨m1, m2⟩ := ob_mk_at (F := ob_fl Bd Tr 25) (x := nI r4 - nI r2 + nI s) (y := nI s - (nI r4 - nI r2)) hM ha hc hac (by omega) (by omega) (by omega) (fun i j hi hj => by rw [ob_fl_in (by omega), hB i j hi hj])
    rw [m1] at m2
    rw [m1]
    refine ⟨rfl, fun hz => ?_, fun hz => ?_⟩
    · cases hcn : ob_cn (ob_fO (ob_bn (ob_bn (ob_fl Bd Tr 25) a c (nI r4 - nI r2 + nI s)) c a (nI s - (nI r4 - nI r2))) 5) 5 with
      | false => rw [hcn] at hz; exact absurd hz (by decide)
      | true =>
        obtain ⟨m3, m4⟩ := m2 hcn
        refine ⟨m3, fun i j hi hj => ?_⟩
        rw [m4 i j hi hj]
        simp only [Bool.and_self, if_true]
        exact (ob_fl_in (by omega)).symm
    · cases hcn : ob_cn (ob_fO (ob_bn (ob_bn (ob_fl Bd Tr 25) a c (nI r4 - nI r2 + nI s)) c a (nI s - (nI r4 - nI r2))) 5) 5 with
      | false => rfl
      | true => rw [hcn] at hz; exact absurd rfl hz
