-- ===== how the number of orders grows with a line
def ob_al (p : Nat → Bool) : Nat → Bool
  | 0 => true
  | m + 1 => ob_al p m && p m
theorem ob_al_t {p : Nat → Bool} : ∀ {m : Nat}, ob_al p m = true ↔ ∀ j, j < m → p j = true
  | 0 => ⟨fun _ j h => absurd h (Nat.not_lt_zero _), fun _ => rfl⟩
  | m + 1 => by
    rw [ob_al, Bool.and_eq_true, ob_al_t]
    exact ⟨fun h j hj => by rcases Nat.lt_or_ge j m with c | c; exact h.1 j c; rw [show j = m by omega]; exact h.2, fun h => ⟨fun j hj => h j (by omega), h m (by omega)⟩⟩
def ob_rm (S : Nat → Bool) (k : Nat) : Nat → Bool := fun j => S j && !decide (j = k)
/-- k can be the last one of S: what must come before it is in the rest -/
def ob_lst (b : Nat → Nat → Bool) (n : Nat) (S : Nat → Bool) (k : Nat) : Bool := S k && ob_al (fun j => !b k j || ob_rm S k j) n
theorem ob_lst_t {b : Nat → Nat → Bool} {n : Nat} {S : Nat → Bool} {k : Nat} : ob_lst b n S k = true ↔ S k = true ∧ ∀ j, j < n → b k j = true → ob_rm S k j = true := by
  unfold ob_lst
  rw [Bool.and_eq_true, ob_al_t]
  refine and_congr_right (fun _ => ⟨fun h j hj hb => ?_, fun h j hj => ?_⟩)
  · have := h j hj
    rw [hb] at this
    simpa using this
  · cases hb : b k j with
    | false => rfl
    | true => rw [h j hj hb]; rfl
/-- the number of orders of a set of m, counted by its last one -/
def ob_cN (b : Nat → Nat → Bool) (n : Nat) : Nat → (Nat → Bool) → Nat
  | 0, _ => 1
  | m + 1, S => ob_su (fun k => if ob_lst b n S k = true then ob_cN b n m (ob_rm S k) else 0) n
theorem ob_su_ge {f : Nat → Nat} {k : Nat} : ∀ {n : Nat}, k < n → f k ≤ ob_su f n
  | 0, h => absurd h (Nat.not_lt_zero _)
  | n + 1, h => by
    rw [ob_su]
    rcases Nat.lt_or_ge k n with c | c
    · have := ob_su_ge (f := f) c
      omega
    · rw [show k = n by omega]
      omega
theorem ob_su_0 {f : Nat → Nat} : ∀ {n : Nat}, (∀ k, k < n → f k = 0) → ob_su f n = 0
  | 0, _ => rfl
  | n + 1, h => by rw [ob_su, ob_su_0 (fun k hk => h k (by omega)), h n (by omega)]
theorem ob_su_mu (f : Nat → Nat) (w : Nat) : ∀ n, ob_su (fun k => w * f k) n = w * ob_su f n
  | 0 => rfl
  | n + 1 => by rw [ob_su, ob_su, ob_su_mu f w n, Nat.mul_add]
theorem ob_su_ct (S : Nat → Bool) (w : Nat) : ∀ n, ob_su (fun k => if S k = true then w else 0) n = ob_ct S n * w
  | 0 => by rw [ob_su, ob_ct, Nat.zero_mul]
  | n + 1 => by
    rw [ob_su, ob_ct, ob_su_ct S w n]
    by_cases c : S n = true
    · rw [if_pos c, if_pos c, Nat.succ_mul]
    · rw [if_neg c, if_neg c]
      simp only [Nat.add_zero]
theorem ob_ct_rm1 {S : Nat → Bool} {n k : Nat} (hk : k < n) (hS : S k = true) : ob_ct S n = ob_ct (ob_rm S k) n + 1 := by
  have := ob_ct_rm (q := S) (q' := ob_rm S k) hk (fun i _ hne => by unfold ob_rm; rw [decide_eq_false hne]; simp) (by unfold ob_rm; rw [decide_eq_true rfl]; simp)
  rw [hS] at this
  simpa using this
theorem ob_ct_0 {S : Nat → Bool} {n k : Nat} (h : ob_ct S n = 0) (hk : k < n) : S k = false := by
  cases c : S k with
  | false => rfl
  | true =>
    have := ob_ct_lt (n := n) (p := fun _ => false) (q := S) (fun k _ h => by cases h) hk rfl c
    omega
theorem ob_cN_cg {b b' : Nat → Nat → Bool} {n : Nat} (hb : ∀ i j, i < n → j < n → b' i j = b i j) : ∀ (m : Nat) {S S' : Nat → Bool}, (∀ j, j < n → S' j = S j) → ob_cN b' n m S' = ob_cN b n m S
  | 0, _, _, _ => rfl
  | m + 1, S, S', h => by
    rw [ob_cN, ob_cN]
    refine ob_su_cg (fun k hk => ?_)
    have hr : ∀ j, j < n → ob_rm S' k j = ob_rm S k j := fun j hj => by unfold ob_rm; rw [h j hj]
    have e : ob_lst b' n S' k = ob_lst b n S k := by
      refine Bool.eq_iff_iff.mpr ?_
      rw [ob_lst_t, ob_lst_t, h k hk]
      exact and_congr_right (fun _ => ⟨fun z j hj hj2 => by rw [← hr j hj]; exact z j hj (by rw [hb k j hk hj]; exact hj2), fun z j hj hj2 => by rw [hr j hj]; exact z j hj (by rw [← hb k j hk hj]; exact hj2)⟩)
    rw [e, ob_cN_cg hb m hr]
def ob_fa : Nat → Nat
  | 0 => 1
  | m + 1 => (m + 1) * ob_fa m
theorem ob_cN_fa {b : Nat → Nat → Bool} {n : Nat} : ∀ (m : Nat) {S : Nat → Bool}, ob_ct S n = m → ob_cN b n m S ≤ ob_fa m
  | 0, _, _ => Nat.le_refl _
  | m + 1, S, h => by
    rw [ob_cN, ob_fa, ← h, ← ob_su_ct]
    refine ob_su_mo (fun k hk => ?_)
    by_cases c : ob_lst b n S k = true
    · have hS := (ob_lst_t.mp c).1
      rw [if_pos c, if_pos hS]
      have := ob_ct_rm1 hk hS
      exact ob_cN_fa m (by omega)
    · rw [if_neg c]
      exact Nat.zero_le _
theorem ob_fa_mo : ∀ {a b : Nat}, a ≤ b → ob_fa a ≤ ob_fa b
  | a, 0, h => by rw [show a = 0 by omega]; exact Nat.le_refl _
  | a, b + 1, h => by
    rcases Nat.lt_or_ge a (b + 1) with c | c
    · have h1 := ob_fa_mo (a := a) (b := b) (by omega)
      rw [ob_fa]
      exact Nat.le_trans h1 (Nat.le_mul_of_pos_left _ (Nat.succ_pos _))
    · rw [show a = b + 1 by omega]; exact Nat.le_refl _
theorem ob_fa12 : ob_fa 12 = 479001600 := by decide +kernel
/-- none is left out that must come before one of them, or no order -/
theorem ob_cN_z {b : Nat → Nat → Bool} {n y k : Nat} (hy : y < n) (hk : k < n) (hb : b y k = true) : ∀ (m : Nat) {T : Nat → Bool}, ob_ct T n = m → T y = true → T k = false → ob_cN b n m T = 0
  | 0, T, h, h1, _ => by
    rw [ob_ct_0 h hy] at h1
    cases h1
  | m + 1, T, h, h1, h2 => by
    rw [ob_cN]
    refine ob_su_0 (fun j hj => ?_)
    by_cases c : ob_lst b n T j = true
    · obtain ⟨c1, c2⟩ := ob_lst_t.mp c
      by_cases e : j = y
      · subst e
        have := c2 k hk hb
        unfold ob_rm at this
        rw [h2] at this
        cases this
      · rw [if_pos c]
        have := ob_ct_rm1 hj c1
        refine ob_cN_z hy hk hb m (by omega) ?_ ?_
        · unfold ob_rm
          rw [h1, decide_eq_false (fun z => e z.symm)]
          rfl
        · unfold ob_rm
          rw [h2]
          rfl
    · rw [if_neg c]
/-- a set with the new one -/
def ob_ad1 (S : Nat → Bool) (n : Nat) : Nat → Bool := fun j => S j || decide (j = n)
section
variable {b b' : Nat → Nat → Bool} {n : Nat}
theorem ob_rm_n {S : Nat → Bool} {k j : Nat} (h : S j = false) : ob_rm S k j = false := by unfold ob_rm; rw [h]; rfl
theorem ob_ad_rm {S : Nat → Bool} {k : Nat} (hk : k < n) (j : Nat) : ob_rm (ob_ad1 S n) k j = ob_ad1 (ob_rm S k) n j := by
  unfold ob_rm ob_ad1
  by_cases e : j = n
  · have h1 : ¬ n = k := by omega
    subst e
    simp [h1]
  · simp [e]
theorem ob_ad_rn {S : Nat → Bool} (hS : ∀ j, n ≤ j → S j = false) (j : Nat) : ob_rm (ob_ad1 S n) n j = S j := by
  unfold ob_rm ob_ad1
  by_cases e : j = n
  · subst e
    rw [hS j (Nat.le_refl _)]
    simp
  · simp [e]
/-- the new one left out: no more orders than before -/
theorem ob_cU1 (hb : ∀ i j, i < n → j < n → b' i j = b i j) : ∀ (m : Nat) {S : Nat → Bool}, (∀ j, n ≤ j → S j = false) → ob_cN b' (n + 1) m S ≤ ob_cN b n m S
  | 0, _, _ => Nat.le_refl _
  | m + 1, S, hS => by
    rw [ob_cN, ob_cN, ob_su]
    have z : ob_lst b' (n + 1) S n = false := by
      unfold ob_lst
      rw [hS n (Nat.le_refl _)]
      rfl
    rw [z, if_neg (by decide), Nat.add_zero]
    refine ob_su_mo (fun k hk => ?_)
    by_cases c : ob_lst b' (n + 1) S k = true
    · obtain ⟨c1, c2⟩ := ob_lst_t.mp c
      have d : ob_lst b n S k = true := ob_lst_t.mpr ⟨c1, fun j hj hj2 => c2 j (by omega) (by rw [hb k j hk hj]; exact hj2)⟩
      rw [if_pos c, if_pos d]
      exact ob_cU1 hb m (fun j hj => ob_rm_n (hS j hj))
    · rw [if_neg c]
      exact Nat.zero_le _
/-- with the new one: at most as many times more as there are places for it -/
theorem ob_cU2 (hb : ∀ i j, i < n → j < n → b' i j = b i j) : ∀ (m : Nat) {S : Nat → Bool}, (∀ j, n ≤ j → S j = false) → ob_ct S n = m → ob_cN b' (n + 1) (m + 1) (ob_ad1 S n) ≤ (m + 1) * ob_cN b n m S := by
  intro m
  induction m with
  | zero =>
    intro S hS h
    show ob_su (fun k => if ob_lst b' (n + 1) (ob_ad1 S n) k = true then ob_cN b' (n + 1) 0 (ob_rm (ob_ad1 S n) k) else 0) n + (if ob_lst b' (n + 1) (ob_ad1 S n) n = true then ob_cN b' (n + 1) 0 (ob_rm (ob_ad1 S n) n) else 0) ≤ (0 + 1) * 1
    rw [ob_su_0 (fun k hk => by
      rw [if_neg]
      intro c
      have c1 := (ob_lst_t.mp c).1
      unfold ob_ad1 at c1
      rw [ob_ct_0 h hk, decide_eq_false (show ¬ k = n by omega)] at c1
      cases c1)]
    split
    · show 0 + 1 ≤ (0 + 1) * 1
      decide
    · decide
  | succ m ih =>
    intro S hS h
    rw [ob_cN, ob_su]
    have h1 : ob_su (fun k => if ob_lst b' (n + 1) (ob_ad1 S n) k = true then ob_cN b' (n + 1) (m + 1) (ob_rm (ob_ad1 S n) k) else 0) n ≤ (m + 1) * ob_cN b n (m + 1) S := by
      rw [show ob_cN b n (m + 1) S = ob_su (fun k => if ob_lst b n S k = true then ob_cN b n m (ob_rm S k) else 0) n from rfl, ← ob_su_mu]
      refine ob_su_mo (fun k hk => ?_)
      by_cases c : ob_lst b' (n + 1) (ob_ad1 S n) k = true
      · obtain ⟨c1, c2⟩ := ob_lst_t.mp c
        have s1 : S k = true := by
          unfold ob_ad1 at c1
          rw [decide_eq_false (show ¬ k = n by omega)] at c1
          simpa using c1
        have d : ob_lst b n S k = true := ob_lst_t.mpr ⟨s1, fun j hj hj2 => by
          have := c2 j (by omega) (by rw [hb k j hk hj]; exact hj2)
          rw [ob_ad_rm hk] at this
          unfold ob_ad1 at this
          rw [decide_eq_false (show ¬ j = n by omega)] at this
          simpa using this⟩
        rw [if_pos c, if_pos d, ob_cN_cg (b := b') (b' := b') (fun _ _ _ _ => rfl) (m + 1) (fun j _ => ob_ad_rm hk j)]
        have := ob_ct_rm1 hk s1
        exact ih (fun j hj => ob_rm_n (hS j hj)) (by omega)
      · rw [if_neg c]
        exact Nat.zero_le _
    have h2 : (if ob_lst b' (n + 1) (ob_ad1 S n) n = true then ob_cN b' (n + 1) (m + 1) (ob_rm (ob_ad1 S n) n) else 0) ≤ ob_cN b n (m + 1) S := by
      split
      · rw [ob_cN_cg (b := b') (b' := b') (fun _ _ _ _ => rfl) (m + 1) (fun j _ => ob_ad_rn hS j)]
        exact ob_cU1 hb (m + 1) hS
      · exact Nat.zero_le _
    have h3 : (m + 1 + 1) * ob_cN b n (m + 1) S = (m + 1) * ob_cN b n (m + 1) S + ob_cN b n (m + 1) S := Nat.succ_mul _ _
    omega
/-- where none of them must come after the new one -/
theorem ob_cE (hb : ∀ i j, i < n → j < n → b' i j = b i j) : ∀ (m : Nat) {S : Nat → Bool}, (∀ j, n ≤ j → S j = false) → (∀ k, k < n → S k = true → b' k n = false) → ob_cN b n m S ≤ ob_cN b' (n + 1) m S
  | 0, _, _, _ => Nat.le_refl _
  | m + 1, S, hS, hx => by
    rw [ob_cN, ob_cN, ob_su]
    refine Nat.le_trans (ob_su_mo (fun k hk => ?_)) (Nat.le_add_right _ _)
    by_cases d : ob_lst b n S k = true
    · obtain ⟨d1, d2⟩ := ob_lst_t.mp d
      have c : ob_lst b' (n + 1) S k = true := ob_lst_t.mpr ⟨d1, fun j hj hj2 => by
        rcases Nat.lt_or_ge j n with q | q
        · exact d2 j q (by rw [← hb k j hk q]; exact hj2)
        · rw [show j = n by omega, hx k hk d1] at hj2
          cases hj2⟩
      rw [if_pos c, if_pos d]
      refine ob_cE hb m (fun j hj => ob_rm_n (hS j hj)) (fun k2 hk2 h2 => hx k2 hk2 ?_)
      unfold ob_rm at h2
      exact (ob_and2 h2).1
    · rw [if_neg d]
      exact Nat.zero_le _
/-- with the new one: no fewer orders -/
theorem ob_cL (hb : ∀ i j, i < n → j < n → b' i j = b i j) (irr : ∀ i, b' i i = false) (tr : ∀ i j k, b' i j = true → b' j k = true → b' i k = true) : ∀ (m : Nat) {S : Nat → Bool}, (∀ j, n ≤ j → S j = false) → ob_ct S n = m → (∀ j, j < n → b' n j = true → S j = true) → ob_cN b n m S ≤ ob_cN b' (n + 1) (m + 1) (ob_ad1 S n) := by
  intro m
  induction m with
  | zero =>
    intro S hS h hd
    have c : ob_lst b' (n + 1) (ob_ad1 S n) n = true := ob_lst_t.mpr ⟨by unfold ob_ad1; simp, fun j hj hj2 => by
      rcases Nat.lt_or_ge j n with q | q
      · rw [ob_ad_rn hS]; exact hd j q hj2
      · rw [show j = n by omega, irr] at hj2
        cases hj2⟩
    show 1 ≤ ob_su (fun k => if ob_lst b' (n + 1) (ob_ad1 S n) k = true then ob_cN b' (n + 1) 0 (ob_rm (ob_ad1 S n) k) else 0) n + (if ob_lst b' (n + 1) (ob_ad1 S n) n = true then ob_cN b' (n + 1) 0 (ob_rm (ob_ad1 S n) n) else 0)
    rw [if_pos c]
    exact Nat.le_add_left 1 _
  | succ m ih =>
    intro S hS h hd
    by_cases e : ∃ y, y < n ∧ S y = true ∧ b' y n = true
    · obtain ⟨y, hy, hy2, hy3⟩ := e
      rw [show ob_cN b n (m + 1) S = ob_su (fun k => if ob_lst b n S k = true then ob_cN b n m (ob_rm S k) else 0) n from rfl, show ob_cN b' (n + 1) (m + 1 + 1) (ob_ad1 S n) = ob_su (fun k => if ob_lst b' (n + 1) (ob_ad1 S n) k = true then ob_cN b' (n + 1) (m + 1) (ob_rm (ob_ad1 S n) k) else 0) (n + 1) from rfl, ob_su]
      refine Nat.le_trans (ob_su_mo (fun k hk => ?_)) (Nat.le_add_right _ _)
      by_cases d : ob_lst b n S k = true
      · obtain ⟨d1, d2⟩ := ob_lst_t.mp d
        have hc := ob_ct_rm1 hk d1
        rw [if_pos d]
        by_cases f : b' n k = true
        · have g := tr y n k hy3 f
          have ne : ¬ y = k := fun z => by
            rw [z, irr] at g
            cases g
          rw [ob_cN_z hy hk (by rw [← hb y k hy hk]; exact g) m (by omega) (by unfold ob_rm; rw [hy2, decide_eq_false ne]; rfl) (by unfold ob_rm; rw [decide_eq_true rfl]; simp)]
          exact Nat.zero_le _
        · have c : ob_lst b' (n + 1) (ob_ad1 S n) k = true := ob_lst_t.mpr ⟨by unfold ob_ad1; rw [d1]; rfl, fun j hj hj2 => by
            rw [ob_ad_rm hk]
            unfold ob_ad1
            rcases Nat.lt_or_ge j n with q | q
            · rw [d2 j q (by rw [← hb k j hk q]; exact hj2)]
              rfl
            · rw [decide_eq_true (show j = n by omega), Bool.or_true]⟩
          rw [if_pos c, ob_cN_cg (b := b') (b' := b') (fun _ _ _ _ => rfl) (m + 1) (fun j _ => ob_ad_rm hk j)]
          refine ih (fun j hj => ob_rm_n (hS j hj)) (by omega) (fun j hj hj2 => ?_)
          unfold ob_rm
          rw [hd j hj hj2, decide_eq_false (fun z => by rw [z] at hj2; exact f hj2)]
          rfl
      · rw [if_neg d]
        exact Nat.zero_le _
    · have c : ob_lst b' (n + 1) (ob_ad1 S n) n = true := ob_lst_t.mpr ⟨by unfold ob_ad1; simp, fun j hj hj2 => by
        rcases Nat.lt_or_ge j n with q | q
        · rw [ob_ad_rn hS]; exact hd j q hj2
        · rw [show j = n by omega, irr] at hj2
          cases hj2⟩
      have h1 := ob_cE hb (m + 1) hS (fun k hk hk2 => by
        cases g : b' k n with
        | false => rfl
        | true => exact absurd ⟨k, hk, hk2, g⟩ e)
      have h2 := ob_su_ge (f := fun k => if ob_lst b' (n + 1) (ob_ad1 S n) k = true then ob_cN b' (n + 1) (m + 1) (ob_rm (ob_ad1 S n) k) else 0) (n := n + 1) (k := n) (by omega)
      simp only [c, if_true] at h2
      rw [ob_cN_cg (b := b') (b' := b') (fun _ _ _ _ => rfl) (m + 1) (fun j _ => ob_ad_rn hS j)] at h2
      rw [show ob_cN b' (n + 1) (m + 1 + 1) (ob_ad1 S n) = ob_su (fun k => if ob_lst b' (n + 1) (ob_ad1 S n) k = true then ob_cN b' (n + 1) (m + 1) (ob_rm (ob_ad1 S n) k) else 0) (n + 1) from rfl]
      omega
end
-- the class's way to count is this one
theorem ob_tb {q k i : Nat} (hq : q < 2147483648) (hk : k < 31) (hi : i < 31) (h : q.testBit k = true) : (q - 2 ^ k).testBit i = (q.testBit i && !decide (i = k)) := by
  rw [← ob_bxN (by omega), ← ob_restN hq hk h]
  unfold ob_rest
  rw [ob_bx_and, ob_bx_not (by omega), ob_bx_bit (by omega) (by omega), ob_bxN (by omega)]
theorem ob_ccp_l {bf : Nat → Int32} {n q k : Nat} (hn : n ≤ 12) (hk : k < n) (hb : ∀ i, i < 32 → ob_bx (bf k) i = true → i < n ∧ i ≠ k) : ob_ccp bf q k = ob_lst (fun k i => ob_bx (bf k) i) n (fun i => q.testBit i) k := by
  refine Bool.eq_iff_iff.mpr ?_
  rw [ob_lst_t]
  unfold ob_ccp
  rw [Bool.and_eq_true, decide_eq_true_eq, ob_hb_bx (by omega), ob_bxN (by omega), ob_and0]
  refine and_congr_right (fun _ => ⟨fun h j hj hj2 => ?_, fun h i hi => ?_⟩)
  · have h1 := h j (by omega)
    rw [ob_bx_not (by omega), ob_bxN (by omega)] at h1
    show (q.testBit j && !decide (j = k)) = true
    rw [decide_eq_false (hb j (by omega) hj2).2]
    cases c : q.testBit j with
    | true => rfl
    | false => exact absurd ⟨hj2, by rw [c]; rfl⟩ h1
  · rintro ⟨a, d⟩
    obtain ⟨g1, g2⟩ := hb i hi a
    have this : (q.testBit i && !decide (i = k)) = true := h i g1 a
    rw [ob_bx_not hi, ob_bxN hi, (ob_and2 this).1] at d
    cases d
theorem ob_F_c {bf : Nat → Int32} {bg : Nat → Int64} {n : Nat} (hn : n ≤ 12) (hb : ∀ k, k < n → ∀ i, i < 32 → ob_bx (bf k) i = true → i < n ∧ i ≠ k) : ∀ m, m ≤ 2 ^ n → ∀ q, q < m → ob_F bf n bg m q = lN (ob_cN (fun k i => ob_bx (bf k) i) n (ob_ct (fun i => q.testBit i) n) (fun i => q.testBit i)) := by
  have hp := ob_p12 n hn
  intro m
  induction m with
  | zero => exact fun _ q hq => absurd hq (Nat.not_lt_zero _)
  | succ m ih =>
    intro hm q hq
    have ih := ih (by omega)
    rw [ob_F]
    rcases Nat.lt_or_ge q m with c | c
    · rw [pk_uLn (show q ≠ m by omega)]
      exact ih q c
    · have e : q = m := by omega
      subst e
      rw [pk_uLs]
      by_cases z : q = 0
      · subst z
        have e0 : ob_ct (fun i => (0 : Nat).testBit i) n = 0 := by
          have := ob_ct_cg (n := n) (p := fun i => (0 : Nat).testBit i) (q := fun _ => false) (fun k _ => Nat.zero_testBit k)
          rw [this]
          have h2 : ∀ n, ob_ct (fun _ => false) n = 0 := fun n => by
            induction n with
            | zero => rfl
            | succ n ih => rw [ob_ct, ih]; rfl
          exact h2 n
        rw [if_pos rfl, e0, ob_cN]
      · rw [if_neg z]
        obtain ⟨i0, hi0, hi1⟩ : ∃ i, i < n ∧ q.testBit i = true := by
          by_cases w : ∃ i, i < n ∧ q.testBit i = true
          · exact w
          · refine absurd (Nat.eq_of_testBit_eq (y := 0) (fun i => ?_)) z
            rw [Nat.zero_testBit]
            rcases Nat.lt_or_ge i n with y | y
            · cases x : q.testBit i with
              | false => rfl
              | true => exact absurd ⟨i, y, x⟩ w
            · exact Nat.testBit_lt_two_pow (Nat.lt_of_lt_of_le (show q < 2 ^ n by omega) (Nat.pow_le_pow_right (by omega) y))
        have hc := ob_ct_rm1 (S := fun i => q.testBit i) hi0 hi1
        obtain ⟨c', hc'⟩ : ∃ c', c' + 1 = ob_ct (fun i => q.testBit i) n := ⟨ob_ct (ob_rm (fun i => q.testBit i) i0) n, hc.symm⟩
        rw [← hc', ob_cN]
        have key : ∀ k, k ≤ n → ob_cb bf (ob_F bf n bg q) (nI q) k = lN (ob_su (fun k => if ob_lst (fun k i => ob_bx (bf k) i) n (fun i => q.testBit i) k = true then ob_cN (fun k i => ob_bx (bf k) i) n c' (ob_rm (fun i => q.testBit i) k) else 0) k) := by
          intro k
          induction k with
          | zero => exact fun _ => rfl
          | succ k ihk =>
            intro hk
            rw [ob_cb, ob_cbp_eq (ah := bf) hn (show k < n by omega) (by omega) rfl (by
              cases x : ob_bx (bf k) k with
              | false => rfl
              | true => exact absurd rfl (hb k (by omega) k (by omega) x).2), ob_ccp_l hn (show k < n by omega) (hb k (by omega)), ihk (by omega), ob_su]
            by_cases d : ob_lst (fun k i => ob_bx (bf k) i) n (fun i => q.testBit i) k = true
            · have d1 : q.testBit k = true := (ob_lst_t.mp d).1
              have d2 := Nat.ge_two_pow_of_testBit d1
              have d3 : 1 ≤ 2 ^ k := Nat.one_le_two_pow
              rw [if_pos d, if_pos d, ob_restN (by omega) (by omega) d1, ob_cl (by omega), ih (q - 2 ^ k) (by omega), lN_add]
              have hb2 : ∀ j, j < n → (q - 2 ^ k).testBit j = ob_rm (fun i => q.testBit i) k j := fun j hj => by
                rw [ob_tb (by omega) (by omega) (by omega) d1]
                rfl
              have h3 := ob_ct_rm1 (S := fun i => q.testBit i) (show k < n by omega) d1
              have h4 : ob_ct (fun i => (q - 2 ^ k).testBit i) n = c' := by
                rw [ob_ct_cg (q := ob_rm (fun i => q.testBit i) k) hb2]
                omega
              rw [h4, ob_cN_cg (b := fun k i => ob_bx (bf k) i) (fun _ _ _ _ => rfl) c' hb2]
            · rw [if_neg d, if_neg d, Nat.add_zero]
        exact key n (Nat.le_refl _)
theorem ob_ord_c {bf : Nat → Int32} {bg : Nat → Int64} {n : Nat} (hn : n ≤ 12) (hb : ∀ k, k < n → ∀ i, i < 32 → ob_bx (bf k) i = true → i < n ∧ i ≠ k) : ob_F bf n bg (2 ^ n) (2 ^ n - 1) = lN (ob_cN (fun k i => ob_bx (bf k) i) n n (fun j => decide (j < n))) := by
  have h1 : 1 ≤ 2 ^ n := Nat.one_le_two_pow
  have e : ∀ i, (2 ^ n - 1).testBit i = decide (i < n) := fun i => Nat.testBit_two_pow_sub_one n i
  have e2 : ob_ct (fun i => (2 ^ n - 1).testBit i) n = n := by
    rw [ob_ct_cg (q := fun _ => true) (fun k hk => by rw [e k, decide_eq_true hk]), ob_ct_t]
  rw [ob_F_c hn hb _ (Nat.le_refl _) _ (by omega), e2, ob_cN_cg (b := fun k i => ob_bx (bf k) i) (fun _ _ _ _ => rfl) n (fun j _ => e j)]
/-- the orders before a line is written, and behind it -/
theorem ob_grow {M : Nat → Nat → Int32} {n : Nat} {cl rd bf cl' rd' bf' : Nat → Int32} {bg bg' : Nat → Int64} (hn : n ≤ 11) (hM : ob_KM M) (hkc : ∀ k, cl' k = nI (ob_kc cl' k) ∧ ob_kc cl' k ≤ 4) (hr : ob_rdk rd') (hc : ∀ k, k < n → cl' k = cl k) (hd : ∀ k, k < n → rd' k = rd k)
    (hbf : ∀ j, j < n → bf j = ob_bs (fun i => ob_se M cl rd i j) n) (hbf' : ∀ j, j < n + 1 → bf' j = ob_bs (fun i => ob_se M cl' rd' i j) (n + 1)) :
    ∃ N0 N1 : Nat, ob_F bf n bg (2 ^ n) (2 ^ n - 1) = lN N0 ∧ ob_F bf' (n + 1) bg' (2 ^ (n + 1)) (2 ^ (n + 1) - 1) = lN N1 ∧ N0 ≤ N1 ∧ N1 ≤ N0 * (n + 1) ∧ N0 ≤ 479001600 ∧ N1 ≤ 479001600 := by
  have hse : ∀ i j, i < n → j < n → ob_se M cl rd i j = ob_se M cl' rd' i j := fun i j hi hj => by
    unfold ob_se
    rw [hc i hi, hc j hj, hd i hi, hd j hj]
  have hb0 : ∀ k, k < n → ∀ i, i < 32 → ob_bx (bf k) i = true → i < n ∧ i ≠ k := fun k hk i hi h => by
    rw [hbf k hk, ob_bx_bs _ hi (by omega)] at h
    obtain ⟨h1, h2⟩ := ob_and2 h
    have h1 := of_decide_eq_true h1
    refine ⟨h1, fun z => ?_⟩
    subst z
    rw [hse i i h1 h1, ob_se_irr hM hkc] at h2
    cases h2
  have hb1 : ∀ k, k < n + 1 → ∀ i, i < 32 → ob_bx (bf' k) i = true → i < n + 1 ∧ i ≠ k := fun k hk i hi h => by
    rw [hbf' k hk, ob_bx_bs _ hi (by omega)] at h
    obtain ⟨h1, h2⟩ := ob_and2 h
    refine ⟨of_decide_eq_true h1, fun z => ?_⟩
    subst z
    rw [ob_se_irr hM hkc] at h2
    cases h2
  obtain ⟨B, hB⟩ : ∃ B : Nat → Nat → Bool, ∀ k i, B k i = ob_se M cl' rd' i k := ⟨fun k i => ob_se M cl' rd' i k, fun _ _ => rfl⟩
  obtain ⟨S, hS⟩ : ∃ S : Nat → Bool, ∀ j, S j = decide (j < n) := ⟨fun j => decide (j < n), fun _ => rfl⟩
  have e0 : ob_cN (fun k i => ob_bx (bf k) i) n n (fun j => decide (j < n)) = ob_cN B n n S := ob_cN_cg (fun i j hi hj => by
    rw [hbf i hi, ob_bx_bs _ (by omega) (by omega), decide_eq_true hj, Bool.true_and, hse j i hj hi, hB]) n (fun j _ => (hS j).symm)
  have e1 : ob_cN (fun k i => ob_bx (bf' k) i) (n + 1) (n + 1) (fun j => decide (j < n + 1)) = ob_cN B (n + 1) (n + 1) (ob_ad1 S n) := ob_cN_cg (fun i j hi hj => by
    rw [hbf' i hi, ob_bx_bs _ (by omega) (by omega), decide_eq_true hj, Bool.true_and, hB]) (n + 1) (fun j hj => by
      unfold ob_ad1
      rw [hS, ← Bool.decide_or]
      exact decide_eq_decide.mpr ⟨fun _ => by omega, fun _ => by omega⟩)
  have hS1 : ∀ j, n ≤ j → S j = false := fun j hj => by rw [hS, decide_eq_false (by omega)]
  have hct : ob_ct S n = n := by
    rw [ob_ct_cg (q := fun _ => true) (fun k hk => by rw [hS, decide_eq_true hk]), ob_ct_t]
  have h3 : ob_ct (ob_ad1 S n) (n + 1) = n + 1 := by
    rw [ob_ct_cg (q := fun _ => true) (fun k hk => by
      unfold ob_ad1
      rw [hS, ← Bool.decide_or]
      exact decide_eq_true (by omega)), ob_ct_t]
  have L := ob_cL (b := B) (b' := B) (n := n) (fun _ _ _ _ => rfl) (fun i => by rw [hB, ob_se_irr hM hkc]) (fun i j k h1 h2 => by
    rw [hB] at h1 h2 ⊢
    exact ob_se_tr hM hkc hr h2 h1) n hS1 hct (fun j hj _ => by rw [hS, decide_eq_true hj])
  have U := ob_cU2 (b := B) (b' := B) (n := n) (fun _ _ _ _ => rfl) n hS1 hct
  have f0 := ob_cN_fa (b := B) n hct
  have f1 := ob_cN_fa (b := B) (n + 1) h3
  have g0 := ob_fa_mo (show n ≤ 12 by omega)
  have g1 := ob_fa_mo (show n + 1 ≤ 12 by omega)
  rw [ob_fa12] at g0 g1
  rw [Nat.mul_comm] at U
  exact ⟨ob_cN B n n S, ob_cN B (n + 1) (n + 1) (ob_ad1 S n), (ob_ord_c (by omega) hb0).trans (congrArg lN e0), (ob_ord_c (by omega) hb1).trans (congrArg lN e1), L, U, Nat.le_trans f0 g0, Nat.le_trans f1 g1⟩
