-- ===== impact and minutes, minute by minute
def ob_su (f : Nat → Nat) : Nat → Nat
  | 0 => 0
  | k + 1 => ob_su f k + f k
theorem ob_su_cg {f g : Nat → Nat} : ∀ {n : Nat}, (∀ k, k < n → f k = g k) → ob_su f n = ob_su g n
  | 0, _ => rfl
  | n + 1, h => by rw [ob_su, ob_su, ob_su_cg (fun k hk => h k (by omega)), h n (by omega)]
theorem ob_su_mo {f g : Nat → Nat} : ∀ {n : Nat}, (∀ k, k < n → f k ≤ g k) → ob_su f n ≤ ob_su g n
  | 0, _ => Nat.le_refl _
  | n + 1, h => by
    have h1 := ob_su_mo (n := n) (f := f) (g := g) (fun k hk => h k (by omega))
    have h2 := h n (by omega)
    rw [ob_su, ob_su]
    omega
theorem ob_su_ad (f g : Nat → Nat) : ∀ n, ob_su (fun k => f k + g k) n = ob_su f n + ob_su g n
  | 0 => rfl
  | n + 1 => by
    rw [ob_su, ob_su, ob_su, ob_su_ad f g n]
    omega
theorem ob_su_co {f : Nat → Nat} {a w : Nat} : ∀ {m : Nat}, (∀ k, a ≤ k → k < a + m → f k = w) → ob_su f (a + m) = ob_su f a + m * w
  | 0, _ => by rw [Nat.add_zero, Nat.zero_mul, Nat.add_zero]
  | m + 1, h => by
    have h1 := ob_su_co (m := m) (f := f) (a := a) (w := w) (fun k h1 h2 => h k h1 (by omega))
    show ob_su f (a + m) + f (a + m) = _
    rw [h1, h (a + m) (by omega) (by omega), Nat.succ_mul, Nat.add_assoc]
/-- a stretch from a to b of height P -/
def ob_bx1 (a b P k : Nat) : Nat := if a ≤ k ∧ k ≤ b then P else 0
theorem ob_su_b1 {a b P : Nat} (hab : a ≤ b) {n : Nat} (hn : b < n) : ob_su (ob_bx1 a b P) n = P * (b - a + 1) := by
  have h1 : ob_su (ob_bx1 a b P) (0 + a) = ob_su (ob_bx1 a b P) 0 + a * 0 := ob_su_co (fun k _ h2 => if_neg (by omega))
  have h2 : ob_su (ob_bx1 a b P) (a + (b - a + 1)) = ob_su (ob_bx1 a b P) a + (b - a + 1) * P := ob_su_co (fun k h1 h2 => if_pos (by omega))
  have h3 : ob_su (ob_bx1 a b P) ((b + 1) + (n - (b + 1))) = ob_su (ob_bx1 a b P) (b + 1) + (n - (b + 1)) * 0 := ob_su_co (fun k h1 h2 => if_neg (by omega))
  rw [show (b + 1) + (n - (b + 1)) = n by omega] at h3
  rw [show a + (b - a + 1) = b + 1 by omega] at h2
  rw [Nat.zero_add] at h1
  have h0 : ob_su (ob_bx1 a b P) 0 = 0 := rfl
  rw [h3, h2, h1, h0, Nat.mul_comm P]
  omega
def ob_mp9 (mn : Nat) (mp : Nat → Int32) : Prop := ∀ j, j < mn → ∃ p : Nat, p ≤ 100 ∧ mp j = nI p
section
variable {mn : Nat} {ms mf mt mp : Nat → Int32}
theorem ob_ws_n (hp : ob_mp9 mn mp) (p q : Int32) : ∀ k, k ≤ mn → ∃ v : Nat, v ≤ 100 ∧ ob_wst ms mf mt mp p q k = nI v
  | 0, _ => ⟨0, by omega, rfl⟩
  | k + 1, hk => by
    obtain ⟨v, hv, e⟩ := ob_ws_n hp p q k (by omega)
    obtain ⟨u, hu, e2⟩ := hp k (by omega)
    rw [ob_wst, e, e2]
    split
    · split
      · exact ⟨u, hu, rfl⟩
      · exact ⟨v, hv, rfl⟩
    · exact ⟨v, hv, rfl⟩
/-- the greatest percentage for a minute -/
def ob_Wq (ms mf mt mp : Nat → Int32) (mn : Nat) (p : Int32) (q : Nat) : Nat := (ob_wst ms mf mt mp p (nI q) mn).toNatClampNeg
theorem ob_Wq_e (hp : ob_mp9 mn mp) (p : Int32) (q : Nat) : ob_wst ms mf mt mp p (nI q) mn = nI (ob_Wq ms mf mt mp mn p q) ∧ ob_Wq ms mf mt mp mn p q ≤ 100 := by
  obtain ⟨v, hv, e⟩ := ob_ws_n (ms := ms) (mf := mf) (mt := mt) hp p (nI q) mn (Nat.le_refl _)
  have e2 : ob_Wq ms mf mt mp mn p q = v := by
    unfold ob_Wq
    rw [e, ob_cl (by omega)]
  rw [e2]
  exact ⟨e, hv⟩
/-- nothing begins or is over before the next change -/
theorem ob_nx_m (h : ob_mm mn mf mt) {q : Nat} (hq : q ≤ 10001) : ∀ k, k ≤ mn → ∃ v : Nat, v ≤ 10001 ∧ ob_nx mf mt (nI q) k = nI v ∧ ∀ j, j < k → ∀ f t : Nat, f ≤ t → t ≤ 10000 → mf j = nI f → mt j = nI t → (q < f → v ≤ f) ∧ (q ≤ t → v ≤ t + 1 ∨ q < f)
  | 0, _ => ⟨10001, by omega, rfl, fun j hj => absurd hj (Nat.not_lt_zero _)⟩
  | k + 1, hk => by
    obtain ⟨v, hv, e, ih⟩ := ob_nx_m h hq k (by omega)
    obtain ⟨f, t, hft, ht, ef, et⟩ := h k (by omega)
    have inj : ∀ {a b : Nat}, a ≤ 20000 → b ≤ 20000 → nI a = nI b → a = b := fun {a b} ha hb z => (nI_eq (ob_nlt (by omega)) (ob_nlt (by omega))).mp z
    have fin : ∀ v', v' ≤ v → (q < f → v' ≤ f) → (q ≤ t → v' ≤ t + 1 ∨ q < f) → ∀ j, j < k + 1 → ∀ f' t' : Nat, f' ≤ t' → t' ≤ 10000 → mf j = nI f' → mt j = nI t' → (q < f' → v' ≤ f') ∧ (q ≤ t' → v' ≤ t' + 1 ∨ q < f') := fun v' hv' a b j hj f' t' h1 h2 h3 h4 => by
      rcases Nat.lt_or_ge j k with c | c
      · obtain ⟨i1, i2⟩ := ih j c f' t' h1 h2 h3 h4
        exact ⟨fun z => by have := i1 z; omega, fun z => by rcases i2 z with y | y; exact Or.inl (by omega); exact Or.inr y⟩
      · have ej : j = k := by omega
        subst ej
        have e1 := inj (by omega) (by omega) (h3.symm.trans ef)
        have e2 := inj (by omega) (by omega) (h4.symm.trans et)
        subst e1
        subst e2
        exact ⟨a, b⟩
    rw [ob_nx, e, ef, et, nI_add]
    by_cases c1 : nI f ≤ nI q
    · have d1 := (ob_leN (by omega) (by omega)).mp c1
      rw [if_pos c1]
      by_cases c2 : nI (t + 1) ≤ nI q
      · have d2 := (ob_leN (by omega) (by omega)).mp c2
        rw [if_pos c2]
        exact ⟨v, hv, rfl, fin v (Nat.le_refl _) (fun z => by omega) (fun z => by omega)⟩
      · have d2 : ¬ t + 1 ≤ q := fun z => c2 ((ob_leN (by omega) (by omega)).mpr z)
        rw [if_neg c2]
        by_cases c3 : nI (t + 1) < nI v
        · have d3 := (ob_ltN (by omega) (by omega)).mp c3
          rw [if_pos c3]
          exact ⟨t + 1, by omega, rfl, fin (t + 1) (by omega) (fun z => by omega) (fun z => Or.inl (Nat.le_refl _))⟩
        · have d3 : ¬ t + 1 < v := fun z => c3 ((ob_ltN (by omega) (by omega)).mpr z)
          rw [if_neg c3]
          exact ⟨v, hv, rfl, fin v (Nat.le_refl _) (fun z => by omega) (fun z => Or.inl (by omega))⟩
    · have d1 : ¬ f ≤ q := fun z => c1 ((ob_leN (by omega) (by omega)).mpr z)
      rw [if_neg c1]
      by_cases c3 : nI f < nI v
      · have d3 := (ob_ltN (by omega) (by omega)).mp c3
        rw [if_pos c3]
        exact ⟨f, by omega, rfl, fin f (by omega) (fun z => Nat.le_refl _) (fun z => Or.inr (by omega))⟩
      · have d3 : ¬ f < v := fun z => c3 ((ob_ltN (by omega) (by omega)).mpr z)
        rw [if_neg c3]
        exact ⟨v, hv, rfl, fin v (Nat.le_refl _) (fun z => by omega) (fun z => Or.inr (by omega))⟩
theorem ob_wiN {q f t : Nat} (hq : q ≤ 20000) (hf : f ≤ 20000) (ht : t ≤ 20000) : ob_wi (nI q) (nI f) (nI t) = (decide (f ≤ q) && decide (q ≤ t)) := by
  unfold ob_wi
  have h1 := ob_leN (a := f) (b := q) (by omega) (by omega)
  have h2 := ob_leN (a := q) (b := t) (by omega) (by omega)
  rw [decide_eq_decide.mpr h1, decide_eq_decide.mpr h2]
/-- between two changes all minutes are alike -/
theorem ob_Wq_c (h : ob_mm mn mf mt) (p : Int32) {q v q' : Nat} (hq : q ≤ 10001) (hv : ob_nx mf mt (nI q) mn = nI v) (hv2 : v ≤ 10001) (h1 : q ≤ q') (h2 : q' < v) : ob_Wq ms mf mt mp mn p q' = ob_Wq ms mf mt mp mn p q := by
  obtain ⟨v', hv', e, hm⟩ := ob_nx_m h hq mn (Nat.le_refl _)
  have ev : v' = v := (nI_eq (ob_nlt (by omega)) (ob_nlt (by omega))).mp (e.symm.trans hv)
  subst ev
  have key : ∀ k, k ≤ mn → ob_wst ms mf mt mp p (nI q') k = ob_wst ms mf mt mp p (nI q) k := by
    intro k
    induction k with
    | zero => exact fun _ => rfl
    | succ k ih =>
      intro hk
      obtain ⟨f, t, hft, ht, ef, et⟩ := h k (by omega)
      obtain ⟨i1, i2⟩ := hm k (by omega) f t hft ht ef et
      have ew : ob_wi (nI q') (mf k) (mt k) = ob_wi (nI q) (mf k) (mt k) := by
        rw [ef, et, ob_wiN (by omega) (by omega) (by omega), ob_wiN (by omega) (by omega) (by omega)]
        have a : f ≤ q' ↔ f ≤ q := ⟨fun z => by
          rcases Nat.lt_or_ge q f with y | y
          · have := i1 y; omega
          · exact y, fun z => by omega⟩
        rw [decide_eq_decide.mpr a]
        by_cases c : f ≤ q
        · have b : q' ≤ t ↔ q ≤ t := ⟨fun z => by omega, fun z => by rcases i2 z with y | y <;> omega⟩
          rw [decide_eq_decide.mpr b]
        · rw [decide_eq_false c]; rfl
      rw [ob_wst, ob_wst, ih (by omega), ew]
  unfold ob_Wq
  rw [key mn (Nat.le_refl _)]
theorem ob_tm_v (h : ob_mm mn mf mt) (k : Nat) : ob_tm mf mt mn k ≤ 10001 ∧ ob_tm mf mt mn (k + 1) ≤ 10001 ∧ ob_tm mf mt mn k ≤ ob_tm mf mt mn (k + 1) ∧ ob_nx mf mt (nI (ob_tm mf mt mn k)) mn = nI (ob_tm mf mt mn (k + 1)) := by
  obtain ⟨a1, a2, -⟩ := ob_tm_s h k
  obtain ⟨b1, -, -⟩ := ob_tm_s h (k + 1)
  obtain ⟨v, e1, -, e3, e4, e5, -⟩ := ob_nxs h a1 (Nat.le_refl mn)
  have ev : v = ob_tm mf mt mn (k + 1) := (nI_eq (ob_nlt (by omega)) (ob_nlt (by omega))).mp (e1.symm.trans a2)
  refine ⟨a1, b1, ?_, a2⟩
  rw [← ev]
  rcases Nat.lt_or_ge (ob_tm mf mt mn k) 10001 with c | c
  · have := e4 (by omega)
    omega
  · have := e5 (by omega)
    omega
/-- impact: the sum over all minutes -/
theorem ob_sw_su (h : ob_mm mn mf mt) (hp : ob_mp9 mn mp) (p : Int32) : ∀ k, ob_sw ms mf mt mp mn p k = (nI (ob_su (ob_Wq ms mf mt mp mn p) (ob_tm mf mt mn k)), nI (ob_tm mf mt mn k))
  | 0 => rfl
  | k + 1 => by
    obtain ⟨a1, a2, a3, a4⟩ := ob_tm_v h k
    rw [ob_sw, ob_sw_su h hp p k]
    simp only []
    rw [a4, (ob_Wq_e hp p (ob_tm mf mt mn k)).1, pk_sub a3, pk_mul, nI_add]
    have e := ob_su_co (f := ob_Wq ms mf mt mp mn p) (a := ob_tm mf mt mn k) (w := ob_Wq ms mf mt mp mn p (ob_tm mf mt mn k)) (m := ob_tm mf mt mn (k + 1) - ob_tm mf mt mn k) (fun q h1 h2 => ob_Wq_c h p a1 a4 a2 h1 (by omega))
    rw [show ob_tm mf mt mn k + (ob_tm mf mt mn (k + 1) - ob_tm mf mt mn k) = ob_tm mf mt mn (k + 1) by omega] at e
    rw [e]
def ob_one (w : Nat) : Nat := if 0 < w then 1 else 0
/-- minutes: the number of those with some percentage -/
theorem ob_fm_su (h : ob_mm mn mf mt) (hp : ob_mp9 mn mp) : ∀ k, ob_fm ms mf mt mp mn k = (nI (ob_su (fun q => ob_one (ob_Wq ms mf mt mp mn (-1) q)) (ob_tm mf mt mn k)), nI (ob_tm mf mt mn k))
  | 0 => rfl
  | k + 1 => by
    obtain ⟨a1, a2, a3, a4⟩ := ob_tm_v h k
    obtain ⟨w1, w2⟩ := ob_Wq_e (ms := ms) (mf := mf) (mt := mt) hp (-1) (ob_tm mf mt mn k)
    have e := ob_su_co (f := fun q => ob_one (ob_Wq ms mf mt mp mn (-1) q)) (a := ob_tm mf mt mn k) (w := ob_one (ob_Wq ms mf mt mp mn (-1) (ob_tm mf mt mn k))) (m := ob_tm mf mt mn (k + 1) - ob_tm mf mt mn k) (fun q h1 h2 => congrArg ob_one (ob_Wq_c h (-1) a1 a4 a2 h1 (by omega)))
    rw [show ob_tm mf mt mn k + (ob_tm mf mt mn (k + 1) - ob_tm mf mt mn k) = ob_tm mf mt mn (k + 1) by omega] at e
    rw [ob_fm, ob_fm_su h hp k]
    simp only []
    rw [a4, w1, e]
    by_cases c : ob_Wq ms mf mt mp mn (-1) (ob_tm mf mt mn k) = 0
    · rw [c, if_pos (show nI 0 ≤ 0 by decide)]
      simp only [show ob_one 0 = 0 from rfl, Nat.mul_zero, Nat.add_zero]
    · rw [if_neg (nI_nle (by omega) (by omega)), pk_sub a3, nI_add]
      rw [show ob_one (ob_Wq ms mf mt mp mn (-1) (ob_tm mf mt mn k)) = 1 from if_pos (by omega), Nat.mul_one]
def ob_Im (ms mf mt mp : Nat → Int32) (mn : Nat) (p : Int32) : Nat := ob_su (ob_Wq ms mf mt mp mn p) 10001
def ob_Mi (ms mf mt mp : Nat → Int32) (mn : Nat) : Nat := ob_su (fun q => ob_one (ob_Wq ms mf mt mp mn (-1) q)) 10001
theorem ob_sw_I (h : ob_mm mn mf mt) (hp : ob_mp9 mn mp) (p : Int32) : (ob_sw ms mf mt mp mn p (2 * mn + 1)).1 = nI (ob_Im ms mf mt mp mn p) := by
  rw [ob_sw_su h hp, ob_tm_end h]
  rfl
theorem ob_fm_I (h : ob_mm mn mf mt) (hp : ob_mp9 mn mp) : (ob_fm ms mf mt mp mn (2 * mn + 1)).1 = nI (ob_Mi ms mf mt mp mn) := by
  rw [ob_fm_su h hp, ob_tm_end h]
  rfl
theorem ob_Im_b (hp : ob_mp9 mn mp) (p : Int32) : ob_Im ms mf mt mp mn p ≤ 1000100 := by
  have h1 := ob_su_mo (n := 10001) (f := ob_Wq ms mf mt mp mn p) (g := fun _ => 100) (fun k _ => (ob_Wq_e hp p k).2)
  have h2 : ob_su (fun _ => 100) (0 + 10001) = ob_su (fun _ => 100) 0 + 10001 * 100 := ob_su_co (fun _ _ _ => rfl)
  have h3 : ob_su (fun _ => 100) 0 = 0 := rfl
  rw [Nat.zero_add, h3] at h2
  unfold ob_Im
  omega
theorem ob_one1 (w : Nat) : ob_one w ≤ 1 := by
  unfold ob_one
  split <;> omega
theorem ob_Mi_b : ob_Mi ms mf mt mp mn ≤ 10001 := by
  have h1 := ob_su_mo (n := 10001) (f := fun q => ob_one (ob_Wq ms mf mt mp mn (-1) q)) (g := fun _ => 1) (fun k _ => ob_one1 _)
  have h2 : ob_su (fun _ => 1) (0 + 10001) = ob_su (fun _ => 1) 0 + 10001 * 1 := ob_su_co (fun _ _ _ => rfl)
  have h3 : ob_su (fun _ => 1) 0 = 0 := rfl
  rw [Nat.zero_add, h3] at h2
  unfold ob_Mi
  omega
/-- one measure more -/
theorem ob_Wq_n (hp : ob_mp9 mn mp) {s a b P q : Nat} (p : Int32) (hq : q ≤ 10001) (ha : a ≤ 10000) (hb : b ≤ 10000) (hP : P ≤ 100) :
    ob_Wq (upd ms mn (nI s)) (upd mf mn (nI a)) (upd mt mn (nI b)) (upd mp mn (nI P)) (mn + 1) p q = if (decide (p = -1) || decide (nI s = p)) = true ∧ a ≤ q ∧ q ≤ b ∧ ob_Wq ms mf mt mp mn p q < P then P else ob_Wq ms mf mt mp mn p q := by
  have cg : ∀ k, k ≤ mn → ob_wst (upd ms mn (nI s)) (upd mf mn (nI a)) (upd mt mn (nI b)) (upd mp mn (nI P)) p (nI q) k = ob_wst ms mf mt mp p (nI q) k := by
    intro k
    induction k with
    | zero => exact fun _ => rfl
    | succ k ih =>
      intro hk
      have n1 : k ≠ mn := by omega
      rw [ob_wst, ob_wst, ih (by omega)]
      unfold ob_wm
      rw [pk_un n1, pk_un n1, pk_un n1, pk_un n1]
  obtain ⟨w1, w2⟩ := ob_Wq_e (ms := ms) (mf := mf) (mt := mt) hp p q
  show (ob_wst (upd ms mn (nI s)) (upd mf mn (nI a)) (upd mt mn (nI b)) (upd mp mn (nI P)) p (nI q) (mn + 1)).toNatClampNeg = _
  rw [ob_wst, cg mn (Nat.le_refl _), w1]
  unfold ob_wm
  rw [pk_us, pk_us, pk_us, pk_us, ob_wiN (by omega) (by omega) (by omega)]
  by_cases c1 : (decide (p = -1) || decide (nI s = p)) = true
  · rw [c1, Bool.true_and]
    by_cases c2 : a ≤ q ∧ q ≤ b
    · rw [decide_eq_true c2.1, decide_eq_true c2.2]
      by_cases c3 : ob_Wq ms mf mt mp mn p q < P
      · rw [if_pos (show (true && true) = true from rfl), if_pos ((ob_ltN (by omega) (by omega)).mpr c3), if_pos ⟨rfl, c2.1, c2.2, c3⟩, ob_cl (by omega)]
      · rw [if_pos (show (true && true) = true from rfl), if_neg (fun z => c3 ((ob_ltN (by omega) (by omega)).mp z)), if_neg (fun z => c3 z.2.2.2), ob_cl (by omega)]
    · have c4 : ¬ (decide (a ≤ q) && decide (q ≤ b)) = true := fun z => c2 ⟨of_decide_eq_true (ob_and2 z).1, of_decide_eq_true (ob_and2 z).2⟩
      rw [if_neg c4, if_neg (fun z => c2 ⟨z.2.1, z.2.2.1⟩), ob_cl (by omega)]
  · have c4 : (decide (p = -1) || decide (nI s = p)) = false := by simpa using c1
    rw [c4, Bool.false_and, if_neg (by decide), if_neg (fun z => by cases z.1), ob_cl (by omega)]
/-- impact and minutes grow by no more than a measure tells -/
theorem ob_meas (hp : ob_mp9 mn mp) {s s2 a b P : Nat} (hs : s ≤ 5) (hs2 : s2 ≤ 5) (hne : s ≠ s2) (hab : a ≤ b) (hb : b ≤ 10000) (hP : P ≤ 100) {ms' mf' mt' mp' : Nat → Int32} (e1 : ms' = upd ms mn (nI s)) (e2 : mf' = upd mf mn (nI a)) (e3 : mt' = upd mt mn (nI b)) (e4 : mp' = upd mp mn (nI P)) :
    (ob_Im ms mf mt mp mn (nI s) ≤ ob_Im ms' mf' mt' mp' (mn + 1) (nI s) ∧ ob_Im ms' mf' mt' mp' (mn + 1) (nI s) ≤ ob_Im ms mf mt mp mn (nI s) + P * (b - a + 1) ∧ P * (b - a + 1) ≤ ob_Im ms' mf' mt' mp' (mn + 1) (nI s)) ∧
    ob_Im ms' mf' mt' mp' (mn + 1) (nI s2) = ob_Im ms mf mt mp mn (nI s2) ∧
    (ob_Mi ms mf mt mp mn ≤ ob_Mi ms' mf' mt' mp' (mn + 1) ∧ ob_Mi ms' mf' mt' mp' (mn + 1) ≤ ob_Mi ms mf mt mp mn + (if 0 < P then b - a + 1 else 0) ∧ (if 0 < P then b - a + 1 else 0) ≤ ob_Mi ms' mf' mt' mp' (mn + 1)) := by
  subst e1; subst e2; subst e3; subst e4
  have hW : ∀ p q, q < 10001 → ob_Wq (upd ms mn (nI s)) (upd mf mn (nI a)) (upd mt mn (nI b)) (upd mp mn (nI P)) (mn + 1) p q = if (decide (p = -1) || decide (nI s = p)) = true ∧ a ≤ q ∧ q ≤ b ∧ ob_Wq ms mf mt mp mn p q < P then P else ob_Wq ms mf mt mp mn p q := fun p q hq => ob_Wq_n hp p (by omega) (by omega) hb hP
  have hB := ob_su_b1 (P := P) hab (n := 10001) (by omega)
  have hB1 := ob_su_b1 (P := 1) hab (n := 10001) (by omega)
  refine ⟨⟨?_, ?_, ?_⟩, ?_, ?_⟩
  · refine ob_su_mo (fun q hq => ?_)
    rw [hW _ q hq]
    split <;> omega
  · unfold ob_Im
    rw [← hB, ← ob_su_ad]
    refine ob_su_mo (fun q hq => ?_)
    rw [hW _ q hq]
    unfold ob_bx1
    split
    · rename_i z
      rw [if_pos ⟨z.2.1, z.2.2.1⟩]
      omega
    · omega
  · unfold ob_Im
    rw [← hB]
    refine ob_su_mo (fun q hq => ?_)
    rw [hW _ q hq]
    have c : (decide (nI s = -1) || decide (nI s = nI s)) = true := by rw [decide_eq_true (rfl : nI s = nI s), Bool.or_true]
    rw [c]
    unfold ob_bx1
    by_cases z : a ≤ q ∧ q ≤ b
    · rw [if_pos z]
      split
      · omega
      · rename_i y
        have : ¬ ob_Wq ms mf mt mp mn (nI s) q < P := fun x => y ⟨rfl, z.1, z.2, x⟩
        omega
    · rw [if_neg z]
      omega
  · refine ob_su_cg (fun q hq => ?_)
    rw [hW _ q hq, if_neg]
    rintro ⟨z, -⟩
    have n1 : ¬ nI s2 = -1 := ob_nIm1 (by omega)
    have n2 : ¬ nI s = nI s2 := fun x => hne ((nI_eq (ob_nlt (by omega)) (ob_nlt (by omega))).mp x)
    rw [decide_eq_false n1, decide_eq_false n2] at z
    cases z
  · have c : (decide ((-1 : Int32) = -1) || decide (nI s = -1)) = true := by rw [decide_eq_true (rfl : (-1 : Int32) = -1), Bool.true_or]
    by_cases hP0 : 0 < P
    · simp only [hP0, if_true]
      have g1 : ∀ q, q < 10001 → ob_one (ob_Wq ms mf mt mp mn (-1) q) ≤ ob_one (ob_Wq (upd ms mn (nI s)) (upd mf mn (nI a)) (upd mt mn (nI b)) (upd mp mn (nI P)) (mn + 1) (-1) q) := fun q hq => by
        rw [hW _ q hq]
        split
        · rw [show ob_one P = 1 from if_pos hP0]; exact ob_one1 _
        · exact Nat.le_refl _
      have g2 : ∀ q, q < 10001 → ob_one (ob_Wq (upd ms mn (nI s)) (upd mf mn (nI a)) (upd mt mn (nI b)) (upd mp mn (nI P)) (mn + 1) (-1) q) ≤ ob_one (ob_Wq ms mf mt mp mn (-1) q) + ob_bx1 a b 1 q := fun q hq => by
        rw [hW _ q hq]
        unfold ob_bx1
        split
        · rename_i z
          rw [if_pos ⟨z.2.1, z.2.2.1⟩]
          have := ob_one1 P
          omega
        · omega
      have g3 : ∀ q, q < 10001 → ob_bx1 a b 1 q ≤ ob_one (ob_Wq (upd ms mn (nI s)) (upd mf mn (nI a)) (upd mt mn (nI b)) (upd mp mn (nI P)) (mn + 1) (-1) q) := fun q hq => by
        rw [hW _ q hq, c]
        unfold ob_bx1
        by_cases z : a ≤ q ∧ q ≤ b
        · rw [if_pos z]
          split
          · rw [show ob_one P = 1 from if_pos hP0]; exact Nat.le_refl _
          · rename_i y
            have y2 : ¬ ob_Wq ms mf mt mp mn (-1) q < P := fun x => y ⟨rfl, z.1, z.2, x⟩
            rw [show ob_one (ob_Wq ms mf mt mp mn (-1) q) = 1 from if_pos (by omega)]
            exact Nat.le_refl _
        · rw [if_neg z]
          omega
      have s1 := ob_su_mo g1
      have s2 := ob_su_mo g2
      have s3 := ob_su_mo g3
      rw [ob_su_ad] at s2
      rw [hB1] at s2 s3
      unfold ob_Mi
      omega
    · have eP : P = 0 := by omega
      subst eP
      have g : ob_Mi (upd ms mn (nI s)) (upd mf mn (nI a)) (upd mt mn (nI b)) (upd mp mn (nI 0)) (mn + 1) = ob_Mi ms mf mt mp mn := ob_su_cg (fun q hq => by
        rw [hW _ q hq, if_neg (fun z => by omega)])
      rw [g]
      simp
end
