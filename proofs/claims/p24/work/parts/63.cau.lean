-- ===== causes
/-- what grows within N things comes to rest within N rounds -/
theorem ob_fix {N : Nat} {f : Int32 → Int32} {S : Nat → Int32} (hN : N ≤ 31) (hS : ∀ k, S (k + 1) = f (S k)) (hsub : ∀ k i, i < 32 → ob_bx (S k) i = true → ob_bx (S (k + 1)) i = true) (hb : ∀ k i, i < 32 → ob_bx (S k) i = true → i < N) (h0 : ∃ i, i < N ∧ ob_bx (S 0) i = true) : f (S N) = S N := by
  have key : ∀ k, k + 1 ≤ ob_ct (fun i => ob_bx (S k) i) N ∨ f (S k) = S k := by
    intro k
    induction k with
    | zero =>
      left
      obtain ⟨i, hi, hx⟩ := h0
      have := ob_ct_lt (n := N) (p := fun _ => false) (q := fun i => ob_bx (S 0) i) (fun k _ h => by cases h) hi rfl hx
      omega
    | succ k ih =>
      have fixd : f (S k) = S k → f (S (k + 1)) = S (k + 1) := fun e => by rw [hS k, e, e]
      rcases ih with ih | e
      · by_cases e : f (S k) = S k
        · exact Or.inr (fixd e)
        · left
          have ex : ∃ i, i < 32 ∧ ob_bx (S k) i = false ∧ ob_bx (S (k + 1)) i = true := by
            by_cases q : ∃ i, i < 32 ∧ ob_bx (S k) i = false ∧ ob_bx (S (k + 1)) i = true
            · exact q
            · refine absurd ?_ e
              rw [← hS k]
              refine ob_bx_ext (fun i hi => ?_)
              cases h1 : ob_bx (S k) i with
              | true => exact hsub k i hi h1
              | false =>
                cases h2 : ob_bx (S (k + 1)) i with
                | false => rfl
                | true => exact absurd ⟨i, hi, h1, h2⟩ q
          obtain ⟨i, hi, h1, h2⟩ := ex
          have := ob_ct_lt (n := N) (p := fun i => ob_bx (S k) i) (q := fun i => ob_bx (S (k + 1)) i) (fun j hj h => hsub k j (by omega) h) (hb (k + 1) i hi h2) h1 h2
          omega
      · exact Or.inr (fixd e)
  rcases key N with h | h
  · have := ob_ct_le (fun i => ob_bx (S N) i) N
    omega
  · exact h
theorem ob_bx_rs {Wt : Nat → Nat → Int32} {cn : Nat} {x : Int32} {l : Nat} (hl : l < 32) : ∀ {k : Nat}, k ≤ 32 → ob_bx (ob_rs Wt cn x k) l = (decide (l < k) && !decide (ob_wt Wt cn x (nI l) ≤ 0))
  | 0, _ => by rw [ob_rs, ob_n0, ob_bx_0]; simp
  | k + 1, hk => by
    have e : decide (l < k + 1) = (decide (l < k) || decide (l = k)) := by rw [← Bool.decide_or]; exact decide_eq_decide.mpr ⟨fun h => by omega, fun h => by omega⟩
    rw [ob_rs, e]
    have ih := ob_bx_rs (Wt := Wt) (cn := cn) (x := x) hl (k := k) (by omega)
    by_cases c : ob_wt Wt cn x (nI k) ≤ 0
    · rw [if_pos c, ih]
      by_cases d : l = k
      · subst d; simp [c]
      · simp [d]
    · rw [if_neg c, ob_bx_or, ih, ob_bx_bit (by omega) hl]
      by_cases d : l = k
      · subst d; simp [c]
      · simp [d]
theorem ob_wt_nI {Wt : Nat → Nat → Int32} {cn i j : Nat} (hcn : cn ≤ 16) (hi : i < cn) (hj : j < cn) : ob_wt Wt cn (nI i) (nI j) = Wt i j := by
  unfold ob_wt
  rw [ob_hd_nI hi, ob_hd_nI hj, ob_cl (by omega), ob_cl (by omega)]
  rfl
theorem ob_npos {x : Int32} : (!decide (x ≤ 0)) = decide (0 < x) := by
  rw [← decide_not]
  exact decide_eq_decide.mpr Int32.not_le
/-- the links -/
def ob_ed (V : Nat → Int32) (al : Nat → Bool) (i j : Nat) : Bool := decide (0 < V (16 * i + j)) && al j
theorem ob_bx_rsq {Wt : Nat → Nat → Int32} {V : Nat → Int32} {al : Nat → Bool} {cn : Nat} {q : Int32} (hcn : cn ≤ 16) (hV : ∀ i j, i < 16 → j < 16 → Wt i j = V (16 * i + j)) (hq : ∀ l, l < cn → ob_bx q l = al l) {i l : Nat} (hi : i < cn) (hl : l < 32) : ob_bx (ob_rs Wt cn (nI i) cn &&& q) l = (decide (l < cn) && ob_ed V al i l) := by
  rw [ob_bx_and, ob_bx_rs hl (by omega)]
  by_cases c : l < cn
  · rw [ob_wt_nI hcn hi c, hV i l (by omega) (by omega), hq l c, ob_npos, decide_eq_true c, Bool.true_and, Bool.true_and]
    rfl
  · rw [decide_eq_false c]; simp
section
variable {Wt : Nat → Nat → Int32} {V sd : Nat → Int32} {al : Nat → Bool} {cn : Nat} {q : Int32}
theorem ob_rcI_sub {w : Int32} {i : Nat} : ∀ {j : Nat} (m : Nat), ob_bx (ob_rcI Wt cn q w j) i = true → ob_bx (ob_rcI Wt cn q w (j + m)) i = true
  | _, 0, h => h
  | j, m + 1, h => by
    have := ob_rcI_sub m h
    show ob_bx (ob_rcI Wt cn q w (j + m + 1)) i = true
    rw [ob_rcI]
    split
    · rw [ob_bx_or, this]; rfl
    · exact this
theorem ob_rcI_in (hcn : cn ≤ 16) (hV : ∀ i j, i < 16 → j < 16 → Wt i j = V (16 * i + j)) (hq : ∀ l, l < cn → ob_bx q l = al l) {C : Nat → Prop} (hC : ∀ i l, i < cn → l < cn → C i → ob_ed V al i l = true → C l) {w : Int32} (hw : ∀ i, i < 32 → ob_bx w i = true → C i) : ∀ j, j ≤ cn → ∀ i, i < 32 → ob_bx (ob_rcI Wt cn q w j) i = true → C i
  | 0, _ => hw
  | j + 1, hj => by
    have ih := ob_rcI_in hcn hV hq hC hw j (by omega)
    intro i hi h
    rw [ob_rcI] at h
    split at h
    · rename_i c
      rw [ob_bx_or, Bool.or_eq_true] at h
      rcases h with h | h
      · exact ih i hi h
      · rw [ob_bx_rsq hcn hV hq (show j < cn by omega) hi] at h
        obtain ⟨h1, h2⟩ := ob_and2 h
        rw [ob_hb_bx (by omega)] at c
        exact hC j i (by omega) (of_decide_eq_true h1) (ih j (by omega) c) h2
    · exact ih i hi h
theorem ob_rcO_in (hcn : cn ≤ 16) (hV : ∀ i j, i < 16 → j < 16 → Wt i j = V (16 * i + j)) (hq : ∀ l, l < cn → ob_bx q l = al l) {C : Nat → Prop} (hC : ∀ i l, i < cn → l < cn → C i → ob_ed V al i l = true → C l) {x : Nat} (hx : x < cn) (hCx : C x) : ∀ k, ∀ i, i < 32 → ob_bx (ob_rcO Wt cn q (nI x) k) i = true → C i
  | 0 => fun i hi h => by
    rw [show ob_rcO Wt cn q (nI x) 0 = ob_bit (nI x) from rfl, ob_bx_bit (by omega) hi] at h
    rw [of_decide_eq_true h]; exact hCx
  | k + 1 => ob_rcI_in hcn hV hq hC (ob_rcO_in hcn hV hq hC hx hCx k) cn (Nat.le_refl _)
theorem ob_rcO_cl (hcn : cn ≤ 16) (hV : ∀ i j, i < 16 → j < 16 → Wt i j = V (16 * i + j)) (hq : ∀ l, l < cn → ob_bx q l = al l) {x : Nat} (hx : x < cn) {i l : Nat} (hi : i < cn) (hl : l < cn) (h : ob_bx (ob_rcO Wt cn q (nI x) cn) i = true) (he : ob_ed V al i l = true) : ob_bx (ob_rcO Wt cn q (nI x) cn) l = true := by
  have fx := ob_fix (N := cn) (f := fun w => ob_rcI Wt cn q w cn) (S := fun k => ob_rcO Wt cn q (nI x) k) (by omega) (fun k => rfl) (fun k i hi h => by
      have := ob_rcI_sub (Wt := Wt) (cn := cn) (q := q) (j := 0) cn h
      rw [Nat.zero_add] at this
      exact this) (fun k i hi h => ob_rcO_in hcn hV hq (C := fun i => i < cn) (fun _ _ _ h _ _ => h) hx hx k i hi h) ⟨x, hx, by
      show ob_bx (ob_bit (nI x)) x = true
      rw [ob_bx_bit (by omega) (by omega)]; simp⟩
  have fx : ob_rcI Wt cn q (ob_rcO Wt cn q (nI x) cn) cn = ob_rcO Wt cn q (nI x) cn := fx
  obtain ⟨w, hw⟩ : ∃ w, w = ob_rcO Wt cn q (nI x) cn := ⟨_, rfl⟩
  rw [← hw] at fx h ⊢
  have h1 : ob_bx (ob_rcI Wt cn q w i) i = true := by
    have := ob_rcI_sub (Wt := Wt) (cn := cn) (q := q) (w := w) (i := i) (j := 0) i h
    rwa [Nat.zero_add] at this
  have h2 : ob_bx (ob_rcI Wt cn q w (i + 1)) l = true := by
    rw [ob_rcI, ob_hb_bx (by omega), h1, if_pos rfl, ob_bx_or, ob_bx_rsq hcn hV hq hi (by omega), decide_eq_true hl, he]
    simp
  have h3 := ob_rcI_sub (cn - (i + 1)) h2
  rw [show i + 1 + (cn - (i + 1)) = cn by omega, fx] at h3
  exact h3
def ob_r1 (V sd : Nat → Int32) (b : Bool) (w : Int32) : Nat → Int32
  | 0 => w
  | k + 1 => if ob_rq V sd b (ob_r1 V sd b w k) k then ob_r1 V sd b w k ||| ob_bit (nI (k % 16)) else ob_r1 V sd b w k
theorem ob_rr_r1 {b : Bool} {x : Int32} {k : Nat} : ∀ j, ob_rr V sd x b (256 * k + j) = ob_r1 V sd b (ob_rr V sd x b (256 * k)) j
  | 0 => rfl
  | j + 1 => by
    show ob_rr V sd x b (256 * k + j + 1) = _
    have e : ∀ w, ob_rq V sd b w (256 * k + j) = ob_rq V sd b w j := fun w => by
      unfold ob_rq
      rw [show (256 * k + j) / 16 % 16 = j / 16 % 16 by omega, show (256 * k + j) % 16 = j % 16 by omega]
    rw [ob_rr, ob_r1, ob_rr_r1 j, e, show (256 * k + j) % 16 = j % 16 by omega]
theorem ob_rq_ed {b : Bool} (hal : ∀ l, l < 16 → (!decide (sd l = 0) || !b) = al l) {w : Int32} {k : Nat} : ob_rq V sd b w k = (ob_bx w (k / 16 % 16) && ob_ed V al (k / 16 % 16) (k % 16)) := by
  unfold ob_rq ob_ed
  rw [ob_hb_bx (by omega), hal _ (by omega), Bool.and_assoc]
theorem ob_r1_sub {b : Bool} {w : Int32} {i : Nat} : ∀ {j : Nat} (m : Nat), ob_bx (ob_r1 V sd b w j) i = true → ob_bx (ob_r1 V sd b w (j + m)) i = true
  | _, 0, h => h
  | j, m + 1, h => by
    have := ob_r1_sub m h
    show ob_bx (ob_r1 V sd b w (j + m + 1)) i = true
    rw [ob_r1]
    split
    · rw [ob_bx_or, this]; rfl
    · exact this
theorem ob_rr_in {b : Bool} (hal : ∀ l, l < 16 → (!decide (sd l = 0) || !b) = al l) {C : Nat → Prop} (hC : ∀ i l, i < 16 → l < 16 → C i → ob_ed V al i l = true → C l) {x : Nat} (hx : x < 16) (hCx : C x) : ∀ k, ∀ i, i < 32 → ob_bx (ob_rr V sd (nI x) b k) i = true → C i
  | 0 => fun i hi h => by
    rw [ob_rr, ob_bx_bit (by omega) hi] at h
    rw [of_decide_eq_true h]; exact hCx
  | k + 1 => by
    have ih := ob_rr_in hal hC hx hCx k
    intro i hi h
    rw [ob_rr] at h
    split at h
    · rename_i c
      rw [ob_bx_or, Bool.or_eq_true] at h
      rcases h with h | h
      · exact ih i hi h
      · rw [ob_bx_bit (by omega) hi] at h
        have e := of_decide_eq_true h
        rw [ob_rq_ed hal] at c
        obtain ⟨c1, c2⟩ := ob_and2 c
        rw [e]
        exact hC _ _ (by omega) (by omega) (ih _ (by omega) c1) c2
    · exact ih i hi h
theorem ob_rr_cl {b : Bool} (hal : ∀ l, l < 16 → (!decide (sd l = 0) || !b) = al l) {x : Nat} (hx : x < 16) {i l : Nat} (hi : i < 16) (hl : l < 16) (h : ob_bx (ob_rr V sd (nI x) b 4096) i = true) (he : ob_ed V al i l = true) : ob_bx (ob_rr V sd (nI x) b 4096) l = true := by
  have fx := ob_fix (N := 16) (f := fun w => ob_r1 V sd b w 256) (S := fun k => ob_rr V sd (nI x) b (256 * k)) (by omega) (fun k => ob_rr_r1 (k := k) 256) (fun k i hi h => by
      show ob_bx (ob_rr V sd (nI x) b (256 * k + 256)) i = true
      rw [ob_rr_r1]
      have := ob_r1_sub (V := V) (sd := sd) (b := b) (j := 0) 256 h
      rw [Nat.zero_add] at this
      exact this) (fun k i hi h => ob_rr_in hal (C := fun i => i < 16) (fun _ _ _ h _ _ => h) hx hx (256 * k) i hi h) ⟨x, hx, by
      show ob_bx (ob_bit (nI x)) x = true
      rw [ob_bx_bit (by omega) (by omega)]; simp⟩
  have fx : ob_r1 V sd b (ob_rr V sd (nI x) b 4096) 256 = ob_rr V sd (nI x) b 4096 := fx
  obtain ⟨w, hw⟩ : ∃ w, w = ob_rr V sd (nI x) b 4096 := ⟨_, rfl⟩
  rw [← hw] at fx h ⊢
  have h1 : ob_bx (ob_r1 V sd b w (16 * i + l)) i = true := by
    have := ob_r1_sub (V := V) (sd := sd) (b := b) (w := w) (i := i) (j := 0) (16 * i + l) h
    rwa [Nat.zero_add] at this
  have h2 : ob_bx (ob_r1 V sd b w (16 * i + l + 1)) l = true := by
    rw [ob_r1, ob_rq_ed hal, show (16 * i + l) / 16 % 16 = i by omega, show (16 * i + l) % 16 = l by omega, h1, he, Bool.and_self, if_pos rfl, ob_bx_or, ob_bx_bit (by omega) (by omega)]
    simp
  have h3 := ob_r1_sub (256 - (16 * i + l + 1)) h2
  rw [show 16 * i + l + 1 + (256 - (16 * i + l + 1)) = 256 by omega, fx] at h3
  exact h3
theorem ob_preach {b : Bool} (hcn : cn ≤ 16) (hV : ∀ i j, i < 16 → j < 16 → Wt i j = V (16 * i + j)) (hz : ∀ i j, i < 16 → j < 16 → cn ≤ i ∨ cn ≤ j → V (16 * i + j) = 0) (hq : ∀ l, l < cn → ob_bx q l = (!decide (sd l = 0) || !b)) {x : Nat} (hx : x < cn) : ob_rcO Wt cn q (nI x) cn = ob_rr V sd (nI x) b 4096 := by
  have hq' : ∀ l, l < cn → ob_bx q l = (fun l => (!decide (sd l = 0) || !b)) l := hq
  have hal : ∀ l, l < 16 → (!decide (sd l = 0) || !b) = (fun l => (!decide (sd l = 0) || !b)) l := fun _ _ => rfl
  have ez : ∀ i l, i < 16 → l < 16 → ob_ed V (fun l => (!decide (sd l = 0) || !b)) i l = true → i < cn ∧ l < cn := fun i l hi hl h => by
    have h1 := of_decide_eq_true (ob_and2 h).1
    by_cases c : cn ≤ i ∨ cn ≤ l
    · rw [hz i l hi hl c] at h1
      exact absurd (ob_lti.mp h1) (Int.lt_irrefl _)
    · omega
  have x0 : ob_bx (ob_rr V sd (nI x) b 0) x = true := by
    rw [ob_rr, ob_bx_bit (by omega) (by omega)]; simp
  have rrsub : ∀ m k i, ob_bx (ob_rr V sd (nI x) b k) i = true → ob_bx (ob_rr V sd (nI x) b (k + m)) i = true := by
    intro m
    induction m with
    | zero => exact fun k i h => h
    | succ m ih =>
      intro k i h
      have := ih k i h
      show ob_bx (ob_rr V sd (nI x) b (k + m + 1)) i = true
      rw [ob_rr]
      split
      · rw [ob_bx_or, this]; rfl
      · exact this
  have rcsub : ∀ k i, ob_bx (ob_rcO Wt cn q (nI x) 0) i = true → ob_bx (ob_rcO Wt cn q (nI x) k) i = true := by
    intro k
    induction k with
    | zero => exact fun i h => h
    | succ k ih =>
      intro i h
      have := ob_rcI_sub (Wt := Wt) (cn := cn) (q := q) (w := ob_rcO Wt cn q (nI x) k) (j := 0) cn (ih i h)
      rw [Nat.zero_add] at this
      exact this
  refine ob_bx_ext (fun i hi => ?_)
  refine Bool.eq_iff_iff.mpr ⟨fun h => ?_, fun h => ?_⟩
  · refine ob_rcO_in hcn hV hq' (C := fun i => ob_bx (ob_rr V sd (nI x) b 4096) i = true) (fun i l hi hl h he => ob_rr_cl hal (by omega) (by omega) (by omega) h he) hx ?_ cn i hi h
    have := rrsub 4096 0 x x0
    rwa [Nat.zero_add] at this
  · refine ob_rr_in hal (C := fun i => ob_bx (ob_rcO Wt cn q (nI x) cn) i = true) (fun i l hi hl h he => ?_) (by omega) ?_ 4096 i hi h
    · obtain ⟨h1, h2⟩ := ez i l hi hl he
      exact ob_rcO_cl hcn hV hq' hx h1 h2 h he
    · refine rcsub cn x ?_
      rw [show ob_rcO Wt cn q (nI x) 0 = ob_bit (nI x) from rfl, ob_bx_bit (by omega) (by omega)]; simp
end
theorem ob_mo_1 {V sd : Nat → Int32} {i : Nat} : ∀ {m : Nat}, m ≤ 16 → ((ob_mo V sd i m).1 = -1 ∧ (ob_mo V sd i m).2 = 0 ∧ ∀ l, l < m → ¬ (sd l ≠ 0 ∧ 0 < V (16 * i + l))) ∨ (∃ r, r < m ∧ (ob_mo V sd i m).1 = nI r ∧ 0 < (ob_mo V sd i m).2 ∧ sd r ≠ 0 ∧ 0 < V (16 * i + r))
  | 0, _ => Or.inl ⟨rfl, rfl, fun l h => absurd h (Nat.not_lt_zero _)⟩
  | m + 1, hm => by
    have ih := ob_mo_1 (V := V) (sd := sd) (i := i) (m := m) (by omega)
    rw [ob_mo]
    by_cases c : (!decide (sd m = 0) && decide ((ob_mo V sd i m).2 < V (16 * i + m))) = true
    · rw [if_pos c]
      obtain ⟨c1, c2⟩ := ob_and2 c
      have c1 : ¬ sd m = 0 := by simpa using c1
      have c2 := of_decide_eq_true c2
      have pos : 0 < V (16 * i + m) := by
        rcases ih with ⟨-, e, -⟩ | ⟨r, -, -, h, -⟩
        · rwa [e] at c2
        · exact Int32.lt_trans h c2
      exact Or.inr ⟨m, by omega, rfl, pos, c1, pos⟩
    · rw [if_neg c]
      rcases ih with ⟨h1, h2, h3⟩ | ⟨r, h1, h2⟩
      · refine Or.inl ⟨h1, h2, fun l hl => ?_⟩
        rcases Nat.lt_or_ge l m with q | q
        · exact h3 l q
        · rw [show l = m by omega]
          rintro ⟨a, b⟩
          rw [h2] at c
          exact c (by rw [decide_eq_false a, decide_eq_true b]; rfl)
      · exact Or.inr ⟨r, by omega, h2⟩
theorem ob_wr_mo {Wt : Nat → Nat → Int32} {V sd : Nat → Int32} {st : Int32} {cn x : Nat} (hcn : cn ≤ 16) (hV : ∀ i j, i < 16 → j < 16 → Wt i j = V (16 * i + j)) (hs : ∀ l, l < cn → ob_bx st l = !decide (sd l = 0)) (hx : x < cn) : ∀ {k : Nat}, k ≤ cn → ob_wr st Wt cn (nI x) k = ob_mo V sd x k
  | 0, _ => rfl
  | k + 1, hk => by
    rw [ob_wr, ob_mo, ob_wr_mo hcn hV hs hx (k := k) (by omega), ob_hb_bx (by omega), hs k (by omega), ob_wt_nI hcn hx (by omega), hV x k (by omega) (by omega)]
    have e : (!decide (V (16 * x + k) ≤ (ob_mo V sd x k).2)) = decide ((ob_mo V sd x k).2 < V (16 * x + k)) := by
      rw [← decide_not]
      exact decide_eq_decide.mpr Int32.not_le
    rw [e]
theorem ob_rt_rg {Wt : Nat → Nat → Int32} {V sd : Nat → Int32} {st rc : Int32} {cn : Nat} (hcn : cn ≤ 16) (hV : ∀ i j, i < 16 → j < 16 → Wt i j = V (16 * i + j)) (hs : ∀ l, l < cn → ob_bx st l = !decide (sd l = 0)) : ∀ {k : Nat}, k ≤ cn → ob_rt st Wt cn rc k = ob_rg V sd cn rc k
  | 0, _ => rfl
  | k + 1, hk => by
    have e : decide (ob_rs Wt cn (nI k) cn &&& st = 0) = decide ((ob_mo V sd k cn).1 = -1) := by
      refine decide_eq_decide.mpr ?_
      rw [ob_and0]
      have m1 := ob_mo_1 (V := V) (sd := sd) (i := k) (m := cn) hcn
      have bit : ∀ l, l < 32 → ((ob_bx (ob_rs Wt cn (nI k) cn) l = true ∧ ob_bx st l = true) ↔ l < cn ∧ sd l ≠ 0 ∧ 0 < V (16 * k + l)) := fun l hl => by
        rw [ob_bx_rs hl (by omega)]
        by_cases c : l < cn
        · rw [ob_wt_nI hcn (by omega) c, hV k l (by omega) (by omega), hs l c, ob_npos, decide_eq_true c]
          simp [c, and_comm]
        · simp [c]
      constructor
      · intro h
        rcases m1 with ⟨h1, -⟩ | ⟨r, h1, -, -, h4, h5⟩
        · exact h1
        · exact absurd ((bit r (by omega)).mpr ⟨h1, h4, h5⟩) (h r (by omega))
      · intro h l hl q
        obtain ⟨q1, q2, q3⟩ := (bit l hl).mp q
        rcases m1 with ⟨-, -, h3⟩ | ⟨r, h1, h2, -⟩
        · exact h3 l q1 ⟨q2, q3⟩
        · rw [h2] at h
          exact ob_nIm1 (by omega) h
    rw [ob_rt, ob_rg, ob_rt_rg hcn hV hs (k := k) (by omega), e]
theorem ob_rg0 {V sd : Nat → Int32} {cn : Nat} : ∀ k, k ≤ 31 → ob_rg V sd cn (nI 0) k = nI 0
  | 0, _ => rfl
  | k + 1, hk => by
    rw [ob_rg, ob_rg0 k (by omega), ob_hb_bx (by omega), ob_n0, ob_bx_0, Bool.false_and]
    rfl
