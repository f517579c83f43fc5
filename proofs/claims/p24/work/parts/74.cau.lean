-- ===== causes: the main reason, the roots over direct reasons, what is because of what
/-- what is said of the main reason -/
def ob_mnS (st : Int32) (Wt : Nat → Nat → Int32) (cn k : Nat) (w : Int32) : Prop := (w = -1 ∧ ∀ j, j < cn → ¬ (ob_hb st (nI j) = true ∧ 0 < Wt k j)) ∨ ∃ r, r < cn ∧ w = nI r ∧ ob_hb st (nI r) = true ∧ 0 < Wt k r ∧ ∀ j, j < cn → ob_hb st (nI j) = true → 0 < Wt k j → Wt k j < Wt k r ∨ (Wt k j = Wt k r ∧ r ≤ j)
section
variable {st : Int32} {Wt : Nat → Nat → Int32} {cn k : Nat}
theorem ob_wrS_m (hcn : cn ≤ 16) (hk : k < cn) : ∀ m, m ≤ cn → ((ob_wr st Wt cn (nI k) m).1 = -1 ∧ (ob_wr st Wt cn (nI k) m).2 = 0 ∧ ∀ j, j < m → ¬ (ob_hb st (nI j) = true ∧ 0 < Wt k j)) ∨ ∃ r, r < m ∧ (ob_wr st Wt cn (nI k) m).1 = nI r ∧ ob_hb st (nI r) = true ∧ 0 < Wt k r ∧ (ob_wr st Wt cn (nI k) m).2 = Wt k r ∧ ∀ j, j < m → ob_hb st (nI j) = true → 0 < Wt k j → Wt k j < Wt k r ∨ (Wt k j = Wt k r ∧ r ≤ j)
  | 0, _ => Or.inl ⟨rfl, rfl, fun j h => absurd h (Nat.not_lt_zero _)⟩
  | m + 1, hm => by
    have ih := ob_wrS_m hcn hk m (by omega)
    rw [ob_wr, ob_wt_nI hcn hk (show m < cn by omega)]
    by_cases c : (ob_hb st (nI m) && !decide (Wt k m ≤ (ob_wr st Wt cn (nI k) m).2)) = true
    · rw [if_pos c]
      obtain ⟨c1, c2⟩ := ob_and2 c
      have c2 : ¬ Wt k m ≤ (ob_wr st Wt cn (nI k) m).2 := by simpa using c2
      rw [ob_lei] at c2
      right
      rcases ih with ⟨-, h2, h3⟩ | ⟨r, h1, -, h3, h4, h5, h6⟩
      · rw [h2, ob_0I] at c2
        have h0 : 0 < Wt k m := by rw [ob_lti, ob_0I]; omega
        refine ⟨m, by omega, rfl, c1, h0, rfl, fun j hj a b => ?_⟩
        rcases Nat.lt_or_ge j m with q | q
        · exact absurd ⟨a, b⟩ (h3 j q)
        · rw [show j = m by omega]; exact Or.inr ⟨rfl, Nat.le_refl _⟩
      · rw [h5] at c2
        rw [ob_lti, ob_0I] at h4
        have h0 : 0 < Wt k m := by rw [ob_lti, ob_0I]; omega
        refine ⟨m, by omega, rfl, c1, h0, rfl, fun j hj a b => ?_⟩
        rcases Nat.lt_or_ge j m with q | q
        · left
          rw [ob_lti]
          rcases h6 j q a b with z | ⟨z, -⟩
          · rw [ob_lti] at z; omega
          · rw [z]; omega
        · rw [show j = m by omega]; exact Or.inr ⟨rfl, Nat.le_refl _⟩
    · rw [if_neg c]
      rcases ih with ⟨h1, h2, h3⟩ | ⟨r, h1, h2, h3, h4, h5, h6⟩
      · left
        refine ⟨h1, h2, fun j hj => ?_⟩
        rcases Nat.lt_or_ge j m with q | q
        · exact h3 j q
        · rw [show j = m by omega]
          rintro ⟨a, b⟩
          refine c ?_
          rw [a, h2, Bool.true_and, decide_eq_false (Int32.not_le.mpr b)]
          rfl
      · right
        refine ⟨r, by omega, h2, h3, h4, h5, fun j hj a b => ?_⟩
        rcases Nat.lt_or_ge j m with q | q
        · exact h6 j q a b
        · have e : j = m := by omega
          subst e
          by_cases z : Wt k j ≤ Wt k r
          · by_cases y : Wt k j = Wt k r
            · exact Or.inr ⟨y, by omega⟩
            · left
              rw [ob_lei] at z
              rw [ob_eqi] at y
              rw [ob_lti]
              omega
          · refine absurd ?_ c
            rw [a, h5, Bool.true_and, decide_eq_false z]
            rfl
theorem ob_wrS (hcn : cn ≤ 16) (hk : k < cn) : ob_mnS st Wt cn k (ob_wr st Wt cn (nI k) cn).1 := by
  rcases ob_wrS_m (st := st) (Wt := Wt) hcn hk cn (Nat.le_refl _) with ⟨h1, -, h3⟩ | ⟨r, h1, h2, h3, h4, -, h6⟩
  · exact Or.inl ⟨h1, h3⟩
  · exact Or.inr ⟨r, h1, h2, h3, h4, h6⟩
theorem ob_mnN {w : Int32} (hcn : cn ≤ 16) (h : ob_mnS st Wt cn k w) (hw : w < 0) : ∀ j, j < cn → ¬ (ob_hb st (nI j) = true ∧ 0 < Wt k j) := by
  rcases h with ⟨-, h⟩ | ⟨r, h1, rfl, -⟩
  · exact h
  · exact absurd hw (nI_pos (by omega))
theorem ob_mnP {w : Int32} (h : ob_mnS st Wt cn k w) (hw : ¬ w < 0) : ∃ r, r < cn ∧ w = nI r ∧ ob_hb st (nI r) = true ∧ 0 < Wt k r ∧ ∀ j, j < cn → ob_hb st (nI j) = true → 0 < Wt k j → Wt k j < Wt k r ∨ (Wt k j = Wt k r ∧ r ≤ j) := by
  rcases h with ⟨rfl, -⟩ | h
  · exact absurd (by decide) hw
  · exact h
def ob_Vd (Wt : Nat → Nat → Int32) : Nat → Int32 := fun q => Wt (q / 16) (q % 16)
theorem ob_hVd (Wt : Nat → Nat → Int32) : ∀ i j, i < 16 → j < 16 → Wt i j = ob_Vd Wt (16 * i + j) := fun i j _ hj => by
  unfold ob_Vd
  rw [show (16 * i + j) / 16 = i by omega, show (16 * i + j) % 16 = j by omega]
theorem ob_edW {al : Nat → Bool} {i j : Nat} (hi : i < 16) (hj : j < 16) : ob_ed (ob_Vd Wt) al i j = (decide (0 < Wt i j) && al j) := by
  unfold ob_ed
  rw [← ob_hVd Wt i j hi hj]
theorem ob_rt_bs {rc : Int32} : ∀ m, ob_rt st Wt cn rc m = ob_bs (fun i => ob_hb rc (nI i) && decide (ob_rs Wt cn (nI i) cn &&& st = 0)) m
  | 0 => rfl
  | m + 1 => by rw [ob_rt, ob_bs, ob_rt_bs m]
theorem ob_z0i {x : Int32} : x = 0 ↔ ∀ i, i < 32 → ob_bx x i = false := ⟨fun h i _ => by rw [h, ob_bx_0], fun h => ob_bx_ext (fun i hi => by rw [h i hi, ob_bx_0])⟩
/-- no direct reason that stands -/
theorem ob_nr0 (hcn : cn ≤ 16) {i : Nat} (hi : i < cn) : decide (ob_rs Wt cn (nI i) cn &&& st = 0) = true ↔ ∀ j, j < cn → ¬ (ob_hb st (nI j) = true ∧ 0 < Wt i j) := by
  rw [decide_eq_true_eq, ob_z0i]
  have key : ∀ l, l < 32 → ob_bx (ob_rs Wt cn (nI i) cn &&& st) l = (decide (l < cn) && ob_ed (ob_Vd Wt) (fun l => ob_bx st l) i l) := fun l hl => ob_bx_rsq hcn (ob_hVd Wt) (fun _ _ => rfl) hi hl
  constructor
  · rintro h j hj ⟨a, b⟩
    have := h j (by omega)
    rw [key j (by omega), ob_edW (by omega) (by omega), decide_eq_true hj, decide_eq_true b, ← ob_hb_bx (by omega), a] at this
    cases this
  · intro h l hl
    rw [key l hl]
    by_cases c : l < cn
    · rw [ob_edW (by omega) (by omega), ← ob_hb_bx (by omega)]
      have := h l c
      cases a : ob_hb st (nI l)
      · simp
      · have b : ¬ 0 < Wt i l := fun b => this ⟨a, b⟩
        rw [decide_eq_false b]
        simp
    · rw [decide_eq_false c]; simp
theorem ob_RK (x : Nat) (hx : x < 32) (q : Int32) : ∀ m, ob_bx (ob_rcO Wt cn q (nI x) m) x = true
  | 0 => by
    show ob_bx (ob_bit (nI x)) x = true
    rw [ob_bx_bit hx hx]; simp
  | m + 1 => by
    have := ob_rcI_sub (Wt := Wt) (cn := cn) (q := q) (w := ob_rcO Wt cn q (nI x) m) (j := 0) cn (ob_RK x hx q m)
    rw [Nat.zero_add] at this
    exact this
/-- reached from k over what stands -/
def ob_Rc (st : Int32) (Wt : Nat → Nat → Int32) (cn k i : Nat) : Prop := ob_bx (ob_rcO Wt cn st (nI k) cn) i = true
theorem ob_Rin (hcn : cn ≤ 16) (hk : k < cn) {C : Nat → Prop} (hC : ∀ i l, i < cn → l < cn → C i → (ob_hb st (nI l) = true ∧ 0 < Wt i l) → C l) (hCk : C k) {i : Nat} (hi : i < 32) (h : ob_Rc st Wt cn k i) : C i :=
  ob_rcO_in hcn (ob_hVd Wt) (fun l _ => rfl) (al := fun l => ob_bx st l) (fun i l hi hl c he => hC i l hi hl c (by
    rw [ob_edW (by omega) (by omega)] at he
    obtain ⟨h1, h2⟩ := ob_and2 he
    exact ⟨by rw [ob_hb_bx (by omega)]; exact h2, of_decide_eq_true h1⟩)) hk hCk cn i hi h
theorem ob_Rcl (hcn : cn ≤ 16) (hk : k < cn) {i l : Nat} (hi : i < cn) (hl : l < cn) (h : ob_Rc st Wt cn k i) (he : ob_hb st (nI l) = true ∧ 0 < Wt i l) : ob_Rc st Wt cn k l :=
  ob_rcO_cl hcn (ob_hVd Wt) (fun l _ => rfl) (al := fun l => ob_bx st l) hk hi hl h (by
    rw [ob_edW (by omega) (by omega), decide_eq_true he.2, ← ob_hb_bx (by omega), he.1]
    rfl)
theorem ob_Rlt (hcn : cn ≤ 16) (hk : k < cn) {i : Nat} (hi : i < 32) (h : ob_Rc st Wt cn k i) : i < cn := ob_Rin hcn hk (C := fun i => i < cn) (fun _ _ _ h _ _ => h) hk hi h
theorem ob_Rkk (hcn : cn ≤ 16) (hk : k < cn) : ob_Rc st Wt cn k k := ob_RK k (by omega) st cn
/-- a root, in plain words -/
theorem ob_bx_ro (hcn : cn ≤ 16) (hk : k < cn) {i : Nat} (hi : i < 32) : ob_bx (ob_ro st Wt cn k) i = true ↔ ob_hb st (nI k) = true ∧ ob_Rc st Wt cn k i ∧ ∀ j, j < cn → ¬ (ob_hb st (nI j) = true ∧ 0 < Wt i j) := by
  unfold ob_ro
  by_cases c : ob_hb st (nI k) = true
  · rw [if_pos c, ob_rt_bs, ob_bx_bs _ hi (by omega), ob_hb_bx hi]
    constructor
    · intro h
      obtain ⟨h1, h2⟩ := ob_and2 h
      obtain ⟨h3, h4⟩ := ob_and2 h2
      exact ⟨c, h3, (ob_nr0 hcn (of_decide_eq_true h1)).mp h4⟩
    · rintro ⟨-, h3, h4⟩
      have h1 := ob_Rlt hcn hk hi h3
      have h3 : ob_bx (ob_rcO Wt cn st (nI k) cn) i = true := h3
      rw [decide_eq_true h1, h3, (ob_nr0 hcn h1).mpr h4]
      rfl
  · rw [if_neg c, ob_n0, ob_bx_0]
    exact ⟨fun h => (by cases h), fun h => absurd h.1 c⟩
theorem ob_rz0 (c : ob_hb st (nI k) = false) : ob_ro st Wt cn k = nI 0 := by
  unfold ob_ro
  rw [c]
  rfl
theorem ob_rz1 (hcn : cn ≤ 16) (hk : k < cn) (hs : ob_hb st (nI k) = true) (hno : ∀ j, j < cn → ¬ (ob_hb st (nI j) = true ∧ 0 < Wt k j)) : ob_ro st Wt cn k = ob_bit (nI k) := by
  refine ob_bx_ext (fun i hi => Bool.eq_iff_iff.mpr ?_)
  rw [ob_bx_ro hcn hk hi, ob_bx_bit (by omega) hi, decide_eq_true_eq]
  constructor
  · rintro ⟨-, h, -⟩
    exact ob_Rin hcn hk (C := fun i => i = k) (fun i l _ hl c he => by subst c; exact absurd he (hno l hl)) rfl hi h
  · rintro rfl
    exact ⟨hs, ob_Rkk hcn hk, hno⟩
/-- the roots of the direct reasons that stand, of those below m -/
def ob_uz (st : Int32) (Wt : Nat → Nat → Int32) (cn k : Nat) : Nat → Int32
  | 0 => nI 0
  | j + 1 => ob_uz st Wt cn k j ||| (if (ob_hb st (nI j) && decide (0 < Wt k j)) = true then ob_ro st Wt cn j else nI 0)
theorem ob_bx_uz {i : Nat} : ∀ {m : Nat}, ob_bx (ob_uz st Wt cn k m) i = true ↔ ∃ j, j < m ∧ (ob_hb st (nI j) = true ∧ 0 < Wt k j) ∧ ob_bx (ob_ro st Wt cn j) i = true
  | 0 => by
    rw [ob_uz, ob_n0, ob_bx_0]
    exact ⟨fun h => (by cases h), fun ⟨j, h, _⟩ => absurd h (Nat.not_lt_zero _)⟩
  | m + 1 => by
    rw [ob_uz, ob_bx_or, Bool.or_eq_true, ob_bx_uz]
    constructor
    · rintro (⟨j, h1, h2⟩ | h)
      · exact ⟨j, by omega, h2⟩
      · by_cases c : (ob_hb st (nI m) && decide (0 < Wt k m)) = true
        · rw [if_pos c] at h
          exact ⟨m, by omega, ⟨(ob_and2 c).1, of_decide_eq_true (ob_and2 c).2⟩, h⟩
        · rw [if_neg c, ob_n0, ob_bx_0] at h
          cases h
    · rintro ⟨j, h1, h2, h3⟩
      rcases Nat.lt_or_ge j m with q | q
      · exact Or.inl ⟨j, q, h2, h3⟩
      · right
        have e : j = m := by omega
        subst e
        rw [if_pos (by rw [h2.1, decide_eq_true h2.2]; rfl)]
        exact h3
theorem ob_rz2 (hcn : cn ≤ 16) (hk : k < cn) (hs : ob_hb st (nI k) = true) {r : Nat} (hr : r < cn) (hr2 : ob_hb st (nI r) = true ∧ 0 < Wt k r) : ob_ro st Wt cn k = ob_uz st Wt cn k cn := by
  refine ob_bx_ext (fun i hi => Bool.eq_iff_iff.mpr ?_)
  rw [ob_bx_ro hcn hk hi, ob_bx_uz]
  constructor
  · rintro ⟨-, h, hno⟩
    have h2 : i = k ∨ ∃ j, j < cn ∧ (ob_hb st (nI j) = true ∧ 0 < Wt k j) ∧ ob_Rc st Wt cn j i := by
      refine ob_Rin hcn hk (C := fun i => i = k ∨ ∃ j, j < cn ∧ (ob_hb st (nI j) = true ∧ 0 < Wt k j) ∧ ob_Rc st Wt cn j i) (fun i l hi hl c he => ?_) (Or.inl rfl) hi h
      rcases c with rfl | ⟨j, h1, h2, h3⟩
      · exact Or.inr ⟨l, hl, he, ob_Rkk hcn hl⟩
      · exact Or.inr ⟨j, h1, h2, ob_Rcl hcn h1 hi hl h3 he⟩
    rcases h2 with rfl | ⟨j, h1, h2, h3⟩
    · exact absurd hr2 (hno r hr)
    · exact ⟨j, h1, h2, (ob_bx_ro hcn h1 hi).mpr ⟨h2.1, h3, hno⟩⟩
  · rintro ⟨j, h1, h2, h3⟩
    obtain ⟨-, g2, g3⟩ := (ob_bx_ro hcn h1 hi).mp h3
    refine ⟨hs, ?_, g3⟩
    have hj := ob_Rcl hcn hk hk h1 (ob_Rkk hcn hk) h2
    exact ob_Rin hcn h1 (C := fun i => ob_Rc st Wt cn k i) (fun i l hi hl c he => ob_Rcl hcn hk hi hl c he) hj hi g2
theorem ob_rz3 (hcn : cn ≤ 16) (hk : k < cn) : ob_ro st Wt cn k &&& (st ^^^ (-1)) = 0 := by
  refine ob_and0.mpr (fun i hi => ?_)
  rintro ⟨a, b⟩
  rw [ob_bx_not hi] at b
  obtain ⟨h1, h2, -⟩ := (ob_bx_ro hcn hk hi).mp a
  have h3 : ob_bx st i = true := ob_Rin hcn hk (C := fun i => ob_bx st i = true) (fun i l _ hl _ he => by rw [← ob_hb_bx (by omega)]; exact he.1) (by rw [← ob_hb_bx (by omega)]; exact h1) hi h2
  rw [h3] at b
  cases b
end
-- what is because of what, the law's way: 8 rounds over 64 places
def ob_q1 (fh : Nat → Int32) (w : Int32) : Nat → Int32
  | 0 => w
  | k + 1 => ob_q1 fh w k ||| (if (ob_hb (ob_q1 fh w k) (nI (k / 8)) && decide (0 < fh k)) = true then ob_bit (nI (k % 8)) else nI 0)
def ob_q8 (fh : Nat → Int32) (x : Nat) : Nat → Int32
  | 0 => ob_bit (nI x)
  | r + 1 => ob_q1 fh (ob_q8 fh x r) 64
section
variable {fh : Nat → Int32} {w : Int32}
theorem ob_q1_sub {i : Nat} : ∀ {j : Nat} (m : Nat), ob_bx (ob_q1 fh w j) i = true → ob_bx (ob_q1 fh w (j + m)) i = true
  | _, 0, h => h
  | j, m + 1, h => by
    have := ob_q1_sub m h
    show ob_bx (ob_q1 fh w (j + m + 1)) i = true
    rw [ob_q1, ob_bx_or, this]
    rfl
theorem ob_q1_in {C : Nat → Prop} (hC : ∀ i l, i < 8 → l < 8 → C i → 0 < fh (8 * i + l) → C l) (hw : ∀ i, i < 32 → ob_bx w i = true → C i) : ∀ k, k ≤ 64 → ∀ i, i < 32 → ob_bx (ob_q1 fh w k) i = true → C i
  | 0, _ => hw
  | k + 1, hk => by
    have ih := ob_q1_in hC hw k (by omega)
    intro i hi h
    rw [ob_q1, ob_bx_or, Bool.or_eq_true] at h
    rcases h with h | h
    · exact ih i hi h
    · by_cases c : (ob_hb (ob_q1 fh w k) (nI (k / 8)) && decide (0 < fh k)) = true
      · rw [if_pos c, ob_bx_bit (by omega) hi] at h
        obtain ⟨c1, c2⟩ := ob_and2 c
        rw [ob_hb_bx (by omega)] at c1
        have c3 := of_decide_eq_true c2
        rw [of_decide_eq_true h]
        refine hC (k / 8) (k % 8) (by omega) (by omega) (ih _ (by omega) c1) ?_
        rw [show 8 * (k / 8) + k % 8 = k by omega]
        exact c3
      · rw [if_neg c, ob_n0, ob_bx_0] at h
        cases h
theorem ob_q8_in {C : Nat → Prop} (hC : ∀ i l, i < 8 → l < 8 → C i → 0 < fh (8 * i + l) → C l) {x : Nat} (hx : x < 8) (hCx : C x) : ∀ r i, i < 32 → ob_bx (ob_q8 fh x r) i = true → C i
  | 0 => fun i hi h => by
    rw [ob_q8, ob_bx_bit (by omega) hi] at h
    rw [of_decide_eq_true h]; exact hCx
  | r + 1 => ob_q1_in hC (ob_q8_in hC hx hCx r) 64 (Nat.le_refl _)
theorem ob_q8_x {x : Nat} (hx : x < 8) : ∀ r, ob_bx (ob_q8 fh x r) x = true
  | 0 => by
    rw [ob_q8, ob_bx_bit (by omega) (by omega)]; simp
  | r + 1 => by
    have := ob_q1_sub (fh := fh) (w := ob_q8 fh x r) (j := 0) 64 (ob_q8_x hx r)
    rw [Nat.zero_add] at this
    exact this
theorem ob_q8_cl {x : Nat} (hx : x < 8) {i l : Nat} (hi : i < 8) (hl : l < 8) (h : ob_bx (ob_q8 fh x 8) i = true) (he : 0 < fh (8 * i + l)) : ob_bx (ob_q8 fh x 8) l = true := by
  have fx := ob_fix (N := 8) (f := fun w => ob_q1 fh w 64) (S := fun r => ob_q8 fh x r) (by omega) (fun k => rfl) (fun k i hi h => by
      have := ob_q1_sub (fh := fh) (w := ob_q8 fh x k) (j := 0) 64 h
      rw [Nat.zero_add] at this
      exact this) (fun k i hi h => ob_q8_in (C := fun i => i < 8) (fun _ _ _ h _ _ => h) hx hx k i hi h) ⟨x, hx, ob_q8_x hx 0⟩
  have fx : ob_q1 fh (ob_q8 fh x 8) 64 = ob_q8 fh x 8 := fx
  obtain ⟨w, hw⟩ : ∃ w, w = ob_q8 fh x 8 := ⟨_, rfl⟩
  rw [← hw] at fx h ⊢
  have h1 : ob_bx (ob_q1 fh w (8 * i + l)) i = true := by
    have := ob_q1_sub (fh := fh) (w := w) (i := i) (j := 0) (8 * i + l) h
    rwa [Nat.zero_add] at this
  have h2 : ob_bx (ob_q1 fh w (8 * i + l + 1)) l = true := by
    rw [ob_q1, show (8 * i + l) / 8 = i by omega, show (8 * i + l) % 8 = l by omega, ob_hb_bx (show i < 32 by omega), h1, decide_eq_true he, Bool.and_self, if_pos rfl, ob_bx_or, ob_bx_bit (by omega) (by omega)]
    simp
  have h3 := ob_q1_sub (64 - (8 * i + l + 1)) h2
  rw [show 8 * i + l + 1 + (64 - (8 * i + l + 1)) = 64 by omega, fx] at h3
  exact h3
/-- both ways to follow the reasons come to one set -/
theorem ob_pq {Wt : Nat → Nat → Int32} {cn x y : Nat} (hcn : cn ≤ 8) (hh : ∀ i j, i < 8 → j < 8 → fh (8 * i + j) = Wt i j) (hz : ∀ i j, cn ≤ i ∨ cn ≤ j → Wt i j = nI 0) (hx : x < cn) (hy : y < cn) : ob_hb (ob_q8 fh x 8) (nI y) = ob_hb (ob_rcO Wt cn (ob_bit (nI cn) - nI 1) (nI x) cn) (nI y) := by
  have hq : ∀ l, l < cn → ob_bx (ob_bit (nI cn) - nI 1) l = (fun _ => true) l := fun l hl => by rw [ob_bx_all (by omega) (by omega), decide_eq_true hl]
  have e0 : ∀ i l, 0 < fh (8 * i + l) → i < 8 → l < 8 → i < cn ∧ l < cn := fun i l h hi hl => by
    rw [hh i l hi hl] at h
    by_cases c : cn ≤ i ∨ cn ≤ l
    · rw [hz i l c] at h
      exact absurd (ob_lti.mp h) (Int.lt_irrefl _)
    · omega
  rw [ob_hb_bx (by omega), ob_hb_bx (by omega)]
  refine Bool.eq_iff_iff.mpr ⟨fun h => ?_, fun h => ?_⟩
  · refine ob_q8_in (C := fun i => ob_bx (ob_rcO Wt cn (ob_bit (nI cn) - nI 1) (nI x) cn) i = true) (fun i l hi hl c he => ?_) (by omega) (ob_RK x (by omega) _ cn) 8 y (by omega) h
    obtain ⟨a, b⟩ := e0 i l he hi hl
    rw [hh i l hi hl] at he
    exact ob_rcO_cl (by omega) (ob_hVd Wt) hq hx a b c (by rw [ob_edW (by omega) (by omega), decide_eq_true he]; rfl)
  · refine ob_rcO_in (show cn ≤ 16 by omega) (ob_hVd Wt) hq (C := fun i => ob_bx (ob_q8 fh x 8) i = true) (fun i l hi hl c he => ?_) hx (ob_q8_x (by omega) 8) cn y (by omega) h
    rw [ob_edW (by omega) (by omega)] at he
    refine ob_q8_cl (by omega) (by omega) (by omega) c ?_
    rw [hh i l (by omega) (by omega)]
    exact of_decide_eq_true (ob_and2 he).1
end
