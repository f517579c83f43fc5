-- ===== what must come before what, and the order
def ob_Bd (M : Nat → Nat → Int32) : Nat → Int32 := fun q => M (q / 5) (q % 5)
theorem ob_hBq (M : Nat → Nat → Int32) {a b : Nat} (hb : b ≤ 4) : M a b = ob_Bd M (5 * a + b) := by
  unfold ob_Bd
  rw [show (5 * a + b) / 5 = a by omega, show (5 * a + b) % 5 = b by omega]
theorem ob_hKq {M : Nat → Nat → Int32} (hM : ob_KM M) : ob_K (ob_eT (ob_Bd M)) 44000 := ob_K_cg hM.1 (fun i j hi hj => by
  show (ob_Bd M (5 * i + j)).toInt = (M i j).toInt
  rw [← ob_hBq M hj])
section
variable {M : Nat → Nat → Int32} {n : Nat} {cl rd sv pb ba bf od fg : Nat → Int32}
theorem ob_se_b (hM : ob_KM M) (hkc : ∀ k, cl k = nI (ob_kc cl k) ∧ ob_kc cl k ≤ 4) (i j : Nat) : ob_se M cl rd i j = ob_sb (ob_Bd M) (ob_kc cl) rd i j := ob_seb hM (fun a b _ hb => ob_hBq M hb) hkc i j
theorem ob_se_irr (hM : ob_KM M) (hkc : ∀ k, cl k = nI (ob_kc cl k) ∧ ob_kc cl k ≤ 4) (i : Nat) : ob_se M cl rd i i = false := by
  rw [ob_se_b hM hkc]
  exact ob_sb_irr (ob_hKq hM) (fun k => (hkc k).2) i
theorem ob_se_tr (hM : ob_KM M) (hkc : ∀ k, cl k = nI (ob_kc cl k) ∧ ob_kc cl k ≤ 4) (hr : ob_rdk rd) {i j k : Nat} (h1 : ob_se M cl rd i j = true) (h2 : ob_se M cl rd j k = true) : ob_se M cl rd i k = true := by
  rw [ob_se_b hM hkc] at h1 h2 ⊢
  exact ob_sb_tr (ob_hKq hM) (fun k => (hkc k).2) hr h1 h2
theorem ob_se_as (hM : ob_KM M) (hkc : ∀ k, cl k = nI (ob_kc cl k) ∧ ob_kc cl k ≤ 4) (hr : ob_rdk rd) {i j : Nat} (h1 : ob_se M cl rd i j = true) (h2 : ob_se M cl rd j i = true) : False := by
  have h := ob_se_tr hM hkc hr h1 h2
  rw [ob_se_irr hM hkc] at h
  cases h
theorem ob_se_u {u v i j : Nat} (hM : ob_KM M) (eu : cl i = nI u) (hu : u ≤ 4) (ev : cl j = nI v) (hv : v ≤ 4) : ob_se M cl rd i j = (!decide (M u v = 1000000) && decide (rd i + M u v < rd j)) := by
  unfold ob_se
  rw [eu, ev, ob_ms_nI hu hv]
  congr 1
  by_cases e : M u v = 1000000
  · rw [e]; rfl
  · have h1 := ob_kmL hM hu hv e
    have h2 : M u v < 1000000 := by rw [ob_lti, ob_UI]; exact h1
    rw [decide_eq_true h2, decide_eq_false e]; rfl
theorem ob_mcb {i j : Nat} (hn : n ≤ 30) (hbf : ∀ j, j < n → bf j = ob_bs (fun i => ob_se M cl rd i j) n) (hi : i < n) (hj : j < n) : ob_hb (bf j) (nI i) = ob_se M cl rd i j := by
  rw [ob_hb_bx (by omega), hbf j hj, ob_bx_bs _ (by omega) (by omega), decide_eq_true hi, Bool.true_and]
theorem ob_tmr {k : Nat} (hkc : ∀ k, cl k = nI (ob_kc cl k) ∧ ob_kc cl k ≤ 4) (hr : ob_rdk rd) (hg : ∀ k, k < n → fg (5 * k) = cl k ∧ fg (5 * k + 1) = rd k ∧ fg (5 * k + 2) = sv k ∧ fg (5 * k + 3) = pb k) (hk : k < n) : ∃ u r : Nat, u ≤ 4 ∧ r ≤ 10000 ∧ cl k = nI u ∧ rd k = nI r ∧ fg (5 * k) = nI u ∧ fg (5 * k + 1) = nI r := by
  obtain ⟨r, h1, h2⟩ := hr k
  obtain ⟨g1, g2, -, -⟩ := hg k hk
  exact ⟨ob_kc cl k, r, (hkc k).2, h1, (hkc k).1, h2, g1.trans (hkc k).1, g2.trans h2⟩
theorem ob_etu {k u r : Nat} (hM : ob_KM M) (hu : u ≤ 4) (ec : cl k = nI u) (er : rd k = nI r) : (if 1000000 ≤ ob_ms M (nI 0) (cl k) then -1000000 else rd k - ob_ms M (nI 0) (cl k)) = (if M 0 u = 1000000 then -1000000 else nI r - M 0 u) := by
  rw [ec, er, ob_ms_nI (Nat.zero_le _) hu]
  by_cases e : M 0 u = 1000000
  · rw [if_pos (by rw [e]; decide), if_pos e]
  · have h1 := ob_kmL hM (Nat.zero_le 4) hu e
    have h2 : ¬ (1000000 : Int32) ≤ M 0 u := by
      rw [ob_lei, ob_UI]
      omega
    rw [if_neg h2, if_neg e]
theorem ob_f1_at2 {p : Nat → Bool} : ∀ {n : Nat}, ob_f1 p n < n → p (ob_f1 p n) = true ∧ ∀ j, j < ob_f1 p n → p j = false
  | 0, h => absurd h (Nat.not_lt_zero _)
  | n + 1, h => by
    rw [ob_f1] at h ⊢
    by_cases q : ob_f1 p n < n
    · simp only [q, if_true]
      exact ob_f1_at2 q
    · simp only [q, if_false] at h ⊢
      by_cases c : p n = true
      · simp only [c, if_true]
        refine ⟨trivial, fun j hj => ?_⟩
        cases hp : p j with
        | false => rfl
        | true => exact absurd (ob_f1_lt ⟨j, hj, hp⟩).1 q
      · simp [c] at h
def ob_sn (od : Nat → Int32) : Nat → Int32
  | 0 => nI 0
  | k + 1 => ob_sn od k ||| ob_bit (od k)
/-- the order: every line once; the next one has nothing unseen before it, and each lower one has -/
theorem ob_ordA (hn : n ≤ 30) (hM : ob_KM M) (hkc : ∀ k, cl k = nI (ob_kc cl k) ∧ ob_kc cl k ≤ 4) (hr : ob_rdk rd) (hbf : ∀ j, j < n → bf j = ob_bs (fun i => ob_se M cl rd i j) n) (hod : ∀ j, j < n → od j = ob_nl bf n (ob_lf bf n j)) :
    ∃ pm : Nat → Nat, (∀ k, k < n → od k = nI (pm k) ∧ pm k < n) ∧ ∀ k, k < n → ob_bx (ob_sn od k) (pm k) = false ∧ (∀ o, o < n → ob_bx (ob_sn od k) o = false → ob_se M cl rd o (pm k) = false) ∧ ∀ o, o < pm k → ob_bx (ob_sn od k) o = false → ∃ t, t < n ∧ ob_bx (ob_sn od k) t = false ∧ ob_se M cl rd t o = true := by
  obtain ⟨pm, hp1, -, -⟩ := ob_pm hn hM (fun a b _ hb => ob_hBq M hb) hkc hr hbf
  have hp : ∀ k, k < n → od k = nI (pm k) ∧ pm k < n := fun k hk => ⟨(hod k hk).trans (hp1 k hk).1, (hp1 k hk).2⟩
  have hL : ∀ k, k ≤ n → ∀ i, i < 32 → ob_bx (ob_lf bf n k) i = (decide (i < n) && !ob_bx (ob_sn od k) i) := by
    intro k
    induction k with
    | zero =>
      intro _ i hi
      rw [ob_lf, ob_bx_all hn hi, ob_sn, ob_n0, ob_bx_0]
      simp
    | succ k ih =>
      intro hk i hi
      obtain ⟨e1, e2⟩ := hp k (by omega)
      rw [ob_lf, ob_bx_and, ob_bx_not hi, ← hod k (by omega), ih (by omega) i hi, ob_sn, ob_bx_or, e1, ob_bx_bit (by omega) hi]
      cases decide (i < n) <;> cases ob_bx (ob_sn od k) i <;> cases decide (i = pm k) <;> rfl
  refine ⟨pm, hp, fun k hk => ?_⟩
  obtain ⟨e1, e2⟩ := hp k hk
  have e3 := (hod k hk).symm.trans e1
  unfold ob_nl at e3
  by_cases c : ob_f1 (ob_pk bf (ob_lf bf n k)) n < n
  · rw [if_pos c] at e3
    have e4 := (nI_eq (ob_nlt (by omega)) (ob_nlt (by omega))).mp e3
    obtain ⟨g1, g2⟩ := ob_f1_at2 c
    rw [e4] at g1 g2
    obtain ⟨a1, a2⟩ := ob_and2 g1
    rw [ob_hb_bx (by omega), hL k (by omega) _ (by omega)] at a1
    have a3 := ob_and0.mp (of_decide_eq_true a2)
    refine ⟨by simpa using (ob_and2 a1).2, fun o ho h0 => ?_, fun o ho h0 => ?_⟩
    · cases hs : ob_se M cl rd o (pm k) with
      | false => rfl
      | true =>
        refine absurd ⟨?_, ?_⟩ (a3 o (by omega))
        · rw [hbf _ e2, ob_bx_bs _ (by omega) (by omega), decide_eq_true ho, hs]; rfl
        · rw [hL k (by omega) _ (by omega), decide_eq_true ho, h0]; rfl
    · have b1 := g2 o ho
      have b2 : ob_bx (ob_lf bf n k) o = true := by rw [hL k (by omega) _ (by omega), decide_eq_true (show o < n by omega), h0]; rfl
      unfold ob_pk at b1
      rw [ob_hb_bx (by omega), b2, Bool.true_and] at b1
      have b3 := of_decide_eq_false b1
      by_cases q : ∃ i, i < 32 ∧ ob_bx (bf o) i = true ∧ ob_bx (ob_lf bf n k) i = true
      · obtain ⟨i, hi, q1, q2⟩ := q
        rw [hbf o (by omega), ob_bx_bs _ hi (by omega)] at q1
        rw [hL k (by omega) i hi] at q2
        exact ⟨i, of_decide_eq_true (ob_and2 q1).1, by simpa using (ob_and2 q2).2, (ob_and2 q1).2⟩
      · exact absurd (ob_and0.mpr (fun i hi z => q ⟨i, hi, z.1, z.2⟩)) b3
  · rw [if_neg c] at e3
    exact absurd e3.symm (ob_nIm1 (by omega))
end
/-- the first of a service so far -/
def ob_fi (sv : Nat → Int32) (pm : Nat → Nat) (q : Int32) (k : Nat) (w : Int32) : Prop := (w = -1 ∧ ∀ j, j < k → ¬ sv (pm j) = q) ∨ ∃ i, i < k ∧ sv (pm i) = q ∧ (∀ j, j < i → ¬ sv (pm j) = q) ∧ w = nI (pm i)
section
variable {sv : Nat → Int32} {pm : Nat → Nat} {q w : Int32} {k n : Nat}
theorem ob_fi_0 : ob_fi sv pm q 0 (-1) := Or.inl ⟨rfl, fun j h => absurd h (Nat.not_lt_zero _)⟩
theorem ob_fi_s1 (h : ob_fi sv pm q k w) (hw : 0 ≤ w) : ob_fi sv pm q (k + 1) w := by
  rcases h with ⟨rfl, -⟩ | ⟨i, h1, h2, h3, h4⟩
  · exact absurd hw (by decide)
  · exact Or.inr ⟨i, by omega, h2, h3, h4⟩
theorem ob_fi_n (hp : ∀ i, i < k → pm i ≤ 30) (h : ob_fi sv pm q k w) (hw : ¬ 0 ≤ w) : w = -1 ∧ ∀ j, j < k → ¬ sv (pm j) = q := by
  rcases h with h | ⟨i, h1, h2, h3, rfl⟩
  · exact h
  · have := hp i h1
    exact absurd (nI_pos' (show pm i < 2 ^ 31 by omega)) hw
theorem ob_fi_s2 (hp : ∀ i, i < k → pm i ≤ 30) (h : ob_fi sv pm q k w) (hw : ¬ 0 ≤ w) (he : ¬ sv (pm k) = q) : ob_fi sv pm q (k + 1) w := by
  obtain ⟨h1, h2⟩ := ob_fi_n hp h hw
  refine Or.inl ⟨h1, fun j hj => ?_⟩
  rcases Nat.lt_or_ge j k with c | c
  · exact h2 j c
  · rw [show j = k by omega]; exact he
theorem ob_fi_s3 (hp : ∀ i, i < k → pm i ≤ 30) (h : ob_fi sv pm q k w) (hw : ¬ 0 ≤ w) (he : sv (pm k) = q) : ob_fi sv pm q (k + 1) (nI (pm k)) := Or.inr ⟨k, by omega, he, (ob_fi_n hp h hw).2, rfl⟩
theorem ob_fpm {od : Nat → Int32} (hn : n ≤ 30) (hpm : ∀ k, k < n → od k = nI (pm k) ∧ pm k < n) (hk : k < n) : ob_fp n sv od q k = decide (sv (pm k) = q) := by
  obtain ⟨e1, e2⟩ := hpm k hk
  unfold ob_fp
  rw [e1, ob_hd_nI e2 (by omega), ob_cl (by omega), Bool.true_and]
theorem ob_fi_e {od : Nat → Int32} {r : Int32} (hn : n ≤ 30) (hpm : ∀ k, k < n → od k = nI (pm k) ∧ pm k < n) (h : ob_fi sv pm q n w) (hr : (∃ i, i < n ∧ ob_fp n sv od q i = true ∧ (∀ j, j < i → ob_fp n sv od q j = false) ∧ r = od i) ∨ ((∀ j, j < n → ob_fp n sv od q j = false) ∧ r = -1)) : r = w := by
  rcases hr with ⟨i, h1, h2, h3, h4⟩ | ⟨h1, h2⟩
  · rw [ob_fpm hn hpm h1] at h2
    have h2 := of_decide_eq_true h2
    rcases h with ⟨-, g⟩ | ⟨i', g1, g2, g3, g4⟩
    · exact absurd h2 (g i h1)
    · have e : i = i' := by
        rcases Nat.lt_trichotomy i i' with c | c | c
        · exact absurd h2 (g3 i c)
        · exact c
        · have := h3 i' c
          rw [ob_fpm hn hpm g1] at this
          exact absurd g2 (of_decide_eq_false this)
      subst e
      rw [h4, g4, (hpm i h1).1]
  · rcases h with ⟨g, -⟩ | ⟨i', g1, g2, -, -⟩
    · rw [h2, g]
    · have := h1 i' g1
      rw [ob_fpm hn hpm g1] at this
      exact absurd g2 (of_decide_eq_false this)
theorem ob_isp {pb ba od : Nat → Int32} (hn : n ≤ 30) (hpm : ∀ k, k < n → od k = nI (pm k) ∧ pm k < n) (hk : k < n) : ob_is n pb ba od k = ob_st pb ba (pm k) := by
  obtain ⟨e1, e2⟩ := hpm k hk
  unfold ob_is
  rw [e1, ob_hd_nI e2 (by omega), ob_cl (by omega), Bool.true_and]
theorem ob_isF1 {pb ba od : Nat → Int32} (hn : n ≤ 30) (hpm : ∀ k, k < n → od k = nI (pm k) ∧ pm k < n) (hk : k < n) (hpb : ∀ k, pb k = nI 0 ∨ pb k = nI 1) (h : ¬ pb (pm k) = nI 1) : ob_is n pb ba od k = false := by
  rw [ob_isp hn hpm hk]
  unfold ob_st
  rcases hpb (pm k) with e | e
  · rw [e]; rfl
  · exact absurd e h
theorem ob_isF2 {pb ba od : Nat → Int32} (hn : n ≤ 30) (hpm : ∀ k, k < n → od k = nI (pm k) ∧ pm k < n) (hk : k < n) (h : ba (pm k) < 0) : ob_is n pb ba od k = false := by
  rw [ob_isp hn hpm hk]
  unfold ob_st
  rw [decide_eq_true h, Bool.not_true, Bool.and_false]
theorem ob_isT {pb ba od : Nat → Int32} (hn : n ≤ 30) (hpm : ∀ k, k < n → od k = nI (pm k) ∧ pm k < n) (hk : k < n) (h1 : pb (pm k) = nI 1) (h2 : ¬ ba (pm k) < 0) : ob_is n pb ba od k = true := by
  rw [ob_isp hn hpm hk]
  unfold ob_st
  rw [h1, decide_eq_false h2]
  rfl
end
def ob_an (p : Nat → Bool) : Nat → Bool
  | 0 => false
  | m + 1 => ob_an p m || p m
theorem ob_an_t {p : Nat → Bool} {i : Nat} (h : p i = true) : ∀ {m : Nat}, i < m → ob_an p m = true
  | 0, hi => absurd hi (Nat.not_lt_zero _)
  | m + 1, hi => by
    rw [ob_an]
    rcases Nat.lt_or_ge i m with c | c
    · rw [ob_an_t h c]; rfl
    · rw [show m = i by omega, h, Bool.or_true]
