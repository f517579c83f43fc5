-- ===== what holds of the law's rows and the book between two calls
def ob_kc (cl : Nat → Int32) : Nat → Nat := fun j => (cl j).toNatClampNeg
/-- the k-th mark that was told, and that the clocks keep to it -/
def ob_mkd (M : Nat → Nat → Int32) (fe : Nat → Int32) (k : Nat) : Prop := ∃ f a s b z : Nat, f ≤ 4 ∧ s ≤ 4 ∧ a ≤ 10000 ∧ b ≤ 10000 ∧ z ≤ 1000 ∧ fe (5 * k) = nI f ∧ fe (5 * k + 1) = nI a ∧ fe (5 * k + 2) = nI s ∧ fe (5 * k + 3) = nI b ∧ fe (5 * k + 4) = nI z ∧ (M f s).toInt ≤ (z : Int) - a + b ∧ (M s f).toInt ≤ (z : Int) + a - b
def ob_Jc (M : Nat → Nat → Int32) (fe : Nat → Int32) (mk : Nat) : Prop := ob_KM M ∧ mk ≤ 12 ∧ ∀ k, k < mk → ob_mkd M fe k
def ob_Jl (M : Nat → Nat → Int32) (n : Nat) (cl rd sv pb ba bf od fg : Nat → Int32) : Prop :=
  n ≤ 12 ∧ (∀ k, cl k = nI (ob_kc cl k) ∧ ob_kc cl k ≤ 4) ∧ ob_rdk rd ∧ (∀ j, j < n → bf j = ob_bs (fun i => ob_se M cl rd i j) n) ∧ (∀ j, j < n → od j = ob_nl bf n (ob_lf bf n j)) ∧ (∀ k, pb k = nI 0 ∨ pb k = nI 1) ∧ (∀ k, k < n → fg (5 * k) = cl k ∧ fg (5 * k + 1) = rd k ∧ fg (5 * k + 2) = sv k ∧ fg (5 * k + 3) = pb k) ∧ ∀ k, k < 12 → fg (5 * k + 4) = ba k
def ob_Jm (mn : Nat) (mf mt mp : Nat → Int32) : Prop := mn ≤ 40 ∧ ob_mm mn mf mt ∧ ∀ j, j < mn → ∃ p : Nat, p ≤ 100 ∧ mp j = nI p
def ob_Jr (cn : Nat) (Wt : Nat → Nat → Int32) (fh : Nat → Int32) : Prop := cn ≤ 8 ∧ (∀ i j, i < 8 → j < 8 → fh (8 * i + j) = Wt i j) ∧ ∀ i j, cn ≤ i ∨ cn ≤ j → Wt i j = nI 0
def ob_Jf (n mn cn : Nat) (st : Int32) (mk : Nat) (fm : Nat → Int32) : Prop := fm 0 = nI n ∧ fm 1 = nI mn ∧ fm 2 = nI cn ∧ fm 3 = st ∧ fm 5 = nI mk
-- ===== clocks
theorem ob_km0 {M : Nat → Nat → Int32} {a : Nat} (hM : ob_KM M) (ha : a ≤ 4) : M a a = 0 := by
  rw [ob_eqi, ob_0I]
  exact hM.1.1 a ha
theorem ob_kmU {M : Nat → Nat → Int32} {a b : Nat} (hM : ob_KM M) (ha : a ≤ 4) (hb : b ≤ 4) (h : M a b = 1000000) : M b a = 1000000 := by
  rw [ob_eqi, ob_UI] at h ⊢
  have h1 := hM.1.2.1 b a hb ha
  have h2 := hM.2.1 b a hb ha
  simp only [ob_mI] at h1 h2
  rcases Int.lt_or_le (M b a).toInt 1000000 with q | q
  · have := h2 q
    omega
  · omega
theorem ob_kmL {M : Nat → Nat → Int32} {a b : Nat} (hM : ob_KM M) (ha : a ≤ 4) (hb : b ≤ 4) (h : ¬ M a b = 1000000) : (M a b).toInt < 1000000 := by
  have h1 := hM.1.2.1 a b ha hb
  simp only [ob_mI] at h1
  rw [ob_eqi, ob_UI] at h
  omega
theorem ob_kmT {M : Nat → Nat → Int32} {a b c : Nat} (hM : ob_KM M) (ha : a ≤ 4) (hb : b ≤ 4) (hc : c ≤ 4) (h1 : ¬ M a c = 1000000) (h2 : ¬ M c b = 1000000) : ¬ M a c + M c b < M a b := by
  have l1 := ob_kmL hM ha hc h1
  have l2 := ob_kmL hM hc hb h2
  have t := hM.1.2.2.2 a c b ha hc hb l1 l2
  have b1 := hM.1.2.2.1 a c ha hc l1
  have b2 := hM.1.2.2.1 c b hc hb l2
  simp only [ob_mI] at t b1 b2
  rw [ob_lti, ob_addI (by omega) (by omega)]
  omega
theorem ob_kmN {M : Nat → Nat → Int32} {a b : Nat} (hM : ob_KM M) (ha : a ≤ 4) (hb : b ≤ 4) (h1 : ¬ M a b = 1000000) : ¬ M a b + M b a < 0 := by
  have h2 : ¬ M b a = 1000000 := fun q => h1 (ob_kmU hM hb ha q)
  have l1 := ob_kmL hM ha hb h1
  have l2 := ob_kmL hM hb ha h2
  have t := hM.1.2.2.2 a b a ha hb ha l1 l2
  have b1 := hM.1.2.2.1 a b ha hb l1
  have b2 := hM.1.2.2.1 b a hb ha l2
  have z := hM.1.1 a ha
  simp only [ob_mI] at t b1 b2 z
  rw [ob_lti, ob_addI (by omega) (by omega), ob_0I]
  omega
theorem ob_mk1 {w : Int32} {z a b : Nat} (ha : a ≤ 10000) (hb : b ≤ 10000) (hz : z ≤ 1000) (h : w.toInt ≤ (z : Int) - a + b) : ¬ nI z - nI a + nI b < w := by
  have t1 := ob_ti (show a ≤ 1073741824 by omega)
  have t2 := ob_ti (show b ≤ 1073741824 by omega)
  have t3 := ob_ti (show z ≤ 1073741824 by omega)
  have u : (nI z - nI a).toInt = z - a := by rw [ob_subI (by omega) (by omega)]; omega
  rw [ob_lti, ob_addI (by omega) (by omega)]
  omega
theorem ob_mk2 {w : Int32} {z a b : Nat} (ha : a ≤ 10000) (hb : b ≤ 10000) (hz : z ≤ 1000) (h : w.toInt ≤ (z : Int) + a - b) : ¬ nI (z + a) - nI b < w := by
  have t1 := ob_ti (show z + a ≤ 1073741824 by omega)
  have t2 := ob_ti (show b ≤ 1073741824 by omega)
  rw [ob_lti, ob_subI (by omega) (by omega)]
  omega
