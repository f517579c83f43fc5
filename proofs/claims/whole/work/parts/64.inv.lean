-- ===== what holds between two calls
def ob_kc (cl : Nat → Int32) : Nat → Nat := fun j => (cl j).toNatClampNeg
def ob_IL (k : Nat) (M : Nat → Nat → Int32) (Bd : Nat → Int32) (n : Nat) (cl rd sv pb ba bf od : Nat → Int32) (rn : Nat) (rcl rrd rsv rpb wf wa : Nat → Int32) : Prop :=
  n = rn ∧ cl = rcl ∧ rd = rrd ∧ sv = rsv ∧ pb = rpb ∧ n ≤ 30 ∧ ob_KM M ∧ (∀ a b, a ≤ 4 → b ≤ 4 → M a b = Bd (5 * a + b)) ∧ (∀ j, cl j = nI (ob_kc cl j) ∧ ob_kc cl j ≤ 4) ∧ ob_rdk rd ∧ ob_wk (100 * k) ba wf wa ∧ (∀ j, j < n → bf j = ob_bs (fun i => ob_se M cl rd i j) n) ∧ (∀ j, j < n → od j = ob_nl bf n (ob_lf bf n j))
def ob_IM (mn : Nat) (ms mf mt mp : Nat → Int32) (rmn : Nat) (rms rmf rmt rmp : Nat → Int32) : Prop := mn = rmn ∧ ms = rms ∧ mf = rmf ∧ mt = rmt ∧ mp = rmp ∧ mn ≤ 40 ∧ ob_mm mn mf mt
def ob_IC (cn : Nat) (st : Int32) (Wt : Nat → Nat → Int32) (rcn : Nat) (sd V : Nat → Int32) : Prop := cn = rcn ∧ cn ≤ 16 ∧ (∀ i j, i < 16 → j < 16 → Wt i j = V (16 * i + j)) ∧ (∀ i j, i < 16 → j < 16 → cn ≤ i ∨ cn ≤ j → V (16 * i + j) = 0) ∧ (∀ j, sd j = ob_bi (!decide (sd j = 0))) ∧ (∀ l, l < cn → ob_bx st l = !decide (sd l = 0))
theorem ob_IL_s {k : Nat} {M : Nat → Nat → Int32} {Bd : Nat → Int32} {n : Nat} {cl rd sv pb ba bf od : Nat → Int32} {rn : Nat} {rcl rrd rsv rpb wf wa : Nat → Int32} (h : ob_IL k M Bd n cl rd sv pb ba bf od rn rcl rrd rsv rpb wf wa) : ob_IL (k + 1) M Bd n cl rd sv pb ba bf od rn rcl rrd rsv rpb wf wa := by
  obtain ⟨h1, h2, h3, h4, h5, h6, h7, h8, h9, h10, h11, h12⟩ := h
  exact ⟨h1, h2, h3, h4, h5, h6, h7, h8, h9, h10, fun j => by obtain ⟨p, q, a, b, c⟩ := h11 j; exact ⟨p, q, by omega, by omega, c⟩, h12⟩
theorem ob_z2_0 {b c : Bool} : ob_z2 b c = 0 ↔ (b && c) = true := by cases b <;> cases c <;> decide
theorem ob_z1_0 {b : Bool} : ob_z1 b = 0 ↔ b = true := by cases b <;> decide
theorem ob_z1_01 {b : Bool} : ob_z1 b ≤ 1 := by cases b <;> decide
theorem ob_lt30 {n m : Nat} (h : n ≤ m) : decide (n < m) = !decide (n = m) := by
  rw [← decide_not]
  exact decide_eq_decide.mpr ⟨fun h => by omega, fun h => by omega⟩
section
variable {k : Nat} {M : Nat → Nat → Int32} {Bd Tr : Nat → Int32} {n : Nat} {cl rd sv pb ba bf od wf wa : Nat → Int32} {x x1 x2 x3 x4 x5 : Int32}
theorem ob_ar (MK : Nat → Nat → Int32) (cl rd : Nat → Int32) (n : Nat) (bf od : Nat → Int32) : (∀ j, j < n → ob_bf2 MK cl rd n bf n j = ob_bs (fun i => ob_se MK cl rd i j) n) ∧ ∀ j, j < n → ob_od2 (ob_bf2 MK cl rd n bf n) n od n j = ob_nl (ob_bf2 MK cl rd n bf n) n (ob_lf (ob_bf2 MK cl rd n bf n) n j) :=
  ⟨fun j hj => ob_fl_in hj, fun j hj => ob_fl_in hj⟩
theorem ob_q_mark (hL : ob_IL k M Bd n cl rd sv pb ba bf od n cl rd sv pb wf wa) :
    ob_z2 (ob_bK x1 x2 x3 x4 x5) (decide (-(x4 - x2 + x5) ≤ ob_ms M x3 x1) && decide (-(x5 - (x4 - x2)) ≤ ob_ms M x1 x3)) = ob_z2 (ob_okm x1 x2 x3 x4 x5) (ob_cn (ob_T9 Bd Tr x1.toNatClampNeg x3.toNatClampNeg x2 x4 x5) 5) ∧
    ob_IL (k + 1) (if ob_z2 (ob_okm x1 x2 x3 x4 x5) (ob_cn (ob_T9 Bd Tr x1.toNatClampNeg x3.toNatClampNeg x2 x4 x5) 5) = 0 then ob_mk M x1.toNatClampNeg x3.toNatClampNeg x2 x4 x5 else M) (if ob_okm x1 x2 x3 x4 x5 && ob_cn (ob_T9 Bd Tr x1.toNatClampNeg x3.toNatClampNeg x2 x4 x5) 5 then ob_fl (ob_T9 Bd Tr x1.toNatClampNeg x3.toNatClampNeg x2 x4 x5) Bd 25 else Bd) n cl rd sv pb ba (if ob_z2 (ob_okm x1 x2 x3 x4 x5) (ob_cn (ob_T9 Bd Tr x1.toNatClampNeg x3.toNatClampNeg x2 x4 x5) 5) = 0 then ob_bf2 (ob_mk M x1.toNatClampNeg x3.toNatClampNeg x2 x4 x5) cl rd n bf n else bf) (if ob_z2 (ob_okm x1 x2 x3 x4 x5) (ob_cn (ob_T9 Bd Tr x1.toNatClampNeg x3.toNatClampNeg x2 x4 x5) 5) = 0 then ob_od2 (ob_bf2 (ob_mk M x1.toNatClampNeg x3.toNatClampNeg x2 x4 x5) cl rd n bf n) n od n else od) n cl rd sv pb wf wa := by
  obtain ⟨g1, g2, g3, g4, g5, h6, h7, h8, h9, h10, h11, h12, h13⟩ := ob_IL_s hL
  obtain ⟨p1, p2, p3⟩ := ob_pmark (Tr := Tr) (x1 := x1) (x2 := x2) (x3 := x3) (x4 := x4) (x5 := x5) h7 h8
  refine ⟨p1, ?_⟩
  generalize ob_z2 (ob_okm x1 x2 x3 x4 x5) (ob_cn (ob_T9 Bd Tr x1.toNatClampNeg x3.toNatClampNeg x2 x4 x5) 5) = z at *
  generalize (if ob_okm x1 x2 x3 x4 x5 && ob_cn (ob_T9 Bd Tr x1.toNatClampNeg x3.toNatClampNeg x2 x4 x5) 5 then ob_fl (ob_T9 Bd Tr x1.toNatClampNeg x3.toNatClampNeg x2 x4 x5) Bd 25 else Bd) = B' at *
  by_cases hz : z = 0
  · simp only [hz, if_true]
    obtain ⟨q1, q2⟩ := p2 hz
    obtain ⟨a1, a2⟩ := ob_ar (ob_mk M x1.toNatClampNeg x3.toNatClampNeg x2 x4 x5) cl rd n bf od
    exact ⟨rfl, rfl, rfl, rfl, rfl, h6, q1, q2, h9, h10, h11, a1, a2⟩
  · simp only [hz, if_false]
    rw [p3 hz]
    exact ⟨rfl, rfl, rfl, rfl, rfl, h6, h7, h8, h9, h10, h11, h12, h13⟩
theorem ob_q_greatest (hL : ob_IL k M Bd n cl rd sv pb ba bf od n cl rd sv pb wf wa) (hz : ob_z1 (ob_wi x1 (nI 0) (nI 4) && ob_wi x2 (nI 0) (nI 4)) = 0) : (if ob_wi x1 (nI 0) (nI 4) && ob_wi x2 (nI 0) (nI 4) then Bd (5 * x1.toNatClampNeg + x2.toNatClampNeg) else nI 0) = ob_ms M x1 x2 := by
  obtain ⟨g1, g2, g3, g4, g5, h6, h7, h8, h9, h10, h11, h12, h13⟩ := hL
  have ht := ob_z1_0.mp hz
  rw [if_pos ht]
  obtain ⟨a, b⟩ := ob_and2 ht
  obtain ⟨j1, q1, rfl⟩ := ob_wi_t a
  obtain ⟨j2, q2, rfl⟩ := ob_wi_t b
  rw [ob_ms_nI q1 q2, ob_cl (by omega), ob_cl (by omega), h8 j1 j2 q1 q2]
theorem ob_q_write {b4 : Bool} (hL : ob_IL k M Bd n cl rd sv pb ba bf od n cl rd sv pb wf wa) {bW : Bool} (eW : bW = (ob_wi x1 (nI 0) (nI 4) && (ob_wi x2 (nI 0) (nI 10000) && ob_wi x3 (nI 0) (nI 5)))) :
    ob_z2 bW (decide (n < 30)) = ob_z2 bW (!decide (n = 30)) ∧
    ob_IL (k + 1) M Bd (if ob_z2 bW (!decide (n = 30)) = 0 then n + 1 else n) (if ob_z2 bW (!decide (n = 30)) = 0 then upd cl n x1 else cl) (if ob_z2 bW (!decide (n = 30)) = 0 then upd rd n x2 else rd) (if ob_z2 bW (!decide (n = 30)) = 0 then upd sv n x3 else sv) (if ob_z2 bW (!decide (n = 30)) = 0 then upd pb n (ob_bi b4) else pb) ba (if ob_z2 bW (!decide (n = 30)) = 0 then ob_bf2 M (upd cl n x1) (upd rd n x2) (n + 1) bf (n + 1) else bf) (if ob_z2 bW (!decide (n = 30)) = 0 then ob_od2 (ob_bf2 M (upd cl n x1) (upd rd n x2) (n + 1) bf (n + 1)) (n + 1) od (n + 1) else od)
      (if bW && !decide (n = 30) then n + 1 else n) (if bW && !decide (n = 30) then upd cl n x1 else cl) (if bW && !decide (n = 30) then upd rd n x2 else rd) (if bW && !decide (n = 30) then upd sv n x3 else sv) (if bW && !decide (n = 30) then upd pb n (ob_bi b4) else pb) wf wa ∧
    (ob_z2 bW (!decide (n = 30)) = 0 → (if bW && !decide (n = 30) then nI n else nI 0) = nI n) := by
  obtain ⟨g1, g2, g3, g4, g5, h6, h7, h8, h9, h10, h11, h12, h13⟩ := ob_IL_s hL
  rw [ob_lt30 h6]
  refine ⟨rfl, ?_, fun hz => if_pos (ob_z2_0.mp hz)⟩
  by_cases hz : (bW && !decide (n = 30)) = true
  · simp only [ob_z2_0.mpr hz, hz, if_true]
    obtain ⟨w, w30⟩ := ob_and2 hz
    rw [eW] at w
    obtain ⟨w1, w⟩ := ob_and2 w
    obtain ⟨w2, w3⟩ := ob_and2 w
    obtain ⟨j1, q1, e1⟩ := ob_wi_t w1
    obtain ⟨j2, q2, e2⟩ := ob_wi_t w2
    have n30 : ¬ n = 30 := by simpa using w30
    obtain ⟨a1, a2⟩ := ob_ar M (upd cl n x1) (upd rd n x2) (n + 1) bf od
    refine ⟨rfl, rfl, rfl, rfl, rfl, by omega, h7, h8, fun j => ?_, fun j => ?_, h11, a1, a2⟩
    · unfold ob_kc upd
      by_cases e : j = n
      · simp only [e, if_true]
        rw [e1, ob_cl (by omega)]
        exact ⟨rfl, q1⟩
      · simp only [e, if_false]
        exact h9 j
    · unfold upd
      by_cases e : j = n
      · simp only [e, if_true]
        exact ⟨j2, q2, e2⟩
      · simp only [e, if_false]
        exact h10 j
  · have hz' : ¬ ob_z2 bW (!decide (n = 30)) = 0 := fun z => hz (ob_z2_0.mp z)
    simp only [hz', hz, if_false]
    exact ⟨rfl, rfl, rfl, rfl, rfl, h6, h7, h8, h9, h10, h11, h12, h13⟩
theorem ob_q_mustComeBefore (hL : ob_IL k M Bd n cl rd sv pb ba bf od n cl rd sv pb wf wa) (hz : ob_z1 (ob_hd n x1 && ob_hd n x2) = 0) : ((ob_hd n x1 && ob_hd n x2) && ob_sb Bd (ob_kc cl) rd x1.toNatClampNeg x2.toNatClampNeg) = (ob_hd n x2 && ob_hb (bf x2.toNatClampNeg) x1) := by
  obtain ⟨g1, g2, g3, g4, g5, h6, h7, h8, h9, h10, h11, h12, h13⟩ := hL
  have ht := ob_z1_0.mp hz
  obtain ⟨a, b⟩ := ob_and2 ht
  obtain ⟨j1, q1, rfl⟩ := ob_hd_t a
  obtain ⟨j2, q2, rfl⟩ := ob_hd_t b
  rw [a, b, ob_cl (by omega), ob_cl (by omega), ob_hb_bx (by omega), h12 j2 q2, ob_bx_bs _ (by omega) (by omega), decide_eq_true q1, ob_seb h7 h8 h9]
  rfl
theorem ob_q_pm (hL : ob_IL k M Bd n cl rd sv pb ba bf od n cl rd sv pb wf wa) (ro : Nat → Int32) : ∃ pm : Nat → Nat, (∀ j, j < n → od j = nI (pm j) ∧ pm j < n) ∧ (∀ j, j < n → ob_ro2 Bd (ob_kc cl) rd n ro n j = nI (pm j) ∧ pm j < n) ∧ ∀ p : Nat → Bool, ob_ct (fun j => p (pm j)) n = ob_ct p n := by
  obtain ⟨g1, g2, g3, g4, g5, h6, h7, h8, h9, h10, h11, h12, h13⟩ := hL
  obtain ⟨pm, p1, p2, p3⟩ := ob_pm h6 h7 h8 h9 h10 h12
  refine ⟨pm, fun j hj => ⟨(h13 j hj).trans (p1 j hj).1, (p1 j hj).2⟩, fun j hj => ⟨?_, (p1 j hj).2⟩, p3⟩
  exact (ob_fl_in hj).trans (p2 j hj)
theorem ob_q_lineAt (hL : ob_IL k M Bd n cl rd sv pb ba bf od n cl rd sv pb wf wa) {ro : Nat → Int32} (hz : ob_z1 (ob_hd n x) = 0) : (if ob_hd n x then ob_ro2 Bd (ob_kc cl) rd n ro n x.toNatClampNeg else nI 0) = ob_at n od x := by
  obtain ⟨pm, p1, p2, -⟩ := ob_q_pm hL ro
  have h6 := hL.2.2.2.2.2.1
  have ht := ob_z1_0.mp hz
  obtain ⟨j, q, rfl⟩ := ob_hd_t ht
  rw [if_pos ht, ob_at_nI q, ob_cl (by omega), (p1 j q).1, (p2 j q).1]
theorem ob_q_orders (hL : ob_IL k M Bd n cl rd sv pb ba bf od n cl rd sv pb wf wa) {ah : Nat → Int32} {bg ct : Nat → Int64} (hz : ob_z1 (decide (n ≤ 12)) = 0) : (if decide (n ≤ 12) then ob_ccO (ob_ah2 Bd (ob_kc cl) rd n ah n) n ct (2 ^ n) (2 ^ n - 1) else lN 0) = ob_F bf n bg (2 ^ n) (2 ^ n - 1) := by
  obtain ⟨g1, g2, g3, g4, g5, h6, h7, h8, h9, h10, h11, h12, h13⟩ := hL
  have ht := ob_z1_0.mp hz
  rw [if_pos ht]
  exact ob_porders (of_decide_eq_true ht) h7 h8 h9 h12
theorem ob_wi1 {y : Int32} (h : ob_wi y (nI 1) (nI 100) = true) : ∃ w : Nat, 1 ≤ w ∧ w ≤ 100 ∧ y = nI w := by
  obtain ⟨a, b⟩ := ob_and2 h
  have a := ob_lei.mp (of_decide_eq_true a)
  have b := ob_lei.mp (of_decide_eq_true b)
  rw [ob_ti (by decide)] at a b
  obtain ⟨j, hj, rfl⟩ := ob_toI (x := y) (n := 100) (by omega) b (by decide)
  rw [ob_ti (by omega)] at a
  exact ⟨j, by omega, hj, rfl⟩
theorem ob_q_argue {b3 : Bool} (hk : k ≤ 1000) (hL : ob_IL k M Bd n cl rd sv pb ba bf od n cl rd sv pb wf wa) :
    ob_IL (k + 1) M Bd n cl rd sv pb (if ob_z2 (ob_hd n x1) (ob_wi x2 (nI 1) (nI 100)) = 0 then upd ba x1.toNatClampNeg (ba x1.toNatClampNeg + if b3 then x2 else -x2) else ba) bf od n cl rd sv pb (if ob_hd n x1 && ob_wi x2 (nI 1) (nI 100) then upd wf x1.toNatClampNeg (wf x1.toNatClampNeg + if b3 then x2 else nI 0) else wf) (if ob_hd n x1 && ob_wi x2 (nI 1) (nI 100) then upd wa x1.toNatClampNeg (wa x1.toNatClampNeg + if b3 then nI 0 else x2) else wa) ∧
    (ob_z2 (ob_hd n x1) (ob_wi x2 (nI 1) (nI 100)) = 0 → (if ob_hd n x1 && ob_wi x2 (nI 1) (nI 100) then (wf x1.toNatClampNeg + if b3 then x2 else nI 0) - (wa x1.toNatClampNeg + if b3 then nI 0 else x2) else nI 0) = ba x1.toNatClampNeg + if b3 then x2 else -x2) := by
  obtain ⟨g1, g2, g3, g4, g5, h6, h7, h8, h9, h10, h11, h12, h13⟩ := hL
  have bal : ∀ j, (wf j + if b3 then x2 else nI 0) - (wa j + if b3 then nI 0 else x2) = ba j + if b3 then x2 else -x2 := fun j => by
    obtain ⟨p, q, -, -, -, -, e⟩ := h11 j
    rw [e]
    cases b3
    · simp only [Bool.false_eq_true, if_false, ob_n0, Int32.add_zero, Int32.sub_eq_add_neg, Int32.neg_add]
      rw [Int32.add_assoc]
    · simp only [if_true, ob_n0, Int32.add_zero, Int32.sub_eq_add_neg]
      rw [Int32.add_assoc, Int32.add_assoc, Int32.add_comm x2]
  refine ⟨?_, fun hz => by rw [if_pos (ob_z2_0.mp hz)]; exact bal _⟩
  by_cases hz : (ob_hd n x1 && ob_wi x2 (nI 1) (nI 100)) = true
  · simp only [ob_z2_0.mpr hz, hz, if_true]
    obtain ⟨w, hw1, hw2, rfl⟩ := ob_wi1 (ob_and2 hz).2
    refine ⟨rfl, rfl, rfl, rfl, rfl, h6, h7, h8, h9, h10, fun j => ?_, h12, h13⟩
    obtain ⟨p, q, hp, hq, e1, e2, e3⟩ := h11 j
    unfold upd
    by_cases e : j = x1.toNatClampNeg
    · simp only [e, if_true]
      have bl := bal j
      rw [← e, e1, e2] at *
      refine ⟨if b3 then p + w else p, if b3 then q else q + w, ?_, ?_, ?_, ?_, bl.symm⟩
      · cases b3 <;> simp <;> omega
      · cases b3 <;> simp <;> omega
      · cases b3
        · simp [ob_n0]
        · simp only [if_true]; rw [nI_add]
      · cases b3
        · simp only [Bool.false_eq_true, if_false]; rw [nI_add]
        · simp [ob_n0]
    · simp only [e, if_false]
      exact ⟨p, q, by omega, by omega, e1, e2, e3⟩
  · have hz' : ¬ ob_z2 (ob_hd n x1) (ob_wi x2 (nI 1) (nI 100)) = 0 := fun z => hz (ob_z2_0.mp z)
    simp only [hz', hz, if_false]
    exact ⟨rfl, rfl, rfl, rfl, rfl, h6, h7, h8, h9, h10, fun j => by obtain ⟨p, q, a, b, c⟩ := h11 j; exact ⟨p, q, by omega, by omega, c⟩, h12, h13⟩
theorem ob_q_isDoubtful (hk : k ≤ 1000) (hL : ob_IL k M Bd n cl rd sv pb ba bf od n cl rd sv pb wf wa) : (ob_hd n x && decide (wf x.toNatClampNeg < wa x.toNatClampNeg)) = (ob_hd n x && decide (ba x.toNatClampNeg < 0)) := by
  rw [ob_dbt (K := 100 * k) (by omega) hL.2.2.2.2.2.2.2.2.2.2.1]
theorem ob_q_story (hk : k ≤ 1000) (hL : ob_IL k M Bd n cl rd sv pb ba bf od n cl rd sv pb wf wa) : nI (ob_ct (ob_os pb wf wa) n) = nI (ob_ct (ob_is n pb ba od) n) := by
  obtain ⟨pm, p1, p2, p3⟩ := ob_q_pm hL (fun _ => 0)
  rw [ob_pstory (K := 100 * k) hL.2.2.2.2.2.1 (by omega) hL.2.2.2.2.2.2.2.2.2.2.1 p1 p3]
theorem ob_q_earliest (hL : ob_IL k M Bd n cl rd sv pb ba bf od n cl rd sv pb wf wa) (hz : ob_z1 (ob_hd n x) = 0) : (if ob_hd n x then (if Bd (ob_kc cl x.toNatClampNeg) = 1000000 then -1000000 else rd x.toNatClampNeg - Bd (ob_kc cl x.toNatClampNeg)) else nI 0) = ob_et n M cl rd x := by
  obtain ⟨g1, g2, g3, g4, g5, h6, h7, h8, h9, h10, h11, h12, h13⟩ := hL
  have ht := ob_z1_0.mp hz
  unfold ob_et
  rw [if_pos ht, if_pos ht]
  obtain ⟨j, q, rfl⟩ := ob_hd_t ht
  rw [ob_cl (by omega), (h9 j).1, ob_ms_nI (by omega) (h9 j).2]
  have e := h8 0 (ob_kc cl j) (by omega) (h9 j).2
  rw [Nat.mul_zero, Nat.zero_add] at e
  rw [e]
  have h1 := h7.1.2.1 0 (ob_kc cl j) (by omega) (h9 j).2
  simp only [ob_mI, e] at h1
  by_cases c : Bd (ob_kc cl j) = 1000000
  · rw [if_pos c, if_pos (by rw [c]; exact Int32.le_refl _)]
  · rw [if_neg c, if_neg (fun z => c (by rw [ob_lei, ob_UI] at z; rw [ob_eqi, ob_UI]; omega))]
end
section
variable {mn : Nat} {ms mf mt mp : Nat → Int32} {x1 x2 x3 x4 : Int32}
theorem ob_q_measure (hM : ob_IM mn ms mf mt mp mn ms mf mt mp) :
    ob_z2 (ob_wi x1 (nI 0) (nI 5) && (ob_wi x4 (nI 0) (nI 100) && (ob_wi x2 (nI 0) (nI 10000) && ob_wi x3 x2 (nI 10000)))) (decide (mn < 40)) = ob_z2 (ob_wi x1 (nI 0) (nI 5) && (ob_wi x2 (nI 0) (nI 10000) && (ob_wi x3 x2 (nI 10000) && ob_wi x4 (nI 0) (nI 100)))) (!decide (mn = 40)) ∧
    ∀ bM : Bool, bM = (ob_wi x1 (nI 0) (nI 5) && (ob_wi x2 (nI 0) (nI 10000) && (ob_wi x3 x2 (nI 10000) && ob_wi x4 (nI 0) (nI 100)))) →
    ob_IM (if ob_z2 bM (!decide (mn = 40)) = 0 then mn + 1 else mn) (if ob_z2 bM (!decide (mn = 40)) = 0 then upd ms mn x1 else ms) (if ob_z2 bM (!decide (mn = 40)) = 0 then upd mf mn x2 else mf) (if ob_z2 bM (!decide (mn = 40)) = 0 then upd mt mn x3 else mt) (if ob_z2 bM (!decide (mn = 40)) = 0 then upd mp mn x4 else mp)
      (if bM && !decide (mn = 40) then mn + 1 else mn) (if bM && !decide (mn = 40) then upd ms mn x1 else ms) (if bM && !decide (mn = 40) then upd mf mn x2 else mf) (if bM && !decide (mn = 40) then upd mt mn x3 else mt) (if bM && !decide (mn = 40) then upd mp mn x4 else mp) ∧
    (ob_z2 bM (!decide (mn = 40)) = 0 → (if bM && !decide (mn = 40) then nI mn else nI 0) = nI mn) := by
  obtain ⟨-, -, -, -, -, h6, h7⟩ := hM
  refine ⟨?_, fun bM eM => ⟨?_, fun hz => if_pos (ob_z2_0.mp hz)⟩⟩
  · rw [ob_lt30 h6]
    congr 1
    cases ob_wi x1 (nI 0) (nI 5) <;> cases ob_wi x4 (nI 0) (nI 100) <;> cases ob_wi x2 (nI 0) (nI 10000) <;> cases ob_wi x3 x2 (nI 10000) <;> rfl
  · by_cases hz : (bM && !decide (mn = 40)) = true
    · simp only [ob_z2_0.mpr hz, hz, if_true]
      obtain ⟨w, w40⟩ := ob_and2 hz
      rw [eM] at w
      obtain ⟨w1, w⟩ := ob_and2 w
      obtain ⟨w2, w⟩ := ob_and2 w
      obtain ⟨w3, w4⟩ := ob_and2 w
      obtain ⟨f, q2, e2⟩ := ob_wi_t w2
      have n40 : ¬ mn = 40 := by simpa using w40
      obtain ⟨a, b⟩ := ob_and2 w3
      have a := ob_lei.mp (of_decide_eq_true a)
      have b := ob_lei.mp (of_decide_eq_true b)
      rw [e2, ob_ti (by omega)] at a
      rw [ob_ti (by decide)] at b
      obtain ⟨t, ht, e3⟩ := ob_toI (x := x3) (n := 10000) (by omega) b (by decide)
      rw [e3, ob_ti (by omega)] at a
      refine ⟨rfl, rfl, rfl, rfl, rfl, by omega, fun j hj => ?_⟩
      unfold upd
      by_cases e : j = mn
      · simp only [e, if_true]
        exact ⟨f, t, by omega, ht, e2, e3⟩
      · simp only [e, if_false]
        exact h7 j (by omega)
    · have hz' : ¬ ob_z2 bM (!decide (mn = 40)) = 0 := fun z => hz (ob_z2_0.mp z)
      simp only [hz', hz, if_false]
      exact ⟨rfl, rfl, rfl, rfl, rfl, h6, h7⟩
end
section
variable {cn : Nat} {st : Int32} {Wt : Nat → Nat → Int32} {sd V : Nat → Int32} {x x1 x2 x3 : Int32}
theorem ob_bi_d (b : Bool) : (!decide (ob_bi b = 0)) = b := by cases b <;> decide
theorem ob_q_addCause (hC : ob_IC cn st Wt cn sd V) : ob_z1 (decide (cn < 16)) = ob_z1 (!decide (cn = 16)) ∧ ob_IC (if ob_z1 (!decide (cn = 16)) = 0 then cn + 1 else cn) (if ob_z1 (!decide (cn = 16)) = 0 then st ||| ob_bit (nI cn) else st) Wt (if !decide (cn = 16) then cn + 1 else cn) (if !decide (cn = 16) then upd sd cn (ob_bi true) else sd) V ∧ (ob_z1 (!decide (cn = 16)) = 0 → (if !decide (cn = 16) then nI cn else nI 0) = nI cn) := by
  obtain ⟨-, h2, h3, h4, h5, h6⟩ := hC
  rw [ob_lt30 h2]
  refine ⟨rfl, ?_, fun hz => if_pos (ob_z1_0.mp hz)⟩
  by_cases hz : (!decide (cn = 16)) = true
  · have z0 : ob_z1 true = 0 := rfl
    simp only [ob_z1_0.mpr hz, hz, z0, if_true]
    have n16 : ¬ cn = 16 := by simpa using hz
    refine ⟨rfl, by omega, h3, fun i j hi hj h => h4 i j hi hj (by omega), fun j => ?_, fun l hl => ?_⟩
    · unfold upd
      split
      · exact congrArg ob_bi (ob_bi_d true).symm
      · exact h5 j
    · rw [ob_bx_or, ob_bx_bit (by omega) (by omega)]
      unfold upd
      by_cases e : l = cn
      · simp only [e, if_true]
        rw [ob_bi_d]
        simp
      · rw [if_neg e, h6 l (by omega)]
        simp [e]
  · have hz' : ¬ ob_z1 (!decide (cn = 16)) = 0 := fun z => hz (ob_z1_0.mp z)
    simp only [hz', hz, if_false]
    exact ⟨rfl, h2, h3, h4, h5, h6⟩
theorem ob_z4_0 {b c r : Bool} : ob_z4 b c r = 0 ↔ ((b && c) = true ∧ r = false) := by cases b <;> cases c <;> cases r <;> decide
theorem ob_q_argueReason (hC : ob_IC cn st Wt cn sd V) {z : Nat} (hzz : z = (if (ob_hd cn x1 && ob_hd cn x2) && (ob_wi x3 (nI 0) (nI 100) && !decide (x1 = x2)) then ob_z3 ((!decide (x3 ≤ 0)) && ob_hb (ob_rr V sd x2 false 4096) x1) else ob_z2 (ob_hd cn x1 && ob_hd cn x2) (ob_wi x3 (nI 0) (nI 100) && !decide (x1 = x2)))) :
    ob_z4 (ob_hd cn x1 && ob_hd cn x2) (!decide (x1 = x2) && ob_wi x3 (nI 0) (nI 100)) ((!decide (x3 ≤ 0)) && ob_hb (ob_rcO Wt cn (ob_bit (nI cn) - nI 1) x2 cn) x1) = z ∧
    ob_IC cn st (if z = 0 then ob_up2 Wt x1.toNatClampNeg x2.toNatClampNeg x3 else Wt) cn sd (if (ob_hd cn x1 && ob_hd cn x2) && (ob_wi x3 (nI 0) (nI 100) && !decide (x1 = x2)) then (if (!decide (x3 ≤ 0)) && ob_hb (ob_rr V sd x2 false 4096) x1 then V else upd V (16 * x1.toNatClampNeg + x2.toNatClampNeg) x3) else V) ∧
    (z = 0 → (if (ob_hd cn x1 && ob_hd cn x2) && (ob_wi x3 (nI 0) (nI 100) && !decide (x1 = x2)) then (if (!decide (x3 ≤ 0)) && ob_hb (ob_rr V sd x2 false 4096) x1 then nI 0 else V (16 * x1.toNatClampNeg + x2.toNatClampNeg)) else nI 0) = Wt x1.toNatClampNeg x2.toNatClampNeg) := by
  obtain ⟨-, h2, h3, h4, h5, h6⟩ := hC
  cases hb : (ob_hd cn x1 && ob_hd cn x2) with
  | false =>
    rw [hb] at hzz
    simp only [Bool.false_and, Bool.false_eq_true, if_false] at hzz ⊢
    have z1 : z = 1 := hzz
    subst z1
    exact ⟨rfl, ⟨rfl, h2, h3, h4, h5, h6⟩, fun h => by cases h⟩
  | true =>
    obtain ⟨b1, b2⟩ := ob_and2 hb
    obtain ⟨j1, q1, rfl⟩ := ob_hd_t b1
    obtain ⟨j2, q2, rfl⟩ := ob_hd_t b2
    have er : ob_rcO Wt cn (ob_bit (nI cn) - nI 1) (nI j2) cn = ob_rr V sd (nI j2) false 4096 := ob_preach h2 h3 h4 (fun l hl => by rw [ob_bx_all (by omega) (by omega), decide_eq_true hl]; simp) q2
    rw [er]
    rw [hb] at hzz
    cases hc : ob_wi x3 (nI 0) (nI 100) && !decide (nI j1 = nI j2) with
    | false =>
      rw [hc] at hzz
      have hc' : (!decide (nI j1 = nI j2) && ob_wi x3 (nI 0) (nI 100)) = false := by rw [Bool.and_comm]; exact hc
      rw [hc']
      have z1 : z = 2 := hzz
      subst z1
      exact ⟨rfl, ⟨rfl, h2, h3, h4, h5, h6⟩, fun h => by cases h⟩
    | true =>
      rw [hc] at hzz
      have hc' : (!decide (nI j1 = nI j2) && ob_wi x3 (nI 0) (nI 100)) = true := by rw [Bool.and_comm]; exact hc
      rw [hc']
      generalize ((!decide (x3 ≤ 0)) && ob_hb (ob_rr V sd (nI j2) false 4096) (nI j1)) = r at *
      cases r with
      | true =>
        have z1 : z = 3 := hzz
        subst z1
        exact ⟨rfl, ⟨rfl, h2, h3, h4, h5, h6⟩, fun h => by cases h⟩
      | false =>
        have z1 : z = 0 := hzz
        subst z1
        rw [ob_cl (show j1 ≤ 1073741824 by omega), ob_cl (show j2 ≤ 1073741824 by omega)]
        refine ⟨rfl, ?_, fun _ => (h3 j1 j2 (by omega) (by omega)).symm⟩
        simp only [Bool.and_self, if_true, Bool.false_eq_true, if_false]
        refine ⟨rfl, h2, fun i j hi hj => ?_, fun i j hi hj h => ?_, h5, h6⟩
        · unfold ob_up2 upd
          by_cases e1 : i = j1
          · by_cases e2 : j = j2
            · simp [e1, e2]
            · rw [if_pos e1, if_neg e2, if_neg (by omega), ← e1]; exact h3 i j hi hj
          · rw [if_neg e1, if_neg (by omega)]; exact h3 i j hi hj
        · unfold upd
          rw [if_neg (by omega)]; exact h4 i j hi hj h
theorem ob_q_setStanding {b2 : Bool} (hC : ob_IC cn st Wt cn sd V) : ob_IC cn (if ob_z1 (ob_hd cn x) = 0 then (if b2 then st ||| ob_bit x else st &&& (ob_bit x ^^^ (-1))) else st) Wt cn (if ob_hd cn x then upd sd x.toNatClampNeg (ob_bi b2) else sd) V ∧ (ob_z1 (ob_hd cn x) = 0 → (ob_hd cn x && (fun j => !decide (sd j = 0)) x.toNatClampNeg) = ob_hb st x) := by
  obtain ⟨-, h2, h3, h4, h5, h6⟩ := hC
  cases hx : ob_hd cn x with
  | false => exact ⟨⟨rfl, h2, h3, h4, h5, h6⟩, fun h => by cases h⟩
  | true =>
    obtain ⟨j, q, rfl⟩ := ob_hd_t hx
    rw [ob_cl (show j ≤ 1073741824 by omega)]
    have z0 : ob_z1 true = 0 := rfl
    simp only [z0, if_true]
    refine ⟨⟨rfl, h2, h3, h4, fun l => ?_, fun l hl => ?_⟩, fun _ => by rw [ob_hb_bx (by omega), h6 j q]; rfl⟩
    · unfold upd
      split
      · exact congrArg ob_bi (ob_bi_d b2).symm
      · exact h5 l
    · unfold upd
      cases b2
      · simp only [Bool.false_eq_true, if_false]
        rw [ob_bx_and, ob_bx_not (by omega), ob_bx_bit (by omega) (by omega), h6 l hl]
        by_cases e : l = j
        · rw [if_pos e, ob_bi_d, decide_eq_true e]; simp
        · rw [if_neg e, decide_eq_false e]; simp
      · simp only [if_true]
        rw [ob_bx_or, ob_bx_bit (by omega) (by omega), h6 l hl]
        by_cases e : l = j
        · rw [if_pos e, ob_bi_d, decide_eq_true e]; simp
        · rw [if_neg e, decide_eq_false e]; simp
theorem ob_q_roots (hC : ob_IC cn st Wt cn sd V) (hz : ob_z1 (ob_hd cn x) = 0) : (if ob_hd cn x then ob_rg V sd cn (if sd x.toNatClampNeg = 0 then nI 0 else ob_rr V sd x true 4096) cn else nI 0) = (if ob_hb st x then ob_rt st Wt cn (ob_rcO Wt cn st x cn) cn else nI 0) := by
  obtain ⟨-, h2, h3, h4, h5, h6⟩ := hC
  have hx := ob_z1_0.mp hz
  rw [if_pos hx]
  obtain ⟨j, q, rfl⟩ := ob_hd_t hx
  rw [ob_cl (show j ≤ 1073741824 by omega), ob_hb_bx (by omega), h6 j q]
  by_cases c : sd j = 0
  · rw [if_pos c, decide_eq_true c, ob_rg0 _ (by omega)]
    rfl
  · rw [if_neg c, decide_eq_false c, ob_preach (sd := sd) h2 h3 h4 (b := true) (fun l hl => by rw [h6 l hl]; simp) q, ob_rt_rg h2 h3 h6 (Nat.le_refl _)]
    rfl
theorem ob_q_mainReason (hC : ob_IC cn st Wt cn sd V) (hz : ob_z1 (ob_hd cn x) = 0) : (if ob_hd cn x then (ob_mo V sd x.toNatClampNeg cn).1 else nI 0) = (ob_wr st Wt cn x cn).1 := by
  obtain ⟨-, h2, h3, h4, h5, h6⟩ := hC
  have hx := ob_z1_0.mp hz
  rw [if_pos hx]
  obtain ⟨j, q, rfl⟩ := ob_hd_t hx
  rw [ob_cl (show j ≤ 1073741824 by omega), ob_wr_mo h2 h3 h6 q (Nat.le_refl _)]
end
