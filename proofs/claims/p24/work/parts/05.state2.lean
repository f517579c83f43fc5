-- ===== the reference
theorem ob_wi_hd {x : Int32} {n : Nat} (hn : n ≤ 1073741823 := by omega) : ob_wi x (nI 0) (nI n - nI 1) = ob_hd n x := by
  have h1 : (nI n - nI 1).toInt = (n : Int) - 1 := pk_sub_toInt (by omega) (by decide)
  have h0 : (nI 0).toInt = 0 := rfl
  unfold ob_wi ob_hd
  rw [← Bool.decide_and]
  refine decide_eq_decide.mpr ?_
  rw [ob_lei, ob_lei, h1, h0]
  exact ⟨fun h => ⟨h.1, by omega⟩, fun h => ⟨h.1, by omega⟩⟩
theorem ob_bi1 {b : Bool} : ob_bi b = nI 1 ↔ b = true := by cases b <;> simp [ob_bi, ob_n1]
theorem ob_bi1' {b : Bool} : ob_bi b = 1 ↔ b = true := by cases b <;> simp [ob_bi]
theorem ob_dec0 {k : Nat} (h : k ≤ 1073741824 := by omega) : decide (nI k = 0) = decide (k = 0) := by
  have := nI_eq (ob_nlt h) (show 0 < 2 ^ 31 by decide)
  exact decide_eq_decide.mpr this
def ob_bx (x : Int32) (k : Nat) : Bool := x.toBitVec.getLsbD k
theorem ob_bx_ext {x y : Int32} (h : ∀ i, i < 32 → ob_bx x i = ob_bx y i) : x = y := by
  apply Int32.toBitVec_inj.mp
  apply BitVec.eq_of_getLsbD_eq
  intro i hi
  exact h i hi
theorem ob_bx_or (x y : Int32) (i : Nat) : ob_bx (x ||| y) i = (ob_bx x i || ob_bx y i) := by simp [ob_bx]
theorem ob_bx_and (x y : Int32) (i : Nat) : ob_bx (x &&& y) i = (ob_bx x i && ob_bx y i) := by simp [ob_bx]
theorem ob_bx_bit0 : ∀ k, k < 32 → (ob_bit (nI k)).toBitVec = BitVec.twoPow 32 k := by decide +kernel
theorem ob_bx_bit {k i : Nat} (hk : k < 32) (hi : i < 32) : ob_bx (ob_bit (nI k)) i = decide (i = k) := by
  unfold ob_bx
  rw [ob_bx_bit0 k hk, BitVec.getLsbD_twoPow]
  by_cases e : k = i
  · subst e; simp [hk]
  · have e2 : ¬ i = k := fun q => e q.symm
    simp [e, e2]
theorem ob_bx_not {x : Int32} {i : Nat} (hi : i < 32) : ob_bx (x ^^^ (-1)) i = !ob_bx x i := by
  have h1 : ∀ j, j < 32 → ((-1 : Int32).toBitVec).getLsbD j = true := by decide +kernel
  simp [ob_bx, h1 i hi, hi]
theorem ob_bx_0 (i : Nat) : ob_bx 0 i = false := by simp [ob_bx]
theorem ob_hb_bx {x : Int32} {k : Nat} (hk : k < 32) : ob_hb x (nI k) = ob_bx x k := by
  unfold ob_hb
  by_cases h : ob_bx x k = true
  · rw [h]
    have : ¬ x &&& ob_bit (nI k) = 0 := fun q => by
      have e := congrArg (fun z => ob_bx z k) q
      simp only [ob_bx_and, ob_bx_bit hk hk, ob_bx_0, h] at e
      simp at e
    simp [this]
  · have h2 : ob_bx x k = false := by simpa using h
    rw [h2]
    have : x &&& ob_bit (nI k) = 0 := ob_bx_ext (fun i hi => by
      rw [ob_bx_and, ob_bx_bit hk hi, ob_bx_0]
      by_cases e : i = k
      · subst e; simp [h2]
      · simp [e])
    simp [this]
theorem ob_sm : ∀ k, k < 32 → ((nI k &&& 31).toBitVec.smod 32).toNat = k := by decide +kernel
theorem ob_sh1 {x : Int32} {k : Nat} (hk : k < 32) : (x >>> (nI k &&& 31)) &&& nI 1 = ob_bi (ob_hb x (nI k)) := by
  rw [ob_hb_bx hk]
  have h1 : ∀ j, j < 32 → ob_bx (nI 1) j = decide (j = 0) := by decide +kernel
  have hs : (x >>> (nI k &&& 31)).toBitVec = x.toBitVec.sshiftRight k := by
    show x.toBitVec.sshiftRight' _ = _
    rw [BitVec.sshiftRight_eq', ob_sm k hk]
  have h0 : ob_bx (x >>> (nI k &&& 31)) 0 = ob_bx x k := by
    unfold ob_bx
    rw [hs, BitVec.getLsbD_sshiftRight]
    simp [hk]
  refine ob_bx_ext (fun i hi => ?_)
  rw [ob_bx_and, h1 i hi]
  by_cases e : i = 0
  · subst e
    rw [h0]
    cases ob_bx x k
    · simp [ob_bi, ob_bx_0]
    · simp [ob_bi]; decide
  · have e1 : ob_bx (1 : Int32) i = false := by rw [show (1 : Int32) = nI 1 from rfl, h1 i hi]; simp [e]
    cases ob_bx x k <;> simp [ob_bi, e, ob_bx_0, e1]
def ob_sb (B : Nat → Int32) (kc : Nat → Nat) (rd : Nat → Int32) (i j : Nat) : Bool := !decide (B (5 * kc i + kc j) = 1000000) && decide (rd i + B (5 * kc i + kc j) < rd j)
def ob_os (pb wf wa : Nat → Int32) (k : Nat) : Bool := !decide (pb k = 0) && !decide (wf k < wa k)
-- counting down
def ob_dn (m : Nat) : Int32 := nI m - nI 1
theorem ob_dn_0 {m : Nat} (h : ob_dn m < 0) (hm : m ≤ 1000000) : m = 0 := by
  have h1 : (nI m - nI 1).toInt = (m : Int) - 1 := pk_sub_toInt (by omega) (by decide)
  have h2 := ob_lti.mp h
  have h0 : (0 : Int32).toInt = 0 := rfl
  unfold ob_dn at h2
  omega
theorem ob_dn_p {m : Nat} (h : ¬ ob_dn m < 0) : ∃ z, m = z + 1 := by
  cases m with
  | zero => exact absurd (by decide) h
  | succ z => exact ⟨z, rfl⟩
theorem ob_dn_s (m : Nat) : ob_dn (m + 1) = nI m := nI_pred m
theorem ob_dn_d (m : Nat) : nI m + Int32.ofInt (-1) = ob_dn m := by
  unfold ob_dn
  rw [Int32.sub_eq_add_neg]
  rfl
-- the order, the reference's way
def ob_il (B : Nat → Int32) (kc : Nat → Nat) (rd : Nat → Int32) (w : Int32) (i : Nat) : Nat → Bool
  | 0 => !ob_hb w (nI i)
  | j + 1 => ob_il B kc rd w i j && (ob_hb w (nI j) || !ob_sb B kc rd j i)
theorem ob_il_f {B : Nat → Int32} {kc : Nat → Nat} {rd : Nat → Int32} {w : Int32} {i j : Nat} (h : ob_il B kc rd w i j = false) : ∀ m, ob_il B kc rd w i (j + m) = false
  | 0 => h
  | m + 1 => by rw [← Nat.add_assoc, ob_il, ob_il_f h m]; rfl
theorem ob_il_le {B : Nat → Int32} {kc : Nat → Nat} {rd : Nat → Int32} {w : Int32} {i j n : Nat} (h : ob_il B kc rd w i j = false) (hj : j ≤ n) : ob_il B kc rd w i n = false := by
  have := ob_il_f h (n - j)
  rwa [show j + (n - j) = n by omega] at this
def ob_nr (B : Nat → Int32) (kc : Nat → Nat) (rd : Nat → Int32) (n : Nat) (w : Int32) : Int32 := if ob_f1 (fun i => ob_il B kc rd w i n) n < n then nI (ob_f1 (fun i => ob_il B kc rd w i n) n) else -1
def ob_tn (B : Nat → Int32) (kc : Nat → Nat) (rd : Nat → Int32) (n : Nat) : Nat → Int32
  | 0 => nI 0
  | k + 1 => ob_tn B kc rd n k ||| ob_bit (ob_nr B kc rd n (ob_tn B kc rd n k))
def ob_ro2 (B : Nat → Int32) (kc : Nat → Nat) (rd : Nat → Int32) (n : Nat) (ro : Nat → Int32) (k : Nat) : Nat → Int32 := ob_fl (fun j => ob_nr B kc rd n (ob_tn B kc rd n j)) ro k
theorem ob_ro2_s (B : Nat → Int32) (kc : Nat → Nat) (rd : Nat → Int32) (n : Nat) (ro : Nat → Int32) (k : Nat) : upd (ob_ro2 B kc rd n ro k) k (ob_nr B kc rd n (ob_tn B kc rd n k)) = ob_ro2 B kc rd n ro (k + 1) := ob_fl_s (fun j => ob_nr B kc rd n (ob_tn B kc rd n j)) ro k
/-- v is the first from m on, below n, that is p; -1 if there is none -/
def ob_fr (p : Nat → Bool) (n m : Nat) (v : Int32) : Prop := (∃ i, m ≤ i ∧ i < n ∧ p i = true ∧ (∀ j, m ≤ j → j < i → p j = false) ∧ v = nI i) ∨ ((∀ j, m ≤ j → j < n → p j = false) ∧ v = -1)
theorem ob_fr_n (p : Nat → Bool) (n : Nat) : ob_fr p n n (-1) := Or.inr ⟨fun j h1 h2 => absurd h2 (by omega), rfl⟩
theorem ob_fr_s {p : Nat → Bool} {n m : Nat} {v : Int32} {b : Bool} (hb : b = p m) (hm : m < n) (h : ob_fr p n (m + 1) v) : ob_fr p n m (if b then nI m else v) := by
  cases b with
  | true => exact Or.inl ⟨m, Nat.le_refl _, hm, hb.symm, fun j h1 h2 => absurd h2 (by omega), rfl⟩
  | false =>
    rcases h with ⟨i, h1, h2, h3, h4, rfl⟩ | ⟨h1, rfl⟩
    · refine Or.inl ⟨i, by omega, h2, h3, fun j a b => ?_, rfl⟩
      rcases Nat.lt_or_ge m j with q | q
      · exact h4 j q b
      · rw [show j = m by omega]; exact hb.symm
    · refine Or.inr ⟨fun j a b => ?_, rfl⟩
      rcases Nat.lt_or_ge m j with q | q
      · exact h1 j q b
      · rw [show j = m by omega]; exact hb.symm
theorem ob_fr_0 {p : Nat → Bool} {n : Nat} {v : Int32} (h : ob_fr p n 0 v) : v = if ob_f1 p n < n then nI (ob_f1 p n) else -1 := by
  rcases h with ⟨i, -, h2, h3, h4, rfl⟩ | ⟨h1, rfl⟩
  · simp [ob_f1_at h3 (fun j hj => h4 j (Nat.zero_le _) hj) h2, h2]
  · simp [ob_f1_no (fun j hj => h1 j (Nat.zero_le _) hj)]
-- percentages, the reference's way
def ob_pc (ms mf mt mp : Nat → Int32) (p q : Int32) : Nat → Int32
  | 0 => nI 0
  | k + 1 => if (ob_wm ms p k && ob_wi q (mf k) (mt k)) && decide (ob_pc ms mf mt mp p q k < mp k) then mp k else ob_pc ms mf mt mp p q k
def ob_cg (mf mt : Nat → Int32) (q : Int32) : Nat → Int32
  | 0 => nI 10001
  | k + 1 => if decide (q ≤ mt k) && decide (mt k + nI 1 < (if decide (q < mf k) && decide (mf k < ob_cg mf mt q k) then mf k else ob_cg mf mt q k)) then mt k + nI 1 else (if decide (q < mf k) && decide (mf k < ob_cg mf mt q k) then mf k else ob_cg mf mt q k)
-- causes, the reference's way
def ob_rq (V sd : Nat → Int32) (b : Bool) (w : Int32) (k : Nat) : Bool := (ob_hb w (nI (k / 16 % 16)) && decide (0 < V (16 * (k / 16 % 16) + k % 16))) && (!decide (sd (k % 16) = 0) || !b)
def ob_rr (V sd : Nat → Int32) (x : Int32) (b : Bool) : Nat → Int32
  | 0 => ob_bit x
  | k + 1 => if ob_rq V sd b (ob_rr V sd x b k) k then ob_rr V sd x b k ||| ob_bit (nI (k % 16)) else ob_rr V sd x b k
def ob_mo (V sd : Nat → Int32) (i : Nat) : Nat → Int32 × Int32
  | 0 => (-1, nI 0)
  | k + 1 => if !decide (sd k = 0) && decide ((ob_mo V sd i k).2 < V (16 * i + k)) then (nI k, V (16 * i + k)) else ob_mo V sd i k
def ob_rg (V sd : Nat → Int32) (cn : Nat) (rc : Int32) : Nat → Int32
  | 0 => nI 0
  | k + 1 => if ob_hb rc (nI k) && decide ((ob_mo V sd k cn).1 = -1) then ob_rg V sd cn rc k ||| ob_bit (nI k) else ob_rg V sd cn rc k
theorem ob_or0 (x : Int32) : x ||| nI 0 = x := by
  refine ob_bx_ext (fun i hi => ?_)
  rw [ob_bx_or, ob_n0, ob_bx_0, Bool.or_false]
-- codes of what is thrown
def ob_z1 (b : Bool) : Nat := if b then 0 else 1
def ob_z2 (b c : Bool) : Nat := if b then (if c then 0 else 2) else 1
def ob_z3 (b : Bool) : Nat := if b then 3 else 0
theorem ob_z2f (c : Bool) : ob_z2 false c = ob_z1 false := rfl
theorem ob_dz1 (b : Bool) : ob_bi (decide (nI (ob_z1 b) = 0)) = ob_bi b := by cases b <;> decide
theorem ob_dz2 (b c : Bool) : ob_bi (decide (nI (ob_z2 b c) = 0)) = ob_bi (b && c) := by cases b <;> cases c <;> decide
theorem ob_dz3 (b : Bool) : ob_bi (decide (nI (ob_z3 b) = 0)) = ob_bi (!b) := by cases b <;> decide
theorem ob_and2 {a b : Bool} (h : (a && b) = true) : a = true ∧ b = true := by simpa using h
-- the reference's mark
def ob_okm (x1 x2 x3 x4 x5 : Int32) : Bool := ob_wi x1 (nI 0) (nI 4) && (ob_wi x2 (nI 0) (nI 10000) && (ob_wi x3 (nI 0) (nI 4) && (ob_wi x4 (nI 0) (nI 10000) && (ob_wi x5 (nI 0) (nI 1000) && !decide (x1 = x3)))))
def ob_bn (T : Nat → Int32) (a b : Nat) (x : Int32) : Nat → Int32 := upd T (5 * a + b) (if x < T (5 * a + b) then x else T (5 * a + b))
def ob_fv (T : Nat → Int32) (o k : Nat) : Int32 := if ((!decide (T (5 * (k / 5) + o) = 1000000)) && (!decide (T (5 * o + k % 5) = 1000000))) && decide (T (5 * (k / 5) + o) + T (5 * o + k % 5) < T k) then T (5 * (k / 5) + o) + T (5 * o + k % 5) else T k
def ob_fI (o : Nat) (T : Nat → Int32) : Nat → Nat → Int32
  | 0 => T
  | k + 1 => upd (ob_fI o T k) k (ob_fv (ob_fI o T k) o k)
def ob_fO (T : Nat → Int32) : Nat → Nat → Int32
  | 0 => T
  | o + 1 => ob_fI o (ob_fO T o) 25
def ob_cn (T : Nat → Int32) : Nat → Bool
  | 0 => true
  | j + 1 => ob_cn T j && decide (T (5 * j + j) = 0)
def ob_T9 (Bd Tr : Nat → Int32) (a c : Nat) (x2 x4 x5 : Int32) : Nat → Int32 := ob_fO (ob_bn (ob_bn (ob_fl Bd Tr 25) a c (x5 - x2 + x4)) c a (x5 + x2 - x4)) 5
-- the reference's orders
def ob_ahI (Bd : Nat → Int32) (kc : Nat → Nat) (rd : Nat → Int32) (i : Nat) : Nat → Int32
  | 0 => nI 0
  | j + 1 => ob_ahI Bd kc rd i j ||| (if ob_sb Bd kc rd j i then ob_bit (nI j) else nI 0)
def ob_ah2 (Bd : Nat → Int32) (kc : Nat → Nat) (rd : Nat → Int32) (n : Nat) (ah : Nat → Int32) (k : Nat) : Nat → Int32 := ob_fl (fun i => ob_ahI Bd kc rd i n) ah k
def ob_ccp (ah : Nat → Int32) (q k : Nat) : Bool := ob_hb (nI q) (nI k) && decide (ah k &&& (nI q ^^^ (-1)) = 0)
def ob_ccs (ah : Nat → Int32) (C : Nat → Int64) (q k : Nat) : Int64 := if ob_ccp ah q k then C (q - 2 ^ k) else lN 0
def ob_ccI (ah : Nat → Int32) (q : Nat) (C : Nat → Int64) : Nat → Nat → Int64
  | 0 => vp_updL C q (lN 0)
  | k + 1 => vp_updL (ob_ccI ah q C k) q (ob_ccI ah q C k q + ob_ccs ah (ob_ccI ah q C k) q k)
def ob_ccO (ah : Nat → Int32) (n : Nat) (C : Nat → Int64) : Nat → Nat → Int64
  | 0 => C
  | q + 1 => if q = 0 then vp_updL (ob_ccO ah n C q) 0 (lN 1) else ob_ccI ah q (ob_ccO ah n C q) n
theorem ob_uu (f : Nat → Int32) (k : Nat) (x y : Int32) : upd (upd f k x) k y = upd f k y := by
  funext j
  unfold upd
  split <;> rfl
theorem ob_ah2_s (Bd : Nat → Int32) (kc : Nat → Nat) (rd : Nat → Int32) (n : Nat) (ah : Nat → Int32) (k : Nat) : upd (ob_ah2 Bd kc rd n ah k) k (ob_ahI Bd kc rd k n) = ob_ah2 Bd kc rd n ah (k + 1) := ob_fl_s (fun i => ob_ahI Bd kc rd i n) ah k
theorem ob_ccO_s {ah : Nat → Int32} {n : Nat} {C : Nat → Int64} {q : Nat} (h : 1 ≤ q) : ob_ccO ah n C (q + 1) = ob_ccI ah q (ob_ccO ah n C q) n := by
  have : ¬ q = 0 := by omega
  simp [ob_ccO, this]
theorem ob_bxN {q k : Nat} (hk : k < 32) : ob_bx (nI q) k = q.testBit k := by
  unfold ob_bx nI
  show ((Int32.ofNat q).toBitVec).getLsbD k = _
  rw [Int32.toBitVec_ofNat', BitVec.getLsbD_ofNat]
  simp [hk]
theorem ob_subb {ah : Nat → Int32} {q k : Nat} (h : ob_ccp ah q k = true) (hk : k < 31) : 2 ^ k ≤ q ∧ nI q - (nI 1 <<< (nI k &&& 31)) = nI (q - 2 ^ k) := by
  have h1 := (ob_and2 h).1
  rw [ob_hb_bx (by omega), ob_bxN (by omega)] at h1
  have h2 := Nat.ge_two_pow_of_testBit h1
  refine ⟨h2, ?_⟩
  have e : nI 1 <<< (nI k &&& 31) = nI (2 ^ k) := ob_bitN k (by omega)
  rw [e, pk_sub h2]
-- impact and minutes, the reference's way
def ob_si (ms mf mt mp : Nat → Int32) (mn : Nat) (p : Int32) : Nat → Int32 × Int32
  | 0 => (nI 0, nI 0)
  | k + 1 => ((ob_si ms mf mt mp mn p k).1 + ob_pc ms mf mt mp p (ob_si ms mf mt mp mn p k).2 mn * (ob_cg mf mt (ob_si ms mf mt mp mn p k).2 mn - (ob_si ms mf mt mp mn p k).2), ob_cg mf mt (ob_si ms mf mt mp mn p k).2 mn)
def ob_sm2 (ms mf mt mp : Nat → Int32) (mn : Nat) : Nat → Int32 × Int32
  | 0 => (nI 0, nI 0)
  | k + 1 => ((ob_sm2 ms mf mt mp mn k).1 + (if ob_pc ms mf mt mp (-1) (ob_sm2 ms mf mt mp mn k).2 mn ≤ 0 then nI 0 else ob_cg mf mt (ob_sm2 ms mf mt mp mn k).2 mn - (ob_sm2 ms mf mt mp mn k).2), ob_cg mf mt (ob_sm2 ms mf mt mp mn k).2 mn)
theorem ob_ltK {P : Nat → Prop} {k K : Nat} (h : k ≤ K) (hK : ¬ P K) (hp : P k) : k < K := by
  rcases Nat.lt_or_ge k K with q | q
  · exact q
  · exact absurd ((show k = K by omega) ▸ hp) hK
theorem ob_okm_t {x1 x2 x3 x4 x5 : Int32} (h : ob_okm x1 x2 x3 x4 x5 = true) : ∃ a1 a3 : Nat, a1 ≤ 4 ∧ a3 ≤ 4 ∧ x1 = nI a1 ∧ x3 = nI a3 := by
  have h1 := ob_and2 h
  have h2 := ob_and2 h1.2
  have h3 := ob_and2 h2.2
  obtain ⟨a1, ha1, e1⟩ := ob_wi_t h1.1
  obtain ⟨a3, ha3, e3⟩ := ob_wi_t h3.1
  exact ⟨a1, a3, ha1, ha3, e1, e3⟩
