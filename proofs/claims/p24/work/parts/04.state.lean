-- ===== the worlds: what the objects hold, by the addresses
abbrev ob_wX (ax : Nat) (ao al am ac : Nat → Nat) : va_W := [(ax, .inr (4, [.ref (ao 0), .ref (al 0), .ref (am 0), .ref (ac 0)]))]
abbrev ob_wO (t : Nat → ClassId) (ao : Nat → Nat) (M : Nat → Nat → Int32) : va_W := [(ao 0, .inr (3, [.ref (ao 1)])), (ao 1, .inl (t 3, 5, .inr (.inr (.inr (.inr (fun i => if i < 5 then some (ao (2 + i)) else none)))))), (ao 2, .inl (t 0, 5, .inl (M 0))), (ao 3, .inl (t 0, 5, .inl (M 1))), (ao 4, .inl (t 0, 5, .inl (M 2))), (ao 5, .inl (t 0, 5, .inl (M 3))), (ao 6, .inl (t 0, 5, .inl (M 4)))]
abbrev ob_wL (t : Nat → ClassId) (al : Nat → Nat) (n : Nat) (cl rd sv pb ba bf od : Nat → Int32) (bg : Nat → Int64) : va_W := [(al 0, .inr (1, [.ref (al 1), .ref (al 2), .ref (al 3), .ref (al 4), .ref (al 5), .ref (al 6), .ref (al 7), .ref (al 8), .int (nI n)])), (al 1, .inl (t 0, 30, .inl cl)), (al 2, .inl (t 0, 30, .inl rd)), (al 3, .inl (t 0, 30, .inl sv)), (al 4, .inl (t 2, 30, .inl pb)), (al 5, .inl (t 0, 30, .inl ba)), (al 6, .inl (t 0, 30, .inl bf)), (al 7, .inl (t 0, 30, .inl od)), (al 8, .inl (t 1, 4096, .inr (.inl bg)))]
abbrev ob_wM (t : Nat → ClassId) (am : Nat → Nat) (mn : Nat) (ms mf mt mp : Nat → Int32) : va_W := [(am 0, .inr (2, [.ref (am 1), .ref (am 2), .ref (am 3), .ref (am 4), .int (nI mn)])), (am 1, .inl (t 0, 40, .inl ms)), (am 2, .inl (t 0, 40, .inl mf)), (am 3, .inl (t 0, 40, .inl mt)), (am 4, .inl (t 0, 40, .inl mp))]
abbrev ob_wC (t : Nat → ClassId) (ac : Nat → Nat) (cn : Nat) (st : Int32) (Wt : Nat → Nat → Int32) : va_W := [(ac 0, .inr (0, [.ref (ac 1), .int st, .int (nI cn)])), (ac 1, .inl (t 3, 16, .inr (.inr (.inr (.inr (fun i => if i < 16 then some (ac (2 + i)) else none)))))), (ac 2, .inl (t 0, 16, .inl (Wt 0))), (ac 3, .inl (t 0, 16, .inl (Wt 1))), (ac 4, .inl (t 0, 16, .inl (Wt 2))), (ac 5, .inl (t 0, 16, .inl (Wt 3))), (ac 6, .inl (t 0, 16, .inl (Wt 4))), (ac 7, .inl (t 0, 16, .inl (Wt 5))), (ac 8, .inl (t 0, 16, .inl (Wt 6))), (ac 9, .inl (t 0, 16, .inl (Wt 7))), (ac 10, .inl (t 0, 16, .inl (Wt 8))), (ac 11, .inl (t 0, 16, .inl (Wt 9))), (ac 12, .inl (t 0, 16, .inl (Wt 10))), (ac 13, .inl (t 0, 16, .inl (Wt 11))), (ac 14, .inl (t 0, 16, .inl (Wt 12))), (ac 15, .inl (t 0, 16, .inl (Wt 13))), (ac 16, .inl (t 0, 16, .inl (Wt 14))), (ac 17, .inl (t 0, 16, .inl (Wt 15)))]
abbrev ob_wR (t : Nat → ClassId) (ar : Nat → Nat) (B Tr : Nat → Int32) (rn : Nat) (rcl rrd rsv rpb wf wa ro ah : Nat → Int32) (ct : Nat → Int64) (rmn : Nat) (rms rmf rmt rmp : Nat → Int32) (rcn : Nat) (sd V : Nat → Int32) (th : Int32) : va_W := [(ar 0, .inr (5, [.ref (ar 1), .ref (ar 2), .int (nI rn), .ref (ar 3), .ref (ar 4), .ref (ar 5), .ref (ar 6), .ref (ar 7), .ref (ar 8), .ref (ar 9), .ref (ar 10), .ref (ar 11), .int (nI rmn), .ref (ar 12), .ref (ar 13), .ref (ar 14), .ref (ar 15), .int (nI rcn), .ref (ar 16), .ref (ar 17), .int th])), (ar 1, .inl (t 0, 25, .inl B)), (ar 2, .inl (t 0, 25, .inl Tr)), (ar 3, .inl (t 0, 30, .inl rcl)), (ar 4, .inl (t 0, 30, .inl rrd)), (ar 5, .inl (t 0, 30, .inl rsv)), (ar 6, .inl (t 2, 30, .inl rpb)), (ar 7, .inl (t 0, 30, .inl wf)), (ar 8, .inl (t 0, 30, .inl wa)), (ar 9, .inl (t 0, 30, .inl ro)), (ar 10, .inl (t 0, 12, .inl ah)), (ar 11, .inl (t 1, 4096, .inr (.inl ct))), (ar 12, .inl (t 0, 40, .inl rms)), (ar 13, .inl (t 0, 40, .inl rmf)), (ar 14, .inl (t 0, 40, .inl rmt)), (ar 15, .inl (t 0, 40, .inl rmp)), (ar 16, .inl (t 2, 16, .inl sd)), (ar 17, .inl (t 0, 256, .inl V))]
def ob_up2 (M : Nat → Nat → Int32) (k j : Nat) (v : Int32) : Nat → Nat → Int32 := fun a => if a = k then upd (M k) j v else M a
theorem ob_up2_s {M : Nat → Nat → Int32} {k j : Nat} {v : Int32} : ob_up2 M k j v k = upd (M k) j v := if_pos rfl
theorem ob_up2_n {M : Nat → Nat → Int32} {k j a : Nat} {v : Int32} (h : a ≠ k) : ob_up2 M k j v a = M a := if_neg h
theorem ob_rO {t : Nat → ClassId} {ao : Nat → Nat} {M : Nat → Nat → Int32} {k : Nat} (h : k < 5) : (ob_wO t ao M)[2 + k]? = some (ao (2 + k), .inl (t 0, 5, .inl (M k))) := by
  match k, h with
  | 0, _ => rfl
  | 1, _ => rfl
  | 2, _ => rfl
  | 3, _ => rfl
  | 4, _ => rfl
theorem ob_sO {t : Nat → ClassId} {ao : Nat → Nat} {M : Nat → Nat → Int32} {k j : Nat} {v : Int32} (h : k < 5) : (ob_wO t ao M).set (2 + k) (ao (2 + k), .inl (t 0, 5, .inl (upd (M k) j v))) = ob_wO t ao (ob_up2 M k j v) := by
  match k, h with
  | 0, _ => rfl
  | 1, _ => rfl
  | 2, _ => rfl
  | 3, _ => rfl
  | 4, _ => rfl
theorem ob_rC {t : Nat → ClassId} {ac : Nat → Nat} {cn : Nat} {st : Int32} {Wt : Nat → Nat → Int32} {k : Nat} (h : k < 16) : (ob_wC t ac cn st Wt)[2 + k]? = some (ac (2 + k), .inl (t 0, 16, .inl (Wt k))) := by
  match k, h with
  | 0, _ => rfl
  | 1, _ => rfl
  | 2, _ => rfl
  | 3, _ => rfl
  | 4, _ => rfl
  | 5, _ => rfl
  | 6, _ => rfl
  | 7, _ => rfl
  | 8, _ => rfl
  | 9, _ => rfl
  | 10, _ => rfl
  | 11, _ => rfl
  | 12, _ => rfl
  | 13, _ => rfl
  | 14, _ => rfl
  | 15, _ => rfl
  | n + 16, h => exact absurd h (by omega)
theorem ob_sC {t : Nat → ClassId} {ac : Nat → Nat} {cn : Nat} {st : Int32} {Wt : Nat → Nat → Int32} {k j : Nat} {v : Int32} (h : k < 16) : (ob_wC t ac cn st Wt).set (2 + k) (ac (2 + k), .inl (t 0, 16, .inl (upd (Wt k) j v))) = ob_wC t ac cn st (ob_up2 Wt k j v) := by
  match k, h with
  | 0, _ => rfl
  | 1, _ => rfl
  | 2, _ => rfl
  | 3, _ => rfl
  | 4, _ => rfl
  | 5, _ => rfl
  | 6, _ => rfl
  | 7, _ => rfl
  | 8, _ => rfl
  | 9, _ => rfl
  | 10, _ => rfl
  | 11, _ => rfl
  | 12, _ => rfl
  | 13, _ => rfl
  | 14, _ => rfl
  | 15, _ => rfl
  | n + 16, h => exact absurd h (by omega)
-- ===== small pure words
theorem ob_n0 : nI 0 = 0 := rfl
theorem ob_n1 : nI 1 = 1 := rfl
theorem ob_cl {k : Nat} (h : k ≤ 1073741824) : (nI k).toNatClampNeg = k := nI_clamp (ob_nlt h)
theorem ob_ti {k : Nat} (h : k ≤ 1073741824) : (nI k).toInt = (k : Int) := nI_toInt (ob_nlt h)
theorem ob_lei {x y : Int32} : x ≤ y ↔ x.toInt ≤ y.toInt := Int32.le_iff_toInt_le
theorem ob_lti {x y : Int32} : x < y ↔ x.toInt < y.toInt := Int32.lt_iff_toInt_lt
theorem ob_toI {x : Int32} {n : Nat} (h0 : 0 ≤ x.toInt) (h : x.toInt ≤ (n : Int)) (hn : n ≤ 1073741824) : ∃ j : Nat, j ≤ n ∧ x = nI j := by
  have hv : vp_in x (n + 1) := vp_in_iff.mpr ⟨h0, by omega⟩
  obtain ⟨j, hj, e⟩ := vp_in_of hv (by omega)
  exact ⟨j, by omega, e⟩
/-- within two bounds -/
def ob_wi (v lo hi : Int32) : Bool := decide (lo ≤ v) && decide (v ≤ hi)
theorem ob_wi_lo {v lo hi : Int32} (h : v < lo) : ob_wi v lo hi = false := by
  have : ¬ lo ≤ v := Int32.not_le.mpr h
  simp [ob_wi, this]
theorem ob_wi_hi {v lo hi : Int32} (h : hi < v) : ob_wi v lo hi = false := by
  have : ¬ v ≤ hi := Int32.not_le.mpr h
  simp [ob_wi, this]
theorem ob_wi_ok {v lo hi : Int32} (h : ¬ v < lo) (h2 : ¬ hi < v) : ob_wi v lo hi = true := by
  have := Int32.not_lt.mp h
  have := Int32.not_lt.mp h2
  simp [ob_wi, *]
theorem ob_wi_t {v : Int32} {b : Nat} (h : ob_wi v (nI 0) (nI b) = true) (hb : b ≤ 1073741824 := by decide) : ∃ j : Nat, j ≤ b ∧ v = nI j := by
  simp only [ob_wi, Bool.and_eq_true, decide_eq_true_eq, ob_lei, ob_ti hb] at h
  exact ob_toI (by have := h.1; rw [ob_ti (by decide)] at this; simpa using this) h.2 hb
theorem ob_wi_nI {a b : Nat} (h : a ≤ b) (hb : b ≤ 1073741824) : ob_wi (nI a) (nI 0) (nI b) = true := by
  simp only [ob_wi, Bool.and_eq_true, decide_eq_true_eq, ob_lei, ob_ti hb, ob_ti (Nat.le_trans h hb), ob_ti (show 0 ≤ 1073741824 by decide)]
  omega
/-- a number of one of n things -/
def ob_hd (n : Nat) (x : Int32) : Bool := decide (0 ≤ x.toInt ∧ x.toInt < (n : Int))
theorem ob_hd_t {n : Nat} {x : Int32} (h : ob_hd n x = true) (hn : n ≤ 1073741824 := by omega) : ∃ j : Nat, j < n ∧ x = nI j := by
  have h1 := of_decide_eq_true h
  exact vp_in_of (vp_in_iff.mpr h1) (by omega)
theorem ob_hd_nI {n j : Nat} (h : j < n) (hn : n ≤ 1073741824 := by omega) : ob_hd n (nI j) = true := by
  refine decide_eq_true ?_
  rw [ob_ti (by omega)]
  omega
theorem ob_hd_neg {n : Nat} {x : Int32} (h : x < 0) : ob_hd n x = false := by
  refine decide_eq_false ?_
  have := ob_lti.mp h
  intro q
  have h0 : (0 : Int32).toInt = 0 := rfl
  omega
theorem ob_hd_ge {n k : Nat} {x : Int32} (h : nI k ≤ x) (hn : n ≤ k) (hk : k ≤ 1073741824 := by omega) : ob_hd n x = false := by
  refine decide_eq_false ?_
  have := ob_lei.mp h
  rw [ob_ti hk] at this
  omega
theorem ob_hd_ok {n : Nat} {x : Int32} (h0 : ¬ x < 0) (h : ¬ nI n ≤ x) (hn : n ≤ 1073741824 := by omega) : ob_hd n x = true := by
  refine decide_eq_true ?_
  have h1 := Int32.not_lt.mp h0
  have h2 := Int32.not_le.mp h
  rw [ob_lei] at h1
  rw [ob_lti, ob_ti hn] at h2
  have h3 : (0 : Int32).toInt = 0 := rfl
  omega
theorem ob_hd_m1 {n : Nat} : ob_hd n (-1) = false := rfl
-- bits
def ob_bit (k : Int32) : Int32 := nI 1 <<< (k &&& 31)
def ob_hb (x k : Int32) : Bool := !decide (x &&& ob_bit k = 0)
-- the clocks
def ob_ms (M : Nat → Nat → Int32) (a b : Int32) : Int32 := if ob_wi a (nI 0) (nI 4) && ob_wi b (nI 0) (nI 4) then M a.toNatClampNeg b.toNatClampNeg else 1000000
theorem ob_ms_1 {M : Nat → Nat → Int32} {a b : Int32} (h : ob_wi a (nI 0) (nI 4) = false) : ob_ms M a b = 1000000 := by simp [ob_ms, h]
theorem ob_ms_2 {M : Nat → Nat → Int32} {a b : Int32} (h : ob_wi b (nI 0) (nI 4) = false) : ob_ms M a b = 1000000 := by simp [ob_ms, h]
theorem ob_ms_nI {M : Nat → Nat → Int32} {a b : Nat} (h : a ≤ 4) (h2 : b ≤ 4) : ob_ms M (nI a) (nI b) = M a b := by
  unfold ob_ms
  rw [ob_wi_nI h (by decide), ob_wi_nI h2 (by decide), ob_cl (by omega), ob_cl (by omega)]
  rfl
-- the lines
def ob_at (n : Nat) (od : Nat → Int32) (p : Int32) : Int32 := if ob_hd n p then od p.toNatClampNeg else -1
theorem ob_at_nI {n k : Nat} {od : Nat → Int32} (h : k < n) (hn : n ≤ 1073741824 := by omega) : ob_at n od (nI k) = od k := by
  unfold ob_at
  rw [ob_hd_nI h hn, ob_cl (by omega)]
  rfl
/-- told and not doubtful -/
def ob_st (pb ba : Nat → Int32) (k : Nat) : Bool := !decide (pb k = 0) && !decide (ba k < 0)
/-- surely earlier, by the readings and the bound of the clocks -/
def ob_se (M : Nat → Nat → Int32) (cl rd : Nat → Int32) (i j : Nat) : Bool := decide (ob_ms M (cl i) (cl j) < 1000000) && decide (rd i + ob_ms M (cl i) (cl j) < rd j)
def ob_fp (n : Nat) (sv od : Nat → Int32) (p : Int32) (k : Nat) : Bool := ob_hd n (od k) && decide (sv (od k).toNatClampNeg = p)
def ob_is (n : Nat) (pb ba od : Nat → Int32) (k : Nat) : Bool := ob_hd n (od k) && ob_st pb ba (od k).toNatClampNeg
def ob_ct (p : Nat → Bool) : Nat → Nat
  | 0 => 0
  | k + 1 => ob_ct p k + (if p k then 1 else 0)
theorem ob_ct_le (p : Nat → Bool) : ∀ k, ob_ct p k ≤ k
  | 0 => Nat.le_refl _
  | k + 1 => by
    have := ob_ct_le p k
    rw [ob_ct]
    split <;> omega
/-- the set of those below k that are p -/
def ob_bs (p : Nat → Bool) : Nat → Int32
  | 0 => nI 0
  | k + 1 => if p k then ob_bs p k ||| ob_bit (nI k) else ob_bs p k
def ob_pk (bf : Nat → Int32) (q : Int32) (k : Nat) : Bool := ob_hb q (nI k) && decide (bf k &&& q = 0)
-- orders
def ob_rest (q : Int32) (k : Nat) : Int32 := q &&& (ob_bit (nI k) ^^^ (-1))
def ob_cbp (bf : Nat → Int32) (q : Int32) (k : Nat) : Bool := (!decide (ob_rest q k = q)) && decide (bf k &&& (ob_rest q k ^^^ (-1)) = 0)
def ob_cb (bf : Nat → Int32) (bg : Nat → Int64) (q : Int32) : Nat → Int64
  | 0 => lN 0
  | k + 1 => if ob_cbp bf q k && ob_hd 4096 (ob_rest q k) then ob_cb bf bg q k + bg (ob_rest q k).toNatClampNeg else ob_cb bf bg q k
def ob_F (bf : Nat → Int32) (n : Nat) (bg : Nat → Int64) : Nat → Nat → Int64
  | 0 => bg
  | m + 1 => vp_updL (ob_F bf n bg m) m (if m = 0 then lN 1 else ob_cb bf (ob_F bf n bg m) (nI m) n)
-- measures
def ob_wm (ms : Nat → Int32) (p : Int32) (k : Nat) : Bool := decide (p = -1) || decide (ms k = p)
def ob_wst (ms mf mt mp : Nat → Int32) (p q : Int32) : Nat → Int32
  | 0 => nI 0
  | k + 1 => if ob_wm ms p k && ob_wi q (mf k) (mt k) then (if ob_wst ms mf mt mp p q k < mp k then mp k else ob_wst ms mf mt mp p q k) else ob_wst ms mf mt mp p q k
def ob_nx (mf mt : Nat → Int32) (q : Int32) : Nat → Int32
  | 0 => nI 10001
  | k + 1 => if mf k ≤ q then (if mt k + nI 1 ≤ q then ob_nx mf mt q k else (if mt k + nI 1 < ob_nx mf mt q k then mt k + nI 1 else ob_nx mf mt q k)) else (if mf k < ob_nx mf mt q k then mf k else ob_nx mf mt q k)
def ob_sw (ms mf mt mp : Nat → Int32) (mn : Nat) (p : Int32) : Nat → Int32 × Int32
  | 0 => (nI 0, nI 0)
  | k + 1 => ((ob_sw ms mf mt mp mn p k).1 + (ob_nx mf mt (ob_sw ms mf mt mp mn p k).2 mn - (ob_sw ms mf mt mp mn p k).2) * ob_wst ms mf mt mp p (ob_sw ms mf mt mp mn p k).2 mn, ob_nx mf mt (ob_sw ms mf mt mp mn p k).2 mn)
def ob_fm (ms mf mt mp : Nat → Int32) (mn : Nat) : Nat → Int32 × Int32
  | 0 => (nI 0, nI 0)
  | k + 1 => (if ob_wst ms mf mt mp (-1) (ob_fm ms mf mt mp mn k).2 mn ≤ 0 then (ob_fm ms mf mt mp mn k).1 else (ob_fm ms mf mt mp mn k).1 + (ob_nx mf mt (ob_fm ms mf mt mp mn k).2 mn - (ob_fm ms mf mt mp mn k).2), ob_nx mf mt (ob_fm ms mf mt mp mn k).2 mn)
-- causes
def ob_wt (Wt : Nat → Nat → Int32) (cn : Nat) (a b : Int32) : Int32 := if ob_hd cn a && ob_hd cn b then Wt a.toNatClampNeg b.toNatClampNeg else nI 0
def ob_rs (Wt : Nat → Nat → Int32) (cn : Nat) (x : Int32) : Nat → Int32
  | 0 => nI 0
  | k + 1 => if ob_wt Wt cn x (nI k) ≤ 0 then ob_rs Wt cn x k else ob_rs Wt cn x k ||| ob_bit (nI k)
def ob_rcI (Wt : Nat → Nat → Int32) (cn : Nat) (q w : Int32) : Nat → Int32
  | 0 => w
  | j + 1 => if ob_hb (ob_rcI Wt cn q w j) (nI j) then ob_rcI Wt cn q w j ||| (ob_rs Wt cn (nI j) cn &&& q) else ob_rcI Wt cn q w j
def ob_rcO (Wt : Nat → Nat → Int32) (cn : Nat) (q x : Int32) : Nat → Int32
  | 0 => ob_bit x
  | k + 1 => ob_rcI Wt cn q (ob_rcO Wt cn q x k) cn
def ob_rt (st : Int32) (Wt : Nat → Nat → Int32) (cn : Nat) (rc : Int32) : Nat → Int32
  | 0 => nI 0
  | k + 1 => if ob_hb rc (nI k) && decide (ob_rs Wt cn (nI k) cn &&& st = 0) then ob_rt st Wt cn rc k ||| ob_bit (nI k) else ob_rt st Wt cn rc k
def ob_wr (st : Int32) (Wt : Nat → Nat → Int32) (cn : Nat) (x : Int32) : Nat → Int32 × Int32
  | 0 => (-1, nI 0)
  | k + 1 => if ob_hb st (nI k) && !decide (ob_wt Wt cn x (nI k) ≤ (ob_wr st Wt cn x k).2) then (nI k, ob_wt Wt cn x (nI k)) else ob_wr st Wt cn x k
-- filling a row from below
def ob_fl {α : Type} (F f : Nat → α) (k : Nat) : Nat → α := fun j => if j < k then F j else f j
theorem ob_fl_0 {α : Type} (F f : Nat → α) : ob_fl F f 0 = f := funext fun j => if_neg (Nat.not_lt_zero j)
theorem ob_fl_s (F f : Nat → Int32) (k : Nat) : upd (ob_fl F f k) k (F k) = ob_fl F f (k + 1) := by
  funext j
  unfold upd ob_fl
  by_cases e : j = k
  · subst e; simp
  · by_cases h : j < k
    · simp [e, h, Nat.lt_succ_of_lt h]
    · simp [e, h, show ¬ j < k + 1 by omega]
theorem ob_fl_in {α : Type} {F f : Nat → α} {k j : Nat} (h : j < k) : ob_fl F f k j = F j := if_pos h
/-- the first below n that is p; n if there is none -/
def ob_f1 (p : Nat → Bool) : Nat → Nat
  | 0 => 0
  | n + 1 => if ob_f1 p n < n then ob_f1 p n else if p n then n else n + 1
theorem ob_f1_no {p : Nat → Bool} : ∀ {n : Nat}, (∀ j, j < n → p j = false) → ob_f1 p n = n
  | 0, _ => rfl
  | n + 1, h => by
    have e := ob_f1_no (n := n) (fun j hj => h j (by omega))
    simp [ob_f1, e, h n (by omega)]
theorem ob_f1_at {p : Nat → Bool} {k : Nat} (hp : p k = true) (hb : ∀ j, j < k → p j = false) : ∀ {n : Nat}, k < n → ob_f1 p n = k
  | 0, h => absurd h (Nat.not_lt_zero _)
  | n + 1, h => by
    rcases Nat.lt_or_ge k n with q | q
    · have e := ob_f1_at hp hb q
      simp [ob_f1, e, q]
    · have e : k = n := by omega
      subst e
      simp [ob_f1, ob_f1_no hb, hp]
def ob_nl (bf : Nat → Int32) (n : Nat) (q : Int32) : Int32 := if ob_f1 (ob_pk bf q) n < n then nI (ob_f1 (ob_pk bf q) n) else -1
theorem ob_nl_of {bf : Nat → Int32} {n : Nat} {q r : Int32} (h : (∃ k, k < n ∧ ob_pk bf q k = true ∧ (∀ j, j < k → ob_pk bf q j = false) ∧ r = nI k) ∨ ((∀ j, j < n → ob_pk bf q j = false) ∧ r = -1)) : r = ob_nl bf n q := by
  rcases h with ⟨k, h1, h2, h3, rfl⟩ | ⟨h1, rfl⟩
  · simp [ob_nl, ob_f1_at h2 h3 h1, h1]
  · simp [ob_nl, ob_f1_no h1]
def ob_lf (bf : Nat → Int32) (n : Nat) : Nat → Int32
  | 0 => ob_bit (nI n) - nI 1
  | k + 1 => ob_lf bf n k &&& (ob_bit (ob_nl bf n (ob_lf bf n k)) ^^^ (-1))
def ob_bf2 (M : Nat → Nat → Int32) (cl rd : Nat → Int32) (n : Nat) (bf : Nat → Int32) (k : Nat) : Nat → Int32 := ob_fl (fun j => ob_bs (fun i => ob_se M cl rd i j) n) bf k
def ob_od2 (bf : Nat → Int32) (n : Nat) (od : Nat → Int32) (k : Nat) : Nat → Int32 := ob_fl (fun j => ob_nl bf n (ob_lf bf n j)) od k
theorem ob_bf2_s (M : Nat → Nat → Int32) (cl rd : Nat → Int32) (n : Nat) (bf : Nat → Int32) (k : Nat) : upd (ob_bf2 M cl rd n bf k) k (ob_bs (fun i => ob_se M cl rd i k) n) = ob_bf2 M cl rd n bf (k + 1) := ob_fl_s (fun j => ob_bs (fun i => ob_se M cl rd i j) n) bf k
theorem ob_od2_s (bf : Nat → Int32) (n : Nat) (od : Nat → Int32) (k : Nat) : upd (ob_od2 bf n od k) k (ob_nl bf n (ob_lf bf n k)) = ob_od2 bf n od (k + 1) := ob_fl_s (fun j => ob_nl bf n (ob_lf bf n j)) od k
theorem ob_us {f : Nat → Int32} {k : Nat} {x : Int32} : upd f k x k = x := if_pos rfl
theorem ob_bitN : ∀ n, n < 31 → ob_bit (nI n) = nI (2 ^ n) := by decide +kernel
theorem ob_bitm1 {n : Nat} (h : n ≤ 30) : ob_bit (nI n) - nI 1 = nI (2 ^ n - 1) := by
  rw [ob_bitN n (by omega), pk_sub (Nat.one_le_two_pow)]
theorem ob_F_s {bf : Nat → Int32} {n : Nat} {bg : Nat → Int64} {k : Nat} (h : 1 ≤ k) : vp_updL (ob_F bf n bg k) k (ob_cb bf (ob_F bf n bg k) (nI k) n) = ob_F bf n bg (k + 1) := by
  have : ¬ k = 0 := by omega
  simp [ob_F, this]
theorem ob_p12 : ∀ n, n ≤ 12 → 2 ^ n ≤ 4096 := by decide
-- a bound, and what follows
def ob_bst (a b : Nat) (x : Int32) (M : Nat → Nat → Int32) (i j : Nat) : Nat → Nat → Int32 := if decide (1000000 ≤ M i a) || decide (1000000 ≤ M b j) then M else ob_up2 M i j (if M i a + x + M b j < M i j then M i a + x + M b j else M i j)
def ob_bI (a b : Nat) (x : Int32) (i : Nat) (M : Nat → Nat → Int32) : Nat → Nat → Nat → Int32
  | 0 => M
  | j + 1 => ob_bst a b x (ob_bI a b x i M j) i j
def ob_bO (a b : Nat) (x : Int32) (M : Nat → Nat → Int32) : Nat → Nat → Nat → Int32
  | 0 => M
  | i + 1 => ob_bI a b x i (ob_bO a b x M i) 5
