-- ===== what is thrown
def ob_strs : List (Nat × String) := [(43, "a mark needs two different clocks"), (51, "no such reading"), (57, "no such slack"), (64, "no values would be possible"), (75, "no such clock"), (84, "no such clock, reading or service"), (90, "no room for a line"), (101, "no such line"), (108, "no such place"), (114, "too many lines"), (120, "no such weight"), (138, "no such service"), (143, "no such service or percentage"), (145, "no such minutes"), (148, "no room for a measure"), (160, "no room for a cause"), (165, "no such cause"), (167, "no such weight, or one cause twice"), (172, "the reason is because of the cause")]
/-- what a throw needs of the start: the two statics of Throwable, the classes, the texts -/
def ob_ex (sa : Nat → Nat) (U : State) (H : Heap) : Prop := vx_Zq Bundle.tN "UNASSIGNED_STACK" Bundle.steD (fun _ => False) U H ∧ vx_Zq Bundle.tN "SUPPRESSED_SENTINEL" Bundle.listD (fun _ => False) U H ∧ va_Nw (.castable "java/lang/IllegalArgumentException" "java/lang/IllegalArgumentException") U ∧ va_Nw (.castable "java/lang/IllegalStateException" "java/lang/IllegalStateException") U ∧ va_Nw (.castable "java/lang/IndexOutOfBoundsException" "java/lang/IndexOutOfBoundsException") U ∧ va_Nw (.declares (Bundle.initS "java/lang/RuntimeException")) U ∧ va_Nw (.declares (Bundle.initS "java/lang/Exception")) U ∧ va_Nw (.declares (Bundle.initS Bundle.tN)) U ∧ ∀ (i : Nat) (q : Nat × String), ob_strs[i]? = some q → vk_R RX4 q.1 q.2 (sa i) U
theorem ob_ex.warm {sa : Nat → Nat} {s U : State} {H : Heap} (hW : s.WarmedH U.vm) (h : ob_ex sa s H) : ob_ex sa U H := ⟨vx_Zq.moved hW.alike h.1, vx_Zq.moved hW.alike h.2.1, va_Nw.warmC hW h.2.2.1, va_Nw.warmC hW h.2.2.2.1, va_Nw.warmC hW h.2.2.2.2.1, va_Nw.warmD hW h.2.2.2.2.2.1, va_Nw.warmD hW h.2.2.2.2.2.2.1, va_Nw.warmD hW h.2.2.2.2.2.2.2.1, fun i q hq => vk_R.warm hW (h.2.2.2.2.2.2.2.2 i q hq)⟩
theorem ob_ex.call {sa : Nat → Nat} {U : State} {H : Heap} {g : JFrame} {mk : MethodId} {a : Array Value} (h : ob_ex sa U H) : ob_ex sa (U.calling g mk a) H := ⟨vx_Zq.moved (u := U) (U := U.calling g mk a) (Vm.Alike.refl U.vm) h.1, vx_Zq.moved (u := U) (U := U.calling g mk a) (Vm.Alike.refl U.vm) h.2.1, va_Nw.same (u := U) (U := U.calling g mk a) rfl rfl h.2.2.1, va_Nw.same (u := U) (U := U.calling g mk a) rfl rfl h.2.2.2.1, va_Nw.same (u := U) (U := U.calling g mk a) rfl rfl h.2.2.2.2.1, va_Nw.same (u := U) (U := U.calling g mk a) rfl rfl h.2.2.2.2.2.1, va_Nw.same (u := U) (U := U.calling g mk a) rfl rfl h.2.2.2.2.2.2.1, va_Nw.same (u := U) (U := U.calling g mk a) rfl rfl h.2.2.2.2.2.2.2.1, fun i q hq => vk_R.same (u := U) (U := U.calling g mk a) rfl (h.2.2.2.2.2.2.2.2 i q hq)⟩
/-- the start of a method that may throw -/
def ob_Px (D : va_G) (t : Nat → ClassId) (ws : va_W) (sz : Nat) (sa : Nat → Nat) (av : List Value) : Array Value → State → Prop := va_Pc av (fun U => U.heap.size = sz ∧ va_P D vwCl ws U.heap ∧ ob_kx D t U ∧ va_D (fun _ => True) ws ∧ ob_ex sa U U.heap)
theorem ob_pxV {D : va_G} {t : Nat → ClassId} {sa : Nat → Nat} {ws : va_W} {A : Nat → Prop} {H : Heap} {s : State} {As : List Value} {b q0 ci : Nat} {q : vw_C} {fs : List Value} (hP : va_P D vwCl ws H) (hD : va_D A ws) (hk : ob_kx D t s) (hE : ob_ex sa s H) (hc : vwCl[ci]? = some q) (he : ws[q0]? = some (b, .inr (ci, fs))) : PreV s H q.1 b (ob_Px D t ws H.size sa (.ref b :: As)) As :=
  ⟨fun a U g mk q => ⟨q.1, q.2.1, q.2.2.1, q.2.2.2.1.call, q.2.2.2.2.1, q.2.2.2.2.2.call⟩, va_recv hk.1 hP hc he, fun U hU hW => ⟨rfl, by rw [hU], by rw [hU]; exact hP, hk.warm hW, hD.weaken (fun _ _ _ _ => trivial), by rw [hU]; exact hE.warm hW⟩⟩
def ob_bq0 : List Cond := [Cond.castable "java/lang/IllegalArgumentException" "java/lang/IllegalArgumentException", Cond.declares (Bundle.initS "java/lang/RuntimeException"), Cond.declares (Bundle.initS "java/lang/Exception"), Cond.declares (Bundle.initS Bundle.tN)]
def ob_bq1 : List Cond := [Cond.castable "java/lang/IllegalStateException" "java/lang/IllegalStateException", Cond.declares (Bundle.initS "java/lang/RuntimeException"), Cond.declares (Bundle.initS "java/lang/Exception"), Cond.declares (Bundle.initS Bundle.tN)]
def ob_bq2 : List Cond := [Cond.castable "java/lang/IndexOutOfBoundsException" "java/lang/IndexOutOfBoundsException", Cond.declares (Bundle.initS "java/lang/RuntimeException"), Cond.declares (Bundle.initS "java/lang/Exception"), Cond.declares (Bundle.initS Bundle.tN)]
theorem ob_ng0 : ∀ w ∈ (vx_atS RX4 45 "java/lang/IllegalArgumentException" ["java/lang/RuntimeException", "java/lang/Exception"]).filter (fun w => !goodWord w), w ∈ ob_bq0 := by decide +kernel
theorem ob_ng1 : ∀ w ∈ (vx_atS RX4 66 "java/lang/IllegalStateException" ["java/lang/RuntimeException", "java/lang/Exception"]).filter (fun w => !goodWord w), w ∈ ob_bq1 := by decide +kernel
theorem ob_ng2 : ∀ w ∈ (vx_atS RX4 103 "java/lang/IndexOutOfBoundsException" ["java/lang/RuntimeException", "java/lang/Exception"]).filter (fun w => !goodWord w), w ∈ ob_bq2 := by decide +kernel
theorem ob_gd0 (ik : Nat) : ∀ w ∈ Cond.classLink RX4 ik "java/lang/IllegalArgumentException" :: Cond.initialized "java/lang/IllegalArgumentException" :: vx_atS RX4 45 "java/lang/IllegalArgumentException" ["java/lang/RuntimeException", "java/lang/Exception"], vx_ot w = true := by
  have h : ∀ w ∈ vx_atS RX4 45 "java/lang/IllegalArgumentException" ["java/lang/RuntimeException", "java/lang/Exception"], vx_ot w = true := by decide +kernel
  exact List.forall_mem_cons.mpr ⟨rfl, List.forall_mem_cons.mpr ⟨rfl, h⟩⟩
theorem ob_gd1 (ik : Nat) : ∀ w ∈ Cond.classLink RX4 ik "java/lang/IllegalStateException" :: Cond.initialized "java/lang/IllegalStateException" :: vx_atS RX4 66 "java/lang/IllegalStateException" ["java/lang/RuntimeException", "java/lang/Exception"], vx_ot w = true := by
  have h : ∀ w ∈ vx_atS RX4 66 "java/lang/IllegalStateException" ["java/lang/RuntimeException", "java/lang/Exception"], vx_ot w = true := by decide +kernel
  exact List.forall_mem_cons.mpr ⟨rfl, List.forall_mem_cons.mpr ⟨rfl, h⟩⟩
theorem ob_gd2 (ik : Nat) : ∀ w ∈ Cond.classLink RX4 ik "java/lang/IndexOutOfBoundsException" :: Cond.initialized "java/lang/IndexOutOfBoundsException" :: vx_atS RX4 103 "java/lang/IndexOutOfBoundsException" ["java/lang/RuntimeException", "java/lang/Exception"], vx_ot w = true := by
  have h : ∀ w ∈ vx_atS RX4 103 "java/lang/IndexOutOfBoundsException" ["java/lang/RuntimeException", "java/lang/Exception"], vx_ot w = true := by decide +kernel
  exact List.forall_mem_cons.mpr ⟨rfl, List.forall_mem_cons.mpr ⟨rfl, h⟩⟩
/-- the class's own tables behind a mark -/
def ob_mk (M : Nat → Nat → Int32) (a c : Nat) (x2 x4 x5 : Int32) : Nat → Nat → Int32 := ob_bO c a (x5 - (x4 - x2)) (ob_bO a c (x4 - x2 + x5) M 5) 5
def ob_z4 (b c r : Bool) : Nat := if b && c then ob_z3 r else ob_z2 b c
def ob_et (n : Nat) (M : Nat → Nat → Int32) (cl rd : Nat → Int32) (x : Int32) : Int32 := if ob_hd n x then (if 1000000 ≤ ob_ms M (nI 0) (cl x.toNatClampNeg) then -1000000 else rd x.toNatClampNeg - ob_ms M (nI 0) (cl x.toNatClampNeg)) else -1000000
def ob_sx (p : Nat → Bool) (x : Int32) : Nat → Bool
  | 0 => false
  | k + 1 => ob_sx p x k || (p k && decide (nI (ob_ct p k) = x))
theorem ob_sx_f {p : Nat → Bool} {x : Int32} : ∀ {n : Nat}, (∀ j, j < n → p j = true → ¬ nI (ob_ct p j) = x) → ob_sx p x n = false
  | 0, _ => rfl
  | n + 1, h => by
    rw [ob_sx, ob_sx_f (n := n) (fun j hj => h j (by omega))]
    cases hp : p n
    · rfl
    · simp [h n (by omega) hp]
theorem ob_sx_t {p : Nat → Bool} {x : Int32} {k : Nat} (hp : p k = true) (hx : nI (ob_ct p k) = x) : ∀ {n : Nat}, k < n → ob_sx p x n = true
  | 0, h => absurd h (Nat.not_lt_zero _)
  | n + 1, h => by
    rw [ob_sx]
    rcases Nat.lt_or_ge k n with q | q
    · rw [ob_sx_t hp hx q]; rfl
    · rw [show n = k by omega, hp, decide_eq_true hx]
      simp
theorem ob_nIm1 {k : Nat} (h : k ≤ 1000000) : ¬ nI k = -1 := fun q => by
  have := congrArg Int32.toInt q
  rw [ob_ti (by omega)] at this
  have h1 : (-1 : Int32).toInt = -1 := rfl
  omega
theorem ob_dXOL {ax : Nat} {ao : Nat → Nat} {al : Nat → Nat} {am : Nat → Nat} {ac : Nat → Nat} {t : Nat → ClassId} {M : Nat → Nat → Int32} {n : Nat} {cl : Nat → Int32} {rd : Nat → Int32} {sv : Nat → Int32} {pb : Nat → Int32} {ba : Nat → Int32} {bf : Nat → Int32} {od : Nat → Int32} {bg : Nat → Int64} {M' : Nat → Nat → Int32} {n' : Nat} {cl' : Nat → Int32} {rd' : Nat → Int32} {sv' : Nat → Int32} {pb' : Nat → Int32} {ba' : Nat → Int32} {bf' : Nat → Int32} {od' : Nat → Int32} {bg' : Nat → Int64} {A : Nat → Prop} (h : va_D A (ob_wX ax ao al am ac ++ ob_wO t ao M ++ ob_wL t al n cl rd sv pb ba bf od bg)) : va_D A (ob_wX ax ao al am ac ++ ob_wO t ao M' ++ ob_wL t al n' cl' rd' sv' pb' ba' bf' od' bg') := ob_ds h rfl
theorem ob_dXL {ax : Nat} {ao : Nat → Nat} {al : Nat → Nat} {am : Nat → Nat} {ac : Nat → Nat} {t : Nat → ClassId} {n : Nat} {cl : Nat → Int32} {rd : Nat → Int32} {sv : Nat → Int32} {pb : Nat → Int32} {ba : Nat → Int32} {bf : Nat → Int32} {od : Nat → Int32} {bg : Nat → Int64} {n' : Nat} {cl' : Nat → Int32} {rd' : Nat → Int32} {sv' : Nat → Int32} {pb' : Nat → Int32} {ba' : Nat → Int32} {bf' : Nat → Int32} {od' : Nat → Int32} {bg' : Nat → Int64} {A : Nat → Prop} (h : va_D A (ob_wX ax ao al am ac ++ ob_wL t al n cl rd sv pb ba bf od bg)) : va_D A (ob_wX ax ao al am ac ++ ob_wL t al n' cl' rd' sv' pb' ba' bf' od' bg') := ob_ds h rfl
theorem ob_dXM {ax : Nat} {ao : Nat → Nat} {al : Nat → Nat} {am : Nat → Nat} {ac : Nat → Nat} {t : Nat → ClassId} {mn : Nat} {ms : Nat → Int32} {mf : Nat → Int32} {mt : Nat → Int32} {mp : Nat → Int32} {mn' : Nat} {ms' : Nat → Int32} {mf' : Nat → Int32} {mt' : Nat → Int32} {mp' : Nat → Int32} {A : Nat → Prop} (h : va_D A (ob_wX ax ao al am ac ++ ob_wM t am mn ms mf mt mp)) : va_D A (ob_wX ax ao al am ac ++ ob_wM t am mn' ms' mf' mt' mp') := ob_ds h rfl
theorem ob_dXC {ax : Nat} {ao : Nat → Nat} {al : Nat → Nat} {am : Nat → Nat} {ac : Nat → Nat} {t : Nat → ClassId} {cn : Nat} {st : Int32} {Wt : Nat → Nat → Int32} {cn' : Nat} {st' : Int32} {Wt' : Nat → Nat → Int32} {A : Nat → Prop} (h : va_D A (ob_wX ax ao al am ac ++ ob_wC t ac cn st Wt)) : va_D A (ob_wX ax ao al am ac ++ ob_wC t ac cn' st' Wt') := ob_ds h rfl
