section
-- ===== PART A: goes FIRST, ahead of the names: the tables' words, and 'selects' of the private methods out of them =====
/-- a private method of a class that the tables say can be made, by its rows of tables_1 -/
def lw_okq (q : MethodName × Nat) : Prop := (q.1.cls ≠ "java/lang/invoke/MethodHandle" ∧ q.1.cls ≠ "java/lang/invoke/VarHandle") ∧ Cond.instantiable q.1.cls q.2 ∈ tables_1 ∧ Cond.privateMethod q.1 ∈ tables_1 ∧ Cond.instanceMethod q.1 ∈ tables_1
theorem lw_p0 : lw_okq (⟨"OutageBook$Log", "isInStory", "(I)Z"⟩, 9) := ⟨⟨by decide +kernel, by decide +kernel⟩, List.mem_of_getElem? (i := 37) (by decide +kernel), List.mem_of_getElem? (i := 149) (by decide +kernel), List.mem_of_getElem? (i := 150) (by decide +kernel)⟩
theorem lw_p1 : lw_okq (⟨"OutageBook$Measures", "nextChange", "(I)I"⟩, 5) := ⟨⟨by decide +kernel, by decide +kernel⟩, List.mem_of_getElem? (i := 73) (by decide +kernel), List.mem_of_getElem? (i := 161) (by decide +kernel), List.mem_of_getElem? (i := 162) (by decide +kernel)⟩
theorem lw_p2 : lw_okq (⟨"OutageBook$Measures", "worst", "(II)I"⟩, 5) := ⟨⟨by decide +kernel, by decide +kernel⟩, List.mem_of_getElem? (i := 73) (by decide +kernel), List.mem_of_getElem? (i := 168) (by decide +kernel), List.mem_of_getElem? (i := 169) (by decide +kernel)⟩
theorem lw_p3 : lw_okq (⟨"java/lang/Throwable", "fillInStackTrace", "(I)Ljava/lang/Throwable;"⟩, 6) := ⟨⟨by decide +kernel, by decide +kernel⟩, List.mem_of_getElem? (i := 229) (by decide +kernel), List.mem_of_getElem? (i := 227) (by decide +kernel), List.mem_of_getElem? (i := 228) (by decide +kernel)⟩
theorem lw_p4 : lw_okq (⟨"OutageBook$Log", "allBefore", "(ILOutageBook$Offsets;)I"⟩, 9) := ⟨⟨by decide +kernel, by decide +kernel⟩, List.mem_of_getElem? (i := 37) (by decide +kernel), List.mem_of_getElem? (i := 298) (by decide +kernel), List.mem_of_getElem? (i := 299) (by decide +kernel)⟩
theorem lw_p5 : lw_okq (⟨"OutageBook$Log", "isSurelyEarlier", "(IILOutageBook$Offsets;)Z"⟩, 9) := ⟨⟨by decide +kernel, by decide +kernel⟩, List.mem_of_getElem? (i := 37) (by decide +kernel), List.mem_of_getElem? (i := 302) (by decide +kernel), List.mem_of_getElem? (i := 303) (by decide +kernel)⟩
theorem lw_p6 : lw_okq (⟨"OutageBook$Log", "nextLine", "(I)I"⟩, 9) := ⟨⟨by decide +kernel, by decide +kernel⟩, List.mem_of_getElem? (i := 37) (by decide +kernel), List.mem_of_getElem? (i := 311) (by decide +kernel), List.mem_of_getElem? (i := 312) (by decide +kernel)⟩
theorem lw_p7 : lw_okq (⟨"OutageBook$Log", "countBeginnings", "(I)J"⟩, 9) := ⟨⟨by decide +kernel, by decide +kernel⟩, List.mem_of_getElem? (i := 37) (by decide +kernel), List.mem_of_getElem? (i := 394) (by decide +kernel), List.mem_of_getElem? (i := 395) (by decide +kernel)⟩
theorem lw_p8 : lw_okq (⟨"OutageBook$Causes", "reach", "(II)I"⟩, 3) := ⟨⟨by decide +kernel, by decide +kernel⟩, List.mem_of_getElem? (i := 95) (by decide +kernel), List.mem_of_getElem? (i := 519) (by decide +kernel), List.mem_of_getElem? (i := 520) (by decide +kernel)⟩
theorem lw_p9 : lw_okq (⟨"OutageBook$Causes", "reasonsOf", "(I)I"⟩, 3) := ⟨⟨by decide +kernel, by decide +kernel⟩, List.mem_of_getElem? (i := 95) (by decide +kernel), List.mem_of_getElem? (i := 524) (by decide +kernel), List.mem_of_getElem? (i := 525) (by decide +kernel)⟩
theorem lw_p10 : lw_okq (⟨"OutageBook$Causes", "weight", "(II)I"⟩, 3) := ⟨⟨by decide +kernel, by decide +kernel⟩, List.mem_of_getElem? (i := 95) (by decide +kernel), List.mem_of_getElem? (i := 528) (by decide +kernel), List.mem_of_getElem? (i := 529) (by decide +kernel)⟩
theorem lw_p11 : lw_okq (⟨"OutageBookModel", "goes", "(I)Z"⟩, 21) := ⟨⟨by decide +kernel, by decide +kernel⟩, List.mem_of_getElem? (i := 571) (by decide +kernel), List.mem_of_getElem? (i := 659) (by decide +kernel), List.mem_of_getElem? (i := 660) (by decide +kernel)⟩
theorem lw_p12 : lw_okq (⟨"OutageBookModel", "binds", "(III)V"⟩, 21) := ⟨⟨by decide +kernel, by decide +kernel⟩, List.mem_of_getElem? (i := 571) (by decide +kernel), List.mem_of_getElem? (i := 663) (by decide +kernel), List.mem_of_getElem? (i := 664) (by decide +kernel)⟩
theorem lw_p13 : lw_okq (⟨"OutageBookModel", "isLine", "(I)Z"⟩, 21) := ⟨⟨by decide +kernel, by decide +kernel⟩, List.mem_of_getElem? (i := 571) (by decide +kernel), List.mem_of_getElem? (i := 686) (by decide +kernel), List.mem_of_getElem? (i := 687) (by decide +kernel)⟩
theorem lw_p14 : lw_okq (⟨"OutageBookModel", "isBefore", "(II)Z"⟩, 21) := ⟨⟨by decide +kernel, by decide +kernel⟩, List.mem_of_getElem? (i := 571) (by decide +kernel), List.mem_of_getElem? (i := 690) (by decide +kernel), List.mem_of_getElem? (i := 691) (by decide +kernel)⟩
theorem lw_p15 : lw_okq (⟨"OutageBookModel", "laysOrder", "()V"⟩, 21) := ⟨⟨by decide +kernel, by decide +kernel⟩, List.mem_of_getElem? (i := 571) (by decide +kernel), List.mem_of_getElem? (i := 698) (by decide +kernel), List.mem_of_getElem? (i := 699) (by decide +kernel)⟩
def lw_privs_1 : List (MethodName × Nat) := [(⟨"OutageBook$Log", "isInStory", "(I)Z"⟩, 9), (⟨"OutageBook$Measures", "nextChange", "(I)I"⟩, 5), (⟨"OutageBook$Measures", "worst", "(II)I"⟩, 5), (⟨"java/lang/Throwable", "fillInStackTrace", "(I)Ljava/lang/Throwable;"⟩, 6), (⟨"OutageBook$Log", "allBefore", "(ILOutageBook$Offsets;)I"⟩, 9), (⟨"OutageBook$Log", "isSurelyEarlier", "(IILOutageBook$Offsets;)Z"⟩, 9), (⟨"OutageBook$Log", "nextLine", "(I)I"⟩, 9), (⟨"OutageBook$Log", "countBeginnings", "(I)J"⟩, 9), (⟨"OutageBook$Causes", "reach", "(II)I"⟩, 3), (⟨"OutageBook$Causes", "reasonsOf", "(I)I"⟩, 3), (⟨"OutageBook$Causes", "weight", "(II)I"⟩, 3), (⟨"OutageBookModel", "goes", "(I)Z"⟩, 21), (⟨"OutageBookModel", "binds", "(III)V"⟩, 21), (⟨"OutageBookModel", "isLine", "(I)Z"⟩, 21), (⟨"OutageBookModel", "isBefore", "(II)Z"⟩, 21), (⟨"OutageBookModel", "laysOrder", "()V"⟩, 21)]
theorem lw_r1 : ∀ q ∈ lw_privs_1, lw_okq q := List.forall_mem_cons.mpr ⟨lw_p0, List.forall_mem_cons.mpr ⟨lw_p1, List.forall_mem_cons.mpr ⟨lw_p2, List.forall_mem_cons.mpr ⟨lw_p3, List.forall_mem_cons.mpr ⟨lw_p4, List.forall_mem_cons.mpr ⟨lw_p5, List.forall_mem_cons.mpr ⟨lw_p6, List.forall_mem_cons.mpr ⟨lw_p7, List.forall_mem_cons.mpr ⟨lw_p8, List.forall_mem_cons.mpr ⟨lw_p9, List.forall_mem_cons.mpr ⟨lw_p10, List.forall_mem_cons.mpr ⟨lw_p11, List.forall_mem_cons.mpr ⟨lw_p12, List.forall_mem_cons.mpr ⟨lw_p13, List.forall_mem_cons.mpr ⟨lw_p14, List.forall_mem_cons.mpr ⟨lw_p15, fun _ h => absurd h List.not_mem_nil⟩⟩⟩⟩⟩⟩⟩⟩⟩⟩⟩⟩⟩⟩⟩⟩
theorem lw_p16 : lw_okq (⟨"OutageBookModel", "isDoubted", "(I)Z"⟩, 21) := ⟨⟨by decide +kernel, by decide +kernel⟩, List.mem_of_getElem? (i := 571) (by decide +kernel), List.mem_of_getElem? (i := 714) (by decide +kernel), List.mem_of_getElem? (i := 715) (by decide +kernel)⟩
theorem lw_p17 : lw_okq (⟨"OutageBookModel", "storyLines", "()I"⟩, 21) := ⟨⟨by decide +kernel, by decide +kernel⟩, List.mem_of_getElem? (i := 571) (by decide +kernel), List.mem_of_getElem? (i := 722) (by decide +kernel), List.mem_of_getElem? (i := 723) (by decide +kernel)⟩
theorem lw_p18 : lw_okq (⟨"OutageBookModel", "isOfStory", "(I)Z"⟩, 21) := ⟨⟨by decide +kernel, by decide +kernel⟩, List.mem_of_getElem? (i := 571) (by decide +kernel), List.mem_of_getElem? (i := 726) (by decide +kernel), List.mem_of_getElem? (i := 727) (by decide +kernel)⟩
theorem lw_p19 : lw_okq (⟨"OutageBookModel", "percent", "(II)I"⟩, 21) := ⟨⟨by decide +kernel, by decide +kernel⟩, List.mem_of_getElem? (i := 571) (by decide +kernel), List.mem_of_getElem? (i := 751) (by decide +kernel), List.mem_of_getElem? (i := 752) (by decide +kernel)⟩
theorem lw_p20 : lw_okq (⟨"OutageBookModel", "change", "(I)I"⟩, 21) := ⟨⟨by decide +kernel, by decide +kernel⟩, List.mem_of_getElem? (i := 571) (by decide +kernel), List.mem_of_getElem? (i := 755) (by decide +kernel), List.mem_of_getElem? (i := 756) (by decide +kernel)⟩
theorem lw_p21 : lw_okq (⟨"OutageBookModel", "isCause", "(I)Z"⟩, 21) := ⟨⟨by decide +kernel, by decide +kernel⟩, List.mem_of_getElem? (i := 571) (by decide +kernel), List.mem_of_getElem? (i := 771) (by decide +kernel), List.mem_of_getElem? (i := 772) (by decide +kernel)⟩
theorem lw_p22 : lw_okq (⟨"OutageBookModel", "reached", "(IZ)I"⟩, 21) := ⟨⟨by decide +kernel, by decide +kernel⟩, List.mem_of_getElem? (i := 571) (by decide +kernel), List.mem_of_getElem? (i := 775) (by decide +kernel), List.mem_of_getElem? (i := 776) (by decide +kernel)⟩
theorem lw_p23 : lw_okq (⟨"OutageBookModel", "mainOf", "(I)I"⟩, 21) := ⟨⟨by decide +kernel, by decide +kernel⟩, List.mem_of_getElem? (i := 571) (by decide +kernel), List.mem_of_getElem? (i := 787) (by decide +kernel), List.mem_of_getElem? (i := 788) (by decide +kernel)⟩
def lw_privs_2 : List (MethodName × Nat) := [(⟨"OutageBookModel", "isDoubted", "(I)Z"⟩, 21), (⟨"OutageBookModel", "storyLines", "()I"⟩, 21), (⟨"OutageBookModel", "isOfStory", "(I)Z"⟩, 21), (⟨"OutageBookModel", "percent", "(II)I"⟩, 21), (⟨"OutageBookModel", "change", "(I)I"⟩, 21), (⟨"OutageBookModel", "isCause", "(I)Z"⟩, 21), (⟨"OutageBookModel", "reached", "(IZ)I"⟩, 21), (⟨"OutageBookModel", "mainOf", "(I)I"⟩, 21)]
theorem lw_r2 : ∀ q ∈ lw_privs_2, lw_okq q := List.forall_mem_cons.mpr ⟨lw_p16, List.forall_mem_cons.mpr ⟨lw_p17, List.forall_mem_cons.mpr ⟨lw_p18, List.forall_mem_cons.mpr ⟨lw_p19, List.forall_mem_cons.mpr ⟨lw_p20, List.forall_mem_cons.mpr ⟨lw_p21, List.forall_mem_cons.mpr ⟨lw_p22, List.forall_mem_cons.mpr ⟨lw_p23, fun _ h => absurd h List.not_mem_nil⟩⟩⟩⟩⟩⟩⟩⟩
def lw_privs : List (MethodName × Nat) := lw_privs_1 ++ (lw_privs_2)
def lw_tbl : List Cond := k2_sels lw_privs ++ tables_1
theorem lw_privs_ok : ∀ q ∈ lw_privs, lw_okq q := by
  show ∀ q ∈ lw_privs_1 ++ (lw_privs_2), lw_okq q
  exact List.forall_mem_append.mpr ⟨lw_r1, lw_r2⟩
-- ===== end of PART A; then your names; then what follows =====
/-! ===== BEGIN words of one list among another's, by their places ===== -/
theorem goodIn_r {big : List Cond} (ws : List Cond) (ps : List Nat) (hp : ws = ps.filterMap (fun i => big[i]?)) (h : ws.all goodWord = true) : GoodIn big ws := by
  intro w hw
  have h1 := List.all_eq_true.mp h w hw
  rw [hp] at hw
  obtain ⟨i, -, hi⟩ := List.mem_filterMap.mp hw
  have hm : w ∈ big := by first | exact List.mem_of_getElem? hi | exact List.getElem?_mem hi
  exact ⟨hm, good_of_word h1⟩
theorem goodIn_app {big a b : List Cond} (ha : GoodIn big a) (hb : GoodIn big b) : GoodIn big (a ++ b) := fun w h => (List.mem_append.mp h).elim (ha w) (hb w)
theorem goodIn_ca {big a b : List Cond} {c : Cond} (ha : GoodIn big (c :: a)) (hb : GoodIn big b) : GoodIn big (c :: (a ++ b)) := fun w h => (List.mem_cons.mp h).elim (fun e => ha w (List.mem_cons.mpr (Or.inl e))) (fun h => (List.mem_append.mp h).elim (fun h => ha w (List.mem_cons.mpr (Or.inr h))) (hb w))
theorem goodIn_sub {big ws : List Cond} (hm : ∀ w ∈ ws, w ∈ big) (h : ws.all goodWord = true) : GoodIn big ws := fun w hw => ⟨hm w hw, good_of_word (List.all_eq_true.mp h w hw)⟩
/-! ===== END ===== -/

/-- what the tables say of arrays over an array type -/
def va_AOA (t : FieldType) (U : State) : Prop := (Cond.arrayOver (.array t)).before #[] U = true
theorem va_AOA.use {t : FieldType} {A : Array Value} {U : State} (h : va_AOA t U) : (Cond.arrayOver (.array t)).before A U = true := h
/-! ===== BEGIN new T[n][m]: the outer array a place, the inner ones among the pooled ===== -/
/-- f, but v at every address of l -/
def vr_up {α : Type} (f : Nat → α) (l : List Nat) (v : α) : Nat → α := fun a => if a ∈ l then v else f a
theorem vr_up_in {α : Type} {f : Nat → α} {l : List Nat} {v : α} {a : Nat} (h : a ∈ l) : vr_up f l v a = v := if_pos h
theorem vr_up_ne {α : Type} {f : Nat → α} {l : List Nat} {v : α} {a : Nat} (h : a ∉ l) : vr_up f l v a = f a := if_neg h
theorem vr_rows {L l : List Nat} {f : Nat → va_E} {e : va_E} (h : ∀ a, a ∈ l → a ∉ L) : va_pl L f ++ l.map (fun a => (a, e)) = va_pl (L ++ l) (vr_up f l e) := by
  unfold va_pl
  rw [List.map_append]
  congr 1
  · apply List.map_congr_left
    intro a ha
    rw [vr_up_ne (fun q => h a q ha)]
  · apply List.map_congr_left
    intro a ha
    rw [vr_up_in ha]
theorem vr_lay {X rows : va_W} {x : Nat × va_E} {pl : va_W} {D : va_G} {cl : List vw_C} {H : Heap} (hP : va_P D cl (((X ++ pl) ++ [x]) ++ rows) H) : va_P D cl ((X ++ [x]) ++ (pl ++ rows)) H := by
  rw [List.append_assoc (X ++ pl)] at hP
  have h := va_P.swap hP
  rw [← List.append_assoc X] at h
  have h2 := va_P.swap h
  rw [List.append_assoc (X ++ [x])] at h2
  exact h2
theorem vr_layD {X rows : va_W} {x : Nat × va_E} {pl : va_W} {A : Nat → Prop} (hD : va_D A (((X ++ pl) ++ [x]) ++ rows)) : va_D A ((X ++ [x]) ++ (pl ++ rows)) := by
  rw [List.append_assoc (X ++ pl)] at hD
  have h := va_D.swap hD
  rw [← List.append_assoc X] at h
  have h2 := va_D.swap h
  rw [List.append_assoc (X ++ [x])] at h2
  exact h2
theorem vr_outer (c : ClassId) (N h0 : Nat) : ∀ i : Nat, Jvm.Free.Multi.outerC c N h0 i = arrV c N (fun j => va_rf (if j < i then some (h0 + 1 + j) else none))
  | 0 => by
    show ({ cls := c, slots := Array.replicate N .null, vm := .none } : Cell) = _
    rw [arrV_new]
    refine congrArg (arrV c N) (funext fun j => ?_)
    simp [va_rf]
  | i + 1 => by
    show (Jvm.Free.Multi.outerC c N h0 i).setSlot i (.ref (h0 + 1 + i)) = _
    rw [vr_outer c N h0 i, arrV_store]
    refine congrArg (arrV c N) (funext fun j => ?_)
    by_cases e : j = i
    · subst e
      simp [updV, va_rf]
    · by_cases h : j < i
      · simp [updV, e, h, Nat.lt_succ_of_lt h]
      · simp [updV, e, h, show ¬ j < i + 1 by omega]
section VGM
variable {p : Program} {l : Launch} {e : Env} {R : Room} {s : State} {m : MethodId} {args : Array Value} {below : List Frame} {meth : Method} {c : Code} {H : Heap} {locs : List Loc} {cells slots : Nat} {Q : State → Prop}
variable {cc : ByteArray} {pc : Nat} {ls : Array Slot} {rest : List Value} {D : va_G} {cl : List vw_C} {A : Nat → Prop} {a : Nat} {tys : List (ClassId × FieldType)} {ws : va_W} {H0 : Heap}
theorem va_mna {X : va_W} {L : List Nat} {f : Nat → va_E} {cc : ByteArray} (hexec : p.tables.exec = Jvm.exec) (hb : c.code = cc) {own : String} {index : Nat} {ty : FieldType} {cy : ClassId} (hown : s.vm.findClass own = some m.cls) (hclink : (Cond.classLink own index ("[" ++ (FieldType.array ty).toString)).before args s = true) (hover : va_AOA ty s) (harr : (Cond.arrayClass ty).before args s = true) (hcy : s.vm.findClass (FieldType.array ty).toString = some cy)
    (hK : va_K D cl tys s) (hP : va_P D cl (X ++ va_pl L f) H) (hD : va_D A (X ++ va_pl L f)) (hS : va_S A H0 H locs) (hA : ∀ q, H0.size ≤ q → A q) {n k : Int32} {N' K' : Nat} {z : vp_A} (hn : ¬ n < 0) (hk : ¬ k < 0) (hN : n.toNatClampNeg = N') (hM : k.toNatClampNeg = K')
    (hb1 : N' * 4 ≤ 536870912) (hb2 : K' * componentBytes ty ≤ 536870912) (hb3 : K' ≤ 536870912) (hdf : fits ty (defaultValue ty) = true) (hdd : (defaultValue ty).isDefault = true) (hcells : cells + (1 + N') ≤ R.cells) (hslots : slots + (N' + N' * K') ≤ R.slots) (hz : ∀ c : ClassId, Jvm.Free.Multi.innerC c K' (defaultValue ty) = vp_cell c z) (hdg : decode cc pc = .ok (.multianewarray index 2, 4))
    (kk : ∀ (q : Nat) (r : Nat → Nat) (cA : ClassId) (H1 : Heap), (∀ i j : Nat, i < N' → j < N' → r i = r j → i = j) → (∀ i : Nat, i < N' → r i ∉ L) → va_K D cl (tys ++ [(cA, .array ty)]) s →
      va_P D cl ((X ++ [(q, .inl (cA, N', .inr (.inr (.inr (.inr (fun i => if i < N' then some (r i) else none))))))]) ++ va_pl (L ++ (List.range N').map r) (vr_up f ((List.range N').map r) (.inl (cy, z)))) H1 → va_D A ((X ++ [(q, .inl (cA, N', .inr (.inr (.inr (.inr (fun i => if i < N' then some (r i) else none))))))]) ++ va_pl (L ++ (List.range N').map r) (vr_up f ((List.range N').map r) (.inl (cy, z)))) → va_S A H0 H1 locs →
      W p l e R s m args below meth c H1 locs (cells + 1 + N') (slots + N' + N' * K') Q (F0 m (pc + 4) ls (.ref q :: rest))) : W p l e R s m args below meth c H locs cells slots Q (F0 m pc ls (.int k :: .int n :: rest)) := by
  subst hN
  subst hM
  intro T hT Xs
  obtain ⟨vm₁, cA, comp, -, fA, fC, hO, -, X', step⟩ := Xs.multianewarray2F hexec hown hclink (va_AOA.use hover) harr (g := F0 m pc ls (.int k :: .int n :: rest)) rfl (by rw [hb]; exact hdg) rfl hn hk hb1 hb2 hb3 hdf hdd hcells hslots
  have ec : some cy = some comp := hcy.symm.trans fC
  cases ec
  generalize hF : Jvm.Free.Multi.fill (T.setVm vm₁) cA cy n.toNatClampNeg k.toNatClampNeg (defaultValue ty) n.toNatClampNeg = F at X' step
  have hTh : (T.setVm vm₁).heap = H := hT
  obtain ⟨f1, f2, -, -⟩ := Jvm.Free.Multi.fill_facts (T.setVm vm₁) cA cy n.toNatClampNeg k.toNatClampNeg (defaultValue ty) n.toNatClampNeg
  rw [hF, hTh] at f1 f2
  have hold : ∀ x : Nat, x < H.size → F.heap[x]? = H[x]? := fun x hx => by
    have := Jvm.Free.Multi.fill_old (T.setVm vm₁) cA cy n.toNatClampNeg k.toNatClampNeg (defaultValue ty) (a := x) (by rw [hTh]; exact hx) n.toNatClampNeg
    rw [hF, hTh] at this
    exact this
  have hrow : ∀ j : Nat, j < n.toNatClampNeg → F.heap[H.size + 1 + j]? = some (vp_cell cy z) := fun j hj => by
    have := Jvm.Free.Multi.fill_inner (T.setVm vm₁) cA cy n.toNatClampNeg k.toNatClampNeg (defaultValue ty) n.toNatClampNeg j hj
    rw [hF, hTh, hz] at this
    exact this
  have hout : Jvm.Free.Multi.outerC cA n.toNatClampNeg H.size n.toNatClampNeg = vp_cell cA (n.toNatClampNeg, .inr (.inr (.inr (.inr (fun i => if i < n.toNatClampNeg then some (H.size + 1 + i) else none))))) := by
    rw [vp_cell_q]
    exact vr_outer cA n.toNatClampNeg H.size n.toNatClampNeg
  rw [hout] at f2
  have hlt : ∀ a, a ∈ L → a < H.size := fun a ha => by
    obtain ⟨k9, hk9⟩ := va_pl_get (X := X) (f := f) ha
    exact (hP k9 _ hk9).lt
  have hnl : ∀ i : Nat, i < n.toNatClampNeg → H.size + 1 + i ∉ L := fun i _ h => by
    have := hlt _ h
    omega
  have hnm : ∀ a, a ∈ (List.range n.toNatClampNeg).map (fun i => H.size + 1 + i) → a ∉ L := fun a ha h => by
    obtain ⟨i, -, rfl⟩ := List.mem_map.mp ha
    have := hlt _ h
    omega
  have hP0 : va_P D cl (X ++ va_pl L f) F.heap := hP.kept (fun k9 x hx => hold x.1 ((hP k9 x hx).lt))
  have hP1 : va_P D cl ((X ++ va_pl L f) ++ [(H.size, .inl (cA, n.toNatClampNeg, .inr (.inr (.inr (.inr (fun i => if i < n.toNatClampNeg then some (H.size + 1 + i) else none))))))]) F.heap := hP0.app (fun k9 x hx => by
    have h0 : k9 < 1 := (List.getElem?_eq_some_iff.mp hx).1
    rw [show k9 = 0 by omega] at hx
    cases hx
    exact f2)
  have hP2 : va_P D cl (((X ++ va_pl L f) ++ [(H.size, .inl (cA, n.toNatClampNeg, .inr (.inr (.inr (.inr (fun i => if i < n.toNatClampNeg then some (H.size + 1 + i) else none))))))]) ++ ((List.range n.toNatClampNeg).map (fun i => H.size + 1 + i)).map (fun a => (a, .inl (cy, z)))) F.heap := hP1.app (fun k9 x hx => by
    obtain ⟨a, ha, rfl⟩ := List.mem_map.mp (List.mem_of_getElem? hx)
    obtain ⟨i, hi, rfl⟩ := List.mem_map.mp ha
    exact hrow i (List.mem_range.mp hi))
  have hD2 : va_D A (((X ++ va_pl L f) ++ [(H.size, .inl (cA, n.toNatClampNeg, .inr (.inr (.inr (.inr (fun i => if i < n.toNatClampNeg then some (H.size + 1 + i) else none))))))]) ++ ((List.range n.toNatClampNeg).map (fun i => H.size + 1 + i)).map (fun a => (a, .inl (cy, z)))) := by
    have hD1 := hD.push (e := .inl (cA, n.toNatClampNeg, .inr (.inr (.inr (.inr (fun i => if i < n.toNatClampNeg then some (H.size + 1 + i) else none)))))) hP rfl (hA _ hS.1)
    generalize hW1 : (X ++ va_pl L f) ++ [(H.size, .inl (cA, n.toNatClampNeg, .inr (.inr (.inr (.inr (fun i => if i < n.toNatClampNeg then some (H.size + 1 + i) else none))))))] = W1 at hD1 hP1 ⊢
    have hle : ∀ (k9 : Nat) (x : Nat × va_E), W1[k9]? = some x → x.1 ≤ H.size := fun k9 x hx => by
      rw [← hW1] at hx
      by_cases hl : k9 < (X ++ va_pl L f).length
      · rw [List.getElem?_append_left hl] at hx
        exact Nat.le_of_lt ((hP k9 x hx).lt)
      · rw [List.getElem?_append_right (by omega)] at hx
        have h0 : k9 - (X ++ va_pl L f).length < 1 := (List.getElem?_eq_some_iff.mp hx).1
        rw [show k9 - (X ++ va_pl L f).length = 0 by omega] at hx
        cases hx
        exact Nat.le_refl _
    have hr : ∀ (k9 : Nat) (x : Nat × va_E), (((List.range n.toNatClampNeg).map (fun i => H.size + 1 + i)).map (fun a => ((a, .inl (cy, z)) : Nat × va_E)))[k9]? = some x → x.1 = H.size + 1 + k9 := fun k9 x hx => by
      rw [List.getElem?_map, List.getElem?_map] at hx
      by_cases h9 : k9 < n.toNatClampNeg
      · rw [List.getElem?_range h9] at hx
        cases hx
        rfl
      · have hn0 : (List.range n.toNatClampNeg)[k9]? = none := List.getElem?_eq_none (by rw [List.length_range]; omega)
        rw [hn0] at hx
        cases hx
    refine ⟨fun i j x y hi hj hxy => ?_, fun k9 x hx => ?_⟩
    · by_cases h1 : i < W1.length <;> by_cases h2 : j < W1.length
      · rw [List.getElem?_append_left h1] at hi
        rw [List.getElem?_append_left h2] at hj
        exact hD1.1 i j x y hi hj hxy
      · rw [List.getElem?_append_left h1] at hi
        rw [List.getElem?_append_right (by omega)] at hj
        have := hle _ _ hi
        have := hr _ _ hj
        omega
      · rw [List.getElem?_append_right (by omega)] at hi
        rw [List.getElem?_append_left h2] at hj
        have := hle _ _ hj
        have := hr _ _ hi
        omega
      · rw [List.getElem?_append_right (by omega)] at hi hj
        have := hr _ _ hi
        have := hr _ _ hj
        omega
    · by_cases h1 : k9 < W1.length
      · rw [List.getElem?_append_left h1] at hx
        exact hD1.2 k9 x hx
      · rw [List.getElem?_append_right (by omega)] at hx
        have := hr _ _ hx
        exact hA _ (by have := hS.1; omega)
  have hAr : ArrOfT s cA (.array ty) := fun N9 z9 => by
    obtain ⟨-, k9, hk9, cm9, hkk9⟩ := (hO 0 0 0).1
    exact ⟨(fun q hq => by cases hq), k9, hk9, cm9, hkk9⟩
  have hK2 : va_K D cl (tys ++ [(cA, .array ty)]) s := ⟨hK.1, fun k9 x hx => by
    by_cases hl : k9 < tys.length
    · rw [List.getElem?_append_left hl] at hx
      exact hK.2 k9 x hx
    · rw [List.getElem?_append_right (by omega)] at hx
      have h0 : k9 - tys.length < 1 := (List.getElem?_eq_some_iff.mp hx).1
      rw [show k9 - tys.length = 0 by omega] at hx
      cases hx
      exact ⟨hAr, fA⟩⟩
  obtain ⟨t, a1, b1⟩ := kk H.size (fun i => H.size + 1 + i) cA F.heap (fun i j _ _ h => by have h9 : H.size + 1 + i = H.size + 1 + j := h; omega) hnl hK2 (by rw [← vr_rows hnm]; exact vr_lay hP2) (by rw [← vr_rows hnm]; exact vr_layD hD2) ⟨by rw [f1]; have := hS.1; omega, fun x h1 h2 => (hold x (Nat.lt_of_lt_of_le h1 hS.1)).trans (hS.2.1 x h1 h2), hS.2.2⟩ F rfl X'
  refine ⟨t, step t ?_, b1⟩
  have e : T.heap.size = H.size := by rw [hT]
  rw [e]
  exact a1
end VGM
/-! ===== END ===== -/

/-! ===== BEGIN exceptions that leave a method, and their catching by the caller (launches without stack traces) ===== -/
section VXA
/-! The laws vx_back, vx_callV, vx_callS, vx_callSW, vx_throw0, vx_throwS follow proofs of the library, with one case more: JvmDerived/Free/Laws.lean (Back.of_free), Shelf42/LK1.lean (callV, callS), Shelf/KitTraced.lean (throwNew0V, throwNewS). -/
/-- where a method has thrown q: the class by its name, the cell, what was written, the world -/
def vx_T (XC : String → State → State → Prop) (st : State) (q : Addr) (t : State) (mc ms : Nat) (free : Addr → Prop) : Prop :=
  ∃ (E : String) (ce : Cell) (L : List Loc), XC E st t ∧ t.heap[q]? = some ce ∧ ce.vm = .none ∧ st.vm.findClass E = some ce.cls ∧ st.WarmedH t.vm ∧ st.sameButNew ({ t with vm := st.vm } : State) L mc ms ∧ ∀ z ∈ L, free z.base
def vx_Q (Qc : Array Value → State → Outcome → State → Prop) (XC : String → State → State → Prop) (mc ms : Nat) (free : Addr → Prop) : Array Value → State → Outcome → State → Prop := fun a st o t =>
  (Qc a st o t ∧ ∃ L, FrameEnd st o t L mc ms ∧ ∀ q ∈ L, free q.base) ∨ ∃ q, o = .threw q ∧ vx_T XC st q t mc ms free
/-- a callee that returns or throws -/
def vx_Met (l : Launch) (y : MethodName) (ws : List Cond) (rm : Room) (Pc : Array Value → State → Prop) (Qc : Array Value → State → Outcome → State → Prop) (XC : String → State → State → Prop) (mc ms : Nat) (free : Addr → Prop) : Prop :=
  MetFree l y (headSpec ws rm) Pc (fun _ _ _ _ _ => True) (vx_Q Qc XC mc ms free)
def vx_Post (XC : String → State → State → Prop) (mc ms : Nat) (free : Addr → Prop) : Pt → Array Value → Addr → Pt → Prop := fun A a q B =>
  ∃ (g : JFrame) (mk : MethodId) (t : State) (L : List Loc) (E : String) (ce : Cell), B.U.heap = t.heap ∧ B.U.vm = t.vm ∧ XC E (A.U.calling g mk a) t ∧ t.heap[q]? = some ce ∧ ce.vm = .none ∧ A.U.vm.findClass E = some ce.cls ∧ B.locs = A.locs ++ L ∧ (∀ z ∈ L, free z.base) ∧ B.cells = A.cells + mc ∧ B.slots = A.slots + ms
def vx_Back (l : Launch) (R : Room) (p : Program) (e : Env) (below : List Frame) (s : State) (sargs : Array Value) (y : MethodName) (len W9 : Nat)
    (Pre : Pt → Array Value → Prop) (Post : Pt → Array Value → Option Value → Pt → Prop) (PostX : Pt → Array Value → Addr → Pt → Prop) : Prop :=
  ∀ (m : MethodId) (meth : Method) (c : Code) (A : Pt) (g : JFrame) (ig : Instr) (mk : MethodId) (a : Array Value),
    Stand p l e R s m sargs below meth c A.U A.locs A.cells A.slots → g.method = m → g.locals.size = c.maxLocals → decode c.code g.pc = .ok (ig, len) →
    2 * g.monitorRoom + (g.stack.map fun v => v.category).sum ≤ W9 → A.U.methodNamed? y = some mk → Pre A a →
    (∃ (v : Option Value) (B : Pt), Stand p l e R s m sargs below meth c B.U B.locs B.cells B.slots ∧ Post A a v B ∧
      Steps p.tables e below (doInvoke e (A.U.setTop g) [] mk a).1 (B.U.setTop { g with pc := g.pc + len, stack := v.toList ++ g.stack })) ∨
    (∃ (q : Addr) (B : Pt), Stand p l e R s m sargs below meth c B.U B.locs B.cells B.slots ∧ PostX A a q B ∧
      Steps p.tables e below (doInvoke e (A.U.setTop g) [] mk a).1 ((B.U.setTop g).pushFrame (.throwing q)))
section Payer
variable {l : Launch} {R : Room} {p : Program} {e : Env} {below : List Frame} {s : State} {sargs : Array Value} {y : MethodName} {len W9 : Nat}
theorem vx_back {ws : List Cond} {rm : Room} {Pc : Array Value → State → Prop} {Qc : Array Value → State → Outcome → State → Prop} {XC : String → State → State → Prop} {mc ms : Nat} {free : Addr → Prop} {bytes : ByteArray} {maxL : Nat} {ret : Option FieldType}
    (hM : vx_Met l y ws rm Pc Qc XC mc ms free) (hblind : FrameBlind Pc) (hrc : rm.cells = mc) (hrs : rm.slots = ms)
    (hframes : rm.frames + 1 ≤ R.frames) (hlocals : W9 + (maxL + 11) + rm.locals ≤ R.locals)
    (hws : ∀ w ∈ ws, ∀ a' U, s.WarmedH U.vm → w.before a' U = true) (hcode : Cond.code y bytes maxL ret ∈ ws) (hinit : ∀ a' U, s.WarmedH U.vm → (Cond.initialized y.cls).before a' U = true) :
    vx_Back l R p e below s sargs y len W9 (PreOf R mc ms Pc) (PostOf Qc mc ms free) (vx_Post XC mc ms free) := by
  intro m meth c A g ig mk a X hg hsize hdg hW hn hp
  have h1 : (headSpec ws rm).pre.before a A.U = true := atoms_intro fun w hw => hws w hw _ _ X.warmed
  have h2 : (Cond.code y bytes maxL ret).before a A.U = true := hws _ hcode _ _ X.warmed
  have h3 : (Cond.initialized y.cls).before a A.U = true := hinit _ _ X.warmed
  have h4 : A.cells + (headSpec ws rm).room.cells ≤ R.cells := by rw [show (headSpec ws rm).room.cells = mc from hrc]; exact hp.1
  have h5 : A.slots + (headSpec ws rm).room.slots ≤ R.slots := by rw [show (headSpec ws rm).room.slots = ms from hrs]; exact hp.2.1
  have hPc : Pc a (A.U.calling g mk a) := hblind _ _ _ _ hp.2.2
  obtain ⟨U, Ls, c0, s0⟩ := A
  dsimp only [Pt.U, Pt.locs, Pt.cells, Pt.slots] at h1 h2 h3 h4 h5 X hn hPc ⊢
  obtain ⟨methY, cY, hmY, hcY, -, hlY, -, -, -, -⟩ := Cond.code_spec hn h2
  obtain ⟨kY, hkY, -⟩ := className_of_methodNamed hn
  have hinitY : kY.init = .initialized := Cond.initialized_spec (findClass_of_methodNamed hn) hkY h3
  have h : At U g.method c below := by rw [hg]; exact X.here
  have hlocals9 : W9 + (maxL + 11) + (headSpec ws rm).room.locals ≤ R.locals := hlocals
  have happ : (headSpec ws rm).appliesLoose y e.platform (U.calling g mk a) = true :=
    Spec.appliesLoose_calling (g := g) h hdg hn hkY hinitY
      (X.room_calling (g := g) (R' := (headSpec ws rm).room) hsize hmY hcY hframes (by rw [hlY]; omega) h4 h5) h1
  obtain ⟨mid, hmid⟩ := h.above
  have hfr : (U.setTop g).frames = (.java g :: mid) ++ below := by rw [State.frames_setTop' g h.top, hmid]; rfl
  obtain ⟨o, s₂, hsteps, -, hend, hq⟩ := Steps.callFree hM p X.admits X.cas X.clock (acts := []) hfr happ hPc trivial
  have hq' : vx_Q Qc XC mc ms free a (U.calling g mk a) o s₂ := hq
  rw [State.frames_setTop' g h.top] at hend
  obtain ⟨g₀, hg0⟩ := Option.isSome_iff_exists.mp h.top
  obtain ⟨r, hr⟩ := State.topJava?_eq_some.mp hg0
  have hr' : (({ U with heap := s₂.heap, slotsUsed := s₂.slotsUsed } : State).setVm s₂.vm).frames = .java g₀ :: r := hr
  rcases hq' with ⟨hqc, L, hfe, hL⟩ | ⟨q, rfl, E, ce, L, hx, hce, hcv, hcl, hW₂, hsm, hL⟩
  · obtain ⟨⟨v, rfl⟩, hW₂, e2, q2, q3, q4, q5, q6⟩ := id hfe
    have e3 : s₂ = ({ (U.calling g mk a).setFrames s₂.frames with heap := s₂.heap, slotsUsed := s₂.slotsUsed } : State).setVm s₂.vm := by
      have : s₂ = ({ s₂ with vm := (U.calling g mk a).vm } : State).setVm s₂.vm := rfl
      rw [e2] at this
      exact this
    obtain ⟨c₂, i₂, len₂, hc₂, hd₂, hf₂⟩ := hend
    have hW' : U.WarmedH s₂.vm := hW₂
    have hcc : c₂ = c := by
      have h1 : s₂.code? g.method = U.code? g.method := by
        rw [State.code?_eq, State.code?_eq, hW'.alike.method?]
      exact Option.some.inj (hc₂.symm.trans (h1.trans h.code))
    subst hcc
    have hlen : len₂ = len := by rw [hdg] at hd₂; cases hd₂; rfl
    subst hlen
    have hs₂ : s₂ = (({ U with heap := s₂.heap, slotsUsed := s₂.slotsUsed } : State).setVm s₂.vm).setTop { g with pc := g.pc + len₂, stack := v.toList ++ g.stack } := by
      refine e3.trans ?_
      rw [hf₂, State.calling_eq h.top, State.setFrames_setFrames, State.setTop_of_frames _ hr', hr]
      rfl
    have hsame : U.sameButNew ({ U with heap := s₂.heap, slotsUsed := s₂.slotsUsed } : State) L mc ms := by
      refine ⟨?_, q2, q3, q4, q5, q6⟩
      obtain ⟨t, ht, -⟩ := State.frames_cons hr
      show ({ U with heap := s₂.heap, slotsUsed := s₂.slotsUsed } : State) = { U.setFrames U.frames with heap := s₂.heap, slotsUsed := s₂.slotsUsed }
      rw [State.setFrames_self ht]
    subst hg
    refine Or.inl ⟨v, ⟨(({ U with heap := s₂.heap, slotsUsed := s₂.slotsUsed } : State).setVm s₂.vm), Ls ++ L, c0 + mc, s0 + ms⟩,
      ⟨X.admits, X.cas, X.clock, X.frames, X.room, X.hears, X.method, X.code, (X.here.setHeapUsed s₂.heap s₂.slotsUsed).setVm hW'.alike, X.tail, State.WarmedH.trans X.warmed hW', X.limits, X.bytes, X.same.trans (hsame.setVm s.vm)⟩,
      ⟨g, mk, s₂, L, rfl, rfl, hqc, rfl, hL, rfl, rfl⟩, ?_⟩
    show Steps p.tables e below _ ((({ U with heap := s₂.heap, slotsUsed := s₂.slotsUsed } : State).setVm s₂.vm).setTop { g with pc := g.pc + len₂, stack := v.toList ++ g.stack })
    rw [← hs₂]
    exact hsteps
  · obtain ⟨e2, q2, q3, q4, q5, q6⟩ := id hsm
    have e3 : s₂ = ({ (U.calling g mk a).setFrames s₂.frames with heap := s₂.heap, slotsUsed := s₂.slotsUsed } : State).setVm s₂.vm := by
      have : s₂ = ({ s₂ with vm := (U.calling g mk a).vm } : State).setVm s₂.vm := rfl
      rw [e2] at this
      exact this
    have hf₂ : s₂.frames = .throwing q :: .java g :: U.frames.tail := hend
    have hW' : U.WarmedH s₂.vm := hW₂
    have hs₂ : s₂ = ((({ U with heap := s₂.heap, slotsUsed := s₂.slotsUsed } : State).setVm s₂.vm).setTop g).pushFrame (.throwing q) := by
      refine e3.trans ?_
      rw [hf₂, State.calling_eq h.top, State.setFrames_setFrames, State.pushFrame, State.frames_setTop _ hr', State.setTop_of_frames _ hr', State.setFrames_setFrames, hr]
      rfl
    have hsame : U.sameButNew ({ U with heap := s₂.heap, slotsUsed := s₂.slotsUsed } : State) L mc ms := by
      refine ⟨?_, q2, q3, q4, q5, q6⟩
      obtain ⟨t, ht, -⟩ := State.frames_cons hr
      show ({ U with heap := s₂.heap, slotsUsed := s₂.slotsUsed } : State) = { U.setFrames U.frames with heap := s₂.heap, slotsUsed := s₂.slotsUsed }
      rw [State.setFrames_self ht]
    subst hg
    refine Or.inr ⟨q, ⟨(({ U with heap := s₂.heap, slotsUsed := s₂.slotsUsed } : State).setVm s₂.vm), Ls ++ L, c0 + mc, s0 + ms⟩,
      ⟨X.admits, X.cas, X.clock, X.frames, X.room, X.hears, X.method, X.code, (X.here.setHeapUsed s₂.heap s₂.slotsUsed).setVm hW'.alike, X.tail, State.WarmedH.trans X.warmed hW', X.limits, X.bytes, X.same.trans (hsame.setVm s.vm)⟩,
      ⟨g, mk, s₂, L, E, ce, rfl, rfl, hx, hce, hcv, hcl, rfl, hL, rfl, rfl⟩, ?_⟩
    show Steps p.tables e below _ (((({ U with heap := s₂.heap, slotsUsed := s₂.slotsUsed } : State).setVm s₂.vm).setTop g).pushFrame (.throwing q))
    rw [← hs₂]
    exact hsteps
end Payer
section Calls
variable {p : Program} {l : Launch} {e : Env} {R : Room} {s : State} {m : MethodId} {args : Array Value} {below : List Frame} {meth : Method} {c : Code} {T : State} {locs : List Loc} {cells slots : Nat}
theorem vx_callV (X : Stand p l e R s m args below meth c T locs cells slots) (hexec : p.tables.exec = Jvm.exec) {own C : String} {index : Nat} {y : MethodName} {bytes : ByteArray} {maxL : Nat} {ret : Option FieldType}
    (hown : s.vm.findClass own = some m.cls) (hlink : (Cond.methodLink own index y).before args s = true) (hinst : (Cond.instanceMethod y).before args s = true) (hsel : (Cond.selects C y y).before args s = true)
    (hcode : (Cond.code y bytes maxL ret).before args s = true) (hy : y.cls ≠ "java/lang/invoke/MethodHandle" ∧ y.cls ≠ "java/lang/invoke/VarHandle")
    {W9 : Nat} {Pre : Pt → Array Value → Prop} {Post : Pt → Array Value → Option Value → Pt → Prop} {PostX : Pt → Array Value → Addr → Pt → Prop} (hK : vx_Back l R p e below s args y 3 W9 Pre Post PostX)
    {b : Addr} {cellB : Cell} (hcell : T.heap[b]? = some cellB) (hobj : cellB.vm.isStatics = false) (hcls : s.vm.findClass C = some cellB.cls)
    {g : JFrame} (hg : g.method = m) (hsize : g.locals.size = c.maxLocals) {argsL rest : List Value} (hlen : ∀ sig, parseMethodDescriptor y.desc = some sig → argsL.length = sig.parameters.length)
    (hstack : g.stack = argsL.reverse ++ .ref b :: rest) (hW : 2 * g.monitorRoom + (rest.map fun v => v.category).sum ≤ W9) (hdg : decode c.code g.pc = .ok (.invokevirtual index, 3))
    (hpre : ∀ vm₁, s.WarmedH vm₁ → Pre ⟨T.setVm vm₁, locs, cells, slots⟩ (Value.ref b :: argsL).toArray) :
    (∃ (v : Option Value) (vm₁ : Vm) (B : Pt), s.WarmedH vm₁ ∧ Stand p l e R s m args below meth c B.U B.locs B.cells B.slots ∧ Post ⟨T.setVm vm₁, locs, cells, slots⟩ (Value.ref b :: argsL).toArray v B ∧
      ∀ target, Steps p.tables e below (B.U.setTop { g with pc := g.pc + 3, stack := v.toList ++ rest }) target → Steps p.tables e below (T.setTop g) target) ∨
    (∃ (q : Addr) (vm₁ : Vm) (B : Pt), s.WarmedH vm₁ ∧ Stand p l e R s m args below meth c B.U B.locs B.cells B.slots ∧ PostX ⟨T.setVm vm₁, locs, cells, slots⟩ (Value.ref b :: argsL).toArray q B ∧
      Steps p.tables e below (T.setTop g) ((B.U.setTop { g with stack := rest }).pushFrame (.throwing q))) := by
  obtain ⟨mk, methM, hnamed, hmethM, hstM, habM⟩ := Cond.instanceMethod_spec hinst
  obtain ⟨methM', cM, hmethM', -, -, -, -, -, -, hsigM⟩ := Cond.code_spec hnamed hcode
  cases hmethM.symm.trans hmethM'
  obtain ⟨c2, r2, m2, q1, q2, q3, q4, kP, hkP, hkPi⟩ := Cond.selects_spec hsel
  cases hcls.symm.trans q1
  cases (State.methodFound?_of_named hnamed hy).symm.trans q2
  cases hnamed.symm.trans q3
  have hselP : selectMethod e.platform s.vm cellB.cls mk = .method mk := by rw [Launch.admits_selectMethod X.admits]; exact q4
  obtain ⟨vm₁, X₁, hstep₁⟩ := X.invokevirtual hexec hown hlink hnamed hmethM hstM hkP hkPi hy (a := b) (cell := cellB) hcell
    (fun z h => by rw [h] at hobj; cases hobj) hselP hmethM habM hkP hkPi (g := g) hg (argsL := argsL) (rest := rest) (hlen _ hsigM) hstack hdg
  rcases hK m meth c ⟨T.setVm vm₁, locs, cells, slots⟩ { g with stack := rest } (.invokevirtual index) mk (Value.ref b :: argsL).toArray X₁ hg hsize hdg hW (X₁.named hnamed) (hpre vm₁ X₁.warmed) with ⟨v, B, X', hpost, hsteps⟩ | ⟨q, B, X', hpost, hsteps⟩
  · exact Or.inl ⟨v, vm₁, B, X₁.warmed, X', hpost, fun target h => hstep₁ _ fun acts => by rw [doInvoke_state]; exact hsteps.trans h⟩
  · exact Or.inr ⟨q, vm₁, B, X₁.warmed, X', hpost, hstep₁ _ fun acts => by rw [doInvoke_state]; exact hsteps⟩
theorem vx_callS (X : Stand p l e R s m args below meth c T locs cells slots) (hexec : p.tables.exec = Jvm.exec) {own : String} {index : Nat} {y : MethodName} {bytes : ByteArray} {maxL : Nat} {ret : Option FieldType}
    (hown : s.vm.findClass own = some m.cls) (hlink : (Cond.methodLink own index y).before args s = true) (hstat : (Cond.static y).before args s = true) (hinit : (Cond.initialized y.cls).before args s = true)
    (hcode : (Cond.code y bytes maxL ret).before args s = true) (hy : y.cls ≠ "java/lang/invoke/MethodHandle" ∧ y.cls ≠ "java/lang/invoke/VarHandle")
    {W9 : Nat} {Pre : Pt → Array Value → Prop} {Post : Pt → Array Value → Option Value → Pt → Prop} {PostX : Pt → Array Value → Addr → Pt → Prop} (hK : vx_Back l R p e below s args y 3 W9 Pre Post PostX)
    {g : JFrame} (hg : g.method = m) (hsize : g.locals.size = c.maxLocals) {argsL rest : List Value} (hlen : ∀ sig, parseMethodDescriptor y.desc = some sig → argsL.length = sig.parameters.length)
    (hstack : g.stack = argsL.reverse ++ rest) (hW : 2 * g.monitorRoom + (rest.map fun v => v.category).sum ≤ W9) (hdg : decode c.code g.pc = .ok (.invokestatic index, 3))
    (hpre : ∀ vm₁, s.WarmedH vm₁ → Pre ⟨T.setVm vm₁, locs, cells, slots⟩ argsL.toArray) :
    (∃ (v : Option Value) (vm₁ : Vm) (B : Pt), s.WarmedH vm₁ ∧ Stand p l e R s m args below meth c B.U B.locs B.cells B.slots ∧ Post ⟨T.setVm vm₁, locs, cells, slots⟩ argsL.toArray v B ∧
      ∀ target, Steps p.tables e below (B.U.setTop { g with pc := g.pc + 3, stack := v.toList ++ rest }) target → Steps p.tables e below (T.setTop g) target) ∨
    (∃ (q : Addr) (vm₁ : Vm) (B : Pt), s.WarmedH vm₁ ∧ Stand p l e R s m args below meth c B.U B.locs B.cells B.slots ∧ PostX ⟨T.setVm vm₁, locs, cells, slots⟩ argsL.toArray q B ∧
      Steps p.tables e below (T.setTop g) ((B.U.setTop { g with stack := rest }).pushFrame (.throwing q))) := by
  obtain ⟨mk, hnamed⟩ := Cond.code_named hcode
  obtain ⟨methM, cM, hmethM, -, -, -, -, -, -, hsigM⟩ := Cond.code_spec hnamed hcode
  have hstatic : methM.isStatic = true := Cond.static_spec hnamed hmethM hstat
  obtain ⟨kP, hkP, -⟩ := className_of_methodNamed hnamed
  have hinitP : kP.init = .initialized := Cond.initialized_spec (findClass_of_methodNamed hnamed) hkP hinit
  obtain ⟨vm₁, X₁, hstep₁⟩ := X.invokestatic hexec hown hlink hnamed hmethM hstatic hkP hinitP hy (g := g) hg (argsL := argsL) (rest := rest) (hlen _ hsigM) hstack hdg
  rcases hK m meth c ⟨T.setVm vm₁, locs, cells, slots⟩ { g with stack := rest } (.invokestatic index) mk argsL.toArray X₁ hg hsize hdg hW (X₁.named hnamed) (hpre vm₁ X₁.warmed) with ⟨v, B, X', hpost, hsteps⟩ | ⟨q, B, X', hpost, hsteps⟩
  · exact Or.inl ⟨v, vm₁, B, X₁.warmed, X', hpost, fun target h => hstep₁ _ fun acts => by rw [doInvoke_state]; exact hsteps.trans h⟩
  · exact Or.inr ⟨q, vm₁, B, X₁.warmed, X', hpost, hstep₁ _ fun acts => by rw [doInvoke_state]; exact hsteps⟩
end Calls
theorem vx_cls {s : State} {T : State} {vm₁ : Vm} {E : String} {k : ClassId} (hW : s.WarmedH vm₁) (h : (T.setVm vm₁).vm.findClass E = some k) : s.vm.findClass E = some k := by
  have h1 : vm₁.findClass E = some k := h
  rw [hW.alike.findClass] at h1
  exact h1
/-- the method's frame g, with q thrown over it -/
def vx_W (p : Program) (l : Launch) (e : Env) (R : Room) (s : State) (m : MethodId) (args : Array Value) (below : List Frame) (meth : Method) (c : Code) (H : Heap) (locs : List Loc) (cells slots : Nat) (Q : State → Prop) (g : JFrame) (q : Addr) : Prop :=
  ∀ T : State, T.heap = H → Stand p l e R s m args below meth c T locs cells slots → ∃ t, Steps p.tables e below ((T.setTop g).pushFrame (.throwing q)) t ∧ Q t
def vx_Run (p : Program) (l : Launch) (e : Env) (R : Room) (s : State) (m : MethodId) (args : Array Value) (below : List Frame) (meth : Method) (c : Code) (H : Heap) (locs : List Loc) (cells slots mc ms : Nat) (g : JFrame) (rest : List Value) (Qa : State → Outcome → State → Prop) (XC : String → State → State → Prop) (free : Addr → Prop) : Prop :=
  ∀ T : State, T.heap = H → Stand p l e R s m args below meth c T locs cells slots →
    (∃ (v : Option Value) (st₀ t T' : State) (L : List Loc), st₀.heap = H ∧ Stand p l e R s m args below meth c T' (locs ++ L) (cells + mc) (slots + ms) ∧ (∀ q ∈ L, free q.base) ∧ T'.heap = t.heap ∧ T'.vm = t.vm ∧ Qa st₀ (.returned v) t ∧
      Goes p e below T g T' { g with pc := g.pc + 3, stack := v.toList ++ rest }) ∨
    (∃ (q : Addr) (st₀ t T' : State) (L : List Loc) (E : String) (ce : Cell), st₀.heap = H ∧ Stand p l e R s m args below meth c T' (locs ++ L) (cells + mc) (slots + ms) ∧ (∀ z ∈ L, free z.base) ∧ T'.heap = t.heap ∧ T'.vm = t.vm ∧ XC E st₀ t ∧ t.heap[q]? = some ce ∧ ce.vm = .none ∧ s.vm.findClass E = some ce.cls ∧
      Steps p.tables e below (T.setTop g) ((T'.setTop { g with stack := rest }).pushFrame (.throwing q)))
def vx_X {S : Type} (px : S → Prop) (B : String → S → State → Prop) (A : Nat → Prop) : String → State → State → Prop := fun E st t => ∃ u : S, px u ∧ B E u t ∧ va_F A st t
section Runs
variable {p : Program} {l : Launch} {e : Env} {R : Room} {s : State} {m : MethodId} {args : Array Value} {below : List Frame} {meth : Method} {c : Code} {H : Heap} {locs : List Loc} {cells slots : Nat}
variable {y : MethodName} {bytes cc : ByteArray} {maxL nL mc ms n index : Nat} {ret : Option FieldType} {ws : List Cond} {rm : Room} {Pc : Array Value → State → Prop} {Qc : Array Value → State → Outcome → State → Prop} {XC : String → State → State → Prop} {free : Addr → Prop} {Ts : List Cond} {own C : String} {b : Addr} {As rest : List Value} {g : JFrame}
theorem vx_callBack (cb : CallB R s args own index y bytes maxL ret ws rm mc ms n) (hM : vx_Met l y ws rm Pc Qc XC mc ms free) (hbl : FrameBlind Pc) : vx_Back l R p e below s args y 3 8 (PreOf R mc ms Pc) (PostOf Qc mc ms free) (vx_Post XC mc ms free) := by
  obtain ⟨hrc, hrs, hfr, hlo, hws, hcw, -, hini, -⟩ := cb
  exact vx_back (bytes := bytes) (maxL := maxL) (ret := ret) hM hbl hrc hrs hfr hlo hws hcw (fun a' U hW => word_at hW (Or.inl (by first | rfl | simp [Cond.onTables, Cond.keeps, Cond.steady])) hini)
theorem vx_runV (S : CallFix p m c cc nL s args Ts own) (hM : vx_Met l y ws rm Pc Qc XC mc ms free) (cw : CallW R s args own C index y bytes maxL ret ws rm mc ms n) (hp : PreV s H C b Pc As)
    (hg : g.method = m) (hn : As.length = n) (hsize : g.locals.size = nL) (hstack : g.stack = As.reverse ++ .ref b :: rest) (hW : 2 * g.monitorRoom + (rest.map fun v => v.category).sum ≤ 8) (hdg : decode cc g.pc = .ok (.invokevirtual index, 3)) (hf : cells + mc ≤ R.cells ∧ slots + ms ≤ R.slots) :
    vx_Run p l e R s m args below meth c H locs cells slots mc ms g rest (Qc (Value.ref b :: As).toArray) XC free := by
  have hK : vx_Back l R p e below s args y 3 8 (PreOf R mc ms Pc) (PostOf Qc mc ms free) (vx_Post XC mc ms free) := vx_callBack cw.1 hM hp.1
  obtain ⟨⟨-, -, -, -, -, -, hcode, -, hy, hlen, hl⟩, hin, hse⟩ := cw
  obtain ⟨hx, hb, hml, ho, -⟩ := S
  obtain ⟨-, ⟨cellB, hcB, hoB, hclB⟩, hPc⟩ := hp
  intro T hT X
  rcases vx_callV X hx (C := C) (bytes := bytes) (maxL := maxL) (ret := ret) ho hl hin hse hcode hy hK (by rw [hT]; exact hcB) hoB hclB hg (hsize.trans hml.symm) (argsL := As) (rest := rest) (fun sig h => hn.trans (hlen sig h)) hstack hW (by rw [hb]; exact hdg)
    (fun vm₁ hW₁ => ⟨hf.1, hf.2, hPc (T.setVm vm₁) hT hW₁⟩) with ⟨v, vm₁, ⟨U', l2, c2, s2⟩, hW₁, X', ⟨g', mk, t, L, e1, e2, hq, h1, hL, h2, h3⟩, st⟩ | ⟨q, vm₁, ⟨U', l2, c2, s2⟩, hW₁, X', ⟨g', mk, t, L, E, ce, e1, e2, hq, hce, hcv, hcl, h1, hL, h2, h3⟩, st⟩
  · dsimp only [Pt.U, Pt.locs, Pt.cells, Pt.slots] at X' e1 e2 h1 h2 h3 st
    subst h1; subst h2; subst h3
    exact Or.inl ⟨v, (T.setVm vm₁).calling g' mk (Value.ref b :: As).toArray, t, U', L, hT, X', hL, e1, e2, hq, st⟩
  · dsimp only [Pt.U, Pt.locs, Pt.cells, Pt.slots] at X' e1 e2 h1 h2 h3 st hcl
    subst h1; subst h2; subst h3
    exact Or.inr ⟨q, (T.setVm vm₁).calling g' mk (Value.ref b :: As).toArray, t, U', L, E, ce, hT, X', hL, e1, e2, hq, hce, hcv, vx_cls hW₁ hcl, st⟩
theorem vx_runS (S : CallFix p m c cc nL s args Ts own) (hM : vx_Met l y ws rm Pc Qc XC mc ms free) (cw : CallB R s args own index y bytes maxL ret ws rm mc ms n ∧ (Cond.static y).before args s = true) (hp : PreS s H Pc As)
    (hg : g.method = m) (hn : As.length = n) (hsize : g.locals.size = nL) (hstack : g.stack = As.reverse ++ rest) (hW : 2 * g.monitorRoom + (rest.map fun v => v.category).sum ≤ 8) (hdg : decode cc g.pc = .ok (.invokestatic index, 3)) (hf : cells + mc ≤ R.cells ∧ slots + ms ≤ R.slots) :
    vx_Run p l e R s m args below meth c H locs cells slots mc ms g rest (Qc As.toArray) XC free := by
  have hK : vx_Back l R p e below s args y 3 8 (PreOf R mc ms Pc) (PostOf Qc mc ms free) (vx_Post XC mc ms free) := vx_callBack cw.1 hM hp.1
  obtain ⟨⟨-, -, -, -, -, -, hcode, hini, hy, hlen, hl⟩, hstt⟩ := cw
  obtain ⟨hx, hb, hml, ho, -⟩ := S
  intro T hT X
  rcases vx_callS X hx (bytes := bytes) (maxL := maxL) (ret := ret) ho hl hstt hini hcode hy hK hg (hsize.trans hml.symm) (argsL := As) (rest := rest) (fun sig h => hn.trans (hlen sig h)) hstack hW (by rw [hb]; exact hdg)
    (fun vm₁ hW₁ => ⟨hf.1, hf.2, hp.2 (T.setVm vm₁) hT hW₁⟩) with ⟨v, vm₁, ⟨U', l2, c2, s2⟩, hW₁, X', ⟨g', mk, t, L, e1, e2, hq, h1, hL, h2, h3⟩, st⟩ | ⟨q, vm₁, ⟨U', l2, c2, s2⟩, hW₁, X', ⟨g', mk, t, L, E, ce, e1, e2, hq, hce, hcv, hcl, h1, hL, h2, h3⟩, st⟩
  · dsimp only [Pt.U, Pt.locs, Pt.cells, Pt.slots] at X' e1 e2 h1 h2 h3 st
    subst h1; subst h2; subst h3
    exact Or.inl ⟨v, (T.setVm vm₁).calling g' mk As.toArray, t, U', L, hT, X', hL, e1, e2, hq, st⟩
  · dsimp only [Pt.U, Pt.locs, Pt.cells, Pt.slots] at X' e1 e2 h1 h2 h3 st hcl
    subst h1; subst h2; subst h3
    exact Or.inr ⟨q, (T.setVm vm₁).calling g' mk As.toArray, t, U', L, E, ce, hT, X', hL, e1, e2, hq, hce, hcv, vx_cls hW₁ hcl, st⟩
end Runs
section Rows
variable {p : Program} {l : Launch} {e : Env} {R : Room} {s : State} {m : MethodId} {args : Array Value} {below : List Frame} {meth : Method} {c : Code} {H : Heap} {locs : List Loc} {cells slots : Nat} {Q : State → Prop}
variable {mc ms : Nat} {free : Addr → Prop} {A0 A1 : Nat → Prop} {H0 : Heap} {a : Array Value} {pc : Nat} {ls : Array Slot} {st0 rest : List Value}
theorem vx_keep {st₀ t T' : State} {L : List Loc} (h0 : st₀.heap = H) (e1 : T'.heap = t.heap) (hS : va_S A0 H0 H locs) (hA : ∀ q, q < H.size → A1 q → A0 q) (hf : ∀ q, free q → A0 q) (hL : ∀ q ∈ L, free q.base) (hF : va_F A1 st₀ t) :
    H.size ≤ T'.heap.size ∧ (∀ q : Nat, q < H.size → ¬ A1 q → T'.heap[q]? = H[q]?) ∧ va_S A0 H0 T'.heap (locs ++ L) := by
  obtain ⟨hz, hk⟩ := hF
  rw [h0] at hz hk
  exact ⟨by rw [e1]; exact hz, fun q h1 h2 => by rw [e1]; exact hk q h1 h2,
    ⟨Nat.le_trans hS.1 (by rw [e1]; exact hz), fun q h1 h2 => by rw [e1, hk q (Nat.lt_of_lt_of_le h1 hS.1) (fun z => h2 (hA q (Nat.lt_of_lt_of_le h1 hS.1) z))]; exact hS.2.1 q h1 h2, fun q hq => by
      rcases List.mem_append.mp hq with h | h
      · exact hS.2.2 q h
      · exact hf _ (hL q h)⟩⟩
theorem vx_calli {S SX : Type} {post : Int32 → S → Prop} {px : SX → Prop} {B : S → State → Prop} {BX : String → SX → State → Prop} {AX : Nat → Prop} (hr : vx_Run p l e R s m args below meth c H locs cells slots mc ms (F0 m pc ls st0) rest (va_Qi post B A1 a) (vx_X px BX AX) free) (hS : va_S A0 H0 H locs) (hA : ∀ q, q < H.size → A1 q → A0 q) (hf : ∀ q, free q → A0 q) (hAX : ∀ q, q < H.size → AX q → A0 q)
    (kx : ∀ (E : String) (ce : Cell) (q9 : Addr) (u : SX) (t : State) (H1 : Heap) (locs1 : List Loc), t.heap = H1 → s.vm.Alike t.vm → px u → BX E u t → H.size ≤ H1.size → (∀ q : Nat, q < H.size → ¬ AX q → H1[q]? = H[q]?) → va_S A0 H0 H1 locs1 → H1[q9]? = some ce → ce.vm = .none → s.vm.findClass E = some ce.cls → vx_W p l e R s m args below meth c H1 locs1 (cells + mc) (slots + ms) Q (F0 m pc ls rest) q9)
    (kk : ∀ (r : Int32) (u : S) (t : State) (H1 : Heap) (locs1 : List Loc), t.heap = H1 → s.vm.Alike t.vm → post r u → B u t → H.size ≤ H1.size → (∀ q : Nat, q < H.size → ¬ A1 q → H1[q]? = H[q]?) → va_S A0 H0 H1 locs1 → W p l e R s m args below meth c H1 locs1 (cells + mc) (slots + ms) Q (F0 m (pc + 3) ls (.int r :: rest))) : W p l e R s m args below meth c H locs cells slots Q (F0 m pc ls st0) := by
  intro T hT X
  rcases hr T hT X with ⟨v, st₀, t, T', L, h0, X', hL, e1, e2, ⟨⟨r, u, hv, hp, hb⟩, hF⟩, st⟩ | ⟨q, st₀, t, T', L, E, ce, h0, X', hL, e1, e2, ⟨u, hp, hb, hF⟩, hce, hcv, hcl, st⟩
  · cases hv
    obtain ⟨k1, k2, k3⟩ := vx_keep h0 e1 hS hA hf hL hF
    obtain ⟨t2, a1, b1⟩ := kk r u t T'.heap (locs ++ L) e1.symm (by rw [← e2]; exact X'.warmed.alike) hp hb k1 k2 k3 T' rfl X'
    exact ⟨t2, st t2 a1, b1⟩
  · obtain ⟨k1, k2, k3⟩ := vx_keep h0 e1 hS hAX hf hL hF
    obtain ⟨t2, a1, b1⟩ := kx E ce q u t T'.heap (locs ++ L) e1.symm (by rw [← e2]; exact X'.warmed.alike) hp hb k1 k2 k3 (by rw [e1]; exact hce) hcv hcl T' rfl X'
    exact ⟨t2, st.trans a1, b1⟩
theorem vx_calll {S SX : Type} {post : Int64 → S → Prop} {px : SX → Prop} {B : S → State → Prop} {BX : String → SX → State → Prop} {AX : Nat → Prop} (hr : vx_Run p l e R s m args below meth c H locs cells slots mc ms (F0 m pc ls st0) rest (va_Ql post B A1 a) (vx_X px BX AX) free) (hS : va_S A0 H0 H locs) (hA : ∀ q, q < H.size → A1 q → A0 q) (hf : ∀ q, free q → A0 q) (hAX : ∀ q, q < H.size → AX q → A0 q)
    (kx : ∀ (E : String) (ce : Cell) (q9 : Addr) (u : SX) (t : State) (H1 : Heap) (locs1 : List Loc), t.heap = H1 → s.vm.Alike t.vm → px u → BX E u t → H.size ≤ H1.size → (∀ q : Nat, q < H.size → ¬ AX q → H1[q]? = H[q]?) → va_S A0 H0 H1 locs1 → H1[q9]? = some ce → ce.vm = .none → s.vm.findClass E = some ce.cls → vx_W p l e R s m args below meth c H1 locs1 (cells + mc) (slots + ms) Q (F0 m pc ls rest) q9)
    (kk : ∀ (r : Int64) (u : S) (t : State) (H1 : Heap) (locs1 : List Loc), t.heap = H1 → s.vm.Alike t.vm → post r u → B u t → H.size ≤ H1.size → (∀ q : Nat, q < H.size → ¬ A1 q → H1[q]? = H[q]?) → va_S A0 H0 H1 locs1 → W p l e R s m args below meth c H1 locs1 (cells + mc) (slots + ms) Q (F0 m (pc + 3) ls (.long r :: rest))) : W p l e R s m args below meth c H locs cells slots Q (F0 m pc ls st0) := by
  intro T hT X
  rcases hr T hT X with ⟨v, st₀, t, T', L, h0, X', hL, e1, e2, ⟨⟨r, u, hv, hp, hb⟩, hF⟩, st⟩ | ⟨q, st₀, t, T', L, E, ce, h0, X', hL, e1, e2, ⟨u, hp, hb, hF⟩, hce, hcv, hcl, st⟩
  · cases hv
    obtain ⟨k1, k2, k3⟩ := vx_keep h0 e1 hS hA hf hL hF
    obtain ⟨t2, a1, b1⟩ := kk r u t T'.heap (locs ++ L) e1.symm (by rw [← e2]; exact X'.warmed.alike) hp hb k1 k2 k3 T' rfl X'
    exact ⟨t2, st t2 a1, b1⟩
  · obtain ⟨k1, k2, k3⟩ := vx_keep h0 e1 hS hAX hf hL hF
    obtain ⟨t2, a1, b1⟩ := kx E ce q u t T'.heap (locs ++ L) e1.symm (by rw [← e2]; exact X'.warmed.alike) hp hb k1 k2 k3 (by rw [e1]; exact hce) hcv hcl T' rfl X'
    exact ⟨t2, st.trans a1, b1⟩
theorem vx_callf {S SX : Type} {post : UInt32 → S → Prop} {px : SX → Prop} {B : S → State → Prop} {BX : String → SX → State → Prop} {AX : Nat → Prop} (hr : vx_Run p l e R s m args below meth c H locs cells slots mc ms (F0 m pc ls st0) rest (va_Qf post B A1 a) (vx_X px BX AX) free) (hS : va_S A0 H0 H locs) (hA : ∀ q, q < H.size → A1 q → A0 q) (hf : ∀ q, free q → A0 q) (hAX : ∀ q, q < H.size → AX q → A0 q)
    (kx : ∀ (E : String) (ce : Cell) (q9 : Addr) (u : SX) (t : State) (H1 : Heap) (locs1 : List Loc), t.heap = H1 → s.vm.Alike t.vm → px u → BX E u t → H.size ≤ H1.size → (∀ q : Nat, q < H.size → ¬ AX q → H1[q]? = H[q]?) → va_S A0 H0 H1 locs1 → H1[q9]? = some ce → ce.vm = .none → s.vm.findClass E = some ce.cls → vx_W p l e R s m args below meth c H1 locs1 (cells + mc) (slots + ms) Q (F0 m pc ls rest) q9)
    (kk : ∀ (r : UInt32) (u : S) (t : State) (H1 : Heap) (locs1 : List Loc), t.heap = H1 → s.vm.Alike t.vm → post r u → B u t → H.size ≤ H1.size → (∀ q : Nat, q < H.size → ¬ A1 q → H1[q]? = H[q]?) → va_S A0 H0 H1 locs1 → W p l e R s m args below meth c H1 locs1 (cells + mc) (slots + ms) Q (F0 m (pc + 3) ls (.float r :: rest))) : W p l e R s m args below meth c H locs cells slots Q (F0 m pc ls st0) := by
  intro T hT X
  rcases hr T hT X with ⟨v, st₀, t, T', L, h0, X', hL, e1, e2, ⟨⟨r, u, hv, hp, hb⟩, hF⟩, st⟩ | ⟨q, st₀, t, T', L, E, ce, h0, X', hL, e1, e2, ⟨u, hp, hb, hF⟩, hce, hcv, hcl, st⟩
  · cases hv
    obtain ⟨k1, k2, k3⟩ := vx_keep h0 e1 hS hA hf hL hF
    obtain ⟨t2, a1, b1⟩ := kk r u t T'.heap (locs ++ L) e1.symm (by rw [← e2]; exact X'.warmed.alike) hp hb k1 k2 k3 T' rfl X'
    exact ⟨t2, st t2 a1, b1⟩
  · obtain ⟨k1, k2, k3⟩ := vx_keep h0 e1 hS hAX hf hL hF
    obtain ⟨t2, a1, b1⟩ := kx E ce q u t T'.heap (locs ++ L) e1.symm (by rw [← e2]; exact X'.warmed.alike) hp hb k1 k2 k3 (by rw [e1]; exact hce) hcv hcl T' rfl X'
    exact ⟨t2, st.trans a1, b1⟩
theorem vx_calld {S SX : Type} {post : UInt64 → S → Prop} {px : SX → Prop} {B : S → State → Prop} {BX : String → SX → State → Prop} {AX : Nat → Prop} (hr : vx_Run p l e R s m args below meth c H locs cells slots mc ms (F0 m pc ls st0) rest (va_Qd post B A1 a) (vx_X px BX AX) free) (hS : va_S A0 H0 H locs) (hA : ∀ q, q < H.size → A1 q → A0 q) (hf : ∀ q, free q → A0 q) (hAX : ∀ q, q < H.size → AX q → A0 q)
    (kx : ∀ (E : String) (ce : Cell) (q9 : Addr) (u : SX) (t : State) (H1 : Heap) (locs1 : List Loc), t.heap = H1 → s.vm.Alike t.vm → px u → BX E u t → H.size ≤ H1.size → (∀ q : Nat, q < H.size → ¬ AX q → H1[q]? = H[q]?) → va_S A0 H0 H1 locs1 → H1[q9]? = some ce → ce.vm = .none → s.vm.findClass E = some ce.cls → vx_W p l e R s m args below meth c H1 locs1 (cells + mc) (slots + ms) Q (F0 m pc ls rest) q9)
    (kk : ∀ (r : UInt64) (u : S) (t : State) (H1 : Heap) (locs1 : List Loc), t.heap = H1 → s.vm.Alike t.vm → post r u → B u t → H.size ≤ H1.size → (∀ q : Nat, q < H.size → ¬ A1 q → H1[q]? = H[q]?) → va_S A0 H0 H1 locs1 → W p l e R s m args below meth c H1 locs1 (cells + mc) (slots + ms) Q (F0 m (pc + 3) ls (.double r :: rest))) : W p l e R s m args below meth c H locs cells slots Q (F0 m pc ls st0) := by
  intro T hT X
  rcases hr T hT X with ⟨v, st₀, t, T', L, h0, X', hL, e1, e2, ⟨⟨r, u, hv, hp, hb⟩, hF⟩, st⟩ | ⟨q, st₀, t, T', L, E, ce, h0, X', hL, e1, e2, ⟨u, hp, hb, hF⟩, hce, hcv, hcl, st⟩
  · cases hv
    obtain ⟨k1, k2, k3⟩ := vx_keep h0 e1 hS hA hf hL hF
    obtain ⟨t2, a1, b1⟩ := kk r u t T'.heap (locs ++ L) e1.symm (by rw [← e2]; exact X'.warmed.alike) hp hb k1 k2 k3 T' rfl X'
    exact ⟨t2, st t2 a1, b1⟩
  · obtain ⟨k1, k2, k3⟩ := vx_keep h0 e1 hS hAX hf hL hF
    obtain ⟨t2, a1, b1⟩ := kx E ce q u t T'.heap (locs ++ L) e1.symm (by rw [← e2]; exact X'.warmed.alike) hp hb k1 k2 k3 (by rw [e1]; exact hce) hcv hcl T' rfl X'
    exact ⟨t2, st.trans a1, b1⟩
theorem vx_callv {S SX : Type} {post : S → Prop} {px : SX → Prop} {B : S → State → Prop} {BX : String → SX → State → Prop} {AX : Nat → Prop} (hr : vx_Run p l e R s m args below meth c H locs cells slots mc ms (F0 m pc ls st0) rest (va_Qv post B A1 a) (vx_X px BX AX) free) (hS : va_S A0 H0 H locs) (hA : ∀ q, q < H.size → A1 q → A0 q) (hf : ∀ q, free q → A0 q) (hAX : ∀ q, q < H.size → AX q → A0 q)
    (kx : ∀ (E : String) (ce : Cell) (q9 : Addr) (u : SX) (t : State) (H1 : Heap) (locs1 : List Loc), t.heap = H1 → s.vm.Alike t.vm → px u → BX E u t → H.size ≤ H1.size → (∀ q : Nat, q < H.size → ¬ AX q → H1[q]? = H[q]?) → va_S A0 H0 H1 locs1 → H1[q9]? = some ce → ce.vm = .none → s.vm.findClass E = some ce.cls → vx_W p l e R s m args below meth c H1 locs1 (cells + mc) (slots + ms) Q (F0 m pc ls rest) q9)
    (kk : ∀ (u : S) (t : State) (H1 : Heap) (locs1 : List Loc), t.heap = H1 → s.vm.Alike t.vm → post u → B u t → H.size ≤ H1.size → (∀ q : Nat, q < H.size → ¬ A1 q → H1[q]? = H[q]?) → va_S A0 H0 H1 locs1 → W p l e R s m args below meth c H1 locs1 (cells + mc) (slots + ms) Q (F0 m (pc + 3) ls (rest))) : W p l e R s m args below meth c H locs cells slots Q (F0 m pc ls st0) := by
  intro T hT X
  rcases hr T hT X with ⟨v, st₀, t, T', L, h0, X', hL, e1, e2, ⟨⟨u, hv, hp, hb⟩, hF⟩, st⟩ | ⟨q, st₀, t, T', L, E, ce, h0, X', hL, e1, e2, ⟨u, hp, hb, hF⟩, hce, hcv, hcl, st⟩
  · cases hv
    obtain ⟨k1, k2, k3⟩ := vx_keep h0 e1 hS hA hf hL hF
    obtain ⟨t2, a1, b1⟩ := kk u t T'.heap (locs ++ L) e1.symm (by rw [← e2]; exact X'.warmed.alike) hp hb k1 k2 k3 T' rfl X'
    exact ⟨t2, st t2 a1, b1⟩
  · obtain ⟨k1, k2, k3⟩ := vx_keep h0 e1 hS hAX hf hL hF
    obtain ⟨t2, a1, b1⟩ := kx E ce q u t T'.heap (locs ++ L) e1.symm (by rw [← e2]; exact X'.warmed.alike) hp hb k1 k2 k3 (by rw [e1]; exact hce) hcv hcl T' rfl X'
    exact ⟨t2, st.trans a1, b1⟩
/-- caught by the row x of this method's table; the rows ahead don't take it -/
theorem vx_catch {own name : String} {E : String} {ce : Cell} {q : Addr} (hown : s.vm.findClass own = some m.cls) (pre : List ExceptionTableEntry) (x : ExceptionTableEntry) (suf : List ExceptionTableEntry) (hsplit : c.exceptionTable.toList = pre ++ x :: suf)
    (hpass : ∀ z ∈ pre, covers z pc = false ∨ (z.catchType ≠ 0 ∧ ∃ nm : String, (Cond.classLink own z.catchType nm).before args s = true ∧ va_Nc E nm s)) (hx : covers x pc = true) (h0 : x.catchType ≠ 0)
    (hlink : (Cond.classLink own x.catchType name).before args s = true) (hcast : (Cond.castable E name).before args s = true) (hcell : H[q]? = some ce) (hv : ce.vm = .none) (hcl : s.vm.findClass E = some ce.cls)
    (kk : W p l e R s m args below meth c H locs cells slots Q (F0 m x.handlerPc ls [.ref q])) : vx_W p l e R s m args below meth c H locs cells slots Q (F0 m pc ls rest) q := by
  intro T hT X
  have hpl : e.platform.magicAccessors = ({} : Platform).magicAccessors := by rw [X.admits.platform]
  obtain ⟨c3, c4, hc3, hc4, hasg⟩ := Cond.castable_spec hcast
  cases Option.some.inj (hc3.symm.trans hcl)
  obtain ⟨c5, hc5, hcl5⟩ := Cond.classLink_spec hown hlink e.platform hpl
  cases Option.some.inj (hc4.symm.trans hc5)
  obtain ⟨vm', X', st⟩ := X.thenCaughtThrough q (g := F0 m pc ls rest) rfl (Steps.refl _) (by rw [hT]; exact hcell) (by rw [hv]; rfl) (by obtain ⟨k9, h9, -⟩ := Vm.findClass_spec hcl; exact ⟨k9, h9⟩) pre x suf hsplit
    (fun z hz => by
      rcases hpass z hz with h | ⟨hz0, nm, hl1, hn1⟩
      · exact Or.inl h
      · obtain ⟨c6, hc6, hcl6⟩ := Cond.classLink_spec hown hl1 e.platform hpl
        obtain ⟨a8, b8, h1, h2, h3⟩ := hn1
        cases Option.some.inj (h1.symm.trans hcl)
        cases Option.some.inj (h2.symm.trans hc6)
        exact Or.inr ⟨hz0, _, hcl6, h3⟩) hx (Or.inr ⟨h0, c4, hcl5, hasg⟩)
  obtain ⟨t, a1, b1⟩ := kk (T.setVm vm') hT X'
  exact ⟨t, st.trans a1, b1⟩
end Rows
section Ends
variable {p : Program} {l : Launch} {e : Env} {R : Room} {s : State} {m : MethodId} {args : Array Value} {below : List Frame} {meth : Method} {c : Code} {H : Heap} {locs : List Loc} {cells slots : Nat} {Q : State → Prop}
variable {mc ms : Nat} {free : Addr → Prop} {A0 A1 : Nat → Prop} {H0 : Heap} {a : Array Value} {ls : Array Slot} {st0 rest : List Value}
variable {Qc : Array Value → State → Outcome → State → Prop} {XC : String → State → State → Prop}
/-- what a body that may throw owes at its end -/
def vx_MQ (below : List Frame) (Qc : Array Value → State → Outcome → State → Prop) (XC : String → State → State → Prop) (a : Array Value) (s : State) (mc ms : Nat) (free : Addr → Prop) : State → Prop := fun t =>
  ∃ o, t.status = .running ∧ Ended t below o ∧ vx_Q Qc XC mc ms free a s o t
theorem vx_ret {g : JFrame} {mc ms : Nat} (k : W p l e R s m args below meth c H locs cells slots (MQ below Qc args s mc ms free) g) : W p l e R s m args below meth c H locs cells slots (vx_MQ below Qc XC args s mc ms free) g := by
  intro T hT X
  obtain ⟨t, a1, o, b1, b2, b3, b4⟩ := k T hT X
  exact ⟨t, a1, o, b1, b2, Or.inl ⟨b3, b4⟩⟩
/-- not caught here: it goes on to the caller -/
theorem vx_widen {g : JFrame} {q : Addr} {k n : Nat} (h1 : cells ≤ k) (h2 : slots ≤ n) (kk : vx_W p l e R s m args below meth c H locs k n Q g q) : vx_W p l e R s m args below meth c H locs cells slots Q g q := fun T hT X => kk T hT (stand_widen X h1 h2)
theorem vx_out {pc : Nat} {E : String} {ce : Cell} {q : Addr} {mc ms : Nat} (hout : ∀ x ∈ c.exceptionTable.toList, covers x pc = false) (hlocks : meth.locks = false) (hcell : H[q]? = some ce) (hv : ce.vm = .none) (hcl : s.vm.findClass E = some ce.cls)
    (hx : ∀ t : State, t.heap = H → s.vm.Alike t.vm → XC E s t) (hf : ∀ z ∈ locs, free z.base) (hc : cells ≤ mc) (hs : slots ≤ ms) :
    vx_W p l e R s m args below meth c H locs cells slots (vx_MQ below Qc XC args s mc ms free) (F0 m pc ls rest) q := by
  intro T hT X
  obtain ⟨st1, hrun, hend, hW, hsm⟩ := X.leaveThrown q (g := F0 m pc ls rest) rfl rfl rfl hout hlocks
  have hcell9 : (T.setFrames (.throwing q :: below)).heap[q]? = some ce := by
    show T.heap[q]? = some ce
    rw [hT]; exact hcell
  exact ⟨_, st1, .threw q, hrun, hend, Or.inr ⟨q, rfl, E, ce, locs, hx _ hT hW.alike, hcell9, hv, hcl, hW, hsm.mono hc hs, hf⟩⟩
theorem vx_frame {U : State} {k n : Nat} (h : s.sameButNew ({ U with vm := s.vm } : State) locs k n) : s.heap.size ≤ U.heap.size ∧ ∀ q : Nat, q < s.heap.size → (∀ z ∈ locs, z.base ≠ q) → U.heap[q]? = s.heap[q]? := by
  obtain ⟨-, h2, -, -, -, h6⟩ := h
  refine ⟨h2, fun q hq hz => ?_⟩
  obtain ⟨c9, e1, e2, e3, e4⟩ := h6 q _ (Array.getElem?_eq_getElem hq)
  have hs : c9.slots = (s.heap[q]).slots := Array.ext_getElem? fun i => e4 i fun hm => hz _ hm rfl
  have h9 : c9 = s.heap[q] := by
    rw [hs] at e2
    exact e2
  have e5 : U.heap[q]? = some c9 := e1
  rw [e5, h9, Array.getElem?_eq_getElem hq]
/-- the words of a throw but the four that speak of the heap -/
def vx_no (w : Cond) : Bool := decide (w ≠ .isRef (.static Bundle.tN "UNASSIGNED_STACK" Bundle.steD)) && decide (w ≠ .isRef (.static Bundle.tN "SUPPRESSED_SENTINEL" Bundle.listD)) && decide (w ≠ .laysStatic Bundle.tN "UNASSIGNED_STACK" Bundle.steD) && decide (w ≠ .laysStatic Bundle.tN "SUPPRESSED_SENTINEL" Bundle.listD)
def vx_at0 (own : String) (ic : Nat) (X : String) (names : List String) : List Cond := (Bundle.ownAtoms0 own ic X names).filter vx_no
def vx_atS (own : String) (ic : Nat) (X : String) (names : List String) : List Cond := (Bundle.ownAtoms own ic X names).filter vx_no
/-- a word that the tables alone decide, or a good one -/
def vx_ot (w : Cond) : Bool := w.onTables || goodWord w
theorem vx_ot_at {args a' : Array Value} {s U : State} {w : Cond} (hW : s.WarmedH U.vm) (hvm : s.vm = U.vm) (hg : vx_ot w = true) (h : w.before args s = true) : w.before a' U = true := by
  simp only [vx_ot, Bool.or_eq_true] at hg
  rcases hg with hg | hg
  · exact va_tabs hg hvm h
  · exact word_at hW (good_of_word hg) h
/-- a list's words: the good ones out of the method's own list, the others by premises of their own -/
theorem vx_hat {args : Array Value} {s : State} {L B : List Cond} (h1 : ∀ w ∈ L.filter goodWord, w.before args s = true) (h2 : ∀ w ∈ L.filter (fun w => !goodWord w), w ∈ B) (h3 : ∀ w ∈ B, w.before args s = true) : ∀ w ∈ L, w.before args s = true := by
  intro w hw
  by_cases g : goodWord w = true
  · exact h1 w (List.mem_filter.mpr ⟨hw, g⟩)
  · refine h3 w (h2 w (List.mem_filter.mpr ⟨hw, ?_⟩))
    show (!goodWord w) = true
    cases hgw : goodWord w
    · rfl
    · exact absurd hgw g
theorem vx_c {args : Array Value} {s : State} {w : Cond} {B : List Cond} (h : w.before args s = true) (t : ∀ w ∈ B, w.before args s = true) : ∀ w' ∈ w :: B, w'.before args s = true := fun w' h' => (List.mem_cons.mp h').elim (fun e => by rw [e]; exact h) (t w')
theorem vx_n {args : Array Value} {s : State} : ∀ w ∈ ([] : List Cond), w.before args s = true := fun _ h => nomatch h
theorem vx_own {args : Array Value} {s : State} {L : List Cond} (h1 : ∀ w ∈ L.filter vx_no, w.before args s = true)
    (hU : (Cond.isRef (.static Bundle.tN "UNASSIGNED_STACK" Bundle.steD)).before args s = true) (hN : (Cond.isRef (.static Bundle.tN "SUPPRESSED_SENTINEL" Bundle.listD)).before args s = true)
    (lU : (Cond.laysStatic Bundle.tN "UNASSIGNED_STACK" Bundle.steD).before args s = true) (lN : (Cond.laysStatic Bundle.tN "SUPPRESSED_SENTINEL" Bundle.listD).before args s = true) : ∀ w ∈ L, w.before args s = true := by
  intro w hw
  by_cases e1 : w = .isRef (.static Bundle.tN "UNASSIGNED_STACK" Bundle.steD)
  · rw [e1]; exact hU
  · by_cases e2 : w = .isRef (.static Bundle.tN "SUPPRESSED_SENTINEL" Bundle.listD)
    · rw [e2]; exact hN
    · by_cases e3 : w = .laysStatic Bundle.tN "UNASSIGNED_STACK" Bundle.steD
      · rw [e3]; exact lU
      · by_cases e4 : w = .laysStatic Bundle.tN "SUPPRESSED_SENTINEL" Bundle.listD
        · rw [e4]; exact lN
        · exact h1 w (List.mem_filter.mpr ⟨hw, by unfold vx_no; rw [decide_eq_true e1, decide_eq_true e2, decide_eq_true e3, decide_eq_true e4]; rfl⟩)
/-- where a static field lies, its class's statics cell in H -/
def vx_L (C n d : String) (A : Nat → Prop) (U : State) (H : Heap) : Prop := ∃ (c : ClassId) (k : Class) (i : Nat) (f : Field) (a : Nat) (cell : Cell), U.vm.findClass C = some c ∧ U.fieldFound? C n d = some (c, k, i, f) ∧ f.isStatic = true ∧ k.statics = some a ∧ H[a]? = some cell ∧ cell.vm.isStatics = true ∧ cell.cls = c ∧ f.slot < cell.slots.size ∧ k.staticTypes[f.slot]? = some f.type ∧ ¬ A a
theorem vx_L.moved {C n d : String} {A : Nat → Prop} {u U : State} {H : Heap} (hvm : u.vm.Alike U.vm) (h : vx_L C n d A u H) : vx_L C n d A U H := by
  obtain ⟨c, k, i, f, a, cell, h1, h2, h3, h4, h5, h6, h7, h8, h9, h10⟩ := h
  obtain ⟨k', hi', he⟩ := State.fieldFound?_setVm hvm h2
  exact ⟨c, k', i, f, a, cell, by rw [hvm.findClass]; exact h1, hi', h3, by rw [he]; exact h4, h5, h6, h7, h8, by rw [he]; exact h9, h10⟩
theorem vx_L.kept {C n d : String} {A : Nat → Prop} {U : State} {H H1 : Heap} (h : vx_L C n d A U H) (hq : ∀ a : Nat, a < H.size → ¬ A a → H1[a]? = H[a]?) : vx_L C n d A U H1 := by
  obtain ⟨c, k, i, f, a, cell, h1, h2, h3, h4, h5, h6, h7, h8, h9, h10⟩ := h
  exact ⟨c, k, i, f, a, cell, h1, h2, h3, h4, by rw [hq a (Array.getElem?_eq_some_iff.mp h5).1 h10]; exact h5, h6, h7, h8, h9, h10⟩
theorem vx_L.narrow {C n d : String} {A B : Nat → Prop} {U : State} {H : Heap} (h : vx_L C n d A U H) (hAB : ∀ q, B q → A q) : vx_L C n d B U H := by
  obtain ⟨c, k, i, f, a, cell, h1, h2, h3, h4, h5, h6, h7, h8, h9, h10⟩ := h
  exact ⟨c, k, i, f, a, cell, h1, h2, h3, h4, h5, h6, h7, h8, h9, fun z => h10 (hAB _ z)⟩
theorem vx_L.word {C n d : String} {A : Nat → Prop} {s : State} {args : Array Value} (h : vx_L C n d A s s.heap) : (Cond.laysStatic C n d).before args s = true := by
  obtain ⟨c, k, i, f, a, cell, h1, h2, h3, h4, h5, h6, h7, h8, h9, -⟩ := h
  show (Cond.laysStatic C n d).holds args s none s [] = true
  exact Cond.laysStatic_of h1 h2 h3 h4 h5 h6 h7 h8 h9
/-- .. and what it holds: null or some reference -/
def vx_Zq (C n d : String) (A : Nat → Prop) (U : State) (H : Heap) : Prop := va_Zq C n d A U H ∧ vx_L C n d A U H
theorem vx_Zq.moved {C n d : String} {A : Nat → Prop} {u U : State} {H : Heap} (hvm : u.vm.Alike U.vm) (h : vx_Zq C n d A u H) : vx_Zq C n d A U H := ⟨va_Zq.moved hvm h.1, vx_L.moved hvm h.2⟩
theorem vx_Zq.kept {C n d : String} {A : Nat → Prop} {U : State} {H H1 : Heap} (h : vx_Zq C n d A U H) (hq : ∀ a : Nat, a < H.size → ¬ A a → H1[a]? = H[a]?) : vx_Zq C n d A U H1 := ⟨va_Zq.kept h.1 hq, vx_L.kept h.2 hq⟩
theorem vx_Zq.narrow {C n d : String} {A B : Nat → Prop} {U : State} {H : Heap} (h : vx_Zq C n d A U H) (hAB : ∀ q, B q → A q) : vx_Zq C n d B U H := ⟨va_Zq.narrow h.1 hAB, vx_L.narrow h.2 hAB⟩
theorem vx_Zqof {args : Array Value} {s : State} {C n d : String} {A : Nat → Prop} (hl : (Cond.laysStatic C n d).before args s = true) (hini : (Cond.initialized C).before args s = true) (h : (Cond.isRef (.static C n d)).before args s = true) (hA : ∀ a : Nat, a < s.heap.size → ¬ A a) : vx_Zq C n d A s s.heap := by
  refine ⟨va_Zqof hl hini h hA, ?_⟩
  obtain ⟨c, k, i, f, a, cell, h1, h2, h3, h4, h5, h6, h7, h8, h9⟩ := Cond.laysStatic_spec hl
  exact ⟨c, k, i, f, a, cell, h1, h2, h3, h4, h5, h6, h7, h8, h9, hA a (Array.getElem?_eq_some_iff.mp h5).1⟩
theorem vx_isRef {C n d : String} {v : Value} {A : Nat → Prop} {s : State} {args : Array Value} (h : va_Z C n d v A s s.heap) (hv : v.isRef = true) : (Cond.isRef (.static C n d)).before args s = true := by
  obtain ⟨cf, kf, fi, f, a, cell, h1, h2, h3, h4, h5, h6, h7, -⟩ := h
  have he : (Term.static C n d).eval args s none [] s = some v := by
    simp [Term.eval, State.fieldNamed?, h1, h2, h4, h5, h6, h7]
  simp only [Cond.before, Cond.holds, Cond.value, he]
  cases v <;> simp_all [Value.isRef]
theorem vx_isRefq {C n d : String} {A : Nat → Prop} {s : State} {args : Array Value} (h : va_Zq C n d A s s.heap) : (Cond.isRef (.static C n d)).before args s = true := by
  rcases h with h | ⟨t, h⟩
  · exact vx_isRef h rfl
  · exact vx_isRef h rfl
/-- the same frame, seen from here: as if the method were called anew in this heap -/
theorem vx_rebase {T : State} (X : Stand p l e R s m args below meth c T locs cells slots) {R' : Room} (hf : R'.frames ≤ R.frames) (hl : R'.locals ≤ R.locals) (hc : cells + R'.cells ≤ R.cells) (hs : slots + R'.slots ≤ R.slots) :
    Stand p l e R' ((T.setVm s.vm).setFrames (.invoking m args :: below)) m args below meth c T [] 0 0 := by
  have htop : (T.setVm s.vm).topJava?.isSome := X.here.top
  have hF : ((T.setVm s.vm).setFrames (.invoking m args :: below)).frames = .invoking m args :: below := State.frames_setFrames _ (State.cur_lt_of_top htop)
  obtain ⟨g₀, hg0⟩ := Option.isSome_iff_exists.mp htop
  obtain ⟨r, hr⟩ := State.topJava?_eq_some.mp hg0
  have hl9 : e.platform.stackLimits (T.setVm s.vm).me = e.platform.stackLimits s.me := X.limits
  have hb9 : (T.setVm s.vm).me.stackBytes = s.me.stackBytes := X.bytes
  refine ⟨X.admits, X.cas, X.clock, hF, ?_, X.hears, X.method, X.code, X.here, X.tail, X.warmed, ?_, ?_, ?_⟩
  · have h := X.room
    have hU : ((T.setVm s.vm).setFrames (.invoking m args :: below)).localsInUse = s.localsInUse := by
      rw [State.localsInUse_invoking hF (meth := meth) (c := c) X.method X.code, State.localsInUse_invoking X.frames X.method X.code]
    simp only [State.hasRoom, Bool.and_eq_true, decide_eq_true_eq] at h ⊢
    obtain ⟨⟨⟨⟨h1, h2, h3, h4, h5, h6⟩, h7⟩, h8⟩, h9⟩ := h
    rw [X.frames, List.length_cons] at h2 h3
    have q1 := X.heapSize
    have q2 := X.used
    simp only [hF, hU, List.length_cons, State.stackLimits_setFrames, State.stackBytes_setFrames, hl9, hb9]
    refine ⟨⟨⟨⟨by omega, by omega, by omega, by omega, by omega, h6⟩, ?_⟩, ?_⟩, X.book⟩
    · show T.heap.size + R'.cells ≤ e.platform.maxCells
      omega
    · show T.slotsUsed + R'.slots ≤ e.platform.maxSlots
      omega
  · rw [State.stackLimits_setFrames]; rfl
  · rw [State.stackBytes_setFrames]; rfl
  · refine ⟨?_, Nat.le_refl _, Nat.le_refl _, ?_, ?_, fun a c9 h9 => ⟨c9, h9, rfl, rfl, fun _ _ => rfl⟩⟩
    · obtain ⟨t, ht, -⟩ := State.frames_cons hr
      show T.setVm s.vm = { ((T.setVm s.vm).setFrames (.invoking m args :: below)).setFrames (T.setVm s.vm).frames with heap := T.heap, slotsUsed := T.slotsUsed }
      rw [State.setFrames_setFrames, State.setFrames_self ht]
      rfl
    · show T.slotsUsed = T.slotsUsed + ((T.heap.toList.drop T.heap.size).map (·.slots.size)).sum
      rw [List.drop_eq_nil_of_le (Nat.le_of_eq Array.length_toList)]
      rfl
    · show ((T.heap.toList.drop T.heap.size).map (·.slots.size)).sum ≤ 0
      rw [List.drop_eq_nil_of_le (Nat.le_of_eq Array.length_toList)]
      exact Nat.le_refl _
/-- 'throw new E()': new; dup; invokespecial; athrow -/
theorem vx_throw0 {cc : ByteArray} {pc : Nat} (hexec : p.tables.exec = Jvm.exec) (hb : c.code = cc) (hl : l.stackTraces = false) {own cls : String} {names : List String} {ik ic mc ms : Nat} {A : Nat → Prop}
    (hown : s.vm.findClass own = some m.cls) (hcls : Bundle.fit cls = true) (hnames : ∀ n ∈ names, Bundle.fit n = true)
    (hk : (Cond.classLink own ik cls).before args s = true) (hini : (Cond.initialized cls).before args s = true) (hat : ∀ w ∈ vx_at0 own ic cls names, w.before args s = true)
    (hgood : ∀ w ∈ Cond.classLink own ik cls :: Cond.initialized cls :: vx_at0 own ic cls names, vx_ot w = true)
    (hU : vx_Zq Bundle.tN "UNASSIGNED_STACK" Bundle.steD A s s.heap) (hN : vx_Zq Bundle.tN "SUPPRESSED_SENTINEL" Bundle.listD A s s.heap) (hS : va_S A s.heap H locs) (hsize : ls.size = c.maxLocals)
    (d0 : decode cc pc = .ok (.new ik, 3)) (d3 : decode cc (pc + 3) = .ok (.dup, 1)) (d4 : decode cc (pc + 4) = .ok (.invokespecial ic, 3)) (d7 : decode cc (pc + 7) = .ok (.athrow, 1))
    (hout : ∀ x ∈ c.exceptionTable.toList, covers x (pc + 7) = false)
    (hRframes : names.length + 3 < R.frames) (hRlocals : (rest.map fun v => v.category).sum + (13 * (names.length + 1) + 42) ≤ R.locals) (hRcells : cells + 1 ≤ R.cells) (hRslots : slots + 6 ≤ R.slots) (hlocks : meth.locks = false)
    (hx : ∀ t : State, s.vm.Alike t.vm → H.size ≤ t.heap.size → (∀ q : Nat, q < H.size → t.heap[q]? = H[q]?) → XC cls s t)
    (hf : ∀ z ∈ locs, free z.base) (hc : cells + 1 ≤ mc) (hs : slots + 6 ≤ ms) :
    W p l e R s m args below meth c H locs cells slots (vx_MQ below Qc XC args s mc ms free) (F0 m pc ls rest) := by
  intro T hT X
  have htr : e.platform.stackTraces = false := (show e.platform.stackTraces = l.stackTraces by rw [X.admits.platform]).trans hl
  have Y := vx_rebase X (R' := { frames := R.frames, locals := R.locals, cells := 1, slots := 6 }) (Nat.le_refl _) (Nat.le_refl _) hRcells hRslots
  obtain ⟨s', hA⟩ : ∃ z, z = (T.setVm s.vm).setFrames (.invoking m args :: below) := ⟨_, rfl⟩
  rw [← hA] at Y
  have hvm : s'.vm = s.vm := by rw [hA]; rfl
  have hhp : s'.heap = H := by rw [hA]; exact hT
  have hW0 : s.WarmedH s'.vm := by rw [hvm]; exact State.WarmedH.refl s
  have hat' : ∀ w ∈ vx_at0 own ic cls names, w.before args s' = true := fun w hw => vx_ot_at hW0 hvm.symm (hgood w (List.mem_cons_of_mem _ (List.mem_cons_of_mem _ hw))) (hat w hw)
  have hk' : (Cond.classLink own ik cls).before args s' = true := vx_ot_at hW0 hvm.symm (hgood _ List.mem_cons_self) hk
  have hini' : (Cond.initialized cls).before args s' = true := vx_ot_at hW0 hvm.symm (hgood _ (List.mem_cons_of_mem _ List.mem_cons_self)) hini
  have hU' : vx_Zq Bundle.tN "UNASSIGNED_STACK" Bundle.steD A s' s'.heap := by rw [hhp]; exact vx_Zq.moved hW0.alike (hU.kept hS.2.1)
  have hN' : vx_Zq Bundle.tN "SUPPRESSED_SENTINEL" Bundle.listD A s' s'.heap := by rw [hhp]; exact vx_Zq.moved hW0.alike (hN.kept hS.2.1)
  have h : ∀ w ∈ Bundle.ownAtoms0 own ic cls names, w.before args s' = true := vx_own hat' (vx_isRefq hU'.1) (vx_isRefq hN'.1) hU'.2.word hN'.2.word
  have hown' : s'.vm.findClass own = some m.cls := by rw [hvm]; exact hown
  have hins : (Cond.instantiable cls 6).before args s' = true := h _ (by simp [Bundle.ownAtoms0])
  obtain ⟨vm₁, cX, kX, hfX, hkX, -, -, X₁, st1⟩ := Y.newCold hexec (own := own) (C := cls) (index := ik) (n := 6) hown' hk' hins hini'
    (g := F0 m pc ls rest) rfl (by rw [hb]; exact d0) (Nat.le_refl _) (Nat.le_refl _)
  generalize hT1 : (T.setVm vm₁).pushCell { cls := cX, slots := kX.instanceTypes.map defaultValue, vm := .none } = T1 at X₁ st1
  have hcat : (Value.ref T.heap.size).category = 1 := rfl
  have hcellA : T1.heap[T.heap.size]? = some (freshCell cX kX) := by rw [← hT1]; exact State.heap_pushCell_size _ _
  have d3' : decode c.code (pc + 3) = .ok (.dup, 1) := by rw [hb]; exact d3
  obtain ⟨U, hsteps, hrun, hend, hW, hsame, ce, hce, hO⟩ := X₁.ctorThrow0 hexec htr (own := own) (cls := cls) (names := names) (ic := ic) hown' hcls hnames h (fun x hx => nomatch hx) hfX hkX hcellA (by rw [hhp, hT]; exact Nat.le_refl _)
    (g := { method := m, pc := pc + 4, locals := ls, stack := .ref T.heap.size :: .ref T.heap.size :: rest, locked := none }) rfl hsize rfl rfl (rest := rest) rfl
    (by rw [hb]; exact d4) (by rw [hb]; exact d7) hout hRframes (by simp only [List.map_cons, List.sum_cons, hcat]; omega) hlocks
  obtain ⟨f1, f2⟩ := vx_frame hsame
  rw [hhp] at f1 f2
  have hWs : s.WarmedH U.vm := State.WarmedH.trans hW0 hW
  have hcl : s.vm.findClass cls = some ce.cls := by
    have h9 := hO.cls
    rw [hvm] at h9
    exact h9
  have hall : s.sameButNew ({ U with vm := s.vm } : State) locs mc ms := by
    subst hA
    obtain ⟨e1, e2⟩ := hsame
    rw [State.setFrames_setFrames] at e1
    have h2 : (T.setVm s.vm).sameButNew ({ U with vm := s.vm } : State) [] (0 + 1) (0 + 6) := ⟨e1, e2⟩
    have h3 := X.same.trans h2
    rw [List.append_nil] at h3
    exact h3.mono hc hs
  refine ⟨U, ?_, .threw T.heap.size, hrun, hend, Or.inr ⟨T.heap.size, rfl, cls, ce, locs, hx U hWs.alike f1 (fun q hq => f2 q hq (fun z hz => nomatch hz)), hce, hO.vm, hcl, hWs, hall, hf⟩⟩
  refine st1 _ ?_
  show Steps p.tables e below (T1.setTop { method := m, pc := pc + 3, locals := ls, stack := .ref T.heap.size :: rest, locked := none }) _
  jvm_step X₁.here [X₁.here.top, hexec, d3', Value.category]
  exact hsteps
/-- 'throw new E("text")': new; dup; ldc; invokespecial; athrow -/
theorem vx_throwS {cc : ByteArray} {pc : Nat} (hexec : p.tables.exec = Jvm.exec) (hb : c.code = cc) (hl : l.stackTraces = false) {own cls text : String} {names : List String} {ik is ic mc ms sa : Nat} {A : Nat → Prop}
    (hown : s.vm.findClass own = some m.cls) (hcls : Bundle.fit cls = true) (hnames : ∀ n ∈ names, Bundle.fit n = true)
    (hk : (Cond.classLink own ik cls).before args s = true) (hini : (Cond.initialized cls).before args s = true) (hstr : vk_R own is text sa s) (hat : ∀ w ∈ vx_atS own ic cls names, w.before args s = true)
    (hgood : ∀ w ∈ Cond.classLink own ik cls :: Cond.initialized cls :: vx_atS own ic cls names, vx_ot w = true)
    (hU : vx_Zq Bundle.tN "UNASSIGNED_STACK" Bundle.steD A s s.heap) (hN : vx_Zq Bundle.tN "SUPPRESSED_SENTINEL" Bundle.listD A s s.heap) (hS : va_S A s.heap H locs) (hsize : ls.size = c.maxLocals)
    (d0 : decode cc pc = .ok (.new ik, 3)) (d3 : decode cc (pc + 3) = .ok (.dup, 1)) (d4 : decode cc (pc + 4) = .ok (.ldc is, 2)) (d6 : decode cc (pc + 6) = .ok (.invokespecial ic, 3)) (d9 : decode cc (pc + 9) = .ok (.athrow, 1))
    (hout : ∀ x ∈ c.exceptionTable.toList, covers x (pc + 9) = false)
    (hRframes : names.length + 3 < R.frames) (hRlocals : (rest.map fun v => v.category).sum + (13 * (names.length + 1) + 43) ≤ R.locals) (hRcells : cells + 1 ≤ R.cells) (hRslots : slots + 6 ≤ R.slots) (hlocks : meth.locks = false)
    (hx : ∀ t : State, s.vm.Alike t.vm → H.size ≤ t.heap.size → (∀ q : Nat, q < H.size → t.heap[q]? = H[q]?) → XC cls s t)
    (hf : ∀ z ∈ locs, free z.base) (hc : cells + 1 ≤ mc) (hs : slots + 6 ≤ ms) :
    W p l e R s m args below meth c H locs cells slots (vx_MQ below Qc XC args s mc ms free) (F0 m pc ls rest) := by
  intro T hT X
  have htr : e.platform.stackTraces = false := (show e.platform.stackTraces = l.stackTraces by rw [X.admits.platform]).trans hl
  have Y := vx_rebase X (R' := { frames := R.frames, locals := R.locals, cells := 1, slots := 6 }) (Nat.le_refl _) (Nat.le_refl _) hRcells hRslots
  obtain ⟨s', hA⟩ : ∃ z, z = (T.setVm s.vm).setFrames (.invoking m args :: below) := ⟨_, rfl⟩
  rw [← hA] at Y
  have hvm : s'.vm = s.vm := by rw [hA]; rfl
  have hhp : s'.heap = H := by rw [hA]; exact hT
  have hW0 : s.WarmedH s'.vm := by rw [hvm]; exact State.WarmedH.refl s
  have hat' : ∀ w ∈ vx_atS own ic cls names, w.before args s' = true := fun w hw => vx_ot_at hW0 hvm.symm (hgood w (List.mem_cons_of_mem _ (List.mem_cons_of_mem _ hw))) (hat w hw)
  have hk' : (Cond.classLink own ik cls).before args s' = true := vx_ot_at hW0 hvm.symm (hgood _ List.mem_cons_self) hk
  have hini' : (Cond.initialized cls).before args s' = true := vx_ot_at hW0 hvm.symm (hgood _ (List.mem_cons_of_mem _ List.mem_cons_self)) hini
  have hU' : vx_Zq Bundle.tN "UNASSIGNED_STACK" Bundle.steD A s' s'.heap := by rw [hhp]; exact vx_Zq.moved hW0.alike (hU.kept hS.2.1)
  have hN' : vx_Zq Bundle.tN "SUPPRESSED_SENTINEL" Bundle.listD A s' s'.heap := by rw [hhp]; exact vx_Zq.moved hW0.alike (hN.kept hS.2.1)
  have h : ∀ w ∈ Bundle.ownAtoms own ic cls names, w.before args s' = true := vx_own hat' (vx_isRefq hU'.1) (vx_isRefq hN'.1) hU'.2.word hN'.2.word
  have hown' : s'.vm.findClass own = some m.cls := by rw [hvm]; exact hown
  have hins : (Cond.instantiable cls 6).before args s' = true := h _ (by simp [Bundle.ownAtoms])
  obtain ⟨vm₁, cX, kX, hfX, hkX, -, -, X₁, st1⟩ := Y.newCold hexec (own := own) (C := cls) (index := ik) (n := 6) hown' hk' hins hini'
    (g := F0 m pc ls rest) rfl (by rw [hb]; exact d0) (Nat.le_refl _) (Nat.le_refl _)
  generalize hT1 : (T.setVm vm₁).pushCell { cls := cX, slots := kX.instanceTypes.map defaultValue, vm := .none } = T1 at X₁ st1
  have hcat : (Value.ref T.heap.size).category = 1 := rfl
  have hcellA : T1.heap[T.heap.size]? = some (freshCell cX kX) := by rw [← hT1]; exact State.heap_pushCell_size _ _
  have d3' : decode c.code (pc + 3) = .ok (.dup, 1) := by rw [hb]; exact d3
  have d4' : decode c.code (pc + 4) = .ok (.ldc is, 2) := by rw [hb]; exact d4
  have hstr' : vk_R own is text sa s' := vk_R.warm hW0 hstr
  obtain ⟨U, hsteps, hrun, hend, hW, hsame, ce, hce, hO⟩ := X₁.ctorThrowS hexec htr (own := own) (cls := cls) (names := names) (ic := ic) hown' hcls hnames h (fun x hx => nomatch hx) hfX hkX hcellA (by rw [hhp, hT]; exact Nat.le_refl _) (msg := .ref sa) rfl
    (g := { method := m, pc := pc + 6, locals := ls, stack := .ref sa :: .ref T.heap.size :: .ref T.heap.size :: rest, locked := none }) rfl hsize rfl rfl (rest := rest) rfl
    (by rw [hb]; exact d6) (by rw [hb]; exact d9) hout hRframes (by simp only [List.map_cons, List.sum_cons, hcat]; omega) hlocks
  obtain ⟨f1, f2⟩ := vx_frame hsame
  rw [hhp] at f1 f2
  have hWs : s.WarmedH U.vm := State.WarmedH.trans hW0 hW
  have hcl : s.vm.findClass cls = some ce.cls := by
    have h9 := hO.cls
    rw [hvm] at h9
    exact h9
  have hall : s.sameButNew ({ U with vm := s.vm } : State) locs mc ms := by
    subst hA
    obtain ⟨e1, e2⟩ := hsame
    rw [State.setFrames_setFrames] at e1
    have h2 : (T.setVm s.vm).sameButNew ({ U with vm := s.vm } : State) [] (0 + 1) (0 + 6) := ⟨e1, e2⟩
    have h3 := X.same.trans h2
    rw [List.append_nil] at h3
    exact h3.mono hc hs
  refine ⟨U, ?_, .threw T.heap.size, hrun, hend, Or.inr ⟨T.heap.size, rfl, cls, ce, locs, hx U hWs.alike f1 (fun q hq => f2 q hq (fun z hz => nomatch hz)), hce, hO.vm, hcl, hWs, hall, hf⟩⟩
  refine st1 _ ?_
  show Steps p.tables e below (T1.setTop { method := m, pc := pc + 3, locals := ls, stack := .ref T.heap.size :: rest, locked := none }) _
  jvm_step X₁.here [X₁.here.top, hexec, d3', Value.category]
  exact X₁.ldcString hexec (own := own) (text := text) (index := is) (a := sa) hown' hstr'.1 hstr'.2
    (g := { method := m, pc := pc + 4, locals := ls, stack := .ref T.heap.size :: .ref T.heap.size :: rest, locked := none }) rfl d4' _ hsteps
/-- 'throw new E("text")', the text by a wide index -/
theorem vx_throwSW {cc : ByteArray} {pc : Nat} (hexec : p.tables.exec = Jvm.exec) (hb : c.code = cc) (hl : l.stackTraces = false) {own cls text : String} {names : List String} {ik is ic mc ms sa : Nat} {A : Nat → Prop}
    (hown : s.vm.findClass own = some m.cls) (hcls : Bundle.fit cls = true) (hnames : ∀ n ∈ names, Bundle.fit n = true)
    (hk : (Cond.classLink own ik cls).before args s = true) (hini : (Cond.initialized cls).before args s = true) (hstr : vk_R own is text sa s) (hat : ∀ w ∈ vx_atS own ic cls names, w.before args s = true)
    (hgood : ∀ w ∈ Cond.classLink own ik cls :: Cond.initialized cls :: vx_atS own ic cls names, vx_ot w = true)
    (hU : vx_Zq Bundle.tN "UNASSIGNED_STACK" Bundle.steD A s s.heap) (hN : vx_Zq Bundle.tN "SUPPRESSED_SENTINEL" Bundle.listD A s s.heap) (hS : va_S A s.heap H locs) (hsize : ls.size = c.maxLocals)
    (d0 : decode cc pc = .ok (.new ik, 3)) (d3 : decode cc (pc + 3) = .ok (.dup, 1)) (d4 : decode cc (pc + 4) = .ok (.ldc_w is, 3)) (d7 : decode cc (pc + 7) = .ok (.invokespecial ic, 3)) (d10 : decode cc (pc + 10) = .ok (.athrow, 1))
    (hout : ∀ x ∈ c.exceptionTable.toList, covers x (pc + 10) = false)
    (hRframes : names.length + 3 < R.frames) (hRlocals : (rest.map fun v => v.category).sum + (13 * (names.length + 1) + 43) ≤ R.locals) (hRcells : cells + 1 ≤ R.cells) (hRslots : slots + 6 ≤ R.slots) (hlocks : meth.locks = false)
    (hx : ∀ t : State, s.vm.Alike t.vm → H.size ≤ t.heap.size → (∀ q : Nat, q < H.size → t.heap[q]? = H[q]?) → XC cls s t)
    (hf : ∀ z ∈ locs, free z.base) (hc : cells + 1 ≤ mc) (hs : slots + 6 ≤ ms) :
    W p l e R s m args below meth c H locs cells slots (vx_MQ below Qc XC args s mc ms free) (F0 m pc ls rest) := by
  intro T hT X
  have htr : e.platform.stackTraces = false := (show e.platform.stackTraces = l.stackTraces by rw [X.admits.platform]).trans hl
  have Y := vx_rebase X (R' := { frames := R.frames, locals := R.locals, cells := 1, slots := 6 }) (Nat.le_refl _) (Nat.le_refl _) hRcells hRslots
  obtain ⟨s', hA⟩ : ∃ z, z = (T.setVm s.vm).setFrames (.invoking m args :: below) := ⟨_, rfl⟩
  rw [← hA] at Y
  have hvm : s'.vm = s.vm := by rw [hA]; rfl
  have hhp : s'.heap = H := by rw [hA]; exact hT
  have hW0 : s.WarmedH s'.vm := by rw [hvm]; exact State.WarmedH.refl s
  have hat' : ∀ w ∈ vx_atS own ic cls names, w.before args s' = true := fun w hw => vx_ot_at hW0 hvm.symm (hgood w (List.mem_cons_of_mem _ (List.mem_cons_of_mem _ hw))) (hat w hw)
  have hk' : (Cond.classLink own ik cls).before args s' = true := vx_ot_at hW0 hvm.symm (hgood _ List.mem_cons_self) hk
  have hini' : (Cond.initialized cls).before args s' = true := vx_ot_at hW0 hvm.symm (hgood _ (List.mem_cons_of_mem _ List.mem_cons_self)) hini
  have hU' : vx_Zq Bundle.tN "UNASSIGNED_STACK" Bundle.steD A s' s'.heap := by rw [hhp]; exact vx_Zq.moved hW0.alike (hU.kept hS.2.1)
  have hN' : vx_Zq Bundle.tN "SUPPRESSED_SENTINEL" Bundle.listD A s' s'.heap := by rw [hhp]; exact vx_Zq.moved hW0.alike (hN.kept hS.2.1)
  have h : ∀ w ∈ Bundle.ownAtoms own ic cls names, w.before args s' = true := vx_own hat' (vx_isRefq hU'.1) (vx_isRefq hN'.1) hU'.2.word hN'.2.word
  have hown' : s'.vm.findClass own = some m.cls := by rw [hvm]; exact hown
  have hins : (Cond.instantiable cls 6).before args s' = true := h _ (by simp [Bundle.ownAtoms])
  obtain ⟨vm₁, cX, kX, hfX, hkX, -, -, X₁, st1⟩ := Y.newCold hexec (own := own) (C := cls) (index := ik) (n := 6) hown' hk' hins hini'
    (g := F0 m pc ls rest) rfl (by rw [hb]; exact d0) (Nat.le_refl _) (Nat.le_refl _)
  generalize hT1 : (T.setVm vm₁).pushCell { cls := cX, slots := kX.instanceTypes.map defaultValue, vm := .none } = T1 at X₁ st1
  have hcat : (Value.ref T.heap.size).category = 1 := rfl
  have hcellA : T1.heap[T.heap.size]? = some (freshCell cX kX) := by rw [← hT1]; exact State.heap_pushCell_size _ _
  have d3' : decode c.code (pc + 3) = .ok (.dup, 1) := by rw [hb]; exact d3
  have d4' : decode c.code (pc + 4) = .ok (.ldc_w is, 3) := by rw [hb]; exact d4
  have hstr' : vk_R own is text sa s' := vk_R.warm hW0 hstr
  obtain ⟨U, hsteps, hrun, hend, hW, hsame, ce, hce, hO⟩ := X₁.ctorThrowS hexec htr (own := own) (cls := cls) (names := names) (ic := ic) hown' hcls hnames h (fun x hx => nomatch hx) hfX hkX hcellA (by rw [hhp, hT]; exact Nat.le_refl _) (msg := .ref sa) rfl
    (g := { method := m, pc := pc + 7, locals := ls, stack := .ref sa :: .ref T.heap.size :: .ref T.heap.size :: rest, locked := none }) rfl hsize rfl rfl (rest := rest) rfl
    (by rw [hb]; exact d7) (by rw [hb]; exact d10) hout hRframes (by simp only [List.map_cons, List.sum_cons, hcat]; omega) hlocks
  obtain ⟨f1, f2⟩ := vx_frame hsame
  rw [hhp] at f1 f2
  have hWs : s.WarmedH U.vm := State.WarmedH.trans hW0 hW
  have hcl : s.vm.findClass cls = some ce.cls := by
    have h9 := hO.cls
    rw [hvm] at h9
    exact h9
  have hall : s.sameButNew ({ U with vm := s.vm } : State) locs mc ms := by
    subst hA
    obtain ⟨e1, e2⟩ := hsame
    rw [State.setFrames_setFrames] at e1
    have h2 : (T.setVm s.vm).sameButNew ({ U with vm := s.vm } : State) [] (0 + 1) (0 + 6) := ⟨e1, e2⟩
    have h3 := X.same.trans h2
    rw [List.append_nil] at h3
    exact h3.mono hc hs
  refine ⟨U, ?_, .threw T.heap.size, hrun, hend, Or.inr ⟨T.heap.size, rfl, cls, ce, locs, hx U hWs.alike f1 (fun q hq => f2 q hq (fun z hz => nomatch hz)), hce, hO.vm, hcl, hWs, hall, hf⟩⟩
  refine st1 _ ?_
  show Steps p.tables e below (T1.setTop { method := m, pc := pc + 3, locals := ls, stack := .ref T.heap.size :: rest, locked := none }) _
  jvm_step X₁.here [X₁.here.top, hexec, d3', Value.category]
  exact X₁.ldcStringW hexec (own := own) (text := text) (index := is) (a := sa) hown' hstr'.1 hstr'.2
    (g := { method := m, pc := pc + 4, locals := ls, stack := .ref T.heap.size :: .ref T.heap.size :: rest, locked := none }) rfl d4' _ hsteps
end Ends
section Bodies
variable {l : Launch}
theorem vx_ofW {y : MethodName} {ws ws' : List Cond} {rm : Room} {Pc : Array Value → State → Prop} {Qc : Array Value → State → Outcome → State → Prop} {XC : String → State → State → Prop} {mc ms : Nat} {free : Addr → Prop} {cc : ByteArray} {maxL : Nat} {ret : Option FieldType}
    (hy : plainName y.cls = true) (hw : ws = Cond.code y cc maxL ret :: ws')
    (body : ∀ p e s m args below meth c s₁, BodyLoose p l y (headSpec ws rm) cc maxL ret e s m args below meth c s₁ → c.maxLocals = maxL → (∀ x ∈ c.exceptionTable.toList, False) → Pc args s →
      W p l e (headSpec ws rm).room s m args below meth c s.heap [] 0 0 (vx_MQ below Qc XC args s mc ms free) (entryFrame m args maxL)) : vx_Met l y ws rm Pc Qc XC mc ms free := by
  refine MetFree.of_bodyS (code := cc) (maxLocals := maxL) (ret := ret) hy ?_ ?_
  · intro args s m h hn
    obtain ⟨meth, c, h1, h2, h3, h4, h5, h6, -, -⟩ := Cond.code_spec hn (atoms_spec (ws := ws) h _ (by rw [hw]; exact List.mem_cons_self))
    exact ⟨meth, c, h1, h2, h3, h4, h5, h6⟩
  · intro p e s m args below meth c s₁ B hml hP _
    have hh0 : s₁.heap = s.heap := by rw [B.state]; rfl
    have ht : ∀ x ∈ c.exceptionTable.toList, False := by
      obtain ⟨meth9, c9, h1, h2, -, -, -, -, h7, -⟩ := Cond.code_spec B.named (atoms_spec (ws := ws) B.pre _ (by rw [hw]; exact List.mem_cons_self))
      cases Option.some.inj (h1.symm.trans B.method)
      cases Option.some.inj (h2.symm.trans (Stand.of_body B).code)
      intro x hx
      rw [Array.isEmpty_iff.mp h7] at hx
      cases hx
    obtain ⟨t, a1, o, b1, b2, b3⟩ := body p e s m args below meth c s₁ B hml ht hP s₁ hh0 (Stand.of_body B)
    exact ⟨t, o, a1, b1, b2, b3⟩
/-- the table of a body with handlers -/
theorem vx_table {p : Program} {x y : MethodName} {S : Spec} {cc bytes : ByteArray} {maxL maxL' : Nat} {ret ret' : Option FieldType} {e : Env} {s s₁ : State} {m : MethodId} {args : Array Value} {below : List Frame} {meth : Method} {c : Code} {hh : List (Nat × Nat × Nat × Nat)}
    (B : BodyLoose p l y S cc maxL ret e s m args below meth c s₁) (h : (Cond.codeWith y bytes maxL' ret' hh).before args s = true) : c.exceptionTable.toList = tableOf hh := by
  obtain ⟨m9, meth9, c9, hn9, h1, h2, -, -, h6, -⟩ := Cond.codeWith_spec h
  cases Option.some.inj (hn9.symm.trans B.named)
  cases Option.some.inj (h1.symm.trans B.method)
  cases Option.some.inj (h2.symm.trans (Stand.of_body B).code)
  rw [← h6, table_eq]
end Bodies
end VXA
/-! ===== END ===== -/
/-! ===== BEGIN a static call of a method with an exception table ===== -/
section VXS
variable {p : Program} {l : Launch} {e : Env} {R : Room} {s : State} {m : MethodId} {args : Array Value} {below : List Frame} {meth : Method} {c : Code} {T : State} {H : Heap} {locs : List Loc} {cells slots : Nat}
abbrev vx_CSW (R : Room) (s : State) (args : Array Value) (own : String) (index : Nat) (y : MethodName) (bytes : ByteArray) (maxL : Nat) (ret : Option FieldType) (hh : List (Nat × Nat × Nat × Nat)) (ws : List Cond) (rm : Room) (mc ms n : Nat) : Prop :=
  (rm.cells = mc ∧ rm.slots = ms ∧ rm.frames + 1 ≤ R.frames ∧ 8 + (maxL + 11) + rm.locals ≤ R.locals ∧ (∀ w ∈ ws, ∀ (a' : Array Value) (U : State), s.WarmedH U.vm → w.before a' U = true) ∧ Cond.codeWith y bytes maxL ret hh ∈ ws) ∧
  (Cond.codeWith y bytes maxL ret hh).before args s = true ∧ (Cond.initialized y.cls).before args s = true ∧ (y.cls ≠ "java/lang/invoke/MethodHandle" ∧ y.cls ≠ "java/lang/invoke/VarHandle") ∧
  (∀ sig, parseMethodDescriptor y.desc = some sig → n = sig.parameters.length) ∧ (Cond.methodLink own index y).before args s = true ∧ (Cond.static y).before args s = true
theorem vx_cwSW {own : String} {index maxL mc ms : Nat} {y : MethodName} {bytes : ByteArray} {ret : Option FieldType} {hh : List (Nat × Nat × Nat × Nat)} {Ts ws ws' : List Cond} {rm : Room} (n : Nat) (ht : ∀ w ∈ Ts, w.before args s = true) (hT : GoodIn Ts (va_wsS own index y ws)) (hw : ws = Cond.codeWith y bytes maxL ret hh :: ws') (hrc : rm.cells = mc) (hrs : rm.slots = ms)
    (hd : y.cls ≠ "java/lang/invoke/MethodHandle" ∧ y.cls ≠ "java/lang/invoke/VarHandle" ∧ (parseMethodDescriptor y.desc).map (fun d => d.parameters.length) = some n) (hR : rm.frames + 1 ≤ R.frames ∧ 8 + (maxL + 11) + rm.locals ≤ R.locals) :
    vx_CSW R s args own index y bytes maxL ret hh ws rm mc ms n := by
  have ok : ∀ w ∈ va_wsS own index y ws, w.before args s = true := fun w h => ht w (hT w h).1
  have hG : GoodIn Ts ws := fun w h => hT w (by unfold va_wsS; exact List.mem_append_right _ h)
  have hc : Cond.codeWith y bytes maxL ret hh ∈ ws := by rw [hw]; exact List.mem_cons_self
  refine ⟨⟨hrc, hrs, hR.1, hR.2, pay_in ht hG, hc⟩, ht _ (hG _ hc).1, ok _ (by simp [va_wsS]), ⟨hd.1, hd.2.1⟩, fun sig h => ?_, ok _ (by simp [va_wsS]), ok _ (by simp [va_wsS])⟩
  have h2 := hd.2.2
  rw [h] at h2
  exact (Option.some.inj h2).symm
theorem vx_callSW (X : Stand p l e R s m args below meth c T locs cells slots) (hexec : p.tables.exec = Jvm.exec) {own : String} {index : Nat} {y : MethodName} {bytes : ByteArray} {maxL : Nat} {ret : Option FieldType} {hh : List (Nat × Nat × Nat × Nat)}
    (hown : s.vm.findClass own = some m.cls) (hlink : (Cond.methodLink own index y).before args s = true) (hstat : (Cond.static y).before args s = true) (hinit : (Cond.initialized y.cls).before args s = true)
    (hcode : (Cond.codeWith y bytes maxL ret hh).before args s = true) (hy : y.cls ≠ "java/lang/invoke/MethodHandle" ∧ y.cls ≠ "java/lang/invoke/VarHandle")
    {W9 : Nat} {Pre : Pt → Array Value → Prop} {Post : Pt → Array Value → Option Value → Pt → Prop} (hK : Back l R p e below s args y 3 W9 Pre Post)
    {g : JFrame} (hg : g.method = m) (hsize : g.locals.size = c.maxLocals) {argsL rest : List Value} (hlen : ∀ sig, parseMethodDescriptor y.desc = some sig → argsL.length = sig.parameters.length)
    (hstack : g.stack = argsL.reverse ++ rest) (hW : 2 * g.monitorRoom + (rest.map fun v => v.category).sum ≤ W9) (hdg : decode c.code g.pc = .ok (.invokestatic index, 3))
    (hpre : ∀ vm₁, s.WarmedH vm₁ → Pre ⟨T.setVm vm₁, locs, cells, slots⟩ argsL.toArray) :
    ∃ (v : Option Value) (vm₁ : Vm) (B : Pt), s.WarmedH vm₁ ∧ Stand p l e R s m args below meth c B.U B.locs B.cells B.slots ∧ Post ⟨T.setVm vm₁, locs, cells, slots⟩ argsL.toArray v B ∧
      ∀ target, Steps p.tables e below (B.U.setTop { g with pc := g.pc + 3, stack := v.toList ++ rest }) target → Steps p.tables e below (T.setTop g) target := by
  obtain ⟨mk, methM, cM, hnamed, hmethM, -, -, -, -, -, -, hsigM⟩ := Cond.codeWith_spec hcode
  have hstatic : methM.isStatic = true := Cond.static_spec hnamed hmethM hstat
  obtain ⟨kP, hkP, -⟩ := className_of_methodNamed hnamed
  have hinitP : kP.init = .initialized := Cond.initialized_spec (findClass_of_methodNamed hnamed) hkP hinit
  obtain ⟨vm₁, X₁, hstep₁⟩ := X.invokestatic hexec hown hlink hnamed hmethM hstatic hkP hinitP hy (g := g) hg (argsL := argsL) (rest := rest) (hlen _ hsigM) hstack hdg
  obtain ⟨v, B, X', hpost, hsteps⟩ := hK m meth c ⟨T.setVm vm₁, locs, cells, slots⟩ { g with stack := rest } (.invokestatic index) mk argsL.toArray X₁ hg hsize hdg hW (X₁.named hnamed) (hpre vm₁ X₁.warmed)
  exact ⟨v, vm₁, B, X₁.warmed, X', hpost, fun target h => hstep₁ _ fun acts => by rw [doInvoke_state]; exact hsteps.trans h⟩
theorem vx_runSW {y : MethodName} {bytes cc : ByteArray} {maxL nL mc ms n index : Nat} {ret : Option FieldType} {hh : List (Nat × Nat × Nat × Nat)} {ws : List Cond} {rm : Room} {Pc : Array Value → State → Prop} {Qc : Array Value → State → Outcome → State → Prop} {free : Addr → Prop} {Ts : List Cond} {own : String} {As rest : List Value} {g : JFrame}
    (S : CallFix p m c cc nL s args Ts own) (hM : Met l y ws rm Pc Qc mc ms free) (cw : vx_CSW R s args own index y bytes maxL ret hh ws rm mc ms n) (hp : PreS s H Pc As)
    (hg : g.method = m) (hn : As.length = n) (hsize : g.locals.size = nL) (hstack : g.stack = As.reverse ++ rest) (hW : 2 * g.monitorRoom + (rest.map fun v => v.category).sum ≤ 8) (hdg : decode cc g.pc = .ok (.invokestatic index, 3)) (hf : cells + mc ≤ R.cells ∧ slots + ms ≤ R.slots) :
    va_Run p l e R s m args below meth c H locs cells slots mc ms g rest (Qc As.toArray) (free) := by
  obtain ⟨⟨hrc, hrs, hfr, hlo, hws, hcw⟩, hcode, hini, hy, hlen, hl, hstt⟩ := cw
  have hK : Back l R p e below s args y 3 8 (PreOf R mc ms Pc) (PostOf Qc mc ms free) := va_backW (hh := hh) (bytes := bytes) (maxL := maxL) (ret := ret) hM hp.1 hrc hrs hfr hlo hws hcw (fun a' U hW => word_at hW (Or.inl (by first | rfl | simp [Cond.onTables, Cond.keeps, Cond.steady])) hini)
  obtain ⟨hx, hb, hml, ho, -⟩ := S
  intro T hT X
  obtain ⟨v, vm₁, ⟨U', l2, c2, s2⟩, hW₁, X', ⟨g', mk, t, L, e1, e2, hq, h1, hL, h2, h3⟩, st⟩ := vx_callSW X hx (hh := hh) (bytes := bytes) (maxL := maxL) (ret := ret) ho hl hstt hini hcode hy hK hg (hsize.trans hml.symm) (argsL := As) (rest := rest) (fun sig h => hn.trans (hlen sig h)) hstack hW (by rw [hb]; exact hdg)
    (fun vm₁ hW₁ => ⟨hf.1, hf.2, hp.2 (T.setVm vm₁) hT hW₁⟩)
  dsimp only [Pt.U, Pt.locs, Pt.cells, Pt.slots] at X' e1 e2 h1 h2 h3 st
  subst h1; subst h2; subst h3
  exact ⟨v, (T.setVm vm₁).calling g' mk As.toArray, t, U', L, hT, X', hL, e1, e2, hq, st⟩
/-- not caught here, past rows that name other classes: it goes on to the caller -/
theorem vx_outP {p : Program} {l : Launch} {e : Env} {R : Room} {s : State} {m : MethodId} {args : Array Value} {below : List Frame} {meth : Method} {c : Code} {H : Heap} {locs : List Loc} {cells slots : Nat} {free : Addr → Prop} {ls : Array Slot} {rest : List Value} {Qc : Array Value → State → Outcome → State → Prop} {XC : String → State → State → Prop}
    {pc : Nat} {own E : String} {ce : Cell} {q : Addr} {mc ms : Nat} (hown : s.vm.findClass own = some m.cls) (hlocks : meth.locks = false)
    (hpass : ∀ z ∈ c.exceptionTable.toList, covers z pc = false ∨ (z.catchType ≠ 0 ∧ ∃ nm : String, (Cond.classLink own z.catchType nm).before args s = true ∧ va_Nc E nm s)) (hcell : H[q]? = some ce) (hv : ce.vm = .none) (hcl : s.vm.findClass E = some ce.cls)
    (hx : ∀ t : State, t.heap = H → s.vm.Alike t.vm → XC E s t) (hf : ∀ z ∈ locs, free z.base) (hc : cells ≤ mc) (hs : slots ≤ ms) :
    vx_W p l e R s m args below meth c H locs cells slots (vx_MQ below Qc XC args s mc ms free) (F0 m pc ls rest) q := by
  intro T hT X
  have hpl : e.platform.magicAccessors = ({} : Platform).magicAccessors := by rw [X.admits.platform]
  obtain ⟨vm', hW', X', st⟩ := X.outThrough hlocks q (g := F0 m pc ls rest) rfl rfl rfl (cell := ce) (by rw [hT]; exact hcell) (by rw [hv]; rfl)
    (by obtain ⟨k9, h9, -⟩ := Vm.findClass_spec hcl; exact ⟨k9, h9⟩) (fun z hz => by
      rcases hpass z hz with h | ⟨hz0, nm, hl1, hn1⟩
      · exact Or.inl h
      · obtain ⟨c6, hc6, hcl6⟩ := Cond.classLink_spec hown hl1 e.platform hpl
        obtain ⟨a8, b8, h1, h2, h3⟩ := hn1
        cases Option.some.inj (h1.symm.trans hcl)
        cases Option.some.inj (h2.symm.trans hc6)
        exact Or.inr ⟨hz0, _, hcl6, h3⟩)
  obtain ⟨g₀, hfr⟩ := X'.frames_eq
  have hcell9 : ((T.setVm vm').setFrames (.throwing q :: below)).heap[q]? = some ce := by
    show T.heap[q]? = some ce
    rw [hT]; exact hcell
  have hend : Ended ((T.setVm vm').setFrames (.throwing q :: below)) below (.threw q) := State.frames_setFrames _ (State.cur_lt_of_frames hfr)
  refine ⟨(T.setVm vm').setFrames (.throwing q :: below), ?_, .threw q, X'.here.running, hend, Or.inr ⟨q, rfl, E, ce, locs, hx _ hT (X'.ends _).1.alike, hcell9, hv, hcl, (X'.ends _).1, (X'.ends _).2.mono hc hs, hf⟩⟩
  rw [X.pushThrowing_eq]
  exact st
/-- a thing of a world lies in the heap -/
theorem vx_lt {D : va_G} {cl : List vw_C} {ws : va_W} {H1 : Heap} (h : va_P D cl ws H1) {k : Nat} {q : Nat × va_E} (hk : ws[k]? = some q) : q.1 < H1.size := (h k q hk).lt
end VXS
/-! ===== END ===== -/
/-! ===== BEGIN methods with a table of their own: called by a name, returning or throwing ===== -/
section VXH
/-! vx_backW, vx_callVX, vx_callSX, vx_callVW, vx_runVW, vx_runVX, vx_runSX, vx_ofWH follow the same proofs as their sisters above (Free/Laws.lean, Shelf42/LK1.lean); vx_outP calls Shelf42/NT130.lean (outThrough). -/
section
variable {l : Launch} {R : Room} {p : Program} {e : Env} {below : List Frame} {s : State} {sargs : Array Value} {y : MethodName} {len W9 : Nat}
theorem vx_backW {ws : List Cond} {rm : Room} {Pc : Array Value → State → Prop} {Qc : Array Value → State → Outcome → State → Prop} {XC : String → State → State → Prop} {mc ms : Nat} {free : Addr → Prop} {bytes : ByteArray} {maxL : Nat} {ret : Option FieldType} {hh : List (Nat × Nat × Nat × Nat)}
    (hM : vx_Met l y ws rm Pc Qc XC mc ms free) (hblind : FrameBlind Pc) (hrc : rm.cells = mc) (hrs : rm.slots = ms)
    (hframes : rm.frames + 1 ≤ R.frames) (hlocals : W9 + (maxL + 11) + rm.locals ≤ R.locals)
    (hws : ∀ w ∈ ws, ∀ a' U, s.WarmedH U.vm → w.before a' U = true) (hcode : Cond.codeWith y bytes maxL ret hh ∈ ws) (hinit : ∀ a' U, s.WarmedH U.vm → (Cond.initialized y.cls).before a' U = true) :
    vx_Back l R p e below s sargs y len W9 (PreOf R mc ms Pc) (PostOf Qc mc ms free) (vx_Post XC mc ms free) := by
  intro m meth c A g ig mk a X hg hsize hdg hW hn hp
  have h1 : (headSpec ws rm).pre.before a A.U = true := atoms_intro fun w hw => hws w hw _ _ X.warmed
  have h2 : (Cond.codeWith y bytes maxL ret hh).before a A.U = true := hws _ hcode _ _ X.warmed
  have h3 : (Cond.initialized y.cls).before a A.U = true := hinit _ _ X.warmed
  have h4 : A.cells + (headSpec ws rm).room.cells ≤ R.cells := by rw [show (headSpec ws rm).room.cells = mc from hrc]; exact hp.1
  have h5 : A.slots + (headSpec ws rm).room.slots ≤ R.slots := by rw [show (headSpec ws rm).room.slots = ms from hrs]; exact hp.2.1
  have hPc : Pc a (A.U.calling g mk a) := hblind _ _ _ _ hp.2.2
  obtain ⟨U, Ls, c0, s0⟩ := A
  dsimp only [Pt.U, Pt.locs, Pt.cells, Pt.slots] at h1 h2 h3 h4 h5 X hn hPc ⊢
  obtain ⟨m9, methY, cY, hn9, hmY, hcY, -, hlY, -⟩ := Cond.codeWith_spec h2
  cases Option.some.inj (hn9.symm.trans hn)
  obtain ⟨kY, hkY, -⟩ := className_of_methodNamed hn
  have hinitY : kY.init = .initialized := Cond.initialized_spec (findClass_of_methodNamed hn) hkY h3
  have h : At U g.method c below := by rw [hg]; exact X.here
  have hlocals9 : W9 + (maxL + 11) + (headSpec ws rm).room.locals ≤ R.locals := hlocals
  have happ : (headSpec ws rm).appliesLoose y e.platform (U.calling g mk a) = true :=
    Spec.appliesLoose_calling (g := g) h hdg hn hkY hinitY
      (X.room_calling (g := g) (R' := (headSpec ws rm).room) hsize hmY hcY hframes (by rw [hlY]; omega) h4 h5) h1
  obtain ⟨mid, hmid⟩ := h.above
  have hfr : (U.setTop g).frames = (.java g :: mid) ++ below := by rw [State.frames_setTop' g h.top, hmid]; rfl
  obtain ⟨o, s₂, hsteps, -, hend, hq⟩ := Steps.callFree hM p X.admits X.cas X.clock (acts := []) hfr happ hPc trivial
  have hq' : vx_Q Qc XC mc ms free a (U.calling g mk a) o s₂ := hq
  rw [State.frames_setTop' g h.top] at hend
  obtain ⟨g₀, hg0⟩ := Option.isSome_iff_exists.mp h.top
  obtain ⟨r, hr⟩ := State.topJava?_eq_some.mp hg0
  have hr' : (({ U with heap := s₂.heap, slotsUsed := s₂.slotsUsed } : State).setVm s₂.vm).frames = .java g₀ :: r := hr
  rcases hq' with ⟨hqc, L, hfe, hL⟩ | ⟨q, rfl, E, ce, L, hx, hce, hcv, hcl, hW₂, hsm, hL⟩
  · obtain ⟨⟨v, rfl⟩, hW₂, e2, q2, q3, q4, q5, q6⟩ := id hfe
    have e3 : s₂ = ({ (U.calling g mk a).setFrames s₂.frames with heap := s₂.heap, slotsUsed := s₂.slotsUsed } : State).setVm s₂.vm := by
      have : s₂ = ({ s₂ with vm := (U.calling g mk a).vm } : State).setVm s₂.vm := rfl
      rw [e2] at this
      exact this
    obtain ⟨c₂, i₂, len₂, hc₂, hd₂, hf₂⟩ := hend
    have hW' : U.WarmedH s₂.vm := hW₂
    have hcc : c₂ = c := by
      have h1 : s₂.code? g.method = U.code? g.method := by
        rw [State.code?_eq, State.code?_eq, hW'.alike.method?]
      exact Option.some.inj (hc₂.symm.trans (h1.trans h.code))
    subst hcc
    have hlen : len₂ = len := by rw [hdg] at hd₂; cases hd₂; rfl
    subst hlen
    have hs₂ : s₂ = (({ U with heap := s₂.heap, slotsUsed := s₂.slotsUsed } : State).setVm s₂.vm).setTop { g with pc := g.pc + len₂, stack := v.toList ++ g.stack } := by
      refine e3.trans ?_
      rw [hf₂, State.calling_eq h.top, State.setFrames_setFrames, State.setTop_of_frames _ hr', hr]
      rfl
    have hsame : U.sameButNew ({ U with heap := s₂.heap, slotsUsed := s₂.slotsUsed } : State) L mc ms := by
      refine ⟨?_, q2, q3, q4, q5, q6⟩
      obtain ⟨t, ht, -⟩ := State.frames_cons hr
      show ({ U with heap := s₂.heap, slotsUsed := s₂.slotsUsed } : State) = { U.setFrames U.frames with heap := s₂.heap, slotsUsed := s₂.slotsUsed }
      rw [State.setFrames_self ht]
    subst hg
    refine Or.inl ⟨v, ⟨(({ U with heap := s₂.heap, slotsUsed := s₂.slotsUsed } : State).setVm s₂.vm), Ls ++ L, c0 + mc, s0 + ms⟩,
      ⟨X.admits, X.cas, X.clock, X.frames, X.room, X.hears, X.method, X.code, (X.here.setHeapUsed s₂.heap s₂.slotsUsed).setVm hW'.alike, X.tail, State.WarmedH.trans X.warmed hW', X.limits, X.bytes, X.same.trans (hsame.setVm s.vm)⟩,
      ⟨g, mk, s₂, L, rfl, rfl, hqc, rfl, hL, rfl, rfl⟩, ?_⟩
    show Steps p.tables e below _ ((({ U with heap := s₂.heap, slotsUsed := s₂.slotsUsed } : State).setVm s₂.vm).setTop { g with pc := g.pc + len₂, stack := v.toList ++ g.stack })
    rw [← hs₂]
    exact hsteps
  · obtain ⟨e2, q2, q3, q4, q5, q6⟩ := id hsm
    have e3 : s₂ = ({ (U.calling g mk a).setFrames s₂.frames with heap := s₂.heap, slotsUsed := s₂.slotsUsed } : State).setVm s₂.vm := by
      have : s₂ = ({ s₂ with vm := (U.calling g mk a).vm } : State).setVm s₂.vm := rfl
      rw [e2] at this
      exact this
    have hf₂ : s₂.frames = .throwing q :: .java g :: U.frames.tail := hend
    have hW' : U.WarmedH s₂.vm := hW₂
    have hs₂ : s₂ = ((({ U with heap := s₂.heap, slotsUsed := s₂.slotsUsed } : State).setVm s₂.vm).setTop g).pushFrame (.throwing q) := by
      refine e3.trans ?_
      rw [hf₂, State.calling_eq h.top, State.setFrames_setFrames, State.pushFrame, State.frames_setTop _ hr', State.setTop_of_frames _ hr', State.setFrames_setFrames, hr]
      rfl
    have hsame : U.sameButNew ({ U with heap := s₂.heap, slotsUsed := s₂.slotsUsed } : State) L mc ms := by
      refine ⟨?_, q2, q3, q4, q5, q6⟩
      obtain ⟨t, ht, -⟩ := State.frames_cons hr
      show ({ U with heap := s₂.heap, slotsUsed := s₂.slotsUsed } : State) = { U.setFrames U.frames with heap := s₂.heap, slotsUsed := s₂.slotsUsed }
      rw [State.setFrames_self ht]
    subst hg
    refine Or.inr ⟨q, ⟨(({ U with heap := s₂.heap, slotsUsed := s₂.slotsUsed } : State).setVm s₂.vm), Ls ++ L, c0 + mc, s0 + ms⟩,
      ⟨X.admits, X.cas, X.clock, X.frames, X.room, X.hears, X.method, X.code, (X.here.setHeapUsed s₂.heap s₂.slotsUsed).setVm hW'.alike, X.tail, State.WarmedH.trans X.warmed hW', X.limits, X.bytes, X.same.trans (hsame.setVm s.vm)⟩,
      ⟨g, mk, s₂, L, E, ce, rfl, rfl, hx, hce, hcv, hcl, rfl, hL, rfl, rfl⟩, ?_⟩
    show Steps p.tables e below _ (((({ U with heap := s₂.heap, slotsUsed := s₂.slotsUsed } : State).setVm s₂.vm).setTop g).pushFrame (.throwing q))
    rw [← hs₂]
    exact hsteps
end
variable {p : Program} {l : Launch} {e : Env} {R : Room} {s : State} {m : MethodId} {args : Array Value} {below : List Frame} {meth : Method} {c : Code} {T : State} {H : Heap} {locs : List Loc} {cells slots : Nat}
theorem vx_callVX (X : Stand p l e R s m args below meth c T locs cells slots) (hexec : p.tables.exec = Jvm.exec) {own C : String} {index : Nat} {y : MethodName} {bytes : ByteArray} {maxL : Nat} {ret : Option FieldType} {hh : List (Nat × Nat × Nat × Nat)}
    (hown : s.vm.findClass own = some m.cls) (hlink : (Cond.methodLink own index y).before args s = true) (hinst : (Cond.instanceMethod y).before args s = true) (hsel : (Cond.selects C y y).before args s = true)
    (hcode : (Cond.codeWith y bytes maxL ret hh).before args s = true) (hy : y.cls ≠ "java/lang/invoke/MethodHandle" ∧ y.cls ≠ "java/lang/invoke/VarHandle")
    {W9 : Nat} {Pre : Pt → Array Value → Prop} {Post : Pt → Array Value → Option Value → Pt → Prop} {PostX : Pt → Array Value → Addr → Pt → Prop} (hK : vx_Back l R p e below s args y 3 W9 Pre Post PostX)
    {b : Addr} {cellB : Cell} (hcell : T.heap[b]? = some cellB) (hobj : cellB.vm.isStatics = false) (hcls : s.vm.findClass C = some cellB.cls)
    {g : JFrame} (hg : g.method = m) (hsize : g.locals.size = c.maxLocals) {argsL rest : List Value} (hlen : ∀ sig, parseMethodDescriptor y.desc = some sig → argsL.length = sig.parameters.length)
    (hstack : g.stack = argsL.reverse ++ .ref b :: rest) (hW : 2 * g.monitorRoom + (rest.map fun v => v.category).sum ≤ W9) (hdg : decode c.code g.pc = .ok (.invokevirtual index, 3))
    (hpre : ∀ vm₁, s.WarmedH vm₁ → Pre ⟨T.setVm vm₁, locs, cells, slots⟩ (Value.ref b :: argsL).toArray) :
    (∃ (v : Option Value) (vm₁ : Vm) (B : Pt), s.WarmedH vm₁ ∧ Stand p l e R s m args below meth c B.U B.locs B.cells B.slots ∧ Post ⟨T.setVm vm₁, locs, cells, slots⟩ (Value.ref b :: argsL).toArray v B ∧
      ∀ target, Steps p.tables e below (B.U.setTop { g with pc := g.pc + 3, stack := v.toList ++ rest }) target → Steps p.tables e below (T.setTop g) target) ∨
    (∃ (q : Addr) (vm₁ : Vm) (B : Pt), s.WarmedH vm₁ ∧ Stand p l e R s m args below meth c B.U B.locs B.cells B.slots ∧ PostX ⟨T.setVm vm₁, locs, cells, slots⟩ (Value.ref b :: argsL).toArray q B ∧
      Steps p.tables e below (T.setTop g) ((B.U.setTop { g with stack := rest }).pushFrame (.throwing q))) := by
  obtain ⟨mk, methM, hnamed, hmethM, hstM, habM⟩ := Cond.instanceMethod_spec hinst
  obtain ⟨m8, methM', cM, hn8, hmethM', -, -, -, -, -, -, hsigM⟩ := Cond.codeWith_spec hcode
  cases Option.some.inj (hn8.symm.trans hnamed)
  cases hmethM.symm.trans hmethM'
  obtain ⟨c2, r2, m2, q1, q2, q3, q4, kP, hkP, hkPi⟩ := Cond.selects_spec hsel
  cases hcls.symm.trans q1
  cases (State.methodFound?_of_named hnamed hy).symm.trans q2
  cases hnamed.symm.trans q3
  have hselP : selectMethod e.platform s.vm cellB.cls mk = .method mk := by rw [Launch.admits_selectMethod X.admits]; exact q4
  obtain ⟨vm₁, X₁, hstep₁⟩ := X.invokevirtual hexec hown hlink hnamed hmethM hstM hkP hkPi hy (a := b) (cell := cellB) hcell
    (fun z h => by rw [h] at hobj; cases hobj) hselP hmethM habM hkP hkPi (g := g) hg (argsL := argsL) (rest := rest) (hlen _ hsigM) hstack hdg
  rcases hK m meth c ⟨T.setVm vm₁, locs, cells, slots⟩ { g with stack := rest } (.invokevirtual index) mk (Value.ref b :: argsL).toArray X₁ hg hsize hdg hW (X₁.named hnamed) (hpre vm₁ X₁.warmed) with ⟨v, B, X', hpost, hsteps⟩ | ⟨q, B, X', hpost, hsteps⟩
  · exact Or.inl ⟨v, vm₁, B, X₁.warmed, X', hpost, fun target h => hstep₁ _ fun acts => by rw [doInvoke_state]; exact hsteps.trans h⟩
  · exact Or.inr ⟨q, vm₁, B, X₁.warmed, X', hpost, hstep₁ _ fun acts => by rw [doInvoke_state]; exact hsteps⟩
theorem vx_callSX (X : Stand p l e R s m args below meth c T locs cells slots) (hexec : p.tables.exec = Jvm.exec) {own : String} {index : Nat} {y : MethodName} {bytes : ByteArray} {maxL : Nat} {ret : Option FieldType} {hh : List (Nat × Nat × Nat × Nat)}
    (hown : s.vm.findClass own = some m.cls) (hlink : (Cond.methodLink own index y).before args s = true) (hstat : (Cond.static y).before args s = true) (hinit : (Cond.initialized y.cls).before args s = true)
    (hcode : (Cond.codeWith y bytes maxL ret hh).before args s = true) (hy : y.cls ≠ "java/lang/invoke/MethodHandle" ∧ y.cls ≠ "java/lang/invoke/VarHandle")
    {W9 : Nat} {Pre : Pt → Array Value → Prop} {Post : Pt → Array Value → Option Value → Pt → Prop} {PostX : Pt → Array Value → Addr → Pt → Prop} (hK : vx_Back l R p e below s args y 3 W9 Pre Post PostX)
    {g : JFrame} (hg : g.method = m) (hsize : g.locals.size = c.maxLocals) {argsL rest : List Value} (hlen : ∀ sig, parseMethodDescriptor y.desc = some sig → argsL.length = sig.parameters.length)
    (hstack : g.stack = argsL.reverse ++ rest) (hW : 2 * g.monitorRoom + (rest.map fun v => v.category).sum ≤ W9) (hdg : decode c.code g.pc = .ok (.invokestatic index, 3))
    (hpre : ∀ vm₁, s.WarmedH vm₁ → Pre ⟨T.setVm vm₁, locs, cells, slots⟩ argsL.toArray) :
    (∃ (v : Option Value) (vm₁ : Vm) (B : Pt), s.WarmedH vm₁ ∧ Stand p l e R s m args below meth c B.U B.locs B.cells B.slots ∧ Post ⟨T.setVm vm₁, locs, cells, slots⟩ argsL.toArray v B ∧
      ∀ target, Steps p.tables e below (B.U.setTop { g with pc := g.pc + 3, stack := v.toList ++ rest }) target → Steps p.tables e below (T.setTop g) target) ∨
    (∃ (q : Addr) (vm₁ : Vm) (B : Pt), s.WarmedH vm₁ ∧ Stand p l e R s m args below meth c B.U B.locs B.cells B.slots ∧ PostX ⟨T.setVm vm₁, locs, cells, slots⟩ argsL.toArray q B ∧
      Steps p.tables e below (T.setTop g) ((B.U.setTop { g with stack := rest }).pushFrame (.throwing q))) := by
  obtain ⟨mk, methM, cM, hnamed, hmethM, -, -, -, -, -, -, hsigM⟩ := Cond.codeWith_spec hcode
  have hstatic : methM.isStatic = true := Cond.static_spec hnamed hmethM hstat
  obtain ⟨kP, hkP, -⟩ := className_of_methodNamed hnamed
  have hinitP : kP.init = .initialized := Cond.initialized_spec (findClass_of_methodNamed hnamed) hkP hinit
  obtain ⟨vm₁, X₁, hstep₁⟩ := X.invokestatic hexec hown hlink hnamed hmethM hstatic hkP hinitP hy (g := g) hg (argsL := argsL) (rest := rest) (hlen _ hsigM) hstack hdg
  rcases hK m meth c ⟨T.setVm vm₁, locs, cells, slots⟩ { g with stack := rest } (.invokestatic index) mk argsL.toArray X₁ hg hsize hdg hW (X₁.named hnamed) (hpre vm₁ X₁.warmed) with ⟨v, B, X', hpost, hsteps⟩ | ⟨q, B, X', hpost, hsteps⟩
  · exact Or.inl ⟨v, vm₁, B, X₁.warmed, X', hpost, fun target h => hstep₁ _ fun acts => by rw [doInvoke_state]; exact hsteps.trans h⟩
  · exact Or.inr ⟨q, vm₁, B, X₁.warmed, X', hpost, hstep₁ _ fun acts => by rw [doInvoke_state]; exact hsteps⟩
theorem vx_callVW (X : Stand p l e R s m args below meth c T locs cells slots) (hexec : p.tables.exec = Jvm.exec) {own C : String} {index : Nat} {y : MethodName} {bytes : ByteArray} {maxL : Nat} {ret : Option FieldType} {hh : List (Nat × Nat × Nat × Nat)}
    (hown : s.vm.findClass own = some m.cls) (hlink : (Cond.methodLink own index y).before args s = true) (hinst : (Cond.instanceMethod y).before args s = true) (hsel : (Cond.selects C y y).before args s = true)
    (hcode : (Cond.codeWith y bytes maxL ret hh).before args s = true) (hy : y.cls ≠ "java/lang/invoke/MethodHandle" ∧ y.cls ≠ "java/lang/invoke/VarHandle")
    {W9 : Nat} {Pre : Pt → Array Value → Prop} {Post : Pt → Array Value → Option Value → Pt → Prop} (hK : Back l R p e below s args y 3 W9 Pre Post)
    {b : Addr} {cellB : Cell} (hcell : T.heap[b]? = some cellB) (hobj : cellB.vm.isStatics = false) (hcls : s.vm.findClass C = some cellB.cls)
    {g : JFrame} (hg : g.method = m) (hsize : g.locals.size = c.maxLocals) {argsL rest : List Value} (hlen : ∀ sig, parseMethodDescriptor y.desc = some sig → argsL.length = sig.parameters.length)
    (hstack : g.stack = argsL.reverse ++ .ref b :: rest) (hW : 2 * g.monitorRoom + (rest.map fun v => v.category).sum ≤ W9) (hdg : decode c.code g.pc = .ok (.invokevirtual index, 3))
    (hpre : ∀ vm₁, s.WarmedH vm₁ → Pre ⟨T.setVm vm₁, locs, cells, slots⟩ (Value.ref b :: argsL).toArray) :
    ∃ (v : Option Value) (vm₁ : Vm) (B : Pt), s.WarmedH vm₁ ∧ Stand p l e R s m args below meth c B.U B.locs B.cells B.slots ∧ Post ⟨T.setVm vm₁, locs, cells, slots⟩ (Value.ref b :: argsL).toArray v B ∧
      ∀ target, Steps p.tables e below (B.U.setTop { g with pc := g.pc + 3, stack := v.toList ++ rest }) target → Steps p.tables e below (T.setTop g) target := by
  obtain ⟨mk, methM, hnamed, hmethM, hstM, habM⟩ := Cond.instanceMethod_spec hinst
  obtain ⟨m8, methM', cM, hn8, hmethM', -, -, -, -, -, -, hsigM⟩ := Cond.codeWith_spec hcode
  cases Option.some.inj (hn8.symm.trans hnamed)
  cases hmethM.symm.trans hmethM'
  obtain ⟨c2, r2, m2, q1, q2, q3, q4, kP, hkP, hkPi⟩ := Cond.selects_spec hsel
  cases hcls.symm.trans q1
  cases (State.methodFound?_of_named hnamed hy).symm.trans q2
  cases hnamed.symm.trans q3
  have hselP : selectMethod e.platform s.vm cellB.cls mk = .method mk := by rw [Launch.admits_selectMethod X.admits]; exact q4
  obtain ⟨vm₁, X₁, hstep₁⟩ := X.invokevirtual hexec hown hlink hnamed hmethM hstM hkP hkPi hy (a := b) (cell := cellB) hcell
    (fun z h => by rw [h] at hobj; cases hobj) hselP hmethM habM hkP hkPi (g := g) hg (argsL := argsL) (rest := rest) (hlen _ hsigM) hstack hdg
  obtain ⟨v, B, X', hpost, hsteps⟩ := hK m meth c ⟨T.setVm vm₁, locs, cells, slots⟩ { g with stack := rest } (.invokevirtual index) mk (Value.ref b :: argsL).toArray X₁ hg hsize hdg hW (X₁.named hnamed) (hpre vm₁ X₁.warmed)
  exact ⟨v, vm₁, B, X₁.warmed, X', hpost, fun target h => hstep₁ _ fun acts => by rw [doInvoke_state]; exact hsteps.trans h⟩
abbrev vx_CVW (R : Room) (s : State) (args : Array Value) (own C : String) (index : Nat) (y : MethodName) (bytes : ByteArray) (maxL : Nat) (ret : Option FieldType) (hh : List (Nat × Nat × Nat × Nat)) (ws : List Cond) (rm : Room) (mc ms n : Nat) : Prop :=
  (rm.cells = mc ∧ rm.slots = ms ∧ rm.frames + 1 ≤ R.frames ∧ 8 + (maxL + 11) + rm.locals ≤ R.locals ∧ (∀ w ∈ ws, ∀ (a' : Array Value) (U : State), s.WarmedH U.vm → w.before a' U = true) ∧ Cond.codeWith y bytes maxL ret hh ∈ ws) ∧
  (Cond.codeWith y bytes maxL ret hh).before args s = true ∧ (Cond.initialized y.cls).before args s = true ∧ (y.cls ≠ "java/lang/invoke/MethodHandle" ∧ y.cls ≠ "java/lang/invoke/VarHandle") ∧
  (∀ sig, parseMethodDescriptor y.desc = some sig → n = sig.parameters.length) ∧ (Cond.methodLink own index y).before args s = true ∧ (Cond.instanceMethod y).before args s = true ∧ (Cond.selects C y y).before args s = true
theorem vx_cwVW {own C : String} {index maxL mc ms : Nat} {y : MethodName} {bytes : ByteArray} {ret : Option FieldType} {hh : List (Nat × Nat × Nat × Nat)} {Ts ws ws' : List Cond} {rm : Room} (n : Nat) (ht : ∀ w ∈ Ts, w.before args s = true) (hT : GoodIn Ts (wsV own index C y ws)) (hw : ws = Cond.codeWith y bytes maxL ret hh :: ws') (hrc : rm.cells = mc) (hrs : rm.slots = ms)
    (hd : y.cls = C ∧ y.cls ≠ "java/lang/invoke/MethodHandle" ∧ y.cls ≠ "java/lang/invoke/VarHandle" ∧ (parseMethodDescriptor y.desc).map (fun d => d.parameters.length) = some n) (hR : rm.frames + 1 ≤ R.frames ∧ 8 + (maxL + 11) + rm.locals ≤ R.locals) :
    vx_CVW R s args own C index y bytes maxL ret hh ws rm mc ms n := by
  obtain ⟨hC, hd⟩ := hd
  subst hC
  have ok : ∀ w ∈ wsV own index y.cls y ws, w.before args s = true := fun w h => ht w (hT w h).1
  have hG : GoodIn Ts ws := fun w h => hT w (by unfold wsV; exact List.mem_append_right _ h)
  have hc : Cond.codeWith y bytes maxL ret hh ∈ ws := by rw [hw]; exact List.mem_cons_self
  refine ⟨⟨hrc, hrs, hR.1, hR.2, pay_in ht hG, hc⟩, ht _ (hG _ hc).1, ok _ (by simp [wsV]), ⟨hd.1, hd.2.1⟩, fun sig h => ?_, ok _ (by simp [wsV]), ok _ (by simp [wsV]), ok _ (by simp [wsV])⟩
  have h2 := hd.2.2
  rw [h] at h2
  exact (Option.some.inj h2).symm
theorem vx_runVW {y : MethodName} {bytes cc : ByteArray} {maxL nL mc ms n index : Nat} {ret : Option FieldType} {hh : List (Nat × Nat × Nat × Nat)} {ws : List Cond} {rm : Room} {Pc : Array Value → State → Prop} {Qc : Array Value → State → Outcome → State → Prop} {free : Addr → Prop} {Ts : List Cond} {own C : String} {b : Addr} {As rest : List Value} {g : JFrame}
    (S : CallFix p m c cc nL s args Ts own) (hM : Met l y ws rm Pc Qc mc ms free) (cw : vx_CVW R s args own C index y bytes maxL ret hh ws rm mc ms n) (hp : PreV s H C b Pc As)
    (hg : g.method = m) (hn : As.length = n) (hsize : g.locals.size = nL) (hstack : g.stack = As.reverse ++ .ref b :: rest) (hW : 2 * g.monitorRoom + (rest.map fun v => v.category).sum ≤ 8) (hdg : decode cc g.pc = .ok (.invokevirtual index, 3)) (hf : cells + mc ≤ R.cells ∧ slots + ms ≤ R.slots) :
    va_Run p l e R s m args below meth c H locs cells slots mc ms g rest (Qc (Value.ref b :: As).toArray) free := by
  obtain ⟨⟨hrc, hrs, hfr, hlo, hws, hcw⟩, hcode, hini, hy, hlen, hl, hin, hse⟩ := cw
  have hK : Back l R p e below s args y 3 8 (PreOf R mc ms Pc) (PostOf Qc mc ms free) := va_backW (hh := hh) (bytes := bytes) (maxL := maxL) (ret := ret) hM hp.1 hrc hrs hfr hlo hws hcw (fun a' U hW => word_at hW (Or.inl (by first | rfl | simp [Cond.onTables, Cond.keeps, Cond.steady])) hini)
  obtain ⟨hx, hb, hml, ho, -⟩ := S
  obtain ⟨-, ⟨cellB, hcB, hoB, hclB⟩, hPc⟩ := hp
  intro T hT X
  obtain ⟨v, vm₁, ⟨U', l2, c2, s2⟩, hW₁, X', ⟨g', mk, t, L, e1, e2, hq, h1, hL, h2, h3⟩, st⟩ := vx_callVW X hx (C := C) (hh := hh) (bytes := bytes) (maxL := maxL) (ret := ret) ho hl hin hse hcode hy hK (by rw [hT]; exact hcB) hoB hclB hg (hsize.trans hml.symm) (argsL := As) (rest := rest) (fun sig h => hn.trans (hlen sig h)) hstack hW (by rw [hb]; exact hdg)
    (fun vm₁ hW₁ => ⟨hf.1, hf.2, hPc (T.setVm vm₁) hT hW₁⟩)
  dsimp only [Pt.U, Pt.locs, Pt.cells, Pt.slots] at X' e1 e2 h1 h2 h3 st
  subst h1; subst h2; subst h3
  exact ⟨v, (T.setVm vm₁).calling g' mk (Value.ref b :: As).toArray, t, U', L, hT, X', hL, e1, e2, hq, st⟩
section
variable {y : MethodName} {bytes cc : ByteArray} {maxL nL mc ms n index : Nat} {ret : Option FieldType} {ws : List Cond} {rm : Room} {Pc : Array Value → State → Prop} {Qc : Array Value → State → Outcome → State → Prop} {XC : String → State → State → Prop} {free : Addr → Prop} {Ts : List Cond} {own C : String} {b : Addr} {As rest : List Value} {g : JFrame}
theorem vx_runVX {hh : List (Nat × Nat × Nat × Nat)} (S : CallFix p m c cc nL s args Ts own) (hM : vx_Met l y ws rm Pc Qc XC mc ms free) (cw : vx_CVW R s args own C index y bytes maxL ret hh ws rm mc ms n) (hp : PreV s H C b Pc As)
    (hg : g.method = m) (hn : As.length = n) (hsize : g.locals.size = nL) (hstack : g.stack = As.reverse ++ .ref b :: rest) (hW : 2 * g.monitorRoom + (rest.map fun v => v.category).sum ≤ 8) (hdg : decode cc g.pc = .ok (.invokevirtual index, 3)) (hf : cells + mc ≤ R.cells ∧ slots + ms ≤ R.slots) :
    vx_Run p l e R s m args below meth c H locs cells slots mc ms g rest (Qc (Value.ref b :: As).toArray) XC free := by
  obtain ⟨⟨hrc, hrs, hfr, hlo, hws, hcw⟩, hcode, hini, hy, hlen, hl, hin, hse⟩ := cw
  have hK : vx_Back l R p e below s args y 3 8 (PreOf R mc ms Pc) (PostOf Qc mc ms free) (vx_Post XC mc ms free) := vx_backW (hh := hh) (bytes := bytes) (maxL := maxL) (ret := ret) hM hp.1 hrc hrs hfr hlo hws hcw (fun a' U hW => word_at hW (Or.inl (by first | rfl | simp [Cond.onTables, Cond.keeps, Cond.steady])) hini)
  obtain ⟨hx, hb, hml, ho, -⟩ := S
  obtain ⟨-, ⟨cellB, hcB, hoB, hclB⟩, hPc⟩ := hp
  intro T hT X
  rcases vx_callVX X hx (C := C) (hh := hh) (bytes := bytes) (maxL := maxL) (ret := ret) ho hl hin hse hcode hy hK (by rw [hT]; exact hcB) hoB hclB hg (hsize.trans hml.symm) (argsL := As) (rest := rest) (fun sig h => hn.trans (hlen sig h)) hstack hW (by rw [hb]; exact hdg)
    (fun vm₁ hW₁ => ⟨hf.1, hf.2, hPc (T.setVm vm₁) hT hW₁⟩) with ⟨v, vm₁, ⟨U', l2, c2, s2⟩, hW₁, X', ⟨g', mk, t, L, e1, e2, hq, h1, hL, h2, h3⟩, st⟩ | ⟨q, vm₁, ⟨U', l2, c2, s2⟩, hW₁, X', ⟨g', mk, t, L, E, ce, e1, e2, hq, hce, hcv, hcl, h1, hL, h2, h3⟩, st⟩
  · dsimp only [Pt.U, Pt.locs, Pt.cells, Pt.slots] at X' e1 e2 h1 h2 h3 st
    subst h1; subst h2; subst h3
    exact Or.inl ⟨v, (T.setVm vm₁).calling g' mk (Value.ref b :: As).toArray, t, U', L, hT, X', hL, e1, e2, hq, st⟩
  · dsimp only [Pt.U, Pt.locs, Pt.cells, Pt.slots] at X' e1 e2 h1 h2 h3 st hcl
    subst h1; subst h2; subst h3
    exact Or.inr ⟨q, (T.setVm vm₁).calling g' mk (Value.ref b :: As).toArray, t, U', L, E, ce, hT, X', hL, e1, e2, hq, hce, hcv, vx_cls hW₁ hcl, st⟩
theorem vx_runSX {hh : List (Nat × Nat × Nat × Nat)} (S : CallFix p m c cc nL s args Ts own) (hM : vx_Met l y ws rm Pc Qc XC mc ms free) (cw : vx_CSW R s args own index y bytes maxL ret hh ws rm mc ms n) (hp : PreS s H Pc As)
    (hg : g.method = m) (hn : As.length = n) (hsize : g.locals.size = nL) (hstack : g.stack = As.reverse ++ rest) (hW : 2 * g.monitorRoom + (rest.map fun v => v.category).sum ≤ 8) (hdg : decode cc g.pc = .ok (.invokestatic index, 3)) (hf : cells + mc ≤ R.cells ∧ slots + ms ≤ R.slots) :
    vx_Run p l e R s m args below meth c H locs cells slots mc ms g rest (Qc As.toArray) XC free := by
  obtain ⟨⟨hrc, hrs, hfr, hlo, hws, hcw⟩, hcode, hini, hy, hlen, hl, hstt⟩ := cw
  have hK : vx_Back l R p e below s args y 3 8 (PreOf R mc ms Pc) (PostOf Qc mc ms free) (vx_Post XC mc ms free) := vx_backW (hh := hh) (bytes := bytes) (maxL := maxL) (ret := ret) hM hp.1 hrc hrs hfr hlo hws hcw (fun a' U hW => word_at hW (Or.inl (by first | rfl | simp [Cond.onTables, Cond.keeps, Cond.steady])) hini)
  obtain ⟨hx, hb, hml, ho, -⟩ := S
  intro T hT X
  rcases vx_callSX X hx (hh := hh) (bytes := bytes) (maxL := maxL) (ret := ret) ho hl hstt hini hcode hy hK hg (hsize.trans hml.symm) (argsL := As) (rest := rest) (fun sig h => hn.trans (hlen sig h)) hstack hW (by rw [hb]; exact hdg)
    (fun vm₁ hW₁ => ⟨hf.1, hf.2, hp.2 (T.setVm vm₁) hT hW₁⟩) with ⟨v, vm₁, ⟨U', l2, c2, s2⟩, hW₁, X', ⟨g', mk, t, L, e1, e2, hq, h1, hL, h2, h3⟩, st⟩ | ⟨q, vm₁, ⟨U', l2, c2, s2⟩, hW₁, X', ⟨g', mk, t, L, E, ce, e1, e2, hq, hce, hcv, hcl, h1, hL, h2, h3⟩, st⟩
  · dsimp only [Pt.U, Pt.locs, Pt.cells, Pt.slots] at X' e1 e2 h1 h2 h3 st
    subst h1; subst h2; subst h3
    exact Or.inl ⟨v, (T.setVm vm₁).calling g' mk As.toArray, t, U', L, hT, X', hL, e1, e2, hq, st⟩
  · dsimp only [Pt.U, Pt.locs, Pt.cells, Pt.slots] at X' e1 e2 h1 h2 h3 st hcl
    subst h1; subst h2; subst h3
    exact Or.inr ⟨q, (T.setVm vm₁).calling g' mk As.toArray, t, U', L, E, ce, hT, X', hL, e1, e2, hq, hce, hcv, vx_cls hW₁ hcl, st⟩
end
end VXH
theorem vx_ofWH {l : Launch} {y : MethodName} {ws ws' : List Cond} {rm : Room} {Pc : Array Value → State → Prop} {Qc : Array Value → State → Outcome → State → Prop} {XC : String → State → State → Prop} {mc ms : Nat} {free : Addr → Prop} {cc : ByteArray} {maxL : Nat} {ret : Option FieldType} {hh : List (Nat × Nat × Nat × Nat)}
    (hy : plainName y.cls = true) (hw : ws = Cond.codeWith y cc maxL ret hh :: ws')
    (body : ∀ p e s m args below meth c s₁, BodyLoose p l y (headSpec ws rm) cc maxL ret e s m args below meth c s₁ → c.maxLocals = maxL → Pc args s →
      W p l e (headSpec ws rm).room s m args below meth c s.heap [] 0 0 (vx_MQ below Qc XC args s mc ms free) (entryFrame m args maxL)) : vx_Met l y ws rm Pc Qc XC mc ms free := by
  refine MetFree.of_bodyS (code := cc) (maxLocals := maxL) (ret := ret) hy ?_ ?_
  · intro args s m h hn
    obtain ⟨m9, meth, c, hn9, h1, h2, h3, h4, -, h5, h6, -⟩ := Cond.codeWith_spec (atoms_spec (ws := ws) h _ (by rw [hw]; exact List.mem_cons_self))
    cases hn.symm.trans hn9
    exact ⟨meth, c, h1, h2, h3, h4, h5, h6⟩
  · intro p e s m args below meth c s₁ B hml hP _
    have hh0 : s₁.heap = s.heap := by rw [B.state]; rfl
    obtain ⟨t, a1, o, b1, b2, b3⟩ := body p e s m args below meth c s₁ B hml hP s₁ hh0 (Stand.of_body B)
    exact ⟨t, o, a1, b1, b2, b3⟩
/-! ===== END ===== -/
end
section
/-! ===== BEGIN printed: names, fields, word lists, decode rows ===== -/
def RX0 : String := "OutageBook$Causes"
def TX0 : u_T := fun k => match k with
  | 0 => ("OutageBook$Causes", "weights", "[[I", true)
  | 1 => ("OutageBook$Causes", "standing", "I", false)
  | _ => ("OutageBook$Causes", "count", "I", false)
def tyX0 : Nat → FieldType := fun k => match k with
  | 0 => .array (.array .int)
  | 1 => .int
  | _ => .int
abbrev wsX00 : List Cond := u_ws RX0 TX0 3
theorem nmX0 : ∀ a, a < 3 → ∀ b, b < 3 → a ≠ b → (TX0 a).2.1 ≠ (TX0 b).2.1 := by decide +kernel
theorem tyX0_ok : ∀ k, k < 3 → parseFieldDescriptor (TX0 k).2.2.1 = some (tyX0 k) := by decide +kernel
abbrev cX0_init : ByteArray := prog_2_method_1_code
def yX0_init : MethodName := ⟨RX0, "<init>", "()V"⟩
abbrev cX0_size : ByteArray := prog_2_method_2_code
def yX0_size : MethodName := ⟨RX0, "size", "()I"⟩
abbrev cX0_holds : ByteArray := prog_2_method_3_code
def yX0_holds : MethodName := ⟨RX0, "holds", "(I)Z"⟩
abbrev cX0_add : ByteArray := prog_2_method_4_code
def yX0_add : MethodName := ⟨RX0, "add", "()I"⟩
abbrev cX0_replaceWeight : ByteArray := prog_2_method_5_code
def yX0_replaceWeight : MethodName := ⟨RX0, "replaceWeight", "(III)I"⟩
abbrev cX0_replaceStanding : ByteArray := prog_2_method_6_code
def yX0_replaceStanding : MethodName := ⟨RX0, "replaceStanding", "(IZ)Z"⟩
abbrev cX0_isBecauseOf : ByteArray := prog_2_method_7_code
def yX0_isBecauseOf : MethodName := ⟨RX0, "isBecauseOf", "(II)Z"⟩
abbrev cX0_rootsUnder : ByteArray := prog_2_method_8_code
def yX0_rootsUnder : MethodName := ⟨RX0, "rootsUnder", "(I)I"⟩
abbrev cX0_weightiestReason : ByteArray := prog_2_method_9_code
def yX0_weightiestReason : MethodName := ⟨RX0, "weightiestReason", "(I)I"⟩
abbrev cX0_reach : ByteArray := prog_2_method_10_code
def yX0_reach : MethodName := ⟨RX0, "reach", "(II)I"⟩
abbrev cX0_reasonsOf : ByteArray := prog_2_method_11_code
def yX0_reasonsOf : MethodName := ⟨RX0, "reasonsOf", "(I)I"⟩
abbrev cX0_weight : ByteArray := prog_2_method_12_code
def yX0_weight : MethodName := ⟨RX0, "weight", "(II)I"⟩
def RX1 : String := "OutageBook$Log"
def TX1 : u_T := fun k => match k with
  | 0 => ("OutageBook$Log", "clocks", "[I", true)
  | 1 => ("OutageBook$Log", "readings", "[I", true)
  | 2 => ("OutageBook$Log", "services", "[I", true)
  | 3 => ("OutageBook$Log", "arePublic", "[Z", true)
  | 4 => ("OutageBook$Log", "balances", "[I", true)
  | 5 => ("OutageBook$Log", "before", "[I", true)
  | 6 => ("OutageBook$Log", "order", "[I", true)
  | 7 => ("OutageBook$Log", "beginnings", "[J", true)
  | _ => ("OutageBook$Log", "count", "I", false)
def tyX1 : Nat → FieldType := fun k => match k with
  | 0 => .array .int
  | 1 => .array .int
  | 2 => .array .int
  | 3 => .array .boolean
  | 4 => .array .int
  | 5 => .array .int
  | 6 => .array .int
  | 7 => .array .long
  | _ => .int
abbrev wsX10 : List Cond := u_ws RX1 TX1 9
theorem nmX1 : ∀ a, a < 9 → ∀ b, b < 9 → a ≠ b → (TX1 a).2.1 ≠ (TX1 b).2.1 := by decide +kernel
theorem tyX1_ok : ∀ k, k < 9 → parseFieldDescriptor (TX1 k).2.2.1 = some (tyX1 k) := by decide +kernel
abbrev cX1_init : ByteArray := prog_3_method_1_code
def yX1_init : MethodName := ⟨RX1, "<init>", "()V"⟩
abbrev cX1_size : ByteArray := prog_3_method_2_code
def yX1_size : MethodName := ⟨RX1, "size", "()I"⟩
abbrev cX1_holds : ByteArray := prog_3_method_3_code
def yX1_holds : MethodName := ⟨RX1, "holds", "(I)Z"⟩
abbrev cX1_add : ByteArray := prog_3_method_4_code
def yX1_add : MethodName := ⟨RX1, "add", "(IIIZ)I"⟩
abbrev cX1_isBefore : ByteArray := prog_3_method_5_code
def yX1_isBefore : MethodName := ⟨RX1, "isBefore", "(II)Z"⟩
abbrev cX1_at : ByteArray := prog_3_method_6_code
def yX1_at : MethodName := ⟨RX1, "at", "(I)I"⟩
abbrev cX1_weigh : ByteArray := prog_3_method_7_code
def yX1_weigh : MethodName := ⟨RX1, "weigh", "(II)I"⟩
abbrev cX1_isDoubted : ByteArray := prog_3_method_8_code
def yX1_isDoubted : MethodName := ⟨RX1, "isDoubted", "(I)Z"⟩
abbrev cX1_earliestTime : ByteArray := prog_3_method_9_code
def yX1_earliestTime : MethodName := ⟨RX1, "earliestTime", "(ILOutageBook$Offsets;)I"⟩
abbrev cX1_firstLine : ByteArray := prog_3_method_10_code
def yX1_firstLine : MethodName := ⟨RX1, "firstLine", "(I)I"⟩
abbrev cX1_storySize : ByteArray := prog_3_method_11_code
def yX1_storySize : MethodName := ⟨RX1, "storySize", "()I"⟩
abbrev cX1_storyLine : ByteArray := prog_3_method_12_code
def yX1_storyLine : MethodName := ⟨RX1, "storyLine", "(I)I"⟩
abbrev cX1_isInStory : ByteArray := prog_3_method_13_code
def yX1_isInStory : MethodName := ⟨RX1, "isInStory", "(I)Z"⟩
abbrev cX1_arrange : ByteArray := prog_3_method_14_code
def yX1_arrange : MethodName := ⟨RX1, "arrange", "(LOutageBook$Offsets;)V"⟩
abbrev cX1_allBefore : ByteArray := prog_3_method_15_code
def yX1_allBefore : MethodName := ⟨RX1, "allBefore", "(ILOutageBook$Offsets;)I"⟩
abbrev cX1_isSurelyEarlier : ByteArray := prog_3_method_16_code
def yX1_isSurelyEarlier : MethodName := ⟨RX1, "isSurelyEarlier", "(IILOutageBook$Offsets;)Z"⟩
abbrev cX1_nextLine : ByteArray := prog_3_method_17_code
def yX1_nextLine : MethodName := ⟨RX1, "nextLine", "(I)I"⟩
abbrev cX1_countOrders : ByteArray := prog_3_method_18_code
def yX1_countOrders : MethodName := ⟨RX1, "countOrders", "()J"⟩
abbrev cX1_countBeginnings : ByteArray := prog_3_method_19_code
def yX1_countBeginnings : MethodName := ⟨RX1, "countBeginnings", "(I)J"⟩
def RX2 : String := "OutageBook$Measures"
def TX2 : u_T := fun k => match k with
  | 0 => ("OutageBook$Measures", "services", "[I", true)
  | 1 => ("OutageBook$Measures", "starts", "[I", true)
  | 2 => ("OutageBook$Measures", "ends", "[I", true)
  | 3 => ("OutageBook$Measures", "percents", "[I", true)
  | _ => ("OutageBook$Measures", "count", "I", false)
def tyX2 : Nat → FieldType := fun k => match k with
  | 0 => .array .int
  | 1 => .array .int
  | 2 => .array .int
  | 3 => .array .int
  | _ => .int
abbrev wsX20 : List Cond := u_ws RX2 TX2 5
theorem nmX2 : ∀ a, a < 5 → ∀ b, b < 5 → a ≠ b → (TX2 a).2.1 ≠ (TX2 b).2.1 := by decide +kernel
theorem tyX2_ok : ∀ k, k < 5 → parseFieldDescriptor (TX2 k).2.2.1 = some (tyX2 k) := by decide +kernel
abbrev cX2_init : ByteArray := prog_4_method_1_code
def yX2_init : MethodName := ⟨RX2, "<init>", "()V"⟩
abbrev cX2_size : ByteArray := prog_4_method_2_code
def yX2_size : MethodName := ⟨RX2, "size", "()I"⟩
abbrev cX2_add : ByteArray := prog_4_method_3_code
def yX2_add : MethodName := ⟨RX2, "add", "(IIII)I"⟩
abbrev cX2_sumOfWorst : ByteArray := prog_4_method_4_code
def yX2_sumOfWorst : MethodName := ⟨RX2, "sumOfWorst", "(I)I"⟩
abbrev cX2_failedMinutes : ByteArray := prog_4_method_5_code
def yX2_failedMinutes : MethodName := ⟨RX2, "failedMinutes", "()I"⟩
abbrev cX2_nextChange : ByteArray := prog_4_method_6_code
def yX2_nextChange : MethodName := ⟨RX2, "nextChange", "(I)I"⟩
abbrev cX2_worst : ByteArray := prog_4_method_7_code
def yX2_worst : MethodName := ⟨RX2, "worst", "(II)I"⟩
def RX3 : String := "OutageBook$Offsets"
def TX3 : u_T := fun k => match k with
  | _ => ("OutageBook$Offsets", "differences", "[[I", true)
def tyX3 : Nat → FieldType := fun k => match k with
  | _ => .array (.array .int)
abbrev wsX30 : List Cond := u_ws RX3 TX3 1
theorem nmX3 : ∀ a, a < 1 → ∀ b, b < 1 → a ≠ b → (TX3 a).2.1 ≠ (TX3 b).2.1 := by decide +kernel
theorem tyX3_ok : ∀ k, k < 1 → parseFieldDescriptor (TX3 k).2.2.1 = some (tyX3 k) := by decide +kernel
abbrev cX3_init : ByteArray := prog_5_method_1_code
def yX3_init : MethodName := ⟨RX3, "<init>", "()V"⟩
abbrev cX3_most : ByteArray := prog_5_method_2_code
def yX3_most : MethodName := ⟨RX3, "most", "(II)I"⟩
abbrev cX3_allows : ByteArray := prog_5_method_3_code
def yX3_allows : MethodName := ⟨RX3, "allows", "(III)Z"⟩
abbrev cX3_bound : ByteArray := prog_5_method_4_code
def yX3_bound : MethodName := ⟨RX3, "bound", "(III)V"⟩
def RX4 : String := "OutageBook"
def TX4 : u_T := fun k => match k with
  | 0 => ("OutageBook", "offsets", "LOutageBook$Offsets;", true)
  | 1 => ("OutageBook", "log", "LOutageBook$Log;", true)
  | 2 => ("OutageBook", "measures", "LOutageBook$Measures;", true)
  | _ => ("OutageBook", "causes", "LOutageBook$Causes;", true)
def tyX4 : Nat → FieldType := fun k => match k with
  | 0 => .object "OutageBook$Offsets"
  | 1 => .object "OutageBook$Log"
  | 2 => .object "OutageBook$Measures"
  | _ => .object "OutageBook$Causes"
abbrev wsX40 : List Cond := u_ws RX4 TX4 4
theorem nmX4 : ∀ a, a < 4 → ∀ b, b < 4 → a ≠ b → (TX4 a).2.1 ≠ (TX4 b).2.1 := by decide +kernel
theorem tyX4_ok : ∀ k, k < 4 → parseFieldDescriptor (TX4 k).2.2.1 = some (tyX4 k) := by decide +kernel
abbrev cX4_init : ByteArray := prog_1_method_1_code
def yX4_init : MethodName := ⟨RX4, "<init>", "()V"⟩
abbrev cX4_mark : ByteArray := prog_1_method_2_code
def yX4_mark : MethodName := ⟨RX4, "mark", "(IIIII)V"⟩
abbrev cX4_greatest : ByteArray := prog_1_method_3_code
def yX4_greatest : MethodName := ⟨RX4, "greatest", "(II)I"⟩
abbrev cX4_write : ByteArray := prog_1_method_4_code
def yX4_write : MethodName := ⟨RX4, "write", "(IIIZ)I"⟩
abbrev cX4_lines : ByteArray := prog_1_method_5_code
def yX4_lines : MethodName := ⟨RX4, "lines", "()I"⟩
abbrev cX4_mustComeBefore : ByteArray := prog_1_method_6_code
def yX4_mustComeBefore : MethodName := ⟨RX4, "mustComeBefore", "(II)Z"⟩
abbrev cX4_lineAt : ByteArray := prog_1_method_7_code
def yX4_lineAt : MethodName := ⟨RX4, "lineAt", "(I)I"⟩
abbrev cX4_orders : ByteArray := prog_1_method_8_code
def yX4_orders : MethodName := ⟨RX4, "orders", "()J"⟩
abbrev cX4_argue : ByteArray := prog_1_method_9_code
def yX4_argue : MethodName := ⟨RX4, "argue", "(IIZ)I"⟩
abbrev cX4_isDoubtful : ByteArray := prog_1_method_10_code
def yX4_isDoubtful : MethodName := ⟨RX4, "isDoubtful", "(I)Z"⟩
abbrev cX4_story : ByteArray := prog_1_method_11_code
def yX4_story : MethodName := ⟨RX4, "story", "()I"⟩
abbrev cX4_storyAt : ByteArray := prog_1_method_12_code
def yX4_storyAt : MethodName := ⟨RX4, "storyAt", "(I)I"⟩
abbrev cX4_earliest : ByteArray := prog_1_method_13_code
def yX4_earliest : MethodName := ⟨RX4, "earliest", "(I)I"⟩
abbrev cX4_firstOf : ByteArray := prog_1_method_14_code
def yX4_firstOf : MethodName := ⟨RX4, "firstOf", "(I)I"⟩
abbrev cX4_measure : ByteArray := prog_1_method_15_code
def yX4_measure : MethodName := ⟨RX4, "measure", "(IIII)I"⟩
abbrev cX4_impact : ByteArray := prog_1_method_16_code
def yX4_impact : MethodName := ⟨RX4, "impact", "(I)I"⟩
abbrev cX4_minutes : ByteArray := prog_1_method_17_code
def yX4_minutes : MethodName := ⟨RX4, "minutes", "()I"⟩
abbrev cX4_addCause : ByteArray := prog_1_method_18_code
def yX4_addCause : MethodName := ⟨RX4, "addCause", "()I"⟩
abbrev cX4_argueReason : ByteArray := prog_1_method_19_code
def yX4_argueReason : MethodName := ⟨RX4, "argueReason", "(III)I"⟩
abbrev cX4_setStanding : ByteArray := prog_1_method_20_code
def yX4_setStanding : MethodName := ⟨RX4, "setStanding", "(IZ)Z"⟩
abbrev cX4_roots : ByteArray := prog_1_method_21_code
def yX4_roots : MethodName := ⟨RX4, "roots", "(I)I"⟩
abbrev cX4_mainReason : ByteArray := prog_1_method_22_code
def yX4_mainReason : MethodName := ⟨RX4, "mainReason", "(I)I"⟩
abbrev cX4_isWithin : ByteArray := prog_1_method_23_code
def yX4_isWithin : MethodName := ⟨RX4, "isWithin", "(III)Z"⟩
abbrev cX4_isClock : ByteArray := prog_1_method_24_code
def yX4_isClock : MethodName := ⟨RX4, "isClock", "(I)Z"⟩
abbrev cX4_isReading : ByteArray := prog_1_method_25_code
def yX4_isReading : MethodName := ⟨RX4, "isReading", "(I)Z"⟩
abbrev cX4_isService : ByteArray := prog_1_method_26_code
def yX4_isService : MethodName := ⟨RX4, "isService", "(I)Z"⟩
abbrev cX4_bit : ByteArray := prog_1_method_27_code
def yX4_bit : MethodName := ⟨RX4, "bit", "(I)I"⟩
abbrev cX4_hasBit : ByteArray := prog_1_method_28_code
def yX4_hasBit : MethodName := ⟨RX4, "hasBit", "(II)Z"⟩
def RX5 : String := "OutageBookModel"
def TX5 : u_T := fun k => match k with
  | 0 => ("OutageBookModel", "bounds", "[I", true)
  | 1 => ("OutageBookModel", "tried", "[I", true)
  | 2 => ("OutageBookModel", "lines", "I", false)
  | 3 => ("OutageBookModel", "clocks", "[I", true)
  | 4 => ("OutageBookModel", "readings", "[I", true)
  | 5 => ("OutageBookModel", "services", "[I", true)
  | 6 => ("OutageBookModel", "isPublic", "[Z", true)
  | 7 => ("OutageBookModel", "weightsFor", "[I", true)
  | 8 => ("OutageBookModel", "weightsAgainst", "[I", true)
  | 9 => ("OutageBookModel", "order", "[I", true)
  | 10 => ("OutageBookModel", "ahead", "[I", true)
  | 11 => ("OutageBookModel", "counts", "[J", true)
  | 12 => ("OutageBookModel", "measures", "I", false)
  | 13 => ("OutageBookModel", "measured", "[I", true)
  | 14 => ("OutageBookModel", "froms", "[I", true)
  | 15 => ("OutageBookModel", "tos", "[I", true)
  | 16 => ("OutageBookModel", "percents", "[I", true)
  | 17 => ("OutageBookModel", "causes", "I", false)
  | 18 => ("OutageBookModel", "stands", "[Z", true)
  | 19 => ("OutageBookModel", "weights", "[I", true)
  | _ => ("OutageBookModel", "thrown", "I", false)
def tyX5 : Nat → FieldType := fun k => match k with
  | 0 => .array .int
  | 1 => .array .int
  | 2 => .int
  | 3 => .array .int
  | 4 => .array .int
  | 5 => .array .int
  | 6 => .array .boolean
  | 7 => .array .int
  | 8 => .array .int
  | 9 => .array .int
  | 10 => .array .int
  | 11 => .array .long
  | 12 => .int
  | 13 => .array .int
  | 14 => .array .int
  | 15 => .array .int
  | 16 => .array .int
  | 17 => .int
  | 18 => .array .boolean
  | 19 => .array .int
  | _ => .int
abbrev wsX50 : List Cond := u_ws RX5 TX5 21
theorem nmX5 : ∀ a, a < 21 → ∀ b, b < 21 → a ≠ b → (TX5 a).2.1 ≠ (TX5 b).2.1 := by decide +kernel
theorem tyX5_ok : ∀ k, k < 21 → parseFieldDescriptor (TX5 k).2.2.1 = some (tyX5 k) := by decide +kernel
abbrev cX5_init : ByteArray := prog_7_method_1_code
def yX5_init : MethodName := ⟨RX5, "<init>", "()V"⟩
abbrev cX5_thrown : ByteArray := prog_7_method_2_code
def yX5_thrown : MethodName := ⟨RX5, "thrown", "()I"⟩
abbrev cX5_goes : ByteArray := prog_7_method_3_code
def yX5_goes : MethodName := ⟨RX5, "goes", "(I)Z"⟩
abbrev cX5_isIn : ByteArray := prog_7_method_4_code
def yX5_isIn : MethodName := ⟨RX5, "isIn", "(III)Z"⟩
abbrev cX5_isClock : ByteArray := prog_7_method_5_code
def yX5_isClock : MethodName := ⟨RX5, "isClock", "(I)Z"⟩
abbrev cX5_isService : ByteArray := prog_7_method_6_code
def yX5_isService : MethodName := ⟨RX5, "isService", "(I)Z"⟩
abbrev cX5_isTime : ByteArray := prog_7_method_7_code
def yX5_isTime : MethodName := ⟨RX5, "isTime", "(I)Z"⟩
abbrev cX5_binds : ByteArray := prog_7_method_8_code
def yX5_binds : MethodName := ⟨RX5, "binds", "(III)V"⟩
abbrev cX5_mark : ByteArray := prog_7_method_9_code
def yX5_mark : MethodName := ⟨RX5, "mark", "(IIIII)V"⟩
abbrev cX5_greatest : ByteArray := prog_7_method_10_code
def yX5_greatest : MethodName := ⟨RX5, "greatest", "(II)I"⟩
abbrev cX5_write : ByteArray := prog_7_method_11_code
def yX5_write : MethodName := ⟨RX5, "write", "(IIIZ)I"⟩
abbrev cX5_lines : ByteArray := prog_7_method_12_code
def yX5_lines : MethodName := ⟨RX5, "lines", "()I"⟩
abbrev cX5_isLine : ByteArray := prog_7_method_13_code
def yX5_isLine : MethodName := ⟨RX5, "isLine", "(I)Z"⟩
abbrev cX5_isBefore : ByteArray := prog_7_method_14_code
def yX5_isBefore : MethodName := ⟨RX5, "isBefore", "(II)Z"⟩
abbrev cX5_mustComeBefore : ByteArray := prog_7_method_15_code
def yX5_mustComeBefore : MethodName := ⟨RX5, "mustComeBefore", "(II)Z"⟩
abbrev cX5_laysOrder : ByteArray := prog_7_method_16_code
def yX5_laysOrder : MethodName := ⟨RX5, "laysOrder", "()V"⟩
abbrev cX5_lineAt : ByteArray := prog_7_method_17_code
def yX5_lineAt : MethodName := ⟨RX5, "lineAt", "(I)I"⟩
abbrev cX5_orders : ByteArray := prog_7_method_18_code
def yX5_orders : MethodName := ⟨RX5, "orders", "()J"⟩
abbrev cX5_argue : ByteArray := prog_7_method_19_code
def yX5_argue : MethodName := ⟨RX5, "argue", "(IIZ)I"⟩
abbrev cX5_isDoubted : ByteArray := prog_7_method_20_code
def yX5_isDoubted : MethodName := ⟨RX5, "isDoubted", "(I)Z"⟩
abbrev cX5_isDoubtful : ByteArray := prog_7_method_21_code
def yX5_isDoubtful : MethodName := ⟨RX5, "isDoubtful", "(I)Z"⟩
abbrev cX5_isOfStory : ByteArray := prog_7_method_22_code
def yX5_isOfStory : MethodName := ⟨RX5, "isOfStory", "(I)Z"⟩
abbrev cX5_storyLines : ByteArray := prog_7_method_23_code
def yX5_storyLines : MethodName := ⟨RX5, "storyLines", "()I"⟩
abbrev cX5_story : ByteArray := prog_7_method_24_code
def yX5_story : MethodName := ⟨RX5, "story", "()I"⟩
abbrev cX5_storyAt : ByteArray := prog_7_method_25_code
def yX5_storyAt : MethodName := ⟨RX5, "storyAt", "(I)I"⟩
abbrev cX5_earliest : ByteArray := prog_7_method_26_code
def yX5_earliest : MethodName := ⟨RX5, "earliest", "(I)I"⟩
abbrev cX5_firstOf : ByteArray := prog_7_method_27_code
def yX5_firstOf : MethodName := ⟨RX5, "firstOf", "(I)I"⟩
abbrev cX5_measure : ByteArray := prog_7_method_28_code
def yX5_measure : MethodName := ⟨RX5, "measure", "(IIII)I"⟩
abbrev cX5_percent : ByteArray := prog_7_method_29_code
def yX5_percent : MethodName := ⟨RX5, "percent", "(II)I"⟩
abbrev cX5_change : ByteArray := prog_7_method_30_code
def yX5_change : MethodName := ⟨RX5, "change", "(I)I"⟩
abbrev cX5_impact : ByteArray := prog_7_method_31_code
def yX5_impact : MethodName := ⟨RX5, "impact", "(I)I"⟩
abbrev cX5_minutes : ByteArray := prog_7_method_32_code
def yX5_minutes : MethodName := ⟨RX5, "minutes", "()I"⟩
abbrev cX5_isCause : ByteArray := prog_7_method_33_code
def yX5_isCause : MethodName := ⟨RX5, "isCause", "(I)Z"⟩
abbrev cX5_addCause : ByteArray := prog_7_method_34_code
def yX5_addCause : MethodName := ⟨RX5, "addCause", "()I"⟩
abbrev cX5_reached : ByteArray := prog_7_method_35_code
def yX5_reached : MethodName := ⟨RX5, "reached", "(IZ)I"⟩
abbrev cX5_argueReason : ByteArray := prog_7_method_36_code
def yX5_argueReason : MethodName := ⟨RX5, "argueReason", "(III)I"⟩
abbrev cX5_setStanding : ByteArray := prog_7_method_37_code
def yX5_setStanding : MethodName := ⟨RX5, "setStanding", "(IZ)Z"⟩
abbrev cX5_mainOf : ByteArray := prog_7_method_38_code
def yX5_mainOf : MethodName := ⟨RX5, "mainOf", "(I)I"⟩
abbrev cX5_roots : ByteArray := prog_7_method_39_code
def yX5_roots : MethodName := ⟨RX5, "roots", "(I)I"⟩
abbrev cX5_mainReason : ByteArray := prog_7_method_40_code
def yX5_mainReason : MethodName := ⟨RX5, "mainReason", "(I)I"⟩
def RJ9 : String := "java/lang/Math"
def TJ9 : u_T := fun k => match k with
  | _ => ("", "", "", false)
def tyJ9 : Nat → FieldType := fun k => match k with
  | _ => .int
abbrev wsJ90 : List Cond := u_ws RJ9 TJ9 0
theorem nmJ9 : ∀ a, a < 0 → ∀ b, b < 0 → a ≠ b → (TJ9 a).2.1 ≠ (TJ9 b).2.1 := by decide +kernel
theorem tyJ9_ok : ∀ k, k < 0 → parseFieldDescriptor (TJ9 k).2.2.1 = some (tyJ9 k) := by decide +kernel
abbrev cJ9_max_7cf53 : ByteArray := prog_12_method_65_code
def yJ9_max_7cf53 : MethodName := ⟨RJ9, "max", "(II)I"⟩
abbrev cJ9_min_7cf53 : ByteArray := prog_12_method_69_code
def yJ9_min_7cf53 : MethodName := ⟨RJ9, "min", "(II)I"⟩
def RJ0 : String := "java/lang/String"
def TJ0 : u_T := fun k => match k with
  | _ => ("", "", "", false)
def tyJ0 : Nat → FieldType := fun k => match k with
  | _ => .int
abbrev wsJ00 : List Cond := u_ws RJ0 TJ0 0
theorem nmJ0 : ∀ a, a < 0 → ∀ b, b < 0 → a ≠ b → (TJ0 a).2.1 ≠ (TJ0 b).2.1 := by decide +kernel
theorem tyJ0_ok : ∀ k, k < 0 → parseFieldDescriptor (TJ0 k).2.2.1 = some (tyJ0 k) := by decide +kernel
def RL : String := "OutageBookLaw"
abbrev cL_mark : ByteArray := method_3_code
def yL_mark : MethodName := ⟨RL, "mark", "(LOutageBook;IIIII)I"⟩
abbrev cL_greatest : ByteArray := method_4_code
def yL_greatest : MethodName := ⟨RL, "greatest", "(LOutageBook;II[J)I"⟩
abbrev cL_write : ByteArray := method_5_code
def yL_write : MethodName := ⟨RL, "write", "(LOutageBook;IIIZ[J)I"⟩
abbrev cL_mustComeBefore : ByteArray := method_6_code
def yL_mustComeBefore : MethodName := ⟨RL, "mustComeBefore", "(LOutageBook;II[J)I"⟩
abbrev cL_lineAt : ByteArray := method_7_code
def yL_lineAt : MethodName := ⟨RL, "lineAt", "(LOutageBook;I[J)I"⟩
abbrev cL_orders : ByteArray := method_8_code
def yL_orders : MethodName := ⟨RL, "orders", "(LOutageBook;[J)I"⟩
abbrev cL_argue : ByteArray := method_9_code
def yL_argue : MethodName := ⟨RL, "argue", "(LOutageBook;IIZ[J)I"⟩
abbrev cL_isDoubtful : ByteArray := method_10_code
def yL_isDoubtful : MethodName := ⟨RL, "isDoubtful", "(LOutageBook;I[J)I"⟩
abbrev cL_storyAt : ByteArray := method_11_code
def yL_storyAt : MethodName := ⟨RL, "storyAt", "(LOutageBook;I[J)I"⟩
abbrev cL_earliest : ByteArray := method_12_code
def yL_earliest : MethodName := ⟨RL, "earliest", "(LOutageBook;I[J)I"⟩
abbrev cL_firstOf : ByteArray := method_13_code
def yL_firstOf : MethodName := ⟨RL, "firstOf", "(LOutageBook;I[J)I"⟩
abbrev cL_measure : ByteArray := method_14_code
def yL_measure : MethodName := ⟨RL, "measure", "(LOutageBook;IIII[J)I"⟩
abbrev cL_impact : ByteArray := method_15_code
def yL_impact : MethodName := ⟨RL, "impact", "(LOutageBook;I[J)I"⟩
abbrev cL_addCause : ByteArray := method_16_code
def yL_addCause : MethodName := ⟨RL, "addCause", "(LOutageBook;[J)I"⟩
abbrev cL_argueReason : ByteArray := method_17_code
def yL_argueReason : MethodName := ⟨RL, "argueReason", "(LOutageBook;III[J)I"⟩
abbrev cL_setStanding : ByteArray := method_18_code
def yL_setStanding : MethodName := ⟨RL, "setStanding", "(LOutageBook;IZ[J)I"⟩
abbrev cL_roots : ByteArray := method_19_code
def yL_roots : MethodName := ⟨RL, "roots", "(LOutageBook;I[J)I"⟩
abbrev cL_mainReason : ByteArray := method_20_code
def yL_mainReason : MethodName := ⟨RL, "mainReason", "(LOutageBook;I[J)I"⟩
abbrev cL_law : ByteArray := code
def yL_law : MethodName := ⟨RL, "law", "([I)Z"⟩
def wsX0_init : List Cond := .code yX0_init cX0_init 1 none :: ([.methodLink RX0 3 objectInit, .instanceMethod objectInit, .code objectInit ⟨#[0xb1]⟩ 1 none, .classLink RX0 9 "[[I", .arrayClass .int, .fieldLink RX0 11 "OutageBook$Causes" "weights" "[[I", .fieldLink RX0 16 "OutageBook$Causes" "standing" "I", .fieldLink RX0 20 "OutageBook$Causes" "count" "I"] ++ wsX00)
def wsX0_size : List Cond := .code yX0_size cX0_size 1 (some .int) :: ([.fieldLink RX0 20 "OutageBook$Causes" "count" "I"] ++ wsX00)
def wsX0_holds : List Cond := .code yX0_holds cX0_holds 2 (some .boolean) :: ([.fieldLink RX0 20 "OutageBook$Causes" "count" "I"] ++ wsX00)
def wsX4_bit : List Cond := .code yX4_bit cX4_bit 1 (some .int) :: ([])
def wsX0_add : List Cond := .code yX0_add cX0_add 2 (some .int) :: ([.fieldLink RX0 20 "OutageBook$Causes" "count" "I", .fieldLink RX0 16 "OutageBook$Causes" "standing" "I", .static yX4_bit, .initialized RX4, .code yX4_bit cX4_bit 1 (some .int)] ++ wsX00)
def wsX0_replaceWeight : List Cond := .code yX0_replaceWeight cX0_replaceWeight 5 (some .int) :: ([.fieldLink RX0 11 "OutageBook$Causes" "weights" "[[I", .methodLink RX0 27 yX0_holds, .instanceMethod yX0_holds, .selects RX0 yX0_holds yX0_holds, .initialized RX0, .code yX0_holds cX0_holds 2 (some .boolean), .fieldLink RX0 20 "OutageBook$Causes" "count" "I"] ++ wsX00)
def wsX4_hasBit : List Cond := .code yX4_hasBit cX4_hasBit 2 (some .boolean) :: ([.methodLink RX4 188 yX4_bit, .static yX4_bit, .initialized RX4, .code yX4_bit cX4_bit 1 (some .int)])
def wsX0_replaceStanding : List Cond := .code yX0_replaceStanding cX0_replaceStanding 4 (some .boolean) :: ([.fieldLink RX0 16 "OutageBook$Causes" "standing" "I", .static yX4_hasBit, .initialized RX4, .code yX4_hasBit cX4_hasBit 2 (some .boolean), .methodLink RX4 188 yX4_bit, .static yX4_bit, .code yX4_bit cX4_bit 1 (some .int)] ++ wsX00)
def wsX0_weight : List Cond := .code yX0_weight cX0_weight 3 (some .int) :: ([.fieldLink RX0 11 "OutageBook$Causes" "weights" "[[I", .methodLink RX0 27 yX0_holds, .instanceMethod yX0_holds, .selects RX0 yX0_holds yX0_holds, .initialized RX0, .code yX0_holds cX0_holds 2 (some .boolean), .fieldLink RX0 20 "OutageBook$Causes" "count" "I"] ++ wsX00)
def wsX0_reasonsOf : List Cond := .code yX0_reasonsOf cX0_reasonsOf 4 (some .int) :: ([.fieldLink RX0 20 "OutageBook$Causes" "count" "I", .methodLink RX0 42 yX0_weight, .instanceMethod yX0_weight, .selects RX0 yX0_weight yX0_weight, .initialized RX0, .code yX0_weight cX0_weight 3 (some .int), .fieldLink RX0 11 "OutageBook$Causes" "weights" "[[I", .methodLink RX0 27 yX0_holds, .instanceMethod yX0_holds, .selects RX0 yX0_holds yX0_holds, .code yX0_holds cX0_holds 2 (some .boolean), .static yX4_bit, .initialized RX4, .code yX4_bit cX4_bit 1 (some .int)] ++ wsX00)
def wsX0_reach : List Cond := .code yX0_reach cX0_reach 6 (some .int) :: ([.fieldLink RX0 20 "OutageBook$Causes" "count" "I", .static yX4_bit, .initialized RX4, .code yX4_bit cX4_bit 1 (some .int), .static yX4_hasBit, .code yX4_hasBit cX4_hasBit 2 (some .boolean), .methodLink RX4 188 yX4_bit, .methodLink RX0 39 yX0_reasonsOf, .instanceMethod yX0_reasonsOf, .selects RX0 yX0_reasonsOf yX0_reasonsOf, .initialized RX0, .code yX0_reasonsOf cX0_reasonsOf 4 (some .int), .methodLink RX0 42 yX0_weight, .instanceMethod yX0_weight, .selects RX0 yX0_weight yX0_weight, .code yX0_weight cX0_weight 3 (some .int), .fieldLink RX0 11 "OutageBook$Causes" "weights" "[[I", .methodLink RX0 27 yX0_holds, .instanceMethod yX0_holds, .selects RX0 yX0_holds yX0_holds, .code yX0_holds cX0_holds 2 (some .boolean)] ++ wsX00)
def wsX0_isBecauseOf_r1 : List Cond := [Cond.fieldLink RX0 20 "OutageBook$Causes" "count" "I", Cond.static yX4_bit, Cond.initialized RX4, Cond.code yX4_bit cX4_bit 1 (some .int), Cond.methodLink RX0 35 yX0_reach, Cond.instanceMethod yX0_reach, Cond.selects RX0 yX0_reach yX0_reach, Cond.initialized RX0, Cond.code yX0_reach cX0_reach 6 (some .int), Cond.static yX4_hasBit, Cond.code yX4_hasBit cX4_hasBit 2 (some .boolean), Cond.methodLink RX4 188 yX4_bit, Cond.methodLink RX0 39 yX0_reasonsOf, Cond.instanceMethod yX0_reasonsOf, Cond.selects RX0 yX0_reasonsOf yX0_reasonsOf, Cond.code yX0_reasonsOf cX0_reasonsOf 4 (some .int), Cond.methodLink RX0 42 yX0_weight, Cond.instanceMethod yX0_weight, Cond.selects RX0 yX0_weight yX0_weight, Cond.code yX0_weight cX0_weight 3 (some .int), Cond.fieldLink RX0 11 "OutageBook$Causes" "weights" "[[I", Cond.methodLink RX0 27 yX0_holds, Cond.instanceMethod yX0_holds, Cond.selects RX0 yX0_holds yX0_holds]
def wsX0_isBecauseOf_r2 : List Cond := [Cond.code yX0_holds cX0_holds 2 (some .boolean)]
def wsX0_isBecauseOf : List Cond := .code yX0_isBecauseOf cX0_isBecauseOf 3 (some .boolean) :: ((wsX0_isBecauseOf_r1 ++ wsX0_isBecauseOf_r2) ++ wsX00)
def wsX0_rootsUnder_r1 : List Cond := [Cond.fieldLink RX0 16 "OutageBook$Causes" "standing" "I", Cond.fieldLink RX0 20 "OutageBook$Causes" "count" "I", Cond.static yX4_hasBit, Cond.initialized RX4, Cond.code yX4_hasBit cX4_hasBit 2 (some .boolean), Cond.methodLink RX4 188 yX4_bit, Cond.static yX4_bit, Cond.code yX4_bit cX4_bit 1 (some .int), Cond.methodLink RX0 35 yX0_reach, Cond.instanceMethod yX0_reach, Cond.selects RX0 yX0_reach yX0_reach, Cond.initialized RX0, Cond.code yX0_reach cX0_reach 6 (some .int), Cond.methodLink RX0 39 yX0_reasonsOf, Cond.instanceMethod yX0_reasonsOf, Cond.selects RX0 yX0_reasonsOf yX0_reasonsOf, Cond.code yX0_reasonsOf cX0_reasonsOf 4 (some .int), Cond.methodLink RX0 42 yX0_weight, Cond.instanceMethod yX0_weight, Cond.selects RX0 yX0_weight yX0_weight, Cond.code yX0_weight cX0_weight 3 (some .int), Cond.fieldLink RX0 11 "OutageBook$Causes" "weights" "[[I", Cond.methodLink RX0 27 yX0_holds, Cond.instanceMethod yX0_holds]
def wsX0_rootsUnder_r2 : List Cond := [Cond.selects RX0 yX0_holds yX0_holds, Cond.code yX0_holds cX0_holds 2 (some .boolean)]
def wsX0_rootsUnder : List Cond := .code yX0_rootsUnder cX0_rootsUnder 5 (some .int) :: ((wsX0_rootsUnder_r1 ++ wsX0_rootsUnder_r2) ++ wsX00)
def wsX0_weightiestReason : List Cond := .code yX0_weightiestReason cX0_weightiestReason 6 (some .int) :: ([.fieldLink RX0 20 "OutageBook$Causes" "count" "I", .fieldLink RX0 16 "OutageBook$Causes" "standing" "I", .methodLink RX0 42 yX0_weight, .instanceMethod yX0_weight, .selects RX0 yX0_weight yX0_weight, .initialized RX0, .code yX0_weight cX0_weight 3 (some .int), .fieldLink RX0 11 "OutageBook$Causes" "weights" "[[I", .methodLink RX0 27 yX0_holds, .instanceMethod yX0_holds, .selects RX0 yX0_holds yX0_holds, .code yX0_holds cX0_holds 2 (some .boolean), .static yX4_hasBit, .initialized RX4, .code yX4_hasBit cX4_hasBit 2 (some .boolean), .methodLink RX4 188 yX4_bit, .static yX4_bit, .code yX4_bit cX4_bit 1 (some .int)] ++ wsX00)
def wsX1_init : List Cond := .code yX1_init cX1_init 1 none :: ([.methodLink RX1 3 objectInit, .instanceMethod objectInit, .code objectInit ⟨#[0xb1]⟩ 1 none, .arrayClass .int, .fieldLink RX1 9 "OutageBook$Log" "clocks" "[I", .fieldLink RX1 15 "OutageBook$Log" "readings" "[I", .fieldLink RX1 18 "OutageBook$Log" "services" "[I", .arrayClass .boolean, .fieldLink RX1 21 "OutageBook$Log" "arePublic" "[Z", .fieldLink RX1 25 "OutageBook$Log" "balances" "[I", .fieldLink RX1 28 "OutageBook$Log" "before" "[I", .fieldLink RX1 31 "OutageBook$Log" "order" "[I", .arrayClass .long, .fieldLink RX1 34 "OutageBook$Log" "beginnings" "[J", .fieldLink RX1 38 "OutageBook$Log" "count" "I"] ++ wsX10)
def wsX1_size : List Cond := .code yX1_size cX1_size 1 (some .int) :: ([.fieldLink RX1 38 "OutageBook$Log" "count" "I"] ++ wsX10)
def wsX1_holds : List Cond := .code yX1_holds cX1_holds 2 (some .boolean) :: ([.fieldLink RX1 38 "OutageBook$Log" "count" "I"] ++ wsX10)
def wsX1_add : List Cond := .code yX1_add cX1_add 6 (some .int) :: ([.fieldLink RX1 38 "OutageBook$Log" "count" "I", .fieldLink RX1 9 "OutageBook$Log" "clocks" "[I", .fieldLink RX1 15 "OutageBook$Log" "readings" "[I", .fieldLink RX1 18 "OutageBook$Log" "services" "[I", .fieldLink RX1 21 "OutageBook$Log" "arePublic" "[Z"] ++ wsX10)
def wsX1_isBefore : List Cond := .code yX1_isBefore cX1_isBefore 3 (some .boolean) :: ([.fieldLink RX1 28 "OutageBook$Log" "before" "[I", .methodLink RX1 42 yX1_holds, .instanceMethod yX1_holds, .selects RX1 yX1_holds yX1_holds, .initialized RX1, .code yX1_holds cX1_holds 2 (some .boolean), .fieldLink RX1 38 "OutageBook$Log" "count" "I", .static yX4_hasBit, .initialized RX4, .code yX4_hasBit cX4_hasBit 2 (some .boolean), .methodLink RX4 188 yX4_bit, .static yX4_bit, .code yX4_bit cX4_bit 1 (some .int)] ++ wsX10)
def wsX1_at : List Cond := .code yX1_at cX1_at 2 (some .int) :: ([.fieldLink RX1 31 "OutageBook$Log" "order" "[I", .methodLink RX1 42 yX1_holds, .instanceMethod yX1_holds, .selects RX1 yX1_holds yX1_holds, .initialized RX1, .code yX1_holds cX1_holds 2 (some .boolean), .fieldLink RX1 38 "OutageBook$Log" "count" "I"] ++ wsX10)
def wsX1_weigh : List Cond := .code yX1_weigh cX1_weigh 3 (some .int) :: ([.fieldLink RX1 25 "OutageBook$Log" "balances" "[I", .methodLink RX1 42 yX1_holds, .instanceMethod yX1_holds, .selects RX1 yX1_holds yX1_holds, .initialized RX1, .code yX1_holds cX1_holds 2 (some .boolean), .fieldLink RX1 38 "OutageBook$Log" "count" "I"] ++ wsX10)
def wsX1_isDoubted : List Cond := .code yX1_isDoubted cX1_isDoubted 2 (some .boolean) :: ([.fieldLink RX1 25 "OutageBook$Log" "balances" "[I", .methodLink RX1 42 yX1_holds, .instanceMethod yX1_holds, .selects RX1 yX1_holds yX1_holds, .initialized RX1, .code yX1_holds cX1_holds 2 (some .boolean), .fieldLink RX1 38 "OutageBook$Log" "count" "I"] ++ wsX10)
def wsX4_isWithin : List Cond := .code yX4_isWithin cX4_isWithin 3 (some .boolean) :: ([])
def wsX4_isClock : List Cond := .code yX4_isClock cX4_isClock 1 (some .boolean) :: ([.methodLink RX4 53 yX4_isWithin, .static yX4_isWithin, .initialized RX4, .code yX4_isWithin cX4_isWithin 3 (some .boolean)])
def wsX3_most : List Cond := .code yX3_most cX3_most 3 (some .int) :: ([.constant RX3 16 (1000000), .fieldLink RX3 11 "OutageBook$Offsets" "differences" "[[I", .static yX4_isClock, .initialized RX4, .code yX4_isClock cX4_isClock 1 (some .boolean), .methodLink RX4 53 yX4_isWithin, .static yX4_isWithin, .code yX4_isWithin cX4_isWithin 3 (some .boolean)] ++ wsX30)
def wsX1_earliestTime : List Cond := .code yX1_earliestTime cX1_earliestTime 4 (some .int) :: ([.constant RX1 50 (-1000000), .fieldLink RX1 9 "OutageBook$Log" "clocks" "[I", .constant RX1 57 (1000000), .fieldLink RX1 15 "OutageBook$Log" "readings" "[I", .methodLink RX1 42 yX1_holds, .instanceMethod yX1_holds, .selects RX1 yX1_holds yX1_holds, .initialized RX1, .code yX1_holds cX1_holds 2 (some .boolean), .fieldLink RX1 38 "OutageBook$Log" "count" "I", .methodLink RX1 51 yX3_most, .instanceMethod yX3_most, .selects RX3 yX3_most yX3_most, .initialized RX3, .code yX3_most cX3_most 3 (some .int), .constant RX3 16 (1000000), .fieldLink RX3 11 "OutageBook$Offsets" "differences" "[[I", .static yX4_isClock, .initialized RX4, .code yX4_isClock cX4_isClock 1 (some .boolean), .methodLink RX4 53 yX4_isWithin, .static yX4_isWithin, .code yX4_isWithin cX4_isWithin 3 (some .boolean)] ++ wsX10 ++ wsX30)
def wsX1_firstLine : List Cond := .code yX1_firstLine cX1_firstLine 4 (some .int) :: ([.fieldLink RX1 38 "OutageBook$Log" "count" "I", .fieldLink RX1 18 "OutageBook$Log" "services" "[I", .methodLink RX1 58 yX1_at, .instanceMethod yX1_at, .selects RX1 yX1_at yX1_at, .initialized RX1, .code yX1_at cX1_at 2 (some .int), .fieldLink RX1 31 "OutageBook$Log" "order" "[I", .methodLink RX1 42 yX1_holds, .instanceMethod yX1_holds, .selects RX1 yX1_holds yX1_holds, .code yX1_holds cX1_holds 2 (some .boolean)] ++ wsX10)
def wsX1_isInStory : List Cond := .code yX1_isInStory cX1_isInStory 2 (some .boolean) :: ([.fieldLink RX1 21 "OutageBook$Log" "arePublic" "[Z", .fieldLink RX1 25 "OutageBook$Log" "balances" "[I", .methodLink RX1 42 yX1_holds, .instanceMethod yX1_holds, .selects RX1 yX1_holds yX1_holds, .initialized RX1, .code yX1_holds cX1_holds 2 (some .boolean), .fieldLink RX1 38 "OutageBook$Log" "count" "I"] ++ wsX10)
def wsX1_storySize : List Cond := .code yX1_storySize cX1_storySize 3 (some .int) :: ([.fieldLink RX1 38 "OutageBook$Log" "count" "I", .methodLink RX1 58 yX1_at, .instanceMethod yX1_at, .selects RX1 yX1_at yX1_at, .initialized RX1, .code yX1_at cX1_at 2 (some .int), .fieldLink RX1 31 "OutageBook$Log" "order" "[I", .methodLink RX1 42 yX1_holds, .instanceMethod yX1_holds, .selects RX1 yX1_holds yX1_holds, .code yX1_holds cX1_holds 2 (some .boolean), .methodLink RX1 62 yX1_isInStory, .instanceMethod yX1_isInStory, .selects RX1 yX1_isInStory yX1_isInStory, .code yX1_isInStory cX1_isInStory 2 (some .boolean), .fieldLink RX1 21 "OutageBook$Log" "arePublic" "[Z", .fieldLink RX1 25 "OutageBook$Log" "balances" "[I"] ++ wsX10)
def wsX1_storyLine : List Cond := .code yX1_storyLine cX1_storyLine 5 (some .int) :: ([.fieldLink RX1 38 "OutageBook$Log" "count" "I", .methodLink RX1 58 yX1_at, .instanceMethod yX1_at, .selects RX1 yX1_at yX1_at, .initialized RX1, .code yX1_at cX1_at 2 (some .int), .fieldLink RX1 31 "OutageBook$Log" "order" "[I", .methodLink RX1 42 yX1_holds, .instanceMethod yX1_holds, .selects RX1 yX1_holds yX1_holds, .code yX1_holds cX1_holds 2 (some .boolean), .methodLink RX1 62 yX1_isInStory, .instanceMethod yX1_isInStory, .selects RX1 yX1_isInStory yX1_isInStory, .code yX1_isInStory cX1_isInStory 2 (some .boolean), .fieldLink RX1 21 "OutageBook$Log" "arePublic" "[Z", .fieldLink RX1 25 "OutageBook$Log" "balances" "[I"] ++ wsX10)
def wsX1_isSurelyEarlier : List Cond := .code yX1_isSurelyEarlier cX1_isSurelyEarlier 5 (some .boolean) :: ([.fieldLink RX1 9 "OutageBook$Log" "clocks" "[I", .constant RX1 57 (1000000), .fieldLink RX1 15 "OutageBook$Log" "readings" "[I", .methodLink RX1 42 yX1_holds, .instanceMethod yX1_holds, .selects RX1 yX1_holds yX1_holds, .initialized RX1, .code yX1_holds cX1_holds 2 (some .boolean), .fieldLink RX1 38 "OutageBook$Log" "count" "I", .methodLink RX1 51 yX3_most, .instanceMethod yX3_most, .selects RX3 yX3_most yX3_most, .initialized RX3, .code yX3_most cX3_most 3 (some .int), .constant RX3 16 (1000000), .fieldLink RX3 11 "OutageBook$Offsets" "differences" "[[I", .static yX4_isClock, .initialized RX4, .code yX4_isClock cX4_isClock 1 (some .boolean), .methodLink RX4 53 yX4_isWithin, .static yX4_isWithin, .code yX4_isWithin cX4_isWithin 3 (some .boolean)] ++ wsX10 ++ wsX30)
def wsX1_allBefore_r1 : List Cond := [Cond.fieldLink RX1 38 "OutageBook$Log" "count" "I", Cond.methodLink RX1 75 yX1_isSurelyEarlier, Cond.instanceMethod yX1_isSurelyEarlier, Cond.selects RX1 yX1_isSurelyEarlier yX1_isSurelyEarlier, Cond.initialized RX1, Cond.code yX1_isSurelyEarlier cX1_isSurelyEarlier 5 (some .boolean), Cond.fieldLink RX1 9 "OutageBook$Log" "clocks" "[I", Cond.constant RX1 57 (1000000), Cond.fieldLink RX1 15 "OutageBook$Log" "readings" "[I", Cond.methodLink RX1 42 yX1_holds, Cond.instanceMethod yX1_holds, Cond.selects RX1 yX1_holds yX1_holds, Cond.code yX1_holds cX1_holds 2 (some .boolean), Cond.methodLink RX1 51 yX3_most, Cond.instanceMethod yX3_most, Cond.selects RX3 yX3_most yX3_most, Cond.initialized RX3, Cond.code yX3_most cX3_most 3 (some .int), Cond.constant RX3 16 (1000000), Cond.fieldLink RX3 11 "OutageBook$Offsets" "differences" "[[I", Cond.static yX4_isClock, Cond.initialized RX4, Cond.code yX4_isClock cX4_isClock 1 (some .boolean), Cond.methodLink RX4 53 yX4_isWithin]
def wsX1_allBefore_r2 : List Cond := [Cond.static yX4_isWithin, Cond.code yX4_isWithin cX4_isWithin 3 (some .boolean), Cond.static yX4_bit, Cond.code yX4_bit cX4_bit 1 (some .int)]
def wsX1_allBefore : List Cond := .code yX1_allBefore cX1_allBefore 5 (some .int) :: ((wsX1_allBefore_r1 ++ wsX1_allBefore_r2) ++ wsX10 ++ wsX30)
def wsX1_nextLine : List Cond := .code yX1_nextLine cX1_nextLine 3 (some .int) :: ([.fieldLink RX1 38 "OutageBook$Log" "count" "I", .fieldLink RX1 28 "OutageBook$Log" "before" "[I", .static yX4_hasBit, .initialized RX4, .code yX4_hasBit cX4_hasBit 2 (some .boolean), .methodLink RX4 188 yX4_bit, .static yX4_bit, .code yX4_bit cX4_bit 1 (some .int)] ++ wsX10)
def wsX1_arrange_r1 : List Cond := [Cond.fieldLink RX1 38 "OutageBook$Log" "count" "I", Cond.fieldLink RX1 28 "OutageBook$Log" "before" "[I", Cond.fieldLink RX1 31 "OutageBook$Log" "order" "[I", Cond.methodLink RX1 65 yX1_allBefore, Cond.instanceMethod yX1_allBefore, Cond.selects RX1 yX1_allBefore yX1_allBefore, Cond.initialized RX1, Cond.code yX1_allBefore cX1_allBefore 5 (some .int), Cond.methodLink RX1 75 yX1_isSurelyEarlier, Cond.instanceMethod yX1_isSurelyEarlier, Cond.selects RX1 yX1_isSurelyEarlier yX1_isSurelyEarlier, Cond.code yX1_isSurelyEarlier cX1_isSurelyEarlier 5 (some .boolean), Cond.fieldLink RX1 9 "OutageBook$Log" "clocks" "[I", Cond.constant RX1 57 (1000000), Cond.fieldLink RX1 15 "OutageBook$Log" "readings" "[I", Cond.methodLink RX1 42 yX1_holds, Cond.instanceMethod yX1_holds, Cond.selects RX1 yX1_holds yX1_holds, Cond.code yX1_holds cX1_holds 2 (some .boolean), Cond.methodLink RX1 51 yX3_most, Cond.instanceMethod yX3_most, Cond.selects RX3 yX3_most yX3_most, Cond.initialized RX3, Cond.code yX3_most cX3_most 3 (some .int)]
def wsX1_arrange_r2 : List Cond := [Cond.constant RX3 16 (1000000), Cond.fieldLink RX3 11 "OutageBook$Offsets" "differences" "[[I", Cond.static yX4_isClock, Cond.initialized RX4, Cond.code yX4_isClock cX4_isClock 1 (some .boolean), Cond.methodLink RX4 53 yX4_isWithin, Cond.static yX4_isWithin, Cond.code yX4_isWithin cX4_isWithin 3 (some .boolean), Cond.static yX4_bit, Cond.code yX4_bit cX4_bit 1 (some .int), Cond.methodLink RX1 72 yX1_nextLine, Cond.instanceMethod yX1_nextLine, Cond.selects RX1 yX1_nextLine yX1_nextLine, Cond.code yX1_nextLine cX1_nextLine 3 (some .int), Cond.static yX4_hasBit, Cond.code yX4_hasBit cX4_hasBit 2 (some .boolean), Cond.methodLink RX4 188 yX4_bit]
def wsX1_arrange : List Cond := .code yX1_arrange cX1_arrange 4 none :: ((wsX1_arrange_r1 ++ wsX1_arrange_r2) ++ wsX10 ++ wsX30)
def wsX1_countBeginnings : List Cond := .code yX1_countBeginnings cX1_countBeginnings 7 (some .long) :: ([.fieldLink RX1 38 "OutageBook$Log" "count" "I", .fieldLink RX1 28 "OutageBook$Log" "before" "[I", .fieldLink RX1 34 "OutageBook$Log" "beginnings" "[J", .static yX4_bit, .initialized RX4, .code yX4_bit cX4_bit 1 (some .int)] ++ wsX10)
def wsX1_countOrders : List Cond := .code yX1_countOrders cX1_countOrders 5 (some .long) :: ([.fieldLink RX1 38 "OutageBook$Log" "count" "I", .fieldLink RX1 34 "OutageBook$Log" "beginnings" "[J", .static yX4_bit, .initialized RX4, .code yX4_bit cX4_bit 1 (some .int), .methodLink RX1 79 yX1_countBeginnings, .instanceMethod yX1_countBeginnings, .selects RX1 yX1_countBeginnings yX1_countBeginnings, .initialized RX1, .code yX1_countBeginnings cX1_countBeginnings 7 (some .long), .fieldLink RX1 28 "OutageBook$Log" "before" "[I"] ++ wsX10)
def wsX2_init : List Cond := .code yX2_init cX2_init 1 none :: ([.methodLink RX2 3 objectInit, .instanceMethod objectInit, .code objectInit ⟨#[0xb1]⟩ 1 none, .arrayClass .int, .fieldLink RX2 9 "OutageBook$Measures" "services" "[I", .fieldLink RX2 15 "OutageBook$Measures" "starts" "[I", .fieldLink RX2 18 "OutageBook$Measures" "ends" "[I", .fieldLink RX2 21 "OutageBook$Measures" "percents" "[I", .fieldLink RX2 24 "OutageBook$Measures" "count" "I"] ++ wsX20)
def wsX2_size : List Cond := .code yX2_size cX2_size 1 (some .int) :: ([.fieldLink RX2 24 "OutageBook$Measures" "count" "I"] ++ wsX20)
def wsX2_add : List Cond := .code yX2_add cX2_add 6 (some .int) :: ([.fieldLink RX2 24 "OutageBook$Measures" "count" "I", .fieldLink RX2 9 "OutageBook$Measures" "services" "[I", .fieldLink RX2 15 "OutageBook$Measures" "starts" "[I", .fieldLink RX2 18 "OutageBook$Measures" "ends" "[I", .fieldLink RX2 21 "OutageBook$Measures" "percents" "[I"] ++ wsX20)
def wsX2_nextChange : List Cond := .code yX2_nextChange cX2_nextChange 5 (some .int) :: ([.fieldLink RX2 24 "OutageBook$Measures" "count" "I", .fieldLink RX2 18 "OutageBook$Measures" "ends" "[I", .fieldLink RX2 15 "OutageBook$Measures" "starts" "[I", .methodLink RX2 36 Lib.Math.min.name, .static Lib.Math.min.name, .initialized "java/lang/Math", .code Lib.Math.min.name Lib.Math.min.code 2 (some .int)] ++ wsX20)
def wsX2_worst : List Cond := .code yX2_worst cX2_worst 6 (some .int) :: ([.fieldLink RX2 24 "OutageBook$Measures" "count" "I", .fieldLink RX2 9 "OutageBook$Measures" "services" "[I", .fieldLink RX2 15 "OutageBook$Measures" "starts" "[I", .fieldLink RX2 18 "OutageBook$Measures" "ends" "[I", .fieldLink RX2 21 "OutageBook$Measures" "percents" "[I", .methodLink RX2 45 Lib.Math.max.name, .static Lib.Math.max.name, .initialized "java/lang/Math", .code Lib.Math.max.name Lib.Math.max.code 2 (some .int), .static yX4_isWithin, .initialized RX4, .code yX4_isWithin cX4_isWithin 3 (some .boolean)] ++ wsX20)
def wsX2_sumOfWorst : List Cond := .code yX2_sumOfWorst cX2_sumOfWorst 6 (some .int) :: ([.fieldLink RX2 24 "OutageBook$Measures" "count" "I", .methodLink RX2 28 yX2_nextChange, .instanceMethod yX2_nextChange, .selects RX2 yX2_nextChange yX2_nextChange, .initialized RX2, .code yX2_nextChange cX2_nextChange 5 (some .int), .fieldLink RX2 18 "OutageBook$Measures" "ends" "[I", .fieldLink RX2 15 "OutageBook$Measures" "starts" "[I", .methodLink RX2 36 Lib.Math.min.name, .static Lib.Math.min.name, .initialized "java/lang/Math", .code Lib.Math.min.name Lib.Math.min.code 2 (some .int), .methodLink RX2 32 yX2_worst, .instanceMethod yX2_worst, .selects RX2 yX2_worst yX2_worst, .code yX2_worst cX2_worst 6 (some .int), .fieldLink RX2 9 "OutageBook$Measures" "services" "[I", .fieldLink RX2 21 "OutageBook$Measures" "percents" "[I", .methodLink RX2 45 Lib.Math.max.name, .static Lib.Math.max.name, .code Lib.Math.max.name Lib.Math.max.code 2 (some .int), .static yX4_isWithin, .initialized RX4, .code yX4_isWithin cX4_isWithin 3 (some .boolean)] ++ wsX20)
def wsX2_failedMinutes : List Cond := .code yX2_failedMinutes cX2_failedMinutes 5 (some .int) :: ([.fieldLink RX2 24 "OutageBook$Measures" "count" "I", .methodLink RX2 28 yX2_nextChange, .instanceMethod yX2_nextChange, .selects RX2 yX2_nextChange yX2_nextChange, .initialized RX2, .code yX2_nextChange cX2_nextChange 5 (some .int), .fieldLink RX2 18 "OutageBook$Measures" "ends" "[I", .fieldLink RX2 15 "OutageBook$Measures" "starts" "[I", .methodLink RX2 36 Lib.Math.min.name, .static Lib.Math.min.name, .initialized "java/lang/Math", .code Lib.Math.min.name Lib.Math.min.code 2 (some .int), .methodLink RX2 32 yX2_worst, .instanceMethod yX2_worst, .selects RX2 yX2_worst yX2_worst, .code yX2_worst cX2_worst 6 (some .int), .fieldLink RX2 9 "OutageBook$Measures" "services" "[I", .fieldLink RX2 21 "OutageBook$Measures" "percents" "[I", .methodLink RX2 45 Lib.Math.max.name, .static Lib.Math.max.name, .code Lib.Math.max.name Lib.Math.max.code 2 (some .int), .static yX4_isWithin, .initialized RX4, .code yX4_isWithin cX4_isWithin 3 (some .boolean)] ++ wsX20)
def wsX3_init : List Cond := .code yX3_init cX3_init 3 none :: ([.methodLink RX3 3 objectInit, .instanceMethod objectInit, .code objectInit ⟨#[0xb1]⟩ 1 none, .classLink RX3 9 "[[I", .arrayClass .int, .fieldLink RX3 11 "OutageBook$Offsets" "differences" "[[I", .constant RX3 16 (1000000)] ++ wsX30)
def wsX3_allows : List Cond := .code yX3_allows cX3_allows 4 (some .boolean) :: ([.methodLink RX3 21 yX3_most, .instanceMethod yX3_most, .selects RX3 yX3_most yX3_most, .initialized RX3, .code yX3_most cX3_most 3 (some .int), .constant RX3 16 (1000000), .fieldLink RX3 11 "OutageBook$Offsets" "differences" "[[I", .static yX4_isClock, .initialized RX4, .code yX4_isClock cX4_isClock 1 (some .boolean), .methodLink RX4 53 yX4_isWithin, .static yX4_isWithin, .code yX4_isWithin cX4_isWithin 3 (some .boolean)] ++ wsX30)
def wsX3_bound : List Cond := .code yX3_bound cX3_bound 9 none :: ([.constant RX3 16 (1000000), .fieldLink RX3 11 "OutageBook$Offsets" "differences" "[[I", .methodLink RX3 25 Lib.Math.min.name, .static Lib.Math.min.name, .initialized "java/lang/Math", .code Lib.Math.min.name Lib.Math.min.code 2 (some .int), .methodLink RX3 21 yX3_most, .instanceMethod yX3_most, .selects RX3 yX3_most yX3_most, .initialized RX3, .code yX3_most cX3_most 3 (some .int), .static yX4_isClock, .initialized RX4, .code yX4_isClock cX4_isClock 1 (some .boolean), .methodLink RX4 53 yX4_isWithin, .static yX4_isWithin, .code yX4_isWithin cX4_isWithin 3 (some .boolean)] ++ wsX30)
def wsX4_init_r1 : List Cond := [Cond.methodLink RX4 1 objectInit, Cond.instanceMethod objectInit, Cond.code objectInit ⟨#[0xb1]⟩ 1 none, Cond.classLink RX4 7 RX3, Cond.instantiable RX3 1, Cond.initialized RX3, Cond.fieldLink RX4 10 "OutageBook" "offsets" "LOutageBook$Offsets;", Cond.classLink RX4 16 RX1, Cond.instantiable RX1 9, Cond.initialized RX1, Cond.fieldLink RX4 19 "OutageBook" "log" "LOutageBook$Log;", Cond.classLink RX4 23 RX2, Cond.instantiable RX2 5, Cond.initialized RX2, Cond.fieldLink RX4 26 "OutageBook" "measures" "LOutageBook$Measures;", Cond.classLink RX4 30 RX0, Cond.instantiable RX0 3, Cond.initialized RX0, Cond.fieldLink RX4 33 "OutageBook" "causes" "LOutageBook$Causes;", Cond.methodLink RX4 9 yX3_init, Cond.instanceMethod yX3_init, Cond.code yX3_init cX3_init 3 none, Cond.methodLink RX3 3 objectInit, Cond.classLink RX3 9 "[[I"]
def wsX4_init_r2 : List Cond := [Cond.arrayClass .int, Cond.fieldLink RX3 11 "OutageBook$Offsets" "differences" "[[I", Cond.constant RX3 16 (1000000), Cond.instanceMethod yX1_init, Cond.code yX1_init cX1_init 1 none, Cond.methodLink RX1 3 objectInit, Cond.fieldLink RX1 9 "OutageBook$Log" "clocks" "[I", Cond.fieldLink RX1 15 "OutageBook$Log" "readings" "[I", Cond.fieldLink RX1 18 "OutageBook$Log" "services" "[I", Cond.arrayClass .boolean, Cond.fieldLink RX1 21 "OutageBook$Log" "arePublic" "[Z", Cond.fieldLink RX1 25 "OutageBook$Log" "balances" "[I", Cond.fieldLink RX1 28 "OutageBook$Log" "before" "[I", Cond.fieldLink RX1 31 "OutageBook$Log" "order" "[I", Cond.arrayClass .long, Cond.fieldLink RX1 34 "OutageBook$Log" "beginnings" "[J", Cond.fieldLink RX1 38 "OutageBook$Log" "count" "I", Cond.instanceMethod yX2_init, Cond.code yX2_init cX2_init 1 none, Cond.methodLink RX2 3 objectInit, Cond.fieldLink RX2 9 "OutageBook$Measures" "services" "[I", Cond.fieldLink RX2 15 "OutageBook$Measures" "starts" "[I", Cond.fieldLink RX2 18 "OutageBook$Measures" "ends" "[I", Cond.fieldLink RX2 21 "OutageBook$Measures" "percents" "[I"]
def wsX4_init_r3 : List Cond := [Cond.fieldLink RX2 24 "OutageBook$Measures" "count" "I", Cond.instanceMethod yX0_init, Cond.code yX0_init cX0_init 1 none, Cond.methodLink RX0 3 objectInit, Cond.classLink RX0 9 "[[I", Cond.fieldLink RX0 11 "OutageBook$Causes" "weights" "[[I", Cond.fieldLink RX0 16 "OutageBook$Causes" "standing" "I", Cond.fieldLink RX0 20 "OutageBook$Causes" "count" "I"]
def wsX4_init : List Cond := .code yX4_init cX4_init 1 none :: ((wsX4_init_r1 ++ (wsX4_init_r2 ++ wsX4_init_r3)) ++ wsX30 ++ wsX40 ++ wsX10 ++ wsX20 ++ wsX00)
def wsX4_isReading : List Cond := .code yX4_isReading cX4_isReading 1 (some .boolean) :: ([.methodLink RX4 53 yX4_isWithin, .static yX4_isWithin, .initialized RX4, .code yX4_isWithin cX4_isWithin 3 (some .boolean)])
def wsX4_mark_r1 : List Cond := [Cond.classLink RX4 41 "java/lang/IllegalArgumentException", Cond.initialized "java/lang/IllegalArgumentException", Cond.classLink RX4 62 "java/lang/IllegalStateException", Cond.initialized "java/lang/IllegalStateException", Cond.fieldLink RX4 10 "OutageBook" "offsets" "LOutageBook$Offsets;", Cond.fieldLink RX4 19 "OutageBook" "log" "LOutageBook$Log;", Cond.methodLink RX4 37 yX4_isClock, Cond.static yX4_isClock, Cond.initialized RX4, Cond.code yX4_isClock cX4_isClock 1 (some .boolean), Cond.methodLink RX4 53 yX4_isWithin, Cond.static yX4_isWithin, Cond.code yX4_isWithin cX4_isWithin 3 (some .boolean), Cond.methodLink RX4 48 yX4_isReading, Cond.static yX4_isReading, Cond.code yX4_isReading cX4_isReading 1 (some .boolean), Cond.methodLink RX4 59 yX3_allows, Cond.instanceMethod yX3_allows, Cond.selects RX3 yX3_allows yX3_allows, Cond.initialized RX3, Cond.code yX3_allows cX3_allows 4 (some .boolean), Cond.methodLink RX3 21 yX3_most, Cond.instanceMethod yX3_most, Cond.selects RX3 yX3_most yX3_most]
def wsX4_mark_r2 : List Cond := [Cond.code yX3_most cX3_most 3 (some .int), Cond.constant RX3 16 (1000000), Cond.fieldLink RX3 11 "OutageBook$Offsets" "differences" "[[I", Cond.methodLink RX4 67 yX3_bound, Cond.instanceMethod yX3_bound, Cond.selects RX3 yX3_bound yX3_bound, Cond.code yX3_bound cX3_bound 9 none, Cond.methodLink RX3 25 Lib.Math.min.name, Cond.static Lib.Math.min.name, Cond.initialized "java/lang/Math", Cond.code Lib.Math.min.name Lib.Math.min.code 2 (some .int), Cond.methodLink RX4 71 yX1_arrange, Cond.instanceMethod yX1_arrange, Cond.selects RX1 yX1_arrange yX1_arrange, Cond.initialized RX1, Cond.code yX1_arrange cX1_arrange 4 none, Cond.fieldLink RX1 38 "OutageBook$Log" "count" "I", Cond.fieldLink RX1 28 "OutageBook$Log" "before" "[I", Cond.fieldLink RX1 31 "OutageBook$Log" "order" "[I", Cond.methodLink RX1 65 yX1_allBefore, Cond.instanceMethod yX1_allBefore, Cond.selects RX1 yX1_allBefore yX1_allBefore, Cond.code yX1_allBefore cX1_allBefore 5 (some .int), Cond.methodLink RX1 75 yX1_isSurelyEarlier]
def wsX4_mark_r3 : List Cond := [Cond.instanceMethod yX1_isSurelyEarlier, Cond.selects RX1 yX1_isSurelyEarlier yX1_isSurelyEarlier, Cond.code yX1_isSurelyEarlier cX1_isSurelyEarlier 5 (some .boolean), Cond.fieldLink RX1 9 "OutageBook$Log" "clocks" "[I", Cond.constant RX1 57 (1000000), Cond.fieldLink RX1 15 "OutageBook$Log" "readings" "[I", Cond.methodLink RX1 42 yX1_holds, Cond.instanceMethod yX1_holds, Cond.selects RX1 yX1_holds yX1_holds, Cond.code yX1_holds cX1_holds 2 (some .boolean), Cond.methodLink RX1 51 yX3_most, Cond.static yX4_bit, Cond.code yX4_bit cX4_bit 1 (some .int), Cond.methodLink RX1 72 yX1_nextLine, Cond.instanceMethod yX1_nextLine, Cond.selects RX1 yX1_nextLine yX1_nextLine, Cond.code yX1_nextLine cX1_nextLine 3 (some .int), Cond.static yX4_hasBit, Cond.code yX4_hasBit cX4_hasBit 2 (some .boolean), Cond.methodLink RX4 188 yX4_bit]
def wsX4_mark : List Cond := .code yX4_mark cX4_mark 7 none :: ((wsX4_mark_r1 ++ (wsX4_mark_r2 ++ wsX4_mark_r3)) ++ wsX40 ++ wsX30 ++ wsX10 ++ (vx_atS RX4 45 "java/lang/IllegalArgumentException" ["java/lang/RuntimeException", "java/lang/Exception"]).filter goodWord ++ (vx_atS RX4 66 "java/lang/IllegalStateException" ["java/lang/RuntimeException", "java/lang/Exception"]).filter goodWord)
def wsX4_greatest : List Cond := .code yX4_greatest cX4_greatest 3 (some .int) :: ([.classLink RX4 41 "java/lang/IllegalArgumentException", .initialized "java/lang/IllegalArgumentException", .fieldLink RX4 10 "OutageBook" "offsets" "LOutageBook$Offsets;", .methodLink RX4 37 yX4_isClock, .static yX4_isClock, .initialized RX4, .code yX4_isClock cX4_isClock 1 (some .boolean), .methodLink RX4 53 yX4_isWithin, .static yX4_isWithin, .code yX4_isWithin cX4_isWithin 3 (some .boolean), .methodLink RX4 77 yX3_most, .instanceMethod yX3_most, .selects RX3 yX3_most yX3_most, .initialized RX3, .code yX3_most cX3_most 3 (some .int), .constant RX3 16 (1000000), .fieldLink RX3 11 "OutageBook$Offsets" "differences" "[[I"] ++ wsX40 ++ wsX30 ++ (vx_atS RX4 45 "java/lang/IllegalArgumentException" ["java/lang/RuntimeException", "java/lang/Exception"]).filter goodWord)
def wsX4_isService : List Cond := .code yX4_isService cX4_isService 1 (some .boolean) :: ([.methodLink RX4 53 yX4_isWithin, .static yX4_isWithin, .initialized RX4, .code yX4_isWithin cX4_isWithin 3 (some .boolean)])
def wsX4_write_r1 : List Cond := [Cond.classLink RX4 41 "java/lang/IllegalArgumentException", Cond.initialized "java/lang/IllegalArgumentException", Cond.classLink RX4 62 "java/lang/IllegalStateException", Cond.initialized "java/lang/IllegalStateException", Cond.fieldLink RX4 19 "OutageBook" "log" "LOutageBook$Log;", Cond.fieldLink RX4 10 "OutageBook" "offsets" "LOutageBook$Offsets;", Cond.methodLink RX4 37 yX4_isClock, Cond.static yX4_isClock, Cond.initialized RX4, Cond.code yX4_isClock cX4_isClock 1 (some .boolean), Cond.methodLink RX4 53 yX4_isWithin, Cond.static yX4_isWithin, Cond.code yX4_isWithin cX4_isWithin 3 (some .boolean), Cond.methodLink RX4 48 yX4_isReading, Cond.static yX4_isReading, Cond.code yX4_isReading cX4_isReading 1 (some .boolean), Cond.methodLink RX4 81 yX4_isService, Cond.static yX4_isService, Cond.code yX4_isService cX4_isService 1 (some .boolean), Cond.methodLink RX4 86 yX1_size, Cond.instanceMethod yX1_size, Cond.selects RX1 yX1_size yX1_size, Cond.initialized RX1, Cond.code yX1_size cX1_size 1 (some .int)]
def wsX4_write_r2 : List Cond := [Cond.fieldLink RX1 38 "OutageBook$Log" "count" "I", Cond.methodLink RX4 92 yX1_add, Cond.instanceMethod yX1_add, Cond.selects RX1 yX1_add yX1_add, Cond.code yX1_add cX1_add 6 (some .int), Cond.fieldLink RX1 9 "OutageBook$Log" "clocks" "[I", Cond.fieldLink RX1 15 "OutageBook$Log" "readings" "[I", Cond.fieldLink RX1 18 "OutageBook$Log" "services" "[I", Cond.fieldLink RX1 21 "OutageBook$Log" "arePublic" "[Z", Cond.methodLink RX4 71 yX1_arrange, Cond.instanceMethod yX1_arrange, Cond.selects RX1 yX1_arrange yX1_arrange, Cond.code yX1_arrange cX1_arrange 4 none, Cond.fieldLink RX1 28 "OutageBook$Log" "before" "[I", Cond.fieldLink RX1 31 "OutageBook$Log" "order" "[I", Cond.methodLink RX1 65 yX1_allBefore, Cond.instanceMethod yX1_allBefore, Cond.selects RX1 yX1_allBefore yX1_allBefore, Cond.code yX1_allBefore cX1_allBefore 5 (some .int), Cond.methodLink RX1 75 yX1_isSurelyEarlier, Cond.instanceMethod yX1_isSurelyEarlier, Cond.selects RX1 yX1_isSurelyEarlier yX1_isSurelyEarlier, Cond.code yX1_isSurelyEarlier cX1_isSurelyEarlier 5 (some .boolean), Cond.constant RX1 57 (1000000)]
def wsX4_write_r3 : List Cond := [Cond.methodLink RX1 42 yX1_holds, Cond.instanceMethod yX1_holds, Cond.selects RX1 yX1_holds yX1_holds, Cond.code yX1_holds cX1_holds 2 (some .boolean), Cond.methodLink RX1 51 yX3_most, Cond.instanceMethod yX3_most, Cond.selects RX3 yX3_most yX3_most, Cond.initialized RX3, Cond.code yX3_most cX3_most 3 (some .int), Cond.constant RX3 16 (1000000), Cond.fieldLink RX3 11 "OutageBook$Offsets" "differences" "[[I", Cond.static yX4_bit, Cond.code yX4_bit cX4_bit 1 (some .int), Cond.methodLink RX1 72 yX1_nextLine, Cond.instanceMethod yX1_nextLine, Cond.selects RX1 yX1_nextLine yX1_nextLine, Cond.code yX1_nextLine cX1_nextLine 3 (some .int), Cond.static yX4_hasBit, Cond.code yX4_hasBit cX4_hasBit 2 (some .boolean), Cond.methodLink RX4 188 yX4_bit]
def wsX4_write : List Cond := .code yX4_write cX4_write 6 (some .int) :: ((wsX4_write_r1 ++ (wsX4_write_r2 ++ wsX4_write_r3)) ++ wsX40 ++ wsX10 ++ wsX30 ++ (vx_atS RX4 45 "java/lang/IllegalArgumentException" ["java/lang/RuntimeException", "java/lang/Exception"]).filter goodWord ++ (vx_atS RX4 66 "java/lang/IllegalStateException" ["java/lang/RuntimeException", "java/lang/Exception"]).filter goodWord)
def wsX4_lines : List Cond := .code yX4_lines cX4_lines 1 (some .int) :: ([.fieldLink RX4 19 "OutageBook" "log" "LOutageBook$Log;", .methodLink RX4 86 yX1_size, .instanceMethod yX1_size, .selects RX1 yX1_size yX1_size, .initialized RX1, .code yX1_size cX1_size 1 (some .int), .fieldLink RX1 38 "OutageBook$Log" "count" "I"] ++ wsX40 ++ wsX10)
def wsX4_mustComeBefore : List Cond := .code yX4_mustComeBefore cX4_mustComeBefore 3 (some .boolean) :: ([.classLink RX4 99 "java/lang/IndexOutOfBoundsException", .initialized "java/lang/IndexOutOfBoundsException", .fieldLink RX4 19 "OutageBook" "log" "LOutageBook$Log;", .methodLink RX4 96 yX1_holds, .instanceMethod yX1_holds, .selects RX1 yX1_holds yX1_holds, .initialized RX1, .code yX1_holds cX1_holds 2 (some .boolean), .fieldLink RX1 38 "OutageBook$Log" "count" "I", .methodLink RX4 104 yX1_isBefore, .instanceMethod yX1_isBefore, .selects RX1 yX1_isBefore yX1_isBefore, .code yX1_isBefore cX1_isBefore 3 (some .boolean), .fieldLink RX1 28 "OutageBook$Log" "before" "[I", .methodLink RX1 42 yX1_holds, .static yX4_hasBit, .initialized RX4, .code yX4_hasBit cX4_hasBit 2 (some .boolean), .methodLink RX4 188 yX4_bit, .static yX4_bit, .code yX4_bit cX4_bit 1 (some .int)] ++ wsX40 ++ wsX10 ++ (vx_atS RX4 103 "java/lang/IndexOutOfBoundsException" ["java/lang/RuntimeException", "java/lang/Exception"]).filter goodWord)
def wsX4_lineAt : List Cond := .code yX4_lineAt cX4_lineAt 2 (some .int) :: ([.classLink RX4 99 "java/lang/IndexOutOfBoundsException", .initialized "java/lang/IndexOutOfBoundsException", .fieldLink RX4 19 "OutageBook" "log" "LOutageBook$Log;", .methodLink RX4 96 yX1_holds, .instanceMethod yX1_holds, .selects RX1 yX1_holds yX1_holds, .initialized RX1, .code yX1_holds cX1_holds 2 (some .boolean), .fieldLink RX1 38 "OutageBook$Log" "count" "I", .methodLink RX4 110 yX1_at, .instanceMethod yX1_at, .selects RX1 yX1_at yX1_at, .code yX1_at cX1_at 2 (some .int), .fieldLink RX1 31 "OutageBook$Log" "order" "[I", .methodLink RX1 42 yX1_holds] ++ wsX40 ++ wsX10 ++ (vx_atS RX4 103 "java/lang/IndexOutOfBoundsException" ["java/lang/RuntimeException", "java/lang/Exception"]).filter goodWord)
def wsX4_orders : List Cond := .code yX4_orders cX4_orders 1 (some .long) :: ([.classLink RX4 62 "java/lang/IllegalStateException", .initialized "java/lang/IllegalStateException", .fieldLink RX4 19 "OutageBook" "log" "LOutageBook$Log;", .methodLink RX4 86 yX1_size, .instanceMethod yX1_size, .selects RX1 yX1_size yX1_size, .initialized RX1, .code yX1_size cX1_size 1 (some .int), .fieldLink RX1 38 "OutageBook$Log" "count" "I", .methodLink RX4 116 yX1_countOrders, .instanceMethod yX1_countOrders, .selects RX1 yX1_countOrders yX1_countOrders, .code yX1_countOrders cX1_countOrders 5 (some .long), .fieldLink RX1 34 "OutageBook$Log" "beginnings" "[J", .static yX4_bit, .initialized RX4, .code yX4_bit cX4_bit 1 (some .int), .methodLink RX1 79 yX1_countBeginnings, .instanceMethod yX1_countBeginnings, .selects RX1 yX1_countBeginnings yX1_countBeginnings, .code yX1_countBeginnings cX1_countBeginnings 7 (some .long), .fieldLink RX1 28 "OutageBook$Log" "before" "[I"] ++ wsX40 ++ wsX10 ++ (vx_atS RX4 66 "java/lang/IllegalStateException" ["java/lang/RuntimeException", "java/lang/Exception"]).filter goodWord)
def wsX4_argue : List Cond := .code yX4_argue cX4_argue 4 (some .int) :: ([.classLink RX4 99 "java/lang/IndexOutOfBoundsException", .initialized "java/lang/IndexOutOfBoundsException", .classLink RX4 41 "java/lang/IllegalArgumentException", .initialized "java/lang/IllegalArgumentException", .fieldLink RX4 19 "OutageBook" "log" "LOutageBook$Log;", .methodLink RX4 96 yX1_holds, .instanceMethod yX1_holds, .selects RX1 yX1_holds yX1_holds, .initialized RX1, .code yX1_holds cX1_holds 2 (some .boolean), .fieldLink RX1 38 "OutageBook$Log" "count" "I", .methodLink RX4 53 yX4_isWithin, .static yX4_isWithin, .initialized RX4, .code yX4_isWithin cX4_isWithin 3 (some .boolean), .methodLink RX4 122 yX1_weigh, .instanceMethod yX1_weigh, .selects RX1 yX1_weigh yX1_weigh, .code yX1_weigh cX1_weigh 3 (some .int), .fieldLink RX1 25 "OutageBook$Log" "balances" "[I", .methodLink RX1 42 yX1_holds] ++ wsX40 ++ wsX10 ++ (vx_atS RX4 103 "java/lang/IndexOutOfBoundsException" ["java/lang/RuntimeException", "java/lang/Exception"]).filter goodWord ++ (vx_atS RX4 45 "java/lang/IllegalArgumentException" ["java/lang/RuntimeException", "java/lang/Exception"]).filter goodWord)
def wsX4_isDoubtful : List Cond := .code yX4_isDoubtful cX4_isDoubtful 2 (some .boolean) :: ([.classLink RX4 99 "java/lang/IndexOutOfBoundsException", .initialized "java/lang/IndexOutOfBoundsException", .fieldLink RX4 19 "OutageBook" "log" "LOutageBook$Log;", .methodLink RX4 96 yX1_holds, .instanceMethod yX1_holds, .selects RX1 yX1_holds yX1_holds, .initialized RX1, .code yX1_holds cX1_holds 2 (some .boolean), .fieldLink RX1 38 "OutageBook$Log" "count" "I", .methodLink RX4 125 yX1_isDoubted, .instanceMethod yX1_isDoubted, .selects RX1 yX1_isDoubted yX1_isDoubted, .code yX1_isDoubted cX1_isDoubted 2 (some .boolean), .fieldLink RX1 25 "OutageBook$Log" "balances" "[I", .methodLink RX1 42 yX1_holds] ++ wsX40 ++ wsX10 ++ (vx_atS RX4 103 "java/lang/IndexOutOfBoundsException" ["java/lang/RuntimeException", "java/lang/Exception"]).filter goodWord)
def wsX4_story : List Cond := .code yX4_story cX4_story 1 (some .int) :: ([.fieldLink RX4 19 "OutageBook" "log" "LOutageBook$Log;", .methodLink RX4 128 yX1_storySize, .instanceMethod yX1_storySize, .selects RX1 yX1_storySize yX1_storySize, .initialized RX1, .code yX1_storySize cX1_storySize 3 (some .int), .fieldLink RX1 38 "OutageBook$Log" "count" "I", .methodLink RX1 58 yX1_at, .instanceMethod yX1_at, .selects RX1 yX1_at yX1_at, .code yX1_at cX1_at 2 (some .int), .fieldLink RX1 31 "OutageBook$Log" "order" "[I", .methodLink RX1 42 yX1_holds, .instanceMethod yX1_holds, .selects RX1 yX1_holds yX1_holds, .code yX1_holds cX1_holds 2 (some .boolean), .methodLink RX1 62 yX1_isInStory, .instanceMethod yX1_isInStory, .selects RX1 yX1_isInStory yX1_isInStory, .code yX1_isInStory cX1_isInStory 2 (some .boolean), .fieldLink RX1 21 "OutageBook$Log" "arePublic" "[Z", .fieldLink RX1 25 "OutageBook$Log" "balances" "[I"] ++ wsX40 ++ wsX10)
def wsX4_storyAt : List Cond := .code yX4_storyAt cX4_storyAt 3 (some .int) :: ([.classLink RX4 99 "java/lang/IndexOutOfBoundsException", .initialized "java/lang/IndexOutOfBoundsException", .fieldLink RX4 19 "OutageBook" "log" "LOutageBook$Log;", .methodLink RX4 131 yX1_storyLine, .instanceMethod yX1_storyLine, .selects RX1 yX1_storyLine yX1_storyLine, .initialized RX1, .code yX1_storyLine cX1_storyLine 5 (some .int), .fieldLink RX1 38 "OutageBook$Log" "count" "I", .methodLink RX1 58 yX1_at, .instanceMethod yX1_at, .selects RX1 yX1_at yX1_at, .code yX1_at cX1_at 2 (some .int), .fieldLink RX1 31 "OutageBook$Log" "order" "[I", .methodLink RX1 42 yX1_holds, .instanceMethod yX1_holds, .selects RX1 yX1_holds yX1_holds, .code yX1_holds cX1_holds 2 (some .boolean), .methodLink RX1 62 yX1_isInStory, .instanceMethod yX1_isInStory, .selects RX1 yX1_isInStory yX1_isInStory, .code yX1_isInStory cX1_isInStory 2 (some .boolean), .fieldLink RX1 21 "OutageBook$Log" "arePublic" "[Z", .fieldLink RX1 25 "OutageBook$Log" "balances" "[I"] ++ wsX40 ++ wsX10 ++ (vx_atS RX4 103 "java/lang/IndexOutOfBoundsException" ["java/lang/RuntimeException", "java/lang/Exception"]).filter goodWord)
def wsX4_earliest_r1 : List Cond := [Cond.classLink RX4 99 "java/lang/IndexOutOfBoundsException", Cond.initialized "java/lang/IndexOutOfBoundsException", Cond.fieldLink RX4 19 "OutageBook" "log" "LOutageBook$Log;", Cond.fieldLink RX4 10 "OutageBook" "offsets" "LOutageBook$Offsets;", Cond.methodLink RX4 96 yX1_holds, Cond.instanceMethod yX1_holds, Cond.selects RX1 yX1_holds yX1_holds, Cond.initialized RX1, Cond.code yX1_holds cX1_holds 2 (some .boolean), Cond.fieldLink RX1 38 "OutageBook$Log" "count" "I", Cond.methodLink RX4 134 yX1_earliestTime, Cond.instanceMethod yX1_earliestTime, Cond.selects RX1 yX1_earliestTime yX1_earliestTime, Cond.code yX1_earliestTime cX1_earliestTime 4 (some .int), Cond.constant RX1 50 (-1000000), Cond.fieldLink RX1 9 "OutageBook$Log" "clocks" "[I", Cond.constant RX1 57 (1000000), Cond.fieldLink RX1 15 "OutageBook$Log" "readings" "[I", Cond.methodLink RX1 42 yX1_holds, Cond.methodLink RX1 51 yX3_most, Cond.instanceMethod yX3_most, Cond.selects RX3 yX3_most yX3_most, Cond.initialized RX3, Cond.code yX3_most cX3_most 3 (some .int)]
def wsX4_earliest_r2 : List Cond := [Cond.constant RX3 16 (1000000), Cond.fieldLink RX3 11 "OutageBook$Offsets" "differences" "[[I", Cond.static yX4_isClock, Cond.initialized RX4, Cond.code yX4_isClock cX4_isClock 1 (some .boolean), Cond.methodLink RX4 53 yX4_isWithin, Cond.static yX4_isWithin, Cond.code yX4_isWithin cX4_isWithin 3 (some .boolean)]
def wsX4_earliest : List Cond := .code yX4_earliest cX4_earliest 2 (some .int) :: ((wsX4_earliest_r1 ++ wsX4_earliest_r2) ++ wsX40 ++ wsX10 ++ wsX30 ++ (vx_atS RX4 103 "java/lang/IndexOutOfBoundsException" ["java/lang/RuntimeException", "java/lang/Exception"]).filter goodWord)
def wsX4_firstOf_r1 : List Cond := [Cond.classLink RX4 41 "java/lang/IllegalArgumentException", Cond.initialized "java/lang/IllegalArgumentException", Cond.fieldLink RX4 19 "OutageBook" "log" "LOutageBook$Log;", Cond.methodLink RX4 81 yX4_isService, Cond.static yX4_isService, Cond.initialized RX4, Cond.code yX4_isService cX4_isService 1 (some .boolean), Cond.methodLink RX4 53 yX4_isWithin, Cond.static yX4_isWithin, Cond.code yX4_isWithin cX4_isWithin 3 (some .boolean), Cond.methodLink RX4 140 yX1_firstLine, Cond.instanceMethod yX1_firstLine, Cond.selects RX1 yX1_firstLine yX1_firstLine, Cond.initialized RX1, Cond.code yX1_firstLine cX1_firstLine 4 (some .int), Cond.fieldLink RX1 38 "OutageBook$Log" "count" "I", Cond.fieldLink RX1 18 "OutageBook$Log" "services" "[I", Cond.methodLink RX1 58 yX1_at, Cond.instanceMethod yX1_at, Cond.selects RX1 yX1_at yX1_at, Cond.code yX1_at cX1_at 2 (some .int), Cond.fieldLink RX1 31 "OutageBook$Log" "order" "[I", Cond.methodLink RX1 42 yX1_holds, Cond.instanceMethod yX1_holds]
def wsX4_firstOf_r2 : List Cond := [Cond.selects RX1 yX1_holds yX1_holds, Cond.code yX1_holds cX1_holds 2 (some .boolean)]
def wsX4_firstOf : List Cond := .code yX4_firstOf cX4_firstOf 2 (some .int) :: ((wsX4_firstOf_r1 ++ wsX4_firstOf_r2) ++ wsX40 ++ wsX10 ++ (vx_atS RX4 45 "java/lang/IllegalArgumentException" ["java/lang/RuntimeException", "java/lang/Exception"]).filter goodWord)
def wsX4_measure_r1 : List Cond := [Cond.classLink RX4 41 "java/lang/IllegalArgumentException", Cond.initialized "java/lang/IllegalArgumentException", Cond.classLink RX4 62 "java/lang/IllegalStateException", Cond.initialized "java/lang/IllegalStateException", Cond.fieldLink RX4 26 "OutageBook" "measures" "LOutageBook$Measures;", Cond.methodLink RX4 81 yX4_isService, Cond.static yX4_isService, Cond.initialized RX4, Cond.code yX4_isService cX4_isService 1 (some .boolean), Cond.methodLink RX4 53 yX4_isWithin, Cond.static yX4_isWithin, Cond.code yX4_isWithin cX4_isWithin 3 (some .boolean), Cond.methodLink RX4 147 yX2_size, Cond.instanceMethod yX2_size, Cond.selects RX2 yX2_size yX2_size, Cond.initialized RX2, Cond.code yX2_size cX2_size 1 (some .int), Cond.fieldLink RX2 24 "OutageBook$Measures" "count" "I", Cond.methodLink RX4 150 yX2_add, Cond.instanceMethod yX2_add, Cond.selects RX2 yX2_add yX2_add, Cond.code yX2_add cX2_add 6 (some .int), Cond.fieldLink RX2 9 "OutageBook$Measures" "services" "[I", Cond.fieldLink RX2 15 "OutageBook$Measures" "starts" "[I"]
def wsX4_measure_r2 : List Cond := [Cond.fieldLink RX2 18 "OutageBook$Measures" "ends" "[I", Cond.fieldLink RX2 21 "OutageBook$Measures" "percents" "[I"]
def wsX4_measure : List Cond := .code yX4_measure cX4_measure 5 (some .int) :: ((wsX4_measure_r1 ++ wsX4_measure_r2) ++ wsX40 ++ wsX20 ++ (vx_atS RX4 45 "java/lang/IllegalArgumentException" ["java/lang/RuntimeException", "java/lang/Exception"]).filter goodWord ++ (vx_atS RX4 66 "java/lang/IllegalStateException" ["java/lang/RuntimeException", "java/lang/Exception"]).filter goodWord)
def wsX4_impact_r1 : List Cond := [Cond.classLink RX4 41 "java/lang/IllegalArgumentException", Cond.initialized "java/lang/IllegalArgumentException", Cond.fieldLink RX4 26 "OutageBook" "measures" "LOutageBook$Measures;", Cond.methodLink RX4 81 yX4_isService, Cond.static yX4_isService, Cond.initialized RX4, Cond.code yX4_isService cX4_isService 1 (some .boolean), Cond.methodLink RX4 53 yX4_isWithin, Cond.static yX4_isWithin, Cond.code yX4_isWithin cX4_isWithin 3 (some .boolean), Cond.methodLink RX4 153 yX2_sumOfWorst, Cond.instanceMethod yX2_sumOfWorst, Cond.selects RX2 yX2_sumOfWorst yX2_sumOfWorst, Cond.initialized RX2, Cond.code yX2_sumOfWorst cX2_sumOfWorst 6 (some .int), Cond.fieldLink RX2 24 "OutageBook$Measures" "count" "I", Cond.methodLink RX2 28 yX2_nextChange, Cond.instanceMethod yX2_nextChange, Cond.selects RX2 yX2_nextChange yX2_nextChange, Cond.code yX2_nextChange cX2_nextChange 5 (some .int), Cond.fieldLink RX2 18 "OutageBook$Measures" "ends" "[I", Cond.fieldLink RX2 15 "OutageBook$Measures" "starts" "[I", Cond.methodLink RX2 36 Lib.Math.min.name, Cond.static Lib.Math.min.name]
def wsX4_impact_r2 : List Cond := [Cond.initialized "java/lang/Math", Cond.code Lib.Math.min.name Lib.Math.min.code 2 (some .int), Cond.methodLink RX2 32 yX2_worst, Cond.instanceMethod yX2_worst, Cond.selects RX2 yX2_worst yX2_worst, Cond.code yX2_worst cX2_worst 6 (some .int), Cond.fieldLink RX2 9 "OutageBook$Measures" "services" "[I", Cond.fieldLink RX2 21 "OutageBook$Measures" "percents" "[I", Cond.methodLink RX2 45 Lib.Math.max.name, Cond.static Lib.Math.max.name, Cond.code Lib.Math.max.name Lib.Math.max.code 2 (some .int)]
def wsX4_impact : List Cond := .code yX4_impact cX4_impact 2 (some .int) :: ((wsX4_impact_r1 ++ wsX4_impact_r2) ++ wsX40 ++ wsX20 ++ (vx_atS RX4 45 "java/lang/IllegalArgumentException" ["java/lang/RuntimeException", "java/lang/Exception"]).filter goodWord)
def wsX4_minutes_r1 : List Cond := [Cond.fieldLink RX4 26 "OutageBook" "measures" "LOutageBook$Measures;", Cond.methodLink RX4 156 yX2_failedMinutes, Cond.instanceMethod yX2_failedMinutes, Cond.selects RX2 yX2_failedMinutes yX2_failedMinutes, Cond.initialized RX2, Cond.code yX2_failedMinutes cX2_failedMinutes 5 (some .int), Cond.fieldLink RX2 24 "OutageBook$Measures" "count" "I", Cond.methodLink RX2 28 yX2_nextChange, Cond.instanceMethod yX2_nextChange, Cond.selects RX2 yX2_nextChange yX2_nextChange, Cond.code yX2_nextChange cX2_nextChange 5 (some .int), Cond.fieldLink RX2 18 "OutageBook$Measures" "ends" "[I", Cond.fieldLink RX2 15 "OutageBook$Measures" "starts" "[I", Cond.methodLink RX2 36 Lib.Math.min.name, Cond.static Lib.Math.min.name, Cond.initialized "java/lang/Math", Cond.code Lib.Math.min.name Lib.Math.min.code 2 (some .int), Cond.methodLink RX2 32 yX2_worst, Cond.instanceMethod yX2_worst, Cond.selects RX2 yX2_worst yX2_worst, Cond.code yX2_worst cX2_worst 6 (some .int), Cond.fieldLink RX2 9 "OutageBook$Measures" "services" "[I", Cond.fieldLink RX2 21 "OutageBook$Measures" "percents" "[I", Cond.methodLink RX2 45 Lib.Math.max.name]
def wsX4_minutes_r2 : List Cond := [Cond.static Lib.Math.max.name, Cond.code Lib.Math.max.name Lib.Math.max.code 2 (some .int), Cond.static yX4_isWithin, Cond.initialized RX4, Cond.code yX4_isWithin cX4_isWithin 3 (some .boolean)]
def wsX4_minutes : List Cond := .code yX4_minutes cX4_minutes 1 (some .int) :: ((wsX4_minutes_r1 ++ wsX4_minutes_r2) ++ wsX40 ++ wsX20)
def wsX4_addCause : List Cond := .code yX4_addCause cX4_addCause 1 (some .int) :: ([.classLink RX4 62 "java/lang/IllegalStateException", .initialized "java/lang/IllegalStateException", .fieldLink RX4 33 "OutageBook" "causes" "LOutageBook$Causes;", .methodLink RX4 159 yX0_size, .instanceMethod yX0_size, .selects RX0 yX0_size yX0_size, .initialized RX0, .code yX0_size cX0_size 1 (some .int), .fieldLink RX0 20 "OutageBook$Causes" "count" "I", .methodLink RX4 162 yX0_add, .instanceMethod yX0_add, .selects RX0 yX0_add yX0_add, .code yX0_add cX0_add 2 (some .int), .fieldLink RX0 16 "OutageBook$Causes" "standing" "I", .static yX4_bit, .initialized RX4, .code yX4_bit cX4_bit 1 (some .int)] ++ wsX40 ++ wsX00 ++ (vx_atS RX4 66 "java/lang/IllegalStateException" ["java/lang/RuntimeException", "java/lang/Exception"]).filter goodWord)
def wsX4_argueReason_r1 : List Cond := [Cond.classLink RX4 99 "java/lang/IndexOutOfBoundsException", Cond.initialized "java/lang/IndexOutOfBoundsException", Cond.classLink RX4 41 "java/lang/IllegalArgumentException", Cond.initialized "java/lang/IllegalArgumentException", Cond.classLink RX4 62 "java/lang/IllegalStateException", Cond.initialized "java/lang/IllegalStateException", Cond.fieldLink RX4 33 "OutageBook" "causes" "LOutageBook$Causes;", Cond.methodLink RX4 164 yX0_holds, Cond.instanceMethod yX0_holds, Cond.selects RX0 yX0_holds yX0_holds, Cond.initialized RX0, Cond.code yX0_holds cX0_holds 2 (some .boolean), Cond.fieldLink RX0 20 "OutageBook$Causes" "count" "I", Cond.methodLink RX4 53 yX4_isWithin, Cond.static yX4_isWithin, Cond.initialized RX4, Cond.code yX4_isWithin cX4_isWithin 3 (some .boolean), Cond.methodLink RX4 169 yX0_isBecauseOf, Cond.instanceMethod yX0_isBecauseOf, Cond.selects RX0 yX0_isBecauseOf yX0_isBecauseOf, Cond.code yX0_isBecauseOf cX0_isBecauseOf 3 (some .boolean), Cond.static yX4_bit, Cond.code yX4_bit cX4_bit 1 (some .int), Cond.methodLink RX0 35 yX0_reach]
def wsX4_argueReason_r2 : List Cond := [Cond.instanceMethod yX0_reach, Cond.selects RX0 yX0_reach yX0_reach, Cond.code yX0_reach cX0_reach 6 (some .int), Cond.static yX4_hasBit, Cond.code yX4_hasBit cX4_hasBit 2 (some .boolean), Cond.methodLink RX4 188 yX4_bit, Cond.methodLink RX0 39 yX0_reasonsOf, Cond.instanceMethod yX0_reasonsOf, Cond.selects RX0 yX0_reasonsOf yX0_reasonsOf, Cond.code yX0_reasonsOf cX0_reasonsOf 4 (some .int), Cond.methodLink RX0 42 yX0_weight, Cond.instanceMethod yX0_weight, Cond.selects RX0 yX0_weight yX0_weight, Cond.code yX0_weight cX0_weight 3 (some .int), Cond.fieldLink RX0 11 "OutageBook$Causes" "weights" "[[I", Cond.methodLink RX0 27 yX0_holds, Cond.methodLink RX4 174 yX0_replaceWeight, Cond.instanceMethod yX0_replaceWeight, Cond.selects RX0 yX0_replaceWeight yX0_replaceWeight, Cond.code yX0_replaceWeight cX0_replaceWeight 5 (some .int)]
def wsX4_argueReason : List Cond := .code yX4_argueReason cX4_argueReason 4 (some .int) :: ((wsX4_argueReason_r1 ++ wsX4_argueReason_r2) ++ wsX40 ++ wsX00 ++ (vx_atS RX4 103 "java/lang/IndexOutOfBoundsException" ["java/lang/RuntimeException", "java/lang/Exception"]).filter goodWord ++ (vx_atS RX4 45 "java/lang/IllegalArgumentException" ["java/lang/RuntimeException", "java/lang/Exception"]).filter goodWord ++ (vx_atS RX4 66 "java/lang/IllegalStateException" ["java/lang/RuntimeException", "java/lang/Exception"]).filter goodWord)
def wsX4_setStanding : List Cond := .code yX4_setStanding cX4_setStanding 3 (some .boolean) :: ([.classLink RX4 99 "java/lang/IndexOutOfBoundsException", .initialized "java/lang/IndexOutOfBoundsException", .fieldLink RX4 33 "OutageBook" "causes" "LOutageBook$Causes;", .methodLink RX4 164 yX0_holds, .instanceMethod yX0_holds, .selects RX0 yX0_holds yX0_holds, .initialized RX0, .code yX0_holds cX0_holds 2 (some .boolean), .fieldLink RX0 20 "OutageBook$Causes" "count" "I", .methodLink RX4 178 yX0_replaceStanding, .instanceMethod yX0_replaceStanding, .selects RX0 yX0_replaceStanding yX0_replaceStanding, .code yX0_replaceStanding cX0_replaceStanding 4 (some .boolean), .fieldLink RX0 16 "OutageBook$Causes" "standing" "I", .static yX4_hasBit, .initialized RX4, .code yX4_hasBit cX4_hasBit 2 (some .boolean), .methodLink RX4 188 yX4_bit, .static yX4_bit, .code yX4_bit cX4_bit 1 (some .int)] ++ wsX40 ++ wsX00 ++ (vx_atS RX4 103 "java/lang/IndexOutOfBoundsException" ["java/lang/RuntimeException", "java/lang/Exception"]).filter goodWord)
def wsX4_roots_r1 : List Cond := [Cond.classLink RX4 99 "java/lang/IndexOutOfBoundsException", Cond.initialized "java/lang/IndexOutOfBoundsException", Cond.fieldLink RX4 33 "OutageBook" "causes" "LOutageBook$Causes;", Cond.methodLink RX4 164 yX0_holds, Cond.instanceMethod yX0_holds, Cond.selects RX0 yX0_holds yX0_holds, Cond.initialized RX0, Cond.code yX0_holds cX0_holds 2 (some .boolean), Cond.fieldLink RX0 20 "OutageBook$Causes" "count" "I", Cond.methodLink RX4 182 yX0_rootsUnder, Cond.instanceMethod yX0_rootsUnder, Cond.selects RX0 yX0_rootsUnder yX0_rootsUnder, Cond.code yX0_rootsUnder cX0_rootsUnder 5 (some .int), Cond.fieldLink RX0 16 "OutageBook$Causes" "standing" "I", Cond.static yX4_hasBit, Cond.initialized RX4, Cond.code yX4_hasBit cX4_hasBit 2 (some .boolean), Cond.methodLink RX4 188 yX4_bit, Cond.static yX4_bit, Cond.code yX4_bit cX4_bit 1 (some .int), Cond.methodLink RX0 35 yX0_reach, Cond.instanceMethod yX0_reach, Cond.selects RX0 yX0_reach yX0_reach, Cond.code yX0_reach cX0_reach 6 (some .int)]
def wsX4_roots_r2 : List Cond := [Cond.methodLink RX0 39 yX0_reasonsOf, Cond.instanceMethod yX0_reasonsOf, Cond.selects RX0 yX0_reasonsOf yX0_reasonsOf, Cond.code yX0_reasonsOf cX0_reasonsOf 4 (some .int), Cond.methodLink RX0 42 yX0_weight, Cond.instanceMethod yX0_weight, Cond.selects RX0 yX0_weight yX0_weight, Cond.code yX0_weight cX0_weight 3 (some .int), Cond.fieldLink RX0 11 "OutageBook$Causes" "weights" "[[I", Cond.methodLink RX0 27 yX0_holds]
def wsX4_roots : List Cond := .code yX4_roots cX4_roots 2 (some .int) :: ((wsX4_roots_r1 ++ wsX4_roots_r2) ++ wsX40 ++ wsX00 ++ (vx_atS RX4 103 "java/lang/IndexOutOfBoundsException" ["java/lang/RuntimeException", "java/lang/Exception"]).filter goodWord)
def wsX4_mainReason_r1 : List Cond := [Cond.classLink RX4 99 "java/lang/IndexOutOfBoundsException", Cond.initialized "java/lang/IndexOutOfBoundsException", Cond.fieldLink RX4 33 "OutageBook" "causes" "LOutageBook$Causes;", Cond.methodLink RX4 164 yX0_holds, Cond.instanceMethod yX0_holds, Cond.selects RX0 yX0_holds yX0_holds, Cond.initialized RX0, Cond.code yX0_holds cX0_holds 2 (some .boolean), Cond.fieldLink RX0 20 "OutageBook$Causes" "count" "I", Cond.methodLink RX4 185 yX0_weightiestReason, Cond.instanceMethod yX0_weightiestReason, Cond.selects RX0 yX0_weightiestReason yX0_weightiestReason, Cond.code yX0_weightiestReason cX0_weightiestReason 6 (some .int), Cond.fieldLink RX0 16 "OutageBook$Causes" "standing" "I", Cond.methodLink RX0 42 yX0_weight, Cond.instanceMethod yX0_weight, Cond.selects RX0 yX0_weight yX0_weight, Cond.code yX0_weight cX0_weight 3 (some .int), Cond.fieldLink RX0 11 "OutageBook$Causes" "weights" "[[I", Cond.methodLink RX0 27 yX0_holds, Cond.static yX4_hasBit, Cond.initialized RX4, Cond.code yX4_hasBit cX4_hasBit 2 (some .boolean), Cond.methodLink RX4 188 yX4_bit]
def wsX4_mainReason_r2 : List Cond := [Cond.static yX4_bit, Cond.code yX4_bit cX4_bit 1 (some .int)]
def wsX4_mainReason : List Cond := .code yX4_mainReason cX4_mainReason 2 (some .int) :: ((wsX4_mainReason_r1 ++ wsX4_mainReason_r2) ++ wsX40 ++ wsX00 ++ (vx_atS RX4 103 "java/lang/IndexOutOfBoundsException" ["java/lang/RuntimeException", "java/lang/Exception"]).filter goodWord)
def wsX5_init : List Cond := .code yX5_init cX5_init 2 none :: ([.methodLink RX5 1 objectInit, .instanceMethod objectInit, .code objectInit ⟨#[0xb1]⟩ 1 none, .arrayClass .int, .fieldLink RX5 7 "OutageBookModel" "bounds" "[I", .fieldLink RX5 13 "OutageBookModel" "tried" "[I", .fieldLink RX5 16 "OutageBookModel" "clocks" "[I", .fieldLink RX5 19 "OutageBookModel" "readings" "[I", .fieldLink RX5 22 "OutageBookModel" "services" "[I", .arrayClass .boolean, .fieldLink RX5 25 "OutageBookModel" "isPublic" "[Z", .fieldLink RX5 29 "OutageBookModel" "weightsFor" "[I", .fieldLink RX5 32 "OutageBookModel" "weightsAgainst" "[I", .fieldLink RX5 35 "OutageBookModel" "order" "[I", .fieldLink RX5 38 "OutageBookModel" "ahead" "[I", .arrayClass .long, .fieldLink RX5 41 "OutageBookModel" "counts" "[J", .fieldLink RX5 45 "OutageBookModel" "measured" "[I", .fieldLink RX5 48 "OutageBookModel" "froms" "[I", .fieldLink RX5 51 "OutageBookModel" "tos" "[I", .fieldLink RX5 54 "OutageBookModel" "percents" "[I", .fieldLink RX5 57 "OutageBookModel" "stands" "[Z", .fieldLink RX5 60 "OutageBookModel" "weights" "[I", .constant RX5 63 (1000000)] ++ wsX50)
def wsX5_thrown : List Cond := .code yX5_thrown cX5_thrown 1 (some .int) :: ([.fieldLink RX5 64 "OutageBookModel" "thrown" "I"] ++ wsX50)
def wsX5_goes : List Cond := .code yX5_goes cX5_goes 2 (some .boolean) :: ([.fieldLink RX5 64 "OutageBookModel" "thrown" "I"] ++ wsX50)
def wsX5_isIn : List Cond := .code yX5_isIn cX5_isIn 3 (some .boolean) :: ([])
def wsX5_isClock : List Cond := .code yX5_isClock cX5_isClock 1 (some .boolean) :: ([.methodLink RX5 68 yX5_isIn, .static yX5_isIn, .initialized RX5, .code yX5_isIn cX5_isIn 3 (some .boolean)])
def wsX5_isService : List Cond := .code yX5_isService cX5_isService 1 (some .boolean) :: ([.methodLink RX5 68 yX5_isIn, .static yX5_isIn, .initialized RX5, .code yX5_isIn cX5_isIn 3 (some .boolean)])
def wsX5_isTime : List Cond := .code yX5_isTime cX5_isTime 1 (some .boolean) :: ([.methodLink RX5 68 yX5_isIn, .static yX5_isIn, .initialized RX5, .code yX5_isIn cX5_isIn 3 (some .boolean)])
def wsX5_binds : List Cond := .code yX5_binds cX5_binds 4 none :: ([.fieldLink RX5 13 "OutageBookModel" "tried" "[I"] ++ wsX50)
def wsX5_mark : List Cond := .code yX5_mark cX5_mark 12 none :: ([.fieldLink RX5 13 "OutageBookModel" "tried" "[I", .fieldLink RX5 7 "OutageBookModel" "bounds" "[I", .constant RX5 63 (1000000), .methodLink RX5 72 yX5_isClock, .static yX5_isClock, .initialized RX5, .code yX5_isClock cX5_isClock 1 (some .boolean), .methodLink RX5 68 yX5_isIn, .static yX5_isIn, .code yX5_isIn cX5_isIn 3 (some .boolean), .methodLink RX5 76 yX5_isTime, .static yX5_isTime, .code yX5_isTime cX5_isTime 1 (some .boolean), .methodLink RX5 79 yX5_goes, .instanceMethod yX5_goes, .selects RX5 yX5_goes yX5_goes, .code yX5_goes cX5_goes 2 (some .boolean), .fieldLink RX5 64 "OutageBookModel" "thrown" "I", .methodLink RX5 82 yX5_binds, .instanceMethod yX5_binds, .selects RX5 yX5_binds yX5_binds, .code yX5_binds cX5_binds 4 none] ++ wsX50)
def wsX5_greatest : List Cond := .code yX5_greatest cX5_greatest 3 (some .int) :: ([.fieldLink RX5 7 "OutageBookModel" "bounds" "[I", .methodLink RX5 72 yX5_isClock, .static yX5_isClock, .initialized RX5, .code yX5_isClock cX5_isClock 1 (some .boolean), .methodLink RX5 68 yX5_isIn, .static yX5_isIn, .code yX5_isIn cX5_isIn 3 (some .boolean), .methodLink RX5 79 yX5_goes, .instanceMethod yX5_goes, .selects RX5 yX5_goes yX5_goes, .code yX5_goes cX5_goes 2 (some .boolean), .fieldLink RX5 64 "OutageBookModel" "thrown" "I"] ++ wsX50)
def wsX5_write : List Cond := .code yX5_write cX5_write 5 (some .int) :: ([.fieldLink RX5 89 "OutageBookModel" "lines" "I", .fieldLink RX5 16 "OutageBookModel" "clocks" "[I", .fieldLink RX5 19 "OutageBookModel" "readings" "[I", .fieldLink RX5 22 "OutageBookModel" "services" "[I", .fieldLink RX5 25 "OutageBookModel" "isPublic" "[Z", .methodLink RX5 72 yX5_isClock, .static yX5_isClock, .initialized RX5, .code yX5_isClock cX5_isClock 1 (some .boolean), .methodLink RX5 68 yX5_isIn, .static yX5_isIn, .code yX5_isIn cX5_isIn 3 (some .boolean), .methodLink RX5 76 yX5_isTime, .static yX5_isTime, .code yX5_isTime cX5_isTime 1 (some .boolean), .methodLink RX5 86 yX5_isService, .static yX5_isService, .code yX5_isService cX5_isService 1 (some .boolean), .methodLink RX5 79 yX5_goes, .instanceMethod yX5_goes, .selects RX5 yX5_goes yX5_goes, .code yX5_goes cX5_goes 2 (some .boolean), .fieldLink RX5 64 "OutageBookModel" "thrown" "I"] ++ wsX50)
def wsX5_lines : List Cond := .code yX5_lines cX5_lines 1 (some .int) :: ([.fieldLink RX5 64 "OutageBookModel" "thrown" "I", .fieldLink RX5 89 "OutageBookModel" "lines" "I"] ++ wsX50)
def wsX5_isLine : List Cond := .code yX5_isLine cX5_isLine 2 (some .boolean) :: ([.fieldLink RX5 89 "OutageBookModel" "lines" "I", .methodLink RX5 68 yX5_isIn, .static yX5_isIn, .initialized RX5, .code yX5_isIn cX5_isIn 3 (some .boolean)] ++ wsX50)
def wsX5_isBefore : List Cond := .code yX5_isBefore cX5_isBefore 4 (some .boolean) :: ([.fieldLink RX5 7 "OutageBookModel" "bounds" "[I", .fieldLink RX5 16 "OutageBookModel" "clocks" "[I", .constant RX5 63 (1000000), .fieldLink RX5 19 "OutageBookModel" "readings" "[I"] ++ wsX50)
def wsX5_mustComeBefore : List Cond := .code yX5_mustComeBefore cX5_mustComeBefore 3 (some .boolean) :: ([.methodLink RX5 92 yX5_isLine, .instanceMethod yX5_isLine, .selects RX5 yX5_isLine yX5_isLine, .initialized RX5, .code yX5_isLine cX5_isLine 2 (some .boolean), .fieldLink RX5 89 "OutageBookModel" "lines" "I", .methodLink RX5 68 yX5_isIn, .static yX5_isIn, .code yX5_isIn cX5_isIn 3 (some .boolean), .methodLink RX5 79 yX5_goes, .instanceMethod yX5_goes, .selects RX5 yX5_goes yX5_goes, .code yX5_goes cX5_goes 2 (some .boolean), .fieldLink RX5 64 "OutageBookModel" "thrown" "I", .methodLink RX5 95 yX5_isBefore, .instanceMethod yX5_isBefore, .selects RX5 yX5_isBefore yX5_isBefore, .code yX5_isBefore cX5_isBefore 4 (some .boolean), .fieldLink RX5 7 "OutageBookModel" "bounds" "[I", .fieldLink RX5 16 "OutageBookModel" "clocks" "[I", .constant RX5 63 (1000000), .fieldLink RX5 19 "OutageBookModel" "readings" "[I"] ++ wsX50)
def wsX5_laysOrder : List Cond := .code yX5_laysOrder cX5_laysOrder 7 none :: ([.fieldLink RX5 89 "OutageBookModel" "lines" "I", .fieldLink RX5 35 "OutageBookModel" "order" "[I", .methodLink RX5 95 yX5_isBefore, .instanceMethod yX5_isBefore, .selects RX5 yX5_isBefore yX5_isBefore, .initialized RX5, .code yX5_isBefore cX5_isBefore 4 (some .boolean), .fieldLink RX5 7 "OutageBookModel" "bounds" "[I", .fieldLink RX5 16 "OutageBookModel" "clocks" "[I", .constant RX5 63 (1000000), .fieldLink RX5 19 "OutageBookModel" "readings" "[I"] ++ wsX50)
def wsX5_lineAt : List Cond := .code yX5_lineAt cX5_lineAt 2 (some .int) :: ([.fieldLink RX5 89 "OutageBookModel" "lines" "I", .fieldLink RX5 35 "OutageBookModel" "order" "[I", .methodLink RX5 99 yX5_laysOrder, .instanceMethod yX5_laysOrder, .selects RX5 yX5_laysOrder yX5_laysOrder, .initialized RX5, .code yX5_laysOrder cX5_laysOrder 7 none, .methodLink RX5 95 yX5_isBefore, .instanceMethod yX5_isBefore, .selects RX5 yX5_isBefore yX5_isBefore, .code yX5_isBefore cX5_isBefore 4 (some .boolean), .fieldLink RX5 7 "OutageBookModel" "bounds" "[I", .fieldLink RX5 16 "OutageBookModel" "clocks" "[I", .constant RX5 63 (1000000), .fieldLink RX5 19 "OutageBookModel" "readings" "[I", .methodLink RX5 68 yX5_isIn, .static yX5_isIn, .code yX5_isIn cX5_isIn 3 (some .boolean), .methodLink RX5 79 yX5_goes, .instanceMethod yX5_goes, .selects RX5 yX5_goes yX5_goes, .code yX5_goes cX5_goes 2 (some .boolean), .fieldLink RX5 64 "OutageBookModel" "thrown" "I"] ++ wsX50)
def wsX5_orders : List Cond := .code yX5_orders cX5_orders 4 (some .long) :: ([.fieldLink RX5 89 "OutageBookModel" "lines" "I", .fieldLink RX5 38 "OutageBookModel" "ahead" "[I", .fieldLink RX5 41 "OutageBookModel" "counts" "[J", .methodLink RX5 79 yX5_goes, .instanceMethod yX5_goes, .selects RX5 yX5_goes yX5_goes, .initialized RX5, .code yX5_goes cX5_goes 2 (some .boolean), .fieldLink RX5 64 "OutageBookModel" "thrown" "I", .methodLink RX5 95 yX5_isBefore, .instanceMethod yX5_isBefore, .selects RX5 yX5_isBefore yX5_isBefore, .code yX5_isBefore cX5_isBefore 4 (some .boolean), .fieldLink RX5 7 "OutageBookModel" "bounds" "[I", .fieldLink RX5 16 "OutageBookModel" "clocks" "[I", .constant RX5 63 (1000000), .fieldLink RX5 19 "OutageBookModel" "readings" "[I"] ++ wsX50)
def wsX5_argue : List Cond := .code yX5_argue cX5_argue 4 (some .int) :: ([.fieldLink RX5 29 "OutageBookModel" "weightsFor" "[I", .fieldLink RX5 32 "OutageBookModel" "weightsAgainst" "[I", .methodLink RX5 92 yX5_isLine, .instanceMethod yX5_isLine, .selects RX5 yX5_isLine yX5_isLine, .initialized RX5, .code yX5_isLine cX5_isLine 2 (some .boolean), .fieldLink RX5 89 "OutageBookModel" "lines" "I", .methodLink RX5 68 yX5_isIn, .static yX5_isIn, .code yX5_isIn cX5_isIn 3 (some .boolean), .methodLink RX5 79 yX5_goes, .instanceMethod yX5_goes, .selects RX5 yX5_goes yX5_goes, .code yX5_goes cX5_goes 2 (some .boolean), .fieldLink RX5 64 "OutageBookModel" "thrown" "I"] ++ wsX50)
def wsX5_isDoubted : List Cond := .code yX5_isDoubted cX5_isDoubted 2 (some .boolean) :: ([.fieldLink RX5 32 "OutageBookModel" "weightsAgainst" "[I", .fieldLink RX5 29 "OutageBookModel" "weightsFor" "[I"] ++ wsX50)
def wsX5_isDoubtful : List Cond := .code yX5_isDoubtful cX5_isDoubtful 2 (some .boolean) :: ([.methodLink RX5 92 yX5_isLine, .instanceMethod yX5_isLine, .selects RX5 yX5_isLine yX5_isLine, .initialized RX5, .code yX5_isLine cX5_isLine 2 (some .boolean), .fieldLink RX5 89 "OutageBookModel" "lines" "I", .methodLink RX5 68 yX5_isIn, .static yX5_isIn, .code yX5_isIn cX5_isIn 3 (some .boolean), .methodLink RX5 79 yX5_goes, .instanceMethod yX5_goes, .selects RX5 yX5_goes yX5_goes, .code yX5_goes cX5_goes 2 (some .boolean), .fieldLink RX5 64 "OutageBookModel" "thrown" "I", .methodLink RX5 102 yX5_isDoubted, .instanceMethod yX5_isDoubted, .selects RX5 yX5_isDoubted yX5_isDoubted, .code yX5_isDoubted cX5_isDoubted 2 (some .boolean), .fieldLink RX5 32 "OutageBookModel" "weightsAgainst" "[I", .fieldLink RX5 29 "OutageBookModel" "weightsFor" "[I"] ++ wsX50)
def wsX5_isOfStory : List Cond := .code yX5_isOfStory cX5_isOfStory 2 (some .boolean) :: ([.fieldLink RX5 25 "OutageBookModel" "isPublic" "[Z", .methodLink RX5 102 yX5_isDoubted, .instanceMethod yX5_isDoubted, .selects RX5 yX5_isDoubted yX5_isDoubted, .initialized RX5, .code yX5_isDoubted cX5_isDoubted 2 (some .boolean), .fieldLink RX5 32 "OutageBookModel" "weightsAgainst" "[I", .fieldLink RX5 29 "OutageBookModel" "weightsFor" "[I"] ++ wsX50)
def wsX5_storyLines : List Cond := .code yX5_storyLines cX5_storyLines 3 (some .int) :: ([.fieldLink RX5 89 "OutageBookModel" "lines" "I", .methodLink RX5 105 yX5_isOfStory, .instanceMethod yX5_isOfStory, .selects RX5 yX5_isOfStory yX5_isOfStory, .initialized RX5, .code yX5_isOfStory cX5_isOfStory 2 (some .boolean), .fieldLink RX5 25 "OutageBookModel" "isPublic" "[Z", .methodLink RX5 102 yX5_isDoubted, .instanceMethod yX5_isDoubted, .selects RX5 yX5_isDoubted yX5_isDoubted, .code yX5_isDoubted cX5_isDoubted 2 (some .boolean), .fieldLink RX5 32 "OutageBookModel" "weightsAgainst" "[I", .fieldLink RX5 29 "OutageBookModel" "weightsFor" "[I"] ++ wsX50)
def wsX5_story : List Cond := .code yX5_story cX5_story 1 (some .int) :: ([.fieldLink RX5 64 "OutageBookModel" "thrown" "I", .methodLink RX5 108 yX5_storyLines, .instanceMethod yX5_storyLines, .selects RX5 yX5_storyLines yX5_storyLines, .initialized RX5, .code yX5_storyLines cX5_storyLines 3 (some .int), .fieldLink RX5 89 "OutageBookModel" "lines" "I", .methodLink RX5 105 yX5_isOfStory, .instanceMethod yX5_isOfStory, .selects RX5 yX5_isOfStory yX5_isOfStory, .code yX5_isOfStory cX5_isOfStory 2 (some .boolean), .fieldLink RX5 25 "OutageBookModel" "isPublic" "[Z", .methodLink RX5 102 yX5_isDoubted, .instanceMethod yX5_isDoubted, .selects RX5 yX5_isDoubted yX5_isDoubted, .code yX5_isDoubted cX5_isDoubted 2 (some .boolean), .fieldLink RX5 32 "OutageBookModel" "weightsAgainst" "[I", .fieldLink RX5 29 "OutageBookModel" "weightsFor" "[I"] ++ wsX50)
def wsX5_storyAt_r1 : List Cond := [Cond.fieldLink RX5 89 "OutageBookModel" "lines" "I", Cond.fieldLink RX5 35 "OutageBookModel" "order" "[I", Cond.methodLink RX5 108 yX5_storyLines, Cond.instanceMethod yX5_storyLines, Cond.selects RX5 yX5_storyLines yX5_storyLines, Cond.initialized RX5, Cond.code yX5_storyLines cX5_storyLines 3 (some .int), Cond.methodLink RX5 105 yX5_isOfStory, Cond.instanceMethod yX5_isOfStory, Cond.selects RX5 yX5_isOfStory yX5_isOfStory, Cond.code yX5_isOfStory cX5_isOfStory 2 (some .boolean), Cond.fieldLink RX5 25 "OutageBookModel" "isPublic" "[Z", Cond.methodLink RX5 102 yX5_isDoubted, Cond.instanceMethod yX5_isDoubted, Cond.selects RX5 yX5_isDoubted yX5_isDoubted, Cond.code yX5_isDoubted cX5_isDoubted 2 (some .boolean), Cond.fieldLink RX5 32 "OutageBookModel" "weightsAgainst" "[I", Cond.fieldLink RX5 29 "OutageBookModel" "weightsFor" "[I", Cond.methodLink RX5 68 yX5_isIn, Cond.static yX5_isIn, Cond.code yX5_isIn cX5_isIn 3 (some .boolean), Cond.methodLink RX5 79 yX5_goes, Cond.instanceMethod yX5_goes, Cond.selects RX5 yX5_goes yX5_goes]
def wsX5_storyAt_r2 : List Cond := [Cond.code yX5_goes cX5_goes 2 (some .boolean), Cond.fieldLink RX5 64 "OutageBookModel" "thrown" "I", Cond.methodLink RX5 99 yX5_laysOrder, Cond.instanceMethod yX5_laysOrder, Cond.selects RX5 yX5_laysOrder yX5_laysOrder, Cond.code yX5_laysOrder cX5_laysOrder 7 none, Cond.methodLink RX5 95 yX5_isBefore, Cond.instanceMethod yX5_isBefore, Cond.selects RX5 yX5_isBefore yX5_isBefore, Cond.code yX5_isBefore cX5_isBefore 4 (some .boolean), Cond.fieldLink RX5 7 "OutageBookModel" "bounds" "[I", Cond.fieldLink RX5 16 "OutageBookModel" "clocks" "[I", Cond.constant RX5 63 (1000000), Cond.fieldLink RX5 19 "OutageBookModel" "readings" "[I"]
def wsX5_storyAt : List Cond := .code yX5_storyAt cX5_storyAt 6 (some .int) :: ((wsX5_storyAt_r1 ++ wsX5_storyAt_r2) ++ wsX50)
def wsX5_earliest : List Cond := .code yX5_earliest cX5_earliest 3 (some .int) :: ([.fieldLink RX5 7 "OutageBookModel" "bounds" "[I", .fieldLink RX5 16 "OutageBookModel" "clocks" "[I", .constant RX5 63 (1000000), .constant RX5 112 (-1000000), .fieldLink RX5 19 "OutageBookModel" "readings" "[I", .methodLink RX5 92 yX5_isLine, .instanceMethod yX5_isLine, .selects RX5 yX5_isLine yX5_isLine, .initialized RX5, .code yX5_isLine cX5_isLine 2 (some .boolean), .fieldLink RX5 89 "OutageBookModel" "lines" "I", .methodLink RX5 68 yX5_isIn, .static yX5_isIn, .code yX5_isIn cX5_isIn 3 (some .boolean), .methodLink RX5 79 yX5_goes, .instanceMethod yX5_goes, .selects RX5 yX5_goes yX5_goes, .code yX5_goes cX5_goes 2 (some .boolean), .fieldLink RX5 64 "OutageBookModel" "thrown" "I"] ++ wsX50)
def wsX5_firstOf_r1 : List Cond := [Cond.fieldLink RX5 89 "OutageBookModel" "lines" "I", Cond.fieldLink RX5 22 "OutageBookModel" "services" "[I", Cond.fieldLink RX5 35 "OutageBookModel" "order" "[I", Cond.methodLink RX5 86 yX5_isService, Cond.static yX5_isService, Cond.initialized RX5, Cond.code yX5_isService cX5_isService 1 (some .boolean), Cond.methodLink RX5 68 yX5_isIn, Cond.static yX5_isIn, Cond.code yX5_isIn cX5_isIn 3 (some .boolean), Cond.methodLink RX5 79 yX5_goes, Cond.instanceMethod yX5_goes, Cond.selects RX5 yX5_goes yX5_goes, Cond.code yX5_goes cX5_goes 2 (some .boolean), Cond.fieldLink RX5 64 "OutageBookModel" "thrown" "I", Cond.methodLink RX5 99 yX5_laysOrder, Cond.instanceMethod yX5_laysOrder, Cond.selects RX5 yX5_laysOrder yX5_laysOrder, Cond.code yX5_laysOrder cX5_laysOrder 7 none, Cond.methodLink RX5 95 yX5_isBefore, Cond.instanceMethod yX5_isBefore, Cond.selects RX5 yX5_isBefore yX5_isBefore, Cond.code yX5_isBefore cX5_isBefore 4 (some .boolean), Cond.fieldLink RX5 7 "OutageBookModel" "bounds" "[I"]
def wsX5_firstOf_r2 : List Cond := [Cond.fieldLink RX5 16 "OutageBookModel" "clocks" "[I", Cond.constant RX5 63 (1000000), Cond.fieldLink RX5 19 "OutageBookModel" "readings" "[I"]
def wsX5_firstOf : List Cond := .code yX5_firstOf cX5_firstOf 4 (some .int) :: ((wsX5_firstOf_r1 ++ wsX5_firstOf_r2) ++ wsX50)
def wsX5_measure : List Cond := .code yX5_measure cX5_measure 6 (some .int) :: ([.fieldLink RX5 113 "OutageBookModel" "measures" "I", .fieldLink RX5 45 "OutageBookModel" "measured" "[I", .fieldLink RX5 48 "OutageBookModel" "froms" "[I", .fieldLink RX5 51 "OutageBookModel" "tos" "[I", .fieldLink RX5 54 "OutageBookModel" "percents" "[I", .methodLink RX5 86 yX5_isService, .static yX5_isService, .initialized RX5, .code yX5_isService cX5_isService 1 (some .boolean), .methodLink RX5 68 yX5_isIn, .static yX5_isIn, .code yX5_isIn cX5_isIn 3 (some .boolean), .methodLink RX5 76 yX5_isTime, .static yX5_isTime, .code yX5_isTime cX5_isTime 1 (some .boolean), .methodLink RX5 79 yX5_goes, .instanceMethod yX5_goes, .selects RX5 yX5_goes yX5_goes, .code yX5_goes cX5_goes 2 (some .boolean), .fieldLink RX5 64 "OutageBookModel" "thrown" "I"] ++ wsX50)
def wsX5_percent : List Cond := .code yX5_percent cX5_percent 6 (some .int) :: ([.fieldLink RX5 113 "OutageBookModel" "measures" "I", .fieldLink RX5 45 "OutageBookModel" "measured" "[I", .fieldLink RX5 48 "OutageBookModel" "froms" "[I", .fieldLink RX5 51 "OutageBookModel" "tos" "[I", .fieldLink RX5 54 "OutageBookModel" "percents" "[I", .methodLink RX5 68 yX5_isIn, .static yX5_isIn, .initialized RX5, .code yX5_isIn cX5_isIn 3 (some .boolean)] ++ wsX50)
def wsX5_change : List Cond := .code yX5_change cX5_change 4 (some .int) :: ([.fieldLink RX5 113 "OutageBookModel" "measures" "I", .fieldLink RX5 48 "OutageBookModel" "froms" "[I", .fieldLink RX5 51 "OutageBookModel" "tos" "[I"] ++ wsX50)
def wsX5_impact_r1 : List Cond := [Cond.methodLink RX5 86 yX5_isService, Cond.static yX5_isService, Cond.initialized RX5, Cond.code yX5_isService cX5_isService 1 (some .boolean), Cond.methodLink RX5 68 yX5_isIn, Cond.static yX5_isIn, Cond.code yX5_isIn cX5_isIn 3 (some .boolean), Cond.methodLink RX5 79 yX5_goes, Cond.instanceMethod yX5_goes, Cond.selects RX5 yX5_goes yX5_goes, Cond.code yX5_goes cX5_goes 2 (some .boolean), Cond.fieldLink RX5 64 "OutageBookModel" "thrown" "I", Cond.methodLink RX5 116 yX5_percent, Cond.instanceMethod yX5_percent, Cond.selects RX5 yX5_percent yX5_percent, Cond.code yX5_percent cX5_percent 6 (some .int), Cond.fieldLink RX5 113 "OutageBookModel" "measures" "I", Cond.fieldLink RX5 45 "OutageBookModel" "measured" "[I", Cond.fieldLink RX5 48 "OutageBookModel" "froms" "[I", Cond.fieldLink RX5 51 "OutageBookModel" "tos" "[I", Cond.fieldLink RX5 54 "OutageBookModel" "percents" "[I", Cond.methodLink RX5 120 yX5_change, Cond.instanceMethod yX5_change, Cond.selects RX5 yX5_change yX5_change]
def wsX5_impact_r2 : List Cond := [Cond.code yX5_change cX5_change 4 (some .int)]
def wsX5_impact : List Cond := .code yX5_impact cX5_impact 4 (some .int) :: ((wsX5_impact_r1 ++ wsX5_impact_r2) ++ wsX50)
def wsX5_minutes : List Cond := .code yX5_minutes cX5_minutes 3 (some .int) :: ([.fieldLink RX5 64 "OutageBookModel" "thrown" "I", .methodLink RX5 116 yX5_percent, .instanceMethod yX5_percent, .selects RX5 yX5_percent yX5_percent, .initialized RX5, .code yX5_percent cX5_percent 6 (some .int), .fieldLink RX5 113 "OutageBookModel" "measures" "I", .fieldLink RX5 45 "OutageBookModel" "measured" "[I", .fieldLink RX5 48 "OutageBookModel" "froms" "[I", .fieldLink RX5 51 "OutageBookModel" "tos" "[I", .fieldLink RX5 54 "OutageBookModel" "percents" "[I", .methodLink RX5 68 yX5_isIn, .static yX5_isIn, .code yX5_isIn cX5_isIn 3 (some .boolean), .methodLink RX5 120 yX5_change, .instanceMethod yX5_change, .selects RX5 yX5_change yX5_change, .code yX5_change cX5_change 4 (some .int)] ++ wsX50)
def wsX5_isCause : List Cond := .code yX5_isCause cX5_isCause 2 (some .boolean) :: ([.fieldLink RX5 124 "OutageBookModel" "causes" "I", .methodLink RX5 68 yX5_isIn, .static yX5_isIn, .initialized RX5, .code yX5_isIn cX5_isIn 3 (some .boolean)] ++ wsX50)
def wsX5_addCause : List Cond := .code yX5_addCause cX5_addCause 1 (some .int) :: ([.fieldLink RX5 124 "OutageBookModel" "causes" "I", .fieldLink RX5 57 "OutageBookModel" "stands" "[Z", .methodLink RX5 79 yX5_goes, .instanceMethod yX5_goes, .selects RX5 yX5_goes yX5_goes, .initialized RX5, .code yX5_goes cX5_goes 2 (some .boolean), .fieldLink RX5 64 "OutageBookModel" "thrown" "I"] ++ wsX50)
def wsX5_reached : List Cond := .code yX5_reached cX5_reached 8 (some .int) :: ([.fieldLink RX5 60 "OutageBookModel" "weights" "[I", .fieldLink RX5 57 "OutageBookModel" "stands" "[Z"] ++ wsX50)
def wsX5_argueReason : List Cond := .code yX5_argueReason cX5_argueReason 7 (some .int) :: ([.fieldLink RX5 60 "OutageBookModel" "weights" "[I", .methodLink RX5 127 yX5_isCause, .instanceMethod yX5_isCause, .selects RX5 yX5_isCause yX5_isCause, .initialized RX5, .code yX5_isCause cX5_isCause 2 (some .boolean), .fieldLink RX5 124 "OutageBookModel" "causes" "I", .methodLink RX5 68 yX5_isIn, .static yX5_isIn, .code yX5_isIn cX5_isIn 3 (some .boolean), .methodLink RX5 79 yX5_goes, .instanceMethod yX5_goes, .selects RX5 yX5_goes yX5_goes, .code yX5_goes cX5_goes 2 (some .boolean), .fieldLink RX5 64 "OutageBookModel" "thrown" "I", .methodLink RX5 130 yX5_reached, .instanceMethod yX5_reached, .selects RX5 yX5_reached yX5_reached, .code yX5_reached cX5_reached 8 (some .int), .fieldLink RX5 57 "OutageBookModel" "stands" "[Z"] ++ wsX50)
def wsX5_setStanding : List Cond := .code yX5_setStanding cX5_setStanding 4 (some .boolean) :: ([.fieldLink RX5 57 "OutageBookModel" "stands" "[Z", .methodLink RX5 127 yX5_isCause, .instanceMethod yX5_isCause, .selects RX5 yX5_isCause yX5_isCause, .initialized RX5, .code yX5_isCause cX5_isCause 2 (some .boolean), .fieldLink RX5 124 "OutageBookModel" "causes" "I", .methodLink RX5 68 yX5_isIn, .static yX5_isIn, .code yX5_isIn cX5_isIn 3 (some .boolean), .methodLink RX5 79 yX5_goes, .instanceMethod yX5_goes, .selects RX5 yX5_goes yX5_goes, .code yX5_goes cX5_goes 2 (some .boolean), .fieldLink RX5 64 "OutageBookModel" "thrown" "I"] ++ wsX50)
def wsX5_mainOf : List Cond := .code yX5_mainOf cX5_mainOf 6 (some .int) :: ([.fieldLink RX5 124 "OutageBookModel" "causes" "I", .fieldLink RX5 57 "OutageBookModel" "stands" "[Z", .fieldLink RX5 60 "OutageBookModel" "weights" "[I"] ++ wsX50)
def wsX5_roots : List Cond := .code yX5_roots cX5_roots 5 (some .int) :: ([.fieldLink RX5 57 "OutageBookModel" "stands" "[Z", .fieldLink RX5 124 "OutageBookModel" "causes" "I", .methodLink RX5 127 yX5_isCause, .instanceMethod yX5_isCause, .selects RX5 yX5_isCause yX5_isCause, .initialized RX5, .code yX5_isCause cX5_isCause 2 (some .boolean), .methodLink RX5 68 yX5_isIn, .static yX5_isIn, .code yX5_isIn cX5_isIn 3 (some .boolean), .methodLink RX5 79 yX5_goes, .instanceMethod yX5_goes, .selects RX5 yX5_goes yX5_goes, .code yX5_goes cX5_goes 2 (some .boolean), .fieldLink RX5 64 "OutageBookModel" "thrown" "I", .methodLink RX5 130 yX5_reached, .instanceMethod yX5_reached, .selects RX5 yX5_reached yX5_reached, .code yX5_reached cX5_reached 8 (some .int), .fieldLink RX5 60 "OutageBookModel" "weights" "[I", .methodLink RX5 134 yX5_mainOf, .instanceMethod yX5_mainOf, .selects RX5 yX5_mainOf yX5_mainOf, .code yX5_mainOf cX5_mainOf 6 (some .int)] ++ wsX50)
def wsX5_mainReason : List Cond := .code yX5_mainReason cX5_mainReason 2 (some .int) :: ([.methodLink RX5 127 yX5_isCause, .instanceMethod yX5_isCause, .selects RX5 yX5_isCause yX5_isCause, .initialized RX5, .code yX5_isCause cX5_isCause 2 (some .boolean), .fieldLink RX5 124 "OutageBookModel" "causes" "I", .methodLink RX5 68 yX5_isIn, .static yX5_isIn, .code yX5_isIn cX5_isIn 3 (some .boolean), .methodLink RX5 79 yX5_goes, .instanceMethod yX5_goes, .selects RX5 yX5_goes yX5_goes, .code yX5_goes cX5_goes 2 (some .boolean), .fieldLink RX5 64 "OutageBookModel" "thrown" "I", .methodLink RX5 134 yX5_mainOf, .instanceMethod yX5_mainOf, .selects RX5 yX5_mainOf yX5_mainOf, .code yX5_mainOf cX5_mainOf 6 (some .int), .fieldLink RX5 57 "OutageBookModel" "stands" "[Z", .fieldLink RX5 60 "OutageBookModel" "weights" "[I"] ++ wsX50)
def wsJ9_max_7cf53 : List Cond := .code yJ9_max_7cf53 cJ9_max_7cf53 2 (some .int) :: ([])
def wsJ9_min_7cf53 : List Cond := .code yJ9_min_7cf53 cJ9_min_7cf53 2 (some .int) :: ([])
def wsL_mark_r1 : List Cond := [Cond.classLink RL 13 "java/lang/IllegalArgumentException", Cond.classLink RL 15 "java/lang/IllegalStateException", Cond.methodLink RL 7 yX4_mark, Cond.instanceMethod yX4_mark, Cond.selects RX4 yX4_mark yX4_mark, Cond.initialized RX4, Cond.code yX4_mark cX4_mark 7 none, Cond.classLink RX4 41 "java/lang/IllegalArgumentException", Cond.initialized "java/lang/IllegalArgumentException", Cond.classLink RX4 62 "java/lang/IllegalStateException", Cond.initialized "java/lang/IllegalStateException", Cond.fieldLink RX4 10 "OutageBook" "offsets" "LOutageBook$Offsets;", Cond.fieldLink RX4 19 "OutageBook" "log" "LOutageBook$Log;", Cond.methodLink RX4 37 yX4_isClock, Cond.static yX4_isClock, Cond.code yX4_isClock cX4_isClock 1 (some .boolean), Cond.methodLink RX4 53 yX4_isWithin, Cond.static yX4_isWithin, Cond.code yX4_isWithin cX4_isWithin 3 (some .boolean), Cond.methodLink RX4 48 yX4_isReading, Cond.static yX4_isReading, Cond.code yX4_isReading cX4_isReading 1 (some .boolean), Cond.methodLink RX4 59 yX3_allows, Cond.instanceMethod yX3_allows]
def wsL_mark_r2 : List Cond := [Cond.selects RX3 yX3_allows yX3_allows, Cond.initialized RX3, Cond.code yX3_allows cX3_allows 4 (some .boolean), Cond.methodLink RX3 21 yX3_most, Cond.instanceMethod yX3_most, Cond.selects RX3 yX3_most yX3_most, Cond.code yX3_most cX3_most 3 (some .int), Cond.constant RX3 16 (1000000), Cond.fieldLink RX3 11 "OutageBook$Offsets" "differences" "[[I", Cond.methodLink RX4 67 yX3_bound, Cond.instanceMethod yX3_bound, Cond.selects RX3 yX3_bound yX3_bound, Cond.code yX3_bound cX3_bound 9 none, Cond.methodLink RX3 25 Lib.Math.min.name, Cond.static Lib.Math.min.name, Cond.initialized "java/lang/Math", Cond.code Lib.Math.min.name Lib.Math.min.code 2 (some .int), Cond.methodLink RX4 71 yX1_arrange, Cond.instanceMethod yX1_arrange, Cond.selects RX1 yX1_arrange yX1_arrange, Cond.initialized RX1, Cond.code yX1_arrange cX1_arrange 4 none, Cond.fieldLink RX1 38 "OutageBook$Log" "count" "I", Cond.fieldLink RX1 28 "OutageBook$Log" "before" "[I"]
def wsL_mark_r3 : List Cond := [Cond.fieldLink RX1 31 "OutageBook$Log" "order" "[I", Cond.methodLink RX1 65 yX1_allBefore, Cond.instanceMethod yX1_allBefore, Cond.selects RX1 yX1_allBefore yX1_allBefore, Cond.code yX1_allBefore cX1_allBefore 5 (some .int), Cond.methodLink RX1 75 yX1_isSurelyEarlier, Cond.instanceMethod yX1_isSurelyEarlier, Cond.selects RX1 yX1_isSurelyEarlier yX1_isSurelyEarlier, Cond.code yX1_isSurelyEarlier cX1_isSurelyEarlier 5 (some .boolean), Cond.fieldLink RX1 9 "OutageBook$Log" "clocks" "[I", Cond.constant RX1 57 (1000000), Cond.fieldLink RX1 15 "OutageBook$Log" "readings" "[I", Cond.methodLink RX1 42 yX1_holds, Cond.instanceMethod yX1_holds, Cond.selects RX1 yX1_holds yX1_holds, Cond.code yX1_holds cX1_holds 2 (some .boolean), Cond.methodLink RX1 51 yX3_most, Cond.static yX4_bit, Cond.code yX4_bit cX4_bit 1 (some .int), Cond.methodLink RX1 72 yX1_nextLine, Cond.instanceMethod yX1_nextLine, Cond.selects RX1 yX1_nextLine yX1_nextLine, Cond.code yX1_nextLine cX1_nextLine 3 (some .int), Cond.static yX4_hasBit]
def wsL_mark_r4 : List Cond := [Cond.code yX4_hasBit cX4_hasBit 2 (some .boolean), Cond.methodLink RX4 188 yX4_bit]
def wsL_mark : List Cond := .codeWith yL_mark cL_mark 7 (some .int) [(0, 11, 14, 13), (0, 11, 18, 15)] :: ((wsL_mark_r1 ++ (wsL_mark_r2 ++ (wsL_mark_r3 ++ wsL_mark_r4))) ++ wsX40 ++ wsX30 ++ wsX10 ++ (vx_atS RX4 45 "java/lang/IllegalArgumentException" ["java/lang/RuntimeException", "java/lang/Exception"]).filter goodWord ++ (vx_atS RX4 66 "java/lang/IllegalStateException" ["java/lang/RuntimeException", "java/lang/Exception"]).filter goodWord)
def wsL_greatest : List Cond := .codeWith yL_greatest cL_greatest 5 (some .int) [(0, 10, 13, 13)] :: ([.classLink RL 13 "java/lang/IllegalArgumentException", .methodLink RL 17 yX4_greatest, .instanceMethod yX4_greatest, .selects RX4 yX4_greatest yX4_greatest, .initialized RX4, .code yX4_greatest cX4_greatest 3 (some .int), .classLink RX4 41 "java/lang/IllegalArgumentException", .initialized "java/lang/IllegalArgumentException", .fieldLink RX4 10 "OutageBook" "offsets" "LOutageBook$Offsets;", .methodLink RX4 37 yX4_isClock, .static yX4_isClock, .code yX4_isClock cX4_isClock 1 (some .boolean), .methodLink RX4 53 yX4_isWithin, .static yX4_isWithin, .code yX4_isWithin cX4_isWithin 3 (some .boolean), .methodLink RX4 77 yX3_most, .instanceMethod yX3_most, .selects RX3 yX3_most yX3_most, .initialized RX3, .code yX3_most cX3_most 3 (some .int), .constant RX3 16 (1000000), .fieldLink RX3 11 "OutageBook$Offsets" "differences" "[[I"] ++ wsX40 ++ wsX30 ++ (vx_atS RX4 45 "java/lang/IllegalArgumentException" ["java/lang/RuntimeException", "java/lang/Exception"]).filter goodWord)
def wsL_write_r1 : List Cond := [Cond.classLink RL 13 "java/lang/IllegalArgumentException", Cond.classLink RL 15 "java/lang/IllegalStateException", Cond.methodLink RL 21 yX4_write, Cond.instanceMethod yX4_write, Cond.selects RX4 yX4_write yX4_write, Cond.initialized RX4, Cond.code yX4_write cX4_write 6 (some .int), Cond.classLink RX4 41 "java/lang/IllegalArgumentException", Cond.initialized "java/lang/IllegalArgumentException", Cond.classLink RX4 62 "java/lang/IllegalStateException", Cond.initialized "java/lang/IllegalStateException", Cond.fieldLink RX4 19 "OutageBook" "log" "LOutageBook$Log;", Cond.fieldLink RX4 10 "OutageBook" "offsets" "LOutageBook$Offsets;", Cond.methodLink RX4 37 yX4_isClock, Cond.static yX4_isClock, Cond.code yX4_isClock cX4_isClock 1 (some .boolean), Cond.methodLink RX4 53 yX4_isWithin, Cond.static yX4_isWithin, Cond.code yX4_isWithin cX4_isWithin 3 (some .boolean), Cond.methodLink RX4 48 yX4_isReading, Cond.static yX4_isReading, Cond.code yX4_isReading cX4_isReading 1 (some .boolean), Cond.methodLink RX4 81 yX4_isService, Cond.static yX4_isService]
def wsL_write_r2 : List Cond := [Cond.code yX4_isService cX4_isService 1 (some .boolean), Cond.methodLink RX4 86 yX1_size, Cond.instanceMethod yX1_size, Cond.selects RX1 yX1_size yX1_size, Cond.initialized RX1, Cond.code yX1_size cX1_size 1 (some .int), Cond.fieldLink RX1 38 "OutageBook$Log" "count" "I", Cond.methodLink RX4 92 yX1_add, Cond.instanceMethod yX1_add, Cond.selects RX1 yX1_add yX1_add, Cond.code yX1_add cX1_add 6 (some .int), Cond.fieldLink RX1 9 "OutageBook$Log" "clocks" "[I", Cond.fieldLink RX1 15 "OutageBook$Log" "readings" "[I", Cond.fieldLink RX1 18 "OutageBook$Log" "services" "[I", Cond.fieldLink RX1 21 "OutageBook$Log" "arePublic" "[Z", Cond.methodLink RX4 71 yX1_arrange, Cond.instanceMethod yX1_arrange, Cond.selects RX1 yX1_arrange yX1_arrange, Cond.code yX1_arrange cX1_arrange 4 none, Cond.fieldLink RX1 28 "OutageBook$Log" "before" "[I", Cond.fieldLink RX1 31 "OutageBook$Log" "order" "[I", Cond.methodLink RX1 65 yX1_allBefore, Cond.instanceMethod yX1_allBefore, Cond.selects RX1 yX1_allBefore yX1_allBefore]
def wsL_write_r3 : List Cond := [Cond.code yX1_allBefore cX1_allBefore 5 (some .int), Cond.methodLink RX1 75 yX1_isSurelyEarlier, Cond.instanceMethod yX1_isSurelyEarlier, Cond.selects RX1 yX1_isSurelyEarlier yX1_isSurelyEarlier, Cond.code yX1_isSurelyEarlier cX1_isSurelyEarlier 5 (some .boolean), Cond.constant RX1 57 (1000000), Cond.methodLink RX1 42 yX1_holds, Cond.instanceMethod yX1_holds, Cond.selects RX1 yX1_holds yX1_holds, Cond.code yX1_holds cX1_holds 2 (some .boolean), Cond.methodLink RX1 51 yX3_most, Cond.instanceMethod yX3_most, Cond.selects RX3 yX3_most yX3_most, Cond.initialized RX3, Cond.code yX3_most cX3_most 3 (some .int), Cond.constant RX3 16 (1000000), Cond.fieldLink RX3 11 "OutageBook$Offsets" "differences" "[[I", Cond.static yX4_bit, Cond.code yX4_bit cX4_bit 1 (some .int), Cond.methodLink RX1 72 yX1_nextLine, Cond.instanceMethod yX1_nextLine, Cond.selects RX1 yX1_nextLine yX1_nextLine, Cond.code yX1_nextLine cX1_nextLine 3 (some .int), Cond.static yX4_hasBit]
def wsL_write_r4 : List Cond := [Cond.code yX4_hasBit cX4_hasBit 2 (some .boolean), Cond.methodLink RX4 188 yX4_bit]
def wsL_write : List Cond := .codeWith yL_write cL_write 7 (some .int) [(0, 14, 17, 13), (0, 14, 21, 15)] :: ((wsL_write_r1 ++ (wsL_write_r2 ++ (wsL_write_r3 ++ wsL_write_r4))) ++ wsX40 ++ wsX10 ++ wsX30 ++ (vx_atS RX4 45 "java/lang/IllegalArgumentException" ["java/lang/RuntimeException", "java/lang/Exception"]).filter goodWord ++ (vx_atS RX4 66 "java/lang/IllegalStateException" ["java/lang/RuntimeException", "java/lang/Exception"]).filter goodWord)
def wsL_mustComeBefore_r1 : List Cond := [Cond.classLink RL 29 "java/lang/IndexOutOfBoundsException", Cond.methodLink RL 25 yX4_mustComeBefore, Cond.instanceMethod yX4_mustComeBefore, Cond.selects RX4 yX4_mustComeBefore yX4_mustComeBefore, Cond.initialized RX4, Cond.code yX4_mustComeBefore cX4_mustComeBefore 3 (some .boolean), Cond.classLink RX4 99 "java/lang/IndexOutOfBoundsException", Cond.initialized "java/lang/IndexOutOfBoundsException", Cond.fieldLink RX4 19 "OutageBook" "log" "LOutageBook$Log;", Cond.methodLink RX4 96 yX1_holds, Cond.instanceMethod yX1_holds, Cond.selects RX1 yX1_holds yX1_holds, Cond.initialized RX1, Cond.code yX1_holds cX1_holds 2 (some .boolean), Cond.fieldLink RX1 38 "OutageBook$Log" "count" "I", Cond.methodLink RX4 104 yX1_isBefore, Cond.instanceMethod yX1_isBefore, Cond.selects RX1 yX1_isBefore yX1_isBefore, Cond.code yX1_isBefore cX1_isBefore 3 (some .boolean), Cond.fieldLink RX1 28 "OutageBook$Log" "before" "[I", Cond.methodLink RX1 42 yX1_holds, Cond.static yX4_hasBit, Cond.code yX4_hasBit cX4_hasBit 2 (some .boolean), Cond.methodLink RX4 188 yX4_bit]
def wsL_mustComeBefore_r2 : List Cond := [Cond.static yX4_bit, Cond.code yX4_bit cX4_bit 1 (some .int)]
def wsL_mustComeBefore : List Cond := .codeWith yL_mustComeBefore cL_mustComeBefore 5 (some .int) [(0, 17, 20, 29)] :: ((wsL_mustComeBefore_r1 ++ wsL_mustComeBefore_r2) ++ wsX40 ++ wsX10 ++ (vx_atS RX4 103 "java/lang/IndexOutOfBoundsException" ["java/lang/RuntimeException", "java/lang/Exception"]).filter goodWord)
def wsL_lineAt : List Cond := .codeWith yL_lineAt cL_lineAt 4 (some .int) [(0, 9, 12, 29)] :: ([.classLink RL 29 "java/lang/IndexOutOfBoundsException", .methodLink RL 31 yX4_lineAt, .instanceMethod yX4_lineAt, .selects RX4 yX4_lineAt yX4_lineAt, .initialized RX4, .code yX4_lineAt cX4_lineAt 2 (some .int), .classLink RX4 99 "java/lang/IndexOutOfBoundsException", .initialized "java/lang/IndexOutOfBoundsException", .fieldLink RX4 19 "OutageBook" "log" "LOutageBook$Log;", .methodLink RX4 96 yX1_holds, .instanceMethod yX1_holds, .selects RX1 yX1_holds yX1_holds, .initialized RX1, .code yX1_holds cX1_holds 2 (some .boolean), .fieldLink RX1 38 "OutageBook$Log" "count" "I", .methodLink RX4 110 yX1_at, .instanceMethod yX1_at, .selects RX1 yX1_at yX1_at, .code yX1_at cX1_at 2 (some .int), .fieldLink RX1 31 "OutageBook$Log" "order" "[I", .methodLink RX1 42 yX1_holds] ++ wsX40 ++ wsX10 ++ (vx_atS RX4 103 "java/lang/IndexOutOfBoundsException" ["java/lang/RuntimeException", "java/lang/Exception"]).filter goodWord)
def wsL_orders_r1 : List Cond := [Cond.classLink RL 15 "java/lang/IllegalStateException", Cond.methodLink RL 35 yX4_orders, Cond.instanceMethod yX4_orders, Cond.selects RX4 yX4_orders yX4_orders, Cond.initialized RX4, Cond.code yX4_orders cX4_orders 1 (some .long), Cond.classLink RX4 62 "java/lang/IllegalStateException", Cond.initialized "java/lang/IllegalStateException", Cond.fieldLink RX4 19 "OutageBook" "log" "LOutageBook$Log;", Cond.methodLink RX4 86 yX1_size, Cond.instanceMethod yX1_size, Cond.selects RX1 yX1_size yX1_size, Cond.initialized RX1, Cond.code yX1_size cX1_size 1 (some .int), Cond.fieldLink RX1 38 "OutageBook$Log" "count" "I", Cond.methodLink RX4 116 yX1_countOrders, Cond.instanceMethod yX1_countOrders, Cond.selects RX1 yX1_countOrders yX1_countOrders, Cond.code yX1_countOrders cX1_countOrders 5 (some .long), Cond.fieldLink RX1 34 "OutageBook$Log" "beginnings" "[J", Cond.static yX4_bit, Cond.code yX4_bit cX4_bit 1 (some .int), Cond.methodLink RX1 79 yX1_countBeginnings, Cond.instanceMethod yX1_countBeginnings]
def wsL_orders_r2 : List Cond := [Cond.selects RX1 yX1_countBeginnings yX1_countBeginnings, Cond.code yX1_countBeginnings cX1_countBeginnings 7 (some .long), Cond.fieldLink RX1 28 "OutageBook$Log" "before" "[I"]
def wsL_orders : List Cond := .codeWith yL_orders cL_orders 3 (some .int) [(0, 7, 10, 15)] :: ((wsL_orders_r1 ++ wsL_orders_r2) ++ wsX40 ++ wsX10 ++ (vx_atS RX4 66 "java/lang/IllegalStateException" ["java/lang/RuntimeException", "java/lang/Exception"]).filter goodWord)
def wsL_argue_r1 : List Cond := [Cond.classLink RL 29 "java/lang/IndexOutOfBoundsException", Cond.classLink RL 13 "java/lang/IllegalArgumentException", Cond.methodLink RL 39 yX4_argue, Cond.instanceMethod yX4_argue, Cond.selects RX4 yX4_argue yX4_argue, Cond.initialized RX4, Cond.code yX4_argue cX4_argue 4 (some .int), Cond.classLink RX4 99 "java/lang/IndexOutOfBoundsException", Cond.initialized "java/lang/IndexOutOfBoundsException", Cond.classLink RX4 41 "java/lang/IllegalArgumentException", Cond.initialized "java/lang/IllegalArgumentException", Cond.fieldLink RX4 19 "OutageBook" "log" "LOutageBook$Log;", Cond.methodLink RX4 96 yX1_holds, Cond.instanceMethod yX1_holds, Cond.selects RX1 yX1_holds yX1_holds, Cond.initialized RX1, Cond.code yX1_holds cX1_holds 2 (some .boolean), Cond.fieldLink RX1 38 "OutageBook$Log" "count" "I", Cond.methodLink RX4 53 yX4_isWithin, Cond.static yX4_isWithin, Cond.code yX4_isWithin cX4_isWithin 3 (some .boolean), Cond.methodLink RX4 122 yX1_weigh, Cond.instanceMethod yX1_weigh, Cond.selects RX1 yX1_weigh yX1_weigh]
def wsL_argue_r2 : List Cond := [Cond.code yX1_weigh cX1_weigh 3 (some .int), Cond.fieldLink RX1 25 "OutageBook$Log" "balances" "[I", Cond.methodLink RX1 42 yX1_holds]
def wsL_argue : List Cond := .codeWith yL_argue cL_argue 6 (some .int) [(0, 12, 15, 29), (0, 12, 19, 13)] :: ((wsL_argue_r1 ++ wsL_argue_r2) ++ wsX40 ++ wsX10 ++ (vx_atS RX4 103 "java/lang/IndexOutOfBoundsException" ["java/lang/RuntimeException", "java/lang/Exception"]).filter goodWord ++ (vx_atS RX4 45 "java/lang/IllegalArgumentException" ["java/lang/RuntimeException", "java/lang/Exception"]).filter goodWord)
def wsL_isDoubtful : List Cond := .codeWith yL_isDoubtful cL_isDoubtful 4 (some .int) [(0, 16, 19, 29)] :: ([.classLink RL 29 "java/lang/IndexOutOfBoundsException", .methodLink RL 43 yX4_isDoubtful, .instanceMethod yX4_isDoubtful, .selects RX4 yX4_isDoubtful yX4_isDoubtful, .initialized RX4, .code yX4_isDoubtful cX4_isDoubtful 2 (some .boolean), .classLink RX4 99 "java/lang/IndexOutOfBoundsException", .initialized "java/lang/IndexOutOfBoundsException", .fieldLink RX4 19 "OutageBook" "log" "LOutageBook$Log;", .methodLink RX4 96 yX1_holds, .instanceMethod yX1_holds, .selects RX1 yX1_holds yX1_holds, .initialized RX1, .code yX1_holds cX1_holds 2 (some .boolean), .fieldLink RX1 38 "OutageBook$Log" "count" "I", .methodLink RX4 125 yX1_isDoubted, .instanceMethod yX1_isDoubted, .selects RX1 yX1_isDoubted yX1_isDoubted, .code yX1_isDoubted cX1_isDoubted 2 (some .boolean), .fieldLink RX1 25 "OutageBook$Log" "balances" "[I", .methodLink RX1 42 yX1_holds] ++ wsX40 ++ wsX10 ++ (vx_atS RX4 103 "java/lang/IndexOutOfBoundsException" ["java/lang/RuntimeException", "java/lang/Exception"]).filter goodWord)
def wsL_storyAt_r1 : List Cond := [Cond.classLink RL 29 "java/lang/IndexOutOfBoundsException", Cond.methodLink RL 47 yX4_storyAt, Cond.instanceMethod yX4_storyAt, Cond.selects RX4 yX4_storyAt yX4_storyAt, Cond.initialized RX4, Cond.code yX4_storyAt cX4_storyAt 3 (some .int), Cond.classLink RX4 99 "java/lang/IndexOutOfBoundsException", Cond.initialized "java/lang/IndexOutOfBoundsException", Cond.fieldLink RX4 19 "OutageBook" "log" "LOutageBook$Log;", Cond.methodLink RX4 131 yX1_storyLine, Cond.instanceMethod yX1_storyLine, Cond.selects RX1 yX1_storyLine yX1_storyLine, Cond.initialized RX1, Cond.code yX1_storyLine cX1_storyLine 5 (some .int), Cond.fieldLink RX1 38 "OutageBook$Log" "count" "I", Cond.methodLink RX1 58 yX1_at, Cond.instanceMethod yX1_at, Cond.selects RX1 yX1_at yX1_at, Cond.code yX1_at cX1_at 2 (some .int), Cond.fieldLink RX1 31 "OutageBook$Log" "order" "[I", Cond.methodLink RX1 42 yX1_holds, Cond.instanceMethod yX1_holds, Cond.selects RX1 yX1_holds yX1_holds, Cond.code yX1_holds cX1_holds 2 (some .boolean)]
def wsL_storyAt_r2 : List Cond := [Cond.methodLink RX1 62 yX1_isInStory, Cond.instanceMethod yX1_isInStory, Cond.selects RX1 yX1_isInStory yX1_isInStory, Cond.code yX1_isInStory cX1_isInStory 2 (some .boolean), Cond.fieldLink RX1 21 "OutageBook$Log" "arePublic" "[Z", Cond.fieldLink RX1 25 "OutageBook$Log" "balances" "[I"]
def wsL_storyAt : List Cond := .codeWith yL_storyAt cL_storyAt 4 (some .int) [(0, 9, 12, 29)] :: ((wsL_storyAt_r1 ++ wsL_storyAt_r2) ++ wsX40 ++ wsX10 ++ (vx_atS RX4 103 "java/lang/IndexOutOfBoundsException" ["java/lang/RuntimeException", "java/lang/Exception"]).filter goodWord)
def wsL_earliest_r1 : List Cond := [Cond.classLink RL 29 "java/lang/IndexOutOfBoundsException", Cond.methodLink RL 50 yX4_earliest, Cond.instanceMethod yX4_earliest, Cond.selects RX4 yX4_earliest yX4_earliest, Cond.initialized RX4, Cond.code yX4_earliest cX4_earliest 2 (some .int), Cond.classLink RX4 99 "java/lang/IndexOutOfBoundsException", Cond.initialized "java/lang/IndexOutOfBoundsException", Cond.fieldLink RX4 19 "OutageBook" "log" "LOutageBook$Log;", Cond.fieldLink RX4 10 "OutageBook" "offsets" "LOutageBook$Offsets;", Cond.methodLink RX4 96 yX1_holds, Cond.instanceMethod yX1_holds, Cond.selects RX1 yX1_holds yX1_holds, Cond.initialized RX1, Cond.code yX1_holds cX1_holds 2 (some .boolean), Cond.fieldLink RX1 38 "OutageBook$Log" "count" "I", Cond.methodLink RX4 134 yX1_earliestTime, Cond.instanceMethod yX1_earliestTime, Cond.selects RX1 yX1_earliestTime yX1_earliestTime, Cond.code yX1_earliestTime cX1_earliestTime 4 (some .int), Cond.constant RX1 50 (-1000000), Cond.fieldLink RX1 9 "OutageBook$Log" "clocks" "[I", Cond.constant RX1 57 (1000000), Cond.fieldLink RX1 15 "OutageBook$Log" "readings" "[I"]
def wsL_earliest_r2 : List Cond := [Cond.methodLink RX1 42 yX1_holds, Cond.methodLink RX1 51 yX3_most, Cond.instanceMethod yX3_most, Cond.selects RX3 yX3_most yX3_most, Cond.initialized RX3, Cond.code yX3_most cX3_most 3 (some .int), Cond.constant RX3 16 (1000000), Cond.fieldLink RX3 11 "OutageBook$Offsets" "differences" "[[I", Cond.static yX4_isClock, Cond.code yX4_isClock cX4_isClock 1 (some .boolean), Cond.methodLink RX4 53 yX4_isWithin, Cond.static yX4_isWithin, Cond.code yX4_isWithin cX4_isWithin 3 (some .boolean)]
def wsL_earliest : List Cond := .codeWith yL_earliest cL_earliest 4 (some .int) [(0, 9, 12, 29)] :: ((wsL_earliest_r1 ++ wsL_earliest_r2) ++ wsX40 ++ wsX10 ++ wsX30 ++ (vx_atS RX4 103 "java/lang/IndexOutOfBoundsException" ["java/lang/RuntimeException", "java/lang/Exception"]).filter goodWord)
def wsL_firstOf_r1 : List Cond := [Cond.classLink RL 13 "java/lang/IllegalArgumentException", Cond.methodLink RL 53 yX4_firstOf, Cond.instanceMethod yX4_firstOf, Cond.selects RX4 yX4_firstOf yX4_firstOf, Cond.initialized RX4, Cond.code yX4_firstOf cX4_firstOf 2 (some .int), Cond.classLink RX4 41 "java/lang/IllegalArgumentException", Cond.initialized "java/lang/IllegalArgumentException", Cond.fieldLink RX4 19 "OutageBook" "log" "LOutageBook$Log;", Cond.methodLink RX4 81 yX4_isService, Cond.static yX4_isService, Cond.code yX4_isService cX4_isService 1 (some .boolean), Cond.methodLink RX4 53 yX4_isWithin, Cond.static yX4_isWithin, Cond.code yX4_isWithin cX4_isWithin 3 (some .boolean), Cond.methodLink RX4 140 yX1_firstLine, Cond.instanceMethod yX1_firstLine, Cond.selects RX1 yX1_firstLine yX1_firstLine, Cond.initialized RX1, Cond.code yX1_firstLine cX1_firstLine 4 (some .int), Cond.fieldLink RX1 38 "OutageBook$Log" "count" "I", Cond.fieldLink RX1 18 "OutageBook$Log" "services" "[I", Cond.methodLink RX1 58 yX1_at, Cond.instanceMethod yX1_at]
def wsL_firstOf_r2 : List Cond := [Cond.selects RX1 yX1_at yX1_at, Cond.code yX1_at cX1_at 2 (some .int), Cond.fieldLink RX1 31 "OutageBook$Log" "order" "[I", Cond.methodLink RX1 42 yX1_holds, Cond.instanceMethod yX1_holds, Cond.selects RX1 yX1_holds yX1_holds, Cond.code yX1_holds cX1_holds 2 (some .boolean)]
def wsL_firstOf : List Cond := .codeWith yL_firstOf cL_firstOf 4 (some .int) [(0, 9, 12, 13)] :: ((wsL_firstOf_r1 ++ wsL_firstOf_r2) ++ wsX40 ++ wsX10 ++ (vx_atS RX4 45 "java/lang/IllegalArgumentException" ["java/lang/RuntimeException", "java/lang/Exception"]).filter goodWord)
def wsL_measure_r1 : List Cond := [Cond.classLink RL 13 "java/lang/IllegalArgumentException", Cond.classLink RL 15 "java/lang/IllegalStateException", Cond.methodLink RL 56 yX4_measure, Cond.instanceMethod yX4_measure, Cond.selects RX4 yX4_measure yX4_measure, Cond.initialized RX4, Cond.code yX4_measure cX4_measure 5 (some .int), Cond.classLink RX4 41 "java/lang/IllegalArgumentException", Cond.initialized "java/lang/IllegalArgumentException", Cond.classLink RX4 62 "java/lang/IllegalStateException", Cond.initialized "java/lang/IllegalStateException", Cond.fieldLink RX4 26 "OutageBook" "measures" "LOutageBook$Measures;", Cond.methodLink RX4 81 yX4_isService, Cond.static yX4_isService, Cond.code yX4_isService cX4_isService 1 (some .boolean), Cond.methodLink RX4 53 yX4_isWithin, Cond.static yX4_isWithin, Cond.code yX4_isWithin cX4_isWithin 3 (some .boolean), Cond.methodLink RX4 147 yX2_size, Cond.instanceMethod yX2_size, Cond.selects RX2 yX2_size yX2_size, Cond.initialized RX2, Cond.code yX2_size cX2_size 1 (some .int), Cond.fieldLink RX2 24 "OutageBook$Measures" "count" "I"]
def wsL_measure_r2 : List Cond := [Cond.methodLink RX4 150 yX2_add, Cond.instanceMethod yX2_add, Cond.selects RX2 yX2_add yX2_add, Cond.code yX2_add cX2_add 6 (some .int), Cond.fieldLink RX2 9 "OutageBook$Measures" "services" "[I", Cond.fieldLink RX2 15 "OutageBook$Measures" "starts" "[I", Cond.fieldLink RX2 18 "OutageBook$Measures" "ends" "[I", Cond.fieldLink RX2 21 "OutageBook$Measures" "percents" "[I"]
def wsL_measure : List Cond := .codeWith yL_measure cL_measure 7 (some .int) [(0, 14, 17, 13), (0, 14, 21, 15)] :: ((wsL_measure_r1 ++ wsL_measure_r2) ++ wsX40 ++ wsX20 ++ (vx_atS RX4 45 "java/lang/IllegalArgumentException" ["java/lang/RuntimeException", "java/lang/Exception"]).filter goodWord ++ (vx_atS RX4 66 "java/lang/IllegalStateException" ["java/lang/RuntimeException", "java/lang/Exception"]).filter goodWord)
def wsL_impact_r1 : List Cond := [Cond.classLink RL 13 "java/lang/IllegalArgumentException", Cond.methodLink RL 60 yX4_impact, Cond.instanceMethod yX4_impact, Cond.selects RX4 yX4_impact yX4_impact, Cond.initialized RX4, Cond.code yX4_impact cX4_impact 2 (some .int), Cond.classLink RX4 41 "java/lang/IllegalArgumentException", Cond.initialized "java/lang/IllegalArgumentException", Cond.fieldLink RX4 26 "OutageBook" "measures" "LOutageBook$Measures;", Cond.methodLink RX4 81 yX4_isService, Cond.static yX4_isService, Cond.code yX4_isService cX4_isService 1 (some .boolean), Cond.methodLink RX4 53 yX4_isWithin, Cond.static yX4_isWithin, Cond.code yX4_isWithin cX4_isWithin 3 (some .boolean), Cond.methodLink RX4 153 yX2_sumOfWorst, Cond.instanceMethod yX2_sumOfWorst, Cond.selects RX2 yX2_sumOfWorst yX2_sumOfWorst, Cond.initialized RX2, Cond.code yX2_sumOfWorst cX2_sumOfWorst 6 (some .int), Cond.fieldLink RX2 24 "OutageBook$Measures" "count" "I", Cond.methodLink RX2 28 yX2_nextChange, Cond.instanceMethod yX2_nextChange, Cond.selects RX2 yX2_nextChange yX2_nextChange]
def wsL_impact_r2 : List Cond := [Cond.code yX2_nextChange cX2_nextChange 5 (some .int), Cond.fieldLink RX2 18 "OutageBook$Measures" "ends" "[I", Cond.fieldLink RX2 15 "OutageBook$Measures" "starts" "[I", Cond.methodLink RX2 36 Lib.Math.min.name, Cond.static Lib.Math.min.name, Cond.initialized "java/lang/Math", Cond.code Lib.Math.min.name Lib.Math.min.code 2 (some .int), Cond.methodLink RX2 32 yX2_worst, Cond.instanceMethod yX2_worst, Cond.selects RX2 yX2_worst yX2_worst, Cond.code yX2_worst cX2_worst 6 (some .int), Cond.fieldLink RX2 9 "OutageBook$Measures" "services" "[I", Cond.fieldLink RX2 21 "OutageBook$Measures" "percents" "[I", Cond.methodLink RX2 45 Lib.Math.max.name, Cond.static Lib.Math.max.name, Cond.code Lib.Math.max.name Lib.Math.max.code 2 (some .int)]
def wsL_impact : List Cond := .codeWith yL_impact cL_impact 4 (some .int) [(0, 9, 12, 13)] :: ((wsL_impact_r1 ++ wsL_impact_r2) ++ wsX40 ++ wsX20 ++ (vx_atS RX4 45 "java/lang/IllegalArgumentException" ["java/lang/RuntimeException", "java/lang/Exception"]).filter goodWord)
def wsL_addCause : List Cond := .codeWith yL_addCause cL_addCause 3 (some .int) [(0, 8, 11, 15)] :: ([.classLink RL 15 "java/lang/IllegalStateException", .methodLink RL 63 yX4_addCause, .instanceMethod yX4_addCause, .selects RX4 yX4_addCause yX4_addCause, .initialized RX4, .code yX4_addCause cX4_addCause 1 (some .int), .classLink RX4 62 "java/lang/IllegalStateException", .initialized "java/lang/IllegalStateException", .fieldLink RX4 33 "OutageBook" "causes" "LOutageBook$Causes;", .methodLink RX4 159 yX0_size, .instanceMethod yX0_size, .selects RX0 yX0_size yX0_size, .initialized RX0, .code yX0_size cX0_size 1 (some .int), .fieldLink RX0 20 "OutageBook$Causes" "count" "I", .methodLink RX4 162 yX0_add, .instanceMethod yX0_add, .selects RX0 yX0_add yX0_add, .code yX0_add cX0_add 2 (some .int), .fieldLink RX0 16 "OutageBook$Causes" "standing" "I", .static yX4_bit, .code yX4_bit cX4_bit 1 (some .int)] ++ wsX40 ++ wsX00 ++ (vx_atS RX4 66 "java/lang/IllegalStateException" ["java/lang/RuntimeException", "java/lang/Exception"]).filter goodWord)
def wsL_argueReason_r1 : List Cond := [Cond.classLink RL 29 "java/lang/IndexOutOfBoundsException", Cond.classLink RL 13 "java/lang/IllegalArgumentException", Cond.classLink RL 15 "java/lang/IllegalStateException", Cond.methodLink RL 67 yX4_argueReason, Cond.instanceMethod yX4_argueReason, Cond.selects RX4 yX4_argueReason yX4_argueReason, Cond.initialized RX4, Cond.code yX4_argueReason cX4_argueReason 4 (some .int), Cond.classLink RX4 99 "java/lang/IndexOutOfBoundsException", Cond.initialized "java/lang/IndexOutOfBoundsException", Cond.classLink RX4 41 "java/lang/IllegalArgumentException", Cond.initialized "java/lang/IllegalArgumentException", Cond.classLink RX4 62 "java/lang/IllegalStateException", Cond.initialized "java/lang/IllegalStateException", Cond.fieldLink RX4 33 "OutageBook" "causes" "LOutageBook$Causes;", Cond.methodLink RX4 164 yX0_holds, Cond.instanceMethod yX0_holds, Cond.selects RX0 yX0_holds yX0_holds, Cond.initialized RX0, Cond.code yX0_holds cX0_holds 2 (some .boolean), Cond.fieldLink RX0 20 "OutageBook$Causes" "count" "I", Cond.methodLink RX4 53 yX4_isWithin, Cond.static yX4_isWithin, Cond.code yX4_isWithin cX4_isWithin 3 (some .boolean)]
def wsL_argueReason_r2 : List Cond := [Cond.methodLink RX4 169 yX0_isBecauseOf, Cond.instanceMethod yX0_isBecauseOf, Cond.selects RX0 yX0_isBecauseOf yX0_isBecauseOf, Cond.code yX0_isBecauseOf cX0_isBecauseOf 3 (some .boolean), Cond.static yX4_bit, Cond.code yX4_bit cX4_bit 1 (some .int), Cond.methodLink RX0 35 yX0_reach, Cond.instanceMethod yX0_reach, Cond.selects RX0 yX0_reach yX0_reach, Cond.code yX0_reach cX0_reach 6 (some .int), Cond.static yX4_hasBit, Cond.code yX4_hasBit cX4_hasBit 2 (some .boolean), Cond.methodLink RX4 188 yX4_bit, Cond.methodLink RX0 39 yX0_reasonsOf, Cond.instanceMethod yX0_reasonsOf, Cond.selects RX0 yX0_reasonsOf yX0_reasonsOf, Cond.code yX0_reasonsOf cX0_reasonsOf 4 (some .int), Cond.methodLink RX0 42 yX0_weight, Cond.instanceMethod yX0_weight, Cond.selects RX0 yX0_weight yX0_weight, Cond.code yX0_weight cX0_weight 3 (some .int), Cond.fieldLink RX0 11 "OutageBook$Causes" "weights" "[[I", Cond.methodLink RX0 27 yX0_holds, Cond.methodLink RX4 174 yX0_replaceWeight]
def wsL_argueReason_r3 : List Cond := [Cond.instanceMethod yX0_replaceWeight, Cond.selects RX0 yX0_replaceWeight yX0_replaceWeight, Cond.code yX0_replaceWeight cX0_replaceWeight 5 (some .int)]
def wsL_argueReason : List Cond := .codeWith yL_argueReason cL_argueReason 6 (some .int) [(0, 12, 15, 29), (0, 12, 19, 13), (0, 12, 23, 15)] :: ((wsL_argueReason_r1 ++ (wsL_argueReason_r2 ++ wsL_argueReason_r3)) ++ wsX40 ++ wsX00 ++ (vx_atS RX4 103 "java/lang/IndexOutOfBoundsException" ["java/lang/RuntimeException", "java/lang/Exception"]).filter goodWord ++ (vx_atS RX4 45 "java/lang/IllegalArgumentException" ["java/lang/RuntimeException", "java/lang/Exception"]).filter goodWord ++ (vx_atS RX4 66 "java/lang/IllegalStateException" ["java/lang/RuntimeException", "java/lang/Exception"]).filter goodWord)
def wsL_setStanding_r1 : List Cond := [Cond.classLink RL 29 "java/lang/IndexOutOfBoundsException", Cond.methodLink RL 71 yX4_setStanding, Cond.instanceMethod yX4_setStanding, Cond.selects RX4 yX4_setStanding yX4_setStanding, Cond.initialized RX4, Cond.code yX4_setStanding cX4_setStanding 3 (some .boolean), Cond.classLink RX4 99 "java/lang/IndexOutOfBoundsException", Cond.initialized "java/lang/IndexOutOfBoundsException", Cond.fieldLink RX4 33 "OutageBook" "causes" "LOutageBook$Causes;", Cond.methodLink RX4 164 yX0_holds, Cond.instanceMethod yX0_holds, Cond.selects RX0 yX0_holds yX0_holds, Cond.initialized RX0, Cond.code yX0_holds cX0_holds 2 (some .boolean), Cond.fieldLink RX0 20 "OutageBook$Causes" "count" "I", Cond.methodLink RX4 178 yX0_replaceStanding, Cond.instanceMethod yX0_replaceStanding, Cond.selects RX0 yX0_replaceStanding yX0_replaceStanding, Cond.code yX0_replaceStanding cX0_replaceStanding 4 (some .boolean), Cond.fieldLink RX0 16 "OutageBook$Causes" "standing" "I", Cond.static yX4_hasBit, Cond.code yX4_hasBit cX4_hasBit 2 (some .boolean), Cond.methodLink RX4 188 yX4_bit, Cond.static yX4_bit]
def wsL_setStanding_r2 : List Cond := [Cond.code yX4_bit cX4_bit 1 (some .int)]
def wsL_setStanding : List Cond := .codeWith yL_setStanding cL_setStanding 5 (some .int) [(0, 17, 20, 29)] :: ((wsL_setStanding_r1 ++ wsL_setStanding_r2) ++ wsX40 ++ wsX00 ++ (vx_atS RX4 103 "java/lang/IndexOutOfBoundsException" ["java/lang/RuntimeException", "java/lang/Exception"]).filter goodWord)
def wsL_roots_r1 : List Cond := [Cond.classLink RL 29 "java/lang/IndexOutOfBoundsException", Cond.methodLink RL 75 yX4_roots, Cond.instanceMethod yX4_roots, Cond.selects RX4 yX4_roots yX4_roots, Cond.initialized RX4, Cond.code yX4_roots cX4_roots 2 (some .int), Cond.classLink RX4 99 "java/lang/IndexOutOfBoundsException", Cond.initialized "java/lang/IndexOutOfBoundsException", Cond.fieldLink RX4 33 "OutageBook" "causes" "LOutageBook$Causes;", Cond.methodLink RX4 164 yX0_holds, Cond.instanceMethod yX0_holds, Cond.selects RX0 yX0_holds yX0_holds, Cond.initialized RX0, Cond.code yX0_holds cX0_holds 2 (some .boolean), Cond.fieldLink RX0 20 "OutageBook$Causes" "count" "I", Cond.methodLink RX4 182 yX0_rootsUnder, Cond.instanceMethod yX0_rootsUnder, Cond.selects RX0 yX0_rootsUnder yX0_rootsUnder, Cond.code yX0_rootsUnder cX0_rootsUnder 5 (some .int), Cond.fieldLink RX0 16 "OutageBook$Causes" "standing" "I", Cond.static yX4_hasBit, Cond.code yX4_hasBit cX4_hasBit 2 (some .boolean), Cond.methodLink RX4 188 yX4_bit, Cond.static yX4_bit]
def wsL_roots_r2 : List Cond := [Cond.code yX4_bit cX4_bit 1 (some .int), Cond.methodLink RX0 35 yX0_reach, Cond.instanceMethod yX0_reach, Cond.selects RX0 yX0_reach yX0_reach, Cond.code yX0_reach cX0_reach 6 (some .int), Cond.methodLink RX0 39 yX0_reasonsOf, Cond.instanceMethod yX0_reasonsOf, Cond.selects RX0 yX0_reasonsOf yX0_reasonsOf, Cond.code yX0_reasonsOf cX0_reasonsOf 4 (some .int), Cond.methodLink RX0 42 yX0_weight, Cond.instanceMethod yX0_weight, Cond.selects RX0 yX0_weight yX0_weight, Cond.code yX0_weight cX0_weight 3 (some .int), Cond.fieldLink RX0 11 "OutageBook$Causes" "weights" "[[I", Cond.methodLink RX0 27 yX0_holds]
def wsL_roots : List Cond := .codeWith yL_roots cL_roots 4 (some .int) [(0, 9, 12, 29)] :: ((wsL_roots_r1 ++ wsL_roots_r2) ++ wsX40 ++ wsX00 ++ (vx_atS RX4 103 "java/lang/IndexOutOfBoundsException" ["java/lang/RuntimeException", "java/lang/Exception"]).filter goodWord)
def wsL_mainReason_r1 : List Cond := [Cond.classLink RL 29 "java/lang/IndexOutOfBoundsException", Cond.methodLink RL 78 yX4_mainReason, Cond.instanceMethod yX4_mainReason, Cond.selects RX4 yX4_mainReason yX4_mainReason, Cond.initialized RX4, Cond.code yX4_mainReason cX4_mainReason 2 (some .int), Cond.classLink RX4 99 "java/lang/IndexOutOfBoundsException", Cond.initialized "java/lang/IndexOutOfBoundsException", Cond.fieldLink RX4 33 "OutageBook" "causes" "LOutageBook$Causes;", Cond.methodLink RX4 164 yX0_holds, Cond.instanceMethod yX0_holds, Cond.selects RX0 yX0_holds yX0_holds, Cond.initialized RX0, Cond.code yX0_holds cX0_holds 2 (some .boolean), Cond.fieldLink RX0 20 "OutageBook$Causes" "count" "I", Cond.methodLink RX4 185 yX0_weightiestReason, Cond.instanceMethod yX0_weightiestReason, Cond.selects RX0 yX0_weightiestReason yX0_weightiestReason, Cond.code yX0_weightiestReason cX0_weightiestReason 6 (some .int), Cond.fieldLink RX0 16 "OutageBook$Causes" "standing" "I", Cond.methodLink RX0 42 yX0_weight, Cond.instanceMethod yX0_weight, Cond.selects RX0 yX0_weight yX0_weight, Cond.code yX0_weight cX0_weight 3 (some .int)]
def wsL_mainReason_r2 : List Cond := [Cond.fieldLink RX0 11 "OutageBook$Causes" "weights" "[[I", Cond.methodLink RX0 27 yX0_holds, Cond.static yX4_hasBit, Cond.code yX4_hasBit cX4_hasBit 2 (some .boolean), Cond.methodLink RX4 188 yX4_bit, Cond.static yX4_bit, Cond.code yX4_bit cX4_bit 1 (some .int)]
def wsL_mainReason : List Cond := .codeWith yL_mainReason cL_mainReason 4 (some .int) [(0, 9, 12, 29)] :: ((wsL_mainReason_r1 ++ wsL_mainReason_r2) ++ wsX40 ++ wsX00 ++ (vx_atS RX4 103 "java/lang/IndexOutOfBoundsException" ["java/lang/RuntimeException", "java/lang/Exception"]).filter goodWord)
def wsL_law0_r1 : List Cond := [Cond.classLink RL 8 RX4, Cond.instantiable RX4 4, Cond.initialized RX4, Cond.classLink RL 82 RX5, Cond.instantiable RX5 21, Cond.initialized RX5, Cond.arrayClass .long, Cond.methodLink RL 81 yX4_init, Cond.instanceMethod yX4_init, Cond.code yX4_init cX4_init 1 none, Cond.methodLink RX4 1 objectInit, Cond.instanceMethod objectInit, Cond.code objectInit ⟨#[0xb1]⟩ 1 none, Cond.classLink RX4 7 RX3, Cond.instantiable RX3 1, Cond.initialized RX3, Cond.fieldLink RX4 10 "OutageBook" "offsets" "LOutageBook$Offsets;", Cond.classLink RX4 16 RX1, Cond.instantiable RX1 9, Cond.initialized RX1, Cond.fieldLink RX4 19 "OutageBook" "log" "LOutageBook$Log;", Cond.classLink RX4 23 RX2, Cond.instantiable RX2 5, Cond.initialized RX2]
def wsL_law0_r2 : List Cond := [Cond.fieldLink RX4 26 "OutageBook" "measures" "LOutageBook$Measures;", Cond.classLink RX4 30 RX0, Cond.instantiable RX0 3, Cond.initialized RX0, Cond.fieldLink RX4 33 "OutageBook" "causes" "LOutageBook$Causes;", Cond.methodLink RX4 9 yX3_init, Cond.instanceMethod yX3_init, Cond.code yX3_init cX3_init 3 none, Cond.methodLink RX3 3 objectInit, Cond.classLink RX3 9 "[[I", Cond.arrayClass .int, Cond.fieldLink RX3 11 "OutageBook$Offsets" "differences" "[[I", Cond.constant RX3 16 (1000000), Cond.instanceMethod yX1_init, Cond.code yX1_init cX1_init 1 none, Cond.methodLink RX1 3 objectInit, Cond.fieldLink RX1 9 "OutageBook$Log" "clocks" "[I", Cond.fieldLink RX1 15 "OutageBook$Log" "readings" "[I", Cond.fieldLink RX1 18 "OutageBook$Log" "services" "[I", Cond.arrayClass .boolean, Cond.fieldLink RX1 21 "OutageBook$Log" "arePublic" "[Z", Cond.fieldLink RX1 25 "OutageBook$Log" "balances" "[I", Cond.fieldLink RX1 28 "OutageBook$Log" "before" "[I", Cond.fieldLink RX1 31 "OutageBook$Log" "order" "[I"]
def wsL_law0_r3 : List Cond := [Cond.fieldLink RX1 34 "OutageBook$Log" "beginnings" "[J", Cond.fieldLink RX1 38 "OutageBook$Log" "count" "I", Cond.instanceMethod yX2_init, Cond.code yX2_init cX2_init 1 none, Cond.methodLink RX2 3 objectInit, Cond.fieldLink RX2 9 "OutageBook$Measures" "services" "[I", Cond.fieldLink RX2 15 "OutageBook$Measures" "starts" "[I", Cond.fieldLink RX2 18 "OutageBook$Measures" "ends" "[I", Cond.fieldLink RX2 21 "OutageBook$Measures" "percents" "[I", Cond.fieldLink RX2 24 "OutageBook$Measures" "count" "I", Cond.instanceMethod yX0_init, Cond.code yX0_init cX0_init 1 none, Cond.methodLink RX0 3 objectInit, Cond.classLink RX0 9 "[[I", Cond.fieldLink RX0 11 "OutageBook$Causes" "weights" "[[I", Cond.fieldLink RX0 16 "OutageBook$Causes" "standing" "I", Cond.fieldLink RX0 20 "OutageBook$Causes" "count" "I", Cond.methodLink RL 84 yX5_init, Cond.instanceMethod yX5_init, Cond.code yX5_init cX5_init 2 none, Cond.methodLink RX5 1 objectInit, Cond.fieldLink RX5 7 "OutageBookModel" "bounds" "[I", Cond.fieldLink RX5 13 "OutageBookModel" "tried" "[I", Cond.fieldLink RX5 16 "OutageBookModel" "clocks" "[I"]
def wsL_law0_r4 : List Cond := [Cond.fieldLink RX5 19 "OutageBookModel" "readings" "[I", Cond.fieldLink RX5 22 "OutageBookModel" "services" "[I", Cond.fieldLink RX5 25 "OutageBookModel" "isPublic" "[Z", Cond.fieldLink RX5 29 "OutageBookModel" "weightsFor" "[I", Cond.fieldLink RX5 32 "OutageBookModel" "weightsAgainst" "[I", Cond.fieldLink RX5 35 "OutageBookModel" "order" "[I", Cond.fieldLink RX5 38 "OutageBookModel" "ahead" "[I", Cond.fieldLink RX5 41 "OutageBookModel" "counts" "[J", Cond.fieldLink RX5 45 "OutageBookModel" "measured" "[I", Cond.fieldLink RX5 48 "OutageBookModel" "froms" "[I", Cond.fieldLink RX5 51 "OutageBookModel" "tos" "[I", Cond.fieldLink RX5 54 "OutageBookModel" "percents" "[I", Cond.fieldLink RX5 57 "OutageBookModel" "stands" "[Z", Cond.fieldLink RX5 60 "OutageBookModel" "weights" "[I", Cond.constant RX5 63 (1000000), Cond.methodLink RL 85 yL_mark, Cond.static yL_mark, Cond.initialized RL, Cond.codeWith yL_mark cL_mark 7 (some .int) [(0, 11, 14, 13), (0, 11, 18, 15)], Cond.classLink RL 13 "java/lang/IllegalArgumentException", Cond.classLink RL 15 "java/lang/IllegalStateException", Cond.methodLink RL 7 yX4_mark, Cond.instanceMethod yX4_mark, Cond.selects RX4 yX4_mark yX4_mark]
def wsL_law0_r5 : List Cond := [Cond.code yX4_mark cX4_mark 7 none, Cond.classLink RX4 41 "java/lang/IllegalArgumentException", Cond.initialized "java/lang/IllegalArgumentException", Cond.classLink RX4 62 "java/lang/IllegalStateException", Cond.initialized "java/lang/IllegalStateException", Cond.methodLink RX4 37 yX4_isClock, Cond.static yX4_isClock, Cond.code yX4_isClock cX4_isClock 1 (some .boolean), Cond.methodLink RX4 53 yX4_isWithin, Cond.static yX4_isWithin, Cond.code yX4_isWithin cX4_isWithin 3 (some .boolean), Cond.methodLink RX4 48 yX4_isReading, Cond.static yX4_isReading, Cond.code yX4_isReading cX4_isReading 1 (some .boolean), Cond.methodLink RX4 59 yX3_allows, Cond.instanceMethod yX3_allows, Cond.selects RX3 yX3_allows yX3_allows, Cond.code yX3_allows cX3_allows 4 (some .boolean), Cond.methodLink RX3 21 yX3_most, Cond.instanceMethod yX3_most, Cond.selects RX3 yX3_most yX3_most, Cond.code yX3_most cX3_most 3 (some .int), Cond.methodLink RX4 67 yX3_bound, Cond.instanceMethod yX3_bound]
def wsL_law0_r6 : List Cond := [Cond.selects RX3 yX3_bound yX3_bound, Cond.code yX3_bound cX3_bound 9 none, Cond.methodLink RX3 25 Lib.Math.min.name, Cond.static Lib.Math.min.name, Cond.initialized "java/lang/Math", Cond.code Lib.Math.min.name Lib.Math.min.code 2 (some .int), Cond.methodLink RX4 71 yX1_arrange, Cond.instanceMethod yX1_arrange, Cond.selects RX1 yX1_arrange yX1_arrange, Cond.code yX1_arrange cX1_arrange 4 none, Cond.methodLink RX1 65 yX1_allBefore, Cond.instanceMethod yX1_allBefore, Cond.selects RX1 yX1_allBefore yX1_allBefore, Cond.code yX1_allBefore cX1_allBefore 5 (some .int), Cond.methodLink RX1 75 yX1_isSurelyEarlier, Cond.instanceMethod yX1_isSurelyEarlier, Cond.selects RX1 yX1_isSurelyEarlier yX1_isSurelyEarlier, Cond.code yX1_isSurelyEarlier cX1_isSurelyEarlier 5 (some .boolean), Cond.constant RX1 57 (1000000), Cond.methodLink RX1 42 yX1_holds, Cond.instanceMethod yX1_holds, Cond.selects RX1 yX1_holds yX1_holds, Cond.code yX1_holds cX1_holds 2 (some .boolean), Cond.methodLink RX1 51 yX3_most]
def wsL_law0_r7 : List Cond := [Cond.static yX4_bit, Cond.code yX4_bit cX4_bit 1 (some .int), Cond.methodLink RX1 72 yX1_nextLine, Cond.instanceMethod yX1_nextLine, Cond.selects RX1 yX1_nextLine yX1_nextLine, Cond.code yX1_nextLine cX1_nextLine 3 (some .int), Cond.static yX4_hasBit, Cond.code yX4_hasBit cX4_hasBit 2 (some .boolean), Cond.methodLink RX4 188 yX4_bit, Cond.methodLink RL 90 yX5_mark, Cond.instanceMethod yX5_mark, Cond.selects RX5 yX5_mark yX5_mark, Cond.code yX5_mark cX5_mark 12 none, Cond.methodLink RX5 72 yX5_isClock, Cond.static yX5_isClock, Cond.code yX5_isClock cX5_isClock 1 (some .boolean), Cond.methodLink RX5 68 yX5_isIn, Cond.static yX5_isIn, Cond.code yX5_isIn cX5_isIn 3 (some .boolean), Cond.methodLink RX5 76 yX5_isTime, Cond.static yX5_isTime, Cond.code yX5_isTime cX5_isTime 1 (some .boolean), Cond.methodLink RX5 79 yX5_goes, Cond.instanceMethod yX5_goes]
def wsL_law0_r8 : List Cond := [Cond.selects RX5 yX5_goes yX5_goes, Cond.code yX5_goes cX5_goes 2 (some .boolean), Cond.fieldLink RX5 64 "OutageBookModel" "thrown" "I", Cond.methodLink RX5 82 yX5_binds, Cond.instanceMethod yX5_binds, Cond.selects RX5 yX5_binds yX5_binds, Cond.code yX5_binds cX5_binds 4 none, Cond.methodLink RL 91 yX5_thrown, Cond.instanceMethod yX5_thrown, Cond.selects RX5 yX5_thrown yX5_thrown, Cond.code yX5_thrown cX5_thrown 1 (some .int), Cond.methodLink RL 94 yL_greatest, Cond.static yL_greatest, Cond.codeWith yL_greatest cL_greatest 5 (some .int) [(0, 10, 13, 13)], Cond.methodLink RL 17 yX4_greatest, Cond.instanceMethod yX4_greatest, Cond.selects RX4 yX4_greatest yX4_greatest, Cond.code yX4_greatest cX4_greatest 3 (some .int), Cond.methodLink RX4 77 yX3_most, Cond.methodLink RL 97 yX5_greatest, Cond.instanceMethod yX5_greatest, Cond.selects RX5 yX5_greatest yX5_greatest, Cond.code yX5_greatest cX5_greatest 3 (some .int), Cond.methodLink RL 98 yL_write]
def wsL_law0_r9 : List Cond := [Cond.static yL_write, Cond.codeWith yL_write cL_write 7 (some .int) [(0, 14, 17, 13), (0, 14, 21, 15)], Cond.methodLink RL 21 yX4_write, Cond.instanceMethod yX4_write, Cond.selects RX4 yX4_write yX4_write, Cond.code yX4_write cX4_write 6 (some .int), Cond.methodLink RX4 81 yX4_isService, Cond.static yX4_isService, Cond.code yX4_isService cX4_isService 1 (some .boolean), Cond.methodLink RX4 86 yX1_size, Cond.instanceMethod yX1_size, Cond.selects RX1 yX1_size yX1_size, Cond.code yX1_size cX1_size 1 (some .int), Cond.methodLink RX4 92 yX1_add, Cond.instanceMethod yX1_add, Cond.selects RX1 yX1_add yX1_add, Cond.code yX1_add cX1_add 6 (some .int), Cond.methodLink RL 101 yX5_write, Cond.instanceMethod yX5_write, Cond.selects RX5 yX5_write yX5_write, Cond.code yX5_write cX5_write 5 (some .int), Cond.fieldLink RX5 89 "OutageBookModel" "lines" "I", Cond.methodLink RX5 86 yX5_isService, Cond.static yX5_isService]
def wsL_law0_r10 : List Cond := [Cond.code yX5_isService cX5_isService 1 (some .boolean), Cond.methodLink RL 102 yX4_lines, Cond.instanceMethod yX4_lines, Cond.selects RX4 yX4_lines yX4_lines, Cond.code yX4_lines cX4_lines 1 (some .int), Cond.methodLink RL 105 yX5_lines, Cond.instanceMethod yX5_lines, Cond.selects RX5 yX5_lines yX5_lines, Cond.code yX5_lines cX5_lines 1 (some .int), Cond.methodLink RL 106 yL_mustComeBefore, Cond.static yL_mustComeBefore, Cond.codeWith yL_mustComeBefore cL_mustComeBefore 5 (some .int) [(0, 17, 20, 29)], Cond.classLink RL 29 "java/lang/IndexOutOfBoundsException", Cond.methodLink RL 25 yX4_mustComeBefore, Cond.instanceMethod yX4_mustComeBefore, Cond.selects RX4 yX4_mustComeBefore yX4_mustComeBefore, Cond.code yX4_mustComeBefore cX4_mustComeBefore 3 (some .boolean), Cond.classLink RX4 99 "java/lang/IndexOutOfBoundsException", Cond.initialized "java/lang/IndexOutOfBoundsException", Cond.methodLink RX4 96 yX1_holds, Cond.methodLink RX4 104 yX1_isBefore, Cond.instanceMethod yX1_isBefore, Cond.selects RX1 yX1_isBefore yX1_isBefore, Cond.code yX1_isBefore cX1_isBefore 3 (some .boolean)]
def wsL_law0_r11 : List Cond := [Cond.methodLink RL 108 yX5_mustComeBefore, Cond.instanceMethod yX5_mustComeBefore, Cond.selects RX5 yX5_mustComeBefore yX5_mustComeBefore, Cond.code yX5_mustComeBefore cX5_mustComeBefore 3 (some .boolean), Cond.methodLink RX5 92 yX5_isLine, Cond.instanceMethod yX5_isLine, Cond.selects RX5 yX5_isLine yX5_isLine, Cond.code yX5_isLine cX5_isLine 2 (some .boolean), Cond.methodLink RX5 95 yX5_isBefore, Cond.instanceMethod yX5_isBefore, Cond.selects RX5 yX5_isBefore yX5_isBefore, Cond.code yX5_isBefore cX5_isBefore 4 (some .boolean), Cond.methodLink RL 109 yL_lineAt, Cond.static yL_lineAt, Cond.codeWith yL_lineAt cL_lineAt 4 (some .int) [(0, 9, 12, 29)], Cond.methodLink RL 31 yX4_lineAt, Cond.instanceMethod yX4_lineAt, Cond.selects RX4 yX4_lineAt yX4_lineAt, Cond.code yX4_lineAt cX4_lineAt 2 (some .int), Cond.methodLink RX4 110 yX1_at, Cond.instanceMethod yX1_at, Cond.selects RX1 yX1_at yX1_at, Cond.code yX1_at cX1_at 2 (some .int), Cond.methodLink RL 112 yX5_lineAt]
def wsL_law0_r12 : List Cond := [Cond.instanceMethod yX5_lineAt, Cond.selects RX5 yX5_lineAt yX5_lineAt, Cond.code yX5_lineAt cX5_lineAt 2 (some .int), Cond.methodLink RX5 99 yX5_laysOrder, Cond.instanceMethod yX5_laysOrder, Cond.selects RX5 yX5_laysOrder yX5_laysOrder, Cond.code yX5_laysOrder cX5_laysOrder 7 none, Cond.methodLink RL 113 yL_orders, Cond.static yL_orders, Cond.codeWith yL_orders cL_orders 3 (some .int) [(0, 7, 10, 15)], Cond.methodLink RL 35 yX4_orders, Cond.instanceMethod yX4_orders, Cond.selects RX4 yX4_orders yX4_orders, Cond.code yX4_orders cX4_orders 1 (some .long), Cond.methodLink RX4 116 yX1_countOrders, Cond.instanceMethod yX1_countOrders, Cond.selects RX1 yX1_countOrders yX1_countOrders, Cond.code yX1_countOrders cX1_countOrders 5 (some .long), Cond.methodLink RX1 79 yX1_countBeginnings, Cond.instanceMethod yX1_countBeginnings, Cond.selects RX1 yX1_countBeginnings yX1_countBeginnings, Cond.code yX1_countBeginnings cX1_countBeginnings 7 (some .long), Cond.methodLink RL 116 yX5_orders, Cond.instanceMethod yX5_orders]
def wsL_law0_r13 : List Cond := [Cond.selects RX5 yX5_orders yX5_orders, Cond.code yX5_orders cX5_orders 4 (some .long), Cond.methodLink RL 117 yL_argue, Cond.static yL_argue, Cond.codeWith yL_argue cL_argue 6 (some .int) [(0, 12, 15, 29), (0, 12, 19, 13)], Cond.methodLink RL 39 yX4_argue, Cond.instanceMethod yX4_argue, Cond.selects RX4 yX4_argue yX4_argue, Cond.code yX4_argue cX4_argue 4 (some .int), Cond.methodLink RX4 122 yX1_weigh, Cond.instanceMethod yX1_weigh, Cond.selects RX1 yX1_weigh yX1_weigh, Cond.code yX1_weigh cX1_weigh 3 (some .int), Cond.methodLink RL 120 yX5_argue, Cond.instanceMethod yX5_argue, Cond.selects RX5 yX5_argue yX5_argue, Cond.code yX5_argue cX5_argue 4 (some .int), Cond.methodLink RL 121 yL_isDoubtful, Cond.static yL_isDoubtful, Cond.codeWith yL_isDoubtful cL_isDoubtful 4 (some .int) [(0, 16, 19, 29)], Cond.methodLink RL 43 yX4_isDoubtful, Cond.instanceMethod yX4_isDoubtful, Cond.selects RX4 yX4_isDoubtful yX4_isDoubtful, Cond.code yX4_isDoubtful cX4_isDoubtful 2 (some .boolean)]
def wsL_law0_r14 : List Cond := [Cond.methodLink RX4 125 yX1_isDoubted, Cond.instanceMethod yX1_isDoubted, Cond.selects RX1 yX1_isDoubted yX1_isDoubted, Cond.code yX1_isDoubted cX1_isDoubted 2 (some .boolean), Cond.methodLink RL 123 yX5_isDoubtful, Cond.instanceMethod yX5_isDoubtful, Cond.selects RX5 yX5_isDoubtful yX5_isDoubtful, Cond.code yX5_isDoubtful cX5_isDoubtful 2 (some .boolean), Cond.methodLink RX5 102 yX5_isDoubted, Cond.instanceMethod yX5_isDoubted, Cond.selects RX5 yX5_isDoubted yX5_isDoubted, Cond.code yX5_isDoubted cX5_isDoubted 2 (some .boolean), Cond.methodLink RL 124 yX4_story, Cond.instanceMethod yX4_story, Cond.selects RX4 yX4_story yX4_story, Cond.code yX4_story cX4_story 1 (some .int), Cond.methodLink RX4 128 yX1_storySize, Cond.instanceMethod yX1_storySize, Cond.selects RX1 yX1_storySize yX1_storySize, Cond.code yX1_storySize cX1_storySize 3 (some .int), Cond.methodLink RX1 58 yX1_at, Cond.methodLink RX1 62 yX1_isInStory, Cond.instanceMethod yX1_isInStory, Cond.selects RX1 yX1_isInStory yX1_isInStory]
def wsL_law0_r15 : List Cond := [Cond.code yX1_isInStory cX1_isInStory 2 (some .boolean), Cond.methodLink RL 127 yX5_story, Cond.instanceMethod yX5_story, Cond.selects RX5 yX5_story yX5_story, Cond.code yX5_story cX5_story 1 (some .int), Cond.methodLink RX5 108 yX5_storyLines, Cond.instanceMethod yX5_storyLines, Cond.selects RX5 yX5_storyLines yX5_storyLines, Cond.code yX5_storyLines cX5_storyLines 3 (some .int), Cond.methodLink RX5 105 yX5_isOfStory, Cond.instanceMethod yX5_isOfStory, Cond.selects RX5 yX5_isOfStory yX5_isOfStory, Cond.code yX5_isOfStory cX5_isOfStory 2 (some .boolean), Cond.methodLink RL 128 yL_storyAt, Cond.static yL_storyAt, Cond.codeWith yL_storyAt cL_storyAt 4 (some .int) [(0, 9, 12, 29)], Cond.methodLink RL 47 yX4_storyAt, Cond.instanceMethod yX4_storyAt, Cond.selects RX4 yX4_storyAt yX4_storyAt, Cond.code yX4_storyAt cX4_storyAt 3 (some .int), Cond.methodLink RX4 131 yX1_storyLine, Cond.instanceMethod yX1_storyLine, Cond.selects RX1 yX1_storyLine yX1_storyLine, Cond.code yX1_storyLine cX1_storyLine 5 (some .int)]
def wsL_law0_r16 : List Cond := [Cond.methodLink RL 130 yX5_storyAt, Cond.instanceMethod yX5_storyAt, Cond.selects RX5 yX5_storyAt yX5_storyAt, Cond.code yX5_storyAt cX5_storyAt 6 (some .int), Cond.methodLink RL 131 yL_earliest, Cond.static yL_earliest, Cond.codeWith yL_earliest cL_earliest 4 (some .int) [(0, 9, 12, 29)], Cond.methodLink RL 50 yX4_earliest, Cond.instanceMethod yX4_earliest, Cond.selects RX4 yX4_earliest yX4_earliest, Cond.code yX4_earliest cX4_earliest 2 (some .int), Cond.methodLink RX4 134 yX1_earliestTime, Cond.instanceMethod yX1_earliestTime, Cond.selects RX1 yX1_earliestTime yX1_earliestTime, Cond.code yX1_earliestTime cX1_earliestTime 4 (some .int), Cond.constant RX1 50 (-1000000), Cond.methodLink RL 133 yX5_earliest, Cond.instanceMethod yX5_earliest, Cond.selects RX5 yX5_earliest yX5_earliest, Cond.code yX5_earliest cX5_earliest 3 (some .int), Cond.constant RX5 112 (-1000000), Cond.methodLink RL 134 yL_firstOf, Cond.static yL_firstOf, Cond.codeWith yL_firstOf cL_firstOf 4 (some .int) [(0, 9, 12, 13)]]
def wsL_law0_r17 : List Cond := [Cond.methodLink RL 53 yX4_firstOf, Cond.instanceMethod yX4_firstOf, Cond.selects RX4 yX4_firstOf yX4_firstOf, Cond.code yX4_firstOf cX4_firstOf 2 (some .int), Cond.methodLink RX4 140 yX1_firstLine, Cond.instanceMethod yX1_firstLine, Cond.selects RX1 yX1_firstLine yX1_firstLine, Cond.code yX1_firstLine cX1_firstLine 4 (some .int), Cond.methodLink RL 136 yX5_firstOf, Cond.instanceMethod yX5_firstOf, Cond.selects RX5 yX5_firstOf yX5_firstOf, Cond.code yX5_firstOf cX5_firstOf 4 (some .int), Cond.methodLink RL 137 yL_measure, Cond.static yL_measure, Cond.codeWith yL_measure cL_measure 7 (some .int) [(0, 14, 17, 13), (0, 14, 21, 15)], Cond.methodLink RL 56 yX4_measure, Cond.instanceMethod yX4_measure, Cond.selects RX4 yX4_measure yX4_measure, Cond.code yX4_measure cX4_measure 5 (some .int), Cond.methodLink RX4 147 yX2_size, Cond.instanceMethod yX2_size, Cond.selects RX2 yX2_size yX2_size, Cond.code yX2_size cX2_size 1 (some .int), Cond.methodLink RX4 150 yX2_add]
def wsL_law0_r18 : List Cond := [Cond.instanceMethod yX2_add, Cond.selects RX2 yX2_add yX2_add, Cond.code yX2_add cX2_add 6 (some .int), Cond.methodLink RL 140 yX5_measure, Cond.instanceMethod yX5_measure, Cond.selects RX5 yX5_measure yX5_measure, Cond.code yX5_measure cX5_measure 6 (some .int), Cond.fieldLink RX5 113 "OutageBookModel" "measures" "I", Cond.methodLink RL 141 yL_impact, Cond.static yL_impact, Cond.codeWith yL_impact cL_impact 4 (some .int) [(0, 9, 12, 13)], Cond.methodLink RL 60 yX4_impact, Cond.instanceMethod yX4_impact, Cond.selects RX4 yX4_impact yX4_impact, Cond.code yX4_impact cX4_impact 2 (some .int), Cond.methodLink RX4 153 yX2_sumOfWorst, Cond.instanceMethod yX2_sumOfWorst, Cond.selects RX2 yX2_sumOfWorst yX2_sumOfWorst, Cond.code yX2_sumOfWorst cX2_sumOfWorst 6 (some .int), Cond.methodLink RX2 28 yX2_nextChange, Cond.instanceMethod yX2_nextChange, Cond.selects RX2 yX2_nextChange yX2_nextChange, Cond.code yX2_nextChange cX2_nextChange 5 (some .int), Cond.methodLink RX2 36 Lib.Math.min.name]
def wsL_law0_r19 : List Cond := [Cond.methodLink RX2 32 yX2_worst, Cond.instanceMethod yX2_worst, Cond.selects RX2 yX2_worst yX2_worst, Cond.code yX2_worst cX2_worst 6 (some .int), Cond.methodLink RX2 45 Lib.Math.max.name, Cond.static Lib.Math.max.name, Cond.code Lib.Math.max.name Lib.Math.max.code 2 (some .int), Cond.methodLink RL 143 yX5_impact, Cond.instanceMethod yX5_impact, Cond.selects RX5 yX5_impact yX5_impact, Cond.code yX5_impact cX5_impact 4 (some .int), Cond.methodLink RX5 116 yX5_percent, Cond.instanceMethod yX5_percent, Cond.selects RX5 yX5_percent yX5_percent, Cond.code yX5_percent cX5_percent 6 (some .int), Cond.methodLink RX5 120 yX5_change, Cond.instanceMethod yX5_change, Cond.selects RX5 yX5_change yX5_change, Cond.code yX5_change cX5_change 4 (some .int), Cond.methodLink RL 144 yX4_minutes, Cond.instanceMethod yX4_minutes, Cond.selects RX4 yX4_minutes yX4_minutes, Cond.code yX4_minutes cX4_minutes 1 (some .int), Cond.methodLink RX4 156 yX2_failedMinutes]
def wsL_law0_r20 : List Cond := [Cond.instanceMethod yX2_failedMinutes, Cond.selects RX2 yX2_failedMinutes yX2_failedMinutes, Cond.code yX2_failedMinutes cX2_failedMinutes 5 (some .int), Cond.methodLink RL 147 yX5_minutes, Cond.instanceMethod yX5_minutes, Cond.selects RX5 yX5_minutes yX5_minutes, Cond.code yX5_minutes cX5_minutes 3 (some .int), Cond.methodLink RL 148 yL_addCause, Cond.static yL_addCause, Cond.codeWith yL_addCause cL_addCause 3 (some .int) [(0, 8, 11, 15)], Cond.methodLink RL 63 yX4_addCause, Cond.instanceMethod yX4_addCause, Cond.selects RX4 yX4_addCause yX4_addCause, Cond.code yX4_addCause cX4_addCause 1 (some .int), Cond.methodLink RX4 159 yX0_size, Cond.instanceMethod yX0_size, Cond.selects RX0 yX0_size yX0_size, Cond.code yX0_size cX0_size 1 (some .int), Cond.methodLink RX4 162 yX0_add, Cond.instanceMethod yX0_add, Cond.selects RX0 yX0_add yX0_add, Cond.code yX0_add cX0_add 2 (some .int), Cond.methodLink RL 150 yX5_addCause, Cond.instanceMethod yX5_addCause]
def wsL_law0_r21 : List Cond := [Cond.selects RX5 yX5_addCause yX5_addCause, Cond.code yX5_addCause cX5_addCause 1 (some .int), Cond.fieldLink RX5 124 "OutageBookModel" "causes" "I", Cond.methodLink RL 151 yL_argueReason, Cond.static yL_argueReason, Cond.codeWith yL_argueReason cL_argueReason 6 (some .int) [(0, 12, 15, 29), (0, 12, 19, 13), (0, 12, 23, 15)], Cond.methodLink RL 67 yX4_argueReason, Cond.instanceMethod yX4_argueReason, Cond.selects RX4 yX4_argueReason yX4_argueReason, Cond.code yX4_argueReason cX4_argueReason 4 (some .int), Cond.methodLink RX4 164 yX0_holds, Cond.instanceMethod yX0_holds, Cond.selects RX0 yX0_holds yX0_holds, Cond.code yX0_holds cX0_holds 2 (some .boolean), Cond.methodLink RX4 169 yX0_isBecauseOf, Cond.instanceMethod yX0_isBecauseOf, Cond.selects RX0 yX0_isBecauseOf yX0_isBecauseOf, Cond.code yX0_isBecauseOf cX0_isBecauseOf 3 (some .boolean), Cond.methodLink RX0 35 yX0_reach, Cond.instanceMethod yX0_reach, Cond.selects RX0 yX0_reach yX0_reach, Cond.code yX0_reach cX0_reach 6 (some .int), Cond.methodLink RX0 39 yX0_reasonsOf, Cond.instanceMethod yX0_reasonsOf]
def wsL_law0_r22 : List Cond := [Cond.selects RX0 yX0_reasonsOf yX0_reasonsOf, Cond.code yX0_reasonsOf cX0_reasonsOf 4 (some .int), Cond.methodLink RX0 42 yX0_weight, Cond.instanceMethod yX0_weight, Cond.selects RX0 yX0_weight yX0_weight, Cond.code yX0_weight cX0_weight 3 (some .int), Cond.methodLink RX0 27 yX0_holds, Cond.methodLink RX4 174 yX0_replaceWeight, Cond.instanceMethod yX0_replaceWeight, Cond.selects RX0 yX0_replaceWeight yX0_replaceWeight, Cond.code yX0_replaceWeight cX0_replaceWeight 5 (some .int), Cond.methodLink RL 154 yX5_argueReason, Cond.instanceMethod yX5_argueReason, Cond.selects RX5 yX5_argueReason yX5_argueReason, Cond.code yX5_argueReason cX5_argueReason 7 (some .int), Cond.methodLink RX5 127 yX5_isCause, Cond.instanceMethod yX5_isCause, Cond.selects RX5 yX5_isCause yX5_isCause, Cond.code yX5_isCause cX5_isCause 2 (some .boolean), Cond.methodLink RX5 130 yX5_reached, Cond.instanceMethod yX5_reached, Cond.selects RX5 yX5_reached yX5_reached, Cond.code yX5_reached cX5_reached 8 (some .int), Cond.methodLink RL 155 yL_setStanding]
def wsL_law0_r23 : List Cond := [Cond.static yL_setStanding, Cond.codeWith yL_setStanding cL_setStanding 5 (some .int) [(0, 17, 20, 29)], Cond.methodLink RL 71 yX4_setStanding, Cond.instanceMethod yX4_setStanding, Cond.selects RX4 yX4_setStanding yX4_setStanding, Cond.code yX4_setStanding cX4_setStanding 3 (some .boolean), Cond.methodLink RX4 178 yX0_replaceStanding, Cond.instanceMethod yX0_replaceStanding, Cond.selects RX0 yX0_replaceStanding yX0_replaceStanding, Cond.code yX0_replaceStanding cX0_replaceStanding 4 (some .boolean), Cond.methodLink RL 158 yX5_setStanding, Cond.instanceMethod yX5_setStanding, Cond.selects RX5 yX5_setStanding yX5_setStanding, Cond.code yX5_setStanding cX5_setStanding 4 (some .boolean), Cond.methodLink RL 159 yL_roots, Cond.static yL_roots, Cond.codeWith yL_roots cL_roots 4 (some .int) [(0, 9, 12, 29)], Cond.methodLink RL 75 yX4_roots, Cond.instanceMethod yX4_roots, Cond.selects RX4 yX4_roots yX4_roots, Cond.code yX4_roots cX4_roots 2 (some .int), Cond.methodLink RX4 182 yX0_rootsUnder, Cond.instanceMethod yX0_rootsUnder, Cond.selects RX0 yX0_rootsUnder yX0_rootsUnder]
def wsL_law0_r24 : List Cond := [Cond.code yX0_rootsUnder cX0_rootsUnder 5 (some .int), Cond.methodLink RL 161 yX5_roots, Cond.instanceMethod yX5_roots, Cond.selects RX5 yX5_roots yX5_roots, Cond.code yX5_roots cX5_roots 5 (some .int), Cond.methodLink RX5 134 yX5_mainOf, Cond.instanceMethod yX5_mainOf, Cond.selects RX5 yX5_mainOf yX5_mainOf, Cond.code yX5_mainOf cX5_mainOf 6 (some .int), Cond.methodLink RL 162 yL_mainReason, Cond.static yL_mainReason, Cond.codeWith yL_mainReason cL_mainReason 4 (some .int) [(0, 9, 12, 29)], Cond.methodLink RL 78 yX4_mainReason, Cond.instanceMethod yX4_mainReason, Cond.selects RX4 yX4_mainReason yX4_mainReason, Cond.code yX4_mainReason cX4_mainReason 2 (some .int), Cond.methodLink RX4 185 yX0_weightiestReason, Cond.instanceMethod yX0_weightiestReason, Cond.selects RX0 yX0_weightiestReason yX0_weightiestReason, Cond.code yX0_weightiestReason cX0_weightiestReason 6 (some .int), Cond.methodLink RL 164 yX5_mainReason, Cond.instanceMethod yX5_mainReason, Cond.selects RX5 yX5_mainReason yX5_mainReason, Cond.code yX5_mainReason cX5_mainReason 2 (some .int)]
def wsL_law0 : List Cond := (wsL_law0_r1 ++ (wsL_law0_r2 ++ (wsL_law0_r3 ++ (wsL_law0_r4 ++ (wsL_law0_r5 ++ (wsL_law0_r6 ++ (wsL_law0_r7 ++ (wsL_law0_r8 ++ (wsL_law0_r9 ++ (wsL_law0_r10 ++ (wsL_law0_r11 ++ (wsL_law0_r12 ++ (wsL_law0_r13 ++ (wsL_law0_r14 ++ (wsL_law0_r15 ++ (wsL_law0_r16 ++ (wsL_law0_r17 ++ (wsL_law0_r18 ++ (wsL_law0_r19 ++ (wsL_law0_r20 ++ (wsL_law0_r21 ++ (wsL_law0_r22 ++ (wsL_law0_r23 ++ wsL_law0_r24))))))))))))))))))))))) ++ wsX40 ++ wsX50 ++ wsX30 ++ wsX10 ++ wsX20 ++ wsX00 ++ ([] : List Cond)
def wsL_law : List Cond := wsL_law0 ++ (vx_atS RX4 45 "java/lang/IllegalArgumentException" ["java/lang/RuntimeException", "java/lang/Exception"]).filter goodWord ++ (vx_atS RX4 66 "java/lang/IllegalStateException" ["java/lang/RuntimeException", "java/lang/Exception"]).filter goodWord ++ (vx_atS RX4 103 "java/lang/IndexOutOfBoundsException" ["java/lang/RuntimeException", "java/lang/Exception"]).filter goodWord
end
section
set_option maxRecDepth 20000 in
theorem wsL_law0_r1_in : ∀ w ∈ wsL_law0_r1, w ∈ lw_tbl := fun w h => (goodIn_p wsL_law0_r1 [42, 45] (by decide +kernel) (by decide +kernel) w h).1
set_option maxRecDepth 20000 in
theorem wsL_law0_r2_in : ∀ w ∈ wsL_law0_r2, w ∈ lw_tbl := fun w h => (goodIn_p wsL_law0_r2 [50, 64] (by decide +kernel) (by decide +kernel) w h).1
set_option maxRecDepth 20000 in
theorem wsL_law0_r3_in : ∀ w ∈ wsL_law0_r3, w ∈ lw_tbl := fun w h => (goodIn_p wsL_law0_r3 [100, 122, 598] (by decide +kernel) (by decide +kernel) w h).1
set_option maxRecDepth 20000 in
theorem wsL_law0_r4_in : ∀ w ∈ wsL_law0_r4, w ∈ lw_tbl := fun w h => (goodIn_p wsL_law0_r4 [] (by decide +kernel) (by decide +kernel) w h).1
set_option maxRecDepth 20000 in
theorem wsL_law0_r5_in : ∀ w ∈ wsL_law0_r5, w ∈ lw_tbl := fun w h => (goodIn_p wsL_law0_r5 [209, 212, 197, 284, 290, 294] (by decide +kernel) (by decide +kernel) w h).1
set_option maxRecDepth 20000 in
theorem wsL_law0_r6_in : ∀ w ∈ wsL_law0_r6, w ∈ lw_tbl := fun w h => (goodIn_p wsL_law0_r6 [315, 190, 320, 324, 328, 171] (by decide +kernel) (by decide +kernel) w h).1
set_option maxRecDepth 20000 in
theorem wsL_law0_r7_in : ∀ w ∈ wsL_law0_r7, w ∈ lw_tbl := fun w h => (goodIn_p wsL_law0_r7 [333, 337, 340, 672, 675, 678, 681] (by decide +kernel) (by decide +kernel) w h).1
set_option maxRecDepth 20000 in
theorem wsL_law0_r8_in : ∀ w ∈ wsL_law0_r8, w ∈ lw_tbl := fun w h => (goodIn_p wsL_law0_r8 [685, 689, 668, 348, 693] (by decide +kernel) (by decide +kernel) w h).1
set_option maxRecDepth 20000 in
theorem wsL_law0_r9_in : ∀ w ∈ wsL_law0_r9, w ∈ lw_tbl := fun w h => (goodIn_p wsL_law0_r9 [357, 360, 155, 366, 697] (by decide +kernel) (by decide +kernel) w h).1
set_option maxRecDepth 20000 in
theorem wsL_law0_r10_in : ∀ w ∈ wsL_law0_r10, w ∈ lw_tbl := fun w h => (goodIn_p wsL_law0_r10 [700, 151, 704, 374, 395] (by decide +kernel) (by decide +kernel) w h).1
set_option maxRecDepth 20000 in
theorem wsL_law0_r11_in : ∀ w ∈ wsL_law0_r11, w ∈ lw_tbl := fun w h => (goodIn_p wsL_law0_r11 [708, 712, 716, 402, 167] (by decide +kernel) (by decide +kernel) w h).1
set_option maxRecDepth 20000 in
theorem wsL_law0_r12_in : ∀ w ∈ wsL_law0_r12, w ∈ lw_tbl := fun w h => (goodIn_p wsL_law0_r12 [720, 724, 411, 416, 420] (by decide +kernel) (by decide +kernel) w h).1
set_option maxRecDepth 20000 in
theorem wsL_law0_r13_in : ∀ w ∈ wsL_law0_r13, w ∈ lw_tbl := fun w h => (goodIn_p wsL_law0_r13 [728, 427, 432, 732, 439] (by decide +kernel) (by decide +kernel) w h).1
set_option maxRecDepth 20000 in
theorem wsL_law0_r14_in : ∀ w ∈ wsL_law0_r14, w ∈ lw_tbl := fun w h => (goodIn_p wsL_law0_r14 [443, 736, 740, 159, 163] (by decide +kernel) (by decide +kernel) w h).1
set_option maxRecDepth 20000 in
theorem wsL_law0_r15_in : ∀ w ∈ wsL_law0_r15, w ∈ lw_tbl := fun w h => (goodIn_p wsL_law0_r15 [175, 744, 748, 752, 450, 454] (by decide +kernel) (by decide +kernel) w h).1
set_option maxRecDepth 20000 in
theorem wsL_law0_r16_in : ∀ w ∈ wsL_law0_r16, w ∈ lw_tbl := fun w h => (goodIn_p wsL_law0_r16 [756, 461, 465, 760] (by decide +kernel) (by decide +kernel) w h).1
set_option maxRecDepth 20000 in
theorem wsL_law0_r17_in : ∀ w ∈ wsL_law0_r17, w ∈ lw_tbl := fun w h => (goodIn_p wsL_law0_r17 [473, 478, 765, 485, 491] (by decide +kernel) (by decide +kernel) w h).1
set_option maxRecDepth 20000 in
theorem wsL_law0_r18_in : ∀ w ∈ wsL_law0_r18, w ∈ lw_tbl := fun w h => (goodIn_p wsL_law0_r18 [496, 769, 503, 507, 187] (by decide +kernel) (by decide +kernel) w h).1
set_option maxRecDepth 20000 in
theorem wsL_law0_r19_in : ∀ w ∈ wsL_law0_r19, w ∈ lw_tbl := fun w h => (goodIn_p wsL_law0_r19 [194, 200, 773, 777, 781, 179] (by decide +kernel) (by decide +kernel) w h).1
set_option maxRecDepth 20000 in
theorem wsL_law0_r20_in : ∀ w ∈ wsL_law0_r20, w ∈ lw_tbl := fun w h => (goodIn_p wsL_law0_r20 [183, 785, 514, 518, 523] (by decide +kernel) (by decide +kernel) w h).1
set_option maxRecDepth 20000 in
theorem wsL_law0_r21_in : ∀ w ∈ wsL_law0_r21, w ∈ lw_tbl := fun w h => (goodIn_p wsL_law0_r21 [789, 531, 535, 541, 545] (by decide +kernel) (by decide +kernel) w h).1
set_option maxRecDepth 20000 in
theorem wsL_law0_r22_in : ∀ w ∈ wsL_law0_r22, w ∈ lw_tbl := fun w h => (goodIn_p wsL_law0_r22 [550, 554, 560, 793, 797, 801] (by decide +kernel) (by decide +kernel) w h).1
set_option maxRecDepth 20000 in
theorem wsL_law0_r23_in : ∀ w ∈ wsL_law0_r23, w ∈ lw_tbl := fun w h => (goodIn_p wsL_law0_r23 [567, 571, 805, 578] (by decide +kernel) (by decide +kernel) w h).1
set_option maxRecDepth 20000 in
theorem wsL_law0_r24_in : ∀ w ∈ wsL_law0_r24, w ∈ lw_tbl := fun w h => (goodIn_p wsL_law0_r24 [582, 809, 813, 589, 593, 817] (by decide +kernel) (by decide +kernel) w h).1
theorem wsX40_in : ∀ w ∈ wsX40, w ∈ lw_tbl := by decide +kernel
theorem wsX50_in : ∀ w ∈ wsX50, w ∈ lw_tbl := by decide +kernel
theorem wsX30_in : ∀ w ∈ wsX30, w ∈ lw_tbl := by decide +kernel
theorem wsX10_in : ∀ w ∈ wsX10, w ∈ lw_tbl := by decide +kernel
theorem wsX20_in : ∀ w ∈ wsX20, w ∈ lw_tbl := by decide +kernel
theorem wsX00_in : ∀ w ∈ wsX00, w ∈ lw_tbl := by decide +kernel
end
section
theorem wsL_law_in0 : ∀ w ∈ wsL_law0, w ∈ lw_tbl := fun w => (fun h => (List.mem_append.mp h).elim (fun h => (List.mem_append.mp h).elim (fun h => (List.mem_append.mp h).elim (fun h => (List.mem_append.mp h).elim (fun h => (List.mem_append.mp h).elim (fun h => (List.mem_append.mp h).elim (fun h => (List.mem_append.mp h).elim (fun h => (List.mem_append.mp h).elim (fun h => wsL_law0_r1_in w h) (fun h => (List.mem_append.mp h).elim (fun h => wsL_law0_r2_in w h) (fun h => (List.mem_append.mp h).elim (fun h => wsL_law0_r3_in w h) (fun h => (List.mem_append.mp h).elim (fun h => wsL_law0_r4_in w h) (fun h => (List.mem_append.mp h).elim (fun h => wsL_law0_r5_in w h) (fun h => (List.mem_append.mp h).elim (fun h => wsL_law0_r6_in w h) (fun h => (List.mem_append.mp h).elim (fun h => wsL_law0_r7_in w h) (fun h => (List.mem_append.mp h).elim (fun h => wsL_law0_r8_in w h) (fun h => (List.mem_append.mp h).elim (fun h => wsL_law0_r9_in w h) (fun h => (List.mem_append.mp h).elim (fun h => wsL_law0_r10_in w h) (fun h => (List.mem_append.mp h).elim (fun h => wsL_law0_r11_in w h) (fun h => (List.mem_append.mp h).elim (fun h => wsL_law0_r12_in w h) (fun h => (List.mem_append.mp h).elim (fun h => wsL_law0_r13_in w h) (fun h => (List.mem_append.mp h).elim (fun h => wsL_law0_r14_in w h) (fun h => (List.mem_append.mp h).elim (fun h => wsL_law0_r15_in w h) (fun h => (List.mem_append.mp h).elim (fun h => wsL_law0_r16_in w h) (fun h => (List.mem_append.mp h).elim (fun h => wsL_law0_r17_in w h) (fun h => (List.mem_append.mp h).elim (fun h => wsL_law0_r18_in w h) (fun h => (List.mem_append.mp h).elim (fun h => wsL_law0_r19_in w h) (fun h => (List.mem_append.mp h).elim (fun h => wsL_law0_r20_in w h) (fun h => (List.mem_append.mp h).elim (fun h => wsL_law0_r21_in w h) (fun h => (List.mem_append.mp h).elim (fun h => wsL_law0_r22_in w h) (fun h => (List.mem_append.mp h).elim (fun h => wsL_law0_r23_in w h) (fun h => wsL_law0_r24_in w h)))))))))))))))))))))))) (fun h => wsX40_in w h)) (fun h => wsX50_in w h)) (fun h => wsX30_in w h)) (fun h => wsX10_in w h)) (fun h => wsX20_in w h)) (fun h => wsX00_in w h)) (fun h => absurd h List.not_mem_nil))
theorem wsL_law_x0 : ∀ w ∈ (vx_atS RX4 45 "java/lang/IllegalArgumentException" ["java/lang/RuntimeException", "java/lang/Exception"]).filter goodWord, w ∈ lw_tbl := by decide +kernel
theorem wsL_law_x1 : ∀ w ∈ (vx_atS RX4 66 "java/lang/IllegalStateException" ["java/lang/RuntimeException", "java/lang/Exception"]).filter goodWord, w ∈ lw_tbl := by decide +kernel
theorem wsL_law_x2 : ∀ w ∈ (vx_atS RX4 103 "java/lang/IndexOutOfBoundsException" ["java/lang/RuntimeException", "java/lang/Exception"]).filter goodWord, w ∈ lw_tbl := by decide +kernel
theorem wsL_law_in : ∀ w ∈ wsL_law, w ∈ lw_tbl := fun w h => (List.mem_append.mp h).elim (fun h => (List.mem_append.mp h).elim (fun h => (List.mem_append.mp h).elim (fun h => wsL_law_in0 w h) (fun h => wsL_law_x0 w h)) (fun h => wsL_law_x1 w h)) (fun h => wsL_law_x2 w h)
theorem inlX0 : ∀ w ∈ wsX00, w ∈ wsL_law := fun _ h => List.mem_append_left _ (List.mem_append_left _ (List.mem_append_left _ (List.mem_append_left _ (List.mem_append_right _ h))))
theorem inX0 : ∀ w ∈ wsX00, w ∈ lw_tbl := fun w h => wsL_law_in w (inlX0 w h)
theorem inlX1 : ∀ w ∈ wsX10, w ∈ wsL_law := fun _ h => List.mem_append_left _ (List.mem_append_left _ (List.mem_append_left _ (List.mem_append_left _ (List.mem_append_left _ (List.mem_append_left _ (List.mem_append_right _ h))))))
theorem inX1 : ∀ w ∈ wsX10, w ∈ lw_tbl := fun w h => wsL_law_in w (inlX1 w h)
theorem inlX2 : ∀ w ∈ wsX20, w ∈ wsL_law := fun _ h => List.mem_append_left _ (List.mem_append_left _ (List.mem_append_left _ (List.mem_append_left _ (List.mem_append_left _ (List.mem_append_right _ h)))))
theorem inX2 : ∀ w ∈ wsX20, w ∈ lw_tbl := fun w h => wsL_law_in w (inlX2 w h)
theorem inlX3 : ∀ w ∈ wsX30, w ∈ wsL_law := fun _ h => List.mem_append_left _ (List.mem_append_left _ (List.mem_append_left _ (List.mem_append_left _ (List.mem_append_left _ (List.mem_append_left _ (List.mem_append_left _ (List.mem_append_right _ h)))))))
theorem inX3 : ∀ w ∈ wsX30, w ∈ lw_tbl := fun w h => wsL_law_in w (inlX3 w h)
theorem inlX4 : ∀ w ∈ wsX40, w ∈ wsL_law := fun _ h => List.mem_append_left _ (List.mem_append_left _ (List.mem_append_left _ (List.mem_append_left _ (List.mem_append_left _ (List.mem_append_left _ (List.mem_append_left _ (List.mem_append_left _ (List.mem_append_left _ (List.mem_append_right _ h)))))))))
theorem inX4 : ∀ w ∈ wsX40, w ∈ lw_tbl := fun w h => wsL_law_in w (inlX4 w h)
theorem inlX5 : ∀ w ∈ wsX50, w ∈ wsL_law := fun _ h => List.mem_append_left _ (List.mem_append_left _ (List.mem_append_left _ (List.mem_append_left _ (List.mem_append_left _ (List.mem_append_left _ (List.mem_append_left _ (List.mem_append_left _ (List.mem_append_right _ h))))))))
theorem inX5 : ∀ w ∈ wsX50, w ∈ lw_tbl := fun w h => wsL_law_in w (inlX5 w h)
theorem inJ9 : ∀ w ∈ wsJ90, w ∈ lw_tbl := by decide +kernel
theorem inJ0 : ∀ w ∈ wsJ00, w ∈ lw_tbl := by decide +kernel
end
section
theorem dX0_init_0 : decode cX0_init 0 = .ok (.aload_n 0, 1) := by decide +kernel
theorem dX0_init_1 : decode cX0_init 1 = .ok (.invokespecial 3, 3) := by decide +kernel
theorem dX0_init_4 : decode cX0_init 4 = .ok (.aload_n 0, 1) := by decide +kernel
theorem dX0_init_5 : decode cX0_init 5 = .ok (.bipush 16, 2) := by decide +kernel
theorem dX0_init_7 : decode cX0_init 7 = .ok (.bipush 16, 2) := by decide +kernel
theorem dX0_init_9 : decode cX0_init 9 = .ok (.multianewarray 9 2, 4) := by decide +kernel
theorem dX0_init_13 : decode cX0_init 13 = .ok (.putfield 11, 3) := by decide +kernel
theorem dX0_init_16 : decode cX0_init 16 = .ok (.aload_n 0, 1) := by decide +kernel
theorem dX0_init_17 : decode cX0_init 17 = .ok (.iconst 0, 1) := by decide +kernel
theorem dX0_init_18 : decode cX0_init 18 = .ok (.putfield 16, 3) := by decide +kernel
theorem dX0_init_21 : decode cX0_init 21 = .ok (.aload_n 0, 1) := by decide +kernel
theorem dX0_init_22 : decode cX0_init 22 = .ok (.iconst 0, 1) := by decide +kernel
theorem dX0_init_23 : decode cX0_init 23 = .ok (.putfield 20, 3) := by decide +kernel
theorem dX0_init_26 : decode cX0_init 26 = .ok (.return_, 1) := by decide +kernel
theorem dX0_size_0 : decode cX0_size 0 = .ok (.aload_n 0, 1) := by decide +kernel
theorem dX0_size_1 : decode cX0_size 1 = .ok (.getfield 20, 3) := by decide +kernel
theorem dX0_size_4 : decode cX0_size 4 = .ok (.ireturn, 1) := by decide +kernel
theorem dX0_holds_0 : decode cX0_holds 0 = .ok (.iload_n 1, 1) := by decide +kernel
theorem dX0_holds_1 : decode cX0_holds 1 = .ok (.ifCond .lt 21, 3) := by decide +kernel
theorem dX0_holds_4 : decode cX0_holds 4 = .ok (.iload_n 1, 1) := by decide +kernel
theorem dX0_holds_5 : decode cX0_holds 5 = .ok (.aload_n 0, 1) := by decide +kernel
theorem dX0_holds_6 : decode cX0_holds 6 = .ok (.getfield 20, 3) := by decide +kernel
theorem dX0_holds_9 : decode cX0_holds 9 = .ok (.if_icmp .ge 13, 3) := by decide +kernel
theorem dX0_holds_12 : decode cX0_holds 12 = .ok (.iload_n 1, 1) := by decide +kernel
theorem dX0_holds_13 : decode cX0_holds 13 = .ok (.bipush 16, 2) := by decide +kernel
theorem dX0_holds_15 : decode cX0_holds 15 = .ok (.if_icmp .ge 7, 3) := by decide +kernel
theorem dX0_holds_18 : decode cX0_holds 18 = .ok (.iconst 1, 1) := by decide +kernel
theorem dX0_holds_19 : decode cX0_holds 19 = .ok (.goto 4, 3) := by decide +kernel
theorem dX0_holds_22 : decode cX0_holds 22 = .ok (.iconst 0, 1) := by decide +kernel
theorem dX0_holds_23 : decode cX0_holds 23 = .ok (.ireturn, 1) := by decide +kernel
set_option maxRecDepth 20000 in
theorem ggX0_add_X4_bit : GoodIn wsX0_add wsX4_bit := goodIn_r _ [5] (by decide +kernel) (by decide +kernel)
set_option maxRecDepth 20000 in
theorem gX0_add_X4_bit_n23 : GoodIn wsX0_add (wsX4_bit) := ggX0_add_X4_bit
theorem dX0_add_0 : decode cX0_add 0 = .ok (.aload_n 0, 1) := by decide +kernel
theorem dX0_add_1 : decode cX0_add 1 = .ok (.getfield 20, 3) := by decide +kernel
theorem dX0_add_4 : decode cX0_add 4 = .ok (.istore_n 1, 1) := by decide +kernel
theorem dX0_add_5 : decode cX0_add 5 = .ok (.iload_n 1, 1) := by decide +kernel
theorem dX0_add_6 : decode cX0_add 6 = .ok (.bipush 16, 2) := by decide +kernel
theorem dX0_add_8 : decode cX0_add 8 = .ok (.if_icmp .lt 5, 3) := by decide +kernel
theorem dX0_add_11 : decode cX0_add 11 = .ok (.iconst (-1), 1) := by decide +kernel
theorem dX0_add_12 : decode cX0_add 12 = .ok (.ireturn, 1) := by decide +kernel
theorem dX0_add_13 : decode cX0_add 13 = .ok (.aload_n 0, 1) := by decide +kernel
theorem dX0_add_14 : decode cX0_add 14 = .ok (.dup, 1) := by decide +kernel
theorem dX0_add_15 : decode cX0_add 15 = .ok (.getfield 16, 3) := by decide +kernel
theorem dX0_add_18 : decode cX0_add 18 = .ok (.iload_n 1, 1) := by decide +kernel
theorem dX0_add_19 : decode cX0_add 19 = .ok (.invokestatic 23, 3) := by decide +kernel
theorem dX0_add_22 : decode cX0_add 22 = .ok (.ior, 1) := by decide +kernel
theorem dX0_add_23 : decode cX0_add 23 = .ok (.putfield 16, 3) := by decide +kernel
theorem dX0_add_26 : decode cX0_add 26 = .ok (.aload_n 0, 1) := by decide +kernel
theorem dX0_add_27 : decode cX0_add 27 = .ok (.iload_n 1, 1) := by decide +kernel
theorem dX0_add_28 : decode cX0_add 28 = .ok (.iconst 1, 1) := by decide +kernel
theorem dX0_add_29 : decode cX0_add 29 = .ok (.iadd, 1) := by decide +kernel
theorem dX0_add_30 : decode cX0_add 30 = .ok (.putfield 20, 3) := by decide +kernel
theorem dX0_add_33 : decode cX0_add 33 = .ok (.iload_n 1, 1) := by decide +kernel
theorem dX0_add_34 : decode cX0_add 34 = .ok (.ireturn, 1) := by decide +kernel
set_option maxRecDepth 20000 in
theorem ggX0_replaceWeight_X0_holds : GoodIn wsX0_replaceWeight wsX0_holds := goodIn_r _ [6, 7, 8, 9, 10] (by decide +kernel) (by decide +kernel)
set_option maxRecDepth 20000 in
theorem gX0_replaceWeight_X0_holds : GoodIn wsX0_replaceWeight (wsV RX0 27 RX0 yX0_holds wsX0_holds) := goodIn_app (goodIn_of _ (by decide +kernel)) ggX0_replaceWeight_X0_holds
theorem dX0_replaceWeight_0 : decode cX0_replaceWeight 0 = .ok (.aload_n 0, 1) := by decide +kernel
theorem dX0_replaceWeight_1 : decode cX0_replaceWeight 1 = .ok (.iload_n 1, 1) := by decide +kernel
theorem dX0_replaceWeight_2 : decode cX0_replaceWeight 2 = .ok (.invokevirtual 27, 3) := by decide +kernel
theorem dX0_replaceWeight_5 : decode cX0_replaceWeight 5 = .ok (.ifCond .eq 11, 3) := by decide +kernel
theorem dX0_replaceWeight_8 : decode cX0_replaceWeight 8 = .ok (.aload_n 0, 1) := by decide +kernel
theorem dX0_replaceWeight_9 : decode cX0_replaceWeight 9 = .ok (.iload_n 2, 1) := by decide +kernel
theorem dX0_replaceWeight_10 : decode cX0_replaceWeight 10 = .ok (.invokevirtual 27, 3) := by decide +kernel
theorem dX0_replaceWeight_13 : decode cX0_replaceWeight 13 = .ok (.ifCond .ne 5, 3) := by decide +kernel
theorem dX0_replaceWeight_16 : decode cX0_replaceWeight 16 = .ok (.iconst 0, 1) := by decide +kernel
theorem dX0_replaceWeight_17 : decode cX0_replaceWeight 17 = .ok (.ireturn, 1) := by decide +kernel
theorem dX0_replaceWeight_18 : decode cX0_replaceWeight 18 = .ok (.aload_n 0, 1) := by decide +kernel
theorem dX0_replaceWeight_19 : decode cX0_replaceWeight 19 = .ok (.getfield 11, 3) := by decide +kernel
theorem dX0_replaceWeight_22 : decode cX0_replaceWeight 22 = .ok (.iload_n 1, 1) := by decide +kernel
theorem dX0_replaceWeight_23 : decode cX0_replaceWeight 23 = .ok (.aaload, 1) := by decide +kernel
theorem dX0_replaceWeight_24 : decode cX0_replaceWeight 24 = .ok (.iload_n 2, 1) := by decide +kernel
theorem dX0_replaceWeight_25 : decode cX0_replaceWeight 25 = .ok (.iaload, 1) := by decide +kernel
theorem dX0_replaceWeight_26 : decode cX0_replaceWeight 26 = .ok (.istore 4, 2) := by decide +kernel
theorem dX0_replaceWeight_28 : decode cX0_replaceWeight 28 = .ok (.aload_n 0, 1) := by decide +kernel
theorem dX0_replaceWeight_29 : decode cX0_replaceWeight 29 = .ok (.getfield 11, 3) := by decide +kernel
theorem dX0_replaceWeight_32 : decode cX0_replaceWeight 32 = .ok (.iload_n 1, 1) := by decide +kernel
theorem dX0_replaceWeight_33 : decode cX0_replaceWeight 33 = .ok (.aaload, 1) := by decide +kernel
theorem dX0_replaceWeight_34 : decode cX0_replaceWeight 34 = .ok (.iload_n 2, 1) := by decide +kernel
theorem dX0_replaceWeight_35 : decode cX0_replaceWeight 35 = .ok (.iload_n 3, 1) := by decide +kernel
theorem dX0_replaceWeight_36 : decode cX0_replaceWeight 36 = .ok (.iastore, 1) := by decide +kernel
theorem dX0_replaceWeight_37 : decode cX0_replaceWeight 37 = .ok (.iload 4, 2) := by decide +kernel
theorem dX0_replaceWeight_39 : decode cX0_replaceWeight 39 = .ok (.ireturn, 1) := by decide +kernel
set_option maxRecDepth 20000 in
theorem ggX0_replaceStanding_X4_hasBit : GoodIn wsX0_replaceStanding wsX4_hasBit := goodIn_r _ [4, 5, 6, 3, 7] (by decide +kernel) (by decide +kernel)
set_option maxRecDepth 20000 in
theorem gX0_replaceStanding_X4_hasBit_n31 : GoodIn wsX0_replaceStanding (wsX4_hasBit) := ggX0_replaceStanding_X4_hasBit
set_option maxRecDepth 20000 in
theorem ggX0_replaceStanding_X4_bit : GoodIn wsX0_replaceStanding wsX4_bit := goodIn_r _ [7] (by decide +kernel) (by decide +kernel)
set_option maxRecDepth 20000 in
theorem gX0_replaceStanding_X4_bit_n23 : GoodIn wsX0_replaceStanding (wsX4_bit) := ggX0_replaceStanding_X4_bit
theorem dX0_replaceStanding_0 : decode cX0_replaceStanding 0 = .ok (.aload_n 0, 1) := by decide +kernel
theorem dX0_replaceStanding_1 : decode cX0_replaceStanding 1 = .ok (.getfield 16, 3) := by decide +kernel
theorem dX0_replaceStanding_4 : decode cX0_replaceStanding 4 = .ok (.iload_n 1, 1) := by decide +kernel
theorem dX0_replaceStanding_5 : decode cX0_replaceStanding 5 = .ok (.invokestatic 31, 3) := by decide +kernel
theorem dX0_replaceStanding_8 : decode cX0_replaceStanding 8 = .ok (.istore_n 3, 1) := by decide +kernel
theorem dX0_replaceStanding_9 : decode cX0_replaceStanding 9 = .ok (.iload_n 2, 1) := by decide +kernel
theorem dX0_replaceStanding_10 : decode cX0_replaceStanding 10 = .ok (.ifCond .eq 19, 3) := by decide +kernel
theorem dX0_replaceStanding_13 : decode cX0_replaceStanding 13 = .ok (.aload_n 0, 1) := by decide +kernel
theorem dX0_replaceStanding_14 : decode cX0_replaceStanding 14 = .ok (.dup, 1) := by decide +kernel
theorem dX0_replaceStanding_15 : decode cX0_replaceStanding 15 = .ok (.getfield 16, 3) := by decide +kernel
theorem dX0_replaceStanding_18 : decode cX0_replaceStanding 18 = .ok (.iload_n 1, 1) := by decide +kernel
theorem dX0_replaceStanding_19 : decode cX0_replaceStanding 19 = .ok (.invokestatic 23, 3) := by decide +kernel
theorem dX0_replaceStanding_22 : decode cX0_replaceStanding 22 = .ok (.ior, 1) := by decide +kernel
theorem dX0_replaceStanding_23 : decode cX0_replaceStanding 23 = .ok (.putfield 16, 3) := by decide +kernel
theorem dX0_replaceStanding_26 : decode cX0_replaceStanding 26 = .ok (.goto 18, 3) := by decide +kernel
theorem dX0_replaceStanding_29 : decode cX0_replaceStanding 29 = .ok (.aload_n 0, 1) := by decide +kernel
theorem dX0_replaceStanding_30 : decode cX0_replaceStanding 30 = .ok (.dup, 1) := by decide +kernel
theorem dX0_replaceStanding_31 : decode cX0_replaceStanding 31 = .ok (.getfield 16, 3) := by decide +kernel
theorem dX0_replaceStanding_34 : decode cX0_replaceStanding 34 = .ok (.iload_n 1, 1) := by decide +kernel
theorem dX0_replaceStanding_35 : decode cX0_replaceStanding 35 = .ok (.invokestatic 23, 3) := by decide +kernel
theorem dX0_replaceStanding_38 : decode cX0_replaceStanding 38 = .ok (.iconst (-1), 1) := by decide +kernel
theorem dX0_replaceStanding_39 : decode cX0_replaceStanding 39 = .ok (.ixor, 1) := by decide +kernel
theorem dX0_replaceStanding_40 : decode cX0_replaceStanding 40 = .ok (.iand, 1) := by decide +kernel
theorem dX0_replaceStanding_41 : decode cX0_replaceStanding 41 = .ok (.putfield 16, 3) := by decide +kernel
theorem dX0_replaceStanding_44 : decode cX0_replaceStanding 44 = .ok (.iload_n 3, 1) := by decide +kernel
theorem dX0_replaceStanding_45 : decode cX0_replaceStanding 45 = .ok (.ireturn, 1) := by decide +kernel
set_option maxRecDepth 20000 in
theorem ggX0_isBecauseOf_X4_bit : GoodIn wsX0_isBecauseOf wsX4_bit := goodIn_r _ [4] (by decide +kernel) (by decide +kernel)
set_option maxRecDepth 20000 in
theorem gX0_isBecauseOf_X4_bit_n23 : GoodIn wsX0_isBecauseOf (wsX4_bit) := ggX0_isBecauseOf_X4_bit
set_option maxRecDepth 20000 in
theorem ggX0_isBecauseOf_X0_reach : GoodIn wsX0_isBecauseOf wsX0_reach := goodIn_r _ [9, 1, 2, 3, 4, 10, 11, 12, 13, 14, 15, 8, 16, 17, 18, 19, 20, 21, 22, 23, 24, 25, 26, 27, 28] (by decide +kernel) (by decide +kernel)
set_option maxRecDepth 20000 in
theorem gX0_isBecauseOf_X0_reach : GoodIn wsX0_isBecauseOf (wsV RX0 35 RX0 yX0_reach wsX0_reach) := goodIn_app (goodIn_of _ (by decide +kernel)) ggX0_isBecauseOf_X0_reach
set_option maxRecDepth 20000 in
theorem ggX0_isBecauseOf_X4_hasBit : GoodIn wsX0_isBecauseOf wsX4_hasBit := goodIn_r _ [11, 12, 2, 3, 4] (by decide +kernel) (by decide +kernel)
set_option maxRecDepth 20000 in
theorem gX0_isBecauseOf_X4_hasBit_n31 : GoodIn wsX0_isBecauseOf (wsX4_hasBit) := ggX0_isBecauseOf_X4_hasBit
theorem dX0_isBecauseOf_0 : decode cX0_isBecauseOf 0 = .ok (.aload_n 0, 1) := by decide +kernel
theorem dX0_isBecauseOf_1 : decode cX0_isBecauseOf 1 = .ok (.iload_n 1, 1) := by decide +kernel
theorem dX0_isBecauseOf_2 : decode cX0_isBecauseOf 2 = .ok (.aload_n 0, 1) := by decide +kernel
theorem dX0_isBecauseOf_3 : decode cX0_isBecauseOf 3 = .ok (.getfield 20, 3) := by decide +kernel
theorem dX0_isBecauseOf_6 : decode cX0_isBecauseOf 6 = .ok (.invokestatic 23, 3) := by decide +kernel
theorem dX0_isBecauseOf_9 : decode cX0_isBecauseOf 9 = .ok (.iconst 1, 1) := by decide +kernel
theorem dX0_isBecauseOf_10 : decode cX0_isBecauseOf 10 = .ok (.isub, 1) := by decide +kernel
theorem dX0_isBecauseOf_11 : decode cX0_isBecauseOf 11 = .ok (.invokevirtual 35, 3) := by decide +kernel
theorem dX0_isBecauseOf_14 : decode cX0_isBecauseOf 14 = .ok (.iload_n 2, 1) := by decide +kernel
theorem dX0_isBecauseOf_15 : decode cX0_isBecauseOf 15 = .ok (.invokestatic 31, 3) := by decide +kernel
theorem dX0_isBecauseOf_18 : decode cX0_isBecauseOf 18 = .ok (.ireturn, 1) := by decide +kernel
set_option maxRecDepth 20000 in
theorem ggX0_rootsUnder_X4_hasBit : GoodIn wsX0_rootsUnder wsX4_hasBit := goodIn_r _ [5, 6, 7, 4, 8] (by decide +kernel) (by decide +kernel)
set_option maxRecDepth 20000 in
theorem gX0_rootsUnder_X4_hasBit_n31 : GoodIn wsX0_rootsUnder (wsX4_hasBit) := ggX0_rootsUnder_X4_hasBit
set_option maxRecDepth 20000 in
theorem ggX0_rootsUnder_X0_reach : GoodIn wsX0_rootsUnder wsX0_reach := goodIn_r _ [13, 2, 7, 4, 8, 3, 5, 6, 14, 15, 16, 12, 17, 18, 19, 20, 21, 22, 23, 24, 25, 26, 27, 28, 29] (by decide +kernel) (by decide +kernel)
set_option maxRecDepth 20000 in
theorem gX0_rootsUnder_X0_reach : GoodIn wsX0_rootsUnder (wsV RX0 35 RX0 yX0_reach wsX0_reach) := goodIn_app (goodIn_of _ (by decide +kernel)) ggX0_rootsUnder_X0_reach
set_option maxRecDepth 20000 in
theorem ggX0_rootsUnder_X0_reasonsOf : GoodIn wsX0_rootsUnder wsX0_reasonsOf := goodIn_r _ [17, 2, 18, 19, 20, 12, 21, 22, 23, 24, 25, 26, 7, 4, 8, 27, 28, 29] (by decide +kernel) (by decide +kernel)
set_option maxRecDepth 20000 in
theorem gX0_rootsUnder_X0_reasonsOf : GoodIn wsX0_rootsUnder (wsV RX0 39 RX0 yX0_reasonsOf wsX0_reasonsOf) := goodIn_app (goodIn_of _ (by decide +kernel)) ggX0_rootsUnder_X0_reasonsOf
set_option maxRecDepth 20000 in
theorem ggX0_rootsUnder_X4_bit : GoodIn wsX0_rootsUnder wsX4_bit := goodIn_r _ [8] (by decide +kernel) (by decide +kernel)
set_option maxRecDepth 20000 in
theorem gX0_rootsUnder_X4_bit_n23 : GoodIn wsX0_rootsUnder (wsX4_bit) := ggX0_rootsUnder_X4_bit
theorem dX0_rootsUnder_0 : decode cX0_rootsUnder 0 = .ok (.aload_n 0, 1) := by decide +kernel
theorem dX0_rootsUnder_1 : decode cX0_rootsUnder 1 = .ok (.getfield 16, 3) := by decide +kernel
theorem dX0_rootsUnder_4 : decode cX0_rootsUnder 4 = .ok (.iload_n 1, 1) := by decide +kernel
theorem dX0_rootsUnder_5 : decode cX0_rootsUnder 5 = .ok (.invokestatic 31, 3) := by decide +kernel
theorem dX0_rootsUnder_8 : decode cX0_rootsUnder 8 = .ok (.ifCond .ne 5, 3) := by decide +kernel
theorem dX0_rootsUnder_11 : decode cX0_rootsUnder 11 = .ok (.iconst 0, 1) := by decide +kernel
theorem dX0_rootsUnder_12 : decode cX0_rootsUnder 12 = .ok (.ireturn, 1) := by decide +kernel
theorem dX0_rootsUnder_13 : decode cX0_rootsUnder 13 = .ok (.aload_n 0, 1) := by decide +kernel
theorem dX0_rootsUnder_14 : decode cX0_rootsUnder 14 = .ok (.iload_n 1, 1) := by decide +kernel
theorem dX0_rootsUnder_15 : decode cX0_rootsUnder 15 = .ok (.aload_n 0, 1) := by decide +kernel
theorem dX0_rootsUnder_16 : decode cX0_rootsUnder 16 = .ok (.getfield 16, 3) := by decide +kernel
theorem dX0_rootsUnder_19 : decode cX0_rootsUnder 19 = .ok (.invokevirtual 35, 3) := by decide +kernel
theorem dX0_rootsUnder_22 : decode cX0_rootsUnder 22 = .ok (.istore_n 2, 1) := by decide +kernel
theorem dX0_rootsUnder_23 : decode cX0_rootsUnder 23 = .ok (.iconst 0, 1) := by decide +kernel
theorem dX0_rootsUnder_24 : decode cX0_rootsUnder 24 = .ok (.istore_n 3, 1) := by decide +kernel
theorem dX0_rootsUnder_25 : decode cX0_rootsUnder 25 = .ok (.iconst 0, 1) := by decide +kernel
theorem dX0_rootsUnder_26 : decode cX0_rootsUnder 26 = .ok (.istore 4, 2) := by decide +kernel
theorem dX0_rootsUnder_28 : decode cX0_rootsUnder 28 = .ok (.iload 4, 2) := by decide +kernel
theorem dX0_rootsUnder_30 : decode cX0_rootsUnder 30 = .ok (.aload_n 0, 1) := by decide +kernel
theorem dX0_rootsUnder_31 : decode cX0_rootsUnder 31 = .ok (.getfield 20, 3) := by decide +kernel
theorem dX0_rootsUnder_34 : decode cX0_rootsUnder 34 = .ok (.if_icmp .ge 40, 3) := by decide +kernel
theorem dX0_rootsUnder_37 : decode cX0_rootsUnder 37 = .ok (.iload_n 2, 1) := by decide +kernel
theorem dX0_rootsUnder_38 : decode cX0_rootsUnder 38 = .ok (.iload 4, 2) := by decide +kernel
theorem dX0_rootsUnder_40 : decode cX0_rootsUnder 40 = .ok (.invokestatic 31, 3) := by decide +kernel
theorem dX0_rootsUnder_43 : decode cX0_rootsUnder 43 = .ok (.ifCond .eq 25, 3) := by decide +kernel
theorem dX0_rootsUnder_46 : decode cX0_rootsUnder 46 = .ok (.aload_n 0, 1) := by decide +kernel
theorem dX0_rootsUnder_47 : decode cX0_rootsUnder 47 = .ok (.iload 4, 2) := by decide +kernel
theorem dX0_rootsUnder_49 : decode cX0_rootsUnder 49 = .ok (.invokevirtual 39, 3) := by decide +kernel
theorem dX0_rootsUnder_52 : decode cX0_rootsUnder 52 = .ok (.aload_n 0, 1) := by decide +kernel
theorem dX0_rootsUnder_53 : decode cX0_rootsUnder 53 = .ok (.getfield 16, 3) := by decide +kernel
theorem dX0_rootsUnder_56 : decode cX0_rootsUnder 56 = .ok (.iand, 1) := by decide +kernel
theorem dX0_rootsUnder_57 : decode cX0_rootsUnder 57 = .ok (.ifCond .ne 11, 3) := by decide +kernel
theorem dX0_rootsUnder_60 : decode cX0_rootsUnder 60 = .ok (.iload_n 3, 1) := by decide +kernel
theorem dX0_rootsUnder_61 : decode cX0_rootsUnder 61 = .ok (.iload 4, 2) := by decide +kernel
theorem dX0_rootsUnder_63 : decode cX0_rootsUnder 63 = .ok (.invokestatic 23, 3) := by decide +kernel
theorem dX0_rootsUnder_66 : decode cX0_rootsUnder 66 = .ok (.ior, 1) := by decide +kernel
theorem dX0_rootsUnder_67 : decode cX0_rootsUnder 67 = .ok (.istore_n 3, 1) := by decide +kernel
theorem dX0_rootsUnder_68 : decode cX0_rootsUnder 68 = .ok (.iinc 4 1, 3) := by decide +kernel
theorem dX0_rootsUnder_71 : decode cX0_rootsUnder 71 = .ok (.goto (-43), 3) := by decide +kernel
theorem dX0_rootsUnder_74 : decode cX0_rootsUnder 74 = .ok (.iload_n 3, 1) := by decide +kernel
theorem dX0_rootsUnder_75 : decode cX0_rootsUnder 75 = .ok (.ireturn, 1) := by decide +kernel
set_option maxRecDepth 20000 in
theorem ggX0_weightiestReason_X0_weight : GoodIn wsX0_weightiestReason wsX0_weight := goodIn_r _ [7, 8, 9, 10, 11, 6, 12, 1, 19, 20, 21] (by decide +kernel) (by decide +kernel)
set_option maxRecDepth 20000 in
theorem gX0_weightiestReason_X0_weight : GoodIn wsX0_weightiestReason (wsV RX0 42 RX0 yX0_weight wsX0_weight) := goodIn_app (goodIn_of _ (by decide +kernel)) ggX0_weightiestReason_X0_weight
set_option maxRecDepth 20000 in
theorem ggX0_weightiestReason_X4_hasBit : GoodIn wsX0_weightiestReason wsX4_hasBit := goodIn_r _ [15, 16, 17, 14, 18] (by decide +kernel) (by decide +kernel)
set_option maxRecDepth 20000 in
theorem gX0_weightiestReason_X4_hasBit_n31 : GoodIn wsX0_weightiestReason (wsX4_hasBit) := ggX0_weightiestReason_X4_hasBit
theorem dX0_weightiestReason_0 : decode cX0_weightiestReason 0 = .ok (.iconst (-1), 1) := by decide +kernel
theorem dX0_weightiestReason_1 : decode cX0_weightiestReason 1 = .ok (.istore_n 2, 1) := by decide +kernel
theorem dX0_weightiestReason_2 : decode cX0_weightiestReason 2 = .ok (.iconst 0, 1) := by decide +kernel
theorem dX0_weightiestReason_3 : decode cX0_weightiestReason 3 = .ok (.istore_n 3, 1) := by decide +kernel
theorem dX0_weightiestReason_4 : decode cX0_weightiestReason 4 = .ok (.iconst 0, 1) := by decide +kernel
theorem dX0_weightiestReason_5 : decode cX0_weightiestReason 5 = .ok (.istore 4, 2) := by decide +kernel
theorem dX0_weightiestReason_7 : decode cX0_weightiestReason 7 = .ok (.iload 4, 2) := by decide +kernel
theorem dX0_weightiestReason_9 : decode cX0_weightiestReason 9 = .ok (.aload_n 0, 1) := by decide +kernel
theorem dX0_weightiestReason_10 : decode cX0_weightiestReason 10 = .ok (.getfield 20, 3) := by decide +kernel
theorem dX0_weightiestReason_13 : decode cX0_weightiestReason 13 = .ok (.if_icmp .ge 42, 3) := by decide +kernel
theorem dX0_weightiestReason_16 : decode cX0_weightiestReason 16 = .ok (.aload_n 0, 1) := by decide +kernel
theorem dX0_weightiestReason_17 : decode cX0_weightiestReason 17 = .ok (.iload_n 1, 1) := by decide +kernel
theorem dX0_weightiestReason_18 : decode cX0_weightiestReason 18 = .ok (.iload 4, 2) := by decide +kernel
theorem dX0_weightiestReason_20 : decode cX0_weightiestReason 20 = .ok (.invokevirtual 42, 3) := by decide +kernel
theorem dX0_weightiestReason_23 : decode cX0_weightiestReason 23 = .ok (.istore 5, 2) := by decide +kernel
theorem dX0_weightiestReason_25 : decode cX0_weightiestReason 25 = .ok (.aload_n 0, 1) := by decide +kernel
theorem dX0_weightiestReason_26 : decode cX0_weightiestReason 26 = .ok (.getfield 16, 3) := by decide +kernel
theorem dX0_weightiestReason_29 : decode cX0_weightiestReason 29 = .ok (.iload 4, 2) := by decide +kernel
theorem dX0_weightiestReason_31 : decode cX0_weightiestReason 31 = .ok (.invokestatic 31, 3) := by decide +kernel
theorem dX0_weightiestReason_34 : decode cX0_weightiestReason 34 = .ok (.ifCond .eq 15, 3) := by decide +kernel
theorem dX0_weightiestReason_37 : decode cX0_weightiestReason 37 = .ok (.iload 5, 2) := by decide +kernel
theorem dX0_weightiestReason_39 : decode cX0_weightiestReason 39 = .ok (.iload_n 3, 1) := by decide +kernel
theorem dX0_weightiestReason_40 : decode cX0_weightiestReason 40 = .ok (.if_icmp .le 9, 3) := by decide +kernel
theorem dX0_weightiestReason_43 : decode cX0_weightiestReason 43 = .ok (.iload 4, 2) := by decide +kernel
theorem dX0_weightiestReason_45 : decode cX0_weightiestReason 45 = .ok (.istore_n 2, 1) := by decide +kernel
theorem dX0_weightiestReason_46 : decode cX0_weightiestReason 46 = .ok (.iload 5, 2) := by decide +kernel
theorem dX0_weightiestReason_48 : decode cX0_weightiestReason 48 = .ok (.istore_n 3, 1) := by decide +kernel
theorem dX0_weightiestReason_49 : decode cX0_weightiestReason 49 = .ok (.iinc 4 1, 3) := by decide +kernel
theorem dX0_weightiestReason_52 : decode cX0_weightiestReason 52 = .ok (.goto (-45), 3) := by decide +kernel
theorem dX0_weightiestReason_55 : decode cX0_weightiestReason 55 = .ok (.iload_n 2, 1) := by decide +kernel
theorem dX0_weightiestReason_56 : decode cX0_weightiestReason 56 = .ok (.ireturn, 1) := by decide +kernel
set_option maxRecDepth 20000 in
theorem ggX0_reach_X4_bit : GoodIn wsX0_reach wsX4_bit := goodIn_r _ [4] (by decide +kernel) (by decide +kernel)
set_option maxRecDepth 20000 in
theorem gX0_reach_X4_bit_n23 : GoodIn wsX0_reach (wsX4_bit) := ggX0_reach_X4_bit
set_option maxRecDepth 20000 in
theorem ggX0_reach_X4_hasBit : GoodIn wsX0_reach wsX4_hasBit := goodIn_r _ [6, 7, 2, 3, 4] (by decide +kernel) (by decide +kernel)
set_option maxRecDepth 20000 in
theorem gX0_reach_X4_hasBit_n31 : GoodIn wsX0_reach (wsX4_hasBit) := ggX0_reach_X4_hasBit
set_option maxRecDepth 20000 in
theorem ggX0_reach_X0_reasonsOf : GoodIn wsX0_reach wsX0_reasonsOf := goodIn_r _ [12, 1, 13, 14, 15, 11, 16, 17, 18, 19, 20, 21, 2, 3, 4, 22, 23, 24] (by decide +kernel) (by decide +kernel)
set_option maxRecDepth 20000 in
theorem gX0_reach_X0_reasonsOf : GoodIn wsX0_reach (wsV RX0 39 RX0 yX0_reasonsOf wsX0_reasonsOf) := goodIn_app (goodIn_of _ (by decide +kernel)) ggX0_reach_X0_reasonsOf
theorem dX0_reach_0 : decode cX0_reach 0 = .ok (.iload_n 1, 1) := by decide +kernel
theorem dX0_reach_1 : decode cX0_reach 1 = .ok (.invokestatic 23, 3) := by decide +kernel
theorem dX0_reach_4 : decode cX0_reach 4 = .ok (.istore_n 3, 1) := by decide +kernel
theorem dX0_reach_5 : decode cX0_reach 5 = .ok (.iconst 0, 1) := by decide +kernel
theorem dX0_reach_6 : decode cX0_reach 6 = .ok (.istore 4, 2) := by decide +kernel
theorem dX0_reach_8 : decode cX0_reach 8 = .ok (.iload 4, 2) := by decide +kernel
theorem dX0_reach_10 : decode cX0_reach 10 = .ok (.aload_n 0, 1) := by decide +kernel
theorem dX0_reach_11 : decode cX0_reach 11 = .ok (.getfield 20, 3) := by decide +kernel
theorem dX0_reach_14 : decode cX0_reach 14 = .ok (.if_icmp .ge 47, 3) := by decide +kernel
theorem dX0_reach_17 : decode cX0_reach 17 = .ok (.iconst 0, 1) := by decide +kernel
theorem dX0_reach_18 : decode cX0_reach 18 = .ok (.istore 5, 2) := by decide +kernel
theorem dX0_reach_20 : decode cX0_reach 20 = .ok (.iload 5, 2) := by decide +kernel
theorem dX0_reach_22 : decode cX0_reach 22 = .ok (.aload_n 0, 1) := by decide +kernel
theorem dX0_reach_23 : decode cX0_reach 23 = .ok (.getfield 20, 3) := by decide +kernel
theorem dX0_reach_26 : decode cX0_reach 26 = .ok (.if_icmp .ge 29, 3) := by decide +kernel
theorem dX0_reach_29 : decode cX0_reach 29 = .ok (.iload_n 3, 1) := by decide +kernel
theorem dX0_reach_30 : decode cX0_reach 30 = .ok (.iload 5, 2) := by decide +kernel
theorem dX0_reach_32 : decode cX0_reach 32 = .ok (.invokestatic 31, 3) := by decide +kernel
theorem dX0_reach_35 : decode cX0_reach 35 = .ok (.ifCond .eq 14, 3) := by decide +kernel
theorem dX0_reach_38 : decode cX0_reach 38 = .ok (.iload_n 3, 1) := by decide +kernel
theorem dX0_reach_39 : decode cX0_reach 39 = .ok (.aload_n 0, 1) := by decide +kernel
theorem dX0_reach_40 : decode cX0_reach 40 = .ok (.iload 5, 2) := by decide +kernel
theorem dX0_reach_42 : decode cX0_reach 42 = .ok (.invokevirtual 39, 3) := by decide +kernel
theorem dX0_reach_45 : decode cX0_reach 45 = .ok (.iload_n 2, 1) := by decide +kernel
theorem dX0_reach_46 : decode cX0_reach 46 = .ok (.iand, 1) := by decide +kernel
theorem dX0_reach_47 : decode cX0_reach 47 = .ok (.ior, 1) := by decide +kernel
theorem dX0_reach_48 : decode cX0_reach 48 = .ok (.istore_n 3, 1) := by decide +kernel
theorem dX0_reach_49 : decode cX0_reach 49 = .ok (.iinc 5 1, 3) := by decide +kernel
theorem dX0_reach_52 : decode cX0_reach 52 = .ok (.goto (-32), 3) := by decide +kernel
theorem dX0_reach_55 : decode cX0_reach 55 = .ok (.iinc 4 1, 3) := by decide +kernel
theorem dX0_reach_58 : decode cX0_reach 58 = .ok (.goto (-50), 3) := by decide +kernel
theorem dX0_reach_61 : decode cX0_reach 61 = .ok (.iload_n 3, 1) := by decide +kernel
theorem dX0_reach_62 : decode cX0_reach 62 = .ok (.ireturn, 1) := by decide +kernel
set_option maxRecDepth 20000 in
theorem ggX0_reasonsOf_X0_weight : GoodIn wsX0_reasonsOf wsX0_weight := goodIn_r _ [6, 7, 8, 9, 10, 5, 11, 1, 15, 16, 17] (by decide +kernel) (by decide +kernel)
set_option maxRecDepth 20000 in
theorem gX0_reasonsOf_X0_weight : GoodIn wsX0_reasonsOf (wsV RX0 42 RX0 yX0_weight wsX0_weight) := goodIn_app (goodIn_of _ (by decide +kernel)) ggX0_reasonsOf_X0_weight
set_option maxRecDepth 20000 in
theorem ggX0_reasonsOf_X4_bit : GoodIn wsX0_reasonsOf wsX4_bit := goodIn_r _ [14] (by decide +kernel) (by decide +kernel)
set_option maxRecDepth 20000 in
theorem gX0_reasonsOf_X4_bit_n23 : GoodIn wsX0_reasonsOf (wsX4_bit) := ggX0_reasonsOf_X4_bit
theorem dX0_reasonsOf_0 : decode cX0_reasonsOf 0 = .ok (.iconst 0, 1) := by decide +kernel
theorem dX0_reasonsOf_1 : decode cX0_reasonsOf 1 = .ok (.istore_n 2, 1) := by decide +kernel
theorem dX0_reasonsOf_2 : decode cX0_reasonsOf 2 = .ok (.iconst 0, 1) := by decide +kernel
theorem dX0_reasonsOf_3 : decode cX0_reasonsOf 3 = .ok (.istore_n 3, 1) := by decide +kernel
theorem dX0_reasonsOf_4 : decode cX0_reasonsOf 4 = .ok (.iload_n 3, 1) := by decide +kernel
theorem dX0_reasonsOf_5 : decode cX0_reasonsOf 5 = .ok (.aload_n 0, 1) := by decide +kernel
theorem dX0_reasonsOf_6 : decode cX0_reasonsOf 6 = .ok (.getfield 20, 3) := by decide +kernel
theorem dX0_reasonsOf_9 : decode cX0_reasonsOf 9 = .ok (.if_icmp .ge 25, 3) := by decide +kernel
theorem dX0_reasonsOf_12 : decode cX0_reasonsOf 12 = .ok (.aload_n 0, 1) := by decide +kernel
theorem dX0_reasonsOf_13 : decode cX0_reasonsOf 13 = .ok (.iload_n 1, 1) := by decide +kernel
theorem dX0_reasonsOf_14 : decode cX0_reasonsOf 14 = .ok (.iload_n 3, 1) := by decide +kernel
theorem dX0_reasonsOf_15 : decode cX0_reasonsOf 15 = .ok (.invokevirtual 42, 3) := by decide +kernel
theorem dX0_reasonsOf_18 : decode cX0_reasonsOf 18 = .ok (.ifCond .le 10, 3) := by decide +kernel
theorem dX0_reasonsOf_21 : decode cX0_reasonsOf 21 = .ok (.iload_n 2, 1) := by decide +kernel
theorem dX0_reasonsOf_22 : decode cX0_reasonsOf 22 = .ok (.iload_n 3, 1) := by decide +kernel
theorem dX0_reasonsOf_23 : decode cX0_reasonsOf 23 = .ok (.invokestatic 23, 3) := by decide +kernel
theorem dX0_reasonsOf_26 : decode cX0_reasonsOf 26 = .ok (.ior, 1) := by decide +kernel
theorem dX0_reasonsOf_27 : decode cX0_reasonsOf 27 = .ok (.istore_n 2, 1) := by decide +kernel
theorem dX0_reasonsOf_28 : decode cX0_reasonsOf 28 = .ok (.iinc 3 1, 3) := by decide +kernel
theorem dX0_reasonsOf_31 : decode cX0_reasonsOf 31 = .ok (.goto (-27), 3) := by decide +kernel
theorem dX0_reasonsOf_34 : decode cX0_reasonsOf 34 = .ok (.iload_n 2, 1) := by decide +kernel
theorem dX0_reasonsOf_35 : decode cX0_reasonsOf 35 = .ok (.ireturn, 1) := by decide +kernel
set_option maxRecDepth 20000 in
theorem ggX0_weight_X0_holds : GoodIn wsX0_weight wsX0_holds := goodIn_r _ [6, 7, 8, 9, 10] (by decide +kernel) (by decide +kernel)
set_option maxRecDepth 20000 in
theorem gX0_weight_X0_holds : GoodIn wsX0_weight (wsV RX0 27 RX0 yX0_holds wsX0_holds) := goodIn_app (goodIn_of _ (by decide +kernel)) ggX0_weight_X0_holds
theorem dX0_weight_0 : decode cX0_weight 0 = .ok (.aload_n 0, 1) := by decide +kernel
theorem dX0_weight_1 : decode cX0_weight 1 = .ok (.iload_n 1, 1) := by decide +kernel
theorem dX0_weight_2 : decode cX0_weight 2 = .ok (.invokevirtual 27, 3) := by decide +kernel
theorem dX0_weight_5 : decode cX0_weight 5 = .ok (.ifCond .eq 22, 3) := by decide +kernel
theorem dX0_weight_8 : decode cX0_weight 8 = .ok (.aload_n 0, 1) := by decide +kernel
theorem dX0_weight_9 : decode cX0_weight 9 = .ok (.iload_n 2, 1) := by decide +kernel
theorem dX0_weight_10 : decode cX0_weight 10 = .ok (.invokevirtual 27, 3) := by decide +kernel
theorem dX0_weight_13 : decode cX0_weight 13 = .ok (.ifCond .eq 14, 3) := by decide +kernel
theorem dX0_weight_16 : decode cX0_weight 16 = .ok (.aload_n 0, 1) := by decide +kernel
theorem dX0_weight_17 : decode cX0_weight 17 = .ok (.getfield 11, 3) := by decide +kernel
theorem dX0_weight_20 : decode cX0_weight 20 = .ok (.iload_n 1, 1) := by decide +kernel
theorem dX0_weight_21 : decode cX0_weight 21 = .ok (.aaload, 1) := by decide +kernel
theorem dX0_weight_22 : decode cX0_weight 22 = .ok (.iload_n 2, 1) := by decide +kernel
theorem dX0_weight_23 : decode cX0_weight 23 = .ok (.iaload, 1) := by decide +kernel
theorem dX0_weight_24 : decode cX0_weight 24 = .ok (.goto 4, 3) := by decide +kernel
theorem dX0_weight_27 : decode cX0_weight 27 = .ok (.iconst 0, 1) := by decide +kernel
theorem dX0_weight_28 : decode cX0_weight 28 = .ok (.ireturn, 1) := by decide +kernel
theorem dX1_init_0 : decode cX1_init 0 = .ok (.aload_n 0, 1) := by decide +kernel
theorem dX1_init_1 : decode cX1_init 1 = .ok (.invokespecial 3, 3) := by decide +kernel
theorem dX1_init_4 : decode cX1_init 4 = .ok (.aload_n 0, 1) := by decide +kernel
theorem dX1_init_5 : decode cX1_init 5 = .ok (.bipush 30, 2) := by decide +kernel
theorem dX1_init_7 : decode cX1_init 7 = .ok (.newarray .int, 2) := by decide +kernel
theorem dX1_init_9 : decode cX1_init 9 = .ok (.putfield 9, 3) := by decide +kernel
theorem dX1_init_12 : decode cX1_init 12 = .ok (.aload_n 0, 1) := by decide +kernel
theorem dX1_init_13 : decode cX1_init 13 = .ok (.bipush 30, 2) := by decide +kernel
theorem dX1_init_15 : decode cX1_init 15 = .ok (.newarray .int, 2) := by decide +kernel
theorem dX1_init_17 : decode cX1_init 17 = .ok (.putfield 15, 3) := by decide +kernel
theorem dX1_init_20 : decode cX1_init 20 = .ok (.aload_n 0, 1) := by decide +kernel
theorem dX1_init_21 : decode cX1_init 21 = .ok (.bipush 30, 2) := by decide +kernel
theorem dX1_init_23 : decode cX1_init 23 = .ok (.newarray .int, 2) := by decide +kernel
theorem dX1_init_25 : decode cX1_init 25 = .ok (.putfield 18, 3) := by decide +kernel
theorem dX1_init_28 : decode cX1_init 28 = .ok (.aload_n 0, 1) := by decide +kernel
theorem dX1_init_29 : decode cX1_init 29 = .ok (.bipush 30, 2) := by decide +kernel
theorem dX1_init_31 : decode cX1_init 31 = .ok (.newarray .boolean, 2) := by decide +kernel
theorem dX1_init_33 : decode cX1_init 33 = .ok (.putfield 21, 3) := by decide +kernel
theorem dX1_init_36 : decode cX1_init 36 = .ok (.aload_n 0, 1) := by decide +kernel
theorem dX1_init_37 : decode cX1_init 37 = .ok (.bipush 30, 2) := by decide +kernel
theorem dX1_init_39 : decode cX1_init 39 = .ok (.newarray .int, 2) := by decide +kernel
theorem dX1_init_41 : decode cX1_init 41 = .ok (.putfield 25, 3) := by decide +kernel
theorem dX1_init_44 : decode cX1_init 44 = .ok (.aload_n 0, 1) := by decide +kernel
theorem dX1_init_45 : decode cX1_init 45 = .ok (.bipush 30, 2) := by decide +kernel
theorem dX1_init_47 : decode cX1_init 47 = .ok (.newarray .int, 2) := by decide +kernel
theorem dX1_init_49 : decode cX1_init 49 = .ok (.putfield 28, 3) := by decide +kernel
theorem dX1_init_52 : decode cX1_init 52 = .ok (.aload_n 0, 1) := by decide +kernel
theorem dX1_init_53 : decode cX1_init 53 = .ok (.bipush 30, 2) := by decide +kernel
theorem dX1_init_55 : decode cX1_init 55 = .ok (.newarray .int, 2) := by decide +kernel
theorem dX1_init_57 : decode cX1_init 57 = .ok (.putfield 31, 3) := by decide +kernel
theorem dX1_init_60 : decode cX1_init 60 = .ok (.aload_n 0, 1) := by decide +kernel
theorem dX1_init_61 : decode cX1_init 61 = .ok (.sipush 4096, 3) := by decide +kernel
theorem dX1_init_64 : decode cX1_init 64 = .ok (.newarray .long, 2) := by decide +kernel
theorem dX1_init_66 : decode cX1_init 66 = .ok (.putfield 34, 3) := by decide +kernel
theorem dX1_init_69 : decode cX1_init 69 = .ok (.aload_n 0, 1) := by decide +kernel
theorem dX1_init_70 : decode cX1_init 70 = .ok (.iconst 0, 1) := by decide +kernel
theorem dX1_init_71 : decode cX1_init 71 = .ok (.putfield 38, 3) := by decide +kernel
theorem dX1_init_74 : decode cX1_init 74 = .ok (.return_, 1) := by decide +kernel
theorem dX1_size_0 : decode cX1_size 0 = .ok (.aload_n 0, 1) := by decide +kernel
theorem dX1_size_1 : decode cX1_size 1 = .ok (.getfield 38, 3) := by decide +kernel
theorem dX1_size_4 : decode cX1_size 4 = .ok (.ireturn, 1) := by decide +kernel
theorem dX1_holds_0 : decode cX1_holds 0 = .ok (.iload_n 1, 1) := by decide +kernel
theorem dX1_holds_1 : decode cX1_holds 1 = .ok (.ifCond .lt 21, 3) := by decide +kernel
theorem dX1_holds_4 : decode cX1_holds 4 = .ok (.iload_n 1, 1) := by decide +kernel
theorem dX1_holds_5 : decode cX1_holds 5 = .ok (.aload_n 0, 1) := by decide +kernel
theorem dX1_holds_6 : decode cX1_holds 6 = .ok (.getfield 38, 3) := by decide +kernel
theorem dX1_holds_9 : decode cX1_holds 9 = .ok (.if_icmp .ge 13, 3) := by decide +kernel
theorem dX1_holds_12 : decode cX1_holds 12 = .ok (.iload_n 1, 1) := by decide +kernel
theorem dX1_holds_13 : decode cX1_holds 13 = .ok (.bipush 30, 2) := by decide +kernel
theorem dX1_holds_15 : decode cX1_holds 15 = .ok (.if_icmp .ge 7, 3) := by decide +kernel
theorem dX1_holds_18 : decode cX1_holds 18 = .ok (.iconst 1, 1) := by decide +kernel
theorem dX1_holds_19 : decode cX1_holds 19 = .ok (.goto 4, 3) := by decide +kernel
theorem dX1_holds_22 : decode cX1_holds 22 = .ok (.iconst 0, 1) := by decide +kernel
theorem dX1_holds_23 : decode cX1_holds 23 = .ok (.ireturn, 1) := by decide +kernel
theorem dX1_add_0 : decode cX1_add 0 = .ok (.aload_n 0, 1) := by decide +kernel
theorem dX1_add_1 : decode cX1_add 1 = .ok (.getfield 38, 3) := by decide +kernel
theorem dX1_add_4 : decode cX1_add 4 = .ok (.istore 5, 2) := by decide +kernel
theorem dX1_add_6 : decode cX1_add 6 = .ok (.iload 5, 2) := by decide +kernel
theorem dX1_add_8 : decode cX1_add 8 = .ok (.bipush 30, 2) := by decide +kernel
theorem dX1_add_10 : decode cX1_add 10 = .ok (.if_icmp .lt 5, 3) := by decide +kernel
theorem dX1_add_13 : decode cX1_add 13 = .ok (.iconst (-1), 1) := by decide +kernel
theorem dX1_add_14 : decode cX1_add 14 = .ok (.ireturn, 1) := by decide +kernel
theorem dX1_add_15 : decode cX1_add 15 = .ok (.aload_n 0, 1) := by decide +kernel
theorem dX1_add_16 : decode cX1_add 16 = .ok (.getfield 9, 3) := by decide +kernel
theorem dX1_add_19 : decode cX1_add 19 = .ok (.iload 5, 2) := by decide +kernel
theorem dX1_add_21 : decode cX1_add 21 = .ok (.iload_n 1, 1) := by decide +kernel
theorem dX1_add_22 : decode cX1_add 22 = .ok (.iastore, 1) := by decide +kernel
theorem dX1_add_23 : decode cX1_add 23 = .ok (.aload_n 0, 1) := by decide +kernel
theorem dX1_add_24 : decode cX1_add 24 = .ok (.getfield 15, 3) := by decide +kernel
theorem dX1_add_27 : decode cX1_add 27 = .ok (.iload 5, 2) := by decide +kernel
theorem dX1_add_29 : decode cX1_add 29 = .ok (.iload_n 2, 1) := by decide +kernel
theorem dX1_add_30 : decode cX1_add 30 = .ok (.iastore, 1) := by decide +kernel
theorem dX1_add_31 : decode cX1_add 31 = .ok (.aload_n 0, 1) := by decide +kernel
theorem dX1_add_32 : decode cX1_add 32 = .ok (.getfield 18, 3) := by decide +kernel
theorem dX1_add_35 : decode cX1_add 35 = .ok (.iload 5, 2) := by decide +kernel
theorem dX1_add_37 : decode cX1_add 37 = .ok (.iload_n 3, 1) := by decide +kernel
theorem dX1_add_38 : decode cX1_add 38 = .ok (.iastore, 1) := by decide +kernel
theorem dX1_add_39 : decode cX1_add 39 = .ok (.aload_n 0, 1) := by decide +kernel
theorem dX1_add_40 : decode cX1_add 40 = .ok (.getfield 21, 3) := by decide +kernel
theorem dX1_add_43 : decode cX1_add 43 = .ok (.iload 5, 2) := by decide +kernel
theorem dX1_add_45 : decode cX1_add 45 = .ok (.iload 4, 2) := by decide +kernel
theorem dX1_add_47 : decode cX1_add 47 = .ok (.bastore, 1) := by decide +kernel
theorem dX1_add_48 : decode cX1_add 48 = .ok (.aload_n 0, 1) := by decide +kernel
theorem dX1_add_49 : decode cX1_add 49 = .ok (.iload 5, 2) := by decide +kernel
theorem dX1_add_51 : decode cX1_add 51 = .ok (.iconst 1, 1) := by decide +kernel
theorem dX1_add_52 : decode cX1_add 52 = .ok (.iadd, 1) := by decide +kernel
theorem dX1_add_53 : decode cX1_add 53 = .ok (.putfield 38, 3) := by decide +kernel
theorem dX1_add_56 : decode cX1_add 56 = .ok (.iload 5, 2) := by decide +kernel
theorem dX1_add_58 : decode cX1_add 58 = .ok (.ireturn, 1) := by decide +kernel
set_option maxRecDepth 20000 in
theorem ggX1_isBefore_X1_holds : GoodIn wsX1_isBefore wsX1_holds := goodIn_r _ [6, 7, 14, 15, 16, 17, 18, 19, 20, 21, 22] (by decide +kernel) (by decide +kernel)
set_option maxRecDepth 20000 in
theorem gX1_isBefore_X1_holds : GoodIn wsX1_isBefore (wsV RX1 42 RX1 yX1_holds wsX1_holds) := goodIn_app (goodIn_of _ (by decide +kernel)) ggX1_isBefore_X1_holds
set_option maxRecDepth 20000 in
theorem ggX1_isBefore_X4_hasBit : GoodIn wsX1_isBefore wsX4_hasBit := goodIn_r _ [10, 11, 12, 9, 13] (by decide +kernel) (by decide +kernel)
set_option maxRecDepth 20000 in
theorem gX1_isBefore_X4_hasBit_n46 : GoodIn wsX1_isBefore (wsX4_hasBit) := ggX1_isBefore_X4_hasBit
theorem dX1_isBefore_0 : decode cX1_isBefore 0 = .ok (.aload_n 0, 1) := by decide +kernel
theorem dX1_isBefore_1 : decode cX1_isBefore 1 = .ok (.iload_n 2, 1) := by decide +kernel
theorem dX1_isBefore_2 : decode cX1_isBefore 2 = .ok (.invokevirtual 42, 3) := by decide +kernel
theorem dX1_isBefore_5 : decode cX1_isBefore 5 = .ok (.ifCond .eq 20, 3) := by decide +kernel
theorem dX1_isBefore_8 : decode cX1_isBefore 8 = .ok (.aload_n 0, 1) := by decide +kernel
theorem dX1_isBefore_9 : decode cX1_isBefore 9 = .ok (.getfield 28, 3) := by decide +kernel
theorem dX1_isBefore_12 : decode cX1_isBefore 12 = .ok (.iload_n 2, 1) := by decide +kernel
theorem dX1_isBefore_13 : decode cX1_isBefore 13 = .ok (.iaload, 1) := by decide +kernel
theorem dX1_isBefore_14 : decode cX1_isBefore 14 = .ok (.iload_n 1, 1) := by decide +kernel
theorem dX1_isBefore_15 : decode cX1_isBefore 15 = .ok (.invokestatic 46, 3) := by decide +kernel
theorem dX1_isBefore_18 : decode cX1_isBefore 18 = .ok (.ifCond .eq 7, 3) := by decide +kernel
theorem dX1_isBefore_21 : decode cX1_isBefore 21 = .ok (.iconst 1, 1) := by decide +kernel
theorem dX1_isBefore_22 : decode cX1_isBefore 22 = .ok (.goto 4, 3) := by decide +kernel
theorem dX1_isBefore_25 : decode cX1_isBefore 25 = .ok (.iconst 0, 1) := by decide +kernel
theorem dX1_isBefore_26 : decode cX1_isBefore 26 = .ok (.ireturn, 1) := by decide +kernel
set_option maxRecDepth 20000 in
theorem ggX1_at_X1_holds : GoodIn wsX1_at wsX1_holds := goodIn_r _ [6, 7, 8, 9, 10, 11, 12, 13, 14, 15, 16] (by decide +kernel) (by decide +kernel)
set_option maxRecDepth 20000 in
theorem gX1_at_X1_holds : GoodIn wsX1_at (wsV RX1 42 RX1 yX1_holds wsX1_holds) := goodIn_app (goodIn_of _ (by decide +kernel)) ggX1_at_X1_holds
theorem dX1_at_0 : decode cX1_at 0 = .ok (.aload_n 0, 1) := by decide +kernel
theorem dX1_at_1 : decode cX1_at 1 = .ok (.iload_n 1, 1) := by decide +kernel
theorem dX1_at_2 : decode cX1_at 2 = .ok (.invokevirtual 42, 3) := by decide +kernel
theorem dX1_at_5 : decode cX1_at 5 = .ok (.ifCond .eq 12, 3) := by decide +kernel
theorem dX1_at_8 : decode cX1_at 8 = .ok (.aload_n 0, 1) := by decide +kernel
theorem dX1_at_9 : decode cX1_at 9 = .ok (.getfield 31, 3) := by decide +kernel
theorem dX1_at_12 : decode cX1_at 12 = .ok (.iload_n 1, 1) := by decide +kernel
theorem dX1_at_13 : decode cX1_at 13 = .ok (.iaload, 1) := by decide +kernel
theorem dX1_at_14 : decode cX1_at 14 = .ok (.goto 4, 3) := by decide +kernel
theorem dX1_at_17 : decode cX1_at 17 = .ok (.iconst (-1), 1) := by decide +kernel
theorem dX1_at_18 : decode cX1_at 18 = .ok (.ireturn, 1) := by decide +kernel
set_option maxRecDepth 20000 in
theorem ggX1_weigh_X1_holds : GoodIn wsX1_weigh wsX1_holds := goodIn_r _ [6, 7, 8, 9, 10, 11, 12, 13, 14, 15, 16] (by decide +kernel) (by decide +kernel)
set_option maxRecDepth 20000 in
theorem gX1_weigh_X1_holds : GoodIn wsX1_weigh (wsV RX1 42 RX1 yX1_holds wsX1_holds) := goodIn_app (goodIn_of _ (by decide +kernel)) ggX1_weigh_X1_holds
theorem dX1_weigh_0 : decode cX1_weigh 0 = .ok (.aload_n 0, 1) := by decide +kernel
theorem dX1_weigh_1 : decode cX1_weigh 1 = .ok (.iload_n 1, 1) := by decide +kernel
theorem dX1_weigh_2 : decode cX1_weigh 2 = .ok (.invokevirtual 42, 3) := by decide +kernel
theorem dX1_weigh_5 : decode cX1_weigh 5 = .ok (.ifCond .ne 5, 3) := by decide +kernel
theorem dX1_weigh_8 : decode cX1_weigh 8 = .ok (.iconst 0, 1) := by decide +kernel
theorem dX1_weigh_9 : decode cX1_weigh 9 = .ok (.ireturn, 1) := by decide +kernel
theorem dX1_weigh_10 : decode cX1_weigh 10 = .ok (.aload_n 0, 1) := by decide +kernel
theorem dX1_weigh_11 : decode cX1_weigh 11 = .ok (.getfield 25, 3) := by decide +kernel
theorem dX1_weigh_14 : decode cX1_weigh 14 = .ok (.iload_n 1, 1) := by decide +kernel
theorem dX1_weigh_15 : decode cX1_weigh 15 = .ok (.dup2, 1) := by decide +kernel
theorem dX1_weigh_16 : decode cX1_weigh 16 = .ok (.iaload, 1) := by decide +kernel
theorem dX1_weigh_17 : decode cX1_weigh 17 = .ok (.iload_n 2, 1) := by decide +kernel
theorem dX1_weigh_18 : decode cX1_weigh 18 = .ok (.iadd, 1) := by decide +kernel
theorem dX1_weigh_19 : decode cX1_weigh 19 = .ok (.iastore, 1) := by decide +kernel
theorem dX1_weigh_20 : decode cX1_weigh 20 = .ok (.aload_n 0, 1) := by decide +kernel
theorem dX1_weigh_21 : decode cX1_weigh 21 = .ok (.getfield 25, 3) := by decide +kernel
theorem dX1_weigh_24 : decode cX1_weigh 24 = .ok (.iload_n 1, 1) := by decide +kernel
theorem dX1_weigh_25 : decode cX1_weigh 25 = .ok (.iaload, 1) := by decide +kernel
theorem dX1_weigh_26 : decode cX1_weigh 26 = .ok (.ireturn, 1) := by decide +kernel
set_option maxRecDepth 20000 in
theorem ggX1_isDoubted_X1_holds : GoodIn wsX1_isDoubted wsX1_holds := goodIn_r _ [6, 7, 8, 9, 10, 11, 12, 13, 14, 15, 16] (by decide +kernel) (by decide +kernel)
set_option maxRecDepth 20000 in
theorem gX1_isDoubted_X1_holds : GoodIn wsX1_isDoubted (wsV RX1 42 RX1 yX1_holds wsX1_holds) := goodIn_app (goodIn_of _ (by decide +kernel)) ggX1_isDoubted_X1_holds
theorem dX1_isDoubted_0 : decode cX1_isDoubted 0 = .ok (.aload_n 0, 1) := by decide +kernel
theorem dX1_isDoubted_1 : decode cX1_isDoubted 1 = .ok (.iload_n 1, 1) := by decide +kernel
theorem dX1_isDoubted_2 : decode cX1_isDoubted 2 = .ok (.invokevirtual 42, 3) := by decide +kernel
theorem dX1_isDoubted_5 : decode cX1_isDoubted 5 = .ok (.ifCond .eq 16, 3) := by decide +kernel
theorem dX1_isDoubted_8 : decode cX1_isDoubted 8 = .ok (.aload_n 0, 1) := by decide +kernel
theorem dX1_isDoubted_9 : decode cX1_isDoubted 9 = .ok (.getfield 25, 3) := by decide +kernel
theorem dX1_isDoubted_12 : decode cX1_isDoubted 12 = .ok (.iload_n 1, 1) := by decide +kernel
theorem dX1_isDoubted_13 : decode cX1_isDoubted 13 = .ok (.iaload, 1) := by decide +kernel
theorem dX1_isDoubted_14 : decode cX1_isDoubted 14 = .ok (.ifCond .ge 7, 3) := by decide +kernel
theorem dX1_isDoubted_17 : decode cX1_isDoubted 17 = .ok (.iconst 1, 1) := by decide +kernel
theorem dX1_isDoubted_18 : decode cX1_isDoubted 18 = .ok (.goto 4, 3) := by decide +kernel
theorem dX1_isDoubted_21 : decode cX1_isDoubted 21 = .ok (.iconst 0, 1) := by decide +kernel
theorem dX1_isDoubted_22 : decode cX1_isDoubted 22 = .ok (.ireturn, 1) := by decide +kernel
set_option maxRecDepth 20000 in
theorem ggX1_earliestTime_X1_holds : GoodIn wsX1_earliestTime wsX1_holds := goodIn_r _ [9, 10, 24, 25, 26, 27, 28, 29, 30, 31, 32] (by decide +kernel) (by decide +kernel)
set_option maxRecDepth 20000 in
theorem gX1_earliestTime_X1_holds : GoodIn wsX1_earliestTime (wsV RX1 42 RX1 yX1_holds wsX1_holds) := goodIn_app (goodIn_of _ (by decide +kernel)) ggX1_earliestTime_X1_holds
set_option maxRecDepth 20000 in
theorem ggX1_earliestTime_X3_most : GoodIn wsX1_earliestTime wsX3_most := goodIn_r _ [15, 16, 17, 18, 19, 20, 21, 22, 23, 33] (by decide +kernel) (by decide +kernel)
set_option maxRecDepth 20000 in
theorem gX1_earliestTime_X3_most : GoodIn wsX1_earliestTime (wsV RX1 51 RX3 yX3_most wsX3_most) := goodIn_app (goodIn_of _ (by decide +kernel)) ggX1_earliestTime_X3_most
theorem dX1_earliestTime_0 : decode cX1_earliestTime 0 = .ok (.aload_n 0, 1) := by decide +kernel
theorem dX1_earliestTime_1 : decode cX1_earliestTime 1 = .ok (.iload_n 1, 1) := by decide +kernel
theorem dX1_earliestTime_2 : decode cX1_earliestTime 2 = .ok (.invokevirtual 42, 3) := by decide +kernel
theorem dX1_earliestTime_5 : decode cX1_earliestTime 5 = .ok (.ifCond .ne 6, 3) := by decide +kernel
theorem dX1_earliestTime_8 : decode cX1_earliestTime 8 = .ok (.ldc 50, 2) := by decide +kernel
theorem dX1_earliestTime_10 : decode cX1_earliestTime 10 = .ok (.ireturn, 1) := by decide +kernel
theorem dX1_earliestTime_11 : decode cX1_earliestTime 11 = .ok (.aload_n 2, 1) := by decide +kernel
theorem dX1_earliestTime_12 : decode cX1_earliestTime 12 = .ok (.iconst 0, 1) := by decide +kernel
theorem dX1_earliestTime_13 : decode cX1_earliestTime 13 = .ok (.aload_n 0, 1) := by decide +kernel
theorem dX1_earliestTime_14 : decode cX1_earliestTime 14 = .ok (.getfield 9, 3) := by decide +kernel
theorem dX1_earliestTime_17 : decode cX1_earliestTime 17 = .ok (.iload_n 1, 1) := by decide +kernel
theorem dX1_earliestTime_18 : decode cX1_earliestTime 18 = .ok (.iaload, 1) := by decide +kernel
theorem dX1_earliestTime_19 : decode cX1_earliestTime 19 = .ok (.invokevirtual 51, 3) := by decide +kernel
theorem dX1_earliestTime_22 : decode cX1_earliestTime 22 = .ok (.istore_n 3, 1) := by decide +kernel
theorem dX1_earliestTime_23 : decode cX1_earliestTime 23 = .ok (.iload_n 3, 1) := by decide +kernel
theorem dX1_earliestTime_24 : decode cX1_earliestTime 24 = .ok (.ldc 57, 2) := by decide +kernel
theorem dX1_earliestTime_26 : decode cX1_earliestTime 26 = .ok (.if_icmp .ge 14, 3) := by decide +kernel
theorem dX1_earliestTime_29 : decode cX1_earliestTime 29 = .ok (.aload_n 0, 1) := by decide +kernel
theorem dX1_earliestTime_30 : decode cX1_earliestTime 30 = .ok (.getfield 15, 3) := by decide +kernel
theorem dX1_earliestTime_33 : decode cX1_earliestTime 33 = .ok (.iload_n 1, 1) := by decide +kernel
theorem dX1_earliestTime_34 : decode cX1_earliestTime 34 = .ok (.iaload, 1) := by decide +kernel
theorem dX1_earliestTime_35 : decode cX1_earliestTime 35 = .ok (.iload_n 3, 1) := by decide +kernel
theorem dX1_earliestTime_36 : decode cX1_earliestTime 36 = .ok (.isub, 1) := by decide +kernel
theorem dX1_earliestTime_37 : decode cX1_earliestTime 37 = .ok (.goto 5, 3) := by decide +kernel
theorem dX1_earliestTime_40 : decode cX1_earliestTime 40 = .ok (.ldc 50, 2) := by decide +kernel
theorem dX1_earliestTime_42 : decode cX1_earliestTime 42 = .ok (.ireturn, 1) := by decide +kernel
set_option maxRecDepth 20000 in
theorem ggX1_firstLine_X1_at : GoodIn wsX1_firstLine wsX1_at := goodIn_r _ [7, 8, 9, 10, 11, 6, 12, 1, 13, 14, 15, 16, 17, 18, 19, 20, 21] (by decide +kernel) (by decide +kernel)
set_option maxRecDepth 20000 in
theorem gX1_firstLine_X1_at : GoodIn wsX1_firstLine (wsV RX1 58 RX1 yX1_at wsX1_at) := goodIn_app (goodIn_of _ (by decide +kernel)) ggX1_firstLine_X1_at
set_option maxRecDepth 20000 in
theorem ggX1_firstLine_X1_holds : GoodIn wsX1_firstLine wsX1_holds := goodIn_r _ [12, 1, 13, 14, 15, 16, 17, 18, 19, 20, 21] (by decide +kernel) (by decide +kernel)
set_option maxRecDepth 20000 in
theorem gX1_firstLine_X1_holds : GoodIn wsX1_firstLine (wsV RX1 42 RX1 yX1_holds wsX1_holds) := goodIn_app (goodIn_of _ (by decide +kernel)) ggX1_firstLine_X1_holds
theorem dX1_firstLine_0 : decode cX1_firstLine 0 = .ok (.iconst 0, 1) := by decide +kernel
theorem dX1_firstLine_1 : decode cX1_firstLine 1 = .ok (.istore_n 2, 1) := by decide +kernel
theorem dX1_firstLine_2 : decode cX1_firstLine 2 = .ok (.iload_n 2, 1) := by decide +kernel
theorem dX1_firstLine_3 : decode cX1_firstLine 3 = .ok (.aload_n 0, 1) := by decide +kernel
theorem dX1_firstLine_4 : decode cX1_firstLine 4 = .ok (.getfield 38, 3) := by decide +kernel
theorem dX1_firstLine_7 : decode cX1_firstLine 7 = .ok (.if_icmp .ge 35, 3) := by decide +kernel
theorem dX1_firstLine_10 : decode cX1_firstLine 10 = .ok (.aload_n 0, 1) := by decide +kernel
theorem dX1_firstLine_11 : decode cX1_firstLine 11 = .ok (.iload_n 2, 1) := by decide +kernel
theorem dX1_firstLine_12 : decode cX1_firstLine 12 = .ok (.invokevirtual 58, 3) := by decide +kernel
theorem dX1_firstLine_15 : decode cX1_firstLine 15 = .ok (.istore_n 3, 1) := by decide +kernel
theorem dX1_firstLine_16 : decode cX1_firstLine 16 = .ok (.aload_n 0, 1) := by decide +kernel
theorem dX1_firstLine_17 : decode cX1_firstLine 17 = .ok (.iload_n 3, 1) := by decide +kernel
theorem dX1_firstLine_18 : decode cX1_firstLine 18 = .ok (.invokevirtual 42, 3) := by decide +kernel
theorem dX1_firstLine_21 : decode cX1_firstLine 21 = .ok (.ifCond .eq 15, 3) := by decide +kernel
theorem dX1_firstLine_24 : decode cX1_firstLine 24 = .ok (.aload_n 0, 1) := by decide +kernel
theorem dX1_firstLine_25 : decode cX1_firstLine 25 = .ok (.getfield 18, 3) := by decide +kernel
theorem dX1_firstLine_28 : decode cX1_firstLine 28 = .ok (.iload_n 3, 1) := by decide +kernel
theorem dX1_firstLine_29 : decode cX1_firstLine 29 = .ok (.iaload, 1) := by decide +kernel
theorem dX1_firstLine_30 : decode cX1_firstLine 30 = .ok (.iload_n 1, 1) := by decide +kernel
theorem dX1_firstLine_31 : decode cX1_firstLine 31 = .ok (.if_icmp .ne 5, 3) := by decide +kernel
theorem dX1_firstLine_34 : decode cX1_firstLine 34 = .ok (.iload_n 3, 1) := by decide +kernel
theorem dX1_firstLine_35 : decode cX1_firstLine 35 = .ok (.ireturn, 1) := by decide +kernel
theorem dX1_firstLine_36 : decode cX1_firstLine 36 = .ok (.iinc 2 1, 3) := by decide +kernel
theorem dX1_firstLine_39 : decode cX1_firstLine 39 = .ok (.goto (-37), 3) := by decide +kernel
theorem dX1_firstLine_42 : decode cX1_firstLine 42 = .ok (.iconst (-1), 1) := by decide +kernel
theorem dX1_firstLine_43 : decode cX1_firstLine 43 = .ok (.ireturn, 1) := by decide +kernel
set_option maxRecDepth 20000 in
theorem ggX1_storySize_X1_at : GoodIn wsX1_storySize wsX1_at := goodIn_r _ [6, 7, 8, 9, 10, 5, 11, 1, 18, 19, 20, 21, 22, 23, 24, 25, 26] (by decide +kernel) (by decide +kernel)
set_option maxRecDepth 20000 in
theorem gX1_storySize_X1_at : GoodIn wsX1_storySize (wsV RX1 58 RX1 yX1_at wsX1_at) := goodIn_app (goodIn_of _ (by decide +kernel)) ggX1_storySize_X1_at
set_option maxRecDepth 20000 in
theorem ggX1_storySize_X1_isInStory : GoodIn wsX1_storySize wsX1_isInStory := goodIn_r _ [15, 16, 17, 8, 9, 10, 5, 11, 1, 18, 19, 20, 21, 22, 23, 24, 25, 26] (by decide +kernel) (by decide +kernel)
set_option maxRecDepth 20000 in
theorem gX1_storySize_X1_isInStory : GoodIn wsX1_storySize (wsV RX1 62 RX1 yX1_isInStory wsX1_isInStory) := goodIn_app (goodIn_of _ (by decide +kernel)) ggX1_storySize_X1_isInStory
theorem dX1_storySize_0 : decode cX1_storySize 0 = .ok (.iconst 0, 1) := by decide +kernel
theorem dX1_storySize_1 : decode cX1_storySize 1 = .ok (.istore_n 1, 1) := by decide +kernel
theorem dX1_storySize_2 : decode cX1_storySize 2 = .ok (.iconst 0, 1) := by decide +kernel
theorem dX1_storySize_3 : decode cX1_storySize 3 = .ok (.istore_n 2, 1) := by decide +kernel
theorem dX1_storySize_4 : decode cX1_storySize 4 = .ok (.iload_n 2, 1) := by decide +kernel
theorem dX1_storySize_5 : decode cX1_storySize 5 = .ok (.aload_n 0, 1) := by decide +kernel
theorem dX1_storySize_6 : decode cX1_storySize 6 = .ok (.getfield 38, 3) := by decide +kernel
theorem dX1_storySize_9 : decode cX1_storySize 9 = .ok (.if_icmp .ge 24, 3) := by decide +kernel
theorem dX1_storySize_12 : decode cX1_storySize 12 = .ok (.aload_n 0, 1) := by decide +kernel
theorem dX1_storySize_13 : decode cX1_storySize 13 = .ok (.aload_n 0, 1) := by decide +kernel
theorem dX1_storySize_14 : decode cX1_storySize 14 = .ok (.iload_n 2, 1) := by decide +kernel
theorem dX1_storySize_15 : decode cX1_storySize 15 = .ok (.invokevirtual 58, 3) := by decide +kernel
theorem dX1_storySize_18 : decode cX1_storySize 18 = .ok (.invokevirtual 62, 3) := by decide +kernel
theorem dX1_storySize_21 : decode cX1_storySize 21 = .ok (.ifCond .eq 6, 3) := by decide +kernel
theorem dX1_storySize_24 : decode cX1_storySize 24 = .ok (.iinc 1 1, 3) := by decide +kernel
theorem dX1_storySize_27 : decode cX1_storySize 27 = .ok (.iinc 2 1, 3) := by decide +kernel
theorem dX1_storySize_30 : decode cX1_storySize 30 = .ok (.goto (-26), 3) := by decide +kernel
theorem dX1_storySize_33 : decode cX1_storySize 33 = .ok (.iload_n 1, 1) := by decide +kernel
theorem dX1_storySize_34 : decode cX1_storySize 34 = .ok (.ireturn, 1) := by decide +kernel
set_option maxRecDepth 20000 in
theorem ggX1_storyLine_X1_at : GoodIn wsX1_storyLine wsX1_at := goodIn_r _ [6, 7, 8, 9, 10, 5, 11, 1, 18, 19, 20, 21, 22, 23, 24, 25, 26] (by decide +kernel) (by decide +kernel)
set_option maxRecDepth 20000 in
theorem gX1_storyLine_X1_at : GoodIn wsX1_storyLine (wsV RX1 58 RX1 yX1_at wsX1_at) := goodIn_app (goodIn_of _ (by decide +kernel)) ggX1_storyLine_X1_at
set_option maxRecDepth 20000 in
theorem ggX1_storyLine_X1_isInStory : GoodIn wsX1_storyLine wsX1_isInStory := goodIn_r _ [15, 16, 17, 8, 9, 10, 5, 11, 1, 18, 19, 20, 21, 22, 23, 24, 25, 26] (by decide +kernel) (by decide +kernel)
set_option maxRecDepth 20000 in
theorem gX1_storyLine_X1_isInStory : GoodIn wsX1_storyLine (wsV RX1 62 RX1 yX1_isInStory wsX1_isInStory) := goodIn_app (goodIn_of _ (by decide +kernel)) ggX1_storyLine_X1_isInStory
theorem dX1_storyLine_0 : decode cX1_storyLine 0 = .ok (.iconst 0, 1) := by decide +kernel
theorem dX1_storyLine_1 : decode cX1_storyLine 1 = .ok (.istore_n 2, 1) := by decide +kernel
theorem dX1_storyLine_2 : decode cX1_storyLine 2 = .ok (.iconst 0, 1) := by decide +kernel
theorem dX1_storyLine_3 : decode cX1_storyLine 3 = .ok (.istore_n 3, 1) := by decide +kernel
theorem dX1_storyLine_4 : decode cX1_storyLine 4 = .ok (.iload_n 3, 1) := by decide +kernel
theorem dX1_storyLine_5 : decode cX1_storyLine 5 = .ok (.aload_n 0, 1) := by decide +kernel
theorem dX1_storyLine_6 : decode cX1_storyLine 6 = .ok (.getfield 38, 3) := by decide +kernel
theorem dX1_storyLine_9 : decode cX1_storyLine 9 = .ok (.if_icmp .ge 36, 3) := by decide +kernel
theorem dX1_storyLine_12 : decode cX1_storyLine 12 = .ok (.aload_n 0, 1) := by decide +kernel
theorem dX1_storyLine_13 : decode cX1_storyLine 13 = .ok (.iload_n 3, 1) := by decide +kernel
theorem dX1_storyLine_14 : decode cX1_storyLine 14 = .ok (.invokevirtual 58, 3) := by decide +kernel
theorem dX1_storyLine_17 : decode cX1_storyLine 17 = .ok (.istore 4, 2) := by decide +kernel
theorem dX1_storyLine_19 : decode cX1_storyLine 19 = .ok (.aload_n 0, 1) := by decide +kernel
theorem dX1_storyLine_20 : decode cX1_storyLine 20 = .ok (.iload 4, 2) := by decide +kernel
theorem dX1_storyLine_22 : decode cX1_storyLine 22 = .ok (.invokevirtual 62, 3) := by decide +kernel
theorem dX1_storyLine_25 : decode cX1_storyLine 25 = .ok (.ifCond .eq 14, 3) := by decide +kernel
theorem dX1_storyLine_28 : decode cX1_storyLine 28 = .ok (.iload_n 2, 1) := by decide +kernel
theorem dX1_storyLine_29 : decode cX1_storyLine 29 = .ok (.iload_n 1, 1) := by decide +kernel
theorem dX1_storyLine_30 : decode cX1_storyLine 30 = .ok (.if_icmp .ne 6, 3) := by decide +kernel
theorem dX1_storyLine_33 : decode cX1_storyLine 33 = .ok (.iload 4, 2) := by decide +kernel
theorem dX1_storyLine_35 : decode cX1_storyLine 35 = .ok (.ireturn, 1) := by decide +kernel
theorem dX1_storyLine_36 : decode cX1_storyLine 36 = .ok (.iinc 2 1, 3) := by decide +kernel
theorem dX1_storyLine_39 : decode cX1_storyLine 39 = .ok (.iinc 3 1, 3) := by decide +kernel
theorem dX1_storyLine_42 : decode cX1_storyLine 42 = .ok (.goto (-38), 3) := by decide +kernel
theorem dX1_storyLine_45 : decode cX1_storyLine 45 = .ok (.iconst (-1), 1) := by decide +kernel
theorem dX1_storyLine_46 : decode cX1_storyLine 46 = .ok (.ireturn, 1) := by decide +kernel
set_option maxRecDepth 20000 in
theorem ggX1_isInStory_X1_holds : GoodIn wsX1_isInStory wsX1_holds := goodIn_r _ [7, 8, 9, 10, 11, 12, 13, 14, 15, 16, 17] (by decide +kernel) (by decide +kernel)
set_option maxRecDepth 20000 in
theorem gX1_isInStory_X1_holds : GoodIn wsX1_isInStory (wsV RX1 42 RX1 yX1_holds wsX1_holds) := goodIn_app (goodIn_of _ (by decide +kernel)) ggX1_isInStory_X1_holds
theorem dX1_isInStory_0 : decode cX1_isInStory 0 = .ok (.aload_n 0, 1) := by decide +kernel
theorem dX1_isInStory_1 : decode cX1_isInStory 1 = .ok (.iload_n 1, 1) := by decide +kernel
theorem dX1_isInStory_2 : decode cX1_isInStory 2 = .ok (.invokevirtual 42, 3) := by decide +kernel
theorem dX1_isInStory_5 : decode cX1_isInStory 5 = .ok (.ifCond .eq 25, 3) := by decide +kernel
theorem dX1_isInStory_8 : decode cX1_isInStory 8 = .ok (.aload_n 0, 1) := by decide +kernel
theorem dX1_isInStory_9 : decode cX1_isInStory 9 = .ok (.getfield 21, 3) := by decide +kernel
theorem dX1_isInStory_12 : decode cX1_isInStory 12 = .ok (.iload_n 1, 1) := by decide +kernel
theorem dX1_isInStory_13 : decode cX1_isInStory 13 = .ok (.baload, 1) := by decide +kernel
theorem dX1_isInStory_14 : decode cX1_isInStory 14 = .ok (.ifCond .eq 16, 3) := by decide +kernel
theorem dX1_isInStory_17 : decode cX1_isInStory 17 = .ok (.aload_n 0, 1) := by decide +kernel
theorem dX1_isInStory_18 : decode cX1_isInStory 18 = .ok (.getfield 25, 3) := by decide +kernel
theorem dX1_isInStory_21 : decode cX1_isInStory 21 = .ok (.iload_n 1, 1) := by decide +kernel
theorem dX1_isInStory_22 : decode cX1_isInStory 22 = .ok (.iaload, 1) := by decide +kernel
theorem dX1_isInStory_23 : decode cX1_isInStory 23 = .ok (.ifCond .lt 7, 3) := by decide +kernel
theorem dX1_isInStory_26 : decode cX1_isInStory 26 = .ok (.iconst 1, 1) := by decide +kernel
theorem dX1_isInStory_27 : decode cX1_isInStory 27 = .ok (.goto 4, 3) := by decide +kernel
theorem dX1_isInStory_30 : decode cX1_isInStory 30 = .ok (.iconst 0, 1) := by decide +kernel
theorem dX1_isInStory_31 : decode cX1_isInStory 31 = .ok (.ireturn, 1) := by decide +kernel
set_option maxRecDepth 20000 in
theorem ggX1_arrange_X1_allBefore : GoodIn wsX1_arrange wsX1_allBefore := goodIn_r _ [8, 1, 9, 10, 11, 7, 12, 13, 14, 15, 16, 17, 18, 19, 20, 21, 22, 23, 24, 25, 26, 27, 28, 29, 30, 31, 32, 33, 34, 42, 43, 44, 45, 46, 47, 48, 49, 50, 51] (by decide +kernel) (by decide +kernel)
set_option maxRecDepth 20000 in
theorem gX1_arrange_X1_allBefore : GoodIn wsX1_arrange (wsV RX1 65 RX1 yX1_allBefore wsX1_allBefore) := goodIn_app (goodIn_of _ (by decide +kernel)) ggX1_arrange_X1_allBefore
set_option maxRecDepth 20000 in
theorem ggX1_arrange_X4_bit : GoodIn wsX1_arrange wsX4_bit := goodIn_r _ [34] (by decide +kernel) (by decide +kernel)
set_option maxRecDepth 20000 in
theorem gX1_arrange_X4_bit_n69 : GoodIn wsX1_arrange (wsX4_bit) := ggX1_arrange_X4_bit
set_option maxRecDepth 20000 in
theorem ggX1_arrange_X1_nextLine : GoodIn wsX1_arrange wsX1_nextLine := goodIn_r _ [38, 1, 2, 39, 28, 40, 41, 33, 34, 42, 43, 44, 45, 46, 47, 48, 49, 50] (by decide +kernel) (by decide +kernel)
set_option maxRecDepth 20000 in
theorem gX1_arrange_X1_nextLine : GoodIn wsX1_arrange (wsV RX1 72 RX1 yX1_nextLine wsX1_nextLine) := goodIn_app (goodIn_of _ (by decide +kernel)) ggX1_arrange_X1_nextLine
theorem dX1_arrange_0 : decode cX1_arrange 0 = .ok (.iconst 0, 1) := by decide +kernel
theorem dX1_arrange_1 : decode cX1_arrange 1 = .ok (.istore_n 2, 1) := by decide +kernel
theorem dX1_arrange_2 : decode cX1_arrange 2 = .ok (.iload_n 2, 1) := by decide +kernel
theorem dX1_arrange_3 : decode cX1_arrange 3 = .ok (.aload_n 0, 1) := by decide +kernel
theorem dX1_arrange_4 : decode cX1_arrange 4 = .ok (.getfield 38, 3) := by decide +kernel
theorem dX1_arrange_7 : decode cX1_arrange 7 = .ok (.if_icmp .ge 27, 3) := by decide +kernel
theorem dX1_arrange_10 : decode cX1_arrange 10 = .ok (.iload_n 2, 1) := by decide +kernel
theorem dX1_arrange_11 : decode cX1_arrange 11 = .ok (.bipush 30, 2) := by decide +kernel
theorem dX1_arrange_13 : decode cX1_arrange 13 = .ok (.if_icmp .ge 21, 3) := by decide +kernel
theorem dX1_arrange_16 : decode cX1_arrange 16 = .ok (.aload_n 0, 1) := by decide +kernel
theorem dX1_arrange_17 : decode cX1_arrange 17 = .ok (.getfield 28, 3) := by decide +kernel
theorem dX1_arrange_20 : decode cX1_arrange 20 = .ok (.iload_n 2, 1) := by decide +kernel
theorem dX1_arrange_21 : decode cX1_arrange 21 = .ok (.aload_n 0, 1) := by decide +kernel
theorem dX1_arrange_22 : decode cX1_arrange 22 = .ok (.iload_n 2, 1) := by decide +kernel
theorem dX1_arrange_23 : decode cX1_arrange 23 = .ok (.aload_n 1, 1) := by decide +kernel
theorem dX1_arrange_24 : decode cX1_arrange 24 = .ok (.invokevirtual 65, 3) := by decide +kernel
theorem dX1_arrange_27 : decode cX1_arrange 27 = .ok (.iastore, 1) := by decide +kernel
theorem dX1_arrange_28 : decode cX1_arrange 28 = .ok (.iinc 2 1, 3) := by decide +kernel
theorem dX1_arrange_31 : decode cX1_arrange 31 = .ok (.goto (-29), 3) := by decide +kernel
theorem dX1_arrange_34 : decode cX1_arrange 34 = .ok (.aload_n 0, 1) := by decide +kernel
theorem dX1_arrange_35 : decode cX1_arrange 35 = .ok (.getfield 38, 3) := by decide +kernel
theorem dX1_arrange_38 : decode cX1_arrange 38 = .ok (.invokestatic 69, 3) := by decide +kernel
theorem dX1_arrange_41 : decode cX1_arrange 41 = .ok (.iconst 1, 1) := by decide +kernel
theorem dX1_arrange_42 : decode cX1_arrange 42 = .ok (.isub, 1) := by decide +kernel
theorem dX1_arrange_43 : decode cX1_arrange 43 = .ok (.istore_n 2, 1) := by decide +kernel
theorem dX1_arrange_44 : decode cX1_arrange 44 = .ok (.iconst 0, 1) := by decide +kernel
theorem dX1_arrange_45 : decode cX1_arrange 45 = .ok (.istore_n 3, 1) := by decide +kernel
theorem dX1_arrange_46 : decode cX1_arrange 46 = .ok (.iload_n 3, 1) := by decide +kernel
theorem dX1_arrange_47 : decode cX1_arrange 47 = .ok (.aload_n 0, 1) := by decide +kernel
theorem dX1_arrange_48 : decode cX1_arrange 48 = .ok (.getfield 38, 3) := by decide +kernel
theorem dX1_arrange_51 : decode cX1_arrange 51 = .ok (.if_icmp .ge 40, 3) := by decide +kernel
theorem dX1_arrange_54 : decode cX1_arrange 54 = .ok (.iload_n 3, 1) := by decide +kernel
theorem dX1_arrange_55 : decode cX1_arrange 55 = .ok (.bipush 30, 2) := by decide +kernel
theorem dX1_arrange_57 : decode cX1_arrange 57 = .ok (.if_icmp .ge 34, 3) := by decide +kernel
theorem dX1_arrange_60 : decode cX1_arrange 60 = .ok (.aload_n 0, 1) := by decide +kernel
theorem dX1_arrange_61 : decode cX1_arrange 61 = .ok (.getfield 31, 3) := by decide +kernel
theorem dX1_arrange_64 : decode cX1_arrange 64 = .ok (.iload_n 3, 1) := by decide +kernel
theorem dX1_arrange_65 : decode cX1_arrange 65 = .ok (.aload_n 0, 1) := by decide +kernel
theorem dX1_arrange_66 : decode cX1_arrange 66 = .ok (.iload_n 2, 1) := by decide +kernel
theorem dX1_arrange_67 : decode cX1_arrange 67 = .ok (.invokevirtual 72, 3) := by decide +kernel
theorem dX1_arrange_70 : decode cX1_arrange 70 = .ok (.iastore, 1) := by decide +kernel
theorem dX1_arrange_71 : decode cX1_arrange 71 = .ok (.iload_n 2, 1) := by decide +kernel
theorem dX1_arrange_72 : decode cX1_arrange 72 = .ok (.aload_n 0, 1) := by decide +kernel
theorem dX1_arrange_73 : decode cX1_arrange 73 = .ok (.getfield 31, 3) := by decide +kernel
theorem dX1_arrange_76 : decode cX1_arrange 76 = .ok (.iload_n 3, 1) := by decide +kernel
theorem dX1_arrange_77 : decode cX1_arrange 77 = .ok (.iaload, 1) := by decide +kernel
theorem dX1_arrange_78 : decode cX1_arrange 78 = .ok (.invokestatic 69, 3) := by decide +kernel
theorem dX1_arrange_81 : decode cX1_arrange 81 = .ok (.iconst (-1), 1) := by decide +kernel
theorem dX1_arrange_82 : decode cX1_arrange 82 = .ok (.ixor, 1) := by decide +kernel
theorem dX1_arrange_83 : decode cX1_arrange 83 = .ok (.iand, 1) := by decide +kernel
theorem dX1_arrange_84 : decode cX1_arrange 84 = .ok (.istore_n 2, 1) := by decide +kernel
theorem dX1_arrange_85 : decode cX1_arrange 85 = .ok (.iinc 3 1, 3) := by decide +kernel
theorem dX1_arrange_88 : decode cX1_arrange 88 = .ok (.goto (-42), 3) := by decide +kernel
theorem dX1_arrange_91 : decode cX1_arrange 91 = .ok (.return_, 1) := by decide +kernel
set_option maxRecDepth 20000 in
theorem ggX1_allBefore_X1_isSurelyEarlier : GoodIn wsX1_allBefore wsX1_isSurelyEarlier := goodIn_r _ [6, 7, 8, 9, 10, 11, 12, 5, 13, 1, 14, 15, 16, 17, 18, 19, 20, 21, 22, 23, 24, 25, 26, 29, 30, 31, 32, 33, 34, 35, 36, 37, 38] (by decide +kernel) (by decide +kernel)
set_option maxRecDepth 20000 in
theorem gX1_allBefore_X1_isSurelyEarlier : GoodIn wsX1_allBefore (wsV RX1 75 RX1 yX1_isSurelyEarlier wsX1_isSurelyEarlier) := goodIn_app (goodIn_of _ (by decide +kernel)) ggX1_allBefore_X1_isSurelyEarlier
set_option maxRecDepth 20000 in
theorem ggX1_allBefore_X4_bit : GoodIn wsX1_allBefore wsX4_bit := goodIn_r _ [28] (by decide +kernel) (by decide +kernel)
set_option maxRecDepth 20000 in
theorem gX1_allBefore_X4_bit_n69 : GoodIn wsX1_allBefore (wsX4_bit) := ggX1_allBefore_X4_bit
theorem dX1_allBefore_0 : decode cX1_allBefore 0 = .ok (.iconst 0, 1) := by decide +kernel
theorem dX1_allBefore_1 : decode cX1_allBefore 1 = .ok (.istore_n 3, 1) := by decide +kernel
theorem dX1_allBefore_2 : decode cX1_allBefore 2 = .ok (.iconst 0, 1) := by decide +kernel
theorem dX1_allBefore_3 : decode cX1_allBefore 3 = .ok (.istore 4, 2) := by decide +kernel
theorem dX1_allBefore_5 : decode cX1_allBefore 5 = .ok (.iload 4, 2) := by decide +kernel
theorem dX1_allBefore_7 : decode cX1_allBefore 7 = .ok (.aload_n 0, 1) := by decide +kernel
theorem dX1_allBefore_8 : decode cX1_allBefore 8 = .ok (.getfield 38, 3) := by decide +kernel
theorem dX1_allBefore_11 : decode cX1_allBefore 11 = .ok (.if_icmp .ge 28, 3) := by decide +kernel
theorem dX1_allBefore_14 : decode cX1_allBefore 14 = .ok (.aload_n 0, 1) := by decide +kernel
theorem dX1_allBefore_15 : decode cX1_allBefore 15 = .ok (.iload 4, 2) := by decide +kernel
theorem dX1_allBefore_17 : decode cX1_allBefore 17 = .ok (.iload_n 1, 1) := by decide +kernel
theorem dX1_allBefore_18 : decode cX1_allBefore 18 = .ok (.aload_n 2, 1) := by decide +kernel
theorem dX1_allBefore_19 : decode cX1_allBefore 19 = .ok (.invokevirtual 75, 3) := by decide +kernel
theorem dX1_allBefore_22 : decode cX1_allBefore 22 = .ok (.ifCond .eq 11, 3) := by decide +kernel
theorem dX1_allBefore_25 : decode cX1_allBefore 25 = .ok (.iload_n 3, 1) := by decide +kernel
theorem dX1_allBefore_26 : decode cX1_allBefore 26 = .ok (.iload 4, 2) := by decide +kernel
theorem dX1_allBefore_28 : decode cX1_allBefore 28 = .ok (.invokestatic 69, 3) := by decide +kernel
theorem dX1_allBefore_31 : decode cX1_allBefore 31 = .ok (.ior, 1) := by decide +kernel
theorem dX1_allBefore_32 : decode cX1_allBefore 32 = .ok (.istore_n 3, 1) := by decide +kernel
theorem dX1_allBefore_33 : decode cX1_allBefore 33 = .ok (.iinc 4 1, 3) := by decide +kernel
theorem dX1_allBefore_36 : decode cX1_allBefore 36 = .ok (.goto (-31), 3) := by decide +kernel
theorem dX1_allBefore_39 : decode cX1_allBefore 39 = .ok (.iload_n 3, 1) := by decide +kernel
theorem dX1_allBefore_40 : decode cX1_allBefore 40 = .ok (.ireturn, 1) := by decide +kernel
set_option maxRecDepth 20000 in
theorem ggX1_isSurelyEarlier_X1_holds : GoodIn wsX1_isSurelyEarlier wsX1_holds := goodIn_r _ [8, 9, 23, 24, 25, 26, 27, 28, 29, 30, 31] (by decide +kernel) (by decide +kernel)
set_option maxRecDepth 20000 in
theorem gX1_isSurelyEarlier_X1_holds : GoodIn wsX1_isSurelyEarlier (wsV RX1 42 RX1 yX1_holds wsX1_holds) := goodIn_app (goodIn_of _ (by decide +kernel)) ggX1_isSurelyEarlier_X1_holds
set_option maxRecDepth 20000 in
theorem ggX1_isSurelyEarlier_X3_most : GoodIn wsX1_isSurelyEarlier wsX3_most := goodIn_r _ [14, 15, 16, 17, 18, 19, 20, 21, 22, 32] (by decide +kernel) (by decide +kernel)
set_option maxRecDepth 20000 in
theorem gX1_isSurelyEarlier_X3_most : GoodIn wsX1_isSurelyEarlier (wsV RX1 51 RX3 yX3_most wsX3_most) := goodIn_app (goodIn_of _ (by decide +kernel)) ggX1_isSurelyEarlier_X3_most
theorem dX1_isSurelyEarlier_0 : decode cX1_isSurelyEarlier 0 = .ok (.aload_n 0, 1) := by decide +kernel
theorem dX1_isSurelyEarlier_1 : decode cX1_isSurelyEarlier 1 = .ok (.iload_n 1, 1) := by decide +kernel
theorem dX1_isSurelyEarlier_2 : decode cX1_isSurelyEarlier 2 = .ok (.invokevirtual 42, 3) := by decide +kernel
theorem dX1_isSurelyEarlier_5 : decode cX1_isSurelyEarlier 5 = .ok (.ifCond .eq 11, 3) := by decide +kernel
theorem dX1_isSurelyEarlier_8 : decode cX1_isSurelyEarlier 8 = .ok (.aload_n 0, 1) := by decide +kernel
theorem dX1_isSurelyEarlier_9 : decode cX1_isSurelyEarlier 9 = .ok (.iload_n 2, 1) := by decide +kernel
theorem dX1_isSurelyEarlier_10 : decode cX1_isSurelyEarlier 10 = .ok (.invokevirtual 42, 3) := by decide +kernel
theorem dX1_isSurelyEarlier_13 : decode cX1_isSurelyEarlier 13 = .ok (.ifCond .ne 5, 3) := by decide +kernel
theorem dX1_isSurelyEarlier_16 : decode cX1_isSurelyEarlier 16 = .ok (.iconst 0, 1) := by decide +kernel
theorem dX1_isSurelyEarlier_17 : decode cX1_isSurelyEarlier 17 = .ok (.ireturn, 1) := by decide +kernel
theorem dX1_isSurelyEarlier_18 : decode cX1_isSurelyEarlier 18 = .ok (.aload_n 3, 1) := by decide +kernel
theorem dX1_isSurelyEarlier_19 : decode cX1_isSurelyEarlier 19 = .ok (.aload_n 0, 1) := by decide +kernel
theorem dX1_isSurelyEarlier_20 : decode cX1_isSurelyEarlier 20 = .ok (.getfield 9, 3) := by decide +kernel
theorem dX1_isSurelyEarlier_23 : decode cX1_isSurelyEarlier 23 = .ok (.iload_n 1, 1) := by decide +kernel
theorem dX1_isSurelyEarlier_24 : decode cX1_isSurelyEarlier 24 = .ok (.iaload, 1) := by decide +kernel
theorem dX1_isSurelyEarlier_25 : decode cX1_isSurelyEarlier 25 = .ok (.aload_n 0, 1) := by decide +kernel
theorem dX1_isSurelyEarlier_26 : decode cX1_isSurelyEarlier 26 = .ok (.getfield 9, 3) := by decide +kernel
theorem dX1_isSurelyEarlier_29 : decode cX1_isSurelyEarlier 29 = .ok (.iload_n 2, 1) := by decide +kernel
theorem dX1_isSurelyEarlier_30 : decode cX1_isSurelyEarlier 30 = .ok (.iaload, 1) := by decide +kernel
theorem dX1_isSurelyEarlier_31 : decode cX1_isSurelyEarlier 31 = .ok (.invokevirtual 51, 3) := by decide +kernel
theorem dX1_isSurelyEarlier_34 : decode cX1_isSurelyEarlier 34 = .ok (.istore 4, 2) := by decide +kernel
theorem dX1_isSurelyEarlier_36 : decode cX1_isSurelyEarlier 36 = .ok (.iload 4, 2) := by decide +kernel
theorem dX1_isSurelyEarlier_38 : decode cX1_isSurelyEarlier 38 = .ok (.ldc 57, 2) := by decide +kernel
theorem dX1_isSurelyEarlier_40 : decode cX1_isSurelyEarlier 40 = .ok (.if_icmp .ge 25, 3) := by decide +kernel
theorem dX1_isSurelyEarlier_43 : decode cX1_isSurelyEarlier 43 = .ok (.aload_n 0, 1) := by decide +kernel
theorem dX1_isSurelyEarlier_44 : decode cX1_isSurelyEarlier 44 = .ok (.getfield 15, 3) := by decide +kernel
theorem dX1_isSurelyEarlier_47 : decode cX1_isSurelyEarlier 47 = .ok (.iload_n 1, 1) := by decide +kernel
theorem dX1_isSurelyEarlier_48 : decode cX1_isSurelyEarlier 48 = .ok (.iaload, 1) := by decide +kernel
theorem dX1_isSurelyEarlier_49 : decode cX1_isSurelyEarlier 49 = .ok (.iload 4, 2) := by decide +kernel
theorem dX1_isSurelyEarlier_51 : decode cX1_isSurelyEarlier 51 = .ok (.iadd, 1) := by decide +kernel
theorem dX1_isSurelyEarlier_52 : decode cX1_isSurelyEarlier 52 = .ok (.aload_n 0, 1) := by decide +kernel
theorem dX1_isSurelyEarlier_53 : decode cX1_isSurelyEarlier 53 = .ok (.getfield 15, 3) := by decide +kernel
theorem dX1_isSurelyEarlier_56 : decode cX1_isSurelyEarlier 56 = .ok (.iload_n 2, 1) := by decide +kernel
theorem dX1_isSurelyEarlier_57 : decode cX1_isSurelyEarlier 57 = .ok (.iaload, 1) := by decide +kernel
theorem dX1_isSurelyEarlier_58 : decode cX1_isSurelyEarlier 58 = .ok (.if_icmp .ge 7, 3) := by decide +kernel
theorem dX1_isSurelyEarlier_61 : decode cX1_isSurelyEarlier 61 = .ok (.iconst 1, 1) := by decide +kernel
theorem dX1_isSurelyEarlier_62 : decode cX1_isSurelyEarlier 62 = .ok (.goto 4, 3) := by decide +kernel
theorem dX1_isSurelyEarlier_65 : decode cX1_isSurelyEarlier 65 = .ok (.iconst 0, 1) := by decide +kernel
theorem dX1_isSurelyEarlier_66 : decode cX1_isSurelyEarlier 66 = .ok (.ireturn, 1) := by decide +kernel
set_option maxRecDepth 20000 in
theorem ggX1_nextLine_X4_hasBit : GoodIn wsX1_nextLine wsX4_hasBit := goodIn_r _ [5, 6, 7, 4, 8] (by decide +kernel) (by decide +kernel)
set_option maxRecDepth 20000 in
theorem gX1_nextLine_X4_hasBit_n46 : GoodIn wsX1_nextLine (wsX4_hasBit) := ggX1_nextLine_X4_hasBit
theorem dX1_nextLine_0 : decode cX1_nextLine 0 = .ok (.iconst 0, 1) := by decide +kernel
theorem dX1_nextLine_1 : decode cX1_nextLine 1 = .ok (.istore_n 2, 1) := by decide +kernel
theorem dX1_nextLine_2 : decode cX1_nextLine 2 = .ok (.iload_n 2, 1) := by decide +kernel
theorem dX1_nextLine_3 : decode cX1_nextLine 3 = .ok (.aload_n 0, 1) := by decide +kernel
theorem dX1_nextLine_4 : decode cX1_nextLine 4 = .ok (.getfield 38, 3) := by decide +kernel
theorem dX1_nextLine_7 : decode cX1_nextLine 7 = .ok (.if_icmp .ge 36, 3) := by decide +kernel
theorem dX1_nextLine_10 : decode cX1_nextLine 10 = .ok (.iload_n 2, 1) := by decide +kernel
theorem dX1_nextLine_11 : decode cX1_nextLine 11 = .ok (.bipush 30, 2) := by decide +kernel
theorem dX1_nextLine_13 : decode cX1_nextLine 13 = .ok (.if_icmp .ge 30, 3) := by decide +kernel
theorem dX1_nextLine_16 : decode cX1_nextLine 16 = .ok (.iload_n 1, 1) := by decide +kernel
theorem dX1_nextLine_17 : decode cX1_nextLine 17 = .ok (.iload_n 2, 1) := by decide +kernel
theorem dX1_nextLine_18 : decode cX1_nextLine 18 = .ok (.invokestatic 46, 3) := by decide +kernel
theorem dX1_nextLine_21 : decode cX1_nextLine 21 = .ok (.ifCond .eq 16, 3) := by decide +kernel
theorem dX1_nextLine_24 : decode cX1_nextLine 24 = .ok (.aload_n 0, 1) := by decide +kernel
theorem dX1_nextLine_25 : decode cX1_nextLine 25 = .ok (.getfield 28, 3) := by decide +kernel
theorem dX1_nextLine_28 : decode cX1_nextLine 28 = .ok (.iload_n 2, 1) := by decide +kernel
theorem dX1_nextLine_29 : decode cX1_nextLine 29 = .ok (.iaload, 1) := by decide +kernel
theorem dX1_nextLine_30 : decode cX1_nextLine 30 = .ok (.iload_n 1, 1) := by decide +kernel
theorem dX1_nextLine_31 : decode cX1_nextLine 31 = .ok (.iand, 1) := by decide +kernel
theorem dX1_nextLine_32 : decode cX1_nextLine 32 = .ok (.ifCond .ne 5, 3) := by decide +kernel
theorem dX1_nextLine_35 : decode cX1_nextLine 35 = .ok (.iload_n 2, 1) := by decide +kernel
theorem dX1_nextLine_36 : decode cX1_nextLine 36 = .ok (.ireturn, 1) := by decide +kernel
theorem dX1_nextLine_37 : decode cX1_nextLine 37 = .ok (.iinc 2 1, 3) := by decide +kernel
theorem dX1_nextLine_40 : decode cX1_nextLine 40 = .ok (.goto (-38), 3) := by decide +kernel
theorem dX1_nextLine_43 : decode cX1_nextLine 43 = .ok (.iconst (-1), 1) := by decide +kernel
theorem dX1_nextLine_44 : decode cX1_nextLine 44 = .ok (.ireturn, 1) := by decide +kernel
set_option maxRecDepth 20000 in
theorem ggX1_countOrders_X4_bit : GoodIn wsX1_countOrders wsX4_bit := goodIn_r _ [5] (by decide +kernel) (by decide +kernel)
set_option maxRecDepth 20000 in
theorem gX1_countOrders_X4_bit_n69 : GoodIn wsX1_countOrders (wsX4_bit) := ggX1_countOrders_X4_bit
set_option maxRecDepth 20000 in
theorem ggX1_countOrders_X1_countBeginnings : GoodIn wsX1_countOrders wsX1_countBeginnings := goodIn_r _ [10, 1, 11, 2, 3, 4, 5, 12, 13, 14, 15, 16, 17, 18, 19, 20] (by decide +kernel) (by decide +kernel)
set_option maxRecDepth 20000 in
theorem gX1_countOrders_X1_countBeginnings : GoodIn wsX1_countOrders (wsV RX1 79 RX1 yX1_countBeginnings wsX1_countBeginnings) := goodIn_app (goodIn_of _ (by decide +kernel)) ggX1_countOrders_X1_countBeginnings
theorem dX1_countOrders_0 : decode cX1_countOrders 0 = .ok (.aload_n 0, 1) := by decide +kernel
theorem dX1_countOrders_1 : decode cX1_countOrders 1 = .ok (.getfield 38, 3) := by decide +kernel
theorem dX1_countOrders_4 : decode cX1_countOrders 4 = .ok (.invokestatic 69, 3) := by decide +kernel
theorem dX1_countOrders_7 : decode cX1_countOrders 7 = .ok (.iconst 1, 1) := by decide +kernel
theorem dX1_countOrders_8 : decode cX1_countOrders 8 = .ok (.isub, 1) := by decide +kernel
theorem dX1_countOrders_9 : decode cX1_countOrders 9 = .ok (.istore_n 1, 1) := by decide +kernel
theorem dX1_countOrders_10 : decode cX1_countOrders 10 = .ok (.lconst 1, 1) := by decide +kernel
theorem dX1_countOrders_11 : decode cX1_countOrders 11 = .ok (.lstore_n 2, 1) := by decide +kernel
theorem dX1_countOrders_12 : decode cX1_countOrders 12 = .ok (.aload_n 0, 1) := by decide +kernel
theorem dX1_countOrders_13 : decode cX1_countOrders 13 = .ok (.getfield 34, 3) := by decide +kernel
theorem dX1_countOrders_16 : decode cX1_countOrders 16 = .ok (.iconst 0, 1) := by decide +kernel
theorem dX1_countOrders_17 : decode cX1_countOrders 17 = .ok (.lload_n 2, 1) := by decide +kernel
theorem dX1_countOrders_18 : decode cX1_countOrders 18 = .ok (.lastore, 1) := by decide +kernel
theorem dX1_countOrders_19 : decode cX1_countOrders 19 = .ok (.iconst 1, 1) := by decide +kernel
theorem dX1_countOrders_20 : decode cX1_countOrders 20 = .ok (.istore 4, 2) := by decide +kernel
end
section
theorem dX1_countOrders_22 : decode cX1_countOrders 22 = .ok (.iload 4, 2) := by decide +kernel
theorem dX1_countOrders_24 : decode cX1_countOrders 24 = .ok (.iload_n 1, 1) := by decide +kernel
theorem dX1_countOrders_25 : decode cX1_countOrders 25 = .ok (.if_icmp .gt 34, 3) := by decide +kernel
theorem dX1_countOrders_28 : decode cX1_countOrders 28 = .ok (.iload 4, 2) := by decide +kernel
theorem dX1_countOrders_30 : decode cX1_countOrders 30 = .ok (.aload_n 0, 1) := by decide +kernel
theorem dX1_countOrders_31 : decode cX1_countOrders 31 = .ok (.getfield 34, 3) := by decide +kernel
theorem dX1_countOrders_34 : decode cX1_countOrders 34 = .ok (.arraylength, 1) := by decide +kernel
theorem dX1_countOrders_35 : decode cX1_countOrders 35 = .ok (.if_icmp .ge 24, 3) := by decide +kernel
theorem dX1_countOrders_38 : decode cX1_countOrders 38 = .ok (.aload_n 0, 1) := by decide +kernel
theorem dX1_countOrders_39 : decode cX1_countOrders 39 = .ok (.iload 4, 2) := by decide +kernel
theorem dX1_countOrders_41 : decode cX1_countOrders 41 = .ok (.invokevirtual 79, 3) := by decide +kernel
theorem dX1_countOrders_44 : decode cX1_countOrders 44 = .ok (.lstore_n 2, 1) := by decide +kernel
theorem dX1_countOrders_45 : decode cX1_countOrders 45 = .ok (.aload_n 0, 1) := by decide +kernel
theorem dX1_countOrders_46 : decode cX1_countOrders 46 = .ok (.getfield 34, 3) := by decide +kernel
theorem dX1_countOrders_49 : decode cX1_countOrders 49 = .ok (.iload 4, 2) := by decide +kernel
theorem dX1_countOrders_51 : decode cX1_countOrders 51 = .ok (.lload_n 2, 1) := by decide +kernel
theorem dX1_countOrders_52 : decode cX1_countOrders 52 = .ok (.lastore, 1) := by decide +kernel
theorem dX1_countOrders_53 : decode cX1_countOrders 53 = .ok (.iinc 4 1, 3) := by decide +kernel
theorem dX1_countOrders_56 : decode cX1_countOrders 56 = .ok (.goto (-34), 3) := by decide +kernel
theorem dX1_countOrders_59 : decode cX1_countOrders 59 = .ok (.lload_n 2, 1) := by decide +kernel
theorem dX1_countOrders_60 : decode cX1_countOrders 60 = .ok (.lreturn, 1) := by decide +kernel
set_option maxRecDepth 20000 in
theorem ggX1_countBeginnings_X4_bit : GoodIn wsX1_countBeginnings wsX4_bit := goodIn_r _ [6] (by decide +kernel) (by decide +kernel)
set_option maxRecDepth 20000 in
theorem gX1_countBeginnings_X4_bit_n69 : GoodIn wsX1_countBeginnings (wsX4_bit) := ggX1_countBeginnings_X4_bit
theorem dX1_countBeginnings_0 : decode cX1_countBeginnings 0 = .ok (.lconst 0, 1) := by decide +kernel
theorem dX1_countBeginnings_1 : decode cX1_countBeginnings 1 = .ok (.lstore_n 2, 1) := by decide +kernel
theorem dX1_countBeginnings_2 : decode cX1_countBeginnings 2 = .ok (.iconst 0, 1) := by decide +kernel
theorem dX1_countBeginnings_3 : decode cX1_countBeginnings 3 = .ok (.istore 4, 2) := by decide +kernel
theorem dX1_countBeginnings_5 : decode cX1_countBeginnings 5 = .ok (.iload 4, 2) := by decide +kernel
theorem dX1_countBeginnings_7 : decode cX1_countBeginnings 7 = .ok (.aload_n 0, 1) := by decide +kernel
theorem dX1_countBeginnings_8 : decode cX1_countBeginnings 8 = .ok (.getfield 38, 3) := by decide +kernel
theorem dX1_countBeginnings_11 : decode cX1_countBeginnings 11 = .ok (.if_icmp .ge 85, 3) := by decide +kernel
theorem dX1_countBeginnings_14 : decode cX1_countBeginnings 14 = .ok (.iload 4, 2) := by decide +kernel
theorem dX1_countBeginnings_16 : decode cX1_countBeginnings 16 = .ok (.bipush 12, 2) := by decide +kernel
theorem dX1_countBeginnings_18 : decode cX1_countBeginnings 18 = .ok (.if_icmp .ge 78, 3) := by decide +kernel
theorem dX1_countBeginnings_21 : decode cX1_countBeginnings 21 = .ok (.iload_n 1, 1) := by decide +kernel
theorem dX1_countBeginnings_22 : decode cX1_countBeginnings 22 = .ok (.iload 4, 2) := by decide +kernel
theorem dX1_countBeginnings_24 : decode cX1_countBeginnings 24 = .ok (.invokestatic 69, 3) := by decide +kernel
theorem dX1_countBeginnings_27 : decode cX1_countBeginnings 27 = .ok (.iconst (-1), 1) := by decide +kernel
theorem dX1_countBeginnings_28 : decode cX1_countBeginnings 28 = .ok (.ixor, 1) := by decide +kernel
theorem dX1_countBeginnings_29 : decode cX1_countBeginnings 29 = .ok (.iand, 1) := by decide +kernel
theorem dX1_countBeginnings_30 : decode cX1_countBeginnings 30 = .ok (.istore 5, 2) := by decide +kernel
theorem dX1_countBeginnings_32 : decode cX1_countBeginnings 32 = .ok (.iload 5, 2) := by decide +kernel
theorem dX1_countBeginnings_34 : decode cX1_countBeginnings 34 = .ok (.iload_n 1, 1) := by decide +kernel
theorem dX1_countBeginnings_35 : decode cX1_countBeginnings 35 = .ok (.if_icmp .eq 22, 3) := by decide +kernel
theorem dX1_countBeginnings_38 : decode cX1_countBeginnings 38 = .ok (.aload_n 0, 1) := by decide +kernel
theorem dX1_countBeginnings_39 : decode cX1_countBeginnings 39 = .ok (.getfield 28, 3) := by decide +kernel
theorem dX1_countBeginnings_42 : decode cX1_countBeginnings 42 = .ok (.iload 4, 2) := by decide +kernel
theorem dX1_countBeginnings_44 : decode cX1_countBeginnings 44 = .ok (.iaload, 1) := by decide +kernel
theorem dX1_countBeginnings_45 : decode cX1_countBeginnings 45 = .ok (.iload 5, 2) := by decide +kernel
theorem dX1_countBeginnings_47 : decode cX1_countBeginnings 47 = .ok (.iconst (-1), 1) := by decide +kernel
theorem dX1_countBeginnings_48 : decode cX1_countBeginnings 48 = .ok (.ixor, 1) := by decide +kernel
theorem dX1_countBeginnings_49 : decode cX1_countBeginnings 49 = .ok (.iand, 1) := by decide +kernel
theorem dX1_countBeginnings_50 : decode cX1_countBeginnings 50 = .ok (.ifCond .ne 7, 3) := by decide +kernel
theorem dX1_countBeginnings_53 : decode cX1_countBeginnings 53 = .ok (.iconst 1, 1) := by decide +kernel
theorem dX1_countBeginnings_54 : decode cX1_countBeginnings 54 = .ok (.goto 4, 3) := by decide +kernel
theorem dX1_countBeginnings_57 : decode cX1_countBeginnings 57 = .ok (.iconst 0, 1) := by decide +kernel
theorem dX1_countBeginnings_58 : decode cX1_countBeginnings 58 = .ok (.istore 6, 2) := by decide +kernel
theorem dX1_countBeginnings_60 : decode cX1_countBeginnings 60 = .ok (.iload 6, 2) := by decide +kernel
theorem dX1_countBeginnings_62 : decode cX1_countBeginnings 62 = .ok (.ifCond .eq 28, 3) := by decide +kernel
theorem dX1_countBeginnings_65 : decode cX1_countBeginnings 65 = .ok (.iload 5, 2) := by decide +kernel
theorem dX1_countBeginnings_67 : decode cX1_countBeginnings 67 = .ok (.ifCond .lt 23, 3) := by decide +kernel
theorem dX1_countBeginnings_70 : decode cX1_countBeginnings 70 = .ok (.iload 5, 2) := by decide +kernel
theorem dX1_countBeginnings_72 : decode cX1_countBeginnings 72 = .ok (.aload_n 0, 1) := by decide +kernel
theorem dX1_countBeginnings_73 : decode cX1_countBeginnings 73 = .ok (.getfield 34, 3) := by decide +kernel
theorem dX1_countBeginnings_76 : decode cX1_countBeginnings 76 = .ok (.arraylength, 1) := by decide +kernel
theorem dX1_countBeginnings_77 : decode cX1_countBeginnings 77 = .ok (.if_icmp .ge 13, 3) := by decide +kernel
theorem dX1_countBeginnings_80 : decode cX1_countBeginnings 80 = .ok (.lload_n 2, 1) := by decide +kernel
theorem dX1_countBeginnings_81 : decode cX1_countBeginnings 81 = .ok (.aload_n 0, 1) := by decide +kernel
theorem dX1_countBeginnings_82 : decode cX1_countBeginnings 82 = .ok (.getfield 34, 3) := by decide +kernel
theorem dX1_countBeginnings_85 : decode cX1_countBeginnings 85 = .ok (.iload 5, 2) := by decide +kernel
theorem dX1_countBeginnings_87 : decode cX1_countBeginnings 87 = .ok (.laload, 1) := by decide +kernel
theorem dX1_countBeginnings_88 : decode cX1_countBeginnings 88 = .ok (.ladd, 1) := by decide +kernel
theorem dX1_countBeginnings_89 : decode cX1_countBeginnings 89 = .ok (.lstore_n 2, 1) := by decide +kernel
theorem dX1_countBeginnings_90 : decode cX1_countBeginnings 90 = .ok (.iinc 4 1, 3) := by decide +kernel
theorem dX1_countBeginnings_93 : decode cX1_countBeginnings 93 = .ok (.goto (-88), 3) := by decide +kernel
theorem dX1_countBeginnings_96 : decode cX1_countBeginnings 96 = .ok (.lload_n 2, 1) := by decide +kernel
theorem dX1_countBeginnings_97 : decode cX1_countBeginnings 97 = .ok (.lreturn, 1) := by decide +kernel
theorem dX2_init_0 : decode cX2_init 0 = .ok (.aload_n 0, 1) := by decide +kernel
theorem dX2_init_1 : decode cX2_init 1 = .ok (.invokespecial 3, 3) := by decide +kernel
theorem dX2_init_4 : decode cX2_init 4 = .ok (.aload_n 0, 1) := by decide +kernel
theorem dX2_init_5 : decode cX2_init 5 = .ok (.bipush 40, 2) := by decide +kernel
theorem dX2_init_7 : decode cX2_init 7 = .ok (.newarray .int, 2) := by decide +kernel
theorem dX2_init_9 : decode cX2_init 9 = .ok (.putfield 9, 3) := by decide +kernel
theorem dX2_init_12 : decode cX2_init 12 = .ok (.aload_n 0, 1) := by decide +kernel
theorem dX2_init_13 : decode cX2_init 13 = .ok (.bipush 40, 2) := by decide +kernel
theorem dX2_init_15 : decode cX2_init 15 = .ok (.newarray .int, 2) := by decide +kernel
theorem dX2_init_17 : decode cX2_init 17 = .ok (.putfield 15, 3) := by decide +kernel
theorem dX2_init_20 : decode cX2_init 20 = .ok (.aload_n 0, 1) := by decide +kernel
theorem dX2_init_21 : decode cX2_init 21 = .ok (.bipush 40, 2) := by decide +kernel
theorem dX2_init_23 : decode cX2_init 23 = .ok (.newarray .int, 2) := by decide +kernel
theorem dX2_init_25 : decode cX2_init 25 = .ok (.putfield 18, 3) := by decide +kernel
theorem dX2_init_28 : decode cX2_init 28 = .ok (.aload_n 0, 1) := by decide +kernel
theorem dX2_init_29 : decode cX2_init 29 = .ok (.bipush 40, 2) := by decide +kernel
theorem dX2_init_31 : decode cX2_init 31 = .ok (.newarray .int, 2) := by decide +kernel
theorem dX2_init_33 : decode cX2_init 33 = .ok (.putfield 21, 3) := by decide +kernel
theorem dX2_init_36 : decode cX2_init 36 = .ok (.aload_n 0, 1) := by decide +kernel
theorem dX2_init_37 : decode cX2_init 37 = .ok (.iconst 0, 1) := by decide +kernel
theorem dX2_init_38 : decode cX2_init 38 = .ok (.putfield 24, 3) := by decide +kernel
theorem dX2_init_41 : decode cX2_init 41 = .ok (.return_, 1) := by decide +kernel
theorem dX2_size_0 : decode cX2_size 0 = .ok (.aload_n 0, 1) := by decide +kernel
theorem dX2_size_1 : decode cX2_size 1 = .ok (.getfield 24, 3) := by decide +kernel
theorem dX2_size_4 : decode cX2_size 4 = .ok (.ireturn, 1) := by decide +kernel
theorem dX2_add_0 : decode cX2_add 0 = .ok (.aload_n 0, 1) := by decide +kernel
theorem dX2_add_1 : decode cX2_add 1 = .ok (.getfield 24, 3) := by decide +kernel
theorem dX2_add_4 : decode cX2_add 4 = .ok (.istore 5, 2) := by decide +kernel
theorem dX2_add_6 : decode cX2_add 6 = .ok (.iload 5, 2) := by decide +kernel
theorem dX2_add_8 : decode cX2_add 8 = .ok (.bipush 40, 2) := by decide +kernel
theorem dX2_add_10 : decode cX2_add 10 = .ok (.if_icmp .lt 5, 3) := by decide +kernel
theorem dX2_add_13 : decode cX2_add 13 = .ok (.iconst (-1), 1) := by decide +kernel
theorem dX2_add_14 : decode cX2_add 14 = .ok (.ireturn, 1) := by decide +kernel
theorem dX2_add_15 : decode cX2_add 15 = .ok (.aload_n 0, 1) := by decide +kernel
theorem dX2_add_16 : decode cX2_add 16 = .ok (.getfield 9, 3) := by decide +kernel
theorem dX2_add_19 : decode cX2_add 19 = .ok (.iload 5, 2) := by decide +kernel
theorem dX2_add_21 : decode cX2_add 21 = .ok (.iload_n 1, 1) := by decide +kernel
theorem dX2_add_22 : decode cX2_add 22 = .ok (.iastore, 1) := by decide +kernel
theorem dX2_add_23 : decode cX2_add 23 = .ok (.aload_n 0, 1) := by decide +kernel
theorem dX2_add_24 : decode cX2_add 24 = .ok (.getfield 15, 3) := by decide +kernel
theorem dX2_add_27 : decode cX2_add 27 = .ok (.iload 5, 2) := by decide +kernel
theorem dX2_add_29 : decode cX2_add 29 = .ok (.iload_n 2, 1) := by decide +kernel
theorem dX2_add_30 : decode cX2_add 30 = .ok (.iastore, 1) := by decide +kernel
theorem dX2_add_31 : decode cX2_add 31 = .ok (.aload_n 0, 1) := by decide +kernel
theorem dX2_add_32 : decode cX2_add 32 = .ok (.getfield 18, 3) := by decide +kernel
theorem dX2_add_35 : decode cX2_add 35 = .ok (.iload 5, 2) := by decide +kernel
theorem dX2_add_37 : decode cX2_add 37 = .ok (.iload_n 3, 1) := by decide +kernel
theorem dX2_add_38 : decode cX2_add 38 = .ok (.iastore, 1) := by decide +kernel
theorem dX2_add_39 : decode cX2_add 39 = .ok (.aload_n 0, 1) := by decide +kernel
theorem dX2_add_40 : decode cX2_add 40 = .ok (.getfield 21, 3) := by decide +kernel
theorem dX2_add_43 : decode cX2_add 43 = .ok (.iload 5, 2) := by decide +kernel
theorem dX2_add_45 : decode cX2_add 45 = .ok (.iload 4, 2) := by decide +kernel
theorem dX2_add_47 : decode cX2_add 47 = .ok (.iastore, 1) := by decide +kernel
theorem dX2_add_48 : decode cX2_add 48 = .ok (.aload_n 0, 1) := by decide +kernel
theorem dX2_add_49 : decode cX2_add 49 = .ok (.iload 5, 2) := by decide +kernel
theorem dX2_add_51 : decode cX2_add 51 = .ok (.iconst 1, 1) := by decide +kernel
theorem dX2_add_52 : decode cX2_add 52 = .ok (.iadd, 1) := by decide +kernel
theorem dX2_add_53 : decode cX2_add 53 = .ok (.putfield 24, 3) := by decide +kernel
theorem dX2_add_56 : decode cX2_add 56 = .ok (.iload 5, 2) := by decide +kernel
theorem dX2_add_58 : decode cX2_add 58 = .ok (.ireturn, 1) := by decide +kernel
set_option maxRecDepth 20000 in
theorem ggX2_sumOfWorst_X2_nextChange : GoodIn wsX2_sumOfWorst wsX2_nextChange := goodIn_r _ [6, 1, 7, 8, 9, 10, 11, 12, 25, 26, 27, 28, 29] (by decide +kernel) (by decide +kernel)
set_option maxRecDepth 20000 in
theorem gX2_sumOfWorst_X2_nextChange : GoodIn wsX2_sumOfWorst (wsV RX2 28 RX2 yX2_nextChange wsX2_nextChange) := goodIn_app (goodIn_of _ (by decide +kernel)) ggX2_sumOfWorst_X2_nextChange
set_option maxRecDepth 20000 in
theorem ggX2_sumOfWorst_X2_worst : GoodIn wsX2_sumOfWorst wsX2_worst := goodIn_r _ [16, 1, 17, 8, 7, 18, 19, 20, 11, 21, 22, 23, 24, 25, 26, 27, 28, 29] (by decide +kernel) (by decide +kernel)
set_option maxRecDepth 20000 in
theorem gX2_sumOfWorst_X2_worst : GoodIn wsX2_sumOfWorst (wsV RX2 32 RX2 yX2_worst wsX2_worst) := goodIn_app (goodIn_of _ (by decide +kernel)) ggX2_sumOfWorst_X2_worst
theorem dX2_sumOfWorst_0 : decode cX2_sumOfWorst 0 = .ok (.iconst 0, 1) := by decide +kernel
theorem dX2_sumOfWorst_1 : decode cX2_sumOfWorst 1 = .ok (.istore_n 2, 1) := by decide +kernel
theorem dX2_sumOfWorst_2 : decode cX2_sumOfWorst 2 = .ok (.iconst 0, 1) := by decide +kernel
theorem dX2_sumOfWorst_3 : decode cX2_sumOfWorst 3 = .ok (.istore_n 3, 1) := by decide +kernel
theorem dX2_sumOfWorst_4 : decode cX2_sumOfWorst 4 = .ok (.iconst 0, 1) := by decide +kernel
theorem dX2_sumOfWorst_5 : decode cX2_sumOfWorst 5 = .ok (.istore 4, 2) := by decide +kernel
theorem dX2_sumOfWorst_7 : decode cX2_sumOfWorst 7 = .ok (.iload 4, 2) := by decide +kernel
theorem dX2_sumOfWorst_9 : decode cX2_sumOfWorst 9 = .ok (.iconst 2, 1) := by decide +kernel
theorem dX2_sumOfWorst_10 : decode cX2_sumOfWorst 10 = .ok (.aload_n 0, 1) := by decide +kernel
theorem dX2_sumOfWorst_11 : decode cX2_sumOfWorst 11 = .ok (.getfield 24, 3) := by decide +kernel
theorem dX2_sumOfWorst_14 : decode cX2_sumOfWorst 14 = .ok (.imul, 1) := by decide +kernel
theorem dX2_sumOfWorst_15 : decode cX2_sumOfWorst 15 = .ok (.if_icmp .gt 33, 3) := by decide +kernel
theorem dX2_sumOfWorst_18 : decode cX2_sumOfWorst 18 = .ok (.aload_n 0, 1) := by decide +kernel
theorem dX2_sumOfWorst_19 : decode cX2_sumOfWorst 19 = .ok (.iload_n 3, 1) := by decide +kernel
theorem dX2_sumOfWorst_20 : decode cX2_sumOfWorst 20 = .ok (.invokevirtual 28, 3) := by decide +kernel
theorem dX2_sumOfWorst_23 : decode cX2_sumOfWorst 23 = .ok (.istore 5, 2) := by decide +kernel
theorem dX2_sumOfWorst_25 : decode cX2_sumOfWorst 25 = .ok (.iload_n 2, 1) := by decide +kernel
theorem dX2_sumOfWorst_26 : decode cX2_sumOfWorst 26 = .ok (.iload 5, 2) := by decide +kernel
theorem dX2_sumOfWorst_28 : decode cX2_sumOfWorst 28 = .ok (.iload_n 3, 1) := by decide +kernel
theorem dX2_sumOfWorst_29 : decode cX2_sumOfWorst 29 = .ok (.isub, 1) := by decide +kernel
theorem dX2_sumOfWorst_30 : decode cX2_sumOfWorst 30 = .ok (.aload_n 0, 1) := by decide +kernel
theorem dX2_sumOfWorst_31 : decode cX2_sumOfWorst 31 = .ok (.iload_n 1, 1) := by decide +kernel
theorem dX2_sumOfWorst_32 : decode cX2_sumOfWorst 32 = .ok (.iload_n 3, 1) := by decide +kernel
theorem dX2_sumOfWorst_33 : decode cX2_sumOfWorst 33 = .ok (.invokevirtual 32, 3) := by decide +kernel
theorem dX2_sumOfWorst_36 : decode cX2_sumOfWorst 36 = .ok (.imul, 1) := by decide +kernel
theorem dX2_sumOfWorst_37 : decode cX2_sumOfWorst 37 = .ok (.iadd, 1) := by decide +kernel
theorem dX2_sumOfWorst_38 : decode cX2_sumOfWorst 38 = .ok (.istore_n 2, 1) := by decide +kernel
theorem dX2_sumOfWorst_39 : decode cX2_sumOfWorst 39 = .ok (.iload 5, 2) := by decide +kernel
theorem dX2_sumOfWorst_41 : decode cX2_sumOfWorst 41 = .ok (.istore_n 3, 1) := by decide +kernel
theorem dX2_sumOfWorst_42 : decode cX2_sumOfWorst 42 = .ok (.iinc 4 1, 3) := by decide +kernel
theorem dX2_sumOfWorst_45 : decode cX2_sumOfWorst 45 = .ok (.goto (-38), 3) := by decide +kernel
theorem dX2_sumOfWorst_48 : decode cX2_sumOfWorst 48 = .ok (.iload_n 2, 1) := by decide +kernel
theorem dX2_sumOfWorst_49 : decode cX2_sumOfWorst 49 = .ok (.ireturn, 1) := by decide +kernel
set_option maxRecDepth 20000 in
theorem ggX2_failedMinutes_X2_nextChange : GoodIn wsX2_failedMinutes wsX2_nextChange := goodIn_r _ [6, 1, 7, 8, 9, 10, 11, 12, 25, 26, 27, 28, 29] (by decide +kernel) (by decide +kernel)
set_option maxRecDepth 20000 in
theorem gX2_failedMinutes_X2_nextChange : GoodIn wsX2_failedMinutes (wsV RX2 28 RX2 yX2_nextChange wsX2_nextChange) := goodIn_app (goodIn_of _ (by decide +kernel)) ggX2_failedMinutes_X2_nextChange
set_option maxRecDepth 20000 in
theorem ggX2_failedMinutes_X2_worst : GoodIn wsX2_failedMinutes wsX2_worst := goodIn_r _ [16, 1, 17, 8, 7, 18, 19, 20, 11, 21, 22, 23, 24, 25, 26, 27, 28, 29] (by decide +kernel) (by decide +kernel)
set_option maxRecDepth 20000 in
theorem gX2_failedMinutes_X2_worst : GoodIn wsX2_failedMinutes (wsV RX2 32 RX2 yX2_worst wsX2_worst) := goodIn_app (goodIn_of _ (by decide +kernel)) ggX2_failedMinutes_X2_worst
theorem dX2_failedMinutes_0 : decode cX2_failedMinutes 0 = .ok (.iconst 0, 1) := by decide +kernel
theorem dX2_failedMinutes_1 : decode cX2_failedMinutes 1 = .ok (.istore_n 1, 1) := by decide +kernel
theorem dX2_failedMinutes_2 : decode cX2_failedMinutes 2 = .ok (.iconst 0, 1) := by decide +kernel
theorem dX2_failedMinutes_3 : decode cX2_failedMinutes 3 = .ok (.istore_n 2, 1) := by decide +kernel
theorem dX2_failedMinutes_4 : decode cX2_failedMinutes 4 = .ok (.iconst 0, 1) := by decide +kernel
theorem dX2_failedMinutes_5 : decode cX2_failedMinutes 5 = .ok (.istore_n 3, 1) := by decide +kernel
theorem dX2_failedMinutes_6 : decode cX2_failedMinutes 6 = .ok (.iload_n 3, 1) := by decide +kernel
theorem dX2_failedMinutes_7 : decode cX2_failedMinutes 7 = .ok (.iconst 2, 1) := by decide +kernel
theorem dX2_failedMinutes_8 : decode cX2_failedMinutes 8 = .ok (.aload_n 0, 1) := by decide +kernel
theorem dX2_failedMinutes_9 : decode cX2_failedMinutes 9 = .ok (.getfield 24, 3) := by decide +kernel
theorem dX2_failedMinutes_12 : decode cX2_failedMinutes 12 = .ok (.imul, 1) := by decide +kernel
theorem dX2_failedMinutes_13 : decode cX2_failedMinutes 13 = .ok (.if_icmp .gt 35, 3) := by decide +kernel
theorem dX2_failedMinutes_16 : decode cX2_failedMinutes 16 = .ok (.aload_n 0, 1) := by decide +kernel
theorem dX2_failedMinutes_17 : decode cX2_failedMinutes 17 = .ok (.iload_n 2, 1) := by decide +kernel
theorem dX2_failedMinutes_18 : decode cX2_failedMinutes 18 = .ok (.invokevirtual 28, 3) := by decide +kernel
theorem dX2_failedMinutes_21 : decode cX2_failedMinutes 21 = .ok (.istore 4, 2) := by decide +kernel
theorem dX2_failedMinutes_23 : decode cX2_failedMinutes 23 = .ok (.aload_n 0, 1) := by decide +kernel
theorem dX2_failedMinutes_24 : decode cX2_failedMinutes 24 = .ok (.iconst (-1), 1) := by decide +kernel
theorem dX2_failedMinutes_25 : decode cX2_failedMinutes 25 = .ok (.iload_n 2, 1) := by decide +kernel
theorem dX2_failedMinutes_26 : decode cX2_failedMinutes 26 = .ok (.invokevirtual 32, 3) := by decide +kernel
theorem dX2_failedMinutes_29 : decode cX2_failedMinutes 29 = .ok (.ifCond .le 10, 3) := by decide +kernel
theorem dX2_failedMinutes_32 : decode cX2_failedMinutes 32 = .ok (.iload_n 1, 1) := by decide +kernel
theorem dX2_failedMinutes_33 : decode cX2_failedMinutes 33 = .ok (.iload 4, 2) := by decide +kernel
theorem dX2_failedMinutes_35 : decode cX2_failedMinutes 35 = .ok (.iload_n 2, 1) := by decide +kernel
theorem dX2_failedMinutes_36 : decode cX2_failedMinutes 36 = .ok (.isub, 1) := by decide +kernel
theorem dX2_failedMinutes_37 : decode cX2_failedMinutes 37 = .ok (.iadd, 1) := by decide +kernel
theorem dX2_failedMinutes_38 : decode cX2_failedMinutes 38 = .ok (.istore_n 1, 1) := by decide +kernel
theorem dX2_failedMinutes_39 : decode cX2_failedMinutes 39 = .ok (.iload 4, 2) := by decide +kernel
theorem dX2_failedMinutes_41 : decode cX2_failedMinutes 41 = .ok (.istore_n 2, 1) := by decide +kernel
theorem dX2_failedMinutes_42 : decode cX2_failedMinutes 42 = .ok (.iinc 3 1, 3) := by decide +kernel
theorem dX2_failedMinutes_45 : decode cX2_failedMinutes 45 = .ok (.goto (-39), 3) := by decide +kernel
theorem dX2_failedMinutes_48 : decode cX2_failedMinutes 48 = .ok (.iload_n 1, 1) := by decide +kernel
theorem dX2_failedMinutes_49 : decode cX2_failedMinutes 49 = .ok (.ireturn, 1) := by decide +kernel
theorem dX2_nextChange_0 : decode cX2_nextChange 0 = .ok (.sipush 10001, 3) := by decide +kernel
theorem dX2_nextChange_3 : decode cX2_nextChange 3 = .ok (.istore_n 2, 1) := by decide +kernel
theorem dX2_nextChange_4 : decode cX2_nextChange 4 = .ok (.iconst 0, 1) := by decide +kernel
theorem dX2_nextChange_5 : decode cX2_nextChange 5 = .ok (.istore_n 3, 1) := by decide +kernel
theorem dX2_nextChange_6 : decode cX2_nextChange 6 = .ok (.iload_n 3, 1) := by decide +kernel
theorem dX2_nextChange_7 : decode cX2_nextChange 7 = .ok (.aload_n 0, 1) := by decide +kernel
theorem dX2_nextChange_8 : decode cX2_nextChange 8 = .ok (.getfield 24, 3) := by decide +kernel
theorem dX2_nextChange_11 : decode cX2_nextChange 11 = .ok (.if_icmp .ge 62, 3) := by decide +kernel
theorem dX2_nextChange_14 : decode cX2_nextChange 14 = .ok (.iload_n 3, 1) := by decide +kernel
theorem dX2_nextChange_15 : decode cX2_nextChange 15 = .ok (.bipush 40, 2) := by decide +kernel
theorem dX2_nextChange_17 : decode cX2_nextChange 17 = .ok (.if_icmp .ge 56, 3) := by decide +kernel
theorem dX2_nextChange_20 : decode cX2_nextChange 20 = .ok (.aload_n 0, 1) := by decide +kernel
theorem dX2_nextChange_21 : decode cX2_nextChange 21 = .ok (.getfield 18, 3) := by decide +kernel
theorem dX2_nextChange_24 : decode cX2_nextChange 24 = .ok (.iload_n 3, 1) := by decide +kernel
theorem dX2_nextChange_25 : decode cX2_nextChange 25 = .ok (.iaload, 1) := by decide +kernel
theorem dX2_nextChange_26 : decode cX2_nextChange 26 = .ok (.iconst 1, 1) := by decide +kernel
theorem dX2_nextChange_27 : decode cX2_nextChange 27 = .ok (.iadd, 1) := by decide +kernel
theorem dX2_nextChange_28 : decode cX2_nextChange 28 = .ok (.istore 4, 2) := by decide +kernel
theorem dX2_nextChange_30 : decode cX2_nextChange 30 = .ok (.aload_n 0, 1) := by decide +kernel
theorem dX2_nextChange_31 : decode cX2_nextChange 31 = .ok (.getfield 15, 3) := by decide +kernel
theorem dX2_nextChange_34 : decode cX2_nextChange 34 = .ok (.iload_n 3, 1) := by decide +kernel
theorem dX2_nextChange_35 : decode cX2_nextChange 35 = .ok (.iaload, 1) := by decide +kernel
theorem dX2_nextChange_36 : decode cX2_nextChange 36 = .ok (.iload_n 1, 1) := by decide +kernel
theorem dX2_nextChange_37 : decode cX2_nextChange 37 = .ok (.if_icmp .le 17, 3) := by decide +kernel
theorem dX2_nextChange_40 : decode cX2_nextChange 40 = .ok (.iload_n 2, 1) := by decide +kernel
theorem dX2_nextChange_41 : decode cX2_nextChange 41 = .ok (.aload_n 0, 1) := by decide +kernel
theorem dX2_nextChange_42 : decode cX2_nextChange 42 = .ok (.getfield 15, 3) := by decide +kernel
theorem dX2_nextChange_45 : decode cX2_nextChange 45 = .ok (.iload_n 3, 1) := by decide +kernel
theorem dX2_nextChange_46 : decode cX2_nextChange 46 = .ok (.iaload, 1) := by decide +kernel
theorem dX2_nextChange_47 : decode cX2_nextChange 47 = .ok (.invokestatic 36, 3) := by decide +kernel
theorem dX2_nextChange_50 : decode cX2_nextChange 50 = .ok (.istore_n 2, 1) := by decide +kernel
theorem dX2_nextChange_51 : decode cX2_nextChange 51 = .ok (.goto 16, 3) := by decide +kernel
theorem dX2_nextChange_54 : decode cX2_nextChange 54 = .ok (.iload 4, 2) := by decide +kernel
theorem dX2_nextChange_56 : decode cX2_nextChange 56 = .ok (.iload_n 1, 1) := by decide +kernel
theorem dX2_nextChange_57 : decode cX2_nextChange 57 = .ok (.if_icmp .le 10, 3) := by decide +kernel
theorem dX2_nextChange_60 : decode cX2_nextChange 60 = .ok (.iload_n 2, 1) := by decide +kernel
theorem dX2_nextChange_61 : decode cX2_nextChange 61 = .ok (.iload 4, 2) := by decide +kernel
theorem dX2_nextChange_63 : decode cX2_nextChange 63 = .ok (.invokestatic 36, 3) := by decide +kernel
theorem dX2_nextChange_66 : decode cX2_nextChange 66 = .ok (.istore_n 2, 1) := by decide +kernel
theorem dX2_nextChange_67 : decode cX2_nextChange 67 = .ok (.iinc 3 1, 3) := by decide +kernel
theorem dX2_nextChange_70 : decode cX2_nextChange 70 = .ok (.goto (-64), 3) := by decide +kernel
theorem dX2_nextChange_73 : decode cX2_nextChange 73 = .ok (.iload_n 2, 1) := by decide +kernel
theorem dX2_nextChange_74 : decode cX2_nextChange 74 = .ok (.ireturn, 1) := by decide +kernel
set_option maxRecDepth 20000 in
theorem ggX2_worst_X4_isWithin : GoodIn wsX2_worst wsX4_isWithin := goodIn_r _ [12] (by decide +kernel) (by decide +kernel)
set_option maxRecDepth 20000 in
theorem gX2_worst_X4_isWithin_n41 : GoodIn wsX2_worst (wsX4_isWithin) := ggX2_worst_X4_isWithin
theorem dX2_worst_0 : decode cX2_worst 0 = .ok (.iconst 0, 1) := by decide +kernel
theorem dX2_worst_1 : decode cX2_worst 1 = .ok (.istore_n 3, 1) := by decide +kernel
theorem dX2_worst_2 : decode cX2_worst 2 = .ok (.iconst 0, 1) := by decide +kernel
theorem dX2_worst_3 : decode cX2_worst 3 = .ok (.istore 4, 2) := by decide +kernel
theorem dX2_worst_5 : decode cX2_worst 5 = .ok (.iload 4, 2) := by decide +kernel
theorem dX2_worst_7 : decode cX2_worst 7 = .ok (.aload_n 0, 1) := by decide +kernel
theorem dX2_worst_8 : decode cX2_worst 8 = .ok (.getfield 24, 3) := by decide +kernel
theorem dX2_worst_11 : decode cX2_worst 11 = .ok (.if_icmp .ge 77, 3) := by decide +kernel
theorem dX2_worst_14 : decode cX2_worst 14 = .ok (.iload 4, 2) := by decide +kernel
theorem dX2_worst_16 : decode cX2_worst 16 = .ok (.bipush 40, 2) := by decide +kernel
theorem dX2_worst_18 : decode cX2_worst 18 = .ok (.if_icmp .ge 70, 3) := by decide +kernel
theorem dX2_worst_21 : decode cX2_worst 21 = .ok (.iload_n 1, 1) := by decide +kernel
theorem dX2_worst_22 : decode cX2_worst 22 = .ok (.iconst (-1), 1) := by decide +kernel
theorem dX2_worst_23 : decode cX2_worst 23 = .ok (.if_icmp .eq 14, 3) := by decide +kernel
theorem dX2_worst_26 : decode cX2_worst 26 = .ok (.aload_n 0, 1) := by decide +kernel
theorem dX2_worst_27 : decode cX2_worst 27 = .ok (.getfield 9, 3) := by decide +kernel
theorem dX2_worst_30 : decode cX2_worst 30 = .ok (.iload 4, 2) := by decide +kernel
theorem dX2_worst_32 : decode cX2_worst 32 = .ok (.iaload, 1) := by decide +kernel
theorem dX2_worst_33 : decode cX2_worst 33 = .ok (.iload_n 1, 1) := by decide +kernel
theorem dX2_worst_34 : decode cX2_worst 34 = .ok (.if_icmp .ne 7, 3) := by decide +kernel
theorem dX2_worst_37 : decode cX2_worst 37 = .ok (.iconst 1, 1) := by decide +kernel
theorem dX2_worst_38 : decode cX2_worst 38 = .ok (.goto 4, 3) := by decide +kernel
theorem dX2_worst_41 : decode cX2_worst 41 = .ok (.iconst 0, 1) := by decide +kernel
theorem dX2_worst_42 : decode cX2_worst 42 = .ok (.istore 5, 2) := by decide +kernel
theorem dX2_worst_44 : decode cX2_worst 44 = .ok (.iload 5, 2) := by decide +kernel
theorem dX2_worst_46 : decode cX2_worst 46 = .ok (.ifCond .eq 36, 3) := by decide +kernel
theorem dX2_worst_49 : decode cX2_worst 49 = .ok (.iload_n 2, 1) := by decide +kernel
theorem dX2_worst_50 : decode cX2_worst 50 = .ok (.aload_n 0, 1) := by decide +kernel
theorem dX2_worst_51 : decode cX2_worst 51 = .ok (.getfield 15, 3) := by decide +kernel
theorem dX2_worst_54 : decode cX2_worst 54 = .ok (.iload 4, 2) := by decide +kernel
theorem dX2_worst_56 : decode cX2_worst 56 = .ok (.iaload, 1) := by decide +kernel
theorem dX2_worst_57 : decode cX2_worst 57 = .ok (.aload_n 0, 1) := by decide +kernel
theorem dX2_worst_58 : decode cX2_worst 58 = .ok (.getfield 18, 3) := by decide +kernel
theorem dX2_worst_61 : decode cX2_worst 61 = .ok (.iload 4, 2) := by decide +kernel
theorem dX2_worst_63 : decode cX2_worst 63 = .ok (.iaload, 1) := by decide +kernel
theorem dX2_worst_64 : decode cX2_worst 64 = .ok (.invokestatic 41, 3) := by decide +kernel
theorem dX2_worst_67 : decode cX2_worst 67 = .ok (.ifCond .eq 15, 3) := by decide +kernel
theorem dX2_worst_70 : decode cX2_worst 70 = .ok (.iload_n 3, 1) := by decide +kernel
theorem dX2_worst_71 : decode cX2_worst 71 = .ok (.aload_n 0, 1) := by decide +kernel
theorem dX2_worst_72 : decode cX2_worst 72 = .ok (.getfield 21, 3) := by decide +kernel
theorem dX2_worst_75 : decode cX2_worst 75 = .ok (.iload 4, 2) := by decide +kernel
theorem dX2_worst_77 : decode cX2_worst 77 = .ok (.iaload, 1) := by decide +kernel
theorem dX2_worst_78 : decode cX2_worst 78 = .ok (.invokestatic 45, 3) := by decide +kernel
theorem dX2_worst_81 : decode cX2_worst 81 = .ok (.istore_n 3, 1) := by decide +kernel
theorem dX2_worst_82 : decode cX2_worst 82 = .ok (.iinc 4 1, 3) := by decide +kernel
theorem dX2_worst_85 : decode cX2_worst 85 = .ok (.goto (-80), 3) := by decide +kernel
theorem dX2_worst_88 : decode cX2_worst 88 = .ok (.iload_n 3, 1) := by decide +kernel
theorem dX2_worst_89 : decode cX2_worst 89 = .ok (.ireturn, 1) := by decide +kernel
theorem dX3_init_0 : decode cX3_init 0 = .ok (.aload_n 0, 1) := by decide +kernel
theorem dX3_init_1 : decode cX3_init 1 = .ok (.invokespecial 3, 3) := by decide +kernel
theorem dX3_init_4 : decode cX3_init 4 = .ok (.aload_n 0, 1) := by decide +kernel
theorem dX3_init_5 : decode cX3_init 5 = .ok (.iconst 5, 1) := by decide +kernel
theorem dX3_init_6 : decode cX3_init 6 = .ok (.iconst 5, 1) := by decide +kernel
theorem dX3_init_7 : decode cX3_init 7 = .ok (.multianewarray 9 2, 4) := by decide +kernel
theorem dX3_init_11 : decode cX3_init 11 = .ok (.putfield 11, 3) := by decide +kernel
theorem dX3_init_14 : decode cX3_init 14 = .ok (.iconst 0, 1) := by decide +kernel
theorem dX3_init_15 : decode cX3_init 15 = .ok (.istore_n 1, 1) := by decide +kernel
theorem dX3_init_16 : decode cX3_init 16 = .ok (.iload_n 1, 1) := by decide +kernel
theorem dX3_init_17 : decode cX3_init 17 = .ok (.iconst 5, 1) := by decide +kernel
theorem dX3_init_18 : decode cX3_init 18 = .ok (.if_icmp .ge 41, 3) := by decide +kernel
theorem dX3_init_21 : decode cX3_init 21 = .ok (.iconst 0, 1) := by decide +kernel
theorem dX3_init_22 : decode cX3_init 22 = .ok (.istore_n 2, 1) := by decide +kernel
theorem dX3_init_23 : decode cX3_init 23 = .ok (.iload_n 2, 1) := by decide +kernel
theorem dX3_init_24 : decode cX3_init 24 = .ok (.iconst 5, 1) := by decide +kernel
theorem dX3_init_25 : decode cX3_init 25 = .ok (.if_icmp .ge 28, 3) := by decide +kernel
theorem dX3_init_28 : decode cX3_init 28 = .ok (.aload_n 0, 1) := by decide +kernel
theorem dX3_init_29 : decode cX3_init 29 = .ok (.getfield 11, 3) := by decide +kernel
theorem dX3_init_32 : decode cX3_init 32 = .ok (.iload_n 1, 1) := by decide +kernel
theorem dX3_init_33 : decode cX3_init 33 = .ok (.aaload, 1) := by decide +kernel
theorem dX3_init_34 : decode cX3_init 34 = .ok (.iload_n 2, 1) := by decide +kernel
theorem dX3_init_35 : decode cX3_init 35 = .ok (.iload_n 1, 1) := by decide +kernel
theorem dX3_init_36 : decode cX3_init 36 = .ok (.iload_n 2, 1) := by decide +kernel
theorem dX3_init_37 : decode cX3_init 37 = .ok (.if_icmp .ne 7, 3) := by decide +kernel
theorem dX3_init_40 : decode cX3_init 40 = .ok (.iconst 0, 1) := by decide +kernel
theorem dX3_init_41 : decode cX3_init 41 = .ok (.goto 5, 3) := by decide +kernel
theorem dX3_init_44 : decode cX3_init 44 = .ok (.ldc 16, 2) := by decide +kernel
theorem dX3_init_46 : decode cX3_init 46 = .ok (.iastore, 1) := by decide +kernel
theorem dX3_init_47 : decode cX3_init 47 = .ok (.iinc 2 1, 3) := by decide +kernel
theorem dX3_init_50 : decode cX3_init 50 = .ok (.goto (-27), 3) := by decide +kernel
theorem dX3_init_53 : decode cX3_init 53 = .ok (.iinc 1 1, 3) := by decide +kernel
theorem dX3_init_56 : decode cX3_init 56 = .ok (.goto (-40), 3) := by decide +kernel
theorem dX3_init_59 : decode cX3_init 59 = .ok (.return_, 1) := by decide +kernel
set_option maxRecDepth 20000 in
theorem ggX3_most_X4_isClock : GoodIn wsX3_most wsX4_isClock := goodIn_r _ [5, 6, 7, 4, 8] (by decide +kernel) (by decide +kernel)
set_option maxRecDepth 20000 in
theorem gX3_most_X4_isClock_n17 : GoodIn wsX3_most (wsX4_isClock) := ggX3_most_X4_isClock
theorem dX3_most_0 : decode cX3_most 0 = .ok (.iload_n 1, 1) := by decide +kernel
theorem dX3_most_1 : decode cX3_most 1 = .ok (.invokestatic 17, 3) := by decide +kernel
theorem dX3_most_4 : decode cX3_most 4 = .ok (.ifCond .eq 10, 3) := by decide +kernel
theorem dX3_most_7 : decode cX3_most 7 = .ok (.iload_n 2, 1) := by decide +kernel
theorem dX3_most_8 : decode cX3_most 8 = .ok (.invokestatic 17, 3) := by decide +kernel
theorem dX3_most_11 : decode cX3_most 11 = .ok (.ifCond .ne 6, 3) := by decide +kernel
theorem dX3_most_14 : decode cX3_most 14 = .ok (.ldc 16, 2) := by decide +kernel
theorem dX3_most_16 : decode cX3_most 16 = .ok (.ireturn, 1) := by decide +kernel
theorem dX3_most_17 : decode cX3_most 17 = .ok (.aload_n 0, 1) := by decide +kernel
theorem dX3_most_18 : decode cX3_most 18 = .ok (.getfield 11, 3) := by decide +kernel
theorem dX3_most_21 : decode cX3_most 21 = .ok (.iload_n 1, 1) := by decide +kernel
theorem dX3_most_22 : decode cX3_most 22 = .ok (.aaload, 1) := by decide +kernel
theorem dX3_most_23 : decode cX3_most 23 = .ok (.iload_n 2, 1) := by decide +kernel
theorem dX3_most_24 : decode cX3_most 24 = .ok (.iaload, 1) := by decide +kernel
theorem dX3_most_25 : decode cX3_most 25 = .ok (.ireturn, 1) := by decide +kernel
set_option maxRecDepth 20000 in
theorem ggX3_allows_X3_most : GoodIn wsX3_allows wsX3_most := goodIn_r _ [5, 6, 7, 8, 9, 10, 11, 12, 13, 14] (by decide +kernel) (by decide +kernel)
set_option maxRecDepth 20000 in
theorem gX3_allows_X3_most : GoodIn wsX3_allows (wsV RX3 21 RX3 yX3_most wsX3_most) := goodIn_app (goodIn_of _ (by decide +kernel)) ggX3_allows_X3_most
theorem dX3_allows_0 : decode cX3_allows 0 = .ok (.iload_n 3, 1) := by decide +kernel
theorem dX3_allows_1 : decode cX3_allows 1 = .ok (.ineg, 1) := by decide +kernel
theorem dX3_allows_2 : decode cX3_allows 2 = .ok (.aload_n 0, 1) := by decide +kernel
theorem dX3_allows_3 : decode cX3_allows 3 = .ok (.iload_n 2, 1) := by decide +kernel
theorem dX3_allows_4 : decode cX3_allows 4 = .ok (.iload_n 1, 1) := by decide +kernel
theorem dX3_allows_5 : decode cX3_allows 5 = .ok (.invokevirtual 21, 3) := by decide +kernel
theorem dX3_allows_8 : decode cX3_allows 8 = .ok (.if_icmp .gt 7, 3) := by decide +kernel
theorem dX3_allows_11 : decode cX3_allows 11 = .ok (.iconst 1, 1) := by decide +kernel
theorem dX3_allows_12 : decode cX3_allows 12 = .ok (.goto 4, 3) := by decide +kernel
theorem dX3_allows_15 : decode cX3_allows 15 = .ok (.iconst 0, 1) := by decide +kernel
theorem dX3_allows_16 : decode cX3_allows 16 = .ok (.ireturn, 1) := by decide +kernel
set_option maxRecDepth 20000 in
theorem ggX3_bound_X3_most : GoodIn wsX3_bound wsX3_most := goodIn_r _ [11, 1, 2, 12, 13, 14, 15, 16, 17, 18] (by decide +kernel) (by decide +kernel)
set_option maxRecDepth 20000 in
theorem gX3_bound_X3_most : GoodIn wsX3_bound (wsV RX3 21 RX3 yX3_most wsX3_most) := goodIn_app (goodIn_of _ (by decide +kernel)) ggX3_bound_X3_most
theorem dX3_bound_0 : decode cX3_bound 0 = .ok (.iconst 0, 1) := by decide +kernel
theorem dX3_bound_1 : decode cX3_bound 1 = .ok (.istore 4, 2) := by decide +kernel
theorem dX3_bound_3 : decode cX3_bound 3 = .ok (.iload 4, 2) := by decide +kernel
theorem dX3_bound_5 : decode cX3_bound 5 = .ok (.iconst 5, 1) := by decide +kernel
theorem dX3_bound_6 : decode cX3_bound 6 = .ok (.if_icmp .ge 90, 3) := by decide +kernel
theorem dX3_bound_9 : decode cX3_bound 9 = .ok (.iconst 0, 1) := by decide +kernel
theorem dX3_bound_10 : decode cX3_bound 10 = .ok (.istore 5, 2) := by decide +kernel
theorem dX3_bound_12 : decode cX3_bound 12 = .ok (.iload 5, 2) := by decide +kernel
theorem dX3_bound_14 : decode cX3_bound 14 = .ok (.iconst 5, 1) := by decide +kernel
theorem dX3_bound_15 : decode cX3_bound 15 = .ok (.if_icmp .ge 75, 3) := by decide +kernel
theorem dX3_bound_18 : decode cX3_bound 18 = .ok (.aload_n 0, 1) := by decide +kernel
theorem dX3_bound_19 : decode cX3_bound 19 = .ok (.iload 4, 2) := by decide +kernel
theorem dX3_bound_21 : decode cX3_bound 21 = .ok (.iload_n 1, 1) := by decide +kernel
theorem dX3_bound_22 : decode cX3_bound 22 = .ok (.invokevirtual 21, 3) := by decide +kernel
theorem dX3_bound_25 : decode cX3_bound 25 = .ok (.istore 6, 2) := by decide +kernel
theorem dX3_bound_27 : decode cX3_bound 27 = .ok (.aload_n 0, 1) := by decide +kernel
theorem dX3_bound_28 : decode cX3_bound 28 = .ok (.iload_n 2, 1) := by decide +kernel
theorem dX3_bound_29 : decode cX3_bound 29 = .ok (.iload 5, 2) := by decide +kernel
theorem dX3_bound_31 : decode cX3_bound 31 = .ok (.invokevirtual 21, 3) := by decide +kernel
theorem dX3_bound_34 : decode cX3_bound 34 = .ok (.istore 7, 2) := by decide +kernel
theorem dX3_bound_36 : decode cX3_bound 36 = .ok (.iload 6, 2) := by decide +kernel
theorem dX3_bound_38 : decode cX3_bound 38 = .ok (.ldc 16, 2) := by decide +kernel
theorem dX3_bound_40 : decode cX3_bound 40 = .ok (.if_icmp .ge 44, 3) := by decide +kernel
theorem dX3_bound_43 : decode cX3_bound 43 = .ok (.iload 7, 2) := by decide +kernel
theorem dX3_bound_45 : decode cX3_bound 45 = .ok (.ldc 16, 2) := by decide +kernel
theorem dX3_bound_47 : decode cX3_bound 47 = .ok (.if_icmp .ge 37, 3) := by decide +kernel
theorem dX3_bound_50 : decode cX3_bound 50 = .ok (.iload 6, 2) := by decide +kernel
theorem dX3_bound_52 : decode cX3_bound 52 = .ok (.iload_n 3, 1) := by decide +kernel
theorem dX3_bound_53 : decode cX3_bound 53 = .ok (.iadd, 1) := by decide +kernel
theorem dX3_bound_54 : decode cX3_bound 54 = .ok (.iload 7, 2) := by decide +kernel
theorem dX3_bound_56 : decode cX3_bound 56 = .ok (.iadd, 1) := by decide +kernel
theorem dX3_bound_57 : decode cX3_bound 57 = .ok (.istore 8, 2) := by decide +kernel
theorem dX3_bound_59 : decode cX3_bound 59 = .ok (.aload_n 0, 1) := by decide +kernel
theorem dX3_bound_60 : decode cX3_bound 60 = .ok (.getfield 11, 3) := by decide +kernel
theorem dX3_bound_63 : decode cX3_bound 63 = .ok (.iload 4, 2) := by decide +kernel
theorem dX3_bound_65 : decode cX3_bound 65 = .ok (.aaload, 1) := by decide +kernel
theorem dX3_bound_66 : decode cX3_bound 66 = .ok (.iload 5, 2) := by decide +kernel
theorem dX3_bound_68 : decode cX3_bound 68 = .ok (.aload_n 0, 1) := by decide +kernel
theorem dX3_bound_69 : decode cX3_bound 69 = .ok (.getfield 11, 3) := by decide +kernel
theorem dX3_bound_72 : decode cX3_bound 72 = .ok (.iload 4, 2) := by decide +kernel
theorem dX3_bound_74 : decode cX3_bound 74 = .ok (.aaload, 1) := by decide +kernel
theorem dX3_bound_75 : decode cX3_bound 75 = .ok (.iload 5, 2) := by decide +kernel
theorem dX3_bound_77 : decode cX3_bound 77 = .ok (.iaload, 1) := by decide +kernel
theorem dX3_bound_78 : decode cX3_bound 78 = .ok (.iload 8, 2) := by decide +kernel
theorem dX3_bound_80 : decode cX3_bound 80 = .ok (.invokestatic 25, 3) := by decide +kernel
theorem dX3_bound_83 : decode cX3_bound 83 = .ok (.iastore, 1) := by decide +kernel
theorem dX3_bound_84 : decode cX3_bound 84 = .ok (.iinc 5 1, 3) := by decide +kernel
theorem dX3_bound_87 : decode cX3_bound 87 = .ok (.goto (-75), 3) := by decide +kernel
theorem dX3_bound_90 : decode cX3_bound 90 = .ok (.iinc 4 1, 3) := by decide +kernel
theorem dX3_bound_93 : decode cX3_bound 93 = .ok (.goto (-90), 3) := by decide +kernel
theorem dX3_bound_96 : decode cX3_bound 96 = .ok (.return_, 1) := by decide +kernel
set_option maxRecDepth 20000 in
theorem ggX4_init_X3_init : GoodIn wsX4_init wsX3_init := goodIn_r _ [22, 23, 2, 3, 24, 25, 26, 27, 57] (by decide +kernel) (by decide +kernel)
set_option maxRecDepth 20000 in
theorem gX4_init_X3_init : GoodIn wsX4_init (wsX3_init) := ggX4_init_X3_init
set_option maxRecDepth 20000 in
theorem ggX4_init_X1_init : GoodIn wsX4_init wsX1_init := goodIn_r _ [29, 30, 2, 3, 25, 31, 32, 33, 34, 35, 36, 37, 38, 39, 40, 41, 62, 63, 64, 65, 66, 67, 68, 69, 70] (by decide +kernel) (by decide +kernel)
set_option maxRecDepth 20000 in
theorem gX4_init_X1_init_n18 : GoodIn wsX4_init (wsX1_init) := ggX4_init_X1_init
set_option maxRecDepth 20000 in
theorem ggX4_init_X2_init : GoodIn wsX4_init wsX2_init := goodIn_r _ [43, 44, 2, 3, 25, 45, 46, 47, 48, 49, 71, 72, 73, 74, 75] (by decide +kernel) (by decide +kernel)
set_option maxRecDepth 20000 in
theorem gX4_init_X2_init_n25 : GoodIn wsX4_init (wsX2_init) := ggX4_init_X2_init
set_option maxRecDepth 20000 in
theorem ggX4_init_X0_init : GoodIn wsX4_init wsX0_init := goodIn_r _ [51, 52, 2, 3, 53, 25, 54, 55, 56, 76, 77, 78] (by decide +kernel) (by decide +kernel)
set_option maxRecDepth 20000 in
theorem gX4_init_X0_init_n32 : GoodIn wsX4_init (wsX0_init) := ggX4_init_X0_init
theorem dX4_init_0 : decode cX4_init 0 = .ok (.aload_n 0, 1) := by decide +kernel
theorem dX4_init_1 : decode cX4_init 1 = .ok (.invokespecial 1, 3) := by decide +kernel
theorem dX4_init_4 : decode cX4_init 4 = .ok (.aload_n 0, 1) := by decide +kernel
theorem dX4_init_5 : decode cX4_init 5 = .ok (.new 7, 3) := by decide +kernel
theorem dX4_init_8 : decode cX4_init 8 = .ok (.dup, 1) := by decide +kernel
theorem dX4_init_9 : decode cX4_init 9 = .ok (.invokespecial 9, 3) := by decide +kernel
theorem dX4_init_12 : decode cX4_init 12 = .ok (.putfield 10, 3) := by decide +kernel
theorem dX4_init_15 : decode cX4_init 15 = .ok (.aload_n 0, 1) := by decide +kernel
theorem dX4_init_16 : decode cX4_init 16 = .ok (.new 16, 3) := by decide +kernel
theorem dX4_init_19 : decode cX4_init 19 = .ok (.dup, 1) := by decide +kernel
theorem dX4_init_20 : decode cX4_init 20 = .ok (.invokespecial 18, 3) := by decide +kernel
theorem dX4_init_23 : decode cX4_init 23 = .ok (.putfield 19, 3) := by decide +kernel
theorem dX4_init_26 : decode cX4_init 26 = .ok (.aload_n 0, 1) := by decide +kernel
theorem dX4_init_27 : decode cX4_init 27 = .ok (.new 23, 3) := by decide +kernel
theorem dX4_init_30 : decode cX4_init 30 = .ok (.dup, 1) := by decide +kernel
theorem dX4_init_31 : decode cX4_init 31 = .ok (.invokespecial 25, 3) := by decide +kernel
theorem dX4_init_34 : decode cX4_init 34 = .ok (.putfield 26, 3) := by decide +kernel
theorem dX4_init_37 : decode cX4_init 37 = .ok (.aload_n 0, 1) := by decide +kernel
theorem dX4_init_38 : decode cX4_init 38 = .ok (.new 30, 3) := by decide +kernel
theorem dX4_init_41 : decode cX4_init 41 = .ok (.dup, 1) := by decide +kernel
theorem dX4_init_42 : decode cX4_init 42 = .ok (.invokespecial 32, 3) := by decide +kernel
theorem dX4_init_45 : decode cX4_init 45 = .ok (.putfield 33, 3) := by decide +kernel
theorem dX4_init_48 : decode cX4_init 48 = .ok (.return_, 1) := by decide +kernel
set_option maxRecDepth 20000 in
theorem ggX4_mark_X4_isClock : GoodIn wsX4_mark wsX4_isClock := goodIn_r _ [10, 11, 12, 9, 13] (by decide +kernel) (by decide +kernel)
set_option maxRecDepth 20000 in
theorem gX4_mark_X4_isClock : GoodIn wsX4_mark (va_wsS RX4 37 yX4_isClock wsX4_isClock) := goodIn_app (goodIn_of _ (by decide +kernel)) ggX4_mark_X4_isClock
set_option maxRecDepth 20000 in
theorem ggX4_mark_X4_isReading : GoodIn wsX4_mark wsX4_isReading := goodIn_r _ [16, 11, 12, 9, 13] (by decide +kernel) (by decide +kernel)
set_option maxRecDepth 20000 in
theorem gX4_mark_X4_isReading : GoodIn wsX4_mark (va_wsS RX4 48 yX4_isReading wsX4_isReading) := goodIn_app (goodIn_of _ (by decide +kernel)) ggX4_mark_X4_isReading
set_option maxRecDepth 20000 in
theorem ggX4_mark_X4_isWithin : GoodIn wsX4_mark wsX4_isWithin := goodIn_r _ [13] (by decide +kernel) (by decide +kernel)
set_option maxRecDepth 20000 in
theorem gX4_mark_X4_isWithin : GoodIn wsX4_mark (va_wsS RX4 53 yX4_isWithin wsX4_isWithin) := goodIn_app (goodIn_of _ (by decide +kernel)) ggX4_mark_X4_isWithin
set_option maxRecDepth 20000 in
theorem ggX4_mark_X3_allows : GoodIn wsX4_mark wsX3_allows := goodIn_r _ [21, 22, 23, 24, 20, 25, 26, 27, 8, 9, 10, 11, 12, 13, 73] (by decide +kernel) (by decide +kernel)
set_option maxRecDepth 20000 in
theorem gX4_mark_X3_allows : GoodIn wsX4_mark (wsV RX4 59 RX3 yX3_allows wsX3_allows) := goodIn_app (goodIn_of _ (by decide +kernel)) ggX4_mark_X3_allows
set_option maxRecDepth 20000 in
theorem ggX4_mark_X3_bound : GoodIn wsX4_mark wsX3_bound := goodIn_r _ [31, 26, 27, 32, 33, 34, 35, 22, 23, 24, 20, 25, 8, 9, 10, 11, 12, 13, 73] (by decide +kernel) (by decide +kernel)
set_option maxRecDepth 20000 in
theorem gX4_mark_X3_bound : GoodIn wsX4_mark (wsV RX4 67 RX3 yX3_bound wsX3_bound) := goodIn_app (goodIn_of _ (by decide +kernel)) ggX4_mark_X3_bound
set_option maxRecDepth 20000 in
theorem ggX4_mark_X1_arrange : GoodIn wsX4_mark wsX1_arrange := goodIn_r _ [40, 41, 42, 43, 44, 45, 46, 39, 47, 48, 49, 50, 51, 52, 53, 54, 55, 56, 57, 58, 59, 23, 24, 20, 25, 26, 27, 8, 9, 10, 11, 12, 13, 60, 61, 62, 63, 64, 65, 66, 67, 68, 74, 75, 76, 77, 78, 79, 80, 81, 82, 73] (by decide +kernel) (by decide +kernel)
set_option maxRecDepth 20000 in
theorem gX4_mark_X1_arrange : GoodIn wsX4_mark (wsV RX4 71 RX1 yX1_arrange wsX1_arrange) := goodIn_app (goodIn_of _ (by decide +kernel)) ggX4_mark_X1_arrange
theorem dX4_mark_0 : decode cX4_mark 0 = .ok (.iload_n 1, 1) := by decide +kernel
theorem dX4_mark_1 : decode cX4_mark 1 = .ok (.invokestatic 37, 3) := by decide +kernel
theorem dX4_mark_4 : decode cX4_mark 4 = .ok (.ifCond .eq 15, 3) := by decide +kernel
theorem dX4_mark_7 : decode cX4_mark 7 = .ok (.iload_n 3, 1) := by decide +kernel
theorem dX4_mark_8 : decode cX4_mark 8 = .ok (.invokestatic 37, 3) := by decide +kernel
theorem dX4_mark_11 : decode cX4_mark 11 = .ok (.ifCond .eq 8, 3) := by decide +kernel
theorem dX4_mark_14 : decode cX4_mark 14 = .ok (.iload_n 1, 1) := by decide +kernel
theorem dX4_mark_15 : decode cX4_mark 15 = .ok (.iload_n 3, 1) := by decide +kernel
theorem dX4_mark_16 : decode cX4_mark 16 = .ok (.if_icmp .ne 13, 3) := by decide +kernel
theorem dX4_mark_19 : decode cX4_mark 19 = .ok (.new 41, 3) := by decide +kernel
theorem dX4_mark_22 : decode cX4_mark 22 = .ok (.dup, 1) := by decide +kernel
theorem dX4_mark_23 : decode cX4_mark 23 = .ok (.ldc 43, 2) := by decide +kernel
theorem dX4_mark_25 : decode cX4_mark 25 = .ok (.invokespecial 45, 3) := by decide +kernel
theorem dX4_mark_28 : decode cX4_mark 28 = .ok (.athrow, 1) := by decide +kernel
theorem dX4_mark_29 : decode cX4_mark 29 = .ok (.iload_n 2, 1) := by decide +kernel
theorem dX4_mark_30 : decode cX4_mark 30 = .ok (.invokestatic 48, 3) := by decide +kernel
theorem dX4_mark_33 : decode cX4_mark 33 = .ok (.ifCond .eq 11, 3) := by decide +kernel
theorem dX4_mark_36 : decode cX4_mark 36 = .ok (.iload 4, 2) := by decide +kernel
theorem dX4_mark_38 : decode cX4_mark 38 = .ok (.invokestatic 48, 3) := by decide +kernel
theorem dX4_mark_41 : decode cX4_mark 41 = .ok (.ifCond .ne 13, 3) := by decide +kernel
theorem dX4_mark_44 : decode cX4_mark 44 = .ok (.new 41, 3) := by decide +kernel
theorem dX4_mark_47 : decode cX4_mark 47 = .ok (.dup, 1) := by decide +kernel
theorem dX4_mark_48 : decode cX4_mark 48 = .ok (.ldc 51, 2) := by decide +kernel
theorem dX4_mark_50 : decode cX4_mark 50 = .ok (.invokespecial 45, 3) := by decide +kernel
theorem dX4_mark_53 : decode cX4_mark 53 = .ok (.athrow, 1) := by decide +kernel
theorem dX4_mark_54 : decode cX4_mark 54 = .ok (.iload 5, 2) := by decide +kernel
theorem dX4_mark_56 : decode cX4_mark 56 = .ok (.iconst 0, 1) := by decide +kernel
theorem dX4_mark_57 : decode cX4_mark 57 = .ok (.sipush 1000, 3) := by decide +kernel
theorem dX4_mark_60 : decode cX4_mark 60 = .ok (.invokestatic 53, 3) := by decide +kernel
theorem dX4_mark_63 : decode cX4_mark 63 = .ok (.ifCond .ne 13, 3) := by decide +kernel
theorem dX4_mark_66 : decode cX4_mark 66 = .ok (.new 41, 3) := by decide +kernel
theorem dX4_mark_69 : decode cX4_mark 69 = .ok (.dup, 1) := by decide +kernel
theorem dX4_mark_70 : decode cX4_mark 70 = .ok (.ldc 57, 2) := by decide +kernel
theorem dX4_mark_72 : decode cX4_mark 72 = .ok (.invokespecial 45, 3) := by decide +kernel
theorem dX4_mark_75 : decode cX4_mark 75 = .ok (.athrow, 1) := by decide +kernel
theorem dX4_mark_76 : decode cX4_mark 76 = .ok (.iload 4, 2) := by decide +kernel
theorem dX4_mark_78 : decode cX4_mark 78 = .ok (.iload_n 2, 1) := by decide +kernel
theorem dX4_mark_79 : decode cX4_mark 79 = .ok (.isub, 1) := by decide +kernel
theorem dX4_mark_80 : decode cX4_mark 80 = .ok (.istore 6, 2) := by decide +kernel
theorem dX4_mark_82 : decode cX4_mark 82 = .ok (.aload_n 0, 1) := by decide +kernel
theorem dX4_mark_83 : decode cX4_mark 83 = .ok (.getfield 10, 3) := by decide +kernel
theorem dX4_mark_86 : decode cX4_mark 86 = .ok (.iload_n 1, 1) := by decide +kernel
theorem dX4_mark_87 : decode cX4_mark 87 = .ok (.iload_n 3, 1) := by decide +kernel
theorem dX4_mark_88 : decode cX4_mark 88 = .ok (.iload 6, 2) := by decide +kernel
theorem dX4_mark_90 : decode cX4_mark 90 = .ok (.iload 5, 2) := by decide +kernel
theorem dX4_mark_92 : decode cX4_mark 92 = .ok (.iadd, 1) := by decide +kernel
theorem dX4_mark_93 : decode cX4_mark 93 = .ok (.invokevirtual 59, 3) := by decide +kernel
theorem dX4_mark_96 : decode cX4_mark 96 = .ok (.ifCond .eq 20, 3) := by decide +kernel
theorem dX4_mark_99 : decode cX4_mark 99 = .ok (.aload_n 0, 1) := by decide +kernel
theorem dX4_mark_100 : decode cX4_mark 100 = .ok (.getfield 10, 3) := by decide +kernel
theorem dX4_mark_103 : decode cX4_mark 103 = .ok (.iload_n 3, 1) := by decide +kernel
theorem dX4_mark_104 : decode cX4_mark 104 = .ok (.iload_n 1, 1) := by decide +kernel
theorem dX4_mark_105 : decode cX4_mark 105 = .ok (.iload 5, 2) := by decide +kernel
theorem dX4_mark_107 : decode cX4_mark 107 = .ok (.iload 6, 2) := by decide +kernel
theorem dX4_mark_109 : decode cX4_mark 109 = .ok (.isub, 1) := by decide +kernel
theorem dX4_mark_110 : decode cX4_mark 110 = .ok (.invokevirtual 59, 3) := by decide +kernel
theorem dX4_mark_113 : decode cX4_mark 113 = .ok (.ifCond .ne 13, 3) := by decide +kernel
theorem dX4_mark_116 : decode cX4_mark 116 = .ok (.new 62, 3) := by decide +kernel
theorem dX4_mark_119 : decode cX4_mark 119 = .ok (.dup, 1) := by decide +kernel
theorem dX4_mark_120 : decode cX4_mark 120 = .ok (.ldc 64, 2) := by decide +kernel
theorem dX4_mark_122 : decode cX4_mark 122 = .ok (.invokespecial 66, 3) := by decide +kernel
theorem dX4_mark_125 : decode cX4_mark 125 = .ok (.athrow, 1) := by decide +kernel
theorem dX4_mark_126 : decode cX4_mark 126 = .ok (.aload_n 0, 1) := by decide +kernel
theorem dX4_mark_127 : decode cX4_mark 127 = .ok (.getfield 10, 3) := by decide +kernel
theorem dX4_mark_130 : decode cX4_mark 130 = .ok (.iload_n 1, 1) := by decide +kernel
theorem dX4_mark_131 : decode cX4_mark 131 = .ok (.iload_n 3, 1) := by decide +kernel
theorem dX4_mark_132 : decode cX4_mark 132 = .ok (.iload 6, 2) := by decide +kernel
theorem dX4_mark_134 : decode cX4_mark 134 = .ok (.iload 5, 2) := by decide +kernel
theorem dX4_mark_136 : decode cX4_mark 136 = .ok (.iadd, 1) := by decide +kernel
theorem dX4_mark_137 : decode cX4_mark 137 = .ok (.invokevirtual 67, 3) := by decide +kernel
theorem dX4_mark_140 : decode cX4_mark 140 = .ok (.aload_n 0, 1) := by decide +kernel
theorem dX4_mark_141 : decode cX4_mark 141 = .ok (.getfield 10, 3) := by decide +kernel
theorem dX4_mark_144 : decode cX4_mark 144 = .ok (.iload_n 3, 1) := by decide +kernel
theorem dX4_mark_145 : decode cX4_mark 145 = .ok (.iload_n 1, 1) := by decide +kernel
theorem dX4_mark_146 : decode cX4_mark 146 = .ok (.iload 5, 2) := by decide +kernel
theorem dX4_mark_148 : decode cX4_mark 148 = .ok (.iload 6, 2) := by decide +kernel
theorem dX4_mark_150 : decode cX4_mark 150 = .ok (.isub, 1) := by decide +kernel
theorem dX4_mark_151 : decode cX4_mark 151 = .ok (.invokevirtual 67, 3) := by decide +kernel
theorem dX4_mark_154 : decode cX4_mark 154 = .ok (.aload_n 0, 1) := by decide +kernel
theorem dX4_mark_155 : decode cX4_mark 155 = .ok (.getfield 19, 3) := by decide +kernel
theorem dX4_mark_158 : decode cX4_mark 158 = .ok (.aload_n 0, 1) := by decide +kernel
theorem dX4_mark_159 : decode cX4_mark 159 = .ok (.getfield 10, 3) := by decide +kernel
theorem dX4_mark_162 : decode cX4_mark 162 = .ok (.invokevirtual 71, 3) := by decide +kernel
theorem dX4_mark_165 : decode cX4_mark 165 = .ok (.return_, 1) := by decide +kernel
set_option maxRecDepth 20000 in
theorem ggX4_greatest_X4_isClock : GoodIn wsX4_greatest wsX4_isClock := goodIn_r _ [7, 8, 9, 6, 10] (by decide +kernel) (by decide +kernel)
set_option maxRecDepth 20000 in
theorem gX4_greatest_X4_isClock : GoodIn wsX4_greatest (va_wsS RX4 37 yX4_isClock wsX4_isClock) := goodIn_app (goodIn_of _ (by decide +kernel)) ggX4_greatest_X4_isClock
set_option maxRecDepth 20000 in
theorem ggX4_greatest_X3_most : GoodIn wsX4_greatest wsX3_most := goodIn_r _ [15, 16, 17, 5, 6, 7, 8, 9, 10, 22] (by decide +kernel) (by decide +kernel)
set_option maxRecDepth 20000 in
theorem gX4_greatest_X3_most : GoodIn wsX4_greatest (wsV RX4 77 RX3 yX3_most wsX3_most) := goodIn_app (goodIn_of _ (by decide +kernel)) ggX4_greatest_X3_most
theorem dX4_greatest_0 : decode cX4_greatest 0 = .ok (.iload_n 1, 1) := by decide +kernel
theorem dX4_greatest_1 : decode cX4_greatest 1 = .ok (.invokestatic 37, 3) := by decide +kernel
theorem dX4_greatest_4 : decode cX4_greatest 4 = .ok (.ifCond .eq 10, 3) := by decide +kernel
theorem dX4_greatest_7 : decode cX4_greatest 7 = .ok (.iload_n 2, 1) := by decide +kernel
theorem dX4_greatest_8 : decode cX4_greatest 8 = .ok (.invokestatic 37, 3) := by decide +kernel
theorem dX4_greatest_11 : decode cX4_greatest 11 = .ok (.ifCond .ne 13, 3) := by decide +kernel
theorem dX4_greatest_14 : decode cX4_greatest 14 = .ok (.new 41, 3) := by decide +kernel
theorem dX4_greatest_17 : decode cX4_greatest 17 = .ok (.dup, 1) := by decide +kernel
theorem dX4_greatest_18 : decode cX4_greatest 18 = .ok (.ldc 75, 2) := by decide +kernel
theorem dX4_greatest_20 : decode cX4_greatest 20 = .ok (.invokespecial 45, 3) := by decide +kernel
theorem dX4_greatest_23 : decode cX4_greatest 23 = .ok (.athrow, 1) := by decide +kernel
theorem dX4_greatest_24 : decode cX4_greatest 24 = .ok (.aload_n 0, 1) := by decide +kernel
theorem dX4_greatest_25 : decode cX4_greatest 25 = .ok (.getfield 10, 3) := by decide +kernel
theorem dX4_greatest_28 : decode cX4_greatest 28 = .ok (.iload_n 1, 1) := by decide +kernel
theorem dX4_greatest_29 : decode cX4_greatest 29 = .ok (.iload_n 2, 1) := by decide +kernel
theorem dX4_greatest_30 : decode cX4_greatest 30 = .ok (.invokevirtual 77, 3) := by decide +kernel
theorem dX4_greatest_33 : decode cX4_greatest 33 = .ok (.ireturn, 1) := by decide +kernel
set_option maxRecDepth 20000 in
theorem ggX4_write_X4_isClock : GoodIn wsX4_write wsX4_isClock := goodIn_r _ [10, 11, 12, 9, 13] (by decide +kernel) (by decide +kernel)
set_option maxRecDepth 20000 in
theorem gX4_write_X4_isClock : GoodIn wsX4_write (va_wsS RX4 37 yX4_isClock wsX4_isClock) := goodIn_app (goodIn_of _ (by decide +kernel)) ggX4_write_X4_isClock
set_option maxRecDepth 20000 in
theorem ggX4_write_X4_isReading : GoodIn wsX4_write wsX4_isReading := goodIn_r _ [16, 11, 12, 9, 13] (by decide +kernel) (by decide +kernel)
set_option maxRecDepth 20000 in
theorem gX4_write_X4_isReading : GoodIn wsX4_write (va_wsS RX4 48 yX4_isReading wsX4_isReading) := goodIn_app (goodIn_of _ (by decide +kernel)) ggX4_write_X4_isReading
set_option maxRecDepth 20000 in
theorem ggX4_write_X4_isService : GoodIn wsX4_write wsX4_isService := goodIn_r _ [19, 11, 12, 9, 13] (by decide +kernel) (by decide +kernel)
set_option maxRecDepth 20000 in
theorem gX4_write_X4_isService : GoodIn wsX4_write (va_wsS RX4 81 yX4_isService wsX4_isService) := goodIn_app (goodIn_of _ (by decide +kernel)) ggX4_write_X4_isService
set_option maxRecDepth 20000 in
theorem ggX4_write_X1_size : GoodIn wsX4_write wsX1_size := goodIn_r _ [24, 25, 73, 74, 75, 76, 77, 78, 79, 80, 81] (by decide +kernel) (by decide +kernel)
set_option maxRecDepth 20000 in
theorem gX4_write_X1_size : GoodIn wsX4_write (wsV RX4 86 RX1 yX1_size wsX1_size) := goodIn_app (goodIn_of _ (by decide +kernel)) ggX4_write_X1_size
set_option maxRecDepth 20000 in
theorem ggX4_write_X1_add : GoodIn wsX4_write wsX1_add := goodIn_r _ [29, 25, 30, 31, 32, 33, 73, 74, 75, 76, 77, 78, 79, 80, 81] (by decide +kernel) (by decide +kernel)
set_option maxRecDepth 20000 in
theorem gX4_write_X1_add : GoodIn wsX4_write (wsV RX4 92 RX1 yX1_add wsX1_add) := goodIn_app (goodIn_of _ (by decide +kernel)) ggX4_write_X1_add
set_option maxRecDepth 20000 in
theorem ggX4_write_X1_arrange : GoodIn wsX4_write wsX1_arrange := goodIn_r _ [37, 25, 38, 39, 40, 41, 42, 23, 43, 44, 45, 46, 47, 30, 48, 31, 49, 50, 51, 52, 53, 54, 55, 56, 57, 58, 59, 8, 9, 10, 11, 12, 13, 60, 61, 62, 63, 64, 65, 66, 67, 68, 73, 74, 75, 76, 77, 78, 79, 80, 81, 82] (by decide +kernel) (by decide +kernel)
set_option maxRecDepth 20000 in
theorem gX4_write_X1_arrange : GoodIn wsX4_write (wsV RX4 71 RX1 yX1_arrange wsX1_arrange) := goodIn_app (goodIn_of _ (by decide +kernel)) ggX4_write_X1_arrange
theorem dX4_write_0 : decode cX4_write 0 = .ok (.iload_n 1, 1) := by decide +kernel
theorem dX4_write_1 : decode cX4_write 1 = .ok (.invokestatic 37, 3) := by decide +kernel
theorem dX4_write_4 : decode cX4_write 4 = .ok (.ifCond .eq 17, 3) := by decide +kernel
theorem dX4_write_7 : decode cX4_write 7 = .ok (.iload_n 2, 1) := by decide +kernel
theorem dX4_write_8 : decode cX4_write 8 = .ok (.invokestatic 48, 3) := by decide +kernel
theorem dX4_write_11 : decode cX4_write 11 = .ok (.ifCond .eq 10, 3) := by decide +kernel
theorem dX4_write_14 : decode cX4_write 14 = .ok (.iload_n 3, 1) := by decide +kernel
theorem dX4_write_15 : decode cX4_write 15 = .ok (.invokestatic 81, 3) := by decide +kernel
theorem dX4_write_18 : decode cX4_write 18 = .ok (.ifCond .ne 13, 3) := by decide +kernel
theorem dX4_write_21 : decode cX4_write 21 = .ok (.new 41, 3) := by decide +kernel
theorem dX4_write_24 : decode cX4_write 24 = .ok (.dup, 1) := by decide +kernel
theorem dX4_write_25 : decode cX4_write 25 = .ok (.ldc 84, 2) := by decide +kernel
theorem dX4_write_27 : decode cX4_write 27 = .ok (.invokespecial 45, 3) := by decide +kernel
theorem dX4_write_30 : decode cX4_write 30 = .ok (.athrow, 1) := by decide +kernel
theorem dX4_write_31 : decode cX4_write 31 = .ok (.aload_n 0, 1) := by decide +kernel
theorem dX4_write_32 : decode cX4_write 32 = .ok (.getfield 19, 3) := by decide +kernel
theorem dX4_write_35 : decode cX4_write 35 = .ok (.invokevirtual 86, 3) := by decide +kernel
theorem dX4_write_38 : decode cX4_write 38 = .ok (.bipush 30, 2) := by decide +kernel
theorem dX4_write_40 : decode cX4_write 40 = .ok (.if_icmp .lt 13, 3) := by decide +kernel
theorem dX4_write_43 : decode cX4_write 43 = .ok (.new 62, 3) := by decide +kernel
theorem dX4_write_46 : decode cX4_write 46 = .ok (.dup, 1) := by decide +kernel
theorem dX4_write_47 : decode cX4_write 47 = .ok (.ldc 90, 2) := by decide +kernel
theorem dX4_write_49 : decode cX4_write 49 = .ok (.invokespecial 66, 3) := by decide +kernel
theorem dX4_write_52 : decode cX4_write 52 = .ok (.athrow, 1) := by decide +kernel
theorem dX4_write_53 : decode cX4_write 53 = .ok (.aload_n 0, 1) := by decide +kernel
theorem dX4_write_54 : decode cX4_write 54 = .ok (.getfield 19, 3) := by decide +kernel
theorem dX4_write_57 : decode cX4_write 57 = .ok (.iload_n 1, 1) := by decide +kernel
theorem dX4_write_58 : decode cX4_write 58 = .ok (.iload_n 2, 1) := by decide +kernel
theorem dX4_write_59 : decode cX4_write 59 = .ok (.iload_n 3, 1) := by decide +kernel
theorem dX4_write_60 : decode cX4_write 60 = .ok (.iload 4, 2) := by decide +kernel
theorem dX4_write_62 : decode cX4_write 62 = .ok (.invokevirtual 92, 3) := by decide +kernel
theorem dX4_write_65 : decode cX4_write 65 = .ok (.istore 5, 2) := by decide +kernel
theorem dX4_write_67 : decode cX4_write 67 = .ok (.aload_n 0, 1) := by decide +kernel
theorem dX4_write_68 : decode cX4_write 68 = .ok (.getfield 19, 3) := by decide +kernel
theorem dX4_write_71 : decode cX4_write 71 = .ok (.aload_n 0, 1) := by decide +kernel
theorem dX4_write_72 : decode cX4_write 72 = .ok (.getfield 10, 3) := by decide +kernel
theorem dX4_write_75 : decode cX4_write 75 = .ok (.invokevirtual 71, 3) := by decide +kernel
theorem dX4_write_78 : decode cX4_write 78 = .ok (.iload 5, 2) := by decide +kernel
theorem dX4_write_80 : decode cX4_write 80 = .ok (.ireturn, 1) := by decide +kernel
set_option maxRecDepth 20000 in
theorem ggX4_lines_X1_size : GoodIn wsX4_lines wsX1_size := goodIn_r _ [6, 7, 12, 13, 14, 15, 16, 17, 18, 19, 20] (by decide +kernel) (by decide +kernel)
set_option maxRecDepth 20000 in
theorem gX4_lines_X1_size : GoodIn wsX4_lines (wsV RX4 86 RX1 yX1_size wsX1_size) := goodIn_app (goodIn_of _ (by decide +kernel)) ggX4_lines_X1_size
theorem dX4_lines_0 : decode cX4_lines 0 = .ok (.aload_n 0, 1) := by decide +kernel
theorem dX4_lines_1 : decode cX4_lines 1 = .ok (.getfield 19, 3) := by decide +kernel
theorem dX4_lines_4 : decode cX4_lines 4 = .ok (.invokevirtual 86, 3) := by decide +kernel
theorem dX4_lines_7 : decode cX4_lines 7 = .ok (.ireturn, 1) := by decide +kernel
set_option maxRecDepth 20000 in
theorem ggX4_mustComeBefore_X1_holds : GoodIn wsX4_mustComeBefore wsX1_holds := goodIn_r _ [8, 9, 26, 27, 28, 29, 30, 31, 32, 33, 34] (by decide +kernel) (by decide +kernel)
set_option maxRecDepth 20000 in
theorem gX4_mustComeBefore_X1_holds : GoodIn wsX4_mustComeBefore (wsV RX4 96 RX1 yX1_holds wsX1_holds) := goodIn_app (goodIn_of _ (by decide +kernel)) ggX4_mustComeBefore_X1_holds
set_option maxRecDepth 20000 in
theorem ggX4_mustComeBefore_X1_isBefore : GoodIn wsX4_mustComeBefore wsX1_isBefore := goodIn_r _ [13, 14, 15, 5, 6, 7, 8, 9, 16, 17, 18, 19, 20, 21, 26, 27, 28, 29, 30, 31, 32, 33, 34] (by decide +kernel) (by decide +kernel)
set_option maxRecDepth 20000 in
theorem gX4_mustComeBefore_X1_isBefore : GoodIn wsX4_mustComeBefore (wsV RX4 104 RX1 yX1_isBefore wsX1_isBefore) := goodIn_app (goodIn_of _ (by decide +kernel)) ggX4_mustComeBefore_X1_isBefore
theorem dX4_mustComeBefore_0 : decode cX4_mustComeBefore 0 = .ok (.aload_n 0, 1) := by decide +kernel
theorem dX4_mustComeBefore_1 : decode cX4_mustComeBefore 1 = .ok (.getfield 19, 3) := by decide +kernel
theorem dX4_mustComeBefore_4 : decode cX4_mustComeBefore 4 = .ok (.iload_n 1, 1) := by decide +kernel
theorem dX4_mustComeBefore_5 : decode cX4_mustComeBefore 5 = .ok (.invokevirtual 96, 3) := by decide +kernel
theorem dX4_mustComeBefore_8 : decode cX4_mustComeBefore 8 = .ok (.ifCond .eq 14, 3) := by decide +kernel
theorem dX4_mustComeBefore_11 : decode cX4_mustComeBefore 11 = .ok (.aload_n 0, 1) := by decide +kernel
theorem dX4_mustComeBefore_12 : decode cX4_mustComeBefore 12 = .ok (.getfield 19, 3) := by decide +kernel
theorem dX4_mustComeBefore_15 : decode cX4_mustComeBefore 15 = .ok (.iload_n 2, 1) := by decide +kernel
theorem dX4_mustComeBefore_16 : decode cX4_mustComeBefore 16 = .ok (.invokevirtual 96, 3) := by decide +kernel
theorem dX4_mustComeBefore_19 : decode cX4_mustComeBefore 19 = .ok (.ifCond .ne 13, 3) := by decide +kernel
theorem dX4_mustComeBefore_22 : decode cX4_mustComeBefore 22 = .ok (.new 99, 3) := by decide +kernel
theorem dX4_mustComeBefore_25 : decode cX4_mustComeBefore 25 = .ok (.dup, 1) := by decide +kernel
theorem dX4_mustComeBefore_26 : decode cX4_mustComeBefore 26 = .ok (.ldc 101, 2) := by decide +kernel
theorem dX4_mustComeBefore_28 : decode cX4_mustComeBefore 28 = .ok (.invokespecial 103, 3) := by decide +kernel
theorem dX4_mustComeBefore_31 : decode cX4_mustComeBefore 31 = .ok (.athrow, 1) := by decide +kernel
theorem dX4_mustComeBefore_32 : decode cX4_mustComeBefore 32 = .ok (.aload_n 0, 1) := by decide +kernel
theorem dX4_mustComeBefore_33 : decode cX4_mustComeBefore 33 = .ok (.getfield 19, 3) := by decide +kernel
theorem dX4_mustComeBefore_36 : decode cX4_mustComeBefore 36 = .ok (.iload_n 1, 1) := by decide +kernel
theorem dX4_mustComeBefore_37 : decode cX4_mustComeBefore 37 = .ok (.iload_n 2, 1) := by decide +kernel
theorem dX4_mustComeBefore_38 : decode cX4_mustComeBefore 38 = .ok (.invokevirtual 104, 3) := by decide +kernel
theorem dX4_mustComeBefore_41 : decode cX4_mustComeBefore 41 = .ok (.ireturn, 1) := by decide +kernel
set_option maxRecDepth 20000 in
theorem ggX4_lineAt_X1_holds : GoodIn wsX4_lineAt wsX1_holds := goodIn_r _ [8, 9, 20, 21, 22, 23, 24, 25, 26, 27, 28] (by decide +kernel) (by decide +kernel)
set_option maxRecDepth 20000 in
theorem gX4_lineAt_X1_holds : GoodIn wsX4_lineAt (wsV RX4 96 RX1 yX1_holds wsX1_holds) := goodIn_app (goodIn_of _ (by decide +kernel)) ggX4_lineAt_X1_holds
set_option maxRecDepth 20000 in
theorem ggX4_lineAt_X1_at : GoodIn wsX4_lineAt wsX1_at := goodIn_r _ [13, 14, 15, 5, 6, 7, 8, 9, 20, 21, 22, 23, 24, 25, 26, 27, 28] (by decide +kernel) (by decide +kernel)
set_option maxRecDepth 20000 in
theorem gX4_lineAt_X1_at : GoodIn wsX4_lineAt (wsV RX4 110 RX1 yX1_at wsX1_at) := goodIn_app (goodIn_of _ (by decide +kernel)) ggX4_lineAt_X1_at
theorem dX4_lineAt_0 : decode cX4_lineAt 0 = .ok (.aload_n 0, 1) := by decide +kernel
theorem dX4_lineAt_1 : decode cX4_lineAt 1 = .ok (.getfield 19, 3) := by decide +kernel
theorem dX4_lineAt_4 : decode cX4_lineAt 4 = .ok (.iload_n 1, 1) := by decide +kernel
theorem dX4_lineAt_5 : decode cX4_lineAt 5 = .ok (.invokevirtual 96, 3) := by decide +kernel
theorem dX4_lineAt_8 : decode cX4_lineAt 8 = .ok (.ifCond .ne 13, 3) := by decide +kernel
theorem dX4_lineAt_11 : decode cX4_lineAt 11 = .ok (.new 99, 3) := by decide +kernel
theorem dX4_lineAt_14 : decode cX4_lineAt 14 = .ok (.dup, 1) := by decide +kernel
theorem dX4_lineAt_15 : decode cX4_lineAt 15 = .ok (.ldc 108, 2) := by decide +kernel
theorem dX4_lineAt_17 : decode cX4_lineAt 17 = .ok (.invokespecial 103, 3) := by decide +kernel
theorem dX4_lineAt_20 : decode cX4_lineAt 20 = .ok (.athrow, 1) := by decide +kernel
theorem dX4_lineAt_21 : decode cX4_lineAt 21 = .ok (.aload_n 0, 1) := by decide +kernel
theorem dX4_lineAt_22 : decode cX4_lineAt 22 = .ok (.getfield 19, 3) := by decide +kernel
theorem dX4_lineAt_25 : decode cX4_lineAt 25 = .ok (.iload_n 1, 1) := by decide +kernel
theorem dX4_lineAt_26 : decode cX4_lineAt 26 = .ok (.invokevirtual 110, 3) := by decide +kernel
theorem dX4_lineAt_29 : decode cX4_lineAt 29 = .ok (.ireturn, 1) := by decide +kernel
set_option maxRecDepth 20000 in
theorem ggX4_orders_X1_size : GoodIn wsX4_orders wsX1_size := goodIn_r _ [8, 9, 27, 28, 29, 30, 31, 32, 33, 34, 35] (by decide +kernel) (by decide +kernel)
set_option maxRecDepth 20000 in
theorem gX4_orders_X1_size : GoodIn wsX4_orders (wsV RX4 86 RX1 yX1_size wsX1_size) := goodIn_app (goodIn_of _ (by decide +kernel)) ggX4_orders_X1_size
set_option maxRecDepth 20000 in
theorem ggX4_orders_X1_countOrders : GoodIn wsX4_orders wsX1_countOrders := goodIn_r _ [13, 9, 14, 15, 16, 17, 18, 19, 20, 7, 21, 22, 27, 28, 29, 30, 31, 32, 33, 34, 35] (by decide +kernel) (by decide +kernel)
set_option maxRecDepth 20000 in
theorem gX4_orders_X1_countOrders : GoodIn wsX4_orders (wsV RX4 116 RX1 yX1_countOrders wsX1_countOrders) := goodIn_app (goodIn_of _ (by decide +kernel)) ggX4_orders_X1_countOrders
theorem dX4_orders_0 : decode cX4_orders 0 = .ok (.aload_n 0, 1) := by decide +kernel
theorem dX4_orders_1 : decode cX4_orders 1 = .ok (.getfield 19, 3) := by decide +kernel
theorem dX4_orders_4 : decode cX4_orders 4 = .ok (.invokevirtual 86, 3) := by decide +kernel
theorem dX4_orders_7 : decode cX4_orders 7 = .ok (.bipush 12, 2) := by decide +kernel
theorem dX4_orders_9 : decode cX4_orders 9 = .ok (.if_icmp .le 13, 3) := by decide +kernel
theorem dX4_orders_12 : decode cX4_orders 12 = .ok (.new 62, 3) := by decide +kernel
theorem dX4_orders_15 : decode cX4_orders 15 = .ok (.dup, 1) := by decide +kernel
theorem dX4_orders_16 : decode cX4_orders 16 = .ok (.ldc 114, 2) := by decide +kernel
theorem dX4_orders_18 : decode cX4_orders 18 = .ok (.invokespecial 66, 3) := by decide +kernel
theorem dX4_orders_21 : decode cX4_orders 21 = .ok (.athrow, 1) := by decide +kernel
theorem dX4_orders_22 : decode cX4_orders 22 = .ok (.aload_n 0, 1) := by decide +kernel
theorem dX4_orders_23 : decode cX4_orders 23 = .ok (.getfield 19, 3) := by decide +kernel
theorem dX4_orders_26 : decode cX4_orders 26 = .ok (.invokevirtual 116, 3) := by decide +kernel
theorem dX4_orders_29 : decode cX4_orders 29 = .ok (.lreturn, 1) := by decide +kernel
set_option maxRecDepth 20000 in
theorem ggX4_argue_X1_holds : GoodIn wsX4_argue wsX1_holds := goodIn_r _ [10, 11, 26, 27, 28, 29, 30, 31, 32, 33, 34] (by decide +kernel) (by decide +kernel)
set_option maxRecDepth 20000 in
theorem gX4_argue_X1_holds : GoodIn wsX4_argue (wsV RX4 96 RX1 yX1_holds wsX1_holds) := goodIn_app (goodIn_of _ (by decide +kernel)) ggX4_argue_X1_holds
set_option maxRecDepth 20000 in
theorem ggX4_argue_X4_isWithin : GoodIn wsX4_argue wsX4_isWithin := goodIn_r _ [15] (by decide +kernel) (by decide +kernel)
set_option maxRecDepth 20000 in
theorem gX4_argue_X4_isWithin : GoodIn wsX4_argue (va_wsS RX4 53 yX4_isWithin wsX4_isWithin) := goodIn_app (goodIn_of _ (by decide +kernel)) ggX4_argue_X4_isWithin
set_option maxRecDepth 20000 in
theorem ggX4_argue_X1_weigh : GoodIn wsX4_argue wsX1_weigh := goodIn_r _ [19, 20, 21, 7, 8, 9, 10, 11, 26, 27, 28, 29, 30, 31, 32, 33, 34] (by decide +kernel) (by decide +kernel)
set_option maxRecDepth 20000 in
theorem gX4_argue_X1_weigh : GoodIn wsX4_argue (wsV RX4 122 RX1 yX1_weigh wsX1_weigh) := goodIn_app (goodIn_of _ (by decide +kernel)) ggX4_argue_X1_weigh
theorem dX4_argue_0 : decode cX4_argue 0 = .ok (.aload_n 0, 1) := by decide +kernel
theorem dX4_argue_1 : decode cX4_argue 1 = .ok (.getfield 19, 3) := by decide +kernel
theorem dX4_argue_4 : decode cX4_argue 4 = .ok (.iload_n 1, 1) := by decide +kernel
theorem dX4_argue_5 : decode cX4_argue 5 = .ok (.invokevirtual 96, 3) := by decide +kernel
theorem dX4_argue_8 : decode cX4_argue 8 = .ok (.ifCond .ne 13, 3) := by decide +kernel
theorem dX4_argue_11 : decode cX4_argue 11 = .ok (.new 99, 3) := by decide +kernel
theorem dX4_argue_14 : decode cX4_argue 14 = .ok (.dup, 1) := by decide +kernel
theorem dX4_argue_15 : decode cX4_argue 15 = .ok (.ldc 101, 2) := by decide +kernel
theorem dX4_argue_17 : decode cX4_argue 17 = .ok (.invokespecial 103, 3) := by decide +kernel
theorem dX4_argue_20 : decode cX4_argue 20 = .ok (.athrow, 1) := by decide +kernel
theorem dX4_argue_21 : decode cX4_argue 21 = .ok (.iload_n 2, 1) := by decide +kernel
theorem dX4_argue_22 : decode cX4_argue 22 = .ok (.iconst 1, 1) := by decide +kernel
theorem dX4_argue_23 : decode cX4_argue 23 = .ok (.bipush 100, 2) := by decide +kernel
theorem dX4_argue_25 : decode cX4_argue 25 = .ok (.invokestatic 53, 3) := by decide +kernel
theorem dX4_argue_28 : decode cX4_argue 28 = .ok (.ifCond .ne 13, 3) := by decide +kernel
theorem dX4_argue_31 : decode cX4_argue 31 = .ok (.new 41, 3) := by decide +kernel
theorem dX4_argue_34 : decode cX4_argue 34 = .ok (.dup, 1) := by decide +kernel
theorem dX4_argue_35 : decode cX4_argue 35 = .ok (.ldc 120, 2) := by decide +kernel
theorem dX4_argue_37 : decode cX4_argue 37 = .ok (.invokespecial 45, 3) := by decide +kernel
theorem dX4_argue_40 : decode cX4_argue 40 = .ok (.athrow, 1) := by decide +kernel
theorem dX4_argue_41 : decode cX4_argue 41 = .ok (.aload_n 0, 1) := by decide +kernel
theorem dX4_argue_42 : decode cX4_argue 42 = .ok (.getfield 19, 3) := by decide +kernel
theorem dX4_argue_45 : decode cX4_argue 45 = .ok (.iload_n 1, 1) := by decide +kernel
theorem dX4_argue_46 : decode cX4_argue 46 = .ok (.iload_n 3, 1) := by decide +kernel
theorem dX4_argue_47 : decode cX4_argue 47 = .ok (.ifCond .eq 7, 3) := by decide +kernel
theorem dX4_argue_50 : decode cX4_argue 50 = .ok (.iload_n 2, 1) := by decide +kernel
theorem dX4_argue_51 : decode cX4_argue 51 = .ok (.goto 5, 3) := by decide +kernel
theorem dX4_argue_54 : decode cX4_argue 54 = .ok (.iload_n 2, 1) := by decide +kernel
theorem dX4_argue_55 : decode cX4_argue 55 = .ok (.ineg, 1) := by decide +kernel
theorem dX4_argue_56 : decode cX4_argue 56 = .ok (.invokevirtual 122, 3) := by decide +kernel
theorem dX4_argue_59 : decode cX4_argue 59 = .ok (.ireturn, 1) := by decide +kernel
set_option maxRecDepth 20000 in
theorem ggX4_isDoubtful_X1_holds : GoodIn wsX4_isDoubtful wsX1_holds := goodIn_r _ [8, 9, 20, 21, 22, 23, 24, 25, 26, 27, 28] (by decide +kernel) (by decide +kernel)
set_option maxRecDepth 20000 in
theorem gX4_isDoubtful_X1_holds : GoodIn wsX4_isDoubtful (wsV RX4 96 RX1 yX1_holds wsX1_holds) := goodIn_app (goodIn_of _ (by decide +kernel)) ggX4_isDoubtful_X1_holds
set_option maxRecDepth 20000 in
theorem ggX4_isDoubtful_X1_isDoubted : GoodIn wsX4_isDoubtful wsX1_isDoubted := goodIn_r _ [13, 14, 15, 5, 6, 7, 8, 9, 20, 21, 22, 23, 24, 25, 26, 27, 28] (by decide +kernel) (by decide +kernel)
set_option maxRecDepth 20000 in
theorem gX4_isDoubtful_X1_isDoubted : GoodIn wsX4_isDoubtful (wsV RX4 125 RX1 yX1_isDoubted wsX1_isDoubted) := goodIn_app (goodIn_of _ (by decide +kernel)) ggX4_isDoubtful_X1_isDoubted
theorem dX4_isDoubtful_0 : decode cX4_isDoubtful 0 = .ok (.aload_n 0, 1) := by decide +kernel
theorem dX4_isDoubtful_1 : decode cX4_isDoubtful 1 = .ok (.getfield 19, 3) := by decide +kernel
theorem dX4_isDoubtful_4 : decode cX4_isDoubtful 4 = .ok (.iload_n 1, 1) := by decide +kernel
theorem dX4_isDoubtful_5 : decode cX4_isDoubtful 5 = .ok (.invokevirtual 96, 3) := by decide +kernel
theorem dX4_isDoubtful_8 : decode cX4_isDoubtful 8 = .ok (.ifCond .ne 13, 3) := by decide +kernel
theorem dX4_isDoubtful_11 : decode cX4_isDoubtful 11 = .ok (.new 99, 3) := by decide +kernel
theorem dX4_isDoubtful_14 : decode cX4_isDoubtful 14 = .ok (.dup, 1) := by decide +kernel
theorem dX4_isDoubtful_15 : decode cX4_isDoubtful 15 = .ok (.ldc 101, 2) := by decide +kernel
theorem dX4_isDoubtful_17 : decode cX4_isDoubtful 17 = .ok (.invokespecial 103, 3) := by decide +kernel
theorem dX4_isDoubtful_20 : decode cX4_isDoubtful 20 = .ok (.athrow, 1) := by decide +kernel
theorem dX4_isDoubtful_21 : decode cX4_isDoubtful 21 = .ok (.aload_n 0, 1) := by decide +kernel
theorem dX4_isDoubtful_22 : decode cX4_isDoubtful 22 = .ok (.getfield 19, 3) := by decide +kernel
theorem dX4_isDoubtful_25 : decode cX4_isDoubtful 25 = .ok (.iload_n 1, 1) := by decide +kernel
theorem dX4_isDoubtful_26 : decode cX4_isDoubtful 26 = .ok (.invokevirtual 125, 3) := by decide +kernel
theorem dX4_isDoubtful_29 : decode cX4_isDoubtful 29 = .ok (.ireturn, 1) := by decide +kernel
set_option maxRecDepth 20000 in
theorem ggX4_story_X1_storySize : GoodIn wsX4_story wsX1_storySize := goodIn_r _ [6, 7, 8, 9, 10, 5, 11, 12, 13, 14, 15, 16, 17, 18, 19, 20, 21, 22, 27, 28, 29, 30, 31, 32, 33, 34, 35] (by decide +kernel) (by decide +kernel)
set_option maxRecDepth 20000 in
theorem gX4_story_X1_storySize : GoodIn wsX4_story (wsV RX4 128 RX1 yX1_storySize wsX1_storySize) := goodIn_app (goodIn_of _ (by decide +kernel)) ggX4_story_X1_storySize
theorem dX4_story_0 : decode cX4_story 0 = .ok (.aload_n 0, 1) := by decide +kernel
theorem dX4_story_1 : decode cX4_story 1 = .ok (.getfield 19, 3) := by decide +kernel
theorem dX4_story_4 : decode cX4_story 4 = .ok (.invokevirtual 128, 3) := by decide +kernel
theorem dX4_story_7 : decode cX4_story 7 = .ok (.ireturn, 1) := by decide +kernel
set_option maxRecDepth 20000 in
theorem ggX4_storyAt_X1_storyLine : GoodIn wsX4_storyAt wsX1_storyLine := goodIn_r _ [8, 9, 10, 11, 12, 7, 13, 14, 15, 16, 17, 18, 19, 20, 21, 22, 23, 24, 29, 30, 31, 32, 33, 34, 35, 36, 37] (by decide +kernel) (by decide +kernel)
set_option maxRecDepth 20000 in
theorem gX4_storyAt_X1_storyLine : GoodIn wsX4_storyAt (wsV RX4 131 RX1 yX1_storyLine wsX1_storyLine) := goodIn_app (goodIn_of _ (by decide +kernel)) ggX4_storyAt_X1_storyLine
theorem dX4_storyAt_0 : decode cX4_storyAt 0 = .ok (.aload_n 0, 1) := by decide +kernel
theorem dX4_storyAt_1 : decode cX4_storyAt 1 = .ok (.getfield 19, 3) := by decide +kernel
theorem dX4_storyAt_4 : decode cX4_storyAt 4 = .ok (.iload_n 1, 1) := by decide +kernel
theorem dX4_storyAt_5 : decode cX4_storyAt 5 = .ok (.invokevirtual 131, 3) := by decide +kernel
theorem dX4_storyAt_8 : decode cX4_storyAt 8 = .ok (.istore_n 2, 1) := by decide +kernel
theorem dX4_storyAt_9 : decode cX4_storyAt 9 = .ok (.iload_n 2, 1) := by decide +kernel
theorem dX4_storyAt_10 : decode cX4_storyAt 10 = .ok (.iconst (-1), 1) := by decide +kernel
theorem dX4_storyAt_11 : decode cX4_storyAt 11 = .ok (.if_icmp .ne 13, 3) := by decide +kernel
theorem dX4_storyAt_14 : decode cX4_storyAt 14 = .ok (.new 99, 3) := by decide +kernel
theorem dX4_storyAt_17 : decode cX4_storyAt 17 = .ok (.dup, 1) := by decide +kernel
theorem dX4_storyAt_18 : decode cX4_storyAt 18 = .ok (.ldc 108, 2) := by decide +kernel
theorem dX4_storyAt_20 : decode cX4_storyAt 20 = .ok (.invokespecial 103, 3) := by decide +kernel
theorem dX4_storyAt_23 : decode cX4_storyAt 23 = .ok (.athrow, 1) := by decide +kernel
theorem dX4_storyAt_24 : decode cX4_storyAt 24 = .ok (.iload_n 2, 1) := by decide +kernel
theorem dX4_storyAt_25 : decode cX4_storyAt 25 = .ok (.ireturn, 1) := by decide +kernel
set_option maxRecDepth 20000 in
theorem ggX4_earliest_X1_holds : GoodIn wsX4_earliest wsX1_holds := goodIn_r _ [9, 10, 37, 38, 39, 40, 41, 42, 43, 44, 45] (by decide +kernel) (by decide +kernel)
set_option maxRecDepth 20000 in
theorem gX4_earliest_X1_holds : GoodIn wsX4_earliest (wsV RX4 96 RX1 yX1_holds wsX1_holds) := goodIn_app (goodIn_of _ (by decide +kernel)) ggX4_earliest_X1_holds
set_option maxRecDepth 20000 in
theorem ggX4_earliest_X1_earliestTime : GoodIn wsX4_earliest wsX1_earliestTime := goodIn_r _ [14, 15, 16, 17, 18, 19, 6, 7, 8, 9, 10, 20, 21, 22, 23, 24, 25, 26, 27, 28, 29, 30, 31, 32, 37, 38, 39, 40, 41, 42, 43, 44, 45, 46] (by decide +kernel) (by decide +kernel)
set_option maxRecDepth 20000 in
theorem gX4_earliest_X1_earliestTime : GoodIn wsX4_earliest (wsV RX4 134 RX1 yX1_earliestTime wsX1_earliestTime) := goodIn_app (goodIn_of _ (by decide +kernel)) ggX4_earliest_X1_earliestTime
theorem dX4_earliest_0 : decode cX4_earliest 0 = .ok (.aload_n 0, 1) := by decide +kernel
theorem dX4_earliest_1 : decode cX4_earliest 1 = .ok (.getfield 19, 3) := by decide +kernel
theorem dX4_earliest_4 : decode cX4_earliest 4 = .ok (.iload_n 1, 1) := by decide +kernel
theorem dX4_earliest_5 : decode cX4_earliest 5 = .ok (.invokevirtual 96, 3) := by decide +kernel
theorem dX4_earliest_8 : decode cX4_earliest 8 = .ok (.ifCond .ne 13, 3) := by decide +kernel
theorem dX4_earliest_11 : decode cX4_earliest 11 = .ok (.new 99, 3) := by decide +kernel
theorem dX4_earliest_14 : decode cX4_earliest 14 = .ok (.dup, 1) := by decide +kernel
theorem dX4_earliest_15 : decode cX4_earliest 15 = .ok (.ldc 101, 2) := by decide +kernel
theorem dX4_earliest_17 : decode cX4_earliest 17 = .ok (.invokespecial 103, 3) := by decide +kernel
theorem dX4_earliest_20 : decode cX4_earliest 20 = .ok (.athrow, 1) := by decide +kernel
theorem dX4_earliest_21 : decode cX4_earliest 21 = .ok (.aload_n 0, 1) := by decide +kernel
theorem dX4_earliest_22 : decode cX4_earliest 22 = .ok (.getfield 19, 3) := by decide +kernel
theorem dX4_earliest_25 : decode cX4_earliest 25 = .ok (.iload_n 1, 1) := by decide +kernel
theorem dX4_earliest_26 : decode cX4_earliest 26 = .ok (.aload_n 0, 1) := by decide +kernel
theorem dX4_earliest_27 : decode cX4_earliest 27 = .ok (.getfield 10, 3) := by decide +kernel
theorem dX4_earliest_30 : decode cX4_earliest 30 = .ok (.invokevirtual 134, 3) := by decide +kernel
theorem dX4_earliest_33 : decode cX4_earliest 33 = .ok (.ireturn, 1) := by decide +kernel
set_option maxRecDepth 20000 in
theorem ggX4_firstOf_X4_isService : GoodIn wsX4_firstOf wsX4_isService := goodIn_r _ [7, 8, 9, 6, 10] (by decide +kernel) (by decide +kernel)
set_option maxRecDepth 20000 in
theorem gX4_firstOf_X4_isService : GoodIn wsX4_firstOf (va_wsS RX4 81 yX4_isService wsX4_isService) := goodIn_app (goodIn_of _ (by decide +kernel)) ggX4_firstOf_X4_isService
set_option maxRecDepth 20000 in
theorem ggX4_firstOf_X1_firstLine : GoodIn wsX4_firstOf wsX1_firstLine := goodIn_r _ [15, 16, 17, 18, 19, 20, 14, 21, 22, 23, 24, 25, 26, 31, 32, 33, 34, 35, 36, 37, 38, 39] (by decide +kernel) (by decide +kernel)
set_option maxRecDepth 20000 in
theorem gX4_firstOf_X1_firstLine : GoodIn wsX4_firstOf (wsV RX4 140 RX1 yX1_firstLine wsX1_firstLine) := goodIn_app (goodIn_of _ (by decide +kernel)) ggX4_firstOf_X1_firstLine
theorem dX4_firstOf_0 : decode cX4_firstOf 0 = .ok (.iload_n 1, 1) := by decide +kernel
theorem dX4_firstOf_1 : decode cX4_firstOf 1 = .ok (.invokestatic 81, 3) := by decide +kernel
theorem dX4_firstOf_4 : decode cX4_firstOf 4 = .ok (.ifCond .ne 13, 3) := by decide +kernel
theorem dX4_firstOf_7 : decode cX4_firstOf 7 = .ok (.new 41, 3) := by decide +kernel
theorem dX4_firstOf_10 : decode cX4_firstOf 10 = .ok (.dup, 1) := by decide +kernel
theorem dX4_firstOf_11 : decode cX4_firstOf 11 = .ok (.ldc 138, 2) := by decide +kernel
theorem dX4_firstOf_13 : decode cX4_firstOf 13 = .ok (.invokespecial 45, 3) := by decide +kernel
theorem dX4_firstOf_16 : decode cX4_firstOf 16 = .ok (.athrow, 1) := by decide +kernel
theorem dX4_firstOf_17 : decode cX4_firstOf 17 = .ok (.aload_n 0, 1) := by decide +kernel
theorem dX4_firstOf_18 : decode cX4_firstOf 18 = .ok (.getfield 19, 3) := by decide +kernel
theorem dX4_firstOf_21 : decode cX4_firstOf 21 = .ok (.iload_n 1, 1) := by decide +kernel
theorem dX4_firstOf_22 : decode cX4_firstOf 22 = .ok (.invokevirtual 140, 3) := by decide +kernel
theorem dX4_firstOf_25 : decode cX4_firstOf 25 = .ok (.ireturn, 1) := by decide +kernel
set_option maxRecDepth 20000 in
theorem ggX4_measure_X4_isService : GoodIn wsX4_measure wsX4_isService := goodIn_r _ [9, 10, 11, 8, 12] (by decide +kernel) (by decide +kernel)
set_option maxRecDepth 20000 in
theorem gX4_measure_X4_isService : GoodIn wsX4_measure (va_wsS RX4 81 yX4_isService wsX4_isService) := goodIn_app (goodIn_of _ (by decide +kernel)) ggX4_measure_X4_isService
set_option maxRecDepth 20000 in
theorem ggX4_measure_X4_isWithin : GoodIn wsX4_measure wsX4_isWithin := goodIn_r _ [12] (by decide +kernel) (by decide +kernel)
set_option maxRecDepth 20000 in
theorem gX4_measure_X4_isWithin : GoodIn wsX4_measure (va_wsS RX4 53 yX4_isWithin wsX4_isWithin) := goodIn_app (goodIn_of _ (by decide +kernel)) ggX4_measure_X4_isWithin
set_option maxRecDepth 20000 in
theorem ggX4_measure_X2_size : GoodIn wsX4_measure wsX2_size := goodIn_r _ [17, 18, 31, 32, 33, 34, 35] (by decide +kernel) (by decide +kernel)
set_option maxRecDepth 20000 in
theorem gX4_measure_X2_size : GoodIn wsX4_measure (wsV RX4 147 RX2 yX2_size wsX2_size) := goodIn_app (goodIn_of _ (by decide +kernel)) ggX4_measure_X2_size
set_option maxRecDepth 20000 in
theorem ggX4_measure_X2_add : GoodIn wsX4_measure wsX2_add := goodIn_r _ [22, 18, 23, 24, 25, 26, 31, 32, 33, 34, 35] (by decide +kernel) (by decide +kernel)
set_option maxRecDepth 20000 in
theorem gX4_measure_X2_add : GoodIn wsX4_measure (wsV RX4 150 RX2 yX2_add wsX2_add) := goodIn_app (goodIn_of _ (by decide +kernel)) ggX4_measure_X2_add
theorem dX4_measure_0 : decode cX4_measure 0 = .ok (.iload_n 1, 1) := by decide +kernel
theorem dX4_measure_1 : decode cX4_measure 1 = .ok (.invokestatic 81, 3) := by decide +kernel
theorem dX4_measure_4 : decode cX4_measure 4 = .ok (.ifCond .eq 14, 3) := by decide +kernel
theorem dX4_measure_7 : decode cX4_measure 7 = .ok (.iload 4, 2) := by decide +kernel
theorem dX4_measure_9 : decode cX4_measure 9 = .ok (.iconst 0, 1) := by decide +kernel
theorem dX4_measure_10 : decode cX4_measure 10 = .ok (.bipush 100, 2) := by decide +kernel
theorem dX4_measure_12 : decode cX4_measure 12 = .ok (.invokestatic 53, 3) := by decide +kernel
theorem dX4_measure_15 : decode cX4_measure 15 = .ok (.ifCond .ne 13, 3) := by decide +kernel
theorem dX4_measure_18 : decode cX4_measure 18 = .ok (.new 41, 3) := by decide +kernel
theorem dX4_measure_21 : decode cX4_measure 21 = .ok (.dup, 1) := by decide +kernel
theorem dX4_measure_22 : decode cX4_measure 22 = .ok (.ldc 143, 2) := by decide +kernel
theorem dX4_measure_24 : decode cX4_measure 24 = .ok (.invokespecial 45, 3) := by decide +kernel
theorem dX4_measure_27 : decode cX4_measure 27 = .ok (.athrow, 1) := by decide +kernel
theorem dX4_measure_28 : decode cX4_measure 28 = .ok (.iload_n 2, 1) := by decide +kernel
theorem dX4_measure_29 : decode cX4_measure 29 = .ok (.iconst 0, 1) := by decide +kernel
theorem dX4_measure_30 : decode cX4_measure 30 = .ok (.sipush 10000, 3) := by decide +kernel
theorem dX4_measure_33 : decode cX4_measure 33 = .ok (.invokestatic 53, 3) := by decide +kernel
theorem dX4_measure_36 : decode cX4_measure 36 = .ok (.ifCond .eq 14, 3) := by decide +kernel
theorem dX4_measure_39 : decode cX4_measure 39 = .ok (.iload_n 3, 1) := by decide +kernel
theorem dX4_measure_40 : decode cX4_measure 40 = .ok (.iload_n 2, 1) := by decide +kernel
theorem dX4_measure_41 : decode cX4_measure 41 = .ok (.sipush 10000, 3) := by decide +kernel
theorem dX4_measure_44 : decode cX4_measure 44 = .ok (.invokestatic 53, 3) := by decide +kernel
theorem dX4_measure_47 : decode cX4_measure 47 = .ok (.ifCond .ne 13, 3) := by decide +kernel
theorem dX4_measure_50 : decode cX4_measure 50 = .ok (.new 41, 3) := by decide +kernel
theorem dX4_measure_53 : decode cX4_measure 53 = .ok (.dup, 1) := by decide +kernel
theorem dX4_measure_54 : decode cX4_measure 54 = .ok (.ldc 145, 2) := by decide +kernel
theorem dX4_measure_56 : decode cX4_measure 56 = .ok (.invokespecial 45, 3) := by decide +kernel
theorem dX4_measure_59 : decode cX4_measure 59 = .ok (.athrow, 1) := by decide +kernel
theorem dX4_measure_60 : decode cX4_measure 60 = .ok (.aload_n 0, 1) := by decide +kernel
theorem dX4_measure_61 : decode cX4_measure 61 = .ok (.getfield 26, 3) := by decide +kernel
theorem dX4_measure_64 : decode cX4_measure 64 = .ok (.invokevirtual 147, 3) := by decide +kernel
theorem dX4_measure_67 : decode cX4_measure 67 = .ok (.bipush 40, 2) := by decide +kernel
theorem dX4_measure_69 : decode cX4_measure 69 = .ok (.if_icmp .lt 13, 3) := by decide +kernel
theorem dX4_measure_72 : decode cX4_measure 72 = .ok (.new 62, 3) := by decide +kernel
theorem dX4_measure_75 : decode cX4_measure 75 = .ok (.dup, 1) := by decide +kernel
theorem dX4_measure_76 : decode cX4_measure 76 = .ok (.ldc 148, 2) := by decide +kernel
theorem dX4_measure_78 : decode cX4_measure 78 = .ok (.invokespecial 66, 3) := by decide +kernel
theorem dX4_measure_81 : decode cX4_measure 81 = .ok (.athrow, 1) := by decide +kernel
theorem dX4_measure_82 : decode cX4_measure 82 = .ok (.aload_n 0, 1) := by decide +kernel
theorem dX4_measure_83 : decode cX4_measure 83 = .ok (.getfield 26, 3) := by decide +kernel
theorem dX4_measure_86 : decode cX4_measure 86 = .ok (.iload_n 1, 1) := by decide +kernel
theorem dX4_measure_87 : decode cX4_measure 87 = .ok (.iload_n 2, 1) := by decide +kernel
theorem dX4_measure_88 : decode cX4_measure 88 = .ok (.iload_n 3, 1) := by decide +kernel
theorem dX4_measure_89 : decode cX4_measure 89 = .ok (.iload 4, 2) := by decide +kernel
theorem dX4_measure_91 : decode cX4_measure 91 = .ok (.invokevirtual 150, 3) := by decide +kernel
theorem dX4_measure_94 : decode cX4_measure 94 = .ok (.ireturn, 1) := by decide +kernel
set_option maxRecDepth 20000 in
theorem ggX4_impact_X4_isService : GoodIn wsX4_impact wsX4_isService := goodIn_r _ [7, 8, 9, 6, 10] (by decide +kernel) (by decide +kernel)
set_option maxRecDepth 20000 in
theorem gX4_impact_X4_isService : GoodIn wsX4_impact (va_wsS RX4 81 yX4_isService wsX4_isService) := goodIn_app (goodIn_of _ (by decide +kernel)) ggX4_impact_X4_isService
set_option maxRecDepth 20000 in
theorem ggX4_impact_X2_sumOfWorst : GoodIn wsX4_impact wsX2_sumOfWorst := goodIn_r _ [15, 16, 17, 18, 19, 14, 20, 21, 22, 23, 24, 25, 26, 27, 28, 29, 30, 31, 32, 33, 34, 35, 9, 6, 10, 40, 41, 42, 43, 44] (by decide +kernel) (by decide +kernel)
set_option maxRecDepth 20000 in
theorem gX4_impact_X2_sumOfWorst : GoodIn wsX4_impact (wsV RX4 153 RX2 yX2_sumOfWorst wsX2_sumOfWorst) := goodIn_app (goodIn_of _ (by decide +kernel)) ggX4_impact_X2_sumOfWorst
theorem dX4_impact_0 : decode cX4_impact 0 = .ok (.iload_n 1, 1) := by decide +kernel
theorem dX4_impact_1 : decode cX4_impact 1 = .ok (.invokestatic 81, 3) := by decide +kernel
theorem dX4_impact_4 : decode cX4_impact 4 = .ok (.ifCond .ne 13, 3) := by decide +kernel
theorem dX4_impact_7 : decode cX4_impact 7 = .ok (.new 41, 3) := by decide +kernel
theorem dX4_impact_10 : decode cX4_impact 10 = .ok (.dup, 1) := by decide +kernel
theorem dX4_impact_11 : decode cX4_impact 11 = .ok (.ldc 138, 2) := by decide +kernel
theorem dX4_impact_13 : decode cX4_impact 13 = .ok (.invokespecial 45, 3) := by decide +kernel
theorem dX4_impact_16 : decode cX4_impact 16 = .ok (.athrow, 1) := by decide +kernel
theorem dX4_impact_17 : decode cX4_impact 17 = .ok (.aload_n 0, 1) := by decide +kernel
theorem dX4_impact_18 : decode cX4_impact 18 = .ok (.getfield 26, 3) := by decide +kernel
theorem dX4_impact_21 : decode cX4_impact 21 = .ok (.iload_n 1, 1) := by decide +kernel
theorem dX4_impact_22 : decode cX4_impact 22 = .ok (.invokevirtual 153, 3) := by decide +kernel
theorem dX4_impact_25 : decode cX4_impact 25 = .ok (.ireturn, 1) := by decide +kernel
set_option maxRecDepth 20000 in
theorem ggX4_minutes_X2_failedMinutes : GoodIn wsX4_minutes wsX2_failedMinutes := goodIn_r _ [6, 7, 8, 9, 10, 5, 11, 12, 13, 14, 15, 16, 17, 18, 19, 20, 21, 22, 23, 24, 25, 26, 27, 28, 29, 34, 35, 36, 37, 38] (by decide +kernel) (by decide +kernel)
set_option maxRecDepth 20000 in
theorem gX4_minutes_X2_failedMinutes : GoodIn wsX4_minutes (wsV RX4 156 RX2 yX2_failedMinutes wsX2_failedMinutes) := goodIn_app (goodIn_of _ (by decide +kernel)) ggX4_minutes_X2_failedMinutes
theorem dX4_minutes_0 : decode cX4_minutes 0 = .ok (.aload_n 0, 1) := by decide +kernel
theorem dX4_minutes_1 : decode cX4_minutes 1 = .ok (.getfield 26, 3) := by decide +kernel
theorem dX4_minutes_4 : decode cX4_minutes 4 = .ok (.invokevirtual 156, 3) := by decide +kernel
theorem dX4_minutes_7 : decode cX4_minutes 7 = .ok (.ireturn, 1) := by decide +kernel
set_option maxRecDepth 20000 in
theorem ggX4_addCause_X0_size : GoodIn wsX4_addCause wsX0_size := goodIn_r _ [8, 9, 22, 23, 24] (by decide +kernel) (by decide +kernel)
set_option maxRecDepth 20000 in
theorem gX4_addCause_X0_size : GoodIn wsX4_addCause (wsV RX4 159 RX0 yX0_size wsX0_size) := goodIn_app (goodIn_of _ (by decide +kernel)) ggX4_addCause_X0_size
set_option maxRecDepth 20000 in
theorem ggX4_addCause_X0_add : GoodIn wsX4_addCause wsX0_add := goodIn_r _ [13, 9, 14, 15, 16, 17, 22, 23, 24] (by decide +kernel) (by decide +kernel)
set_option maxRecDepth 20000 in
theorem gX4_addCause_X0_add : GoodIn wsX4_addCause (wsV RX4 162 RX0 yX0_add wsX0_add) := goodIn_app (goodIn_of _ (by decide +kernel)) ggX4_addCause_X0_add
theorem dX4_addCause_0 : decode cX4_addCause 0 = .ok (.aload_n 0, 1) := by decide +kernel
theorem dX4_addCause_1 : decode cX4_addCause 1 = .ok (.getfield 33, 3) := by decide +kernel
theorem dX4_addCause_4 : decode cX4_addCause 4 = .ok (.invokevirtual 159, 3) := by decide +kernel
theorem dX4_addCause_7 : decode cX4_addCause 7 = .ok (.bipush 16, 2) := by decide +kernel
theorem dX4_addCause_9 : decode cX4_addCause 9 = .ok (.if_icmp .lt 13, 3) := by decide +kernel
theorem dX4_addCause_12 : decode cX4_addCause 12 = .ok (.new 62, 3) := by decide +kernel
theorem dX4_addCause_15 : decode cX4_addCause 15 = .ok (.dup, 1) := by decide +kernel
theorem dX4_addCause_16 : decode cX4_addCause 16 = .ok (.ldc 160, 2) := by decide +kernel
theorem dX4_addCause_18 : decode cX4_addCause 18 = .ok (.invokespecial 66, 3) := by decide +kernel
theorem dX4_addCause_21 : decode cX4_addCause 21 = .ok (.athrow, 1) := by decide +kernel
theorem dX4_addCause_22 : decode cX4_addCause 22 = .ok (.aload_n 0, 1) := by decide +kernel
theorem dX4_addCause_23 : decode cX4_addCause 23 = .ok (.getfield 33, 3) := by decide +kernel
theorem dX4_addCause_26 : decode cX4_addCause 26 = .ok (.invokevirtual 162, 3) := by decide +kernel
theorem dX4_addCause_29 : decode cX4_addCause 29 = .ok (.ireturn, 1) := by decide +kernel
set_option maxRecDepth 20000 in
theorem ggX4_argueReason_X0_holds : GoodIn wsX4_argueReason wsX0_holds := goodIn_r _ [12, 13, 49, 50, 51] (by decide +kernel) (by decide +kernel)
set_option maxRecDepth 20000 in
theorem gX4_argueReason_X0_holds : GoodIn wsX4_argueReason (wsV RX4 164 RX0 yX0_holds wsX0_holds) := goodIn_app (goodIn_of _ (by decide +kernel)) ggX4_argueReason_X0_holds
set_option maxRecDepth 20000 in
theorem ggX4_argueReason_X4_isWithin : GoodIn wsX4_argueReason wsX4_isWithin := goodIn_r _ [17] (by decide +kernel) (by decide +kernel)
set_option maxRecDepth 20000 in
theorem gX4_argueReason_X4_isWithin : GoodIn wsX4_argueReason (va_wsS RX4 53 yX4_isWithin wsX4_isWithin) := goodIn_app (goodIn_of _ (by decide +kernel)) ggX4_argueReason_X4_isWithin
set_option maxRecDepth 20000 in
theorem ggX4_argueReason_X0_isBecauseOf : GoodIn wsX4_argueReason wsX0_isBecauseOf := goodIn_r _ [21, 13, 22, 16, 23, 24, 25, 26, 11, 27, 28, 29, 30, 31, 32, 33, 34, 35, 36, 37, 38, 39, 40, 9, 10, 12, 49, 50, 51] (by decide +kernel) (by decide +kernel)
set_option maxRecDepth 20000 in
theorem gX4_argueReason_X0_isBecauseOf : GoodIn wsX4_argueReason (wsV RX4 169 RX0 yX0_isBecauseOf wsX0_isBecauseOf) := goodIn_app (goodIn_of _ (by decide +kernel)) ggX4_argueReason_X0_isBecauseOf
set_option maxRecDepth 20000 in
theorem ggX4_argueReason_X0_replaceWeight : GoodIn wsX4_argueReason wsX0_replaceWeight := goodIn_r _ [44, 39, 40, 9, 10, 11, 12, 13, 49, 50, 51] (by decide +kernel) (by decide +kernel)
set_option maxRecDepth 20000 in
theorem gX4_argueReason_X0_replaceWeight : GoodIn wsX4_argueReason (wsV RX4 174 RX0 yX0_replaceWeight wsX0_replaceWeight) := goodIn_app (goodIn_of _ (by decide +kernel)) ggX4_argueReason_X0_replaceWeight
theorem dX4_argueReason_0 : decode cX4_argueReason 0 = .ok (.aload_n 0, 1) := by decide +kernel
theorem dX4_argueReason_1 : decode cX4_argueReason 1 = .ok (.getfield 33, 3) := by decide +kernel
theorem dX4_argueReason_4 : decode cX4_argueReason 4 = .ok (.iload_n 1, 1) := by decide +kernel
theorem dX4_argueReason_5 : decode cX4_argueReason 5 = .ok (.invokevirtual 164, 3) := by decide +kernel
theorem dX4_argueReason_8 : decode cX4_argueReason 8 = .ok (.ifCond .eq 14, 3) := by decide +kernel
theorem dX4_argueReason_11 : decode cX4_argueReason 11 = .ok (.aload_n 0, 1) := by decide +kernel
theorem dX4_argueReason_12 : decode cX4_argueReason 12 = .ok (.getfield 33, 3) := by decide +kernel
theorem dX4_argueReason_15 : decode cX4_argueReason 15 = .ok (.iload_n 2, 1) := by decide +kernel
theorem dX4_argueReason_16 : decode cX4_argueReason 16 = .ok (.invokevirtual 164, 3) := by decide +kernel
theorem dX4_argueReason_19 : decode cX4_argueReason 19 = .ok (.ifCond .ne 13, 3) := by decide +kernel
theorem dX4_argueReason_22 : decode cX4_argueReason 22 = .ok (.new 99, 3) := by decide +kernel
theorem dX4_argueReason_25 : decode cX4_argueReason 25 = .ok (.dup, 1) := by decide +kernel
theorem dX4_argueReason_26 : decode cX4_argueReason 26 = .ok (.ldc 165, 2) := by decide +kernel
theorem dX4_argueReason_28 : decode cX4_argueReason 28 = .ok (.invokespecial 103, 3) := by decide +kernel
theorem dX4_argueReason_31 : decode cX4_argueReason 31 = .ok (.athrow, 1) := by decide +kernel
theorem dX4_argueReason_32 : decode cX4_argueReason 32 = .ok (.iload_n 1, 1) := by decide +kernel
theorem dX4_argueReason_33 : decode cX4_argueReason 33 = .ok (.iload_n 2, 1) := by decide +kernel
theorem dX4_argueReason_34 : decode cX4_argueReason 34 = .ok (.if_icmp .eq 13, 3) := by decide +kernel
theorem dX4_argueReason_37 : decode cX4_argueReason 37 = .ok (.iload_n 3, 1) := by decide +kernel
theorem dX4_argueReason_38 : decode cX4_argueReason 38 = .ok (.iconst 0, 1) := by decide +kernel
theorem dX4_argueReason_39 : decode cX4_argueReason 39 = .ok (.bipush 100, 2) := by decide +kernel
theorem dX4_argueReason_41 : decode cX4_argueReason 41 = .ok (.invokestatic 53, 3) := by decide +kernel
theorem dX4_argueReason_44 : decode cX4_argueReason 44 = .ok (.ifCond .ne 13, 3) := by decide +kernel
theorem dX4_argueReason_47 : decode cX4_argueReason 47 = .ok (.new 41, 3) := by decide +kernel
theorem dX4_argueReason_50 : decode cX4_argueReason 50 = .ok (.dup, 1) := by decide +kernel
theorem dX4_argueReason_51 : decode cX4_argueReason 51 = .ok (.ldc 167, 2) := by decide +kernel
theorem dX4_argueReason_53 : decode cX4_argueReason 53 = .ok (.invokespecial 45, 3) := by decide +kernel
theorem dX4_argueReason_56 : decode cX4_argueReason 56 = .ok (.athrow, 1) := by decide +kernel
theorem dX4_argueReason_57 : decode cX4_argueReason 57 = .ok (.iload_n 3, 1) := by decide +kernel
theorem dX4_argueReason_58 : decode cX4_argueReason 58 = .ok (.ifCond .le 25, 3) := by decide +kernel
theorem dX4_argueReason_61 : decode cX4_argueReason 61 = .ok (.aload_n 0, 1) := by decide +kernel
theorem dX4_argueReason_62 : decode cX4_argueReason 62 = .ok (.getfield 33, 3) := by decide +kernel
theorem dX4_argueReason_65 : decode cX4_argueReason 65 = .ok (.iload_n 2, 1) := by decide +kernel
theorem dX4_argueReason_66 : decode cX4_argueReason 66 = .ok (.iload_n 1, 1) := by decide +kernel
theorem dX4_argueReason_67 : decode cX4_argueReason 67 = .ok (.invokevirtual 169, 3) := by decide +kernel
theorem dX4_argueReason_70 : decode cX4_argueReason 70 = .ok (.ifCond .eq 13, 3) := by decide +kernel
theorem dX4_argueReason_73 : decode cX4_argueReason 73 = .ok (.new 62, 3) := by decide +kernel
theorem dX4_argueReason_76 : decode cX4_argueReason 76 = .ok (.dup, 1) := by decide +kernel
theorem dX4_argueReason_77 : decode cX4_argueReason 77 = .ok (.ldc 172, 2) := by decide +kernel
theorem dX4_argueReason_79 : decode cX4_argueReason 79 = .ok (.invokespecial 66, 3) := by decide +kernel
theorem dX4_argueReason_82 : decode cX4_argueReason 82 = .ok (.athrow, 1) := by decide +kernel
theorem dX4_argueReason_83 : decode cX4_argueReason 83 = .ok (.aload_n 0, 1) := by decide +kernel
theorem dX4_argueReason_84 : decode cX4_argueReason 84 = .ok (.getfield 33, 3) := by decide +kernel
theorem dX4_argueReason_87 : decode cX4_argueReason 87 = .ok (.iload_n 1, 1) := by decide +kernel
theorem dX4_argueReason_88 : decode cX4_argueReason 88 = .ok (.iload_n 2, 1) := by decide +kernel
theorem dX4_argueReason_89 : decode cX4_argueReason 89 = .ok (.iload_n 3, 1) := by decide +kernel
theorem dX4_argueReason_90 : decode cX4_argueReason 90 = .ok (.invokevirtual 174, 3) := by decide +kernel
theorem dX4_argueReason_93 : decode cX4_argueReason 93 = .ok (.ireturn, 1) := by decide +kernel
set_option maxRecDepth 20000 in
theorem ggX4_setStanding_X0_holds : GoodIn wsX4_setStanding wsX0_holds := goodIn_r _ [8, 9, 25, 26, 27] (by decide +kernel) (by decide +kernel)
set_option maxRecDepth 20000 in
theorem gX4_setStanding_X0_holds : GoodIn wsX4_setStanding (wsV RX4 164 RX0 yX0_holds wsX0_holds) := goodIn_app (goodIn_of _ (by decide +kernel)) ggX4_setStanding_X0_holds
set_option maxRecDepth 20000 in
theorem ggX4_setStanding_X0_replaceStanding : GoodIn wsX4_setStanding wsX0_replaceStanding := goodIn_r _ [13, 14, 15, 16, 17, 18, 19, 20, 25, 26, 27] (by decide +kernel) (by decide +kernel)
set_option maxRecDepth 20000 in
theorem gX4_setStanding_X0_replaceStanding : GoodIn wsX4_setStanding (wsV RX4 178 RX0 yX0_replaceStanding wsX0_replaceStanding) := goodIn_app (goodIn_of _ (by decide +kernel)) ggX4_setStanding_X0_replaceStanding
theorem dX4_setStanding_0 : decode cX4_setStanding 0 = .ok (.aload_n 0, 1) := by decide +kernel
theorem dX4_setStanding_1 : decode cX4_setStanding 1 = .ok (.getfield 33, 3) := by decide +kernel
theorem dX4_setStanding_4 : decode cX4_setStanding 4 = .ok (.iload_n 1, 1) := by decide +kernel
theorem dX4_setStanding_5 : decode cX4_setStanding 5 = .ok (.invokevirtual 164, 3) := by decide +kernel
theorem dX4_setStanding_8 : decode cX4_setStanding 8 = .ok (.ifCond .ne 13, 3) := by decide +kernel
theorem dX4_setStanding_11 : decode cX4_setStanding 11 = .ok (.new 99, 3) := by decide +kernel
theorem dX4_setStanding_14 : decode cX4_setStanding 14 = .ok (.dup, 1) := by decide +kernel
theorem dX4_setStanding_15 : decode cX4_setStanding 15 = .ok (.ldc 165, 2) := by decide +kernel
theorem dX4_setStanding_17 : decode cX4_setStanding 17 = .ok (.invokespecial 103, 3) := by decide +kernel
theorem dX4_setStanding_20 : decode cX4_setStanding 20 = .ok (.athrow, 1) := by decide +kernel
theorem dX4_setStanding_21 : decode cX4_setStanding 21 = .ok (.aload_n 0, 1) := by decide +kernel
theorem dX4_setStanding_22 : decode cX4_setStanding 22 = .ok (.getfield 33, 3) := by decide +kernel
theorem dX4_setStanding_25 : decode cX4_setStanding 25 = .ok (.iload_n 1, 1) := by decide +kernel
theorem dX4_setStanding_26 : decode cX4_setStanding 26 = .ok (.iload_n 2, 1) := by decide +kernel
theorem dX4_setStanding_27 : decode cX4_setStanding 27 = .ok (.invokevirtual 178, 3) := by decide +kernel
theorem dX4_setStanding_30 : decode cX4_setStanding 30 = .ok (.ireturn, 1) := by decide +kernel
set_option maxRecDepth 20000 in
theorem ggX4_roots_X0_holds : GoodIn wsX4_roots wsX0_holds := goodIn_r _ [8, 9, 39, 40, 41] (by decide +kernel) (by decide +kernel)
set_option maxRecDepth 20000 in
theorem gX4_roots_X0_holds : GoodIn wsX4_roots (wsV RX4 164 RX0 yX0_holds wsX0_holds) := goodIn_app (goodIn_of _ (by decide +kernel)) ggX4_roots_X0_holds
set_option maxRecDepth 20000 in
theorem ggX4_roots_X0_rootsUnder : GoodIn wsX4_roots wsX0_rootsUnder := goodIn_r _ [13, 14, 9, 15, 16, 17, 18, 19, 20, 21, 22, 23, 7, 24, 25, 26, 27, 28, 29, 30, 31, 32, 33, 34, 5, 6, 8, 39, 40, 41] (by decide +kernel) (by decide +kernel)
set_option maxRecDepth 20000 in
theorem gX4_roots_X0_rootsUnder : GoodIn wsX4_roots (wsV RX4 182 RX0 yX0_rootsUnder wsX0_rootsUnder) := goodIn_app (goodIn_of _ (by decide +kernel)) ggX4_roots_X0_rootsUnder
theorem dX4_roots_0 : decode cX4_roots 0 = .ok (.aload_n 0, 1) := by decide +kernel
theorem dX4_roots_1 : decode cX4_roots 1 = .ok (.getfield 33, 3) := by decide +kernel
theorem dX4_roots_4 : decode cX4_roots 4 = .ok (.iload_n 1, 1) := by decide +kernel
theorem dX4_roots_5 : decode cX4_roots 5 = .ok (.invokevirtual 164, 3) := by decide +kernel
theorem dX4_roots_8 : decode cX4_roots 8 = .ok (.ifCond .ne 13, 3) := by decide +kernel
theorem dX4_roots_11 : decode cX4_roots 11 = .ok (.new 99, 3) := by decide +kernel
theorem dX4_roots_14 : decode cX4_roots 14 = .ok (.dup, 1) := by decide +kernel
theorem dX4_roots_15 : decode cX4_roots 15 = .ok (.ldc 165, 2) := by decide +kernel
theorem dX4_roots_17 : decode cX4_roots 17 = .ok (.invokespecial 103, 3) := by decide +kernel
theorem dX4_roots_20 : decode cX4_roots 20 = .ok (.athrow, 1) := by decide +kernel
theorem dX4_roots_21 : decode cX4_roots 21 = .ok (.aload_n 0, 1) := by decide +kernel
theorem dX4_roots_22 : decode cX4_roots 22 = .ok (.getfield 33, 3) := by decide +kernel
theorem dX4_roots_25 : decode cX4_roots 25 = .ok (.iload_n 1, 1) := by decide +kernel
theorem dX4_roots_26 : decode cX4_roots 26 = .ok (.invokevirtual 182, 3) := by decide +kernel
theorem dX4_roots_29 : decode cX4_roots 29 = .ok (.ireturn, 1) := by decide +kernel
set_option maxRecDepth 20000 in
theorem ggX4_mainReason_X0_holds : GoodIn wsX4_mainReason wsX0_holds := goodIn_r _ [8, 9, 31, 32, 33] (by decide +kernel) (by decide +kernel)
set_option maxRecDepth 20000 in
theorem gX4_mainReason_X0_holds : GoodIn wsX4_mainReason (wsV RX4 164 RX0 yX0_holds wsX0_holds) := goodIn_app (goodIn_of _ (by decide +kernel)) ggX4_mainReason_X0_holds
set_option maxRecDepth 20000 in
theorem ggX4_mainReason_X0_weightiestReason : GoodIn wsX4_mainReason wsX0_weightiestReason := goodIn_r _ [13, 9, 14, 15, 16, 17, 7, 18, 19, 20, 5, 6, 8, 21, 22, 23, 24, 25, 26, 31, 32, 33] (by decide +kernel) (by decide +kernel)
set_option maxRecDepth 20000 in
theorem gX4_mainReason_X0_weightiestReason : GoodIn wsX4_mainReason (wsV RX4 185 RX0 yX0_weightiestReason wsX0_weightiestReason) := goodIn_app (goodIn_of _ (by decide +kernel)) ggX4_mainReason_X0_weightiestReason
theorem dX4_mainReason_0 : decode cX4_mainReason 0 = .ok (.aload_n 0, 1) := by decide +kernel
theorem dX4_mainReason_1 : decode cX4_mainReason 1 = .ok (.getfield 33, 3) := by decide +kernel
theorem dX4_mainReason_4 : decode cX4_mainReason 4 = .ok (.iload_n 1, 1) := by decide +kernel
theorem dX4_mainReason_5 : decode cX4_mainReason 5 = .ok (.invokevirtual 164, 3) := by decide +kernel
theorem dX4_mainReason_8 : decode cX4_mainReason 8 = .ok (.ifCond .ne 13, 3) := by decide +kernel
theorem dX4_mainReason_11 : decode cX4_mainReason 11 = .ok (.new 99, 3) := by decide +kernel
theorem dX4_mainReason_14 : decode cX4_mainReason 14 = .ok (.dup, 1) := by decide +kernel
theorem dX4_mainReason_15 : decode cX4_mainReason 15 = .ok (.ldc 165, 2) := by decide +kernel
theorem dX4_mainReason_17 : decode cX4_mainReason 17 = .ok (.invokespecial 103, 3) := by decide +kernel
theorem dX4_mainReason_20 : decode cX4_mainReason 20 = .ok (.athrow, 1) := by decide +kernel
theorem dX4_mainReason_21 : decode cX4_mainReason 21 = .ok (.aload_n 0, 1) := by decide +kernel
theorem dX4_mainReason_22 : decode cX4_mainReason 22 = .ok (.getfield 33, 3) := by decide +kernel
theorem dX4_mainReason_25 : decode cX4_mainReason 25 = .ok (.iload_n 1, 1) := by decide +kernel
theorem dX4_mainReason_26 : decode cX4_mainReason 26 = .ok (.invokevirtual 185, 3) := by decide +kernel
theorem dX4_mainReason_29 : decode cX4_mainReason 29 = .ok (.ireturn, 1) := by decide +kernel
theorem dX4_isWithin_0 : decode cX4_isWithin 0 = .ok (.iload_n 0, 1) := by decide +kernel
theorem dX4_isWithin_1 : decode cX4_isWithin 1 = .ok (.iload_n 1, 1) := by decide +kernel
theorem dX4_isWithin_2 : decode cX4_isWithin 2 = .ok (.if_icmp .lt 12, 3) := by decide +kernel
theorem dX4_isWithin_5 : decode cX4_isWithin 5 = .ok (.iload_n 0, 1) := by decide +kernel
theorem dX4_isWithin_6 : decode cX4_isWithin 6 = .ok (.iload_n 2, 1) := by decide +kernel
theorem dX4_isWithin_7 : decode cX4_isWithin 7 = .ok (.if_icmp .gt 7, 3) := by decide +kernel
theorem dX4_isWithin_10 : decode cX4_isWithin 10 = .ok (.iconst 1, 1) := by decide +kernel
theorem dX4_isWithin_11 : decode cX4_isWithin 11 = .ok (.goto 4, 3) := by decide +kernel
theorem dX4_isWithin_14 : decode cX4_isWithin 14 = .ok (.iconst 0, 1) := by decide +kernel
theorem dX4_isWithin_15 : decode cX4_isWithin 15 = .ok (.ireturn, 1) := by decide +kernel
set_option maxRecDepth 20000 in
theorem ggX4_isClock_X4_isWithin : GoodIn wsX4_isClock wsX4_isWithin := goodIn_r _ [4] (by decide +kernel) (by decide +kernel)
set_option maxRecDepth 20000 in
theorem gX4_isClock_X4_isWithin : GoodIn wsX4_isClock (va_wsS RX4 53 yX4_isWithin wsX4_isWithin) := goodIn_app (goodIn_of _ (by decide +kernel)) ggX4_isClock_X4_isWithin
theorem dX4_isClock_0 : decode cX4_isClock 0 = .ok (.iload_n 0, 1) := by decide +kernel
theorem dX4_isClock_1 : decode cX4_isClock 1 = .ok (.iconst 0, 1) := by decide +kernel
theorem dX4_isClock_2 : decode cX4_isClock 2 = .ok (.iconst 4, 1) := by decide +kernel
theorem dX4_isClock_3 : decode cX4_isClock 3 = .ok (.invokestatic 53, 3) := by decide +kernel
theorem dX4_isClock_6 : decode cX4_isClock 6 = .ok (.ireturn, 1) := by decide +kernel
set_option maxRecDepth 20000 in
theorem ggX4_isReading_X4_isWithin : GoodIn wsX4_isReading wsX4_isWithin := goodIn_r _ [4] (by decide +kernel) (by decide +kernel)
set_option maxRecDepth 20000 in
theorem gX4_isReading_X4_isWithin : GoodIn wsX4_isReading (va_wsS RX4 53 yX4_isWithin wsX4_isWithin) := goodIn_app (goodIn_of _ (by decide +kernel)) ggX4_isReading_X4_isWithin
theorem dX4_isReading_0 : decode cX4_isReading 0 = .ok (.iload_n 0, 1) := by decide +kernel
theorem dX4_isReading_1 : decode cX4_isReading 1 = .ok (.iconst 0, 1) := by decide +kernel
theorem dX4_isReading_2 : decode cX4_isReading 2 = .ok (.sipush 10000, 3) := by decide +kernel
theorem dX4_isReading_5 : decode cX4_isReading 5 = .ok (.invokestatic 53, 3) := by decide +kernel
theorem dX4_isReading_8 : decode cX4_isReading 8 = .ok (.ireturn, 1) := by decide +kernel
set_option maxRecDepth 20000 in
theorem ggX4_isService_X4_isWithin : GoodIn wsX4_isService wsX4_isWithin := goodIn_r _ [4] (by decide +kernel) (by decide +kernel)
set_option maxRecDepth 20000 in
theorem gX4_isService_X4_isWithin : GoodIn wsX4_isService (va_wsS RX4 53 yX4_isWithin wsX4_isWithin) := goodIn_app (goodIn_of _ (by decide +kernel)) ggX4_isService_X4_isWithin
theorem dX4_isService_0 : decode cX4_isService 0 = .ok (.iload_n 0, 1) := by decide +kernel
theorem dX4_isService_1 : decode cX4_isService 1 = .ok (.iconst 0, 1) := by decide +kernel
theorem dX4_isService_2 : decode cX4_isService 2 = .ok (.iconst 5, 1) := by decide +kernel
theorem dX4_isService_3 : decode cX4_isService 3 = .ok (.invokestatic 53, 3) := by decide +kernel
theorem dX4_isService_6 : decode cX4_isService 6 = .ok (.ireturn, 1) := by decide +kernel
theorem dX4_bit_0 : decode cX4_bit 0 = .ok (.iconst 1, 1) := by decide +kernel
theorem dX4_bit_1 : decode cX4_bit 1 = .ok (.iload_n 0, 1) := by decide +kernel
theorem dX4_bit_2 : decode cX4_bit 2 = .ok (.ishl, 1) := by decide +kernel
theorem dX4_bit_3 : decode cX4_bit 3 = .ok (.ireturn, 1) := by decide +kernel
set_option maxRecDepth 20000 in
theorem ggX4_hasBit_X4_bit : GoodIn wsX4_hasBit wsX4_bit := goodIn_r _ [4] (by decide +kernel) (by decide +kernel)
set_option maxRecDepth 20000 in
theorem gX4_hasBit_X4_bit : GoodIn wsX4_hasBit (va_wsS RX4 188 yX4_bit wsX4_bit) := goodIn_app (goodIn_of _ (by decide +kernel)) ggX4_hasBit_X4_bit
theorem dX4_hasBit_0 : decode cX4_hasBit 0 = .ok (.iload_n 0, 1) := by decide +kernel
theorem dX4_hasBit_1 : decode cX4_hasBit 1 = .ok (.iload_n 1, 1) := by decide +kernel
theorem dX4_hasBit_2 : decode cX4_hasBit 2 = .ok (.invokestatic 188, 3) := by decide +kernel
theorem dX4_hasBit_5 : decode cX4_hasBit 5 = .ok (.iand, 1) := by decide +kernel
theorem dX4_hasBit_6 : decode cX4_hasBit 6 = .ok (.ifCond .eq 7, 3) := by decide +kernel
theorem dX4_hasBit_9 : decode cX4_hasBit 9 = .ok (.iconst 1, 1) := by decide +kernel
theorem dX4_hasBit_10 : decode cX4_hasBit 10 = .ok (.goto 4, 3) := by decide +kernel
theorem dX4_hasBit_13 : decode cX4_hasBit 13 = .ok (.iconst 0, 1) := by decide +kernel
theorem dX4_hasBit_14 : decode cX4_hasBit 14 = .ok (.ireturn, 1) := by decide +kernel
theorem dX5_init_0 : decode cX5_init 0 = .ok (.aload_n 0, 1) := by decide +kernel
theorem dX5_init_1 : decode cX5_init 1 = .ok (.invokespecial 1, 3) := by decide +kernel
theorem dX5_init_4 : decode cX5_init 4 = .ok (.aload_n 0, 1) := by decide +kernel
theorem dX5_init_5 : decode cX5_init 5 = .ok (.bipush 25, 2) := by decide +kernel
theorem dX5_init_7 : decode cX5_init 7 = .ok (.newarray .int, 2) := by decide +kernel
theorem dX5_init_9 : decode cX5_init 9 = .ok (.putfield 7, 3) := by decide +kernel
theorem dX5_init_12 : decode cX5_init 12 = .ok (.aload_n 0, 1) := by decide +kernel
theorem dX5_init_13 : decode cX5_init 13 = .ok (.bipush 25, 2) := by decide +kernel
theorem dX5_init_15 : decode cX5_init 15 = .ok (.newarray .int, 2) := by decide +kernel
theorem dX5_init_17 : decode cX5_init 17 = .ok (.putfield 13, 3) := by decide +kernel
theorem dX5_init_20 : decode cX5_init 20 = .ok (.aload_n 0, 1) := by decide +kernel
theorem dX5_init_21 : decode cX5_init 21 = .ok (.bipush 30, 2) := by decide +kernel
theorem dX5_init_23 : decode cX5_init 23 = .ok (.newarray .int, 2) := by decide +kernel
theorem dX5_init_25 : decode cX5_init 25 = .ok (.putfield 16, 3) := by decide +kernel
theorem dX5_init_28 : decode cX5_init 28 = .ok (.aload_n 0, 1) := by decide +kernel
theorem dX5_init_29 : decode cX5_init 29 = .ok (.bipush 30, 2) := by decide +kernel
theorem dX5_init_31 : decode cX5_init 31 = .ok (.newarray .int, 2) := by decide +kernel
theorem dX5_init_33 : decode cX5_init 33 = .ok (.putfield 19, 3) := by decide +kernel
theorem dX5_init_36 : decode cX5_init 36 = .ok (.aload_n 0, 1) := by decide +kernel
theorem dX5_init_37 : decode cX5_init 37 = .ok (.bipush 30, 2) := by decide +kernel
theorem dX5_init_39 : decode cX5_init 39 = .ok (.newarray .int, 2) := by decide +kernel
theorem dX5_init_41 : decode cX5_init 41 = .ok (.putfield 22, 3) := by decide +kernel
theorem dX5_init_44 : decode cX5_init 44 = .ok (.aload_n 0, 1) := by decide +kernel
theorem dX5_init_45 : decode cX5_init 45 = .ok (.bipush 30, 2) := by decide +kernel
theorem dX5_init_47 : decode cX5_init 47 = .ok (.newarray .boolean, 2) := by decide +kernel
theorem dX5_init_49 : decode cX5_init 49 = .ok (.putfield 25, 3) := by decide +kernel
theorem dX5_init_52 : decode cX5_init 52 = .ok (.aload_n 0, 1) := by decide +kernel
theorem dX5_init_53 : decode cX5_init 53 = .ok (.bipush 30, 2) := by decide +kernel
theorem dX5_init_55 : decode cX5_init 55 = .ok (.newarray .int, 2) := by decide +kernel
theorem dX5_init_57 : decode cX5_init 57 = .ok (.putfield 29, 3) := by decide +kernel
theorem dX5_init_60 : decode cX5_init 60 = .ok (.aload_n 0, 1) := by decide +kernel
theorem dX5_init_61 : decode cX5_init 61 = .ok (.bipush 30, 2) := by decide +kernel
theorem dX5_init_63 : decode cX5_init 63 = .ok (.newarray .int, 2) := by decide +kernel
theorem dX5_init_65 : decode cX5_init 65 = .ok (.putfield 32, 3) := by decide +kernel
theorem dX5_init_68 : decode cX5_init 68 = .ok (.aload_n 0, 1) := by decide +kernel
theorem dX5_init_69 : decode cX5_init 69 = .ok (.bipush 30, 2) := by decide +kernel
theorem dX5_init_71 : decode cX5_init 71 = .ok (.newarray .int, 2) := by decide +kernel
theorem dX5_init_73 : decode cX5_init 73 = .ok (.putfield 35, 3) := by decide +kernel
theorem dX5_init_76 : decode cX5_init 76 = .ok (.aload_n 0, 1) := by decide +kernel
theorem dX5_init_77 : decode cX5_init 77 = .ok (.bipush 12, 2) := by decide +kernel
theorem dX5_init_79 : decode cX5_init 79 = .ok (.newarray .int, 2) := by decide +kernel
theorem dX5_init_81 : decode cX5_init 81 = .ok (.putfield 38, 3) := by decide +kernel
theorem dX5_init_84 : decode cX5_init 84 = .ok (.aload_n 0, 1) := by decide +kernel
theorem dX5_init_85 : decode cX5_init 85 = .ok (.sipush 4096, 3) := by decide +kernel
theorem dX5_init_88 : decode cX5_init 88 = .ok (.newarray .long, 2) := by decide +kernel
theorem dX5_init_90 : decode cX5_init 90 = .ok (.putfield 41, 3) := by decide +kernel
theorem dX5_init_93 : decode cX5_init 93 = .ok (.aload_n 0, 1) := by decide +kernel
theorem dX5_init_94 : decode cX5_init 94 = .ok (.bipush 40, 2) := by decide +kernel
theorem dX5_init_96 : decode cX5_init 96 = .ok (.newarray .int, 2) := by decide +kernel
theorem dX5_init_98 : decode cX5_init 98 = .ok (.putfield 45, 3) := by decide +kernel
theorem dX5_init_101 : decode cX5_init 101 = .ok (.aload_n 0, 1) := by decide +kernel
theorem dX5_init_102 : decode cX5_init 102 = .ok (.bipush 40, 2) := by decide +kernel
theorem dX5_init_104 : decode cX5_init 104 = .ok (.newarray .int, 2) := by decide +kernel
theorem dX5_init_106 : decode cX5_init 106 = .ok (.putfield 48, 3) := by decide +kernel
theorem dX5_init_109 : decode cX5_init 109 = .ok (.aload_n 0, 1) := by decide +kernel
theorem dX5_init_110 : decode cX5_init 110 = .ok (.bipush 40, 2) := by decide +kernel
theorem dX5_init_112 : decode cX5_init 112 = .ok (.newarray .int, 2) := by decide +kernel
theorem dX5_init_114 : decode cX5_init 114 = .ok (.putfield 51, 3) := by decide +kernel
theorem dX5_init_117 : decode cX5_init 117 = .ok (.aload_n 0, 1) := by decide +kernel
theorem dX5_init_118 : decode cX5_init 118 = .ok (.bipush 40, 2) := by decide +kernel
theorem dX5_init_120 : decode cX5_init 120 = .ok (.newarray .int, 2) := by decide +kernel
theorem dX5_init_122 : decode cX5_init 122 = .ok (.putfield 54, 3) := by decide +kernel
theorem dX5_init_125 : decode cX5_init 125 = .ok (.aload_n 0, 1) := by decide +kernel
theorem dX5_init_126 : decode cX5_init 126 = .ok (.bipush 16, 2) := by decide +kernel
theorem dX5_init_128 : decode cX5_init 128 = .ok (.newarray .boolean, 2) := by decide +kernel
theorem dX5_init_130 : decode cX5_init 130 = .ok (.putfield 57, 3) := by decide +kernel
theorem dX5_init_133 : decode cX5_init 133 = .ok (.aload_n 0, 1) := by decide +kernel
theorem dX5_init_134 : decode cX5_init 134 = .ok (.sipush 256, 3) := by decide +kernel
theorem dX5_init_137 : decode cX5_init 137 = .ok (.newarray .int, 2) := by decide +kernel
theorem dX5_init_139 : decode cX5_init 139 = .ok (.putfield 60, 3) := by decide +kernel
theorem dX5_init_142 : decode cX5_init 142 = .ok (.iconst 0, 1) := by decide +kernel
theorem dX5_init_143 : decode cX5_init 143 = .ok (.istore_n 1, 1) := by decide +kernel
theorem dX5_init_144 : decode cX5_init 144 = .ok (.iload_n 1, 1) := by decide +kernel
theorem dX5_init_145 : decode cX5_init 145 = .ok (.bipush 25, 2) := by decide +kernel
theorem dX5_init_147 : decode cX5_init 147 = .ok (.if_icmp .ge 28, 3) := by decide +kernel
theorem dX5_init_150 : decode cX5_init 150 = .ok (.aload_n 0, 1) := by decide +kernel
theorem dX5_init_151 : decode cX5_init 151 = .ok (.getfield 7, 3) := by decide +kernel
theorem dX5_init_154 : decode cX5_init 154 = .ok (.iload_n 1, 1) := by decide +kernel
theorem dX5_init_155 : decode cX5_init 155 = .ok (.iload_n 1, 1) := by decide +kernel
theorem dX5_init_156 : decode cX5_init 156 = .ok (.bipush 6, 2) := by decide +kernel
theorem dX5_init_158 : decode cX5_init 158 = .ok (.irem, 1) := by decide +kernel
theorem dX5_init_159 : decode cX5_init 159 = .ok (.ifCond .ne 7, 3) := by decide +kernel
theorem dX5_init_162 : decode cX5_init 162 = .ok (.iconst 0, 1) := by decide +kernel
theorem dX5_init_163 : decode cX5_init 163 = .ok (.goto 5, 3) := by decide +kernel
theorem dX5_init_166 : decode cX5_init 166 = .ok (.ldc 63, 2) := by decide +kernel
theorem dX5_init_168 : decode cX5_init 168 = .ok (.iastore, 1) := by decide +kernel
theorem dX5_init_169 : decode cX5_init 169 = .ok (.iinc 1 1, 3) := by decide +kernel
theorem dX5_init_172 : decode cX5_init 172 = .ok (.goto (-28), 3) := by decide +kernel
theorem dX5_init_175 : decode cX5_init 175 = .ok (.return_, 1) := by decide +kernel
theorem dX5_thrown_0 : decode cX5_thrown 0 = .ok (.aload_n 0, 1) := by decide +kernel
theorem dX5_thrown_1 : decode cX5_thrown 1 = .ok (.getfield 64, 3) := by decide +kernel
theorem dX5_thrown_4 : decode cX5_thrown 4 = .ok (.ireturn, 1) := by decide +kernel
theorem dX5_goes_0 : decode cX5_goes 0 = .ok (.aload_n 0, 1) := by decide +kernel
theorem dX5_goes_1 : decode cX5_goes 1 = .ok (.iload_n 1, 1) := by decide +kernel
theorem dX5_goes_2 : decode cX5_goes 2 = .ok (.putfield 64, 3) := by decide +kernel
theorem dX5_goes_5 : decode cX5_goes 5 = .ok (.iload_n 1, 1) := by decide +kernel
theorem dX5_goes_6 : decode cX5_goes 6 = .ok (.ifCond .ne 7, 3) := by decide +kernel
theorem dX5_goes_9 : decode cX5_goes 9 = .ok (.iconst 1, 1) := by decide +kernel
theorem dX5_goes_10 : decode cX5_goes 10 = .ok (.goto 4, 3) := by decide +kernel
theorem dX5_goes_13 : decode cX5_goes 13 = .ok (.iconst 0, 1) := by decide +kernel
theorem dX5_goes_14 : decode cX5_goes 14 = .ok (.ireturn, 1) := by decide +kernel
theorem dX5_isIn_0 : decode cX5_isIn 0 = .ok (.iload_n 0, 1) := by decide +kernel
theorem dX5_isIn_1 : decode cX5_isIn 1 = .ok (.iload_n 1, 1) := by decide +kernel
theorem dX5_isIn_2 : decode cX5_isIn 2 = .ok (.if_icmp .lt 12, 3) := by decide +kernel
theorem dX5_isIn_5 : decode cX5_isIn 5 = .ok (.iload_n 0, 1) := by decide +kernel
theorem dX5_isIn_6 : decode cX5_isIn 6 = .ok (.iload_n 2, 1) := by decide +kernel
theorem dX5_isIn_7 : decode cX5_isIn 7 = .ok (.if_icmp .gt 7, 3) := by decide +kernel
theorem dX5_isIn_10 : decode cX5_isIn 10 = .ok (.iconst 1, 1) := by decide +kernel
theorem dX5_isIn_11 : decode cX5_isIn 11 = .ok (.goto 4, 3) := by decide +kernel
theorem dX5_isIn_14 : decode cX5_isIn 14 = .ok (.iconst 0, 1) := by decide +kernel
theorem dX5_isIn_15 : decode cX5_isIn 15 = .ok (.ireturn, 1) := by decide +kernel
set_option maxRecDepth 20000 in
theorem ggX5_isClock_X5_isIn : GoodIn wsX5_isClock wsX5_isIn := goodIn_r _ [4] (by decide +kernel) (by decide +kernel)
set_option maxRecDepth 20000 in
theorem gX5_isClock_X5_isIn : GoodIn wsX5_isClock (va_wsS RX5 68 yX5_isIn wsX5_isIn) := goodIn_app (goodIn_of _ (by decide +kernel)) ggX5_isClock_X5_isIn
theorem dX5_isClock_0 : decode cX5_isClock 0 = .ok (.iload_n 0, 1) := by decide +kernel
theorem dX5_isClock_1 : decode cX5_isClock 1 = .ok (.iconst 0, 1) := by decide +kernel
theorem dX5_isClock_2 : decode cX5_isClock 2 = .ok (.iconst 4, 1) := by decide +kernel
theorem dX5_isClock_3 : decode cX5_isClock 3 = .ok (.invokestatic 68, 3) := by decide +kernel
theorem dX5_isClock_6 : decode cX5_isClock 6 = .ok (.ireturn, 1) := by decide +kernel
set_option maxRecDepth 20000 in
theorem ggX5_isService_X5_isIn : GoodIn wsX5_isService wsX5_isIn := goodIn_r _ [4] (by decide +kernel) (by decide +kernel)
set_option maxRecDepth 20000 in
theorem gX5_isService_X5_isIn : GoodIn wsX5_isService (va_wsS RX5 68 yX5_isIn wsX5_isIn) := goodIn_app (goodIn_of _ (by decide +kernel)) ggX5_isService_X5_isIn
theorem dX5_isService_0 : decode cX5_isService 0 = .ok (.iload_n 0, 1) := by decide +kernel
theorem dX5_isService_1 : decode cX5_isService 1 = .ok (.iconst 0, 1) := by decide +kernel
theorem dX5_isService_2 : decode cX5_isService 2 = .ok (.iconst 5, 1) := by decide +kernel
theorem dX5_isService_3 : decode cX5_isService 3 = .ok (.invokestatic 68, 3) := by decide +kernel
theorem dX5_isService_6 : decode cX5_isService 6 = .ok (.ireturn, 1) := by decide +kernel
set_option maxRecDepth 20000 in
theorem ggX5_isTime_X5_isIn : GoodIn wsX5_isTime wsX5_isIn := goodIn_r _ [4] (by decide +kernel) (by decide +kernel)
set_option maxRecDepth 20000 in
theorem gX5_isTime_X5_isIn : GoodIn wsX5_isTime (va_wsS RX5 68 yX5_isIn wsX5_isIn) := goodIn_app (goodIn_of _ (by decide +kernel)) ggX5_isTime_X5_isIn
theorem dX5_isTime_0 : decode cX5_isTime 0 = .ok (.iload_n 0, 1) := by decide +kernel
theorem dX5_isTime_1 : decode cX5_isTime 1 = .ok (.iconst 0, 1) := by decide +kernel
theorem dX5_isTime_2 : decode cX5_isTime 2 = .ok (.sipush 10000, 3) := by decide +kernel
theorem dX5_isTime_5 : decode cX5_isTime 5 = .ok (.invokestatic 68, 3) := by decide +kernel
theorem dX5_isTime_8 : decode cX5_isTime 8 = .ok (.ireturn, 1) := by decide +kernel
theorem dX5_binds_0 : decode cX5_binds 0 = .ok (.aload_n 0, 1) := by decide +kernel
theorem dX5_binds_1 : decode cX5_binds 1 = .ok (.getfield 13, 3) := by decide +kernel
theorem dX5_binds_4 : decode cX5_binds 4 = .ok (.iconst 5, 1) := by decide +kernel
theorem dX5_binds_5 : decode cX5_binds 5 = .ok (.iload_n 1, 1) := by decide +kernel
theorem dX5_binds_6 : decode cX5_binds 6 = .ok (.imul, 1) := by decide +kernel
theorem dX5_binds_7 : decode cX5_binds 7 = .ok (.iload_n 2, 1) := by decide +kernel
theorem dX5_binds_8 : decode cX5_binds 8 = .ok (.iadd, 1) := by decide +kernel
theorem dX5_binds_9 : decode cX5_binds 9 = .ok (.iload_n 3, 1) := by decide +kernel
theorem dX5_binds_10 : decode cX5_binds 10 = .ok (.aload_n 0, 1) := by decide +kernel
theorem dX5_binds_11 : decode cX5_binds 11 = .ok (.getfield 13, 3) := by decide +kernel
theorem dX5_binds_14 : decode cX5_binds 14 = .ok (.iconst 5, 1) := by decide +kernel
theorem dX5_binds_15 : decode cX5_binds 15 = .ok (.iload_n 1, 1) := by decide +kernel
theorem dX5_binds_16 : decode cX5_binds 16 = .ok (.imul, 1) := by decide +kernel
theorem dX5_binds_17 : decode cX5_binds 17 = .ok (.iload_n 2, 1) := by decide +kernel
theorem dX5_binds_18 : decode cX5_binds 18 = .ok (.iadd, 1) := by decide +kernel
theorem dX5_binds_19 : decode cX5_binds 19 = .ok (.iaload, 1) := by decide +kernel
theorem dX5_binds_20 : decode cX5_binds 20 = .ok (.if_icmp .ge 7, 3) := by decide +kernel
theorem dX5_binds_23 : decode cX5_binds 23 = .ok (.iload_n 3, 1) := by decide +kernel
theorem dX5_binds_24 : decode cX5_binds 24 = .ok (.goto 13, 3) := by decide +kernel
theorem dX5_binds_27 : decode cX5_binds 27 = .ok (.aload_n 0, 1) := by decide +kernel
theorem dX5_binds_28 : decode cX5_binds 28 = .ok (.getfield 13, 3) := by decide +kernel
theorem dX5_binds_31 : decode cX5_binds 31 = .ok (.iconst 5, 1) := by decide +kernel
theorem dX5_binds_32 : decode cX5_binds 32 = .ok (.iload_n 1, 1) := by decide +kernel
theorem dX5_binds_33 : decode cX5_binds 33 = .ok (.imul, 1) := by decide +kernel
theorem dX5_binds_34 : decode cX5_binds 34 = .ok (.iload_n 2, 1) := by decide +kernel
theorem dX5_binds_35 : decode cX5_binds 35 = .ok (.iadd, 1) := by decide +kernel
theorem dX5_binds_36 : decode cX5_binds 36 = .ok (.iaload, 1) := by decide +kernel
theorem dX5_binds_37 : decode cX5_binds 37 = .ok (.iastore, 1) := by decide +kernel
theorem dX5_binds_38 : decode cX5_binds 38 = .ok (.return_, 1) := by decide +kernel
set_option maxRecDepth 20000 in
theorem ggX5_mark_X5_isClock : GoodIn wsX5_mark wsX5_isClock := goodIn_r _ [7, 8, 9, 6, 10] (by decide +kernel) (by decide +kernel)
set_option maxRecDepth 20000 in
theorem gX5_mark_X5_isClock : GoodIn wsX5_mark (va_wsS RX5 72 yX5_isClock wsX5_isClock) := goodIn_app (goodIn_of _ (by decide +kernel)) ggX5_mark_X5_isClock
set_option maxRecDepth 20000 in
theorem ggX5_mark_X5_isTime : GoodIn wsX5_mark wsX5_isTime := goodIn_r _ [13, 8, 9, 6, 10] (by decide +kernel) (by decide +kernel)
set_option maxRecDepth 20000 in
theorem gX5_mark_X5_isTime : GoodIn wsX5_mark (va_wsS RX5 76 yX5_isTime wsX5_isTime) := goodIn_app (goodIn_of _ (by decide +kernel)) ggX5_mark_X5_isTime
set_option maxRecDepth 20000 in
theorem ggX5_mark_X5_isIn : GoodIn wsX5_mark wsX5_isIn := goodIn_r _ [10] (by decide +kernel) (by decide +kernel)
set_option maxRecDepth 20000 in
theorem gX5_mark_X5_isIn : GoodIn wsX5_mark (va_wsS RX5 68 yX5_isIn wsX5_isIn) := goodIn_app (goodIn_of _ (by decide +kernel)) ggX5_mark_X5_isIn
set_option maxRecDepth 20000 in
theorem ggX5_mark_X5_goes : GoodIn wsX5_mark wsX5_goes := goodIn_r _ [17, 18, 23, 24, 25, 26, 27, 28, 29, 30, 31, 32, 33, 34, 35, 36, 37, 38, 39, 40, 41, 42, 43] (by decide +kernel) (by decide +kernel)
set_option maxRecDepth 20000 in
theorem gX5_mark_X5_goes : GoodIn wsX5_mark (wsV RX5 79 RX5 yX5_goes wsX5_goes) := goodIn_app (goodIn_of _ (by decide +kernel)) ggX5_mark_X5_goes
set_option maxRecDepth 20000 in
theorem ggX5_mark_X5_binds : GoodIn wsX5_mark wsX5_binds := goodIn_r _ [22, 1, 23, 24, 25, 26, 27, 28, 29, 30, 31, 32, 33, 34, 35, 36, 37, 38, 39, 40, 41, 42, 43] (by decide +kernel) (by decide +kernel)
set_option maxRecDepth 20000 in
theorem gX5_mark_X5_binds : GoodIn wsX5_mark (wsV RX5 82 RX5 yX5_binds wsX5_binds) := goodIn_app (goodIn_of _ (by decide +kernel)) ggX5_mark_X5_binds
theorem dX5_mark_0 : decode cX5_mark 0 = .ok (.iload_n 1, 1) := by decide +kernel
theorem dX5_mark_1 : decode cX5_mark 1 = .ok (.invokestatic 72, 3) := by decide +kernel
theorem dX5_mark_4 : decode cX5_mark 4 = .ok (.ifCond .eq 46, 3) := by decide +kernel
theorem dX5_mark_7 : decode cX5_mark 7 = .ok (.iload_n 2, 1) := by decide +kernel
theorem dX5_mark_8 : decode cX5_mark 8 = .ok (.invokestatic 76, 3) := by decide +kernel
theorem dX5_mark_11 : decode cX5_mark 11 = .ok (.ifCond .eq 39, 3) := by decide +kernel
theorem dX5_mark_14 : decode cX5_mark 14 = .ok (.iload_n 3, 1) := by decide +kernel
theorem dX5_mark_15 : decode cX5_mark 15 = .ok (.invokestatic 72, 3) := by decide +kernel
theorem dX5_mark_18 : decode cX5_mark 18 = .ok (.ifCond .eq 32, 3) := by decide +kernel
theorem dX5_mark_21 : decode cX5_mark 21 = .ok (.iload 4, 2) := by decide +kernel
theorem dX5_mark_23 : decode cX5_mark 23 = .ok (.invokestatic 76, 3) := by decide +kernel
theorem dX5_mark_26 : decode cX5_mark 26 = .ok (.ifCond .eq 24, 3) := by decide +kernel
theorem dX5_mark_29 : decode cX5_mark 29 = .ok (.iload 5, 2) := by decide +kernel
theorem dX5_mark_31 : decode cX5_mark 31 = .ok (.iconst 0, 1) := by decide +kernel
theorem dX5_mark_32 : decode cX5_mark 32 = .ok (.sipush 1000, 3) := by decide +kernel
theorem dX5_mark_35 : decode cX5_mark 35 = .ok (.invokestatic 68, 3) := by decide +kernel
theorem dX5_mark_38 : decode cX5_mark 38 = .ok (.ifCond .eq 12, 3) := by decide +kernel
theorem dX5_mark_41 : decode cX5_mark 41 = .ok (.iload_n 1, 1) := by decide +kernel
theorem dX5_mark_42 : decode cX5_mark 42 = .ok (.iload_n 3, 1) := by decide +kernel
theorem dX5_mark_43 : decode cX5_mark 43 = .ok (.if_icmp .eq 7, 3) := by decide +kernel
theorem dX5_mark_46 : decode cX5_mark 46 = .ok (.iconst 1, 1) := by decide +kernel
theorem dX5_mark_47 : decode cX5_mark 47 = .ok (.goto 4, 3) := by decide +kernel
theorem dX5_mark_50 : decode cX5_mark 50 = .ok (.iconst 0, 1) := by decide +kernel
theorem dX5_mark_51 : decode cX5_mark 51 = .ok (.istore 6, 2) := by decide +kernel
theorem dX5_mark_53 : decode cX5_mark 53 = .ok (.aload_n 0, 1) := by decide +kernel
theorem dX5_mark_54 : decode cX5_mark 54 = .ok (.iload 6, 2) := by decide +kernel
theorem dX5_mark_56 : decode cX5_mark 56 = .ok (.ifCond .eq 7, 3) := by decide +kernel
theorem dX5_mark_59 : decode cX5_mark 59 = .ok (.iconst 0, 1) := by decide +kernel
theorem dX5_mark_60 : decode cX5_mark 60 = .ok (.goto 4, 3) := by decide +kernel
theorem dX5_mark_63 : decode cX5_mark 63 = .ok (.iconst 1, 1) := by decide +kernel
theorem dX5_mark_64 : decode cX5_mark 64 = .ok (.invokevirtual 79, 3) := by decide +kernel
theorem dX5_mark_67 : decode cX5_mark 67 = .ok (.ifCond .ne 4, 3) := by decide +kernel
theorem dX5_mark_70 : decode cX5_mark 70 = .ok (.return_, 1) := by decide +kernel
theorem dX5_mark_71 : decode cX5_mark 71 = .ok (.iconst 0, 1) := by decide +kernel
theorem dX5_mark_72 : decode cX5_mark 72 = .ok (.istore 7, 2) := by decide +kernel
theorem dX5_mark_74 : decode cX5_mark 74 = .ok (.iload 7, 2) := by decide +kernel
theorem dX5_mark_76 : decode cX5_mark 76 = .ok (.bipush 25, 2) := by decide +kernel
theorem dX5_mark_78 : decode cX5_mark 78 = .ok (.if_icmp .ge 23, 3) := by decide +kernel
theorem dX5_mark_81 : decode cX5_mark 81 = .ok (.aload_n 0, 1) := by decide +kernel
theorem dX5_mark_82 : decode cX5_mark 82 = .ok (.getfield 13, 3) := by decide +kernel
theorem dX5_mark_85 : decode cX5_mark 85 = .ok (.iload 7, 2) := by decide +kernel
theorem dX5_mark_87 : decode cX5_mark 87 = .ok (.aload_n 0, 1) := by decide +kernel
theorem dX5_mark_88 : decode cX5_mark 88 = .ok (.getfield 7, 3) := by decide +kernel
theorem dX5_mark_91 : decode cX5_mark 91 = .ok (.iload 7, 2) := by decide +kernel
theorem dX5_mark_93 : decode cX5_mark 93 = .ok (.iaload, 1) := by decide +kernel
theorem dX5_mark_94 : decode cX5_mark 94 = .ok (.iastore, 1) := by decide +kernel
theorem dX5_mark_95 : decode cX5_mark 95 = .ok (.iinc 7 1, 3) := by decide +kernel
theorem dX5_mark_98 : decode cX5_mark 98 = .ok (.goto (-24), 3) := by decide +kernel
theorem dX5_mark_101 : decode cX5_mark 101 = .ok (.aload_n 0, 1) := by decide +kernel
theorem dX5_mark_102 : decode cX5_mark 102 = .ok (.iload_n 1, 1) := by decide +kernel
theorem dX5_mark_103 : decode cX5_mark 103 = .ok (.iload_n 3, 1) := by decide +kernel
theorem dX5_mark_104 : decode cX5_mark 104 = .ok (.iload 5, 2) := by decide +kernel
theorem dX5_mark_106 : decode cX5_mark 106 = .ok (.iload_n 2, 1) := by decide +kernel
theorem dX5_mark_107 : decode cX5_mark 107 = .ok (.isub, 1) := by decide +kernel
theorem dX5_mark_108 : decode cX5_mark 108 = .ok (.iload 4, 2) := by decide +kernel
theorem dX5_mark_110 : decode cX5_mark 110 = .ok (.iadd, 1) := by decide +kernel
theorem dX5_mark_111 : decode cX5_mark 111 = .ok (.invokevirtual 82, 3) := by decide +kernel
theorem dX5_mark_114 : decode cX5_mark 114 = .ok (.aload_n 0, 1) := by decide +kernel
theorem dX5_mark_115 : decode cX5_mark 115 = .ok (.iload_n 3, 1) := by decide +kernel
theorem dX5_mark_116 : decode cX5_mark 116 = .ok (.iload_n 1, 1) := by decide +kernel
theorem dX5_mark_117 : decode cX5_mark 117 = .ok (.iload 5, 2) := by decide +kernel
theorem dX5_mark_119 : decode cX5_mark 119 = .ok (.iload_n 2, 1) := by decide +kernel
theorem dX5_mark_120 : decode cX5_mark 120 = .ok (.iadd, 1) := by decide +kernel
theorem dX5_mark_121 : decode cX5_mark 121 = .ok (.iload 4, 2) := by decide +kernel
theorem dX5_mark_123 : decode cX5_mark 123 = .ok (.isub, 1) := by decide +kernel
theorem dX5_mark_124 : decode cX5_mark 124 = .ok (.invokevirtual 82, 3) := by decide +kernel
theorem dX5_mark_127 : decode cX5_mark 127 = .ok (.iconst 0, 1) := by decide +kernel
theorem dX5_mark_128 : decode cX5_mark 128 = .ok (.istore 7, 2) := by decide +kernel
theorem dX5_mark_130 : decode cX5_mark 130 = .ok (.iload 7, 2) := by decide +kernel
theorem dX5_mark_132 : decode cX5_mark 132 = .ok (.iconst 5, 1) := by decide +kernel
theorem dX5_mark_133 : decode cX5_mark 133 = .ok (.if_icmp .ge 120, 3) := by decide +kernel
theorem dX5_mark_136 : decode cX5_mark 136 = .ok (.iconst 0, 1) := by decide +kernel
theorem dX5_mark_137 : decode cX5_mark 137 = .ok (.istore 8, 2) := by decide +kernel
theorem dX5_mark_139 : decode cX5_mark 139 = .ok (.iload 8, 2) := by decide +kernel
theorem dX5_mark_141 : decode cX5_mark 141 = .ok (.bipush 25, 2) := by decide +kernel
theorem dX5_mark_143 : decode cX5_mark 143 = .ok (.if_icmp .ge 104, 3) := by decide +kernel
theorem dX5_mark_146 : decode cX5_mark 146 = .ok (.aload_n 0, 1) := by decide +kernel
theorem dX5_mark_147 : decode cX5_mark 147 = .ok (.getfield 13, 3) := by decide +kernel
theorem dX5_mark_150 : decode cX5_mark 150 = .ok (.iconst 5, 1) := by decide +kernel
theorem dX5_mark_151 : decode cX5_mark 151 = .ok (.iload 8, 2) := by decide +kernel
theorem dX5_mark_153 : decode cX5_mark 153 = .ok (.iconst 5, 1) := by decide +kernel
theorem dX5_mark_154 : decode cX5_mark 154 = .ok (.idiv, 1) := by decide +kernel
theorem dX5_mark_155 : decode cX5_mark 155 = .ok (.imul, 1) := by decide +kernel
theorem dX5_mark_156 : decode cX5_mark 156 = .ok (.iload 7, 2) := by decide +kernel
theorem dX5_mark_158 : decode cX5_mark 158 = .ok (.iadd, 1) := by decide +kernel
theorem dX5_mark_159 : decode cX5_mark 159 = .ok (.iaload, 1) := by decide +kernel
theorem dX5_mark_160 : decode cX5_mark 160 = .ok (.istore 9, 2) := by decide +kernel
theorem dX5_mark_162 : decode cX5_mark 162 = .ok (.aload_n 0, 1) := by decide +kernel
theorem dX5_mark_163 : decode cX5_mark 163 = .ok (.getfield 13, 3) := by decide +kernel
theorem dX5_mark_166 : decode cX5_mark 166 = .ok (.iconst 5, 1) := by decide +kernel
theorem dX5_mark_167 : decode cX5_mark 167 = .ok (.iload 7, 2) := by decide +kernel
theorem dX5_mark_169 : decode cX5_mark 169 = .ok (.imul, 1) := by decide +kernel
theorem dX5_mark_170 : decode cX5_mark 170 = .ok (.iload 8, 2) := by decide +kernel
theorem dX5_mark_172 : decode cX5_mark 172 = .ok (.iconst 5, 1) := by decide +kernel
theorem dX5_mark_173 : decode cX5_mark 173 = .ok (.irem, 1) := by decide +kernel
theorem dX5_mark_174 : decode cX5_mark 174 = .ok (.iadd, 1) := by decide +kernel
theorem dX5_mark_175 : decode cX5_mark 175 = .ok (.iaload, 1) := by decide +kernel
theorem dX5_mark_176 : decode cX5_mark 176 = .ok (.istore 10, 2) := by decide +kernel
theorem dX5_mark_178 : decode cX5_mark 178 = .ok (.iload 9, 2) := by decide +kernel
theorem dX5_mark_180 : decode cX5_mark 180 = .ok (.ldc 63, 2) := by decide +kernel
theorem dX5_mark_182 : decode cX5_mark 182 = .ok (.if_icmp .eq 14, 3) := by decide +kernel
theorem dX5_mark_185 : decode cX5_mark 185 = .ok (.iload 10, 2) := by decide +kernel
theorem dX5_mark_187 : decode cX5_mark 187 = .ok (.ldc 63, 2) := by decide +kernel
theorem dX5_mark_189 : decode cX5_mark 189 = .ok (.if_icmp .eq 7, 3) := by decide +kernel
theorem dX5_mark_192 : decode cX5_mark 192 = .ok (.iconst 1, 1) := by decide +kernel
theorem dX5_mark_193 : decode cX5_mark 193 = .ok (.goto 4, 3) := by decide +kernel
theorem dX5_mark_196 : decode cX5_mark 196 = .ok (.iconst 0, 1) := by decide +kernel
theorem dX5_mark_197 : decode cX5_mark 197 = .ok (.istore 11, 2) := by decide +kernel
theorem dX5_mark_199 : decode cX5_mark 199 = .ok (.aload_n 0, 1) := by decide +kernel
theorem dX5_mark_200 : decode cX5_mark 200 = .ok (.getfield 13, 3) := by decide +kernel
theorem dX5_mark_203 : decode cX5_mark 203 = .ok (.iload 8, 2) := by decide +kernel
theorem dX5_mark_205 : decode cX5_mark 205 = .ok (.iload 11, 2) := by decide +kernel
theorem dX5_mark_207 : decode cX5_mark 207 = .ok (.ifCond .eq 26, 3) := by decide +kernel
theorem dX5_mark_210 : decode cX5_mark 210 = .ok (.iload 9, 2) := by decide +kernel
theorem dX5_mark_212 : decode cX5_mark 212 = .ok (.iload 10, 2) := by decide +kernel
theorem dX5_mark_214 : decode cX5_mark 214 = .ok (.iadd, 1) := by decide +kernel
theorem dX5_mark_215 : decode cX5_mark 215 = .ok (.aload_n 0, 1) := by decide +kernel
end
section
theorem dX5_mark_216 : decode cX5_mark 216 = .ok (.getfield 13, 3) := by decide +kernel
theorem dX5_mark_219 : decode cX5_mark 219 = .ok (.iload 8, 2) := by decide +kernel
theorem dX5_mark_221 : decode cX5_mark 221 = .ok (.iaload, 1) := by decide +kernel
theorem dX5_mark_222 : decode cX5_mark 222 = .ok (.if_icmp .ge 11, 3) := by decide +kernel
theorem dX5_mark_225 : decode cX5_mark 225 = .ok (.iload 9, 2) := by decide +kernel
theorem dX5_mark_227 : decode cX5_mark 227 = .ok (.iload 10, 2) := by decide +kernel
theorem dX5_mark_229 : decode cX5_mark 229 = .ok (.iadd, 1) := by decide +kernel
theorem dX5_mark_230 : decode cX5_mark 230 = .ok (.goto 10, 3) := by decide +kernel
theorem dX5_mark_233 : decode cX5_mark 233 = .ok (.aload_n 0, 1) := by decide +kernel
theorem dX5_mark_234 : decode cX5_mark 234 = .ok (.getfield 13, 3) := by decide +kernel
theorem dX5_mark_237 : decode cX5_mark 237 = .ok (.iload 8, 2) := by decide +kernel
theorem dX5_mark_239 : decode cX5_mark 239 = .ok (.iaload, 1) := by decide +kernel
theorem dX5_mark_240 : decode cX5_mark 240 = .ok (.iastore, 1) := by decide +kernel
theorem dX5_mark_241 : decode cX5_mark 241 = .ok (.iinc 8 1, 3) := by decide +kernel
theorem dX5_mark_244 : decode cX5_mark 244 = .ok (.goto (-105), 3) := by decide +kernel
theorem dX5_mark_247 : decode cX5_mark 247 = .ok (.iinc 7 1, 3) := by decide +kernel
theorem dX5_mark_250 : decode cX5_mark 250 = .ok (.goto (-120), 3) := by decide +kernel
theorem dX5_mark_253 : decode cX5_mark 253 = .ok (.iconst 1, 1) := by decide +kernel
theorem dX5_mark_254 : decode cX5_mark 254 = .ok (.istore 7, 2) := by decide +kernel
theorem dX5_mark_256 : decode cX5_mark 256 = .ok (.iconst 0, 1) := by decide +kernel
theorem dX5_mark_257 : decode cX5_mark 257 = .ok (.istore 8, 2) := by decide +kernel
theorem dX5_mark_259 : decode cX5_mark 259 = .ok (.iload 8, 2) := by decide +kernel
theorem dX5_mark_261 : decode cX5_mark 261 = .ok (.iconst 5, 1) := by decide +kernel
theorem dX5_mark_262 : decode cX5_mark 262 = .ok (.if_icmp .ge 36, 3) := by decide +kernel
theorem dX5_mark_265 : decode cX5_mark 265 = .ok (.iload 7, 2) := by decide +kernel
theorem dX5_mark_267 : decode cX5_mark 267 = .ok (.ifCond .eq 22, 3) := by decide +kernel
theorem dX5_mark_270 : decode cX5_mark 270 = .ok (.aload_n 0, 1) := by decide +kernel
theorem dX5_mark_271 : decode cX5_mark 271 = .ok (.getfield 13, 3) := by decide +kernel
theorem dX5_mark_274 : decode cX5_mark 274 = .ok (.iconst 5, 1) := by decide +kernel
theorem dX5_mark_275 : decode cX5_mark 275 = .ok (.iload 8, 2) := by decide +kernel
theorem dX5_mark_277 : decode cX5_mark 277 = .ok (.imul, 1) := by decide +kernel
theorem dX5_mark_278 : decode cX5_mark 278 = .ok (.iload 8, 2) := by decide +kernel
theorem dX5_mark_280 : decode cX5_mark 280 = .ok (.iadd, 1) := by decide +kernel
theorem dX5_mark_281 : decode cX5_mark 281 = .ok (.iaload, 1) := by decide +kernel
theorem dX5_mark_282 : decode cX5_mark 282 = .ok (.ifCond .ne 7, 3) := by decide +kernel
theorem dX5_mark_285 : decode cX5_mark 285 = .ok (.iconst 1, 1) := by decide +kernel
theorem dX5_mark_286 : decode cX5_mark 286 = .ok (.goto 4, 3) := by decide +kernel
theorem dX5_mark_289 : decode cX5_mark 289 = .ok (.iconst 0, 1) := by decide +kernel
theorem dX5_mark_290 : decode cX5_mark 290 = .ok (.istore 7, 2) := by decide +kernel
theorem dX5_mark_292 : decode cX5_mark 292 = .ok (.iinc 8 1, 3) := by decide +kernel
theorem dX5_mark_295 : decode cX5_mark 295 = .ok (.goto (-36), 3) := by decide +kernel
theorem dX5_mark_298 : decode cX5_mark 298 = .ok (.aload_n 0, 1) := by decide +kernel
theorem dX5_mark_299 : decode cX5_mark 299 = .ok (.iload 7, 2) := by decide +kernel
theorem dX5_mark_301 : decode cX5_mark 301 = .ok (.ifCond .eq 7, 3) := by decide +kernel
theorem dX5_mark_304 : decode cX5_mark 304 = .ok (.iconst 0, 1) := by decide +kernel
theorem dX5_mark_305 : decode cX5_mark 305 = .ok (.goto 4, 3) := by decide +kernel
theorem dX5_mark_308 : decode cX5_mark 308 = .ok (.iconst 2, 1) := by decide +kernel
theorem dX5_mark_309 : decode cX5_mark 309 = .ok (.invokevirtual 79, 3) := by decide +kernel
theorem dX5_mark_312 : decode cX5_mark 312 = .ok (.ifCond .eq 33, 3) := by decide +kernel
theorem dX5_mark_315 : decode cX5_mark 315 = .ok (.iconst 0, 1) := by decide +kernel
theorem dX5_mark_316 : decode cX5_mark 316 = .ok (.istore 8, 2) := by decide +kernel
theorem dX5_mark_318 : decode cX5_mark 318 = .ok (.iload 8, 2) := by decide +kernel
theorem dX5_mark_320 : decode cX5_mark 320 = .ok (.bipush 25, 2) := by decide +kernel
theorem dX5_mark_322 : decode cX5_mark 322 = .ok (.if_icmp .ge 23, 3) := by decide +kernel
theorem dX5_mark_325 : decode cX5_mark 325 = .ok (.aload_n 0, 1) := by decide +kernel
theorem dX5_mark_326 : decode cX5_mark 326 = .ok (.getfield 7, 3) := by decide +kernel
theorem dX5_mark_329 : decode cX5_mark 329 = .ok (.iload 8, 2) := by decide +kernel
theorem dX5_mark_331 : decode cX5_mark 331 = .ok (.aload_n 0, 1) := by decide +kernel
theorem dX5_mark_332 : decode cX5_mark 332 = .ok (.getfield 13, 3) := by decide +kernel
theorem dX5_mark_335 : decode cX5_mark 335 = .ok (.iload 8, 2) := by decide +kernel
theorem dX5_mark_337 : decode cX5_mark 337 = .ok (.iaload, 1) := by decide +kernel
theorem dX5_mark_338 : decode cX5_mark 338 = .ok (.iastore, 1) := by decide +kernel
theorem dX5_mark_339 : decode cX5_mark 339 = .ok (.iinc 8 1, 3) := by decide +kernel
theorem dX5_mark_342 : decode cX5_mark 342 = .ok (.goto (-24), 3) := by decide +kernel
theorem dX5_mark_345 : decode cX5_mark 345 = .ok (.return_, 1) := by decide +kernel
set_option maxRecDepth 20000 in
theorem ggX5_greatest_X5_isClock : GoodIn wsX5_greatest wsX5_isClock := goodIn_r _ [5, 6, 7, 4, 8] (by decide +kernel) (by decide +kernel)
set_option maxRecDepth 20000 in
theorem gX5_greatest_X5_isClock : GoodIn wsX5_greatest (va_wsS RX5 72 yX5_isClock wsX5_isClock) := goodIn_app (goodIn_of _ (by decide +kernel)) ggX5_greatest_X5_isClock
set_option maxRecDepth 20000 in
theorem ggX5_greatest_X5_goes : GoodIn wsX5_greatest wsX5_goes := goodIn_r _ [12, 13, 14, 15, 16, 17, 18, 19, 20, 21, 22, 23, 24, 25, 26, 27, 28, 29, 30, 31, 32, 33, 34] (by decide +kernel) (by decide +kernel)
set_option maxRecDepth 20000 in
theorem gX5_greatest_X5_goes : GoodIn wsX5_greatest (wsV RX5 79 RX5 yX5_goes wsX5_goes) := goodIn_app (goodIn_of _ (by decide +kernel)) ggX5_greatest_X5_goes
theorem dX5_greatest_0 : decode cX5_greatest 0 = .ok (.aload_n 0, 1) := by decide +kernel
theorem dX5_greatest_1 : decode cX5_greatest 1 = .ok (.iload_n 1, 1) := by decide +kernel
theorem dX5_greatest_2 : decode cX5_greatest 2 = .ok (.invokestatic 72, 3) := by decide +kernel
theorem dX5_greatest_5 : decode cX5_greatest 5 = .ok (.ifCond .eq 14, 3) := by decide +kernel
theorem dX5_greatest_8 : decode cX5_greatest 8 = .ok (.iload_n 2, 1) := by decide +kernel
theorem dX5_greatest_9 : decode cX5_greatest 9 = .ok (.invokestatic 72, 3) := by decide +kernel
theorem dX5_greatest_12 : decode cX5_greatest 12 = .ok (.ifCond .eq 7, 3) := by decide +kernel
theorem dX5_greatest_15 : decode cX5_greatest 15 = .ok (.iconst 0, 1) := by decide +kernel
theorem dX5_greatest_16 : decode cX5_greatest 16 = .ok (.goto 4, 3) := by decide +kernel
theorem dX5_greatest_19 : decode cX5_greatest 19 = .ok (.iconst 1, 1) := by decide +kernel
theorem dX5_greatest_20 : decode cX5_greatest 20 = .ok (.invokevirtual 79, 3) := by decide +kernel
theorem dX5_greatest_23 : decode cX5_greatest 23 = .ok (.ifCond .eq 16, 3) := by decide +kernel
theorem dX5_greatest_26 : decode cX5_greatest 26 = .ok (.aload_n 0, 1) := by decide +kernel
theorem dX5_greatest_27 : decode cX5_greatest 27 = .ok (.getfield 7, 3) := by decide +kernel
theorem dX5_greatest_30 : decode cX5_greatest 30 = .ok (.iconst 5, 1) := by decide +kernel
theorem dX5_greatest_31 : decode cX5_greatest 31 = .ok (.iload_n 1, 1) := by decide +kernel
theorem dX5_greatest_32 : decode cX5_greatest 32 = .ok (.imul, 1) := by decide +kernel
theorem dX5_greatest_33 : decode cX5_greatest 33 = .ok (.iload_n 2, 1) := by decide +kernel
theorem dX5_greatest_34 : decode cX5_greatest 34 = .ok (.iadd, 1) := by decide +kernel
theorem dX5_greatest_35 : decode cX5_greatest 35 = .ok (.iaload, 1) := by decide +kernel
theorem dX5_greatest_36 : decode cX5_greatest 36 = .ok (.goto 4, 3) := by decide +kernel
theorem dX5_greatest_39 : decode cX5_greatest 39 = .ok (.iconst 0, 1) := by decide +kernel
theorem dX5_greatest_40 : decode cX5_greatest 40 = .ok (.ireturn, 1) := by decide +kernel
set_option maxRecDepth 20000 in
theorem ggX5_write_X5_isClock : GoodIn wsX5_write wsX5_isClock := goodIn_r _ [9, 10, 11, 8, 12] (by decide +kernel) (by decide +kernel)
set_option maxRecDepth 20000 in
theorem gX5_write_X5_isClock : GoodIn wsX5_write (va_wsS RX5 72 yX5_isClock wsX5_isClock) := goodIn_app (goodIn_of _ (by decide +kernel)) ggX5_write_X5_isClock
set_option maxRecDepth 20000 in
theorem ggX5_write_X5_isTime : GoodIn wsX5_write wsX5_isTime := goodIn_r _ [15, 10, 11, 8, 12] (by decide +kernel) (by decide +kernel)
set_option maxRecDepth 20000 in
theorem gX5_write_X5_isTime : GoodIn wsX5_write (va_wsS RX5 76 yX5_isTime wsX5_isTime) := goodIn_app (goodIn_of _ (by decide +kernel)) ggX5_write_X5_isTime
set_option maxRecDepth 20000 in
theorem ggX5_write_X5_isService : GoodIn wsX5_write wsX5_isService := goodIn_r _ [18, 10, 11, 8, 12] (by decide +kernel) (by decide +kernel)
set_option maxRecDepth 20000 in
theorem gX5_write_X5_isService : GoodIn wsX5_write (va_wsS RX5 86 yX5_isService wsX5_isService) := goodIn_app (goodIn_of _ (by decide +kernel)) ggX5_write_X5_isService
set_option maxRecDepth 20000 in
theorem ggX5_write_X5_goes : GoodIn wsX5_write wsX5_goes := goodIn_r _ [22, 23, 24, 25, 26, 27, 28, 29, 30, 31, 32, 33, 34, 35, 36, 37, 38, 39, 40, 41, 42, 43, 44] (by decide +kernel) (by decide +kernel)
set_option maxRecDepth 20000 in
theorem gX5_write_X5_goes : GoodIn wsX5_write (wsV RX5 79 RX5 yX5_goes wsX5_goes) := goodIn_app (goodIn_of _ (by decide +kernel)) ggX5_write_X5_goes
theorem dX5_write_0 : decode cX5_write 0 = .ok (.aload_n 0, 1) := by decide +kernel
theorem dX5_write_1 : decode cX5_write 1 = .ok (.iload_n 1, 1) := by decide +kernel
theorem dX5_write_2 : decode cX5_write 2 = .ok (.invokestatic 72, 3) := by decide +kernel
theorem dX5_write_5 : decode cX5_write 5 = .ok (.ifCond .eq 17, 3) := by decide +kernel
theorem dX5_write_8 : decode cX5_write 8 = .ok (.iload_n 2, 1) := by decide +kernel
theorem dX5_write_9 : decode cX5_write 9 = .ok (.invokestatic 76, 3) := by decide +kernel
theorem dX5_write_12 : decode cX5_write 12 = .ok (.ifCond .eq 10, 3) := by decide +kernel
theorem dX5_write_15 : decode cX5_write 15 = .ok (.iload_n 3, 1) := by decide +kernel
theorem dX5_write_16 : decode cX5_write 16 = .ok (.invokestatic 86, 3) := by decide +kernel
theorem dX5_write_19 : decode cX5_write 19 = .ok (.ifCond .ne 7, 3) := by decide +kernel
theorem dX5_write_22 : decode cX5_write 22 = .ok (.iconst 1, 1) := by decide +kernel
theorem dX5_write_23 : decode cX5_write 23 = .ok (.goto 17, 3) := by decide +kernel
theorem dX5_write_26 : decode cX5_write 26 = .ok (.aload_n 0, 1) := by decide +kernel
theorem dX5_write_27 : decode cX5_write 27 = .ok (.getfield 89, 3) := by decide +kernel
theorem dX5_write_30 : decode cX5_write 30 = .ok (.bipush 30, 2) := by decide +kernel
theorem dX5_write_32 : decode cX5_write 32 = .ok (.if_icmp .ne 7, 3) := by decide +kernel
theorem dX5_write_35 : decode cX5_write 35 = .ok (.iconst 2, 1) := by decide +kernel
theorem dX5_write_36 : decode cX5_write 36 = .ok (.goto 4, 3) := by decide +kernel
theorem dX5_write_39 : decode cX5_write 39 = .ok (.iconst 0, 1) := by decide +kernel
theorem dX5_write_40 : decode cX5_write 40 = .ok (.invokevirtual 79, 3) := by decide +kernel
theorem dX5_write_43 : decode cX5_write 43 = .ok (.ifCond .ne 5, 3) := by decide +kernel
theorem dX5_write_46 : decode cX5_write 46 = .ok (.iconst 0, 1) := by decide +kernel
theorem dX5_write_47 : decode cX5_write 47 = .ok (.ireturn, 1) := by decide +kernel
theorem dX5_write_48 : decode cX5_write 48 = .ok (.aload_n 0, 1) := by decide +kernel
theorem dX5_write_49 : decode cX5_write 49 = .ok (.getfield 16, 3) := by decide +kernel
theorem dX5_write_52 : decode cX5_write 52 = .ok (.aload_n 0, 1) := by decide +kernel
theorem dX5_write_53 : decode cX5_write 53 = .ok (.getfield 89, 3) := by decide +kernel
theorem dX5_write_56 : decode cX5_write 56 = .ok (.iload_n 1, 1) := by decide +kernel
theorem dX5_write_57 : decode cX5_write 57 = .ok (.iastore, 1) := by decide +kernel
theorem dX5_write_58 : decode cX5_write 58 = .ok (.aload_n 0, 1) := by decide +kernel
theorem dX5_write_59 : decode cX5_write 59 = .ok (.getfield 19, 3) := by decide +kernel
theorem dX5_write_62 : decode cX5_write 62 = .ok (.aload_n 0, 1) := by decide +kernel
theorem dX5_write_63 : decode cX5_write 63 = .ok (.getfield 89, 3) := by decide +kernel
theorem dX5_write_66 : decode cX5_write 66 = .ok (.iload_n 2, 1) := by decide +kernel
theorem dX5_write_67 : decode cX5_write 67 = .ok (.iastore, 1) := by decide +kernel
theorem dX5_write_68 : decode cX5_write 68 = .ok (.aload_n 0, 1) := by decide +kernel
theorem dX5_write_69 : decode cX5_write 69 = .ok (.getfield 22, 3) := by decide +kernel
theorem dX5_write_72 : decode cX5_write 72 = .ok (.aload_n 0, 1) := by decide +kernel
theorem dX5_write_73 : decode cX5_write 73 = .ok (.getfield 89, 3) := by decide +kernel
theorem dX5_write_76 : decode cX5_write 76 = .ok (.iload_n 3, 1) := by decide +kernel
theorem dX5_write_77 : decode cX5_write 77 = .ok (.iastore, 1) := by decide +kernel
theorem dX5_write_78 : decode cX5_write 78 = .ok (.aload_n 0, 1) := by decide +kernel
theorem dX5_write_79 : decode cX5_write 79 = .ok (.getfield 25, 3) := by decide +kernel
theorem dX5_write_82 : decode cX5_write 82 = .ok (.aload_n 0, 1) := by decide +kernel
theorem dX5_write_83 : decode cX5_write 83 = .ok (.getfield 89, 3) := by decide +kernel
theorem dX5_write_86 : decode cX5_write 86 = .ok (.iload 4, 2) := by decide +kernel
theorem dX5_write_88 : decode cX5_write 88 = .ok (.bastore, 1) := by decide +kernel
theorem dX5_write_89 : decode cX5_write 89 = .ok (.aload_n 0, 1) := by decide +kernel
theorem dX5_write_90 : decode cX5_write 90 = .ok (.dup, 1) := by decide +kernel
theorem dX5_write_91 : decode cX5_write 91 = .ok (.getfield 89, 3) := by decide +kernel
theorem dX5_write_94 : decode cX5_write 94 = .ok (.iconst 1, 1) := by decide +kernel
theorem dX5_write_95 : decode cX5_write 95 = .ok (.iadd, 1) := by decide +kernel
theorem dX5_write_96 : decode cX5_write 96 = .ok (.putfield 89, 3) := by decide +kernel
theorem dX5_write_99 : decode cX5_write 99 = .ok (.aload_n 0, 1) := by decide +kernel
theorem dX5_write_100 : decode cX5_write 100 = .ok (.getfield 89, 3) := by decide +kernel
theorem dX5_write_103 : decode cX5_write 103 = .ok (.iconst 1, 1) := by decide +kernel
theorem dX5_write_104 : decode cX5_write 104 = .ok (.isub, 1) := by decide +kernel
theorem dX5_write_105 : decode cX5_write 105 = .ok (.ireturn, 1) := by decide +kernel
theorem dX5_lines_0 : decode cX5_lines 0 = .ok (.aload_n 0, 1) := by decide +kernel
theorem dX5_lines_1 : decode cX5_lines 1 = .ok (.iconst 0, 1) := by decide +kernel
theorem dX5_lines_2 : decode cX5_lines 2 = .ok (.putfield 64, 3) := by decide +kernel
theorem dX5_lines_5 : decode cX5_lines 5 = .ok (.aload_n 0, 1) := by decide +kernel
theorem dX5_lines_6 : decode cX5_lines 6 = .ok (.getfield 89, 3) := by decide +kernel
theorem dX5_lines_9 : decode cX5_lines 9 = .ok (.ireturn, 1) := by decide +kernel
set_option maxRecDepth 20000 in
theorem ggX5_isLine_X5_isIn : GoodIn wsX5_isLine wsX5_isIn := goodIn_r _ [5] (by decide +kernel) (by decide +kernel)
set_option maxRecDepth 20000 in
theorem gX5_isLine_X5_isIn : GoodIn wsX5_isLine (va_wsS RX5 68 yX5_isIn wsX5_isIn) := goodIn_app (goodIn_of _ (by decide +kernel)) ggX5_isLine_X5_isIn
theorem dX5_isLine_0 : decode cX5_isLine 0 = .ok (.iload_n 1, 1) := by decide +kernel
theorem dX5_isLine_1 : decode cX5_isLine 1 = .ok (.iconst 0, 1) := by decide +kernel
theorem dX5_isLine_2 : decode cX5_isLine 2 = .ok (.aload_n 0, 1) := by decide +kernel
theorem dX5_isLine_3 : decode cX5_isLine 3 = .ok (.getfield 89, 3) := by decide +kernel
theorem dX5_isLine_6 : decode cX5_isLine 6 = .ok (.iconst 1, 1) := by decide +kernel
theorem dX5_isLine_7 : decode cX5_isLine 7 = .ok (.isub, 1) := by decide +kernel
theorem dX5_isLine_8 : decode cX5_isLine 8 = .ok (.invokestatic 68, 3) := by decide +kernel
theorem dX5_isLine_11 : decode cX5_isLine 11 = .ok (.ireturn, 1) := by decide +kernel
theorem dX5_isBefore_0 : decode cX5_isBefore 0 = .ok (.aload_n 0, 1) := by decide +kernel
theorem dX5_isBefore_1 : decode cX5_isBefore 1 = .ok (.getfield 7, 3) := by decide +kernel
theorem dX5_isBefore_4 : decode cX5_isBefore 4 = .ok (.iconst 5, 1) := by decide +kernel
theorem dX5_isBefore_5 : decode cX5_isBefore 5 = .ok (.aload_n 0, 1) := by decide +kernel
theorem dX5_isBefore_6 : decode cX5_isBefore 6 = .ok (.getfield 16, 3) := by decide +kernel
theorem dX5_isBefore_9 : decode cX5_isBefore 9 = .ok (.iload_n 1, 1) := by decide +kernel
theorem dX5_isBefore_10 : decode cX5_isBefore 10 = .ok (.iaload, 1) := by decide +kernel
theorem dX5_isBefore_11 : decode cX5_isBefore 11 = .ok (.imul, 1) := by decide +kernel
theorem dX5_isBefore_12 : decode cX5_isBefore 12 = .ok (.aload_n 0, 1) := by decide +kernel
theorem dX5_isBefore_13 : decode cX5_isBefore 13 = .ok (.getfield 16, 3) := by decide +kernel
theorem dX5_isBefore_16 : decode cX5_isBefore 16 = .ok (.iload_n 2, 1) := by decide +kernel
theorem dX5_isBefore_17 : decode cX5_isBefore 17 = .ok (.iaload, 1) := by decide +kernel
theorem dX5_isBefore_18 : decode cX5_isBefore 18 = .ok (.iadd, 1) := by decide +kernel
theorem dX5_isBefore_19 : decode cX5_isBefore 19 = .ok (.iaload, 1) := by decide +kernel
theorem dX5_isBefore_20 : decode cX5_isBefore 20 = .ok (.istore_n 3, 1) := by decide +kernel
theorem dX5_isBefore_21 : decode cX5_isBefore 21 = .ok (.iload_n 3, 1) := by decide +kernel
theorem dX5_isBefore_22 : decode cX5_isBefore 22 = .ok (.ldc 63, 2) := by decide +kernel
theorem dX5_isBefore_24 : decode cX5_isBefore 24 = .ok (.if_icmp .eq 24, 3) := by decide +kernel
theorem dX5_isBefore_27 : decode cX5_isBefore 27 = .ok (.aload_n 0, 1) := by decide +kernel
theorem dX5_isBefore_28 : decode cX5_isBefore 28 = .ok (.getfield 19, 3) := by decide +kernel
theorem dX5_isBefore_31 : decode cX5_isBefore 31 = .ok (.iload_n 1, 1) := by decide +kernel
theorem dX5_isBefore_32 : decode cX5_isBefore 32 = .ok (.iaload, 1) := by decide +kernel
theorem dX5_isBefore_33 : decode cX5_isBefore 33 = .ok (.iload_n 3, 1) := by decide +kernel
theorem dX5_isBefore_34 : decode cX5_isBefore 34 = .ok (.iadd, 1) := by decide +kernel
theorem dX5_isBefore_35 : decode cX5_isBefore 35 = .ok (.aload_n 0, 1) := by decide +kernel
theorem dX5_isBefore_36 : decode cX5_isBefore 36 = .ok (.getfield 19, 3) := by decide +kernel
theorem dX5_isBefore_39 : decode cX5_isBefore 39 = .ok (.iload_n 2, 1) := by decide +kernel
theorem dX5_isBefore_40 : decode cX5_isBefore 40 = .ok (.iaload, 1) := by decide +kernel
theorem dX5_isBefore_41 : decode cX5_isBefore 41 = .ok (.if_icmp .ge 7, 3) := by decide +kernel
theorem dX5_isBefore_44 : decode cX5_isBefore 44 = .ok (.iconst 1, 1) := by decide +kernel
theorem dX5_isBefore_45 : decode cX5_isBefore 45 = .ok (.goto 4, 3) := by decide +kernel
theorem dX5_isBefore_48 : decode cX5_isBefore 48 = .ok (.iconst 0, 1) := by decide +kernel
theorem dX5_isBefore_49 : decode cX5_isBefore 49 = .ok (.ireturn, 1) := by decide +kernel
set_option maxRecDepth 20000 in
theorem ggX5_mustComeBefore_X5_isLine : GoodIn wsX5_mustComeBefore wsX5_isLine := goodIn_r _ [5, 6, 7, 8, 4, 9, 23, 24, 25, 26, 27, 28, 29, 30, 31, 32, 33, 34, 35, 36, 37, 38, 39, 40, 41, 42, 43] (by decide +kernel) (by decide +kernel)
set_option maxRecDepth 20000 in
theorem gX5_mustComeBefore_X5_isLine : GoodIn wsX5_mustComeBefore (wsV RX5 92 RX5 yX5_isLine wsX5_isLine) := goodIn_app (goodIn_of _ (by decide +kernel)) ggX5_mustComeBefore_X5_isLine
set_option maxRecDepth 20000 in
theorem ggX5_mustComeBefore_X5_goes : GoodIn wsX5_mustComeBefore wsX5_goes := goodIn_r _ [13, 14, 23, 24, 25, 26, 27, 28, 29, 30, 31, 32, 33, 34, 35, 36, 37, 38, 39, 40, 41, 42, 43] (by decide +kernel) (by decide +kernel)
set_option maxRecDepth 20000 in
theorem gX5_mustComeBefore_X5_goes : GoodIn wsX5_mustComeBefore (wsV RX5 79 RX5 yX5_goes wsX5_goes) := goodIn_app (goodIn_of _ (by decide +kernel)) ggX5_mustComeBefore_X5_goes
set_option maxRecDepth 20000 in
theorem ggX5_mustComeBefore_X5_isBefore : GoodIn wsX5_mustComeBefore wsX5_isBefore := goodIn_r _ [18, 19, 20, 21, 22, 23, 24, 25, 26, 27, 28, 29, 30, 31, 32, 33, 34, 35, 36, 37, 38, 39, 40, 41, 42, 43] (by decide +kernel) (by decide +kernel)
set_option maxRecDepth 20000 in
theorem gX5_mustComeBefore_X5_isBefore : GoodIn wsX5_mustComeBefore (wsV RX5 95 RX5 yX5_isBefore wsX5_isBefore) := goodIn_app (goodIn_of _ (by decide +kernel)) ggX5_mustComeBefore_X5_isBefore
theorem dX5_mustComeBefore_0 : decode cX5_mustComeBefore 0 = .ok (.aload_n 0, 1) := by decide +kernel
theorem dX5_mustComeBefore_1 : decode cX5_mustComeBefore 1 = .ok (.aload_n 0, 1) := by decide +kernel
theorem dX5_mustComeBefore_2 : decode cX5_mustComeBefore 2 = .ok (.iload_n 1, 1) := by decide +kernel
theorem dX5_mustComeBefore_3 : decode cX5_mustComeBefore 3 = .ok (.invokevirtual 92, 3) := by decide +kernel
theorem dX5_mustComeBefore_6 : decode cX5_mustComeBefore 6 = .ok (.ifCond .eq 15, 3) := by decide +kernel
theorem dX5_mustComeBefore_9 : decode cX5_mustComeBefore 9 = .ok (.aload_n 0, 1) := by decide +kernel
theorem dX5_mustComeBefore_10 : decode cX5_mustComeBefore 10 = .ok (.iload_n 2, 1) := by decide +kernel
theorem dX5_mustComeBefore_11 : decode cX5_mustComeBefore 11 = .ok (.invokevirtual 92, 3) := by decide +kernel
theorem dX5_mustComeBefore_14 : decode cX5_mustComeBefore 14 = .ok (.ifCond .eq 7, 3) := by decide +kernel
theorem dX5_mustComeBefore_17 : decode cX5_mustComeBefore 17 = .ok (.iconst 0, 1) := by decide +kernel
theorem dX5_mustComeBefore_18 : decode cX5_mustComeBefore 18 = .ok (.goto 4, 3) := by decide +kernel
theorem dX5_mustComeBefore_21 : decode cX5_mustComeBefore 21 = .ok (.iconst 1, 1) := by decide +kernel
theorem dX5_mustComeBefore_22 : decode cX5_mustComeBefore 22 = .ok (.invokevirtual 79, 3) := by decide +kernel
theorem dX5_mustComeBefore_25 : decode cX5_mustComeBefore 25 = .ok (.ifCond .eq 16, 3) := by decide +kernel
theorem dX5_mustComeBefore_28 : decode cX5_mustComeBefore 28 = .ok (.aload_n 0, 1) := by decide +kernel
theorem dX5_mustComeBefore_29 : decode cX5_mustComeBefore 29 = .ok (.iload_n 1, 1) := by decide +kernel
theorem dX5_mustComeBefore_30 : decode cX5_mustComeBefore 30 = .ok (.iload_n 2, 1) := by decide +kernel
theorem dX5_mustComeBefore_31 : decode cX5_mustComeBefore 31 = .ok (.invokevirtual 95, 3) := by decide +kernel
theorem dX5_mustComeBefore_34 : decode cX5_mustComeBefore 34 = .ok (.ifCond .eq 7, 3) := by decide +kernel
theorem dX5_mustComeBefore_37 : decode cX5_mustComeBefore 37 = .ok (.iconst 1, 1) := by decide +kernel
theorem dX5_mustComeBefore_38 : decode cX5_mustComeBefore 38 = .ok (.goto 4, 3) := by decide +kernel
theorem dX5_mustComeBefore_41 : decode cX5_mustComeBefore 41 = .ok (.iconst 0, 1) := by decide +kernel
theorem dX5_mustComeBefore_42 : decode cX5_mustComeBefore 42 = .ok (.ireturn, 1) := by decide +kernel
set_option maxRecDepth 20000 in
theorem ggX5_laysOrder_X5_isBefore : GoodIn wsX5_laysOrder wsX5_isBefore := goodIn_r _ [7, 8, 9, 10, 11, 12, 13, 14, 15, 16, 17, 18, 19, 20, 21, 22, 23, 24, 25, 26, 27, 28, 29, 30, 31, 32] (by decide +kernel) (by decide +kernel)
set_option maxRecDepth 20000 in
theorem gX5_laysOrder_X5_isBefore : GoodIn wsX5_laysOrder (wsV RX5 95 RX5 yX5_isBefore wsX5_isBefore) := goodIn_app (goodIn_of _ (by decide +kernel)) ggX5_laysOrder_X5_isBefore
theorem dX5_laysOrder_0 : decode cX5_laysOrder 0 = .ok (.iconst 0, 1) := by decide +kernel
theorem dX5_laysOrder_1 : decode cX5_laysOrder 1 = .ok (.istore_n 1, 1) := by decide +kernel
theorem dX5_laysOrder_2 : decode cX5_laysOrder 2 = .ok (.iconst 0, 1) := by decide +kernel
theorem dX5_laysOrder_3 : decode cX5_laysOrder 3 = .ok (.istore_n 2, 1) := by decide +kernel
theorem dX5_laysOrder_4 : decode cX5_laysOrder 4 = .ok (.iload_n 2, 1) := by decide +kernel
theorem dX5_laysOrder_5 : decode cX5_laysOrder 5 = .ok (.aload_n 0, 1) := by decide +kernel
theorem dX5_laysOrder_6 : decode cX5_laysOrder 6 = .ok (.getfield 89, 3) := by decide +kernel
theorem dX5_laysOrder_9 : decode cX5_laysOrder 9 = .ok (.if_icmp .ge 122, 3) := by decide +kernel
theorem dX5_laysOrder_12 : decode cX5_laysOrder 12 = .ok (.iconst (-1), 1) := by decide +kernel
theorem dX5_laysOrder_13 : decode cX5_laysOrder 13 = .ok (.istore_n 3, 1) := by decide +kernel
theorem dX5_laysOrder_14 : decode cX5_laysOrder 14 = .ok (.aload_n 0, 1) := by decide +kernel
theorem dX5_laysOrder_15 : decode cX5_laysOrder 15 = .ok (.getfield 89, 3) := by decide +kernel
theorem dX5_laysOrder_18 : decode cX5_laysOrder 18 = .ok (.iconst 1, 1) := by decide +kernel
theorem dX5_laysOrder_19 : decode cX5_laysOrder 19 = .ok (.isub, 1) := by decide +kernel
theorem dX5_laysOrder_20 : decode cX5_laysOrder 20 = .ok (.istore 4, 2) := by decide +kernel
theorem dX5_laysOrder_22 : decode cX5_laysOrder 22 = .ok (.iload 4, 2) := by decide +kernel
theorem dX5_laysOrder_24 : decode cX5_laysOrder 24 = .ok (.ifCond .lt 88, 3) := by decide +kernel
theorem dX5_laysOrder_27 : decode cX5_laysOrder 27 = .ok (.iload_n 1, 1) := by decide +kernel
theorem dX5_laysOrder_28 : decode cX5_laysOrder 28 = .ok (.iload 4, 2) := by decide +kernel
theorem dX5_laysOrder_30 : decode cX5_laysOrder 30 = .ok (.ishr, 1) := by decide +kernel
theorem dX5_laysOrder_31 : decode cX5_laysOrder 31 = .ok (.iconst 1, 1) := by decide +kernel
theorem dX5_laysOrder_32 : decode cX5_laysOrder 32 = .ok (.iand, 1) := by decide +kernel
theorem dX5_laysOrder_33 : decode cX5_laysOrder 33 = .ok (.ifCond .ne 7, 3) := by decide +kernel
theorem dX5_laysOrder_36 : decode cX5_laysOrder 36 = .ok (.iconst 1, 1) := by decide +kernel
theorem dX5_laysOrder_37 : decode cX5_laysOrder 37 = .ok (.goto 4, 3) := by decide +kernel
theorem dX5_laysOrder_40 : decode cX5_laysOrder 40 = .ok (.iconst 0, 1) := by decide +kernel
theorem dX5_laysOrder_41 : decode cX5_laysOrder 41 = .ok (.istore 5, 2) := by decide +kernel
theorem dX5_laysOrder_43 : decode cX5_laysOrder 43 = .ok (.iconst 0, 1) := by decide +kernel
theorem dX5_laysOrder_44 : decode cX5_laysOrder 44 = .ok (.istore 6, 2) := by decide +kernel
theorem dX5_laysOrder_46 : decode cX5_laysOrder 46 = .ok (.iload 6, 2) := by decide +kernel
theorem dX5_laysOrder_48 : decode cX5_laysOrder 48 = .ok (.aload_n 0, 1) := by decide +kernel
theorem dX5_laysOrder_49 : decode cX5_laysOrder 49 = .ok (.getfield 89, 3) := by decide +kernel
theorem dX5_laysOrder_52 : decode cX5_laysOrder 52 = .ok (.if_icmp .ge 42, 3) := by decide +kernel
theorem dX5_laysOrder_55 : decode cX5_laysOrder 55 = .ok (.iload 5, 2) := by decide +kernel
theorem dX5_laysOrder_57 : decode cX5_laysOrder 57 = .ok (.ifCond .eq 37, 3) := by decide +kernel
theorem dX5_laysOrder_60 : decode cX5_laysOrder 60 = .ok (.iload_n 1, 1) := by decide +kernel
theorem dX5_laysOrder_61 : decode cX5_laysOrder 61 = .ok (.iload 6, 2) := by decide +kernel
theorem dX5_laysOrder_63 : decode cX5_laysOrder 63 = .ok (.ishr, 1) := by decide +kernel
theorem dX5_laysOrder_64 : decode cX5_laysOrder 64 = .ok (.iconst 1, 1) := by decide +kernel
theorem dX5_laysOrder_65 : decode cX5_laysOrder 65 = .ok (.iand, 1) := by decide +kernel
theorem dX5_laysOrder_66 : decode cX5_laysOrder 66 = .ok (.iconst 1, 1) := by decide +kernel
theorem dX5_laysOrder_67 : decode cX5_laysOrder 67 = .ok (.if_icmp .eq 14, 3) := by decide +kernel
theorem dX5_laysOrder_70 : decode cX5_laysOrder 70 = .ok (.aload_n 0, 1) := by decide +kernel
theorem dX5_laysOrder_71 : decode cX5_laysOrder 71 = .ok (.iload 6, 2) := by decide +kernel
theorem dX5_laysOrder_73 : decode cX5_laysOrder 73 = .ok (.iload 4, 2) := by decide +kernel
theorem dX5_laysOrder_75 : decode cX5_laysOrder 75 = .ok (.invokevirtual 95, 3) := by decide +kernel
theorem dX5_laysOrder_78 : decode cX5_laysOrder 78 = .ok (.ifCond .ne 7, 3) := by decide +kernel
theorem dX5_laysOrder_81 : decode cX5_laysOrder 81 = .ok (.iconst 1, 1) := by decide +kernel
theorem dX5_laysOrder_82 : decode cX5_laysOrder 82 = .ok (.goto 4, 3) := by decide +kernel
theorem dX5_laysOrder_85 : decode cX5_laysOrder 85 = .ok (.iconst 0, 1) := by decide +kernel
theorem dX5_laysOrder_86 : decode cX5_laysOrder 86 = .ok (.istore 5, 2) := by decide +kernel
theorem dX5_laysOrder_88 : decode cX5_laysOrder 88 = .ok (.iinc 6 1, 3) := by decide +kernel
theorem dX5_laysOrder_91 : decode cX5_laysOrder 91 = .ok (.goto (-45), 3) := by decide +kernel
theorem dX5_laysOrder_94 : decode cX5_laysOrder 94 = .ok (.iload 5, 2) := by decide +kernel
theorem dX5_laysOrder_96 : decode cX5_laysOrder 96 = .ok (.ifCond .eq 8, 3) := by decide +kernel
theorem dX5_laysOrder_99 : decode cX5_laysOrder 99 = .ok (.iload 4, 2) := by decide +kernel
theorem dX5_laysOrder_101 : decode cX5_laysOrder 101 = .ok (.goto 4, 3) := by decide +kernel
theorem dX5_laysOrder_104 : decode cX5_laysOrder 104 = .ok (.iload_n 3, 1) := by decide +kernel
theorem dX5_laysOrder_105 : decode cX5_laysOrder 105 = .ok (.istore_n 3, 1) := by decide +kernel
theorem dX5_laysOrder_106 : decode cX5_laysOrder 106 = .ok (.iinc 4 (-1), 3) := by decide +kernel
theorem dX5_laysOrder_109 : decode cX5_laysOrder 109 = .ok (.goto (-87), 3) := by decide +kernel
theorem dX5_laysOrder_112 : decode cX5_laysOrder 112 = .ok (.aload_n 0, 1) := by decide +kernel
theorem dX5_laysOrder_113 : decode cX5_laysOrder 113 = .ok (.getfield 35, 3) := by decide +kernel
theorem dX5_laysOrder_116 : decode cX5_laysOrder 116 = .ok (.iload_n 2, 1) := by decide +kernel
theorem dX5_laysOrder_117 : decode cX5_laysOrder 117 = .ok (.iload_n 3, 1) := by decide +kernel
theorem dX5_laysOrder_118 : decode cX5_laysOrder 118 = .ok (.iastore, 1) := by decide +kernel
theorem dX5_laysOrder_119 : decode cX5_laysOrder 119 = .ok (.iload_n 1, 1) := by decide +kernel
theorem dX5_laysOrder_120 : decode cX5_laysOrder 120 = .ok (.iconst 1, 1) := by decide +kernel
theorem dX5_laysOrder_121 : decode cX5_laysOrder 121 = .ok (.iload_n 3, 1) := by decide +kernel
theorem dX5_laysOrder_122 : decode cX5_laysOrder 122 = .ok (.ishl, 1) := by decide +kernel
theorem dX5_laysOrder_123 : decode cX5_laysOrder 123 = .ok (.ior, 1) := by decide +kernel
theorem dX5_laysOrder_124 : decode cX5_laysOrder 124 = .ok (.istore_n 1, 1) := by decide +kernel
theorem dX5_laysOrder_125 : decode cX5_laysOrder 125 = .ok (.iinc 2 1, 3) := by decide +kernel
theorem dX5_laysOrder_128 : decode cX5_laysOrder 128 = .ok (.goto (-124), 3) := by decide +kernel
theorem dX5_laysOrder_131 : decode cX5_laysOrder 131 = .ok (.return_, 1) := by decide +kernel
set_option maxRecDepth 20000 in
theorem ggX5_lineAt_X5_laysOrder : GoodIn wsX5_lineAt wsX5_laysOrder := goodIn_r _ [7, 1, 2, 8, 9, 10, 6, 11, 12, 13, 14, 15, 24, 25, 26, 27, 28, 29, 30, 31, 32, 33, 34, 35, 36, 37, 38, 39, 40, 41, 42, 43, 44] (by decide +kernel) (by decide +kernel)
set_option maxRecDepth 20000 in
theorem gX5_lineAt_X5_laysOrder : GoodIn wsX5_lineAt (wsV RX5 99 RX5 yX5_laysOrder wsX5_laysOrder) := goodIn_app (goodIn_of _ (by decide +kernel)) ggX5_lineAt_X5_laysOrder
set_option maxRecDepth 20000 in
theorem ggX5_lineAt_X5_isIn : GoodIn wsX5_lineAt wsX5_isIn := goodIn_r _ [18] (by decide +kernel) (by decide +kernel)
set_option maxRecDepth 20000 in
theorem gX5_lineAt_X5_isIn : GoodIn wsX5_lineAt (va_wsS RX5 68 yX5_isIn wsX5_isIn) := goodIn_app (goodIn_of _ (by decide +kernel)) ggX5_lineAt_X5_isIn
set_option maxRecDepth 20000 in
theorem ggX5_lineAt_X5_goes : GoodIn wsX5_lineAt wsX5_goes := goodIn_r _ [22, 23, 24, 25, 26, 27, 28, 29, 30, 31, 32, 33, 34, 35, 36, 37, 38, 39, 40, 41, 42, 43, 44] (by decide +kernel) (by decide +kernel)
set_option maxRecDepth 20000 in
theorem gX5_lineAt_X5_goes : GoodIn wsX5_lineAt (wsV RX5 79 RX5 yX5_goes wsX5_goes) := goodIn_app (goodIn_of _ (by decide +kernel)) ggX5_lineAt_X5_goes
theorem dX5_lineAt_0 : decode cX5_lineAt 0 = .ok (.aload_n 0, 1) := by decide +kernel
theorem dX5_lineAt_1 : decode cX5_lineAt 1 = .ok (.invokevirtual 99, 3) := by decide +kernel
theorem dX5_lineAt_4 : decode cX5_lineAt 4 = .ok (.aload_n 0, 1) := by decide +kernel
theorem dX5_lineAt_5 : decode cX5_lineAt 5 = .ok (.iload_n 1, 1) := by decide +kernel
theorem dX5_lineAt_6 : decode cX5_lineAt 6 = .ok (.iconst 0, 1) := by decide +kernel
theorem dX5_lineAt_7 : decode cX5_lineAt 7 = .ok (.aload_n 0, 1) := by decide +kernel
theorem dX5_lineAt_8 : decode cX5_lineAt 8 = .ok (.getfield 89, 3) := by decide +kernel
theorem dX5_lineAt_11 : decode cX5_lineAt 11 = .ok (.iconst 1, 1) := by decide +kernel
theorem dX5_lineAt_12 : decode cX5_lineAt 12 = .ok (.isub, 1) := by decide +kernel
theorem dX5_lineAt_13 : decode cX5_lineAt 13 = .ok (.invokestatic 68, 3) := by decide +kernel
theorem dX5_lineAt_16 : decode cX5_lineAt 16 = .ok (.ifCond .eq 7, 3) := by decide +kernel
theorem dX5_lineAt_19 : decode cX5_lineAt 19 = .ok (.iconst 0, 1) := by decide +kernel
theorem dX5_lineAt_20 : decode cX5_lineAt 20 = .ok (.goto 4, 3) := by decide +kernel
theorem dX5_lineAt_23 : decode cX5_lineAt 23 = .ok (.iconst 1, 1) := by decide +kernel
theorem dX5_lineAt_24 : decode cX5_lineAt 24 = .ok (.invokevirtual 79, 3) := by decide +kernel
theorem dX5_lineAt_27 : decode cX5_lineAt 27 = .ok (.ifCond .eq 12, 3) := by decide +kernel
theorem dX5_lineAt_30 : decode cX5_lineAt 30 = .ok (.aload_n 0, 1) := by decide +kernel
theorem dX5_lineAt_31 : decode cX5_lineAt 31 = .ok (.getfield 35, 3) := by decide +kernel
theorem dX5_lineAt_34 : decode cX5_lineAt 34 = .ok (.iload_n 1, 1) := by decide +kernel
theorem dX5_lineAt_35 : decode cX5_lineAt 35 = .ok (.iaload, 1) := by decide +kernel
theorem dX5_lineAt_36 : decode cX5_lineAt 36 = .ok (.goto 4, 3) := by decide +kernel
theorem dX5_lineAt_39 : decode cX5_lineAt 39 = .ok (.iconst 0, 1) := by decide +kernel
theorem dX5_lineAt_40 : decode cX5_lineAt 40 = .ok (.ireturn, 1) := by decide +kernel
set_option maxRecDepth 20000 in
theorem ggX5_orders_X5_goes : GoodIn wsX5_orders wsX5_goes := goodIn_r _ [8, 9, 18, 19, 20, 21, 22, 23, 24, 25, 26, 27, 28, 29, 30, 31, 32, 33, 34, 35, 36, 37, 38] (by decide +kernel) (by decide +kernel)
set_option maxRecDepth 20000 in
theorem gX5_orders_X5_goes : GoodIn wsX5_orders (wsV RX5 79 RX5 yX5_goes wsX5_goes) := goodIn_app (goodIn_of _ (by decide +kernel)) ggX5_orders_X5_goes
set_option maxRecDepth 20000 in
theorem ggX5_orders_X5_isBefore : GoodIn wsX5_orders wsX5_isBefore := goodIn_r _ [13, 14, 15, 16, 17, 18, 19, 20, 21, 22, 23, 24, 25, 26, 27, 28, 29, 30, 31, 32, 33, 34, 35, 36, 37, 38] (by decide +kernel) (by decide +kernel)
set_option maxRecDepth 20000 in
theorem gX5_orders_X5_isBefore : GoodIn wsX5_orders (wsV RX5 95 RX5 yX5_isBefore wsX5_isBefore) := goodIn_app (goodIn_of _ (by decide +kernel)) ggX5_orders_X5_isBefore
theorem dX5_orders_0 : decode cX5_orders 0 = .ok (.aload_n 0, 1) := by decide +kernel
theorem dX5_orders_1 : decode cX5_orders 1 = .ok (.aload_n 0, 1) := by decide +kernel
theorem dX5_orders_2 : decode cX5_orders 2 = .ok (.getfield 89, 3) := by decide +kernel
theorem dX5_orders_5 : decode cX5_orders 5 = .ok (.bipush 12, 2) := by decide +kernel
theorem dX5_orders_7 : decode cX5_orders 7 = .ok (.if_icmp .le 7, 3) := by decide +kernel
theorem dX5_orders_10 : decode cX5_orders 10 = .ok (.iconst 1, 1) := by decide +kernel
theorem dX5_orders_11 : decode cX5_orders 11 = .ok (.goto 4, 3) := by decide +kernel
theorem dX5_orders_14 : decode cX5_orders 14 = .ok (.iconst 0, 1) := by decide +kernel
theorem dX5_orders_15 : decode cX5_orders 15 = .ok (.invokevirtual 79, 3) := by decide +kernel
theorem dX5_orders_18 : decode cX5_orders 18 = .ok (.ifCond .ne 5, 3) := by decide +kernel
theorem dX5_orders_21 : decode cX5_orders 21 = .ok (.lconst 0, 1) := by decide +kernel
theorem dX5_orders_22 : decode cX5_orders 22 = .ok (.lreturn, 1) := by decide +kernel
theorem dX5_orders_23 : decode cX5_orders 23 = .ok (.iconst 0, 1) := by decide +kernel
theorem dX5_orders_24 : decode cX5_orders 24 = .ok (.istore_n 1, 1) := by decide +kernel
theorem dX5_orders_25 : decode cX5_orders 25 = .ok (.iload_n 1, 1) := by decide +kernel
theorem dX5_orders_26 : decode cX5_orders 26 = .ok (.aload_n 0, 1) := by decide +kernel
theorem dX5_orders_27 : decode cX5_orders 27 = .ok (.getfield 89, 3) := by decide +kernel
theorem dX5_orders_30 : decode cX5_orders 30 = .ok (.if_icmp .ge 57, 3) := by decide +kernel
theorem dX5_orders_33 : decode cX5_orders 33 = .ok (.aload_n 0, 1) := by decide +kernel
theorem dX5_orders_34 : decode cX5_orders 34 = .ok (.getfield 38, 3) := by decide +kernel
theorem dX5_orders_37 : decode cX5_orders 37 = .ok (.iload_n 1, 1) := by decide +kernel
theorem dX5_orders_38 : decode cX5_orders 38 = .ok (.iconst 0, 1) := by decide +kernel
theorem dX5_orders_39 : decode cX5_orders 39 = .ok (.iastore, 1) := by decide +kernel
theorem dX5_orders_40 : decode cX5_orders 40 = .ok (.iconst 0, 1) := by decide +kernel
theorem dX5_orders_41 : decode cX5_orders 41 = .ok (.istore_n 2, 1) := by decide +kernel
theorem dX5_orders_42 : decode cX5_orders 42 = .ok (.iload_n 2, 1) := by decide +kernel
theorem dX5_orders_43 : decode cX5_orders 43 = .ok (.aload_n 0, 1) := by decide +kernel
theorem dX5_orders_44 : decode cX5_orders 44 = .ok (.getfield 89, 3) := by decide +kernel
theorem dX5_orders_47 : decode cX5_orders 47 = .ok (.if_icmp .ge 34, 3) := by decide +kernel
theorem dX5_orders_50 : decode cX5_orders 50 = .ok (.aload_n 0, 1) := by decide +kernel
theorem dX5_orders_51 : decode cX5_orders 51 = .ok (.getfield 38, 3) := by decide +kernel
theorem dX5_orders_54 : decode cX5_orders 54 = .ok (.iload_n 1, 1) := by decide +kernel
theorem dX5_orders_55 : decode cX5_orders 55 = .ok (.dup2, 1) := by decide +kernel
theorem dX5_orders_56 : decode cX5_orders 56 = .ok (.iaload, 1) := by decide +kernel
theorem dX5_orders_57 : decode cX5_orders 57 = .ok (.aload_n 0, 1) := by decide +kernel
theorem dX5_orders_58 : decode cX5_orders 58 = .ok (.iload_n 2, 1) := by decide +kernel
theorem dX5_orders_59 : decode cX5_orders 59 = .ok (.iload_n 1, 1) := by decide +kernel
theorem dX5_orders_60 : decode cX5_orders 60 = .ok (.invokevirtual 95, 3) := by decide +kernel
theorem dX5_orders_63 : decode cX5_orders 63 = .ok (.ifCond .eq 9, 3) := by decide +kernel
theorem dX5_orders_66 : decode cX5_orders 66 = .ok (.iconst 1, 1) := by decide +kernel
theorem dX5_orders_67 : decode cX5_orders 67 = .ok (.iload_n 2, 1) := by decide +kernel
theorem dX5_orders_68 : decode cX5_orders 68 = .ok (.ishl, 1) := by decide +kernel
theorem dX5_orders_69 : decode cX5_orders 69 = .ok (.goto 4, 3) := by decide +kernel
theorem dX5_orders_72 : decode cX5_orders 72 = .ok (.iconst 0, 1) := by decide +kernel
theorem dX5_orders_73 : decode cX5_orders 73 = .ok (.ior, 1) := by decide +kernel
theorem dX5_orders_74 : decode cX5_orders 74 = .ok (.iastore, 1) := by decide +kernel
theorem dX5_orders_75 : decode cX5_orders 75 = .ok (.iinc 2 1, 3) := by decide +kernel
theorem dX5_orders_78 : decode cX5_orders 78 = .ok (.goto (-36), 3) := by decide +kernel
theorem dX5_orders_81 : decode cX5_orders 81 = .ok (.iinc 1 1, 3) := by decide +kernel
theorem dX5_orders_84 : decode cX5_orders 84 = .ok (.goto (-59), 3) := by decide +kernel
theorem dX5_orders_87 : decode cX5_orders 87 = .ok (.aload_n 0, 1) := by decide +kernel
theorem dX5_orders_88 : decode cX5_orders 88 = .ok (.getfield 41, 3) := by decide +kernel
theorem dX5_orders_91 : decode cX5_orders 91 = .ok (.iconst 0, 1) := by decide +kernel
theorem dX5_orders_92 : decode cX5_orders 92 = .ok (.lconst 1, 1) := by decide +kernel
theorem dX5_orders_93 : decode cX5_orders 93 = .ok (.lastore, 1) := by decide +kernel
theorem dX5_orders_94 : decode cX5_orders 94 = .ok (.iconst 1, 1) := by decide +kernel
theorem dX5_orders_95 : decode cX5_orders 95 = .ok (.istore_n 1, 1) := by decide +kernel
theorem dX5_orders_96 : decode cX5_orders 96 = .ok (.iload_n 1, 1) := by decide +kernel
theorem dX5_orders_97 : decode cX5_orders 97 = .ok (.iconst 1, 1) := by decide +kernel
theorem dX5_orders_98 : decode cX5_orders 98 = .ok (.aload_n 0, 1) := by decide +kernel
theorem dX5_orders_99 : decode cX5_orders 99 = .ok (.getfield 89, 3) := by decide +kernel
theorem dX5_orders_102 : decode cX5_orders 102 = .ok (.ishl, 1) := by decide +kernel
theorem dX5_orders_103 : decode cX5_orders 103 = .ok (.if_icmp .ge 87, 3) := by decide +kernel
theorem dX5_orders_106 : decode cX5_orders 106 = .ok (.aload_n 0, 1) := by decide +kernel
theorem dX5_orders_107 : decode cX5_orders 107 = .ok (.getfield 41, 3) := by decide +kernel
theorem dX5_orders_110 : decode cX5_orders 110 = .ok (.iload_n 1, 1) := by decide +kernel
theorem dX5_orders_111 : decode cX5_orders 111 = .ok (.lconst 0, 1) := by decide +kernel
theorem dX5_orders_112 : decode cX5_orders 112 = .ok (.lastore, 1) := by decide +kernel
theorem dX5_orders_113 : decode cX5_orders 113 = .ok (.iconst 0, 1) := by decide +kernel
theorem dX5_orders_114 : decode cX5_orders 114 = .ok (.istore_n 2, 1) := by decide +kernel
theorem dX5_orders_115 : decode cX5_orders 115 = .ok (.iload_n 2, 1) := by decide +kernel
theorem dX5_orders_116 : decode cX5_orders 116 = .ok (.aload_n 0, 1) := by decide +kernel
theorem dX5_orders_117 : decode cX5_orders 117 = .ok (.getfield 89, 3) := by decide +kernel
theorem dX5_orders_120 : decode cX5_orders 120 = .ok (.if_icmp .ge 64, 3) := by decide +kernel
theorem dX5_orders_123 : decode cX5_orders 123 = .ok (.iload_n 1, 1) := by decide +kernel
theorem dX5_orders_124 : decode cX5_orders 124 = .ok (.iload_n 2, 1) := by decide +kernel
theorem dX5_orders_125 : decode cX5_orders 125 = .ok (.ishr, 1) := by decide +kernel
theorem dX5_orders_126 : decode cX5_orders 126 = .ok (.iconst 1, 1) := by decide +kernel
theorem dX5_orders_127 : decode cX5_orders 127 = .ok (.iand, 1) := by decide +kernel
theorem dX5_orders_128 : decode cX5_orders 128 = .ok (.iconst 1, 1) := by decide +kernel
theorem dX5_orders_129 : decode cX5_orders 129 = .ok (.if_icmp .ne 20, 3) := by decide +kernel
theorem dX5_orders_132 : decode cX5_orders 132 = .ok (.aload_n 0, 1) := by decide +kernel
theorem dX5_orders_133 : decode cX5_orders 133 = .ok (.getfield 38, 3) := by decide +kernel
theorem dX5_orders_136 : decode cX5_orders 136 = .ok (.iload_n 2, 1) := by decide +kernel
theorem dX5_orders_137 : decode cX5_orders 137 = .ok (.iaload, 1) := by decide +kernel
theorem dX5_orders_138 : decode cX5_orders 138 = .ok (.iload_n 1, 1) := by decide +kernel
theorem dX5_orders_139 : decode cX5_orders 139 = .ok (.iconst (-1), 1) := by decide +kernel
theorem dX5_orders_140 : decode cX5_orders 140 = .ok (.ixor, 1) := by decide +kernel
theorem dX5_orders_141 : decode cX5_orders 141 = .ok (.iand, 1) := by decide +kernel
theorem dX5_orders_142 : decode cX5_orders 142 = .ok (.ifCond .ne 7, 3) := by decide +kernel
theorem dX5_orders_145 : decode cX5_orders 145 = .ok (.iconst 1, 1) := by decide +kernel
theorem dX5_orders_146 : decode cX5_orders 146 = .ok (.goto 4, 3) := by decide +kernel
theorem dX5_orders_149 : decode cX5_orders 149 = .ok (.iconst 0, 1) := by decide +kernel
theorem dX5_orders_150 : decode cX5_orders 150 = .ok (.istore_n 3, 1) := by decide +kernel
theorem dX5_orders_151 : decode cX5_orders 151 = .ok (.aload_n 0, 1) := by decide +kernel
theorem dX5_orders_152 : decode cX5_orders 152 = .ok (.getfield 41, 3) := by decide +kernel
theorem dX5_orders_155 : decode cX5_orders 155 = .ok (.iload_n 1, 1) := by decide +kernel
theorem dX5_orders_156 : decode cX5_orders 156 = .ok (.dup2, 1) := by decide +kernel
theorem dX5_orders_157 : decode cX5_orders 157 = .ok (.laload, 1) := by decide +kernel
theorem dX5_orders_158 : decode cX5_orders 158 = .ok (.iload_n 3, 1) := by decide +kernel
theorem dX5_orders_159 : decode cX5_orders 159 = .ok (.ifCond .eq 16, 3) := by decide +kernel
theorem dX5_orders_162 : decode cX5_orders 162 = .ok (.aload_n 0, 1) := by decide +kernel
theorem dX5_orders_163 : decode cX5_orders 163 = .ok (.getfield 41, 3) := by decide +kernel
theorem dX5_orders_166 : decode cX5_orders 166 = .ok (.iload_n 1, 1) := by decide +kernel
theorem dX5_orders_167 : decode cX5_orders 167 = .ok (.iconst 1, 1) := by decide +kernel
theorem dX5_orders_168 : decode cX5_orders 168 = .ok (.iload_n 2, 1) := by decide +kernel
theorem dX5_orders_169 : decode cX5_orders 169 = .ok (.ishl, 1) := by decide +kernel
theorem dX5_orders_170 : decode cX5_orders 170 = .ok (.isub, 1) := by decide +kernel
theorem dX5_orders_171 : decode cX5_orders 171 = .ok (.laload, 1) := by decide +kernel
theorem dX5_orders_172 : decode cX5_orders 172 = .ok (.goto 4, 3) := by decide +kernel
theorem dX5_orders_175 : decode cX5_orders 175 = .ok (.lconst 0, 1) := by decide +kernel
theorem dX5_orders_176 : decode cX5_orders 176 = .ok (.ladd, 1) := by decide +kernel
theorem dX5_orders_177 : decode cX5_orders 177 = .ok (.lastore, 1) := by decide +kernel
theorem dX5_orders_178 : decode cX5_orders 178 = .ok (.iinc 2 1, 3) := by decide +kernel
theorem dX5_orders_181 : decode cX5_orders 181 = .ok (.goto (-66), 3) := by decide +kernel
theorem dX5_orders_184 : decode cX5_orders 184 = .ok (.iinc 1 1, 3) := by decide +kernel
theorem dX5_orders_187 : decode cX5_orders 187 = .ok (.goto (-91), 3) := by decide +kernel
theorem dX5_orders_190 : decode cX5_orders 190 = .ok (.aload_n 0, 1) := by decide +kernel
theorem dX5_orders_191 : decode cX5_orders 191 = .ok (.getfield 41, 3) := by decide +kernel
theorem dX5_orders_194 : decode cX5_orders 194 = .ok (.iconst 1, 1) := by decide +kernel
theorem dX5_orders_195 : decode cX5_orders 195 = .ok (.aload_n 0, 1) := by decide +kernel
theorem dX5_orders_196 : decode cX5_orders 196 = .ok (.getfield 89, 3) := by decide +kernel
theorem dX5_orders_199 : decode cX5_orders 199 = .ok (.ishl, 1) := by decide +kernel
theorem dX5_orders_200 : decode cX5_orders 200 = .ok (.iconst 1, 1) := by decide +kernel
theorem dX5_orders_201 : decode cX5_orders 201 = .ok (.isub, 1) := by decide +kernel
theorem dX5_orders_202 : decode cX5_orders 202 = .ok (.laload, 1) := by decide +kernel
theorem dX5_orders_203 : decode cX5_orders 203 = .ok (.lreturn, 1) := by decide +kernel
set_option maxRecDepth 20000 in
theorem ggX5_argue_X5_isLine : GoodIn wsX5_argue wsX5_isLine := goodIn_r _ [7, 8, 9, 10, 6, 11, 17, 18, 19, 20, 21, 22, 23, 24, 25, 26, 27, 28, 29, 30, 31, 32, 33, 34, 35, 36, 37] (by decide +kernel) (by decide +kernel)
set_option maxRecDepth 20000 in
theorem gX5_argue_X5_isLine : GoodIn wsX5_argue (wsV RX5 92 RX5 yX5_isLine wsX5_isLine) := goodIn_app (goodIn_of _ (by decide +kernel)) ggX5_argue_X5_isLine
set_option maxRecDepth 20000 in
theorem ggX5_argue_X5_isIn : GoodIn wsX5_argue wsX5_isIn := goodIn_r _ [11] (by decide +kernel) (by decide +kernel)
set_option maxRecDepth 20000 in
theorem gX5_argue_X5_isIn : GoodIn wsX5_argue (va_wsS RX5 68 yX5_isIn wsX5_isIn) := goodIn_app (goodIn_of _ (by decide +kernel)) ggX5_argue_X5_isIn
set_option maxRecDepth 20000 in
theorem ggX5_argue_X5_goes : GoodIn wsX5_argue wsX5_goes := goodIn_r _ [15, 16, 17, 18, 19, 20, 21, 22, 23, 24, 25, 26, 27, 28, 29, 30, 31, 32, 33, 34, 35, 36, 37] (by decide +kernel) (by decide +kernel)
set_option maxRecDepth 20000 in
theorem gX5_argue_X5_goes : GoodIn wsX5_argue (wsV RX5 79 RX5 yX5_goes wsX5_goes) := goodIn_app (goodIn_of _ (by decide +kernel)) ggX5_argue_X5_goes
theorem dX5_argue_0 : decode cX5_argue 0 = .ok (.aload_n 0, 1) := by decide +kernel
theorem dX5_argue_1 : decode cX5_argue 1 = .ok (.aload_n 0, 1) := by decide +kernel
theorem dX5_argue_2 : decode cX5_argue 2 = .ok (.iload_n 1, 1) := by decide +kernel
theorem dX5_argue_3 : decode cX5_argue 3 = .ok (.invokevirtual 92, 3) := by decide +kernel
theorem dX5_argue_6 : decode cX5_argue 6 = .ok (.ifCond .ne 7, 3) := by decide +kernel
theorem dX5_argue_9 : decode cX5_argue 9 = .ok (.iconst 1, 1) := by decide +kernel
theorem dX5_argue_10 : decode cX5_argue 10 = .ok (.goto 18, 3) := by decide +kernel
theorem dX5_argue_13 : decode cX5_argue 13 = .ok (.iload_n 2, 1) := by decide +kernel
theorem dX5_argue_14 : decode cX5_argue 14 = .ok (.iconst 1, 1) := by decide +kernel
theorem dX5_argue_15 : decode cX5_argue 15 = .ok (.bipush 100, 2) := by decide +kernel
theorem dX5_argue_17 : decode cX5_argue 17 = .ok (.invokestatic 68, 3) := by decide +kernel
theorem dX5_argue_20 : decode cX5_argue 20 = .ok (.ifCond .eq 7, 3) := by decide +kernel
theorem dX5_argue_23 : decode cX5_argue 23 = .ok (.iconst 0, 1) := by decide +kernel
theorem dX5_argue_24 : decode cX5_argue 24 = .ok (.goto 4, 3) := by decide +kernel
theorem dX5_argue_27 : decode cX5_argue 27 = .ok (.iconst 2, 1) := by decide +kernel
theorem dX5_argue_28 : decode cX5_argue 28 = .ok (.invokevirtual 79, 3) := by decide +kernel
theorem dX5_argue_31 : decode cX5_argue 31 = .ok (.ifCond .ne 5, 3) := by decide +kernel
theorem dX5_argue_34 : decode cX5_argue 34 = .ok (.iconst 0, 1) := by decide +kernel
theorem dX5_argue_35 : decode cX5_argue 35 = .ok (.ireturn, 1) := by decide +kernel
theorem dX5_argue_36 : decode cX5_argue 36 = .ok (.aload_n 0, 1) := by decide +kernel
theorem dX5_argue_37 : decode cX5_argue 37 = .ok (.getfield 29, 3) := by decide +kernel
theorem dX5_argue_40 : decode cX5_argue 40 = .ok (.iload_n 1, 1) := by decide +kernel
theorem dX5_argue_41 : decode cX5_argue 41 = .ok (.dup2, 1) := by decide +kernel
theorem dX5_argue_42 : decode cX5_argue 42 = .ok (.iaload, 1) := by decide +kernel
theorem dX5_argue_43 : decode cX5_argue 43 = .ok (.iload_n 3, 1) := by decide +kernel
theorem dX5_argue_44 : decode cX5_argue 44 = .ok (.ifCond .eq 7, 3) := by decide +kernel
theorem dX5_argue_47 : decode cX5_argue 47 = .ok (.iload_n 2, 1) := by decide +kernel
theorem dX5_argue_48 : decode cX5_argue 48 = .ok (.goto 4, 3) := by decide +kernel
theorem dX5_argue_51 : decode cX5_argue 51 = .ok (.iconst 0, 1) := by decide +kernel
theorem dX5_argue_52 : decode cX5_argue 52 = .ok (.iadd, 1) := by decide +kernel
theorem dX5_argue_53 : decode cX5_argue 53 = .ok (.iastore, 1) := by decide +kernel
theorem dX5_argue_54 : decode cX5_argue 54 = .ok (.aload_n 0, 1) := by decide +kernel
theorem dX5_argue_55 : decode cX5_argue 55 = .ok (.getfield 32, 3) := by decide +kernel
theorem dX5_argue_58 : decode cX5_argue 58 = .ok (.iload_n 1, 1) := by decide +kernel
theorem dX5_argue_59 : decode cX5_argue 59 = .ok (.dup2, 1) := by decide +kernel
theorem dX5_argue_60 : decode cX5_argue 60 = .ok (.iaload, 1) := by decide +kernel
theorem dX5_argue_61 : decode cX5_argue 61 = .ok (.iload_n 3, 1) := by decide +kernel
theorem dX5_argue_62 : decode cX5_argue 62 = .ok (.ifCond .eq 7, 3) := by decide +kernel
theorem dX5_argue_65 : decode cX5_argue 65 = .ok (.iconst 0, 1) := by decide +kernel
theorem dX5_argue_66 : decode cX5_argue 66 = .ok (.goto 4, 3) := by decide +kernel
theorem dX5_argue_69 : decode cX5_argue 69 = .ok (.iload_n 2, 1) := by decide +kernel
theorem dX5_argue_70 : decode cX5_argue 70 = .ok (.iadd, 1) := by decide +kernel
theorem dX5_argue_71 : decode cX5_argue 71 = .ok (.iastore, 1) := by decide +kernel
theorem dX5_argue_72 : decode cX5_argue 72 = .ok (.aload_n 0, 1) := by decide +kernel
theorem dX5_argue_73 : decode cX5_argue 73 = .ok (.getfield 29, 3) := by decide +kernel
theorem dX5_argue_76 : decode cX5_argue 76 = .ok (.iload_n 1, 1) := by decide +kernel
theorem dX5_argue_77 : decode cX5_argue 77 = .ok (.iaload, 1) := by decide +kernel
theorem dX5_argue_78 : decode cX5_argue 78 = .ok (.aload_n 0, 1) := by decide +kernel
theorem dX5_argue_79 : decode cX5_argue 79 = .ok (.getfield 32, 3) := by decide +kernel
theorem dX5_argue_82 : decode cX5_argue 82 = .ok (.iload_n 1, 1) := by decide +kernel
theorem dX5_argue_83 : decode cX5_argue 83 = .ok (.iaload, 1) := by decide +kernel
theorem dX5_argue_84 : decode cX5_argue 84 = .ok (.isub, 1) := by decide +kernel
theorem dX5_argue_85 : decode cX5_argue 85 = .ok (.ireturn, 1) := by decide +kernel
theorem dX5_isDoubted_0 : decode cX5_isDoubted 0 = .ok (.aload_n 0, 1) := by decide +kernel
theorem dX5_isDoubted_1 : decode cX5_isDoubted 1 = .ok (.getfield 32, 3) := by decide +kernel
theorem dX5_isDoubted_4 : decode cX5_isDoubted 4 = .ok (.iload_n 1, 1) := by decide +kernel
theorem dX5_isDoubted_5 : decode cX5_isDoubted 5 = .ok (.iaload, 1) := by decide +kernel
theorem dX5_isDoubted_6 : decode cX5_isDoubted 6 = .ok (.aload_n 0, 1) := by decide +kernel
theorem dX5_isDoubted_7 : decode cX5_isDoubted 7 = .ok (.getfield 29, 3) := by decide +kernel
theorem dX5_isDoubted_10 : decode cX5_isDoubted 10 = .ok (.iload_n 1, 1) := by decide +kernel
theorem dX5_isDoubted_11 : decode cX5_isDoubted 11 = .ok (.iaload, 1) := by decide +kernel
theorem dX5_isDoubted_12 : decode cX5_isDoubted 12 = .ok (.if_icmp .le 7, 3) := by decide +kernel
theorem dX5_isDoubted_15 : decode cX5_isDoubted 15 = .ok (.iconst 1, 1) := by decide +kernel
theorem dX5_isDoubted_16 : decode cX5_isDoubted 16 = .ok (.goto 4, 3) := by decide +kernel
theorem dX5_isDoubted_19 : decode cX5_isDoubted 19 = .ok (.iconst 0, 1) := by decide +kernel
theorem dX5_isDoubted_20 : decode cX5_isDoubted 20 = .ok (.ireturn, 1) := by decide +kernel
set_option maxRecDepth 20000 in
theorem ggX5_isDoubtful_X5_isLine : GoodIn wsX5_isDoubtful wsX5_isLine := goodIn_r _ [5, 6, 7, 8, 4, 9, 21, 22, 23, 24, 25, 26, 27, 28, 29, 30, 31, 32, 33, 34, 35, 36, 37, 38, 39, 40, 41] (by decide +kernel) (by decide +kernel)
set_option maxRecDepth 20000 in
theorem gX5_isDoubtful_X5_isLine : GoodIn wsX5_isDoubtful (wsV RX5 92 RX5 yX5_isLine wsX5_isLine) := goodIn_app (goodIn_of _ (by decide +kernel)) ggX5_isDoubtful_X5_isLine
set_option maxRecDepth 20000 in
theorem ggX5_isDoubtful_X5_goes : GoodIn wsX5_isDoubtful wsX5_goes := goodIn_r _ [13, 14, 21, 22, 23, 24, 25, 26, 27, 28, 29, 30, 31, 32, 33, 34, 35, 36, 37, 38, 39, 40, 41] (by decide +kernel) (by decide +kernel)
set_option maxRecDepth 20000 in
theorem gX5_isDoubtful_X5_goes : GoodIn wsX5_isDoubtful (wsV RX5 79 RX5 yX5_goes wsX5_goes) := goodIn_app (goodIn_of _ (by decide +kernel)) ggX5_isDoubtful_X5_goes
set_option maxRecDepth 20000 in
theorem ggX5_isDoubtful_X5_isDoubted : GoodIn wsX5_isDoubtful wsX5_isDoubted := goodIn_r _ [18, 19, 20, 21, 22, 23, 24, 25, 26, 27, 28, 29, 30, 31, 32, 33, 34, 35, 36, 37, 38, 39, 40, 41] (by decide +kernel) (by decide +kernel)
set_option maxRecDepth 20000 in
theorem gX5_isDoubtful_X5_isDoubted : GoodIn wsX5_isDoubtful (wsV RX5 102 RX5 yX5_isDoubted wsX5_isDoubted) := goodIn_app (goodIn_of _ (by decide +kernel)) ggX5_isDoubtful_X5_isDoubted
theorem dX5_isDoubtful_0 : decode cX5_isDoubtful 0 = .ok (.aload_n 0, 1) := by decide +kernel
theorem dX5_isDoubtful_1 : decode cX5_isDoubtful 1 = .ok (.aload_n 0, 1) := by decide +kernel
theorem dX5_isDoubtful_2 : decode cX5_isDoubtful 2 = .ok (.iload_n 1, 1) := by decide +kernel
theorem dX5_isDoubtful_3 : decode cX5_isDoubtful 3 = .ok (.invokevirtual 92, 3) := by decide +kernel
theorem dX5_isDoubtful_6 : decode cX5_isDoubtful 6 = .ok (.ifCond .eq 7, 3) := by decide +kernel
theorem dX5_isDoubtful_9 : decode cX5_isDoubtful 9 = .ok (.iconst 0, 1) := by decide +kernel
theorem dX5_isDoubtful_10 : decode cX5_isDoubtful 10 = .ok (.goto 4, 3) := by decide +kernel
theorem dX5_isDoubtful_13 : decode cX5_isDoubtful 13 = .ok (.iconst 1, 1) := by decide +kernel
theorem dX5_isDoubtful_14 : decode cX5_isDoubtful 14 = .ok (.invokevirtual 79, 3) := by decide +kernel
theorem dX5_isDoubtful_17 : decode cX5_isDoubtful 17 = .ok (.ifCond .eq 15, 3) := by decide +kernel
theorem dX5_isDoubtful_20 : decode cX5_isDoubtful 20 = .ok (.aload_n 0, 1) := by decide +kernel
theorem dX5_isDoubtful_21 : decode cX5_isDoubtful 21 = .ok (.iload_n 1, 1) := by decide +kernel
theorem dX5_isDoubtful_22 : decode cX5_isDoubtful 22 = .ok (.invokevirtual 102, 3) := by decide +kernel
theorem dX5_isDoubtful_25 : decode cX5_isDoubtful 25 = .ok (.ifCond .eq 7, 3) := by decide +kernel
theorem dX5_isDoubtful_28 : decode cX5_isDoubtful 28 = .ok (.iconst 1, 1) := by decide +kernel
theorem dX5_isDoubtful_29 : decode cX5_isDoubtful 29 = .ok (.goto 4, 3) := by decide +kernel
theorem dX5_isDoubtful_32 : decode cX5_isDoubtful 32 = .ok (.iconst 0, 1) := by decide +kernel
theorem dX5_isDoubtful_33 : decode cX5_isDoubtful 33 = .ok (.ireturn, 1) := by decide +kernel
set_option maxRecDepth 20000 in
theorem ggX5_isOfStory_X5_isDoubted : GoodIn wsX5_isOfStory wsX5_isDoubted := goodIn_r _ [6, 7, 8, 9, 10, 11, 12, 13, 14, 15, 16, 17, 18, 19, 20, 21, 22, 23, 24, 25, 26, 27, 28, 29] (by decide +kernel) (by decide +kernel)
set_option maxRecDepth 20000 in
theorem gX5_isOfStory_X5_isDoubted : GoodIn wsX5_isOfStory (wsV RX5 102 RX5 yX5_isDoubted wsX5_isDoubted) := goodIn_app (goodIn_of _ (by decide +kernel)) ggX5_isOfStory_X5_isDoubted
theorem dX5_isOfStory_0 : decode cX5_isOfStory 0 = .ok (.aload_n 0, 1) := by decide +kernel
theorem dX5_isOfStory_1 : decode cX5_isOfStory 1 = .ok (.getfield 25, 3) := by decide +kernel
theorem dX5_isOfStory_4 : decode cX5_isOfStory 4 = .ok (.iload_n 1, 1) := by decide +kernel
theorem dX5_isOfStory_5 : decode cX5_isOfStory 5 = .ok (.baload, 1) := by decide +kernel
theorem dX5_isOfStory_6 : decode cX5_isOfStory 6 = .ok (.ifCond .eq 15, 3) := by decide +kernel
theorem dX5_isOfStory_9 : decode cX5_isOfStory 9 = .ok (.aload_n 0, 1) := by decide +kernel
theorem dX5_isOfStory_10 : decode cX5_isOfStory 10 = .ok (.iload_n 1, 1) := by decide +kernel
theorem dX5_isOfStory_11 : decode cX5_isOfStory 11 = .ok (.invokevirtual 102, 3) := by decide +kernel
theorem dX5_isOfStory_14 : decode cX5_isOfStory 14 = .ok (.ifCond .ne 7, 3) := by decide +kernel
theorem dX5_isOfStory_17 : decode cX5_isOfStory 17 = .ok (.iconst 1, 1) := by decide +kernel
theorem dX5_isOfStory_18 : decode cX5_isOfStory 18 = .ok (.goto 4, 3) := by decide +kernel
theorem dX5_isOfStory_21 : decode cX5_isOfStory 21 = .ok (.iconst 0, 1) := by decide +kernel
theorem dX5_isOfStory_22 : decode cX5_isOfStory 22 = .ok (.ireturn, 1) := by decide +kernel
set_option maxRecDepth 20000 in
theorem ggX5_storyLines_X5_isOfStory : GoodIn wsX5_storyLines wsX5_isOfStory := goodIn_r _ [6, 7, 8, 9, 10, 5, 11, 12, 13, 14, 15, 16, 17, 18, 19, 20, 21, 22, 23, 24, 25, 26, 27, 28, 29, 30, 31, 32, 33, 34] (by decide +kernel) (by decide +kernel)
set_option maxRecDepth 20000 in
theorem gX5_storyLines_X5_isOfStory : GoodIn wsX5_storyLines (wsV RX5 105 RX5 yX5_isOfStory wsX5_isOfStory) := goodIn_app (goodIn_of _ (by decide +kernel)) ggX5_storyLines_X5_isOfStory
theorem dX5_storyLines_0 : decode cX5_storyLines 0 = .ok (.iconst 0, 1) := by decide +kernel
theorem dX5_storyLines_1 : decode cX5_storyLines 1 = .ok (.istore_n 1, 1) := by decide +kernel
theorem dX5_storyLines_2 : decode cX5_storyLines 2 = .ok (.iconst 0, 1) := by decide +kernel
theorem dX5_storyLines_3 : decode cX5_storyLines 3 = .ok (.istore_n 2, 1) := by decide +kernel
theorem dX5_storyLines_4 : decode cX5_storyLines 4 = .ok (.iload_n 2, 1) := by decide +kernel
theorem dX5_storyLines_5 : decode cX5_storyLines 5 = .ok (.aload_n 0, 1) := by decide +kernel
theorem dX5_storyLines_6 : decode cX5_storyLines 6 = .ok (.getfield 89, 3) := by decide +kernel
theorem dX5_storyLines_9 : decode cX5_storyLines 9 = .ok (.if_icmp .ge 25, 3) := by decide +kernel
theorem dX5_storyLines_12 : decode cX5_storyLines 12 = .ok (.iload_n 1, 1) := by decide +kernel
theorem dX5_storyLines_13 : decode cX5_storyLines 13 = .ok (.aload_n 0, 1) := by decide +kernel
theorem dX5_storyLines_14 : decode cX5_storyLines 14 = .ok (.iload_n 2, 1) := by decide +kernel
theorem dX5_storyLines_15 : decode cX5_storyLines 15 = .ok (.invokevirtual 105, 3) := by decide +kernel
theorem dX5_storyLines_18 : decode cX5_storyLines 18 = .ok (.ifCond .eq 7, 3) := by decide +kernel
theorem dX5_storyLines_21 : decode cX5_storyLines 21 = .ok (.iconst 1, 1) := by decide +kernel
theorem dX5_storyLines_22 : decode cX5_storyLines 22 = .ok (.goto 4, 3) := by decide +kernel
theorem dX5_storyLines_25 : decode cX5_storyLines 25 = .ok (.iconst 0, 1) := by decide +kernel
theorem dX5_storyLines_26 : decode cX5_storyLines 26 = .ok (.iadd, 1) := by decide +kernel
theorem dX5_storyLines_27 : decode cX5_storyLines 27 = .ok (.istore_n 1, 1) := by decide +kernel
theorem dX5_storyLines_28 : decode cX5_storyLines 28 = .ok (.iinc 2 1, 3) := by decide +kernel
theorem dX5_storyLines_31 : decode cX5_storyLines 31 = .ok (.goto (-27), 3) := by decide +kernel
theorem dX5_storyLines_34 : decode cX5_storyLines 34 = .ok (.iload_n 1, 1) := by decide +kernel
theorem dX5_storyLines_35 : decode cX5_storyLines 35 = .ok (.ireturn, 1) := by decide +kernel
set_option maxRecDepth 20000 in
theorem ggX5_story_X5_storyLines : GoodIn wsX5_story wsX5_storyLines := goodIn_r _ [6, 7, 8, 9, 10, 5, 11, 12, 13, 14, 15, 16, 17, 18, 19, 20, 21, 22, 23, 24, 25, 26, 27, 28, 29, 30, 31, 32, 33, 34, 35, 36, 37, 38, 39] (by decide +kernel) (by decide +kernel)
set_option maxRecDepth 20000 in
theorem gX5_story_X5_storyLines : GoodIn wsX5_story (wsV RX5 108 RX5 yX5_storyLines wsX5_storyLines) := goodIn_app (goodIn_of _ (by decide +kernel)) ggX5_story_X5_storyLines
theorem dX5_story_0 : decode cX5_story 0 = .ok (.aload_n 0, 1) := by decide +kernel
theorem dX5_story_1 : decode cX5_story 1 = .ok (.iconst 0, 1) := by decide +kernel
theorem dX5_story_2 : decode cX5_story 2 = .ok (.putfield 64, 3) := by decide +kernel
theorem dX5_story_5 : decode cX5_story 5 = .ok (.aload_n 0, 1) := by decide +kernel
theorem dX5_story_6 : decode cX5_story 6 = .ok (.invokevirtual 108, 3) := by decide +kernel
theorem dX5_story_9 : decode cX5_story 9 = .ok (.ireturn, 1) := by decide +kernel
set_option maxRecDepth 20000 in
theorem ggX5_storyAt_X5_storyLines : GoodIn wsX5_storyAt wsX5_storyLines := goodIn_r _ [7, 1, 8, 9, 10, 6, 11, 12, 13, 14, 15, 16, 17, 18, 39, 40, 41, 42, 43, 44, 45, 46, 47, 48, 49, 50, 51, 52, 53, 54, 55, 56, 57, 58, 59] (by decide +kernel) (by decide +kernel)
set_option maxRecDepth 20000 in
theorem gX5_storyAt_X5_storyLines : GoodIn wsX5_storyAt (wsV RX5 108 RX5 yX5_storyLines wsX5_storyLines) := goodIn_app (goodIn_of _ (by decide +kernel)) ggX5_storyAt_X5_storyLines
set_option maxRecDepth 20000 in
theorem ggX5_storyAt_X5_isIn : GoodIn wsX5_storyAt wsX5_isIn := goodIn_r _ [21] (by decide +kernel) (by decide +kernel)
set_option maxRecDepth 20000 in
theorem gX5_storyAt_X5_isIn : GoodIn wsX5_storyAt (va_wsS RX5 68 yX5_isIn wsX5_isIn) := goodIn_app (goodIn_of _ (by decide +kernel)) ggX5_storyAt_X5_isIn
set_option maxRecDepth 20000 in
theorem ggX5_storyAt_X5_goes : GoodIn wsX5_storyAt wsX5_goes := goodIn_r _ [25, 26, 39, 40, 41, 42, 43, 44, 45, 46, 47, 48, 49, 50, 51, 52, 53, 54, 55, 56, 57, 58, 59] (by decide +kernel) (by decide +kernel)
set_option maxRecDepth 20000 in
theorem gX5_storyAt_X5_goes : GoodIn wsX5_storyAt (wsV RX5 79 RX5 yX5_goes wsX5_goes) := goodIn_app (goodIn_of _ (by decide +kernel)) ggX5_storyAt_X5_goes
set_option maxRecDepth 20000 in
theorem ggX5_storyAt_X5_laysOrder : GoodIn wsX5_storyAt wsX5_laysOrder := goodIn_r _ [30, 1, 2, 31, 32, 33, 6, 34, 35, 36, 37, 38, 39, 40, 41, 42, 43, 44, 45, 46, 47, 48, 49, 50, 51, 52, 53, 54, 55, 56, 57, 58, 59] (by decide +kernel) (by decide +kernel)
set_option maxRecDepth 20000 in
theorem gX5_storyAt_X5_laysOrder : GoodIn wsX5_storyAt (wsV RX5 99 RX5 yX5_laysOrder wsX5_laysOrder) := goodIn_app (goodIn_of _ (by decide +kernel)) ggX5_storyAt_X5_laysOrder
set_option maxRecDepth 20000 in
theorem ggX5_storyAt_X5_isOfStory : GoodIn wsX5_storyAt wsX5_isOfStory := goodIn_r _ [11, 12, 13, 14, 15, 6, 16, 17, 18, 39, 40, 41, 42, 43, 44, 45, 46, 47, 48, 49, 50, 51, 52, 53, 54, 55, 56, 57, 58, 59] (by decide +kernel) (by decide +kernel)
set_option maxRecDepth 20000 in
theorem gX5_storyAt_X5_isOfStory : GoodIn wsX5_storyAt (wsV RX5 105 RX5 yX5_isOfStory wsX5_isOfStory) := goodIn_app (goodIn_of _ (by decide +kernel)) ggX5_storyAt_X5_isOfStory
theorem dX5_storyAt_0 : decode cX5_storyAt 0 = .ok (.aload_n 0, 1) := by decide +kernel
theorem dX5_storyAt_1 : decode cX5_storyAt 1 = .ok (.iload_n 1, 1) := by decide +kernel
theorem dX5_storyAt_2 : decode cX5_storyAt 2 = .ok (.iconst 0, 1) := by decide +kernel
theorem dX5_storyAt_3 : decode cX5_storyAt 3 = .ok (.aload_n 0, 1) := by decide +kernel
theorem dX5_storyAt_4 : decode cX5_storyAt 4 = .ok (.invokevirtual 108, 3) := by decide +kernel
theorem dX5_storyAt_7 : decode cX5_storyAt 7 = .ok (.iconst 1, 1) := by decide +kernel
theorem dX5_storyAt_8 : decode cX5_storyAt 8 = .ok (.isub, 1) := by decide +kernel
theorem dX5_storyAt_9 : decode cX5_storyAt 9 = .ok (.invokestatic 68, 3) := by decide +kernel
theorem dX5_storyAt_12 : decode cX5_storyAt 12 = .ok (.ifCond .eq 7, 3) := by decide +kernel
theorem dX5_storyAt_15 : decode cX5_storyAt 15 = .ok (.iconst 0, 1) := by decide +kernel
theorem dX5_storyAt_16 : decode cX5_storyAt 16 = .ok (.goto 4, 3) := by decide +kernel
theorem dX5_storyAt_19 : decode cX5_storyAt 19 = .ok (.iconst 1, 1) := by decide +kernel
theorem dX5_storyAt_20 : decode cX5_storyAt 20 = .ok (.invokevirtual 79, 3) := by decide +kernel
theorem dX5_storyAt_23 : decode cX5_storyAt 23 = .ok (.ifCond .ne 5, 3) := by decide +kernel
theorem dX5_storyAt_26 : decode cX5_storyAt 26 = .ok (.iconst 0, 1) := by decide +kernel
theorem dX5_storyAt_27 : decode cX5_storyAt 27 = .ok (.ireturn, 1) := by decide +kernel
theorem dX5_storyAt_28 : decode cX5_storyAt 28 = .ok (.aload_n 0, 1) := by decide +kernel
theorem dX5_storyAt_29 : decode cX5_storyAt 29 = .ok (.invokevirtual 99, 3) := by decide +kernel
theorem dX5_storyAt_32 : decode cX5_storyAt 32 = .ok (.iconst (-1), 1) := by decide +kernel
theorem dX5_storyAt_33 : decode cX5_storyAt 33 = .ok (.istore_n 2, 1) := by decide +kernel
theorem dX5_storyAt_34 : decode cX5_storyAt 34 = .ok (.iconst 0, 1) := by decide +kernel
theorem dX5_storyAt_35 : decode cX5_storyAt 35 = .ok (.istore_n 3, 1) := by decide +kernel
theorem dX5_storyAt_36 : decode cX5_storyAt 36 = .ok (.iconst 0, 1) := by decide +kernel
theorem dX5_storyAt_37 : decode cX5_storyAt 37 = .ok (.istore 4, 2) := by decide +kernel
theorem dX5_storyAt_39 : decode cX5_storyAt 39 = .ok (.iload 4, 2) := by decide +kernel
theorem dX5_storyAt_41 : decode cX5_storyAt 41 = .ok (.aload_n 0, 1) := by decide +kernel
theorem dX5_storyAt_42 : decode cX5_storyAt 42 = .ok (.getfield 89, 3) := by decide +kernel
theorem dX5_storyAt_45 : decode cX5_storyAt 45 = .ok (.if_icmp .ge 57, 3) := by decide +kernel
theorem dX5_storyAt_48 : decode cX5_storyAt 48 = .ok (.aload_n 0, 1) := by decide +kernel
theorem dX5_storyAt_49 : decode cX5_storyAt 49 = .ok (.aload_n 0, 1) := by decide +kernel
theorem dX5_storyAt_50 : decode cX5_storyAt 50 = .ok (.getfield 35, 3) := by decide +kernel
theorem dX5_storyAt_53 : decode cX5_storyAt 53 = .ok (.iload 4, 2) := by decide +kernel
theorem dX5_storyAt_55 : decode cX5_storyAt 55 = .ok (.iaload, 1) := by decide +kernel
theorem dX5_storyAt_56 : decode cX5_storyAt 56 = .ok (.invokevirtual 105, 3) := by decide +kernel
theorem dX5_storyAt_59 : decode cX5_storyAt 59 = .ok (.istore 5, 2) := by decide +kernel
theorem dX5_storyAt_61 : decode cX5_storyAt 61 = .ok (.iload 5, 2) := by decide +kernel
theorem dX5_storyAt_63 : decode cX5_storyAt 63 = .ok (.ifCond .eq 18, 3) := by decide +kernel
theorem dX5_storyAt_66 : decode cX5_storyAt 66 = .ok (.iload_n 3, 1) := by decide +kernel
theorem dX5_storyAt_67 : decode cX5_storyAt 67 = .ok (.iload_n 1, 1) := by decide +kernel
theorem dX5_storyAt_68 : decode cX5_storyAt 68 = .ok (.if_icmp .ne 13, 3) := by decide +kernel
theorem dX5_storyAt_71 : decode cX5_storyAt 71 = .ok (.aload_n 0, 1) := by decide +kernel
theorem dX5_storyAt_72 : decode cX5_storyAt 72 = .ok (.getfield 35, 3) := by decide +kernel
theorem dX5_storyAt_75 : decode cX5_storyAt 75 = .ok (.iload 4, 2) := by decide +kernel
theorem dX5_storyAt_77 : decode cX5_storyAt 77 = .ok (.iaload, 1) := by decide +kernel
theorem dX5_storyAt_78 : decode cX5_storyAt 78 = .ok (.goto 4, 3) := by decide +kernel
theorem dX5_storyAt_81 : decode cX5_storyAt 81 = .ok (.iload_n 2, 1) := by decide +kernel
theorem dX5_storyAt_82 : decode cX5_storyAt 82 = .ok (.istore_n 2, 1) := by decide +kernel
theorem dX5_storyAt_83 : decode cX5_storyAt 83 = .ok (.iload_n 3, 1) := by decide +kernel
theorem dX5_storyAt_84 : decode cX5_storyAt 84 = .ok (.iload 5, 2) := by decide +kernel
theorem dX5_storyAt_86 : decode cX5_storyAt 86 = .ok (.ifCond .eq 7, 3) := by decide +kernel
theorem dX5_storyAt_89 : decode cX5_storyAt 89 = .ok (.iconst 1, 1) := by decide +kernel
theorem dX5_storyAt_90 : decode cX5_storyAt 90 = .ok (.goto 4, 3) := by decide +kernel
theorem dX5_storyAt_93 : decode cX5_storyAt 93 = .ok (.iconst 0, 1) := by decide +kernel
theorem dX5_storyAt_94 : decode cX5_storyAt 94 = .ok (.iadd, 1) := by decide +kernel
theorem dX5_storyAt_95 : decode cX5_storyAt 95 = .ok (.istore_n 3, 1) := by decide +kernel
theorem dX5_storyAt_96 : decode cX5_storyAt 96 = .ok (.iinc 4 1, 3) := by decide +kernel
theorem dX5_storyAt_99 : decode cX5_storyAt 99 = .ok (.goto (-60), 3) := by decide +kernel
theorem dX5_storyAt_102 : decode cX5_storyAt 102 = .ok (.iload_n 2, 1) := by decide +kernel
theorem dX5_storyAt_103 : decode cX5_storyAt 103 = .ok (.ireturn, 1) := by decide +kernel
set_option maxRecDepth 20000 in
theorem ggX5_earliest_X5_isLine : GoodIn wsX5_earliest wsX5_isLine := goodIn_r _ [10, 11, 12, 13, 9, 14, 20, 21, 22, 23, 24, 25, 26, 27, 28, 29, 30, 31, 32, 33, 34, 35, 36, 37, 38, 39, 40] (by decide +kernel) (by decide +kernel)
set_option maxRecDepth 20000 in
theorem gX5_earliest_X5_isLine : GoodIn wsX5_earliest (wsV RX5 92 RX5 yX5_isLine wsX5_isLine) := goodIn_app (goodIn_of _ (by decide +kernel)) ggX5_earliest_X5_isLine
set_option maxRecDepth 20000 in
theorem ggX5_earliest_X5_goes : GoodIn wsX5_earliest wsX5_goes := goodIn_r _ [18, 19, 20, 21, 22, 23, 24, 25, 26, 27, 28, 29, 30, 31, 32, 33, 34, 35, 36, 37, 38, 39, 40] (by decide +kernel) (by decide +kernel)
set_option maxRecDepth 20000 in
theorem gX5_earliest_X5_goes : GoodIn wsX5_earliest (wsV RX5 79 RX5 yX5_goes wsX5_goes) := goodIn_app (goodIn_of _ (by decide +kernel)) ggX5_earliest_X5_goes
theorem dX5_earliest_0 : decode cX5_earliest 0 = .ok (.aload_n 0, 1) := by decide +kernel
theorem dX5_earliest_1 : decode cX5_earliest 1 = .ok (.aload_n 0, 1) := by decide +kernel
theorem dX5_earliest_2 : decode cX5_earliest 2 = .ok (.iload_n 1, 1) := by decide +kernel
theorem dX5_earliest_3 : decode cX5_earliest 3 = .ok (.invokevirtual 92, 3) := by decide +kernel
theorem dX5_earliest_6 : decode cX5_earliest 6 = .ok (.ifCond .eq 7, 3) := by decide +kernel
theorem dX5_earliest_9 : decode cX5_earliest 9 = .ok (.iconst 0, 1) := by decide +kernel
theorem dX5_earliest_10 : decode cX5_earliest 10 = .ok (.goto 4, 3) := by decide +kernel
theorem dX5_earliest_13 : decode cX5_earliest 13 = .ok (.iconst 1, 1) := by decide +kernel
theorem dX5_earliest_14 : decode cX5_earliest 14 = .ok (.invokevirtual 79, 3) := by decide +kernel
theorem dX5_earliest_17 : decode cX5_earliest 17 = .ok (.ifCond .ne 5, 3) := by decide +kernel
theorem dX5_earliest_20 : decode cX5_earliest 20 = .ok (.iconst 0, 1) := by decide +kernel
theorem dX5_earliest_21 : decode cX5_earliest 21 = .ok (.ireturn, 1) := by decide +kernel
theorem dX5_earliest_22 : decode cX5_earliest 22 = .ok (.aload_n 0, 1) := by decide +kernel
theorem dX5_earliest_23 : decode cX5_earliest 23 = .ok (.getfield 7, 3) := by decide +kernel
theorem dX5_earliest_26 : decode cX5_earliest 26 = .ok (.aload_n 0, 1) := by decide +kernel
theorem dX5_earliest_27 : decode cX5_earliest 27 = .ok (.getfield 16, 3) := by decide +kernel
theorem dX5_earliest_30 : decode cX5_earliest 30 = .ok (.iload_n 1, 1) := by decide +kernel
theorem dX5_earliest_31 : decode cX5_earliest 31 = .ok (.iaload, 1) := by decide +kernel
theorem dX5_earliest_32 : decode cX5_earliest 32 = .ok (.iaload, 1) := by decide +kernel
theorem dX5_earliest_33 : decode cX5_earliest 33 = .ok (.istore_n 2, 1) := by decide +kernel
theorem dX5_earliest_34 : decode cX5_earliest 34 = .ok (.iload_n 2, 1) := by decide +kernel
theorem dX5_earliest_35 : decode cX5_earliest 35 = .ok (.ldc 63, 2) := by decide +kernel
theorem dX5_earliest_37 : decode cX5_earliest 37 = .ok (.if_icmp .ne 8, 3) := by decide +kernel
theorem dX5_earliest_40 : decode cX5_earliest 40 = .ok (.ldc 112, 2) := by decide +kernel
theorem dX5_earliest_42 : decode cX5_earliest 42 = .ok (.goto 11, 3) := by decide +kernel
theorem dX5_earliest_45 : decode cX5_earliest 45 = .ok (.aload_n 0, 1) := by decide +kernel
theorem dX5_earliest_46 : decode cX5_earliest 46 = .ok (.getfield 19, 3) := by decide +kernel
theorem dX5_earliest_49 : decode cX5_earliest 49 = .ok (.iload_n 1, 1) := by decide +kernel
theorem dX5_earliest_50 : decode cX5_earliest 50 = .ok (.iaload, 1) := by decide +kernel
theorem dX5_earliest_51 : decode cX5_earliest 51 = .ok (.iload_n 2, 1) := by decide +kernel
theorem dX5_earliest_52 : decode cX5_earliest 52 = .ok (.isub, 1) := by decide +kernel
theorem dX5_earliest_53 : decode cX5_earliest 53 = .ok (.ireturn, 1) := by decide +kernel
set_option maxRecDepth 20000 in
theorem ggX5_firstOf_X5_isService : GoodIn wsX5_firstOf wsX5_isService := goodIn_r _ [7, 8, 9, 6, 10] (by decide +kernel) (by decide +kernel)
set_option maxRecDepth 20000 in
theorem gX5_firstOf_X5_isService : GoodIn wsX5_firstOf (va_wsS RX5 86 yX5_isService wsX5_isService) := goodIn_app (goodIn_of _ (by decide +kernel)) ggX5_firstOf_X5_isService
set_option maxRecDepth 20000 in
theorem ggX5_firstOf_X5_goes : GoodIn wsX5_firstOf wsX5_goes := goodIn_r _ [14, 15, 28, 29, 30, 31, 32, 33, 34, 35, 36, 37, 38, 39, 40, 41, 42, 43, 44, 45, 46, 47, 48] (by decide +kernel) (by decide +kernel)
set_option maxRecDepth 20000 in
theorem gX5_firstOf_X5_goes : GoodIn wsX5_firstOf (wsV RX5 79 RX5 yX5_goes wsX5_goes) := goodIn_app (goodIn_of _ (by decide +kernel)) ggX5_firstOf_X5_goes
set_option maxRecDepth 20000 in
theorem ggX5_firstOf_X5_laysOrder : GoodIn wsX5_firstOf wsX5_laysOrder := goodIn_r _ [19, 1, 3, 20, 21, 22, 6, 23, 24, 25, 26, 27, 28, 29, 30, 31, 32, 33, 34, 35, 36, 37, 38, 39, 40, 41, 42, 43, 44, 45, 46, 47, 48] (by decide +kernel) (by decide +kernel)
set_option maxRecDepth 20000 in
theorem gX5_firstOf_X5_laysOrder : GoodIn wsX5_firstOf (wsV RX5 99 RX5 yX5_laysOrder wsX5_laysOrder) := goodIn_app (goodIn_of _ (by decide +kernel)) ggX5_firstOf_X5_laysOrder
theorem dX5_firstOf_0 : decode cX5_firstOf 0 = .ok (.aload_n 0, 1) := by decide +kernel
theorem dX5_firstOf_1 : decode cX5_firstOf 1 = .ok (.iload_n 1, 1) := by decide +kernel
theorem dX5_firstOf_2 : decode cX5_firstOf 2 = .ok (.invokestatic 86, 3) := by decide +kernel
theorem dX5_firstOf_5 : decode cX5_firstOf 5 = .ok (.ifCond .eq 7, 3) := by decide +kernel
theorem dX5_firstOf_8 : decode cX5_firstOf 8 = .ok (.iconst 0, 1) := by decide +kernel
theorem dX5_firstOf_9 : decode cX5_firstOf 9 = .ok (.goto 4, 3) := by decide +kernel
theorem dX5_firstOf_12 : decode cX5_firstOf 12 = .ok (.iconst 1, 1) := by decide +kernel
theorem dX5_firstOf_13 : decode cX5_firstOf 13 = .ok (.invokevirtual 79, 3) := by decide +kernel
theorem dX5_firstOf_16 : decode cX5_firstOf 16 = .ok (.ifCond .ne 5, 3) := by decide +kernel
theorem dX5_firstOf_19 : decode cX5_firstOf 19 = .ok (.iconst 0, 1) := by decide +kernel
theorem dX5_firstOf_20 : decode cX5_firstOf 20 = .ok (.ireturn, 1) := by decide +kernel
theorem dX5_firstOf_21 : decode cX5_firstOf 21 = .ok (.aload_n 0, 1) := by decide +kernel
theorem dX5_firstOf_22 : decode cX5_firstOf 22 = .ok (.invokevirtual 99, 3) := by decide +kernel
theorem dX5_firstOf_25 : decode cX5_firstOf 25 = .ok (.iconst (-1), 1) := by decide +kernel
theorem dX5_firstOf_26 : decode cX5_firstOf 26 = .ok (.istore_n 2, 1) := by decide +kernel
theorem dX5_firstOf_27 : decode cX5_firstOf 27 = .ok (.aload_n 0, 1) := by decide +kernel
theorem dX5_firstOf_28 : decode cX5_firstOf 28 = .ok (.getfield 89, 3) := by decide +kernel
theorem dX5_firstOf_31 : decode cX5_firstOf 31 = .ok (.iconst 1, 1) := by decide +kernel
theorem dX5_firstOf_32 : decode cX5_firstOf 32 = .ok (.isub, 1) := by decide +kernel
theorem dX5_firstOf_33 : decode cX5_firstOf 33 = .ok (.istore_n 3, 1) := by decide +kernel
theorem dX5_firstOf_34 : decode cX5_firstOf 34 = .ok (.iload_n 3, 1) := by decide +kernel
theorem dX5_firstOf_35 : decode cX5_firstOf 35 = .ok (.ifCond .lt 35, 3) := by decide +kernel
theorem dX5_firstOf_38 : decode cX5_firstOf 38 = .ok (.aload_n 0, 1) := by decide +kernel
theorem dX5_firstOf_39 : decode cX5_firstOf 39 = .ok (.getfield 22, 3) := by decide +kernel
theorem dX5_firstOf_42 : decode cX5_firstOf 42 = .ok (.aload_n 0, 1) := by decide +kernel
theorem dX5_firstOf_43 : decode cX5_firstOf 43 = .ok (.getfield 35, 3) := by decide +kernel
theorem dX5_firstOf_46 : decode cX5_firstOf 46 = .ok (.iload_n 3, 1) := by decide +kernel
theorem dX5_firstOf_47 : decode cX5_firstOf 47 = .ok (.iaload, 1) := by decide +kernel
theorem dX5_firstOf_48 : decode cX5_firstOf 48 = .ok (.iaload, 1) := by decide +kernel
theorem dX5_firstOf_49 : decode cX5_firstOf 49 = .ok (.iload_n 1, 1) := by decide +kernel
theorem dX5_firstOf_50 : decode cX5_firstOf 50 = .ok (.if_icmp .ne 12, 3) := by decide +kernel
theorem dX5_firstOf_53 : decode cX5_firstOf 53 = .ok (.aload_n 0, 1) := by decide +kernel
theorem dX5_firstOf_54 : decode cX5_firstOf 54 = .ok (.getfield 35, 3) := by decide +kernel
theorem dX5_firstOf_57 : decode cX5_firstOf 57 = .ok (.iload_n 3, 1) := by decide +kernel
theorem dX5_firstOf_58 : decode cX5_firstOf 58 = .ok (.iaload, 1) := by decide +kernel
theorem dX5_firstOf_59 : decode cX5_firstOf 59 = .ok (.goto 4, 3) := by decide +kernel
theorem dX5_firstOf_62 : decode cX5_firstOf 62 = .ok (.iload_n 2, 1) := by decide +kernel
theorem dX5_firstOf_63 : decode cX5_firstOf 63 = .ok (.istore_n 2, 1) := by decide +kernel
theorem dX5_firstOf_64 : decode cX5_firstOf 64 = .ok (.iinc 3 (-1), 3) := by decide +kernel
theorem dX5_firstOf_67 : decode cX5_firstOf 67 = .ok (.goto (-33), 3) := by decide +kernel
theorem dX5_firstOf_70 : decode cX5_firstOf 70 = .ok (.iload_n 2, 1) := by decide +kernel
theorem dX5_firstOf_71 : decode cX5_firstOf 71 = .ok (.ireturn, 1) := by decide +kernel
set_option maxRecDepth 20000 in
theorem ggX5_measure_X5_isService : GoodIn wsX5_measure wsX5_isService := goodIn_r _ [9, 10, 11, 8, 12] (by decide +kernel) (by decide +kernel)
set_option maxRecDepth 20000 in
theorem gX5_measure_X5_isService : GoodIn wsX5_measure (va_wsS RX5 86 yX5_isService wsX5_isService) := goodIn_app (goodIn_of _ (by decide +kernel)) ggX5_measure_X5_isService
set_option maxRecDepth 20000 in
theorem ggX5_measure_X5_isTime : GoodIn wsX5_measure wsX5_isTime := goodIn_r _ [15, 10, 11, 8, 12] (by decide +kernel) (by decide +kernel)
set_option maxRecDepth 20000 in
theorem gX5_measure_X5_isTime : GoodIn wsX5_measure (va_wsS RX5 76 yX5_isTime wsX5_isTime) := goodIn_app (goodIn_of _ (by decide +kernel)) ggX5_measure_X5_isTime
set_option maxRecDepth 20000 in
theorem ggX5_measure_X5_isIn : GoodIn wsX5_measure wsX5_isIn := goodIn_r _ [12] (by decide +kernel) (by decide +kernel)
set_option maxRecDepth 20000 in
theorem gX5_measure_X5_isIn : GoodIn wsX5_measure (va_wsS RX5 68 yX5_isIn wsX5_isIn) := goodIn_app (goodIn_of _ (by decide +kernel)) ggX5_measure_X5_isIn
set_option maxRecDepth 20000 in
theorem ggX5_measure_X5_goes : GoodIn wsX5_measure wsX5_goes := goodIn_r _ [19, 20, 21, 22, 23, 24, 25, 26, 27, 28, 29, 30, 31, 32, 33, 34, 35, 36, 37, 38, 39, 40, 41] (by decide +kernel) (by decide +kernel)
set_option maxRecDepth 20000 in
theorem gX5_measure_X5_goes : GoodIn wsX5_measure (wsV RX5 79 RX5 yX5_goes wsX5_goes) := goodIn_app (goodIn_of _ (by decide +kernel)) ggX5_measure_X5_goes
theorem dX5_measure_0 : decode cX5_measure 0 = .ok (.iload_n 1, 1) := by decide +kernel
theorem dX5_measure_1 : decode cX5_measure 1 = .ok (.invokestatic 86, 3) := by decide +kernel
theorem dX5_measure_4 : decode cX5_measure 4 = .ok (.ifCond .eq 36, 3) := by decide +kernel
theorem dX5_measure_7 : decode cX5_measure 7 = .ok (.iload_n 2, 1) := by decide +kernel
theorem dX5_measure_8 : decode cX5_measure 8 = .ok (.invokestatic 76, 3) := by decide +kernel
theorem dX5_measure_11 : decode cX5_measure 11 = .ok (.ifCond .eq 29, 3) := by decide +kernel
theorem dX5_measure_14 : decode cX5_measure 14 = .ok (.iload_n 3, 1) := by decide +kernel
theorem dX5_measure_15 : decode cX5_measure 15 = .ok (.iload_n 2, 1) := by decide +kernel
theorem dX5_measure_16 : decode cX5_measure 16 = .ok (.sipush 10000, 3) := by decide +kernel
theorem dX5_measure_19 : decode cX5_measure 19 = .ok (.invokestatic 68, 3) := by decide +kernel
theorem dX5_measure_22 : decode cX5_measure 22 = .ok (.ifCond .eq 18, 3) := by decide +kernel
theorem dX5_measure_25 : decode cX5_measure 25 = .ok (.iload 4, 2) := by decide +kernel
theorem dX5_measure_27 : decode cX5_measure 27 = .ok (.iconst 0, 1) := by decide +kernel
theorem dX5_measure_28 : decode cX5_measure 28 = .ok (.bipush 100, 2) := by decide +kernel
theorem dX5_measure_30 : decode cX5_measure 30 = .ok (.invokestatic 68, 3) := by decide +kernel
theorem dX5_measure_33 : decode cX5_measure 33 = .ok (.ifCond .eq 7, 3) := by decide +kernel
theorem dX5_measure_36 : decode cX5_measure 36 = .ok (.iconst 1, 1) := by decide +kernel
theorem dX5_measure_37 : decode cX5_measure 37 = .ok (.goto 4, 3) := by decide +kernel
theorem dX5_measure_40 : decode cX5_measure 40 = .ok (.iconst 0, 1) := by decide +kernel
theorem dX5_measure_41 : decode cX5_measure 41 = .ok (.istore 5, 2) := by decide +kernel
theorem dX5_measure_43 : decode cX5_measure 43 = .ok (.aload_n 0, 1) := by decide +kernel
theorem dX5_measure_44 : decode cX5_measure 44 = .ok (.iload 5, 2) := by decide +kernel
theorem dX5_measure_46 : decode cX5_measure 46 = .ok (.ifCond .ne 7, 3) := by decide +kernel
theorem dX5_measure_49 : decode cX5_measure 49 = .ok (.iconst 1, 1) := by decide +kernel
theorem dX5_measure_50 : decode cX5_measure 50 = .ok (.goto 17, 3) := by decide +kernel
theorem dX5_measure_53 : decode cX5_measure 53 = .ok (.aload_n 0, 1) := by decide +kernel
theorem dX5_measure_54 : decode cX5_measure 54 = .ok (.getfield 113, 3) := by decide +kernel
theorem dX5_measure_57 : decode cX5_measure 57 = .ok (.bipush 40, 2) := by decide +kernel
theorem dX5_measure_59 : decode cX5_measure 59 = .ok (.if_icmp .ne 7, 3) := by decide +kernel
theorem dX5_measure_62 : decode cX5_measure 62 = .ok (.iconst 2, 1) := by decide +kernel
theorem dX5_measure_63 : decode cX5_measure 63 = .ok (.goto 4, 3) := by decide +kernel
theorem dX5_measure_66 : decode cX5_measure 66 = .ok (.iconst 0, 1) := by decide +kernel
theorem dX5_measure_67 : decode cX5_measure 67 = .ok (.invokevirtual 79, 3) := by decide +kernel
theorem dX5_measure_70 : decode cX5_measure 70 = .ok (.ifCond .ne 5, 3) := by decide +kernel
theorem dX5_measure_73 : decode cX5_measure 73 = .ok (.iconst 0, 1) := by decide +kernel
theorem dX5_measure_74 : decode cX5_measure 74 = .ok (.ireturn, 1) := by decide +kernel
theorem dX5_measure_75 : decode cX5_measure 75 = .ok (.aload_n 0, 1) := by decide +kernel
theorem dX5_measure_76 : decode cX5_measure 76 = .ok (.getfield 45, 3) := by decide +kernel
theorem dX5_measure_79 : decode cX5_measure 79 = .ok (.aload_n 0, 1) := by decide +kernel
theorem dX5_measure_80 : decode cX5_measure 80 = .ok (.getfield 113, 3) := by decide +kernel
theorem dX5_measure_83 : decode cX5_measure 83 = .ok (.iload_n 1, 1) := by decide +kernel
theorem dX5_measure_84 : decode cX5_measure 84 = .ok (.iastore, 1) := by decide +kernel
theorem dX5_measure_85 : decode cX5_measure 85 = .ok (.aload_n 0, 1) := by decide +kernel
theorem dX5_measure_86 : decode cX5_measure 86 = .ok (.getfield 48, 3) := by decide +kernel
theorem dX5_measure_89 : decode cX5_measure 89 = .ok (.aload_n 0, 1) := by decide +kernel
theorem dX5_measure_90 : decode cX5_measure 90 = .ok (.getfield 113, 3) := by decide +kernel
theorem dX5_measure_93 : decode cX5_measure 93 = .ok (.iload_n 2, 1) := by decide +kernel
theorem dX5_measure_94 : decode cX5_measure 94 = .ok (.iastore, 1) := by decide +kernel
theorem dX5_measure_95 : decode cX5_measure 95 = .ok (.aload_n 0, 1) := by decide +kernel
theorem dX5_measure_96 : decode cX5_measure 96 = .ok (.getfield 51, 3) := by decide +kernel
theorem dX5_measure_99 : decode cX5_measure 99 = .ok (.aload_n 0, 1) := by decide +kernel
theorem dX5_measure_100 : decode cX5_measure 100 = .ok (.getfield 113, 3) := by decide +kernel
theorem dX5_measure_103 : decode cX5_measure 103 = .ok (.iload_n 3, 1) := by decide +kernel
theorem dX5_measure_104 : decode cX5_measure 104 = .ok (.iastore, 1) := by decide +kernel
theorem dX5_measure_105 : decode cX5_measure 105 = .ok (.aload_n 0, 1) := by decide +kernel
theorem dX5_measure_106 : decode cX5_measure 106 = .ok (.getfield 54, 3) := by decide +kernel
theorem dX5_measure_109 : decode cX5_measure 109 = .ok (.aload_n 0, 1) := by decide +kernel
theorem dX5_measure_110 : decode cX5_measure 110 = .ok (.getfield 113, 3) := by decide +kernel
theorem dX5_measure_113 : decode cX5_measure 113 = .ok (.iload 4, 2) := by decide +kernel
theorem dX5_measure_115 : decode cX5_measure 115 = .ok (.iastore, 1) := by decide +kernel
theorem dX5_measure_116 : decode cX5_measure 116 = .ok (.aload_n 0, 1) := by decide +kernel
theorem dX5_measure_117 : decode cX5_measure 117 = .ok (.dup, 1) := by decide +kernel
theorem dX5_measure_118 : decode cX5_measure 118 = .ok (.getfield 113, 3) := by decide +kernel
theorem dX5_measure_121 : decode cX5_measure 121 = .ok (.iconst 1, 1) := by decide +kernel
theorem dX5_measure_122 : decode cX5_measure 122 = .ok (.iadd, 1) := by decide +kernel
theorem dX5_measure_123 : decode cX5_measure 123 = .ok (.putfield 113, 3) := by decide +kernel
theorem dX5_measure_126 : decode cX5_measure 126 = .ok (.aload_n 0, 1) := by decide +kernel
theorem dX5_measure_127 : decode cX5_measure 127 = .ok (.getfield 113, 3) := by decide +kernel
theorem dX5_measure_130 : decode cX5_measure 130 = .ok (.iconst 1, 1) := by decide +kernel
theorem dX5_measure_131 : decode cX5_measure 131 = .ok (.isub, 1) := by decide +kernel
theorem dX5_measure_132 : decode cX5_measure 132 = .ok (.ireturn, 1) := by decide +kernel
set_option maxRecDepth 20000 in
theorem ggX5_percent_X5_isIn : GoodIn wsX5_percent wsX5_isIn := goodIn_r _ [9] (by decide +kernel) (by decide +kernel)
set_option maxRecDepth 20000 in
theorem gX5_percent_X5_isIn : GoodIn wsX5_percent (va_wsS RX5 68 yX5_isIn wsX5_isIn) := goodIn_app (goodIn_of _ (by decide +kernel)) ggX5_percent_X5_isIn
theorem dX5_percent_0 : decode cX5_percent 0 = .ok (.iconst 0, 1) := by decide +kernel
theorem dX5_percent_1 : decode cX5_percent 1 = .ok (.istore_n 3, 1) := by decide +kernel
theorem dX5_percent_2 : decode cX5_percent 2 = .ok (.iconst 0, 1) := by decide +kernel
theorem dX5_percent_3 : decode cX5_percent 3 = .ok (.istore 4, 2) := by decide +kernel
theorem dX5_percent_5 : decode cX5_percent 5 = .ok (.iload 4, 2) := by decide +kernel
theorem dX5_percent_7 : decode cX5_percent 7 = .ok (.aload_n 0, 1) := by decide +kernel
theorem dX5_percent_8 : decode cX5_percent 8 = .ok (.getfield 113, 3) := by decide +kernel
theorem dX5_percent_11 : decode cX5_percent 11 = .ok (.if_icmp .ge 81, 3) := by decide +kernel
theorem dX5_percent_14 : decode cX5_percent 14 = .ok (.iload_n 1, 1) := by decide +kernel
theorem dX5_percent_15 : decode cX5_percent 15 = .ok (.iconst (-1), 1) := by decide +kernel
theorem dX5_percent_16 : decode cX5_percent 16 = .ok (.if_icmp .eq 14, 3) := by decide +kernel
theorem dX5_percent_19 : decode cX5_percent 19 = .ok (.aload_n 0, 1) := by decide +kernel
theorem dX5_percent_20 : decode cX5_percent 20 = .ok (.getfield 45, 3) := by decide +kernel
theorem dX5_percent_23 : decode cX5_percent 23 = .ok (.iload 4, 2) := by decide +kernel
theorem dX5_percent_25 : decode cX5_percent 25 = .ok (.iaload, 1) := by decide +kernel
theorem dX5_percent_26 : decode cX5_percent 26 = .ok (.iload_n 1, 1) := by decide +kernel
theorem dX5_percent_27 : decode cX5_percent 27 = .ok (.if_icmp .ne 28, 3) := by decide +kernel
theorem dX5_percent_30 : decode cX5_percent 30 = .ok (.iload_n 2, 1) := by decide +kernel
theorem dX5_percent_31 : decode cX5_percent 31 = .ok (.aload_n 0, 1) := by decide +kernel
theorem dX5_percent_32 : decode cX5_percent 32 = .ok (.getfield 48, 3) := by decide +kernel
theorem dX5_percent_35 : decode cX5_percent 35 = .ok (.iload 4, 2) := by decide +kernel
theorem dX5_percent_37 : decode cX5_percent 37 = .ok (.iaload, 1) := by decide +kernel
theorem dX5_percent_38 : decode cX5_percent 38 = .ok (.aload_n 0, 1) := by decide +kernel
theorem dX5_percent_39 : decode cX5_percent 39 = .ok (.getfield 51, 3) := by decide +kernel
theorem dX5_percent_42 : decode cX5_percent 42 = .ok (.iload 4, 2) := by decide +kernel
theorem dX5_percent_44 : decode cX5_percent 44 = .ok (.iaload, 1) := by decide +kernel
theorem dX5_percent_45 : decode cX5_percent 45 = .ok (.invokestatic 68, 3) := by decide +kernel
theorem dX5_percent_48 : decode cX5_percent 48 = .ok (.ifCond .eq 7, 3) := by decide +kernel
theorem dX5_percent_51 : decode cX5_percent 51 = .ok (.iconst 1, 1) := by decide +kernel
theorem dX5_percent_52 : decode cX5_percent 52 = .ok (.goto 4, 3) := by decide +kernel
theorem dX5_percent_55 : decode cX5_percent 55 = .ok (.iconst 0, 1) := by decide +kernel
theorem dX5_percent_56 : decode cX5_percent 56 = .ok (.istore 5, 2) := by decide +kernel
theorem dX5_percent_58 : decode cX5_percent 58 = .ok (.iload 5, 2) := by decide +kernel
theorem dX5_percent_60 : decode cX5_percent 60 = .ok (.ifCond .eq 24, 3) := by decide +kernel
theorem dX5_percent_63 : decode cX5_percent 63 = .ok (.aload_n 0, 1) := by decide +kernel
theorem dX5_percent_64 : decode cX5_percent 64 = .ok (.getfield 54, 3) := by decide +kernel
theorem dX5_percent_67 : decode cX5_percent 67 = .ok (.iload 4, 2) := by decide +kernel
theorem dX5_percent_69 : decode cX5_percent 69 = .ok (.iaload, 1) := by decide +kernel
theorem dX5_percent_70 : decode cX5_percent 70 = .ok (.iload_n 3, 1) := by decide +kernel
theorem dX5_percent_71 : decode cX5_percent 71 = .ok (.if_icmp .le 13, 3) := by decide +kernel
theorem dX5_percent_74 : decode cX5_percent 74 = .ok (.aload_n 0, 1) := by decide +kernel
theorem dX5_percent_75 : decode cX5_percent 75 = .ok (.getfield 54, 3) := by decide +kernel
theorem dX5_percent_78 : decode cX5_percent 78 = .ok (.iload 4, 2) := by decide +kernel
theorem dX5_percent_80 : decode cX5_percent 80 = .ok (.iaload, 1) := by decide +kernel
theorem dX5_percent_81 : decode cX5_percent 81 = .ok (.goto 4, 3) := by decide +kernel
theorem dX5_percent_84 : decode cX5_percent 84 = .ok (.iload_n 3, 1) := by decide +kernel
theorem dX5_percent_85 : decode cX5_percent 85 = .ok (.istore_n 3, 1) := by decide +kernel
theorem dX5_percent_86 : decode cX5_percent 86 = .ok (.iinc 4 1, 3) := by decide +kernel
theorem dX5_percent_89 : decode cX5_percent 89 = .ok (.goto (-84), 3) := by decide +kernel
theorem dX5_percent_92 : decode cX5_percent 92 = .ok (.iload_n 3, 1) := by decide +kernel
theorem dX5_percent_93 : decode cX5_percent 93 = .ok (.ireturn, 1) := by decide +kernel
theorem dX5_change_0 : decode cX5_change 0 = .ok (.sipush 10001, 3) := by decide +kernel
theorem dX5_change_3 : decode cX5_change 3 = .ok (.istore_n 2, 1) := by decide +kernel
theorem dX5_change_4 : decode cX5_change 4 = .ok (.iconst 0, 1) := by decide +kernel
theorem dX5_change_5 : decode cX5_change 5 = .ok (.istore_n 3, 1) := by decide +kernel
theorem dX5_change_6 : decode cX5_change 6 = .ok (.iload_n 3, 1) := by decide +kernel
theorem dX5_change_7 : decode cX5_change 7 = .ok (.aload_n 0, 1) := by decide +kernel
theorem dX5_change_8 : decode cX5_change 8 = .ok (.getfield 113, 3) := by decide +kernel
theorem dX5_change_11 : decode cX5_change 11 = .ok (.if_icmp .ge 75, 3) := by decide +kernel
theorem dX5_change_14 : decode cX5_change 14 = .ok (.aload_n 0, 1) := by decide +kernel
theorem dX5_change_15 : decode cX5_change 15 = .ok (.getfield 48, 3) := by decide +kernel
theorem dX5_change_18 : decode cX5_change 18 = .ok (.iload_n 3, 1) := by decide +kernel
theorem dX5_change_19 : decode cX5_change 19 = .ok (.iaload, 1) := by decide +kernel
theorem dX5_change_20 : decode cX5_change 20 = .ok (.iload_n 1, 1) := by decide +kernel
theorem dX5_change_21 : decode cX5_change 21 = .ok (.if_icmp .le 22, 3) := by decide +kernel
theorem dX5_change_24 : decode cX5_change 24 = .ok (.aload_n 0, 1) := by decide +kernel
theorem dX5_change_25 : decode cX5_change 25 = .ok (.getfield 48, 3) := by decide +kernel
theorem dX5_change_28 : decode cX5_change 28 = .ok (.iload_n 3, 1) := by decide +kernel
theorem dX5_change_29 : decode cX5_change 29 = .ok (.iaload, 1) := by decide +kernel
theorem dX5_change_30 : decode cX5_change 30 = .ok (.iload_n 2, 1) := by decide +kernel
theorem dX5_change_31 : decode cX5_change 31 = .ok (.if_icmp .ge 12, 3) := by decide +kernel
theorem dX5_change_34 : decode cX5_change 34 = .ok (.aload_n 0, 1) := by decide +kernel
theorem dX5_change_35 : decode cX5_change 35 = .ok (.getfield 48, 3) := by decide +kernel
theorem dX5_change_38 : decode cX5_change 38 = .ok (.iload_n 3, 1) := by decide +kernel
theorem dX5_change_39 : decode cX5_change 39 = .ok (.iaload, 1) := by decide +kernel
theorem dX5_change_40 : decode cX5_change 40 = .ok (.goto 4, 3) := by decide +kernel
theorem dX5_change_43 : decode cX5_change 43 = .ok (.iload_n 2, 1) := by decide +kernel
theorem dX5_change_44 : decode cX5_change 44 = .ok (.istore_n 2, 1) := by decide +kernel
theorem dX5_change_45 : decode cX5_change 45 = .ok (.aload_n 0, 1) := by decide +kernel
theorem dX5_change_46 : decode cX5_change 46 = .ok (.getfield 51, 3) := by decide +kernel
theorem dX5_change_49 : decode cX5_change 49 = .ok (.iload_n 3, 1) := by decide +kernel
theorem dX5_change_50 : decode cX5_change 50 = .ok (.iaload, 1) := by decide +kernel
theorem dX5_change_51 : decode cX5_change 51 = .ok (.iload_n 1, 1) := by decide +kernel
theorem dX5_change_52 : decode cX5_change 52 = .ok (.if_icmp .lt 26, 3) := by decide +kernel
theorem dX5_change_55 : decode cX5_change 55 = .ok (.aload_n 0, 1) := by decide +kernel
theorem dX5_change_56 : decode cX5_change 56 = .ok (.getfield 51, 3) := by decide +kernel
theorem dX5_change_59 : decode cX5_change 59 = .ok (.iload_n 3, 1) := by decide +kernel
theorem dX5_change_60 : decode cX5_change 60 = .ok (.iaload, 1) := by decide +kernel
theorem dX5_change_61 : decode cX5_change 61 = .ok (.iconst 1, 1) := by decide +kernel
theorem dX5_change_62 : decode cX5_change 62 = .ok (.iadd, 1) := by decide +kernel
theorem dX5_change_63 : decode cX5_change 63 = .ok (.iload_n 2, 1) := by decide +kernel
theorem dX5_change_64 : decode cX5_change 64 = .ok (.if_icmp .ge 14, 3) := by decide +kernel
theorem dX5_change_67 : decode cX5_change 67 = .ok (.aload_n 0, 1) := by decide +kernel
theorem dX5_change_68 : decode cX5_change 68 = .ok (.getfield 51, 3) := by decide +kernel
theorem dX5_change_71 : decode cX5_change 71 = .ok (.iload_n 3, 1) := by decide +kernel
theorem dX5_change_72 : decode cX5_change 72 = .ok (.iaload, 1) := by decide +kernel
theorem dX5_change_73 : decode cX5_change 73 = .ok (.iconst 1, 1) := by decide +kernel
theorem dX5_change_74 : decode cX5_change 74 = .ok (.iadd, 1) := by decide +kernel
theorem dX5_change_75 : decode cX5_change 75 = .ok (.goto 4, 3) := by decide +kernel
theorem dX5_change_78 : decode cX5_change 78 = .ok (.iload_n 2, 1) := by decide +kernel
theorem dX5_change_79 : decode cX5_change 79 = .ok (.istore_n 2, 1) := by decide +kernel
theorem dX5_change_80 : decode cX5_change 80 = .ok (.iinc 3 1, 3) := by decide +kernel
theorem dX5_change_83 : decode cX5_change 83 = .ok (.goto (-77), 3) := by decide +kernel
theorem dX5_change_86 : decode cX5_change 86 = .ok (.iload_n 2, 1) := by decide +kernel
theorem dX5_change_87 : decode cX5_change 87 = .ok (.ireturn, 1) := by decide +kernel
set_option maxRecDepth 20000 in
theorem ggX5_impact_X5_isService : GoodIn wsX5_impact wsX5_isService := goodIn_r _ [4, 5, 6, 3, 7] (by decide +kernel) (by decide +kernel)
set_option maxRecDepth 20000 in
theorem gX5_impact_X5_isService : GoodIn wsX5_impact (va_wsS RX5 86 yX5_isService wsX5_isService) := goodIn_app (goodIn_of _ (by decide +kernel)) ggX5_impact_X5_isService
set_option maxRecDepth 20000 in
theorem ggX5_impact_X5_goes : GoodIn wsX5_impact wsX5_goes := goodIn_r _ [11, 12, 26, 27, 28, 29, 30, 31, 32, 33, 34, 35, 36, 37, 38, 39, 40, 41, 42, 43, 44, 45, 46] (by decide +kernel) (by decide +kernel)
set_option maxRecDepth 20000 in
theorem gX5_impact_X5_goes : GoodIn wsX5_impact (wsV RX5 79 RX5 yX5_goes wsX5_goes) := goodIn_app (goodIn_of _ (by decide +kernel)) ggX5_impact_X5_goes
set_option maxRecDepth 20000 in
theorem ggX5_impact_X5_percent : GoodIn wsX5_impact wsX5_percent := goodIn_r _ [16, 17, 18, 19, 20, 21, 5, 6, 3, 7, 26, 27, 28, 29, 30, 31, 32, 33, 34, 35, 36, 37, 38, 39, 40, 41, 42, 43, 44, 45, 46] (by decide +kernel) (by decide +kernel)
set_option maxRecDepth 20000 in
theorem gX5_impact_X5_percent : GoodIn wsX5_impact (wsV RX5 116 RX5 yX5_percent wsX5_percent) := goodIn_app (goodIn_of _ (by decide +kernel)) ggX5_impact_X5_percent
set_option maxRecDepth 20000 in
theorem ggX5_impact_X5_change : GoodIn wsX5_impact wsX5_change := goodIn_r _ [25, 17, 19, 20, 26, 27, 28, 29, 30, 31, 32, 33, 34, 35, 36, 37, 38, 39, 40, 41, 42, 43, 44, 45, 46] (by decide +kernel) (by decide +kernel)
set_option maxRecDepth 20000 in
theorem gX5_impact_X5_change : GoodIn wsX5_impact (wsV RX5 120 RX5 yX5_change wsX5_change) := goodIn_app (goodIn_of _ (by decide +kernel)) ggX5_impact_X5_change
theorem dX5_impact_0 : decode cX5_impact 0 = .ok (.aload_n 0, 1) := by decide +kernel
theorem dX5_impact_1 : decode cX5_impact 1 = .ok (.iload_n 1, 1) := by decide +kernel
theorem dX5_impact_2 : decode cX5_impact 2 = .ok (.invokestatic 86, 3) := by decide +kernel
theorem dX5_impact_5 : decode cX5_impact 5 = .ok (.ifCond .eq 7, 3) := by decide +kernel
theorem dX5_impact_8 : decode cX5_impact 8 = .ok (.iconst 0, 1) := by decide +kernel
theorem dX5_impact_9 : decode cX5_impact 9 = .ok (.goto 4, 3) := by decide +kernel
theorem dX5_impact_12 : decode cX5_impact 12 = .ok (.iconst 1, 1) := by decide +kernel
theorem dX5_impact_13 : decode cX5_impact 13 = .ok (.invokevirtual 79, 3) := by decide +kernel
theorem dX5_impact_16 : decode cX5_impact 16 = .ok (.ifCond .ne 5, 3) := by decide +kernel
theorem dX5_impact_19 : decode cX5_impact 19 = .ok (.iconst 0, 1) := by decide +kernel
theorem dX5_impact_20 : decode cX5_impact 20 = .ok (.ireturn, 1) := by decide +kernel
theorem dX5_impact_21 : decode cX5_impact 21 = .ok (.iconst 0, 1) := by decide +kernel
theorem dX5_impact_22 : decode cX5_impact 22 = .ok (.istore_n 2, 1) := by decide +kernel
theorem dX5_impact_23 : decode cX5_impact 23 = .ok (.iconst 0, 1) := by decide +kernel
theorem dX5_impact_24 : decode cX5_impact 24 = .ok (.istore_n 3, 1) := by decide +kernel
theorem dX5_impact_25 : decode cX5_impact 25 = .ok (.iload_n 3, 1) := by decide +kernel
theorem dX5_impact_26 : decode cX5_impact 26 = .ok (.sipush 10000, 3) := by decide +kernel
theorem dX5_impact_29 : decode cX5_impact 29 = .ok (.if_icmp .gt 29, 3) := by decide +kernel
theorem dX5_impact_32 : decode cX5_impact 32 = .ok (.iload_n 2, 1) := by decide +kernel
theorem dX5_impact_33 : decode cX5_impact 33 = .ok (.aload_n 0, 1) := by decide +kernel
theorem dX5_impact_34 : decode cX5_impact 34 = .ok (.iload_n 1, 1) := by decide +kernel
theorem dX5_impact_35 : decode cX5_impact 35 = .ok (.iload_n 3, 1) := by decide +kernel
theorem dX5_impact_36 : decode cX5_impact 36 = .ok (.invokevirtual 116, 3) := by decide +kernel
theorem dX5_impact_39 : decode cX5_impact 39 = .ok (.aload_n 0, 1) := by decide +kernel
theorem dX5_impact_40 : decode cX5_impact 40 = .ok (.iload_n 3, 1) := by decide +kernel
theorem dX5_impact_41 : decode cX5_impact 41 = .ok (.invokevirtual 120, 3) := by decide +kernel
theorem dX5_impact_44 : decode cX5_impact 44 = .ok (.iload_n 3, 1) := by decide +kernel
theorem dX5_impact_45 : decode cX5_impact 45 = .ok (.isub, 1) := by decide +kernel
theorem dX5_impact_46 : decode cX5_impact 46 = .ok (.imul, 1) := by decide +kernel
theorem dX5_impact_47 : decode cX5_impact 47 = .ok (.iadd, 1) := by decide +kernel
theorem dX5_impact_48 : decode cX5_impact 48 = .ok (.istore_n 2, 1) := by decide +kernel
theorem dX5_impact_49 : decode cX5_impact 49 = .ok (.aload_n 0, 1) := by decide +kernel
theorem dX5_impact_50 : decode cX5_impact 50 = .ok (.iload_n 3, 1) := by decide +kernel
theorem dX5_impact_51 : decode cX5_impact 51 = .ok (.invokevirtual 120, 3) := by decide +kernel
theorem dX5_impact_54 : decode cX5_impact 54 = .ok (.istore_n 3, 1) := by decide +kernel
theorem dX5_impact_55 : decode cX5_impact 55 = .ok (.goto (-30), 3) := by decide +kernel
theorem dX5_impact_58 : decode cX5_impact 58 = .ok (.iload_n 2, 1) := by decide +kernel
theorem dX5_impact_59 : decode cX5_impact 59 = .ok (.ireturn, 1) := by decide +kernel
set_option maxRecDepth 20000 in
theorem ggX5_minutes_X5_percent : GoodIn wsX5_minutes wsX5_percent := goodIn_r _ [6, 7, 8, 9, 10, 11, 12, 13, 5, 14, 19, 20, 21, 22, 23, 24, 25, 26, 27, 28, 29, 30, 31, 32, 33, 34, 35, 36, 37, 38, 39] (by decide +kernel) (by decide +kernel)
set_option maxRecDepth 20000 in
theorem gX5_minutes_X5_percent : GoodIn wsX5_minutes (wsV RX5 116 RX5 yX5_percent wsX5_percent) := goodIn_app (goodIn_of _ (by decide +kernel)) ggX5_minutes_X5_percent
set_option maxRecDepth 20000 in
theorem ggX5_minutes_X5_change : GoodIn wsX5_minutes wsX5_change := goodIn_r _ [18, 7, 9, 10, 19, 20, 21, 22, 23, 24, 25, 26, 27, 28, 29, 30, 31, 32, 33, 34, 35, 36, 37, 38, 39] (by decide +kernel) (by decide +kernel)
set_option maxRecDepth 20000 in
theorem gX5_minutes_X5_change : GoodIn wsX5_minutes (wsV RX5 120 RX5 yX5_change wsX5_change) := goodIn_app (goodIn_of _ (by decide +kernel)) ggX5_minutes_X5_change
theorem dX5_minutes_0 : decode cX5_minutes 0 = .ok (.aload_n 0, 1) := by decide +kernel
theorem dX5_minutes_1 : decode cX5_minutes 1 = .ok (.iconst 0, 1) := by decide +kernel
theorem dX5_minutes_2 : decode cX5_minutes 2 = .ok (.putfield 64, 3) := by decide +kernel
theorem dX5_minutes_5 : decode cX5_minutes 5 = .ok (.iconst 0, 1) := by decide +kernel
theorem dX5_minutes_6 : decode cX5_minutes 6 = .ok (.istore_n 1, 1) := by decide +kernel
theorem dX5_minutes_7 : decode cX5_minutes 7 = .ok (.iconst 0, 1) := by decide +kernel
theorem dX5_minutes_8 : decode cX5_minutes 8 = .ok (.istore_n 2, 1) := by decide +kernel
theorem dX5_minutes_9 : decode cX5_minutes 9 = .ok (.iload_n 2, 1) := by decide +kernel
theorem dX5_minutes_10 : decode cX5_minutes 10 = .ok (.sipush 10000, 3) := by decide +kernel
theorem dX5_minutes_13 : decode cX5_minutes 13 = .ok (.if_icmp .gt 35, 3) := by decide +kernel
theorem dX5_minutes_16 : decode cX5_minutes 16 = .ok (.iload_n 1, 1) := by decide +kernel
theorem dX5_minutes_17 : decode cX5_minutes 17 = .ok (.aload_n 0, 1) := by decide +kernel
theorem dX5_minutes_18 : decode cX5_minutes 18 = .ok (.iconst (-1), 1) := by decide +kernel
theorem dX5_minutes_19 : decode cX5_minutes 19 = .ok (.iload_n 2, 1) := by decide +kernel
theorem dX5_minutes_20 : decode cX5_minutes 20 = .ok (.invokevirtual 116, 3) := by decide +kernel
theorem dX5_minutes_23 : decode cX5_minutes 23 = .ok (.ifCond .le 13, 3) := by decide +kernel
theorem dX5_minutes_26 : decode cX5_minutes 26 = .ok (.aload_n 0, 1) := by decide +kernel
theorem dX5_minutes_27 : decode cX5_minutes 27 = .ok (.iload_n 2, 1) := by decide +kernel
theorem dX5_minutes_28 : decode cX5_minutes 28 = .ok (.invokevirtual 120, 3) := by decide +kernel
theorem dX5_minutes_31 : decode cX5_minutes 31 = .ok (.iload_n 2, 1) := by decide +kernel
theorem dX5_minutes_32 : decode cX5_minutes 32 = .ok (.isub, 1) := by decide +kernel
theorem dX5_minutes_33 : decode cX5_minutes 33 = .ok (.goto 4, 3) := by decide +kernel
theorem dX5_minutes_36 : decode cX5_minutes 36 = .ok (.iconst 0, 1) := by decide +kernel
theorem dX5_minutes_37 : decode cX5_minutes 37 = .ok (.iadd, 1) := by decide +kernel
theorem dX5_minutes_38 : decode cX5_minutes 38 = .ok (.istore_n 1, 1) := by decide +kernel
theorem dX5_minutes_39 : decode cX5_minutes 39 = .ok (.aload_n 0, 1) := by decide +kernel
theorem dX5_minutes_40 : decode cX5_minutes 40 = .ok (.iload_n 2, 1) := by decide +kernel
theorem dX5_minutes_41 : decode cX5_minutes 41 = .ok (.invokevirtual 120, 3) := by decide +kernel
theorem dX5_minutes_44 : decode cX5_minutes 44 = .ok (.istore_n 2, 1) := by decide +kernel
theorem dX5_minutes_45 : decode cX5_minutes 45 = .ok (.goto (-36), 3) := by decide +kernel
theorem dX5_minutes_48 : decode cX5_minutes 48 = .ok (.iload_n 1, 1) := by decide +kernel
theorem dX5_minutes_49 : decode cX5_minutes 49 = .ok (.ireturn, 1) := by decide +kernel
set_option maxRecDepth 20000 in
theorem ggX5_isCause_X5_isIn : GoodIn wsX5_isCause wsX5_isIn := goodIn_r _ [5] (by decide +kernel) (by decide +kernel)
set_option maxRecDepth 20000 in
theorem gX5_isCause_X5_isIn : GoodIn wsX5_isCause (va_wsS RX5 68 yX5_isIn wsX5_isIn) := goodIn_app (goodIn_of _ (by decide +kernel)) ggX5_isCause_X5_isIn
theorem dX5_isCause_0 : decode cX5_isCause 0 = .ok (.iload_n 1, 1) := by decide +kernel
theorem dX5_isCause_1 : decode cX5_isCause 1 = .ok (.iconst 0, 1) := by decide +kernel
theorem dX5_isCause_2 : decode cX5_isCause 2 = .ok (.aload_n 0, 1) := by decide +kernel
theorem dX5_isCause_3 : decode cX5_isCause 3 = .ok (.getfield 124, 3) := by decide +kernel
theorem dX5_isCause_6 : decode cX5_isCause 6 = .ok (.iconst 1, 1) := by decide +kernel
theorem dX5_isCause_7 : decode cX5_isCause 7 = .ok (.isub, 1) := by decide +kernel
theorem dX5_isCause_8 : decode cX5_isCause 8 = .ok (.invokestatic 68, 3) := by decide +kernel
theorem dX5_isCause_11 : decode cX5_isCause 11 = .ok (.ireturn, 1) := by decide +kernel
set_option maxRecDepth 20000 in
theorem ggX5_addCause_X5_goes : GoodIn wsX5_addCause wsX5_goes := goodIn_r _ [7, 8, 9, 10, 11, 12, 13, 14, 15, 16, 17, 18, 19, 20, 21, 22, 23, 24, 25, 26, 27, 28, 29] (by decide +kernel) (by decide +kernel)
set_option maxRecDepth 20000 in
theorem gX5_addCause_X5_goes : GoodIn wsX5_addCause (wsV RX5 79 RX5 yX5_goes wsX5_goes) := goodIn_app (goodIn_of _ (by decide +kernel)) ggX5_addCause_X5_goes
theorem dX5_addCause_0 : decode cX5_addCause 0 = .ok (.aload_n 0, 1) := by decide +kernel
theorem dX5_addCause_1 : decode cX5_addCause 1 = .ok (.aload_n 0, 1) := by decide +kernel
theorem dX5_addCause_2 : decode cX5_addCause 2 = .ok (.getfield 124, 3) := by decide +kernel
theorem dX5_addCause_5 : decode cX5_addCause 5 = .ok (.bipush 16, 2) := by decide +kernel
theorem dX5_addCause_7 : decode cX5_addCause 7 = .ok (.if_icmp .ne 7, 3) := by decide +kernel
theorem dX5_addCause_10 : decode cX5_addCause 10 = .ok (.iconst 1, 1) := by decide +kernel
theorem dX5_addCause_11 : decode cX5_addCause 11 = .ok (.goto 4, 3) := by decide +kernel
theorem dX5_addCause_14 : decode cX5_addCause 14 = .ok (.iconst 0, 1) := by decide +kernel
theorem dX5_addCause_15 : decode cX5_addCause 15 = .ok (.invokevirtual 79, 3) := by decide +kernel
theorem dX5_addCause_18 : decode cX5_addCause 18 = .ok (.ifCond .ne 5, 3) := by decide +kernel
theorem dX5_addCause_21 : decode cX5_addCause 21 = .ok (.iconst 0, 1) := by decide +kernel
theorem dX5_addCause_22 : decode cX5_addCause 22 = .ok (.ireturn, 1) := by decide +kernel
theorem dX5_addCause_23 : decode cX5_addCause 23 = .ok (.aload_n 0, 1) := by decide +kernel
theorem dX5_addCause_24 : decode cX5_addCause 24 = .ok (.getfield 57, 3) := by decide +kernel
theorem dX5_addCause_27 : decode cX5_addCause 27 = .ok (.aload_n 0, 1) := by decide +kernel
theorem dX5_addCause_28 : decode cX5_addCause 28 = .ok (.getfield 124, 3) := by decide +kernel
theorem dX5_addCause_31 : decode cX5_addCause 31 = .ok (.iconst 1, 1) := by decide +kernel
theorem dX5_addCause_32 : decode cX5_addCause 32 = .ok (.bastore, 1) := by decide +kernel
theorem dX5_addCause_33 : decode cX5_addCause 33 = .ok (.aload_n 0, 1) := by decide +kernel
theorem dX5_addCause_34 : decode cX5_addCause 34 = .ok (.dup, 1) := by decide +kernel
theorem dX5_addCause_35 : decode cX5_addCause 35 = .ok (.getfield 124, 3) := by decide +kernel
theorem dX5_addCause_38 : decode cX5_addCause 38 = .ok (.iconst 1, 1) := by decide +kernel
theorem dX5_addCause_39 : decode cX5_addCause 39 = .ok (.iadd, 1) := by decide +kernel
theorem dX5_addCause_40 : decode cX5_addCause 40 = .ok (.putfield 124, 3) := by decide +kernel
theorem dX5_addCause_43 : decode cX5_addCause 43 = .ok (.aload_n 0, 1) := by decide +kernel
theorem dX5_addCause_44 : decode cX5_addCause 44 = .ok (.getfield 124, 3) := by decide +kernel
theorem dX5_addCause_47 : decode cX5_addCause 47 = .ok (.iconst 1, 1) := by decide +kernel
theorem dX5_addCause_48 : decode cX5_addCause 48 = .ok (.isub, 1) := by decide +kernel
theorem dX5_addCause_49 : decode cX5_addCause 49 = .ok (.ireturn, 1) := by decide +kernel
theorem dX5_reached_0 : decode cX5_reached 0 = .ok (.iconst 1, 1) := by decide +kernel
theorem dX5_reached_1 : decode cX5_reached 1 = .ok (.iload_n 1, 1) := by decide +kernel
theorem dX5_reached_2 : decode cX5_reached 2 = .ok (.ishl, 1) := by decide +kernel
theorem dX5_reached_3 : decode cX5_reached 3 = .ok (.istore_n 3, 1) := by decide +kernel
theorem dX5_reached_4 : decode cX5_reached 4 = .ok (.iconst 0, 1) := by decide +kernel
theorem dX5_reached_5 : decode cX5_reached 5 = .ok (.istore 4, 2) := by decide +kernel
theorem dX5_reached_7 : decode cX5_reached 7 = .ok (.iload 4, 2) := by decide +kernel
theorem dX5_reached_9 : decode cX5_reached 9 = .ok (.sipush 4096, 3) := by decide +kernel
theorem dX5_reached_12 : decode cX5_reached 12 = .ok (.if_icmp .ge 89, 3) := by decide +kernel
theorem dX5_reached_15 : decode cX5_reached 15 = .ok (.iload 4, 2) := by decide +kernel
theorem dX5_reached_17 : decode cX5_reached 17 = .ok (.bipush 16, 2) := by decide +kernel
theorem dX5_reached_19 : decode cX5_reached 19 = .ok (.idiv, 1) := by decide +kernel
theorem dX5_reached_20 : decode cX5_reached 20 = .ok (.bipush 16, 2) := by decide +kernel
theorem dX5_reached_22 : decode cX5_reached 22 = .ok (.irem, 1) := by decide +kernel
theorem dX5_reached_23 : decode cX5_reached 23 = .ok (.istore 5, 2) := by decide +kernel
theorem dX5_reached_25 : decode cX5_reached 25 = .ok (.iload 4, 2) := by decide +kernel
theorem dX5_reached_27 : decode cX5_reached 27 = .ok (.bipush 16, 2) := by decide +kernel
theorem dX5_reached_29 : decode cX5_reached 29 = .ok (.irem, 1) := by decide +kernel
theorem dX5_reached_30 : decode cX5_reached 30 = .ok (.istore 6, 2) := by decide +kernel
theorem dX5_reached_32 : decode cX5_reached 32 = .ok (.iload_n 3, 1) := by decide +kernel
theorem dX5_reached_33 : decode cX5_reached 33 = .ok (.iload 5, 2) := by decide +kernel
theorem dX5_reached_35 : decode cX5_reached 35 = .ok (.ishr, 1) := by decide +kernel
theorem dX5_reached_36 : decode cX5_reached 36 = .ok (.iconst 1, 1) := by decide +kernel
theorem dX5_reached_37 : decode cX5_reached 37 = .ok (.iand, 1) := by decide +kernel
theorem dX5_reached_38 : decode cX5_reached 38 = .ok (.iconst 1, 1) := by decide +kernel
theorem dX5_reached_39 : decode cX5_reached 39 = .ok (.if_icmp .ne 37, 3) := by decide +kernel
theorem dX5_reached_42 : decode cX5_reached 42 = .ok (.aload_n 0, 1) := by decide +kernel
theorem dX5_reached_43 : decode cX5_reached 43 = .ok (.getfield 60, 3) := by decide +kernel
theorem dX5_reached_46 : decode cX5_reached 46 = .ok (.bipush 16, 2) := by decide +kernel
theorem dX5_reached_48 : decode cX5_reached 48 = .ok (.iload 5, 2) := by decide +kernel
theorem dX5_reached_50 : decode cX5_reached 50 = .ok (.imul, 1) := by decide +kernel
theorem dX5_reached_51 : decode cX5_reached 51 = .ok (.iload 6, 2) := by decide +kernel
theorem dX5_reached_53 : decode cX5_reached 53 = .ok (.iadd, 1) := by decide +kernel
theorem dX5_reached_54 : decode cX5_reached 54 = .ok (.iaload, 1) := by decide +kernel
theorem dX5_reached_55 : decode cX5_reached 55 = .ok (.ifCond .le 21, 3) := by decide +kernel
theorem dX5_reached_58 : decode cX5_reached 58 = .ok (.aload_n 0, 1) := by decide +kernel
theorem dX5_reached_59 : decode cX5_reached 59 = .ok (.getfield 57, 3) := by decide +kernel
theorem dX5_reached_62 : decode cX5_reached 62 = .ok (.iload 6, 2) := by decide +kernel
theorem dX5_reached_64 : decode cX5_reached 64 = .ok (.baload, 1) := by decide +kernel
theorem dX5_reached_65 : decode cX5_reached 65 = .ok (.ifCond .ne 7, 3) := by decide +kernel
theorem dX5_reached_68 : decode cX5_reached 68 = .ok (.iload_n 2, 1) := by decide +kernel
theorem dX5_reached_69 : decode cX5_reached 69 = .ok (.ifCond .ne 7, 3) := by decide +kernel
theorem dX5_reached_72 : decode cX5_reached 72 = .ok (.iconst 1, 1) := by decide +kernel
theorem dX5_reached_73 : decode cX5_reached 73 = .ok (.goto 4, 3) := by decide +kernel
theorem dX5_reached_76 : decode cX5_reached 76 = .ok (.iconst 0, 1) := by decide +kernel
theorem dX5_reached_77 : decode cX5_reached 77 = .ok (.istore 7, 2) := by decide +kernel
theorem dX5_reached_79 : decode cX5_reached 79 = .ok (.iload_n 3, 1) := by decide +kernel
theorem dX5_reached_80 : decode cX5_reached 80 = .ok (.iload 7, 2) := by decide +kernel
theorem dX5_reached_82 : decode cX5_reached 82 = .ok (.ifCond .eq 10, 3) := by decide +kernel
theorem dX5_reached_85 : decode cX5_reached 85 = .ok (.iconst 1, 1) := by decide +kernel
theorem dX5_reached_86 : decode cX5_reached 86 = .ok (.iload 6, 2) := by decide +kernel
theorem dX5_reached_88 : decode cX5_reached 88 = .ok (.ishl, 1) := by decide +kernel
theorem dX5_reached_89 : decode cX5_reached 89 = .ok (.goto 4, 3) := by decide +kernel
theorem dX5_reached_92 : decode cX5_reached 92 = .ok (.iconst 0, 1) := by decide +kernel
theorem dX5_reached_93 : decode cX5_reached 93 = .ok (.ior, 1) := by decide +kernel
theorem dX5_reached_94 : decode cX5_reached 94 = .ok (.istore_n 3, 1) := by decide +kernel
theorem dX5_reached_95 : decode cX5_reached 95 = .ok (.iinc 4 1, 3) := by decide +kernel
theorem dX5_reached_98 : decode cX5_reached 98 = .ok (.goto (-91), 3) := by decide +kernel
theorem dX5_reached_101 : decode cX5_reached 101 = .ok (.iload_n 3, 1) := by decide +kernel
theorem dX5_reached_102 : decode cX5_reached 102 = .ok (.ireturn, 1) := by decide +kernel
set_option maxRecDepth 20000 in
theorem ggX5_argueReason_X5_isCause : GoodIn wsX5_argueReason wsX5_isCause := goodIn_r _ [6, 7, 8, 9, 5, 10, 21, 22, 23, 24, 25, 26, 27, 28, 29, 30, 31, 32, 33, 34, 35, 36, 37, 38, 39, 40, 41] (by decide +kernel) (by decide +kernel)
set_option maxRecDepth 20000 in
theorem gX5_argueReason_X5_isCause : GoodIn wsX5_argueReason (wsV RX5 127 RX5 yX5_isCause wsX5_isCause) := goodIn_app (goodIn_of _ (by decide +kernel)) ggX5_argueReason_X5_isCause
set_option maxRecDepth 20000 in
theorem ggX5_argueReason_X5_isIn : GoodIn wsX5_argueReason wsX5_isIn := goodIn_r _ [10] (by decide +kernel) (by decide +kernel)
set_option maxRecDepth 20000 in
theorem gX5_argueReason_X5_isIn : GoodIn wsX5_argueReason (va_wsS RX5 68 yX5_isIn wsX5_isIn) := goodIn_app (goodIn_of _ (by decide +kernel)) ggX5_argueReason_X5_isIn
set_option maxRecDepth 20000 in
theorem ggX5_argueReason_X5_goes : GoodIn wsX5_argueReason wsX5_goes := goodIn_r _ [14, 15, 21, 22, 23, 24, 25, 26, 27, 28, 29, 30, 31, 32, 33, 34, 35, 36, 37, 38, 39, 40, 41] (by decide +kernel) (by decide +kernel)
set_option maxRecDepth 20000 in
theorem gX5_argueReason_X5_goes : GoodIn wsX5_argueReason (wsV RX5 79 RX5 yX5_goes wsX5_goes) := goodIn_app (goodIn_of _ (by decide +kernel)) ggX5_argueReason_X5_goes
set_option maxRecDepth 20000 in
theorem ggX5_argueReason_X5_reached : GoodIn wsX5_argueReason wsX5_reached := goodIn_r _ [19, 1, 20, 21, 22, 23, 24, 25, 26, 27, 28, 29, 30, 31, 32, 33, 34, 35, 36, 37, 38, 39, 40, 41] (by decide +kernel) (by decide +kernel)
set_option maxRecDepth 20000 in
theorem gX5_argueReason_X5_reached : GoodIn wsX5_argueReason (wsV RX5 130 RX5 yX5_reached wsX5_reached) := goodIn_app (goodIn_of _ (by decide +kernel)) ggX5_argueReason_X5_reached
theorem dX5_argueReason_0 : decode cX5_argueReason 0 = .ok (.aload_n 0, 1) := by decide +kernel
theorem dX5_argueReason_1 : decode cX5_argueReason 1 = .ok (.iload_n 1, 1) := by decide +kernel
theorem dX5_argueReason_2 : decode cX5_argueReason 2 = .ok (.invokevirtual 127, 3) := by decide +kernel
theorem dX5_argueReason_5 : decode cX5_argueReason 5 = .ok (.ifCond .eq 15, 3) := by decide +kernel
theorem dX5_argueReason_8 : decode cX5_argueReason 8 = .ok (.aload_n 0, 1) := by decide +kernel
theorem dX5_argueReason_9 : decode cX5_argueReason 9 = .ok (.iload_n 2, 1) := by decide +kernel
theorem dX5_argueReason_10 : decode cX5_argueReason 10 = .ok (.invokevirtual 127, 3) := by decide +kernel
theorem dX5_argueReason_13 : decode cX5_argueReason 13 = .ok (.ifCond .eq 7, 3) := by decide +kernel
theorem dX5_argueReason_16 : decode cX5_argueReason 16 = .ok (.iconst 1, 1) := by decide +kernel
theorem dX5_argueReason_17 : decode cX5_argueReason 17 = .ok (.goto 4, 3) := by decide +kernel
theorem dX5_argueReason_20 : decode cX5_argueReason 20 = .ok (.iconst 0, 1) := by decide +kernel
theorem dX5_argueReason_21 : decode cX5_argueReason 21 = .ok (.istore 4, 2) := by decide +kernel
theorem dX5_argueReason_23 : decode cX5_argueReason 23 = .ok (.aload_n 0, 1) := by decide +kernel
theorem dX5_argueReason_24 : decode cX5_argueReason 24 = .ok (.iload 4, 2) := by decide +kernel
theorem dX5_argueReason_26 : decode cX5_argueReason 26 = .ok (.ifCond .ne 7, 3) := by decide +kernel
theorem dX5_argueReason_29 : decode cX5_argueReason 29 = .ok (.iconst 1, 1) := by decide +kernel
theorem dX5_argueReason_30 : decode cX5_argueReason 30 = .ok (.goto 23, 3) := by decide +kernel
theorem dX5_argueReason_33 : decode cX5_argueReason 33 = .ok (.iload_n 3, 1) := by decide +kernel
theorem dX5_argueReason_34 : decode cX5_argueReason 34 = .ok (.iconst 0, 1) := by decide +kernel
theorem dX5_argueReason_35 : decode cX5_argueReason 35 = .ok (.bipush 100, 2) := by decide +kernel
theorem dX5_argueReason_37 : decode cX5_argueReason 37 = .ok (.invokestatic 68, 3) := by decide +kernel
theorem dX5_argueReason_40 : decode cX5_argueReason 40 = .ok (.ifCond .eq 8, 3) := by decide +kernel
theorem dX5_argueReason_43 : decode cX5_argueReason 43 = .ok (.iload_n 1, 1) := by decide +kernel
theorem dX5_argueReason_44 : decode cX5_argueReason 44 = .ok (.iload_n 2, 1) := by decide +kernel
theorem dX5_argueReason_45 : decode cX5_argueReason 45 = .ok (.if_icmp .ne 7, 3) := by decide +kernel
theorem dX5_argueReason_48 : decode cX5_argueReason 48 = .ok (.iconst 2, 1) := by decide +kernel
theorem dX5_argueReason_49 : decode cX5_argueReason 49 = .ok (.goto 4, 3) := by decide +kernel
theorem dX5_argueReason_52 : decode cX5_argueReason 52 = .ok (.iconst 0, 1) := by decide +kernel
theorem dX5_argueReason_53 : decode cX5_argueReason 53 = .ok (.invokevirtual 79, 3) := by decide +kernel
theorem dX5_argueReason_56 : decode cX5_argueReason 56 = .ok (.ifCond .ne 5, 3) := by decide +kernel
theorem dX5_argueReason_59 : decode cX5_argueReason 59 = .ok (.iconst 0, 1) := by decide +kernel
theorem dX5_argueReason_60 : decode cX5_argueReason 60 = .ok (.ireturn, 1) := by decide +kernel
theorem dX5_argueReason_61 : decode cX5_argueReason 61 = .ok (.iload_n 3, 1) := by decide +kernel
theorem dX5_argueReason_62 : decode cX5_argueReason 62 = .ok (.ifCond .le 21, 3) := by decide +kernel
theorem dX5_argueReason_65 : decode cX5_argueReason 65 = .ok (.aload_n 0, 1) := by decide +kernel
theorem dX5_argueReason_66 : decode cX5_argueReason 66 = .ok (.iload_n 2, 1) := by decide +kernel
theorem dX5_argueReason_67 : decode cX5_argueReason 67 = .ok (.iconst 0, 1) := by decide +kernel
theorem dX5_argueReason_68 : decode cX5_argueReason 68 = .ok (.invokevirtual 130, 3) := by decide +kernel
theorem dX5_argueReason_71 : decode cX5_argueReason 71 = .ok (.iload_n 1, 1) := by decide +kernel
theorem dX5_argueReason_72 : decode cX5_argueReason 72 = .ok (.ishr, 1) := by decide +kernel
theorem dX5_argueReason_73 : decode cX5_argueReason 73 = .ok (.iconst 1, 1) := by decide +kernel
theorem dX5_argueReason_74 : decode cX5_argueReason 74 = .ok (.iand, 1) := by decide +kernel
theorem dX5_argueReason_75 : decode cX5_argueReason 75 = .ok (.iconst 1, 1) := by decide +kernel
theorem dX5_argueReason_76 : decode cX5_argueReason 76 = .ok (.if_icmp .ne 7, 3) := by decide +kernel
theorem dX5_argueReason_79 : decode cX5_argueReason 79 = .ok (.iconst 1, 1) := by decide +kernel
theorem dX5_argueReason_80 : decode cX5_argueReason 80 = .ok (.goto 4, 3) := by decide +kernel
theorem dX5_argueReason_83 : decode cX5_argueReason 83 = .ok (.iconst 0, 1) := by decide +kernel
theorem dX5_argueReason_84 : decode cX5_argueReason 84 = .ok (.istore 5, 2) := by decide +kernel
theorem dX5_argueReason_86 : decode cX5_argueReason 86 = .ok (.aload_n 0, 1) := by decide +kernel
theorem dX5_argueReason_87 : decode cX5_argueReason 87 = .ok (.iload 5, 2) := by decide +kernel
theorem dX5_argueReason_89 : decode cX5_argueReason 89 = .ok (.ifCond .eq 7, 3) := by decide +kernel
theorem dX5_argueReason_92 : decode cX5_argueReason 92 = .ok (.iconst 3, 1) := by decide +kernel
theorem dX5_argueReason_93 : decode cX5_argueReason 93 = .ok (.goto 4, 3) := by decide +kernel
theorem dX5_argueReason_96 : decode cX5_argueReason 96 = .ok (.iconst 0, 1) := by decide +kernel
theorem dX5_argueReason_97 : decode cX5_argueReason 97 = .ok (.invokevirtual 79, 3) := by decide +kernel
theorem dX5_argueReason_100 : decode cX5_argueReason 100 = .ok (.ifCond .ne 5, 3) := by decide +kernel
theorem dX5_argueReason_103 : decode cX5_argueReason 103 = .ok (.iconst 0, 1) := by decide +kernel
theorem dX5_argueReason_104 : decode cX5_argueReason 104 = .ok (.ireturn, 1) := by decide +kernel
theorem dX5_argueReason_105 : decode cX5_argueReason 105 = .ok (.aload_n 0, 1) := by decide +kernel
theorem dX5_argueReason_106 : decode cX5_argueReason 106 = .ok (.getfield 60, 3) := by decide +kernel
theorem dX5_argueReason_109 : decode cX5_argueReason 109 = .ok (.bipush 16, 2) := by decide +kernel
theorem dX5_argueReason_111 : decode cX5_argueReason 111 = .ok (.iload_n 1, 1) := by decide +kernel
theorem dX5_argueReason_112 : decode cX5_argueReason 112 = .ok (.imul, 1) := by decide +kernel
theorem dX5_argueReason_113 : decode cX5_argueReason 113 = .ok (.iload_n 2, 1) := by decide +kernel
theorem dX5_argueReason_114 : decode cX5_argueReason 114 = .ok (.iadd, 1) := by decide +kernel
theorem dX5_argueReason_115 : decode cX5_argueReason 115 = .ok (.iaload, 1) := by decide +kernel
theorem dX5_argueReason_116 : decode cX5_argueReason 116 = .ok (.istore 6, 2) := by decide +kernel
theorem dX5_argueReason_118 : decode cX5_argueReason 118 = .ok (.aload_n 0, 1) := by decide +kernel
theorem dX5_argueReason_119 : decode cX5_argueReason 119 = .ok (.getfield 60, 3) := by decide +kernel
theorem dX5_argueReason_122 : decode cX5_argueReason 122 = .ok (.bipush 16, 2) := by decide +kernel
theorem dX5_argueReason_124 : decode cX5_argueReason 124 = .ok (.iload_n 1, 1) := by decide +kernel
theorem dX5_argueReason_125 : decode cX5_argueReason 125 = .ok (.imul, 1) := by decide +kernel
theorem dX5_argueReason_126 : decode cX5_argueReason 126 = .ok (.iload_n 2, 1) := by decide +kernel
theorem dX5_argueReason_127 : decode cX5_argueReason 127 = .ok (.iadd, 1) := by decide +kernel
theorem dX5_argueReason_128 : decode cX5_argueReason 128 = .ok (.iload_n 3, 1) := by decide +kernel
theorem dX5_argueReason_129 : decode cX5_argueReason 129 = .ok (.iastore, 1) := by decide +kernel
theorem dX5_argueReason_130 : decode cX5_argueReason 130 = .ok (.iload 6, 2) := by decide +kernel
theorem dX5_argueReason_132 : decode cX5_argueReason 132 = .ok (.ireturn, 1) := by decide +kernel
set_option maxRecDepth 20000 in
theorem ggX5_setStanding_X5_isCause : GoodIn wsX5_setStanding wsX5_isCause := goodIn_r _ [6, 7, 8, 9, 5, 10, 16, 17, 18, 19, 20, 21, 22, 23, 24, 25, 26, 27, 28, 29, 30, 31, 32, 33, 34, 35, 36] (by decide +kernel) (by decide +kernel)
set_option maxRecDepth 20000 in
theorem gX5_setStanding_X5_isCause : GoodIn wsX5_setStanding (wsV RX5 127 RX5 yX5_isCause wsX5_isCause) := goodIn_app (goodIn_of _ (by decide +kernel)) ggX5_setStanding_X5_isCause
set_option maxRecDepth 20000 in
theorem ggX5_setStanding_X5_goes : GoodIn wsX5_setStanding wsX5_goes := goodIn_r _ [14, 15, 16, 17, 18, 19, 20, 21, 22, 23, 24, 25, 26, 27, 28, 29, 30, 31, 32, 33, 34, 35, 36] (by decide +kernel) (by decide +kernel)
set_option maxRecDepth 20000 in
theorem gX5_setStanding_X5_goes : GoodIn wsX5_setStanding (wsV RX5 79 RX5 yX5_goes wsX5_goes) := goodIn_app (goodIn_of _ (by decide +kernel)) ggX5_setStanding_X5_goes
theorem dX5_setStanding_0 : decode cX5_setStanding 0 = .ok (.aload_n 0, 1) := by decide +kernel
theorem dX5_setStanding_1 : decode cX5_setStanding 1 = .ok (.aload_n 0, 1) := by decide +kernel
theorem dX5_setStanding_2 : decode cX5_setStanding 2 = .ok (.iload_n 1, 1) := by decide +kernel
theorem dX5_setStanding_3 : decode cX5_setStanding 3 = .ok (.invokevirtual 127, 3) := by decide +kernel
theorem dX5_setStanding_6 : decode cX5_setStanding 6 = .ok (.ifCond .eq 7, 3) := by decide +kernel
theorem dX5_setStanding_9 : decode cX5_setStanding 9 = .ok (.iconst 0, 1) := by decide +kernel
theorem dX5_setStanding_10 : decode cX5_setStanding 10 = .ok (.goto 4, 3) := by decide +kernel
theorem dX5_setStanding_13 : decode cX5_setStanding 13 = .ok (.iconst 1, 1) := by decide +kernel
theorem dX5_setStanding_14 : decode cX5_setStanding 14 = .ok (.invokevirtual 79, 3) := by decide +kernel
theorem dX5_setStanding_17 : decode cX5_setStanding 17 = .ok (.ifCond .ne 5, 3) := by decide +kernel
theorem dX5_setStanding_20 : decode cX5_setStanding 20 = .ok (.iconst 0, 1) := by decide +kernel
theorem dX5_setStanding_21 : decode cX5_setStanding 21 = .ok (.ireturn, 1) := by decide +kernel
theorem dX5_setStanding_22 : decode cX5_setStanding 22 = .ok (.aload_n 0, 1) := by decide +kernel
theorem dX5_setStanding_23 : decode cX5_setStanding 23 = .ok (.getfield 57, 3) := by decide +kernel
theorem dX5_setStanding_26 : decode cX5_setStanding 26 = .ok (.iload_n 1, 1) := by decide +kernel
theorem dX5_setStanding_27 : decode cX5_setStanding 27 = .ok (.baload, 1) := by decide +kernel
theorem dX5_setStanding_28 : decode cX5_setStanding 28 = .ok (.istore_n 3, 1) := by decide +kernel
theorem dX5_setStanding_29 : decode cX5_setStanding 29 = .ok (.aload_n 0, 1) := by decide +kernel
theorem dX5_setStanding_30 : decode cX5_setStanding 30 = .ok (.getfield 57, 3) := by decide +kernel
theorem dX5_setStanding_33 : decode cX5_setStanding 33 = .ok (.iload_n 1, 1) := by decide +kernel
theorem dX5_setStanding_34 : decode cX5_setStanding 34 = .ok (.iload_n 2, 1) := by decide +kernel
theorem dX5_setStanding_35 : decode cX5_setStanding 35 = .ok (.bastore, 1) := by decide +kernel
theorem dX5_setStanding_36 : decode cX5_setStanding 36 = .ok (.iload_n 3, 1) := by decide +kernel
theorem dX5_setStanding_37 : decode cX5_setStanding 37 = .ok (.ireturn, 1) := by decide +kernel
theorem dX5_mainOf_0 : decode cX5_mainOf 0 = .ok (.iconst (-1), 1) := by decide +kernel
theorem dX5_mainOf_1 : decode cX5_mainOf 1 = .ok (.istore_n 2, 1) := by decide +kernel
theorem dX5_mainOf_2 : decode cX5_mainOf 2 = .ok (.iconst 0, 1) := by decide +kernel
theorem dX5_mainOf_3 : decode cX5_mainOf 3 = .ok (.istore_n 3, 1) := by decide +kernel
theorem dX5_mainOf_4 : decode cX5_mainOf 4 = .ok (.iconst 0, 1) := by decide +kernel
theorem dX5_mainOf_5 : decode cX5_mainOf 5 = .ok (.istore 4, 2) := by decide +kernel
theorem dX5_mainOf_7 : decode cX5_mainOf 7 = .ok (.iload 4, 2) := by decide +kernel
theorem dX5_mainOf_9 : decode cX5_mainOf 9 = .ok (.aload_n 0, 1) := by decide +kernel
theorem dX5_mainOf_10 : decode cX5_mainOf 10 = .ok (.getfield 124, 3) := by decide +kernel
theorem dX5_mainOf_13 : decode cX5_mainOf 13 = .ok (.if_icmp .ge 76, 3) := by decide +kernel
theorem dX5_mainOf_16 : decode cX5_mainOf 16 = .ok (.aload_n 0, 1) := by decide +kernel
theorem dX5_mainOf_17 : decode cX5_mainOf 17 = .ok (.getfield 57, 3) := by decide +kernel
theorem dX5_mainOf_20 : decode cX5_mainOf 20 = .ok (.iload 4, 2) := by decide +kernel
theorem dX5_mainOf_22 : decode cX5_mainOf 22 = .ok (.baload, 1) := by decide +kernel
theorem dX5_mainOf_23 : decode cX5_mainOf 23 = .ok (.ifCond .eq 23, 3) := by decide +kernel
theorem dX5_mainOf_26 : decode cX5_mainOf 26 = .ok (.aload_n 0, 1) := by decide +kernel
theorem dX5_mainOf_27 : decode cX5_mainOf 27 = .ok (.getfield 60, 3) := by decide +kernel
theorem dX5_mainOf_30 : decode cX5_mainOf 30 = .ok (.bipush 16, 2) := by decide +kernel
theorem dX5_mainOf_32 : decode cX5_mainOf 32 = .ok (.iload_n 1, 1) := by decide +kernel
theorem dX5_mainOf_33 : decode cX5_mainOf 33 = .ok (.imul, 1) := by decide +kernel
theorem dX5_mainOf_34 : decode cX5_mainOf 34 = .ok (.iload 4, 2) := by decide +kernel
theorem dX5_mainOf_36 : decode cX5_mainOf 36 = .ok (.iadd, 1) := by decide +kernel
theorem dX5_mainOf_37 : decode cX5_mainOf 37 = .ok (.iaload, 1) := by decide +kernel
theorem dX5_mainOf_38 : decode cX5_mainOf 38 = .ok (.iload_n 3, 1) := by decide +kernel
theorem dX5_mainOf_39 : decode cX5_mainOf 39 = .ok (.if_icmp .le 7, 3) := by decide +kernel
theorem dX5_mainOf_42 : decode cX5_mainOf 42 = .ok (.iconst 1, 1) := by decide +kernel
theorem dX5_mainOf_43 : decode cX5_mainOf 43 = .ok (.goto 4, 3) := by decide +kernel
theorem dX5_mainOf_46 : decode cX5_mainOf 46 = .ok (.iconst 0, 1) := by decide +kernel
theorem dX5_mainOf_47 : decode cX5_mainOf 47 = .ok (.istore 5, 2) := by decide +kernel
theorem dX5_mainOf_49 : decode cX5_mainOf 49 = .ok (.iload 5, 2) := by decide +kernel
theorem dX5_mainOf_51 : decode cX5_mainOf 51 = .ok (.ifCond .eq 8, 3) := by decide +kernel
theorem dX5_mainOf_54 : decode cX5_mainOf 54 = .ok (.iload 4, 2) := by decide +kernel
theorem dX5_mainOf_56 : decode cX5_mainOf 56 = .ok (.goto 4, 3) := by decide +kernel
theorem dX5_mainOf_59 : decode cX5_mainOf 59 = .ok (.iload_n 2, 1) := by decide +kernel
theorem dX5_mainOf_60 : decode cX5_mainOf 60 = .ok (.istore_n 2, 1) := by decide +kernel
theorem dX5_mainOf_61 : decode cX5_mainOf 61 = .ok (.iload 5, 2) := by decide +kernel
theorem dX5_mainOf_63 : decode cX5_mainOf 63 = .ok (.ifCond .eq 18, 3) := by decide +kernel
theorem dX5_mainOf_66 : decode cX5_mainOf 66 = .ok (.aload_n 0, 1) := by decide +kernel
theorem dX5_mainOf_67 : decode cX5_mainOf 67 = .ok (.getfield 60, 3) := by decide +kernel
theorem dX5_mainOf_70 : decode cX5_mainOf 70 = .ok (.bipush 16, 2) := by decide +kernel
theorem dX5_mainOf_72 : decode cX5_mainOf 72 = .ok (.iload_n 1, 1) := by decide +kernel
theorem dX5_mainOf_73 : decode cX5_mainOf 73 = .ok (.imul, 1) := by decide +kernel
theorem dX5_mainOf_74 : decode cX5_mainOf 74 = .ok (.iload 4, 2) := by decide +kernel
theorem dX5_mainOf_76 : decode cX5_mainOf 76 = .ok (.iadd, 1) := by decide +kernel
theorem dX5_mainOf_77 : decode cX5_mainOf 77 = .ok (.iaload, 1) := by decide +kernel
theorem dX5_mainOf_78 : decode cX5_mainOf 78 = .ok (.goto 4, 3) := by decide +kernel
theorem dX5_mainOf_81 : decode cX5_mainOf 81 = .ok (.iload_n 3, 1) := by decide +kernel
theorem dX5_mainOf_82 : decode cX5_mainOf 82 = .ok (.istore_n 3, 1) := by decide +kernel
theorem dX5_mainOf_83 : decode cX5_mainOf 83 = .ok (.iinc 4 1, 3) := by decide +kernel
theorem dX5_mainOf_86 : decode cX5_mainOf 86 = .ok (.goto (-79), 3) := by decide +kernel
theorem dX5_mainOf_89 : decode cX5_mainOf 89 = .ok (.iload_n 2, 1) := by decide +kernel
theorem dX5_mainOf_90 : decode cX5_mainOf 90 = .ok (.ireturn, 1) := by decide +kernel
set_option maxRecDepth 20000 in
theorem ggX5_roots_X5_isCause : GoodIn wsX5_roots wsX5_isCause := goodIn_r _ [7, 2, 8, 9, 6, 10, 25, 26, 27, 28, 29, 30, 31, 32, 33, 34, 35, 36, 37, 38, 39, 40, 41, 42, 43, 44, 45] (by decide +kernel) (by decide +kernel)
set_option maxRecDepth 20000 in
theorem gX5_roots_X5_isCause : GoodIn wsX5_roots (wsV RX5 127 RX5 yX5_isCause wsX5_isCause) := goodIn_app (goodIn_of _ (by decide +kernel)) ggX5_roots_X5_isCause
set_option maxRecDepth 20000 in
theorem ggX5_roots_X5_goes : GoodIn wsX5_roots wsX5_goes := goodIn_r _ [14, 15, 25, 26, 27, 28, 29, 30, 31, 32, 33, 34, 35, 36, 37, 38, 39, 40, 41, 42, 43, 44, 45] (by decide +kernel) (by decide +kernel)
set_option maxRecDepth 20000 in
theorem gX5_roots_X5_goes : GoodIn wsX5_roots (wsV RX5 79 RX5 yX5_goes wsX5_goes) := goodIn_app (goodIn_of _ (by decide +kernel)) ggX5_roots_X5_goes
set_option maxRecDepth 20000 in
theorem ggX5_roots_X5_reached : GoodIn wsX5_roots wsX5_reached := goodIn_r _ [19, 20, 1, 25, 26, 27, 28, 29, 30, 31, 32, 33, 34, 35, 36, 37, 38, 39, 40, 41, 42, 43, 44, 45] (by decide +kernel) (by decide +kernel)
set_option maxRecDepth 20000 in
theorem gX5_roots_X5_reached : GoodIn wsX5_roots (wsV RX5 130 RX5 yX5_reached wsX5_reached) := goodIn_app (goodIn_of _ (by decide +kernel)) ggX5_roots_X5_reached
set_option maxRecDepth 20000 in
theorem ggX5_roots_X5_mainOf : GoodIn wsX5_roots wsX5_mainOf := goodIn_r _ [24, 2, 1, 20, 25, 26, 27, 28, 29, 30, 31, 32, 33, 34, 35, 36, 37, 38, 39, 40, 41, 42, 43, 44, 45] (by decide +kernel) (by decide +kernel)
set_option maxRecDepth 20000 in
theorem gX5_roots_X5_mainOf : GoodIn wsX5_roots (wsV RX5 134 RX5 yX5_mainOf wsX5_mainOf) := goodIn_app (goodIn_of _ (by decide +kernel)) ggX5_roots_X5_mainOf
theorem dX5_roots_0 : decode cX5_roots 0 = .ok (.aload_n 0, 1) := by decide +kernel
theorem dX5_roots_1 : decode cX5_roots 1 = .ok (.aload_n 0, 1) := by decide +kernel
theorem dX5_roots_2 : decode cX5_roots 2 = .ok (.iload_n 1, 1) := by decide +kernel
theorem dX5_roots_3 : decode cX5_roots 3 = .ok (.invokevirtual 127, 3) := by decide +kernel
theorem dX5_roots_6 : decode cX5_roots 6 = .ok (.ifCond .eq 7, 3) := by decide +kernel
theorem dX5_roots_9 : decode cX5_roots 9 = .ok (.iconst 0, 1) := by decide +kernel
theorem dX5_roots_10 : decode cX5_roots 10 = .ok (.goto 4, 3) := by decide +kernel
theorem dX5_roots_13 : decode cX5_roots 13 = .ok (.iconst 1, 1) := by decide +kernel
theorem dX5_roots_14 : decode cX5_roots 14 = .ok (.invokevirtual 79, 3) := by decide +kernel
theorem dX5_roots_17 : decode cX5_roots 17 = .ok (.ifCond .ne 5, 3) := by decide +kernel
theorem dX5_roots_20 : decode cX5_roots 20 = .ok (.iconst 0, 1) := by decide +kernel
theorem dX5_roots_21 : decode cX5_roots 21 = .ok (.ireturn, 1) := by decide +kernel
theorem dX5_roots_22 : decode cX5_roots 22 = .ok (.aload_n 0, 1) := by decide +kernel
theorem dX5_roots_23 : decode cX5_roots 23 = .ok (.getfield 57, 3) := by decide +kernel
theorem dX5_roots_26 : decode cX5_roots 26 = .ok (.iload_n 1, 1) := by decide +kernel
theorem dX5_roots_27 : decode cX5_roots 27 = .ok (.baload, 1) := by decide +kernel
theorem dX5_roots_28 : decode cX5_roots 28 = .ok (.ifCond .eq 12, 3) := by decide +kernel
theorem dX5_roots_31 : decode cX5_roots 31 = .ok (.aload_n 0, 1) := by decide +kernel
theorem dX5_roots_32 : decode cX5_roots 32 = .ok (.iload_n 1, 1) := by decide +kernel
theorem dX5_roots_33 : decode cX5_roots 33 = .ok (.iconst 1, 1) := by decide +kernel
theorem dX5_roots_34 : decode cX5_roots 34 = .ok (.invokevirtual 130, 3) := by decide +kernel
theorem dX5_roots_37 : decode cX5_roots 37 = .ok (.goto 4, 3) := by decide +kernel
theorem dX5_roots_40 : decode cX5_roots 40 = .ok (.iconst 0, 1) := by decide +kernel
theorem dX5_roots_41 : decode cX5_roots 41 = .ok (.istore_n 2, 1) := by decide +kernel
theorem dX5_roots_42 : decode cX5_roots 42 = .ok (.iconst 0, 1) := by decide +kernel
theorem dX5_roots_43 : decode cX5_roots 43 = .ok (.istore_n 3, 1) := by decide +kernel
theorem dX5_roots_44 : decode cX5_roots 44 = .ok (.iconst 0, 1) := by decide +kernel
theorem dX5_roots_45 : decode cX5_roots 45 = .ok (.istore 4, 2) := by decide +kernel
theorem dX5_roots_47 : decode cX5_roots 47 = .ok (.iload 4, 2) := by decide +kernel
theorem dX5_roots_49 : decode cX5_roots 49 = .ok (.aload_n 0, 1) := by decide +kernel
theorem dX5_roots_50 : decode cX5_roots 50 = .ok (.getfield 124, 3) := by decide +kernel
theorem dX5_roots_53 : decode cX5_roots 53 = .ok (.if_icmp .ge 40, 3) := by decide +kernel
theorem dX5_roots_56 : decode cX5_roots 56 = .ok (.iload_n 3, 1) := by decide +kernel
theorem dX5_roots_57 : decode cX5_roots 57 = .ok (.iload_n 2, 1) := by decide +kernel
theorem dX5_roots_58 : decode cX5_roots 58 = .ok (.iload 4, 2) := by decide +kernel
theorem dX5_roots_60 : decode cX5_roots 60 = .ok (.ishr, 1) := by decide +kernel
theorem dX5_roots_61 : decode cX5_roots 61 = .ok (.iconst 1, 1) := by decide +kernel
theorem dX5_roots_62 : decode cX5_roots 62 = .ok (.iand, 1) := by decide +kernel
theorem dX5_roots_63 : decode cX5_roots 63 = .ok (.iconst 1, 1) := by decide +kernel
theorem dX5_roots_64 : decode cX5_roots 64 = .ok (.if_icmp .ne 20, 3) := by decide +kernel
theorem dX5_roots_67 : decode cX5_roots 67 = .ok (.aload_n 0, 1) := by decide +kernel
theorem dX5_roots_68 : decode cX5_roots 68 = .ok (.iload 4, 2) := by decide +kernel
theorem dX5_roots_70 : decode cX5_roots 70 = .ok (.invokevirtual 134, 3) := by decide +kernel
theorem dX5_roots_73 : decode cX5_roots 73 = .ok (.iconst (-1), 1) := by decide +kernel
theorem dX5_roots_74 : decode cX5_roots 74 = .ok (.if_icmp .ne 10, 3) := by decide +kernel
theorem dX5_roots_77 : decode cX5_roots 77 = .ok (.iconst 1, 1) := by decide +kernel
theorem dX5_roots_78 : decode cX5_roots 78 = .ok (.iload 4, 2) := by decide +kernel
theorem dX5_roots_80 : decode cX5_roots 80 = .ok (.ishl, 1) := by decide +kernel
theorem dX5_roots_81 : decode cX5_roots 81 = .ok (.goto 4, 3) := by decide +kernel
theorem dX5_roots_84 : decode cX5_roots 84 = .ok (.iconst 0, 1) := by decide +kernel
theorem dX5_roots_85 : decode cX5_roots 85 = .ok (.ior, 1) := by decide +kernel
theorem dX5_roots_86 : decode cX5_roots 86 = .ok (.istore_n 3, 1) := by decide +kernel
theorem dX5_roots_87 : decode cX5_roots 87 = .ok (.iinc 4 1, 3) := by decide +kernel
theorem dX5_roots_90 : decode cX5_roots 90 = .ok (.goto (-43), 3) := by decide +kernel
theorem dX5_roots_93 : decode cX5_roots 93 = .ok (.iload_n 3, 1) := by decide +kernel
theorem dX5_roots_94 : decode cX5_roots 94 = .ok (.ireturn, 1) := by decide +kernel
set_option maxRecDepth 20000 in
theorem ggX5_mainReason_X5_isCause : GoodIn wsX5_mainReason wsX5_isCause := goodIn_r _ [5, 6, 7, 8, 4, 9, 21, 22, 23, 24, 25, 26, 27, 28, 29, 30, 31, 32, 33, 34, 35, 36, 37, 38, 39, 40, 41] (by decide +kernel) (by decide +kernel)
set_option maxRecDepth 20000 in
theorem gX5_mainReason_X5_isCause : GoodIn wsX5_mainReason (wsV RX5 127 RX5 yX5_isCause wsX5_isCause) := goodIn_app (goodIn_of _ (by decide +kernel)) ggX5_mainReason_X5_isCause
set_option maxRecDepth 20000 in
theorem ggX5_mainReason_X5_goes : GoodIn wsX5_mainReason wsX5_goes := goodIn_r _ [13, 14, 21, 22, 23, 24, 25, 26, 27, 28, 29, 30, 31, 32, 33, 34, 35, 36, 37, 38, 39, 40, 41] (by decide +kernel) (by decide +kernel)
set_option maxRecDepth 20000 in
theorem gX5_mainReason_X5_goes : GoodIn wsX5_mainReason (wsV RX5 79 RX5 yX5_goes wsX5_goes) := goodIn_app (goodIn_of _ (by decide +kernel)) ggX5_mainReason_X5_goes
set_option maxRecDepth 20000 in
theorem ggX5_mainReason_X5_mainOf : GoodIn wsX5_mainReason wsX5_mainOf := goodIn_r _ [18, 6, 19, 20, 21, 22, 23, 24, 25, 26, 27, 28, 29, 30, 31, 32, 33, 34, 35, 36, 37, 38, 39, 40, 41] (by decide +kernel) (by decide +kernel)
set_option maxRecDepth 20000 in
theorem gX5_mainReason_X5_mainOf : GoodIn wsX5_mainReason (wsV RX5 134 RX5 yX5_mainOf wsX5_mainOf) := goodIn_app (goodIn_of _ (by decide +kernel)) ggX5_mainReason_X5_mainOf
theorem dX5_mainReason_0 : decode cX5_mainReason 0 = .ok (.aload_n 0, 1) := by decide +kernel
theorem dX5_mainReason_1 : decode cX5_mainReason 1 = .ok (.aload_n 0, 1) := by decide +kernel
theorem dX5_mainReason_2 : decode cX5_mainReason 2 = .ok (.iload_n 1, 1) := by decide +kernel
theorem dX5_mainReason_3 : decode cX5_mainReason 3 = .ok (.invokevirtual 127, 3) := by decide +kernel
end
section
theorem dX5_mainReason_6 : decode cX5_mainReason 6 = .ok (.ifCond .eq 7, 3) := by decide +kernel
theorem dX5_mainReason_9 : decode cX5_mainReason 9 = .ok (.iconst 0, 1) := by decide +kernel
theorem dX5_mainReason_10 : decode cX5_mainReason 10 = .ok (.goto 4, 3) := by decide +kernel
theorem dX5_mainReason_13 : decode cX5_mainReason 13 = .ok (.iconst 1, 1) := by decide +kernel
theorem dX5_mainReason_14 : decode cX5_mainReason 14 = .ok (.invokevirtual 79, 3) := by decide +kernel
theorem dX5_mainReason_17 : decode cX5_mainReason 17 = .ok (.ifCond .eq 11, 3) := by decide +kernel
theorem dX5_mainReason_20 : decode cX5_mainReason 20 = .ok (.aload_n 0, 1) := by decide +kernel
theorem dX5_mainReason_21 : decode cX5_mainReason 21 = .ok (.iload_n 1, 1) := by decide +kernel
theorem dX5_mainReason_22 : decode cX5_mainReason 22 = .ok (.invokevirtual 134, 3) := by decide +kernel
theorem dX5_mainReason_25 : decode cX5_mainReason 25 = .ok (.goto 4, 3) := by decide +kernel
theorem dX5_mainReason_28 : decode cX5_mainReason 28 = .ok (.iconst 0, 1) := by decide +kernel
theorem dX5_mainReason_29 : decode cX5_mainReason 29 = .ok (.ireturn, 1) := by decide +kernel
theorem dJ9_max_7cf53_0 : decode cJ9_max_7cf53 0 = .ok (.iload_n 0, 1) := by decide +kernel
theorem dJ9_max_7cf53_1 : decode cJ9_max_7cf53 1 = .ok (.iload_n 1, 1) := by decide +kernel
theorem dJ9_max_7cf53_2 : decode cJ9_max_7cf53 2 = .ok (.if_icmp .lt 7, 3) := by decide +kernel
theorem dJ9_max_7cf53_5 : decode cJ9_max_7cf53 5 = .ok (.iload_n 0, 1) := by decide +kernel
theorem dJ9_max_7cf53_6 : decode cJ9_max_7cf53 6 = .ok (.goto 4, 3) := by decide +kernel
theorem dJ9_max_7cf53_9 : decode cJ9_max_7cf53 9 = .ok (.iload_n 1, 1) := by decide +kernel
theorem dJ9_max_7cf53_10 : decode cJ9_max_7cf53 10 = .ok (.ireturn, 1) := by decide +kernel
theorem dJ9_min_7cf53_0 : decode cJ9_min_7cf53 0 = .ok (.iload_n 0, 1) := by decide +kernel
theorem dJ9_min_7cf53_1 : decode cJ9_min_7cf53 1 = .ok (.iload_n 1, 1) := by decide +kernel
theorem dJ9_min_7cf53_2 : decode cJ9_min_7cf53 2 = .ok (.if_icmp .gt 7, 3) := by decide +kernel
theorem dJ9_min_7cf53_5 : decode cJ9_min_7cf53 5 = .ok (.iload_n 0, 1) := by decide +kernel
theorem dJ9_min_7cf53_6 : decode cJ9_min_7cf53 6 = .ok (.goto 4, 3) := by decide +kernel
theorem dJ9_min_7cf53_9 : decode cJ9_min_7cf53 9 = .ok (.iload_n 1, 1) := by decide +kernel
theorem dJ9_min_7cf53_10 : decode cJ9_min_7cf53 10 = .ok (.ireturn, 1) := by decide +kernel
set_option maxRecDepth 20000 in
theorem ggL_mark_X4_mark : GoodIn wsL_mark wsX4_mark := goodIn_ca (goodIn_ca (goodIn_r _ [7, 8, 9, 10, 11, 12, 13, 14, 15, 6, 16, 17, 18, 19, 20, 21, 22, 23, 24, 25, 26, 27, 28, 29, 30, 31, 32, 33, 34, 35, 36, 37, 38, 39, 40, 41, 42, 43, 44, 45, 46, 47, 48, 49, 50, 51, 52, 53, 54, 55, 56, 57, 58, 59, 60, 61, 62, 63, 64, 65, 66, 67, 68, 69, 70, 71, 72, 73, 74, 75, 76, 77, 78, 79, 80, 81, 82, 83, 84, 85, 86, 87, 88] (by decide +kernel) (by decide +kernel)) (goodIn_sub (fun _ h => List.mem_cons_of_mem _ (List.mem_append_left _ (List.mem_append_right _ h))) (by decide +kernel))) (goodIn_sub (fun _ h => List.mem_cons_of_mem _ (List.mem_append_right _ h)) (by decide +kernel))
set_option maxRecDepth 20000 in
theorem gL_mark_X4_mark : GoodIn wsL_mark (wsV RL 7 RX4 yX4_mark wsX4_mark) := goodIn_app (goodIn_of _ (by decide +kernel)) ggL_mark_X4_mark
theorem dL_mark_0 : decode cL_mark 0 = .ok (.aload_n 0, 1) := by decide +kernel
theorem dL_mark_1 : decode cL_mark 1 = .ok (.iload_n 1, 1) := by decide +kernel
theorem dL_mark_2 : decode cL_mark 2 = .ok (.iload_n 2, 1) := by decide +kernel
theorem dL_mark_3 : decode cL_mark 3 = .ok (.iload_n 3, 1) := by decide +kernel
theorem dL_mark_4 : decode cL_mark 4 = .ok (.iload 4, 2) := by decide +kernel
theorem dL_mark_6 : decode cL_mark 6 = .ok (.iload 5, 2) := by decide +kernel
theorem dL_mark_8 : decode cL_mark 8 = .ok (.invokevirtual 7, 3) := by decide +kernel
theorem dL_mark_11 : decode cL_mark 11 = .ok (.goto 11, 3) := by decide +kernel
theorem dL_mark_14 : decode cL_mark 14 = .ok (.astore 6, 2) := by decide +kernel
theorem dL_mark_16 : decode cL_mark 16 = .ok (.iconst 1, 1) := by decide +kernel
theorem dL_mark_17 : decode cL_mark 17 = .ok (.ireturn, 1) := by decide +kernel
theorem dL_mark_18 : decode cL_mark 18 = .ok (.astore 6, 2) := by decide +kernel
theorem dL_mark_20 : decode cL_mark 20 = .ok (.iconst 2, 1) := by decide +kernel
theorem dL_mark_21 : decode cL_mark 21 = .ok (.ireturn, 1) := by decide +kernel
theorem dL_mark_22 : decode cL_mark 22 = .ok (.iconst 0, 1) := by decide +kernel
theorem dL_mark_23 : decode cL_mark 23 = .ok (.ireturn, 1) := by decide +kernel
set_option maxRecDepth 20000 in
theorem ggL_greatest_X4_greatest : GoodIn wsL_greatest wsX4_greatest := goodIn_ca (goodIn_r _ [6, 7, 8, 9, 10, 11, 5, 12, 13, 14, 15, 16, 17, 18, 19, 20, 21, 22, 23, 24, 25, 26, 27] (by decide +kernel) (by decide +kernel)) (goodIn_sub (fun _ h => List.mem_cons_of_mem _ (List.mem_append_right _ h)) (by decide +kernel))
set_option maxRecDepth 20000 in
theorem gL_greatest_X4_greatest : GoodIn wsL_greatest (wsV RL 17 RX4 yX4_greatest wsX4_greatest) := goodIn_app (goodIn_of _ (by decide +kernel)) ggL_greatest_X4_greatest
theorem dL_greatest_0 : decode cL_greatest 0 = .ok (.aload_n 3, 1) := by decide +kernel
theorem dL_greatest_1 : decode cL_greatest 1 = .ok (.iconst 0, 1) := by decide +kernel
theorem dL_greatest_2 : decode cL_greatest 2 = .ok (.aload_n 0, 1) := by decide +kernel
theorem dL_greatest_3 : decode cL_greatest 3 = .ok (.iload_n 1, 1) := by decide +kernel
theorem dL_greatest_4 : decode cL_greatest 4 = .ok (.iload_n 2, 1) := by decide +kernel
theorem dL_greatest_5 : decode cL_greatest 5 = .ok (.invokevirtual 17, 3) := by decide +kernel
theorem dL_greatest_8 : decode cL_greatest 8 = .ok (.i2l, 1) := by decide +kernel
theorem dL_greatest_9 : decode cL_greatest 9 = .ok (.lastore, 1) := by decide +kernel
theorem dL_greatest_10 : decode cL_greatest 10 = .ok (.goto 7, 3) := by decide +kernel
theorem dL_greatest_13 : decode cL_greatest 13 = .ok (.astore 4, 2) := by decide +kernel
theorem dL_greatest_15 : decode cL_greatest 15 = .ok (.iconst 1, 1) := by decide +kernel
theorem dL_greatest_16 : decode cL_greatest 16 = .ok (.ireturn, 1) := by decide +kernel
theorem dL_greatest_17 : decode cL_greatest 17 = .ok (.iconst 0, 1) := by decide +kernel
theorem dL_greatest_18 : decode cL_greatest 18 = .ok (.ireturn, 1) := by decide +kernel
set_option maxRecDepth 20000 in
theorem ggL_write_X4_write : GoodIn wsL_write wsX4_write := goodIn_ca (goodIn_ca (goodIn_r _ [7, 8, 9, 10, 11, 12, 13, 14, 15, 6, 16, 17, 18, 19, 20, 21, 22, 23, 24, 25, 26, 27, 28, 29, 30, 31, 32, 33, 34, 35, 36, 37, 38, 39, 40, 41, 42, 43, 44, 45, 46, 47, 48, 49, 50, 51, 52, 53, 54, 55, 56, 57, 58, 59, 60, 61, 62, 63, 64, 65, 66, 67, 68, 69, 70, 71, 72, 73, 74, 75, 76, 77, 78, 79, 80, 81, 82, 83, 84, 85, 86, 87, 88] (by decide +kernel) (by decide +kernel)) (goodIn_sub (fun _ h => List.mem_cons_of_mem _ (List.mem_append_left _ (List.mem_append_right _ h))) (by decide +kernel))) (goodIn_sub (fun _ h => List.mem_cons_of_mem _ (List.mem_append_right _ h)) (by decide +kernel))
set_option maxRecDepth 20000 in
theorem gL_write_X4_write : GoodIn wsL_write (wsV RL 21 RX4 yX4_write wsX4_write) := goodIn_app (goodIn_of _ (by decide +kernel)) ggL_write_X4_write
theorem dL_write_0 : decode cL_write 0 = .ok (.aload 5, 2) := by decide +kernel
theorem dL_write_2 : decode cL_write 2 = .ok (.iconst 0, 1) := by decide +kernel
theorem dL_write_3 : decode cL_write 3 = .ok (.aload_n 0, 1) := by decide +kernel
theorem dL_write_4 : decode cL_write 4 = .ok (.iload_n 1, 1) := by decide +kernel
theorem dL_write_5 : decode cL_write 5 = .ok (.iload_n 2, 1) := by decide +kernel
theorem dL_write_6 : decode cL_write 6 = .ok (.iload_n 3, 1) := by decide +kernel
theorem dL_write_7 : decode cL_write 7 = .ok (.iload 4, 2) := by decide +kernel
theorem dL_write_9 : decode cL_write 9 = .ok (.invokevirtual 21, 3) := by decide +kernel
theorem dL_write_12 : decode cL_write 12 = .ok (.i2l, 1) := by decide +kernel
theorem dL_write_13 : decode cL_write 13 = .ok (.lastore, 1) := by decide +kernel
theorem dL_write_14 : decode cL_write 14 = .ok (.goto 11, 3) := by decide +kernel
theorem dL_write_17 : decode cL_write 17 = .ok (.astore 6, 2) := by decide +kernel
theorem dL_write_19 : decode cL_write 19 = .ok (.iconst 1, 1) := by decide +kernel
theorem dL_write_20 : decode cL_write 20 = .ok (.ireturn, 1) := by decide +kernel
theorem dL_write_21 : decode cL_write 21 = .ok (.astore 6, 2) := by decide +kernel
theorem dL_write_23 : decode cL_write 23 = .ok (.iconst 2, 1) := by decide +kernel
theorem dL_write_24 : decode cL_write 24 = .ok (.ireturn, 1) := by decide +kernel
theorem dL_write_25 : decode cL_write 25 = .ok (.iconst 0, 1) := by decide +kernel
theorem dL_write_26 : decode cL_write 26 = .ok (.ireturn, 1) := by decide +kernel
set_option maxRecDepth 20000 in
theorem ggL_mustComeBefore_X4_mustComeBefore : GoodIn wsL_mustComeBefore wsX4_mustComeBefore := goodIn_ca (goodIn_r _ [6, 7, 8, 9, 10, 11, 12, 13, 14, 15, 16, 17, 18, 19, 20, 21, 22, 5, 23, 24, 25, 26, 27, 28, 29, 30, 31, 32, 33, 34, 35, 36, 37, 38, 39] (by decide +kernel) (by decide +kernel)) (goodIn_sub (fun _ h => List.mem_cons_of_mem _ (List.mem_append_right _ h)) (by decide +kernel))
set_option maxRecDepth 20000 in
theorem gL_mustComeBefore_X4_mustComeBefore : GoodIn wsL_mustComeBefore (wsV RL 25 RX4 yX4_mustComeBefore wsX4_mustComeBefore) := goodIn_app (goodIn_of _ (by decide +kernel)) ggL_mustComeBefore_X4_mustComeBefore
theorem dL_mustComeBefore_0 : decode cL_mustComeBefore 0 = .ok (.aload_n 3, 1) := by decide +kernel
theorem dL_mustComeBefore_1 : decode cL_mustComeBefore 1 = .ok (.iconst 0, 1) := by decide +kernel
theorem dL_mustComeBefore_2 : decode cL_mustComeBefore 2 = .ok (.aload_n 0, 1) := by decide +kernel
theorem dL_mustComeBefore_3 : decode cL_mustComeBefore 3 = .ok (.iload_n 1, 1) := by decide +kernel
theorem dL_mustComeBefore_4 : decode cL_mustComeBefore 4 = .ok (.iload_n 2, 1) := by decide +kernel
theorem dL_mustComeBefore_5 : decode cL_mustComeBefore 5 = .ok (.invokevirtual 25, 3) := by decide +kernel
theorem dL_mustComeBefore_8 : decode cL_mustComeBefore 8 = .ok (.ifCond .eq 7, 3) := by decide +kernel
theorem dL_mustComeBefore_11 : decode cL_mustComeBefore 11 = .ok (.lconst 1, 1) := by decide +kernel
theorem dL_mustComeBefore_12 : decode cL_mustComeBefore 12 = .ok (.goto 4, 3) := by decide +kernel
theorem dL_mustComeBefore_15 : decode cL_mustComeBefore 15 = .ok (.lconst 0, 1) := by decide +kernel
theorem dL_mustComeBefore_16 : decode cL_mustComeBefore 16 = .ok (.lastore, 1) := by decide +kernel
theorem dL_mustComeBefore_17 : decode cL_mustComeBefore 17 = .ok (.goto 7, 3) := by decide +kernel
theorem dL_mustComeBefore_20 : decode cL_mustComeBefore 20 = .ok (.astore 4, 2) := by decide +kernel
theorem dL_mustComeBefore_22 : decode cL_mustComeBefore 22 = .ok (.iconst 1, 1) := by decide +kernel
theorem dL_mustComeBefore_23 : decode cL_mustComeBefore 23 = .ok (.ireturn, 1) := by decide +kernel
theorem dL_mustComeBefore_24 : decode cL_mustComeBefore 24 = .ok (.iconst 0, 1) := by decide +kernel
theorem dL_mustComeBefore_25 : decode cL_mustComeBefore 25 = .ok (.ireturn, 1) := by decide +kernel
set_option maxRecDepth 20000 in
theorem ggL_lineAt_X4_lineAt : GoodIn wsL_lineAt wsX4_lineAt := goodIn_ca (goodIn_r _ [6, 7, 8, 9, 10, 11, 12, 13, 14, 15, 16, 17, 18, 19, 20, 21, 22, 23, 24, 25, 26, 27, 28, 29, 30, 31, 32, 33, 34] (by decide +kernel) (by decide +kernel)) (goodIn_sub (fun _ h => List.mem_cons_of_mem _ (List.mem_append_right _ h)) (by decide +kernel))
set_option maxRecDepth 20000 in
theorem gL_lineAt_X4_lineAt : GoodIn wsL_lineAt (wsV RL 31 RX4 yX4_lineAt wsX4_lineAt) := goodIn_app (goodIn_of _ (by decide +kernel)) ggL_lineAt_X4_lineAt
theorem dL_lineAt_0 : decode cL_lineAt 0 = .ok (.aload_n 2, 1) := by decide +kernel
theorem dL_lineAt_1 : decode cL_lineAt 1 = .ok (.iconst 0, 1) := by decide +kernel
theorem dL_lineAt_2 : decode cL_lineAt 2 = .ok (.aload_n 0, 1) := by decide +kernel
theorem dL_lineAt_3 : decode cL_lineAt 3 = .ok (.iload_n 1, 1) := by decide +kernel
theorem dL_lineAt_4 : decode cL_lineAt 4 = .ok (.invokevirtual 31, 3) := by decide +kernel
theorem dL_lineAt_7 : decode cL_lineAt 7 = .ok (.i2l, 1) := by decide +kernel
theorem dL_lineAt_8 : decode cL_lineAt 8 = .ok (.lastore, 1) := by decide +kernel
theorem dL_lineAt_9 : decode cL_lineAt 9 = .ok (.goto 6, 3) := by decide +kernel
theorem dL_lineAt_12 : decode cL_lineAt 12 = .ok (.astore_n 3, 1) := by decide +kernel
theorem dL_lineAt_13 : decode cL_lineAt 13 = .ok (.iconst 1, 1) := by decide +kernel
theorem dL_lineAt_14 : decode cL_lineAt 14 = .ok (.ireturn, 1) := by decide +kernel
theorem dL_lineAt_15 : decode cL_lineAt 15 = .ok (.iconst 0, 1) := by decide +kernel
theorem dL_lineAt_16 : decode cL_lineAt 16 = .ok (.ireturn, 1) := by decide +kernel
set_option maxRecDepth 20000 in
theorem ggL_orders_X4_orders : GoodIn wsL_orders wsX4_orders := goodIn_ca (goodIn_r _ [6, 7, 8, 9, 10, 11, 12, 13, 14, 15, 16, 17, 18, 19, 20, 21, 5, 22, 23, 24, 25, 26, 27, 28, 29, 30, 31, 32, 33, 34, 35, 36, 37, 38, 39, 40] (by decide +kernel) (by decide +kernel)) (goodIn_sub (fun _ h => List.mem_cons_of_mem _ (List.mem_append_right _ h)) (by decide +kernel))
set_option maxRecDepth 20000 in
theorem gL_orders_X4_orders : GoodIn wsL_orders (wsV RL 35 RX4 yX4_orders wsX4_orders) := goodIn_app (goodIn_of _ (by decide +kernel)) ggL_orders_X4_orders
theorem dL_orders_0 : decode cL_orders 0 = .ok (.aload_n 1, 1) := by decide +kernel
theorem dL_orders_1 : decode cL_orders 1 = .ok (.iconst 0, 1) := by decide +kernel
theorem dL_orders_2 : decode cL_orders 2 = .ok (.aload_n 0, 1) := by decide +kernel
theorem dL_orders_3 : decode cL_orders 3 = .ok (.invokevirtual 35, 3) := by decide +kernel
theorem dL_orders_6 : decode cL_orders 6 = .ok (.lastore, 1) := by decide +kernel
theorem dL_orders_7 : decode cL_orders 7 = .ok (.goto 6, 3) := by decide +kernel
theorem dL_orders_10 : decode cL_orders 10 = .ok (.astore_n 2, 1) := by decide +kernel
theorem dL_orders_11 : decode cL_orders 11 = .ok (.iconst 1, 1) := by decide +kernel
theorem dL_orders_12 : decode cL_orders 12 = .ok (.ireturn, 1) := by decide +kernel
theorem dL_orders_13 : decode cL_orders 13 = .ok (.iconst 0, 1) := by decide +kernel
theorem dL_orders_14 : decode cL_orders 14 = .ok (.ireturn, 1) := by decide +kernel
set_option maxRecDepth 20000 in
theorem ggL_argue_X4_argue : GoodIn wsL_argue wsX4_argue := goodIn_ca (goodIn_ca (goodIn_r _ [7, 8, 9, 10, 11, 12, 13, 14, 15, 16, 17, 18, 19, 20, 6, 21, 22, 23, 24, 25, 26, 27, 28, 29, 30, 31, 32, 33, 34, 35, 36, 37, 38, 39, 40] (by decide +kernel) (by decide +kernel)) (goodIn_sub (fun _ h => List.mem_cons_of_mem _ (List.mem_append_left _ (List.mem_append_right _ h))) (by decide +kernel))) (goodIn_sub (fun _ h => List.mem_cons_of_mem _ (List.mem_append_right _ h)) (by decide +kernel))
set_option maxRecDepth 20000 in
theorem gL_argue_X4_argue : GoodIn wsL_argue (wsV RL 39 RX4 yX4_argue wsX4_argue) := goodIn_app (goodIn_of _ (by decide +kernel)) ggL_argue_X4_argue
theorem dL_argue_0 : decode cL_argue 0 = .ok (.aload 4, 2) := by decide +kernel
theorem dL_argue_2 : decode cL_argue 2 = .ok (.iconst 0, 1) := by decide +kernel
theorem dL_argue_3 : decode cL_argue 3 = .ok (.aload_n 0, 1) := by decide +kernel
theorem dL_argue_4 : decode cL_argue 4 = .ok (.iload_n 1, 1) := by decide +kernel
theorem dL_argue_5 : decode cL_argue 5 = .ok (.iload_n 2, 1) := by decide +kernel
theorem dL_argue_6 : decode cL_argue 6 = .ok (.iload_n 3, 1) := by decide +kernel
theorem dL_argue_7 : decode cL_argue 7 = .ok (.invokevirtual 39, 3) := by decide +kernel
theorem dL_argue_10 : decode cL_argue 10 = .ok (.i2l, 1) := by decide +kernel
theorem dL_argue_11 : decode cL_argue 11 = .ok (.lastore, 1) := by decide +kernel
theorem dL_argue_12 : decode cL_argue 12 = .ok (.goto 11, 3) := by decide +kernel
theorem dL_argue_15 : decode cL_argue 15 = .ok (.astore 5, 2) := by decide +kernel
theorem dL_argue_17 : decode cL_argue 17 = .ok (.iconst 1, 1) := by decide +kernel
theorem dL_argue_18 : decode cL_argue 18 = .ok (.ireturn, 1) := by decide +kernel
theorem dL_argue_19 : decode cL_argue 19 = .ok (.astore 5, 2) := by decide +kernel
theorem dL_argue_21 : decode cL_argue 21 = .ok (.iconst 2, 1) := by decide +kernel
theorem dL_argue_22 : decode cL_argue 22 = .ok (.ireturn, 1) := by decide +kernel
theorem dL_argue_23 : decode cL_argue 23 = .ok (.iconst 0, 1) := by decide +kernel
theorem dL_argue_24 : decode cL_argue 24 = .ok (.ireturn, 1) := by decide +kernel
set_option maxRecDepth 20000 in
theorem ggL_isDoubtful_X4_isDoubtful : GoodIn wsL_isDoubtful wsX4_isDoubtful := goodIn_ca (goodIn_r _ [6, 7, 8, 9, 10, 11, 12, 13, 14, 15, 16, 17, 18, 19, 20, 21, 22, 23, 24, 25, 26, 27, 28, 29, 30, 31, 32, 33, 34] (by decide +kernel) (by decide +kernel)) (goodIn_sub (fun _ h => List.mem_cons_of_mem _ (List.mem_append_right _ h)) (by decide +kernel))
set_option maxRecDepth 20000 in
theorem gL_isDoubtful_X4_isDoubtful : GoodIn wsL_isDoubtful (wsV RL 43 RX4 yX4_isDoubtful wsX4_isDoubtful) := goodIn_app (goodIn_of _ (by decide +kernel)) ggL_isDoubtful_X4_isDoubtful
theorem dL_isDoubtful_0 : decode cL_isDoubtful 0 = .ok (.aload_n 2, 1) := by decide +kernel
theorem dL_isDoubtful_1 : decode cL_isDoubtful 1 = .ok (.iconst 0, 1) := by decide +kernel
theorem dL_isDoubtful_2 : decode cL_isDoubtful 2 = .ok (.aload_n 0, 1) := by decide +kernel
theorem dL_isDoubtful_3 : decode cL_isDoubtful 3 = .ok (.iload_n 1, 1) := by decide +kernel
theorem dL_isDoubtful_4 : decode cL_isDoubtful 4 = .ok (.invokevirtual 43, 3) := by decide +kernel
theorem dL_isDoubtful_7 : decode cL_isDoubtful 7 = .ok (.ifCond .eq 7, 3) := by decide +kernel
theorem dL_isDoubtful_10 : decode cL_isDoubtful 10 = .ok (.lconst 1, 1) := by decide +kernel
theorem dL_isDoubtful_11 : decode cL_isDoubtful 11 = .ok (.goto 4, 3) := by decide +kernel
theorem dL_isDoubtful_14 : decode cL_isDoubtful 14 = .ok (.lconst 0, 1) := by decide +kernel
theorem dL_isDoubtful_15 : decode cL_isDoubtful 15 = .ok (.lastore, 1) := by decide +kernel
theorem dL_isDoubtful_16 : decode cL_isDoubtful 16 = .ok (.goto 6, 3) := by decide +kernel
theorem dL_isDoubtful_19 : decode cL_isDoubtful 19 = .ok (.astore_n 3, 1) := by decide +kernel
theorem dL_isDoubtful_20 : decode cL_isDoubtful 20 = .ok (.iconst 1, 1) := by decide +kernel
theorem dL_isDoubtful_21 : decode cL_isDoubtful 21 = .ok (.ireturn, 1) := by decide +kernel
theorem dL_isDoubtful_22 : decode cL_isDoubtful 22 = .ok (.iconst 0, 1) := by decide +kernel
theorem dL_isDoubtful_23 : decode cL_isDoubtful 23 = .ok (.ireturn, 1) := by decide +kernel
set_option maxRecDepth 20000 in
theorem ggL_storyAt_X4_storyAt : GoodIn wsL_storyAt wsX4_storyAt := goodIn_ca (goodIn_r _ [6, 7, 8, 9, 10, 11, 12, 13, 14, 15, 16, 17, 18, 19, 20, 21, 22, 23, 24, 25, 26, 27, 28, 29, 30, 31, 32, 33, 34, 35, 36, 37, 38, 39, 40, 41, 42, 43] (by decide +kernel) (by decide +kernel)) (goodIn_sub (fun _ h => List.mem_cons_of_mem _ (List.mem_append_right _ h)) (by decide +kernel))
set_option maxRecDepth 20000 in
theorem gL_storyAt_X4_storyAt : GoodIn wsL_storyAt (wsV RL 47 RX4 yX4_storyAt wsX4_storyAt) := goodIn_app (goodIn_of _ (by decide +kernel)) ggL_storyAt_X4_storyAt
theorem dL_storyAt_0 : decode cL_storyAt 0 = .ok (.aload_n 2, 1) := by decide +kernel
theorem dL_storyAt_1 : decode cL_storyAt 1 = .ok (.iconst 0, 1) := by decide +kernel
theorem dL_storyAt_2 : decode cL_storyAt 2 = .ok (.aload_n 0, 1) := by decide +kernel
theorem dL_storyAt_3 : decode cL_storyAt 3 = .ok (.iload_n 1, 1) := by decide +kernel
theorem dL_storyAt_4 : decode cL_storyAt 4 = .ok (.invokevirtual 47, 3) := by decide +kernel
theorem dL_storyAt_7 : decode cL_storyAt 7 = .ok (.i2l, 1) := by decide +kernel
theorem dL_storyAt_8 : decode cL_storyAt 8 = .ok (.lastore, 1) := by decide +kernel
theorem dL_storyAt_9 : decode cL_storyAt 9 = .ok (.goto 6, 3) := by decide +kernel
theorem dL_storyAt_12 : decode cL_storyAt 12 = .ok (.astore_n 3, 1) := by decide +kernel
theorem dL_storyAt_13 : decode cL_storyAt 13 = .ok (.iconst 1, 1) := by decide +kernel
theorem dL_storyAt_14 : decode cL_storyAt 14 = .ok (.ireturn, 1) := by decide +kernel
theorem dL_storyAt_15 : decode cL_storyAt 15 = .ok (.iconst 0, 1) := by decide +kernel
theorem dL_storyAt_16 : decode cL_storyAt 16 = .ok (.ireturn, 1) := by decide +kernel
set_option maxRecDepth 20000 in
theorem ggL_earliest_X4_earliest : GoodIn wsL_earliest wsX4_earliest := goodIn_ca (goodIn_r _ [6, 7, 8, 9, 10, 11, 12, 13, 14, 15, 16, 17, 18, 19, 20, 21, 22, 23, 24, 25, 26, 27, 28, 29, 30, 31, 32, 33, 5, 34, 35, 36, 37, 38, 39, 40, 41, 42, 43, 44, 45, 46, 47, 48, 49, 50, 51] (by decide +kernel) (by decide +kernel)) (goodIn_sub (fun _ h => List.mem_cons_of_mem _ (List.mem_append_right _ h)) (by decide +kernel))
set_option maxRecDepth 20000 in
theorem gL_earliest_X4_earliest : GoodIn wsL_earliest (wsV RL 50 RX4 yX4_earliest wsX4_earliest) := goodIn_app (goodIn_of _ (by decide +kernel)) ggL_earliest_X4_earliest
theorem dL_earliest_0 : decode cL_earliest 0 = .ok (.aload_n 2, 1) := by decide +kernel
theorem dL_earliest_1 : decode cL_earliest 1 = .ok (.iconst 0, 1) := by decide +kernel
theorem dL_earliest_2 : decode cL_earliest 2 = .ok (.aload_n 0, 1) := by decide +kernel
theorem dL_earliest_3 : decode cL_earliest 3 = .ok (.iload_n 1, 1) := by decide +kernel
theorem dL_earliest_4 : decode cL_earliest 4 = .ok (.invokevirtual 50, 3) := by decide +kernel
theorem dL_earliest_7 : decode cL_earliest 7 = .ok (.i2l, 1) := by decide +kernel
theorem dL_earliest_8 : decode cL_earliest 8 = .ok (.lastore, 1) := by decide +kernel
theorem dL_earliest_9 : decode cL_earliest 9 = .ok (.goto 6, 3) := by decide +kernel
theorem dL_earliest_12 : decode cL_earliest 12 = .ok (.astore_n 3, 1) := by decide +kernel
theorem dL_earliest_13 : decode cL_earliest 13 = .ok (.iconst 1, 1) := by decide +kernel
theorem dL_earliest_14 : decode cL_earliest 14 = .ok (.ireturn, 1) := by decide +kernel
theorem dL_earliest_15 : decode cL_earliest 15 = .ok (.iconst 0, 1) := by decide +kernel
theorem dL_earliest_16 : decode cL_earliest 16 = .ok (.ireturn, 1) := by decide +kernel
set_option maxRecDepth 20000 in
theorem ggL_firstOf_X4_firstOf : GoodIn wsL_firstOf wsX4_firstOf := goodIn_ca (goodIn_r _ [6, 7, 8, 9, 10, 11, 5, 12, 13, 14, 15, 16, 17, 18, 19, 20, 21, 22, 23, 24, 25, 26, 27, 28, 29, 30, 31, 32, 33, 34, 35, 36, 37, 38, 39, 40, 41, 42, 43, 44] (by decide +kernel) (by decide +kernel)) (goodIn_sub (fun _ h => List.mem_cons_of_mem _ (List.mem_append_right _ h)) (by decide +kernel))
set_option maxRecDepth 20000 in
theorem gL_firstOf_X4_firstOf : GoodIn wsL_firstOf (wsV RL 53 RX4 yX4_firstOf wsX4_firstOf) := goodIn_app (goodIn_of _ (by decide +kernel)) ggL_firstOf_X4_firstOf
theorem dL_firstOf_0 : decode cL_firstOf 0 = .ok (.aload_n 2, 1) := by decide +kernel
theorem dL_firstOf_1 : decode cL_firstOf 1 = .ok (.iconst 0, 1) := by decide +kernel
theorem dL_firstOf_2 : decode cL_firstOf 2 = .ok (.aload_n 0, 1) := by decide +kernel
theorem dL_firstOf_3 : decode cL_firstOf 3 = .ok (.iload_n 1, 1) := by decide +kernel
theorem dL_firstOf_4 : decode cL_firstOf 4 = .ok (.invokevirtual 53, 3) := by decide +kernel
theorem dL_firstOf_7 : decode cL_firstOf 7 = .ok (.i2l, 1) := by decide +kernel
theorem dL_firstOf_8 : decode cL_firstOf 8 = .ok (.lastore, 1) := by decide +kernel
theorem dL_firstOf_9 : decode cL_firstOf 9 = .ok (.goto 6, 3) := by decide +kernel
theorem dL_firstOf_12 : decode cL_firstOf 12 = .ok (.astore_n 3, 1) := by decide +kernel
theorem dL_firstOf_13 : decode cL_firstOf 13 = .ok (.iconst 1, 1) := by decide +kernel
theorem dL_firstOf_14 : decode cL_firstOf 14 = .ok (.ireturn, 1) := by decide +kernel
theorem dL_firstOf_15 : decode cL_firstOf 15 = .ok (.iconst 0, 1) := by decide +kernel
theorem dL_firstOf_16 : decode cL_firstOf 16 = .ok (.ireturn, 1) := by decide +kernel
set_option maxRecDepth 20000 in
theorem ggL_measure_X4_measure : GoodIn wsL_measure wsX4_measure := goodIn_ca (goodIn_ca (goodIn_r _ [7, 8, 9, 10, 11, 12, 13, 14, 6, 15, 16, 17, 18, 19, 20, 21, 22, 23, 24, 25, 26, 27, 28, 29, 30, 31, 32, 33, 34, 35, 36, 37, 38, 39, 40, 41] (by decide +kernel) (by decide +kernel)) (goodIn_sub (fun _ h => List.mem_cons_of_mem _ (List.mem_append_left _ (List.mem_append_right _ h))) (by decide +kernel))) (goodIn_sub (fun _ h => List.mem_cons_of_mem _ (List.mem_append_right _ h)) (by decide +kernel))
set_option maxRecDepth 20000 in
theorem gL_measure_X4_measure : GoodIn wsL_measure (wsV RL 56 RX4 yX4_measure wsX4_measure) := goodIn_app (goodIn_of _ (by decide +kernel)) ggL_measure_X4_measure
theorem dL_measure_0 : decode cL_measure 0 = .ok (.aload 5, 2) := by decide +kernel
theorem dL_measure_2 : decode cL_measure 2 = .ok (.iconst 0, 1) := by decide +kernel
theorem dL_measure_3 : decode cL_measure 3 = .ok (.aload_n 0, 1) := by decide +kernel
theorem dL_measure_4 : decode cL_measure 4 = .ok (.iload_n 1, 1) := by decide +kernel
theorem dL_measure_5 : decode cL_measure 5 = .ok (.iload_n 2, 1) := by decide +kernel
theorem dL_measure_6 : decode cL_measure 6 = .ok (.iload_n 3, 1) := by decide +kernel
theorem dL_measure_7 : decode cL_measure 7 = .ok (.iload 4, 2) := by decide +kernel
theorem dL_measure_9 : decode cL_measure 9 = .ok (.invokevirtual 56, 3) := by decide +kernel
theorem dL_measure_12 : decode cL_measure 12 = .ok (.i2l, 1) := by decide +kernel
theorem dL_measure_13 : decode cL_measure 13 = .ok (.lastore, 1) := by decide +kernel
theorem dL_measure_14 : decode cL_measure 14 = .ok (.goto 11, 3) := by decide +kernel
theorem dL_measure_17 : decode cL_measure 17 = .ok (.astore 6, 2) := by decide +kernel
theorem dL_measure_19 : decode cL_measure 19 = .ok (.iconst 1, 1) := by decide +kernel
theorem dL_measure_20 : decode cL_measure 20 = .ok (.ireturn, 1) := by decide +kernel
theorem dL_measure_21 : decode cL_measure 21 = .ok (.astore 6, 2) := by decide +kernel
theorem dL_measure_23 : decode cL_measure 23 = .ok (.iconst 2, 1) := by decide +kernel
theorem dL_measure_24 : decode cL_measure 24 = .ok (.ireturn, 1) := by decide +kernel
theorem dL_measure_25 : decode cL_measure 25 = .ok (.iconst 0, 1) := by decide +kernel
theorem dL_measure_26 : decode cL_measure 26 = .ok (.ireturn, 1) := by decide +kernel
set_option maxRecDepth 20000 in
theorem ggL_impact_X4_impact : GoodIn wsL_impact wsX4_impact := goodIn_ca (goodIn_r _ [6, 7, 8, 9, 10, 11, 5, 12, 13, 14, 15, 16, 17, 18, 19, 20, 21, 22, 23, 24, 25, 26, 27, 28, 29, 30, 31, 32, 33, 34, 35, 36, 37, 38, 39, 40, 41, 42, 43, 44, 45, 46, 47, 48, 49] (by decide +kernel) (by decide +kernel)) (goodIn_sub (fun _ h => List.mem_cons_of_mem _ (List.mem_append_right _ h)) (by decide +kernel))
set_option maxRecDepth 20000 in
theorem gL_impact_X4_impact : GoodIn wsL_impact (wsV RL 60 RX4 yX4_impact wsX4_impact) := goodIn_app (goodIn_of _ (by decide +kernel)) ggL_impact_X4_impact
theorem dL_impact_0 : decode cL_impact 0 = .ok (.aload_n 2, 1) := by decide +kernel
theorem dL_impact_1 : decode cL_impact 1 = .ok (.iconst 0, 1) := by decide +kernel
theorem dL_impact_2 : decode cL_impact 2 = .ok (.aload_n 0, 1) := by decide +kernel
theorem dL_impact_3 : decode cL_impact 3 = .ok (.iload_n 1, 1) := by decide +kernel
theorem dL_impact_4 : decode cL_impact 4 = .ok (.invokevirtual 60, 3) := by decide +kernel
theorem dL_impact_7 : decode cL_impact 7 = .ok (.i2l, 1) := by decide +kernel
theorem dL_impact_8 : decode cL_impact 8 = .ok (.lastore, 1) := by decide +kernel
theorem dL_impact_9 : decode cL_impact 9 = .ok (.goto 6, 3) := by decide +kernel
theorem dL_impact_12 : decode cL_impact 12 = .ok (.astore_n 3, 1) := by decide +kernel
theorem dL_impact_13 : decode cL_impact 13 = .ok (.iconst 1, 1) := by decide +kernel
theorem dL_impact_14 : decode cL_impact 14 = .ok (.ireturn, 1) := by decide +kernel
theorem dL_impact_15 : decode cL_impact 15 = .ok (.iconst 0, 1) := by decide +kernel
theorem dL_impact_16 : decode cL_impact 16 = .ok (.ireturn, 1) := by decide +kernel
set_option maxRecDepth 20000 in
theorem ggL_addCause_X4_addCause : GoodIn wsL_addCause wsX4_addCause := goodIn_ca (goodIn_r _ [6, 7, 8, 9, 10, 11, 12, 13, 14, 15, 16, 17, 18, 19, 20, 21, 5, 22, 23, 24, 25, 26, 27, 28, 29] (by decide +kernel) (by decide +kernel)) (goodIn_sub (fun _ h => List.mem_cons_of_mem _ (List.mem_append_right _ h)) (by decide +kernel))
set_option maxRecDepth 20000 in
theorem gL_addCause_X4_addCause : GoodIn wsL_addCause (wsV RL 63 RX4 yX4_addCause wsX4_addCause) := goodIn_app (goodIn_of _ (by decide +kernel)) ggL_addCause_X4_addCause
theorem dL_addCause_0 : decode cL_addCause 0 = .ok (.aload_n 1, 1) := by decide +kernel
theorem dL_addCause_1 : decode cL_addCause 1 = .ok (.iconst 0, 1) := by decide +kernel
theorem dL_addCause_2 : decode cL_addCause 2 = .ok (.aload_n 0, 1) := by decide +kernel
theorem dL_addCause_3 : decode cL_addCause 3 = .ok (.invokevirtual 63, 3) := by decide +kernel
theorem dL_addCause_6 : decode cL_addCause 6 = .ok (.i2l, 1) := by decide +kernel
theorem dL_addCause_7 : decode cL_addCause 7 = .ok (.lastore, 1) := by decide +kernel
theorem dL_addCause_8 : decode cL_addCause 8 = .ok (.goto 6, 3) := by decide +kernel
theorem dL_addCause_11 : decode cL_addCause 11 = .ok (.astore_n 2, 1) := by decide +kernel
theorem dL_addCause_12 : decode cL_addCause 12 = .ok (.iconst 1, 1) := by decide +kernel
theorem dL_addCause_13 : decode cL_addCause 13 = .ok (.ireturn, 1) := by decide +kernel
theorem dL_addCause_14 : decode cL_addCause 14 = .ok (.iconst 0, 1) := by decide +kernel
theorem dL_addCause_15 : decode cL_addCause 15 = .ok (.ireturn, 1) := by decide +kernel
set_option maxRecDepth 20000 in
theorem ggL_argueReason_X4_argueReason : GoodIn wsL_argueReason wsX4_argueReason := goodIn_ca (goodIn_ca (goodIn_ca (goodIn_r _ [8, 9, 10, 11, 12, 13, 14, 15, 16, 17, 18, 19, 20, 21, 22, 23, 7, 24, 25, 26, 27, 28, 29, 30, 31, 32, 33, 34, 35, 36, 37, 38, 39, 40, 41, 42, 43, 44, 45, 46, 47, 48, 49, 50, 51, 52, 53, 54, 55, 56, 57, 58] (by decide +kernel) (by decide +kernel)) (goodIn_sub (fun _ h => List.mem_cons_of_mem _ (List.mem_append_left _ (List.mem_append_left _ (List.mem_append_right _ h)))) (by decide +kernel))) (goodIn_sub (fun _ h => List.mem_cons_of_mem _ (List.mem_append_left _ (List.mem_append_right _ h))) (by decide +kernel))) (goodIn_sub (fun _ h => List.mem_cons_of_mem _ (List.mem_append_right _ h)) (by decide +kernel))
set_option maxRecDepth 20000 in
theorem gL_argueReason_X4_argueReason : GoodIn wsL_argueReason (wsV RL 67 RX4 yX4_argueReason wsX4_argueReason) := goodIn_app (goodIn_of _ (by decide +kernel)) ggL_argueReason_X4_argueReason
theorem dL_argueReason_0 : decode cL_argueReason 0 = .ok (.aload 4, 2) := by decide +kernel
theorem dL_argueReason_2 : decode cL_argueReason 2 = .ok (.iconst 0, 1) := by decide +kernel
theorem dL_argueReason_3 : decode cL_argueReason 3 = .ok (.aload_n 0, 1) := by decide +kernel
theorem dL_argueReason_4 : decode cL_argueReason 4 = .ok (.iload_n 1, 1) := by decide +kernel
theorem dL_argueReason_5 : decode cL_argueReason 5 = .ok (.iload_n 2, 1) := by decide +kernel
theorem dL_argueReason_6 : decode cL_argueReason 6 = .ok (.iload_n 3, 1) := by decide +kernel
theorem dL_argueReason_7 : decode cL_argueReason 7 = .ok (.invokevirtual 67, 3) := by decide +kernel
theorem dL_argueReason_10 : decode cL_argueReason 10 = .ok (.i2l, 1) := by decide +kernel
theorem dL_argueReason_11 : decode cL_argueReason 11 = .ok (.lastore, 1) := by decide +kernel
theorem dL_argueReason_12 : decode cL_argueReason 12 = .ok (.goto 15, 3) := by decide +kernel
theorem dL_argueReason_15 : decode cL_argueReason 15 = .ok (.astore 5, 2) := by decide +kernel
theorem dL_argueReason_17 : decode cL_argueReason 17 = .ok (.iconst 1, 1) := by decide +kernel
theorem dL_argueReason_18 : decode cL_argueReason 18 = .ok (.ireturn, 1) := by decide +kernel
theorem dL_argueReason_19 : decode cL_argueReason 19 = .ok (.astore 5, 2) := by decide +kernel
theorem dL_argueReason_21 : decode cL_argueReason 21 = .ok (.iconst 2, 1) := by decide +kernel
theorem dL_argueReason_22 : decode cL_argueReason 22 = .ok (.ireturn, 1) := by decide +kernel
theorem dL_argueReason_23 : decode cL_argueReason 23 = .ok (.astore 5, 2) := by decide +kernel
theorem dL_argueReason_25 : decode cL_argueReason 25 = .ok (.iconst 3, 1) := by decide +kernel
theorem dL_argueReason_26 : decode cL_argueReason 26 = .ok (.ireturn, 1) := by decide +kernel
theorem dL_argueReason_27 : decode cL_argueReason 27 = .ok (.iconst 0, 1) := by decide +kernel
theorem dL_argueReason_28 : decode cL_argueReason 28 = .ok (.ireturn, 1) := by decide +kernel
set_option maxRecDepth 20000 in
theorem ggL_setStanding_X4_setStanding : GoodIn wsL_setStanding wsX4_setStanding := goodIn_ca (goodIn_r _ [6, 7, 8, 9, 10, 11, 12, 13, 14, 15, 16, 17, 18, 19, 20, 21, 5, 22, 23, 24, 25, 26, 27, 28, 29, 30, 31, 32] (by decide +kernel) (by decide +kernel)) (goodIn_sub (fun _ h => List.mem_cons_of_mem _ (List.mem_append_right _ h)) (by decide +kernel))
set_option maxRecDepth 20000 in
theorem gL_setStanding_X4_setStanding : GoodIn wsL_setStanding (wsV RL 71 RX4 yX4_setStanding wsX4_setStanding) := goodIn_app (goodIn_of _ (by decide +kernel)) ggL_setStanding_X4_setStanding
theorem dL_setStanding_0 : decode cL_setStanding 0 = .ok (.aload_n 3, 1) := by decide +kernel
theorem dL_setStanding_1 : decode cL_setStanding 1 = .ok (.iconst 0, 1) := by decide +kernel
theorem dL_setStanding_2 : decode cL_setStanding 2 = .ok (.aload_n 0, 1) := by decide +kernel
theorem dL_setStanding_3 : decode cL_setStanding 3 = .ok (.iload_n 1, 1) := by decide +kernel
theorem dL_setStanding_4 : decode cL_setStanding 4 = .ok (.iload_n 2, 1) := by decide +kernel
theorem dL_setStanding_5 : decode cL_setStanding 5 = .ok (.invokevirtual 71, 3) := by decide +kernel
theorem dL_setStanding_8 : decode cL_setStanding 8 = .ok (.ifCond .eq 7, 3) := by decide +kernel
theorem dL_setStanding_11 : decode cL_setStanding 11 = .ok (.lconst 1, 1) := by decide +kernel
theorem dL_setStanding_12 : decode cL_setStanding 12 = .ok (.goto 4, 3) := by decide +kernel
theorem dL_setStanding_15 : decode cL_setStanding 15 = .ok (.lconst 0, 1) := by decide +kernel
theorem dL_setStanding_16 : decode cL_setStanding 16 = .ok (.lastore, 1) := by decide +kernel
theorem dL_setStanding_17 : decode cL_setStanding 17 = .ok (.goto 7, 3) := by decide +kernel
theorem dL_setStanding_20 : decode cL_setStanding 20 = .ok (.astore 4, 2) := by decide +kernel
theorem dL_setStanding_22 : decode cL_setStanding 22 = .ok (.iconst 1, 1) := by decide +kernel
theorem dL_setStanding_23 : decode cL_setStanding 23 = .ok (.ireturn, 1) := by decide +kernel
theorem dL_setStanding_24 : decode cL_setStanding 24 = .ok (.iconst 0, 1) := by decide +kernel
theorem dL_setStanding_25 : decode cL_setStanding 25 = .ok (.ireturn, 1) := by decide +kernel
set_option maxRecDepth 20000 in
theorem ggL_roots_X4_roots : GoodIn wsL_roots wsX4_roots := goodIn_ca (goodIn_r _ [6, 7, 8, 9, 10, 11, 12, 13, 14, 15, 16, 17, 18, 19, 20, 21, 5, 22, 23, 24, 25, 26, 27, 28, 29, 30, 31, 32, 33, 34, 35, 36, 37, 38, 39, 40, 41, 42, 43, 44, 45, 46] (by decide +kernel) (by decide +kernel)) (goodIn_sub (fun _ h => List.mem_cons_of_mem _ (List.mem_append_right _ h)) (by decide +kernel))
set_option maxRecDepth 20000 in
theorem gL_roots_X4_roots : GoodIn wsL_roots (wsV RL 75 RX4 yX4_roots wsX4_roots) := goodIn_app (goodIn_of _ (by decide +kernel)) ggL_roots_X4_roots
theorem dL_roots_0 : decode cL_roots 0 = .ok (.aload_n 2, 1) := by decide +kernel
theorem dL_roots_1 : decode cL_roots 1 = .ok (.iconst 0, 1) := by decide +kernel
theorem dL_roots_2 : decode cL_roots 2 = .ok (.aload_n 0, 1) := by decide +kernel
theorem dL_roots_3 : decode cL_roots 3 = .ok (.iload_n 1, 1) := by decide +kernel
theorem dL_roots_4 : decode cL_roots 4 = .ok (.invokevirtual 75, 3) := by decide +kernel
theorem dL_roots_7 : decode cL_roots 7 = .ok (.i2l, 1) := by decide +kernel
theorem dL_roots_8 : decode cL_roots 8 = .ok (.lastore, 1) := by decide +kernel
theorem dL_roots_9 : decode cL_roots 9 = .ok (.goto 6, 3) := by decide +kernel
theorem dL_roots_12 : decode cL_roots 12 = .ok (.astore_n 3, 1) := by decide +kernel
theorem dL_roots_13 : decode cL_roots 13 = .ok (.iconst 1, 1) := by decide +kernel
theorem dL_roots_14 : decode cL_roots 14 = .ok (.ireturn, 1) := by decide +kernel
theorem dL_roots_15 : decode cL_roots 15 = .ok (.iconst 0, 1) := by decide +kernel
theorem dL_roots_16 : decode cL_roots 16 = .ok (.ireturn, 1) := by decide +kernel
set_option maxRecDepth 20000 in
theorem ggL_mainReason_X4_mainReason : GoodIn wsL_mainReason wsX4_mainReason := goodIn_ca (goodIn_r _ [6, 7, 8, 9, 10, 11, 12, 13, 14, 15, 16, 17, 18, 19, 20, 21, 22, 23, 24, 25, 26, 27, 5, 28, 29, 30, 31, 32, 33, 34, 35, 36, 37, 38] (by decide +kernel) (by decide +kernel)) (goodIn_sub (fun _ h => List.mem_cons_of_mem _ (List.mem_append_right _ h)) (by decide +kernel))
set_option maxRecDepth 20000 in
theorem gL_mainReason_X4_mainReason : GoodIn wsL_mainReason (wsV RL 78 RX4 yX4_mainReason wsX4_mainReason) := goodIn_app (goodIn_of _ (by decide +kernel)) ggL_mainReason_X4_mainReason
theorem dL_mainReason_0 : decode cL_mainReason 0 = .ok (.aload_n 2, 1) := by decide +kernel
theorem dL_mainReason_1 : decode cL_mainReason 1 = .ok (.iconst 0, 1) := by decide +kernel
theorem dL_mainReason_2 : decode cL_mainReason 2 = .ok (.aload_n 0, 1) := by decide +kernel
theorem dL_mainReason_3 : decode cL_mainReason 3 = .ok (.iload_n 1, 1) := by decide +kernel
theorem dL_mainReason_4 : decode cL_mainReason 4 = .ok (.invokevirtual 78, 3) := by decide +kernel
theorem dL_mainReason_7 : decode cL_mainReason 7 = .ok (.i2l, 1) := by decide +kernel
theorem dL_mainReason_8 : decode cL_mainReason 8 = .ok (.lastore, 1) := by decide +kernel
theorem dL_mainReason_9 : decode cL_mainReason 9 = .ok (.goto 6, 3) := by decide +kernel
theorem dL_mainReason_12 : decode cL_mainReason 12 = .ok (.astore_n 3, 1) := by decide +kernel
theorem dL_mainReason_13 : decode cL_mainReason 13 = .ok (.iconst 1, 1) := by decide +kernel
theorem dL_mainReason_14 : decode cL_mainReason 14 = .ok (.ireturn, 1) := by decide +kernel
theorem dL_mainReason_15 : decode cL_mainReason 15 = .ok (.iconst 0, 1) := by decide +kernel
theorem dL_mainReason_16 : decode cL_mainReason 16 = .ok (.ireturn, 1) := by decide +kernel
set_option maxRecDepth 20000 in
theorem ggL_law_X4_init : GoodIn wsL_law wsX4_init := goodIn_r _ [9, 10, 11, 12, 13, 14, 15, 16, 17, 18, 19, 20, 21, 22, 23, 24, 25, 26, 27, 28, 29, 30, 31, 32, 33, 34, 35, 36, 37, 38, 39, 40, 41, 42, 43, 44, 45, 46, 47, 6, 48, 49, 50, 51, 52, 53, 54, 55, 56, 57, 58, 59, 60, 61, 62, 63, 64, 601, 576, 577, 578, 579, 602, 603, 604, 605, 606, 607, 608, 609, 610, 611, 612, 613, 614, 615, 616, 617, 618] (by decide +kernel) (by decide +kernel)
set_option maxRecDepth 20000 in
theorem gL_law_X4_init : GoodIn wsL_law (wsX4_init) := ggL_law_X4_init
set_option maxRecDepth 20000 in
theorem ggL_law_X5_init : GoodIn wsL_law wsX5_init := goodIn_r _ [67, 68, 11, 12, 34, 69, 70, 71, 72, 73, 43, 74, 75, 76, 77, 78, 6, 79, 80, 81, 82, 83, 84, 85, 86, 580, 581, 582, 583, 584, 585, 586, 587, 588, 589, 590, 591, 592, 593, 594, 595, 596, 597, 598, 599, 600] (by decide +kernel) (by decide +kernel)
set_option maxRecDepth 20000 in
theorem gL_law_X5_init : GoodIn wsL_law (wsX5_init) := ggL_law_X5_init
set_option maxRecDepth 20000 in
theorem ggL_law_L_mark : GoodIn wsL_law wsL_mark := goodIn_ca (goodIn_ca (goodIn_r _ [90, 91, 92, 93, 94, 95, 2, 96, 97, 98, 99, 100, 16, 20, 101, 102, 103, 104, 105, 106, 107, 108, 109, 110, 111, 112, 15, 113, 114, 115, 116, 117, 36, 35, 118, 119, 120, 121, 122, 123, 124, 125, 126, 127, 128, 19, 129, 49, 46, 47, 130, 131, 132, 133, 134, 135, 136, 137, 40, 138, 41, 139, 140, 141, 142, 143, 144, 145, 146, 147, 148, 149, 150, 151, 152, 576, 577, 578, 579, 601, 602, 603, 604, 605, 606, 607, 608, 609, 610] (by decide +kernel) (by decide +kernel)) (goodIn_sub (fun _ h => List.mem_append_left _ (List.mem_append_left _ (List.mem_append_right _ h))) (by decide +kernel))) (goodIn_sub (fun _ h => List.mem_append_left _ (List.mem_append_right _ h)) (by decide +kernel))
set_option maxRecDepth 20000 in
theorem gL_law_L_mark : GoodIn wsL_law (va_wsS RL 85 yL_mark wsL_mark) := goodIn_app (goodIn_of _ (by decide +kernel)) ggL_law_L_mark
set_option maxRecDepth 20000 in
theorem ggL_law_X5_mark : GoodIn wsL_law wsX5_mark := goodIn_r _ [156, 70, 69, 86, 157, 158, 5, 159, 160, 161, 162, 163, 164, 165, 166, 167, 168, 169, 170, 171, 172, 173, 174, 580, 581, 582, 583, 584, 585, 586, 587, 588, 589, 590, 591, 592, 593, 594, 595, 596, 597, 598, 599, 600] (by decide +kernel) (by decide +kernel)
set_option maxRecDepth 20000 in
theorem gL_law_X5_mark : GoodIn wsL_law (wsV RL 90 RX5 yX5_mark wsX5_mark) := goodIn_app (goodIn_of _ (by decide +kernel)) ggL_law_X5_mark
set_option maxRecDepth 20000 in
theorem ggL_law_X5_thrown : GoodIn wsL_law wsX5_thrown := goodIn_r _ [178, 170, 580, 581, 582, 583, 584, 585, 586, 587, 588, 589, 590, 591, 592, 593, 594, 595, 596, 597, 598, 599, 600] (by decide +kernel) (by decide +kernel)
set_option maxRecDepth 20000 in
theorem gL_law_X5_thrown : GoodIn wsL_law (wsV RL 91 RX5 yX5_thrown wsX5_thrown) := goodIn_app (goodIn_of _ (by decide +kernel)) ggL_law_X5_thrown
set_option maxRecDepth 20000 in
theorem ggL_law_L_greatest : GoodIn wsL_law wsL_greatest := goodIn_ca (goodIn_r _ [181, 91, 182, 183, 184, 2, 185, 97, 98, 16, 101, 102, 103, 104, 105, 106, 186, 115, 116, 15, 117, 36, 35, 576, 577, 578, 579, 601] (by decide +kernel) (by decide +kernel)) (goodIn_sub (fun _ h => List.mem_append_left _ (List.mem_append_left _ (List.mem_append_right _ h))) (by decide +kernel))
set_option maxRecDepth 20000 in
theorem gL_law_L_greatest : GoodIn wsL_law (va_wsS RL 94 yL_greatest wsL_greatest) := goodIn_app (goodIn_of _ (by decide +kernel)) ggL_law_L_greatest
set_option maxRecDepth 20000 in
theorem ggL_law_X5_greatest : GoodIn wsL_law wsX5_greatest := goodIn_r _ [190, 69, 157, 158, 5, 159, 160, 161, 162, 166, 167, 168, 169, 170, 580, 581, 582, 583, 584, 585, 586, 587, 588, 589, 590, 591, 592, 593, 594, 595, 596, 597, 598, 599, 600] (by decide +kernel) (by decide +kernel)
set_option maxRecDepth 20000 in
theorem gL_law_X5_greatest : GoodIn wsL_law (wsV RL 97 RX5 yX5_greatest wsX5_greatest) := goodIn_app (goodIn_of _ (by decide +kernel)) ggL_law_X5_greatest
set_option maxRecDepth 20000 in
theorem ggL_law_L_write : GoodIn wsL_law wsL_write := goodIn_ca (goodIn_ca (goodIn_r _ [193, 91, 92, 194, 195, 196, 2, 197, 97, 98, 99, 100, 20, 16, 101, 102, 103, 104, 105, 106, 107, 108, 109, 198, 199, 200, 201, 202, 203, 19, 204, 49, 205, 206, 207, 208, 40, 41, 42, 44, 126, 127, 128, 129, 46, 47, 130, 131, 132, 133, 134, 135, 136, 137, 138, 139, 140, 141, 142, 143, 115, 116, 15, 117, 36, 35, 144, 145, 146, 147, 148, 149, 150, 151, 152, 576, 577, 578, 579, 602, 603, 604, 605, 606, 607, 608, 609, 610, 601] (by decide +kernel) (by decide +kernel)) (goodIn_sub (fun _ h => List.mem_append_left _ (List.mem_append_left _ (List.mem_append_right _ h))) (by decide +kernel))) (goodIn_sub (fun _ h => List.mem_append_left _ (List.mem_append_right _ h)) (by decide +kernel))
set_option maxRecDepth 20000 in
theorem gL_law_L_write : GoodIn wsL_law (va_wsS RL 98 yL_write wsL_write) := goodIn_app (goodIn_of _ (by decide +kernel)) ggL_law_L_write
set_option maxRecDepth 20000 in
theorem ggL_law_X5_write : GoodIn wsL_law wsX5_write := goodIn_r _ [212, 213, 71, 72, 73, 74, 157, 158, 5, 159, 160, 161, 162, 163, 164, 165, 214, 215, 216, 166, 167, 168, 169, 170, 580, 581, 582, 583, 584, 585, 586, 587, 588, 589, 590, 591, 592, 593, 594, 595, 596, 597, 598, 599, 600] (by decide +kernel) (by decide +kernel)
set_option maxRecDepth 20000 in
theorem gL_law_X5_write : GoodIn wsL_law (wsV RL 101 RX5 yX5_write wsX5_write) := goodIn_app (goodIn_of _ (by decide +kernel)) ggL_law_X5_write
set_option maxRecDepth 20000 in
theorem ggL_law_X4_lines : GoodIn wsL_law wsX4_lines := goodIn_r _ [220, 20, 201, 202, 203, 19, 204, 49, 576, 577, 578, 579, 602, 603, 604, 605, 606, 607, 608, 609, 610] (by decide +kernel) (by decide +kernel)
set_option maxRecDepth 20000 in
theorem gL_law_X4_lines : GoodIn wsL_law (wsV RL 102 RX4 yX4_lines wsX4_lines) := goodIn_app (goodIn_of _ (by decide +kernel)) ggL_law_X4_lines
set_option maxRecDepth 20000 in
theorem ggL_law_X5_lines : GoodIn wsL_law wsX5_lines := goodIn_r _ [224, 170, 213, 580, 581, 582, 583, 584, 585, 586, 587, 588, 589, 590, 591, 592, 593, 594, 595, 596, 597, 598, 599, 600] (by decide +kernel) (by decide +kernel)
set_option maxRecDepth 20000 in
theorem gL_law_X5_lines : GoodIn wsL_law (wsV RL 105 RX5 yX5_lines wsX5_lines) := goodIn_app (goodIn_of _ (by decide +kernel)) ggL_law_X5_lines
set_option maxRecDepth 20000 in
theorem ggL_law_L_mustComeBefore : GoodIn wsL_law wsL_mustComeBefore := goodIn_ca (goodIn_r _ [227, 228, 229, 230, 231, 2, 232, 233, 234, 20, 235, 140, 141, 19, 142, 49, 236, 237, 238, 239, 46, 139, 150, 151, 152, 144, 145, 576, 577, 578, 579, 602, 603, 604, 605, 606, 607, 608, 609, 610] (by decide +kernel) (by decide +kernel)) (goodIn_sub (fun _ h => List.mem_append_right _ h) (by decide +kernel))
set_option maxRecDepth 20000 in
theorem gL_law_L_mustComeBefore : GoodIn wsL_law (va_wsS RL 106 yL_mustComeBefore wsL_mustComeBefore) := goodIn_app (goodIn_of _ (by decide +kernel)) ggL_law_L_mustComeBefore
set_option maxRecDepth 20000 in
theorem ggL_law_X5_mustComeBefore : GoodIn wsL_law wsX5_mustComeBefore := goodIn_r _ [243, 244, 245, 246, 5, 247, 213, 160, 161, 162, 166, 167, 168, 169, 170, 248, 249, 250, 251, 69, 71, 86, 72, 580, 581, 582, 583, 584, 585, 586, 587, 588, 589, 590, 591, 592, 593, 594, 595, 596, 597, 598, 599, 600] (by decide +kernel) (by decide +kernel)
set_option maxRecDepth 20000 in
theorem gL_law_X5_mustComeBefore : GoodIn wsL_law (wsV RL 108 RX5 yX5_mustComeBefore wsX5_mustComeBefore) := goodIn_app (goodIn_of _ (by decide +kernel)) ggL_law_X5_mustComeBefore
set_option maxRecDepth 20000 in
theorem ggL_law_L_lineAt : GoodIn wsL_law wsL_lineAt := goodIn_ca (goodIn_r _ [254, 228, 255, 256, 257, 2, 258, 233, 234, 20, 235, 140, 141, 19, 142, 49, 259, 260, 261, 262, 47, 139, 576, 577, 578, 579, 602, 603, 604, 605, 606, 607, 608, 609, 610] (by decide +kernel) (by decide +kernel)) (goodIn_sub (fun _ h => List.mem_append_right _ h) (by decide +kernel))
set_option maxRecDepth 20000 in
theorem gL_law_L_lineAt : GoodIn wsL_law (va_wsS RL 109 yL_lineAt wsL_lineAt) := goodIn_app (goodIn_of _ (by decide +kernel)) ggL_law_L_lineAt
set_option maxRecDepth 20000 in
theorem ggL_law_X5_lineAt : GoodIn wsL_law wsX5_lineAt := goodIn_r _ [266, 213, 77, 267, 268, 269, 5, 270, 248, 249, 250, 251, 69, 71, 86, 72, 160, 161, 162, 166, 167, 168, 169, 170, 580, 581, 582, 583, 584, 585, 586, 587, 588, 589, 590, 591, 592, 593, 594, 595, 596, 597, 598, 599, 600] (by decide +kernel) (by decide +kernel)
set_option maxRecDepth 20000 in
theorem gL_law_X5_lineAt : GoodIn wsL_law (wsV RL 112 RX5 yX5_lineAt wsX5_lineAt) := goodIn_app (goodIn_of _ (by decide +kernel)) ggL_law_X5_lineAt
set_option maxRecDepth 20000 in
theorem ggL_law_L_orders : GoodIn wsL_law wsL_orders := goodIn_ca (goodIn_r _ [273, 92, 274, 275, 276, 2, 277, 99, 100, 20, 201, 202, 203, 19, 204, 49, 278, 279, 280, 281, 48, 144, 145, 282, 283, 284, 285, 46, 576, 577, 578, 579, 602, 603, 604, 605, 606, 607, 608, 609, 610] (by decide +kernel) (by decide +kernel)) (goodIn_sub (fun _ h => List.mem_append_left _ (List.mem_append_right _ h)) (by decide +kernel))
set_option maxRecDepth 20000 in
theorem gL_law_L_orders : GoodIn wsL_law (va_wsS RL 113 yL_orders wsL_orders) := goodIn_app (goodIn_of _ (by decide +kernel)) ggL_law_L_orders
set_option maxRecDepth 20000 in
theorem ggL_law_X5_orders : GoodIn wsL_law wsX5_orders := goodIn_r _ [289, 213, 78, 79, 166, 167, 168, 5, 169, 170, 248, 249, 250, 251, 69, 71, 86, 72, 580, 581, 582, 583, 584, 585, 586, 587, 588, 589, 590, 591, 592, 593, 594, 595, 596, 597, 598, 599, 600] (by decide +kernel) (by decide +kernel)
set_option maxRecDepth 20000 in
theorem gL_law_X5_orders : GoodIn wsL_law (wsV RL 116 RX5 yX5_orders wsX5_orders) := goodIn_app (goodIn_of _ (by decide +kernel)) ggL_law_X5_orders
set_option maxRecDepth 20000 in
theorem ggL_law_L_argue : GoodIn wsL_law wsL_argue := goodIn_ca (goodIn_ca (goodIn_r _ [292, 228, 91, 293, 294, 295, 2, 296, 233, 234, 97, 98, 20, 235, 140, 141, 19, 142, 49, 104, 105, 106, 297, 298, 299, 300, 45, 139, 576, 577, 578, 579, 602, 603, 604, 605, 606, 607, 608, 609, 610] (by decide +kernel) (by decide +kernel)) (goodIn_sub (fun _ h => List.mem_append_right _ h) (by decide +kernel))) (goodIn_sub (fun _ h => List.mem_append_left _ (List.mem_append_left _ (List.mem_append_right _ h))) (by decide +kernel))
set_option maxRecDepth 20000 in
theorem gL_law_L_argue : GoodIn wsL_law (va_wsS RL 117 yL_argue wsL_argue) := goodIn_app (goodIn_of _ (by decide +kernel)) ggL_law_L_argue
set_option maxRecDepth 20000 in
theorem ggL_law_X5_argue : GoodIn wsL_law wsX5_argue := goodIn_r _ [304, 75, 76, 244, 245, 246, 5, 247, 213, 160, 161, 162, 166, 167, 168, 169, 170, 580, 581, 582, 583, 584, 585, 586, 587, 588, 589, 590, 591, 592, 593, 594, 595, 596, 597, 598, 599, 600] (by decide +kernel) (by decide +kernel)
set_option maxRecDepth 20000 in
theorem gL_law_X5_argue : GoodIn wsL_law (wsV RL 120 RX5 yX5_argue wsX5_argue) := goodIn_app (goodIn_of _ (by decide +kernel)) ggL_law_X5_argue
set_option maxRecDepth 20000 in
theorem ggL_law_L_isDoubtful : GoodIn wsL_law wsL_isDoubtful := goodIn_ca (goodIn_r _ [307, 228, 308, 309, 310, 2, 311, 233, 234, 20, 235, 140, 141, 19, 142, 49, 312, 313, 314, 315, 45, 139, 576, 577, 578, 579, 602, 603, 604, 605, 606, 607, 608, 609, 610] (by decide +kernel) (by decide +kernel)) (goodIn_sub (fun _ h => List.mem_append_right _ h) (by decide +kernel))
set_option maxRecDepth 20000 in
theorem gL_law_L_isDoubtful : GoodIn wsL_law (va_wsS RL 121 yL_isDoubtful wsL_isDoubtful) := goodIn_app (goodIn_of _ (by decide +kernel)) ggL_law_L_isDoubtful
set_option maxRecDepth 20000 in
theorem ggL_law_X5_isDoubtful : GoodIn wsL_law wsX5_isDoubtful := goodIn_r _ [319, 244, 245, 246, 5, 247, 213, 160, 161, 162, 166, 167, 168, 169, 170, 320, 321, 322, 323, 76, 75, 580, 581, 582, 583, 584, 585, 586, 587, 588, 589, 590, 591, 592, 593, 594, 595, 596, 597, 598, 599, 600] (by decide +kernel) (by decide +kernel)
set_option maxRecDepth 20000 in
theorem gL_law_X5_isDoubtful : GoodIn wsL_law (wsV RL 123 RX5 yX5_isDoubtful wsX5_isDoubtful) := goodIn_app (goodIn_of _ (by decide +kernel)) ggL_law_X5_isDoubtful
set_option maxRecDepth 20000 in
theorem ggL_law_X4_story : GoodIn wsL_law wsX4_story := goodIn_r _ [327, 20, 328, 329, 330, 19, 331, 49, 332, 260, 261, 262, 47, 139, 140, 141, 142, 333, 334, 335, 336, 44, 45, 576, 577, 578, 579, 602, 603, 604, 605, 606, 607, 608, 609, 610] (by decide +kernel) (by decide +kernel)
set_option maxRecDepth 20000 in
theorem gL_law_X4_story : GoodIn wsL_law (wsV RL 124 RX4 yX4_story wsX4_story) := goodIn_app (goodIn_of _ (by decide +kernel)) ggL_law_X4_story
set_option maxRecDepth 20000 in
theorem ggL_law_X5_story : GoodIn wsL_law wsX5_story := goodIn_r _ [340, 170, 341, 342, 343, 5, 344, 213, 345, 346, 347, 348, 74, 320, 321, 322, 323, 76, 75, 580, 581, 582, 583, 584, 585, 586, 587, 588, 589, 590, 591, 592, 593, 594, 595, 596, 597, 598, 599, 600] (by decide +kernel) (by decide +kernel)
set_option maxRecDepth 20000 in
theorem gL_law_X5_story : GoodIn wsL_law (wsV RL 127 RX5 yX5_story wsX5_story) := goodIn_app (goodIn_of _ (by decide +kernel)) ggL_law_X5_story
set_option maxRecDepth 20000 in
theorem ggL_law_L_storyAt : GoodIn wsL_law wsL_storyAt := goodIn_ca (goodIn_r _ [351, 228, 352, 353, 354, 2, 355, 233, 234, 20, 356, 357, 358, 19, 359, 49, 332, 260, 261, 262, 47, 139, 140, 141, 142, 333, 334, 335, 336, 44, 45, 576, 577, 578, 579, 602, 603, 604, 605, 606, 607, 608, 609, 610] (by decide +kernel) (by decide +kernel)) (goodIn_sub (fun _ h => List.mem_append_right _ h) (by decide +kernel))
set_option maxRecDepth 20000 in
theorem gL_law_L_storyAt : GoodIn wsL_law (va_wsS RL 128 yL_storyAt wsL_storyAt) := goodIn_app (goodIn_of _ (by decide +kernel)) ggL_law_L_storyAt
set_option maxRecDepth 20000 in
theorem ggL_law_X5_storyAt : GoodIn wsL_law wsX5_storyAt := goodIn_r _ [363, 213, 77, 341, 342, 343, 5, 344, 345, 346, 347, 348, 74, 320, 321, 322, 323, 76, 75, 160, 161, 162, 166, 167, 168, 169, 170, 267, 268, 269, 270, 248, 249, 250, 251, 69, 71, 86, 72, 580, 581, 582, 583, 584, 585, 586, 587, 588, 589, 590, 591, 592, 593, 594, 595, 596, 597, 598, 599, 600] (by decide +kernel) (by decide +kernel)
set_option maxRecDepth 20000 in
theorem gL_law_X5_storyAt : GoodIn wsL_law (wsV RL 130 RX5 yX5_storyAt wsX5_storyAt) := goodIn_app (goodIn_of _ (by decide +kernel)) ggL_law_X5_storyAt
set_option maxRecDepth 20000 in
theorem ggL_law_L_earliest : GoodIn wsL_law wsL_earliest := goodIn_ca (goodIn_r _ [366, 228, 367, 368, 369, 2, 370, 233, 234, 20, 16, 235, 140, 141, 19, 142, 49, 371, 372, 373, 374, 375, 40, 138, 41, 139, 143, 115, 116, 15, 117, 36, 35, 102, 103, 104, 105, 106, 576, 577, 578, 579, 602, 603, 604, 605, 606, 607, 608, 609, 610, 601] (by decide +kernel) (by decide +kernel)) (goodIn_sub (fun _ h => List.mem_append_right _ h) (by decide +kernel))
set_option maxRecDepth 20000 in
theorem gL_law_L_earliest : GoodIn wsL_law (va_wsS RL 131 yL_earliest wsL_earliest) := goodIn_app (goodIn_of _ (by decide +kernel)) ggL_law_L_earliest
set_option maxRecDepth 20000 in
theorem ggL_law_X5_earliest : GoodIn wsL_law wsX5_earliest := goodIn_r _ [379, 69, 71, 86, 380, 72, 244, 245, 246, 5, 247, 213, 160, 161, 162, 166, 167, 168, 169, 170, 580, 581, 582, 583, 584, 585, 586, 587, 588, 589, 590, 591, 592, 593, 594, 595, 596, 597, 598, 599, 600] (by decide +kernel) (by decide +kernel)
set_option maxRecDepth 20000 in
theorem gL_law_X5_earliest : GoodIn wsL_law (wsV RL 133 RX5 yX5_earliest wsX5_earliest) := goodIn_app (goodIn_of _ (by decide +kernel)) ggL_law_X5_earliest
set_option maxRecDepth 20000 in
theorem ggL_law_L_firstOf : GoodIn wsL_law wsL_firstOf := goodIn_ca (goodIn_r _ [383, 91, 384, 385, 386, 2, 387, 97, 98, 20, 198, 199, 200, 104, 105, 106, 388, 389, 390, 19, 391, 49, 42, 332, 260, 261, 262, 47, 139, 140, 141, 142, 576, 577, 578, 579, 602, 603, 604, 605, 606, 607, 608, 609, 610] (by decide +kernel) (by decide +kernel)) (goodIn_sub (fun _ h => List.mem_append_left _ (List.mem_append_left _ (List.mem_append_right _ h))) (by decide +kernel))
set_option maxRecDepth 20000 in
theorem gL_law_L_firstOf : GoodIn wsL_law (va_wsS RL 134 yL_firstOf wsL_firstOf) := goodIn_app (goodIn_of _ (by decide +kernel)) ggL_law_L_firstOf
set_option maxRecDepth 20000 in
theorem ggL_law_X5_firstOf : GoodIn wsL_law wsX5_firstOf := goodIn_r _ [395, 213, 73, 77, 214, 215, 5, 216, 160, 161, 162, 166, 167, 168, 169, 170, 267, 268, 269, 270, 248, 249, 250, 251, 69, 71, 86, 72, 580, 581, 582, 583, 584, 585, 586, 587, 588, 589, 590, 591, 592, 593, 594, 595, 596, 597, 598, 599, 600] (by decide +kernel) (by decide +kernel)
set_option maxRecDepth 20000 in
theorem gL_law_X5_firstOf : GoodIn wsL_law (wsV RL 136 RX5 yX5_firstOf wsX5_firstOf) := goodIn_app (goodIn_of _ (by decide +kernel)) ggL_law_X5_firstOf
set_option maxRecDepth 20000 in
theorem ggL_law_L_measure : GoodIn wsL_law wsL_measure := goodIn_ca (goodIn_ca (goodIn_r _ [398, 91, 92, 399, 400, 401, 2, 402, 97, 98, 99, 100, 24, 198, 199, 200, 104, 105, 106, 403, 404, 405, 23, 406, 57, 407, 408, 409, 410, 53, 54, 55, 56, 576, 577, 578, 579, 611, 612, 613, 614, 615] (by decide +kernel) (by decide +kernel)) (goodIn_sub (fun _ h => List.mem_append_left _ (List.mem_append_left _ (List.mem_append_right _ h))) (by decide +kernel))) (goodIn_sub (fun _ h => List.mem_append_left _ (List.mem_append_right _ h)) (by decide +kernel))
set_option maxRecDepth 20000 in
theorem gL_law_L_measure : GoodIn wsL_law (va_wsS RL 137 yL_measure wsL_measure) := goodIn_app (goodIn_of _ (by decide +kernel)) ggL_law_L_measure
set_option maxRecDepth 20000 in
theorem ggL_law_X5_measure : GoodIn wsL_law wsX5_measure := goodIn_r _ [414, 415, 80, 81, 82, 83, 214, 215, 5, 216, 160, 161, 162, 163, 164, 165, 166, 167, 168, 169, 170, 580, 581, 582, 583, 584, 585, 586, 587, 588, 589, 590, 591, 592, 593, 594, 595, 596, 597, 598, 599, 600] (by decide +kernel) (by decide +kernel)
set_option maxRecDepth 20000 in
theorem gL_law_X5_measure : GoodIn wsL_law (wsV RL 140 RX5 yX5_measure wsX5_measure) := goodIn_app (goodIn_of _ (by decide +kernel)) ggL_law_X5_measure
set_option maxRecDepth 20000 in
theorem ggL_law_L_impact : GoodIn wsL_law wsL_impact := goodIn_ca (goodIn_r _ [418, 91, 419, 420, 421, 2, 422, 97, 98, 24, 198, 199, 200, 104, 105, 106, 423, 424, 425, 23, 426, 57, 427, 428, 429, 430, 55, 54, 431, 123, 124, 125, 432, 433, 434, 435, 53, 56, 436, 437, 438, 576, 577, 578, 579, 611, 612, 613, 614, 615] (by decide +kernel) (by decide +kernel)) (goodIn_sub (fun _ h => List.mem_append_left _ (List.mem_append_left _ (List.mem_append_right _ h))) (by decide +kernel))
set_option maxRecDepth 20000 in
theorem gL_law_L_impact : GoodIn wsL_law (va_wsS RL 141 yL_impact wsL_impact) := goodIn_app (goodIn_of _ (by decide +kernel)) ggL_law_L_impact
set_option maxRecDepth 20000 in
theorem ggL_law_X5_impact : GoodIn wsL_law wsX5_impact := goodIn_r _ [442, 214, 215, 5, 216, 160, 161, 162, 166, 167, 168, 169, 170, 443, 444, 445, 446, 415, 80, 81, 82, 83, 447, 448, 449, 450, 580, 581, 582, 583, 584, 585, 586, 587, 588, 589, 590, 591, 592, 593, 594, 595, 596, 597, 598, 599, 600] (by decide +kernel) (by decide +kernel)
set_option maxRecDepth 20000 in
theorem gL_law_X5_impact : GoodIn wsL_law (wsV RL 143 RX5 yX5_impact wsX5_impact) := goodIn_app (goodIn_of _ (by decide +kernel)) ggL_law_X5_impact
set_option maxRecDepth 20000 in
theorem ggL_law_X4_minutes : GoodIn wsL_law wsX4_minutes := goodIn_r _ [454, 24, 455, 456, 457, 23, 458, 57, 427, 428, 429, 430, 55, 54, 431, 123, 124, 125, 432, 433, 434, 435, 53, 56, 436, 437, 438, 105, 2, 106, 576, 577, 578, 579, 611, 612, 613, 614, 615] (by decide +kernel) (by decide +kernel)
set_option maxRecDepth 20000 in
theorem gL_law_X4_minutes : GoodIn wsL_law (wsV RL 144 RX4 yX4_minutes wsX4_minutes) := goodIn_app (goodIn_of _ (by decide +kernel)) ggL_law_X4_minutes
set_option maxRecDepth 20000 in
theorem ggL_law_X5_minutes : GoodIn wsL_law wsX5_minutes := goodIn_r _ [462, 170, 443, 444, 445, 5, 446, 415, 80, 81, 82, 83, 160, 161, 162, 447, 448, 449, 450, 580, 581, 582, 583, 584, 585, 586, 587, 588, 589, 590, 591, 592, 593, 594, 595, 596, 597, 598, 599, 600] (by decide +kernel) (by decide +kernel)
set_option maxRecDepth 20000 in
theorem gL_law_X5_minutes : GoodIn wsL_law (wsV RL 147 RX5 yX5_minutes wsX5_minutes) := goodIn_app (goodIn_of _ (by decide +kernel)) ggL_law_X5_minutes
set_option maxRecDepth 20000 in
theorem ggL_law_L_addCause : GoodIn wsL_law wsL_addCause := goodIn_ca (goodIn_r _ [465, 92, 466, 467, 468, 2, 469, 99, 100, 28, 470, 471, 472, 27, 473, 64, 474, 475, 476, 477, 63, 144, 145, 576, 577, 578, 579, 616, 617, 618] (by decide +kernel) (by decide +kernel)) (goodIn_sub (fun _ h => List.mem_append_left _ (List.mem_append_right _ h)) (by decide +kernel))
set_option maxRecDepth 20000 in
theorem gL_law_L_addCause : GoodIn wsL_law (va_wsS RL 148 yL_addCause wsL_addCause) := goodIn_app (goodIn_of _ (by decide +kernel)) ggL_law_L_addCause
set_option maxRecDepth 20000 in
theorem ggL_law_X5_addCause : GoodIn wsL_law wsX5_addCause := goodIn_r _ [481, 482, 84, 166, 167, 168, 5, 169, 170, 580, 581, 582, 583, 584, 585, 586, 587, 588, 589, 590, 591, 592, 593, 594, 595, 596, 597, 598, 599, 600] (by decide +kernel) (by decide +kernel)
set_option maxRecDepth 20000 in
theorem gL_law_X5_addCause : GoodIn wsL_law (wsV RL 150 RX5 yX5_addCause wsX5_addCause) := goodIn_app (goodIn_of _ (by decide +kernel)) ggL_law_X5_addCause
set_option maxRecDepth 20000 in
theorem ggL_law_L_argueReason : GoodIn wsL_law wsL_argueReason := goodIn_ca (goodIn_ca (goodIn_ca (goodIn_r _ [485, 228, 91, 92, 486, 487, 488, 2, 489, 233, 234, 97, 98, 99, 100, 28, 490, 491, 492, 27, 493, 64, 104, 105, 106, 494, 495, 496, 497, 144, 145, 498, 499, 500, 501, 150, 151, 152, 502, 503, 504, 505, 506, 507, 508, 509, 62, 510, 511, 512, 513, 514, 576, 577, 578, 579, 616, 617, 618] (by decide +kernel) (by decide +kernel)) (goodIn_sub (fun _ h => List.mem_append_right _ h) (by decide +kernel))) (goodIn_sub (fun _ h => List.mem_append_left _ (List.mem_append_left _ (List.mem_append_right _ h))) (by decide +kernel))) (goodIn_sub (fun _ h => List.mem_append_left _ (List.mem_append_right _ h)) (by decide +kernel))
set_option maxRecDepth 20000 in
theorem gL_law_L_argueReason : GoodIn wsL_law (va_wsS RL 151 yL_argueReason wsL_argueReason) := goodIn_app (goodIn_of _ (by decide +kernel)) ggL_law_L_argueReason
set_option maxRecDepth 20000 in
theorem ggL_law_X5_argueReason : GoodIn wsL_law wsX5_argueReason := goodIn_r _ [518, 85, 519, 520, 521, 5, 522, 482, 160, 161, 162, 166, 167, 168, 169, 170, 523, 524, 525, 526, 84, 580, 581, 582, 583, 584, 585, 586, 587, 588, 589, 590, 591, 592, 593, 594, 595, 596, 597, 598, 599, 600] (by decide +kernel) (by decide +kernel)
set_option maxRecDepth 20000 in
theorem gL_law_X5_argueReason : GoodIn wsL_law (wsV RL 154 RX5 yX5_argueReason wsX5_argueReason) := goodIn_app (goodIn_of _ (by decide +kernel)) ggL_law_X5_argueReason
set_option maxRecDepth 20000 in
theorem ggL_law_L_setStanding : GoodIn wsL_law wsL_setStanding := goodIn_ca (goodIn_r _ [529, 228, 530, 531, 532, 2, 533, 233, 234, 28, 490, 491, 492, 27, 493, 64, 534, 535, 536, 537, 63, 150, 151, 152, 144, 145, 576, 577, 578, 579, 616, 617, 618] (by decide +kernel) (by decide +kernel)) (goodIn_sub (fun _ h => List.mem_append_right _ h) (by decide +kernel))
set_option maxRecDepth 20000 in
theorem gL_law_L_setStanding : GoodIn wsL_law (va_wsS RL 155 yL_setStanding wsL_setStanding) := goodIn_app (goodIn_of _ (by decide +kernel)) ggL_law_L_setStanding
set_option maxRecDepth 20000 in
theorem ggL_law_X5_setStanding : GoodIn wsL_law wsX5_setStanding := goodIn_r _ [541, 84, 519, 520, 521, 5, 522, 482, 160, 161, 162, 166, 167, 168, 169, 170, 580, 581, 582, 583, 584, 585, 586, 587, 588, 589, 590, 591, 592, 593, 594, 595, 596, 597, 598, 599, 600] (by decide +kernel) (by decide +kernel)
set_option maxRecDepth 20000 in
theorem gL_law_X5_setStanding : GoodIn wsL_law (wsV RL 158 RX5 yX5_setStanding wsX5_setStanding) := goodIn_app (goodIn_of _ (by decide +kernel)) ggL_law_X5_setStanding
set_option maxRecDepth 20000 in
theorem ggL_law_L_roots : GoodIn wsL_law wsL_roots := goodIn_ca (goodIn_r _ [544, 228, 545, 546, 547, 2, 548, 233, 234, 28, 490, 491, 492, 27, 493, 64, 549, 550, 551, 552, 63, 150, 151, 152, 144, 145, 498, 499, 500, 501, 502, 503, 504, 505, 506, 507, 508, 509, 62, 510, 576, 577, 578, 579, 616, 617, 618] (by decide +kernel) (by decide +kernel)) (goodIn_sub (fun _ h => List.mem_append_right _ h) (by decide +kernel))
set_option maxRecDepth 20000 in
theorem gL_law_L_roots : GoodIn wsL_law (va_wsS RL 159 yL_roots wsL_roots) := goodIn_app (goodIn_of _ (by decide +kernel)) ggL_law_L_roots
set_option maxRecDepth 20000 in
theorem ggL_law_X5_roots : GoodIn wsL_law wsX5_roots := goodIn_r _ [556, 84, 482, 519, 520, 521, 5, 522, 160, 161, 162, 166, 167, 168, 169, 170, 523, 524, 525, 526, 85, 557, 558, 559, 560, 580, 581, 582, 583, 584, 585, 586, 587, 588, 589, 590, 591, 592, 593, 594, 595, 596, 597, 598, 599, 600] (by decide +kernel) (by decide +kernel)
set_option maxRecDepth 20000 in
theorem gL_law_X5_roots : GoodIn wsL_law (wsV RL 161 RX5 yX5_roots wsX5_roots) := goodIn_app (goodIn_of _ (by decide +kernel)) ggL_law_X5_roots
set_option maxRecDepth 20000 in
theorem ggL_law_L_mainReason : GoodIn wsL_law wsL_mainReason := goodIn_ca (goodIn_r _ [563, 228, 564, 565, 566, 2, 567, 233, 234, 28, 490, 491, 492, 27, 493, 64, 568, 569, 570, 571, 63, 506, 507, 508, 509, 62, 510, 150, 151, 152, 144, 145, 576, 577, 578, 579, 616, 617, 618] (by decide +kernel) (by decide +kernel)) (goodIn_sub (fun _ h => List.mem_append_right _ h) (by decide +kernel))
set_option maxRecDepth 20000 in
theorem gL_law_L_mainReason : GoodIn wsL_law (va_wsS RL 162 yL_mainReason wsL_mainReason) := goodIn_app (goodIn_of _ (by decide +kernel)) ggL_law_L_mainReason
set_option maxRecDepth 20000 in
theorem ggL_law_X5_mainReason : GoodIn wsL_law wsX5_mainReason := goodIn_r _ [575, 519, 520, 521, 5, 522, 482, 160, 161, 162, 166, 167, 168, 169, 170, 557, 558, 559, 560, 84, 85, 580, 581, 582, 583, 584, 585, 586, 587, 588, 589, 590, 591, 592, 593, 594, 595, 596, 597, 598, 599, 600] (by decide +kernel) (by decide +kernel)
set_option maxRecDepth 20000 in
theorem gL_law_X5_mainReason : GoodIn wsL_law (wsV RL 164 RX5 yX5_mainReason wsX5_mainReason) := goodIn_app (goodIn_of _ (by decide +kernel)) ggL_law_X5_mainReason
theorem dL_law_0 : decode cL_law 0 = .ok (.new 8, 3) := by decide +kernel
theorem dL_law_3 : decode cL_law 3 = .ok (.dup, 1) := by decide +kernel
theorem dL_law_4 : decode cL_law 4 = .ok (.invokespecial 81, 3) := by decide +kernel
theorem dL_law_7 : decode cL_law 7 = .ok (.astore_n 1, 1) := by decide +kernel
theorem dL_law_8 : decode cL_law 8 = .ok (.new 82, 3) := by decide +kernel
theorem dL_law_11 : decode cL_law 11 = .ok (.dup, 1) := by decide +kernel
theorem dL_law_12 : decode cL_law 12 = .ok (.invokespecial 84, 3) := by decide +kernel
theorem dL_law_15 : decode cL_law 15 = .ok (.astore_n 2, 1) := by decide +kernel
theorem dL_law_16 : decode cL_law 16 = .ok (.iconst 1, 1) := by decide +kernel
theorem dL_law_17 : decode cL_law 17 = .ok (.newarray .long, 2) := by decide +kernel
theorem dL_law_19 : decode cL_law 19 = .ok (.astore_n 3, 1) := by decide +kernel
theorem dL_law_20 : decode cL_law 20 = .ok (.iconst 0, 1) := by decide +kernel
theorem dL_law_21 : decode cL_law 21 = .ok (.istore 4, 2) := by decide +kernel
theorem dL_law_23 : decode cL_law 23 = .ok (.iload 4, 2) := by decide +kernel
theorem dL_law_25 : decode cL_law 25 = .ok (.aload_n 0, 1) := by decide +kernel
theorem dL_law_26 : decode cL_law 26 = .ok (.arraylength, 1) := by decide +kernel
theorem dL_law_27 : decode cL_law 27 = .ok (.bipush 6, 2) := by decide +kernel
theorem dL_law_29 : decode cL_law 29 = .ok (.isub, 1) := by decide +kernel
theorem dL_law_30 : decode cL_law 30 = .ok (.if_icmp .gt 1391, 3) := by decide +kernel
theorem dL_law_33 : decode cL_law 33 = .ok (.aload_n 0, 1) := by decide +kernel
theorem dL_law_34 : decode cL_law 34 = .ok (.iload 4, 2) := by decide +kernel
theorem dL_law_36 : decode cL_law 36 = .ok (.iaload, 1) := by decide +kernel
theorem dL_law_37 : decode cL_law 37 = .ok (.bipush 31, 2) := by decide +kernel
theorem dL_law_39 : decode cL_law 39 = .ok (.iand, 1) := by decide +kernel
theorem dL_law_40 : decode cL_law 40 = .ok (.tableswitch 1375 0 20 #[100, 184, 252, 360, 373, 448, 504, 547, 643, 706, 719, 775, 831, 887, 979, 1035, 1048, 1092, 1172, 1263, 1319], 100) := by decide +kernel
theorem dL_law_140 : decode cL_law 140 = .ok (.aload_n 1, 1) := by decide +kernel
theorem dL_law_141 : decode cL_law 141 = .ok (.aload_n 0, 1) := by decide +kernel
theorem dL_law_142 : decode cL_law 142 = .ok (.iload 4, 2) := by decide +kernel
theorem dL_law_144 : decode cL_law 144 = .ok (.iconst 1, 1) := by decide +kernel
theorem dL_law_145 : decode cL_law 145 = .ok (.iadd, 1) := by decide +kernel
theorem dL_law_146 : decode cL_law 146 = .ok (.iaload, 1) := by decide +kernel
theorem dL_law_147 : decode cL_law 147 = .ok (.aload_n 0, 1) := by decide +kernel
theorem dL_law_148 : decode cL_law 148 = .ok (.iload 4, 2) := by decide +kernel
theorem dL_law_150 : decode cL_law 150 = .ok (.iconst 2, 1) := by decide +kernel
theorem dL_law_151 : decode cL_law 151 = .ok (.iadd, 1) := by decide +kernel
theorem dL_law_152 : decode cL_law 152 = .ok (.iaload, 1) := by decide +kernel
theorem dL_law_153 : decode cL_law 153 = .ok (.aload_n 0, 1) := by decide +kernel
theorem dL_law_154 : decode cL_law 154 = .ok (.iload 4, 2) := by decide +kernel
theorem dL_law_156 : decode cL_law 156 = .ok (.iconst 3, 1) := by decide +kernel
theorem dL_law_157 : decode cL_law 157 = .ok (.iadd, 1) := by decide +kernel
theorem dL_law_158 : decode cL_law 158 = .ok (.iaload, 1) := by decide +kernel
theorem dL_law_159 : decode cL_law 159 = .ok (.aload_n 0, 1) := by decide +kernel
theorem dL_law_160 : decode cL_law 160 = .ok (.iload 4, 2) := by decide +kernel
theorem dL_law_162 : decode cL_law 162 = .ok (.iconst 4, 1) := by decide +kernel
theorem dL_law_163 : decode cL_law 163 = .ok (.iadd, 1) := by decide +kernel
theorem dL_law_164 : decode cL_law 164 = .ok (.iaload, 1) := by decide +kernel
theorem dL_law_165 : decode cL_law 165 = .ok (.aload_n 0, 1) := by decide +kernel
theorem dL_law_166 : decode cL_law 166 = .ok (.iload 4, 2) := by decide +kernel
theorem dL_law_168 : decode cL_law 168 = .ok (.iconst 5, 1) := by decide +kernel
theorem dL_law_169 : decode cL_law 169 = .ok (.iadd, 1) := by decide +kernel
theorem dL_law_170 : decode cL_law 170 = .ok (.iaload, 1) := by decide +kernel
theorem dL_law_171 : decode cL_law 171 = .ok (.invokestatic 85, 3) := by decide +kernel
theorem dL_law_174 : decode cL_law 174 = .ok (.istore 5, 2) := by decide +kernel
theorem dL_law_176 : decode cL_law 176 = .ok (.aload_n 2, 1) := by decide +kernel
theorem dL_law_177 : decode cL_law 177 = .ok (.aload_n 0, 1) := by decide +kernel
theorem dL_law_178 : decode cL_law 178 = .ok (.iload 4, 2) := by decide +kernel
theorem dL_law_180 : decode cL_law 180 = .ok (.iconst 1, 1) := by decide +kernel
theorem dL_law_181 : decode cL_law 181 = .ok (.iadd, 1) := by decide +kernel
theorem dL_law_182 : decode cL_law 182 = .ok (.iaload, 1) := by decide +kernel
theorem dL_law_183 : decode cL_law 183 = .ok (.aload_n 0, 1) := by decide +kernel
theorem dL_law_184 : decode cL_law 184 = .ok (.iload 4, 2) := by decide +kernel
theorem dL_law_186 : decode cL_law 186 = .ok (.iconst 2, 1) := by decide +kernel
theorem dL_law_187 : decode cL_law 187 = .ok (.iadd, 1) := by decide +kernel
theorem dL_law_188 : decode cL_law 188 = .ok (.iaload, 1) := by decide +kernel
theorem dL_law_189 : decode cL_law 189 = .ok (.aload_n 0, 1) := by decide +kernel
theorem dL_law_190 : decode cL_law 190 = .ok (.iload 4, 2) := by decide +kernel
theorem dL_law_192 : decode cL_law 192 = .ok (.iconst 3, 1) := by decide +kernel
theorem dL_law_193 : decode cL_law 193 = .ok (.iadd, 1) := by decide +kernel
theorem dL_law_194 : decode cL_law 194 = .ok (.iaload, 1) := by decide +kernel
theorem dL_law_195 : decode cL_law 195 = .ok (.aload_n 0, 1) := by decide +kernel
theorem dL_law_196 : decode cL_law 196 = .ok (.iload 4, 2) := by decide +kernel
theorem dL_law_198 : decode cL_law 198 = .ok (.iconst 4, 1) := by decide +kernel
theorem dL_law_199 : decode cL_law 199 = .ok (.iadd, 1) := by decide +kernel
theorem dL_law_200 : decode cL_law 200 = .ok (.iaload, 1) := by decide +kernel
theorem dL_law_201 : decode cL_law 201 = .ok (.aload_n 0, 1) := by decide +kernel
theorem dL_law_202 : decode cL_law 202 = .ok (.iload 4, 2) := by decide +kernel
theorem dL_law_204 : decode cL_law 204 = .ok (.iconst 5, 1) := by decide +kernel
theorem dL_law_205 : decode cL_law 205 = .ok (.iadd, 1) := by decide +kernel
theorem dL_law_206 : decode cL_law 206 = .ok (.iaload, 1) := by decide +kernel
theorem dL_law_207 : decode cL_law 207 = .ok (.invokevirtual 90, 3) := by decide +kernel
theorem dL_law_210 : decode cL_law 210 = .ok (.aload_n 2, 1) := by decide +kernel
theorem dL_law_211 : decode cL_law 211 = .ok (.invokevirtual 91, 3) := by decide +kernel
theorem dL_law_214 : decode cL_law 214 = .ok (.iload 5, 2) := by decide +kernel
theorem dL_law_216 : decode cL_law 216 = .ok (.if_icmp .eq 5, 3) := by decide +kernel
theorem dL_law_219 : decode cL_law 219 = .ok (.iconst 0, 1) := by decide +kernel
theorem dL_law_220 : decode cL_law 220 = .ok (.ireturn, 1) := by decide +kernel
theorem dL_law_221 : decode cL_law 221 = .ok (.goto 1194, 3) := by decide +kernel
theorem dL_law_224 : decode cL_law 224 = .ok (.aload_n 1, 1) := by decide +kernel
theorem dL_law_225 : decode cL_law 225 = .ok (.aload_n 0, 1) := by decide +kernel
theorem dL_law_226 : decode cL_law 226 = .ok (.iload 4, 2) := by decide +kernel
theorem dL_law_228 : decode cL_law 228 = .ok (.iconst 1, 1) := by decide +kernel
theorem dL_law_229 : decode cL_law 229 = .ok (.iadd, 1) := by decide +kernel
theorem dL_law_230 : decode cL_law 230 = .ok (.iaload, 1) := by decide +kernel
theorem dL_law_231 : decode cL_law 231 = .ok (.aload_n 0, 1) := by decide +kernel
theorem dL_law_232 : decode cL_law 232 = .ok (.iload 4, 2) := by decide +kernel
theorem dL_law_234 : decode cL_law 234 = .ok (.iconst 2, 1) := by decide +kernel
theorem dL_law_235 : decode cL_law 235 = .ok (.iadd, 1) := by decide +kernel
theorem dL_law_236 : decode cL_law 236 = .ok (.iaload, 1) := by decide +kernel
theorem dL_law_237 : decode cL_law 237 = .ok (.aload_n 3, 1) := by decide +kernel
theorem dL_law_238 : decode cL_law 238 = .ok (.invokestatic 94, 3) := by decide +kernel
theorem dL_law_241 : decode cL_law 241 = .ok (.istore 5, 2) := by decide +kernel
theorem dL_law_243 : decode cL_law 243 = .ok (.aload_n 2, 1) := by decide +kernel
theorem dL_law_244 : decode cL_law 244 = .ok (.aload_n 0, 1) := by decide +kernel
theorem dL_law_245 : decode cL_law 245 = .ok (.iload 4, 2) := by decide +kernel
theorem dL_law_247 : decode cL_law 247 = .ok (.iconst 1, 1) := by decide +kernel
theorem dL_law_248 : decode cL_law 248 = .ok (.iadd, 1) := by decide +kernel
theorem dL_law_249 : decode cL_law 249 = .ok (.iaload, 1) := by decide +kernel
theorem dL_law_250 : decode cL_law 250 = .ok (.aload_n 0, 1) := by decide +kernel
theorem dL_law_251 : decode cL_law 251 = .ok (.iload 4, 2) := by decide +kernel
theorem dL_law_253 : decode cL_law 253 = .ok (.iconst 2, 1) := by decide +kernel
theorem dL_law_254 : decode cL_law 254 = .ok (.iadd, 1) := by decide +kernel
theorem dL_law_255 : decode cL_law 255 = .ok (.iaload, 1) := by decide +kernel
theorem dL_law_256 : decode cL_law 256 = .ok (.invokevirtual 97, 3) := by decide +kernel
theorem dL_law_259 : decode cL_law 259 = .ok (.istore 6, 2) := by decide +kernel
theorem dL_law_261 : decode cL_law 261 = .ok (.aload_n 2, 1) := by decide +kernel
theorem dL_law_262 : decode cL_law 262 = .ok (.invokevirtual 91, 3) := by decide +kernel
theorem dL_law_265 : decode cL_law 265 = .ok (.iload 5, 2) := by decide +kernel
theorem dL_law_267 : decode cL_law 267 = .ok (.if_icmp .eq 5, 3) := by decide +kernel
theorem dL_law_270 : decode cL_law 270 = .ok (.iconst 0, 1) := by decide +kernel
theorem dL_law_271 : decode cL_law 271 = .ok (.ireturn, 1) := by decide +kernel
theorem dL_law_272 : decode cL_law 272 = .ok (.iload 5, 2) := by decide +kernel
theorem dL_law_274 : decode cL_law 274 = .ok (.ifCond .ne 15, 3) := by decide +kernel
theorem dL_law_277 : decode cL_law 277 = .ok (.aload_n 3, 1) := by decide +kernel
theorem dL_law_278 : decode cL_law 278 = .ok (.iconst 0, 1) := by decide +kernel
theorem dL_law_279 : decode cL_law 279 = .ok (.laload, 1) := by decide +kernel
theorem dL_law_280 : decode cL_law 280 = .ok (.iload 6, 2) := by decide +kernel
theorem dL_law_282 : decode cL_law 282 = .ok (.i2l, 1) := by decide +kernel
theorem dL_law_283 : decode cL_law 283 = .ok (.lcmp, 1) := by decide +kernel
theorem dL_law_284 : decode cL_law 284 = .ok (.ifCond .eq 5, 3) := by decide +kernel
theorem dL_law_287 : decode cL_law 287 = .ok (.iconst 0, 1) := by decide +kernel
theorem dL_law_288 : decode cL_law 288 = .ok (.ireturn, 1) := by decide +kernel
theorem dL_law_289 : decode cL_law 289 = .ok (.goto 1126, 3) := by decide +kernel
theorem dL_law_292 : decode cL_law 292 = .ok (.aload_n 1, 1) := by decide +kernel
theorem dL_law_293 : decode cL_law 293 = .ok (.aload_n 0, 1) := by decide +kernel
theorem dL_law_294 : decode cL_law 294 = .ok (.iload 4, 2) := by decide +kernel
theorem dL_law_296 : decode cL_law 296 = .ok (.iconst 1, 1) := by decide +kernel
theorem dL_law_297 : decode cL_law 297 = .ok (.iadd, 1) := by decide +kernel
theorem dL_law_298 : decode cL_law 298 = .ok (.iaload, 1) := by decide +kernel
theorem dL_law_299 : decode cL_law 299 = .ok (.aload_n 0, 1) := by decide +kernel
theorem dL_law_300 : decode cL_law 300 = .ok (.iload 4, 2) := by decide +kernel
theorem dL_law_302 : decode cL_law 302 = .ok (.iconst 2, 1) := by decide +kernel
theorem dL_law_303 : decode cL_law 303 = .ok (.iadd, 1) := by decide +kernel
theorem dL_law_304 : decode cL_law 304 = .ok (.iaload, 1) := by decide +kernel
theorem dL_law_305 : decode cL_law 305 = .ok (.aload_n 0, 1) := by decide +kernel
theorem dL_law_306 : decode cL_law 306 = .ok (.iload 4, 2) := by decide +kernel
theorem dL_law_308 : decode cL_law 308 = .ok (.iconst 3, 1) := by decide +kernel
theorem dL_law_309 : decode cL_law 309 = .ok (.iadd, 1) := by decide +kernel
theorem dL_law_310 : decode cL_law 310 = .ok (.iaload, 1) := by decide +kernel
theorem dL_law_311 : decode cL_law 311 = .ok (.aload_n 0, 1) := by decide +kernel
theorem dL_law_312 : decode cL_law 312 = .ok (.iload 4, 2) := by decide +kernel
theorem dL_law_314 : decode cL_law 314 = .ok (.iconst 4, 1) := by decide +kernel
theorem dL_law_315 : decode cL_law 315 = .ok (.iadd, 1) := by decide +kernel
theorem dL_law_316 : decode cL_law 316 = .ok (.iaload, 1) := by decide +kernel
theorem dL_law_317 : decode cL_law 317 = .ok (.ifCond .eq 7, 3) := by decide +kernel
theorem dL_law_320 : decode cL_law 320 = .ok (.iconst 1, 1) := by decide +kernel
theorem dL_law_321 : decode cL_law 321 = .ok (.goto 4, 3) := by decide +kernel
theorem dL_law_324 : decode cL_law 324 = .ok (.iconst 0, 1) := by decide +kernel
theorem dL_law_325 : decode cL_law 325 = .ok (.aload_n 3, 1) := by decide +kernel
theorem dL_law_326 : decode cL_law 326 = .ok (.invokestatic 98, 3) := by decide +kernel
theorem dL_law_329 : decode cL_law 329 = .ok (.istore 5, 2) := by decide +kernel
theorem dL_law_331 : decode cL_law 331 = .ok (.aload_n 2, 1) := by decide +kernel
theorem dL_law_332 : decode cL_law 332 = .ok (.aload_n 0, 1) := by decide +kernel
theorem dL_law_333 : decode cL_law 333 = .ok (.iload 4, 2) := by decide +kernel
theorem dL_law_335 : decode cL_law 335 = .ok (.iconst 1, 1) := by decide +kernel
theorem dL_law_336 : decode cL_law 336 = .ok (.iadd, 1) := by decide +kernel
theorem dL_law_337 : decode cL_law 337 = .ok (.iaload, 1) := by decide +kernel
theorem dL_law_338 : decode cL_law 338 = .ok (.aload_n 0, 1) := by decide +kernel
theorem dL_law_339 : decode cL_law 339 = .ok (.iload 4, 2) := by decide +kernel
theorem dL_law_341 : decode cL_law 341 = .ok (.iconst 2, 1) := by decide +kernel
theorem dL_law_342 : decode cL_law 342 = .ok (.iadd, 1) := by decide +kernel
theorem dL_law_343 : decode cL_law 343 = .ok (.iaload, 1) := by decide +kernel
theorem dL_law_344 : decode cL_law 344 = .ok (.aload_n 0, 1) := by decide +kernel
theorem dL_law_345 : decode cL_law 345 = .ok (.iload 4, 2) := by decide +kernel
theorem dL_law_347 : decode cL_law 347 = .ok (.iconst 3, 1) := by decide +kernel
theorem dL_law_348 : decode cL_law 348 = .ok (.iadd, 1) := by decide +kernel
theorem dL_law_349 : decode cL_law 349 = .ok (.iaload, 1) := by decide +kernel
theorem dL_law_350 : decode cL_law 350 = .ok (.aload_n 0, 1) := by decide +kernel
theorem dL_law_351 : decode cL_law 351 = .ok (.iload 4, 2) := by decide +kernel
theorem dL_law_353 : decode cL_law 353 = .ok (.iconst 4, 1) := by decide +kernel
theorem dL_law_354 : decode cL_law 354 = .ok (.iadd, 1) := by decide +kernel
theorem dL_law_355 : decode cL_law 355 = .ok (.iaload, 1) := by decide +kernel
theorem dL_law_356 : decode cL_law 356 = .ok (.ifCond .eq 7, 3) := by decide +kernel
theorem dL_law_359 : decode cL_law 359 = .ok (.iconst 1, 1) := by decide +kernel
theorem dL_law_360 : decode cL_law 360 = .ok (.goto 4, 3) := by decide +kernel
theorem dL_law_363 : decode cL_law 363 = .ok (.iconst 0, 1) := by decide +kernel
theorem dL_law_364 : decode cL_law 364 = .ok (.invokevirtual 101, 3) := by decide +kernel
theorem dL_law_367 : decode cL_law 367 = .ok (.istore 6, 2) := by decide +kernel
theorem dL_law_369 : decode cL_law 369 = .ok (.aload_n 2, 1) := by decide +kernel
theorem dL_law_370 : decode cL_law 370 = .ok (.invokevirtual 91, 3) := by decide +kernel
theorem dL_law_373 : decode cL_law 373 = .ok (.iload 5, 2) := by decide +kernel
theorem dL_law_375 : decode cL_law 375 = .ok (.if_icmp .eq 5, 3) := by decide +kernel
theorem dL_law_378 : decode cL_law 378 = .ok (.iconst 0, 1) := by decide +kernel
theorem dL_law_379 : decode cL_law 379 = .ok (.ireturn, 1) := by decide +kernel
theorem dL_law_380 : decode cL_law 380 = .ok (.iload 5, 2) := by decide +kernel
theorem dL_law_382 : decode cL_law 382 = .ok (.ifCond .ne 15, 3) := by decide +kernel
theorem dL_law_385 : decode cL_law 385 = .ok (.aload_n 3, 1) := by decide +kernel
theorem dL_law_386 : decode cL_law 386 = .ok (.iconst 0, 1) := by decide +kernel
theorem dL_law_387 : decode cL_law 387 = .ok (.laload, 1) := by decide +kernel
theorem dL_law_388 : decode cL_law 388 = .ok (.iload 6, 2) := by decide +kernel
theorem dL_law_390 : decode cL_law 390 = .ok (.i2l, 1) := by decide +kernel
theorem dL_law_391 : decode cL_law 391 = .ok (.lcmp, 1) := by decide +kernel
theorem dL_law_392 : decode cL_law 392 = .ok (.ifCond .eq 5, 3) := by decide +kernel
theorem dL_law_395 : decode cL_law 395 = .ok (.iconst 0, 1) := by decide +kernel
theorem dL_law_396 : decode cL_law 396 = .ok (.ireturn, 1) := by decide +kernel
theorem dL_law_397 : decode cL_law 397 = .ok (.goto 1018, 3) := by decide +kernel
theorem dL_law_400 : decode cL_law 400 = .ok (.aload_n 1, 1) := by decide +kernel
theorem dL_law_401 : decode cL_law 401 = .ok (.invokevirtual 102, 3) := by decide +kernel
theorem dL_law_404 : decode cL_law 404 = .ok (.aload_n 2, 1) := by decide +kernel
theorem dL_law_405 : decode cL_law 405 = .ok (.invokevirtual 105, 3) := by decide +kernel
theorem dL_law_408 : decode cL_law 408 = .ok (.if_icmp .eq 1007, 3) := by decide +kernel
theorem dL_law_411 : decode cL_law 411 = .ok (.iconst 0, 1) := by decide +kernel
theorem dL_law_412 : decode cL_law 412 = .ok (.ireturn, 1) := by decide +kernel
theorem dL_law_413 : decode cL_law 413 = .ok (.aload_n 1, 1) := by decide +kernel
theorem dL_law_414 : decode cL_law 414 = .ok (.aload_n 0, 1) := by decide +kernel
theorem dL_law_415 : decode cL_law 415 = .ok (.iload 4, 2) := by decide +kernel
theorem dL_law_417 : decode cL_law 417 = .ok (.iconst 1, 1) := by decide +kernel
theorem dL_law_418 : decode cL_law 418 = .ok (.iadd, 1) := by decide +kernel
theorem dL_law_419 : decode cL_law 419 = .ok (.iaload, 1) := by decide +kernel
theorem dL_law_420 : decode cL_law 420 = .ok (.aload_n 0, 1) := by decide +kernel
theorem dL_law_421 : decode cL_law 421 = .ok (.iload 4, 2) := by decide +kernel
theorem dL_law_423 : decode cL_law 423 = .ok (.iconst 2, 1) := by decide +kernel
theorem dL_law_424 : decode cL_law 424 = .ok (.iadd, 1) := by decide +kernel
theorem dL_law_425 : decode cL_law 425 = .ok (.iaload, 1) := by decide +kernel
theorem dL_law_426 : decode cL_law 426 = .ok (.aload_n 3, 1) := by decide +kernel
theorem dL_law_427 : decode cL_law 427 = .ok (.invokestatic 106, 3) := by decide +kernel
theorem dL_law_430 : decode cL_law 430 = .ok (.istore 5, 2) := by decide +kernel
theorem dL_law_432 : decode cL_law 432 = .ok (.aload_n 2, 1) := by decide +kernel
theorem dL_law_433 : decode cL_law 433 = .ok (.aload_n 0, 1) := by decide +kernel
theorem dL_law_434 : decode cL_law 434 = .ok (.iload 4, 2) := by decide +kernel
theorem dL_law_436 : decode cL_law 436 = .ok (.iconst 1, 1) := by decide +kernel
theorem dL_law_437 : decode cL_law 437 = .ok (.iadd, 1) := by decide +kernel
theorem dL_law_438 : decode cL_law 438 = .ok (.iaload, 1) := by decide +kernel
theorem dL_law_439 : decode cL_law 439 = .ok (.aload_n 0, 1) := by decide +kernel
theorem dL_law_440 : decode cL_law 440 = .ok (.iload 4, 2) := by decide +kernel
theorem dL_law_442 : decode cL_law 442 = .ok (.iconst 2, 1) := by decide +kernel
theorem dL_law_443 : decode cL_law 443 = .ok (.iadd, 1) := by decide +kernel
theorem dL_law_444 : decode cL_law 444 = .ok (.iaload, 1) := by decide +kernel
theorem dL_law_445 : decode cL_law 445 = .ok (.invokevirtual 108, 3) := by decide +kernel
theorem dL_law_448 : decode cL_law 448 = .ok (.istore 6, 2) := by decide +kernel
theorem dL_law_450 : decode cL_law 450 = .ok (.aload_n 2, 1) := by decide +kernel
theorem dL_law_451 : decode cL_law 451 = .ok (.invokevirtual 91, 3) := by decide +kernel
theorem dL_law_454 : decode cL_law 454 = .ok (.iload 5, 2) := by decide +kernel
theorem dL_law_456 : decode cL_law 456 = .ok (.if_icmp .eq 5, 3) := by decide +kernel
theorem dL_law_459 : decode cL_law 459 = .ok (.iconst 0, 1) := by decide +kernel
theorem dL_law_460 : decode cL_law 460 = .ok (.ireturn, 1) := by decide +kernel
theorem dL_law_461 : decode cL_law 461 = .ok (.iload 5, 2) := by decide +kernel
theorem dL_law_463 : decode cL_law 463 = .ok (.ifCond .ne 22, 3) := by decide +kernel
theorem dL_law_466 : decode cL_law 466 = .ok (.aload_n 3, 1) := by decide +kernel
theorem dL_law_467 : decode cL_law 467 = .ok (.iconst 0, 1) := by decide +kernel
theorem dL_law_468 : decode cL_law 468 = .ok (.laload, 1) := by decide +kernel
theorem dL_law_469 : decode cL_law 469 = .ok (.iload 6, 2) := by decide +kernel
theorem dL_law_471 : decode cL_law 471 = .ok (.ifCond .eq 7, 3) := by decide +kernel
theorem dL_law_474 : decode cL_law 474 = .ok (.lconst 1, 1) := by decide +kernel
theorem dL_law_475 : decode cL_law 475 = .ok (.goto 4, 3) := by decide +kernel
theorem dL_law_478 : decode cL_law 478 = .ok (.lconst 0, 1) := by decide +kernel
theorem dL_law_479 : decode cL_law 479 = .ok (.lcmp, 1) := by decide +kernel
theorem dL_law_480 : decode cL_law 480 = .ok (.ifCond .eq 5, 3) := by decide +kernel
theorem dL_law_483 : decode cL_law 483 = .ok (.iconst 0, 1) := by decide +kernel
theorem dL_law_484 : decode cL_law 484 = .ok (.ireturn, 1) := by decide +kernel
theorem dL_law_485 : decode cL_law 485 = .ok (.goto 930, 3) := by decide +kernel
theorem dL_law_488 : decode cL_law 488 = .ok (.aload_n 1, 1) := by decide +kernel
theorem dL_law_489 : decode cL_law 489 = .ok (.aload_n 0, 1) := by decide +kernel
theorem dL_law_490 : decode cL_law 490 = .ok (.iload 4, 2) := by decide +kernel
theorem dL_law_492 : decode cL_law 492 = .ok (.iconst 1, 1) := by decide +kernel
theorem dL_law_493 : decode cL_law 493 = .ok (.iadd, 1) := by decide +kernel
theorem dL_law_494 : decode cL_law 494 = .ok (.iaload, 1) := by decide +kernel
theorem dL_law_495 : decode cL_law 495 = .ok (.aload_n 3, 1) := by decide +kernel
theorem dL_law_496 : decode cL_law 496 = .ok (.invokestatic 109, 3) := by decide +kernel
theorem dL_law_499 : decode cL_law 499 = .ok (.istore 5, 2) := by decide +kernel
theorem dL_law_501 : decode cL_law 501 = .ok (.aload_n 2, 1) := by decide +kernel
theorem dL_law_502 : decode cL_law 502 = .ok (.aload_n 0, 1) := by decide +kernel
theorem dL_law_503 : decode cL_law 503 = .ok (.iload 4, 2) := by decide +kernel
theorem dL_law_505 : decode cL_law 505 = .ok (.iconst 1, 1) := by decide +kernel
theorem dL_law_506 : decode cL_law 506 = .ok (.iadd, 1) := by decide +kernel
theorem dL_law_507 : decode cL_law 507 = .ok (.iaload, 1) := by decide +kernel
theorem dL_law_508 : decode cL_law 508 = .ok (.invokevirtual 112, 3) := by decide +kernel
theorem dL_law_511 : decode cL_law 511 = .ok (.istore 6, 2) := by decide +kernel
theorem dL_law_513 : decode cL_law 513 = .ok (.aload_n 2, 1) := by decide +kernel
theorem dL_law_514 : decode cL_law 514 = .ok (.invokevirtual 91, 3) := by decide +kernel
theorem dL_law_517 : decode cL_law 517 = .ok (.iload 5, 2) := by decide +kernel
theorem dL_law_519 : decode cL_law 519 = .ok (.if_icmp .eq 5, 3) := by decide +kernel
theorem dL_law_522 : decode cL_law 522 = .ok (.iconst 0, 1) := by decide +kernel
theorem dL_law_523 : decode cL_law 523 = .ok (.ireturn, 1) := by decide +kernel
theorem dL_law_524 : decode cL_law 524 = .ok (.iload 5, 2) := by decide +kernel
theorem dL_law_526 : decode cL_law 526 = .ok (.ifCond .ne 15, 3) := by decide +kernel
theorem dL_law_529 : decode cL_law 529 = .ok (.aload_n 3, 1) := by decide +kernel
theorem dL_law_530 : decode cL_law 530 = .ok (.iconst 0, 1) := by decide +kernel
theorem dL_law_531 : decode cL_law 531 = .ok (.laload, 1) := by decide +kernel
theorem dL_law_532 : decode cL_law 532 = .ok (.iload 6, 2) := by decide +kernel
theorem dL_law_534 : decode cL_law 534 = .ok (.i2l, 1) := by decide +kernel
theorem dL_law_535 : decode cL_law 535 = .ok (.lcmp, 1) := by decide +kernel
theorem dL_law_536 : decode cL_law 536 = .ok (.ifCond .eq 5, 3) := by decide +kernel
theorem dL_law_539 : decode cL_law 539 = .ok (.iconst 0, 1) := by decide +kernel
theorem dL_law_540 : decode cL_law 540 = .ok (.ireturn, 1) := by decide +kernel
theorem dL_law_541 : decode cL_law 541 = .ok (.goto 874, 3) := by decide +kernel
theorem dL_law_544 : decode cL_law 544 = .ok (.aload_n 1, 1) := by decide +kernel
theorem dL_law_545 : decode cL_law 545 = .ok (.aload_n 3, 1) := by decide +kernel
theorem dL_law_546 : decode cL_law 546 = .ok (.invokestatic 113, 3) := by decide +kernel
theorem dL_law_549 : decode cL_law 549 = .ok (.istore 5, 2) := by decide +kernel
theorem dL_law_551 : decode cL_law 551 = .ok (.aload_n 2, 1) := by decide +kernel
theorem dL_law_552 : decode cL_law 552 = .ok (.invokevirtual 116, 3) := by decide +kernel
theorem dL_law_555 : decode cL_law 555 = .ok (.lstore 6, 2) := by decide +kernel
theorem dL_law_557 : decode cL_law 557 = .ok (.aload_n 2, 1) := by decide +kernel
theorem dL_law_558 : decode cL_law 558 = .ok (.invokevirtual 91, 3) := by decide +kernel
theorem dL_law_561 : decode cL_law 561 = .ok (.iload 5, 2) := by decide +kernel
theorem dL_law_563 : decode cL_law 563 = .ok (.if_icmp .eq 5, 3) := by decide +kernel
theorem dL_law_566 : decode cL_law 566 = .ok (.iconst 0, 1) := by decide +kernel
theorem dL_law_567 : decode cL_law 567 = .ok (.ireturn, 1) := by decide +kernel
theorem dL_law_568 : decode cL_law 568 = .ok (.iload 5, 2) := by decide +kernel
theorem dL_law_570 : decode cL_law 570 = .ok (.ifCond .ne 14, 3) := by decide +kernel
theorem dL_law_573 : decode cL_law 573 = .ok (.aload_n 3, 1) := by decide +kernel
theorem dL_law_574 : decode cL_law 574 = .ok (.iconst 0, 1) := by decide +kernel
theorem dL_law_575 : decode cL_law 575 = .ok (.laload, 1) := by decide +kernel
theorem dL_law_576 : decode cL_law 576 = .ok (.lload 6, 2) := by decide +kernel
theorem dL_law_578 : decode cL_law 578 = .ok (.lcmp, 1) := by decide +kernel
theorem dL_law_579 : decode cL_law 579 = .ok (.ifCond .eq 5, 3) := by decide +kernel
theorem dL_law_582 : decode cL_law 582 = .ok (.iconst 0, 1) := by decide +kernel
theorem dL_law_583 : decode cL_law 583 = .ok (.ireturn, 1) := by decide +kernel
theorem dL_law_584 : decode cL_law 584 = .ok (.goto 831, 3) := by decide +kernel
theorem dL_law_587 : decode cL_law 587 = .ok (.aload_n 1, 1) := by decide +kernel
theorem dL_law_588 : decode cL_law 588 = .ok (.aload_n 0, 1) := by decide +kernel
theorem dL_law_589 : decode cL_law 589 = .ok (.iload 4, 2) := by decide +kernel
theorem dL_law_591 : decode cL_law 591 = .ok (.iconst 1, 1) := by decide +kernel
theorem dL_law_592 : decode cL_law 592 = .ok (.iadd, 1) := by decide +kernel
theorem dL_law_593 : decode cL_law 593 = .ok (.iaload, 1) := by decide +kernel
theorem dL_law_594 : decode cL_law 594 = .ok (.aload_n 0, 1) := by decide +kernel
theorem dL_law_595 : decode cL_law 595 = .ok (.iload 4, 2) := by decide +kernel
theorem dL_law_597 : decode cL_law 597 = .ok (.iconst 2, 1) := by decide +kernel
theorem dL_law_598 : decode cL_law 598 = .ok (.iadd, 1) := by decide +kernel
theorem dL_law_599 : decode cL_law 599 = .ok (.iaload, 1) := by decide +kernel
theorem dL_law_600 : decode cL_law 600 = .ok (.aload_n 0, 1) := by decide +kernel
theorem dL_law_601 : decode cL_law 601 = .ok (.iload 4, 2) := by decide +kernel
theorem dL_law_603 : decode cL_law 603 = .ok (.iconst 3, 1) := by decide +kernel
theorem dL_law_604 : decode cL_law 604 = .ok (.iadd, 1) := by decide +kernel
theorem dL_law_605 : decode cL_law 605 = .ok (.iaload, 1) := by decide +kernel
theorem dL_law_606 : decode cL_law 606 = .ok (.ifCond .eq 7, 3) := by decide +kernel
theorem dL_law_609 : decode cL_law 609 = .ok (.iconst 1, 1) := by decide +kernel
theorem dL_law_610 : decode cL_law 610 = .ok (.goto 4, 3) := by decide +kernel
theorem dL_law_613 : decode cL_law 613 = .ok (.iconst 0, 1) := by decide +kernel
theorem dL_law_614 : decode cL_law 614 = .ok (.aload_n 3, 1) := by decide +kernel
theorem dL_law_615 : decode cL_law 615 = .ok (.invokestatic 117, 3) := by decide +kernel
theorem dL_law_618 : decode cL_law 618 = .ok (.istore 5, 2) := by decide +kernel
theorem dL_law_620 : decode cL_law 620 = .ok (.aload_n 2, 1) := by decide +kernel
theorem dL_law_621 : decode cL_law 621 = .ok (.aload_n 0, 1) := by decide +kernel
theorem dL_law_622 : decode cL_law 622 = .ok (.iload 4, 2) := by decide +kernel
theorem dL_law_624 : decode cL_law 624 = .ok (.iconst 1, 1) := by decide +kernel
theorem dL_law_625 : decode cL_law 625 = .ok (.iadd, 1) := by decide +kernel
theorem dL_law_626 : decode cL_law 626 = .ok (.iaload, 1) := by decide +kernel
theorem dL_law_627 : decode cL_law 627 = .ok (.aload_n 0, 1) := by decide +kernel
theorem dL_law_628 : decode cL_law 628 = .ok (.iload 4, 2) := by decide +kernel
theorem dL_law_630 : decode cL_law 630 = .ok (.iconst 2, 1) := by decide +kernel
theorem dL_law_631 : decode cL_law 631 = .ok (.iadd, 1) := by decide +kernel
theorem dL_law_632 : decode cL_law 632 = .ok (.iaload, 1) := by decide +kernel
theorem dL_law_633 : decode cL_law 633 = .ok (.aload_n 0, 1) := by decide +kernel
theorem dL_law_634 : decode cL_law 634 = .ok (.iload 4, 2) := by decide +kernel
theorem dL_law_636 : decode cL_law 636 = .ok (.iconst 3, 1) := by decide +kernel
theorem dL_law_637 : decode cL_law 637 = .ok (.iadd, 1) := by decide +kernel
theorem dL_law_638 : decode cL_law 638 = .ok (.iaload, 1) := by decide +kernel
theorem dL_law_639 : decode cL_law 639 = .ok (.ifCond .eq 7, 3) := by decide +kernel
theorem dL_law_642 : decode cL_law 642 = .ok (.iconst 1, 1) := by decide +kernel
theorem dL_law_643 : decode cL_law 643 = .ok (.goto 4, 3) := by decide +kernel
theorem dL_law_646 : decode cL_law 646 = .ok (.iconst 0, 1) := by decide +kernel
theorem dL_law_647 : decode cL_law 647 = .ok (.invokevirtual 120, 3) := by decide +kernel
theorem dL_law_650 : decode cL_law 650 = .ok (.istore 6, 2) := by decide +kernel
theorem dL_law_652 : decode cL_law 652 = .ok (.aload_n 2, 1) := by decide +kernel
theorem dL_law_653 : decode cL_law 653 = .ok (.invokevirtual 91, 3) := by decide +kernel
theorem dL_law_656 : decode cL_law 656 = .ok (.iload 5, 2) := by decide +kernel
theorem dL_law_658 : decode cL_law 658 = .ok (.if_icmp .eq 5, 3) := by decide +kernel
theorem dL_law_661 : decode cL_law 661 = .ok (.iconst 0, 1) := by decide +kernel
theorem dL_law_662 : decode cL_law 662 = .ok (.ireturn, 1) := by decide +kernel
theorem dL_law_663 : decode cL_law 663 = .ok (.iload 5, 2) := by decide +kernel
theorem dL_law_665 : decode cL_law 665 = .ok (.ifCond .ne 15, 3) := by decide +kernel
theorem dL_law_668 : decode cL_law 668 = .ok (.aload_n 3, 1) := by decide +kernel
theorem dL_law_669 : decode cL_law 669 = .ok (.iconst 0, 1) := by decide +kernel
theorem dL_law_670 : decode cL_law 670 = .ok (.laload, 1) := by decide +kernel
theorem dL_law_671 : decode cL_law 671 = .ok (.iload 6, 2) := by decide +kernel
theorem dL_law_673 : decode cL_law 673 = .ok (.i2l, 1) := by decide +kernel
theorem dL_law_674 : decode cL_law 674 = .ok (.lcmp, 1) := by decide +kernel
theorem dL_law_675 : decode cL_law 675 = .ok (.ifCond .eq 5, 3) := by decide +kernel
theorem dL_law_678 : decode cL_law 678 = .ok (.iconst 0, 1) := by decide +kernel
theorem dL_law_679 : decode cL_law 679 = .ok (.ireturn, 1) := by decide +kernel
theorem dL_law_680 : decode cL_law 680 = .ok (.goto 735, 3) := by decide +kernel
theorem dL_law_683 : decode cL_law 683 = .ok (.aload_n 1, 1) := by decide +kernel
theorem dL_law_684 : decode cL_law 684 = .ok (.aload_n 0, 1) := by decide +kernel
theorem dL_law_685 : decode cL_law 685 = .ok (.iload 4, 2) := by decide +kernel
theorem dL_law_687 : decode cL_law 687 = .ok (.iconst 1, 1) := by decide +kernel
theorem dL_law_688 : decode cL_law 688 = .ok (.iadd, 1) := by decide +kernel
theorem dL_law_689 : decode cL_law 689 = .ok (.iaload, 1) := by decide +kernel
theorem dL_law_690 : decode cL_law 690 = .ok (.aload_n 3, 1) := by decide +kernel
theorem dL_law_691 : decode cL_law 691 = .ok (.invokestatic 121, 3) := by decide +kernel
theorem dL_law_694 : decode cL_law 694 = .ok (.istore 5, 2) := by decide +kernel
theorem dL_law_696 : decode cL_law 696 = .ok (.aload_n 2, 1) := by decide +kernel
theorem dL_law_697 : decode cL_law 697 = .ok (.aload_n 0, 1) := by decide +kernel
theorem dL_law_698 : decode cL_law 698 = .ok (.iload 4, 2) := by decide +kernel
theorem dL_law_700 : decode cL_law 700 = .ok (.iconst 1, 1) := by decide +kernel
theorem dL_law_701 : decode cL_law 701 = .ok (.iadd, 1) := by decide +kernel
theorem dL_law_702 : decode cL_law 702 = .ok (.iaload, 1) := by decide +kernel
theorem dL_law_703 : decode cL_law 703 = .ok (.invokevirtual 123, 3) := by decide +kernel
theorem dL_law_706 : decode cL_law 706 = .ok (.istore 6, 2) := by decide +kernel
theorem dL_law_708 : decode cL_law 708 = .ok (.aload_n 2, 1) := by decide +kernel
theorem dL_law_709 : decode cL_law 709 = .ok (.invokevirtual 91, 3) := by decide +kernel
theorem dL_law_712 : decode cL_law 712 = .ok (.iload 5, 2) := by decide +kernel
theorem dL_law_714 : decode cL_law 714 = .ok (.if_icmp .eq 5, 3) := by decide +kernel
theorem dL_law_717 : decode cL_law 717 = .ok (.iconst 0, 1) := by decide +kernel
theorem dL_law_718 : decode cL_law 718 = .ok (.ireturn, 1) := by decide +kernel
theorem dL_law_719 : decode cL_law 719 = .ok (.iload 5, 2) := by decide +kernel
theorem dL_law_721 : decode cL_law 721 = .ok (.ifCond .ne 22, 3) := by decide +kernel
theorem dL_law_724 : decode cL_law 724 = .ok (.aload_n 3, 1) := by decide +kernel
theorem dL_law_725 : decode cL_law 725 = .ok (.iconst 0, 1) := by decide +kernel
theorem dL_law_726 : decode cL_law 726 = .ok (.laload, 1) := by decide +kernel
theorem dL_law_727 : decode cL_law 727 = .ok (.iload 6, 2) := by decide +kernel
theorem dL_law_729 : decode cL_law 729 = .ok (.ifCond .eq 7, 3) := by decide +kernel
theorem dL_law_732 : decode cL_law 732 = .ok (.lconst 1, 1) := by decide +kernel
theorem dL_law_733 : decode cL_law 733 = .ok (.goto 4, 3) := by decide +kernel
theorem dL_law_736 : decode cL_law 736 = .ok (.lconst 0, 1) := by decide +kernel
theorem dL_law_737 : decode cL_law 737 = .ok (.lcmp, 1) := by decide +kernel
theorem dL_law_738 : decode cL_law 738 = .ok (.ifCond .eq 5, 3) := by decide +kernel
theorem dL_law_741 : decode cL_law 741 = .ok (.iconst 0, 1) := by decide +kernel
theorem dL_law_742 : decode cL_law 742 = .ok (.ireturn, 1) := by decide +kernel
theorem dL_law_743 : decode cL_law 743 = .ok (.goto 672, 3) := by decide +kernel
theorem dL_law_746 : decode cL_law 746 = .ok (.aload_n 1, 1) := by decide +kernel
theorem dL_law_747 : decode cL_law 747 = .ok (.invokevirtual 124, 3) := by decide +kernel
theorem dL_law_750 : decode cL_law 750 = .ok (.aload_n 2, 1) := by decide +kernel
theorem dL_law_751 : decode cL_law 751 = .ok (.invokevirtual 127, 3) := by decide +kernel
theorem dL_law_754 : decode cL_law 754 = .ok (.if_icmp .eq 661, 3) := by decide +kernel
theorem dL_law_757 : decode cL_law 757 = .ok (.iconst 0, 1) := by decide +kernel
theorem dL_law_758 : decode cL_law 758 = .ok (.ireturn, 1) := by decide +kernel
theorem dL_law_759 : decode cL_law 759 = .ok (.aload_n 1, 1) := by decide +kernel
theorem dL_law_760 : decode cL_law 760 = .ok (.aload_n 0, 1) := by decide +kernel
theorem dL_law_761 : decode cL_law 761 = .ok (.iload 4, 2) := by decide +kernel
theorem dL_law_763 : decode cL_law 763 = .ok (.iconst 1, 1) := by decide +kernel
theorem dL_law_764 : decode cL_law 764 = .ok (.iadd, 1) := by decide +kernel
theorem dL_law_765 : decode cL_law 765 = .ok (.iaload, 1) := by decide +kernel
theorem dL_law_766 : decode cL_law 766 = .ok (.aload_n 3, 1) := by decide +kernel
theorem dL_law_767 : decode cL_law 767 = .ok (.invokestatic 128, 3) := by decide +kernel
theorem dL_law_770 : decode cL_law 770 = .ok (.istore 5, 2) := by decide +kernel
theorem dL_law_772 : decode cL_law 772 = .ok (.aload_n 2, 1) := by decide +kernel
theorem dL_law_773 : decode cL_law 773 = .ok (.aload_n 0, 1) := by decide +kernel
theorem dL_law_774 : decode cL_law 774 = .ok (.iload 4, 2) := by decide +kernel
theorem dL_law_776 : decode cL_law 776 = .ok (.iconst 1, 1) := by decide +kernel
theorem dL_law_777 : decode cL_law 777 = .ok (.iadd, 1) := by decide +kernel
theorem dL_law_778 : decode cL_law 778 = .ok (.iaload, 1) := by decide +kernel
theorem dL_law_779 : decode cL_law 779 = .ok (.invokevirtual 130, 3) := by decide +kernel
theorem dL_law_782 : decode cL_law 782 = .ok (.istore 6, 2) := by decide +kernel
theorem dL_law_784 : decode cL_law 784 = .ok (.aload_n 2, 1) := by decide +kernel
theorem dL_law_785 : decode cL_law 785 = .ok (.invokevirtual 91, 3) := by decide +kernel
theorem dL_law_788 : decode cL_law 788 = .ok (.iload 5, 2) := by decide +kernel
theorem dL_law_790 : decode cL_law 790 = .ok (.if_icmp .eq 5, 3) := by decide +kernel
theorem dL_law_793 : decode cL_law 793 = .ok (.iconst 0, 1) := by decide +kernel
theorem dL_law_794 : decode cL_law 794 = .ok (.ireturn, 1) := by decide +kernel
theorem dL_law_795 : decode cL_law 795 = .ok (.iload 5, 2) := by decide +kernel
theorem dL_law_797 : decode cL_law 797 = .ok (.ifCond .ne 15, 3) := by decide +kernel
theorem dL_law_800 : decode cL_law 800 = .ok (.aload_n 3, 1) := by decide +kernel
theorem dL_law_801 : decode cL_law 801 = .ok (.iconst 0, 1) := by decide +kernel
theorem dL_law_802 : decode cL_law 802 = .ok (.laload, 1) := by decide +kernel
theorem dL_law_803 : decode cL_law 803 = .ok (.iload 6, 2) := by decide +kernel
theorem dL_law_805 : decode cL_law 805 = .ok (.i2l, 1) := by decide +kernel
theorem dL_law_806 : decode cL_law 806 = .ok (.lcmp, 1) := by decide +kernel
theorem dL_law_807 : decode cL_law 807 = .ok (.ifCond .eq 5, 3) := by decide +kernel
theorem dL_law_810 : decode cL_law 810 = .ok (.iconst 0, 1) := by decide +kernel
theorem dL_law_811 : decode cL_law 811 = .ok (.ireturn, 1) := by decide +kernel
theorem dL_law_812 : decode cL_law 812 = .ok (.goto 603, 3) := by decide +kernel
theorem dL_law_815 : decode cL_law 815 = .ok (.aload_n 1, 1) := by decide +kernel
theorem dL_law_816 : decode cL_law 816 = .ok (.aload_n 0, 1) := by decide +kernel
theorem dL_law_817 : decode cL_law 817 = .ok (.iload 4, 2) := by decide +kernel
theorem dL_law_819 : decode cL_law 819 = .ok (.iconst 1, 1) := by decide +kernel
theorem dL_law_820 : decode cL_law 820 = .ok (.iadd, 1) := by decide +kernel
theorem dL_law_821 : decode cL_law 821 = .ok (.iaload, 1) := by decide +kernel
theorem dL_law_822 : decode cL_law 822 = .ok (.aload_n 3, 1) := by decide +kernel
theorem dL_law_823 : decode cL_law 823 = .ok (.invokestatic 131, 3) := by decide +kernel
theorem dL_law_826 : decode cL_law 826 = .ok (.istore 5, 2) := by decide +kernel
theorem dL_law_828 : decode cL_law 828 = .ok (.aload_n 2, 1) := by decide +kernel
theorem dL_law_829 : decode cL_law 829 = .ok (.aload_n 0, 1) := by decide +kernel
theorem dL_law_830 : decode cL_law 830 = .ok (.iload 4, 2) := by decide +kernel
theorem dL_law_832 : decode cL_law 832 = .ok (.iconst 1, 1) := by decide +kernel
theorem dL_law_833 : decode cL_law 833 = .ok (.iadd, 1) := by decide +kernel
theorem dL_law_834 : decode cL_law 834 = .ok (.iaload, 1) := by decide +kernel
theorem dL_law_835 : decode cL_law 835 = .ok (.invokevirtual 133, 3) := by decide +kernel
theorem dL_law_838 : decode cL_law 838 = .ok (.istore 6, 2) := by decide +kernel
theorem dL_law_840 : decode cL_law 840 = .ok (.aload_n 2, 1) := by decide +kernel
theorem dL_law_841 : decode cL_law 841 = .ok (.invokevirtual 91, 3) := by decide +kernel
theorem dL_law_844 : decode cL_law 844 = .ok (.iload 5, 2) := by decide +kernel
theorem dL_law_846 : decode cL_law 846 = .ok (.if_icmp .eq 5, 3) := by decide +kernel
theorem dL_law_849 : decode cL_law 849 = .ok (.iconst 0, 1) := by decide +kernel
theorem dL_law_850 : decode cL_law 850 = .ok (.ireturn, 1) := by decide +kernel
theorem dL_law_851 : decode cL_law 851 = .ok (.iload 5, 2) := by decide +kernel
theorem dL_law_853 : decode cL_law 853 = .ok (.ifCond .ne 15, 3) := by decide +kernel
theorem dL_law_856 : decode cL_law 856 = .ok (.aload_n 3, 1) := by decide +kernel
theorem dL_law_857 : decode cL_law 857 = .ok (.iconst 0, 1) := by decide +kernel
theorem dL_law_858 : decode cL_law 858 = .ok (.laload, 1) := by decide +kernel
theorem dL_law_859 : decode cL_law 859 = .ok (.iload 6, 2) := by decide +kernel
theorem dL_law_861 : decode cL_law 861 = .ok (.i2l, 1) := by decide +kernel
theorem dL_law_862 : decode cL_law 862 = .ok (.lcmp, 1) := by decide +kernel
theorem dL_law_863 : decode cL_law 863 = .ok (.ifCond .eq 5, 3) := by decide +kernel
theorem dL_law_866 : decode cL_law 866 = .ok (.iconst 0, 1) := by decide +kernel
theorem dL_law_867 : decode cL_law 867 = .ok (.ireturn, 1) := by decide +kernel
theorem dL_law_868 : decode cL_law 868 = .ok (.goto 547, 3) := by decide +kernel
theorem dL_law_871 : decode cL_law 871 = .ok (.aload_n 1, 1) := by decide +kernel
theorem dL_law_872 : decode cL_law 872 = .ok (.aload_n 0, 1) := by decide +kernel
theorem dL_law_873 : decode cL_law 873 = .ok (.iload 4, 2) := by decide +kernel
theorem dL_law_875 : decode cL_law 875 = .ok (.iconst 1, 1) := by decide +kernel
theorem dL_law_876 : decode cL_law 876 = .ok (.iadd, 1) := by decide +kernel
theorem dL_law_877 : decode cL_law 877 = .ok (.iaload, 1) := by decide +kernel
theorem dL_law_878 : decode cL_law 878 = .ok (.aload_n 3, 1) := by decide +kernel
theorem dL_law_879 : decode cL_law 879 = .ok (.invokestatic 134, 3) := by decide +kernel
theorem dL_law_882 : decode cL_law 882 = .ok (.istore 5, 2) := by decide +kernel
theorem dL_law_884 : decode cL_law 884 = .ok (.aload_n 2, 1) := by decide +kernel
theorem dL_law_885 : decode cL_law 885 = .ok (.aload_n 0, 1) := by decide +kernel
theorem dL_law_886 : decode cL_law 886 = .ok (.iload 4, 2) := by decide +kernel
theorem dL_law_888 : decode cL_law 888 = .ok (.iconst 1, 1) := by decide +kernel
theorem dL_law_889 : decode cL_law 889 = .ok (.iadd, 1) := by decide +kernel
theorem dL_law_890 : decode cL_law 890 = .ok (.iaload, 1) := by decide +kernel
theorem dL_law_891 : decode cL_law 891 = .ok (.invokevirtual 136, 3) := by decide +kernel
theorem dL_law_894 : decode cL_law 894 = .ok (.istore 6, 2) := by decide +kernel
theorem dL_law_896 : decode cL_law 896 = .ok (.aload_n 2, 1) := by decide +kernel
theorem dL_law_897 : decode cL_law 897 = .ok (.invokevirtual 91, 3) := by decide +kernel
theorem dL_law_900 : decode cL_law 900 = .ok (.iload 5, 2) := by decide +kernel
theorem dL_law_902 : decode cL_law 902 = .ok (.if_icmp .eq 5, 3) := by decide +kernel
theorem dL_law_905 : decode cL_law 905 = .ok (.iconst 0, 1) := by decide +kernel
theorem dL_law_906 : decode cL_law 906 = .ok (.ireturn, 1) := by decide +kernel
theorem dL_law_907 : decode cL_law 907 = .ok (.iload 5, 2) := by decide +kernel
theorem dL_law_909 : decode cL_law 909 = .ok (.ifCond .ne 15, 3) := by decide +kernel
theorem dL_law_912 : decode cL_law 912 = .ok (.aload_n 3, 1) := by decide +kernel
theorem dL_law_913 : decode cL_law 913 = .ok (.iconst 0, 1) := by decide +kernel
theorem dL_law_914 : decode cL_law 914 = .ok (.laload, 1) := by decide +kernel
theorem dL_law_915 : decode cL_law 915 = .ok (.iload 6, 2) := by decide +kernel
theorem dL_law_917 : decode cL_law 917 = .ok (.i2l, 1) := by decide +kernel
theorem dL_law_918 : decode cL_law 918 = .ok (.lcmp, 1) := by decide +kernel
theorem dL_law_919 : decode cL_law 919 = .ok (.ifCond .eq 5, 3) := by decide +kernel
theorem dL_law_922 : decode cL_law 922 = .ok (.iconst 0, 1) := by decide +kernel
theorem dL_law_923 : decode cL_law 923 = .ok (.ireturn, 1) := by decide +kernel
theorem dL_law_924 : decode cL_law 924 = .ok (.goto 491, 3) := by decide +kernel
theorem dL_law_927 : decode cL_law 927 = .ok (.aload_n 1, 1) := by decide +kernel
theorem dL_law_928 : decode cL_law 928 = .ok (.aload_n 0, 1) := by decide +kernel
theorem dL_law_929 : decode cL_law 929 = .ok (.iload 4, 2) := by decide +kernel
theorem dL_law_931 : decode cL_law 931 = .ok (.iconst 1, 1) := by decide +kernel
theorem dL_law_932 : decode cL_law 932 = .ok (.iadd, 1) := by decide +kernel
theorem dL_law_933 : decode cL_law 933 = .ok (.iaload, 1) := by decide +kernel
theorem dL_law_934 : decode cL_law 934 = .ok (.aload_n 0, 1) := by decide +kernel
theorem dL_law_935 : decode cL_law 935 = .ok (.iload 4, 2) := by decide +kernel
theorem dL_law_937 : decode cL_law 937 = .ok (.iconst 2, 1) := by decide +kernel
theorem dL_law_938 : decode cL_law 938 = .ok (.iadd, 1) := by decide +kernel
theorem dL_law_939 : decode cL_law 939 = .ok (.iaload, 1) := by decide +kernel
theorem dL_law_940 : decode cL_law 940 = .ok (.aload_n 0, 1) := by decide +kernel
theorem dL_law_941 : decode cL_law 941 = .ok (.iload 4, 2) := by decide +kernel
theorem dL_law_943 : decode cL_law 943 = .ok (.iconst 3, 1) := by decide +kernel
theorem dL_law_944 : decode cL_law 944 = .ok (.iadd, 1) := by decide +kernel
theorem dL_law_945 : decode cL_law 945 = .ok (.iaload, 1) := by decide +kernel
theorem dL_law_946 : decode cL_law 946 = .ok (.aload_n 0, 1) := by decide +kernel
theorem dL_law_947 : decode cL_law 947 = .ok (.iload 4, 2) := by decide +kernel
theorem dL_law_949 : decode cL_law 949 = .ok (.iconst 4, 1) := by decide +kernel
theorem dL_law_950 : decode cL_law 950 = .ok (.iadd, 1) := by decide +kernel
theorem dL_law_951 : decode cL_law 951 = .ok (.iaload, 1) := by decide +kernel
theorem dL_law_952 : decode cL_law 952 = .ok (.aload_n 3, 1) := by decide +kernel
theorem dL_law_953 : decode cL_law 953 = .ok (.invokestatic 137, 3) := by decide +kernel
theorem dL_law_956 : decode cL_law 956 = .ok (.istore 5, 2) := by decide +kernel
theorem dL_law_958 : decode cL_law 958 = .ok (.aload_n 2, 1) := by decide +kernel
theorem dL_law_959 : decode cL_law 959 = .ok (.aload_n 0, 1) := by decide +kernel
theorem dL_law_960 : decode cL_law 960 = .ok (.iload 4, 2) := by decide +kernel
theorem dL_law_962 : decode cL_law 962 = .ok (.iconst 1, 1) := by decide +kernel
theorem dL_law_963 : decode cL_law 963 = .ok (.iadd, 1) := by decide +kernel
theorem dL_law_964 : decode cL_law 964 = .ok (.iaload, 1) := by decide +kernel
theorem dL_law_965 : decode cL_law 965 = .ok (.aload_n 0, 1) := by decide +kernel
theorem dL_law_966 : decode cL_law 966 = .ok (.iload 4, 2) := by decide +kernel
theorem dL_law_968 : decode cL_law 968 = .ok (.iconst 2, 1) := by decide +kernel
theorem dL_law_969 : decode cL_law 969 = .ok (.iadd, 1) := by decide +kernel
theorem dL_law_970 : decode cL_law 970 = .ok (.iaload, 1) := by decide +kernel
theorem dL_law_971 : decode cL_law 971 = .ok (.aload_n 0, 1) := by decide +kernel
theorem dL_law_972 : decode cL_law 972 = .ok (.iload 4, 2) := by decide +kernel
theorem dL_law_974 : decode cL_law 974 = .ok (.iconst 3, 1) := by decide +kernel
theorem dL_law_975 : decode cL_law 975 = .ok (.iadd, 1) := by decide +kernel
theorem dL_law_976 : decode cL_law 976 = .ok (.iaload, 1) := by decide +kernel
theorem dL_law_977 : decode cL_law 977 = .ok (.aload_n 0, 1) := by decide +kernel
theorem dL_law_978 : decode cL_law 978 = .ok (.iload 4, 2) := by decide +kernel
theorem dL_law_980 : decode cL_law 980 = .ok (.iconst 4, 1) := by decide +kernel
theorem dL_law_981 : decode cL_law 981 = .ok (.iadd, 1) := by decide +kernel
theorem dL_law_982 : decode cL_law 982 = .ok (.iaload, 1) := by decide +kernel
theorem dL_law_983 : decode cL_law 983 = .ok (.invokevirtual 140, 3) := by decide +kernel
theorem dL_law_986 : decode cL_law 986 = .ok (.istore 6, 2) := by decide +kernel
theorem dL_law_988 : decode cL_law 988 = .ok (.aload_n 2, 1) := by decide +kernel
theorem dL_law_989 : decode cL_law 989 = .ok (.invokevirtual 91, 3) := by decide +kernel
theorem dL_law_992 : decode cL_law 992 = .ok (.iload 5, 2) := by decide +kernel
theorem dL_law_994 : decode cL_law 994 = .ok (.if_icmp .eq 5, 3) := by decide +kernel
theorem dL_law_997 : decode cL_law 997 = .ok (.iconst 0, 1) := by decide +kernel
theorem dL_law_998 : decode cL_law 998 = .ok (.ireturn, 1) := by decide +kernel
theorem dL_law_999 : decode cL_law 999 = .ok (.iload 5, 2) := by decide +kernel
theorem dL_law_1001 : decode cL_law 1001 = .ok (.ifCond .ne 15, 3) := by decide +kernel
theorem dL_law_1004 : decode cL_law 1004 = .ok (.aload_n 3, 1) := by decide +kernel
theorem dL_law_1005 : decode cL_law 1005 = .ok (.iconst 0, 1) := by decide +kernel
theorem dL_law_1006 : decode cL_law 1006 = .ok (.laload, 1) := by decide +kernel
theorem dL_law_1007 : decode cL_law 1007 = .ok (.iload 6, 2) := by decide +kernel
theorem dL_law_1009 : decode cL_law 1009 = .ok (.i2l, 1) := by decide +kernel
theorem dL_law_1010 : decode cL_law 1010 = .ok (.lcmp, 1) := by decide +kernel
theorem dL_law_1011 : decode cL_law 1011 = .ok (.ifCond .eq 5, 3) := by decide +kernel
theorem dL_law_1014 : decode cL_law 1014 = .ok (.iconst 0, 1) := by decide +kernel
theorem dL_law_1015 : decode cL_law 1015 = .ok (.ireturn, 1) := by decide +kernel
theorem dL_law_1016 : decode cL_law 1016 = .ok (.goto 399, 3) := by decide +kernel
theorem dL_law_1019 : decode cL_law 1019 = .ok (.aload_n 1, 1) := by decide +kernel
theorem dL_law_1020 : decode cL_law 1020 = .ok (.aload_n 0, 1) := by decide +kernel
theorem dL_law_1021 : decode cL_law 1021 = .ok (.iload 4, 2) := by decide +kernel
theorem dL_law_1023 : decode cL_law 1023 = .ok (.iconst 1, 1) := by decide +kernel
theorem dL_law_1024 : decode cL_law 1024 = .ok (.iadd, 1) := by decide +kernel
theorem dL_law_1025 : decode cL_law 1025 = .ok (.iaload, 1) := by decide +kernel
theorem dL_law_1026 : decode cL_law 1026 = .ok (.aload_n 3, 1) := by decide +kernel
theorem dL_law_1027 : decode cL_law 1027 = .ok (.invokestatic 141, 3) := by decide +kernel
theorem dL_law_1030 : decode cL_law 1030 = .ok (.istore 5, 2) := by decide +kernel
theorem dL_law_1032 : decode cL_law 1032 = .ok (.aload_n 2, 1) := by decide +kernel
theorem dL_law_1033 : decode cL_law 1033 = .ok (.aload_n 0, 1) := by decide +kernel
theorem dL_law_1034 : decode cL_law 1034 = .ok (.iload 4, 2) := by decide +kernel
theorem dL_law_1036 : decode cL_law 1036 = .ok (.iconst 1, 1) := by decide +kernel
theorem dL_law_1037 : decode cL_law 1037 = .ok (.iadd, 1) := by decide +kernel
theorem dL_law_1038 : decode cL_law 1038 = .ok (.iaload, 1) := by decide +kernel
theorem dL_law_1039 : decode cL_law 1039 = .ok (.invokevirtual 143, 3) := by decide +kernel
theorem dL_law_1042 : decode cL_law 1042 = .ok (.istore 6, 2) := by decide +kernel
theorem dL_law_1044 : decode cL_law 1044 = .ok (.aload_n 2, 1) := by decide +kernel
theorem dL_law_1045 : decode cL_law 1045 = .ok (.invokevirtual 91, 3) := by decide +kernel
theorem dL_law_1048 : decode cL_law 1048 = .ok (.iload 5, 2) := by decide +kernel
theorem dL_law_1050 : decode cL_law 1050 = .ok (.if_icmp .eq 5, 3) := by decide +kernel
theorem dL_law_1053 : decode cL_law 1053 = .ok (.iconst 0, 1) := by decide +kernel
theorem dL_law_1054 : decode cL_law 1054 = .ok (.ireturn, 1) := by decide +kernel
theorem dL_law_1055 : decode cL_law 1055 = .ok (.iload 5, 2) := by decide +kernel
theorem dL_law_1057 : decode cL_law 1057 = .ok (.ifCond .ne 15, 3) := by decide +kernel
theorem dL_law_1060 : decode cL_law 1060 = .ok (.aload_n 3, 1) := by decide +kernel
theorem dL_law_1061 : decode cL_law 1061 = .ok (.iconst 0, 1) := by decide +kernel
theorem dL_law_1062 : decode cL_law 1062 = .ok (.laload, 1) := by decide +kernel
theorem dL_law_1063 : decode cL_law 1063 = .ok (.iload 6, 2) := by decide +kernel
theorem dL_law_1065 : decode cL_law 1065 = .ok (.i2l, 1) := by decide +kernel
theorem dL_law_1066 : decode cL_law 1066 = .ok (.lcmp, 1) := by decide +kernel
theorem dL_law_1067 : decode cL_law 1067 = .ok (.ifCond .eq 5, 3) := by decide +kernel
theorem dL_law_1070 : decode cL_law 1070 = .ok (.iconst 0, 1) := by decide +kernel
theorem dL_law_1071 : decode cL_law 1071 = .ok (.ireturn, 1) := by decide +kernel
theorem dL_law_1072 : decode cL_law 1072 = .ok (.goto 343, 3) := by decide +kernel
theorem dL_law_1075 : decode cL_law 1075 = .ok (.aload_n 1, 1) := by decide +kernel
theorem dL_law_1076 : decode cL_law 1076 = .ok (.invokevirtual 144, 3) := by decide +kernel
theorem dL_law_1079 : decode cL_law 1079 = .ok (.aload_n 2, 1) := by decide +kernel
theorem dL_law_1080 : decode cL_law 1080 = .ok (.invokevirtual 147, 3) := by decide +kernel
theorem dL_law_1083 : decode cL_law 1083 = .ok (.if_icmp .eq 332, 3) := by decide +kernel
theorem dL_law_1086 : decode cL_law 1086 = .ok (.iconst 0, 1) := by decide +kernel
theorem dL_law_1087 : decode cL_law 1087 = .ok (.ireturn, 1) := by decide +kernel
theorem dL_law_1088 : decode cL_law 1088 = .ok (.aload_n 1, 1) := by decide +kernel
theorem dL_law_1089 : decode cL_law 1089 = .ok (.aload_n 3, 1) := by decide +kernel
theorem dL_law_1090 : decode cL_law 1090 = .ok (.invokestatic 148, 3) := by decide +kernel
theorem dL_law_1093 : decode cL_law 1093 = .ok (.istore 5, 2) := by decide +kernel
theorem dL_law_1095 : decode cL_law 1095 = .ok (.aload_n 2, 1) := by decide +kernel
theorem dL_law_1096 : decode cL_law 1096 = .ok (.invokevirtual 150, 3) := by decide +kernel
theorem dL_law_1099 : decode cL_law 1099 = .ok (.istore 6, 2) := by decide +kernel
theorem dL_law_1101 : decode cL_law 1101 = .ok (.aload_n 2, 1) := by decide +kernel
theorem dL_law_1102 : decode cL_law 1102 = .ok (.invokevirtual 91, 3) := by decide +kernel
theorem dL_law_1105 : decode cL_law 1105 = .ok (.iload 5, 2) := by decide +kernel
theorem dL_law_1107 : decode cL_law 1107 = .ok (.if_icmp .eq 5, 3) := by decide +kernel
theorem dL_law_1110 : decode cL_law 1110 = .ok (.iconst 0, 1) := by decide +kernel
theorem dL_law_1111 : decode cL_law 1111 = .ok (.ireturn, 1) := by decide +kernel
theorem dL_law_1112 : decode cL_law 1112 = .ok (.iload 5, 2) := by decide +kernel
theorem dL_law_1114 : decode cL_law 1114 = .ok (.ifCond .ne 15, 3) := by decide +kernel
theorem dL_law_1117 : decode cL_law 1117 = .ok (.aload_n 3, 1) := by decide +kernel
theorem dL_law_1118 : decode cL_law 1118 = .ok (.iconst 0, 1) := by decide +kernel
theorem dL_law_1119 : decode cL_law 1119 = .ok (.laload, 1) := by decide +kernel
theorem dL_law_1120 : decode cL_law 1120 = .ok (.iload 6, 2) := by decide +kernel
theorem dL_law_1122 : decode cL_law 1122 = .ok (.i2l, 1) := by decide +kernel
theorem dL_law_1123 : decode cL_law 1123 = .ok (.lcmp, 1) := by decide +kernel
theorem dL_law_1124 : decode cL_law 1124 = .ok (.ifCond .eq 5, 3) := by decide +kernel
theorem dL_law_1127 : decode cL_law 1127 = .ok (.iconst 0, 1) := by decide +kernel
theorem dL_law_1128 : decode cL_law 1128 = .ok (.ireturn, 1) := by decide +kernel
theorem dL_law_1129 : decode cL_law 1129 = .ok (.goto 286, 3) := by decide +kernel
theorem dL_law_1132 : decode cL_law 1132 = .ok (.aload_n 1, 1) := by decide +kernel
theorem dL_law_1133 : decode cL_law 1133 = .ok (.aload_n 0, 1) := by decide +kernel
theorem dL_law_1134 : decode cL_law 1134 = .ok (.iload 4, 2) := by decide +kernel
theorem dL_law_1136 : decode cL_law 1136 = .ok (.iconst 1, 1) := by decide +kernel
theorem dL_law_1137 : decode cL_law 1137 = .ok (.iadd, 1) := by decide +kernel
theorem dL_law_1138 : decode cL_law 1138 = .ok (.iaload, 1) := by decide +kernel
theorem dL_law_1139 : decode cL_law 1139 = .ok (.aload_n 0, 1) := by decide +kernel
theorem dL_law_1140 : decode cL_law 1140 = .ok (.iload 4, 2) := by decide +kernel
theorem dL_law_1142 : decode cL_law 1142 = .ok (.iconst 2, 1) := by decide +kernel
theorem dL_law_1143 : decode cL_law 1143 = .ok (.iadd, 1) := by decide +kernel
theorem dL_law_1144 : decode cL_law 1144 = .ok (.iaload, 1) := by decide +kernel
theorem dL_law_1145 : decode cL_law 1145 = .ok (.aload_n 0, 1) := by decide +kernel
theorem dL_law_1146 : decode cL_law 1146 = .ok (.iload 4, 2) := by decide +kernel
theorem dL_law_1148 : decode cL_law 1148 = .ok (.iconst 3, 1) := by decide +kernel
theorem dL_law_1149 : decode cL_law 1149 = .ok (.iadd, 1) := by decide +kernel
theorem dL_law_1150 : decode cL_law 1150 = .ok (.iaload, 1) := by decide +kernel
theorem dL_law_1151 : decode cL_law 1151 = .ok (.aload_n 3, 1) := by decide +kernel
theorem dL_law_1152 : decode cL_law 1152 = .ok (.invokestatic 151, 3) := by decide +kernel
theorem dL_law_1155 : decode cL_law 1155 = .ok (.istore 5, 2) := by decide +kernel
theorem dL_law_1157 : decode cL_law 1157 = .ok (.aload_n 2, 1) := by decide +kernel
theorem dL_law_1158 : decode cL_law 1158 = .ok (.aload_n 0, 1) := by decide +kernel
theorem dL_law_1159 : decode cL_law 1159 = .ok (.iload 4, 2) := by decide +kernel
theorem dL_law_1161 : decode cL_law 1161 = .ok (.iconst 1, 1) := by decide +kernel
theorem dL_law_1162 : decode cL_law 1162 = .ok (.iadd, 1) := by decide +kernel
theorem dL_law_1163 : decode cL_law 1163 = .ok (.iaload, 1) := by decide +kernel
theorem dL_law_1164 : decode cL_law 1164 = .ok (.aload_n 0, 1) := by decide +kernel
theorem dL_law_1165 : decode cL_law 1165 = .ok (.iload 4, 2) := by decide +kernel
theorem dL_law_1167 : decode cL_law 1167 = .ok (.iconst 2, 1) := by decide +kernel
theorem dL_law_1168 : decode cL_law 1168 = .ok (.iadd, 1) := by decide +kernel
theorem dL_law_1169 : decode cL_law 1169 = .ok (.iaload, 1) := by decide +kernel
theorem dL_law_1170 : decode cL_law 1170 = .ok (.aload_n 0, 1) := by decide +kernel
theorem dL_law_1171 : decode cL_law 1171 = .ok (.iload 4, 2) := by decide +kernel
theorem dL_law_1173 : decode cL_law 1173 = .ok (.iconst 3, 1) := by decide +kernel
theorem dL_law_1174 : decode cL_law 1174 = .ok (.iadd, 1) := by decide +kernel
theorem dL_law_1175 : decode cL_law 1175 = .ok (.iaload, 1) := by decide +kernel
theorem dL_law_1176 : decode cL_law 1176 = .ok (.invokevirtual 154, 3) := by decide +kernel
theorem dL_law_1179 : decode cL_law 1179 = .ok (.istore 6, 2) := by decide +kernel
theorem dL_law_1181 : decode cL_law 1181 = .ok (.aload_n 2, 1) := by decide +kernel
theorem dL_law_1182 : decode cL_law 1182 = .ok (.invokevirtual 91, 3) := by decide +kernel
theorem dL_law_1185 : decode cL_law 1185 = .ok (.iload 5, 2) := by decide +kernel
theorem dL_law_1187 : decode cL_law 1187 = .ok (.if_icmp .eq 5, 3) := by decide +kernel
theorem dL_law_1190 : decode cL_law 1190 = .ok (.iconst 0, 1) := by decide +kernel
theorem dL_law_1191 : decode cL_law 1191 = .ok (.ireturn, 1) := by decide +kernel
theorem dL_law_1192 : decode cL_law 1192 = .ok (.iload 5, 2) := by decide +kernel
theorem dL_law_1194 : decode cL_law 1194 = .ok (.ifCond .ne 15, 3) := by decide +kernel
theorem dL_law_1197 : decode cL_law 1197 = .ok (.aload_n 3, 1) := by decide +kernel
theorem dL_law_1198 : decode cL_law 1198 = .ok (.iconst 0, 1) := by decide +kernel
theorem dL_law_1199 : decode cL_law 1199 = .ok (.laload, 1) := by decide +kernel
theorem dL_law_1200 : decode cL_law 1200 = .ok (.iload 6, 2) := by decide +kernel
theorem dL_law_1202 : decode cL_law 1202 = .ok (.i2l, 1) := by decide +kernel
theorem dL_law_1203 : decode cL_law 1203 = .ok (.lcmp, 1) := by decide +kernel
theorem dL_law_1204 : decode cL_law 1204 = .ok (.ifCond .eq 5, 3) := by decide +kernel
theorem dL_law_1207 : decode cL_law 1207 = .ok (.iconst 0, 1) := by decide +kernel
theorem dL_law_1208 : decode cL_law 1208 = .ok (.ireturn, 1) := by decide +kernel
theorem dL_law_1209 : decode cL_law 1209 = .ok (.goto 206, 3) := by decide +kernel
theorem dL_law_1212 : decode cL_law 1212 = .ok (.aload_n 1, 1) := by decide +kernel
theorem dL_law_1213 : decode cL_law 1213 = .ok (.aload_n 0, 1) := by decide +kernel
theorem dL_law_1214 : decode cL_law 1214 = .ok (.iload 4, 2) := by decide +kernel
theorem dL_law_1216 : decode cL_law 1216 = .ok (.iconst 1, 1) := by decide +kernel
theorem dL_law_1217 : decode cL_law 1217 = .ok (.iadd, 1) := by decide +kernel
theorem dL_law_1218 : decode cL_law 1218 = .ok (.iaload, 1) := by decide +kernel
theorem dL_law_1219 : decode cL_law 1219 = .ok (.aload_n 0, 1) := by decide +kernel
theorem dL_law_1220 : decode cL_law 1220 = .ok (.iload 4, 2) := by decide +kernel
theorem dL_law_1222 : decode cL_law 1222 = .ok (.iconst 2, 1) := by decide +kernel
theorem dL_law_1223 : decode cL_law 1223 = .ok (.iadd, 1) := by decide +kernel
theorem dL_law_1224 : decode cL_law 1224 = .ok (.iaload, 1) := by decide +kernel
theorem dL_law_1225 : decode cL_law 1225 = .ok (.ifCond .eq 7, 3) := by decide +kernel
theorem dL_law_1228 : decode cL_law 1228 = .ok (.iconst 1, 1) := by decide +kernel
theorem dL_law_1229 : decode cL_law 1229 = .ok (.goto 4, 3) := by decide +kernel
theorem dL_law_1232 : decode cL_law 1232 = .ok (.iconst 0, 1) := by decide +kernel
theorem dL_law_1233 : decode cL_law 1233 = .ok (.aload_n 3, 1) := by decide +kernel
theorem dL_law_1234 : decode cL_law 1234 = .ok (.invokestatic 155, 3) := by decide +kernel
theorem dL_law_1237 : decode cL_law 1237 = .ok (.istore 5, 2) := by decide +kernel
theorem dL_law_1239 : decode cL_law 1239 = .ok (.aload_n 2, 1) := by decide +kernel
theorem dL_law_1240 : decode cL_law 1240 = .ok (.aload_n 0, 1) := by decide +kernel
theorem dL_law_1241 : decode cL_law 1241 = .ok (.iload 4, 2) := by decide +kernel
theorem dL_law_1243 : decode cL_law 1243 = .ok (.iconst 1, 1) := by decide +kernel
theorem dL_law_1244 : decode cL_law 1244 = .ok (.iadd, 1) := by decide +kernel
theorem dL_law_1245 : decode cL_law 1245 = .ok (.iaload, 1) := by decide +kernel
theorem dL_law_1246 : decode cL_law 1246 = .ok (.aload_n 0, 1) := by decide +kernel
theorem dL_law_1247 : decode cL_law 1247 = .ok (.iload 4, 2) := by decide +kernel
theorem dL_law_1249 : decode cL_law 1249 = .ok (.iconst 2, 1) := by decide +kernel
theorem dL_law_1250 : decode cL_law 1250 = .ok (.iadd, 1) := by decide +kernel
theorem dL_law_1251 : decode cL_law 1251 = .ok (.iaload, 1) := by decide +kernel
theorem dL_law_1252 : decode cL_law 1252 = .ok (.ifCond .eq 7, 3) := by decide +kernel
theorem dL_law_1255 : decode cL_law 1255 = .ok (.iconst 1, 1) := by decide +kernel
theorem dL_law_1256 : decode cL_law 1256 = .ok (.goto 4, 3) := by decide +kernel
theorem dL_law_1259 : decode cL_law 1259 = .ok (.iconst 0, 1) := by decide +kernel
theorem dL_law_1260 : decode cL_law 1260 = .ok (.invokevirtual 158, 3) := by decide +kernel
theorem dL_law_1263 : decode cL_law 1263 = .ok (.istore 6, 2) := by decide +kernel
theorem dL_law_1265 : decode cL_law 1265 = .ok (.aload_n 2, 1) := by decide +kernel
theorem dL_law_1266 : decode cL_law 1266 = .ok (.invokevirtual 91, 3) := by decide +kernel
theorem dL_law_1269 : decode cL_law 1269 = .ok (.iload 5, 2) := by decide +kernel
theorem dL_law_1271 : decode cL_law 1271 = .ok (.if_icmp .eq 5, 3) := by decide +kernel
theorem dL_law_1274 : decode cL_law 1274 = .ok (.iconst 0, 1) := by decide +kernel
theorem dL_law_1275 : decode cL_law 1275 = .ok (.ireturn, 1) := by decide +kernel
theorem dL_law_1276 : decode cL_law 1276 = .ok (.iload 5, 2) := by decide +kernel
theorem dL_law_1278 : decode cL_law 1278 = .ok (.ifCond .ne 22, 3) := by decide +kernel
theorem dL_law_1281 : decode cL_law 1281 = .ok (.aload_n 3, 1) := by decide +kernel
theorem dL_law_1282 : decode cL_law 1282 = .ok (.iconst 0, 1) := by decide +kernel
theorem dL_law_1283 : decode cL_law 1283 = .ok (.laload, 1) := by decide +kernel
theorem dL_law_1284 : decode cL_law 1284 = .ok (.iload 6, 2) := by decide +kernel
theorem dL_law_1286 : decode cL_law 1286 = .ok (.ifCond .eq 7, 3) := by decide +kernel
theorem dL_law_1289 : decode cL_law 1289 = .ok (.lconst 1, 1) := by decide +kernel
theorem dL_law_1290 : decode cL_law 1290 = .ok (.goto 4, 3) := by decide +kernel
theorem dL_law_1293 : decode cL_law 1293 = .ok (.lconst 0, 1) := by decide +kernel
theorem dL_law_1294 : decode cL_law 1294 = .ok (.lcmp, 1) := by decide +kernel
theorem dL_law_1295 : decode cL_law 1295 = .ok (.ifCond .eq 5, 3) := by decide +kernel
theorem dL_law_1298 : decode cL_law 1298 = .ok (.iconst 0, 1) := by decide +kernel
theorem dL_law_1299 : decode cL_law 1299 = .ok (.ireturn, 1) := by decide +kernel
theorem dL_law_1300 : decode cL_law 1300 = .ok (.goto 115, 3) := by decide +kernel
theorem dL_law_1303 : decode cL_law 1303 = .ok (.aload_n 1, 1) := by decide +kernel
theorem dL_law_1304 : decode cL_law 1304 = .ok (.aload_n 0, 1) := by decide +kernel
theorem dL_law_1305 : decode cL_law 1305 = .ok (.iload 4, 2) := by decide +kernel
theorem dL_law_1307 : decode cL_law 1307 = .ok (.iconst 1, 1) := by decide +kernel
theorem dL_law_1308 : decode cL_law 1308 = .ok (.iadd, 1) := by decide +kernel
theorem dL_law_1309 : decode cL_law 1309 = .ok (.iaload, 1) := by decide +kernel
theorem dL_law_1310 : decode cL_law 1310 = .ok (.aload_n 3, 1) := by decide +kernel
theorem dL_law_1311 : decode cL_law 1311 = .ok (.invokestatic 159, 3) := by decide +kernel
theorem dL_law_1314 : decode cL_law 1314 = .ok (.istore 5, 2) := by decide +kernel
theorem dL_law_1316 : decode cL_law 1316 = .ok (.aload_n 2, 1) := by decide +kernel
theorem dL_law_1317 : decode cL_law 1317 = .ok (.aload_n 0, 1) := by decide +kernel
theorem dL_law_1318 : decode cL_law 1318 = .ok (.iload 4, 2) := by decide +kernel
theorem dL_law_1320 : decode cL_law 1320 = .ok (.iconst 1, 1) := by decide +kernel
theorem dL_law_1321 : decode cL_law 1321 = .ok (.iadd, 1) := by decide +kernel
theorem dL_law_1322 : decode cL_law 1322 = .ok (.iaload, 1) := by decide +kernel
theorem dL_law_1323 : decode cL_law 1323 = .ok (.invokevirtual 161, 3) := by decide +kernel
theorem dL_law_1326 : decode cL_law 1326 = .ok (.istore 6, 2) := by decide +kernel
theorem dL_law_1328 : decode cL_law 1328 = .ok (.aload_n 2, 1) := by decide +kernel
theorem dL_law_1329 : decode cL_law 1329 = .ok (.invokevirtual 91, 3) := by decide +kernel
theorem dL_law_1332 : decode cL_law 1332 = .ok (.iload 5, 2) := by decide +kernel
theorem dL_law_1334 : decode cL_law 1334 = .ok (.if_icmp .eq 5, 3) := by decide +kernel
theorem dL_law_1337 : decode cL_law 1337 = .ok (.iconst 0, 1) := by decide +kernel
theorem dL_law_1338 : decode cL_law 1338 = .ok (.ireturn, 1) := by decide +kernel
theorem dL_law_1339 : decode cL_law 1339 = .ok (.iload 5, 2) := by decide +kernel
theorem dL_law_1341 : decode cL_law 1341 = .ok (.ifCond .ne 15, 3) := by decide +kernel
theorem dL_law_1344 : decode cL_law 1344 = .ok (.aload_n 3, 1) := by decide +kernel
theorem dL_law_1345 : decode cL_law 1345 = .ok (.iconst 0, 1) := by decide +kernel
theorem dL_law_1346 : decode cL_law 1346 = .ok (.laload, 1) := by decide +kernel
theorem dL_law_1347 : decode cL_law 1347 = .ok (.iload 6, 2) := by decide +kernel
theorem dL_law_1349 : decode cL_law 1349 = .ok (.i2l, 1) := by decide +kernel
theorem dL_law_1350 : decode cL_law 1350 = .ok (.lcmp, 1) := by decide +kernel
theorem dL_law_1351 : decode cL_law 1351 = .ok (.ifCond .eq 5, 3) := by decide +kernel
theorem dL_law_1354 : decode cL_law 1354 = .ok (.iconst 0, 1) := by decide +kernel
theorem dL_law_1355 : decode cL_law 1355 = .ok (.ireturn, 1) := by decide +kernel
theorem dL_law_1356 : decode cL_law 1356 = .ok (.goto 59, 3) := by decide +kernel
theorem dL_law_1359 : decode cL_law 1359 = .ok (.aload_n 1, 1) := by decide +kernel
theorem dL_law_1360 : decode cL_law 1360 = .ok (.aload_n 0, 1) := by decide +kernel
theorem dL_law_1361 : decode cL_law 1361 = .ok (.iload 4, 2) := by decide +kernel
theorem dL_law_1363 : decode cL_law 1363 = .ok (.iconst 1, 1) := by decide +kernel
theorem dL_law_1364 : decode cL_law 1364 = .ok (.iadd, 1) := by decide +kernel
theorem dL_law_1365 : decode cL_law 1365 = .ok (.iaload, 1) := by decide +kernel
theorem dL_law_1366 : decode cL_law 1366 = .ok (.aload_n 3, 1) := by decide +kernel
theorem dL_law_1367 : decode cL_law 1367 = .ok (.invokestatic 162, 3) := by decide +kernel
theorem dL_law_1370 : decode cL_law 1370 = .ok (.istore 5, 2) := by decide +kernel
theorem dL_law_1372 : decode cL_law 1372 = .ok (.aload_n 2, 1) := by decide +kernel
theorem dL_law_1373 : decode cL_law 1373 = .ok (.aload_n 0, 1) := by decide +kernel
theorem dL_law_1374 : decode cL_law 1374 = .ok (.iload 4, 2) := by decide +kernel
theorem dL_law_1376 : decode cL_law 1376 = .ok (.iconst 1, 1) := by decide +kernel
theorem dL_law_1377 : decode cL_law 1377 = .ok (.iadd, 1) := by decide +kernel
theorem dL_law_1378 : decode cL_law 1378 = .ok (.iaload, 1) := by decide +kernel
theorem dL_law_1379 : decode cL_law 1379 = .ok (.invokevirtual 164, 3) := by decide +kernel
theorem dL_law_1382 : decode cL_law 1382 = .ok (.istore 6, 2) := by decide +kernel
theorem dL_law_1384 : decode cL_law 1384 = .ok (.aload_n 2, 1) := by decide +kernel
theorem dL_law_1385 : decode cL_law 1385 = .ok (.invokevirtual 91, 3) := by decide +kernel
theorem dL_law_1388 : decode cL_law 1388 = .ok (.iload 5, 2) := by decide +kernel
theorem dL_law_1390 : decode cL_law 1390 = .ok (.if_icmp .eq 5, 3) := by decide +kernel
theorem dL_law_1393 : decode cL_law 1393 = .ok (.iconst 0, 1) := by decide +kernel
theorem dL_law_1394 : decode cL_law 1394 = .ok (.ireturn, 1) := by decide +kernel
theorem dL_law_1395 : decode cL_law 1395 = .ok (.iload 5, 2) := by decide +kernel
theorem dL_law_1397 : decode cL_law 1397 = .ok (.ifCond .ne 15, 3) := by decide +kernel
theorem dL_law_1400 : decode cL_law 1400 = .ok (.aload_n 3, 1) := by decide +kernel
theorem dL_law_1401 : decode cL_law 1401 = .ok (.iconst 0, 1) := by decide +kernel
theorem dL_law_1402 : decode cL_law 1402 = .ok (.laload, 1) := by decide +kernel
theorem dL_law_1403 : decode cL_law 1403 = .ok (.iload 6, 2) := by decide +kernel
theorem dL_law_1405 : decode cL_law 1405 = .ok (.i2l, 1) := by decide +kernel
theorem dL_law_1406 : decode cL_law 1406 = .ok (.lcmp, 1) := by decide +kernel
theorem dL_law_1407 : decode cL_law 1407 = .ok (.ifCond .eq 5, 3) := by decide +kernel
theorem dL_law_1410 : decode cL_law 1410 = .ok (.iconst 0, 1) := by decide +kernel
theorem dL_law_1411 : decode cL_law 1411 = .ok (.ireturn, 1) := by decide +kernel
theorem dL_law_1412 : decode cL_law 1412 = .ok (.goto 3, 3) := by decide +kernel
theorem dL_law_1415 : decode cL_law 1415 = .ok (.iinc 4 6, 3) := by decide +kernel
theorem dL_law_1418 : decode cL_law 1418 = .ok (.goto (-1395), 3) := by decide +kernel
theorem dL_law_1421 : decode cL_law 1421 = .ok (.iconst 1, 1) := by decide +kernel
end
section
-- booleans as ints
def ob_bi (b : Bool) : Int32 := if b then 1 else 0
theorem ob_bi0 {b : Bool} : ob_bi b = 0 ↔ b = false := by cases b <;> simp [ob_bi]
theorem ob_narZ (b : Bool) : narrow .boolean (.int (ob_bi b)) = .int (ob_bi b) := by cases b <;> rfl
theorem ob_fitZ (b : Bool) : fits .boolean (.int (ob_bi b)) = true := by cases b <;> rfl
theorem ob_vnarZ (b : Bool) : vp_nar .boolean (ob_bi b) = ob_bi b := by cases b <;> rfl
-- the array classes: int, long, boolean, array of int
abbrev ob_Ty (t : Nat → ClassId) : List (ClassId × FieldType) := [(t 0, .int), (t 1, .long), (t 2, .boolean), (t 3, .array .int)]
/-- the links to private methods of the nest -/
def ob_nst (U : State) : Prop := va_Nw (.methodLinkNest RX0 23 yX4_bit RX4) U ∧ va_Nw (.methodLinkNest RX0 31 yX4_hasBit RX4) U ∧ va_Nw (.methodLinkNest RX1 46 yX4_hasBit RX4) U ∧ va_Nw (.methodLinkNest RX1 69 yX4_bit RX4) U ∧ va_Nw (.methodLinkNest RX2 41 yX4_isWithin RX4) U ∧ va_Nw (.methodLinkNest RX3 17 yX4_isClock RX4) U
/-- what every contract knows of the tables -/
def ob_kx (D : va_G) (t : Nat → ClassId) (U : State) : Prop := va_K D vwCl (ob_Ty t) U ∧ ob_nst U
theorem ob_nst.warm {s U : State} (hW : s.WarmedH U.vm) (h : ob_nst s) : ob_nst U := ⟨va_Nw.warmM hW h.1, va_Nw.warmM hW h.2.1, va_Nw.warmM hW h.2.2.1, va_Nw.warmM hW h.2.2.2.1, va_Nw.warmM hW h.2.2.2.2.1, va_Nw.warmM hW h.2.2.2.2.2⟩
theorem ob_nst.same {s U : State} (hv : s.vm = U.vm) (h : ob_nst s) : ob_nst U := ⟨va_Nw.same rfl hv h.1, va_Nw.same rfl hv h.2.1, va_Nw.same rfl hv h.2.2.1, va_Nw.same rfl hv h.2.2.2.1, va_Nw.same rfl hv h.2.2.2.2.1, va_Nw.same rfl hv h.2.2.2.2.2⟩
theorem ob_kx.warm {D : va_G} {t : Nat → ClassId} {s U : State} (hW : s.WarmedH U.vm) (h : ob_kx D t s) : ob_kx D t U := ⟨va_K.moved hW.alike h.1, h.2.warm hW⟩
theorem ob_kx.call {D : va_G} {t : Nat → ClassId} {U : State} {g : JFrame} {mk : MethodId} {a : Array Value} (h : ob_kx D t U) : ob_kx D t (U.calling g mk a) := ⟨va_K.moved (u := U) (U := U.calling g mk a) (Vm.Alike.refl U.vm) h.1, h.2.same rfl⟩
/-- the start of a method that only reads -/
def ob_Pp (D : va_G) (t : Nat → ClassId) (ws : va_W) (av : List Value) : Array Value → State → Prop := va_Pc av (fun U => va_P D vwCl ws U.heap ∧ ob_kx D t U)
theorem ob_preS {D : va_G} {t : Nat → ClassId} {ws : va_W} {H : Heap} {s : State} {av : List Value} (hP : va_P D vwCl ws H) (hk : ob_kx D t s) : PreS s H (ob_Pp D t ws av) av :=
  ⟨fun a U g mk q => ⟨q.1, q.2.1, q.2.2.call⟩, fun U hU hW => ⟨rfl, by rw [hU]; exact hP, hk.warm hW⟩⟩
theorem ob_preV {D : va_G} {t : Nat → ClassId} {ws : va_W} {H : Heap} {s : State} {As : List Value} {b q0 ci : Nat} {q : vw_C} {fs : List Value} (hP : va_P D vwCl ws H) (hk : ob_kx D t s) (hc : vwCl[ci]? = some q) (he : ws[q0]? = some (b, .inr (ci, fs))) : PreV s H q.1 b (ob_Pp D t ws (.ref b :: As)) As :=
  ⟨fun a U g mk q => ⟨q.1, q.2.1, q.2.2.call⟩, va_recv hk.1 hP hc he, fun U hU hW => ⟨rfl, by rw [hU]; exact hP, hk.warm hW⟩⟩
/-- the start of a method that writes -/
def ob_Pm (D : va_G) (t : Nat → ClassId) (ws : va_W) (sz : Nat) (av : List Value) : Array Value → State → Prop := va_Pc av (fun U => U.heap.size = sz ∧ va_P D vwCl ws U.heap ∧ ob_kx D t U ∧ va_D (fun _ => True) ws)
theorem ob_pmS {D : va_G} {t : Nat → ClassId} {ws : va_W} {A : Nat → Prop} {H : Heap} {s : State} {av : List Value} (hP : va_P D vwCl ws H) (hD : va_D A ws) (hk : ob_kx D t s) : PreS s H (ob_Pm D t ws H.size av) av :=
  ⟨fun a U g mk q => ⟨q.1, q.2.1, q.2.2.1, q.2.2.2.1.call, q.2.2.2.2⟩, fun U hU hW => ⟨rfl, by rw [hU], by rw [hU]; exact hP, hk.warm hW, hD.weaken (fun _ _ _ _ => trivial)⟩⟩
theorem ob_pmV {D : va_G} {t : Nat → ClassId} {ws : va_W} {A : Nat → Prop} {H : Heap} {s : State} {As : List Value} {b q0 ci : Nat} {q : vw_C} {fs : List Value} (hP : va_P D vwCl ws H) (hD : va_D A ws) (hk : ob_kx D t s) (hc : vwCl[ci]? = some q) (he : ws[q0]? = some (b, .inr (ci, fs))) : PreV s H q.1 b (ob_Pm D t ws H.size (.ref b :: As)) As :=
  ⟨fun a U g mk q => ⟨q.1, q.2.1, q.2.2.1, q.2.2.2.1.call, q.2.2.2.2⟩, va_recv hk.1 hP hc he, fun U hU hW => ⟨rfl, by rw [hU], by rw [hU]; exact hP, hk.warm hW, hD.weaken (fun _ _ _ _ => trivial)⟩⟩
-- behind a call: the callee's cells in their places
def ob_mg : va_W → va_W → List (Option Nat) → List (Option (Nat × va_E))
  | a :: ws, w1, none :: s => some a :: ob_mg ws w1 s
  | _ :: ws, w1, some j :: s => w1[j]? :: ob_mg ws w1 s
  | _, _, _ => []
theorem ob_mg_get : ∀ (ws w1 : va_W) (sel : List (Option Nat)) (k : Nat) (q : Nat × va_E), (ob_mg ws w1 sel)[k]? = some (some q) → (sel[k]? = some none ∧ ws[k]? = some q) ∨ ∃ j : Nat, w1[j]? = some q
  | [], w1, sel, k, q, h => by simp [ob_mg] at h
  | _ :: _, w1, [], k, q, h => by simp [ob_mg] at h
  | a :: ws, w1, none :: s, 0, q, h => by
    simp [ob_mg] at h
    exact Or.inl ⟨rfl, by simp [h]⟩
  | a :: ws, w1, none :: s, k + 1, q, h => by
    simp only [ob_mg, List.getElem?_cons_succ] at h ⊢
    exact ob_mg_get ws w1 s k q h
  | a :: ws, w1, some j :: s, 0, q, h => by
    simp [ob_mg] at h
    exact Or.inr ⟨j, h⟩
  | a :: ws, w1, some j :: s, k + 1, q, h => by
    simp only [ob_mg, List.getElem?_cons_succ] at h ⊢
    exact ob_mg_get ws w1 s k q h
theorem ob_jn {A0 : Nat → Prop} {D : va_G} {cl : List vw_C} {ws ws' wc w1 : va_W} {H H1 : Heap} (hP : va_P D cl ws H) (hD : va_D A0 ws) (sel : List (Option Nat)) (isC : List Nat) (hC : isC.map (fun i => ws[i]?) = wc.map some) (hs : isC.all (fun i => sel[i]? != some none) = true)
    (hk : ∀ q : Nat, q < H.size → ¬ va_A wc H.size q → H1[q]? = H[q]?) (hP1 : va_P D cl w1 H1) (hm : ws'.map some = ob_mg ws w1 sel) : va_P D cl ws' H1 := by
  intro k q hq
  have h1 : (ob_mg ws w1 sel)[k]? = some (some q) := by rw [← hm, List.getElem?_map, hq]; rfl
  rcases ob_mg_get _ _ _ _ _ h1 with ⟨hn, hw⟩ | ⟨j, hj⟩
  · refine (hP k q hw).kept (hk q.1 (hP k q hw).lt (fun h => ?_))
    rcases h with ⟨k2, e, h⟩ | h
    · have h2 : (isC.map (fun i => ws[i]?))[k2]? = some (some (q.1, e)) := by rw [hC, List.getElem?_map, h]; rfl
      rw [List.getElem?_map] at h2
      cases hi : isC[k2]? with
      | none => rw [hi] at h2; cases h2
      | some i =>
        rw [hi] at h2
        have hij := hD.1 i k (q.1, e) q (Option.some.inj h2) hw rfl
        subst hij
        have := List.all_eq_true.mp hs i (List.mem_of_getElem? hi)
        rw [hn] at this
        simp at this
    · exact absurd (hP k q hw).lt (Nat.not_lt.mpr h)
  · exact hP1 j q hj
theorem ob_ds {A : Nat → Prop} {ws ws' : va_W} (hD : va_D A ws) (h : ws'.map (fun q => q.1) = ws.map (fun q => q.1)) : va_D A ws' := by
  have key : ∀ (k : Nat) (q : Nat × va_E), ws'[k]? = some q → ∃ p, ws[k]? = some p ∧ p.1 = q.1 := by
    intro k q hk
    have h1 : (ws'.map (fun q => q.1))[k]? = some q.1 := by rw [List.getElem?_map, hk]; rfl
    rw [h, List.getElem?_map] at h1
    cases hp : ws[k]? with
    | none => rw [hp] at h1; cases h1
    | some p => rw [hp] at h1; exact ⟨p, rfl, Option.some.inj h1⟩
  refine ⟨fun i j p q hi hj hpq => ?_, fun k q hk => ?_⟩
  · obtain ⟨p', h1, e1⟩ := key i p hi
    obtain ⟨q', h2, e2⟩ := key j q hj
    exact hD.1 i j p' q' h1 h2 (e1.trans (hpq.trans e2.symm))
  · obtain ⟨p, h1, e1⟩ := key k q hk
    rw [← e1]
    exact hD.2 k p h1
theorem ob_nlt {n : Nat} (h : n ≤ 1073741824) : n < 2 ^ 31 := Nat.lt_of_le_of_lt h (by decide)
section OBW
variable {p : Program} {l : Launch} {e : Env} {R : Room} {s : State} {m : MethodId} {args : Array Value} {below : List Frame} {meth : Method} {c : Code} {H : Heap} {locs : List Loc} {cells slots : Nat} {Q : State → Prop}
variable {cc : ByteArray} {pc : Nat} {ls : Array Slot} {rest : List Value} {D : va_G} {cl : List vw_C} {A : Nat → Prop} {a : Nat} {tys : List (ClassId × FieldType)} {ws : va_W} {H0 : Heap}
theorem ob_if_eq (hexec : p.tables.exec = Jvm.exec) (hb : c.code = cc) {b : Bool} {off : Int} {tgt : Nat} (hdg : decode cc pc = .ok (.ifCond .eq off, 3)) (ht : (pc : Int) + off = (tgt : Int))
    (kt : b = false → W p l e R s m args below meth c H locs cells slots Q (F0 m tgt ls rest)) (kf : b = true → W p l e R s m args below meth c H locs cells slots Q (F0 m (pc + 3) ls rest)) : W p l e R s m args below meth c H locs cells slots Q (F0 m pc ls (.int (ob_bi b) :: rest)) :=
  lv_if_eq hexec hb hdg ht (fun h => kt (ob_bi0.mp h)) (fun h => kf (by cases b with | true => rfl | false => exact absurd rfl h))
theorem ob_if_ne (hexec : p.tables.exec = Jvm.exec) (hb : c.code = cc) {b : Bool} {off : Int} {tgt : Nat} (hdg : decode cc pc = .ok (.ifCond .ne off, 3)) (ht : (pc : Int) + off = (tgt : Int))
    (kt : b = true → W p l e R s m args below meth c H locs cells slots Q (F0 m tgt ls rest)) (kf : b = false → W p l e R s m args below meth c H locs cells slots Q (F0 m (pc + 3) ls rest)) : W p l e R s m args below meth c H locs cells slots Q (F0 m pc ls (.int (ob_bi b) :: rest)) :=
  lv_if_ne hexec hb hdg ht (fun h => kt (by cases b with | true => rfl | false => exact absurd rfl h)) (fun h => kf (ob_bi0.mp h))
theorem ob_icmp_ge (hexec : p.tables.exec = Jvm.exec) (hb : c.code = cc) {x y : Nat} (hx : x ≤ 1073741824) (hy : y ≤ 1073741824) {off : Int} {tgt : Nat} (hdg : decode cc pc = .ok (.if_icmp .ge off, 3)) (ht : (pc : Int) + off = (tgt : Int))
    (kt : y ≤ x → W p l e R s m args below meth c H locs cells slots Q (F0 m tgt ls rest)) (kf : x < y → W p l e R s m args below meth c H locs cells slots Q (F0 m (pc + 3) ls rest)) : W p l e R s m args below meth c H locs cells slots Q (F0 m pc ls (.int (nI y) :: .int (nI x) :: rest)) :=
  lv_icmp_ge hexec hb hdg ht (fun h => kt ((nI_leI (ob_nlt hy) (ob_nlt hx)).mp h)) (fun h => kf (Nat.not_le.mp (fun q => h ((nI_leI (ob_nlt hy) (ob_nlt hx)).mpr q))))
theorem ob_icmp_gt (hexec : p.tables.exec = Jvm.exec) (hb : c.code = cc) {x y : Nat} (hx : x ≤ 1073741824) (hy : y ≤ 1073741824) {off : Int} {tgt : Nat} (hdg : decode cc pc = .ok (.if_icmp .gt off, 3)) (ht : (pc : Int) + off = (tgt : Int))
    (kt : y < x → W p l e R s m args below meth c H locs cells slots Q (F0 m tgt ls rest)) (kf : x ≤ y → W p l e R s m args below meth c H locs cells slots Q (F0 m (pc + 3) ls rest)) : W p l e R s m args below meth c H locs cells slots Q (F0 m pc ls (.int (nI y) :: .int (nI x) :: rest)) :=
  lv_icmp_gt hexec hb hdg ht (fun h => kt ((nI_ltI (ob_nlt hy) (ob_nlt hx)).mp h)) (fun h => kf (Nat.not_lt.mp (fun q => h ((nI_ltI (ob_nlt hy) (ob_nlt hx)).mpr q))))
theorem ob_icmp_lt (hexec : p.tables.exec = Jvm.exec) (hb : c.code = cc) {x y : Nat} (hx : x ≤ 1073741824) (hy : y ≤ 1073741824) {off : Int} {tgt : Nat} (hdg : decode cc pc = .ok (.if_icmp .lt off, 3)) (ht : (pc : Int) + off = (tgt : Int))
    (kt : x < y → W p l e R s m args below meth c H locs cells slots Q (F0 m tgt ls rest)) (kf : y ≤ x → W p l e R s m args below meth c H locs cells slots Q (F0 m (pc + 3) ls rest)) : W p l e R s m args below meth c H locs cells slots Q (F0 m pc ls (.int (nI y) :: .int (nI x) :: rest)) :=
  lv_icmp_lt hexec hb hdg ht (fun h => kt ((nI_ltI (ob_nlt hx) (ob_nlt hy)).mp h)) (fun h => kf (Nat.not_lt.mp (fun q => h ((nI_ltI (ob_nlt hx) (ob_nlt hy)).mpr q))))
theorem ob_icmp_le (hexec : p.tables.exec = Jvm.exec) (hb : c.code = cc) {x y : Nat} (hx : x ≤ 1073741824) (hy : y ≤ 1073741824) {off : Int} {tgt : Nat} (hdg : decode cc pc = .ok (.if_icmp .le off, 3)) (ht : (pc : Int) + off = (tgt : Int))
    (kt : x ≤ y → W p l e R s m args below meth c H locs cells slots Q (F0 m tgt ls rest)) (kf : y < x → W p l e R s m args below meth c H locs cells slots Q (F0 m (pc + 3) ls rest)) : W p l e R s m args below meth c H locs cells slots Q (F0 m pc ls (.int (nI y) :: .int (nI x) :: rest)) :=
  lv_icmp_le hexec hb hdg ht (fun h => kt ((nI_leI (ob_nlt hx) (ob_nlt hy)).mp h)) (fun h => kf (Nat.not_le.mp (fun q => h ((nI_leI (ob_nlt hx) (ob_nlt hy)).mpr q))))
theorem ob_icmp_eq (hexec : p.tables.exec = Jvm.exec) (hb : c.code = cc) {x y : Nat} (hx : x ≤ 1073741824) (hy : y ≤ 1073741824) {off : Int} {tgt : Nat} (hdg : decode cc pc = .ok (.if_icmp .eq off, 3)) (ht : (pc : Int) + off = (tgt : Int))
    (kt : x = y → W p l e R s m args below meth c H locs cells slots Q (F0 m tgt ls rest)) (kf : ¬ x = y → W p l e R s m args below meth c H locs cells slots Q (F0 m (pc + 3) ls rest)) : W p l e R s m args below meth c H locs cells slots Q (F0 m pc ls (.int (nI y) :: .int (nI x) :: rest)) :=
  lv_icmp_eq hexec hb hdg ht (fun h => kt ((nI_eq (ob_nlt hx) (ob_nlt hy)).mp h)) (fun h => kf (fun q => h ((nI_eq (ob_nlt hx) (ob_nlt hy)).mpr q)))
theorem ob_icmp_ne (hexec : p.tables.exec = Jvm.exec) (hb : c.code = cc) {x y : Nat} (hx : x ≤ 1073741824) (hy : y ≤ 1073741824) {off : Int} {tgt : Nat} (hdg : decode cc pc = .ok (.if_icmp .ne off, 3)) (ht : (pc : Int) + off = (tgt : Int))
    (kt : ¬ x = y → W p l e R s m args below meth c H locs cells slots Q (F0 m tgt ls rest)) (kf : x = y → W p l e R s m args below meth c H locs cells slots Q (F0 m (pc + 3) ls rest)) : W p l e R s m args below meth c H locs cells slots Q (F0 m pc ls (.int (nI y) :: .int (nI x) :: rest)) :=
  lv_icmp_ne hexec hb hdg ht (fun h => kt (fun q => h ((nI_eq (ob_nlt hx) (ob_nlt hy)).mpr q))) (fun h => kf ((nI_eq (ob_nlt hx) (ob_nlt hy)).mp h))
theorem ob_inc (hexec : p.tables.exec = Jvm.exec) (hb : c.code = cc) {i nL k x : Nat} {lv lv' : List (Nat × Value)} (hdg : decode cc pc = .ok (.iinc i 1, 3)) (h : lv_has ls nL lv) (hk : lv[k]? = some (i, .int (nI x))) (hn : i < nL) (hl : (i, Value.int (nI (x + 1))) :: lv.filter (fun q => !(q.1 == i) && !(q.1 + 1 == i && q.2.category == 2)) = lv')
    (kk : ∀ ls' : Array Slot, lv_has ls' nL lv' → W p l e R s m args below meth c H locs cells slots Q (F0 m (pc + 3) ls' rest)) : W p l e R s m args below meth c H locs cells slots Q (F0 m pc ls rest) :=
  lv_iinc hexec hb hdg h hk (nI_1 x) hn hl kk
theorem ob_iald (hexec : p.tables.exec = Jvm.exec) (hb : c.code = cc) (hK : va_K D cl tys s) (hP : va_P D cl ws H) (q0 t0 : Nat) {cA : ClassId} {n : Nat} {f : Nat → Int32} (ha : ws[q0]? = some (a, .inl (cA, n, .inl f))) (ht : tys[t0]? = some (cA, .int)) {k : Nat} (hkn : k < n) (hn : n ≤ 1073741824) (hdg : decode cc pc = .ok (.iaload, 1))
    (kk : W p l e R s m args below meth c H locs cells slots Q (F0 m (pc + 1) ls (.int (f k) :: rest))) : W p l e R s m args below meth c H locs cells slots Q (F0 m pc ls (.int (nI k) :: .ref a :: rest)) :=
  va_iald hexec hb hK hP q0 t0 ha ht (vp_in_nI hkn (ob_nlt hn)) hdg (by rw [nI_clamp (Nat.lt_trans hkn (ob_nlt hn))]; exact kk)
theorem ob_zald (hexec : p.tables.exec = Jvm.exec) (hb : c.code = cc) (hK : va_K D cl tys s) (hP : va_P D cl ws H) (q0 t0 : Nat) {cA : ClassId} {n : Nat} {f : Nat → Int32} (ha : ws[q0]? = some (a, .inl (cA, n, .inl f))) (ht : tys[t0]? = some (cA, .boolean)) {k : Nat} (hkn : k < n) (hn : n ≤ 1073741824) (hdg : decode cc pc = .ok (.baload, 1))
    (kk : W p l e R s m args below meth c H locs cells slots Q (F0 m (pc + 1) ls (.int (f k) :: rest))) : W p l e R s m args below meth c H locs cells slots Q (F0 m pc ls (.int (nI k) :: .ref a :: rest)) :=
  va_zald hexec hb hK hP q0 t0 ha ht (vp_in_nI hkn (ob_nlt hn)) hdg (by rw [nI_clamp (Nat.lt_trans hkn (ob_nlt hn))]; exact kk)
theorem ob_lald (hexec : p.tables.exec = Jvm.exec) (hb : c.code = cc) (hK : va_K D cl tys s) (hP : va_P D cl ws H) (q0 t0 : Nat) {cA : ClassId} {n : Nat} {f : Nat → Int64} (ha : ws[q0]? = some (a, .inl (cA, n, .inr (.inl f)))) (ht : tys[t0]? = some (cA, .long)) {k : Nat} (hkn : k < n) (hn : n ≤ 1073741824) (hdg : decode cc pc = .ok (.laload, 1))
    (kk : W p l e R s m args below meth c H locs cells slots Q (F0 m (pc + 1) ls (.long (f k) :: rest))) : W p l e R s m args below meth c H locs cells slots Q (F0 m pc ls (.int (nI k) :: .ref a :: rest)) :=
  va_lald hexec hb hK hP q0 t0 ha ht (vp_in_nI hkn (ob_nlt hn)) hdg (by rw [nI_clamp (Nat.lt_trans hkn (ob_nlt hn))]; exact kk)
theorem ob_iast (hexec : p.tables.exec = Jvm.exec) (hb : c.code = cc) (hK : va_K D cl tys s) (hP : va_P D cl ws H) (hD : va_D A ws) (hS : va_S A H0 H locs) (q0 t0 : Nat) {cA : ClassId} {n : Nat} {f : Nat → Int32} (ha : ws[q0]? = some (a, .inl (cA, n, .inl f))) (ht : tys[t0]? = some (cA, .int)) {k : Nat} {x : Int32} (hkn : k < n) (hn : n ≤ 1073741824) (hdg : decode cc pc = .ok (.iastore, 1))
    (kk : ∀ (H1 : Heap) (locs1 : List Loc), va_P D cl (ws.set q0 (a, .inl (cA, n, .inl (upd f k x)))) H1 → va_D A (ws.set q0 (a, .inl (cA, n, .inl (upd f k x)))) → va_S A H0 H1 locs1 → W p l e R s m args below meth c H1 locs1 cells slots Q (F0 m (pc + 1) ls rest)) : W p l e R s m args below meth c H locs cells slots Q (F0 m pc ls (.int x :: .int (nI k) :: .ref a :: rest)) :=
  va_iast hexec hb hK hP hD hS q0 t0 ha ht (vp_in_nI hkn (ob_nlt hn)) hdg (by rw [nI_clamp (Nat.lt_trans hkn (ob_nlt hn))]; exact kk)
theorem ob_zast (hexec : p.tables.exec = Jvm.exec) (hb : c.code = cc) (hK : va_K D cl tys s) (hP : va_P D cl ws H) (hD : va_D A ws) (hS : va_S A H0 H locs) (q0 t0 : Nat) {cA : ClassId} {n : Nat} {f : Nat → Int32} (ha : ws[q0]? = some (a, .inl (cA, n, .inl f))) (ht : tys[t0]? = some (cA, .boolean)) {k : Nat} {b : Bool} (hkn : k < n) (hn : n ≤ 1073741824) (hdg : decode cc pc = .ok (.bastore, 1))
    (kk : ∀ (H1 : Heap) (locs1 : List Loc), va_P D cl (ws.set q0 (a, .inl (cA, n, .inl (upd f k (ob_bi b))))) H1 → va_D A (ws.set q0 (a, .inl (cA, n, .inl (upd f k (ob_bi b))))) → va_S A H0 H1 locs1 → W p l e R s m args below meth c H1 locs1 cells slots Q (F0 m (pc + 1) ls rest)) : W p l e R s m args below meth c H locs cells slots Q (F0 m pc ls (.int (ob_bi b) :: .int (nI k) :: .ref a :: rest)) :=
  va_zast hexec hb hK hP hD hS q0 t0 ha ht (vp_in_nI hkn (ob_nlt hn)) hdg (by rw [nI_clamp (Nat.lt_trans hkn (ob_nlt hn)), ob_vnarZ]; exact kk)
theorem ob_last (hexec : p.tables.exec = Jvm.exec) (hb : c.code = cc) (hK : va_K D cl tys s) (hP : va_P D cl ws H) (hD : va_D A ws) (hS : va_S A H0 H locs) (q0 t0 : Nat) {cA : ClassId} {n : Nat} {f : Nat → Int64} (ha : ws[q0]? = some (a, .inl (cA, n, .inr (.inl f)))) (ht : tys[t0]? = some (cA, .long)) {k : Nat} {x : Int64} (hkn : k < n) (hn : n ≤ 1073741824) (hdg : decode cc pc = .ok (.lastore, 1))
    (kk : ∀ (H1 : Heap) (locs1 : List Loc), va_P D cl (ws.set q0 (a, .inl (cA, n, .inr (.inl (vp_updL f k x))))) H1 → va_D A (ws.set q0 (a, .inl (cA, n, .inr (.inl (vp_updL f k x))))) → va_S A H0 H1 locs1 → W p l e R s m args below meth c H1 locs1 cells slots Q (F0 m (pc + 1) ls rest)) : W p l e R s m args below meth c H locs cells slots Q (F0 m pc ls (.long x :: .int (nI k) :: .ref a :: rest)) :=
  va_last hexec hb hK hP hD hS q0 t0 ha ht (vp_in_nI hkn (ob_nlt hn)) hdg (by rw [nI_clamp (Nat.lt_trans hkn (ob_nlt hn))]; exact kk)
/-- a row of an array of arrays -/
theorem ob_aald (hexec : p.tables.exec = Jvm.exec) (hb : c.code = cc) (hK : va_K D cl tys s) (hP : va_P D cl ws H) (q0 t0 : Nat) {cA : ClassId} {n : Nat} {f : Nat → Option Nat} (ha : ws[q0]? = some (a, .inl (cA, n, .inr (.inr (.inr (.inr f)))))) {ty : FieldType} (ht : tys[t0]? = some (cA, ty)) (hty : ty.isReference = true) {k r : Nat} (hkn : k < n) (hn : n ≤ 1073741824) (hr : f k = some r) (hdg : decode cc pc = .ok (.aaload, 1))
    (kk : W p l e R s m args below meth c H locs cells slots Q (F0 m (pc + 1) ls (.ref r :: rest))) : W p l e R s m args below meth c H locs cells slots Q (F0 m pc ls (.int (nI k) :: .ref a :: rest)) := by
  have hsz : (vp_cell cA (n, .inr (.inr (.inr (.inr f))))).slots.size = n := by rw [vp_cell_q, arrV_size]
  have hk2 : (nI k).toNatClampNeg = k := nI_clamp (Nat.lt_trans hkn (ob_nlt hn))
  exact W.aald (v := .ref r) hexec hb (hP q0 _ ha) ((hK.2 t0 _ ht).1 n (fun j => va_rf (f j))) hty (by rw [vp_cell_q]; exact fun h => by cases h) (by rw [hsz]; exact vp_in_nI hkn (ob_nlt hn)) (by rw [hk2, vp_cell_q, arrV_read _ hkn, hr]; rfl) rfl rfl hdg kk
end OBW
end
section
-- ===== the worlds: what the objects hold, by the addresses
abbrev ob_wX (ax : Nat) (ao al am ac : Nat → Nat) : va_W := [(ax, .inr (4, [.ref (ao 0), .ref (al 0), .ref (am 0), .ref (ac 0)]))]
abbrev ob_wO (t : Nat → ClassId) (ao : Nat → Nat) (M : Nat → Nat → Int32) : va_W := [(ao 0, .inr (3, [.ref (ao 1)])), (ao 1, .inl (t 3, 5, .inr (.inr (.inr (.inr (fun i => if i < 5 then some (ao (2 + i)) else none)))))), (ao 2, .inl (t 0, 5, .inl (M 0))), (ao 3, .inl (t 0, 5, .inl (M 1))), (ao 4, .inl (t 0, 5, .inl (M 2))), (ao 5, .inl (t 0, 5, .inl (M 3))), (ao 6, .inl (t 0, 5, .inl (M 4)))]
abbrev ob_wL (t : Nat → ClassId) (al : Nat → Nat) (n : Nat) (cl rd sv pb ba bf od : Nat → Int32) (bg : Nat → Int64) : va_W := [(al 0, .inr (1, [.ref (al 1), .ref (al 2), .ref (al 3), .ref (al 4), .ref (al 5), .ref (al 6), .ref (al 7), .ref (al 8), .int (nI n)])), (al 1, .inl (t 0, 30, .inl cl)), (al 2, .inl (t 0, 30, .inl rd)), (al 3, .inl (t 0, 30, .inl sv)), (al 4, .inl (t 2, 30, .inl pb)), (al 5, .inl (t 0, 30, .inl ba)), (al 6, .inl (t 0, 30, .inl bf)), (al 7, .inl (t 0, 30, .inl od)), (al 8, .inl (t 1, 4096, .inr (.inl bg)))]
abbrev ob_wM (t : Nat → ClassId) (am : Nat → Nat) (mn : Nat) (ms mf mt mp : Nat → Int32) : va_W := [(am 0, .inr (2, [.ref (am 1), .ref (am 2), .ref (am 3), .ref (am 4), .int (nI mn)])), (am 1, .inl (t 0, 40, .inl ms)), (am 2, .inl (t 0, 40, .inl mf)), (am 3, .inl (t 0, 40, .inl mt)), (am 4, .inl (t 0, 40, .inl mp))]
abbrev ob_wC (t : Nat → ClassId) (ac : Nat → Nat) (cn : Nat) (st : Int32) (Wt : Nat → Nat → Int32) : va_W := [(ac 0, .inr (0, [.ref (ac 1), .int st, .int (nI cn)])), (ac 1, .inl (t 3, 16, .inr (.inr (.inr (.inr (fun i => if i < 16 then some (ac (2 + i)) else none)))))), (ac 2, .inl (t 0, 16, .inl (Wt 0))), (ac 3, .inl (t 0, 16, .inl (Wt 1))), (ac 4, .inl (t 0, 16, .inl (Wt 2))), (ac 5, .inl (t 0, 16, .inl (Wt 3))), (ac 6, .inl (t 0, 16, .inl (Wt 4))), (ac 7, .inl (t 0, 16, .inl (Wt 5))), (ac 8, .inl (t 0, 16, .inl (Wt 6))), (ac 9, .inl (t 0, 16, .inl (Wt 7))), (ac 10, .inl (t 0, 16, .inl (Wt 8))), (ac 11, .inl (t 0, 16, .inl (Wt 9))), (ac 12, .inl (t 0, 16, .inl (Wt 10))), (ac 13, .inl (t 0, 16, .inl (Wt 11))), (ac 14, .inl (t 0, 16, .inl (Wt 12))), (ac 15, .inl (t 0, 16, .inl (Wt 13))), (ac 16, .inl (t 0, 16, .inl (Wt 14))), (ac 17, .inl (t 0, 16, .inl (Wt 15)))]
abbrev ob_wR (t : Nat → ClassId) (ar : Nat → Nat) (B Tr : Nat → Int32) (rn : Nat) (rcl rrd rsv rpb wf wa ro ah : Nat → Int32) (ct : Nat → Int64) (rmn : Nat) (rms rmf rmt rmp : Nat → Int32) (rcn : Nat) (sd V : Nat → Int32) (th : Int32) : va_W := [(ar 0, .inr (5, [.ref (ar 1), .ref (ar 2), .int (nI rn), .ref (ar 3), .ref (ar 4), .ref (ar 5), .ref (ar 6), .ref (ar 7), .ref (ar 8), .ref (ar 9), .ref (ar 10), .ref (ar 11), .int (nI rmn), .ref (ar 12), .ref (ar 13), .ref (ar 14), .ref (ar 15), .int (nI rcn), .ref (ar 16), .ref (ar 17), .int th])), (ar 1, .inl (t 0, 25, .inl B)), (ar 2, .inl (t 0, 25, .inl Tr)), (ar 3, .inl (t 0, 30, .inl rcl)), (ar 4, .inl (t 0, 30, .inl rrd)), (ar 5, .inl (t 0, 30, .inl rsv)), (ar 6, .inl (t 2, 30, .inl rpb)), (ar 7, .inl (t 0, 30, .inl wf)), (ar 8, .inl (t 0, 30, .inl wa)), (ar 9, .inl (t 0, 30, .inl ro)), (ar 10, .inl (t 0, 12, .inl ah)), (ar 11, .inl (t 1, 4096, .inr (.inl ct))), (ar 12, .inl (t 0, 40, .inl rms)), (ar 13, .inl (t 0, 40, .inl rmf)), (ar 14, .inl (t 0, 40, .inl rmt)), (ar 15, .inl (t 0, 40, .inl rmp)), (ar 16, .inl (t 2, 16, .inl sd)), (ar 17, .inl (t 0, 256, .inl V))]
def ob_up2 (M : Nat → Nat → Int32) (k j : Nat) (v : Int32) : Nat → Nat → Int32 := fun a => if a = k then upd (M k) j v else M a
theorem ob_up2_s {M : Nat → Nat → Int32} {k j : Nat} {v : Int32} : ob_up2 M k j v k = upd (M k) j v := if_pos rfl
theorem ob_up2_n {M : Nat → Nat → Int32} {k j a : Nat} {v : Int32} (h : a ≠ k) : ob_up2 M k j v a = M a := if_neg h
theorem ob_rO {t : Nat → ClassId} {ao : Nat → Nat} {M : Nat → Nat → Int32} {k : Nat} (h : k < 5) : (ob_wO t ao M)[2 + k]? = some (ao (2 + k), .inl (t 0, 5, .inl (M k))) := by
  match k, h with
  | 0, _ => rfl
  | 1, _ => rfl
  | 2, _ => rfl
  | 3, _ => rfl
  | 4, _ => rfl
theorem ob_sO {t : Nat → ClassId} {ao : Nat → Nat} {M : Nat → Nat → Int32} {k j : Nat} {v : Int32} (h : k < 5) : (ob_wO t ao M).set (2 + k) (ao (2 + k), .inl (t 0, 5, .inl (upd (M k) j v))) = ob_wO t ao (ob_up2 M k j v) := by
  match k, h with
  | 0, _ => rfl
  | 1, _ => rfl
  | 2, _ => rfl
  | 3, _ => rfl
  | 4, _ => rfl
theorem ob_rC {t : Nat → ClassId} {ac : Nat → Nat} {cn : Nat} {st : Int32} {Wt : Nat → Nat → Int32} {k : Nat} (h : k < 16) : (ob_wC t ac cn st Wt)[2 + k]? = some (ac (2 + k), .inl (t 0, 16, .inl (Wt k))) := by
  match k, h with
  | 0, _ => rfl
  | 1, _ => rfl
  | 2, _ => rfl
  | 3, _ => rfl
  | 4, _ => rfl
  | 5, _ => rfl
  | 6, _ => rfl
  | 7, _ => rfl
  | 8, _ => rfl
  | 9, _ => rfl
  | 10, _ => rfl
  | 11, _ => rfl
  | 12, _ => rfl
  | 13, _ => rfl
  | 14, _ => rfl
  | 15, _ => rfl
theorem ob_sC {t : Nat → ClassId} {ac : Nat → Nat} {cn : Nat} {st : Int32} {Wt : Nat → Nat → Int32} {k j : Nat} {v : Int32} (h : k < 16) : (ob_wC t ac cn st Wt).set (2 + k) (ac (2 + k), .inl (t 0, 16, .inl (upd (Wt k) j v))) = ob_wC t ac cn st (ob_up2 Wt k j v) := by
  match k, h with
  | 0, _ => rfl
  | 1, _ => rfl
  | 2, _ => rfl
  | 3, _ => rfl
  | 4, _ => rfl
  | 5, _ => rfl
  | 6, _ => rfl
  | 7, _ => rfl
  | 8, _ => rfl
  | 9, _ => rfl
  | 10, _ => rfl
  | 11, _ => rfl
  | 12, _ => rfl
  | 13, _ => rfl
  | 14, _ => rfl
  | 15, _ => rfl
-- ===== small pure words
theorem ob_n0 : nI 0 = 0 := rfl
theorem ob_n1 : nI 1 = 1 := rfl
theorem ob_cl {k : Nat} (h : k ≤ 1073741824) : (nI k).toNatClampNeg = k := nI_clamp (ob_nlt h)
theorem ob_ti {k : Nat} (h : k ≤ 1073741824) : (nI k).toInt = (k : Int) := nI_toInt (ob_nlt h)
theorem ob_lei {x y : Int32} : x ≤ y ↔ x.toInt ≤ y.toInt := Int32.le_iff_toInt_le
theorem ob_lti {x y : Int32} : x < y ↔ x.toInt < y.toInt := Int32.lt_iff_toInt_lt
theorem ob_toI {x : Int32} {n : Nat} (h0 : 0 ≤ x.toInt) (h : x.toInt ≤ (n : Int)) (hn : n ≤ 1073741824) : ∃ j : Nat, j ≤ n ∧ x = nI j := by
  have hv : vp_in x (n + 1) := vp_in_iff.mpr ⟨h0, by omega⟩
  obtain ⟨j, hj, e⟩ := vp_in_of hv (by omega)
  exact ⟨j, by omega, e⟩
/-- within two bounds -/
def ob_wi (v lo hi : Int32) : Bool := decide (lo ≤ v) && decide (v ≤ hi)
theorem ob_wi_lo {v lo hi : Int32} (h : v < lo) : ob_wi v lo hi = false := by
  have : ¬ lo ≤ v := Int32.not_le.mpr h
  simp [ob_wi, this]
theorem ob_wi_hi {v lo hi : Int32} (h : hi < v) : ob_wi v lo hi = false := by
  have : ¬ v ≤ hi := Int32.not_le.mpr h
  simp [ob_wi, this]
theorem ob_wi_ok {v lo hi : Int32} (h : ¬ v < lo) (h2 : ¬ hi < v) : ob_wi v lo hi = true := by
  have := Int32.not_lt.mp h
  have := Int32.not_lt.mp h2
  simp [ob_wi, *]
theorem ob_wi_t {v : Int32} {b : Nat} (h : ob_wi v (nI 0) (nI b) = true) (hb : b ≤ 1073741824 := by decide) : ∃ j : Nat, j ≤ b ∧ v = nI j := by
  simp only [ob_wi, Bool.and_eq_true, decide_eq_true_eq, ob_lei, ob_ti hb] at h
  exact ob_toI (by have := h.1; rw [ob_ti (by decide)] at this; simpa using this) h.2 hb
theorem ob_wi_nI {a b : Nat} (h : a ≤ b) (hb : b ≤ 1073741824) : ob_wi (nI a) (nI 0) (nI b) = true := by
  simp only [ob_wi, Bool.and_eq_true, decide_eq_true_eq, ob_lei, ob_ti hb, ob_ti (Nat.le_trans h hb), ob_ti (show 0 ≤ 1073741824 by decide)]
  omega
/-- a number of one of n things -/
def ob_hd (n : Nat) (x : Int32) : Bool := decide (0 ≤ x.toInt ∧ x.toInt < (n : Int))
theorem ob_hd_t {n : Nat} {x : Int32} (h : ob_hd n x = true) (hn : n ≤ 1073741824 := by omega) : ∃ j : Nat, j < n ∧ x = nI j := by
  have h1 := of_decide_eq_true h
  exact vp_in_of (vp_in_iff.mpr h1) (by omega)
theorem ob_hd_nI {n j : Nat} (h : j < n) (hn : n ≤ 1073741824 := by omega) : ob_hd n (nI j) = true := by
  refine decide_eq_true ?_
  rw [ob_ti (by omega)]
  omega
theorem ob_hd_neg {n : Nat} {x : Int32} (h : x < 0) : ob_hd n x = false := by
  refine decide_eq_false ?_
  have := ob_lti.mp h
  intro q
  have h0 : (0 : Int32).toInt = 0 := rfl
  omega
theorem ob_hd_ge {n k : Nat} {x : Int32} (h : nI k ≤ x) (hn : n ≤ k) (hk : k ≤ 1073741824 := by omega) : ob_hd n x = false := by
  refine decide_eq_false ?_
  have := ob_lei.mp h
  rw [ob_ti hk] at this
  omega
theorem ob_hd_ok {n : Nat} {x : Int32} (h0 : ¬ x < 0) (h : ¬ nI n ≤ x) (hn : n ≤ 1073741824 := by omega) : ob_hd n x = true := by
  refine decide_eq_true ?_
  have h1 := Int32.not_lt.mp h0
  have h2 := Int32.not_le.mp h
  rw [ob_lei] at h1
  rw [ob_lti, ob_ti hn] at h2
  have h3 : (0 : Int32).toInt = 0 := rfl
  omega
theorem ob_hd_m1 {n : Nat} : ob_hd n (-1) = false := rfl
-- bits
def ob_bit (k : Int32) : Int32 := nI 1 <<< (k &&& 31)
def ob_hb (x k : Int32) : Bool := !decide (x &&& ob_bit k = 0)
-- the clocks
def ob_ms (M : Nat → Nat → Int32) (a b : Int32) : Int32 := if ob_wi a (nI 0) (nI 4) && ob_wi b (nI 0) (nI 4) then M a.toNatClampNeg b.toNatClampNeg else 1000000
theorem ob_ms_1 {M : Nat → Nat → Int32} {a b : Int32} (h : ob_wi a (nI 0) (nI 4) = false) : ob_ms M a b = 1000000 := by simp [ob_ms, h]
theorem ob_ms_2 {M : Nat → Nat → Int32} {a b : Int32} (h : ob_wi b (nI 0) (nI 4) = false) : ob_ms M a b = 1000000 := by simp [ob_ms, h]
theorem ob_ms_nI {M : Nat → Nat → Int32} {a b : Nat} (h : a ≤ 4) (h2 : b ≤ 4) : ob_ms M (nI a) (nI b) = M a b := by
  unfold ob_ms
  rw [ob_wi_nI h (by decide), ob_wi_nI h2 (by decide), ob_cl (by omega), ob_cl (by omega)]
  rfl
-- the lines
def ob_at (n : Nat) (od : Nat → Int32) (p : Int32) : Int32 := if ob_hd n p then od p.toNatClampNeg else -1
theorem ob_at_nI {n k : Nat} {od : Nat → Int32} (h : k < n) (hn : n ≤ 1073741824 := by omega) : ob_at n od (nI k) = od k := by
  unfold ob_at
  rw [ob_hd_nI h hn, ob_cl (by omega)]
  rfl
/-- told and not doubtful -/
def ob_st (pb ba : Nat → Int32) (k : Nat) : Bool := !decide (pb k = 0) && !decide (ba k < 0)
/-- surely earlier, by the readings and the bound of the clocks -/
def ob_se (M : Nat → Nat → Int32) (cl rd : Nat → Int32) (i j : Nat) : Bool := decide (ob_ms M (cl i) (cl j) < 1000000) && decide (rd i + ob_ms M (cl i) (cl j) < rd j)
end
section
set_option maxRecDepth 100000 in
set_option maxHeartbeats 4000000 in
/-- lo ≤ v ≤ hi -/
theorem c_X4_isWithin (l : Launch) (D : va_G) (t : Nat → ClassId) (v lo hi : Int32) : Met l yX4_isWithin wsX4_isWithin ({ frames := 0, cells := 0, slots := 0, locals := 0 } : Room) (ob_Pp D t ([]) [.int v, .int lo, .int hi]) (vp_Si (fun r : Int32 => r = ob_bi (ob_wi v lo hi))) 0 0 (fun _ => False) := by
  refine Met.ofW (cc := cX4_isWithin) (maxL := 3) (ret := (some .boolean)) (by decide) rfl ?_
  intro p e s m args below meth c s₁ B hml hv
  obtain ⟨rfl, hP, hk⟩ := hv
  have hx := B.exec
  have hb := B.bytes
  have hr := B.returns
  have hts := atoms_spec (ws := wsX4_isWithin) B.pre
  have hown : s.vm.findClass RX4 = some m.cls := findClass_of_methodNamed B.named
  have hlocks := B.notSynchronized
  have hK := hk.1
  have hl := lv_entry [.int v, .int lo, .int hi] (n := 3) (Nat.le_of_ble_eq_true rfl)
  rw [lg_entry_eq]
  generalize (lg_sl [.int v, .int lo, .int hi] ++ List.replicate (3 - (lg_sl [.int v, .int lo, .int hi]).length) Slot.unset).toArray = ls at hl ⊢
  have hl : lv_has ls 3 [(0, .int v), (1, .int lo), (2, .int hi)] := hl
  refine lv_iload_n hx hb dX4_isWithin_0 rfl (lv_at hl 0 rfl) ?_
  refine lv_iload_n hx hb dX4_isWithin_1 rfl (lv_at hl 1 rfl) ?_
  refine lv_icmp_lt (tgt := 14) hx hb dX4_isWithin_2 (by decide) (fun c2 => ?_) (fun c2 => ?_)
  · refine lv_iconst (v := nI 0) hx hb dX4_isWithin_14 (by decide) ?_
    exact W.zret (v := nI 0) hx hb hr rfl (fun t9 ht hW => ⟨nI 0, rfl, (by first | (rw [ob_wi_lo c2]; rfl) | (rw [ob_wi_hi c7]; rfl) | (rw [ob_wi_ok c2 c7]; rfl)), ht⟩) (fun _ h => absurd h List.not_mem_nil) dX4_isWithin_15
  · refine lv_iload_n hx hb dX4_isWithin_5 rfl (lv_at hl 0 rfl) ?_
    refine lv_iload_n hx hb dX4_isWithin_6 rfl (lv_at hl 2 rfl) ?_
    refine lv_icmp_gt (tgt := 14) hx hb dX4_isWithin_7 (by decide) (fun c7 => ?_) (fun c7 => ?_)
    · refine lv_iconst (v := nI 0) hx hb dX4_isWithin_14 (by decide) ?_
      exact W.zret (v := nI 0) hx hb hr rfl (fun t9 ht hW => ⟨nI 0, rfl, (by first | (rw [ob_wi_lo c2]; rfl) | (rw [ob_wi_hi c7]; rfl) | (rw [ob_wi_ok c2 c7]; rfl)), ht⟩) (fun _ h => absurd h List.not_mem_nil) dX4_isWithin_15
    · refine lv_iconst (v := nI 1) hx hb dX4_isWithin_10 (by decide) ?_
      refine lv_goto (tgt := 15) hx hb dX4_isWithin_11 (by decide) ?_
      exact W.zret (v := nI 1) hx hb hr rfl (fun t9 ht hW => ⟨nI 1, rfl, (by first | (rw [ob_wi_lo c2]; rfl) | (rw [ob_wi_hi c7]; rfl) | (rw [ob_wi_ok c2 c7]; rfl)), ht⟩) (fun _ h => absurd h List.not_mem_nil) dX4_isWithin_15

set_option maxRecDepth 100000 in
set_option maxHeartbeats 4000000 in
theorem c_X4_isClock (l : Launch) (D : va_G) (t : Nat → ClassId) (v : Int32) : Met l yX4_isClock wsX4_isClock ({ frames := 1, cells := 0, slots := 0, locals := 22 } : Room) (ob_Pp D t ([]) [.int v]) (vp_Si (fun r : Int32 => r = ob_bi (ob_wi v (nI 0) (nI 4)))) 0 0 (fun _ => False) := by
  refine Met.ofW (cc := cX4_isClock) (maxL := 1) (ret := (some .boolean)) (by decide) rfl ?_
  intro p e s m args below meth c s₁ B hml hv
  obtain ⟨rfl, hP, hk⟩ := hv
  have hx := B.exec
  have hb := B.bytes
  have hr := B.returns
  have hts := atoms_spec (ws := wsX4_isClock) B.pre
  have hown : s.vm.findClass RX4 = some m.cls := findClass_of_methodNamed B.named
  have hlocks := B.notSynchronized
  have hK := hk.1
  have hl := lv_entry [.int v] (n := 1) (Nat.le_of_ble_eq_true rfl)
  rw [lg_entry_eq]
  generalize (lg_sl [.int v] ++ List.replicate (1 - (lg_sl [.int v]).length) Slot.unset).toArray = ls at hl ⊢
  have hl : lv_has ls 1 [(0, .int v)] := hl
  refine lv_iload_n hx hb dX4_isClock_0 rfl (lv_at hl 0 rfl) ?_
  refine lv_iconst (v := nI 0) hx hb dX4_isClock_1 (by decide) ?_
  refine lv_iconst (v := nI 4) hx hb dX4_isClock_2 (by decide) ?_
  refine vp_callSi (va_Run.run (va_runS (As := [.int v, .int (nI 0), .int (nI 4)]) (rest := []) ⟨hx, hb, hml, hown, hts⟩ (c_X4_isWithin l D t v (nI 0) (nI 4)) (va_cwS 3 hts gX4_isClock_X4_isWithin rfl rfl rfl (by decide +kernel) ⟨Nat.le_of_ble_eq_true rfl, Nat.le_of_ble_eq_true rfl⟩) (ob_preS hP hk) rfl rfl hl.1 rfl (lv_room (Nat.le_of_ble_eq_true rfl)) dX4_isClock_3 ⟨Nat.le_of_ble_eq_true rfl, Nat.le_of_ble_eq_true rfl⟩)) (fun r9 hr9 => ?_)
  subst hr9
  exact W.zret (v := ob_bi (ob_wi v (nI 0) (nI 4))) hx hb hr (ob_narZ _) (fun t9 ht hW => ⟨ob_bi (ob_wi v (nI 0) (nI 4)), rfl, rfl, ht⟩) (fun _ h => absurd h List.not_mem_nil) dX4_isClock_6

set_option maxRecDepth 100000 in
set_option maxHeartbeats 4000000 in
theorem c_X4_isReading (l : Launch) (D : va_G) (t : Nat → ClassId) (v : Int32) : Met l yX4_isReading wsX4_isReading ({ frames := 1, cells := 0, slots := 0, locals := 22 } : Room) (ob_Pp D t ([]) [.int v]) (vp_Si (fun r : Int32 => r = ob_bi (ob_wi v (nI 0) (nI 10000)))) 0 0 (fun _ => False) := by
  refine Met.ofW (cc := cX4_isReading) (maxL := 1) (ret := (some .boolean)) (by decide) rfl ?_
  intro p e s m args below meth c s₁ B hml hv
  obtain ⟨rfl, hP, hk⟩ := hv
  have hx := B.exec
  have hb := B.bytes
  have hr := B.returns
  have hts := atoms_spec (ws := wsX4_isReading) B.pre
  have hown : s.vm.findClass RX4 = some m.cls := findClass_of_methodNamed B.named
  have hlocks := B.notSynchronized
  have hK := hk.1
  have hl := lv_entry [.int v] (n := 1) (Nat.le_of_ble_eq_true rfl)
  rw [lg_entry_eq]
  generalize (lg_sl [.int v] ++ List.replicate (1 - (lg_sl [.int v]).length) Slot.unset).toArray = ls at hl ⊢
  have hl : lv_has ls 1 [(0, .int v)] := hl
  refine lv_iload_n hx hb dX4_isReading_0 rfl (lv_at hl 0 rfl) ?_
  refine lv_iconst (v := nI 0) hx hb dX4_isReading_1 (by decide) ?_
  refine lv_sipush (v := nI 10000) hx hb dX4_isReading_2 (by decide) ?_
  refine vp_callSi (va_Run.run (va_runS (As := [.int v, .int (nI 0), .int (nI 10000)]) (rest := []) ⟨hx, hb, hml, hown, hts⟩ (c_X4_isWithin l D t v (nI 0) (nI 10000)) (va_cwS 3 hts gX4_isReading_X4_isWithin rfl rfl rfl (by decide +kernel) ⟨Nat.le_of_ble_eq_true rfl, Nat.le_of_ble_eq_true rfl⟩) (ob_preS hP hk) rfl rfl hl.1 rfl (lv_room (Nat.le_of_ble_eq_true rfl)) dX4_isReading_5 ⟨Nat.le_of_ble_eq_true rfl, Nat.le_of_ble_eq_true rfl⟩)) (fun r9 hr9 => ?_)
  subst hr9
  exact W.zret (v := ob_bi (ob_wi v (nI 0) (nI 10000))) hx hb hr (ob_narZ _) (fun t9 ht hW => ⟨ob_bi (ob_wi v (nI 0) (nI 10000)), rfl, rfl, ht⟩) (fun _ h => absurd h List.not_mem_nil) dX4_isReading_8

set_option maxRecDepth 100000 in
set_option maxHeartbeats 4000000 in
theorem c_X4_isService (l : Launch) (D : va_G) (t : Nat → ClassId) (v : Int32) : Met l yX4_isService wsX4_isService ({ frames := 1, cells := 0, slots := 0, locals := 22 } : Room) (ob_Pp D t ([]) [.int v]) (vp_Si (fun r : Int32 => r = ob_bi (ob_wi v (nI 0) (nI 5)))) 0 0 (fun _ => False) := by
  refine Met.ofW (cc := cX4_isService) (maxL := 1) (ret := (some .boolean)) (by decide) rfl ?_
  intro p e s m args below meth c s₁ B hml hv
  obtain ⟨rfl, hP, hk⟩ := hv
  have hx := B.exec
  have hb := B.bytes
  have hr := B.returns
  have hts := atoms_spec (ws := wsX4_isService) B.pre
  have hown : s.vm.findClass RX4 = some m.cls := findClass_of_methodNamed B.named
  have hlocks := B.notSynchronized
  have hK := hk.1
  have hl := lv_entry [.int v] (n := 1) (Nat.le_of_ble_eq_true rfl)
  rw [lg_entry_eq]
  generalize (lg_sl [.int v] ++ List.replicate (1 - (lg_sl [.int v]).length) Slot.unset).toArray = ls at hl ⊢
  have hl : lv_has ls 1 [(0, .int v)] := hl
  refine lv_iload_n hx hb dX4_isService_0 rfl (lv_at hl 0 rfl) ?_
  refine lv_iconst (v := nI 0) hx hb dX4_isService_1 (by decide) ?_
  refine lv_iconst (v := nI 5) hx hb dX4_isService_2 (by decide) ?_
  refine vp_callSi (va_Run.run (va_runS (As := [.int v, .int (nI 0), .int (nI 5)]) (rest := []) ⟨hx, hb, hml, hown, hts⟩ (c_X4_isWithin l D t v (nI 0) (nI 5)) (va_cwS 3 hts gX4_isService_X4_isWithin rfl rfl rfl (by decide +kernel) ⟨Nat.le_of_ble_eq_true rfl, Nat.le_of_ble_eq_true rfl⟩) (ob_preS hP hk) rfl rfl hl.1 rfl (lv_room (Nat.le_of_ble_eq_true rfl)) dX4_isService_3 ⟨Nat.le_of_ble_eq_true rfl, Nat.le_of_ble_eq_true rfl⟩)) (fun r9 hr9 => ?_)
  subst hr9
  exact W.zret (v := ob_bi (ob_wi v (nI 0) (nI 5))) hx hb hr (ob_narZ _) (fun t9 ht hW => ⟨ob_bi (ob_wi v (nI 0) (nI 5)), rfl, rfl, ht⟩) (fun _ h => absurd h List.not_mem_nil) dX4_isService_6

set_option maxRecDepth 100000 in
set_option maxHeartbeats 4000000 in
theorem c_X4_bit (l : Launch) (D : va_G) (t : Nat → ClassId) (k : Int32) : Met l yX4_bit wsX4_bit ({ frames := 0, cells := 0, slots := 0, locals := 0 } : Room) (ob_Pp D t ([]) [.int k]) (vp_Si (fun r : Int32 => r = ob_bit k)) 0 0 (fun _ => False) := by
  refine Met.ofW (cc := cX4_bit) (maxL := 1) (ret := (some .int)) (by decide) rfl ?_
  intro p e s m args below meth c s₁ B hml hv
  obtain ⟨rfl, hP, hk⟩ := hv
  have hx := B.exec
  have hb := B.bytes
  have hr := B.returns
  have hts := atoms_spec (ws := wsX4_bit) B.pre
  have hown : s.vm.findClass RX4 = some m.cls := findClass_of_methodNamed B.named
  have hlocks := B.notSynchronized
  have hK := hk.1
  have hl := lv_entry [.int k] (n := 1) (Nat.le_of_ble_eq_true rfl)
  rw [lg_entry_eq]
  generalize (lg_sl [.int k] ++ List.replicate (1 - (lg_sl [.int k]).length) Slot.unset).toArray = ls at hl ⊢
  have hl : lv_has ls 1 [(0, .int k)] := hl
  refine lv_iconst (v := nI 1) hx hb dX4_bit_0 (by decide) ?_
  refine lv_iload_n hx hb dX4_bit_1 rfl (lv_at hl 0 rfl) ?_
  refine lv_ishl hx hb dX4_bit_2 ?_
  exact W.iret (v := (nI 1) <<< (k &&& 31)) hx hb hr (fun t9 ht hW => ⟨(nI 1) <<< (k &&& 31), rfl, rfl, ht⟩) (fun _ h => absurd h List.not_mem_nil) dX4_bit_3

set_option maxRecDepth 100000 in
set_option maxHeartbeats 4000000 in
theorem c_X4_hasBit (l : Launch) (D : va_G) (t : Nat → ClassId) (x k : Int32) : Met l yX4_hasBit wsX4_hasBit ({ frames := 1, cells := 0, slots := 0, locals := 20 } : Room) (ob_Pp D t ([]) [.int x, .int k]) (vp_Si (fun r : Int32 => r = ob_bi (ob_hb x k))) 0 0 (fun _ => False) := by
  refine Met.ofW (cc := cX4_hasBit) (maxL := 2) (ret := (some .boolean)) (by decide) rfl ?_
  intro p e s m args below meth c s₁ B hml hv
  obtain ⟨rfl, hP, hk⟩ := hv
  have hx := B.exec
  have hb := B.bytes
  have hr := B.returns
  have hts := atoms_spec (ws := wsX4_hasBit) B.pre
  have hown : s.vm.findClass RX4 = some m.cls := findClass_of_methodNamed B.named
  have hlocks := B.notSynchronized
  have hK := hk.1
  have hl := lv_entry [.int x, .int k] (n := 2) (Nat.le_of_ble_eq_true rfl)
  rw [lg_entry_eq]
  generalize (lg_sl [.int x, .int k] ++ List.replicate (2 - (lg_sl [.int x, .int k]).length) Slot.unset).toArray = ls at hl ⊢
  have hl : lv_has ls 2 [(0, .int x), (1, .int k)] := hl
  refine lv_iload_n hx hb dX4_hasBit_0 rfl (lv_at hl 0 rfl) ?_
  refine lv_iload_n hx hb dX4_hasBit_1 rfl (lv_at hl 1 rfl) ?_
  refine vp_callSi (va_Run.run (va_runS (As := [.int k]) (rest := [.int x]) ⟨hx, hb, hml, hown, hts⟩ (c_X4_bit l D t k) (va_cwS 1 hts gX4_hasBit_X4_bit rfl rfl rfl (by decide +kernel) ⟨Nat.le_of_ble_eq_true rfl, Nat.le_of_ble_eq_true rfl⟩) (ob_preS hP hk) rfl rfl hl.1 rfl (lv_room (Nat.le_of_ble_eq_true rfl)) dX4_hasBit_2 ⟨Nat.le_of_ble_eq_true rfl, Nat.le_of_ble_eq_true rfl⟩)) (fun r9 hr9 => ?_)
  subst hr9
  refine lv_iand hx hb dX4_hasBit_5 ?_
  refine lv_if_eq (tgt := 13) hx hb dX4_hasBit_6 (by decide) (fun c6 => ?_) (fun c6 => ?_)
  · refine lv_iconst (v := nI 0) hx hb dX4_hasBit_13 (by decide) ?_
    exact W.zret (v := nI 0) hx hb hr rfl (fun t9 ht hW => ⟨nI 0, rfl, (by simp [ob_hb, c6, ob_n0, ob_n1, ob_bi]), ht⟩) (fun _ h => absurd h List.not_mem_nil) dX4_hasBit_14
  · refine lv_iconst (v := nI 1) hx hb dX4_hasBit_9 (by decide) ?_
    refine lv_goto (tgt := 14) hx hb dX4_hasBit_10 (by decide) ?_
    exact W.zret (v := nI 1) hx hb hr rfl (fun t9 ht hW => ⟨nI 1, rfl, (by simp [ob_hb, c6, ob_n0, ob_n1, ob_bi]), ht⟩) (fun _ h => absurd h List.not_mem_nil) dX4_hasBit_14

set_option maxRecDepth 100000 in
set_option maxHeartbeats 4000000 in
theorem c_X3_most (l : Launch) (D : va_G) (t : Nat → ClassId) (ao : Nat → Nat) (M : Nat → Nat → Int32) (a b : Int32) : Met l yX3_most wsX3_most ({ frames := 2, cells := 0, slots := 0, locals := 42 } : Room) (ob_Pp D t (ob_wO t ao M) [.ref (ao 0), .int a, .int b]) (vp_Si (fun r : Int32 => r = ob_ms M a b)) 0 0 (fun _ => False) := by
  refine Met.ofW (cc := cX3_most) (maxL := 3) (ret := (some .int)) (by decide) rfl ?_
  intro p e s m args below meth c s₁ B hml hv
  obtain ⟨rfl, hP, hk⟩ := hv
  have hx := B.exec
  have hb := B.bytes
  have hr := B.returns
  have hts := atoms_spec (ws := wsX3_most) B.pre
  have hown : s.vm.findClass RX3 = some m.cls := findClass_of_methodNamed B.named
  have hlocks := B.notSynchronized
  have hK := hk.1
  have hl := lv_entry [.ref (ao 0), .int a, .int b] (n := 3) (Nat.le_of_ble_eq_true rfl)
  rw [lg_entry_eq]
  generalize (lg_sl [.ref (ao 0), .int a, .int b] ++ List.replicate (3 - (lg_sl [.ref (ao 0), .int a, .int b]).length) Slot.unset).toArray = ls at hl ⊢
  have hl : lv_has ls 3 [(0, .ref (ao 0)), (1, .int a), (2, .int b)] := hl
  refine lv_iload_n hx hb dX3_most_0 rfl (lv_at hl 1 rfl) ?_
  refine vp_callSi (va_Run.run (va_runSN (As := [.int a]) (rest := []) ⟨hx, hb, hml, hown, hts⟩ (c_X4_isClock l D t a) ⟨va_cnB 1 hts gX3_most_X4_isClock_n17 rfl rfl rfl hk.2.2.2.2.2.2 (hts (Cond.initialized RX4) (List.mem_of_getElem? (i := 4) rfl)) (by decide +kernel) ⟨Nat.le_of_ble_eq_true rfl, Nat.le_of_ble_eq_true rfl⟩, (hts (Cond.static yX4_isClock) (List.mem_of_getElem? (i := 3) rfl)), trivial⟩ (ob_preS (hP.sub [] rfl) hk) rfl rfl hl.1 rfl (lv_room (Nat.le_of_ble_eq_true rfl)) dX3_most_1 ⟨Nat.le_of_ble_eq_true rfl, Nat.le_of_ble_eq_true rfl⟩)) (fun r9 hr9 => ?_)
  subst hr9
  refine ob_if_eq (tgt := 14) hx hb dX3_most_4 (by decide) (fun c4 => ?_) (fun c4 => ?_)
  · refine lv_ldc (v := 1000000) hx hb hown (hts (Cond.constant RX3 16 (1000000)) (List.mem_of_getElem? (i := 1) rfl)) dX3_most_14 ?_
    exact W.iret (v := 1000000) hx hb hr (fun t9 ht hW => ⟨1000000, rfl, (by first | rw [ob_ms_1 c4] | rw [ob_ms_2 c11]), ht⟩) (fun _ h => absurd h List.not_mem_nil) dX3_most_16
  · refine lv_iload_n hx hb dX3_most_7 rfl (lv_at hl 2 rfl) ?_
    refine vp_callSi (va_Run.run (va_runSN (As := [.int b]) (rest := []) ⟨hx, hb, hml, hown, hts⟩ (c_X4_isClock l D t b) ⟨va_cnB 1 hts gX3_most_X4_isClock_n17 rfl rfl rfl hk.2.2.2.2.2.2 (hts (Cond.initialized RX4) (List.mem_of_getElem? (i := 4) rfl)) (by decide +kernel) ⟨Nat.le_of_ble_eq_true rfl, Nat.le_of_ble_eq_true rfl⟩, (hts (Cond.static yX4_isClock) (List.mem_of_getElem? (i := 3) rfl)), trivial⟩ (ob_preS (hP.sub [] rfl) hk) rfl rfl hl.1 rfl (lv_room (Nat.le_of_ble_eq_true rfl)) dX3_most_8 ⟨Nat.le_of_ble_eq_true rfl, Nat.le_of_ble_eq_true rfl⟩)) (fun r9 hr9 => ?_)
    subst hr9
    refine ob_if_ne (tgt := 17) hx hb dX3_most_11 (by decide) (fun c11 => ?_) (fun c11 => ?_)
    · obtain ⟨j1, h1, rfl⟩ := ob_wi_t c4
      obtain ⟨j2, h2, rfl⟩ := ob_wi_t c11
      refine lv_aload_n hx hb dX3_most_17 rfl (lv_at hl 0 rfl) ?_
      refine va_get (ci := 3) (C := RX3) (T := TX3) (N := 1) hx hb hts (fun w h => List.mem_cons_of_mem _ (List.mem_append_right _ (h))) hown hK hP 0 rfl rfl 0 (by decide) (hts (Cond.fieldLink RX3 11 "OutageBook$Offsets" "differences" "[[I") (List.mem_of_getElem? (i := 2) rfl)) (fun _ h9 => h9) rfl dX3_most_18 ?_
      refine lv_iload_n hx hb dX3_most_21 rfl (lv_at hl 1 rfl) ?_
      refine ob_aald (r := ao (2 + j1)) hx hb hK hP 1 3 rfl rfl rfl (show j1 < 5 from (by omega)) (by decide) (if_pos (by omega)) dX3_most_22 ?_
      refine lv_iload_n hx hb dX3_most_23 rfl (lv_at hl 2 rfl) ?_
      refine ob_iald hx hb hK hP (2 + j1) 0 (ob_rO (by omega)) rfl (by omega) (by decide) dX3_most_24 ?_
      exact W.iret (v := (M j1) j2) hx hb hr (fun t9 ht hW => ⟨(M j1) j2, rfl, (ob_ms_nI h1 h2).symm, ht⟩) (fun _ h => absurd h List.not_mem_nil) dX3_most_25
    · refine lv_ldc (v := 1000000) hx hb hown (hts (Cond.constant RX3 16 (1000000)) (List.mem_of_getElem? (i := 1) rfl)) dX3_most_14 ?_
      exact W.iret (v := 1000000) hx hb hr (fun t9 ht hW => ⟨1000000, rfl, (by first | rw [ob_ms_1 c4] | rw [ob_ms_2 c11]), ht⟩) (fun _ h => absurd h List.not_mem_nil) dX3_most_16

set_option maxRecDepth 100000 in
set_option maxHeartbeats 4000000 in
theorem c_X3_allows (l : Launch) (D : va_G) (t : Nat → ClassId) (ao : Nat → Nat) (M : Nat → Nat → Int32) (a b x : Int32) : Met l yX3_allows wsX3_allows ({ frames := 3, cells := 0, slots := 0, locals := 64 } : Room) (ob_Pp D t (ob_wO t ao M) [.ref (ao 0), .int a, .int b, .int x]) (vp_Si (fun r : Int32 => r = ob_bi (decide (-x ≤ ob_ms M b a)))) 0 0 (fun _ => False) := by
  refine Met.ofW (cc := cX3_allows) (maxL := 4) (ret := (some .boolean)) (by decide) rfl ?_
  intro p e s m args below meth c s₁ B hml hv
  obtain ⟨rfl, hP, hk⟩ := hv
  have hx := B.exec
  have hb := B.bytes
  have hr := B.returns
  have hts := atoms_spec (ws := wsX3_allows) B.pre
  have hown : s.vm.findClass RX3 = some m.cls := findClass_of_methodNamed B.named
  have hlocks := B.notSynchronized
  have hK := hk.1
  have hl := lv_entry [.ref (ao 0), .int a, .int b, .int x] (n := 4) (Nat.le_of_ble_eq_true rfl)
  rw [lg_entry_eq]
  generalize (lg_sl [.ref (ao 0), .int a, .int b, .int x] ++ List.replicate (4 - (lg_sl [.ref (ao 0), .int a, .int b, .int x]).length) Slot.unset).toArray = ls at hl ⊢
  have hl : lv_has ls 4 [(0, .ref (ao 0)), (1, .int a), (2, .int b), (3, .int x)] := hl
  refine lv_iload_n hx hb dX3_allows_0 rfl (lv_at hl 3 rfl) ?_
  refine lv_ineg hx hb dX3_allows_1 ?_
  refine lv_aload_n hx hb dX3_allows_2 rfl (lv_at hl 0 rfl) ?_
  refine lv_iload_n hx hb dX3_allows_3 rfl (lv_at hl 2 rfl) ?_
  refine lv_iload_n hx hb dX3_allows_4 rfl (lv_at hl 1 rfl) ?_
  refine vp_callSi (va_Run.run (va_runV (As := [.int b, .int a]) (rest := [.int (-x)]) ⟨hx, hb, hml, hown, hts⟩ (c_X3_most l D t ao M b a) (cwV 2 hts gX3_allows_X3_most rfl rfl rfl (by decide +kernel) ⟨Nat.le_of_ble_eq_true rfl, Nat.le_of_ble_eq_true rfl⟩) (ob_preV (ci := 3) (q0 := 0) hP hk rfl rfl) rfl rfl hl.1 rfl (lv_room (Nat.le_of_ble_eq_true rfl)) dX3_allows_5 ⟨Nat.le_of_ble_eq_true rfl, Nat.le_of_ble_eq_true rfl⟩)) (fun r9 hr9 => ?_)
  subst hr9
  refine lv_icmp_gt (tgt := 15) hx hb dX3_allows_8 (by decide) (fun c8 => ?_) (fun c8 => ?_)
  · refine lv_iconst (v := nI 0) hx hb dX3_allows_15 (by decide) ?_
    exact W.zret (v := nI 0) hx hb hr rfl (fun t9 ht hW => ⟨nI 0, rfl, (by first | (have := Int32.not_le.mpr c8; simp [this, ob_n0, ob_bi]) | (have := Int32.not_lt.mp c8; simp [this, ob_n1, ob_bi])), ht⟩) (fun _ h => absurd h List.not_mem_nil) dX3_allows_16
  · refine lv_iconst (v := nI 1) hx hb dX3_allows_11 (by decide) ?_
    refine lv_goto (tgt := 16) hx hb dX3_allows_12 (by decide) ?_
    exact W.zret (v := nI 1) hx hb hr rfl (fun t9 ht hW => ⟨nI 1, rfl, (by first | (have := Int32.not_le.mpr c8; simp [this, ob_n0, ob_bi]) | (have := Int32.not_lt.mp c8; simp [this, ob_n1, ob_bi])), ht⟩) (fun _ h => absurd h List.not_mem_nil) dX3_allows_16

set_option maxRecDepth 100000 in
set_option maxHeartbeats 4000000 in
theorem c_X1_size (l : Launch) (D : va_G) (t : Nat → ClassId) (al : Nat → Nat) (n : Nat) (cl rd sv pb ba bf od : Nat → Int32) (bg : Nat → Int64) : Met l yX1_size wsX1_size ({ frames := 0, cells := 0, slots := 0, locals := 0 } : Room) (ob_Pp D t (ob_wL t al n cl rd sv pb ba bf od bg) [.ref (al 0)]) (vp_Si (fun r : Int32 => r = nI n)) 0 0 (fun _ => False) := by
  refine Met.ofW (cc := cX1_size) (maxL := 1) (ret := (some .int)) (by decide) rfl ?_
  intro p e s m args below meth c s₁ B hml hv
  obtain ⟨rfl, hP, hk⟩ := hv
  have hx := B.exec
  have hb := B.bytes
  have hr := B.returns
  have hts := atoms_spec (ws := wsX1_size) B.pre
  have hown : s.vm.findClass RX1 = some m.cls := findClass_of_methodNamed B.named
  have hlocks := B.notSynchronized
  have hK := hk.1
  have hl := lv_entry [.ref (al 0)] (n := 1) (Nat.le_of_ble_eq_true rfl)
  rw [lg_entry_eq]
  generalize (lg_sl [.ref (al 0)] ++ List.replicate (1 - (lg_sl [.ref (al 0)]).length) Slot.unset).toArray = ls at hl ⊢
  have hl : lv_has ls 1 [(0, .ref (al 0))] := hl
  refine lv_aload_n hx hb dX1_size_0 rfl (lv_at hl 0 rfl) ?_
  refine va_get (ci := 1) (C := RX1) (T := TX1) (N := 9) hx hb hts (fun w h => List.mem_cons_of_mem _ (List.mem_append_right _ (h))) hown hK hP 0 rfl rfl 8 (by decide) (hts (Cond.fieldLink RX1 38 "OutageBook$Log" "count" "I") (List.mem_of_getElem? (i := 1) rfl)) (fun _ h9 => h9) rfl dX1_size_1 ?_
  exact W.iret (v := nI n) hx hb hr (fun t9 ht hW => ⟨nI n, rfl, rfl, ht⟩) (fun _ h => absurd h List.not_mem_nil) dX1_size_4

set_option maxRecDepth 100000 in
set_option maxHeartbeats 4000000 in
theorem c_X1_holds (l : Launch) (D : va_G) (t : Nat → ClassId) (al : Nat → Nat) (n : Nat) (cl rd sv pb ba bf od : Nat → Int32) (bg : Nat → Int64) (x : Int32) (hn : n ≤ 30) : Met l yX1_holds wsX1_holds ({ frames := 0, cells := 0, slots := 0, locals := 0 } : Room) (ob_Pp D t (ob_wL t al n cl rd sv pb ba bf od bg) [.ref (al 0), .int x]) (vp_Si (fun r : Int32 => r = ob_bi (ob_hd n x))) 0 0 (fun _ => False) := by
  refine Met.ofW (cc := cX1_holds) (maxL := 2) (ret := (some .boolean)) (by decide) rfl ?_
  intro p e s m args below meth c s₁ B hml hv
  obtain ⟨rfl, hP, hk⟩ := hv
  have hx := B.exec
  have hb := B.bytes
  have hr := B.returns
  have hts := atoms_spec (ws := wsX1_holds) B.pre
  have hown : s.vm.findClass RX1 = some m.cls := findClass_of_methodNamed B.named
  have hlocks := B.notSynchronized
  have hK := hk.1
  have hl := lv_entry [.ref (al 0), .int x] (n := 2) (Nat.le_of_ble_eq_true rfl)
  rw [lg_entry_eq]
  generalize (lg_sl [.ref (al 0), .int x] ++ List.replicate (2 - (lg_sl [.ref (al 0), .int x]).length) Slot.unset).toArray = ls at hl ⊢
  have hl : lv_has ls 2 [(0, .ref (al 0)), (1, .int x)] := hl
  refine lv_iload_n hx hb dX1_holds_0 rfl (lv_at hl 1 rfl) ?_
  refine lv_if_lt (tgt := 22) hx hb dX1_holds_1 (by decide) (fun c1 => ?_) (fun c1 => ?_)
  · refine lv_iconst (v := nI 0) hx hb dX1_holds_22 (by decide) ?_
    exact W.zret (v := nI 0) hx hb hr rfl (fun t9 ht hW => ⟨nI 0, rfl, (by first | (rw [ob_hd_neg c1]; rfl) | (rw [ob_hd_ge c9 (Nat.le_refl _)]; rfl) | (rw [ob_hd_ge c15 hn]; rfl) | (rw [ob_hd_ok c1 c9]; rfl)), ht⟩) (fun _ h => absurd h List.not_mem_nil) dX1_holds_23
  · refine lv_iload_n hx hb dX1_holds_4 rfl (lv_at hl 1 rfl) ?_
    refine lv_aload_n hx hb dX1_holds_5 rfl (lv_at hl 0 rfl) ?_
    refine va_get (ci := 1) (C := RX1) (T := TX1) (N := 9) hx hb hts (fun w h => List.mem_cons_of_mem _ (List.mem_append_right _ (h))) hown hK hP 0 rfl rfl 8 (by decide) (hts (Cond.fieldLink RX1 38 "OutageBook$Log" "count" "I") (List.mem_of_getElem? (i := 1) rfl)) (fun _ h9 => h9) rfl dX1_holds_6 ?_
    refine lv_icmp_ge (tgt := 22) hx hb dX1_holds_9 (by decide) (fun c9 => ?_) (fun c9 => ?_)
    · refine lv_iconst (v := nI 0) hx hb dX1_holds_22 (by decide) ?_
      exact W.zret (v := nI 0) hx hb hr rfl (fun t9 ht hW => ⟨nI 0, rfl, (by first | (rw [ob_hd_neg c1]; rfl) | (rw [ob_hd_ge c9 (Nat.le_refl _)]; rfl) | (rw [ob_hd_ge c15 hn]; rfl) | (rw [ob_hd_ok c1 c9]; rfl)), ht⟩) (fun _ h => absurd h List.not_mem_nil) dX1_holds_23
    · refine lv_iload_n hx hb dX1_holds_12 rfl (lv_at hl 1 rfl) ?_
      refine lv_bipush (v := nI 30) hx hb dX1_holds_13 (by decide) ?_
      refine lv_icmp_ge (tgt := 22) hx hb dX1_holds_15 (by decide) (fun c15 => ?_) (fun c15 => ?_)
      · refine lv_iconst (v := nI 0) hx hb dX1_holds_22 (by decide) ?_
        exact W.zret (v := nI 0) hx hb hr rfl (fun t9 ht hW => ⟨nI 0, rfl, (by first | (rw [ob_hd_neg c1]; rfl) | (rw [ob_hd_ge c9 (Nat.le_refl _)]; rfl) | (rw [ob_hd_ge c15 hn]; rfl) | (rw [ob_hd_ok c1 c9]; rfl)), ht⟩) (fun _ h => absurd h List.not_mem_nil) dX1_holds_23
      · refine lv_iconst (v := nI 1) hx hb dX1_holds_18 (by decide) ?_
        refine lv_goto (tgt := 23) hx hb dX1_holds_19 (by decide) ?_
        exact W.zret (v := nI 1) hx hb hr rfl (fun t9 ht hW => ⟨nI 1, rfl, (by first | (rw [ob_hd_neg c1]; rfl) | (rw [ob_hd_ge c9 (Nat.le_refl _)]; rfl) | (rw [ob_hd_ge c15 hn]; rfl) | (rw [ob_hd_ok c1 c9]; rfl)), ht⟩) (fun _ h => absurd h List.not_mem_nil) dX1_holds_23

set_option maxRecDepth 100000 in
set_option maxHeartbeats 4000000 in
theorem c_X1_isBefore (l : Launch) (D : va_G) (t : Nat → ClassId) (al : Nat → Nat) (n : Nat) (cl rd sv pb ba bf od : Nat → Int32) (bg : Nat → Int64) (x y : Int32) (hn : n ≤ 30) : Met l yX1_isBefore wsX1_isBefore ({ frames := 2, cells := 0, slots := 0, locals := 41 } : Room) (ob_Pp D t (ob_wL t al n cl rd sv pb ba bf od bg) [.ref (al 0), .int x, .int y]) (vp_Si (fun r : Int32 => r = ob_bi (ob_hd n y && ob_hb (bf y.toNatClampNeg) x))) 0 0 (fun _ => False) := by
  refine Met.ofW (cc := cX1_isBefore) (maxL := 3) (ret := (some .boolean)) (by decide) rfl ?_
  intro p e s m args below meth c s₁ B hml hv
  obtain ⟨rfl, hP, hk⟩ := hv
  have hx := B.exec
  have hb := B.bytes
  have hr := B.returns
  have hts := atoms_spec (ws := wsX1_isBefore) B.pre
  have hown : s.vm.findClass RX1 = some m.cls := findClass_of_methodNamed B.named
  have hlocks := B.notSynchronized
  have hK := hk.1
  have hl := lv_entry [.ref (al 0), .int x, .int y] (n := 3) (Nat.le_of_ble_eq_true rfl)
  rw [lg_entry_eq]
  generalize (lg_sl [.ref (al 0), .int x, .int y] ++ List.replicate (3 - (lg_sl [.ref (al 0), .int x, .int y]).length) Slot.unset).toArray = ls at hl ⊢
  have hl : lv_has ls 3 [(0, .ref (al 0)), (1, .int x), (2, .int y)] := hl
  refine lv_aload_n hx hb dX1_isBefore_0 rfl (lv_at hl 0 rfl) ?_
  refine lv_iload_n hx hb dX1_isBefore_1 rfl (lv_at hl 2 rfl) ?_
  refine vp_callSi (va_Run.run (va_runV (As := [.int y]) (rest := []) ⟨hx, hb, hml, hown, hts⟩ (c_X1_holds l D t al n cl rd sv pb ba bf od bg y (by first | assumption | omega)) (cwV 1 hts gX1_isBefore_X1_holds rfl rfl rfl (by decide +kernel) ⟨Nat.le_of_ble_eq_true rfl, Nat.le_of_ble_eq_true rfl⟩) (ob_preV (ci := 1) (q0 := 0) hP hk rfl rfl) rfl rfl hl.1 rfl (lv_room (Nat.le_of_ble_eq_true rfl)) dX1_isBefore_2 ⟨Nat.le_of_ble_eq_true rfl, Nat.le_of_ble_eq_true rfl⟩)) (fun r9 hr9 => ?_)
  subst hr9
  refine ob_if_eq (tgt := 25) hx hb dX1_isBefore_5 (by decide) (fun c5 => ?_) (fun c5 => ?_)
  · refine lv_iconst (v := nI 0) hx hb dX1_isBefore_25 (by decide) ?_
    exact W.zret (v := nI 0) hx hb hr rfl (fun t9 ht hW => ⟨nI 0, rfl, (by first | (rw [c5]; rfl) | (rw [c5, ob_cl (by omega), c18]; rfl)), ht⟩) (fun _ h => absurd h List.not_mem_nil) dX1_isBefore_26
  · obtain ⟨j, hj, rfl⟩ := ob_hd_t c5
    refine lv_aload_n hx hb dX1_isBefore_8 rfl (lv_at hl 0 rfl) ?_
    refine va_get (ci := 1) (C := RX1) (T := TX1) (N := 9) hx hb hts (fun w h => List.mem_cons_of_mem _ (List.mem_append_right _ (h))) hown hK hP 0 rfl rfl 5 (by decide) (hts (Cond.fieldLink RX1 28 "OutageBook$Log" "before" "[I") (List.mem_of_getElem? (i := 1) rfl)) (fun _ h9 => h9) rfl dX1_isBefore_9 ?_
    refine lv_iload_n hx hb dX1_isBefore_12 rfl (lv_at hl 2 rfl) ?_
    refine ob_iald hx hb hK hP 6 0 rfl rfl (by omega) (by decide) dX1_isBefore_13 ?_
    refine lv_iload_n hx hb dX1_isBefore_14 rfl (lv_at hl 1 rfl) ?_
    refine vp_callSi (va_Run.run (va_runSN (As := [.int (bf j), .int x]) (rest := []) ⟨hx, hb, hml, hown, hts⟩ (c_X4_hasBit l D t (bf j) x) ⟨va_cnB 2 hts gX1_isBefore_X4_hasBit_n46 rfl rfl rfl hk.2.2.2.1 (hts (Cond.initialized RX4) (List.mem_of_getElem? (i := 9) rfl)) (by decide +kernel) ⟨Nat.le_of_ble_eq_true rfl, Nat.le_of_ble_eq_true rfl⟩, (hts (Cond.static yX4_hasBit) (List.mem_of_getElem? (i := 8) rfl)), trivial⟩ (ob_preS (hP.sub [] rfl) hk) rfl rfl hl.1 rfl (lv_room (Nat.le_of_ble_eq_true rfl)) dX1_isBefore_15 ⟨Nat.le_of_ble_eq_true rfl, Nat.le_of_ble_eq_true rfl⟩)) (fun r9 hr9 => ?_)
    subst hr9
    refine ob_if_eq (tgt := 25) hx hb dX1_isBefore_18 (by decide) (fun c18 => ?_) (fun c18 => ?_)
    · refine lv_iconst (v := nI 0) hx hb dX1_isBefore_25 (by decide) ?_
      exact W.zret (v := nI 0) hx hb hr rfl (fun t9 ht hW => ⟨nI 0, rfl, (by first | (rw [c5]; rfl) | (rw [c5, ob_cl (by omega), c18]; rfl)), ht⟩) (fun _ h => absurd h List.not_mem_nil) dX1_isBefore_26
    · refine lv_iconst (v := nI 1) hx hb dX1_isBefore_21 (by decide) ?_
      refine lv_goto (tgt := 26) hx hb dX1_isBefore_22 (by decide) ?_
      exact W.zret (v := nI 1) hx hb hr rfl (fun t9 ht hW => ⟨nI 1, rfl, (by first | (rw [c5]; rfl) | (rw [c5, ob_cl (by omega), c18]; rfl)), ht⟩) (fun _ h => absurd h List.not_mem_nil) dX1_isBefore_26

set_option maxRecDepth 100000 in
set_option maxHeartbeats 4000000 in
theorem c_X1_at (l : Launch) (D : va_G) (t : Nat → ClassId) (al : Nat → Nat) (n : Nat) (cl rd sv pb ba bf od : Nat → Int32) (bg : Nat → Int64) (x : Int32) (hn : n ≤ 30) : Met l yX1_at wsX1_at ({ frames := 1, cells := 0, slots := 0, locals := 21 } : Room) (ob_Pp D t (ob_wL t al n cl rd sv pb ba bf od bg) [.ref (al 0), .int x]) (vp_Si (fun r : Int32 => r = ob_at n od x)) 0 0 (fun _ => False) := by
  refine Met.ofW (cc := cX1_at) (maxL := 2) (ret := (some .int)) (by decide) rfl ?_
  intro p e s m args below meth c s₁ B hml hv
  obtain ⟨rfl, hP, hk⟩ := hv
  have hx := B.exec
  have hb := B.bytes
  have hr := B.returns
  have hts := atoms_spec (ws := wsX1_at) B.pre
  have hown : s.vm.findClass RX1 = some m.cls := findClass_of_methodNamed B.named
  have hlocks := B.notSynchronized
  have hK := hk.1
  have hl := lv_entry [.ref (al 0), .int x] (n := 2) (Nat.le_of_ble_eq_true rfl)
  rw [lg_entry_eq]
  generalize (lg_sl [.ref (al 0), .int x] ++ List.replicate (2 - (lg_sl [.ref (al 0), .int x]).length) Slot.unset).toArray = ls at hl ⊢
  have hl : lv_has ls 2 [(0, .ref (al 0)), (1, .int x)] := hl
  refine lv_aload_n hx hb dX1_at_0 rfl (lv_at hl 0 rfl) ?_
  refine lv_iload_n hx hb dX1_at_1 rfl (lv_at hl 1 rfl) ?_
  refine vp_callSi (va_Run.run (va_runV (As := [.int x]) (rest := []) ⟨hx, hb, hml, hown, hts⟩ (c_X1_holds l D t al n cl rd sv pb ba bf od bg x (by first | assumption | omega)) (cwV 1 hts gX1_at_X1_holds rfl rfl rfl (by decide +kernel) ⟨Nat.le_of_ble_eq_true rfl, Nat.le_of_ble_eq_true rfl⟩) (ob_preV (ci := 1) (q0 := 0) hP hk rfl rfl) rfl rfl hl.1 rfl (lv_room (Nat.le_of_ble_eq_true rfl)) dX1_at_2 ⟨Nat.le_of_ble_eq_true rfl, Nat.le_of_ble_eq_true rfl⟩)) (fun r9 hr9 => ?_)
  subst hr9
  refine ob_if_eq (tgt := 17) hx hb dX1_at_5 (by decide) (fun c5 => ?_) (fun c5 => ?_)
  · refine lv_iconst (v := (-1)) hx hb dX1_at_17 (by decide) ?_
    exact W.iret (v := (-1)) hx hb hr (fun t9 ht hW => ⟨(-1), rfl, (by first | exact (ob_at_nI hj).symm | (unfold ob_at; rw [c5]; rfl)), ht⟩) (fun _ h => absurd h List.not_mem_nil) dX1_at_18
  · obtain ⟨j, hj, rfl⟩ := ob_hd_t c5
    refine lv_aload_n hx hb dX1_at_8 rfl (lv_at hl 0 rfl) ?_
    refine va_get (ci := 1) (C := RX1) (T := TX1) (N := 9) hx hb hts (fun w h => List.mem_cons_of_mem _ (List.mem_append_right _ (h))) hown hK hP 0 rfl rfl 6 (by decide) (hts (Cond.fieldLink RX1 31 "OutageBook$Log" "order" "[I") (List.mem_of_getElem? (i := 1) rfl)) (fun _ h9 => h9) rfl dX1_at_9 ?_
    refine lv_iload_n hx hb dX1_at_12 rfl (lv_at hl 1 rfl) ?_
    refine ob_iald hx hb hK hP 7 0 rfl rfl (by omega) (by decide) dX1_at_13 ?_
    refine lv_goto (tgt := 18) hx hb dX1_at_14 (by decide) ?_
    exact W.iret (v := od j) hx hb hr (fun t9 ht hW => ⟨od j, rfl, (by first | exact (ob_at_nI hj).symm | (unfold ob_at; rw [c5]; rfl)), ht⟩) (fun _ h => absurd h List.not_mem_nil) dX1_at_18

set_option maxRecDepth 100000 in
set_option maxHeartbeats 4000000 in
theorem c_X1_isDoubted (l : Launch) (D : va_G) (t : Nat → ClassId) (al : Nat → Nat) (n : Nat) (cl rd sv pb ba bf od : Nat → Int32) (bg : Nat → Int64) (x : Int32) (hn : n ≤ 30) : Met l yX1_isDoubted wsX1_isDoubted ({ frames := 1, cells := 0, slots := 0, locals := 21 } : Room) (ob_Pp D t (ob_wL t al n cl rd sv pb ba bf od bg) [.ref (al 0), .int x]) (vp_Si (fun r : Int32 => r = ob_bi (ob_hd n x && decide (ba x.toNatClampNeg < 0)))) 0 0 (fun _ => False) := by
  refine Met.ofW (cc := cX1_isDoubted) (maxL := 2) (ret := (some .boolean)) (by decide) rfl ?_
  intro p e s m args below meth c s₁ B hml hv
  obtain ⟨rfl, hP, hk⟩ := hv
  have hx := B.exec
  have hb := B.bytes
  have hr := B.returns
  have hts := atoms_spec (ws := wsX1_isDoubted) B.pre
  have hown : s.vm.findClass RX1 = some m.cls := findClass_of_methodNamed B.named
  have hlocks := B.notSynchronized
  have hK := hk.1
  have hl := lv_entry [.ref (al 0), .int x] (n := 2) (Nat.le_of_ble_eq_true rfl)
  rw [lg_entry_eq]
  generalize (lg_sl [.ref (al 0), .int x] ++ List.replicate (2 - (lg_sl [.ref (al 0), .int x]).length) Slot.unset).toArray = ls at hl ⊢
  have hl : lv_has ls 2 [(0, .ref (al 0)), (1, .int x)] := hl
  refine lv_aload_n hx hb dX1_isDoubted_0 rfl (lv_at hl 0 rfl) ?_
  refine lv_iload_n hx hb dX1_isDoubted_1 rfl (lv_at hl 1 rfl) ?_
  refine vp_callSi (va_Run.run (va_runV (As := [.int x]) (rest := []) ⟨hx, hb, hml, hown, hts⟩ (c_X1_holds l D t al n cl rd sv pb ba bf od bg x (by first | assumption | omega)) (cwV 1 hts gX1_isDoubted_X1_holds rfl rfl rfl (by decide +kernel) ⟨Nat.le_of_ble_eq_true rfl, Nat.le_of_ble_eq_true rfl⟩) (ob_preV (ci := 1) (q0 := 0) hP hk rfl rfl) rfl rfl hl.1 rfl (lv_room (Nat.le_of_ble_eq_true rfl)) dX1_isDoubted_2 ⟨Nat.le_of_ble_eq_true rfl, Nat.le_of_ble_eq_true rfl⟩)) (fun r9 hr9 => ?_)
  subst hr9
  refine ob_if_eq (tgt := 21) hx hb dX1_isDoubted_5 (by decide) (fun c5 => ?_) (fun c5 => ?_)
  · refine lv_iconst (v := nI 0) hx hb dX1_isDoubted_21 (by decide) ?_
    exact W.zret (v := nI 0) hx hb hr rfl (fun t9 ht hW => ⟨nI 0, rfl, (by first | (rw [c5]; rfl) | (rw [c5, ob_cl (by omega), decide_eq_true (Int32.not_le.mp c14)]; rfl) | (rw [c5, ob_cl (by omega), decide_eq_false (Int32.not_lt.mpr c14)]; rfl)), ht⟩) (fun _ h => absurd h List.not_mem_nil) dX1_isDoubted_22
  · obtain ⟨j, hj, rfl⟩ := ob_hd_t c5
    refine lv_aload_n hx hb dX1_isDoubted_8 rfl (lv_at hl 0 rfl) ?_
    refine va_get (ci := 1) (C := RX1) (T := TX1) (N := 9) hx hb hts (fun w h => List.mem_cons_of_mem _ (List.mem_append_right _ (h))) hown hK hP 0 rfl rfl 4 (by decide) (hts (Cond.fieldLink RX1 25 "OutageBook$Log" "balances" "[I") (List.mem_of_getElem? (i := 1) rfl)) (fun _ h9 => h9) rfl dX1_isDoubted_9 ?_
    refine lv_iload_n hx hb dX1_isDoubted_12 rfl (lv_at hl 1 rfl) ?_
    refine ob_iald hx hb hK hP 5 0 rfl rfl (by omega) (by decide) dX1_isDoubted_13 ?_
    refine lv_if_ge (tgt := 21) hx hb dX1_isDoubted_14 (by decide) (fun c14 => ?_) (fun c14 => ?_)
    · refine lv_iconst (v := nI 0) hx hb dX1_isDoubted_21 (by decide) ?_
      exact W.zret (v := nI 0) hx hb hr rfl (fun t9 ht hW => ⟨nI 0, rfl, (by first | (rw [c5]; rfl) | (rw [c5, ob_cl (by omega), decide_eq_true (Int32.not_le.mp c14)]; rfl) | (rw [c5, ob_cl (by omega), decide_eq_false (Int32.not_lt.mpr c14)]; rfl)), ht⟩) (fun _ h => absurd h List.not_mem_nil) dX1_isDoubted_22
    · refine lv_iconst (v := nI 1) hx hb dX1_isDoubted_17 (by decide) ?_
      refine lv_goto (tgt := 22) hx hb dX1_isDoubted_18 (by decide) ?_
      exact W.zret (v := nI 1) hx hb hr rfl (fun t9 ht hW => ⟨nI 1, rfl, (by first | (rw [c5]; rfl) | (rw [c5, ob_cl (by omega), decide_eq_true (Int32.not_le.mp c14)]; rfl) | (rw [c5, ob_cl (by omega), decide_eq_false (Int32.not_lt.mpr c14)]; rfl)), ht⟩) (fun _ h => absurd h List.not_mem_nil) dX1_isDoubted_22

set_option maxRecDepth 100000 in
set_option maxHeartbeats 4000000 in
theorem c_X1_isInStory (l : Launch) (D : va_G) (t : Nat → ClassId) (al : Nat → Nat) (n : Nat) (cl rd sv pb ba bf od : Nat → Int32) (bg : Nat → Int64) (x : Int32) (hn : n ≤ 30) : Met l yX1_isInStory wsX1_isInStory ({ frames := 1, cells := 0, slots := 0, locals := 21 } : Room) (ob_Pp D t (ob_wL t al n cl rd sv pb ba bf od bg) [.ref (al 0), .int x]) (vp_Si (fun r : Int32 => r = ob_bi (ob_hd n x && ob_st pb ba x.toNatClampNeg))) 0 0 (fun _ => False) := by
  refine Met.ofW (cc := cX1_isInStory) (maxL := 2) (ret := (some .boolean)) (by decide) rfl ?_
  intro p e s m args below meth c s₁ B hml hv
  obtain ⟨rfl, hP, hk⟩ := hv
  have hx := B.exec
  have hb := B.bytes
  have hr := B.returns
  have hts := atoms_spec (ws := wsX1_isInStory) B.pre
  have hown : s.vm.findClass RX1 = some m.cls := findClass_of_methodNamed B.named
  have hlocks := B.notSynchronized
  have hK := hk.1
  have hl := lv_entry [.ref (al 0), .int x] (n := 2) (Nat.le_of_ble_eq_true rfl)
  rw [lg_entry_eq]
  generalize (lg_sl [.ref (al 0), .int x] ++ List.replicate (2 - (lg_sl [.ref (al 0), .int x]).length) Slot.unset).toArray = ls at hl ⊢
  have hl : lv_has ls 2 [(0, .ref (al 0)), (1, .int x)] := hl
  refine lv_aload_n hx hb dX1_isInStory_0 rfl (lv_at hl 0 rfl) ?_
  refine lv_iload_n hx hb dX1_isInStory_1 rfl (lv_at hl 1 rfl) ?_
  refine vp_callSi (va_Run.run (va_runV (As := [.int x]) (rest := []) ⟨hx, hb, hml, hown, hts⟩ (c_X1_holds l D t al n cl rd sv pb ba bf od bg x (by first | assumption | omega)) (cwV 1 hts gX1_isInStory_X1_holds rfl rfl rfl (by decide +kernel) ⟨Nat.le_of_ble_eq_true rfl, Nat.le_of_ble_eq_true rfl⟩) (ob_preV (ci := 1) (q0 := 0) hP hk rfl rfl) rfl rfl hl.1 rfl (lv_room (Nat.le_of_ble_eq_true rfl)) dX1_isInStory_2 ⟨Nat.le_of_ble_eq_true rfl, Nat.le_of_ble_eq_true rfl⟩)) (fun r9 hr9 => ?_)
  subst hr9
  refine ob_if_eq (tgt := 30) hx hb dX1_isInStory_5 (by decide) (fun c5 => ?_) (fun c5 => ?_)
  · refine lv_iconst (v := nI 0) hx hb dX1_isInStory_30 (by decide) ?_
    exact W.zret (v := nI 0) hx hb hr rfl (fun t9 ht hW => ⟨nI 0, rfl, (by first | (rw [c5]; rfl) | (rw [c5, ob_cl (by omega), ob_st, decide_eq_true c14]; rfl) | (rw [c5, ob_cl (by omega), ob_st, decide_eq_false c14, decide_eq_true c23]; rfl) | (rw [c5, ob_cl (by omega), ob_st, decide_eq_false c14, decide_eq_false c23]; rfl)), ht⟩) (fun _ h => absurd h List.not_mem_nil) dX1_isInStory_31
  · obtain ⟨j, hj, rfl⟩ := ob_hd_t c5
    refine lv_aload_n hx hb dX1_isInStory_8 rfl (lv_at hl 0 rfl) ?_
    refine va_get (ci := 1) (C := RX1) (T := TX1) (N := 9) hx hb hts (fun w h => List.mem_cons_of_mem _ (List.mem_append_right _ (h))) hown hK hP 0 rfl rfl 3 (by decide) (hts (Cond.fieldLink RX1 21 "OutageBook$Log" "arePublic" "[Z") (List.mem_of_getElem? (i := 1) rfl)) (fun _ h9 => h9) rfl dX1_isInStory_9 ?_
    refine lv_iload_n hx hb dX1_isInStory_12 rfl (lv_at hl 1 rfl) ?_
    refine ob_zald hx hb hK hP 4 2 rfl rfl (by omega) (by decide) dX1_isInStory_13 ?_
    refine lv_if_eq (tgt := 30) hx hb dX1_isInStory_14 (by decide) (fun c14 => ?_) (fun c14 => ?_)
    · refine lv_iconst (v := nI 0) hx hb dX1_isInStory_30 (by decide) ?_
      exact W.zret (v := nI 0) hx hb hr rfl (fun t9 ht hW => ⟨nI 0, rfl, (by first | (rw [c5]; rfl) | (rw [c5, ob_cl (by omega), ob_st, decide_eq_true c14]; rfl) | (rw [c5, ob_cl (by omega), ob_st, decide_eq_false c14, decide_eq_true c23]; rfl) | (rw [c5, ob_cl (by omega), ob_st, decide_eq_false c14, decide_eq_false c23]; rfl)), ht⟩) (fun _ h => absurd h List.not_mem_nil) dX1_isInStory_31
    · refine lv_aload_n hx hb dX1_isInStory_17 rfl (lv_at hl 0 rfl) ?_
      refine va_get (ci := 1) (C := RX1) (T := TX1) (N := 9) hx hb hts (fun w h => List.mem_cons_of_mem _ (List.mem_append_right _ (h))) hown hK hP 0 rfl rfl 4 (by decide) (hts (Cond.fieldLink RX1 25 "OutageBook$Log" "balances" "[I") (List.mem_of_getElem? (i := 2) rfl)) (fun _ h9 => h9) rfl dX1_isInStory_18 ?_
      refine lv_iload_n hx hb dX1_isInStory_21 rfl (lv_at hl 1 rfl) ?_
      refine ob_iald hx hb hK hP 5 0 rfl rfl (by omega) (by decide) dX1_isInStory_22 ?_
      refine lv_if_lt (tgt := 30) hx hb dX1_isInStory_23 (by decide) (fun c23 => ?_) (fun c23 => ?_)
      · refine lv_iconst (v := nI 0) hx hb dX1_isInStory_30 (by decide) ?_
        exact W.zret (v := nI 0) hx hb hr rfl (fun t9 ht hW => ⟨nI 0, rfl, (by first | (rw [c5]; rfl) | (rw [c5, ob_cl (by omega), ob_st, decide_eq_true c14]; rfl) | (rw [c5, ob_cl (by omega), ob_st, decide_eq_false c14, decide_eq_true c23]; rfl) | (rw [c5, ob_cl (by omega), ob_st, decide_eq_false c14, decide_eq_false c23]; rfl)), ht⟩) (fun _ h => absurd h List.not_mem_nil) dX1_isInStory_31
      · refine lv_iconst (v := nI 1) hx hb dX1_isInStory_26 (by decide) ?_
        refine lv_goto (tgt := 31) hx hb dX1_isInStory_27 (by decide) ?_
        exact W.zret (v := nI 1) hx hb hr rfl (fun t9 ht hW => ⟨nI 1, rfl, (by first | (rw [c5]; rfl) | (rw [c5, ob_cl (by omega), ob_st, decide_eq_true c14]; rfl) | (rw [c5, ob_cl (by omega), ob_st, decide_eq_false c14, decide_eq_true c23]; rfl) | (rw [c5, ob_cl (by omega), ob_st, decide_eq_false c14, decide_eq_false c23]; rfl)), ht⟩) (fun _ h => absurd h List.not_mem_nil) dX1_isInStory_31

set_option maxRecDepth 100000 in
set_option maxHeartbeats 4000000 in
theorem c_X1_isSurelyEarlier (l : Launch) (D : va_G) (t : Nat → ClassId) (al : Nat → Nat) (n : Nat) (cl rd sv pb ba bf od : Nat → Int32) (bg : Nat → Int64) (ao : Nat → Nat) (M : Nat → Nat → Int32) (i j : Nat) (hn : n ≤ 30) (hi : i < n) (hj : j < n) : Met l yX1_isSurelyEarlier wsX1_isSurelyEarlier ({ frames := 3, cells := 0, slots := 0, locals := 64 } : Room) (ob_Pp D t (ob_wL t al n cl rd sv pb ba bf od bg ++ ob_wO t ao M) [.ref (al 0), .int (nI i), .int (nI j), .ref (ao 0)]) (vp_Si (fun r : Int32 => r = ob_bi (ob_se M cl rd i j))) 0 0 (fun _ => False) := by
  refine Met.ofW (cc := cX1_isSurelyEarlier) (maxL := 5) (ret := (some .boolean)) (by decide) rfl ?_
  intro p e s m args below meth c s₁ B hml hv
  obtain ⟨rfl, hP, hk⟩ := hv
  have hx := B.exec
  have hb := B.bytes
  have hr := B.returns
  have hts := atoms_spec (ws := wsX1_isSurelyEarlier) B.pre
  have hown : s.vm.findClass RX1 = some m.cls := findClass_of_methodNamed B.named
  have hlocks := B.notSynchronized
  have hK := hk.1
  have hl := lv_entry [.ref (al 0), .int (nI i), .int (nI j), .ref (ao 0)] (n := 5) (Nat.le_of_ble_eq_true rfl)
  rw [lg_entry_eq]
  generalize (lg_sl [.ref (al 0), .int (nI i), .int (nI j), .ref (ao 0)] ++ List.replicate (5 - (lg_sl [.ref (al 0), .int (nI i), .int (nI j), .ref (ao 0)]).length) Slot.unset).toArray = ls at hl ⊢
  have hl : lv_has ls 5 [(0, .ref (al 0)), (1, .int (nI i)), (2, .int (nI j)), (3, .ref (ao 0))] := hl
  refine lv_aload_n hx hb dX1_isSurelyEarlier_0 rfl (lv_at hl 0 rfl) ?_
  refine lv_iload_n hx hb dX1_isSurelyEarlier_1 rfl (lv_at hl 1 rfl) ?_
  refine vp_callSi (va_Run.run (va_runV (As := [.int (nI i)]) (rest := []) ⟨hx, hb, hml, hown, hts⟩ (c_X1_holds l D t al n cl rd sv pb ba bf od bg (nI i) (by first | assumption | omega)) (cwV 1 hts gX1_isSurelyEarlier_X1_holds rfl rfl rfl (by decide +kernel) ⟨Nat.le_of_ble_eq_true rfl, Nat.le_of_ble_eq_true rfl⟩) (ob_preV (ci := 1) (q0 := 0) (hP.sub [0, 1, 2, 3, 4, 5, 6, 7, 8] rfl) hk rfl rfl) rfl rfl hl.1 rfl (lv_room (Nat.le_of_ble_eq_true rfl)) dX1_isSurelyEarlier_2 ⟨Nat.le_of_ble_eq_true rfl, Nat.le_of_ble_eq_true rfl⟩)) (fun r9 hr9 => ?_)
  subst hr9
  refine ob_if_eq (tgt := 16) hx hb dX1_isSurelyEarlier_5 (by decide) (fun c5 => ?_) (fun c5 => ?_)
  · rw [ob_hd_nI hi] at c5; cases c5
  · refine lv_aload_n hx hb dX1_isSurelyEarlier_8 rfl (lv_at hl 0 rfl) ?_
    refine lv_iload_n hx hb dX1_isSurelyEarlier_9 rfl (lv_at hl 2 rfl) ?_
    refine vp_callSi (va_Run.run (va_runV (As := [.int (nI j)]) (rest := []) ⟨hx, hb, hml, hown, hts⟩ (c_X1_holds l D t al n cl rd sv pb ba bf od bg (nI j) (by first | assumption | omega)) (cwV 1 hts gX1_isSurelyEarlier_X1_holds rfl rfl rfl (by decide +kernel) ⟨Nat.le_of_ble_eq_true rfl, Nat.le_of_ble_eq_true rfl⟩) (ob_preV (ci := 1) (q0 := 0) (hP.sub [0, 1, 2, 3, 4, 5, 6, 7, 8] rfl) hk rfl rfl) rfl rfl hl.1 rfl (lv_room (Nat.le_of_ble_eq_true rfl)) dX1_isSurelyEarlier_10 ⟨Nat.le_of_ble_eq_true rfl, Nat.le_of_ble_eq_true rfl⟩)) (fun r9 hr9 => ?_)
    subst hr9
    refine ob_if_ne (tgt := 18) hx hb dX1_isSurelyEarlier_13 (by decide) (fun c13 => ?_) (fun c13 => ?_)
    · refine lv_aload_n hx hb dX1_isSurelyEarlier_18 rfl (lv_at hl 3 rfl) ?_
      refine lv_aload_n hx hb dX1_isSurelyEarlier_19 rfl (lv_at hl 0 rfl) ?_
      refine va_get (ci := 1) (C := RX1) (T := TX1) (N := 9) hx hb hts (fun w h => List.mem_cons_of_mem _ (List.mem_append_left _ (List.mem_append_right _ (h)))) hown hK hP 0 rfl rfl 0 (by decide) (hts (Cond.fieldLink RX1 9 "OutageBook$Log" "clocks" "[I") (List.mem_of_getElem? (i := 1) rfl)) (fun _ h9 => h9) rfl dX1_isSurelyEarlier_20 ?_
      refine lv_iload_n hx hb dX1_isSurelyEarlier_23 rfl (lv_at hl 1 rfl) ?_
      refine ob_iald hx hb hK hP 1 0 rfl rfl (by omega) (by decide) dX1_isSurelyEarlier_24 ?_
      refine lv_aload_n hx hb dX1_isSurelyEarlier_25 rfl (lv_at hl 0 rfl) ?_
      refine va_get (ci := 1) (C := RX1) (T := TX1) (N := 9) hx hb hts (fun w h => List.mem_cons_of_mem _ (List.mem_append_left _ (List.mem_append_right _ (h)))) hown hK hP 0 rfl rfl 0 (by decide) (hts (Cond.fieldLink RX1 9 "OutageBook$Log" "clocks" "[I") (List.mem_of_getElem? (i := 1) rfl)) (fun _ h9 => h9) rfl dX1_isSurelyEarlier_26 ?_
      refine lv_iload_n hx hb dX1_isSurelyEarlier_29 rfl (lv_at hl 2 rfl) ?_
      refine ob_iald hx hb hK hP 1 0 rfl rfl (by omega) (by decide) dX1_isSurelyEarlier_30 ?_
      refine vp_callSi (va_Run.run (va_runV (As := [.int (cl i), .int (cl j)]) (rest := []) ⟨hx, hb, hml, hown, hts⟩ (c_X3_most l D t ao M (cl i) (cl j)) (cwV 2 hts gX1_isSurelyEarlier_X3_most rfl rfl rfl (by decide +kernel) ⟨Nat.le_of_ble_eq_true rfl, Nat.le_of_ble_eq_true rfl⟩) (ob_preV (ci := 3) (q0 := 0) (hP.sub [9, 10, 11, 12, 13, 14, 15] rfl) hk rfl rfl) rfl rfl hl.1 rfl (lv_room (Nat.le_of_ble_eq_true rfl)) dX1_isSurelyEarlier_31 ⟨Nat.le_of_ble_eq_true rfl, Nat.le_of_ble_eq_true rfl⟩)) (fun r9 hr9 => ?_)
      subst hr9
      refine lv_istore (lv' := [(4, .int (ob_ms M (cl i) (cl j))), (0, .ref (al 0)), (1, .int (nI i)), (2, .int (nI j)), (3, .ref (ao 0))]) hx hb dX1_isSurelyEarlier_34 hl (by decide) rfl (fun ls hl => ?_)
      refine lv_iload hx hb dX1_isSurelyEarlier_36 (lv_at hl 0 rfl) ?_
      refine lv_ldc (v := 1000000) hx hb hown (hts (Cond.constant RX1 57 (1000000)) (List.mem_of_getElem? (i := 2) rfl)) dX1_isSurelyEarlier_38 ?_
      refine lv_icmp_ge (tgt := 65) hx hb dX1_isSurelyEarlier_40 (by decide) (fun c40 => ?_) (fun c40 => ?_)
      · refine lv_iconst (v := nI 0) hx hb dX1_isSurelyEarlier_65 (by decide) ?_
        exact W.zret (v := nI 0) hx hb hr rfl (fun t9 ht hW => ⟨nI 0, rfl, (by first | (have h9 := Int32.not_lt.mpr c40; simp only [ob_se, decide_eq_false h9]; rfl) | (have h8 := Int32.not_le.mp c40; have h9 := Int32.not_lt.mpr c58; simp only [ob_se, decide_eq_true h8, decide_eq_false h9]; rfl) | (have h8 := Int32.not_le.mp c40; have h9 := Int32.not_le.mp c58; simp only [ob_se, decide_eq_true h8, decide_eq_true h9]; rfl)), ht⟩) (fun _ h => absurd h List.not_mem_nil) dX1_isSurelyEarlier_66
      · refine lv_aload_n hx hb dX1_isSurelyEarlier_43 rfl (lv_at hl 1 rfl) ?_
        refine va_get (ci := 1) (C := RX1) (T := TX1) (N := 9) hx hb hts (fun w h => List.mem_cons_of_mem _ (List.mem_append_left _ (List.mem_append_right _ (h)))) hown hK hP 0 rfl rfl 1 (by decide) (hts (Cond.fieldLink RX1 15 "OutageBook$Log" "readings" "[I") (List.mem_of_getElem? (i := 3) rfl)) (fun _ h9 => h9) rfl dX1_isSurelyEarlier_44 ?_
        refine lv_iload_n hx hb dX1_isSurelyEarlier_47 rfl (lv_at hl 2 rfl) ?_
        refine ob_iald hx hb hK hP 2 0 rfl rfl (by omega) (by decide) dX1_isSurelyEarlier_48 ?_
        refine lv_iload hx hb dX1_isSurelyEarlier_49 (lv_at hl 0 rfl) ?_
        refine lv_iadd hx hb dX1_isSurelyEarlier_51 ?_
        refine lv_aload_n hx hb dX1_isSurelyEarlier_52 rfl (lv_at hl 1 rfl) ?_
        refine va_get (ci := 1) (C := RX1) (T := TX1) (N := 9) hx hb hts (fun w h => List.mem_cons_of_mem _ (List.mem_append_left _ (List.mem_append_right _ (h)))) hown hK hP 0 rfl rfl 1 (by decide) (hts (Cond.fieldLink RX1 15 "OutageBook$Log" "readings" "[I") (List.mem_of_getElem? (i := 3) rfl)) (fun _ h9 => h9) rfl dX1_isSurelyEarlier_53 ?_
        refine lv_iload_n hx hb dX1_isSurelyEarlier_56 rfl (lv_at hl 3 rfl) ?_
        refine ob_iald hx hb hK hP 2 0 rfl rfl (by omega) (by decide) dX1_isSurelyEarlier_57 ?_
        refine lv_icmp_ge (tgt := 65) hx hb dX1_isSurelyEarlier_58 (by decide) (fun c58 => ?_) (fun c58 => ?_)
        · refine lv_iconst (v := nI 0) hx hb dX1_isSurelyEarlier_65 (by decide) ?_
          exact W.zret (v := nI 0) hx hb hr rfl (fun t9 ht hW => ⟨nI 0, rfl, (by first | (have h9 := Int32.not_lt.mpr c40; simp only [ob_se, decide_eq_false h9]; rfl) | (have h8 := Int32.not_le.mp c40; have h9 := Int32.not_lt.mpr c58; simp only [ob_se, decide_eq_true h8, decide_eq_false h9]; rfl) | (have h8 := Int32.not_le.mp c40; have h9 := Int32.not_le.mp c58; simp only [ob_se, decide_eq_true h8, decide_eq_true h9]; rfl)), ht⟩) (fun _ h => absurd h List.not_mem_nil) dX1_isSurelyEarlier_66
        · refine lv_iconst (v := nI 1) hx hb dX1_isSurelyEarlier_61 (by decide) ?_
          refine lv_goto (tgt := 66) hx hb dX1_isSurelyEarlier_62 (by decide) ?_
          exact W.zret (v := nI 1) hx hb hr rfl (fun t9 ht hW => ⟨nI 1, rfl, (by first | (have h9 := Int32.not_lt.mpr c40; simp only [ob_se, decide_eq_false h9]; rfl) | (have h8 := Int32.not_le.mp c40; have h9 := Int32.not_lt.mpr c58; simp only [ob_se, decide_eq_true h8, decide_eq_false h9]; rfl) | (have h8 := Int32.not_le.mp c40; have h9 := Int32.not_le.mp c58; simp only [ob_se, decide_eq_true h8, decide_eq_true h9]; rfl)), ht⟩) (fun _ h => absurd h List.not_mem_nil) dX1_isSurelyEarlier_66
    · rw [ob_hd_nI hj] at c13; cases c13
end
