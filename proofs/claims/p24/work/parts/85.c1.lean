set_option maxRecDepth 100000 in
set_option maxHeartbeats 16000000 in
/-- a mark -/
theorem ob_c1 {p : Program} {l : Launch} {e : Env} {s : State} {m : MethodId} {below : List Frame} {meth : Method} {c : Code} {b L : Nat} {xs : Nat → Int32} {D : va_G} {t : Nat → ClassId} {sa : Nat → Nat} {ax : Nat} {ao al am ac : Nat → Nat} {xg xh xe xm : Nat} {k x v how wd Kc Ks : Nat} {Q : State → Prop} {M : Nat → Nat → Int32} {n : Nat} {cl : Nat → Int32} {rd : Nat → Int32} {sv : Nat → Int32} {pb : Nat → Int32} {ba : Nat → Int32} {bf : Nat → Int32} {od : Nat → Int32} {bg : Nat → Int64} {mn : Nat} {ms : Nat → Int32} {mf : Nat → Int32} {mt : Nat → Int32} {mp : Nat → Int32} {cn : Nat} {st : Int32} {Wt : Nat → Nat → Int32} {fg : Nat → Int32} {fh : Nat → Int32} {fe : Nat → Int32} {fm : Nat → Int32} {mk : Nat} (C0 : ob_At p l s m c b L xs D t sa) (hD0 : va_D (fun q : Nat => s.heap.size ≤ q) (ob_wX ax ao al am ac ++ ob_wO t ao (fun _ _ => 0) ++ ob_wL t al 0 (fun _ => 0) (fun _ => 0) (fun _ => 0) (fun _ => 0) (fun _ => 0) (fun _ => 0) (fun _ => 0) (fun _ => 0) ++ ob_wM t am 0 (fun _ => 0) (fun _ => 0) (fun _ => 0) (fun _ => 0) ++ ob_wC t ac 0 0 (fun _ _ => 0) ++ ob_wG t xg (fun _ => 0) ++ ob_wH t xh (fun _ => 0) ++ ob_wE t xe (fun _ => 0) ++ ob_wV t xm (fun _ => 0))) (hKc : Kc + 200 ≤ 600086) (hKs : Ks + 1200 ≤ 7301442) (hk8 : k < 80) (hxb : x < 2147483648) (hvx : v = x / 32) (hwd : wd = 10001 ∨ wd = 60) (hm : mk < 12) (nx : ∀ (H : Heap) (locs : List Loc) (ls : Array Slot), ob_St D t ax ao al am ac xg xh xe xm H → va_S (fun q : Nat => s.heap.size ≤ q) s.heap H locs → lv_has ls 15 [(0, .ref b), (1, .ref ax), (2, .ref xg), (3, .ref xh), (4, .ref xe), (5, .ref xm), (6, .int (nI 1)), (7, .int (nI k)), (8, .int (nI x)), (9, .int (nI v))] → W p l e room_1 s m #[Value.ref b] below meth c H locs (Kc + 20) (Ks + 120) Q (F0 m 826 ls []))
    {H : Heap} {locs : List Loc} {ls : Array Slot} (hP : va_P D vwCl (ob_wX ax ao al am ac ++ ob_wO t ao M ++ ob_wL t al n cl rd sv pb ba bf od bg ++ ob_wM t am mn ms mf mt mp ++ ob_wC t ac cn st Wt ++ ob_wG t xg fg ++ ob_wH t xh fh ++ ob_wE t xe fe ++ ob_wV t xm fm) H) (hJc : ob_Jc M fe mk) (hJl : ob_Jl M n cl rd sv pb ba bf od fg) (hJm : ob_Jm mn mf mt mp) (hJr : ob_Jr cn Wt fh) (hJf : ob_Jf n mn cn st mk fm) (hS : va_S (fun q : Nat => s.heap.size ≤ q) s.heap H locs) (hl : lv_has ls 15 [(0, .ref b), (1, .ref ax), (2, .ref xg), (3, .ref xh), (4, .ref xe), (5, .ref xm), (6, .int (nI 1)), (7, .int (nI k)), (8, .int (nI x)), (9, .int (nI v)), (10, .int (nI how)), (11, .int (nI wd))]) : W p l e room_1 s m #[Value.ref b] below meth c H locs Kc Ks Q (F0 m 136 ls []) := by
  obtain ⟨hx, hb, hml, hown, hts, hX, hbl, hk, hE0, hN, hl9, hL3⟩ := id C0
  obtain ⟨hM, hmk12, hmk⟩ := id hJc
  obtain ⟨hn, hkc, hrd, hbf, hod, hpb, hg, hg4⟩ := id hJl
  obtain ⟨hmn, hmm, hmp⟩ := id hJm
  obtain ⟨hcn, hh, hz0⟩ := id hJr
  obtain ⟨hf0, hf1, hf2, hf3, hf5⟩ := id hJf
  have hbA : ¬ (fun q : Nat => s.heap.size ≤ q) b := Nat.not_le.mpr hbl
  have hA : ∀ q : Nat, s.heap.size ≤ q → (fun q : Nat => s.heap.size ≤ q) q := fun _ h => h
  have hK := hk.1
  have hP : va_P D vwCl (ob_wX ax ao al am ac ++ ob_wO t ao M ++ ob_wL t al n cl rd sv pb ba bf od bg ++ ob_wM t am mn ms mf mt mp ++ ob_wC t ac cn st Wt ++ ob_wG t xg fg ++ ob_wH t xh fh ++ ob_wE t xe fe ++ ob_wV t xm fm) H := hP
  have hD : va_D (fun q : Nat => s.heap.size ≤ q) (ob_wX ax ao al am ac ++ ob_wO t ao M ++ ob_wL t al n cl rd sv pb ba bf od bg ++ ob_wM t am mn ms mf mt mp ++ ob_wC t ac cn st Wt ++ ob_wG t xg fg ++ ob_wH t xh fh ++ ob_wE t xe fe ++ ob_wV t xm fm) := ob_dXOLMCGHEV hD0
  refine lv_iload hx hb dL_law_136 (lv_at hl 9 rfl) ?_
  refine lv_iconst (v := nI 5) hx hb dL_law_138 (by decide) ?_
  refine lv_irem hx hb dL_law_139 (by decide) ?_
  rw [show (nI v) - (nI v) / (nI 5) * (nI 5) = nI (v % 5) from pk_rem (by omega) (by omega) (by omega)]
  obtain ⟨cf, e139⟩ : ∃ z, z = (v % 5) := ⟨_, rfl⟩
  rw [show nI (v % 5) = nI cf from by rw [e139]]
  refine lv_istore (lv' := [(12, .int (nI cf)), (0, .ref b), (1, .ref ax), (2, .ref xg), (3, .ref xh), (4, .ref xe), (5, .ref xm), (6, .int (nI 1)), (7, .int (nI k)), (8, .int (nI x)), (9, .int (nI v)), (10, .int (nI how)), (11, .int (nI wd))]) hx hb dL_law_140 hl (by decide) rfl (fun ls hl => ?_)
  refine lv_aload_n hx hb dL_law_142 rfl (lv_at hl 2 rfl) ?_
  refine lv_aload hx hb dL_law_143 (lv_at hl 5 rfl) ?_
  refine lv_aload hx hb dL_law_145 (lv_at hl 6 rfl) ?_
  refine lv_iload hx hb dL_law_147 (lv_at hl 0 rfl) ?_
  refine lv_iload hx hb dL_law_149 (lv_at hl 10 rfl) ?_
  refine lv_bipush (v := nI 20) hx hb dL_law_151 (by decide) ?_
  refine lv_idiv hx hb dL_law_153 (by decide) ?_
  rw [show (nI v) / (nI 20) = nI (v / 20) from pk_div (by omega) (by omega) (by omega)]
  refine lv_iload hx hb dL_law_154 (lv_at hl 12 rfl) ?_
  refine lv_irem hx hb dL_law_156 (nI_ne0 (by omega) (by omega)) ?_
  rw [show (nI (v / 20)) - (nI (v / 20)) / (nI wd) * (nI wd) = nI ((v / 20) % wd) from pk_rem (by omega) (by omega) (by omega)]
  obtain ⟨ra, e156⟩ : ∃ z, z = ((v / 20) % wd) := ⟨_, rfl⟩
  rw [show nI ((v / 20) % wd) = nI ra from by rw [e156]]
  refine lv_iload hx hb dL_law_157 (lv_at hl 0 rfl) ?_
  refine lv_iconst (v := nI 1) hx hb dL_law_159 (by decide) ?_
  refine lv_iadd hx hb dL_law_160 ?_
  rw [show (nI cf) + (nI 1) = nI (cf + 1) from nI_add _ _]
  refine lv_iload hx hb dL_law_161 (lv_at hl 10 rfl) ?_
  refine lv_iconst (v := nI 5) hx hb dL_law_163 (by decide) ?_
  refine lv_idiv hx hb dL_law_164 (by decide) ?_
  rw [show (nI v) / (nI 5) = nI (v / 5) from pk_div (by omega) (by omega) (by omega)]
  refine lv_iconst (v := nI 4) hx hb dL_law_165 (by decide) ?_
  refine lv_irem hx hb dL_law_166 (by decide) ?_
  rw [show (nI (v / 5)) - (nI (v / 5)) / (nI 4) * (nI 4) = nI ((v / 5) % 4) from pk_rem (by omega) (by omega) (by omega)]
  refine lv_iadd hx hb dL_law_167 ?_
  rw [show (nI (cf + 1)) + (nI ((v / 5) % 4)) = nI ((cf + 1) + ((v / 5) % 4)) from nI_add _ _]
  refine lv_iconst (v := nI 5) hx hb dL_law_168 (by decide) ?_
  refine lv_irem hx hb dL_law_169 (by decide) ?_
  rw [show (nI ((cf + 1) + ((v / 5) % 4))) - (nI ((cf + 1) + ((v / 5) % 4))) / (nI 5) * (nI 5) = nI (((cf + 1) + ((v / 5) % 4)) % 5) from pk_rem (by omega) (by omega) (by omega)]
  obtain ⟨cs, e169⟩ : ∃ z, z = (((cf + 1) + ((v / 5) % 4)) % 5) := ⟨_, rfl⟩
  rw [show nI (((cf + 1) + ((v / 5) % 4)) % 5) = nI cs from by rw [e169]]
  refine lv_iload hx hb dL_law_170 (lv_at hl 10 rfl) ?_
  refine lv_sipush (v := nI 700) hx hb dL_law_172 (by decide) ?_
  refine lv_idiv hx hb dL_law_175 (by decide) ?_
  rw [show (nI v) / (nI 700) = nI (v / 700) from pk_div (by omega) (by omega) (by omega)]
  refine lv_iload hx hb dL_law_176 (lv_at hl 12 rfl) ?_
  refine lv_irem hx hb dL_law_178 (nI_ne0 (by omega) (by omega)) ?_
  rw [show (nI (v / 700)) - (nI (v / 700)) / (nI wd) * (nI wd) = nI ((v / 700) % wd) from pk_rem (by omega) (by omega) (by omega)]
  obtain ⟨rb, e178⟩ : ∃ z, z = ((v / 700) % wd) := ⟨_, rfl⟩
  rw [show nI ((v / 700) % wd) = nI rb from by rw [e178]]
  have k206 : ∀ (sl : Nat), (sl ≤ 1000) → ∀ ls : Array Slot, lv_has ls 15 [(0, .ref b), (1, .ref ax), (2, .ref xg), (3, .ref xh), (4, .ref xe), (5, .ref xm), (6, .int (nI 1)), (7, .int (nI k)), (8, .int (nI x)), (9, .int (nI v))] → W p l e room_1 s m #[Value.ref b] below meth c H locs (Kc) (Ks) Q (F0 m 206 ls [.int (nI sl), .int (nI rb), .int (nI cs), .int (nI ra), .int (nI cf), .ref xm, .ref xe, .ref ax]) := by
    intro sl hsl ls hl
    have q1 := ob_mdw hwd (v / 20)
    have q2 := ob_mdw hwd (v / 700)
    have hFc := va_free (wc := ob_wX ax ao al am ac ++ ob_wO t ao M ++ ob_wL t al n cl rd sv pb ba bf od bg ++ ob_wM t am mn ms mf mt mp ++ ob_wC t ac cn st Wt ++ ob_wE t xe fe ++ ob_wV t xm fm) hD hS hA [0, 1, 2, 3, 4, 5, 6, 7, 8, 9, 10, 11, 12, 13, 14, 15, 16, 17, 18, 19, 20, 21, 22, 23, 24, 25, 26, 27, 28, 29, 30, 31, 32, 33, 34, 35, 36, 37, 38, 39, 42, 43] rfl
    refine va_calli (va_runS (As := [.ref ax, .ref xe, .ref xm, .int (nI cf), .int (nI ra), .int (nI cs), .int (nI rb), .int (nI sl)]) (rest := []) ⟨hx, hb, hml, hown, hts⟩ (c_L_isMarked l hl9 sa D t H.size ax ao al am ac M n cl rd sv pb ba bf od bg mn ms mf mt mp cn st Wt xe xm fe fm mk cf ra cs rb sl hM hmk hm ⟨hbf, hod⟩ hJf (by first | assumption | omega) (by first | assumption | omega) (by first | assumption | omega) (by first | assumption | omega) (by first | assumption | omega) (by first | assumption | omega) (by first | assumption | omega) (by first | assumption | omega) (by first | assumption | omega)) (va_cwS 8 hts gL_law_L_isMarked rfl rfl rfl (by decide +kernel) ⟨Nat.le_of_ble_eq_true rfl, Nat.le_of_ble_eq_true rfl⟩) (ob_pYS (hP.sub [0, 1, 2, 3, 4, 5, 6, 7, 8, 9, 10, 11, 12, 13, 14, 15, 16, 17, 18, 19, 20, 21, 22, 23, 24, 25, 26, 27, 28, 29, 30, 31, 32, 33, 34, 35, 36, 37, 38, 39, 42, 43] rfl) (hD.sub [0, 1, 2, 3, 4, 5, 6, 7, 8, 9, 10, 11, 12, 13, 14, 15, 16, 17, 18, 19, 20, 21, 22, 23, 24, 25, 26, 27, 28, 29, 30, 31, 32, 33, 34, 35, 36, 37, 38, 39, 42, 43] (by decide) rfl) hk (ob_exN hE0 hS hFc) hN) rfl rfl hl.1 rfl (lv_room (Nat.le_of_ble_eq_true rfl)) dL_law_206 ⟨(by show _ ≤ 600086; omega), (by show _ ≤ 7301442; omega)⟩) hS (fun q _ h => hFc q h) hFc (fun r9 u9 t9 H1 locs ht hvm hw9 hB hz1 hk1 hS => ?_)
    refine W.widen (k := Kc + 1) (n := Ks + 6) (by omega) (by omega) ?_
    obtain ⟨M9, bf9, od9, fe9, fm9, mk9, hB, jc9, ja9, jf9⟩ := hB
    rw [ht] at hB
    have hP := ob_jn (ws' := ob_wX ax ao al am ac ++ ob_wO t ao M9 ++ ob_wL t al n cl rd sv pb ba bf9 od9 bg ++ ob_wM t am mn ms mf mt mp ++ ob_wC t ac cn st Wt ++ ob_wG t xg fg ++ ob_wH t xh fh ++ ob_wE t xe fe9 ++ ob_wV t xm fm9) hP hD [some 0, some 1, some 2, some 3, some 4, some 5, some 6, some 7, some 8, some 9, some 10, some 11, some 12, some 13, some 14, some 15, some 16, some 17, some 18, some 19, some 20, some 21, some 22, some 23, some 24, some 25, some 26, some 27, some 28, some 29, some 30, some 31, some 32, some 33, some 34, some 35, some 36, some 37, some 38, some 39, none, none, some 40, some 41] [0, 1, 2, 3, 4, 5, 6, 7, 8, 9, 10, 11, 12, 13, 14, 15, 16, 17, 18, 19, 20, 21, 22, 23, 24, 25, 26, 27, 28, 29, 30, 31, 32, 33, 34, 35, 36, 37, 38, 39, 42, 43] rfl rfl hk1 hB rfl
    have hD : va_D ((fun q : Nat => s.heap.size ≤ q)) (ob_wX ax ao al am ac ++ ob_wO t ao M9 ++ ob_wL t al n cl rd sv pb ba bf9 od9 bg ++ ob_wM t am mn ms mf mt mp ++ ob_wC t ac cn st Wt ++ ob_wG t xg fg ++ ob_wH t xh fh ++ ob_wE t xe fe9 ++ ob_wV t xm fm9) := ob_dXOLMCGHEV hD
    generalize H1 = H at hP hS ⊢
    subst hw9
    refine lv_istore (lv' := [(6, .int (nI 1)), (0, .ref b), (1, .ref ax), (2, .ref xg), (3, .ref xh), (4, .ref xe), (5, .ref xm), (7, .int (nI k)), (8, .int (nI x)), (9, .int (nI v))]) hx hb dL_law_209 hl (by decide) rfl (fun ls hl => ?_)
    refine lv_goto (tgt := 826) hx hb dL_law_211 (by decide) ?_
    refine W.widen (k := Kc + 20) (n := Ks + 120) (by omega) (by omega) ?_
    exact nx _ _ _ ⟨_, _, _, _, _, _, _, _, _, _, _, _, _, _, _, _, _, _, _, _, _, _, _, hP, jc9, (ob_Jl_m hJl ja9), hJm, hJr, jf9⟩ hS (lv_sub hl [1, 2, 3, 4, 5, 6, 0, 7, 8, 9] rfl)
  refine lv_iload hx hb dL_law_179 (lv_at hl 10 rfl) ?_
  refine lv_iconst (v := nI 4) hx hb dL_law_181 (by decide) ?_
  refine lv_irem hx hb dL_law_182 (by decide) ?_
  rw [show (nI v) - (nI v) / (nI 4) * (nI 4) = nI (v % 4) from pk_rem (by omega) (by omega) (by omega)]
  refine ob_nif_ne (tgt := 198) hx hb (by omega) dL_law_183 (by decide) (fun c183 => ?_) (fun c183 => ?_)
  · refine lv_iload hx hb dL_law_198 (lv_at hl 10 rfl) ?_
    refine lv_bipush (v := nI 9) hx hb dL_law_200 (by decide) ?_
    refine lv_idiv hx hb dL_law_202 (by decide) ?_
    rw [show (nI v) / (nI 9) = nI (v / 9) from pk_div (by omega) (by omega) (by omega)]
    refine lv_bipush (v := nI 30) hx hb dL_law_203 (by decide) ?_
    refine lv_irem hx hb dL_law_205 (by decide) ?_
    rw [show (nI (v / 9)) - (nI (v / 9)) / (nI 30) * (nI 30) = nI ((v / 9) % 30) from pk_rem (by omega) (by omega) (by omega)]
    exact k206 ((v / 9) % 30) (by omega) _ (lv_sub hl [1, 2, 3, 4, 5, 6, 7, 8, 9, 10] rfl)
  · refine lv_iload hx hb dL_law_186 (lv_at hl 10 rfl) ?_
    refine lv_bipush (v := nI 9) hx hb dL_law_188 (by decide) ?_
    refine lv_idiv hx hb dL_law_190 (by decide) ?_
    rw [show (nI v) / (nI 9) = nI (v / 9) from pk_div (by omega) (by omega) (by omega)]
    refine lv_sipush (v := nI 1001) hx hb dL_law_191 (by decide) ?_
    refine lv_irem hx hb dL_law_194 (by decide) ?_
    rw [show (nI (v / 9)) - (nI (v / 9)) / (nI 1001) * (nI 1001) = nI ((v / 9) % 1001) from pk_rem (by omega) (by omega) (by omega)]
    refine lv_goto (tgt := 206) hx hb dL_law_195 (by decide) ?_
    exact k206 ((v / 9) % 1001) (by omega) _ (lv_sub hl [1, 2, 3, 4, 5, 6, 7, 8, 9, 10] rfl)
