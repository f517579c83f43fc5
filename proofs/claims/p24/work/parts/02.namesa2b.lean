def wsL_law0_r6_0 : List Cond := [Cond.methodLink RX2 36 Lib.Math.min.name, Cond.static Lib.Math.min.name, Cond.initialized "java/lang/Math", Cond.code Lib.Math.min.name Lib.Math.min.code 2 (some .int), Cond.methodLink RX2 32 yX2_worst, Cond.instanceMethod yX2_worst, Cond.selects RX2 yX2_worst yX2_worst, Cond.code yX2_worst cX2_worst 6 (some .int)]
set_option maxRecDepth 20000 in
theorem wsL_law0_r6_0_in : ∀ w ∈ wsL_law0_r6_0, w ∈ lw_tbl := fun w h => (goodIn_p wsL_law0_r6_0 [479, 483] (by decide +kernel) (by decide +kernel) w h).1
def wsL_law0_r6_1 : List Cond := [Cond.methodLink RX2 45 Lib.Math.max.name, Cond.static Lib.Math.max.name, Cond.code Lib.Math.max.name Lib.Math.max.code 2 (some .int), Cond.static yX4_isWithin, Cond.code yX4_isWithin cX4_isWithin 3 (some .boolean), Cond.methodLink RL 76 yX4_impact, Cond.instanceMethod yX4_impact, Cond.selects RX4 yX4_impact yX4_impact]
set_option maxRecDepth 20000 in
theorem wsL_law0_r6_1_in : ∀ w ∈ wsL_law0_r6_1, w ∈ lw_tbl := fun w h => (goodIn_p wsL_law0_r6_1 [487, 153] (by decide +kernel) (by decide +kernel) w h).1
def wsL_law0_r6_2 : List Cond := [Cond.code yX4_impact cX4_impact 2 (some .int), Cond.classLink RX4 41 "java/lang/IllegalArgumentException", Cond.initialized "java/lang/IllegalArgumentException", Cond.methodLink RX4 81 yX4_isService, Cond.static yX4_isService, Cond.code yX4_isService cX4_isService 1 (some .boolean), Cond.methodLink RX4 53 yX4_isWithin, Cond.methodLink RX4 153 yX2_sumOfWorst]
set_option maxRecDepth 20000 in
theorem wsL_law0_r6_2_in : ∀ w ∈ wsL_law0_r6_2, w ∈ lw_tbl := fun w h => (goodIn_p wsL_law0_r6_2 [468, 159] (by decide +kernel) (by decide +kernel) w h).1
theorem wsL_law0_r6_in : ∀ w ∈ wsL_law0_r6, w ∈ lw_tbl := fun w h => (fun h => (List.mem_append.mp h).elim (wsL_law0_r6_0_in w) (fun h => (List.mem_append.mp h).elim (wsL_law0_r6_1_in w) (fun h => wsL_law0_r6_2_in w h))) (show w ∈ wsL_law0_r6_0 ++ (wsL_law0_r6_1 ++ (wsL_law0_r6_2)) from h)
def wsL_law0_r7_0 : List Cond := [Cond.instanceMethod yX2_sumOfWorst, Cond.selects RX2 yX2_sumOfWorst yX2_sumOfWorst, Cond.code yX2_sumOfWorst cX2_sumOfWorst 6 (some .int), Cond.methodLink RL 69 yX4_greatest, Cond.instanceMethod yX4_greatest, Cond.selects RX4 yX4_greatest yX4_greatest, Cond.code yX4_greatest cX4_greatest 3 (some .int), Cond.methodLink RX4 37 yX4_isClock]
set_option maxRecDepth 20000 in
theorem wsL_law0_r7_0_in : ∀ w ∈ wsL_law0_r7_0, w ∈ lw_tbl := fun w h => (goodIn_p wsL_law0_r7_0 [472, 453] (by decide +kernel) (by decide +kernel) w h).1
def wsL_law0_r7_1 : List Cond := [Cond.static yX4_isClock, Cond.code yX4_isClock cX4_isClock 1 (some .boolean), Cond.methodLink RX4 77 yX3_most, Cond.instanceMethod yX3_most, Cond.selects RX3 yX3_most yX3_most, Cond.code yX3_most cX3_most 3 (some .int), Cond.methodLink RL 49 yX4_lineAt, Cond.instanceMethod yX4_lineAt]
set_option maxRecDepth 20000 in
theorem wsL_law0_r7_1_in : ∀ w ∈ wsL_law0_r7_1, w ∈ lw_tbl := fun w h => (goodIn_p wsL_law0_r7_1 [150, 271] (by decide +kernel) (by decide +kernel) w h).1
def wsL_law0_r7_2 : List Cond := [Cond.selects RX4 yX4_lineAt yX4_lineAt, Cond.code yX4_lineAt cX4_lineAt 2 (some .int), Cond.classLink RX4 99 "java/lang/IndexOutOfBoundsException", Cond.initialized "java/lang/IndexOutOfBoundsException", Cond.methodLink RX4 96 yX1_holds, Cond.methodLink RX4 110 yX1_at, Cond.methodLink RL 53 yX4_isDoubtful, Cond.instanceMethod yX4_isDoubtful]
set_option maxRecDepth 20000 in
theorem wsL_law0_r7_2_in : ∀ w ∈ wsL_law0_r7_2, w ∈ lw_tbl := fun w h => (goodIn_p wsL_law0_r7_2 [398] (by decide +kernel) (by decide +kernel) w h).1
theorem wsL_law0_r7_in : ∀ w ∈ wsL_law0_r7, w ∈ lw_tbl := fun w h => (fun h => (List.mem_append.mp h).elim (wsL_law0_r7_0_in w) (fun h => (List.mem_append.mp h).elim (wsL_law0_r7_1_in w) (fun h => wsL_law0_r7_2_in w h))) (show w ∈ wsL_law0_r7_0 ++ (wsL_law0_r7_1 ++ (wsL_law0_r7_2)) from h)
def wsL_law0_r8_0 : List Cond := [Cond.selects RX4 yX4_isDoubtful yX4_isDoubtful, Cond.code yX4_isDoubtful cX4_isDoubtful 2 (some .boolean), Cond.methodLink RX4 125 yX1_isDoubted, Cond.instanceMethod yX1_isDoubted, Cond.selects RX1 yX1_isDoubted yX1_isDoubted, Cond.code yX1_isDoubted cX1_isDoubted 2 (some .boolean), Cond.methodLink RL 63 yX4_roots, Cond.instanceMethod yX4_roots]
set_option maxRecDepth 20000 in
theorem wsL_law0_r8_0_in : ∀ w ∈ wsL_law0_r8_0, w ∈ lw_tbl := fun w h => (goodIn_p wsL_law0_r8_0 [407, 411] (by decide +kernel) (by decide +kernel) w h).1
def wsL_law0_r8_1 : List Cond := [Cond.selects RX4 yX4_roots yX4_roots, Cond.code yX4_roots cX4_roots 2 (some .int), Cond.methodLink RX4 164 yX0_holds, Cond.instanceMethod yX0_holds, Cond.selects RX0 yX0_holds yX0_holds, Cond.code yX0_holds cX0_holds 2 (some .boolean), Cond.methodLink RX4 182 yX0_rootsUnder, Cond.instanceMethod yX0_rootsUnder]
set_option maxRecDepth 20000 in
theorem wsL_law0_r8_1_in : ∀ w ∈ wsL_law0_r8_1, w ∈ lw_tbl := fun w h => (goodIn_p wsL_law0_r8_1 [437, 353] (by decide +kernel) (by decide +kernel) w h).1
def wsL_law0_r8_2 : List Cond := [Cond.selects RX0 yX0_rootsUnder yX0_rootsUnder, Cond.code yX0_rootsUnder cX0_rootsUnder 5 (some .int), Cond.static yX4_hasBit, Cond.code yX4_hasBit cX4_hasBit 2 (some .boolean), Cond.methodLink RX4 188 yX4_bit, Cond.static yX4_bit, Cond.code yX4_bit cX4_bit 1 (some .int), Cond.methodLink RX0 35 yX0_reach]
set_option maxRecDepth 20000 in
theorem wsL_law0_r8_2_in : ∀ w ∈ wsL_law0_r8_2, w ∈ lw_tbl := fun w h => (goodIn_p wsL_law0_r8_2 [441, 283, 276] (by decide +kernel) (by decide +kernel) w h).1
theorem wsL_law0_r8_in : ∀ w ∈ wsL_law0_r8, w ∈ lw_tbl := fun w h => (fun h => (List.mem_append.mp h).elim (wsL_law0_r8_0_in w) (fun h => (List.mem_append.mp h).elim (wsL_law0_r8_1_in w) (fun h => wsL_law0_r8_2_in w h))) (show w ∈ wsL_law0_r8_0 ++ (wsL_law0_r8_1 ++ (wsL_law0_r8_2)) from h)
def wsL_law0_r9_0 : List Cond := [Cond.instanceMethod yX0_reach, Cond.selects RX0 yX0_reach yX0_reach, Cond.code yX0_reach cX0_reach 6 (some .int), Cond.methodLink RX0 39 yX0_reasonsOf, Cond.instanceMethod yX0_reasonsOf, Cond.selects RX0 yX0_reasonsOf yX0_reasonsOf, Cond.code yX0_reasonsOf cX0_reasonsOf 4 (some .int), Cond.methodLink RX0 42 yX0_weight]
set_option maxRecDepth 20000 in
theorem wsL_law0_r9_0_in : ∀ w ∈ wsL_law0_r9_0, w ∈ lw_tbl := fun w h => (goodIn_p wsL_law0_r9_0 [363, 368] (by decide +kernel) (by decide +kernel) w h).1
def wsL_law0_r9_1 : List Cond := [Cond.instanceMethod yX0_weight, Cond.selects RX0 yX0_weight yX0_weight, Cond.code yX0_weight cX0_weight 3 (some .int), Cond.methodLink RX0 27 yX0_holds, Cond.methodLink RL 66 yX4_mainReason, Cond.instanceMethod yX4_mainReason, Cond.selects RX4 yX4_mainReason yX4_mainReason, Cond.code yX4_mainReason cX4_mainReason 2 (some .int)]
set_option maxRecDepth 20000 in
theorem wsL_law0_r9_1_in : ∀ w ∈ wsL_law0_r9_1, w ∈ lw_tbl := fun w h => (goodIn_p wsL_law0_r9_1 [372, 445] (by decide +kernel) (by decide +kernel) w h).1
def wsL_law0_r9_2 : List Cond := [Cond.methodLink RX4 185 yX0_weightiestReason, Cond.instanceMethod yX0_weightiestReason, Cond.selects RX0 yX0_weightiestReason yX0_weightiestReason, Cond.code yX0_weightiestReason cX0_weightiestReason 6 (some .int), Cond.methodLink RL 123 yL_mark, Cond.static yL_mark, Cond.codeWith yL_mark cL_mark 7 (some .int) [(0, 12, 13, 15), (0, 12, 18, 18)], Cond.classLink RL 15 "java/lang/IllegalArgumentException"]
set_option maxRecDepth 20000 in
theorem wsL_law0_r9_2_in : ∀ w ∈ wsL_law0_r9_2, w ∈ lw_tbl := fun w h => (goodIn_p wsL_law0_r9_2 [449] (by decide +kernel) (by decide +kernel) w h).1
theorem wsL_law0_r9_in : ∀ w ∈ wsL_law0_r9, w ∈ lw_tbl := fun w h => (fun h => (List.mem_append.mp h).elim (wsL_law0_r9_0_in w) (fun h => (List.mem_append.mp h).elim (wsL_law0_r9_1_in w) (fun h => wsL_law0_r9_2_in w h))) (show w ∈ wsL_law0_r9_0 ++ (wsL_law0_r9_1 ++ (wsL_law0_r9_2)) from h)
def wsL_law0_r10_0 : List Cond := [Cond.classLink RL 18 "java/lang/IllegalStateException", Cond.methodLink RL 9 yX4_mark, Cond.instanceMethod yX4_mark, Cond.selects RX4 yX4_mark yX4_mark, Cond.code yX4_mark cX4_mark 7 none, Cond.classLink RX4 62 "java/lang/IllegalStateException", Cond.initialized "java/lang/IllegalStateException", Cond.methodLink RX4 48 yX4_isReading]
set_option maxRecDepth 20000 in
theorem wsL_law0_r10_0_in : ∀ w ∈ wsL_law0_r10_0, w ∈ lw_tbl := fun w h => (goodIn_p wsL_law0_r10_0 [559] (by decide +kernel) (by decide +kernel) w h).1
def wsL_law0_r10_1 : List Cond := [Cond.static yX4_isReading, Cond.code yX4_isReading cX4_isReading 1 (some .boolean), Cond.methodLink RX4 59 yX3_allows, Cond.instanceMethod yX3_allows, Cond.selects RX3 yX3_allows yX3_allows, Cond.code yX3_allows cX3_allows 4 (some .boolean), Cond.methodLink RX3 21 yX3_most, Cond.methodLink RX4 67 yX3_bound]
set_option maxRecDepth 20000 in
theorem wsL_law0_r10_1_in : ∀ w ∈ wsL_law0_r10_1, w ∈ lw_tbl := fun w h => (goodIn_p wsL_law0_r10_1 [156, 566] (by decide +kernel) (by decide +kernel) w h).1
def wsL_law0_r10_2 : List Cond := [Cond.instanceMethod yX3_bound, Cond.selects RX3 yX3_bound yX3_bound, Cond.code yX3_bound cX3_bound 9 none, Cond.methodLink RX3 25 Lib.Math.min.name, Cond.methodLink RX4 71 yX1_arrange, Cond.instanceMethod yX1_arrange, Cond.selects RX1 yX1_arrange yX1_arrange, Cond.code yX1_arrange cX1_arrange 4 none]
set_option maxRecDepth 20000 in
theorem wsL_law0_r10_2_in : ∀ w ∈ wsL_law0_r10_2, w ∈ lw_tbl := fun w h => (goodIn_p wsL_law0_r10_2 [572, 255] (by decide +kernel) (by decide +kernel) w h).1
theorem wsL_law0_r10_in : ∀ w ∈ wsL_law0_r10, w ∈ lw_tbl := fun w h => (fun h => (List.mem_append.mp h).elim (wsL_law0_r10_0_in w) (fun h => (List.mem_append.mp h).elim (wsL_law0_r10_1_in w) (fun h => wsL_law0_r10_2_in w h))) (show w ∈ wsL_law0_r10_0 ++ (wsL_law0_r10_1 ++ (wsL_law0_r10_2)) from h)
