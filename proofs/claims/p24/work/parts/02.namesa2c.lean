def wsL_law0_r11_0 : List Cond := [Cond.methodLink RX1 65 yX1_allBefore, Cond.instanceMethod yX1_allBefore, Cond.selects RX1 yX1_allBefore yX1_allBefore, Cond.code yX1_allBefore cX1_allBefore 5 (some .int), Cond.methodLink RX1 75 yX1_isSurelyEarlier, Cond.instanceMethod yX1_isSurelyEarlier, Cond.selects RX1 yX1_isSurelyEarlier yX1_isSurelyEarlier, Cond.code yX1_isSurelyEarlier cX1_isSurelyEarlier 5 (some .boolean)]
set_option maxRecDepth 20000 in
theorem wsL_law0_r11_0_in : ∀ w ∈ wsL_law0_r11_0, w ∈ lw_tbl := fun w h => (goodIn_p wsL_law0_r11_0 [259, 263] (by decide +kernel) (by decide +kernel) w h).1
def wsL_law0_r11_1 : List Cond := [Cond.constant RX1 57 (1000000), Cond.methodLink RX1 51 yX3_most, Cond.methodLink RX1 72 yX1_nextLine, Cond.instanceMethod yX1_nextLine, Cond.selects RX1 yX1_nextLine yX1_nextLine, Cond.code yX1_nextLine cX1_nextLine 3 (some .int), Cond.methodLink RL 112 yL_act, Cond.static yL_act]
set_option maxRecDepth 20000 in
theorem wsL_law0_r11_1_in : ∀ w ∈ wsL_law0_r11_1, w ∈ lw_tbl := fun w h => (goodIn_p wsL_law0_r11_1 [280] (by decide +kernel) (by decide +kernel) w h).1
def wsL_law0_r11_2 : List Cond := [Cond.codeWith yL_act cL_act 6 (some .int) [(0, 217, 218, 79), (0, 217, 223, 15), (0, 217, 228, 18)], Cond.classLink RL 79 "java/lang/IndexOutOfBoundsException", Cond.methodLink RL 33 yX4_argue, Cond.instanceMethod yX4_argue, Cond.selects RX4 yX4_argue yX4_argue, Cond.code yX4_argue cX4_argue 4 (some .int), Cond.methodLink RX4 122 yX1_weigh, Cond.instanceMethod yX1_weigh]
set_option maxRecDepth 20000 in
theorem wsL_law0_r11_2_in : ∀ w ∈ wsL_law0_r11_2, w ∈ lw_tbl := fun w h => (goodIn_p wsL_law0_r11_2 [323] (by decide +kernel) (by decide +kernel) w h).1
theorem wsL_law0_r11_in : ∀ w ∈ wsL_law0_r11, w ∈ lw_tbl := fun w h => (fun h => (List.mem_append.mp h).elim (wsL_law0_r11_0_in w) (fun h => (List.mem_append.mp h).elim (wsL_law0_r11_1_in w) (fun h => wsL_law0_r11_2_in w h))) (show w ∈ wsL_law0_r11_0 ++ (wsL_law0_r11_1 ++ (wsL_law0_r11_2)) from h)
def wsL_law0_r12_0 : List Cond := [Cond.selects RX1 yX1_weigh yX1_weigh, Cond.code yX1_weigh cX1_weigh 3 (some .int), Cond.methodLink RL 37 yX4_argueReason, Cond.instanceMethod yX4_argueReason, Cond.selects RX4 yX4_argueReason yX4_argueReason, Cond.code yX4_argueReason cX4_argueReason 4 (some .int), Cond.methodLink RX4 169 yX0_isBecauseOf, Cond.instanceMethod yX0_isBecauseOf]
set_option maxRecDepth 20000 in
theorem wsL_law0_r12_0_in : ∀ w ∈ wsL_law0_r12_0, w ∈ lw_tbl := fun w h => (goodIn_p wsL_law0_r12_0 [345, 349] (by decide +kernel) (by decide +kernel) w h).1
def wsL_law0_r12_1 : List Cond := [Cond.selects RX0 yX0_isBecauseOf yX0_isBecauseOf, Cond.code yX0_isBecauseOf cX0_isBecauseOf 3 (some .boolean), Cond.methodLink RX4 174 yX0_replaceWeight, Cond.instanceMethod yX0_replaceWeight, Cond.selects RX0 yX0_replaceWeight yX0_replaceWeight, Cond.code yX0_replaceWeight cX0_replaceWeight 5 (some .int), Cond.methodLink RL 41 yX4_setStanding, Cond.instanceMethod yX4_setStanding]
set_option maxRecDepth 20000 in
theorem wsL_law0_r12_1_in : ∀ w ∈ wsL_law0_r12_1, w ∈ lw_tbl := fun w h => (goodIn_p wsL_law0_r12_1 [359, 378] (by decide +kernel) (by decide +kernel) w h).1
def wsL_law0_r12_2 : List Cond := [Cond.selects RX4 yX4_setStanding yX4_setStanding, Cond.code yX4_setStanding cX4_setStanding 3 (some .boolean), Cond.methodLink RX4 178 yX0_replaceStanding, Cond.instanceMethod yX0_replaceStanding, Cond.selects RX0 yX0_replaceStanding yX0_replaceStanding, Cond.code yX0_replaceStanding cX0_replaceStanding 4 (some .boolean), Cond.methodLink RL 45 yX4_mustComeBefore, Cond.instanceMethod yX4_mustComeBefore]
set_option maxRecDepth 20000 in
theorem wsL_law0_r12_2_in : ∀ w ∈ wsL_law0_r12_2, w ∈ lw_tbl := fun w h => (goodIn_p wsL_law0_r12_2 [382, 386] (by decide +kernel) (by decide +kernel) w h).1
theorem wsL_law0_r12_in : ∀ w ∈ wsL_law0_r12, w ∈ lw_tbl := fun w h => (fun h => (List.mem_append.mp h).elim (wsL_law0_r12_0_in w) (fun h => (List.mem_append.mp h).elim (wsL_law0_r12_1_in w) (fun h => wsL_law0_r12_2_in w h))) (show w ∈ wsL_law0_r12_0 ++ (wsL_law0_r12_1 ++ (wsL_law0_r12_2)) from h)
def wsL_law0_r13_0 : List Cond := [Cond.selects RX4 yX4_mustComeBefore yX4_mustComeBefore, Cond.code yX4_mustComeBefore cX4_mustComeBefore 3 (some .boolean), Cond.methodLink RX4 104 yX1_isBefore, Cond.instanceMethod yX1_isBefore, Cond.selects RX1 yX1_isBefore yX1_isBefore, Cond.code yX1_isBefore cX1_isBefore 3 (some .boolean), Cond.methodLink RL 57 yX4_storyAt, Cond.instanceMethod yX4_storyAt]
set_option maxRecDepth 20000 in
theorem wsL_law0_r13_0_in : ∀ w ∈ wsL_law0_r13_0, w ∈ lw_tbl := fun w h => (goodIn_p wsL_law0_r13_0 [390, 394] (by decide +kernel) (by decide +kernel) w h).1
def wsL_law0_r13_1 : List Cond := [Cond.selects RX4 yX4_storyAt yX4_storyAt, Cond.code yX4_storyAt cX4_storyAt 3 (some .int), Cond.methodLink RX4 131 yX1_storyLine, Cond.instanceMethod yX1_storyLine, Cond.selects RX1 yX1_storyLine yX1_storyLine, Cond.code yX1_storyLine cX1_storyLine 5 (some .int), Cond.methodLink RL 60 yX4_earliest, Cond.instanceMethod yX4_earliest]
set_option maxRecDepth 20000 in
theorem wsL_law0_r13_1_in : ∀ w ∈ wsL_law0_r13_1, w ∈ lw_tbl := fun w h => (goodIn_p wsL_law0_r13_1 [415, 419] (by decide +kernel) (by decide +kernel) w h).1
def wsL_law0_r13_2 : List Cond := [Cond.selects RX4 yX4_earliest yX4_earliest, Cond.code yX4_earliest cX4_earliest 2 (some .int), Cond.methodLink RX4 134 yX1_earliestTime, Cond.instanceMethod yX1_earliestTime, Cond.selects RX1 yX1_earliestTime yX1_earliestTime, Cond.code yX1_earliestTime cX1_earliestTime 4 (some .int), Cond.constant RX1 50 (-1000000), Cond.methodLink RL 73 yX4_firstOf]
set_option maxRecDepth 20000 in
theorem wsL_law0_r13_2_in : ∀ w ∈ wsL_law0_r13_2, w ∈ lw_tbl := fun w h => (goodIn_p wsL_law0_r13_2 [428, 432] (by decide +kernel) (by decide +kernel) w h).1
theorem wsL_law0_r13_in : ∀ w ∈ wsL_law0_r13, w ∈ lw_tbl := fun w h => (fun h => (List.mem_append.mp h).elim (wsL_law0_r13_0_in w) (fun h => (List.mem_append.mp h).elim (wsL_law0_r13_1_in w) (fun h => wsL_law0_r13_2_in w h))) (show w ∈ wsL_law0_r13_0 ++ (wsL_law0_r13_1 ++ (wsL_law0_r13_2)) from h)
def wsL_law0_r14_0 : List Cond := [Cond.instanceMethod yX4_firstOf, Cond.selects RX4 yX4_firstOf yX4_firstOf, Cond.code yX4_firstOf cX4_firstOf 2 (some .int), Cond.methodLink RX4 140 yX1_firstLine, Cond.instanceMethod yX1_firstLine, Cond.selects RX1 yX1_firstLine yX1_firstLine, Cond.code yX1_firstLine cX1_firstLine 4 (some .int), Cond.methodLink RL 126 yL_add]
set_option maxRecDepth 20000 in
theorem wsL_law0_r14_0_in : ∀ w ∈ wsL_law0_r14_0, w ∈ lw_tbl := fun w h => (goodIn_p wsL_law0_r14_0 [459, 464] (by decide +kernel) (by decide +kernel) w h).1
def wsL_law0_r14_1 : List Cond := [Cond.static yL_add, Cond.codeWith yL_add cL_add 7 (some .int) [(0, 48, 49, 15), (0, 48, 54, 18)], Cond.methodLink RL 21 yX4_write, Cond.instanceMethod yX4_write, Cond.selects RX4 yX4_write yX4_write, Cond.code yX4_write cX4_write 6 (some .int), Cond.methodLink RX4 92 yX1_add, Cond.instanceMethod yX1_add]
set_option maxRecDepth 20000 in
theorem wsL_law0_r14_1_in : ∀ w ∈ wsL_law0_r14_1, w ∈ lw_tbl := fun w h => (goodIn_p wsL_law0_r14_1 [147] (by decide +kernel) (by decide +kernel) w h).1
def wsL_law0_r14_2 : List Cond := [Cond.selects RX1 yX1_add yX1_add, Cond.code yX1_add cX1_add 6 (some .int), Cond.methodLink RL 25 yX4_measure, Cond.instanceMethod yX4_measure, Cond.selects RX4 yX4_measure yX4_measure, Cond.code yX4_measure cX4_measure 5 (some .int), Cond.methodLink RX4 147 yX2_size, Cond.instanceMethod yX2_size]
set_option maxRecDepth 20000 in
theorem wsL_law0_r14_2_in : ∀ w ∈ wsL_law0_r14_2, w ∈ lw_tbl := fun w h => (goodIn_p wsL_law0_r14_2 [251, 288] (by decide +kernel) (by decide +kernel) w h).1
theorem wsL_law0_r14_in : ∀ w ∈ wsL_law0_r14, w ∈ lw_tbl := fun w h => (fun h => (List.mem_append.mp h).elim (wsL_law0_r14_0_in w) (fun h => (List.mem_append.mp h).elim (wsL_law0_r14_1_in w) (fun h => wsL_law0_r14_2_in w h))) (show w ∈ wsL_law0_r14_0 ++ (wsL_law0_r14_1 ++ (wsL_law0_r14_2)) from h)
def wsL_law0_r15_0 : List Cond := [Cond.selects RX2 yX2_size yX2_size, Cond.code yX2_size cX2_size 1 (some .int), Cond.methodLink RX4 150 yX2_add, Cond.instanceMethod yX2_add, Cond.selects RX2 yX2_add yX2_add, Cond.code yX2_add cX2_add 6 (some .int), Cond.methodLink RL 29 yX4_addCause, Cond.instanceMethod yX4_addCause]
set_option maxRecDepth 20000 in
theorem wsL_law0_r15_0_in : ∀ w ∈ wsL_law0_r15_0, w ∈ lw_tbl := fun w h => (goodIn_p wsL_law0_r15_0 [294, 299] (by decide +kernel) (by decide +kernel) w h).1
def wsL_law0_r15_1 : List Cond := [Cond.selects RX4 yX4_addCause yX4_addCause, Cond.code yX4_addCause cX4_addCause 1 (some .int), Cond.methodLink RX4 159 yX0_size, Cond.instanceMethod yX0_size, Cond.selects RX0 yX0_size yX0_size, Cond.code yX0_size cX0_size 1 (some .int), Cond.methodLink RX4 162 yX0_add, Cond.instanceMethod yX0_add]
set_option maxRecDepth 20000 in
theorem wsL_law0_r15_1_in : ∀ w ∈ wsL_law0_r15_1, w ∈ lw_tbl := fun w h => (goodIn_p wsL_law0_r15_1 [303, 307] (by decide +kernel) (by decide +kernel) w h).1
def wsL_law0_r15_2 : List Cond := [Cond.selects RX0 yX0_add yX0_add, Cond.code yX0_add cX0_add 2 (some .int), Cond.methodLink RL 129 yL_orders, Cond.static yL_orders, Cond.codeWith yL_orders cL_orders 2 (some .long) [(0, 4, 5, 18)], Cond.methodLink RL 82 yX4_orders, Cond.instanceMethod yX4_orders, Cond.selects RX4 yX4_orders yX4_orders]
set_option maxRecDepth 20000 in
theorem wsL_law0_r15_2_in : ∀ w ∈ wsL_law0_r15_2, w ∈ lw_tbl := fun w h => (goodIn_p wsL_law0_r15_2 [312] (by decide +kernel) (by decide +kernel) w h).1
theorem wsL_law0_r15_in : ∀ w ∈ wsL_law0_r15, w ∈ lw_tbl := fun w h => (fun h => (List.mem_append.mp h).elim (wsL_law0_r15_0_in w) (fun h => (List.mem_append.mp h).elim (wsL_law0_r15_1_in w) (fun h => wsL_law0_r15_2_in w h))) (show w ∈ wsL_law0_r15_0 ++ (wsL_law0_r15_1 ++ (wsL_law0_r15_2)) from h)
