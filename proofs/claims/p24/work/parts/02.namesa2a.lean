def wsL_law0_r1_0 : List Cond := [Cond.classLink RL 10 RX4, Cond.instantiable RX4 4, Cond.initialized RX4, Cond.arrayClass .int, Cond.methodLink RL 132 yX4_init, Cond.instanceMethod yX4_init, Cond.code yX4_init cX4_init 1 none, Cond.methodLink RX4 1 objectInit]
set_option maxRecDepth 20000 in
theorem wsL_law0_r1_0_in : ∀ w ∈ wsL_law0_r1_0, w ∈ lw_tbl := fun w h => (goodIn_p wsL_law0_r1_0 [28] (by decide +kernel) (by decide +kernel) w h).1
def wsL_law0_r1_1 : List Cond := [Cond.instanceMethod objectInit, Cond.code objectInit ⟨#[0xb1]⟩ 1 none, Cond.classLink RX4 7 RX3, Cond.instantiable RX3 1, Cond.initialized RX3, Cond.fieldLink RX4 10 "OutageBook" "offsets" "LOutageBook$Offsets;", Cond.classLink RX4 16 RX1, Cond.instantiable RX1 9]
set_option maxRecDepth 20000 in
theorem wsL_law0_r1_1_in : ∀ w ∈ wsL_law0_r1_1, w ∈ lw_tbl := fun w h => (goodIn_p wsL_law0_r1_1 [31] (by decide +kernel) (by decide +kernel) w h).1
def wsL_law0_r1_2 : List Cond := [Cond.initialized RX1, Cond.fieldLink RX4 19 "OutageBook" "log" "LOutageBook$Log;", Cond.classLink RX4 23 RX2, Cond.instantiable RX2 5, Cond.initialized RX2, Cond.fieldLink RX4 26 "OutageBook" "measures" "LOutageBook$Measures;", Cond.classLink RX4 30 RX0, Cond.instantiable RX0 3]
set_option maxRecDepth 20000 in
theorem wsL_law0_r1_2_in : ∀ w ∈ wsL_law0_r1_2, w ∈ lw_tbl := fun w h => (goodIn_p wsL_law0_r1_2 [] (by decide +kernel) (by decide +kernel) w h).1
theorem wsL_law0_r1_in : ∀ w ∈ wsL_law0_r1, w ∈ lw_tbl := fun w h => (fun h => (List.mem_append.mp h).elim (wsL_law0_r1_0_in w) (fun h => (List.mem_append.mp h).elim (wsL_law0_r1_1_in w) (fun h => wsL_law0_r1_2_in w h))) (show w ∈ wsL_law0_r1_0 ++ (wsL_law0_r1_1 ++ (wsL_law0_r1_2)) from h)
def wsL_law0_r2_0 : List Cond := [Cond.initialized RX0, Cond.fieldLink RX4 33 "OutageBook" "causes" "LOutageBook$Causes;", Cond.methodLink RX4 9 yX3_init, Cond.instanceMethod yX3_init, Cond.code yX3_init cX3_init 3 none, Cond.methodLink RX3 3 objectInit, Cond.classLink RX3 9 "[[I", Cond.fieldLink RX3 11 "OutageBook$Offsets" "differences" "[[I"]
set_option maxRecDepth 20000 in
theorem wsL_law0_r2_0_in : ∀ w ∈ wsL_law0_r2_0, w ∈ lw_tbl := fun w h => (goodIn_p wsL_law0_r2_0 [36] (by decide +kernel) (by decide +kernel) w h).1
def wsL_law0_r2_1 : List Cond := [Cond.constant RX3 16 (1000000), Cond.instanceMethod yX1_init, Cond.code yX1_init cX1_init 1 none, Cond.methodLink RX1 3 objectInit, Cond.fieldLink RX1 9 "OutageBook$Log" "clocks" "[I", Cond.fieldLink RX1 15 "OutageBook$Log" "readings" "[I", Cond.fieldLink RX1 18 "OutageBook$Log" "services" "[I", Cond.arrayClass .boolean]
set_option maxRecDepth 20000 in
theorem wsL_law0_r2_1_in : ∀ w ∈ wsL_law0_r2_1, w ∈ lw_tbl := fun w h => (goodIn_p wsL_law0_r2_1 [50] (by decide +kernel) (by decide +kernel) w h).1
def wsL_law0_r2_2 : List Cond := [Cond.fieldLink RX1 21 "OutageBook$Log" "arePublic" "[Z", Cond.fieldLink RX1 25 "OutageBook$Log" "balances" "[I", Cond.fieldLink RX1 28 "OutageBook$Log" "before" "[I", Cond.fieldLink RX1 31 "OutageBook$Log" "order" "[I", Cond.arrayClass .long, Cond.fieldLink RX1 34 "OutageBook$Log" "beginnings" "[J", Cond.fieldLink RX1 38 "OutageBook$Log" "count" "I", Cond.instanceMethod yX2_init]
set_option maxRecDepth 20000 in
theorem wsL_law0_r2_2_in : ∀ w ∈ wsL_law0_r2_2, w ∈ lw_tbl := fun w h => (goodIn_p wsL_law0_r2_2 [] (by decide +kernel) (by decide +kernel) w h).1
theorem wsL_law0_r2_in : ∀ w ∈ wsL_law0_r2, w ∈ lw_tbl := fun w h => (fun h => (List.mem_append.mp h).elim (wsL_law0_r2_0_in w) (fun h => (List.mem_append.mp h).elim (wsL_law0_r2_1_in w) (fun h => wsL_law0_r2_2_in w h))) (show w ∈ wsL_law0_r2_0 ++ (wsL_law0_r2_1 ++ (wsL_law0_r2_2)) from h)
def wsL_law0_r3_0 : List Cond := [Cond.code yX2_init cX2_init 1 none, Cond.methodLink RX2 3 objectInit, Cond.fieldLink RX2 9 "OutageBook$Measures" "services" "[I", Cond.fieldLink RX2 15 "OutageBook$Measures" "starts" "[I", Cond.fieldLink RX2 18 "OutageBook$Measures" "ends" "[I", Cond.fieldLink RX2 21 "OutageBook$Measures" "percents" "[I", Cond.fieldLink RX2 24 "OutageBook$Measures" "count" "I", Cond.instanceMethod yX0_init]
set_option maxRecDepth 20000 in
theorem wsL_law0_r3_0_in : ∀ w ∈ wsL_law0_r3_0, w ∈ lw_tbl := fun w h => (goodIn_p wsL_law0_r3_0 [86] (by decide +kernel) (by decide +kernel) w h).1
def wsL_law0_r3_1 : List Cond := [Cond.code yX0_init cX0_init 1 none, Cond.methodLink RX0 3 objectInit, Cond.classLink RX0 9 "[[I", Cond.fieldLink RX0 11 "OutageBook$Causes" "weights" "[[I", Cond.fieldLink RX0 16 "OutageBook$Causes" "standing" "I", Cond.fieldLink RX0 20 "OutageBook$Causes" "count" "I", Cond.methodLink RL 133 yL_isRefused, Cond.static yL_isRefused]
set_option maxRecDepth 20000 in
theorem wsL_law0_r3_1_in : ∀ w ∈ wsL_law0_r3_1, w ∈ lw_tbl := fun w h => (goodIn_p wsL_law0_r3_1 [108] (by decide +kernel) (by decide +kernel) w h).1
def wsL_law0_r3_2 : List Cond := [Cond.initialized RL]
set_option maxRecDepth 20000 in
theorem wsL_law0_r3_2_in : ∀ w ∈ wsL_law0_r3_2, w ∈ lw_tbl := fun w h => (goodIn_p wsL_law0_r3_2 [] (by decide +kernel) (by decide +kernel) w h).1
def wsL_law0_r3_3 : List Cond := [Cond.code yL_isRefused cL_isRefused 12 (some .boolean)]
set_option maxRecDepth 100000 in
theorem wsL_law0_r3_3_in : ∀ w ∈ wsL_law0_r3_3, w ∈ lw_tbl := fun w h => (List.mem_singleton.mp h) ▸ List.mem_of_getElem? (i := 534) (by rfl)
def wsL_law0_r3_4 : List Cond := [Cond.constant RL 17 (-3000002), Cond.constant RL 81 (-3000001), Cond.constantLong RL 86 (-3000003), Cond.constant RL 20 (-3000003), Cond.methodLink RL 119 yL_all, Cond.static yL_all]
set_option maxRecDepth 20000 in
theorem wsL_law0_r3_4_in : ∀ w ∈ wsL_law0_r3_4, w ∈ lw_tbl := fun w h => (goodIn_p wsL_law0_r3_4 [] (by decide +kernel) (by decide +kernel) w h).1
theorem wsL_law0_r3_in : ∀ w ∈ wsL_law0_r3, w ∈ lw_tbl := fun w h => (fun h => (List.mem_append.mp h).elim (wsL_law0_r3_0_in w) (fun h => (List.mem_append.mp h).elim (wsL_law0_r3_1_in w) (fun h => (List.mem_append.mp h).elim (wsL_law0_r3_2_in w) (fun h => (List.mem_append.mp h).elim (wsL_law0_r3_3_in w) (fun h => wsL_law0_r3_4_in w h))))) (show w ∈ wsL_law0_r3_0 ++ (wsL_law0_r3_1 ++ (wsL_law0_r3_2 ++ (wsL_law0_r3_3 ++ (wsL_law0_r3_4)))) from h)
def wsL_law0_r4_0 : List Cond := [Cond.code yL_all cL_all 5 (some .long)]
set_option maxRecDepth 100000 in
theorem wsL_law0_r4_0_in : ∀ w ∈ wsL_law0_r4_0, w ∈ lw_tbl := fun w h => (List.mem_singleton.mp h) ▸ List.mem_of_getElem? (i := 537) (by rfl)
def wsL_law0_r4_1 : List Cond := [Cond.constantLong RL 91 (31), Cond.constantLong RL 96 (7), Cond.constantLong RL 101 (257), Cond.constantLong RL 103 (65537), Cond.constantLong RL 105 (1000003), Cond.constantLong RL 107 (101), Cond.constantLong RL 109 (3), Cond.methodLink RL 88 yX4_lines]
set_option maxRecDepth 20000 in
theorem wsL_law0_r4_1_in : ∀ w ∈ wsL_law0_r4_1, w ∈ lw_tbl := fun w h => (goodIn_p wsL_law0_r4_1 [] (by decide +kernel) (by decide +kernel) w h).1
def wsL_law0_r4_2 : List Cond := [Cond.instanceMethod yX4_lines, Cond.selects RX4 yX4_lines yX4_lines, Cond.code yX4_lines cX4_lines 1 (some .int), Cond.methodLink RX4 86 yX1_size, Cond.instanceMethod yX1_size, Cond.selects RX1 yX1_size yX1_size, Cond.code yX1_size cX1_size 1 (some .int), Cond.methodLink RL 93 yX4_story]
set_option maxRecDepth 20000 in
theorem wsL_law0_r4_2_in : ∀ w ∈ wsL_law0_r4_2, w ∈ lw_tbl := fun w h => (goodIn_p wsL_law0_r4_2 [516, 231] (by decide +kernel) (by decide +kernel) w h).1
def wsL_law0_r4_3 : List Cond := [Cond.instanceMethod yX4_story, Cond.selects RX4 yX4_story yX4_story, Cond.code yX4_story cX4_story 1 (some .int), Cond.methodLink RX4 128 yX1_storySize, Cond.instanceMethod yX1_storySize, Cond.selects RX1 yX1_storySize yX1_storySize, Cond.code yX1_storySize cX1_storySize 3 (some .int)]
set_option maxRecDepth 20000 in
theorem wsL_law0_r4_3_in : ∀ w ∈ wsL_law0_r4_3, w ∈ lw_tbl := fun w h => (goodIn_p wsL_law0_r4_3 [520, 524] (by decide +kernel) (by decide +kernel) w h).1
theorem wsL_law0_r4_in : ∀ w ∈ wsL_law0_r4, w ∈ lw_tbl := fun w h => (fun h => (List.mem_append.mp h).elim (wsL_law0_r4_0_in w) (fun h => (List.mem_append.mp h).elim (wsL_law0_r4_1_in w) (fun h => (List.mem_append.mp h).elim (wsL_law0_r4_2_in w) (fun h => wsL_law0_r4_3_in w h)))) (show w ∈ wsL_law0_r4_0 ++ (wsL_law0_r4_1 ++ (wsL_law0_r4_2 ++ (wsL_law0_r4_3))) from h)
def wsL_law0_r5_0 : List Cond := [Cond.methodLink RX1 58 yX1_at, Cond.instanceMethod yX1_at, Cond.selects RX1 yX1_at yX1_at, Cond.code yX1_at cX1_at 2 (some .int), Cond.methodLink RX1 42 yX1_holds, Cond.instanceMethod yX1_holds, Cond.selects RX1 yX1_holds yX1_holds, Cond.code yX1_holds cX1_holds 2 (some .boolean)]
set_option maxRecDepth 20000 in
theorem wsL_law0_r5_0_in : ∀ w ∈ wsL_law0_r5_0, w ∈ lw_tbl := fun w h => (goodIn_p wsL_law0_r5_0 [403, 267] (by decide +kernel) (by decide +kernel) w h).1
def wsL_law0_r5_1 : List Cond := [Cond.methodLink RX1 62 yX1_isInStory, Cond.instanceMethod yX1_isInStory, Cond.selects RX1 yX1_isInStory yX1_isInStory, Cond.code yX1_isInStory cX1_isInStory 2 (some .boolean), Cond.methodLink RL 98 yX4_minutes, Cond.instanceMethod yX4_minutes, Cond.selects RX4 yX4_minutes yX4_minutes, Cond.code yX4_minutes cX4_minutes 1 (some .int)]
set_option maxRecDepth 20000 in
theorem wsL_law0_r5_1_in : ∀ w ∈ wsL_law0_r5_1, w ∈ lw_tbl := fun w h => (goodIn_p wsL_law0_r5_1 [424, 543] (by decide +kernel) (by decide +kernel) w h).1
def wsL_law0_r5_2 : List Cond := [Cond.methodLink RX4 156 yX2_failedMinutes, Cond.instanceMethod yX2_failedMinutes, Cond.selects RX2 yX2_failedMinutes yX2_failedMinutes, Cond.code yX2_failedMinutes cX2_failedMinutes 5 (some .int), Cond.methodLink RX2 28 yX2_nextChange, Cond.instanceMethod yX2_nextChange, Cond.selects RX2 yX2_nextChange yX2_nextChange, Cond.code yX2_nextChange cX2_nextChange 5 (some .int)]
set_option maxRecDepth 20000 in
theorem wsL_law0_r5_2_in : ∀ w ∈ wsL_law0_r5_2, w ∈ lw_tbl := fun w h => (goodIn_p wsL_law0_r5_2 [547, 476] (by decide +kernel) (by decide +kernel) w h).1
theorem wsL_law0_r5_in : ∀ w ∈ wsL_law0_r5, w ∈ lw_tbl := fun w h => (fun h => (List.mem_append.mp h).elim (wsL_law0_r5_0_in w) (fun h => (List.mem_append.mp h).elim (wsL_law0_r5_1_in w) (fun h => wsL_law0_r5_2_in w h))) (show w ∈ wsL_law0_r5_0 ++ (wsL_law0_r5_1 ++ (wsL_law0_r5_2)) from h)
