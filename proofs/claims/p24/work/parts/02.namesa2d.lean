def wsL_law0_r16_0 : List Cond := [Cond.code yX4_orders cX4_orders 1 (some .long), Cond.methodLink RX4 116 yX1_countOrders, Cond.instanceMethod yX1_countOrders, Cond.selects RX1 yX1_countOrders yX1_countOrders, Cond.code yX1_countOrders cX1_countOrders 5 (some .long), Cond.methodLink RX1 79 yX1_countBeginnings, Cond.instanceMethod yX1_countBeginnings, Cond.selects RX1 yX1_countBeginnings yX1_countBeginnings]
set_option maxRecDepth 20000 in
theorem wsL_law0_r16_0_in : ∀ w ∈ wsL_law0_r16_0, w ∈ lw_tbl := fun w h => (goodIn_p wsL_law0_r16_0 [495, 500] (by decide +kernel) (by decide +kernel) w h).1
def wsL_law0_r16_1 : List Cond := [Cond.code yX1_countBeginnings cX1_countBeginnings 7 (some .long), Cond.methodLink RL 137 yL_dice, Cond.static yL_dice]
set_option maxRecDepth 20000 in
theorem wsL_law0_r16_1_in : ∀ w ∈ wsL_law0_r16_1, w ∈ lw_tbl := fun w h => (goodIn_p wsL_law0_r16_1 [504] (by decide +kernel) (by decide +kernel) w h).1
def wsL_law0_r16_2 : List Cond := [Cond.code yL_dice cL_dice 2 (some .int)]
set_option maxRecDepth 100000 in
theorem wsL_law0_r16_2_in : ∀ w ∈ wsL_law0_r16_2, w ∈ lw_tbl := fun w h => (List.mem_singleton.mp h) ▸ List.mem_of_getElem? (i := 136) (by rfl)
def wsL_law0_r16_3 : List Cond := [Cond.constant RL 7 (1899447441), Cond.constant RL 8 (2147483647), Cond.methodLink RL 141 yL_isMarked, Cond.static yL_isMarked]
set_option maxRecDepth 20000 in
theorem wsL_law0_r16_3_in : ∀ w ∈ wsL_law0_r16_3, w ∈ lw_tbl := fun w h => (goodIn_p wsL_law0_r16_3 [] (by decide +kernel) (by decide +kernel) w h).1
def wsL_law0_r16_4 : List Cond := [Cond.code yL_isMarked cL_isMarked 17 (some .boolean)]
set_option maxRecDepth 100000 in
theorem wsL_law0_r16_4_in : ∀ w ∈ wsL_law0_r16_4, w ∈ lw_tbl := fun w h => (List.mem_singleton.mp h) ▸ List.mem_of_getElem? (i := 576) (by rfl)
def wsL_law0_r16_5 : List Cond := [Cond.constant RL 111 (1000000), Cond.methodLink RL 145 yL_isMeasured, Cond.static yL_isMeasured]
set_option maxRecDepth 20000 in
theorem wsL_law0_r16_5_in : ∀ w ∈ wsL_law0_r16_5, w ∈ lw_tbl := fun w h => (goodIn_p wsL_law0_r16_5 [] (by decide +kernel) (by decide +kernel) w h).1
def wsL_law0_r16_6 : List Cond := [Cond.code yL_isMeasured cL_isMeasured 11 (some .boolean)]
set_option maxRecDepth 100000 in
theorem wsL_law0_r16_6_in : ∀ w ∈ wsL_law0_r16_6, w ∈ lw_tbl := fun w h => (List.mem_singleton.mp h) ▸ List.mem_of_getElem? (i := 579) (by rfl)
def wsL_law0_r16_7 : List Cond := [Cond.methodLink RL 149 yL_isReasoned, Cond.static yL_isReasoned]
set_option maxRecDepth 20000 in
theorem wsL_law0_r16_7_in : ∀ w ∈ wsL_law0_r16_7, w ∈ lw_tbl := fun w h => (goodIn_p wsL_law0_r16_7 [] (by decide +kernel) (by decide +kernel) w h).1
def wsL_law0_r16_8 : List Cond := [Cond.code yL_isReasoned cL_isReasoned 10 (some .boolean)]
set_option maxRecDepth 100000 in
theorem wsL_law0_r16_8_in : ∀ w ∈ wsL_law0_r16_8, w ∈ lw_tbl := fun w h => (List.mem_singleton.mp h) ▸ List.mem_of_getElem? (i := 582) (by rfl)
theorem wsL_law0_r16_in : ∀ w ∈ wsL_law0_r16, w ∈ lw_tbl := fun w h => (fun h => (List.mem_append.mp h).elim (wsL_law0_r16_0_in w) (fun h => (List.mem_append.mp h).elim (wsL_law0_r16_1_in w) (fun h => (List.mem_append.mp h).elim (wsL_law0_r16_2_in w) (fun h => (List.mem_append.mp h).elim (wsL_law0_r16_3_in w) (fun h => (List.mem_append.mp h).elim (wsL_law0_r16_4_in w) (fun h => (List.mem_append.mp h).elim (wsL_law0_r16_5_in w) (fun h => (List.mem_append.mp h).elim (wsL_law0_r16_6_in w) (fun h => (List.mem_append.mp h).elim (wsL_law0_r16_7_in w) (fun h => wsL_law0_r16_8_in w h))))))))) (show w ∈ wsL_law0_r16_0 ++ (wsL_law0_r16_1 ++ (wsL_law0_r16_2 ++ (wsL_law0_r16_3 ++ (wsL_law0_r16_4 ++ (wsL_law0_r16_5 ++ (wsL_law0_r16_6 ++ (wsL_law0_r16_7 ++ (wsL_law0_r16_8)))))))) from h)
def wsL_law0_r17_0 : List Cond := [Cond.methodLink RL 153 yL_areClocks, Cond.static yL_areClocks]
set_option maxRecDepth 20000 in
theorem wsL_law0_r17_0_in : ∀ w ∈ wsL_law0_r17_0, w ∈ lw_tbl := fun w h => (goodIn_p wsL_law0_r17_0 [] (by decide +kernel) (by decide +kernel) w h).1
def wsL_law0_r17_1 : List Cond := [Cond.code yL_areClocks cL_areClocks 11 (some .boolean)]
set_option maxRecDepth 100000 in
theorem wsL_law0_r17_1_in : ∀ w ∈ wsL_law0_r17_1, w ∈ lw_tbl := fun w h => (List.mem_singleton.mp h) ▸ List.mem_of_getElem? (i := 508) (by rfl)
def wsL_law0_r17_2 : List Cond := [Cond.methodLink RL 156 yL_areLines, Cond.static yL_areLines]
set_option maxRecDepth 20000 in
theorem wsL_law0_r17_2_in : ∀ w ∈ wsL_law0_r17_2, w ∈ lw_tbl := fun w h => (goodIn_p wsL_law0_r17_2 [] (by decide +kernel) (by decide +kernel) w h).1
def wsL_law0_r17_3 : List Cond := [Cond.code yL_areLines cL_areLines 14 (some .boolean)]
set_option maxRecDepth 100000 in
theorem wsL_law0_r17_3_in : ∀ w ∈ wsL_law0_r17_3, w ∈ lw_tbl := fun w h => (List.mem_singleton.mp h) ▸ List.mem_of_getElem? (i := 512) (by rfl)
def wsL_law0_r17_4 : List Cond := [Cond.methodLink RL 160 yL_areTimes, Cond.static yL_areTimes]
set_option maxRecDepth 20000 in
theorem wsL_law0_r17_4_in : ∀ w ∈ wsL_law0_r17_4, w ∈ lw_tbl := fun w h => (goodIn_p wsL_law0_r17_4 [] (by decide +kernel) (by decide +kernel) w h).1
def wsL_law0_r17_5 : List Cond := [Cond.code yL_areTimes cL_areTimes 9 (some .boolean)]
set_option maxRecDepth 100000 in
theorem wsL_law0_r17_5_in : ∀ w ∈ wsL_law0_r17_5, w ∈ lw_tbl := fun w h => (List.mem_singleton.mp h) ▸ List.mem_of_getElem? (i := 527) (by rfl)
def wsL_law0_r17_6 : List Cond := [Cond.constant RL 118 (-1000000), Cond.methodLink RL 163 yL_areCauses, Cond.static yL_areCauses]
set_option maxRecDepth 20000 in
theorem wsL_law0_r17_6_in : ∀ w ∈ wsL_law0_r17_6, w ∈ lw_tbl := fun w h => (goodIn_p wsL_law0_r17_6 [] (by decide +kernel) (by decide +kernel) w h).1
def wsL_law0_r17_7 : List Cond := [Cond.code yL_areCauses cL_areCauses 10 (some .boolean)]
set_option maxRecDepth 100000 in
theorem wsL_law0_r17_7_in : ∀ w ∈ wsL_law0_r17_7, w ∈ lw_tbl := fun w h => (List.mem_singleton.mp h) ▸ List.mem_of_getElem? (i := 531) (by rfl)
theorem wsL_law0_r17_in : ∀ w ∈ wsL_law0_r17, w ∈ lw_tbl := fun w h => (fun h => (List.mem_append.mp h).elim (wsL_law0_r17_0_in w) (fun h => (List.mem_append.mp h).elim (wsL_law0_r17_1_in w) (fun h => (List.mem_append.mp h).elim (wsL_law0_r17_2_in w) (fun h => (List.mem_append.mp h).elim (wsL_law0_r17_3_in w) (fun h => (List.mem_append.mp h).elim (wsL_law0_r17_4_in w) (fun h => (List.mem_append.mp h).elim (wsL_law0_r17_5_in w) (fun h => (List.mem_append.mp h).elim (wsL_law0_r17_6_in w) (fun h => wsL_law0_r17_7_in w h)))))))) (show w ∈ wsL_law0_r17_0 ++ (wsL_law0_r17_1 ++ (wsL_law0_r17_2 ++ (wsL_law0_r17_3 ++ (wsL_law0_r17_4 ++ (wsL_law0_r17_5 ++ (wsL_law0_r17_6 ++ (wsL_law0_r17_7))))))) from h)
theorem wsX40_in : ∀ w ∈ wsX40, w ∈ lw_tbl := by decide +kernel
theorem wsX30_in : ∀ w ∈ wsX30, w ∈ lw_tbl := by decide +kernel
theorem wsX10_in : ∀ w ∈ wsX10, w ∈ lw_tbl := by decide +kernel
theorem wsX20_in : ∀ w ∈ wsX20, w ∈ lw_tbl := by decide +kernel
theorem wsX00_in : ∀ w ∈ wsX00, w ∈ lw_tbl := by decide +kernel
