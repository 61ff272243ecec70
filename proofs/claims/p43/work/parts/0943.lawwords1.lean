theorem z_memOf {big : List Cond} {w : Cond} (i : Nat) (h : big[i]? = some w) : w ∈ big := by first | exact List.mem_of_getElem? h | exact List.getElem?_mem h
set_option maxRecDepth 20000 in
theorem wsL_law_in_r1 : ∀ w ∈ wsL_law0_r1, w ∈ lw_tbl := by decide +kernel
set_option maxRecDepth 20000 in
theorem wsL_law_in_r2 : ∀ w ∈ wsL_law0_r2, w ∈ lw_tbl := by decide +kernel
set_option maxRecDepth 20000 in
theorem wsL_law_in_r3 : ∀ w ∈ wsL_law0_r3, w ∈ lw_tbl := by decide +kernel
set_option maxRecDepth 20000 in
theorem wsL_law_in_r4a : ∀ w ∈ ([Cond.constant RL 90 (16777215), Cond.instanceMethod yX5_init, Cond.code yX5_init cX5_init 1 none, Cond.methodLink RX5 1 objectInit, Cond.classLink RX5 7 "[I", Cond.fieldLink RX5 9 "HouseBellsLaw$Sim" "rooms" "[[I", Cond.fieldLink RX5 15 "HouseBellsLaw$Sim" "servants" "[[I", Cond.fieldLink RX5 18 "HouseBellsLaw$Sim" "line" "[I", Cond.fieldLink RX5 21 "HouseBellsLaw$Sim" "charge" "I", Cond.methodLink RL 86 yL_cell, Cond.static yL_cell, Cond.code yL_cell cL_cell 2 (some .int), Cond.constant RL 8 (790386105), Cond.methodLink RL 18 yL_below, Cond.static yL_below, Cond.code yL_below cL_below 2 (some .int), Cond.constant RL 7 (2147483647), Cond.methodLink RL 91 yL_act, Cond.static yL_act] : List Cond), w ∈ lw_tbl := fun w h => (goodIn_p _ [622, 680, 676] rfl (by decide +kernel) w h).1
set_option maxRecDepth 20000 in
theorem wsL_law_in_r4b : (Cond.codeWith yL_act cL_act 9 (some .boolean) [(16, 151, 643, 83), (152, 306, 643, 83), (307, 327, 643, 83), (328, 346, 643, 83), (347, 380, 643, 83), (381, 433, 643, 83), (434, 487, 643, 83), (488, 541, 643, 83), (542, 593, 643, 83), (594, 642, 643, 83)]) ∈ lw_tbl := z_memOf 684 rfl
set_option maxRecDepth 20000 in
theorem wsL_law_in_r4c : ∀ w ∈ ([Cond.classLink RL 83 "java/lang/IllegalStateException", Cond.fieldLink RL 58 "HouseBellsLaw$Sim" "charge" "I", Cond.fieldLink RL 75 "HouseBellsLaw$Sim" "line" "[I", Cond.methodLink RL 24 yX5_with] : List Cond), w ∈ lw_tbl := by decide +kernel
set_option maxRecDepth 20000 in
theorem wsL_law_in_r4 : ∀ w ∈ wsL_law0_r4, w ∈ lw_tbl := fun w h => (List.mem_append.mp (show w ∈ [Cond.constant RL 90 (16777215), Cond.instanceMethod yX5_init, Cond.code yX5_init cX5_init 1 none, Cond.methodLink RX5 1 objectInit, Cond.classLink RX5 7 "[I", Cond.fieldLink RX5 9 "HouseBellsLaw$Sim" "rooms" "[[I", Cond.fieldLink RX5 15 "HouseBellsLaw$Sim" "servants" "[[I", Cond.fieldLink RX5 18 "HouseBellsLaw$Sim" "line" "[I", Cond.fieldLink RX5 21 "HouseBellsLaw$Sim" "charge" "I", Cond.methodLink RL 86 yL_cell, Cond.static yL_cell, Cond.code yL_cell cL_cell 2 (some .int), Cond.constant RL 8 (790386105), Cond.methodLink RL 18 yL_below, Cond.static yL_below, Cond.code yL_below cL_below 2 (some .int), Cond.constant RL 7 (2147483647), Cond.methodLink RL 91 yL_act, Cond.static yL_act] ++ ([Cond.codeWith yL_act cL_act 9 (some .boolean) [(16, 151, 643, 83), (152, 306, 643, 83), (307, 327, 643, 83), (328, 346, 643, 83), (347, 380, 643, 83), (381, 433, 643, 83), (434, 487, 643, 83), (488, 541, 643, 83), (542, 593, 643, 83), (594, 642, 643, 83)]] ++ [Cond.classLink RL 83 "java/lang/IllegalStateException", Cond.fieldLink RL 58 "HouseBellsLaw$Sim" "charge" "I", Cond.fieldLink RL 75 "HouseBellsLaw$Sim" "line" "[I", Cond.methodLink RL 24 yX5_with]) from h)).elim (wsL_law_in_r4a w) (fun h => (List.mem_append.mp h).elim (fun h => by rw [List.mem_singleton.mp h]; exact wsL_law_in_r4b) (wsL_law_in_r4c w))
set_option maxRecDepth 20000 in
theorem wsL_law_in_r5 : ∀ w ∈ wsL_law0_r5, w ∈ lw_tbl := by decide +kernel
set_option maxRecDepth 20000 in
theorem wsL_law_in_r6 : ∀ w ∈ wsL_law0_r6, w ∈ lw_tbl := by decide +kernel
set_option maxRecDepth 20000 in
theorem wsL_law_in_r7 : ∀ w ∈ wsL_law0_r7, w ∈ lw_tbl := by decide +kernel
set_option maxRecDepth 20000 in
theorem wsL_law_in_r8 : ∀ w ∈ wsL_law0_r8, w ∈ lw_tbl := by decide +kernel
set_option maxRecDepth 20000 in
theorem wsL_law_in_r9 : ∀ w ∈ wsL_law0_r9, w ∈ lw_tbl := by decide +kernel
set_option maxRecDepth 20000 in
theorem wsL_law_in_r10 : ∀ w ∈ wsL_law0_r10, w ∈ lw_tbl := by decide +kernel
set_option maxRecDepth 20000 in
theorem wsL_law_in_r11 : ∀ w ∈ wsL_law0_r11, w ∈ lw_tbl := by decide +kernel
set_option maxRecDepth 20000 in
theorem wsL_law_in_r12 : ∀ w ∈ wsL_law0_r12, w ∈ lw_tbl := by decide +kernel
set_option maxRecDepth 20000 in
theorem wsL_law_in_r13 : ∀ w ∈ wsL_law0_r13, w ∈ lw_tbl := by decide +kernel
set_option maxRecDepth 20000 in
theorem wsL_law_in_r14 : ∀ w ∈ wsL_law0_r14, w ∈ lw_tbl := by decide +kernel
set_option maxRecDepth 20000 in
theorem wsL_law_in_r15 : ∀ w ∈ wsL_law0_r15, w ∈ lw_tbl := by decide +kernel
set_option maxRecDepth 20000 in
theorem wsL_law_in_r16 : ∀ w ∈ wsL_law0_r16, w ∈ lw_tbl := by decide +kernel
set_option maxRecDepth 20000 in
theorem wsL_law_in_r17 : ∀ w ∈ wsL_law0_r17, w ∈ lw_tbl := by decide +kernel
set_option maxRecDepth 20000 in
theorem wsL_law_in_r18 : ∀ w ∈ wsL_law0_r18, w ∈ lw_tbl := by decide +kernel
set_option maxRecDepth 20000 in
theorem wsL_law_in_r19 : ∀ w ∈ wsL_law0_r19, w ∈ lw_tbl := by decide +kernel
set_option maxRecDepth 20000 in
theorem wsL_law_in_r20 : ∀ w ∈ wsL_law0_r20, w ∈ lw_tbl := by decide +kernel
set_option maxRecDepth 20000 in
theorem wsL_law_in_r21 : ∀ w ∈ wsL_law0_r21, w ∈ lw_tbl := by decide +kernel
set_option maxRecDepth 20000 in
theorem wsL_law_in_r22 : ∀ w ∈ wsL_law0_r22, w ∈ lw_tbl := fun w h => (goodIn_p wsL_law0_r22 [585] rfl (by decide +kernel) w h).1
set_option maxRecDepth 20000 in
theorem wsL_law_in_r23 : ∀ w ∈ wsL_law0_r23, w ∈ lw_tbl := by decide +kernel
set_option maxRecDepth 20000 in
theorem wsL_law_in_r24 : ∀ w ∈ wsL_law0_r24, w ∈ lw_tbl := by decide +kernel
