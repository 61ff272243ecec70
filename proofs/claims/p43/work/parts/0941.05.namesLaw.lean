set_option maxRecDepth 20000 in
theorem gL_law_X4_fallen : GoodIn wsL_law (wsV RL 120 RX4 yX4_fallen wsX4_fallen) := goodIn_app (goodIn_of _ (by decide +kernel)) ggL_law_X4_fallen
set_option maxRecDepth 20000 in
theorem ggL_law_X4_nextDrop : GoodIn wsL_law wsX4_nextDrop := goodIn_r _ [382, 20, 383, 277, 278, 38, 279, 158, 53, 562, 563, 573, 574, 575, 576, 577, 578, 579, 580, 581, 582, 583, 584, 585, 586, 587, 589, 590] rfl (by decide +kernel)
set_option maxRecDepth 20000 in
theorem gL_law_X4_nextDrop : GoodIn wsL_law (wsV RL 123 RX4 yX4_nextDrop wsX4_nextDrop) := goodIn_app (goodIn_of _ (by decide +kernel)) ggL_law_X4_nextDrop
set_option maxRecDepth 20000 in
theorem ggL_law_X4_waitedFor : GoodIn wsL_law wsX4_waitedFor := goodIn_ca (goodIn_r _ [428, 20, 136, 137, 138, 2, 139, 140, 141, 196, 148, 149, 29, 150, 48, 562, 563, 573, 574, 575, 576, 577, 578, 579, 580, 581, 582, 583, 584, 585, 586, 587, 588] rfl (by decide +kernel)) (goodIn_sub (fun _ h => List.mem_append_right _ h) (by decide +kernel))
set_option maxRecDepth 20000 in
theorem gL_law_X4_waitedFor : GoodIn wsL_law (wsV RL 126 RX4 yX4_waitedFor wsX4_waitedFor) := goodIn_app (goodIn_of _ (by decide +kernel)) ggL_law_X4_waitedFor
set_option maxRecDepth 20000 in
theorem ggL_law_X4_longestWaiting : GoodIn wsL_law wsX4_longestWaiting := goodIn_r _ [362, 20, 196, 148, 149, 29, 150, 48, 562, 563, 573, 574, 575, 576, 577, 578, 579, 580, 581, 582, 583, 584, 585, 586, 587, 588] rfl (by decide +kernel)
set_option maxRecDepth 20000 in
theorem gL_law_X4_longestWaiting : GoodIn wsL_law (wsV RL 129 RX4 yX4_longestWaiting wsX4_longestWaiting) := goodIn_app (goodIn_of _ (by decide +kernel)) ggL_law_X4_longestWaiting
set_option maxRecDepth 20000 in
theorem ggL_law_X4_isCut : GoodIn wsL_law wsX4_isCut := goodIn_ca (goodIn_r _ [424, 20, 136, 137, 138, 2, 139, 140, 141, 201, 202, 203, 19, 204, 34, 147, 148, 149, 29, 150, 48, 562, 563, 573, 574, 575, 576, 577, 578, 579, 580, 581, 582, 583, 584, 585, 586, 587, 588] rfl (by decide +kernel)) (goodIn_sub (fun _ h => List.mem_append_right _ h) (by decide +kernel))
set_option maxRecDepth 20000 in
theorem gL_law_X4_isCut : GoodIn wsL_law (wsV RL 132 RX4 yX4_isCut wsX4_isCut) := goodIn_app (goodIn_of _ (by decide +kernel)) ggL_law_X4_isCut
set_option maxRecDepth 20000 in
theorem ggL_law_X4_ringsLeft : GoodIn wsL_law wsX4_ringsLeft := goodIn_ca (goodIn_r _ [436, 20, 136, 137, 138, 2, 139, 140, 141, 201, 202, 203, 19, 204, 34, 147, 148, 149, 29, 150, 48, 196, 437, 152, 153, 438, 439, 440, 562, 563, 573, 574, 575, 576, 577, 578, 579, 580, 581, 582, 583, 584, 585, 586, 587, 588] rfl (by decide +kernel)) (goodIn_sub (fun _ h => List.mem_append_right _ h) (by decide +kernel))
set_option maxRecDepth 20000 in
theorem gL_law_X4_ringsLeft : GoodIn wsL_law (wsV RL 135 RX4 yX4_ringsLeft wsX4_ringsLeft) := goodIn_app (goodIn_of _ (by decide +kernel)) ggL_law_X4_ringsLeft
set_option maxRecDepth 20000 in
theorem ggL_law_X4_charge : GoodIn wsL_law wsX4_charge := goodIn_r _ [342, 20, 562, 563, 573, 574, 575, 576, 577, 578, 579, 580, 581, 582, 583, 584, 585, 586, 587] rfl (by decide +kernel)
set_option maxRecDepth 20000 in
theorem gL_law_X4_charge : GoodIn wsL_law (wsV RL 138 RX4 yX4_charge wsX4_charge) := goodIn_app (goodIn_of _ (by decide +kernel)) ggL_law_X4_charge
set_option maxRecDepth 20000 in
theorem ggL_law_X4_nearestIdle : GoodIn wsL_law wsX4_nearestIdle := goodIn_ca (goodIn_r _ [444, 20, 136, 137, 138, 2, 139, 140, 141, 196, 148, 149, 29, 150, 48, 445, 281, 282, 42, 283, 126, 61, 62, 60, 59, 265, 284, 285, 286, 562, 563, 573, 574, 575, 576, 577, 578, 579, 580, 581, 582, 583, 584, 585, 586, 587, 588, 591, 592, 593, 594, 595, 596] rfl (by decide +kernel)) (goodIn_sub (fun _ h => List.mem_append_right _ h) (by decide +kernel))
set_option maxRecDepth 20000 in
theorem gL_law_X4_nearestIdle : GoodIn wsL_law (wsV RL 140 RX4 yX4_nearestIdle wsX4_nearestIdle) := goodIn_app (goodIn_of _ (by decide +kernel)) ggL_law_X4_nearestIdle
set_option maxRecDepth 20000 in
theorem ggL_law_X4_goesTo : GoodIn wsL_law wsX4_goesTo := goodIn_ca (goodIn_r _ [469, 20, 462, 463, 464, 2, 465, 140, 141, 196, 148, 149, 29, 150, 48, 562, 563, 573, 574, 575, 576, 577, 578, 579, 580, 581, 582, 583, 584, 585, 586, 587, 591, 592, 593, 594, 595, 596, 588] rfl (by decide +kernel)) (goodIn_sub (fun _ h => List.mem_append_right _ h) (by decide +kernel))
set_option maxRecDepth 20000 in
theorem gL_law_X4_goesTo : GoodIn wsL_law (wsV RL 143 RX4 yX4_goesTo wsX4_goesTo) := goodIn_app (goodIn_of _ (by decide +kernel)) ggL_law_X4_goesTo
set_option maxRecDepth 20000 in
theorem ggL_law_X4_serves : GoodIn wsL_law wsX4_serves := goodIn_ca (goodIn_r _ [473, 20, 462, 463, 464, 2, 465, 140, 141, 196, 148, 149, 29, 150, 48, 562, 563, 573, 574, 575, 576, 577, 578, 579, 580, 581, 582, 583, 584, 585, 586, 587, 591, 592, 593, 594, 595, 596, 588] rfl (by decide +kernel)) (goodIn_sub (fun _ h => List.mem_append_right _ h) (by decide +kernel))
set_option maxRecDepth 20000 in
theorem gL_law_X4_serves : GoodIn wsL_law (wsV RL 146 RX4 yX4_serves wsX4_serves) := goodIn_app (goodIn_of _ (by decide +kernel)) ggL_law_X4_serves
set_option maxRecDepth 20000 in
theorem ggL_law_X4_floorOf : GoodIn wsL_law wsX4_floorOf := goodIn_ca (goodIn_r _ [461, 20, 462, 463, 464, 2, 465, 140, 141, 196, 148, 149, 29, 150, 48, 562, 563, 573, 574, 575, 576, 577, 578, 579, 580, 581, 582, 583, 584, 585, 586, 587, 591, 592, 593, 594, 595, 596, 588] rfl (by decide +kernel)) (goodIn_sub (fun _ h => List.mem_append_right _ h) (by decide +kernel))
set_option maxRecDepth 20000 in
theorem gL_law_X4_floorOf : GoodIn wsL_law (wsV RL 149 RX4 yX4_floorOf wsX4_floorOf) := goodIn_app (goodIn_of _ (by decide +kernel)) ggL_law_X4_floorOf
set_option maxRecDepth 20000 in
theorem ggL_law_X4_wayTo : GoodIn wsL_law wsX4_wayTo := goodIn_ca (goodIn_r _ [501, 20, 462, 463, 464, 2, 465, 140, 141, 136, 137, 138, 139, 196, 148, 149, 29, 150, 48, 502, 289, 290, 42, 291, 60, 59, 265, 284, 285, 286, 562, 563, 573, 574, 575, 576, 577, 578, 579, 580, 581, 582, 583, 584, 585, 586, 587, 591, 592, 593, 594, 595, 596, 588] rfl (by decide +kernel)) (goodIn_sub (fun _ h => List.mem_append_right _ h) (by decide +kernel))
set_option maxRecDepth 20000 in
theorem gL_law_X4_wayTo : GoodIn wsL_law (wsV RL 157 RX4 yX4_wayTo wsX4_wayTo) := goodIn_app (goodIn_of _ (by decide +kernel)) ggL_law_X4_wayTo
set_option maxRecDepth 20000 in
theorem ggL_law_X4_minutesLeft : GoodIn wsL_law wsX4_minutesLeft := goodIn_ca (goodIn_r _ [477, 20, 462, 463, 464, 2, 465, 140, 141, 196, 148, 149, 29, 150, 48, 562, 563, 573, 574, 575, 576, 577, 578, 579, 580, 581, 582, 583, 584, 585, 586, 587, 591, 592, 593, 594, 595, 596, 588] rfl (by decide +kernel)) (goodIn_sub (fun _ h => List.mem_append_right _ h) (by decide +kernel))
set_option maxRecDepth 20000 in
theorem gL_law_X4_minutesLeft : GoodIn wsL_law (wsV RL 160 RX4 yX4_minutesLeft wsX4_minutesLeft) := goodIn_app (goodIn_of _ (by decide +kernel)) ggL_law_X4_minutesLeft
set_option maxRecDepth 20000 in
theorem ggL_law_X4_crossingsNeeded : GoodIn wsL_law wsX4_crossingsNeeded := goodIn_r _ [370, 20, 371, 372, 373, 19, 374, 33, 113, 147, 148, 149, 29, 150, 48, 562, 563, 573, 574, 575, 576, 577, 578, 579, 580, 581, 582, 583, 584, 585, 586, 587, 588] rfl (by decide +kernel)
set_option maxRecDepth 20000 in
theorem gL_law_X4_crossingsNeeded : GoodIn wsL_law (wsV RL 163 RX4 yX4_crossingsNeeded wsX4_crossingsNeeded) := goodIn_app (goodIn_of _ (by decide +kernel)) ggL_law_X4_crossingsNeeded
set_option maxRecDepth 20000 in
theorem ggL_law_X4_crossed : GoodIn wsL_law wsX4_crossed := goodIn_r _ [366, 20, 196, 148, 149, 29, 150, 48, 562, 563, 573, 574, 575, 576, 577, 578, 579, 580, 581, 582, 583, 584, 585, 586, 587, 588] rfl (by decide +kernel)
set_option maxRecDepth 20000 in
theorem gL_law_X4_crossed : GoodIn wsL_law (wsV RL 166 RX4 yX4_crossed wsX4_crossed) := goodIn_app (goodIn_of _ (by decide +kernel)) ggL_law_X4_crossed
set_option maxRecDepth 20000 in
theorem ggL_law_L_below : GoodIn wsL_law wsL_below := goodIn_r _ [87, 88] rfl (by decide +kernel)
set_option maxRecDepth 20000 in
theorem gL_law_L_below : GoodIn wsL_law (va_wsS RL 18 yL_below wsL_below) := goodIn_app (goodIn_of _ (by decide +kernel)) ggL_law_L_below
set_option maxRecDepth 20000 in
theorem ggL_law_X4_minutesUntilServed_s0 : GoodIn wsL_law [.code yX4_minutesUntilServed cX4_minutesUntilServed 3 (some .int)] := goodIn_r _ [449] rfl (by decide +kernel)
set_option maxRecDepth 20000 in
theorem ggL_law_X4_minutesUntilServed_s1 : GoodIn wsL_law wsX4_minutesUntilServed_r1 := goodIn_r _ [21, 20, 136, 137, 138, 2, 139, 140, 141, 388, 389, 390, 19, 391, 247, 113, 26, 246, 271, 252, 146, 30, 31, 32] rfl (by decide +kernel)
set_option maxRecDepth 20000 in
theorem ggL_law_X4_minutesUntilServed_s2 : GoodIn wsL_law wsX4_minutesUntilServed_r2 := goodIn_r _ [33, 34, 35, 39, 43, 392, 393, 394, 29, 395, 48, 396, 397, 398, 38, 399, 158, 53, 400, 401, 402, 42, 403, 126] rfl (by decide +kernel)
set_option maxRecDepth 20000 in
theorem ggL_law_X4_minutesUntilServed_s3 : GoodIn wsL_law wsX4_minutesUntilServed_r3 := goodIn_r _ [59, 60, 61, 62, 63, 404, 450, 451, 452, 453, 265, 148, 149, 150, 163, 164, 165, 166, 147, 242, 243, 244, 245, 248] rfl (by decide +kernel)
set_option maxRecDepth 20000 in
theorem ggL_law_X4_minutesUntilServed_s4 : GoodIn wsL_law wsX4_minutesUntilServed_r4 := goodIn_r _ [249, 250, 251, 114, 115, 116, 117, 253, 254, 255, 256, 143, 144, 145, 151, 152, 153, 154, 155, 156, 157, 159, 160, 161] rfl (by decide +kernel)
set_option maxRecDepth 20000 in
theorem ggL_law_X4_minutesUntilServed_s5 : GoodIn wsL_law wsX4_minutesUntilServed_r5 := goodIn_r _ [162, 257, 258, 259, 260, 261, 262, 263, 264, 266, 129, 130, 131, 127, 267, 268, 269, 270, 272, 273, 274, 275, 276, 277] rfl (by decide +kernel)
set_option maxRecDepth 20000 in
theorem ggL_law_X4_minutesUntilServed_s6 : GoodIn wsL_law wsX4_minutesUntilServed_r6 := goodIn_r _ [278, 279, 280, 281, 282, 283, 284, 285, 286, 287, 232, 233, 234, 288, 289, 290, 291] rfl (by decide +kernel)
set_option maxRecDepth 20000 in
theorem ggL_law_X4_minutesUntilServed_s7 : GoodIn wsL_law wsX40 := goodIn_r _ [562, 563] rfl (by decide +kernel)
set_option maxRecDepth 20000 in
theorem ggL_law_X4_minutesUntilServed_s8 : GoodIn wsL_law wsX00 := goodIn_r _ [573, 574, 575, 576, 577, 578, 579, 580, 581, 582, 583, 584, 585, 586, 587] rfl (by decide +kernel)
