set_option maxRecDepth 20000 in
theorem ggL_law_X4_digest_s14 : GoodIn wsL_law wsX40 := goodIn_r _ [562, 563] rfl (by decide +kernel)
set_option maxRecDepth 20000 in
theorem ggL_law_X4_digest_s15 : GoodIn wsL_law wsX00 := goodIn_r _ [573, 574, 575, 576, 577, 578, 579, 580, 581, 582, 583, 584, 585, 586, 587] rfl (by decide +kernel)
set_option maxRecDepth 20000 in
theorem ggL_law_X4_digest_s16 : GoodIn wsL_law wsX30 := goodIn_r _ [591, 592, 593, 594, 595, 596] rfl (by decide +kernel)
set_option maxRecDepth 20000 in
theorem ggL_law_X4_digest_s17 : GoodIn wsL_law wsX20 := goodIn_r _ [588] rfl (by decide +kernel)
set_option maxRecDepth 20000 in
theorem ggL_law_X4_digest_s18 : GoodIn wsL_law wsX10 := goodIn_r _ [589, 590] rfl (by decide +kernel)
set_option maxRecDepth 20000 in
theorem ggL_law_X4_digest : GoodIn wsL_law wsX4_digest := goodIn_ca (goodIn_ca (goodIn_ca (goodIn_ca (goodIn_ca (goodIn_ca (goodIn_ca (goodIn_app ggL_law_X4_digest_s0 (goodIn_app ggL_law_X4_digest_s1 (goodIn_app ggL_law_X4_digest_s2 (goodIn_app ggL_law_X4_digest_s3 (goodIn_app ggL_law_X4_digest_s4 (goodIn_app ggL_law_X4_digest_s5 (goodIn_app ggL_law_X4_digest_s6 (goodIn_app ggL_law_X4_digest_s7 (goodIn_app ggL_law_X4_digest_s8 (goodIn_app ggL_law_X4_digest_s9 (goodIn_app ggL_law_X4_digest_s10 (goodIn_app ggL_law_X4_digest_s11 (goodIn_app ggL_law_X4_digest_s12 ggL_law_X4_digest_s13))))))))))))) ggL_law_X4_digest_s14) ggL_law_X4_digest_s15) ggL_law_X4_digest_s16) ggL_law_X4_digest_s17) ggL_law_X4_digest_s18) (goodIn_sub (fun _ h => List.mem_append_left _ (List.mem_append_left _ (List.mem_append_right _ h))) (by decide +kernel))) (goodIn_sub (fun _ h => List.mem_append_right _ h) (by decide +kernel))
set_option maxRecDepth 20000 in
theorem gL_law_X4_digest : GoodIn wsL_law (wsV RL 100 RX4 yX4_digest wsX4_digest) := goodIn_app (goodIn_of _ (by decide +kernel)) ggL_law_X4_digest
set_option maxRecDepth 20000 in
theorem ggL_law_X4_rooms : GoodIn wsL_law wsX4_rooms := goodIn_r _ [334, 20, 562, 563, 573, 574, 575, 576, 577, 578, 579, 580, 581, 582, 583, 584, 585, 586, 587] rfl (by decide +kernel)
set_option maxRecDepth 20000 in
theorem gL_law_X4_rooms : GoodIn wsL_law (wsV RL 104 RX4 yX4_rooms wsX4_rooms) := goodIn_app (goodIn_of _ (by decide +kernel)) ggL_law_X4_rooms
set_option maxRecDepth 20000 in
theorem ggL_law_X4_servants : GoodIn wsL_law wsX4_servants := goodIn_r _ [338, 20, 562, 563, 573, 574, 575, 576, 577, 578, 579, 580, 581, 582, 583, 584, 585, 586, 587, 591, 592, 593, 594, 595, 596] rfl (by decide +kernel)
set_option maxRecDepth 20000 in
theorem gL_law_X4_servants : GoodIn wsL_law (wsV RL 106 RX4 yX4_servants wsX4_servants) := goodIn_app (goodIn_of _ (by decide +kernel)) ggL_law_X4_servants
set_option maxRecDepth 20000 in
theorem ggL_law_X4_placeInLine : GoodIn wsL_law wsX4_placeInLine := goodIn_ca (goodIn_r _ [432, 20, 136, 137, 138, 2, 139, 140, 141, 230, 155, 156, 38, 157, 158, 53, 562, 563, 573, 574, 575, 576, 577, 578, 579, 580, 581, 582, 583, 584, 585, 586, 587, 589, 590] rfl (by decide +kernel)) (goodIn_sub (fun _ h => List.mem_append_right _ h) (by decide +kernel))
set_option maxRecDepth 20000 in
theorem gL_law_X4_placeInLine : GoodIn wsL_law (wsV RL 108 RX4 yX4_placeInLine wsX4_placeInLine) := goodIn_app (goodIn_of _ (by decide +kernel)) ggL_law_X4_placeInLine
set_option maxRecDepth 20000 in
theorem ggL_law_X4_dropOf : GoodIn wsL_law wsX4_dropOf := goodIn_ca (goodIn_r _ [416, 20, 136, 137, 138, 2, 139, 140, 141, 196, 148, 149, 29, 150, 48, 562, 563, 573, 574, 575, 576, 577, 578, 579, 580, 581, 582, 583, 584, 585, 586, 587, 588] rfl (by decide +kernel)) (goodIn_sub (fun _ h => List.mem_append_right _ h) (by decide +kernel))
set_option maxRecDepth 20000 in
theorem gL_law_X4_dropOf : GoodIn wsL_law (wsV RL 111 RX4 yX4_dropOf wsX4_dropOf) := goodIn_app (goodIn_of _ (by decide +kernel)) ggL_law_X4_dropOf
set_option maxRecDepth 20000 in
theorem ggL_law_X4_roomOf : GoodIn wsL_law wsX4_roomOf := goodIn_ca (goodIn_r _ [420, 20, 136, 137, 138, 2, 139, 140, 141, 196, 148, 149, 29, 150, 48, 562, 563, 573, 574, 575, 576, 577, 578, 579, 580, 581, 582, 583, 584, 585, 586, 587, 588] rfl (by decide +kernel)) (goodIn_sub (fun _ h => List.mem_append_right _ h) (by decide +kernel))
set_option maxRecDepth 20000 in
theorem gL_law_X4_roomOf : GoodIn wsL_law (wsV RL 114 RX4 yX4_roomOf wsX4_roomOf) := goodIn_app (goodIn_of _ (by decide +kernel)) ggL_law_X4_roomOf
set_option maxRecDepth 20000 in
theorem ggL_law_X4_hasFallen : GoodIn wsL_law wsX4_hasFallen := goodIn_ca (goodIn_r _ [486, 20, 136, 137, 138, 2, 139, 140, 141, 230, 155, 156, 38, 157, 158, 53, 562, 563, 573, 574, 575, 576, 577, 578, 579, 580, 581, 582, 583, 584, 585, 586, 587, 589, 590] rfl (by decide +kernel)) (goodIn_sub (fun _ h => List.mem_append_right _ h) (by decide +kernel))
set_option maxRecDepth 20000 in
theorem gL_law_X4_hasFallen : GoodIn wsL_law (wsV RL 117 RX4 yX4_hasFallen wsX4_hasFallen) := goodIn_app (goodIn_of _ (by decide +kernel)) ggL_law_X4_hasFallen
set_option maxRecDepth 20000 in
theorem ggL_law_X4_fallen : GoodIn wsL_law wsX4_fallen := goodIn_r _ [378, 20, 562, 563, 573, 574, 575, 576, 577, 578, 579, 580, 581, 582, 583, 584, 585, 586, 587, 589, 590] rfl (by decide +kernel)
