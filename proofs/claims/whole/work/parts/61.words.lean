set_option maxRecDepth 30000 in
theorem wd_319 : (.classLink R_L 13 "java/lang/IllegalStateException" : Cond) ∈ tw := tw_of (i := 319) rfl rfl
set_option maxRecDepth 30000 in
theorem wd_320 : (.methodLink R_L 7 y_T_node : Cond) ∈ tw := tw_of (i := 320) rfl rfl
set_option maxRecDepth 30000 in
theorem wd_321 : (.instanceMethod y_T_node : Cond) ∈ tw := tw_of (i := 321) rfl rfl
set_option maxRecDepth 30000 in
theorem wd_322 : (.selects R_T y_T_node y_T_node : Cond) ∈ tw := tw_of (i := 322) rfl rfl
set_option maxRecDepth 30000 in
theorem wd_394 : (.classLink R_L 19 "java/lang/IllegalArgumentException" : Cond) ∈ tw := tw_of (i := 394) rfl rfl
set_option maxRecDepth 30000 in
theorem wd_395 : (.methodLink R_L 15 y_T_zone : Cond) ∈ tw := tw_of (i := 395) rfl rfl
set_option maxRecDepth 30000 in
theorem wd_396 : (.instanceMethod y_T_zone : Cond) ∈ tw := tw_of (i := 396) rfl rfl
set_option maxRecDepth 30000 in
theorem wd_397 : (.selects R_T y_T_zone y_T_zone : Cond) ∈ tw := tw_of (i := 397) rfl rfl
set_option maxRecDepth 30000 in
theorem wd_432 : (.methodLink R_L 21 y_T_street : Cond) ∈ tw := tw_of (i := 432) rfl rfl
set_option maxRecDepth 30000 in
theorem wd_433 : (.instanceMethod y_T_street : Cond) ∈ tw := tw_of (i := 433) rfl rfl
set_option maxRecDepth 30000 in
theorem wd_434 : (.selects R_T y_T_street y_T_street : Cond) ∈ tw := tw_of (i := 434) rfl rfl
set_option maxRecDepth 30000 in
theorem wd_446 : (.methodLink R_L 25 y_T_toll : Cond) ∈ tw := tw_of (i := 446) rfl rfl
set_option maxRecDepth 30000 in
theorem wd_447 : (.instanceMethod y_T_toll : Cond) ∈ tw := tw_of (i := 447) rfl rfl
set_option maxRecDepth 30000 in
theorem wd_448 : (.selects R_T y_T_toll y_T_toll : Cond) ∈ tw := tw_of (i := 448) rfl rfl
set_option maxRecDepth 30000 in
theorem wd_458 : (.methodLink R_L 29 y_T_open : Cond) ∈ tw := tw_of (i := 458) rfl rfl
set_option maxRecDepth 30000 in
theorem wd_459 : (.instanceMethod y_T_open : Cond) ∈ tw := tw_of (i := 459) rfl rfl
set_option maxRecDepth 30000 in
theorem wd_460 : (.selects R_T y_T_open y_T_open : Cond) ∈ tw := tw_of (i := 460) rfl rfl
set_option maxRecDepth 30000 in
theorem wd_465 : (.methodLink R_L 33 y_T_weight : Cond) ∈ tw := tw_of (i := 465) rfl rfl
set_option maxRecDepth 30000 in
theorem wd_466 : (.instanceMethod y_T_weight : Cond) ∈ tw := tw_of (i := 466) rfl rfl
set_option maxRecDepth 30000 in
theorem wd_467 : (.selects R_T y_T_weight y_T_weight : Cond) ∈ tw := tw_of (i := 467) rfl rfl
set_option maxRecDepth 30000 in
theorem wd_477 : (.methodLink R_L 36 y_T_size : Cond) ∈ tw := tw_of (i := 477) rfl rfl
set_option maxRecDepth 30000 in
theorem wd_478 : (.instanceMethod y_T_size : Cond) ∈ tw := tw_of (i := 478) rfl rfl
set_option maxRecDepth 30000 in
theorem wd_479 : (.selects R_T y_T_size y_T_size : Cond) ∈ tw := tw_of (i := 479) rfl rfl
set_option maxRecDepth 30000 in
theorem wd_484 : (.methodLink R_L 39 y_T_rounds : Cond) ∈ tw := tw_of (i := 484) rfl rfl
set_option maxRecDepth 30000 in
theorem wd_485 : (.instanceMethod y_T_rounds : Cond) ∈ tw := tw_of (i := 485) rfl rfl
set_option maxRecDepth 30000 in
theorem wd_486 : (.selects R_T y_T_rounds y_T_rounds : Cond) ∈ tw := tw_of (i := 486) rfl rfl
set_option maxRecDepth 30000 in
theorem wd_530 : (.methodLink R_L 42 y_T_trips : Cond) ∈ tw := tw_of (i := 530) rfl rfl
set_option maxRecDepth 30000 in
theorem wd_531 : (.instanceMethod y_T_trips : Cond) ∈ tw := tw_of (i := 531) rfl rfl
set_option maxRecDepth 30000 in
theorem wd_532 : (.selects R_T y_T_trips y_T_trips : Cond) ∈ tw := tw_of (i := 532) rfl rfl
set_option maxRecDepth 30000 in
theorem wd_537 : (.methodLink R_L 45 y_T_sum : Cond) ∈ tw := tw_of (i := 537) rfl rfl
set_option maxRecDepth 30000 in
theorem wd_538 : (.instanceMethod y_T_sum : Cond) ∈ tw := tw_of (i := 538) rfl rfl
set_option maxRecDepth 30000 in
theorem wd_539 : (.selects R_T y_T_sum y_T_sum : Cond) ∈ tw := tw_of (i := 539) rfl rfl
set_option maxRecDepth 30000 in
theorem wd_549 : (.methodLink R_L 48 y_T_factor : Cond) ∈ tw := tw_of (i := 549) rfl rfl
set_option maxRecDepth 30000 in
theorem wd_550 : (.instanceMethod y_T_factor : Cond) ∈ tw := tw_of (i := 550) rfl rfl
set_option maxRecDepth 30000 in
theorem wd_551 : (.selects R_T y_T_factor y_T_factor : Cond) ∈ tw := tw_of (i := 551) rfl rfl
set_option maxRecDepth 30000 in
theorem wd_556 : (.methodLink R_L 52 y_T_pull : Cond) ∈ tw := tw_of (i := 556) rfl rfl
set_option maxRecDepth 30000 in
theorem wd_557 : (.instanceMethod y_T_pull : Cond) ∈ tw := tw_of (i := 557) rfl rfl
set_option maxRecDepth 30000 in
theorem wd_558 : (.selects R_T y_T_pull y_T_pull : Cond) ∈ tw := tw_of (i := 558) rfl rfl
set_option maxRecDepth 30000 in
theorem wd_564 : (.methodLink R_L 56 y_T_chosen : Cond) ∈ tw := tw_of (i := 564) rfl rfl
set_option maxRecDepth 30000 in
theorem wd_565 : (.instanceMethod y_T_chosen : Cond) ∈ tw := tw_of (i := 565) rfl rfl
set_option maxRecDepth 30000 in
theorem wd_566 : (.selects R_T y_T_chosen y_T_chosen : Cond) ∈ tw := tw_of (i := 566) rfl rfl
set_option maxRecDepth 30000 in
theorem wd_576 : (.methodLink R_L 59 y_T_assign : Cond) ∈ tw := tw_of (i := 576) rfl rfl
set_option maxRecDepth 30000 in
theorem wd_577 : (.instanceMethod y_T_assign : Cond) ∈ tw := tw_of (i := 577) rfl rfl
set_option maxRecDepth 30000 in
theorem wd_578 : (.selects R_T y_T_assign y_T_assign : Cond) ∈ tw := tw_of (i := 578) rfl rfl
set_option maxRecDepth 30000 in
theorem wd_613 : (.methodLink R_L 62 y_T_flow : Cond) ∈ tw := tw_of (i := 613) rfl rfl
set_option maxRecDepth 30000 in
theorem wd_614 : (.instanceMethod y_T_flow : Cond) ∈ tw := tw_of (i := 614) rfl rfl
set_option maxRecDepth 30000 in
theorem wd_615 : (.selects R_T y_T_flow y_T_flow : Cond) ∈ tw := tw_of (i := 615) rfl rfl
set_option maxRecDepth 30000 in
theorem wd_621 : (.methodLink R_L 65 y_T_way : Cond) ∈ tw := tw_of (i := 621) rfl rfl
set_option maxRecDepth 30000 in
theorem wd_622 : (.instanceMethod y_T_way : Cond) ∈ tw := tw_of (i := 622) rfl rfl
set_option maxRecDepth 30000 in
theorem wd_623 : (.selects R_T y_T_way y_T_way : Cond) ∈ tw := tw_of (i := 623) rfl rfl
set_option maxRecDepth 30000 in
theorem wd_633 : (.methodLink R_L 68 y_T_least : Cond) ∈ tw := tw_of (i := 633) rfl rfl
set_option maxRecDepth 30000 in
theorem wd_634 : (.instanceMethod y_T_least : Cond) ∈ tw := tw_of (i := 634) rfl rfl
set_option maxRecDepth 30000 in
theorem wd_635 : (.selects R_T y_T_least y_T_least : Cond) ∈ tw := tw_of (i := 635) rfl rfl
set_option maxRecDepth 30000 in
theorem wd_640 : (.methodLink R_L 71 y_T_link : Cond) ∈ tw := tw_of (i := 640) rfl rfl
set_option maxRecDepth 30000 in
theorem wd_641 : (.instanceMethod y_T_link : Cond) ∈ tw := tw_of (i := 641) rfl rfl
set_option maxRecDepth 30000 in
theorem wd_642 : (.selects R_T y_T_link y_T_link : Cond) ∈ tw := tw_of (i := 642) rfl rfl
set_option maxRecDepth 30000 in
theorem wd_648 : (.methodLink R_L 74 y_T_count : Cond) ∈ tw := tw_of (i := 648) rfl rfl
set_option maxRecDepth 30000 in
theorem wd_649 : (.instanceMethod y_T_count : Cond) ∈ tw := tw_of (i := 649) rfl rfl
set_option maxRecDepth 30000 in
theorem wd_650 : (.selects R_T y_T_count y_T_count : Cond) ∈ tw := tw_of (i := 650) rfl rfl
set_option maxRecDepth 30000 in
theorem wd_655 : (.methodLink R_L 77 y_T_fit : Cond) ∈ tw := tw_of (i := 655) rfl rfl
set_option maxRecDepth 30000 in
theorem wd_656 : (.instanceMethod y_T_fit : Cond) ∈ tw := tw_of (i := 656) rfl rfl
set_option maxRecDepth 30000 in
theorem wd_657 : (.selects R_T y_T_fit y_T_fit : Cond) ∈ tw := tw_of (i := 657) rfl rfl
set_option maxRecDepth 30000 in
theorem wc_T_assign : (.code y_T_assign b_T_assign 2 (some .int) : Cond) ∈ tw := tw_of (i := 579) rfl rfl
set_option maxRecDepth 30000 in
theorem wc_T_chosen : (.code y_T_chosen b_T_chosen 5 (some .int) : Cond) ∈ tw := tw_of (i := 567) rfl rfl
set_option maxRecDepth 30000 in
theorem wc_T_count : (.code y_T_count b_T_count 4 (some .int) : Cond) ∈ tw := tw_of (i := 651) rfl rfl
set_option maxRecDepth 30000 in
theorem wc_T_factor : (.code y_T_factor b_T_factor 2 (some .int) : Cond) ∈ tw := tw_of (i := 552) rfl rfl
set_option maxRecDepth 30000 in
theorem wc_T_fit : (.code y_T_fit b_T_fit 4 (some .int) : Cond) ∈ tw := tw_of (i := 658) rfl rfl
set_option maxRecDepth 30000 in
theorem wc_T_flow : (.code y_T_flow b_T_flow 3 (some .int) : Cond) ∈ tw := tw_of (i := 616) rfl rfl
set_option maxRecDepth 30000 in
theorem wc_T_least : (.code y_T_least b_T_least 3 (some .int) : Cond) ∈ tw := tw_of (i := 636) rfl rfl
set_option maxRecDepth 30000 in
theorem wc_T_link : (.code y_T_link b_T_link 4 (some .int) : Cond) ∈ tw := tw_of (i := 643) rfl rfl
set_option maxRecDepth 30000 in
theorem wc_T_node : (.code y_T_node b_T_node 1 (some .int) : Cond) ∈ tw := tw_of (i := 323) rfl rfl
set_option maxRecDepth 30000 in
theorem wc_T_open : (.code y_T_open b_T_open 4 (some .boolean) : Cond) ∈ tw := tw_of (i := 461) rfl rfl
set_option maxRecDepth 30000 in
theorem wc_T_pull : (.code y_T_pull b_T_pull 7 (some .int) : Cond) ∈ tw := tw_of (i := 559) rfl rfl
set_option maxRecDepth 30000 in
theorem wc_T_rounds : (.code y_T_rounds b_T_rounds 3 (some .int) : Cond) ∈ tw := tw_of (i := 487) rfl rfl
set_option maxRecDepth 30000 in
theorem wc_T_size : (.code y_T_size b_T_size 6 (some .int) : Cond) ∈ tw := tw_of (i := 480) rfl rfl
set_option maxRecDepth 30000 in
theorem wc_T_street : (.code y_T_street b_T_street 6 (some .int) : Cond) ∈ tw := tw_of (i := 435) rfl rfl
set_option maxRecDepth 30000 in
theorem wc_T_sum : (.code y_T_sum b_T_sum 3 (some .int) : Cond) ∈ tw := tw_of (i := 540) rfl rfl
set_option maxRecDepth 30000 in
theorem wc_T_toll : (.code y_T_toll b_T_toll 4 (some .int) : Cond) ∈ tw := tw_of (i := 449) rfl rfl
set_option maxRecDepth 30000 in
theorem wc_T_trips : (.code y_T_trips b_T_trips 3 (some .int) : Cond) ∈ tw := tw_of (i := 533) rfl rfl
set_option maxRecDepth 30000 in
theorem wc_T_way : (.code y_T_way b_T_way 4 (some .int) : Cond) ∈ tw := tw_of (i := 624) rfl rfl
set_option maxRecDepth 30000 in
theorem wc_T_weight : (.code y_T_weight b_T_weight 6 (some .int) : Cond) ∈ tw := tw_of (i := 468) rfl rfl
set_option maxRecDepth 30000 in
theorem wc_T_zone : (.code y_T_zone b_T_zone 4 (some .int) : Cond) ∈ tw := tw_of (i := 398) rfl rfl
