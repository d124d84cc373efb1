set_option maxRecDepth 30000 in
theorem wl_node : (.codeWith y_L_node b_L_node 3 (some .int) [(0, 8, 11, 13)] : Cond) ∈ tw := tw_of (i := 318) rfl rfl
set_option maxRecDepth 30000 in
theorem wl_zone : (.codeWith y_L_zone b_L_zone 6 (some .int) [(0, 12, 15, 19), (0, 12, 19, 13)] : Cond) ∈ tw := tw_of (i := 393) rfl rfl
set_option maxRecDepth 30000 in
theorem wl_street : (.codeWith y_L_street b_L_street 8 (some .int) [(0, 16, 19, 19), (0, 16, 23, 13)] : Cond) ∈ tw := tw_of (i := 431) rfl rfl
set_option maxRecDepth 30000 in
theorem wl_toll : (.codeWith y_L_toll b_L_toll 5 (some .int) [(0, 10, 13, 19)] : Cond) ∈ tw := tw_of (i := 445) rfl rfl
set_option maxRecDepth 30000 in
theorem wl_open : (.codeWith y_L_open b_L_open 5 (some .int) [(0, 17, 20, 19)] : Cond) ∈ tw := tw_of (i := 457) rfl rfl
set_option maxRecDepth 30000 in
theorem wl_weight : (.codeWith y_L_weight b_L_weight 6 (some .int) [(0, 12, 15, 19)] : Cond) ∈ tw := tw_of (i := 464) rfl rfl
set_option maxRecDepth 30000 in
theorem wl_size : (.codeWith y_L_size b_L_size 6 (some .int) [(0, 12, 15, 19)] : Cond) ∈ tw := tw_of (i := 476) rfl rfl
set_option maxRecDepth 30000 in
theorem wl_rounds : (.codeWith y_L_rounds b_L_rounds 5 (some .int) [(0, 10, 13, 19)] : Cond) ∈ tw := tw_of (i := 483) rfl rfl
set_option maxRecDepth 30000 in
theorem wl_trips : (.codeWith y_L_trips b_L_trips 5 (some .int) [(0, 10, 13, 19)] : Cond) ∈ tw := tw_of (i := 529) rfl rfl
set_option maxRecDepth 30000 in
theorem wl_sum : (.codeWith y_L_sum b_L_sum 5 (some .int) [(0, 10, 13, 19)] : Cond) ∈ tw := tw_of (i := 536) rfl rfl
set_option maxRecDepth 30000 in
theorem wl_factor : (.codeWith y_L_factor b_L_factor 4 (some .int) [(0, 9, 12, 19)] : Cond) ∈ tw := tw_of (i := 548) rfl rfl
set_option maxRecDepth 30000 in
theorem wl_pull : (.codeWith y_L_pull b_L_pull 7 (some .int) [(0, 14, 17, 19)] : Cond) ∈ tw := tw_of (i := 555) rfl rfl
set_option maxRecDepth 30000 in
theorem wl_chosen : (.codeWith y_L_chosen b_L_chosen 6 (some .int) [(0, 12, 15, 19)] : Cond) ∈ tw := tw_of (i := 563) rfl rfl
set_option maxRecDepth 30000 in
theorem wl_assign : (.codeWith y_L_assign b_L_assign 4 (some .int) [(0, 9, 12, 19)] : Cond) ∈ tw := tw_of (i := 575) rfl rfl
set_option maxRecDepth 30000 in
theorem wl_flow : (.codeWith y_L_flow b_L_flow 5 (some .int) [(0, 10, 13, 19)] : Cond) ∈ tw := tw_of (i := 612) rfl rfl
set_option maxRecDepth 30000 in
theorem wl_way : (.codeWith y_L_way b_L_way 6 (some .int) [(0, 12, 15, 19)] : Cond) ∈ tw := tw_of (i := 620) rfl rfl
set_option maxRecDepth 30000 in
theorem wl_least : (.codeWith y_L_least b_L_least 5 (some .int) [(0, 10, 13, 19)] : Cond) ∈ tw := tw_of (i := 632) rfl rfl
set_option maxRecDepth 30000 in
theorem wl_link : (.codeWith y_L_link b_L_link 6 (some .int) [(0, 12, 15, 19)] : Cond) ∈ tw := tw_of (i := 639) rfl rfl
set_option maxRecDepth 30000 in
theorem wl_count : (.codeWith y_L_count b_L_count 5 (some .int) [(0, 10, 13, 19)] : Cond) ∈ tw := tw_of (i := 647) rfl rfl
set_option maxRecDepth 30000 in
theorem wl_fit : (.codeWith y_L_fit b_L_fit 4 (some .int) [(0, 9, 12, 19), (0, 9, 15, 13)] : Cond) ∈ tw := tw_of (i := 654) rfl rfl
set_option maxRecDepth 30000 in
theorem wd_33 : (.initialized R_L : Cond) ∈ tw := tw_of (i := 33) rfl rfl
set_option maxRecDepth 30000 in
theorem wd_267 : (.methodLink R_L 150 y_T_gap : Cond) ∈ tw := tw_of (i := 267) rfl rfl
set_option maxRecDepth 30000 in
theorem wd_268 : (.instanceMethod y_T_gap : Cond) ∈ tw := tw_of (i := 268) rfl rfl
set_option maxRecDepth 30000 in
theorem wd_269 : (.selects R_T y_T_gap y_T_gap : Cond) ∈ tw := tw_of (i := 269) rfl rfl
set_option maxRecDepth 30000 in
theorem wd_316 : (.methodLink R_L 84 y_L_node : Cond) ∈ tw := tw_of (i := 316) rfl rfl
set_option maxRecDepth 30000 in
theorem wd_317 : (.static y_L_node : Cond) ∈ tw := tw_of (i := 317) rfl rfl
set_option maxRecDepth 30000 in
theorem wd_391 : (.methodLink R_L 93 y_L_zone : Cond) ∈ tw := tw_of (i := 391) rfl rfl
set_option maxRecDepth 30000 in
theorem wd_392 : (.static y_L_zone : Cond) ∈ tw := tw_of (i := 392) rfl rfl
set_option maxRecDepth 30000 in
theorem wd_429 : (.methodLink R_L 97 y_L_street : Cond) ∈ tw := tw_of (i := 429) rfl rfl
set_option maxRecDepth 30000 in
theorem wd_430 : (.static y_L_street : Cond) ∈ tw := tw_of (i := 430) rfl rfl
set_option maxRecDepth 30000 in
theorem wd_443 : (.methodLink R_L 101 y_L_toll : Cond) ∈ tw := tw_of (i := 443) rfl rfl
set_option maxRecDepth 30000 in
theorem wd_444 : (.static y_L_toll : Cond) ∈ tw := tw_of (i := 444) rfl rfl
set_option maxRecDepth 30000 in
theorem wd_455 : (.methodLink R_L 105 y_L_open : Cond) ∈ tw := tw_of (i := 455) rfl rfl
set_option maxRecDepth 30000 in
theorem wd_456 : (.static y_L_open : Cond) ∈ tw := tw_of (i := 456) rfl rfl
set_option maxRecDepth 30000 in
theorem wd_462 : (.methodLink R_L 109 y_L_weight : Cond) ∈ tw := tw_of (i := 462) rfl rfl
set_option maxRecDepth 30000 in
theorem wd_463 : (.static y_L_weight : Cond) ∈ tw := tw_of (i := 463) rfl rfl
set_option maxRecDepth 30000 in
theorem wd_474 : (.methodLink R_L 112 y_L_size : Cond) ∈ tw := tw_of (i := 474) rfl rfl
set_option maxRecDepth 30000 in
theorem wd_475 : (.static y_L_size : Cond) ∈ tw := tw_of (i := 475) rfl rfl
set_option maxRecDepth 30000 in
theorem wd_481 : (.methodLink R_L 115 y_L_rounds : Cond) ∈ tw := tw_of (i := 481) rfl rfl
set_option maxRecDepth 30000 in
theorem wd_482 : (.static y_L_rounds : Cond) ∈ tw := tw_of (i := 482) rfl rfl
set_option maxRecDepth 30000 in
theorem wd_527 : (.methodLink R_L 118 y_L_trips : Cond) ∈ tw := tw_of (i := 527) rfl rfl
set_option maxRecDepth 30000 in
theorem wd_528 : (.static y_L_trips : Cond) ∈ tw := tw_of (i := 528) rfl rfl
set_option maxRecDepth 30000 in
theorem wd_534 : (.methodLink R_L 121 y_L_sum : Cond) ∈ tw := tw_of (i := 534) rfl rfl
set_option maxRecDepth 30000 in
theorem wd_535 : (.static y_L_sum : Cond) ∈ tw := tw_of (i := 535) rfl rfl
set_option maxRecDepth 30000 in
theorem wd_546 : (.methodLink R_L 124 y_L_factor : Cond) ∈ tw := tw_of (i := 546) rfl rfl
set_option maxRecDepth 30000 in
theorem wd_547 : (.static y_L_factor : Cond) ∈ tw := tw_of (i := 547) rfl rfl
set_option maxRecDepth 30000 in
theorem wd_553 : (.methodLink R_L 128 y_L_pull : Cond) ∈ tw := tw_of (i := 553) rfl rfl
set_option maxRecDepth 30000 in
theorem wd_554 : (.static y_L_pull : Cond) ∈ tw := tw_of (i := 554) rfl rfl
set_option maxRecDepth 30000 in
theorem wd_561 : (.methodLink R_L 132 y_L_chosen : Cond) ∈ tw := tw_of (i := 561) rfl rfl
set_option maxRecDepth 30000 in
theorem wd_562 : (.static y_L_chosen : Cond) ∈ tw := tw_of (i := 562) rfl rfl
set_option maxRecDepth 30000 in
theorem wd_573 : (.methodLink R_L 135 y_L_assign : Cond) ∈ tw := tw_of (i := 573) rfl rfl
set_option maxRecDepth 30000 in
theorem wd_574 : (.static y_L_assign : Cond) ∈ tw := tw_of (i := 574) rfl rfl
set_option maxRecDepth 30000 in
theorem wd_610 : (.methodLink R_L 138 y_L_flow : Cond) ∈ tw := tw_of (i := 610) rfl rfl
set_option maxRecDepth 30000 in
theorem wd_611 : (.static y_L_flow : Cond) ∈ tw := tw_of (i := 611) rfl rfl
set_option maxRecDepth 30000 in
theorem wd_618 : (.methodLink R_L 141 y_L_way : Cond) ∈ tw := tw_of (i := 618) rfl rfl
set_option maxRecDepth 30000 in
theorem wd_619 : (.static y_L_way : Cond) ∈ tw := tw_of (i := 619) rfl rfl
set_option maxRecDepth 30000 in
theorem wd_630 : (.methodLink R_L 144 y_L_least : Cond) ∈ tw := tw_of (i := 630) rfl rfl
set_option maxRecDepth 30000 in
theorem wd_631 : (.static y_L_least : Cond) ∈ tw := tw_of (i := 631) rfl rfl
set_option maxRecDepth 30000 in
theorem wd_637 : (.methodLink R_L 147 y_L_link : Cond) ∈ tw := tw_of (i := 637) rfl rfl
set_option maxRecDepth 30000 in
theorem wd_638 : (.static y_L_link : Cond) ∈ tw := tw_of (i := 638) rfl rfl
set_option maxRecDepth 30000 in
theorem wd_645 : (.methodLink R_L 155 y_L_count : Cond) ∈ tw := tw_of (i := 645) rfl rfl
set_option maxRecDepth 30000 in
theorem wd_646 : (.static y_L_count : Cond) ∈ tw := tw_of (i := 646) rfl rfl
set_option maxRecDepth 30000 in
theorem wd_652 : (.methodLink R_L 158 y_L_fit : Cond) ∈ tw := tw_of (i := 652) rfl rfl
set_option maxRecDepth 30000 in
theorem wd_653 : (.static y_L_fit : Cond) ∈ tw := tw_of (i := 653) rfl rfl
set_option maxRecDepth 30000 in
theorem wd_774 : (.methodLink R_L 90 y_R_thrown : Cond) ∈ tw := tw_of (i := 774) rfl rfl
set_option maxRecDepth 30000 in
theorem wd_775 : (.instanceMethod y_R_thrown : Cond) ∈ tw := tw_of (i := 775) rfl rfl
set_option maxRecDepth 30000 in
theorem wd_776 : (.selects R_R y_R_thrown y_R_thrown : Cond) ∈ tw := tw_of (i := 776) rfl rfl
set_option maxRecDepth 30000 in
theorem wd_778 : (.methodLink R_L 89 y_R_node : Cond) ∈ tw := tw_of (i := 778) rfl rfl
set_option maxRecDepth 30000 in
theorem wd_779 : (.instanceMethod y_R_node : Cond) ∈ tw := tw_of (i := 779) rfl rfl
set_option maxRecDepth 30000 in
theorem wd_780 : (.selects R_R y_R_node y_R_node : Cond) ∈ tw := tw_of (i := 780) rfl rfl
set_option maxRecDepth 30000 in
theorem wd_782 : (.methodLink R_L 96 y_R_zone : Cond) ∈ tw := tw_of (i := 782) rfl rfl
set_option maxRecDepth 30000 in
theorem wd_783 : (.instanceMethod y_R_zone : Cond) ∈ tw := tw_of (i := 783) rfl rfl
set_option maxRecDepth 30000 in
theorem wd_784 : (.selects R_R y_R_zone y_R_zone : Cond) ∈ tw := tw_of (i := 784) rfl rfl
set_option maxRecDepth 30000 in
theorem wd_794 : (.methodLink R_L 100 y_R_street : Cond) ∈ tw := tw_of (i := 794) rfl rfl
set_option maxRecDepth 30000 in
theorem wd_795 : (.instanceMethod y_R_street : Cond) ∈ tw := tw_of (i := 795) rfl rfl
set_option maxRecDepth 30000 in
theorem wd_796 : (.selects R_R y_R_street y_R_street : Cond) ∈ tw := tw_of (i := 796) rfl rfl
set_option maxRecDepth 30000 in
theorem wd_799 : (.methodLink R_L 104 y_R_toll : Cond) ∈ tw := tw_of (i := 799) rfl rfl
set_option maxRecDepth 30000 in
theorem wd_800 : (.instanceMethod y_R_toll : Cond) ∈ tw := tw_of (i := 800) rfl rfl
set_option maxRecDepth 30000 in
theorem wd_801 : (.selects R_R y_R_toll y_R_toll : Cond) ∈ tw := tw_of (i := 801) rfl rfl
set_option maxRecDepth 30000 in
theorem wd_807 : (.methodLink R_L 108 y_R_open : Cond) ∈ tw := tw_of (i := 807) rfl rfl
set_option maxRecDepth 30000 in
theorem wd_808 : (.instanceMethod y_R_open : Cond) ∈ tw := tw_of (i := 808) rfl rfl
set_option maxRecDepth 30000 in
theorem wd_809 : (.selects R_R y_R_open y_R_open : Cond) ∈ tw := tw_of (i := 809) rfl rfl
set_option maxRecDepth 30000 in
theorem wd_811 : (.methodLink R_L 111 y_R_weight : Cond) ∈ tw := tw_of (i := 811) rfl rfl
set_option maxRecDepth 30000 in
theorem wd_812 : (.instanceMethod y_R_weight : Cond) ∈ tw := tw_of (i := 812) rfl rfl
set_option maxRecDepth 30000 in
theorem wd_813 : (.selects R_R y_R_weight y_R_weight : Cond) ∈ tw := tw_of (i := 813) rfl rfl
set_option maxRecDepth 30000 in
theorem wd_823 : (.methodLink R_L 114 y_R_size : Cond) ∈ tw := tw_of (i := 823) rfl rfl
set_option maxRecDepth 30000 in
theorem wd_824 : (.instanceMethod y_R_size : Cond) ∈ tw := tw_of (i := 824) rfl rfl
set_option maxRecDepth 30000 in
theorem wd_825 : (.selects R_R y_R_size y_R_size : Cond) ∈ tw := tw_of (i := 825) rfl rfl
set_option maxRecDepth 30000 in
theorem wd_827 : (.methodLink R_L 117 y_R_rounds : Cond) ∈ tw := tw_of (i := 827) rfl rfl
set_option maxRecDepth 30000 in
theorem wd_828 : (.instanceMethod y_R_rounds : Cond) ∈ tw := tw_of (i := 828) rfl rfl
set_option maxRecDepth 30000 in
theorem wd_829 : (.selects R_R y_R_rounds y_R_rounds : Cond) ∈ tw := tw_of (i := 829) rfl rfl
set_option maxRecDepth 30000 in
theorem wd_849 : (.methodLink R_L 120 y_R_trips : Cond) ∈ tw := tw_of (i := 849) rfl rfl
set_option maxRecDepth 30000 in
theorem wd_850 : (.instanceMethod y_R_trips : Cond) ∈ tw := tw_of (i := 850) rfl rfl
set_option maxRecDepth 30000 in
theorem wd_851 : (.selects R_R y_R_trips y_R_trips : Cond) ∈ tw := tw_of (i := 851) rfl rfl
set_option maxRecDepth 30000 in
theorem wd_853 : (.methodLink R_L 123 y_R_sum : Cond) ∈ tw := tw_of (i := 853) rfl rfl
set_option maxRecDepth 30000 in
theorem wd_854 : (.instanceMethod y_R_sum : Cond) ∈ tw := tw_of (i := 854) rfl rfl
set_option maxRecDepth 30000 in
theorem wd_855 : (.selects R_R y_R_sum y_R_sum : Cond) ∈ tw := tw_of (i := 855) rfl rfl
set_option maxRecDepth 30000 in
theorem wd_857 : (.methodLink R_L 127 y_R_factor : Cond) ∈ tw := tw_of (i := 857) rfl rfl
set_option maxRecDepth 30000 in
theorem wd_858 : (.instanceMethod y_R_factor : Cond) ∈ tw := tw_of (i := 858) rfl rfl
set_option maxRecDepth 30000 in
theorem wd_859 : (.selects R_R y_R_factor y_R_factor : Cond) ∈ tw := tw_of (i := 859) rfl rfl
set_option maxRecDepth 30000 in
theorem wd_861 : (.methodLink R_L 131 y_R_pull : Cond) ∈ tw := tw_of (i := 861) rfl rfl
set_option maxRecDepth 30000 in
theorem wd_862 : (.instanceMethod y_R_pull : Cond) ∈ tw := tw_of (i := 862) rfl rfl
set_option maxRecDepth 30000 in
theorem wd_863 : (.selects R_R y_R_pull y_R_pull : Cond) ∈ tw := tw_of (i := 863) rfl rfl
set_option maxRecDepth 30000 in
theorem wd_865 : (.methodLink R_L 134 y_R_chosen : Cond) ∈ tw := tw_of (i := 865) rfl rfl
set_option maxRecDepth 30000 in
theorem wd_866 : (.instanceMethod y_R_chosen : Cond) ∈ tw := tw_of (i := 866) rfl rfl
set_option maxRecDepth 30000 in
theorem wd_867 : (.selects R_R y_R_chosen y_R_chosen : Cond) ∈ tw := tw_of (i := 867) rfl rfl
set_option maxRecDepth 30000 in
theorem wd_873 : (.methodLink R_L 137 y_R_assign : Cond) ∈ tw := tw_of (i := 873) rfl rfl
set_option maxRecDepth 30000 in
theorem wd_874 : (.instanceMethod y_R_assign : Cond) ∈ tw := tw_of (i := 874) rfl rfl
set_option maxRecDepth 30000 in
theorem wd_875 : (.selects R_R y_R_assign y_R_assign : Cond) ∈ tw := tw_of (i := 875) rfl rfl
set_option maxRecDepth 30000 in
theorem wd_902 : (.methodLink R_L 140 y_R_flow : Cond) ∈ tw := tw_of (i := 902) rfl rfl
set_option maxRecDepth 30000 in
theorem wd_903 : (.instanceMethod y_R_flow : Cond) ∈ tw := tw_of (i := 903) rfl rfl
set_option maxRecDepth 30000 in
theorem wd_904 : (.selects R_R y_R_flow y_R_flow : Cond) ∈ tw := tw_of (i := 904) rfl rfl
set_option maxRecDepth 30000 in
theorem wd_906 : (.methodLink R_L 143 y_R_way : Cond) ∈ tw := tw_of (i := 906) rfl rfl
set_option maxRecDepth 30000 in
theorem wd_907 : (.instanceMethod y_R_way : Cond) ∈ tw := tw_of (i := 907) rfl rfl
set_option maxRecDepth 30000 in
theorem wd_908 : (.selects R_R y_R_way y_R_way : Cond) ∈ tw := tw_of (i := 908) rfl rfl
set_option maxRecDepth 30000 in
theorem wd_910 : (.methodLink R_L 146 y_R_least : Cond) ∈ tw := tw_of (i := 910) rfl rfl
set_option maxRecDepth 30000 in
theorem wd_911 : (.instanceMethod y_R_least : Cond) ∈ tw := tw_of (i := 911) rfl rfl
set_option maxRecDepth 30000 in
theorem wd_912 : (.selects R_R y_R_least y_R_least : Cond) ∈ tw := tw_of (i := 912) rfl rfl
set_option maxRecDepth 30000 in
theorem wd_914 : (.methodLink R_L 149 y_R_link : Cond) ∈ tw := tw_of (i := 914) rfl rfl
set_option maxRecDepth 30000 in
theorem wd_915 : (.instanceMethod y_R_link : Cond) ∈ tw := tw_of (i := 915) rfl rfl
set_option maxRecDepth 30000 in
theorem wd_916 : (.selects R_R y_R_link y_R_link : Cond) ∈ tw := tw_of (i := 916) rfl rfl
set_option maxRecDepth 30000 in
theorem wd_918 : (.methodLink R_L 154 y_R_gap : Cond) ∈ tw := tw_of (i := 918) rfl rfl
set_option maxRecDepth 30000 in
theorem wd_919 : (.instanceMethod y_R_gap : Cond) ∈ tw := tw_of (i := 919) rfl rfl
set_option maxRecDepth 30000 in
theorem wd_920 : (.selects R_R y_R_gap y_R_gap : Cond) ∈ tw := tw_of (i := 920) rfl rfl
set_option maxRecDepth 30000 in
theorem wd_922 : (.methodLink R_L 157 y_R_count : Cond) ∈ tw := tw_of (i := 922) rfl rfl
set_option maxRecDepth 30000 in
theorem wd_923 : (.instanceMethod y_R_count : Cond) ∈ tw := tw_of (i := 923) rfl rfl
set_option maxRecDepth 30000 in
theorem wd_924 : (.selects R_R y_R_count y_R_count : Cond) ∈ tw := tw_of (i := 924) rfl rfl
set_option maxRecDepth 30000 in
theorem wd_926 : (.methodLink R_L 160 y_R_fit : Cond) ∈ tw := tw_of (i := 926) rfl rfl
set_option maxRecDepth 30000 in
theorem wd_927 : (.instanceMethod y_R_fit : Cond) ∈ tw := tw_of (i := 927) rfl rfl
set_option maxRecDepth 30000 in
theorem wd_928 : (.selects R_R y_R_fit y_R_fit : Cond) ∈ tw := tw_of (i := 928) rfl rfl
set_option maxRecDepth 30000 in
theorem wc_T_gap : (.code y_T_gap b_T_gap 4 (some .long) : Cond) ∈ tw := tw_of (i := 270) rfl rfl
set_option maxRecDepth 30000 in
theorem wc_R_assign : (.code y_R_assign b_R_assign 2 (some .int) : Cond) ∈ tw := tw_of (i := 876) rfl rfl
set_option maxRecDepth 30000 in
theorem wc_R_chosen : (.code y_R_chosen b_R_chosen 4 (some .int) : Cond) ∈ tw := tw_of (i := 868) rfl rfl
set_option maxRecDepth 30000 in
theorem wc_R_count : (.code y_R_count b_R_count 4 (some .int) : Cond) ∈ tw := tw_of (i := 925) rfl rfl
set_option maxRecDepth 30000 in
theorem wc_R_factor : (.code y_R_factor b_R_factor 2 (some .int) : Cond) ∈ tw := tw_of (i := 860) rfl rfl
set_option maxRecDepth 30000 in
theorem wc_R_fit : (.code y_R_fit b_R_fit 7 (some .int) : Cond) ∈ tw := tw_of (i := 929) rfl rfl
set_option maxRecDepth 30000 in
theorem wc_R_flow : (.code y_R_flow b_R_flow 3 (some .int) : Cond) ∈ tw := tw_of (i := 905) rfl rfl
set_option maxRecDepth 30000 in
theorem wc_R_gap : (.code y_R_gap b_R_gap 7 (some .long) : Cond) ∈ tw := tw_of (i := 921) rfl rfl
set_option maxRecDepth 30000 in
theorem wc_R_least : (.code y_R_least b_R_least 3 (some .int) : Cond) ∈ tw := tw_of (i := 913) rfl rfl
set_option maxRecDepth 30000 in
theorem wc_R_link : (.code y_R_link b_R_link 4 (some .int) : Cond) ∈ tw := tw_of (i := 917) rfl rfl
set_option maxRecDepth 30000 in
theorem wc_R_node : (.code y_R_node b_R_node 1 (some .int) : Cond) ∈ tw := tw_of (i := 781) rfl rfl
set_option maxRecDepth 30000 in
theorem wc_R_open : (.code y_R_open b_R_open 4 (some .boolean) : Cond) ∈ tw := tw_of (i := 810) rfl rfl
set_option maxRecDepth 30000 in
theorem wc_R_pull : (.code y_R_pull b_R_pull 7 (some .int) : Cond) ∈ tw := tw_of (i := 864) rfl rfl
set_option maxRecDepth 30000 in
theorem wc_R_rounds : (.code y_R_rounds b_R_rounds 9 (some .int) : Cond) ∈ tw := tw_of (i := 830) rfl rfl
set_option maxRecDepth 30000 in
theorem wc_R_size : (.code y_R_size b_R_size 5 (some .int) : Cond) ∈ tw := tw_of (i := 826) rfl rfl
set_option maxRecDepth 30000 in
theorem wc_R_street : (.code y_R_street b_R_street 7 (some .int) : Cond) ∈ tw := tw_of (i := 797) rfl rfl
set_option maxRecDepth 30000 in
theorem wc_R_sum : (.code y_R_sum b_R_sum 5 (some .int) : Cond) ∈ tw := tw_of (i := 856) rfl rfl
set_option maxRecDepth 30000 in
theorem wc_R_thrown : (.code y_R_thrown b_R_thrown 1 (some .int) : Cond) ∈ tw := tw_of (i := 777) rfl rfl
set_option maxRecDepth 30000 in
theorem wc_R_toll : (.code y_R_toll b_R_toll 4 (some .int) : Cond) ∈ tw := tw_of (i := 802) rfl rfl
set_option maxRecDepth 30000 in
theorem wc_R_trips : (.code y_R_trips b_R_trips 3 (some .int) : Cond) ∈ tw := tw_of (i := 852) rfl rfl
set_option maxRecDepth 30000 in
theorem wc_R_way : (.code y_R_way b_R_way 4 (some .int) : Cond) ∈ tw := tw_of (i := 909) rfl rfl
set_option maxRecDepth 30000 in
theorem wc_R_weight : (.code y_R_weight b_R_weight 5 (some .int) : Cond) ∈ tw := tw_of (i := 814) rfl rfl
set_option maxRecDepth 30000 in
theorem wc_R_zone : (.code y_R_zone b_R_zone 4 (some .int) : Cond) ∈ tw := tw_of (i := 785) rfl rfl
