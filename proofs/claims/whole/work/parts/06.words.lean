def tw : List Cond := lw_tbl.filter goodWord
theorem tw_of {w : Cond} {i : Nat} (h : lw_tbl[i]? = some w) (hg : goodWord w = true) : w ∈ tw := List.mem_filter.mpr ⟨List.mem_of_getElem? h, hg⟩
theorem tw_in {w : Cond} (h : w ∈ tw) : w ∈ lw_tbl := (List.mem_filter.mp h).1
theorem tw_G {w : Cond} (h : w ∈ tw) : GoodIn tw (w :: tw) := fun v hv => by
  rcases List.mem_cons.mp hv with rfl | hv
  · exact ⟨h, good_of_word (List.mem_filter.mp h).2⟩
  · exact ⟨hv, good_of_word (List.mem_filter.mp hv).2⟩
theorem iw_T : ∀ w ∈ u_ws R_T F_T 7, w ∈ tw := fun w h => List.mem_filter.mpr ⟨(by decide +kernel : ∀ w ∈ u_ws R_T F_T 7, w ∈ lw_tbl) w h, (by decide +kernel : ∀ w ∈ u_ws R_T F_T 7, goodWord w = true) w h⟩
theorem iw_Z : ∀ w ∈ u_ws R_Z F_Z 4, w ∈ tw := fun w h => List.mem_filter.mpr ⟨(by decide +kernel : ∀ w ∈ u_ws R_Z F_Z 4, w ∈ lw_tbl) w h, (by decide +kernel : ∀ w ∈ u_ws R_Z F_Z 4, goodWord w = true) w h⟩
theorem iw_B : ∀ w ∈ u_ws R_B F_B 4, w ∈ tw := fun w h => List.mem_filter.mpr ⟨(by decide +kernel : ∀ w ∈ u_ws R_B F_B 4, w ∈ lw_tbl) w h, (by decide +kernel : ∀ w ∈ u_ws R_B F_B 4, goodWord w = true) w h⟩
theorem iw_M : ∀ w ∈ u_ws R_M F_M 2, w ∈ tw := fun w h => List.mem_filter.mpr ⟨(by decide +kernel : ∀ w ∈ u_ws R_M F_M 2, w ∈ lw_tbl) w h, (by decide +kernel : ∀ w ∈ u_ws R_M F_M 2, goodWord w = true) w h⟩
theorem iw_S : ∀ w ∈ u_ws R_S F_S 10, w ∈ tw := fun w h => List.mem_filter.mpr ⟨(by decide +kernel : ∀ w ∈ u_ws R_S F_S 10, w ∈ lw_tbl) w h, (by decide +kernel : ∀ w ∈ u_ws R_S F_S 10, goodWord w = true) w h⟩
theorem iw_W : ∀ w ∈ u_ws R_W F_W 3, w ∈ tw := fun w h => List.mem_filter.mpr ⟨(by decide +kernel : ∀ w ∈ u_ws R_W F_W 3, w ∈ lw_tbl) w h, (by decide +kernel : ∀ w ∈ u_ws R_W F_W 3, goodWord w = true) w h⟩
theorem iw_A : ∀ w ∈ u_ws R_A F_A 5, w ∈ tw := fun w h => List.mem_filter.mpr ⟨(by decide +kernel : ∀ w ∈ u_ws R_A F_A 5, w ∈ lw_tbl) w h, (by decide +kernel : ∀ w ∈ u_ws R_A F_A 5, goodWord w = true) w h⟩
theorem iw_H : ∀ w ∈ u_ws R_H F_H 3, w ∈ tw := fun w h => List.mem_filter.mpr ⟨(by decide +kernel : ∀ w ∈ u_ws R_H F_H 3, w ∈ lw_tbl) w h, (by decide +kernel : ∀ w ∈ u_ws R_H F_H 3, goodWord w = true) w h⟩
theorem iw_R : ∀ w ∈ u_ws R_R F_R 32, w ∈ tw := fun w h => List.mem_filter.mpr ⟨(by decide +kernel : ∀ w ∈ u_ws R_R F_R 32, w ∈ lw_tbl) w h, (by decide +kernel : ∀ w ∈ u_ws R_R F_R 32, goodWord w = true) w h⟩
set_option maxRecDepth 30000 in
theorem wd_0 : (.selects R_W y_W_lowerCosts y_W_lowerCosts : Cond) ∈ tw := tw_of (i := 0) rfl rfl
set_option maxRecDepth 30000 in
theorem wd_1 : (.selects R_W y_W_costBy y_W_costBy : Cond) ∈ tw := tw_of (i := 1) rfl rfl
set_option maxRecDepth 30000 in
theorem wd_2 : (.selects R_W y_W_chooseNexts y_W_chooseNexts : Cond) ∈ tw := tw_of (i := 2) rfl rfl
set_option maxRecDepth 30000 in
theorem wd_3 : (.selects R_T y_T_leastTimeTo y_T_leastTimeTo : Cond) ∈ tw := tw_of (i := 3) rfl rfl
set_option maxRecDepth 30000 in
theorem wd_5 : (.selects R_T y_T_needNode y_T_needNode : Cond) ∈ tw := tw_of (i := 5) rfl rfl
set_option maxRecDepth 30000 in
theorem wd_6 : (.selects R_T y_T_needStreet y_T_needStreet : Cond) ∈ tw := tw_of (i := 6) rfl rfl
set_option maxRecDepth 30000 in
theorem wd_7 : (.selects R_T y_T_needZone y_T_needZone : Cond) ∈ tw := tw_of (i := 7) rfl rfl
set_option maxRecDepth 30000 in
theorem wd_8 : (.selects R_B y_B_shareAllPeople y_B_shareAllPeople : Cond) ∈ tw := tw_of (i := 8) rfl rfl
set_option maxRecDepth 30000 in
theorem wd_9 : (.selects R_H y_H_giveOne y_H_giveOne : Cond) ∈ tw := tw_of (i := 9) rfl rfl
set_option maxRecDepth 30000 in
theorem wd_10 : (.selects R_B y_B_isMet y_B_isMet : Cond) ∈ tw := tw_of (i := 10) rfl rfl
set_option maxRecDepth 30000 in
theorem wd_11 : (.selects R_B y_B_changeFactors y_B_changeFactors : Cond) ∈ tw := tw_of (i := 11) rfl rfl
set_option maxRecDepth 30000 in
theorem wd_12 : (.selects R_T y_T_assignAll y_T_assignAll : Cond) ∈ tw := tw_of (i := 12) rfl rfl
set_option maxRecDepth 30000 in
theorem wd_13 : (.selects R_T y_T_gatherDrivers y_T_gatherDrivers : Cond) ∈ tw := tw_of (i := 13) rfl rfl
set_option maxRecDepth 30000 in
theorem wd_14 : (.selects R_T y_T_assignPart y_T_assignPart : Cond) ∈ tw := tw_of (i := 14) rfl rfl
set_option maxRecDepth 30000 in
theorem wd_15 : (.selects R_T y_T_scaleUsersOf y_T_scaleUsersOf : Cond) ∈ tw := tw_of (i := 15) rfl rfl
set_option maxRecDepth 30000 in
theorem wd_16 : (.selects R_R y_R_isNode y_R_isNode : Cond) ∈ tw := tw_of (i := 16) rfl rfl
set_option maxRecDepth 30000 in
theorem wd_17 : (.selects R_R y_R_isStreet y_R_isStreet : Cond) ∈ tw := tw_of (i := 17) rfl rfl
set_option maxRecDepth 30000 in
theorem wd_18 : (.selects R_R y_R_isPair y_R_isPair : Cond) ∈ tw := tw_of (i := 18) rfl rfl
set_option maxRecDepth 30000 in
theorem wd_19 : (.selects R_R y_R_isZone y_R_isZone : Cond) ∈ tw := tw_of (i := 19) rfl rfl
set_option maxRecDepth 30000 in
theorem wd_20 : (.selects R_R y_R_oneRound y_R_oneRound : Cond) ∈ tw := tw_of (i := 20) rfl rfl
set_option maxRecDepth 30000 in
theorem wd_21 : (.selects R_R y_R_share y_R_share : Cond) ∈ tw := tw_of (i := 21) rfl rfl
set_option maxRecDepth 30000 in
theorem wd_22 : (.selects R_R y_R_isMet y_R_isMet : Cond) ∈ tw := tw_of (i := 22) rfl rfl
set_option maxRecDepth 30000 in
theorem wd_23 : (.selects R_R y_R_sumTo y_R_sumTo : Cond) ∈ tw := tw_of (i := 23) rfl rfl
set_option maxRecDepth 30000 in
theorem wd_24 : (.selects R_R y_R_byMode y_R_byMode : Cond) ∈ tw := tw_of (i := 24) rfl rfl
set_option maxRecDepth 30000 in
theorem wd_25 : (.selects R_R y_R_assignAll y_R_assignAll : Cond) ∈ tw := tw_of (i := 25) rfl rfl
set_option maxRecDepth 30000 in
theorem wd_26 : (.selects R_R y_R_takeTimes y_R_takeTimes : Cond) ∈ tw := tw_of (i := 26) rfl rfl
set_option maxRecDepth 30000 in
theorem wd_27 : (.selects R_R y_R_timeOf y_R_timeOf : Cond) ∈ tw := tw_of (i := 27) rfl rfl
set_option maxRecDepth 30000 in
theorem wd_28 : (.selects R_R y_R_goPart y_R_goPart : Cond) ∈ tw := tw_of (i := 28) rfl rfl
set_option maxRecDepth 30000 in
theorem wd_29 : (.selects R_R y_R_findWay y_R_findWay : Cond) ∈ tw := tw_of (i := 29) rfl rfl
set_option maxRecDepth 30000 in
theorem wd_30 : (.selects R_R y_R_findNear y_R_findNear : Cond) ∈ tw := tw_of (i := 30) rfl rfl
set_option maxRecDepth 30000 in
theorem wd_31 : (.selects R_R y_R_worst y_R_worst : Cond) ∈ tw := tw_of (i := 31) rfl rfl
set_option maxRecDepth 30000 in
theorem wd_32 : (.selects R_R y_R_offOf y_R_offOf : Cond) ∈ tw := tw_of (i := 32) rfl rfl
set_option maxRecDepth 30000 in
theorem wd_34 : (.initialized R_T : Cond) ∈ tw := tw_of (i := 34) rfl rfl
set_option maxRecDepth 30000 in
theorem wd_35 : (.initialized R_Z : Cond) ∈ tw := tw_of (i := 35) rfl rfl
set_option maxRecDepth 30000 in
theorem wd_36 : (.initialized R_B : Cond) ∈ tw := tw_of (i := 36) rfl rfl
set_option maxRecDepth 30000 in
theorem wd_37 : (.initialized R_H : Cond) ∈ tw := tw_of (i := 37) rfl rfl
set_option maxRecDepth 30000 in
theorem wd_38 : (.initialized "java/util/Arrays" : Cond) ∈ tw := tw_of (i := 38) rfl rfl
set_option maxRecDepth 30000 in
theorem wd_39 : (.initialized R_M : Cond) ∈ tw := tw_of (i := 39) rfl rfl
set_option maxRecDepth 30000 in
theorem wd_40 : (.initialized R_S : Cond) ∈ tw := tw_of (i := 40) rfl rfl
set_option maxRecDepth 30000 in
theorem wd_41 : (.initialized R_W : Cond) ∈ tw := tw_of (i := 41) rfl rfl
set_option maxRecDepth 30000 in
theorem wd_42 : (.initialized R_A : Cond) ∈ tw := tw_of (i := 42) rfl rfl
set_option maxRecDepth 30000 in
theorem wd_43 : (.initialized R_R : Cond) ∈ tw := tw_of (i := 43) rfl rfl
set_option maxRecDepth 30000 in
theorem wd_47 : (.initialized "java/lang/IllegalStateException" : Cond) ∈ tw := tw_of (i := 47) rfl rfl
set_option maxRecDepth 30000 in
theorem wd_48 : (.initialized "java/lang/IllegalArgumentException" : Cond) ∈ tw := tw_of (i := 48) rfl rfl
set_option maxRecDepth 30000 in
theorem wd_49 : (.initialized "java/lang/Math" : Cond) ∈ tw := tw_of (i := 49) rfl rfl
set_option maxRecDepth 30000 in
theorem wd_64 : (.fieldLink R_Z 9 "TripRounds$Zones" "many" "I" : Cond) ∈ tw := tw_of (i := 64) rfl rfl
set_option maxRecDepth 30000 in
theorem wd_65 : (.fieldLink R_B 36 "TripRounds$Zones" "many" "I" : Cond) ∈ tw := tw_of (i := 65) rfl rfl
set_option maxRecDepth 30000 in
theorem wd_66 : (.fieldLink R_T 71 "TripRounds$Zones" "many" "I" : Cond) ∈ tw := tw_of (i := 66) rfl rfl
set_option maxRecDepth 30000 in
theorem wd_67 : (.fieldLink R_Z 15 "TripRounds$Zones" "places" "[I" : Cond) ∈ tw := tw_of (i := 67) rfl rfl
set_option maxRecDepth 30000 in
theorem wd_68 : (.fieldLink R_T 182 "TripRounds$Zones" "places" "[I" : Cond) ∈ tw := tw_of (i := 68) rfl rfl
set_option maxRecDepth 30000 in
theorem wd_69 : (.fieldLink R_Z 19 "TripRounds$Zones" "people" "[I" : Cond) ∈ tw := tw_of (i := 69) rfl rfl
set_option maxRecDepth 30000 in
theorem wd_70 : (.fieldLink R_B 61 "TripRounds$Zones" "people" "[I" : Cond) ∈ tw := tw_of (i := 70) rfl rfl
set_option maxRecDepth 30000 in
theorem wd_71 : (.fieldLink R_T 114 "TripRounds$Zones" "people" "[I" : Cond) ∈ tw := tw_of (i := 71) rfl rfl
set_option maxRecDepth 30000 in
theorem wd_72 : (.fieldLink R_Z 22 "TripRounds$Zones" "jobs" "[I" : Cond) ∈ tw := tw_of (i := 72) rfl rfl
set_option maxRecDepth 30000 in
theorem wd_73 : (.fieldLink R_B 75 "TripRounds$Zones" "jobs" "[I" : Cond) ∈ tw := tw_of (i := 73) rfl rfl
set_option maxRecDepth 30000 in
theorem wd_74 : (.fieldLink R_T 117 "TripRounds$Zones" "jobs" "[I" : Cond) ∈ tw := tw_of (i := 74) rfl rfl
set_option maxRecDepth 30000 in
theorem wd_97 : (.fieldLink R_H 7 "TripRounds$Sharing" "numbers" "[J" : Cond) ∈ tw := tw_of (i := 97) rfl rfl
set_option maxRecDepth 30000 in
theorem wd_98 : (.fieldLink R_M 28 "TripRounds$Sharing" "numbers" "[J" : Cond) ∈ tw := tw_of (i := 98) rfl rfl
set_option maxRecDepth 30000 in
theorem wd_99 : (.fieldLink R_B 53 "TripRounds$Sharing" "numbers" "[J" : Cond) ∈ tw := tw_of (i := 99) rfl rfl
set_option maxRecDepth 30000 in
theorem wd_100 : (.fieldLink R_H 13 "TripRounds$Sharing" "rests" "[J" : Cond) ∈ tw := tw_of (i := 100) rfl rfl
set_option maxRecDepth 30000 in
theorem wd_101 : (.fieldLink R_H 16 "TripRounds$Sharing" "shares" "[I" : Cond) ∈ tw := tw_of (i := 101) rfl rfl
set_option maxRecDepth 30000 in
theorem wd_102 : (.fieldLink R_M 36 "TripRounds$Sharing" "shares" "[I" : Cond) ∈ tw := tw_of (i := 102) rfl rfl
set_option maxRecDepth 30000 in
theorem wd_103 : (.fieldLink R_B 68 "TripRounds$Sharing" "shares" "[I" : Cond) ∈ tw := tw_of (i := 103) rfl rfl
set_option maxRecDepth 30000 in
theorem wd_113 : (.static ⟨"java/util/Arrays", "fill", "([II)V"⟩ : Cond) ∈ tw := tw_of (i := 113) rfl rfl
set_option maxRecDepth 30000 in
theorem wd_115 : (.fieldLink R_B 9 "TripRounds$Table" "weights" "[I" : Cond) ∈ tw := tw_of (i := 115) rfl rfl
set_option maxRecDepth 30000 in
theorem wd_116 : (.fieldLink R_T 111 "TripRounds$Table" "weights" "[I" : Cond) ∈ tw := tw_of (i := 116) rfl rfl
set_option maxRecDepth 30000 in
theorem wd_117 : (.fieldLink R_B 15 "TripRounds$Table" "cells" "[I" : Cond) ∈ tw := tw_of (i := 117) rfl rfl
set_option maxRecDepth 30000 in
theorem wd_118 : (.fieldLink R_T 124 "TripRounds$Table" "cells" "[I" : Cond) ∈ tw := tw_of (i := 118) rfl rfl
set_option maxRecDepth 30000 in
theorem wd_119 : (.fieldLink R_B 18 "TripRounds$Table" "factors" "[I" : Cond) ∈ tw := tw_of (i := 119) rfl rfl
set_option maxRecDepth 30000 in
theorem wd_120 : (.fieldLink R_T 134 "TripRounds$Table" "factors" "[I" : Cond) ∈ tw := tw_of (i := 120) rfl rfl
set_option maxRecDepth 30000 in
theorem wd_121 : (.fieldLink R_B 26 "TripRounds$Table" "sharing" "LTripRounds$Sharing;" : Cond) ∈ tw := tw_of (i := 121) rfl rfl
set_option maxRecDepth 30000 in
theorem wd_139 : (.methodLink R_M 24 y_M_placeOf : Cond) ∈ tw := tw_of (i := 139) rfl rfl
set_option maxRecDepth 30000 in
theorem wd_140 : (.static y_M_placeOf : Cond) ∈ tw := tw_of (i := 140) rfl rfl
set_option maxRecDepth 30000 in
theorem wd_142 : (.fieldLink R_M 9 "TripRounds$Modes" "pulls" "[I" : Cond) ∈ tw := tw_of (i := 142) rfl rfl
set_option maxRecDepth 30000 in
theorem wd_143 : (.fieldLink R_T 140 "TripRounds$Modes" "pulls" "[I" : Cond) ∈ tw := tw_of (i := 143) rfl rfl
set_option maxRecDepth 30000 in
theorem wd_144 : (.fieldLink R_M 20 "TripRounds$Modes" "sharing" "LTripRounds$Sharing;" : Cond) ∈ tw := tw_of (i := 144) rfl rfl
set_option maxRecDepth 30000 in
theorem wd_157 : (.fieldLink R_S 9 "TripRounds$Streets" "many" "I" : Cond) ∈ tw := tw_of (i := 157) rfl rfl
set_option maxRecDepth 30000 in
theorem wd_158 : (.fieldLink R_W 22 "TripRounds$Streets" "many" "I" : Cond) ∈ tw := tw_of (i := 158) rfl rfl
set_option maxRecDepth 30000 in
theorem wd_159 : (.fieldLink R_T 86 "TripRounds$Streets" "many" "I" : Cond) ∈ tw := tw_of (i := 159) rfl rfl
set_option maxRecDepth 30000 in
theorem wd_160 : (.fieldLink R_S 15 "TripRounds$Streets" "starts" "[I" : Cond) ∈ tw := tw_of (i := 160) rfl rfl
set_option maxRecDepth 30000 in
theorem wd_161 : (.fieldLink R_W 52 "TripRounds$Streets" "starts" "[I" : Cond) ∈ tw := tw_of (i := 161) rfl rfl
set_option maxRecDepth 30000 in
theorem wd_162 : (.fieldLink R_S 19 "TripRounds$Streets" "ends" "[I" : Cond) ∈ tw := tw_of (i := 162) rfl rfl
set_option maxRecDepth 30000 in
theorem wd_163 : (.fieldLink R_A 52 "TripRounds$Streets" "ends" "[I" : Cond) ∈ tw := tw_of (i := 163) rfl rfl
set_option maxRecDepth 30000 in
theorem wd_164 : (.fieldLink R_W 58 "TripRounds$Streets" "ends" "[I" : Cond) ∈ tw := tw_of (i := 164) rfl rfl
set_option maxRecDepth 30000 in
theorem wd_165 : (.fieldLink R_S 22 "TripRounds$Streets" "frees" "[I" : Cond) ∈ tw := tw_of (i := 165) rfl rfl
set_option maxRecDepth 30000 in
theorem wd_166 : (.fieldLink R_S 25 "TripRounds$Streets" "slopes" "[I" : Cond) ∈ tw := tw_of (i := 166) rfl rfl
set_option maxRecDepth 30000 in
theorem wd_167 : (.fieldLink R_S 28 "TripRounds$Streets" "rooms" "[I" : Cond) ∈ tw := tw_of (i := 167) rfl rfl
set_option maxRecDepth 30000 in
theorem wd_168 : (.fieldLink R_S 31 "TripRounds$Streets" "tolls" "[I" : Cond) ∈ tw := tw_of (i := 168) rfl rfl
set_option maxRecDepth 30000 in
theorem wd_169 : (.fieldLink R_T 96 "TripRounds$Streets" "tolls" "[I" : Cond) ∈ tw := tw_of (i := 169) rfl rfl
set_option maxRecDepth 30000 in
theorem wd_170 : (.fieldLink R_S 34 "TripRounds$Streets" "isOpen" "[Z" : Cond) ∈ tw := tw_of (i := 170) rfl rfl
set_option maxRecDepth 30000 in
theorem wd_171 : (.fieldLink R_T 100 "TripRounds$Streets" "isOpen" "[Z" : Cond) ∈ tw := tw_of (i := 171) rfl rfl
set_option maxRecDepth 30000 in
theorem wd_172 : (.fieldLink R_W 61 "TripRounds$Streets" "isOpen" "[Z" : Cond) ∈ tw := tw_of (i := 172) rfl rfl
set_option maxRecDepth 30000 in
theorem wd_173 : (.fieldLink R_S 38 "TripRounds$Streets" "counts" "[I" : Cond) ∈ tw := tw_of (i := 173) rfl rfl
set_option maxRecDepth 30000 in
theorem wd_174 : (.fieldLink R_T 189 "TripRounds$Streets" "counts" "[I" : Cond) ∈ tw := tw_of (i := 174) rfl rfl
set_option maxRecDepth 30000 in
theorem wd_175 : (.fieldLink R_S 41 "TripRounds$Streets" "volumes" "[I" : Cond) ∈ tw := tw_of (i := 175) rfl rfl
set_option maxRecDepth 30000 in
theorem wd_176 : (.fieldLink R_A 43 "TripRounds$Streets" "volumes" "[I" : Cond) ∈ tw := tw_of (i := 176) rfl rfl
set_option maxRecDepth 30000 in
theorem wd_177 : (.fieldLink R_T 152 "TripRounds$Streets" "volumes" "[I" : Cond) ∈ tw := tw_of (i := 177) rfl rfl
set_option maxRecDepth 30000 in
theorem wd_206 : (.fieldLink R_W 9 "TripRounds$Ways" "times" "[I" : Cond) ∈ tw := tw_of (i := 206) rfl rfl
set_option maxRecDepth 30000 in
theorem wd_207 : (.fieldLink R_T 179 "TripRounds$Ways" "times" "[I" : Cond) ∈ tw := tw_of (i := 207) rfl rfl
set_option maxRecDepth 30000 in
theorem wd_208 : (.fieldLink R_W 15 "TripRounds$Ways" "costs" "[J" : Cond) ∈ tw := tw_of (i := 208) rfl rfl
set_option maxRecDepth 30000 in
theorem wd_209 : (.fieldLink R_W 19 "TripRounds$Ways" "nexts" "[I" : Cond) ∈ tw := tw_of (i := 209) rfl rfl
set_option maxRecDepth 30000 in
theorem wd_210 : (.fieldLink R_A 40 "TripRounds$Ways" "nexts" "[I" : Cond) ∈ tw := tw_of (i := 210) rfl rfl
set_option maxRecDepth 30000 in
theorem wd_224 : (.fieldLink R_A 9 "TripRounds$Assignment" "parts" "I" : Cond) ∈ tw := tw_of (i := 224) rfl rfl
set_option maxRecDepth 30000 in
theorem wd_225 : (.fieldLink R_T 192 "TripRounds$Assignment" "parts" "I" : Cond) ∈ tw := tw_of (i := 225) rfl rfl
set_option maxRecDepth 30000 in
theorem wd_226 : (.fieldLink R_A 15 "TripRounds$Assignment" "lost" "I" : Cond) ∈ tw := tw_of (i := 226) rfl rfl
set_option maxRecDepth 30000 in
theorem wd_227 : (.fieldLink R_T 149 "TripRounds$Assignment" "lost" "I" : Cond) ∈ tw := tw_of (i := 227) rfl rfl
set_option maxRecDepth 30000 in
theorem wd_228 : (.fieldLink R_A 18 "TripRounds$Assignment" "drivers" "[I" : Cond) ∈ tw := tw_of (i := 228) rfl rfl
set_option maxRecDepth 30000 in
theorem wd_229 : (.fieldLink R_T 227 "TripRounds$Assignment" "drivers" "[I" : Cond) ∈ tw := tw_of (i := 229) rfl rfl
set_option maxRecDepth 30000 in
theorem wd_230 : (.fieldLink R_A 22 "TripRounds$Assignment" "went" "[I" : Cond) ∈ tw := tw_of (i := 230) rfl rfl
set_option maxRecDepth 30000 in
theorem wd_231 : (.fieldLink R_T 237 "TripRounds$Assignment" "went" "[I" : Cond) ∈ tw := tw_of (i := 231) rfl rfl
set_option maxRecDepth 30000 in
theorem wd_232 : (.fieldLink R_A 25 "TripRounds$Assignment" "used" "[I" : Cond) ∈ tw := tw_of (i := 232) rfl rfl
set_option maxRecDepth 30000 in
theorem wd_233 : (.fieldLink R_T 175 "TripRounds$Assignment" "used" "[I" : Cond) ∈ tw := tw_of (i := 233) rfl rfl
set_option maxRecDepth 30000 in
theorem wd_245 : (.fieldLink R_T 9 "TripRounds" "nodes" "I" : Cond) ∈ tw := tw_of (i := 245) rfl rfl
set_option maxRecDepth 30000 in
theorem wd_246 : (.fieldLink R_T 16 "TripRounds" "zones" "LTripRounds$Zones;" : Cond) ∈ tw := tw_of (i := 246) rfl rfl
set_option maxRecDepth 30000 in
theorem wd_247 : (.fieldLink R_T 23 "TripRounds" "table" "LTripRounds$Table;" : Cond) ∈ tw := tw_of (i := 247) rfl rfl
set_option maxRecDepth 30000 in
theorem wd_248 : (.fieldLink R_T 30 "TripRounds" "modes" "LTripRounds$Modes;" : Cond) ∈ tw := tw_of (i := 248) rfl rfl
set_option maxRecDepth 30000 in
theorem wd_249 : (.fieldLink R_T 37 "TripRounds" "streets" "LTripRounds$Streets;" : Cond) ∈ tw := tw_of (i := 249) rfl rfl
set_option maxRecDepth 30000 in
theorem wd_250 : (.fieldLink R_T 44 "TripRounds" "ways" "LTripRounds$Ways;" : Cond) ∈ tw := tw_of (i := 250) rfl rfl
set_option maxRecDepth 30000 in
theorem wd_251 : (.fieldLink R_T 51 "TripRounds" "latest" "LTripRounds$Assignment;" : Cond) ∈ tw := tw_of (i := 251) rfl rfl
set_option maxRecDepth 30000 in
theorem wd_271 : (.methodLink R_T 160 y_W_holdTimes : Cond) ∈ tw := tw_of (i := 271) rfl rfl
set_option maxRecDepth 30000 in
theorem wd_272 : (.instanceMethod y_W_holdTimes : Cond) ∈ tw := tw_of (i := 272) rfl rfl
set_option maxRecDepth 30000 in
theorem wd_273 : (.selects R_W y_W_holdTimes y_W_holdTimes : Cond) ∈ tw := tw_of (i := 273) rfl rfl
set_option maxRecDepth 30000 in
theorem wd_275 : (.methodLink R_W 28 y_S_timeOf : Cond) ∈ tw := tw_of (i := 275) rfl rfl
set_option maxRecDepth 30000 in
theorem wd_276 : (.instanceMethod y_S_timeOf : Cond) ∈ tw := tw_of (i := 276) rfl rfl
set_option maxRecDepth 30000 in
theorem wd_277 : (.selects R_S y_S_timeOf y_S_timeOf : Cond) ∈ tw := tw_of (i := 277) rfl rfl
set_option maxRecDepth 30000 in
theorem wd_279 : (.constantLong R_S 50 (1000000 : Int64) : Cond) ∈ tw := tw_of (i := 279) rfl rfl
set_option maxRecDepth 30000 in
theorem wd_280 : (.methodLink R_S 52 ⟨"java/lang/Math", "min", "(JJ)J"⟩ : Cond) ∈ tw := tw_of (i := 280) rfl rfl
set_option maxRecDepth 30000 in
theorem wd_281 : (.static ⟨"java/lang/Math", "min", "(JJ)J"⟩ : Cond) ∈ tw := tw_of (i := 281) rfl rfl
set_option maxRecDepth 30000 in
theorem wd_283 : (.methodLink R_T 164 y_W_aimAt : Cond) ∈ tw := tw_of (i := 283) rfl rfl
set_option maxRecDepth 30000 in
theorem wd_284 : (.instanceMethod y_W_aimAt : Cond) ∈ tw := tw_of (i := 284) rfl rfl
set_option maxRecDepth 30000 in
theorem wd_285 : (.selects R_W y_W_aimAt y_W_aimAt : Cond) ∈ tw := tw_of (i := 285) rfl rfl
set_option maxRecDepth 30000 in
theorem wd_287 : (.constantLong R_W 32 (1099511627776 : Int64) : Cond) ∈ tw := tw_of (i := 287) rfl rfl
set_option maxRecDepth 30000 in
theorem wd_288 : (.methodLink R_W 34 ⟨"java/util/Arrays", "fill", "([JJ)V"⟩ : Cond) ∈ tw := tw_of (i := 288) rfl rfl
set_option maxRecDepth 30000 in
theorem wd_289 : (.static ⟨"java/util/Arrays", "fill", "([JJ)V"⟩ : Cond) ∈ tw := tw_of (i := 289) rfl rfl
set_option maxRecDepth 30000 in
theorem wd_291 : (.methodLink R_W 40 y_W_lowerCosts : Cond) ∈ tw := tw_of (i := 291) rfl rfl
set_option maxRecDepth 30000 in
theorem wd_293 : (.instanceMethod y_W_lowerCosts : Cond) ∈ tw := tw_of (i := 293) rfl rfl
set_option maxRecDepth 30000 in
theorem wd_295 : (.methodLink R_W 48 y_W_costBy : Cond) ∈ tw := tw_of (i := 295) rfl rfl
set_option maxRecDepth 30000 in
theorem wd_297 : (.instanceMethod y_W_costBy : Cond) ∈ tw := tw_of (i := 297) rfl rfl
set_option maxRecDepth 30000 in
theorem wd_299 : (.constantLong R_W 65 (64 : Int64) : Cond) ∈ tw := tw_of (i := 299) rfl rfl
set_option maxRecDepth 30000 in
theorem wd_300 : (.methodLink R_W 44 y_W_chooseNexts : Cond) ∈ tw := tw_of (i := 300) rfl rfl
set_option maxRecDepth 30000 in
theorem wd_302 : (.instanceMethod y_W_chooseNexts : Cond) ∈ tw := tw_of (i := 302) rfl rfl
set_option maxRecDepth 30000 in
theorem wd_304 : (.methodLink R_W 55 ⟨"java/util/Arrays", "fill", "([II)V"⟩ : Cond) ∈ tw := tw_of (i := 304) rfl rfl
set_option maxRecDepth 30000 in
theorem wd_305 : (.methodLink R_T 185 y_T_leastTimeTo : Cond) ∈ tw := tw_of (i := 305) rfl rfl
set_option maxRecDepth 30000 in
theorem wd_307 : (.instanceMethod y_T_leastTimeTo : Cond) ∈ tw := tw_of (i := 307) rfl rfl
set_option maxRecDepth 30000 in
theorem wd_309 : (.methodLink R_T 172 y_W_timeFrom : Cond) ∈ tw := tw_of (i := 309) rfl rfl
set_option maxRecDepth 30000 in
theorem wd_310 : (.instanceMethod y_W_timeFrom : Cond) ∈ tw := tw_of (i := 310) rfl rfl
set_option maxRecDepth 30000 in
theorem wd_311 : (.selects R_W y_W_timeFrom y_W_timeFrom : Cond) ∈ tw := tw_of (i := 311) rfl rfl
set_option maxRecDepth 30000 in
theorem wd_313 : (.methodLink R_T 107 y_T_pairOf : Cond) ∈ tw := tw_of (i := 313) rfl rfl
set_option maxRecDepth 30000 in
theorem wd_314 : (.static y_T_pairOf : Cond) ∈ tw := tw_of (i := 314) rfl rfl
set_option maxRecDepth 30000 in
theorem wd_324 : (.classLink R_T 55 "java/lang/IllegalStateException" : Cond) ∈ tw := tw_of (i := 324) rfl rfl
set_option maxRecDepth 30000 in
theorem wd_325 : (.instantiable "java/lang/IllegalStateException" 6 : Cond) ∈ tw := tw_of (i := 325) rfl rfl
set_option maxRecDepth 30000 in
theorem wd_399 : (.methodLink R_T 62 y_T_needNode : Cond) ∈ tw := tw_of (i := 399) rfl rfl
set_option maxRecDepth 30000 in
theorem wd_401 : (.instanceMethod y_T_needNode : Cond) ∈ tw := tw_of (i := 401) rfl rfl
set_option maxRecDepth 30000 in
theorem wd_403 : (.classLink R_T 80 "java/lang/IllegalArgumentException" : Cond) ∈ tw := tw_of (i := 403) rfl rfl
set_option maxRecDepth 30000 in
theorem wd_404 : (.instantiable "java/lang/IllegalArgumentException" 6 : Cond) ∈ tw := tw_of (i := 404) rfl rfl
set_option maxRecDepth 30000 in
theorem wd_419 : (.constant R_T 66 (100000 : Int32) : Cond) ∈ tw := tw_of (i := 419) rfl rfl
set_option maxRecDepth 30000 in
theorem wd_420 : (.methodLink R_T 67 y_T_needWithin : Cond) ∈ tw := tw_of (i := 420) rfl rfl
set_option maxRecDepth 30000 in
theorem wd_421 : (.static y_T_needWithin : Cond) ∈ tw := tw_of (i := 421) rfl rfl
set_option maxRecDepth 30000 in
theorem wd_425 : (.methodLink R_T 76 y_Z_addZone : Cond) ∈ tw := tw_of (i := 425) rfl rfl
set_option maxRecDepth 30000 in
theorem wd_426 : (.instanceMethod y_Z_addZone : Cond) ∈ tw := tw_of (i := 426) rfl rfl
set_option maxRecDepth 30000 in
theorem wd_427 : (.selects R_Z y_Z_addZone y_Z_addZone : Cond) ∈ tw := tw_of (i := 427) rfl rfl
set_option maxRecDepth 30000 in
theorem wd_437 : (.constant R_T 85 (1000000 : Int32) : Cond) ∈ tw := tw_of (i := 437) rfl rfl
set_option maxRecDepth 30000 in
theorem wd_439 : (.methodLink R_T 89 y_S_addStreet : Cond) ∈ tw := tw_of (i := 439) rfl rfl
set_option maxRecDepth 30000 in
theorem wd_440 : (.instanceMethod y_S_addStreet : Cond) ∈ tw := tw_of (i := 440) rfl rfl
set_option maxRecDepth 30000 in
theorem wd_441 : (.selects R_S y_S_addStreet y_S_addStreet : Cond) ∈ tw := tw_of (i := 441) rfl rfl
set_option maxRecDepth 30000 in
theorem wd_450 : (.methodLink R_T 93 y_T_needStreet : Cond) ∈ tw := tw_of (i := 450) rfl rfl
set_option maxRecDepth 30000 in
theorem wd_452 : (.instanceMethod y_T_needStreet : Cond) ∈ tw := tw_of (i := 452) rfl rfl
set_option maxRecDepth 30000 in
theorem wd_469 : (.methodLink R_T 104 y_T_needZone : Cond) ∈ tw := tw_of (i := 469) rfl rfl
set_option maxRecDepth 30000 in
theorem wd_471 : (.instanceMethod y_T_needZone : Cond) ∈ tw := tw_of (i := 471) rfl rfl
set_option maxRecDepth 30000 in
theorem wd_488 : (.methodLink R_T 120 y_B_goRounds : Cond) ∈ tw := tw_of (i := 488) rfl rfl
set_option maxRecDepth 30000 in
theorem wd_489 : (.instanceMethod y_B_goRounds : Cond) ∈ tw := tw_of (i := 489) rfl rfl
set_option maxRecDepth 30000 in
theorem wd_490 : (.selects R_B y_B_goRounds y_B_goRounds : Cond) ∈ tw := tw_of (i := 490) rfl rfl
set_option maxRecDepth 30000 in
theorem wd_492 : (.methodLink R_B 42 y_B_shareAllPeople : Cond) ∈ tw := tw_of (i := 492) rfl rfl
set_option maxRecDepth 30000 in
theorem wd_494 : (.instanceMethod y_B_shareAllPeople : Cond) ∈ tw := tw_of (i := 494) rfl rfl
set_option maxRecDepth 30000 in
theorem wd_497 : (.methodLink R_B 64 y_H_shareOut : Cond) ∈ tw := tw_of (i := 497) rfl rfl
set_option maxRecDepth 30000 in
theorem wd_498 : (.instanceMethod y_H_shareOut : Cond) ∈ tw := tw_of (i := 498) rfl rfl
set_option maxRecDepth 30000 in
theorem wd_499 : (.selects R_H y_H_shareOut y_H_shareOut : Cond) ∈ tw := tw_of (i := 499) rfl rfl
set_option maxRecDepth 30000 in
theorem wd_501 : (.methodLink R_H 20 ⟨"java/util/Arrays", "fill", "([II)V"⟩ : Cond) ∈ tw := tw_of (i := 501) rfl rfl
set_option maxRecDepth 30000 in
theorem wd_502 : (.methodLink R_H 26 y_H_giveOne : Cond) ∈ tw := tw_of (i := 502) rfl rfl
set_option maxRecDepth 30000 in
theorem wd_504 : (.instanceMethod y_H_giveOne : Cond) ∈ tw := tw_of (i := 504) rfl rfl
set_option maxRecDepth 30000 in
theorem wd_506 : (.constantLong R_H 30 (-1 : Int64) : Cond) ∈ tw := tw_of (i := 506) rfl rfl
set_option maxRecDepth 30000 in
theorem wd_507 : (.methodLink R_B 46 y_B_isMet : Cond) ∈ tw := tw_of (i := 507) rfl rfl
set_option maxRecDepth 30000 in
theorem wd_509 : (.instanceMethod y_B_isMet : Cond) ∈ tw := tw_of (i := 509) rfl rfl
set_option maxRecDepth 30000 in
theorem wd_511 : (.methodLink R_B 71 y_B_sumTo : Cond) ∈ tw := tw_of (i := 511) rfl rfl
set_option maxRecDepth 30000 in
theorem wd_512 : (.instanceMethod y_B_sumTo : Cond) ∈ tw := tw_of (i := 512) rfl rfl
set_option maxRecDepth 30000 in
theorem wd_513 : (.selects R_B y_B_sumTo y_B_sumTo : Cond) ∈ tw := tw_of (i := 513) rfl rfl
set_option maxRecDepth 30000 in
theorem wd_515 : (.methodLink R_B 78 ⟨"java/lang/Math", "abs", "(I)I"⟩ : Cond) ∈ tw := tw_of (i := 515) rfl rfl
set_option maxRecDepth 30000 in
theorem wd_516 : (.static ⟨"java/lang/Math", "abs", "(I)I"⟩ : Cond) ∈ tw := tw_of (i := 516) rfl rfl
set_option maxRecDepth 30000 in
theorem wd_518 : (.methodLink R_B 50 y_B_changeFactors : Cond) ∈ tw := tw_of (i := 518) rfl rfl
set_option maxRecDepth 30000 in
theorem wd_520 : (.instanceMethod y_B_changeFactors : Cond) ∈ tw := tw_of (i := 520) rfl rfl
set_option maxRecDepth 30000 in
theorem wd_522 : (.constantLong R_B 83 (1000000 : Int64) : Cond) ∈ tw := tw_of (i := 522) rfl rfl
set_option maxRecDepth 30000 in
theorem wd_523 : (.methodLink R_B 85 ⟨"java/lang/Math", "min", "(JJ)J"⟩ : Cond) ∈ tw := tw_of (i := 523) rfl rfl
set_option maxRecDepth 30000 in
theorem wd_524 : (.methodLink R_B 89 ⟨"java/lang/Math", "max", "(JJ)J"⟩ : Cond) ∈ tw := tw_of (i := 524) rfl rfl
set_option maxRecDepth 30000 in
theorem wd_525 : (.static ⟨"java/lang/Math", "max", "(JJ)J"⟩ : Cond) ∈ tw := tw_of (i := 525) rfl rfl
set_option maxRecDepth 30000 in
theorem wd_541 : (.methodLink R_T 127 y_B_sumFrom : Cond) ∈ tw := tw_of (i := 541) rfl rfl
set_option maxRecDepth 30000 in
theorem wd_542 : (.instanceMethod y_B_sumFrom : Cond) ∈ tw := tw_of (i := 542) rfl rfl
set_option maxRecDepth 30000 in
theorem wd_543 : (.selects R_B y_B_sumFrom y_B_sumFrom : Cond) ∈ tw := tw_of (i := 543) rfl rfl
set_option maxRecDepth 30000 in
theorem wd_545 : (.methodLink R_T 131 y_B_sumTo : Cond) ∈ tw := tw_of (i := 545) rfl rfl
set_option maxRecDepth 30000 in
theorem wd_560 : (.methodLink R_T 137 y_M_placeOf : Cond) ∈ tw := tw_of (i := 560) rfl rfl
set_option maxRecDepth 30000 in
theorem wd_568 : (.methodLink R_T 143 y_M_tripsBy : Cond) ∈ tw := tw_of (i := 568) rfl rfl
set_option maxRecDepth 30000 in
theorem wd_569 : (.instanceMethod y_M_tripsBy : Cond) ∈ tw := tw_of (i := 569) rfl rfl
set_option maxRecDepth 30000 in
theorem wd_570 : (.selects R_M y_M_tripsBy y_M_tripsBy : Cond) ∈ tw := tw_of (i := 570) rfl rfl
set_option maxRecDepth 30000 in
theorem wd_572 : (.methodLink R_M 32 y_H_shareOut : Cond) ∈ tw := tw_of (i := 572) rfl rfl
set_option maxRecDepth 30000 in
theorem wd_580 : (.methodLink R_T 146 y_T_assignAll : Cond) ∈ tw := tw_of (i := 580) rfl rfl
set_option maxRecDepth 30000 in
theorem wd_582 : (.instanceMethod y_T_assignAll : Cond) ∈ tw := tw_of (i := 582) rfl rfl
set_option maxRecDepth 30000 in
theorem wd_584 : (.methodLink R_T 212 y_A_begin : Cond) ∈ tw := tw_of (i := 584) rfl rfl
set_option maxRecDepth 30000 in
theorem wd_585 : (.instanceMethod y_A_begin : Cond) ∈ tw := tw_of (i := 585) rfl rfl
set_option maxRecDepth 30000 in
theorem wd_586 : (.selects R_A y_A_begin y_A_begin : Cond) ∈ tw := tw_of (i := 586) rfl rfl
set_option maxRecDepth 30000 in
theorem wd_588 : (.methodLink R_A 28 ⟨"java/util/Arrays", "fill", "([II)V"⟩ : Cond) ∈ tw := tw_of (i := 588) rfl rfl
set_option maxRecDepth 30000 in
theorem wd_589 : (.methodLink R_T 215 ⟨"java/util/Arrays", "fill", "([II)V"⟩ : Cond) ∈ tw := tw_of (i := 589) rfl rfl
set_option maxRecDepth 30000 in
theorem wd_590 : (.methodLink R_T 221 y_T_gatherDrivers : Cond) ∈ tw := tw_of (i := 590) rfl rfl
set_option maxRecDepth 30000 in
theorem wd_592 : (.instanceMethod y_T_gatherDrivers : Cond) ∈ tw := tw_of (i := 592) rfl rfl
set_option maxRecDepth 30000 in
theorem wd_594 : (.methodLink R_T 224 y_T_assignPart : Cond) ∈ tw := tw_of (i := 594) rfl rfl
set_option maxRecDepth 30000 in
theorem wd_596 : (.instanceMethod y_T_assignPart : Cond) ∈ tw := tw_of (i := 596) rfl rfl
set_option maxRecDepth 30000 in
theorem wd_598 : (.methodLink R_T 230 y_A_tripsOfPart : Cond) ∈ tw := tw_of (i := 598) rfl rfl
set_option maxRecDepth 30000 in
theorem wd_599 : (.instanceMethod y_A_tripsOfPart : Cond) ∈ tw := tw_of (i := 599) rfl rfl
set_option maxRecDepth 30000 in
theorem wd_600 : (.selects R_A y_A_tripsOfPart y_A_tripsOfPart : Cond) ∈ tw := tw_of (i := 600) rfl rfl
set_option maxRecDepth 30000 in
theorem wd_602 : (.methodLink R_T 233 y_A_send : Cond) ∈ tw := tw_of (i := 602) rfl rfl
set_option maxRecDepth 30000 in
theorem wd_603 : (.instanceMethod y_A_send : Cond) ∈ tw := tw_of (i := 603) rfl rfl
set_option maxRecDepth 30000 in
theorem wd_604 : (.selects R_A y_A_send y_A_send : Cond) ∈ tw := tw_of (i := 604) rfl rfl
set_option maxRecDepth 30000 in
theorem wd_606 : (.methodLink R_A 34 y_W_timeFrom : Cond) ∈ tw := tw_of (i := 606) rfl rfl
set_option maxRecDepth 30000 in
theorem wd_607 : (.methodLink R_A 48 y_A_placeOf : Cond) ∈ tw := tw_of (i := 607) rfl rfl
set_option maxRecDepth 30000 in
theorem wd_608 : (.static y_A_placeOf : Cond) ∈ tw := tw_of (i := 608) rfl rfl
set_option maxRecDepth 30000 in
theorem wd_617 : (.methodLink R_T 155 y_S_timeOf : Cond) ∈ tw := tw_of (i := 617) rfl rfl
set_option maxRecDepth 30000 in
theorem wd_626 : (.methodLink R_T 168 y_W_streetAt : Cond) ∈ tw := tw_of (i := 626) rfl rfl
set_option maxRecDepth 30000 in
theorem wd_627 : (.instanceMethod y_W_streetAt : Cond) ∈ tw := tw_of (i := 627) rfl rfl
set_option maxRecDepth 30000 in
theorem wd_628 : (.selects R_W y_W_streetAt y_W_streetAt : Cond) ∈ tw := tw_of (i := 628) rfl rfl
set_option maxRecDepth 30000 in
theorem wd_644 : (.methodLink R_T 178 y_A_placeOf : Cond) ∈ tw := tw_of (i := 644) rfl rfl
set_option maxRecDepth 30000 in
theorem wd_660 : (.methodLink R_T 197 y_S_farthestFromCount : Cond) ∈ tw := tw_of (i := 660) rfl rfl
set_option maxRecDepth 30000 in
theorem wd_661 : (.instanceMethod y_S_farthestFromCount : Cond) ∈ tw := tw_of (i := 661) rfl rfl
set_option maxRecDepth 30000 in
theorem wd_662 : (.selects R_S y_S_farthestFromCount y_S_farthestFromCount : Cond) ∈ tw := tw_of (i := 662) rfl rfl
set_option maxRecDepth 30000 in
theorem wd_664 : (.methodLink R_S 58 ⟨"java/lang/Math", "abs", "(I)I"⟩ : Cond) ∈ tw := tw_of (i := 664) rfl rfl
set_option maxRecDepth 30000 in
theorem wd_665 : (.methodLink R_T 201 y_T_scaleUsersOf : Cond) ∈ tw := tw_of (i := 665) rfl rfl
set_option maxRecDepth 30000 in
theorem wd_667 : (.instanceMethod y_T_scaleUsersOf : Cond) ∈ tw := tw_of (i := 667) rfl rfl
set_option maxRecDepth 30000 in
theorem wd_669 : (.constantLong R_T 240 (1000000 : Int64) : Cond) ∈ tw := tw_of (i := 669) rfl rfl
set_option maxRecDepth 30000 in
theorem wd_670 : (.methodLink R_T 242 ⟨"java/lang/Math", "min", "(JJ)J"⟩ : Cond) ∈ tw := tw_of (i := 670) rfl rfl
set_option maxRecDepth 30000 in
theorem wd_677 : (.fieldLink R_R 87 "TripRoundsModel" "code" "I" : Cond) ∈ tw := tw_of (i := 677) rfl rfl
set_option maxRecDepth 30000 in
theorem wd_678 : (.fieldLink R_R 91 "TripRoundsModel" "nodes" "I" : Cond) ∈ tw := tw_of (i := 678) rfl rfl
set_option maxRecDepth 30000 in
theorem wd_679 : (.fieldLink R_R 98 "TripRoundsModel" "zones" "I" : Cond) ∈ tw := tw_of (i := 679) rfl rfl
set_option maxRecDepth 30000 in
theorem wd_680 : (.fieldLink R_R 105 "TripRoundsModel" "streets" "I" : Cond) ∈ tw := tw_of (i := 680) rfl rfl
set_option maxRecDepth 30000 in
theorem wd_681 : (.fieldLink R_R 7 "TripRoundsModel" "zoneNode" "[I" : Cond) ∈ tw := tw_of (i := 681) rfl rfl
set_option maxRecDepth 30000 in
theorem wd_682 : (.fieldLink R_R 13 "TripRoundsModel" "people" "[I" : Cond) ∈ tw := tw_of (i := 682) rfl rfl
set_option maxRecDepth 30000 in
theorem wd_683 : (.fieldLink R_R 16 "TripRoundsModel" "jobs" "[I" : Cond) ∈ tw := tw_of (i := 683) rfl rfl
set_option maxRecDepth 30000 in
theorem wd_684 : (.fieldLink R_R 19 "TripRoundsModel" "froms" "[I" : Cond) ∈ tw := tw_of (i := 684) rfl rfl
set_option maxRecDepth 30000 in
theorem wd_685 : (.fieldLink R_R 22 "TripRoundsModel" "tos" "[I" : Cond) ∈ tw := tw_of (i := 685) rfl rfl
set_option maxRecDepth 30000 in
theorem wd_686 : (.fieldLink R_R 25 "TripRoundsModel" "frees" "[I" : Cond) ∈ tw := tw_of (i := 686) rfl rfl
set_option maxRecDepth 30000 in
theorem wd_687 : (.fieldLink R_R 28 "TripRoundsModel" "slopes" "[I" : Cond) ∈ tw := tw_of (i := 687) rfl rfl
set_option maxRecDepth 30000 in
theorem wd_688 : (.fieldLink R_R 31 "TripRoundsModel" "rooms" "[I" : Cond) ∈ tw := tw_of (i := 688) rfl rfl
set_option maxRecDepth 30000 in
theorem wd_689 : (.fieldLink R_R 34 "TripRoundsModel" "tolls" "[I" : Cond) ∈ tw := tw_of (i := 689) rfl rfl
set_option maxRecDepth 30000 in
theorem wd_690 : (.fieldLink R_R 37 "TripRoundsModel" "shut" "[Z" : Cond) ∈ tw := tw_of (i := 690) rfl rfl
set_option maxRecDepth 30000 in
theorem wd_691 : (.fieldLink R_R 41 "TripRoundsModel" "counts" "[I" : Cond) ∈ tw := tw_of (i := 691) rfl rfl
set_option maxRecDepth 30000 in
theorem wd_692 : (.fieldLink R_R 44 "TripRoundsModel" "volumes" "[J" : Cond) ∈ tw := tw_of (i := 692) rfl rfl
set_option maxRecDepth 30000 in
theorem wd_693 : (.fieldLink R_R 48 "TripRoundsModel" "weights" "[I" : Cond) ∈ tw := tw_of (i := 693) rfl rfl
set_option maxRecDepth 30000 in
theorem wd_694 : (.fieldLink R_R 51 "TripRoundsModel" "table" "[I" : Cond) ∈ tw := tw_of (i := 694) rfl rfl
set_option maxRecDepth 30000 in
theorem wd_695 : (.fieldLink R_R 54 "TripRoundsModel" "pulls" "[I" : Cond) ∈ tw := tw_of (i := 695) rfl rfl
set_option maxRecDepth 30000 in
theorem wd_696 : (.fieldLink R_R 57 "TripRoundsModel" "went" "[I" : Cond) ∈ tw := tw_of (i := 696) rfl rfl
set_option maxRecDepth 30000 in
theorem wd_697 : (.fieldLink R_R 60 "TripRoundsModel" "links" "[I" : Cond) ∈ tw := tw_of (i := 697) rfl rfl
set_option maxRecDepth 30000 in
theorem wd_698 : (.fieldLink R_R 63 "TripRoundsModel" "factors" "[I" : Cond) ∈ tw := tw_of (i := 698) rfl rfl
set_option maxRecDepth 30000 in
theorem wd_699 : (.fieldLink R_R 154 "TripRoundsModel" "parts" "I" : Cond) ∈ tw := tw_of (i := 699) rfl rfl
set_option maxRecDepth 30000 in
theorem wd_700 : (.fieldLink R_R 157 "TripRoundsModel" "lost" "I" : Cond) ∈ tw := tw_of (i := 700) rfl rfl
set_option maxRecDepth 30000 in
theorem wd_701 : (.fieldLink R_R 66 "TripRoundsModel" "numbers" "[J" : Cond) ∈ tw := tw_of (i := 701) rfl rfl
set_option maxRecDepth 30000 in
theorem wd_702 : (.fieldLink R_R 69 "TripRoundsModel" "rests" "[J" : Cond) ∈ tw := tw_of (i := 702) rfl rfl
set_option maxRecDepth 30000 in
theorem wd_703 : (.fieldLink R_R 72 "TripRoundsModel" "gets" "[I" : Cond) ∈ tw := tw_of (i := 703) rfl rfl
set_option maxRecDepth 30000 in
theorem wd_704 : (.fieldLink R_R 75 "TripRoundsModel" "times" "[J" : Cond) ∈ tw := tw_of (i := 704) rfl rfl
set_option maxRecDepth 30000 in
theorem wd_705 : (.fieldLink R_R 78 "TripRoundsModel" "near" "[J" : Cond) ∈ tw := tw_of (i := 705) rfl rfl
set_option maxRecDepth 30000 in
theorem wd_706 : (.fieldLink R_R 81 "TripRoundsModel" "few" "[I" : Cond) ∈ tw := tw_of (i := 706) rfl rfl
set_option maxRecDepth 30000 in
theorem wd_707 : (.fieldLink R_R 84 "TripRoundsModel" "row" "[I" : Cond) ∈ tw := tw_of (i := 707) rfl rfl
set_option maxRecDepth 30000 in
theorem wd_708 : (.fieldLink R_R 151 "TripRoundsModel" "rowSize" "I" : Cond) ∈ tw := tw_of (i := 708) rfl rfl
set_option maxRecDepth 30000 in
theorem wd_786 : (.methodLink R_R 108 y_R_isNode : Cond) ∈ tw := tw_of (i := 786) rfl rfl
set_option maxRecDepth 30000 in
theorem wd_788 : (.instanceMethod y_R_isNode : Cond) ∈ tw := tw_of (i := 788) rfl rfl
set_option maxRecDepth 30000 in
theorem wd_790 : (.methodLink R_R 94 y_R_isIn : Cond) ∈ tw := tw_of (i := 790) rfl rfl
set_option maxRecDepth 30000 in
theorem wd_791 : (.static y_R_isIn : Cond) ∈ tw := tw_of (i := 791) rfl rfl
set_option maxRecDepth 30000 in
theorem wd_793 : (.constant R_R 111 (100000 : Int32) : Cond) ∈ tw := tw_of (i := 793) rfl rfl
set_option maxRecDepth 30000 in
theorem wd_798 : (.constant R_R 112 (1000000 : Int32) : Cond) ∈ tw := tw_of (i := 798) rfl rfl
set_option maxRecDepth 30000 in
theorem wd_803 : (.methodLink R_R 113 y_R_isStreet : Cond) ∈ tw := tw_of (i := 803) rfl rfl
set_option maxRecDepth 30000 in
theorem wd_805 : (.instanceMethod y_R_isStreet : Cond) ∈ tw := tw_of (i := 805) rfl rfl
set_option maxRecDepth 30000 in
theorem wd_815 : (.methodLink R_R 116 y_R_isPair : Cond) ∈ tw := tw_of (i := 815) rfl rfl
set_option maxRecDepth 30000 in
theorem wd_817 : (.instanceMethod y_R_isPair : Cond) ∈ tw := tw_of (i := 817) rfl rfl
set_option maxRecDepth 30000 in
theorem wd_819 : (.methodLink R_R 101 y_R_isZone : Cond) ∈ tw := tw_of (i := 819) rfl rfl
set_option maxRecDepth 30000 in
theorem wd_821 : (.instanceMethod y_R_isZone : Cond) ∈ tw := tw_of (i := 821) rfl rfl
set_option maxRecDepth 30000 in
theorem wd_831 : (.methodLink R_R 130 y_R_oneRound : Cond) ∈ tw := tw_of (i := 831) rfl rfl
set_option maxRecDepth 30000 in
theorem wd_833 : (.instanceMethod y_R_oneRound : Cond) ∈ tw := tw_of (i := 833) rfl rfl
set_option maxRecDepth 30000 in
theorem wd_835 : (.methodLink R_R 122 y_R_share : Cond) ∈ tw := tw_of (i := 835) rfl rfl
set_option maxRecDepth 30000 in
theorem wd_837 : (.instanceMethod y_R_share : Cond) ∈ tw := tw_of (i := 837) rfl rfl
set_option maxRecDepth 30000 in
theorem wd_839 : (.constantLong R_R 120 (-1 : Int64) : Cond) ∈ tw := tw_of (i := 839) rfl rfl
set_option maxRecDepth 30000 in
theorem wd_840 : (.methodLink R_R 133 y_R_isMet : Cond) ∈ tw := tw_of (i := 840) rfl rfl
set_option maxRecDepth 30000 in
theorem wd_842 : (.instanceMethod y_R_isMet : Cond) ∈ tw := tw_of (i := 842) rfl rfl
set_option maxRecDepth 30000 in
theorem wd_844 : (.methodLink R_R 126 y_R_sumTo : Cond) ∈ tw := tw_of (i := 844) rfl rfl
set_option maxRecDepth 30000 in
theorem wd_846 : (.instanceMethod y_R_sumTo : Cond) ∈ tw := tw_of (i := 846) rfl rfl
set_option maxRecDepth 30000 in
theorem wd_848 : (.constantLong R_R 136 (1000000 : Int64) : Cond) ∈ tw := tw_of (i := 848) rfl rfl
set_option maxRecDepth 30000 in
theorem wd_869 : (.methodLink R_R 138 y_R_byMode : Cond) ∈ tw := tw_of (i := 869) rfl rfl
set_option maxRecDepth 30000 in
theorem wd_871 : (.instanceMethod y_R_byMode : Cond) ∈ tw := tw_of (i := 871) rfl rfl
set_option maxRecDepth 30000 in
theorem wd_877 : (.methodLink R_R 170 y_R_assignAll : Cond) ∈ tw := tw_of (i := 877) rfl rfl
set_option maxRecDepth 30000 in
theorem wd_879 : (.instanceMethod y_R_assignAll : Cond) ∈ tw := tw_of (i := 879) rfl rfl
set_option maxRecDepth 30000 in
theorem wd_881 : (.methodLink R_R 160 y_R_takeTimes : Cond) ∈ tw := tw_of (i := 881) rfl rfl
set_option maxRecDepth 30000 in
theorem wd_883 : (.instanceMethod y_R_takeTimes : Cond) ∈ tw := tw_of (i := 883) rfl rfl
set_option maxRecDepth 30000 in
theorem wd_885 : (.methodLink R_R 142 y_R_timeOf : Cond) ∈ tw := tw_of (i := 885) rfl rfl
set_option maxRecDepth 30000 in
theorem wd_887 : (.instanceMethod y_R_timeOf : Cond) ∈ tw := tw_of (i := 887) rfl rfl
set_option maxRecDepth 30000 in
theorem wd_889 : (.methodLink R_R 163 y_R_goPart : Cond) ∈ tw := tw_of (i := 889) rfl rfl
set_option maxRecDepth 30000 in
theorem wd_891 : (.instanceMethod y_R_goPart : Cond) ∈ tw := tw_of (i := 891) rfl rfl
set_option maxRecDepth 30000 in
theorem wd_893 : (.methodLink R_R 167 y_R_findWay : Cond) ∈ tw := tw_of (i := 893) rfl rfl
set_option maxRecDepth 30000 in
theorem wd_895 : (.instanceMethod y_R_findWay : Cond) ∈ tw := tw_of (i := 895) rfl rfl
set_option maxRecDepth 30000 in
theorem wd_897 : (.methodLink R_R 147 y_R_findNear : Cond) ∈ tw := tw_of (i := 897) rfl rfl
set_option maxRecDepth 30000 in
theorem wd_899 : (.instanceMethod y_R_findNear : Cond) ∈ tw := tw_of (i := 899) rfl rfl
set_option maxRecDepth 30000 in
theorem wd_901 : (.constantLong R_R 145 (1000000000000 : Int64) : Cond) ∈ tw := tw_of (i := 901) rfl rfl
set_option maxRecDepth 30000 in
theorem wd_930 : (.methodLink R_R 176 y_R_worst : Cond) ∈ tw := tw_of (i := 930) rfl rfl
set_option maxRecDepth 30000 in
theorem wd_932 : (.instanceMethod y_R_worst : Cond) ∈ tw := tw_of (i := 932) rfl rfl
set_option maxRecDepth 30000 in
theorem wd_934 : (.methodLink R_R 173 y_R_offOf : Cond) ∈ tw := tw_of (i := 934) rfl rfl
set_option maxRecDepth 30000 in
theorem wd_936 : (.instanceMethod y_R_offOf : Cond) ∈ tw := tw_of (i := 936) rfl rfl
set_option maxRecDepth 30000 in
theorem wc_T_assignAll : (.code y_T_assignAll b_T_assignAll 3 none : Cond) ∈ tw := tw_of (i := 583) rfl rfl
set_option maxRecDepth 30000 in
theorem wc_T_assignPart : (.code y_T_assignPart b_T_assignPart 5 none : Cond) ∈ tw := tw_of (i := 597) rfl rfl
set_option maxRecDepth 30000 in
theorem wc_T_gatherDrivers : (.code y_T_gatherDrivers b_T_gatherDrivers 4 none : Cond) ∈ tw := tw_of (i := 593) rfl rfl
set_option maxRecDepth 30000 in
theorem wc_T_leastTimeTo : (.code y_T_leastTimeTo b_T_leastTimeTo 6 (some .long) : Cond) ∈ tw := tw_of (i := 308) rfl rfl
set_option maxRecDepth 30000 in
theorem wc_T_needNode : (.code y_T_needNode b_T_needNode 2 none : Cond) ∈ tw := tw_of (i := 402) rfl rfl
set_option maxRecDepth 30000 in
theorem wc_T_needStreet : (.code y_T_needStreet b_T_needStreet 2 none : Cond) ∈ tw := tw_of (i := 453) rfl rfl
set_option maxRecDepth 30000 in
theorem wc_T_needWithin : (.code y_T_needWithin b_T_needWithin 3 none : Cond) ∈ tw := tw_of (i := 422) rfl rfl
set_option maxRecDepth 30000 in
theorem wc_T_needZone : (.code y_T_needZone b_T_needZone 2 none : Cond) ∈ tw := tw_of (i := 472) rfl rfl
set_option maxRecDepth 30000 in
theorem wc_T_pairOf : (.code y_T_pairOf b_T_pairOf 2 (some .int) : Cond) ∈ tw := tw_of (i := 315) rfl rfl
set_option maxRecDepth 30000 in
theorem wc_T_scaleUsersOf : (.code y_T_scaleUsersOf b_T_scaleUsersOf 7 none : Cond) ∈ tw := tw_of (i := 668) rfl rfl
set_option maxRecDepth 30000 in
theorem wc_A_begin : (.code y_A_begin b_A_begin 2 none : Cond) ∈ tw := tw_of (i := 587) rfl rfl
set_option maxRecDepth 30000 in
theorem wc_A_placeOf : (.code y_A_placeOf b_A_placeOf 2 (some .int) : Cond) ∈ tw := tw_of (i := 609) rfl rfl
set_option maxRecDepth 30000 in
theorem wc_A_send : (.code y_A_send b_A_send 8 none : Cond) ∈ tw := tw_of (i := 605) rfl rfl
set_option maxRecDepth 30000 in
theorem wc_A_tripsOfPart : (.code y_A_tripsOfPart b_A_tripsOfPart 5 (some .int) : Cond) ∈ tw := tw_of (i := 601) rfl rfl
set_option maxRecDepth 30000 in
theorem wc_M_placeOf : (.code y_M_placeOf b_M_placeOf 2 (some .int) : Cond) ∈ tw := tw_of (i := 141) rfl rfl
set_option maxRecDepth 30000 in
theorem wc_M_tripsBy : (.code y_M_tripsBy b_M_tripsBy 5 (some .int) : Cond) ∈ tw := tw_of (i := 571) rfl rfl
set_option maxRecDepth 30000 in
theorem wc_H_giveOne : (.code y_H_giveOne b_H_giveOne 4 none : Cond) ∈ tw := tw_of (i := 505) rfl rfl
set_option maxRecDepth 30000 in
theorem wc_H_shareOut : (.code y_H_shareOut b_H_shareOut 9 none : Cond) ∈ tw := tw_of (i := 500) rfl rfl
set_option maxRecDepth 30000 in
theorem wc_S_addStreet : (.code y_S_addStreet b_S_addStreet 6 (some .int) : Cond) ∈ tw := tw_of (i := 442) rfl rfl
set_option maxRecDepth 30000 in
theorem wc_S_farthestFromCount : (.code y_S_farthestFromCount b_S_farthestFromCount 5 (some .int) : Cond) ∈ tw := tw_of (i := 663) rfl rfl
set_option maxRecDepth 30000 in
theorem wc_S_timeOf : (.code y_S_timeOf b_S_timeOf 4 (some .int) : Cond) ∈ tw := tw_of (i := 278) rfl rfl
set_option maxRecDepth 30000 in
theorem wc_B_changeFactors : (.code y_B_changeFactors b_B_changeFactors 6 none : Cond) ∈ tw := tw_of (i := 521) rfl rfl
set_option maxRecDepth 30000 in
theorem wc_B_goRounds : (.code y_B_goRounds b_B_goRounds 5 (some .int) : Cond) ∈ tw := tw_of (i := 491) rfl rfl
set_option maxRecDepth 30000 in
theorem wc_B_isMet : (.code y_B_isMet b_B_isMet 4 (some .boolean) : Cond) ∈ tw := tw_of (i := 510) rfl rfl
set_option maxRecDepth 30000 in
theorem wc_B_shareAllPeople : (.code y_B_shareAllPeople b_B_shareAllPeople 4 none : Cond) ∈ tw := tw_of (i := 495) rfl rfl
set_option maxRecDepth 30000 in
theorem wc_B_sumFrom : (.code y_B_sumFrom b_B_sumFrom 4 (some .int) : Cond) ∈ tw := tw_of (i := 544) rfl rfl
set_option maxRecDepth 30000 in
theorem wc_B_sumTo : (.code y_B_sumTo b_B_sumTo 4 (some .int) : Cond) ∈ tw := tw_of (i := 514) rfl rfl
set_option maxRecDepth 30000 in
theorem wc_W_aimAt : (.code y_W_aimAt b_W_aimAt 5 none : Cond) ∈ tw := tw_of (i := 286) rfl rfl
set_option maxRecDepth 30000 in
theorem wc_W_chooseNexts : (.code y_W_chooseNexts b_W_chooseNexts 6 none : Cond) ∈ tw := tw_of (i := 303) rfl rfl
set_option maxRecDepth 30000 in
theorem wc_W_costBy : (.code y_W_costBy b_W_costBy 5 (some .long) : Cond) ∈ tw := tw_of (i := 298) rfl rfl
set_option maxRecDepth 30000 in
theorem wc_W_holdTimes : (.code y_W_holdTimes b_W_holdTimes 3 none : Cond) ∈ tw := tw_of (i := 274) rfl rfl
set_option maxRecDepth 30000 in
theorem wc_W_lowerCosts : (.code y_W_lowerCosts b_W_lowerCosts 6 (some .boolean) : Cond) ∈ tw := tw_of (i := 294) rfl rfl
set_option maxRecDepth 30000 in
theorem wc_W_streetAt : (.code y_W_streetAt b_W_streetAt 6 (some .int) : Cond) ∈ tw := tw_of (i := 629) rfl rfl
set_option maxRecDepth 30000 in
theorem wc_W_timeFrom : (.code y_W_timeFrom b_W_timeFrom 2 (some .int) : Cond) ∈ tw := tw_of (i := 312) rfl rfl
set_option maxRecDepth 30000 in
theorem wc_Z_addZone : (.code y_Z_addZone b_Z_addZone 4 (some .int) : Cond) ∈ tw := tw_of (i := 428) rfl rfl
set_option maxRecDepth 30000 in
theorem wc_R_assignAll : (.code y_R_assignAll b_R_assignAll 5 none : Cond) ∈ tw := tw_of (i := 880) rfl rfl
set_option maxRecDepth 30000 in
theorem wc_R_byMode : (.code y_R_byMode b_R_byMode 4 (some .int) : Cond) ∈ tw := tw_of (i := 872) rfl rfl
set_option maxRecDepth 30000 in
theorem wc_R_findNear : (.code y_R_findNear b_R_findNear 9 none : Cond) ∈ tw := tw_of (i := 900) rfl rfl
set_option maxRecDepth 30000 in
theorem wc_R_findWay : (.code y_R_findWay b_R_findWay 8 (some .boolean) : Cond) ∈ tw := tw_of (i := 896) rfl rfl
set_option maxRecDepth 30000 in
theorem wc_R_goPart : (.code y_R_goPart b_R_goPart 10 none : Cond) ∈ tw := tw_of (i := 892) rfl rfl
set_option maxRecDepth 30000 in
theorem wc_R_isIn : (.code y_R_isIn b_R_isIn 3 (some .boolean) : Cond) ∈ tw := tw_of (i := 792) rfl rfl
set_option maxRecDepth 30000 in
theorem wc_R_isMet : (.code y_R_isMet b_R_isMet 6 (some .boolean) : Cond) ∈ tw := tw_of (i := 843) rfl rfl
set_option maxRecDepth 30000 in
theorem wc_R_isNode : (.code y_R_isNode b_R_isNode 2 (some .boolean) : Cond) ∈ tw := tw_of (i := 789) rfl rfl
set_option maxRecDepth 30000 in
theorem wc_R_isPair : (.code y_R_isPair b_R_isPair 3 (some .boolean) : Cond) ∈ tw := tw_of (i := 818) rfl rfl
set_option maxRecDepth 30000 in
theorem wc_R_isStreet : (.code y_R_isStreet b_R_isStreet 2 (some .boolean) : Cond) ∈ tw := tw_of (i := 806) rfl rfl
set_option maxRecDepth 30000 in
theorem wc_R_isZone : (.code y_R_isZone b_R_isZone 2 (some .boolean) : Cond) ∈ tw := tw_of (i := 822) rfl rfl
set_option maxRecDepth 30000 in
theorem wc_R_offOf : (.code y_R_offOf b_R_offOf 4 (some .long) : Cond) ∈ tw := tw_of (i := 937) rfl rfl
set_option maxRecDepth 30000 in
theorem wc_R_oneRound : (.code y_R_oneRound b_R_oneRound 3 none : Cond) ∈ tw := tw_of (i := 834) rfl rfl
set_option maxRecDepth 30000 in
theorem wc_R_share : (.code y_R_share b_R_share 10 none : Cond) ∈ tw := tw_of (i := 838) rfl rfl
set_option maxRecDepth 30000 in
theorem wc_R_sumTo : (.code y_R_sumTo b_R_sumTo 5 (some .long) : Cond) ∈ tw := tw_of (i := 847) rfl rfl
set_option maxRecDepth 30000 in
theorem wc_R_takeTimes : (.code y_R_takeTimes b_R_takeTimes 2 none : Cond) ∈ tw := tw_of (i := 884) rfl rfl
set_option maxRecDepth 30000 in
theorem wc_R_timeOf : (.code y_R_timeOf b_R_timeOf 4 (some .long) : Cond) ∈ tw := tw_of (i := 888) rfl rfl
set_option maxRecDepth 30000 in
theorem wc_R_worst : (.code y_R_worst b_R_worst 3 (some .int) : Cond) ∈ tw := tw_of (i := 933) rfl rfl
set_option maxRecDepth 30000 in
theorem wm_abs : (.code Lib.Math.abs.name Lib.Math.abs.code 1 (some .int) : Cond) ∈ tw := tw_of (i := 517) rfl rfl
set_option maxRecDepth 30000 in
theorem wm_max_long : (.code Lib.MathLoose.max_long.x Lib.MathLoose.max_long.code 4 (some .long) : Cond) ∈ tw := tw_of (i := 526) rfl rfl
set_option maxRecDepth 30000 in
theorem wm_min_long : (.code Lib.MathLoose.min_long.x Lib.MathLoose.min_long.code 4 (some .long) : Cond) ∈ tw := tw_of (i := 282) rfl rfl
abbrev b_fillI : ByteArray := prog_18_method_103_code
def y_fillI : MethodName := ⟨"java/util/Arrays", "fill", "([II)V"⟩
set_option maxRecDepth 30000 in
theorem wf_I : (.code y_fillI b_fillI 4 none : Cond) ∈ tw := tw_of (i := 114) rfl rfl
abbrev b_fillJ : ByteArray := prog_18_method_101_code
def y_fillJ : MethodName := ⟨"java/util/Arrays", "fill", "([JJ)V"⟩
set_option maxRecDepth 30000 in
theorem wf_J : (.code y_fillJ b_fillJ 5 none : Cond) ∈ tw := tw_of (i := 290) rfl rfl
/-- the one word of the tables that is kept by itself -/
def tW (U : State) : Prop := va_Nw (.methodLinkNest R_B 57 y_T_pairOf "TripRounds") U
theorem tW_warm {s U : State} (hW : s.WarmedH U.vm) (h : tW s) : tW U := va_Nw.warmM hW h
