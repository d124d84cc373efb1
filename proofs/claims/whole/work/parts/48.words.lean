set_option maxRecDepth 30000 in
theorem wd_55 : (.methodLink R_T 3 ⟨"java/lang/Object", "<init>", "()V"⟩ : Cond) ∈ tw := tw_of (i := 55) rfl rfl
set_option maxRecDepth 30000 in
theorem wd_56 : (.instanceMethod ⟨"java/lang/Object", "<init>", "()V"⟩ : Cond) ∈ tw := tw_of (i := 56) rfl rfl
set_option maxRecDepth 30000 in
theorem wd_58 : (.classLink R_T 13 "TripRounds$Zones" : Cond) ∈ tw := tw_of (i := 58) rfl rfl
set_option maxRecDepth 30000 in
theorem wd_59 : (.instantiable "TripRounds$Zones" 4 : Cond) ∈ tw := tw_of (i := 59) rfl rfl
set_option maxRecDepth 30000 in
theorem wd_60 : (.methodLink R_T 15 y_Z_init : Cond) ∈ tw := tw_of (i := 60) rfl rfl
set_option maxRecDepth 30000 in
theorem wd_61 : (.instanceMethod y_Z_init : Cond) ∈ tw := tw_of (i := 61) rfl rfl
set_option maxRecDepth 30000 in
theorem wd_63 : (.methodLink R_Z 3 ⟨"java/lang/Object", "<init>", "()V"⟩ : Cond) ∈ tw := tw_of (i := 63) rfl rfl
set_option maxRecDepth 30000 in
theorem wd_84 : (.arrayClass .int : Cond) ∈ tw := tw_of (i := 84) rfl rfl
set_option maxRecDepth 30000 in
theorem wd_85 : (.classLink R_T 20 "TripRounds$Table" : Cond) ∈ tw := tw_of (i := 85) rfl rfl
set_option maxRecDepth 30000 in
theorem wd_86 : (.instantiable "TripRounds$Table" 4 : Cond) ∈ tw := tw_of (i := 86) rfl rfl
set_option maxRecDepth 30000 in
theorem wd_87 : (.methodLink R_T 22 y_B_init : Cond) ∈ tw := tw_of (i := 87) rfl rfl
set_option maxRecDepth 30000 in
theorem wd_88 : (.instanceMethod y_B_init : Cond) ∈ tw := tw_of (i := 88) rfl rfl
set_option maxRecDepth 30000 in
theorem wd_90 : (.methodLink R_B 3 ⟨"java/lang/Object", "<init>", "()V"⟩ : Cond) ∈ tw := tw_of (i := 90) rfl rfl
set_option maxRecDepth 30000 in
theorem wd_91 : (.classLink R_B 21 "TripRounds$Sharing" : Cond) ∈ tw := tw_of (i := 91) rfl rfl
set_option maxRecDepth 30000 in
theorem wd_92 : (.instantiable "TripRounds$Sharing" 3 : Cond) ∈ tw := tw_of (i := 92) rfl rfl
set_option maxRecDepth 30000 in
theorem wd_93 : (.methodLink R_B 23 y_H_init : Cond) ∈ tw := tw_of (i := 93) rfl rfl
set_option maxRecDepth 30000 in
theorem wd_94 : (.instanceMethod y_H_init : Cond) ∈ tw := tw_of (i := 94) rfl rfl
set_option maxRecDepth 30000 in
theorem wd_96 : (.methodLink R_H 1 ⟨"java/lang/Object", "<init>", "()V"⟩ : Cond) ∈ tw := tw_of (i := 96) rfl rfl
set_option maxRecDepth 30000 in
theorem wd_111 : (.arrayClass .long : Cond) ∈ tw := tw_of (i := 111) rfl rfl
set_option maxRecDepth 30000 in
theorem wd_112 : (.methodLink R_B 30 ⟨"java/util/Arrays", "fill", "([II)V"⟩ : Cond) ∈ tw := tw_of (i := 112) rfl rfl
set_option maxRecDepth 30000 in
theorem wd_131 : (.classLink R_T 27 "TripRounds$Modes" : Cond) ∈ tw := tw_of (i := 131) rfl rfl
set_option maxRecDepth 30000 in
theorem wd_132 : (.instantiable "TripRounds$Modes" 2 : Cond) ∈ tw := tw_of (i := 132) rfl rfl
set_option maxRecDepth 30000 in
theorem wd_133 : (.methodLink R_T 29 y_M_init : Cond) ∈ tw := tw_of (i := 133) rfl rfl
set_option maxRecDepth 30000 in
theorem wd_134 : (.instanceMethod y_M_init : Cond) ∈ tw := tw_of (i := 134) rfl rfl
set_option maxRecDepth 30000 in
theorem wd_136 : (.methodLink R_M 3 ⟨"java/lang/Object", "<init>", "()V"⟩ : Cond) ∈ tw := tw_of (i := 136) rfl rfl
set_option maxRecDepth 30000 in
theorem wd_137 : (.classLink R_M 15 "TripRounds$Sharing" : Cond) ∈ tw := tw_of (i := 137) rfl rfl
set_option maxRecDepth 30000 in
theorem wd_138 : (.methodLink R_M 17 y_H_init : Cond) ∈ tw := tw_of (i := 138) rfl rfl
set_option maxRecDepth 30000 in
theorem wd_150 : (.classLink R_T 34 "TripRounds$Streets" : Cond) ∈ tw := tw_of (i := 150) rfl rfl
set_option maxRecDepth 30000 in
theorem wd_151 : (.instantiable "TripRounds$Streets" 10 : Cond) ∈ tw := tw_of (i := 151) rfl rfl
set_option maxRecDepth 30000 in
theorem wd_152 : (.methodLink R_T 36 y_S_init : Cond) ∈ tw := tw_of (i := 152) rfl rfl
set_option maxRecDepth 30000 in
theorem wd_153 : (.instanceMethod y_S_init : Cond) ∈ tw := tw_of (i := 153) rfl rfl
set_option maxRecDepth 30000 in
theorem wd_155 : (.methodLink R_S 3 ⟨"java/lang/Object", "<init>", "()V"⟩ : Cond) ∈ tw := tw_of (i := 155) rfl rfl
set_option maxRecDepth 30000 in
theorem wd_156 : (.methodLink R_S 44 ⟨"java/util/Arrays", "fill", "([II)V"⟩ : Cond) ∈ tw := tw_of (i := 156) rfl rfl
set_option maxRecDepth 30000 in
theorem wd_199 : (.arrayClass .boolean : Cond) ∈ tw := tw_of (i := 199) rfl rfl
set_option maxRecDepth 30000 in
theorem wd_200 : (.classLink R_T 41 "TripRounds$Ways" : Cond) ∈ tw := tw_of (i := 200) rfl rfl
set_option maxRecDepth 30000 in
theorem wd_201 : (.instantiable "TripRounds$Ways" 3 : Cond) ∈ tw := tw_of (i := 201) rfl rfl
set_option maxRecDepth 30000 in
theorem wd_202 : (.methodLink R_T 43 y_W_init : Cond) ∈ tw := tw_of (i := 202) rfl rfl
set_option maxRecDepth 30000 in
theorem wd_203 : (.instanceMethod y_W_init : Cond) ∈ tw := tw_of (i := 203) rfl rfl
set_option maxRecDepth 30000 in
theorem wd_205 : (.methodLink R_W 3 ⟨"java/lang/Object", "<init>", "()V"⟩ : Cond) ∈ tw := tw_of (i := 205) rfl rfl
set_option maxRecDepth 30000 in
theorem wd_218 : (.classLink R_T 48 "TripRounds$Assignment" : Cond) ∈ tw := tw_of (i := 218) rfl rfl
set_option maxRecDepth 30000 in
theorem wd_219 : (.instantiable "TripRounds$Assignment" 5 : Cond) ∈ tw := tw_of (i := 219) rfl rfl
set_option maxRecDepth 30000 in
theorem wd_220 : (.methodLink R_T 50 y_A_init : Cond) ∈ tw := tw_of (i := 220) rfl rfl
set_option maxRecDepth 30000 in
theorem wd_221 : (.instanceMethod y_A_init : Cond) ∈ tw := tw_of (i := 221) rfl rfl
set_option maxRecDepth 30000 in
theorem wd_223 : (.methodLink R_A 3 ⟨"java/lang/Object", "<init>", "()V"⟩ : Cond) ∈ tw := tw_of (i := 223) rfl rfl
set_option maxRecDepth 30000 in
theorem wd_676 : (.methodLink R_R 1 ⟨"java/lang/Object", "<init>", "()V"⟩ : Cond) ∈ tw := tw_of (i := 676) rfl rfl
set_option maxRecDepth 30000 in
theorem wc_A_init : (.code y_A_init b_A_init 1 none : Cond) ∈ tw := tw_of (i := 222) rfl rfl
set_option maxRecDepth 30000 in
theorem wc_M_init : (.code y_M_init b_M_init 2 none : Cond) ∈ tw := tw_of (i := 135) rfl rfl
set_option maxRecDepth 30000 in
theorem wc_H_init : (.code y_H_init b_H_init 2 none : Cond) ∈ tw := tw_of (i := 95) rfl rfl
set_option maxRecDepth 30000 in
theorem wc_S_init : (.code y_S_init b_S_init 1 none : Cond) ∈ tw := tw_of (i := 154) rfl rfl
set_option maxRecDepth 30000 in
theorem wc_B_init : (.code y_B_init b_B_init 1 none : Cond) ∈ tw := tw_of (i := 89) rfl rfl
set_option maxRecDepth 30000 in
theorem wc_W_init : (.code y_W_init b_W_init 1 none : Cond) ∈ tw := tw_of (i := 204) rfl rfl
set_option maxRecDepth 30000 in
theorem wc_Z_init : (.code y_Z_init b_Z_init 1 none : Cond) ∈ tw := tw_of (i := 62) rfl rfl
set_option maxRecDepth 30000 in
theorem wc_object : (.code Lib.objectInit ⟨#[0xb1]⟩ 1 none : Cond) ∈ tw := tw_of (i := 57) rfl rfl
