set_option maxRecDepth 30000 in
theorem wd_56 : (.instanceMethod ⟨"java/lang/Object", "<init>", "()V"⟩ : Cond) ∈ tw := tw_of (i := 56) rfl rfl
set_option maxRecDepth 30000 in
theorem wd_63 : (.methodLink R_Z 3 ⟨"java/lang/Object", "<init>", "()V"⟩ : Cond) ∈ tw := tw_of (i := 63) rfl rfl
set_option maxRecDepth 30000 in
theorem wd_84 : (.arrayClass .int : Cond) ∈ tw := tw_of (i := 84) rfl rfl
set_option maxRecDepth 30000 in
theorem wd_90 : (.methodLink R_B 3 ⟨"java/lang/Object", "<init>", "()V"⟩ : Cond) ∈ tw := tw_of (i := 90) rfl rfl
set_option maxRecDepth 30000 in
theorem wd_91 : (.classLink R_B 21 "TripRounds$Sharing" : Cond) ∈ tw := tw_of (i := 91) rfl rfl
set_option maxRecDepth 30000 in
theorem wd_92 : (.instantiable "TripRounds$Sharing" 3 : Cond) ∈ tw := tw_of (i := 92) rfl rfl
set_option maxRecDepth 30000 in
theorem wd_93 : (.methodLink R_B 23 y_H_init : Cond) ∈ tw := tw_of (i := 93) rfl rfl
set_option maxRecDepth 30000 in
theorem wd_94 : (.instanceMethod y_H_init : Cond) ∈ tw := tw_of (i := 94) rfl rfl
set_option maxRecDepth 30000 in
theorem wd_96 : (.methodLink R_H 1 ⟨"java/lang/Object", "<init>", "()V"⟩ : Cond) ∈ tw := tw_of (i := 96) rfl rfl
set_option maxRecDepth 30000 in
theorem wd_111 : (.arrayClass .long : Cond) ∈ tw := tw_of (i := 111) rfl rfl
set_option maxRecDepth 30000 in
theorem wd_112 : (.methodLink R_B 30 ⟨"java/util/Arrays", "fill", "([II)V"⟩ : Cond) ∈ tw := tw_of (i := 112) rfl rfl
set_option maxRecDepth 30000 in
theorem wd_136 : (.methodLink R_M 3 ⟨"java/lang/Object", "<init>", "()V"⟩ : Cond) ∈ tw := tw_of (i := 136) rfl rfl
set_option maxRecDepth 30000 in
theorem wd_137 : (.classLink R_M 15 "TripRounds$Sharing" : Cond) ∈ tw := tw_of (i := 137) rfl rfl
set_option maxRecDepth 30000 in
theorem wd_138 : (.methodLink R_M 17 y_H_init : Cond) ∈ tw := tw_of (i := 138) rfl rfl
set_option maxRecDepth 30000 in
theorem wd_155 : (.methodLink R_S 3 ⟨"java/lang/Object", "<init>", "()V"⟩ : Cond) ∈ tw := tw_of (i := 155) rfl rfl
set_option maxRecDepth 30000 in
theorem wd_156 : (.methodLink R_S 44 ⟨"java/util/Arrays", "fill", "([II)V"⟩ : Cond) ∈ tw := tw_of (i := 156) rfl rfl
set_option maxRecDepth 30000 in
theorem wd_199 : (.arrayClass .boolean : Cond) ∈ tw := tw_of (i := 199) rfl rfl
set_option maxRecDepth 30000 in
theorem wd_205 : (.methodLink R_W 3 ⟨"java/lang/Object", "<init>", "()V"⟩ : Cond) ∈ tw := tw_of (i := 205) rfl rfl
set_option maxRecDepth 30000 in
theorem wd_223 : (.methodLink R_A 3 ⟨"java/lang/Object", "<init>", "()V"⟩ : Cond) ∈ tw := tw_of (i := 223) rfl rfl
set_option maxRecDepth 30000 in
theorem wc_H_init : (.code y_H_init b_H_init 2 none : Cond) ∈ tw := tw_of (i := 95) rfl rfl
set_option maxRecDepth 30000 in
theorem wc_object : (.code Lib.objectInit ⟨#[0xb1]⟩ 1 none : Cond) ∈ tw := tw_of (i := 57) rfl rfl
