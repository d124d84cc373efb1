section
-- ===== PART A: goes FIRST, ahead of the names: the tables' words, and 'selects' of the private methods out of them =====
/-- a private method of a class that the tables say can be made, by its rows of tables_1 -/
def lw_okq (q : MethodName × Nat) : Prop := (q.1.cls ≠ "java/lang/invoke/MethodHandle" ∧ q.1.cls ≠ "java/lang/invoke/VarHandle") ∧ Cond.instantiable q.1.cls q.2 ∈ tables_1 ∧ Cond.privateMethod q.1 ∈ tables_1 ∧ Cond.instanceMethod q.1 ∈ tables_1
theorem lw_p0 : lw_okq (⟨"TripRounds$Ways", "lowerCosts", "(LTripRounds$Streets;)Z"⟩, 3) := ⟨⟨by decide +kernel, by decide +kernel⟩, List.mem_of_getElem? (i := 168) (by decide +kernel), List.mem_of_getElem? (i := 259) (by decide +kernel), List.mem_of_getElem? (i := 260) (by decide +kernel)⟩
theorem lw_p1 : lw_okq (⟨"TripRounds$Ways", "costBy", "(ILTripRounds$Streets;)J"⟩, 3) := ⟨⟨by decide +kernel, by decide +kernel⟩, List.mem_of_getElem? (i := 168) (by decide +kernel), List.mem_of_getElem? (i := 263) (by decide +kernel), List.mem_of_getElem? (i := 264) (by decide +kernel)⟩
theorem lw_p2 : lw_okq (⟨"TripRounds$Ways", "chooseNexts", "(LTripRounds$Streets;)V"⟩, 3) := ⟨⟨by decide +kernel, by decide +kernel⟩, List.mem_of_getElem? (i := 168) (by decide +kernel), List.mem_of_getElem? (i := 268) (by decide +kernel), List.mem_of_getElem? (i := 269) (by decide +kernel)⟩
theorem lw_p3 : lw_okq (⟨"TripRounds", "leastTimeTo", "(I)J"⟩, 7) := ⟨⟨by decide +kernel, by decide +kernel⟩, List.mem_of_getElem? (i := 18) (by decide +kernel), List.mem_of_getElem? (i := 273) (by decide +kernel), List.mem_of_getElem? (i := 274) (by decide +kernel)⟩
theorem lw_p4 : lw_okq (⟨"java/lang/Throwable", "fillInStackTrace", "(I)Ljava/lang/Throwable;"⟩, 6) := ⟨⟨by decide +kernel, by decide +kernel⟩, List.mem_of_getElem? (i := 329) (by decide +kernel), List.mem_of_getElem? (i := 327) (by decide +kernel), List.mem_of_getElem? (i := 328) (by decide +kernel)⟩
theorem lw_p5 : lw_okq (⟨"TripRounds", "needNode", "(I)V"⟩, 7) := ⟨⟨by decide +kernel, by decide +kernel⟩, List.mem_of_getElem? (i := 18) (by decide +kernel), List.mem_of_getElem? (i := 367) (by decide +kernel), List.mem_of_getElem? (i := 368) (by decide +kernel)⟩
theorem lw_p6 : lw_okq (⟨"TripRounds", "needStreet", "(I)V"⟩, 7) := ⟨⟨by decide +kernel, by decide +kernel⟩, List.mem_of_getElem? (i := 18) (by decide +kernel), List.mem_of_getElem? (i := 418) (by decide +kernel), List.mem_of_getElem? (i := 419) (by decide +kernel)⟩
theorem lw_p7 : lw_okq (⟨"TripRounds", "needZone", "(I)V"⟩, 7) := ⟨⟨by decide +kernel, by decide +kernel⟩, List.mem_of_getElem? (i := 18) (by decide +kernel), List.mem_of_getElem? (i := 437) (by decide +kernel), List.mem_of_getElem? (i := 438) (by decide +kernel)⟩
theorem lw_p8 : lw_okq (⟨"TripRounds$Table", "shareAllPeople", "(LTripRounds$Zones;)V"⟩, 4) := ⟨⟨by decide +kernel, by decide +kernel⟩, List.mem_of_getElem? (i := 53) (by decide +kernel), List.mem_of_getElem? (i := 460) (by decide +kernel), List.mem_of_getElem? (i := 461) (by decide +kernel)⟩
theorem lw_p9 : lw_okq (⟨"TripRounds$Sharing", "giveOne", "(I)V"⟩, 3) := ⟨⟨by decide +kernel, by decide +kernel⟩, List.mem_of_getElem? (i := 59) (by decide +kernel), List.mem_of_getElem? (i := 470) (by decide +kernel), List.mem_of_getElem? (i := 471) (by decide +kernel)⟩
theorem lw_p10 : lw_okq (⟨"TripRounds$Table", "isMet", "(LTripRounds$Zones;I)Z"⟩, 4) := ⟨⟨by decide +kernel, by decide +kernel⟩, List.mem_of_getElem? (i := 53) (by decide +kernel), List.mem_of_getElem? (i := 475) (by decide +kernel), List.mem_of_getElem? (i := 476) (by decide +kernel)⟩
theorem lw_p11 : lw_okq (⟨"TripRounds$Table", "changeFactors", "(LTripRounds$Zones;)V"⟩, 4) := ⟨⟨by decide +kernel, by decide +kernel⟩, List.mem_of_getElem? (i := 53) (by decide +kernel), List.mem_of_getElem? (i := 486) (by decide +kernel), List.mem_of_getElem? (i := 487) (by decide +kernel)⟩
theorem lw_p12 : lw_okq (⟨"TripRounds", "assignAll", "(I)V"⟩, 7) := ⟨⟨by decide +kernel, by decide +kernel⟩, List.mem_of_getElem? (i := 18) (by decide +kernel), List.mem_of_getElem? (i := 548) (by decide +kernel), List.mem_of_getElem? (i := 549) (by decide +kernel)⟩
theorem lw_p13 : lw_okq (⟨"TripRounds", "gatherDrivers", "()V"⟩, 7) := ⟨⟨by decide +kernel, by decide +kernel⟩, List.mem_of_getElem? (i := 18) (by decide +kernel), List.mem_of_getElem? (i := 558) (by decide +kernel), List.mem_of_getElem? (i := 559) (by decide +kernel)⟩
theorem lw_p14 : lw_okq (⟨"TripRounds", "assignPart", "(I)V"⟩, 7) := ⟨⟨by decide +kernel, by decide +kernel⟩, List.mem_of_getElem? (i := 18) (by decide +kernel), List.mem_of_getElem? (i := 562) (by decide +kernel), List.mem_of_getElem? (i := 563) (by decide +kernel)⟩
theorem lw_p15 : lw_okq (⟨"TripRounds", "scaleUsersOf", "(I)V"⟩, 7) := ⟨⟨by decide +kernel, by decide +kernel⟩, List.mem_of_getElem? (i := 18) (by decide +kernel), List.mem_of_getElem? (i := 633) (by decide +kernel), List.mem_of_getElem? (i := 634) (by decide +kernel)⟩
def lw_privs_1 : List (MethodName × Nat) := [(⟨"TripRounds$Ways", "lowerCosts", "(LTripRounds$Streets;)Z"⟩, 3), (⟨"TripRounds$Ways", "costBy", "(ILTripRounds$Streets;)J"⟩, 3), (⟨"TripRounds$Ways", "chooseNexts", "(LTripRounds$Streets;)V"⟩, 3), (⟨"TripRounds", "leastTimeTo", "(I)J"⟩, 7), (⟨"java/lang/Throwable", "fillInStackTrace", "(I)Ljava/lang/Throwable;"⟩, 6), (⟨"TripRounds", "needNode", "(I)V"⟩, 7), (⟨"TripRounds", "needStreet", "(I)V"⟩, 7), (⟨"TripRounds", "needZone", "(I)V"⟩, 7), (⟨"TripRounds$Table", "shareAllPeople", "(LTripRounds$Zones;)V"⟩, 4), (⟨"TripRounds$Sharing", "giveOne", "(I)V"⟩, 3), (⟨"TripRounds$Table", "isMet", "(LTripRounds$Zones;I)Z"⟩, 4), (⟨"TripRounds$Table", "changeFactors", "(LTripRounds$Zones;)V"⟩, 4), (⟨"TripRounds", "assignAll", "(I)V"⟩, 7), (⟨"TripRounds", "gatherDrivers", "()V"⟩, 7), (⟨"TripRounds", "assignPart", "(I)V"⟩, 7), (⟨"TripRounds", "scaleUsersOf", "(I)V"⟩, 7)]
theorem lw_r1 : ∀ q ∈ lw_privs_1, lw_okq q := List.forall_mem_cons.mpr ⟨lw_p0, List.forall_mem_cons.mpr ⟨lw_p1, List.forall_mem_cons.mpr ⟨lw_p2, List.forall_mem_cons.mpr ⟨lw_p3, List.forall_mem_cons.mpr ⟨lw_p4, List.forall_mem_cons.mpr ⟨lw_p5, List.forall_mem_cons.mpr ⟨lw_p6, List.forall_mem_cons.mpr ⟨lw_p7, List.forall_mem_cons.mpr ⟨lw_p8, List.forall_mem_cons.mpr ⟨lw_p9, List.forall_mem_cons.mpr ⟨lw_p10, List.forall_mem_cons.mpr ⟨lw_p11, List.forall_mem_cons.mpr ⟨lw_p12, List.forall_mem_cons.mpr ⟨lw_p13, List.forall_mem_cons.mpr ⟨lw_p14, List.forall_mem_cons.mpr ⟨lw_p15, fun _ h => absurd h List.not_mem_nil⟩⟩⟩⟩⟩⟩⟩⟩⟩⟩⟩⟩⟩⟩⟩⟩
theorem lw_p16 : lw_okq (⟨"TripRoundsModel", "isNode", "(I)Z"⟩, 32) := ⟨⟨by decide +kernel, by decide +kernel⟩, List.mem_of_getElem? (i := 639) (by decide +kernel), List.mem_of_getElem? (i := 754) (by decide +kernel), List.mem_of_getElem? (i := 755) (by decide +kernel)⟩
theorem lw_p17 : lw_okq (⟨"TripRoundsModel", "isStreet", "(I)Z"⟩, 32) := ⟨⟨by decide +kernel, by decide +kernel⟩, List.mem_of_getElem? (i := 639) (by decide +kernel), List.mem_of_getElem? (i := 771) (by decide +kernel), List.mem_of_getElem? (i := 772) (by decide +kernel)⟩
theorem lw_p18 : lw_okq (⟨"TripRoundsModel", "isPair", "(II)Z"⟩, 32) := ⟨⟨by decide +kernel, by decide +kernel⟩, List.mem_of_getElem? (i := 639) (by decide +kernel), List.mem_of_getElem? (i := 783) (by decide +kernel), List.mem_of_getElem? (i := 784) (by decide +kernel)⟩
theorem lw_p19 : lw_okq (⟨"TripRoundsModel", "isZone", "(I)Z"⟩, 32) := ⟨⟨by decide +kernel, by decide +kernel⟩, List.mem_of_getElem? (i := 639) (by decide +kernel), List.mem_of_getElem? (i := 787) (by decide +kernel), List.mem_of_getElem? (i := 788) (by decide +kernel)⟩
theorem lw_p20 : lw_okq (⟨"TripRoundsModel", "oneRound", "()V"⟩, 32) := ⟨⟨by decide +kernel, by decide +kernel⟩, List.mem_of_getElem? (i := 639) (by decide +kernel), List.mem_of_getElem? (i := 799) (by decide +kernel), List.mem_of_getElem? (i := 800) (by decide +kernel)⟩
theorem lw_p21 : lw_okq (⟨"TripRoundsModel", "share", "(JI)V"⟩, 32) := ⟨⟨by decide +kernel, by decide +kernel⟩, List.mem_of_getElem? (i := 639) (by decide +kernel), List.mem_of_getElem? (i := 803) (by decide +kernel), List.mem_of_getElem? (i := 804) (by decide +kernel)⟩
theorem lw_p22 : lw_okq (⟨"TripRoundsModel", "isMet", "(I)Z"⟩, 32) := ⟨⟨by decide +kernel, by decide +kernel⟩, List.mem_of_getElem? (i := 639) (by decide +kernel), List.mem_of_getElem? (i := 808) (by decide +kernel), List.mem_of_getElem? (i := 809) (by decide +kernel)⟩
theorem lw_p23 : lw_okq (⟨"TripRoundsModel", "sumTo", "(I)J"⟩, 32) := ⟨⟨by decide +kernel, by decide +kernel⟩, List.mem_of_getElem? (i := 639) (by decide +kernel), List.mem_of_getElem? (i := 812) (by decide +kernel), List.mem_of_getElem? (i := 813) (by decide +kernel)⟩
theorem lw_p24 : lw_okq (⟨"TripRoundsModel", "byMode", "(II)I"⟩, 32) := ⟨⟨by decide +kernel, by decide +kernel⟩, List.mem_of_getElem? (i := 639) (by decide +kernel), List.mem_of_getElem? (i := 837) (by decide +kernel), List.mem_of_getElem? (i := 838) (by decide +kernel)⟩
theorem lw_p25 : lw_okq (⟨"TripRoundsModel", "assignAll", "(I)V"⟩, 32) := ⟨⟨by decide +kernel, by decide +kernel⟩, List.mem_of_getElem? (i := 639) (by decide +kernel), List.mem_of_getElem? (i := 845) (by decide +kernel), List.mem_of_getElem? (i := 846) (by decide +kernel)⟩
theorem lw_p26 : lw_okq (⟨"TripRoundsModel", "takeTimes", "()V"⟩, 32) := ⟨⟨by decide +kernel, by decide +kernel⟩, List.mem_of_getElem? (i := 639) (by decide +kernel), List.mem_of_getElem? (i := 849) (by decide +kernel), List.mem_of_getElem? (i := 850) (by decide +kernel)⟩
theorem lw_p27 : lw_okq (⟨"TripRoundsModel", "timeOf", "(I)J"⟩, 32) := ⟨⟨by decide +kernel, by decide +kernel⟩, List.mem_of_getElem? (i := 639) (by decide +kernel), List.mem_of_getElem? (i := 853) (by decide +kernel), List.mem_of_getElem? (i := 854) (by decide +kernel)⟩
theorem lw_p28 : lw_okq (⟨"TripRoundsModel", "goPart", "(IIII)V"⟩, 32) := ⟨⟨by decide +kernel, by decide +kernel⟩, List.mem_of_getElem? (i := 639) (by decide +kernel), List.mem_of_getElem? (i := 857) (by decide +kernel), List.mem_of_getElem? (i := 858) (by decide +kernel)⟩
theorem lw_p29 : lw_okq (⟨"TripRoundsModel", "findWay", "(II)Z"⟩, 32) := ⟨⟨by decide +kernel, by decide +kernel⟩, List.mem_of_getElem? (i := 639) (by decide +kernel), List.mem_of_getElem? (i := 861) (by decide +kernel), List.mem_of_getElem? (i := 862) (by decide +kernel)⟩
theorem lw_p30 : lw_okq (⟨"TripRoundsModel", "findNear", "(I)V"⟩, 32) := ⟨⟨by decide +kernel, by decide +kernel⟩, List.mem_of_getElem? (i := 639) (by decide +kernel), List.mem_of_getElem? (i := 865) (by decide +kernel), List.mem_of_getElem? (i := 866) (by decide +kernel)⟩
theorem lw_p31 : lw_okq (⟨"TripRoundsModel", "worst", "()I"⟩, 32) := ⟨⟨by decide +kernel, by decide +kernel⟩, List.mem_of_getElem? (i := 639) (by decide +kernel), List.mem_of_getElem? (i := 898) (by decide +kernel), List.mem_of_getElem? (i := 899) (by decide +kernel)⟩
def lw_privs_2 : List (MethodName × Nat) := [(⟨"TripRoundsModel", "isNode", "(I)Z"⟩, 32), (⟨"TripRoundsModel", "isStreet", "(I)Z"⟩, 32), (⟨"TripRoundsModel", "isPair", "(II)Z"⟩, 32), (⟨"TripRoundsModel", "isZone", "(I)Z"⟩, 32), (⟨"TripRoundsModel", "oneRound", "()V"⟩, 32), (⟨"TripRoundsModel", "share", "(JI)V"⟩, 32), (⟨"TripRoundsModel", "isMet", "(I)Z"⟩, 32), (⟨"TripRoundsModel", "sumTo", "(I)J"⟩, 32), (⟨"TripRoundsModel", "byMode", "(II)I"⟩, 32), (⟨"TripRoundsModel", "assignAll", "(I)V"⟩, 32), (⟨"TripRoundsModel", "takeTimes", "()V"⟩, 32), (⟨"TripRoundsModel", "timeOf", "(I)J"⟩, 32), (⟨"TripRoundsModel", "goPart", "(IIII)V"⟩, 32), (⟨"TripRoundsModel", "findWay", "(II)Z"⟩, 32), (⟨"TripRoundsModel", "findNear", "(I)V"⟩, 32), (⟨"TripRoundsModel", "worst", "()I"⟩, 32)]
theorem lw_r2 : ∀ q ∈ lw_privs_2, lw_okq q := List.forall_mem_cons.mpr ⟨lw_p16, List.forall_mem_cons.mpr ⟨lw_p17, List.forall_mem_cons.mpr ⟨lw_p18, List.forall_mem_cons.mpr ⟨lw_p19, List.forall_mem_cons.mpr ⟨lw_p20, List.forall_mem_cons.mpr ⟨lw_p21, List.forall_mem_cons.mpr ⟨lw_p22, List.forall_mem_cons.mpr ⟨lw_p23, List.forall_mem_cons.mpr ⟨lw_p24, List.forall_mem_cons.mpr ⟨lw_p25, List.forall_mem_cons.mpr ⟨lw_p26, List.forall_mem_cons.mpr ⟨lw_p27, List.forall_mem_cons.mpr ⟨lw_p28, List.forall_mem_cons.mpr ⟨lw_p29, List.forall_mem_cons.mpr ⟨lw_p30, List.forall_mem_cons.mpr ⟨lw_p31, fun _ h => absurd h List.not_mem_nil⟩⟩⟩⟩⟩⟩⟩⟩⟩⟩⟩⟩⟩⟩⟩⟩
theorem lw_p32 : lw_okq (⟨"TripRoundsModel", "offOf", "(I)J"⟩, 32) := ⟨⟨by decide +kernel, by decide +kernel⟩, List.mem_of_getElem? (i := 639) (by decide +kernel), List.mem_of_getElem? (i := 902) (by decide +kernel), List.mem_of_getElem? (i := 903) (by decide +kernel)⟩
def lw_privs_3 : List (MethodName × Nat) := [(⟨"TripRoundsModel", "offOf", "(I)J"⟩, 32)]
theorem lw_r3 : ∀ q ∈ lw_privs_3, lw_okq q := List.forall_mem_cons.mpr ⟨lw_p32, fun _ h => absurd h List.not_mem_nil⟩
def lw_privs : List (MethodName × Nat) := lw_privs_1 ++ (lw_privs_2 ++ (lw_privs_3))
def lw_tbl : List Cond := k2_sels lw_privs ++ tables_1
theorem lw_privs_ok : ∀ q ∈ lw_privs, lw_okq q := by
  show ∀ q ∈ lw_privs_1 ++ (lw_privs_2 ++ (lw_privs_3)), lw_okq q
  exact List.forall_mem_append.mpr ⟨lw_r1, List.forall_mem_append.mpr ⟨lw_r2, lw_r3⟩⟩
end
section
def R_T : String := "TripRounds"
def F_T : u_T := fun k => match k with
  | 0 => ("TripRounds", "nodes", "I", false)
  | 1 => ("TripRounds", "zones", "LTripRounds$Zones;", true)
  | 2 => ("TripRounds", "table", "LTripRounds$Table;", true)
  | 3 => ("TripRounds", "modes", "LTripRounds$Modes;", true)
  | 4 => ("TripRounds", "streets", "LTripRounds$Streets;", true)
  | 5 => ("TripRounds", "ways", "LTripRounds$Ways;", true)
  | _ => ("TripRounds", "latest", "LTripRounds$Assignment;", true)
def ft_T : Nat → FieldType := fun k => match k with
  | 0 => .int
  | 1 => .object "TripRounds$Zones"
  | 2 => .object "TripRounds$Table"
  | 3 => .object "TripRounds$Modes"
  | 4 => .object "TripRounds$Streets"
  | 5 => .object "TripRounds$Ways"
  | _ => .object "TripRounds$Assignment"
theorem nm_T : ∀ a, a < 7 → ∀ b, b < 7 → a ≠ b → (F_T a).2.1 ≠ (F_T b).2.1 := by decide +kernel
theorem to_T : ∀ k, k < 7 → parseFieldDescriptor (F_T k).2.2.1 = some (ft_T k) := by decide +kernel
def R_Z : String := "TripRounds$Zones"
def F_Z : u_T := fun k => match k with
  | 0 => ("TripRounds$Zones", "many", "I", false)
  | 1 => ("TripRounds$Zones", "places", "[I", true)
  | 2 => ("TripRounds$Zones", "people", "[I", true)
  | _ => ("TripRounds$Zones", "jobs", "[I", true)
def ft_Z : Nat → FieldType := fun k => match k with
  | 0 => .int
  | 1 => .array .int
  | 2 => .array .int
  | _ => .array .int
theorem nm_Z : ∀ a, a < 4 → ∀ b, b < 4 → a ≠ b → (F_Z a).2.1 ≠ (F_Z b).2.1 := by decide +kernel
theorem to_Z : ∀ k, k < 4 → parseFieldDescriptor (F_Z k).2.2.1 = some (ft_Z k) := by decide +kernel
def R_B : String := "TripRounds$Table"
def F_B : u_T := fun k => match k with
  | 0 => ("TripRounds$Table", "weights", "[I", true)
  | 1 => ("TripRounds$Table", "cells", "[I", true)
  | 2 => ("TripRounds$Table", "factors", "[I", true)
  | _ => ("TripRounds$Table", "sharing", "LTripRounds$Sharing;", true)
def ft_B : Nat → FieldType := fun k => match k with
  | 0 => .array .int
  | 1 => .array .int
  | 2 => .array .int
  | _ => .object "TripRounds$Sharing"
theorem nm_B : ∀ a, a < 4 → ∀ b, b < 4 → a ≠ b → (F_B a).2.1 ≠ (F_B b).2.1 := by decide +kernel
theorem to_B : ∀ k, k < 4 → parseFieldDescriptor (F_B k).2.2.1 = some (ft_B k) := by decide +kernel
def R_M : String := "TripRounds$Modes"
def F_M : u_T := fun k => match k with
  | 0 => ("TripRounds$Modes", "pulls", "[I", true)
  | _ => ("TripRounds$Modes", "sharing", "LTripRounds$Sharing;", true)
def ft_M : Nat → FieldType := fun k => match k with
  | 0 => .array .int
  | _ => .object "TripRounds$Sharing"
theorem nm_M : ∀ a, a < 2 → ∀ b, b < 2 → a ≠ b → (F_M a).2.1 ≠ (F_M b).2.1 := by decide +kernel
theorem to_M : ∀ k, k < 2 → parseFieldDescriptor (F_M k).2.2.1 = some (ft_M k) := by decide +kernel
def R_S : String := "TripRounds$Streets"
def F_S : u_T := fun k => match k with
  | 0 => ("TripRounds$Streets", "many", "I", false)
  | 1 => ("TripRounds$Streets", "starts", "[I", true)
  | 2 => ("TripRounds$Streets", "ends", "[I", true)
  | 3 => ("TripRounds$Streets", "frees", "[I", true)
  | 4 => ("TripRounds$Streets", "slopes", "[I", true)
  | 5 => ("TripRounds$Streets", "rooms", "[I", true)
  | 6 => ("TripRounds$Streets", "tolls", "[I", true)
  | 7 => ("TripRounds$Streets", "isOpen", "[Z", true)
  | 8 => ("TripRounds$Streets", "counts", "[I", true)
  | _ => ("TripRounds$Streets", "volumes", "[I", true)
def ft_S : Nat → FieldType := fun k => match k with
  | 0 => .int
  | 1 => .array .int
  | 2 => .array .int
  | 3 => .array .int
  | 4 => .array .int
  | 5 => .array .int
  | 6 => .array .int
  | 7 => .array .boolean
  | 8 => .array .int
  | _ => .array .int
theorem nm_S : ∀ a, a < 10 → ∀ b, b < 10 → a ≠ b → (F_S a).2.1 ≠ (F_S b).2.1 := by decide +kernel
theorem to_S : ∀ k, k < 10 → parseFieldDescriptor (F_S k).2.2.1 = some (ft_S k) := by decide +kernel
def R_W : String := "TripRounds$Ways"
def F_W : u_T := fun k => match k with
  | 0 => ("TripRounds$Ways", "times", "[I", true)
  | 1 => ("TripRounds$Ways", "costs", "[J", true)
  | _ => ("TripRounds$Ways", "nexts", "[I", true)
def ft_W : Nat → FieldType := fun k => match k with
  | 0 => .array .int
  | 1 => .array .long
  | _ => .array .int
theorem nm_W : ∀ a, a < 3 → ∀ b, b < 3 → a ≠ b → (F_W a).2.1 ≠ (F_W b).2.1 := by decide +kernel
theorem to_W : ∀ k, k < 3 → parseFieldDescriptor (F_W k).2.2.1 = some (ft_W k) := by decide +kernel
def R_A : String := "TripRounds$Assignment"
def F_A : u_T := fun k => match k with
  | 0 => ("TripRounds$Assignment", "parts", "I", false)
  | 1 => ("TripRounds$Assignment", "lost", "I", false)
  | 2 => ("TripRounds$Assignment", "drivers", "[I", true)
  | 3 => ("TripRounds$Assignment", "went", "[I", true)
  | _ => ("TripRounds$Assignment", "used", "[I", true)
def ft_A : Nat → FieldType := fun k => match k with
  | 0 => .int
  | 1 => .int
  | 2 => .array .int
  | 3 => .array .int
  | _ => .array .int
theorem nm_A : ∀ a, a < 5 → ∀ b, b < 5 → a ≠ b → (F_A a).2.1 ≠ (F_A b).2.1 := by decide +kernel
theorem to_A : ∀ k, k < 5 → parseFieldDescriptor (F_A k).2.2.1 = some (ft_A k) := by decide +kernel
def R_H : String := "TripRounds$Sharing"
def F_H : u_T := fun k => match k with
  | 0 => ("TripRounds$Sharing", "numbers", "[J", true)
  | 1 => ("TripRounds$Sharing", "rests", "[J", true)
  | _ => ("TripRounds$Sharing", "shares", "[I", true)
def ft_H : Nat → FieldType := fun k => match k with
  | 0 => .array .long
  | 1 => .array .long
  | _ => .array .int
theorem nm_H : ∀ a, a < 3 → ∀ b, b < 3 → a ≠ b → (F_H a).2.1 ≠ (F_H b).2.1 := by decide +kernel
theorem to_H : ∀ k, k < 3 → parseFieldDescriptor (F_H k).2.2.1 = some (ft_H k) := by decide +kernel
def R_R : String := "TripRoundsModel"
def F_R : u_T := fun k => match k with
  | 0 => ("TripRoundsModel", "code", "I", false)
  | 1 => ("TripRoundsModel", "nodes", "I", false)
  | 2 => ("TripRoundsModel", "zones", "I", false)
  | 3 => ("TripRoundsModel", "streets", "I", false)
  | 4 => ("TripRoundsModel", "zoneNode", "[I", true)
  | 5 => ("TripRoundsModel", "people", "[I", true)
  | 6 => ("TripRoundsModel", "jobs", "[I", true)
  | 7 => ("TripRoundsModel", "froms", "[I", true)
  | 8 => ("TripRoundsModel", "tos", "[I", true)
  | 9 => ("TripRoundsModel", "frees", "[I", true)
  | 10 => ("TripRoundsModel", "slopes", "[I", true)
  | 11 => ("TripRoundsModel", "rooms", "[I", true)
  | 12 => ("TripRoundsModel", "tolls", "[I", true)
  | 13 => ("TripRoundsModel", "shut", "[Z", true)
  | 14 => ("TripRoundsModel", "counts", "[I", true)
  | 15 => ("TripRoundsModel", "volumes", "[J", true)
  | 16 => ("TripRoundsModel", "weights", "[I", true)
  | 17 => ("TripRoundsModel", "table", "[I", true)
  | 18 => ("TripRoundsModel", "pulls", "[I", true)
  | 19 => ("TripRoundsModel", "went", "[I", true)
  | 20 => ("TripRoundsModel", "links", "[I", true)
  | 21 => ("TripRoundsModel", "factors", "[I", true)
  | 22 => ("TripRoundsModel", "parts", "I", false)
  | 23 => ("TripRoundsModel", "lost", "I", false)
  | 24 => ("TripRoundsModel", "numbers", "[J", true)
  | 25 => ("TripRoundsModel", "rests", "[J", true)
  | 26 => ("TripRoundsModel", "gets", "[I", true)
  | 27 => ("TripRoundsModel", "times", "[J", true)
  | 28 => ("TripRoundsModel", "near", "[J", true)
  | 29 => ("TripRoundsModel", "few", "[I", true)
  | 30 => ("TripRoundsModel", "row", "[I", true)
  | _ => ("TripRoundsModel", "rowSize", "I", false)
def ft_R : Nat → FieldType := fun k => match k with
  | 0 => .int
  | 1 => .int
  | 2 => .int
  | 3 => .int
  | 4 => .array .int
  | 5 => .array .int
  | 6 => .array .int
  | 7 => .array .int
  | 8 => .array .int
  | 9 => .array .int
  | 10 => .array .int
  | 11 => .array .int
  | 12 => .array .int
  | 13 => .array .boolean
  | 14 => .array .int
  | 15 => .array .long
  | 16 => .array .int
  | 17 => .array .int
  | 18 => .array .int
  | 19 => .array .int
  | 20 => .array .int
  | 21 => .array .int
  | 22 => .int
  | 23 => .int
  | 24 => .array .long
  | 25 => .array .long
  | 26 => .array .int
  | 27 => .array .long
  | 28 => .array .long
  | 29 => .array .int
  | 30 => .array .int
  | _ => .int
theorem nm_R : ∀ a, a < 32 → ∀ b, b < 32 → a ≠ b → (F_R a).2.1 ≠ (F_R b).2.1 := by decide +kernel
theorem to_R : ∀ k, k < 32 → parseFieldDescriptor (F_R k).2.2.1 = some (ft_R k) := by decide +kernel
def R_L : String := "TripRoundsLaw"
abbrev b_T_init : ByteArray := prog_1_method_1_code
def y_T_init : MethodName := ⟨R_T, "<init>", "()V"⟩
abbrev b_T_node : ByteArray := prog_1_method_2_code
def y_T_node : MethodName := ⟨R_T, "node", "()I"⟩
abbrev b_T_zone : ByteArray := prog_1_method_3_code
def y_T_zone : MethodName := ⟨R_T, "zone", "(III)I"⟩
abbrev b_T_street : ByteArray := prog_1_method_4_code
def y_T_street : MethodName := ⟨R_T, "street", "(IIIII)I"⟩
abbrev b_T_toll : ByteArray := prog_1_method_5_code
def y_T_toll : MethodName := ⟨R_T, "toll", "(II)I"⟩
abbrev b_T_open : ByteArray := prog_1_method_6_code
def y_T_open : MethodName := ⟨R_T, "open", "(IZ)Z"⟩
abbrev b_T_weight : ByteArray := prog_1_method_7_code
def y_T_weight : MethodName := ⟨R_T, "weight", "(III)I"⟩
abbrev b_T_size : ByteArray := prog_1_method_8_code
def y_T_size : MethodName := ⟨R_T, "size", "(III)I"⟩
abbrev b_T_rounds : ByteArray := prog_1_method_9_code
def y_T_rounds : MethodName := ⟨R_T, "rounds", "(II)I"⟩
abbrev b_T_trips : ByteArray := prog_1_method_10_code
def y_T_trips : MethodName := ⟨R_T, "trips", "(II)I"⟩
abbrev b_T_sum : ByteArray := prog_1_method_11_code
def y_T_sum : MethodName := ⟨R_T, "sum", "(II)I"⟩
abbrev b_T_factor : ByteArray := prog_1_method_12_code
def y_T_factor : MethodName := ⟨R_T, "factor", "(I)I"⟩
abbrev b_T_pull : ByteArray := prog_1_method_13_code
def y_T_pull : MethodName := ⟨R_T, "pull", "(IIII)I"⟩
abbrev b_T_chosen : ByteArray := prog_1_method_14_code
def y_T_chosen : MethodName := ⟨R_T, "chosen", "(III)I"⟩
abbrev b_T_assign : ByteArray := prog_1_method_15_code
def y_T_assign : MethodName := ⟨R_T, "assign", "(I)I"⟩
abbrev b_T_flow : ByteArray := prog_1_method_16_code
def y_T_flow : MethodName := ⟨R_T, "flow", "(II)I"⟩
abbrev b_T_way : ByteArray := prog_1_method_17_code
def y_T_way : MethodName := ⟨R_T, "way", "(III)I"⟩
abbrev b_T_least : ByteArray := prog_1_method_18_code
def y_T_least : MethodName := ⟨R_T, "least", "(II)I"⟩
abbrev b_T_link : ByteArray := prog_1_method_19_code
def y_T_link : MethodName := ⟨R_T, "link", "(III)I"⟩
abbrev b_T_gap : ByteArray := prog_1_method_20_code
def y_T_gap : MethodName := ⟨R_T, "gap", "()J"⟩
abbrev b_T_count : ByteArray := prog_1_method_21_code
def y_T_count : MethodName := ⟨R_T, "count", "(II)I"⟩
abbrev b_T_fit : ByteArray := prog_1_method_22_code
def y_T_fit : MethodName := ⟨R_T, "fit", "(I)I"⟩
abbrev b_T_needNode : ByteArray := prog_1_method_23_code
def y_T_needNode : MethodName := ⟨R_T, "needNode", "(I)V"⟩
abbrev b_T_needZone : ByteArray := prog_1_method_24_code
def y_T_needZone : MethodName := ⟨R_T, "needZone", "(I)V"⟩
abbrev b_T_needStreet : ByteArray := prog_1_method_25_code
def y_T_needStreet : MethodName := ⟨R_T, "needStreet", "(I)V"⟩
abbrev b_T_needWithin : ByteArray := prog_1_method_26_code
def y_T_needWithin : MethodName := ⟨R_T, "needWithin", "(III)V"⟩
abbrev b_T_pairOf : ByteArray := prog_1_method_27_code
def y_T_pairOf : MethodName := ⟨R_T, "pairOf", "(II)I"⟩
abbrev b_T_assignAll : ByteArray := prog_1_method_28_code
def y_T_assignAll : MethodName := ⟨R_T, "assignAll", "(I)V"⟩
abbrev b_T_gatherDrivers : ByteArray := prog_1_method_29_code
def y_T_gatherDrivers : MethodName := ⟨R_T, "gatherDrivers", "()V"⟩
abbrev b_T_assignPart : ByteArray := prog_1_method_30_code
def y_T_assignPart : MethodName := ⟨R_T, "assignPart", "(I)V"⟩
abbrev b_T_leastTimeTo : ByteArray := prog_1_method_31_code
def y_T_leastTimeTo : MethodName := ⟨R_T, "leastTimeTo", "(I)J"⟩
abbrev b_T_scaleUsersOf : ByteArray := prog_1_method_32_code
def y_T_scaleUsersOf : MethodName := ⟨R_T, "scaleUsersOf", "(I)V"⟩
abbrev b_Z_init : ByteArray := prog_8_method_1_code
def y_Z_init : MethodName := ⟨R_Z, "<init>", "()V"⟩
abbrev b_Z_addZone : ByteArray := prog_8_method_2_code
def y_Z_addZone : MethodName := ⟨R_Z, "addZone", "(III)I"⟩
abbrev b_B_init : ByteArray := prog_6_method_1_code
def y_B_init : MethodName := ⟨R_B, "<init>", "()V"⟩
abbrev b_B_goRounds : ByteArray := prog_6_method_2_code
def y_B_goRounds : MethodName := ⟨R_B, "goRounds", "(LTripRounds$Zones;II)I"⟩
abbrev b_B_shareAllPeople : ByteArray := prog_6_method_3_code
def y_B_shareAllPeople : MethodName := ⟨R_B, "shareAllPeople", "(LTripRounds$Zones;)V"⟩
abbrev b_B_isMet : ByteArray := prog_6_method_4_code
def y_B_isMet : MethodName := ⟨R_B, "isMet", "(LTripRounds$Zones;I)Z"⟩
abbrev b_B_changeFactors : ByteArray := prog_6_method_5_code
def y_B_changeFactors : MethodName := ⟨R_B, "changeFactors", "(LTripRounds$Zones;)V"⟩
abbrev b_B_sumFrom : ByteArray := prog_6_method_6_code
def y_B_sumFrom : MethodName := ⟨R_B, "sumFrom", "(I)I"⟩
abbrev b_B_sumTo : ByteArray := prog_6_method_7_code
def y_B_sumTo : MethodName := ⟨R_B, "sumTo", "(I)I"⟩
abbrev b_M_init : ByteArray := prog_3_method_1_code
def y_M_init : MethodName := ⟨R_M, "<init>", "()V"⟩
abbrev b_M_placeOf : ByteArray := prog_3_method_2_code
def y_M_placeOf : MethodName := ⟨R_M, "placeOf", "(II)I"⟩
abbrev b_M_tripsBy : ByteArray := prog_3_method_3_code
def y_M_tripsBy : MethodName := ⟨R_M, "tripsBy", "(III)I"⟩
abbrev b_S_init : ByteArray := prog_5_method_1_code
def y_S_init : MethodName := ⟨R_S, "<init>", "()V"⟩
abbrev b_S_addStreet : ByteArray := prog_5_method_2_code
def y_S_addStreet : MethodName := ⟨R_S, "addStreet", "(IIIII)I"⟩
abbrev b_S_timeOf : ByteArray := prog_5_method_3_code
def y_S_timeOf : MethodName := ⟨R_S, "timeOf", "(I)I"⟩
abbrev b_S_farthestFromCount : ByteArray := prog_5_method_4_code
def y_S_farthestFromCount : MethodName := ⟨R_S, "farthestFromCount", "()I"⟩
abbrev b_W_init : ByteArray := prog_7_method_1_code
def y_W_init : MethodName := ⟨R_W, "<init>", "()V"⟩
abbrev b_W_holdTimes : ByteArray := prog_7_method_2_code
def y_W_holdTimes : MethodName := ⟨R_W, "holdTimes", "(LTripRounds$Streets;)V"⟩
abbrev b_W_aimAt : ByteArray := prog_7_method_3_code
def y_W_aimAt : MethodName := ⟨R_W, "aimAt", "(ILTripRounds$Streets;)V"⟩
abbrev b_W_lowerCosts : ByteArray := prog_7_method_4_code
def y_W_lowerCosts : MethodName := ⟨R_W, "lowerCosts", "(LTripRounds$Streets;)Z"⟩
abbrev b_W_chooseNexts : ByteArray := prog_7_method_5_code
def y_W_chooseNexts : MethodName := ⟨R_W, "chooseNexts", "(LTripRounds$Streets;)V"⟩
abbrev b_W_costBy : ByteArray := prog_7_method_6_code
def y_W_costBy : MethodName := ⟨R_W, "costBy", "(ILTripRounds$Streets;)J"⟩
abbrev b_W_timeFrom : ByteArray := prog_7_method_7_code
def y_W_timeFrom : MethodName := ⟨R_W, "timeFrom", "(I)I"⟩
abbrev b_W_streetAt : ByteArray := prog_7_method_8_code
def y_W_streetAt : MethodName := ⟨R_W, "streetAt", "(IILTripRounds$Streets;)I"⟩
abbrev b_A_init : ByteArray := prog_2_method_1_code
def y_A_init : MethodName := ⟨R_A, "<init>", "()V"⟩
abbrev b_A_placeOf : ByteArray := prog_2_method_2_code
def y_A_placeOf : MethodName := ⟨R_A, "placeOf", "(II)I"⟩
abbrev b_A_begin : ByteArray := prog_2_method_3_code
def y_A_begin : MethodName := ⟨R_A, "begin", "(I)V"⟩
abbrev b_A_tripsOfPart : ByteArray := prog_2_method_4_code
def y_A_tripsOfPart : MethodName := ⟨R_A, "tripsOfPart", "(II)I"⟩
abbrev b_A_send : ByteArray := prog_2_method_5_code
def y_A_send : MethodName := ⟨R_A, "send", "(IIILTripRounds$Ways;LTripRounds$Streets;)V"⟩
abbrev b_H_init : ByteArray := prog_4_method_1_code
def y_H_init : MethodName := ⟨R_H, "<init>", "(I)V"⟩
abbrev b_H_shareOut : ByteArray := prog_4_method_2_code
def y_H_shareOut : MethodName := ⟨R_H, "shareOut", "(II)V"⟩
abbrev b_H_giveOne : ByteArray := prog_4_method_3_code
def y_H_giveOne : MethodName := ⟨R_H, "giveOne", "(I)V"⟩
abbrev b_R_init : ByteArray := prog_10_method_1_code
def y_R_init : MethodName := ⟨R_R, "<init>", "()V"⟩
abbrev b_R_thrown : ByteArray := prog_10_method_2_code
def y_R_thrown : MethodName := ⟨R_R, "thrown", "()I"⟩
abbrev b_R_isIn : ByteArray := prog_10_method_3_code
def y_R_isIn : MethodName := ⟨R_R, "isIn", "(III)Z"⟩
abbrev b_R_isNode : ByteArray := prog_10_method_4_code
def y_R_isNode : MethodName := ⟨R_R, "isNode", "(I)Z"⟩
abbrev b_R_isZone : ByteArray := prog_10_method_5_code
def y_R_isZone : MethodName := ⟨R_R, "isZone", "(I)Z"⟩
abbrev b_R_isPair : ByteArray := prog_10_method_6_code
def y_R_isPair : MethodName := ⟨R_R, "isPair", "(II)Z"⟩
abbrev b_R_isStreet : ByteArray := prog_10_method_7_code
def y_R_isStreet : MethodName := ⟨R_R, "isStreet", "(I)Z"⟩
abbrev b_R_node : ByteArray := prog_10_method_8_code
def y_R_node : MethodName := ⟨R_R, "node", "()I"⟩
abbrev b_R_zone : ByteArray := prog_10_method_9_code
def y_R_zone : MethodName := ⟨R_R, "zone", "(III)I"⟩
abbrev b_R_street : ByteArray := prog_10_method_10_code
def y_R_street : MethodName := ⟨R_R, "street", "(IIIII)I"⟩
abbrev b_R_toll : ByteArray := prog_10_method_11_code
def y_R_toll : MethodName := ⟨R_R, "toll", "(II)I"⟩
abbrev b_R_open : ByteArray := prog_10_method_12_code
def y_R_open : MethodName := ⟨R_R, "open", "(IZ)Z"⟩
abbrev b_R_weight : ByteArray := prog_10_method_13_code
def y_R_weight : MethodName := ⟨R_R, "weight", "(III)I"⟩
abbrev b_R_size : ByteArray := prog_10_method_14_code
def y_R_size : MethodName := ⟨R_R, "size", "(III)I"⟩
abbrev b_R_share : ByteArray := prog_10_method_15_code
def y_R_share : MethodName := ⟨R_R, "share", "(JI)V"⟩
abbrev b_R_sumTo : ByteArray := prog_10_method_16_code
def y_R_sumTo : MethodName := ⟨R_R, "sumTo", "(I)J"⟩
abbrev b_R_oneRound : ByteArray := prog_10_method_17_code
def y_R_oneRound : MethodName := ⟨R_R, "oneRound", "()V"⟩
abbrev b_R_isMet : ByteArray := prog_10_method_18_code
def y_R_isMet : MethodName := ⟨R_R, "isMet", "(I)Z"⟩
abbrev b_R_rounds : ByteArray := prog_10_method_19_code
def y_R_rounds : MethodName := ⟨R_R, "rounds", "(II)I"⟩
abbrev b_R_trips : ByteArray := prog_10_method_20_code
def y_R_trips : MethodName := ⟨R_R, "trips", "(II)I"⟩
abbrev b_R_sum : ByteArray := prog_10_method_21_code
def y_R_sum : MethodName := ⟨R_R, "sum", "(II)I"⟩
abbrev b_R_factor : ByteArray := prog_10_method_22_code
def y_R_factor : MethodName := ⟨R_R, "factor", "(I)I"⟩
abbrev b_R_pull : ByteArray := prog_10_method_23_code
def y_R_pull : MethodName := ⟨R_R, "pull", "(IIII)I"⟩
abbrev b_R_byMode : ByteArray := prog_10_method_24_code
def y_R_byMode : MethodName := ⟨R_R, "byMode", "(II)I"⟩
abbrev b_R_chosen : ByteArray := prog_10_method_25_code
def y_R_chosen : MethodName := ⟨R_R, "chosen", "(III)I"⟩
abbrev b_R_timeOf : ByteArray := prog_10_method_26_code
def y_R_timeOf : MethodName := ⟨R_R, "timeOf", "(I)J"⟩
abbrev b_R_takeTimes : ByteArray := prog_10_method_27_code
def y_R_takeTimes : MethodName := ⟨R_R, "takeTimes", "()V"⟩
abbrev b_R_findNear : ByteArray := prog_10_method_28_code
def y_R_findNear : MethodName := ⟨R_R, "findNear", "(I)V"⟩
abbrev b_R_findWay : ByteArray := prog_10_method_29_code
def y_R_findWay : MethodName := ⟨R_R, "findWay", "(II)Z"⟩
abbrev b_R_assignAll : ByteArray := prog_10_method_30_code
def y_R_assignAll : MethodName := ⟨R_R, "assignAll", "(I)V"⟩
abbrev b_R_goPart : ByteArray := prog_10_method_31_code
def y_R_goPart : MethodName := ⟨R_R, "goPart", "(IIII)V"⟩
abbrev b_R_assign : ByteArray := prog_10_method_32_code
def y_R_assign : MethodName := ⟨R_R, "assign", "(I)I"⟩
abbrev b_R_flow : ByteArray := prog_10_method_33_code
def y_R_flow : MethodName := ⟨R_R, "flow", "(II)I"⟩
abbrev b_R_way : ByteArray := prog_10_method_34_code
def y_R_way : MethodName := ⟨R_R, "way", "(III)I"⟩
abbrev b_R_least : ByteArray := prog_10_method_35_code
def y_R_least : MethodName := ⟨R_R, "least", "(II)I"⟩
abbrev b_R_link : ByteArray := prog_10_method_36_code
def y_R_link : MethodName := ⟨R_R, "link", "(III)I"⟩
abbrev b_R_gap : ByteArray := prog_10_method_37_code
def y_R_gap : MethodName := ⟨R_R, "gap", "()J"⟩
abbrev b_R_count : ByteArray := prog_10_method_38_code
def y_R_count : MethodName := ⟨R_R, "count", "(II)I"⟩
abbrev b_R_offOf : ByteArray := prog_10_method_39_code
def y_R_offOf : MethodName := ⟨R_R, "offOf", "(I)J"⟩
abbrev b_R_worst : ByteArray := prog_10_method_40_code
def y_R_worst : MethodName := ⟨R_R, "worst", "()I"⟩
abbrev b_R_fit : ByteArray := prog_10_method_41_code
def y_R_fit : MethodName := ⟨R_R, "fit", "(I)I"⟩
abbrev b_L_node : ByteArray := method_3_code
def y_L_node : MethodName := ⟨R_L, "node", "(LTripRounds;[J)I"⟩
abbrev b_L_zone : ByteArray := method_4_code
def y_L_zone : MethodName := ⟨R_L, "zone", "(LTripRounds;III[J)I"⟩
abbrev b_L_street : ByteArray := method_5_code
def y_L_street : MethodName := ⟨R_L, "street", "(LTripRounds;IIIII[J)I"⟩
abbrev b_L_toll : ByteArray := method_6_code
def y_L_toll : MethodName := ⟨R_L, "toll", "(LTripRounds;II[J)I"⟩
abbrev b_L_open : ByteArray := method_7_code
def y_L_open : MethodName := ⟨R_L, "open", "(LTripRounds;IZ[J)I"⟩
abbrev b_L_weight : ByteArray := method_8_code
def y_L_weight : MethodName := ⟨R_L, "weight", "(LTripRounds;III[J)I"⟩
abbrev b_L_size : ByteArray := method_9_code
def y_L_size : MethodName := ⟨R_L, "size", "(LTripRounds;III[J)I"⟩
abbrev b_L_rounds : ByteArray := method_10_code
def y_L_rounds : MethodName := ⟨R_L, "rounds", "(LTripRounds;II[J)I"⟩
abbrev b_L_trips : ByteArray := method_11_code
def y_L_trips : MethodName := ⟨R_L, "trips", "(LTripRounds;II[J)I"⟩
abbrev b_L_sum : ByteArray := method_12_code
def y_L_sum : MethodName := ⟨R_L, "sum", "(LTripRounds;II[J)I"⟩
abbrev b_L_factor : ByteArray := method_13_code
def y_L_factor : MethodName := ⟨R_L, "factor", "(LTripRounds;I[J)I"⟩
abbrev b_L_pull : ByteArray := method_14_code
def y_L_pull : MethodName := ⟨R_L, "pull", "(LTripRounds;IIII[J)I"⟩
abbrev b_L_chosen : ByteArray := method_15_code
def y_L_chosen : MethodName := ⟨R_L, "chosen", "(LTripRounds;III[J)I"⟩
abbrev b_L_assign : ByteArray := method_16_code
def y_L_assign : MethodName := ⟨R_L, "assign", "(LTripRounds;I[J)I"⟩
abbrev b_L_flow : ByteArray := method_17_code
def y_L_flow : MethodName := ⟨R_L, "flow", "(LTripRounds;II[J)I"⟩
abbrev b_L_way : ByteArray := method_18_code
def y_L_way : MethodName := ⟨R_L, "way", "(LTripRounds;III[J)I"⟩
abbrev b_L_least : ByteArray := method_19_code
def y_L_least : MethodName := ⟨R_L, "least", "(LTripRounds;II[J)I"⟩
abbrev b_L_link : ByteArray := method_20_code
def y_L_link : MethodName := ⟨R_L, "link", "(LTripRounds;III[J)I"⟩
abbrev b_L_count : ByteArray := method_21_code
def y_L_count : MethodName := ⟨R_L, "count", "(LTripRounds;II[J)I"⟩
abbrev b_L_fit : ByteArray := method_22_code
def y_L_fit : MethodName := ⟨R_L, "fit", "(LTripRounds;I[J)I"⟩
abbrev clS : List vw_C := [(R_T, F_T, 7), (R_Z, F_Z, 4), (R_B, F_B, 4), (R_M, F_M, 2), (R_S, F_S, 10), (R_W, F_W, 3), (R_A, F_A, 5), (R_H, F_H, 3), (R_R, F_R, 32)]
end
section
theorem d_T_init_0 : decode b_T_init 0 = .ok (.aload_n 0, 1) := by decide +kernel
theorem d_T_init_1 : decode b_T_init 1 = .ok (.invokespecial 3, 3) := by decide +kernel
theorem d_T_init_4 : decode b_T_init 4 = .ok (.aload_n 0, 1) := by decide +kernel
theorem d_T_init_5 : decode b_T_init 5 = .ok (.iconst 0, 1) := by decide +kernel
theorem d_T_init_6 : decode b_T_init 6 = .ok (.putfield 9, 3) := by decide +kernel
theorem d_T_init_9 : decode b_T_init 9 = .ok (.aload_n 0, 1) := by decide +kernel
theorem d_T_init_10 : decode b_T_init 10 = .ok (.new 13, 3) := by decide +kernel
theorem d_T_init_13 : decode b_T_init 13 = .ok (.dup, 1) := by decide +kernel
theorem d_T_init_14 : decode b_T_init 14 = .ok (.invokespecial 15, 3) := by decide +kernel
theorem d_T_init_17 : decode b_T_init 17 = .ok (.putfield 16, 3) := by decide +kernel
theorem d_T_init_20 : decode b_T_init 20 = .ok (.aload_n 0, 1) := by decide +kernel
theorem d_T_init_21 : decode b_T_init 21 = .ok (.new 20, 3) := by decide +kernel
theorem d_T_init_24 : decode b_T_init 24 = .ok (.dup, 1) := by decide +kernel
theorem d_T_init_25 : decode b_T_init 25 = .ok (.invokespecial 22, 3) := by decide +kernel
theorem d_T_init_28 : decode b_T_init 28 = .ok (.putfield 23, 3) := by decide +kernel
theorem d_T_init_31 : decode b_T_init 31 = .ok (.aload_n 0, 1) := by decide +kernel
theorem d_T_init_32 : decode b_T_init 32 = .ok (.new 27, 3) := by decide +kernel
theorem d_T_init_35 : decode b_T_init 35 = .ok (.dup, 1) := by decide +kernel
theorem d_T_init_36 : decode b_T_init 36 = .ok (.invokespecial 29, 3) := by decide +kernel
theorem d_T_init_39 : decode b_T_init 39 = .ok (.putfield 30, 3) := by decide +kernel
theorem d_T_init_42 : decode b_T_init 42 = .ok (.aload_n 0, 1) := by decide +kernel
theorem d_T_init_43 : decode b_T_init 43 = .ok (.new 34, 3) := by decide +kernel
theorem d_T_init_46 : decode b_T_init 46 = .ok (.dup, 1) := by decide +kernel
theorem d_T_init_47 : decode b_T_init 47 = .ok (.invokespecial 36, 3) := by decide +kernel
theorem d_T_init_50 : decode b_T_init 50 = .ok (.putfield 37, 3) := by decide +kernel
theorem d_T_init_53 : decode b_T_init 53 = .ok (.aload_n 0, 1) := by decide +kernel
theorem d_T_init_54 : decode b_T_init 54 = .ok (.new 41, 3) := by decide +kernel
theorem d_T_init_57 : decode b_T_init 57 = .ok (.dup, 1) := by decide +kernel
theorem d_T_init_58 : decode b_T_init 58 = .ok (.invokespecial 43, 3) := by decide +kernel
theorem d_T_init_61 : decode b_T_init 61 = .ok (.putfield 44, 3) := by decide +kernel
theorem d_T_init_64 : decode b_T_init 64 = .ok (.aload_n 0, 1) := by decide +kernel
theorem d_T_init_65 : decode b_T_init 65 = .ok (.new 48, 3) := by decide +kernel
theorem d_T_init_68 : decode b_T_init 68 = .ok (.dup, 1) := by decide +kernel
theorem d_T_init_69 : decode b_T_init 69 = .ok (.invokespecial 50, 3) := by decide +kernel
theorem d_T_init_72 : decode b_T_init 72 = .ok (.putfield 51, 3) := by decide +kernel
theorem d_T_init_75 : decode b_T_init 75 = .ok (.return_, 1) := by decide +kernel
theorem d_T_node_0 : decode b_T_node 0 = .ok (.aload_n 0, 1) := by decide +kernel
theorem d_T_node_1 : decode b_T_node 1 = .ok (.getfield 9, 3) := by decide +kernel
theorem d_T_node_4 : decode b_T_node 4 = .ok (.bipush 12, 2) := by decide +kernel
theorem d_T_node_6 : decode b_T_node 6 = .ok (.if_icmp .lt 13, 3) := by decide +kernel
theorem d_T_node_9 : decode b_T_node 9 = .ok (.new 55, 3) := by decide +kernel
theorem d_T_node_12 : decode b_T_node 12 = .ok (.dup, 1) := by decide +kernel
theorem d_T_node_13 : decode b_T_node 13 = .ok (.ldc 57, 2) := by decide +kernel
theorem d_T_node_15 : decode b_T_node 15 = .ok (.invokespecial 59, 3) := by decide +kernel
theorem d_T_node_18 : decode b_T_node 18 = .ok (.athrow, 1) := by decide +kernel
theorem d_T_node_19 : decode b_T_node 19 = .ok (.aload_n 0, 1) := by decide +kernel
theorem d_T_node_20 : decode b_T_node 20 = .ok (.dup, 1) := by decide +kernel
theorem d_T_node_21 : decode b_T_node 21 = .ok (.getfield 9, 3) := by decide +kernel
theorem d_T_node_24 : decode b_T_node 24 = .ok (.dup_x1, 1) := by decide +kernel
theorem d_T_node_25 : decode b_T_node 25 = .ok (.iconst 1, 1) := by decide +kernel
theorem d_T_node_26 : decode b_T_node 26 = .ok (.iadd, 1) := by decide +kernel
theorem d_T_node_27 : decode b_T_node 27 = .ok (.putfield 9, 3) := by decide +kernel
theorem d_T_node_30 : decode b_T_node 30 = .ok (.ireturn, 1) := by decide +kernel
theorem d_T_zone_0 : decode b_T_zone 0 = .ok (.aload_n 0, 1) := by decide +kernel
theorem d_T_zone_1 : decode b_T_zone 1 = .ok (.iload_n 1, 1) := by decide +kernel
theorem d_T_zone_2 : decode b_T_zone 2 = .ok (.invokevirtual 62, 3) := by decide +kernel
theorem d_T_zone_5 : decode b_T_zone 5 = .ok (.iload_n 2, 1) := by decide +kernel
theorem d_T_zone_6 : decode b_T_zone 6 = .ok (.iconst 0, 1) := by decide +kernel
theorem d_T_zone_7 : decode b_T_zone 7 = .ok (.ldc 66, 2) := by decide +kernel
theorem d_T_zone_9 : decode b_T_zone 9 = .ok (.invokestatic 67, 3) := by decide +kernel
theorem d_T_zone_12 : decode b_T_zone 12 = .ok (.iload_n 3, 1) := by decide +kernel
theorem d_T_zone_13 : decode b_T_zone 13 = .ok (.iconst 0, 1) := by decide +kernel
theorem d_T_zone_14 : decode b_T_zone 14 = .ok (.ldc 66, 2) := by decide +kernel
theorem d_T_zone_16 : decode b_T_zone 16 = .ok (.invokestatic 67, 3) := by decide +kernel
theorem d_T_zone_19 : decode b_T_zone 19 = .ok (.aload_n 0, 1) := by decide +kernel
theorem d_T_zone_20 : decode b_T_zone 20 = .ok (.getfield 16, 3) := by decide +kernel
theorem d_T_zone_23 : decode b_T_zone 23 = .ok (.getfield 71, 3) := by decide +kernel
theorem d_T_zone_26 : decode b_T_zone 26 = .ok (.bipush 6, 2) := by decide +kernel
theorem d_T_zone_28 : decode b_T_zone 28 = .ok (.if_icmp .lt 13, 3) := by decide +kernel
theorem d_T_zone_31 : decode b_T_zone 31 = .ok (.new 55, 3) := by decide +kernel
theorem d_T_zone_34 : decode b_T_zone 34 = .ok (.dup, 1) := by decide +kernel
theorem d_T_zone_35 : decode b_T_zone 35 = .ok (.ldc 74, 2) := by decide +kernel
theorem d_T_zone_37 : decode b_T_zone 37 = .ok (.invokespecial 59, 3) := by decide +kernel
theorem d_T_zone_40 : decode b_T_zone 40 = .ok (.athrow, 1) := by decide +kernel
theorem d_T_zone_41 : decode b_T_zone 41 = .ok (.aload_n 0, 1) := by decide +kernel
theorem d_T_zone_42 : decode b_T_zone 42 = .ok (.getfield 16, 3) := by decide +kernel
theorem d_T_zone_45 : decode b_T_zone 45 = .ok (.iload_n 1, 1) := by decide +kernel
theorem d_T_zone_46 : decode b_T_zone 46 = .ok (.iload_n 2, 1) := by decide +kernel
theorem d_T_zone_47 : decode b_T_zone 47 = .ok (.iload_n 3, 1) := by decide +kernel
theorem d_T_zone_48 : decode b_T_zone 48 = .ok (.invokevirtual 76, 3) := by decide +kernel
theorem d_T_zone_51 : decode b_T_zone 51 = .ok (.ireturn, 1) := by decide +kernel
theorem d_T_street_0 : decode b_T_street 0 = .ok (.aload_n 0, 1) := by decide +kernel
theorem d_T_street_1 : decode b_T_street 1 = .ok (.iload_n 1, 1) := by decide +kernel
theorem d_T_street_2 : decode b_T_street 2 = .ok (.invokevirtual 62, 3) := by decide +kernel
theorem d_T_street_5 : decode b_T_street 5 = .ok (.aload_n 0, 1) := by decide +kernel
theorem d_T_street_6 : decode b_T_street 6 = .ok (.iload_n 2, 1) := by decide +kernel
theorem d_T_street_7 : decode b_T_street 7 = .ok (.invokevirtual 62, 3) := by decide +kernel
theorem d_T_street_10 : decode b_T_street 10 = .ok (.iload_n 1, 1) := by decide +kernel
theorem d_T_street_11 : decode b_T_street 11 = .ok (.iload_n 2, 1) := by decide +kernel
theorem d_T_street_12 : decode b_T_street 12 = .ok (.if_icmp .ne 13, 3) := by decide +kernel
theorem d_T_street_15 : decode b_T_street 15 = .ok (.new 80, 3) := by decide +kernel
theorem d_T_street_18 : decode b_T_street 18 = .ok (.dup, 1) := by decide +kernel
theorem d_T_street_19 : decode b_T_street 19 = .ok (.ldc 82, 2) := by decide +kernel
theorem d_T_street_21 : decode b_T_street 21 = .ok (.invokespecial 84, 3) := by decide +kernel
theorem d_T_street_24 : decode b_T_street 24 = .ok (.athrow, 1) := by decide +kernel
theorem d_T_street_25 : decode b_T_street 25 = .ok (.iload_n 3, 1) := by decide +kernel
theorem d_T_street_26 : decode b_T_street 26 = .ok (.iconst 1, 1) := by decide +kernel
theorem d_T_street_27 : decode b_T_street 27 = .ok (.sipush 1000, 3) := by decide +kernel
theorem d_T_street_30 : decode b_T_street 30 = .ok (.invokestatic 67, 3) := by decide +kernel
theorem d_T_street_33 : decode b_T_street 33 = .ok (.iload 4, 2) := by decide +kernel
theorem d_T_street_35 : decode b_T_street 35 = .ok (.iconst 0, 1) := by decide +kernel
theorem d_T_street_36 : decode b_T_street 36 = .ok (.sipush 1000, 3) := by decide +kernel
theorem d_T_street_39 : decode b_T_street 39 = .ok (.invokestatic 67, 3) := by decide +kernel
theorem d_T_street_42 : decode b_T_street 42 = .ok (.iload 5, 2) := by decide +kernel
theorem d_T_street_44 : decode b_T_street 44 = .ok (.iconst 1, 1) := by decide +kernel
theorem d_T_street_45 : decode b_T_street 45 = .ok (.ldc 85, 2) := by decide +kernel
theorem d_T_street_47 : decode b_T_street 47 = .ok (.invokestatic 67, 3) := by decide +kernel
theorem d_T_street_50 : decode b_T_street 50 = .ok (.aload_n 0, 1) := by decide +kernel
theorem d_T_street_51 : decode b_T_street 51 = .ok (.getfield 37, 3) := by decide +kernel
theorem d_T_street_54 : decode b_T_street 54 = .ok (.getfield 86, 3) := by decide +kernel
theorem d_T_street_57 : decode b_T_street 57 = .ok (.bipush 40, 2) := by decide +kernel
theorem d_T_street_59 : decode b_T_street 59 = .ok (.if_icmp .lt 13, 3) := by decide +kernel
theorem d_T_street_62 : decode b_T_street 62 = .ok (.new 55, 3) := by decide +kernel
theorem d_T_street_65 : decode b_T_street 65 = .ok (.dup, 1) := by decide +kernel
theorem d_T_street_66 : decode b_T_street 66 = .ok (.ldc 87, 2) := by decide +kernel
theorem d_T_street_68 : decode b_T_street 68 = .ok (.invokespecial 59, 3) := by decide +kernel
theorem d_T_street_71 : decode b_T_street 71 = .ok (.athrow, 1) := by decide +kernel
theorem d_T_street_72 : decode b_T_street 72 = .ok (.aload_n 0, 1) := by decide +kernel
theorem d_T_street_73 : decode b_T_street 73 = .ok (.getfield 37, 3) := by decide +kernel
theorem d_T_street_76 : decode b_T_street 76 = .ok (.iload_n 1, 1) := by decide +kernel
theorem d_T_street_77 : decode b_T_street 77 = .ok (.iload_n 2, 1) := by decide +kernel
theorem d_T_street_78 : decode b_T_street 78 = .ok (.iload_n 3, 1) := by decide +kernel
theorem d_T_street_79 : decode b_T_street 79 = .ok (.iload 4, 2) := by decide +kernel
theorem d_T_street_81 : decode b_T_street 81 = .ok (.iload 5, 2) := by decide +kernel
theorem d_T_street_83 : decode b_T_street 83 = .ok (.invokevirtual 89, 3) := by decide +kernel
theorem d_T_street_86 : decode b_T_street 86 = .ok (.ireturn, 1) := by decide +kernel
theorem d_T_toll_0 : decode b_T_toll 0 = .ok (.aload_n 0, 1) := by decide +kernel
theorem d_T_toll_1 : decode b_T_toll 1 = .ok (.iload_n 1, 1) := by decide +kernel
theorem d_T_toll_2 : decode b_T_toll 2 = .ok (.invokevirtual 93, 3) := by decide +kernel
theorem d_T_toll_5 : decode b_T_toll 5 = .ok (.iload_n 2, 1) := by decide +kernel
theorem d_T_toll_6 : decode b_T_toll 6 = .ok (.iconst 0, 1) := by decide +kernel
theorem d_T_toll_7 : decode b_T_toll 7 = .ok (.sipush 1000, 3) := by decide +kernel
theorem d_T_toll_10 : decode b_T_toll 10 = .ok (.invokestatic 67, 3) := by decide +kernel
theorem d_T_toll_13 : decode b_T_toll 13 = .ok (.aload_n 0, 1) := by decide +kernel
theorem d_T_toll_14 : decode b_T_toll 14 = .ok (.getfield 37, 3) := by decide +kernel
theorem d_T_toll_17 : decode b_T_toll 17 = .ok (.getfield 96, 3) := by decide +kernel
theorem d_T_toll_20 : decode b_T_toll 20 = .ok (.iload_n 1, 1) := by decide +kernel
theorem d_T_toll_21 : decode b_T_toll 21 = .ok (.iaload, 1) := by decide +kernel
theorem d_T_toll_22 : decode b_T_toll 22 = .ok (.istore_n 3, 1) := by decide +kernel
theorem d_T_toll_23 : decode b_T_toll 23 = .ok (.aload_n 0, 1) := by decide +kernel
theorem d_T_toll_24 : decode b_T_toll 24 = .ok (.getfield 37, 3) := by decide +kernel
theorem d_T_toll_27 : decode b_T_toll 27 = .ok (.getfield 96, 3) := by decide +kernel
theorem d_T_toll_30 : decode b_T_toll 30 = .ok (.iload_n 1, 1) := by decide +kernel
theorem d_T_toll_31 : decode b_T_toll 31 = .ok (.iload_n 2, 1) := by decide +kernel
theorem d_T_toll_32 : decode b_T_toll 32 = .ok (.iastore, 1) := by decide +kernel
theorem d_T_toll_33 : decode b_T_toll 33 = .ok (.iload_n 3, 1) := by decide +kernel
theorem d_T_toll_34 : decode b_T_toll 34 = .ok (.ireturn, 1) := by decide +kernel
theorem d_T_open_0 : decode b_T_open 0 = .ok (.aload_n 0, 1) := by decide +kernel
theorem d_T_open_1 : decode b_T_open 1 = .ok (.iload_n 1, 1) := by decide +kernel
theorem d_T_open_2 : decode b_T_open 2 = .ok (.invokevirtual 93, 3) := by decide +kernel
theorem d_T_open_5 : decode b_T_open 5 = .ok (.aload_n 0, 1) := by decide +kernel
theorem d_T_open_6 : decode b_T_open 6 = .ok (.getfield 37, 3) := by decide +kernel
theorem d_T_open_9 : decode b_T_open 9 = .ok (.getfield 100, 3) := by decide +kernel
theorem d_T_open_12 : decode b_T_open 12 = .ok (.iload_n 1, 1) := by decide +kernel
theorem d_T_open_13 : decode b_T_open 13 = .ok (.baload, 1) := by decide +kernel
theorem d_T_open_14 : decode b_T_open 14 = .ok (.istore_n 3, 1) := by decide +kernel
theorem d_T_open_15 : decode b_T_open 15 = .ok (.aload_n 0, 1) := by decide +kernel
theorem d_T_open_16 : decode b_T_open 16 = .ok (.getfield 37, 3) := by decide +kernel
theorem d_T_open_19 : decode b_T_open 19 = .ok (.getfield 100, 3) := by decide +kernel
theorem d_T_open_22 : decode b_T_open 22 = .ok (.iload_n 1, 1) := by decide +kernel
theorem d_T_open_23 : decode b_T_open 23 = .ok (.iload_n 2, 1) := by decide +kernel
theorem d_T_open_24 : decode b_T_open 24 = .ok (.bastore, 1) := by decide +kernel
theorem d_T_open_25 : decode b_T_open 25 = .ok (.iload_n 3, 1) := by decide +kernel
theorem d_T_open_26 : decode b_T_open 26 = .ok (.ireturn, 1) := by decide +kernel
theorem d_T_weight_0 : decode b_T_weight 0 = .ok (.aload_n 0, 1) := by decide +kernel
theorem d_T_weight_1 : decode b_T_weight 1 = .ok (.iload_n 1, 1) := by decide +kernel
theorem d_T_weight_2 : decode b_T_weight 2 = .ok (.invokevirtual 104, 3) := by decide +kernel
theorem d_T_weight_5 : decode b_T_weight 5 = .ok (.aload_n 0, 1) := by decide +kernel
theorem d_T_weight_6 : decode b_T_weight 6 = .ok (.iload_n 2, 1) := by decide +kernel
theorem d_T_weight_7 : decode b_T_weight 7 = .ok (.invokevirtual 104, 3) := by decide +kernel
theorem d_T_weight_10 : decode b_T_weight 10 = .ok (.iload_n 3, 1) := by decide +kernel
theorem d_T_weight_11 : decode b_T_weight 11 = .ok (.iconst 0, 1) := by decide +kernel
theorem d_T_weight_12 : decode b_T_weight 12 = .ok (.sipush 1000, 3) := by decide +kernel
theorem d_T_weight_15 : decode b_T_weight 15 = .ok (.invokestatic 67, 3) := by decide +kernel
theorem d_T_weight_18 : decode b_T_weight 18 = .ok (.iload_n 1, 1) := by decide +kernel
theorem d_T_weight_19 : decode b_T_weight 19 = .ok (.iload_n 2, 1) := by decide +kernel
theorem d_T_weight_20 : decode b_T_weight 20 = .ok (.invokestatic 107, 3) := by decide +kernel
theorem d_T_weight_23 : decode b_T_weight 23 = .ok (.istore 4, 2) := by decide +kernel
theorem d_T_weight_25 : decode b_T_weight 25 = .ok (.aload_n 0, 1) := by decide +kernel
theorem d_T_weight_26 : decode b_T_weight 26 = .ok (.getfield 23, 3) := by decide +kernel
theorem d_T_weight_29 : decode b_T_weight 29 = .ok (.getfield 111, 3) := by decide +kernel
theorem d_T_weight_32 : decode b_T_weight 32 = .ok (.iload 4, 2) := by decide +kernel
theorem d_T_weight_34 : decode b_T_weight 34 = .ok (.iaload, 1) := by decide +kernel
theorem d_T_weight_35 : decode b_T_weight 35 = .ok (.istore 5, 2) := by decide +kernel
theorem d_T_weight_37 : decode b_T_weight 37 = .ok (.aload_n 0, 1) := by decide +kernel
theorem d_T_weight_38 : decode b_T_weight 38 = .ok (.getfield 23, 3) := by decide +kernel
theorem d_T_weight_41 : decode b_T_weight 41 = .ok (.getfield 111, 3) := by decide +kernel
theorem d_T_weight_44 : decode b_T_weight 44 = .ok (.iload 4, 2) := by decide +kernel
theorem d_T_weight_46 : decode b_T_weight 46 = .ok (.iload_n 3, 1) := by decide +kernel
theorem d_T_weight_47 : decode b_T_weight 47 = .ok (.iastore, 1) := by decide +kernel
theorem d_T_weight_48 : decode b_T_weight 48 = .ok (.iload 5, 2) := by decide +kernel
theorem d_T_weight_50 : decode b_T_weight 50 = .ok (.ireturn, 1) := by decide +kernel
theorem d_T_size_0 : decode b_T_size 0 = .ok (.aload_n 0, 1) := by decide +kernel
theorem d_T_size_1 : decode b_T_size 1 = .ok (.iload_n 1, 1) := by decide +kernel
theorem d_T_size_2 : decode b_T_size 2 = .ok (.invokevirtual 104, 3) := by decide +kernel
theorem d_T_size_5 : decode b_T_size 5 = .ok (.iload_n 2, 1) := by decide +kernel
theorem d_T_size_6 : decode b_T_size 6 = .ok (.iconst 0, 1) := by decide +kernel
theorem d_T_size_7 : decode b_T_size 7 = .ok (.iconst 1, 1) := by decide +kernel
theorem d_T_size_8 : decode b_T_size 8 = .ok (.invokestatic 67, 3) := by decide +kernel
theorem d_T_size_11 : decode b_T_size 11 = .ok (.iload_n 3, 1) := by decide +kernel
theorem d_T_size_12 : decode b_T_size 12 = .ok (.iconst 0, 1) := by decide +kernel
theorem d_T_size_13 : decode b_T_size 13 = .ok (.ldc 66, 2) := by decide +kernel
theorem d_T_size_15 : decode b_T_size 15 = .ok (.invokestatic 67, 3) := by decide +kernel
theorem d_T_size_18 : decode b_T_size 18 = .ok (.iload_n 2, 1) := by decide +kernel
theorem d_T_size_19 : decode b_T_size 19 = .ok (.ifCond .ne 13, 3) := by decide +kernel
theorem d_T_size_22 : decode b_T_size 22 = .ok (.aload_n 0, 1) := by decide +kernel
theorem d_T_size_23 : decode b_T_size 23 = .ok (.getfield 16, 3) := by decide +kernel
theorem d_T_size_26 : decode b_T_size 26 = .ok (.getfield 114, 3) := by decide +kernel
theorem d_T_size_29 : decode b_T_size 29 = .ok (.goto 10, 3) := by decide +kernel
theorem d_T_size_32 : decode b_T_size 32 = .ok (.aload_n 0, 1) := by decide +kernel
theorem d_T_size_33 : decode b_T_size 33 = .ok (.getfield 16, 3) := by decide +kernel
theorem d_T_size_36 : decode b_T_size 36 = .ok (.getfield 117, 3) := by decide +kernel
theorem d_T_size_39 : decode b_T_size 39 = .ok (.astore 4, 2) := by decide +kernel
theorem d_T_size_41 : decode b_T_size 41 = .ok (.aload 4, 2) := by decide +kernel
theorem d_T_size_43 : decode b_T_size 43 = .ok (.iload_n 1, 1) := by decide +kernel
theorem d_T_size_44 : decode b_T_size 44 = .ok (.iaload, 1) := by decide +kernel
theorem d_T_size_45 : decode b_T_size 45 = .ok (.istore 5, 2) := by decide +kernel
theorem d_T_size_47 : decode b_T_size 47 = .ok (.aload 4, 2) := by decide +kernel
theorem d_T_size_49 : decode b_T_size 49 = .ok (.iload_n 1, 1) := by decide +kernel
theorem d_T_size_50 : decode b_T_size 50 = .ok (.iload_n 3, 1) := by decide +kernel
theorem d_T_size_51 : decode b_T_size 51 = .ok (.iastore, 1) := by decide +kernel
theorem d_T_size_52 : decode b_T_size 52 = .ok (.iload 5, 2) := by decide +kernel
theorem d_T_size_54 : decode b_T_size 54 = .ok (.ireturn, 1) := by decide +kernel
theorem d_T_rounds_0 : decode b_T_rounds 0 = .ok (.iload_n 1, 1) := by decide +kernel
theorem d_T_rounds_1 : decode b_T_rounds 1 = .ok (.iconst 1, 1) := by decide +kernel
theorem d_T_rounds_2 : decode b_T_rounds 2 = .ok (.bipush 50, 2) := by decide +kernel
theorem d_T_rounds_4 : decode b_T_rounds 4 = .ok (.invokestatic 67, 3) := by decide +kernel
theorem d_T_rounds_7 : decode b_T_rounds 7 = .ok (.iload_n 2, 1) := by decide +kernel
theorem d_T_rounds_8 : decode b_T_rounds 8 = .ok (.iconst 0, 1) := by decide +kernel
theorem d_T_rounds_9 : decode b_T_rounds 9 = .ok (.ldc 66, 2) := by decide +kernel
theorem d_T_rounds_11 : decode b_T_rounds 11 = .ok (.invokestatic 67, 3) := by decide +kernel
theorem d_T_rounds_14 : decode b_T_rounds 14 = .ok (.aload_n 0, 1) := by decide +kernel
theorem d_T_rounds_15 : decode b_T_rounds 15 = .ok (.getfield 23, 3) := by decide +kernel
theorem d_T_rounds_18 : decode b_T_rounds 18 = .ok (.aload_n 0, 1) := by decide +kernel
theorem d_T_rounds_19 : decode b_T_rounds 19 = .ok (.getfield 16, 3) := by decide +kernel
theorem d_T_rounds_22 : decode b_T_rounds 22 = .ok (.iload_n 1, 1) := by decide +kernel
theorem d_T_rounds_23 : decode b_T_rounds 23 = .ok (.iload_n 2, 1) := by decide +kernel
theorem d_T_rounds_24 : decode b_T_rounds 24 = .ok (.invokevirtual 120, 3) := by decide +kernel
theorem d_T_rounds_27 : decode b_T_rounds 27 = .ok (.ireturn, 1) := by decide +kernel
theorem d_T_trips_0 : decode b_T_trips 0 = .ok (.aload_n 0, 1) := by decide +kernel
theorem d_T_trips_1 : decode b_T_trips 1 = .ok (.iload_n 1, 1) := by decide +kernel
theorem d_T_trips_2 : decode b_T_trips 2 = .ok (.invokevirtual 104, 3) := by decide +kernel
theorem d_T_trips_5 : decode b_T_trips 5 = .ok (.aload_n 0, 1) := by decide +kernel
theorem d_T_trips_6 : decode b_T_trips 6 = .ok (.iload_n 2, 1) := by decide +kernel
theorem d_T_trips_7 : decode b_T_trips 7 = .ok (.invokevirtual 104, 3) := by decide +kernel
theorem d_T_trips_10 : decode b_T_trips 10 = .ok (.aload_n 0, 1) := by decide +kernel
theorem d_T_trips_11 : decode b_T_trips 11 = .ok (.getfield 23, 3) := by decide +kernel
theorem d_T_trips_14 : decode b_T_trips 14 = .ok (.getfield 124, 3) := by decide +kernel
theorem d_T_trips_17 : decode b_T_trips 17 = .ok (.iload_n 1, 1) := by decide +kernel
theorem d_T_trips_18 : decode b_T_trips 18 = .ok (.iload_n 2, 1) := by decide +kernel
theorem d_T_trips_19 : decode b_T_trips 19 = .ok (.invokestatic 107, 3) := by decide +kernel
theorem d_T_trips_22 : decode b_T_trips 22 = .ok (.iaload, 1) := by decide +kernel
theorem d_T_trips_23 : decode b_T_trips 23 = .ok (.ireturn, 1) := by decide +kernel
theorem d_T_sum_0 : decode b_T_sum 0 = .ok (.aload_n 0, 1) := by decide +kernel
theorem d_T_sum_1 : decode b_T_sum 1 = .ok (.iload_n 1, 1) := by decide +kernel
theorem d_T_sum_2 : decode b_T_sum 2 = .ok (.invokevirtual 104, 3) := by decide +kernel
theorem d_T_sum_5 : decode b_T_sum 5 = .ok (.iload_n 2, 1) := by decide +kernel
theorem d_T_sum_6 : decode b_T_sum 6 = .ok (.iconst 0, 1) := by decide +kernel
theorem d_T_sum_7 : decode b_T_sum 7 = .ok (.iconst 1, 1) := by decide +kernel
theorem d_T_sum_8 : decode b_T_sum 8 = .ok (.invokestatic 67, 3) := by decide +kernel
theorem d_T_sum_11 : decode b_T_sum 11 = .ok (.iload_n 2, 1) := by decide +kernel
theorem d_T_sum_12 : decode b_T_sum 12 = .ok (.ifCond .ne 14, 3) := by decide +kernel
theorem d_T_sum_15 : decode b_T_sum 15 = .ok (.aload_n 0, 1) := by decide +kernel
theorem d_T_sum_16 : decode b_T_sum 16 = .ok (.getfield 23, 3) := by decide +kernel
theorem d_T_sum_19 : decode b_T_sum 19 = .ok (.iload_n 1, 1) := by decide +kernel
theorem d_T_sum_20 : decode b_T_sum 20 = .ok (.invokevirtual 127, 3) := by decide +kernel
theorem d_T_sum_23 : decode b_T_sum 23 = .ok (.goto 11, 3) := by decide +kernel
theorem d_T_sum_26 : decode b_T_sum 26 = .ok (.aload_n 0, 1) := by decide +kernel
theorem d_T_sum_27 : decode b_T_sum 27 = .ok (.getfield 23, 3) := by decide +kernel
theorem d_T_sum_30 : decode b_T_sum 30 = .ok (.iload_n 1, 1) := by decide +kernel
theorem d_T_sum_31 : decode b_T_sum 31 = .ok (.invokevirtual 131, 3) := by decide +kernel
theorem d_T_sum_34 : decode b_T_sum 34 = .ok (.ireturn, 1) := by decide +kernel
theorem d_T_factor_0 : decode b_T_factor 0 = .ok (.aload_n 0, 1) := by decide +kernel
theorem d_T_factor_1 : decode b_T_factor 1 = .ok (.iload_n 1, 1) := by decide +kernel
theorem d_T_factor_2 : decode b_T_factor 2 = .ok (.invokevirtual 104, 3) := by decide +kernel
theorem d_T_factor_5 : decode b_T_factor 5 = .ok (.aload_n 0, 1) := by decide +kernel
theorem d_T_factor_6 : decode b_T_factor 6 = .ok (.getfield 23, 3) := by decide +kernel
theorem d_T_factor_9 : decode b_T_factor 9 = .ok (.getfield 134, 3) := by decide +kernel
theorem d_T_factor_12 : decode b_T_factor 12 = .ok (.iload_n 1, 1) := by decide +kernel
theorem d_T_factor_13 : decode b_T_factor 13 = .ok (.iaload, 1) := by decide +kernel
theorem d_T_factor_14 : decode b_T_factor 14 = .ok (.ireturn, 1) := by decide +kernel
theorem d_T_pull_0 : decode b_T_pull 0 = .ok (.iload_n 1, 1) := by decide +kernel
theorem d_T_pull_1 : decode b_T_pull 1 = .ok (.iconst 0, 1) := by decide +kernel
theorem d_T_pull_2 : decode b_T_pull 2 = .ok (.iconst 2, 1) := by decide +kernel
theorem d_T_pull_3 : decode b_T_pull 3 = .ok (.invokestatic 67, 3) := by decide +kernel
theorem d_T_pull_6 : decode b_T_pull 6 = .ok (.aload_n 0, 1) := by decide +kernel
theorem d_T_pull_7 : decode b_T_pull 7 = .ok (.iload_n 2, 1) := by decide +kernel
theorem d_T_pull_8 : decode b_T_pull 8 = .ok (.invokevirtual 104, 3) := by decide +kernel
theorem d_T_pull_11 : decode b_T_pull 11 = .ok (.aload_n 0, 1) := by decide +kernel
theorem d_T_pull_12 : decode b_T_pull 12 = .ok (.iload_n 3, 1) := by decide +kernel
theorem d_T_pull_13 : decode b_T_pull 13 = .ok (.invokevirtual 104, 3) := by decide +kernel
theorem d_T_pull_16 : decode b_T_pull 16 = .ok (.iload 4, 2) := by decide +kernel
theorem d_T_pull_18 : decode b_T_pull 18 = .ok (.iconst 0, 1) := by decide +kernel
theorem d_T_pull_19 : decode b_T_pull 19 = .ok (.sipush 1000, 3) := by decide +kernel
theorem d_T_pull_22 : decode b_T_pull 22 = .ok (.invokestatic 67, 3) := by decide +kernel
theorem d_T_pull_25 : decode b_T_pull 25 = .ok (.iload_n 1, 1) := by decide +kernel
theorem d_T_pull_26 : decode b_T_pull 26 = .ok (.iload_n 2, 1) := by decide +kernel
theorem d_T_pull_27 : decode b_T_pull 27 = .ok (.iload_n 3, 1) := by decide +kernel
theorem d_T_pull_28 : decode b_T_pull 28 = .ok (.invokestatic 107, 3) := by decide +kernel
theorem d_T_pull_31 : decode b_T_pull 31 = .ok (.invokestatic 137, 3) := by decide +kernel
theorem d_T_pull_34 : decode b_T_pull 34 = .ok (.istore 5, 2) := by decide +kernel
theorem d_T_pull_36 : decode b_T_pull 36 = .ok (.aload_n 0, 1) := by decide +kernel
theorem d_T_pull_37 : decode b_T_pull 37 = .ok (.getfield 30, 3) := by decide +kernel
theorem d_T_pull_40 : decode b_T_pull 40 = .ok (.getfield 140, 3) := by decide +kernel
theorem d_T_pull_43 : decode b_T_pull 43 = .ok (.iload 5, 2) := by decide +kernel
theorem d_T_pull_45 : decode b_T_pull 45 = .ok (.iaload, 1) := by decide +kernel
theorem d_T_pull_46 : decode b_T_pull 46 = .ok (.istore 6, 2) := by decide +kernel
theorem d_T_pull_48 : decode b_T_pull 48 = .ok (.aload_n 0, 1) := by decide +kernel
theorem d_T_pull_49 : decode b_T_pull 49 = .ok (.getfield 30, 3) := by decide +kernel
theorem d_T_pull_52 : decode b_T_pull 52 = .ok (.getfield 140, 3) := by decide +kernel
theorem d_T_pull_55 : decode b_T_pull 55 = .ok (.iload 5, 2) := by decide +kernel
theorem d_T_pull_57 : decode b_T_pull 57 = .ok (.iload 4, 2) := by decide +kernel
theorem d_T_pull_59 : decode b_T_pull 59 = .ok (.iastore, 1) := by decide +kernel
theorem d_T_pull_60 : decode b_T_pull 60 = .ok (.iload 6, 2) := by decide +kernel
theorem d_T_pull_62 : decode b_T_pull 62 = .ok (.ireturn, 1) := by decide +kernel
theorem d_T_chosen_0 : decode b_T_chosen 0 = .ok (.iload_n 1, 1) := by decide +kernel
theorem d_T_chosen_1 : decode b_T_chosen 1 = .ok (.iconst 0, 1) := by decide +kernel
theorem d_T_chosen_2 : decode b_T_chosen 2 = .ok (.iconst 2, 1) := by decide +kernel
theorem d_T_chosen_3 : decode b_T_chosen 3 = .ok (.invokestatic 67, 3) := by decide +kernel
theorem d_T_chosen_6 : decode b_T_chosen 6 = .ok (.aload_n 0, 1) := by decide +kernel
theorem d_T_chosen_7 : decode b_T_chosen 7 = .ok (.iload_n 2, 1) := by decide +kernel
theorem d_T_chosen_8 : decode b_T_chosen 8 = .ok (.invokevirtual 104, 3) := by decide +kernel
theorem d_T_chosen_11 : decode b_T_chosen 11 = .ok (.aload_n 0, 1) := by decide +kernel
theorem d_T_chosen_12 : decode b_T_chosen 12 = .ok (.iload_n 3, 1) := by decide +kernel
theorem d_T_chosen_13 : decode b_T_chosen 13 = .ok (.invokevirtual 104, 3) := by decide +kernel
theorem d_T_chosen_16 : decode b_T_chosen 16 = .ok (.iload_n 2, 1) := by decide +kernel
theorem d_T_chosen_17 : decode b_T_chosen 17 = .ok (.iload_n 3, 1) := by decide +kernel
theorem d_T_chosen_18 : decode b_T_chosen 18 = .ok (.invokestatic 107, 3) := by decide +kernel
theorem d_T_chosen_21 : decode b_T_chosen 21 = .ok (.istore 4, 2) := by decide +kernel
theorem d_T_chosen_23 : decode b_T_chosen 23 = .ok (.aload_n 0, 1) := by decide +kernel
theorem d_T_chosen_24 : decode b_T_chosen 24 = .ok (.getfield 30, 3) := by decide +kernel
theorem d_T_chosen_27 : decode b_T_chosen 27 = .ok (.iload_n 1, 1) := by decide +kernel
theorem d_T_chosen_28 : decode b_T_chosen 28 = .ok (.iload 4, 2) := by decide +kernel
theorem d_T_chosen_30 : decode b_T_chosen 30 = .ok (.aload_n 0, 1) := by decide +kernel
theorem d_T_chosen_31 : decode b_T_chosen 31 = .ok (.getfield 23, 3) := by decide +kernel
theorem d_T_chosen_34 : decode b_T_chosen 34 = .ok (.getfield 124, 3) := by decide +kernel
theorem d_T_chosen_37 : decode b_T_chosen 37 = .ok (.iload 4, 2) := by decide +kernel
theorem d_T_chosen_39 : decode b_T_chosen 39 = .ok (.iaload, 1) := by decide +kernel
theorem d_T_chosen_40 : decode b_T_chosen 40 = .ok (.invokevirtual 143, 3) := by decide +kernel
theorem d_T_chosen_43 : decode b_T_chosen 43 = .ok (.ireturn, 1) := by decide +kernel
theorem d_T_assign_0 : decode b_T_assign 0 = .ok (.iload_n 1, 1) := by decide +kernel
theorem d_T_assign_1 : decode b_T_assign 1 = .ok (.iconst 1, 1) := by decide +kernel
theorem d_T_assign_2 : decode b_T_assign 2 = .ok (.bipush 8, 2) := by decide +kernel
theorem d_T_assign_4 : decode b_T_assign 4 = .ok (.invokestatic 67, 3) := by decide +kernel
theorem d_T_assign_7 : decode b_T_assign 7 = .ok (.aload_n 0, 1) := by decide +kernel
theorem d_T_assign_8 : decode b_T_assign 8 = .ok (.iload_n 1, 1) := by decide +kernel
theorem d_T_assign_9 : decode b_T_assign 9 = .ok (.invokevirtual 146, 3) := by decide +kernel
theorem d_T_assign_12 : decode b_T_assign 12 = .ok (.aload_n 0, 1) := by decide +kernel
theorem d_T_assign_13 : decode b_T_assign 13 = .ok (.getfield 51, 3) := by decide +kernel
theorem d_T_assign_16 : decode b_T_assign 16 = .ok (.getfield 149, 3) := by decide +kernel
theorem d_T_assign_19 : decode b_T_assign 19 = .ok (.ireturn, 1) := by decide +kernel
theorem d_T_flow_0 : decode b_T_flow 0 = .ok (.aload_n 0, 1) := by decide +kernel
theorem d_T_flow_1 : decode b_T_flow 1 = .ok (.iload_n 1, 1) := by decide +kernel
theorem d_T_flow_2 : decode b_T_flow 2 = .ok (.invokevirtual 93, 3) := by decide +kernel
theorem d_T_flow_5 : decode b_T_flow 5 = .ok (.iload_n 2, 1) := by decide +kernel
theorem d_T_flow_6 : decode b_T_flow 6 = .ok (.iconst 0, 1) := by decide +kernel
theorem d_T_flow_7 : decode b_T_flow 7 = .ok (.iconst 1, 1) := by decide +kernel
theorem d_T_flow_8 : decode b_T_flow 8 = .ok (.invokestatic 67, 3) := by decide +kernel
theorem d_T_flow_11 : decode b_T_flow 11 = .ok (.iload_n 2, 1) := by decide +kernel
theorem d_T_flow_12 : decode b_T_flow 12 = .ok (.ifCond .ne 15, 3) := by decide +kernel
theorem d_T_flow_15 : decode b_T_flow 15 = .ok (.aload_n 0, 1) := by decide +kernel
theorem d_T_flow_16 : decode b_T_flow 16 = .ok (.getfield 37, 3) := by decide +kernel
theorem d_T_flow_19 : decode b_T_flow 19 = .ok (.getfield 152, 3) := by decide +kernel
theorem d_T_flow_22 : decode b_T_flow 22 = .ok (.iload_n 1, 1) := by decide +kernel
theorem d_T_flow_23 : decode b_T_flow 23 = .ok (.iaload, 1) := by decide +kernel
theorem d_T_flow_24 : decode b_T_flow 24 = .ok (.goto 11, 3) := by decide +kernel
theorem d_T_flow_27 : decode b_T_flow 27 = .ok (.aload_n 0, 1) := by decide +kernel
theorem d_T_flow_28 : decode b_T_flow 28 = .ok (.getfield 37, 3) := by decide +kernel
theorem d_T_flow_31 : decode b_T_flow 31 = .ok (.iload_n 1, 1) := by decide +kernel
theorem d_T_flow_32 : decode b_T_flow 32 = .ok (.invokevirtual 155, 3) := by decide +kernel
theorem d_T_flow_35 : decode b_T_flow 35 = .ok (.ireturn, 1) := by decide +kernel
theorem d_T_way_0 : decode b_T_way 0 = .ok (.aload_n 0, 1) := by decide +kernel
theorem d_T_way_1 : decode b_T_way 1 = .ok (.iload_n 1, 1) := by decide +kernel
theorem d_T_way_2 : decode b_T_way 2 = .ok (.invokevirtual 62, 3) := by decide +kernel
theorem d_T_way_5 : decode b_T_way 5 = .ok (.aload_n 0, 1) := by decide +kernel
theorem d_T_way_6 : decode b_T_way 6 = .ok (.iload_n 2, 1) := by decide +kernel
theorem d_T_way_7 : decode b_T_way 7 = .ok (.invokevirtual 62, 3) := by decide +kernel
theorem d_T_way_10 : decode b_T_way 10 = .ok (.iload_n 3, 1) := by decide +kernel
theorem d_T_way_11 : decode b_T_way 11 = .ok (.ifCond .ge 13, 3) := by decide +kernel
theorem d_T_way_14 : decode b_T_way 14 = .ok (.new 80, 3) := by decide +kernel
theorem d_T_way_17 : decode b_T_way 17 = .ok (.dup, 1) := by decide +kernel
theorem d_T_way_18 : decode b_T_way 18 = .ok (.ldc 158, 2) := by decide +kernel
theorem d_T_way_20 : decode b_T_way 20 = .ok (.invokespecial 84, 3) := by decide +kernel
theorem d_T_way_23 : decode b_T_way 23 = .ok (.athrow, 1) := by decide +kernel
theorem d_T_way_24 : decode b_T_way 24 = .ok (.aload_n 0, 1) := by decide +kernel
theorem d_T_way_25 : decode b_T_way 25 = .ok (.getfield 44, 3) := by decide +kernel
theorem d_T_way_28 : decode b_T_way 28 = .ok (.aload_n 0, 1) := by decide +kernel
theorem d_T_way_29 : decode b_T_way 29 = .ok (.getfield 37, 3) := by decide +kernel
theorem d_T_way_32 : decode b_T_way 32 = .ok (.invokevirtual 160, 3) := by decide +kernel
theorem d_T_way_35 : decode b_T_way 35 = .ok (.aload_n 0, 1) := by decide +kernel
theorem d_T_way_36 : decode b_T_way 36 = .ok (.getfield 44, 3) := by decide +kernel
theorem d_T_way_39 : decode b_T_way 39 = .ok (.iload_n 2, 1) := by decide +kernel
theorem d_T_way_40 : decode b_T_way 40 = .ok (.aload_n 0, 1) := by decide +kernel
theorem d_T_way_41 : decode b_T_way 41 = .ok (.getfield 37, 3) := by decide +kernel
theorem d_T_way_44 : decode b_T_way 44 = .ok (.invokevirtual 164, 3) := by decide +kernel
theorem d_T_way_47 : decode b_T_way 47 = .ok (.aload_n 0, 1) := by decide +kernel
theorem d_T_way_48 : decode b_T_way 48 = .ok (.getfield 44, 3) := by decide +kernel
theorem d_T_way_51 : decode b_T_way 51 = .ok (.iload_n 3, 1) := by decide +kernel
theorem d_T_way_52 : decode b_T_way 52 = .ok (.iload_n 1, 1) := by decide +kernel
theorem d_T_way_53 : decode b_T_way 53 = .ok (.aload_n 0, 1) := by decide +kernel
theorem d_T_way_54 : decode b_T_way 54 = .ok (.getfield 37, 3) := by decide +kernel
theorem d_T_way_57 : decode b_T_way 57 = .ok (.invokevirtual 168, 3) := by decide +kernel
theorem d_T_way_60 : decode b_T_way 60 = .ok (.ireturn, 1) := by decide +kernel
theorem d_T_least_0 : decode b_T_least 0 = .ok (.aload_n 0, 1) := by decide +kernel
theorem d_T_least_1 : decode b_T_least 1 = .ok (.iload_n 1, 1) := by decide +kernel
theorem d_T_least_2 : decode b_T_least 2 = .ok (.invokevirtual 62, 3) := by decide +kernel
theorem d_T_least_5 : decode b_T_least 5 = .ok (.aload_n 0, 1) := by decide +kernel
theorem d_T_least_6 : decode b_T_least 6 = .ok (.iload_n 2, 1) := by decide +kernel
theorem d_T_least_7 : decode b_T_least 7 = .ok (.invokevirtual 62, 3) := by decide +kernel
theorem d_T_least_10 : decode b_T_least 10 = .ok (.aload_n 0, 1) := by decide +kernel
theorem d_T_least_11 : decode b_T_least 11 = .ok (.getfield 44, 3) := by decide +kernel
theorem d_T_least_14 : decode b_T_least 14 = .ok (.aload_n 0, 1) := by decide +kernel
theorem d_T_least_15 : decode b_T_least 15 = .ok (.getfield 37, 3) := by decide +kernel
theorem d_T_least_18 : decode b_T_least 18 = .ok (.invokevirtual 160, 3) := by decide +kernel
theorem d_T_least_21 : decode b_T_least 21 = .ok (.aload_n 0, 1) := by decide +kernel
theorem d_T_least_22 : decode b_T_least 22 = .ok (.getfield 44, 3) := by decide +kernel
theorem d_T_least_25 : decode b_T_least 25 = .ok (.iload_n 2, 1) := by decide +kernel
theorem d_T_least_26 : decode b_T_least 26 = .ok (.aload_n 0, 1) := by decide +kernel
theorem d_T_least_27 : decode b_T_least 27 = .ok (.getfield 37, 3) := by decide +kernel
theorem d_T_least_30 : decode b_T_least 30 = .ok (.invokevirtual 164, 3) := by decide +kernel
theorem d_T_least_33 : decode b_T_least 33 = .ok (.aload_n 0, 1) := by decide +kernel
theorem d_T_least_34 : decode b_T_least 34 = .ok (.getfield 44, 3) := by decide +kernel
theorem d_T_least_37 : decode b_T_least 37 = .ok (.iload_n 1, 1) := by decide +kernel
theorem d_T_least_38 : decode b_T_least 38 = .ok (.invokevirtual 172, 3) := by decide +kernel
theorem d_T_least_41 : decode b_T_least 41 = .ok (.ireturn, 1) := by decide +kernel
theorem d_T_link_0 : decode b_T_link 0 = .ok (.aload_n 0, 1) := by decide +kernel
theorem d_T_link_1 : decode b_T_link 1 = .ok (.iload_n 1, 1) := by decide +kernel
theorem d_T_link_2 : decode b_T_link 2 = .ok (.invokevirtual 93, 3) := by decide +kernel
theorem d_T_link_5 : decode b_T_link 5 = .ok (.aload_n 0, 1) := by decide +kernel
theorem d_T_link_6 : decode b_T_link 6 = .ok (.iload_n 2, 1) := by decide +kernel
theorem d_T_link_7 : decode b_T_link 7 = .ok (.invokevirtual 104, 3) := by decide +kernel
theorem d_T_link_10 : decode b_T_link 10 = .ok (.aload_n 0, 1) := by decide +kernel
theorem d_T_link_11 : decode b_T_link 11 = .ok (.iload_n 3, 1) := by decide +kernel
theorem d_T_link_12 : decode b_T_link 12 = .ok (.invokevirtual 104, 3) := by decide +kernel
theorem d_T_link_15 : decode b_T_link 15 = .ok (.aload_n 0, 1) := by decide +kernel
theorem d_T_link_16 : decode b_T_link 16 = .ok (.getfield 51, 3) := by decide +kernel
theorem d_T_link_19 : decode b_T_link 19 = .ok (.getfield 175, 3) := by decide +kernel
theorem d_T_link_22 : decode b_T_link 22 = .ok (.iload_n 1, 1) := by decide +kernel
theorem d_T_link_23 : decode b_T_link 23 = .ok (.iload_n 2, 1) := by decide +kernel
theorem d_T_link_24 : decode b_T_link 24 = .ok (.iload_n 3, 1) := by decide +kernel
theorem d_T_link_25 : decode b_T_link 25 = .ok (.invokestatic 107, 3) := by decide +kernel
theorem d_T_link_28 : decode b_T_link 28 = .ok (.invokestatic 178, 3) := by decide +kernel
theorem d_T_link_31 : decode b_T_link 31 = .ok (.iaload, 1) := by decide +kernel
theorem d_T_link_32 : decode b_T_link 32 = .ok (.ireturn, 1) := by decide +kernel
theorem d_T_gap_0 : decode b_T_gap 0 = .ok (.aload_n 0, 1) := by decide +kernel
theorem d_T_gap_1 : decode b_T_gap 1 = .ok (.getfield 44, 3) := by decide +kernel
theorem d_T_gap_4 : decode b_T_gap 4 = .ok (.aload_n 0, 1) := by decide +kernel
theorem d_T_gap_5 : decode b_T_gap 5 = .ok (.getfield 37, 3) := by decide +kernel
theorem d_T_gap_8 : decode b_T_gap 8 = .ok (.invokevirtual 160, 3) := by decide +kernel
theorem d_T_gap_11 : decode b_T_gap 11 = .ok (.lconst 0, 1) := by decide +kernel
theorem d_T_gap_12 : decode b_T_gap 12 = .ok (.lstore_n 1, 1) := by decide +kernel
theorem d_T_gap_13 : decode b_T_gap 13 = .ok (.iconst 0, 1) := by decide +kernel
theorem d_T_gap_14 : decode b_T_gap 14 = .ok (.istore_n 3, 1) := by decide +kernel
theorem d_T_gap_15 : decode b_T_gap 15 = .ok (.iload_n 3, 1) := by decide +kernel
theorem d_T_gap_16 : decode b_T_gap 16 = .ok (.aload_n 0, 1) := by decide +kernel
theorem d_T_gap_17 : decode b_T_gap 17 = .ok (.getfield 37, 3) := by decide +kernel
theorem d_T_gap_20 : decode b_T_gap 20 = .ok (.getfield 86, 3) := by decide +kernel
theorem d_T_gap_23 : decode b_T_gap 23 = .ok (.if_icmp .ge 33, 3) := by decide +kernel
theorem d_T_gap_26 : decode b_T_gap 26 = .ok (.lload_n 1, 1) := by decide +kernel
theorem d_T_gap_27 : decode b_T_gap 27 = .ok (.aload_n 0, 1) := by decide +kernel
theorem d_T_gap_28 : decode b_T_gap 28 = .ok (.getfield 37, 3) := by decide +kernel
theorem d_T_gap_31 : decode b_T_gap 31 = .ok (.getfield 152, 3) := by decide +kernel
theorem d_T_gap_34 : decode b_T_gap 34 = .ok (.iload_n 3, 1) := by decide +kernel
theorem d_T_gap_35 : decode b_T_gap 35 = .ok (.iaload, 1) := by decide +kernel
theorem d_T_gap_36 : decode b_T_gap 36 = .ok (.i2l, 1) := by decide +kernel
theorem d_T_gap_37 : decode b_T_gap 37 = .ok (.aload_n 0, 1) := by decide +kernel
theorem d_T_gap_38 : decode b_T_gap 38 = .ok (.getfield 44, 3) := by decide +kernel
theorem d_T_gap_41 : decode b_T_gap 41 = .ok (.getfield 179, 3) := by decide +kernel
theorem d_T_gap_44 : decode b_T_gap 44 = .ok (.iload_n 3, 1) := by decide +kernel
theorem d_T_gap_45 : decode b_T_gap 45 = .ok (.iaload, 1) := by decide +kernel
theorem d_T_gap_46 : decode b_T_gap 46 = .ok (.i2l, 1) := by decide +kernel
theorem d_T_gap_47 : decode b_T_gap 47 = .ok (.lmul, 1) := by decide +kernel
theorem d_T_gap_48 : decode b_T_gap 48 = .ok (.ladd, 1) := by decide +kernel
theorem d_T_gap_49 : decode b_T_gap 49 = .ok (.lstore_n 1, 1) := by decide +kernel
theorem d_T_gap_50 : decode b_T_gap 50 = .ok (.iinc 3 1, 3) := by decide +kernel
theorem d_T_gap_53 : decode b_T_gap 53 = .ok (.goto (-38), 3) := by decide +kernel
theorem d_T_gap_56 : decode b_T_gap 56 = .ok (.iconst 0, 1) := by decide +kernel
theorem d_T_gap_57 : decode b_T_gap 57 = .ok (.istore_n 3, 1) := by decide +kernel
theorem d_T_gap_58 : decode b_T_gap 58 = .ok (.iload_n 3, 1) := by decide +kernel
theorem d_T_gap_59 : decode b_T_gap 59 = .ok (.aload_n 0, 1) := by decide +kernel
theorem d_T_gap_60 : decode b_T_gap 60 = .ok (.getfield 16, 3) := by decide +kernel
theorem d_T_gap_63 : decode b_T_gap 63 = .ok (.getfield 71, 3) := by decide +kernel
theorem d_T_gap_66 : decode b_T_gap 66 = .ok (.if_icmp .ge 37, 3) := by decide +kernel
theorem d_T_gap_69 : decode b_T_gap 69 = .ok (.aload_n 0, 1) := by decide +kernel
theorem d_T_gap_70 : decode b_T_gap 70 = .ok (.getfield 44, 3) := by decide +kernel
theorem d_T_gap_73 : decode b_T_gap 73 = .ok (.aload_n 0, 1) := by decide +kernel
theorem d_T_gap_74 : decode b_T_gap 74 = .ok (.getfield 16, 3) := by decide +kernel
theorem d_T_gap_77 : decode b_T_gap 77 = .ok (.getfield 182, 3) := by decide +kernel
theorem d_T_gap_80 : decode b_T_gap 80 = .ok (.iload_n 3, 1) := by decide +kernel
theorem d_T_gap_81 : decode b_T_gap 81 = .ok (.iaload, 1) := by decide +kernel
theorem d_T_gap_82 : decode b_T_gap 82 = .ok (.aload_n 0, 1) := by decide +kernel
theorem d_T_gap_83 : decode b_T_gap 83 = .ok (.getfield 37, 3) := by decide +kernel
theorem d_T_gap_86 : decode b_T_gap 86 = .ok (.invokevirtual 164, 3) := by decide +kernel
theorem d_T_gap_89 : decode b_T_gap 89 = .ok (.lload_n 1, 1) := by decide +kernel
theorem d_T_gap_90 : decode b_T_gap 90 = .ok (.aload_n 0, 1) := by decide +kernel
theorem d_T_gap_91 : decode b_T_gap 91 = .ok (.iload_n 3, 1) := by decide +kernel
theorem d_T_gap_92 : decode b_T_gap 92 = .ok (.invokevirtual 185, 3) := by decide +kernel
theorem d_T_gap_95 : decode b_T_gap 95 = .ok (.lsub, 1) := by decide +kernel
theorem d_T_gap_96 : decode b_T_gap 96 = .ok (.lstore_n 1, 1) := by decide +kernel
theorem d_T_gap_97 : decode b_T_gap 97 = .ok (.iinc 3 1, 3) := by decide +kernel
theorem d_T_gap_100 : decode b_T_gap 100 = .ok (.goto (-42), 3) := by decide +kernel
theorem d_T_gap_103 : decode b_T_gap 103 = .ok (.lload_n 1, 1) := by decide +kernel
theorem d_T_gap_104 : decode b_T_gap 104 = .ok (.lreturn, 1) := by decide +kernel
theorem d_T_count_0 : decode b_T_count 0 = .ok (.aload_n 0, 1) := by decide +kernel
theorem d_T_count_1 : decode b_T_count 1 = .ok (.iload_n 1, 1) := by decide +kernel
theorem d_T_count_2 : decode b_T_count 2 = .ok (.invokevirtual 93, 3) := by decide +kernel
theorem d_T_count_5 : decode b_T_count 5 = .ok (.iload_n 2, 1) := by decide +kernel
theorem d_T_count_6 : decode b_T_count 6 = .ok (.iconst (-1), 1) := by decide +kernel
theorem d_T_count_7 : decode b_T_count 7 = .ok (.ldc 85, 2) := by decide +kernel
theorem d_T_count_9 : decode b_T_count 9 = .ok (.invokestatic 67, 3) := by decide +kernel
theorem d_T_count_12 : decode b_T_count 12 = .ok (.aload_n 0, 1) := by decide +kernel
theorem d_T_count_13 : decode b_T_count 13 = .ok (.getfield 37, 3) := by decide +kernel
theorem d_T_count_16 : decode b_T_count 16 = .ok (.getfield 189, 3) := by decide +kernel
theorem d_T_count_19 : decode b_T_count 19 = .ok (.iload_n 1, 1) := by decide +kernel
theorem d_T_count_20 : decode b_T_count 20 = .ok (.iaload, 1) := by decide +kernel
theorem d_T_count_21 : decode b_T_count 21 = .ok (.istore_n 3, 1) := by decide +kernel
theorem d_T_count_22 : decode b_T_count 22 = .ok (.aload_n 0, 1) := by decide +kernel
theorem d_T_count_23 : decode b_T_count 23 = .ok (.getfield 37, 3) := by decide +kernel
theorem d_T_count_26 : decode b_T_count 26 = .ok (.getfield 189, 3) := by decide +kernel
theorem d_T_count_29 : decode b_T_count 29 = .ok (.iload_n 1, 1) := by decide +kernel
theorem d_T_count_30 : decode b_T_count 30 = .ok (.iload_n 2, 1) := by decide +kernel
theorem d_T_count_31 : decode b_T_count 31 = .ok (.iastore, 1) := by decide +kernel
theorem d_T_count_32 : decode b_T_count 32 = .ok (.iload_n 3, 1) := by decide +kernel
theorem d_T_count_33 : decode b_T_count 33 = .ok (.ireturn, 1) := by decide +kernel
theorem d_T_fit_0 : decode b_T_fit 0 = .ok (.iload_n 1, 1) := by decide +kernel
theorem d_T_fit_1 : decode b_T_fit 1 = .ok (.iconst 1, 1) := by decide +kernel
theorem d_T_fit_2 : decode b_T_fit 2 = .ok (.bipush 20, 2) := by decide +kernel
theorem d_T_fit_4 : decode b_T_fit 4 = .ok (.invokestatic 67, 3) := by decide +kernel
theorem d_T_fit_7 : decode b_T_fit 7 = .ok (.aload_n 0, 1) := by decide +kernel
theorem d_T_fit_8 : decode b_T_fit 8 = .ok (.getfield 51, 3) := by decide +kernel
theorem d_T_fit_11 : decode b_T_fit 11 = .ok (.getfield 192, 3) := by decide +kernel
theorem d_T_fit_14 : decode b_T_fit 14 = .ok (.ifCond .ne 13, 3) := by decide +kernel
theorem d_T_fit_17 : decode b_T_fit 17 = .ok (.new 55, 3) := by decide +kernel
theorem d_T_fit_20 : decode b_T_fit 20 = .ok (.dup, 1) := by decide +kernel
theorem d_T_fit_21 : decode b_T_fit 21 = .ok (.ldc 195, 2) := by decide +kernel
theorem d_T_fit_23 : decode b_T_fit 23 = .ok (.invokespecial 59, 3) := by decide +kernel
theorem d_T_fit_26 : decode b_T_fit 26 = .ok (.athrow, 1) := by decide +kernel
theorem d_T_fit_27 : decode b_T_fit 27 = .ok (.iconst 0, 1) := by decide +kernel
theorem d_T_fit_28 : decode b_T_fit 28 = .ok (.istore_n 2, 1) := by decide +kernel
theorem d_T_fit_29 : decode b_T_fit 29 = .ok (.iload_n 2, 1) := by decide +kernel
theorem d_T_fit_30 : decode b_T_fit 30 = .ok (.iload_n 1, 1) := by decide +kernel
theorem d_T_fit_31 : decode b_T_fit 31 = .ok (.if_icmp .ge 52, 3) := by decide +kernel
theorem d_T_fit_34 : decode b_T_fit 34 = .ok (.aload_n 0, 1) := by decide +kernel
theorem d_T_fit_35 : decode b_T_fit 35 = .ok (.getfield 37, 3) := by decide +kernel
theorem d_T_fit_38 : decode b_T_fit 38 = .ok (.invokevirtual 197, 3) := by decide +kernel
theorem d_T_fit_41 : decode b_T_fit 41 = .ok (.istore_n 3, 1) := by decide +kernel
theorem d_T_fit_42 : decode b_T_fit 42 = .ok (.iload_n 3, 1) := by decide +kernel
theorem d_T_fit_43 : decode b_T_fit 43 = .ok (.iconst (-1), 1) := by decide +kernel
theorem d_T_fit_44 : decode b_T_fit 44 = .ok (.if_icmp .eq 15, 3) := by decide +kernel
theorem d_T_fit_47 : decode b_T_fit 47 = .ok (.aload_n 0, 1) := by decide +kernel
theorem d_T_fit_48 : decode b_T_fit 48 = .ok (.getfield 37, 3) := by decide +kernel
theorem d_T_fit_51 : decode b_T_fit 51 = .ok (.getfield 152, 3) := by decide +kernel
theorem d_T_fit_54 : decode b_T_fit 54 = .ok (.iload_n 3, 1) := by decide +kernel
theorem d_T_fit_55 : decode b_T_fit 55 = .ok (.iaload, 1) := by decide +kernel
theorem d_T_fit_56 : decode b_T_fit 56 = .ok (.ifCond .ne 5, 3) := by decide +kernel
theorem d_T_fit_59 : decode b_T_fit 59 = .ok (.iload_n 2, 1) := by decide +kernel
theorem d_T_fit_60 : decode b_T_fit 60 = .ok (.ireturn, 1) := by decide +kernel
theorem d_T_fit_61 : decode b_T_fit 61 = .ok (.aload_n 0, 1) := by decide +kernel
theorem d_T_fit_62 : decode b_T_fit 62 = .ok (.iload_n 3, 1) := by decide +kernel
theorem d_T_fit_63 : decode b_T_fit 63 = .ok (.invokevirtual 201, 3) := by decide +kernel
theorem d_T_fit_66 : decode b_T_fit 66 = .ok (.aload_n 0, 1) := by decide +kernel
theorem d_T_fit_67 : decode b_T_fit 67 = .ok (.aload_n 0, 1) := by decide +kernel
theorem d_T_fit_68 : decode b_T_fit 68 = .ok (.getfield 51, 3) := by decide +kernel
theorem d_T_fit_71 : decode b_T_fit 71 = .ok (.getfield 192, 3) := by decide +kernel
theorem d_T_fit_74 : decode b_T_fit 74 = .ok (.invokevirtual 146, 3) := by decide +kernel
theorem d_T_fit_77 : decode b_T_fit 77 = .ok (.iinc 2 1, 3) := by decide +kernel
theorem d_T_fit_80 : decode b_T_fit 80 = .ok (.goto (-51), 3) := by decide +kernel
theorem d_T_fit_83 : decode b_T_fit 83 = .ok (.iload_n 1, 1) := by decide +kernel
theorem d_T_fit_84 : decode b_T_fit 84 = .ok (.ireturn, 1) := by decide +kernel
theorem d_T_needNode_0 : decode b_T_needNode 0 = .ok (.iload_n 1, 1) := by decide +kernel
theorem d_T_needNode_1 : decode b_T_needNode 1 = .ok (.ifCond .lt 11, 3) := by decide +kernel
theorem d_T_needNode_4 : decode b_T_needNode 4 = .ok (.iload_n 1, 1) := by decide +kernel
theorem d_T_needNode_5 : decode b_T_needNode 5 = .ok (.aload_n 0, 1) := by decide +kernel
theorem d_T_needNode_6 : decode b_T_needNode 6 = .ok (.getfield 9, 3) := by decide +kernel
theorem d_T_needNode_9 : decode b_T_needNode 9 = .ok (.if_icmp .lt 13, 3) := by decide +kernel
theorem d_T_needNode_12 : decode b_T_needNode 12 = .ok (.new 80, 3) := by decide +kernel
theorem d_T_needNode_15 : decode b_T_needNode 15 = .ok (.dup, 1) := by decide +kernel
theorem d_T_needNode_16 : decode b_T_needNode 16 = .ok (.ldc 204, 2) := by decide +kernel
theorem d_T_needNode_18 : decode b_T_needNode 18 = .ok (.invokespecial 84, 3) := by decide +kernel
theorem d_T_needNode_21 : decode b_T_needNode 21 = .ok (.athrow, 1) := by decide +kernel
theorem d_T_needNode_22 : decode b_T_needNode 22 = .ok (.return_, 1) := by decide +kernel
theorem d_T_needZone_0 : decode b_T_needZone 0 = .ok (.iload_n 1, 1) := by decide +kernel
theorem d_T_needZone_1 : decode b_T_needZone 1 = .ok (.ifCond .lt 14, 3) := by decide +kernel
theorem d_T_needZone_4 : decode b_T_needZone 4 = .ok (.iload_n 1, 1) := by decide +kernel
theorem d_T_needZone_5 : decode b_T_needZone 5 = .ok (.aload_n 0, 1) := by decide +kernel
theorem d_T_needZone_6 : decode b_T_needZone 6 = .ok (.getfield 16, 3) := by decide +kernel
theorem d_T_needZone_9 : decode b_T_needZone 9 = .ok (.getfield 71, 3) := by decide +kernel
theorem d_T_needZone_12 : decode b_T_needZone 12 = .ok (.if_icmp .lt 13, 3) := by decide +kernel
theorem d_T_needZone_15 : decode b_T_needZone 15 = .ok (.new 80, 3) := by decide +kernel
theorem d_T_needZone_18 : decode b_T_needZone 18 = .ok (.dup, 1) := by decide +kernel
theorem d_T_needZone_19 : decode b_T_needZone 19 = .ok (.ldc 206, 2) := by decide +kernel
theorem d_T_needZone_21 : decode b_T_needZone 21 = .ok (.invokespecial 84, 3) := by decide +kernel
theorem d_T_needZone_24 : decode b_T_needZone 24 = .ok (.athrow, 1) := by decide +kernel
theorem d_T_needZone_25 : decode b_T_needZone 25 = .ok (.return_, 1) := by decide +kernel
theorem d_T_needStreet_0 : decode b_T_needStreet 0 = .ok (.iload_n 1, 1) := by decide +kernel
theorem d_T_needStreet_1 : decode b_T_needStreet 1 = .ok (.ifCond .lt 14, 3) := by decide +kernel
theorem d_T_needStreet_4 : decode b_T_needStreet 4 = .ok (.iload_n 1, 1) := by decide +kernel
theorem d_T_needStreet_5 : decode b_T_needStreet 5 = .ok (.aload_n 0, 1) := by decide +kernel
theorem d_T_needStreet_6 : decode b_T_needStreet 6 = .ok (.getfield 37, 3) := by decide +kernel
theorem d_T_needStreet_9 : decode b_T_needStreet 9 = .ok (.getfield 86, 3) := by decide +kernel
theorem d_T_needStreet_12 : decode b_T_needStreet 12 = .ok (.if_icmp .lt 13, 3) := by decide +kernel
theorem d_T_needStreet_15 : decode b_T_needStreet 15 = .ok (.new 80, 3) := by decide +kernel
theorem d_T_needStreet_18 : decode b_T_needStreet 18 = .ok (.dup, 1) := by decide +kernel
theorem d_T_needStreet_19 : decode b_T_needStreet 19 = .ok (.ldc 208, 2) := by decide +kernel
theorem d_T_needStreet_21 : decode b_T_needStreet 21 = .ok (.invokespecial 84, 3) := by decide +kernel
theorem d_T_needStreet_24 : decode b_T_needStreet 24 = .ok (.athrow, 1) := by decide +kernel
theorem d_T_needStreet_25 : decode b_T_needStreet 25 = .ok (.return_, 1) := by decide +kernel
theorem d_T_needWithin_0 : decode b_T_needWithin 0 = .ok (.iload_n 0, 1) := by decide +kernel
theorem d_T_needWithin_1 : decode b_T_needWithin 1 = .ok (.iload_n 1, 1) := by decide +kernel
theorem d_T_needWithin_2 : decode b_T_needWithin 2 = .ok (.if_icmp .lt 8, 3) := by decide +kernel
theorem d_T_needWithin_5 : decode b_T_needWithin 5 = .ok (.iload_n 0, 1) := by decide +kernel
theorem d_T_needWithin_6 : decode b_T_needWithin 6 = .ok (.iload_n 2, 1) := by decide +kernel
theorem d_T_needWithin_7 : decode b_T_needWithin 7 = .ok (.if_icmp .le 13, 3) := by decide +kernel
theorem d_T_needWithin_10 : decode b_T_needWithin 10 = .ok (.new 80, 3) := by decide +kernel
theorem d_T_needWithin_13 : decode b_T_needWithin 13 = .ok (.dup, 1) := by decide +kernel
theorem d_T_needWithin_14 : decode b_T_needWithin 14 = .ok (.ldc 210, 2) := by decide +kernel
theorem d_T_needWithin_16 : decode b_T_needWithin 16 = .ok (.invokespecial 84, 3) := by decide +kernel
theorem d_T_needWithin_19 : decode b_T_needWithin 19 = .ok (.athrow, 1) := by decide +kernel
theorem d_T_needWithin_20 : decode b_T_needWithin 20 = .ok (.return_, 1) := by decide +kernel
theorem d_T_pairOf_0 : decode b_T_pairOf 0 = .ok (.iload_n 0, 1) := by decide +kernel
theorem d_T_pairOf_1 : decode b_T_pairOf 1 = .ok (.bipush 6, 2) := by decide +kernel
theorem d_T_pairOf_3 : decode b_T_pairOf 3 = .ok (.imul, 1) := by decide +kernel
theorem d_T_pairOf_4 : decode b_T_pairOf 4 = .ok (.iload_n 1, 1) := by decide +kernel
theorem d_T_pairOf_5 : decode b_T_pairOf 5 = .ok (.iadd, 1) := by decide +kernel
theorem d_T_pairOf_6 : decode b_T_pairOf 6 = .ok (.ireturn, 1) := by decide +kernel
theorem d_T_assignAll_0 : decode b_T_assignAll 0 = .ok (.aload_n 0, 1) := by decide +kernel
theorem d_T_assignAll_1 : decode b_T_assignAll 1 = .ok (.getfield 51, 3) := by decide +kernel
theorem d_T_assignAll_4 : decode b_T_assignAll 4 = .ok (.iload_n 1, 1) := by decide +kernel
theorem d_T_assignAll_5 : decode b_T_assignAll 5 = .ok (.invokevirtual 212, 3) := by decide +kernel
theorem d_T_assignAll_8 : decode b_T_assignAll 8 = .ok (.aload_n 0, 1) := by decide +kernel
theorem d_T_assignAll_9 : decode b_T_assignAll 9 = .ok (.getfield 37, 3) := by decide +kernel
theorem d_T_assignAll_12 : decode b_T_assignAll 12 = .ok (.getfield 152, 3) := by decide +kernel
theorem d_T_assignAll_15 : decode b_T_assignAll 15 = .ok (.iconst 0, 1) := by decide +kernel
theorem d_T_assignAll_16 : decode b_T_assignAll 16 = .ok (.invokestatic 215, 3) := by decide +kernel
theorem d_T_assignAll_19 : decode b_T_assignAll 19 = .ok (.aload_n 0, 1) := by decide +kernel
theorem d_T_assignAll_20 : decode b_T_assignAll 20 = .ok (.invokevirtual 221, 3) := by decide +kernel
theorem d_T_assignAll_23 : decode b_T_assignAll 23 = .ok (.iconst 0, 1) := by decide +kernel
theorem d_T_assignAll_24 : decode b_T_assignAll 24 = .ok (.istore_n 2, 1) := by decide +kernel
theorem d_T_assignAll_25 : decode b_T_assignAll 25 = .ok (.iload_n 2, 1) := by decide +kernel
theorem d_T_assignAll_26 : decode b_T_assignAll 26 = .ok (.iload_n 1, 1) := by decide +kernel
theorem d_T_assignAll_27 : decode b_T_assignAll 27 = .ok (.if_icmp .ge 14, 3) := by decide +kernel
theorem d_T_assignAll_30 : decode b_T_assignAll 30 = .ok (.aload_n 0, 1) := by decide +kernel
theorem d_T_assignAll_31 : decode b_T_assignAll 31 = .ok (.iload_n 2, 1) := by decide +kernel
theorem d_T_assignAll_32 : decode b_T_assignAll 32 = .ok (.invokevirtual 224, 3) := by decide +kernel
theorem d_T_assignAll_35 : decode b_T_assignAll 35 = .ok (.iinc 2 1, 3) := by decide +kernel
theorem d_T_assignAll_38 : decode b_T_assignAll 38 = .ok (.goto (-13), 3) := by decide +kernel
theorem d_T_assignAll_41 : decode b_T_assignAll 41 = .ok (.return_, 1) := by decide +kernel
theorem d_T_gatherDrivers_0 : decode b_T_gatherDrivers 0 = .ok (.iconst 0, 1) := by decide +kernel
theorem d_T_gatherDrivers_1 : decode b_T_gatherDrivers 1 = .ok (.istore_n 1, 1) := by decide +kernel
theorem d_T_gatherDrivers_2 : decode b_T_gatherDrivers 2 = .ok (.iload_n 1, 1) := by decide +kernel
theorem d_T_gatherDrivers_3 : decode b_T_gatherDrivers 3 = .ok (.aload_n 0, 1) := by decide +kernel
theorem d_T_gatherDrivers_4 : decode b_T_gatherDrivers 4 = .ok (.getfield 16, 3) := by decide +kernel
theorem d_T_gatherDrivers_7 : decode b_T_gatherDrivers 7 = .ok (.getfield 71, 3) := by decide +kernel
theorem d_T_gatherDrivers_10 : decode b_T_gatherDrivers 10 = .ok (.if_icmp .ge 70, 3) := by decide +kernel
theorem d_T_gatherDrivers_13 : decode b_T_gatherDrivers 13 = .ok (.iconst 0, 1) := by decide +kernel
theorem d_T_gatherDrivers_14 : decode b_T_gatherDrivers 14 = .ok (.istore_n 2, 1) := by decide +kernel
theorem d_T_gatherDrivers_15 : decode b_T_gatherDrivers 15 = .ok (.iload_n 2, 1) := by decide +kernel
theorem d_T_gatherDrivers_16 : decode b_T_gatherDrivers 16 = .ok (.aload_n 0, 1) := by decide +kernel
theorem d_T_gatherDrivers_17 : decode b_T_gatherDrivers 17 = .ok (.getfield 16, 3) := by decide +kernel
theorem d_T_gatherDrivers_20 : decode b_T_gatherDrivers 20 = .ok (.getfield 71, 3) := by decide +kernel
theorem d_T_gatherDrivers_23 : decode b_T_gatherDrivers 23 = .ok (.if_icmp .ge 51, 3) := by decide +kernel
theorem d_T_gatherDrivers_26 : decode b_T_gatherDrivers 26 = .ok (.iload_n 1, 1) := by decide +kernel
theorem d_T_gatherDrivers_27 : decode b_T_gatherDrivers 27 = .ok (.iload_n 2, 1) := by decide +kernel
theorem d_T_gatherDrivers_28 : decode b_T_gatherDrivers 28 = .ok (.invokestatic 107, 3) := by decide +kernel
theorem d_T_gatherDrivers_31 : decode b_T_gatherDrivers 31 = .ok (.istore_n 3, 1) := by decide +kernel
theorem d_T_gatherDrivers_32 : decode b_T_gatherDrivers 32 = .ok (.aload_n 0, 1) := by decide +kernel
theorem d_T_gatherDrivers_33 : decode b_T_gatherDrivers 33 = .ok (.getfield 51, 3) := by decide +kernel
theorem d_T_gatherDrivers_36 : decode b_T_gatherDrivers 36 = .ok (.getfield 227, 3) := by decide +kernel
theorem d_T_gatherDrivers_39 : decode b_T_gatherDrivers 39 = .ok (.iload_n 3, 1) := by decide +kernel
theorem d_T_gatherDrivers_40 : decode b_T_gatherDrivers 40 = .ok (.iload_n 1, 1) := by decide +kernel
theorem d_T_gatherDrivers_41 : decode b_T_gatherDrivers 41 = .ok (.iload_n 2, 1) := by decide +kernel
theorem d_T_gatherDrivers_42 : decode b_T_gatherDrivers 42 = .ok (.if_icmp .ne 7, 3) := by decide +kernel
theorem d_T_gatherDrivers_45 : decode b_T_gatherDrivers 45 = .ok (.iconst 0, 1) := by decide +kernel
theorem d_T_gatherDrivers_46 : decode b_T_gatherDrivers 46 = .ok (.goto 21, 3) := by decide +kernel
theorem d_T_gatherDrivers_49 : decode b_T_gatherDrivers 49 = .ok (.aload_n 0, 1) := by decide +kernel
theorem d_T_gatherDrivers_50 : decode b_T_gatherDrivers 50 = .ok (.getfield 30, 3) := by decide +kernel
theorem d_T_gatherDrivers_53 : decode b_T_gatherDrivers 53 = .ok (.iconst 0, 1) := by decide +kernel
theorem d_T_gatherDrivers_54 : decode b_T_gatherDrivers 54 = .ok (.iload_n 3, 1) := by decide +kernel
theorem d_T_gatherDrivers_55 : decode b_T_gatherDrivers 55 = .ok (.aload_n 0, 1) := by decide +kernel
theorem d_T_gatherDrivers_56 : decode b_T_gatherDrivers 56 = .ok (.getfield 23, 3) := by decide +kernel
theorem d_T_gatherDrivers_59 : decode b_T_gatherDrivers 59 = .ok (.getfield 124, 3) := by decide +kernel
theorem d_T_gatherDrivers_62 : decode b_T_gatherDrivers 62 = .ok (.iload_n 3, 1) := by decide +kernel
theorem d_T_gatherDrivers_63 : decode b_T_gatherDrivers 63 = .ok (.iaload, 1) := by decide +kernel
theorem d_T_gatherDrivers_64 : decode b_T_gatherDrivers 64 = .ok (.invokevirtual 143, 3) := by decide +kernel
theorem d_T_gatherDrivers_67 : decode b_T_gatherDrivers 67 = .ok (.iastore, 1) := by decide +kernel
theorem d_T_gatherDrivers_68 : decode b_T_gatherDrivers 68 = .ok (.iinc 2 1, 3) := by decide +kernel
theorem d_T_gatherDrivers_71 : decode b_T_gatherDrivers 71 = .ok (.goto (-56), 3) := by decide +kernel
theorem d_T_gatherDrivers_74 : decode b_T_gatherDrivers 74 = .ok (.iinc 1 1, 3) := by decide +kernel
theorem d_T_gatherDrivers_77 : decode b_T_gatherDrivers 77 = .ok (.goto (-75), 3) := by decide +kernel
theorem d_T_gatherDrivers_80 : decode b_T_gatherDrivers 80 = .ok (.return_, 1) := by decide +kernel
theorem d_T_assignPart_0 : decode b_T_assignPart 0 = .ok (.aload_n 0, 1) := by decide +kernel
theorem d_T_assignPart_1 : decode b_T_assignPart 1 = .ok (.getfield 44, 3) := by decide +kernel
theorem d_T_assignPart_4 : decode b_T_assignPart 4 = .ok (.aload_n 0, 1) := by decide +kernel
theorem d_T_assignPart_5 : decode b_T_assignPart 5 = .ok (.getfield 37, 3) := by decide +kernel
theorem d_T_assignPart_8 : decode b_T_assignPart 8 = .ok (.invokevirtual 160, 3) := by decide +kernel
theorem d_T_assignPart_11 : decode b_T_assignPart 11 = .ok (.iconst 0, 1) := by decide +kernel
theorem d_T_assignPart_12 : decode b_T_assignPart 12 = .ok (.istore_n 2, 1) := by decide +kernel
theorem d_T_assignPart_13 : decode b_T_assignPart 13 = .ok (.iload_n 2, 1) := by decide +kernel
theorem d_T_assignPart_14 : decode b_T_assignPart 14 = .ok (.aload_n 0, 1) := by decide +kernel
theorem d_T_assignPart_15 : decode b_T_assignPart 15 = .ok (.getfield 16, 3) := by decide +kernel
theorem d_T_assignPart_18 : decode b_T_assignPart 18 = .ok (.getfield 71, 3) := by decide +kernel
theorem d_T_assignPart_21 : decode b_T_assignPart 21 = .ok (.if_icmp .ge 91, 3) := by decide +kernel
theorem d_T_assignPart_24 : decode b_T_assignPart 24 = .ok (.aload_n 0, 1) := by decide +kernel
theorem d_T_assignPart_25 : decode b_T_assignPart 25 = .ok (.getfield 44, 3) := by decide +kernel
theorem d_T_assignPart_28 : decode b_T_assignPart 28 = .ok (.aload_n 0, 1) := by decide +kernel
theorem d_T_assignPart_29 : decode b_T_assignPart 29 = .ok (.getfield 16, 3) := by decide +kernel
theorem d_T_assignPart_32 : decode b_T_assignPart 32 = .ok (.getfield 182, 3) := by decide +kernel
theorem d_T_assignPart_35 : decode b_T_assignPart 35 = .ok (.iload_n 2, 1) := by decide +kernel
theorem d_T_assignPart_36 : decode b_T_assignPart 36 = .ok (.iaload, 1) := by decide +kernel
theorem d_T_assignPart_37 : decode b_T_assignPart 37 = .ok (.aload_n 0, 1) := by decide +kernel
theorem d_T_assignPart_38 : decode b_T_assignPart 38 = .ok (.getfield 37, 3) := by decide +kernel
theorem d_T_assignPart_41 : decode b_T_assignPart 41 = .ok (.invokevirtual 164, 3) := by decide +kernel
theorem d_T_assignPart_44 : decode b_T_assignPart 44 = .ok (.iconst 0, 1) := by decide +kernel
theorem d_T_assignPart_45 : decode b_T_assignPart 45 = .ok (.istore_n 3, 1) := by decide +kernel
theorem d_T_assignPart_46 : decode b_T_assignPart 46 = .ok (.iload_n 3, 1) := by decide +kernel
theorem d_T_assignPart_47 : decode b_T_assignPart 47 = .ok (.aload_n 0, 1) := by decide +kernel
theorem d_T_assignPart_48 : decode b_T_assignPart 48 = .ok (.getfield 16, 3) := by decide +kernel
theorem d_T_assignPart_51 : decode b_T_assignPart 51 = .ok (.getfield 71, 3) := by decide +kernel
theorem d_T_assignPart_54 : decode b_T_assignPart 54 = .ok (.if_icmp .ge 52, 3) := by decide +kernel
theorem d_T_assignPart_57 : decode b_T_assignPart 57 = .ok (.iload_n 3, 1) := by decide +kernel
theorem d_T_assignPart_58 : decode b_T_assignPart 58 = .ok (.iload_n 2, 1) := by decide +kernel
theorem d_T_assignPart_59 : decode b_T_assignPart 59 = .ok (.invokestatic 107, 3) := by decide +kernel
theorem d_T_assignPart_62 : decode b_T_assignPart 62 = .ok (.istore 4, 2) := by decide +kernel
theorem d_T_assignPart_64 : decode b_T_assignPart 64 = .ok (.aload_n 0, 1) := by decide +kernel
theorem d_T_assignPart_65 : decode b_T_assignPart 65 = .ok (.getfield 51, 3) := by decide +kernel
theorem d_T_assignPart_68 : decode b_T_assignPart 68 = .ok (.iload 4, 2) := by decide +kernel
theorem d_T_assignPart_70 : decode b_T_assignPart 70 = .ok (.aload_n 0, 1) := by decide +kernel
theorem d_T_assignPart_71 : decode b_T_assignPart 71 = .ok (.getfield 51, 3) := by decide +kernel
theorem d_T_assignPart_74 : decode b_T_assignPart 74 = .ok (.iload 4, 2) := by decide +kernel
theorem d_T_assignPart_76 : decode b_T_assignPart 76 = .ok (.iload_n 1, 1) := by decide +kernel
theorem d_T_assignPart_77 : decode b_T_assignPart 77 = .ok (.invokevirtual 230, 3) := by decide +kernel
theorem d_T_assignPart_80 : decode b_T_assignPart 80 = .ok (.aload_n 0, 1) := by decide +kernel
theorem d_T_assignPart_81 : decode b_T_assignPart 81 = .ok (.getfield 16, 3) := by decide +kernel
theorem d_T_assignPart_84 : decode b_T_assignPart 84 = .ok (.getfield 182, 3) := by decide +kernel
theorem d_T_assignPart_87 : decode b_T_assignPart 87 = .ok (.iload_n 3, 1) := by decide +kernel
theorem d_T_assignPart_88 : decode b_T_assignPart 88 = .ok (.iaload, 1) := by decide +kernel
theorem d_T_assignPart_89 : decode b_T_assignPart 89 = .ok (.aload_n 0, 1) := by decide +kernel
theorem d_T_assignPart_90 : decode b_T_assignPart 90 = .ok (.getfield 44, 3) := by decide +kernel
theorem d_T_assignPart_93 : decode b_T_assignPart 93 = .ok (.aload_n 0, 1) := by decide +kernel
theorem d_T_assignPart_94 : decode b_T_assignPart 94 = .ok (.getfield 37, 3) := by decide +kernel
theorem d_T_assignPart_97 : decode b_T_assignPart 97 = .ok (.invokevirtual 233, 3) := by decide +kernel
theorem d_T_assignPart_100 : decode b_T_assignPart 100 = .ok (.iinc 3 1, 3) := by decide +kernel
theorem d_T_assignPart_103 : decode b_T_assignPart 103 = .ok (.goto (-57), 3) := by decide +kernel
theorem d_T_assignPart_106 : decode b_T_assignPart 106 = .ok (.iinc 2 1, 3) := by decide +kernel
theorem d_T_assignPart_109 : decode b_T_assignPart 109 = .ok (.goto (-96), 3) := by decide +kernel
theorem d_T_assignPart_112 : decode b_T_assignPart 112 = .ok (.return_, 1) := by decide +kernel
theorem d_T_leastTimeTo_0 : decode b_T_leastTimeTo 0 = .ok (.lconst 0, 1) := by decide +kernel
theorem d_T_leastTimeTo_1 : decode b_T_leastTimeTo 1 = .ok (.lstore_n 2, 1) := by decide +kernel
theorem d_T_leastTimeTo_2 : decode b_T_leastTimeTo 2 = .ok (.iconst 0, 1) := by decide +kernel
theorem d_T_leastTimeTo_3 : decode b_T_leastTimeTo 3 = .ok (.istore 4, 2) := by decide +kernel
theorem d_T_leastTimeTo_5 : decode b_T_leastTimeTo 5 = .ok (.iload 4, 2) := by decide +kernel
theorem d_T_leastTimeTo_7 : decode b_T_leastTimeTo 7 = .ok (.aload_n 0, 1) := by decide +kernel
theorem d_T_leastTimeTo_8 : decode b_T_leastTimeTo 8 = .ok (.getfield 16, 3) := by decide +kernel
theorem d_T_leastTimeTo_11 : decode b_T_leastTimeTo 11 = .ok (.getfield 71, 3) := by decide +kernel
theorem d_T_leastTimeTo_14 : decode b_T_leastTimeTo 14 = .ok (.if_icmp .ge 56, 3) := by decide +kernel
theorem d_T_leastTimeTo_17 : decode b_T_leastTimeTo 17 = .ok (.aload_n 0, 1) := by decide +kernel
theorem d_T_leastTimeTo_18 : decode b_T_leastTimeTo 18 = .ok (.getfield 44, 3) := by decide +kernel
theorem d_T_leastTimeTo_21 : decode b_T_leastTimeTo 21 = .ok (.aload_n 0, 1) := by decide +kernel
theorem d_T_leastTimeTo_22 : decode b_T_leastTimeTo 22 = .ok (.getfield 16, 3) := by decide +kernel
theorem d_T_leastTimeTo_25 : decode b_T_leastTimeTo 25 = .ok (.getfield 182, 3) := by decide +kernel
theorem d_T_leastTimeTo_28 : decode b_T_leastTimeTo 28 = .ok (.iload 4, 2) := by decide +kernel
theorem d_T_leastTimeTo_30 : decode b_T_leastTimeTo 30 = .ok (.iaload, 1) := by decide +kernel
theorem d_T_leastTimeTo_31 : decode b_T_leastTimeTo 31 = .ok (.invokevirtual 172, 3) := by decide +kernel
theorem d_T_leastTimeTo_34 : decode b_T_leastTimeTo 34 = .ok (.istore 5, 2) := by decide +kernel
theorem d_T_leastTimeTo_36 : decode b_T_leastTimeTo 36 = .ok (.iload 5, 2) := by decide +kernel
theorem d_T_leastTimeTo_38 : decode b_T_leastTimeTo 38 = .ok (.iconst (-1), 1) := by decide +kernel
theorem d_T_leastTimeTo_39 : decode b_T_leastTimeTo 39 = .ok (.if_icmp .eq 25, 3) := by decide +kernel
theorem d_T_leastTimeTo_42 : decode b_T_leastTimeTo 42 = .ok (.lload_n 2, 1) := by decide +kernel
theorem d_T_leastTimeTo_43 : decode b_T_leastTimeTo 43 = .ok (.aload_n 0, 1) := by decide +kernel
theorem d_T_leastTimeTo_44 : decode b_T_leastTimeTo 44 = .ok (.getfield 51, 3) := by decide +kernel
theorem d_T_leastTimeTo_47 : decode b_T_leastTimeTo 47 = .ok (.getfield 237, 3) := by decide +kernel
theorem d_T_leastTimeTo_50 : decode b_T_leastTimeTo 50 = .ok (.iload 4, 2) := by decide +kernel
theorem d_T_leastTimeTo_52 : decode b_T_leastTimeTo 52 = .ok (.iload_n 1, 1) := by decide +kernel
theorem d_T_leastTimeTo_53 : decode b_T_leastTimeTo 53 = .ok (.invokestatic 107, 3) := by decide +kernel
theorem d_T_leastTimeTo_56 : decode b_T_leastTimeTo 56 = .ok (.iaload, 1) := by decide +kernel
theorem d_T_leastTimeTo_57 : decode b_T_leastTimeTo 57 = .ok (.i2l, 1) := by decide +kernel
theorem d_T_leastTimeTo_58 : decode b_T_leastTimeTo 58 = .ok (.iload 5, 2) := by decide +kernel
theorem d_T_leastTimeTo_60 : decode b_T_leastTimeTo 60 = .ok (.i2l, 1) := by decide +kernel
theorem d_T_leastTimeTo_61 : decode b_T_leastTimeTo 61 = .ok (.lmul, 1) := by decide +kernel
theorem d_T_leastTimeTo_62 : decode b_T_leastTimeTo 62 = .ok (.ladd, 1) := by decide +kernel
theorem d_T_leastTimeTo_63 : decode b_T_leastTimeTo 63 = .ok (.lstore_n 2, 1) := by decide +kernel
theorem d_T_leastTimeTo_64 : decode b_T_leastTimeTo 64 = .ok (.iinc 4 1, 3) := by decide +kernel
theorem d_T_leastTimeTo_67 : decode b_T_leastTimeTo 67 = .ok (.goto (-62), 3) := by decide +kernel
theorem d_T_leastTimeTo_70 : decode b_T_leastTimeTo 70 = .ok (.lload_n 2, 1) := by decide +kernel
theorem d_T_leastTimeTo_71 : decode b_T_leastTimeTo 71 = .ok (.lreturn, 1) := by decide +kernel
theorem d_T_scaleUsersOf_0 : decode b_T_scaleUsersOf 0 = .ok (.aload_n 0, 1) := by decide +kernel
theorem d_T_scaleUsersOf_1 : decode b_T_scaleUsersOf 1 = .ok (.getfield 37, 3) := by decide +kernel
theorem d_T_scaleUsersOf_4 : decode b_T_scaleUsersOf 4 = .ok (.getfield 152, 3) := by decide +kernel
theorem d_T_scaleUsersOf_7 : decode b_T_scaleUsersOf 7 = .ok (.iload_n 1, 1) := by decide +kernel
theorem d_T_scaleUsersOf_8 : decode b_T_scaleUsersOf 8 = .ok (.iaload, 1) := by decide +kernel
theorem d_T_scaleUsersOf_9 : decode b_T_scaleUsersOf 9 = .ok (.i2l, 1) := by decide +kernel
theorem d_T_scaleUsersOf_10 : decode b_T_scaleUsersOf 10 = .ok (.lstore_n 2, 1) := by decide +kernel
theorem d_T_scaleUsersOf_11 : decode b_T_scaleUsersOf 11 = .ok (.lload_n 2, 1) := by decide +kernel
theorem d_T_scaleUsersOf_12 : decode b_T_scaleUsersOf 12 = .ok (.lconst 0, 1) := by decide +kernel
theorem d_T_scaleUsersOf_13 : decode b_T_scaleUsersOf 13 = .ok (.lcmp, 1) := by decide +kernel
theorem d_T_scaleUsersOf_14 : decode b_T_scaleUsersOf 14 = .ok (.ifCond .ne 4, 3) := by decide +kernel
theorem d_T_scaleUsersOf_17 : decode b_T_scaleUsersOf 17 = .ok (.return_, 1) := by decide +kernel
theorem d_T_scaleUsersOf_18 : decode b_T_scaleUsersOf 18 = .ok (.iconst 0, 1) := by decide +kernel
theorem d_T_scaleUsersOf_19 : decode b_T_scaleUsersOf 19 = .ok (.istore 4, 2) := by decide +kernel
theorem d_T_scaleUsersOf_21 : decode b_T_scaleUsersOf 21 = .ok (.iload 4, 2) := by decide +kernel
theorem d_T_scaleUsersOf_23 : decode b_T_scaleUsersOf 23 = .ok (.bipush 36, 2) := by decide +kernel
theorem d_T_scaleUsersOf_25 : decode b_T_scaleUsersOf 25 = .ok (.if_icmp .ge 71, 3) := by decide +kernel
theorem d_T_scaleUsersOf_28 : decode b_T_scaleUsersOf 28 = .ok (.aload_n 0, 1) := by decide +kernel
theorem d_T_scaleUsersOf_29 : decode b_T_scaleUsersOf 29 = .ok (.getfield 51, 3) := by decide +kernel
theorem d_T_scaleUsersOf_32 : decode b_T_scaleUsersOf 32 = .ok (.getfield 175, 3) := by decide +kernel
theorem d_T_scaleUsersOf_35 : decode b_T_scaleUsersOf 35 = .ok (.iload_n 1, 1) := by decide +kernel
theorem d_T_scaleUsersOf_36 : decode b_T_scaleUsersOf 36 = .ok (.iload 4, 2) := by decide +kernel
theorem d_T_scaleUsersOf_38 : decode b_T_scaleUsersOf 38 = .ok (.invokestatic 178, 3) := by decide +kernel
theorem d_T_scaleUsersOf_41 : decode b_T_scaleUsersOf 41 = .ok (.iaload, 1) := by decide +kernel
theorem d_T_scaleUsersOf_42 : decode b_T_scaleUsersOf 42 = .ok (.ifCond .le 48, 3) := by decide +kernel
theorem d_T_scaleUsersOf_45 : decode b_T_scaleUsersOf 45 = .ok (.aload_n 0, 1) := by decide +kernel
theorem d_T_scaleUsersOf_46 : decode b_T_scaleUsersOf 46 = .ok (.getfield 23, 3) := by decide +kernel
theorem d_T_scaleUsersOf_49 : decode b_T_scaleUsersOf 49 = .ok (.getfield 124, 3) := by decide +kernel
theorem d_T_scaleUsersOf_52 : decode b_T_scaleUsersOf 52 = .ok (.iload 4, 2) := by decide +kernel
theorem d_T_scaleUsersOf_54 : decode b_T_scaleUsersOf 54 = .ok (.iaload, 1) := by decide +kernel
theorem d_T_scaleUsersOf_55 : decode b_T_scaleUsersOf 55 = .ok (.i2l, 1) := by decide +kernel
theorem d_T_scaleUsersOf_56 : decode b_T_scaleUsersOf 56 = .ok (.aload_n 0, 1) := by decide +kernel
theorem d_T_scaleUsersOf_57 : decode b_T_scaleUsersOf 57 = .ok (.getfield 37, 3) := by decide +kernel
theorem d_T_scaleUsersOf_60 : decode b_T_scaleUsersOf 60 = .ok (.getfield 189, 3) := by decide +kernel
theorem d_T_scaleUsersOf_63 : decode b_T_scaleUsersOf 63 = .ok (.iload_n 1, 1) := by decide +kernel
theorem d_T_scaleUsersOf_64 : decode b_T_scaleUsersOf 64 = .ok (.iaload, 1) := by decide +kernel
theorem d_T_scaleUsersOf_65 : decode b_T_scaleUsersOf 65 = .ok (.i2l, 1) := by decide +kernel
theorem d_T_scaleUsersOf_66 : decode b_T_scaleUsersOf 66 = .ok (.lmul, 1) := by decide +kernel
theorem d_T_scaleUsersOf_67 : decode b_T_scaleUsersOf 67 = .ok (.lload_n 2, 1) := by decide +kernel
theorem d_T_scaleUsersOf_68 : decode b_T_scaleUsersOf 68 = .ok (.ldiv, 1) := by decide +kernel
theorem d_T_scaleUsersOf_69 : decode b_T_scaleUsersOf 69 = .ok (.lstore 5, 2) := by decide +kernel
theorem d_T_scaleUsersOf_71 : decode b_T_scaleUsersOf 71 = .ok (.aload_n 0, 1) := by decide +kernel
theorem d_T_scaleUsersOf_72 : decode b_T_scaleUsersOf 72 = .ok (.getfield 23, 3) := by decide +kernel
theorem d_T_scaleUsersOf_75 : decode b_T_scaleUsersOf 75 = .ok (.getfield 124, 3) := by decide +kernel
theorem d_T_scaleUsersOf_78 : decode b_T_scaleUsersOf 78 = .ok (.iload 4, 2) := by decide +kernel
theorem d_T_scaleUsersOf_80 : decode b_T_scaleUsersOf 80 = .ok (.lload 5, 2) := by decide +kernel
theorem d_T_scaleUsersOf_82 : decode b_T_scaleUsersOf 82 = .ok (.ldc2_w 240, 3) := by decide +kernel
theorem d_T_scaleUsersOf_85 : decode b_T_scaleUsersOf 85 = .ok (.invokestatic 242, 3) := by decide +kernel
theorem d_T_scaleUsersOf_88 : decode b_T_scaleUsersOf 88 = .ok (.l2i, 1) := by decide +kernel
theorem d_T_scaleUsersOf_89 : decode b_T_scaleUsersOf 89 = .ok (.iastore, 1) := by decide +kernel
theorem d_T_scaleUsersOf_90 : decode b_T_scaleUsersOf 90 = .ok (.iinc 4 1, 3) := by decide +kernel
theorem d_T_scaleUsersOf_93 : decode b_T_scaleUsersOf 93 = .ok (.goto (-72), 3) := by decide +kernel
theorem d_T_scaleUsersOf_96 : decode b_T_scaleUsersOf 96 = .ok (.return_, 1) := by decide +kernel
theorem d_Z_init_0 : decode b_Z_init 0 = .ok (.aload_n 0, 1) := by decide +kernel
theorem d_Z_init_1 : decode b_Z_init 1 = .ok (.invokespecial 3, 3) := by decide +kernel
theorem d_Z_init_4 : decode b_Z_init 4 = .ok (.aload_n 0, 1) := by decide +kernel
theorem d_Z_init_5 : decode b_Z_init 5 = .ok (.iconst 0, 1) := by decide +kernel
theorem d_Z_init_6 : decode b_Z_init 6 = .ok (.putfield 9, 3) := by decide +kernel
theorem d_Z_init_9 : decode b_Z_init 9 = .ok (.aload_n 0, 1) := by decide +kernel
theorem d_Z_init_10 : decode b_Z_init 10 = .ok (.bipush 6, 2) := by decide +kernel
theorem d_Z_init_12 : decode b_Z_init 12 = .ok (.newarray .int, 2) := by decide +kernel
theorem d_Z_init_14 : decode b_Z_init 14 = .ok (.putfield 15, 3) := by decide +kernel
theorem d_Z_init_17 : decode b_Z_init 17 = .ok (.aload_n 0, 1) := by decide +kernel
theorem d_Z_init_18 : decode b_Z_init 18 = .ok (.bipush 6, 2) := by decide +kernel
theorem d_Z_init_20 : decode b_Z_init 20 = .ok (.newarray .int, 2) := by decide +kernel
theorem d_Z_init_22 : decode b_Z_init 22 = .ok (.putfield 19, 3) := by decide +kernel
theorem d_Z_init_25 : decode b_Z_init 25 = .ok (.aload_n 0, 1) := by decide +kernel
theorem d_Z_init_26 : decode b_Z_init 26 = .ok (.bipush 6, 2) := by decide +kernel
theorem d_Z_init_28 : decode b_Z_init 28 = .ok (.newarray .int, 2) := by decide +kernel
theorem d_Z_init_30 : decode b_Z_init 30 = .ok (.putfield 22, 3) := by decide +kernel
theorem d_Z_init_33 : decode b_Z_init 33 = .ok (.return_, 1) := by decide +kernel
theorem d_Z_addZone_0 : decode b_Z_addZone 0 = .ok (.aload_n 0, 1) := by decide +kernel
theorem d_Z_addZone_1 : decode b_Z_addZone 1 = .ok (.getfield 15, 3) := by decide +kernel
theorem d_Z_addZone_4 : decode b_Z_addZone 4 = .ok (.aload_n 0, 1) := by decide +kernel
theorem d_Z_addZone_5 : decode b_Z_addZone 5 = .ok (.getfield 9, 3) := by decide +kernel
theorem d_Z_addZone_8 : decode b_Z_addZone 8 = .ok (.iload_n 1, 1) := by decide +kernel
theorem d_Z_addZone_9 : decode b_Z_addZone 9 = .ok (.iastore, 1) := by decide +kernel
theorem d_Z_addZone_10 : decode b_Z_addZone 10 = .ok (.aload_n 0, 1) := by decide +kernel
theorem d_Z_addZone_11 : decode b_Z_addZone 11 = .ok (.getfield 19, 3) := by decide +kernel
theorem d_Z_addZone_14 : decode b_Z_addZone 14 = .ok (.aload_n 0, 1) := by decide +kernel
theorem d_Z_addZone_15 : decode b_Z_addZone 15 = .ok (.getfield 9, 3) := by decide +kernel
theorem d_Z_addZone_18 : decode b_Z_addZone 18 = .ok (.iload_n 2, 1) := by decide +kernel
theorem d_Z_addZone_19 : decode b_Z_addZone 19 = .ok (.iastore, 1) := by decide +kernel
theorem d_Z_addZone_20 : decode b_Z_addZone 20 = .ok (.aload_n 0, 1) := by decide +kernel
theorem d_Z_addZone_21 : decode b_Z_addZone 21 = .ok (.getfield 22, 3) := by decide +kernel
theorem d_Z_addZone_24 : decode b_Z_addZone 24 = .ok (.aload_n 0, 1) := by decide +kernel
theorem d_Z_addZone_25 : decode b_Z_addZone 25 = .ok (.getfield 9, 3) := by decide +kernel
theorem d_Z_addZone_28 : decode b_Z_addZone 28 = .ok (.iload_n 3, 1) := by decide +kernel
theorem d_Z_addZone_29 : decode b_Z_addZone 29 = .ok (.iastore, 1) := by decide +kernel
theorem d_Z_addZone_30 : decode b_Z_addZone 30 = .ok (.aload_n 0, 1) := by decide +kernel
theorem d_Z_addZone_31 : decode b_Z_addZone 31 = .ok (.dup, 1) := by decide +kernel
theorem d_Z_addZone_32 : decode b_Z_addZone 32 = .ok (.getfield 9, 3) := by decide +kernel
theorem d_Z_addZone_35 : decode b_Z_addZone 35 = .ok (.dup_x1, 1) := by decide +kernel
theorem d_Z_addZone_36 : decode b_Z_addZone 36 = .ok (.iconst 1, 1) := by decide +kernel
theorem d_Z_addZone_37 : decode b_Z_addZone 37 = .ok (.iadd, 1) := by decide +kernel
theorem d_Z_addZone_38 : decode b_Z_addZone 38 = .ok (.putfield 9, 3) := by decide +kernel
theorem d_Z_addZone_41 : decode b_Z_addZone 41 = .ok (.ireturn, 1) := by decide +kernel
theorem d_B_init_0 : decode b_B_init 0 = .ok (.aload_n 0, 1) := by decide +kernel
theorem d_B_init_1 : decode b_B_init 1 = .ok (.invokespecial 3, 3) := by decide +kernel
theorem d_B_init_4 : decode b_B_init 4 = .ok (.aload_n 0, 1) := by decide +kernel
theorem d_B_init_5 : decode b_B_init 5 = .ok (.bipush 36, 2) := by decide +kernel
theorem d_B_init_7 : decode b_B_init 7 = .ok (.newarray .int, 2) := by decide +kernel
theorem d_B_init_9 : decode b_B_init 9 = .ok (.putfield 9, 3) := by decide +kernel
theorem d_B_init_12 : decode b_B_init 12 = .ok (.aload_n 0, 1) := by decide +kernel
theorem d_B_init_13 : decode b_B_init 13 = .ok (.bipush 36, 2) := by decide +kernel
theorem d_B_init_15 : decode b_B_init 15 = .ok (.newarray .int, 2) := by decide +kernel
theorem d_B_init_17 : decode b_B_init 17 = .ok (.putfield 15, 3) := by decide +kernel
theorem d_B_init_20 : decode b_B_init 20 = .ok (.aload_n 0, 1) := by decide +kernel
theorem d_B_init_21 : decode b_B_init 21 = .ok (.bipush 6, 2) := by decide +kernel
theorem d_B_init_23 : decode b_B_init 23 = .ok (.newarray .int, 2) := by decide +kernel
theorem d_B_init_25 : decode b_B_init 25 = .ok (.putfield 18, 3) := by decide +kernel
theorem d_B_init_28 : decode b_B_init 28 = .ok (.aload_n 0, 1) := by decide +kernel
theorem d_B_init_29 : decode b_B_init 29 = .ok (.new 21, 3) := by decide +kernel
theorem d_B_init_32 : decode b_B_init 32 = .ok (.dup, 1) := by decide +kernel
theorem d_B_init_33 : decode b_B_init 33 = .ok (.bipush 6, 2) := by decide +kernel
theorem d_B_init_35 : decode b_B_init 35 = .ok (.invokespecial 23, 3) := by decide +kernel
theorem d_B_init_38 : decode b_B_init 38 = .ok (.putfield 26, 3) := by decide +kernel
theorem d_B_init_41 : decode b_B_init 41 = .ok (.aload_n 0, 1) := by decide +kernel
theorem d_B_init_42 : decode b_B_init 42 = .ok (.getfield 9, 3) := by decide +kernel
theorem d_B_init_45 : decode b_B_init 45 = .ok (.iconst 1, 1) := by decide +kernel
theorem d_B_init_46 : decode b_B_init 46 = .ok (.invokestatic 30, 3) := by decide +kernel
theorem d_B_init_49 : decode b_B_init 49 = .ok (.aload_n 0, 1) := by decide +kernel
theorem d_B_init_50 : decode b_B_init 50 = .ok (.getfield 18, 3) := by decide +kernel
theorem d_B_init_53 : decode b_B_init 53 = .ok (.iconst (-1), 1) := by decide +kernel
theorem d_B_init_54 : decode b_B_init 54 = .ok (.invokestatic 30, 3) := by decide +kernel
theorem d_B_init_57 : decode b_B_init 57 = .ok (.return_, 1) := by decide +kernel
theorem d_B_goRounds_0 : decode b_B_goRounds 0 = .ok (.iconst 0, 1) := by decide +kernel
theorem d_B_goRounds_1 : decode b_B_goRounds 1 = .ok (.istore 4, 2) := by decide +kernel
theorem d_B_goRounds_3 : decode b_B_goRounds 3 = .ok (.iload 4, 2) := by decide +kernel
theorem d_B_goRounds_5 : decode b_B_goRounds 5 = .ok (.aload_n 1, 1) := by decide +kernel
theorem d_B_goRounds_6 : decode b_B_goRounds 6 = .ok (.getfield 36, 3) := by decide +kernel
theorem d_B_goRounds_9 : decode b_B_goRounds 9 = .ok (.if_icmp .ge 19, 3) := by decide +kernel
theorem d_B_goRounds_12 : decode b_B_goRounds 12 = .ok (.aload_n 0, 1) := by decide +kernel
theorem d_B_goRounds_13 : decode b_B_goRounds 13 = .ok (.getfield 18, 3) := by decide +kernel
theorem d_B_goRounds_16 : decode b_B_goRounds 16 = .ok (.iload 4, 2) := by decide +kernel
theorem d_B_goRounds_18 : decode b_B_goRounds 18 = .ok (.sipush 1000, 3) := by decide +kernel
theorem d_B_goRounds_21 : decode b_B_goRounds 21 = .ok (.iastore, 1) := by decide +kernel
theorem d_B_goRounds_22 : decode b_B_goRounds 22 = .ok (.iinc 4 1, 3) := by decide +kernel
theorem d_B_goRounds_25 : decode b_B_goRounds 25 = .ok (.goto (-22), 3) := by decide +kernel
theorem d_B_goRounds_28 : decode b_B_goRounds 28 = .ok (.iconst 1, 1) := by decide +kernel
theorem d_B_goRounds_29 : decode b_B_goRounds 29 = .ok (.istore 4, 2) := by decide +kernel
theorem d_B_goRounds_31 : decode b_B_goRounds 31 = .ok (.iload 4, 2) := by decide +kernel
theorem d_B_goRounds_33 : decode b_B_goRounds 33 = .ok (.iload_n 2, 1) := by decide +kernel
theorem d_B_goRounds_34 : decode b_B_goRounds 34 = .ok (.if_icmp .gt 37, 3) := by decide +kernel
theorem d_B_goRounds_37 : decode b_B_goRounds 37 = .ok (.aload_n 0, 1) := by decide +kernel
theorem d_B_goRounds_38 : decode b_B_goRounds 38 = .ok (.aload_n 1, 1) := by decide +kernel
theorem d_B_goRounds_39 : decode b_B_goRounds 39 = .ok (.invokevirtual 42, 3) := by decide +kernel
theorem d_B_goRounds_42 : decode b_B_goRounds 42 = .ok (.aload_n 0, 1) := by decide +kernel
theorem d_B_goRounds_43 : decode b_B_goRounds 43 = .ok (.aload_n 1, 1) := by decide +kernel
theorem d_B_goRounds_44 : decode b_B_goRounds 44 = .ok (.iload_n 3, 1) := by decide +kernel
theorem d_B_goRounds_45 : decode b_B_goRounds 45 = .ok (.invokevirtual 46, 3) := by decide +kernel
theorem d_B_goRounds_48 : decode b_B_goRounds 48 = .ok (.ifCond .eq 6, 3) := by decide +kernel
theorem d_B_goRounds_51 : decode b_B_goRounds 51 = .ok (.iload 4, 2) := by decide +kernel
theorem d_B_goRounds_53 : decode b_B_goRounds 53 = .ok (.ireturn, 1) := by decide +kernel
theorem d_B_goRounds_54 : decode b_B_goRounds 54 = .ok (.iload 4, 2) := by decide +kernel
theorem d_B_goRounds_56 : decode b_B_goRounds 56 = .ok (.iload_n 2, 1) := by decide +kernel
theorem d_B_goRounds_57 : decode b_B_goRounds 57 = .ok (.if_icmp .ge 8, 3) := by decide +kernel
theorem d_B_goRounds_60 : decode b_B_goRounds 60 = .ok (.aload_n 0, 1) := by decide +kernel
theorem d_B_goRounds_61 : decode b_B_goRounds 61 = .ok (.aload_n 1, 1) := by decide +kernel
theorem d_B_goRounds_62 : decode b_B_goRounds 62 = .ok (.invokevirtual 50, 3) := by decide +kernel
theorem d_B_goRounds_65 : decode b_B_goRounds 65 = .ok (.iinc 4 1, 3) := by decide +kernel
theorem d_B_goRounds_68 : decode b_B_goRounds 68 = .ok (.goto (-37), 3) := by decide +kernel
theorem d_B_goRounds_71 : decode b_B_goRounds 71 = .ok (.iload_n 2, 1) := by decide +kernel
theorem d_B_goRounds_72 : decode b_B_goRounds 72 = .ok (.ineg, 1) := by decide +kernel
theorem d_B_goRounds_73 : decode b_B_goRounds 73 = .ok (.ireturn, 1) := by decide +kernel
theorem d_B_shareAllPeople_0 : decode b_B_shareAllPeople 0 = .ok (.iconst 0, 1) := by decide +kernel
theorem d_B_shareAllPeople_1 : decode b_B_shareAllPeople 1 = .ok (.istore_n 2, 1) := by decide +kernel
theorem d_B_shareAllPeople_2 : decode b_B_shareAllPeople 2 = .ok (.iload_n 2, 1) := by decide +kernel
theorem d_B_shareAllPeople_3 : decode b_B_shareAllPeople 3 = .ok (.aload_n 1, 1) := by decide +kernel
theorem d_B_shareAllPeople_4 : decode b_B_shareAllPeople 4 = .ok (.getfield 36, 3) := by decide +kernel
theorem d_B_shareAllPeople_7 : decode b_B_shareAllPeople 7 = .ok (.if_icmp .ge 105, 3) := by decide +kernel
theorem d_B_shareAllPeople_10 : decode b_B_shareAllPeople 10 = .ok (.iconst 0, 1) := by decide +kernel
theorem d_B_shareAllPeople_11 : decode b_B_shareAllPeople 11 = .ok (.istore_n 3, 1) := by decide +kernel
theorem d_B_shareAllPeople_12 : decode b_B_shareAllPeople 12 = .ok (.iload_n 3, 1) := by decide +kernel
theorem d_B_shareAllPeople_13 : decode b_B_shareAllPeople 13 = .ok (.aload_n 1, 1) := by decide +kernel
theorem d_B_shareAllPeople_14 : decode b_B_shareAllPeople 14 = .ok (.getfield 36, 3) := by decide +kernel
theorem d_B_shareAllPeople_17 : decode b_B_shareAllPeople 17 = .ok (.if_icmp .ge 37, 3) := by decide +kernel
theorem d_B_shareAllPeople_20 : decode b_B_shareAllPeople 20 = .ok (.aload_n 0, 1) := by decide +kernel
theorem d_B_shareAllPeople_21 : decode b_B_shareAllPeople 21 = .ok (.getfield 26, 3) := by decide +kernel
theorem d_B_shareAllPeople_24 : decode b_B_shareAllPeople 24 = .ok (.getfield 53, 3) := by decide +kernel
theorem d_B_shareAllPeople_27 : decode b_B_shareAllPeople 27 = .ok (.iload_n 3, 1) := by decide +kernel
theorem d_B_shareAllPeople_28 : decode b_B_shareAllPeople 28 = .ok (.aload_n 0, 1) := by decide +kernel
theorem d_B_shareAllPeople_29 : decode b_B_shareAllPeople 29 = .ok (.getfield 9, 3) := by decide +kernel
theorem d_B_shareAllPeople_32 : decode b_B_shareAllPeople 32 = .ok (.iload_n 2, 1) := by decide +kernel
theorem d_B_shareAllPeople_33 : decode b_B_shareAllPeople 33 = .ok (.iload_n 3, 1) := by decide +kernel
theorem d_B_shareAllPeople_34 : decode b_B_shareAllPeople 34 = .ok (.invokestatic 57, 3) := by decide +kernel
theorem d_B_shareAllPeople_37 : decode b_B_shareAllPeople 37 = .ok (.iaload, 1) := by decide +kernel
theorem d_B_shareAllPeople_38 : decode b_B_shareAllPeople 38 = .ok (.i2l, 1) := by decide +kernel
theorem d_B_shareAllPeople_39 : decode b_B_shareAllPeople 39 = .ok (.aload_n 0, 1) := by decide +kernel
theorem d_B_shareAllPeople_40 : decode b_B_shareAllPeople 40 = .ok (.getfield 18, 3) := by decide +kernel
theorem d_B_shareAllPeople_43 : decode b_B_shareAllPeople 43 = .ok (.iload_n 3, 1) := by decide +kernel
theorem d_B_shareAllPeople_44 : decode b_B_shareAllPeople 44 = .ok (.iaload, 1) := by decide +kernel
theorem d_B_shareAllPeople_45 : decode b_B_shareAllPeople 45 = .ok (.i2l, 1) := by decide +kernel
theorem d_B_shareAllPeople_46 : decode b_B_shareAllPeople 46 = .ok (.lmul, 1) := by decide +kernel
theorem d_B_shareAllPeople_47 : decode b_B_shareAllPeople 47 = .ok (.lastore, 1) := by decide +kernel
theorem d_B_shareAllPeople_48 : decode b_B_shareAllPeople 48 = .ok (.iinc 3 1, 3) := by decide +kernel
theorem d_B_shareAllPeople_51 : decode b_B_shareAllPeople 51 = .ok (.goto (-39), 3) := by decide +kernel
theorem d_B_shareAllPeople_54 : decode b_B_shareAllPeople 54 = .ok (.aload_n 0, 1) := by decide +kernel
theorem d_B_shareAllPeople_55 : decode b_B_shareAllPeople 55 = .ok (.getfield 26, 3) := by decide +kernel
theorem d_B_shareAllPeople_58 : decode b_B_shareAllPeople 58 = .ok (.aload_n 1, 1) := by decide +kernel
theorem d_B_shareAllPeople_59 : decode b_B_shareAllPeople 59 = .ok (.getfield 61, 3) := by decide +kernel
theorem d_B_shareAllPeople_62 : decode b_B_shareAllPeople 62 = .ok (.iload_n 2, 1) := by decide +kernel
theorem d_B_shareAllPeople_63 : decode b_B_shareAllPeople 63 = .ok (.iaload, 1) := by decide +kernel
theorem d_B_shareAllPeople_64 : decode b_B_shareAllPeople 64 = .ok (.aload_n 1, 1) := by decide +kernel
theorem d_B_shareAllPeople_65 : decode b_B_shareAllPeople 65 = .ok (.getfield 36, 3) := by decide +kernel
theorem d_B_shareAllPeople_68 : decode b_B_shareAllPeople 68 = .ok (.invokevirtual 64, 3) := by decide +kernel
theorem d_B_shareAllPeople_71 : decode b_B_shareAllPeople 71 = .ok (.iconst 0, 1) := by decide +kernel
theorem d_B_shareAllPeople_72 : decode b_B_shareAllPeople 72 = .ok (.istore_n 3, 1) := by decide +kernel
theorem d_B_shareAllPeople_73 : decode b_B_shareAllPeople 73 = .ok (.iload_n 3, 1) := by decide +kernel
theorem d_B_shareAllPeople_74 : decode b_B_shareAllPeople 74 = .ok (.aload_n 1, 1) := by decide +kernel
theorem d_B_shareAllPeople_75 : decode b_B_shareAllPeople 75 = .ok (.getfield 36, 3) := by decide +kernel
theorem d_B_shareAllPeople_78 : decode b_B_shareAllPeople 78 = .ok (.if_icmp .ge 28, 3) := by decide +kernel
theorem d_B_shareAllPeople_81 : decode b_B_shareAllPeople 81 = .ok (.aload_n 0, 1) := by decide +kernel
theorem d_B_shareAllPeople_82 : decode b_B_shareAllPeople 82 = .ok (.getfield 15, 3) := by decide +kernel
theorem d_B_shareAllPeople_85 : decode b_B_shareAllPeople 85 = .ok (.iload_n 2, 1) := by decide +kernel
theorem d_B_shareAllPeople_86 : decode b_B_shareAllPeople 86 = .ok (.iload_n 3, 1) := by decide +kernel
theorem d_B_shareAllPeople_87 : decode b_B_shareAllPeople 87 = .ok (.invokestatic 57, 3) := by decide +kernel
theorem d_B_shareAllPeople_90 : decode b_B_shareAllPeople 90 = .ok (.aload_n 0, 1) := by decide +kernel
theorem d_B_shareAllPeople_91 : decode b_B_shareAllPeople 91 = .ok (.getfield 26, 3) := by decide +kernel
theorem d_B_shareAllPeople_94 : decode b_B_shareAllPeople 94 = .ok (.getfield 68, 3) := by decide +kernel
theorem d_B_shareAllPeople_97 : decode b_B_shareAllPeople 97 = .ok (.iload_n 3, 1) := by decide +kernel
theorem d_B_shareAllPeople_98 : decode b_B_shareAllPeople 98 = .ok (.iaload, 1) := by decide +kernel
theorem d_B_shareAllPeople_99 : decode b_B_shareAllPeople 99 = .ok (.iastore, 1) := by decide +kernel
theorem d_B_shareAllPeople_100 : decode b_B_shareAllPeople 100 = .ok (.iinc 3 1, 3) := by decide +kernel
theorem d_B_shareAllPeople_103 : decode b_B_shareAllPeople 103 = .ok (.goto (-30), 3) := by decide +kernel
theorem d_B_shareAllPeople_106 : decode b_B_shareAllPeople 106 = .ok (.iinc 2 1, 3) := by decide +kernel
theorem d_B_shareAllPeople_109 : decode b_B_shareAllPeople 109 = .ok (.goto (-107), 3) := by decide +kernel
theorem d_B_shareAllPeople_112 : decode b_B_shareAllPeople 112 = .ok (.return_, 1) := by decide +kernel
theorem d_B_isMet_0 : decode b_B_isMet 0 = .ok (.iconst 0, 1) := by decide +kernel
theorem d_B_isMet_1 : decode b_B_isMet 1 = .ok (.istore_n 3, 1) := by decide +kernel
theorem d_B_isMet_2 : decode b_B_isMet 2 = .ok (.iload_n 3, 1) := by decide +kernel
theorem d_B_isMet_3 : decode b_B_isMet 3 = .ok (.aload_n 1, 1) := by decide +kernel
theorem d_B_isMet_4 : decode b_B_isMet 4 = .ok (.getfield 36, 3) := by decide +kernel
theorem d_B_isMet_7 : decode b_B_isMet 7 = .ok (.if_icmp .ge 30, 3) := by decide +kernel
theorem d_B_isMet_10 : decode b_B_isMet 10 = .ok (.aload_n 0, 1) := by decide +kernel
theorem d_B_isMet_11 : decode b_B_isMet 11 = .ok (.iload_n 3, 1) := by decide +kernel
theorem d_B_isMet_12 : decode b_B_isMet 12 = .ok (.invokevirtual 71, 3) := by decide +kernel
theorem d_B_isMet_15 : decode b_B_isMet 15 = .ok (.aload_n 1, 1) := by decide +kernel
theorem d_B_isMet_16 : decode b_B_isMet 16 = .ok (.getfield 75, 3) := by decide +kernel
theorem d_B_isMet_19 : decode b_B_isMet 19 = .ok (.iload_n 3, 1) := by decide +kernel
theorem d_B_isMet_20 : decode b_B_isMet 20 = .ok (.iaload, 1) := by decide +kernel
theorem d_B_isMet_21 : decode b_B_isMet 21 = .ok (.isub, 1) := by decide +kernel
theorem d_B_isMet_22 : decode b_B_isMet 22 = .ok (.invokestatic 78, 3) := by decide +kernel
theorem d_B_isMet_25 : decode b_B_isMet 25 = .ok (.iload_n 2, 1) := by decide +kernel
theorem d_B_isMet_26 : decode b_B_isMet 26 = .ok (.if_icmp .le 5, 3) := by decide +kernel
theorem d_B_isMet_29 : decode b_B_isMet 29 = .ok (.iconst 0, 1) := by decide +kernel
theorem d_B_isMet_30 : decode b_B_isMet 30 = .ok (.ireturn, 1) := by decide +kernel
theorem d_B_isMet_31 : decode b_B_isMet 31 = .ok (.iinc 3 1, 3) := by decide +kernel
theorem d_B_isMet_34 : decode b_B_isMet 34 = .ok (.goto (-32), 3) := by decide +kernel
theorem d_B_isMet_37 : decode b_B_isMet 37 = .ok (.iconst 1, 1) := by decide +kernel
theorem d_B_isMet_38 : decode b_B_isMet 38 = .ok (.ireturn, 1) := by decide +kernel
theorem d_B_changeFactors_0 : decode b_B_changeFactors 0 = .ok (.iconst 0, 1) := by decide +kernel
theorem d_B_changeFactors_1 : decode b_B_changeFactors 1 = .ok (.istore_n 2, 1) := by decide +kernel
theorem d_B_changeFactors_2 : decode b_B_changeFactors 2 = .ok (.iload_n 2, 1) := by decide +kernel
theorem d_B_changeFactors_3 : decode b_B_changeFactors 3 = .ok (.aload_n 1, 1) := by decide +kernel
theorem d_B_changeFactors_4 : decode b_B_changeFactors 4 = .ok (.getfield 36, 3) := by decide +kernel
theorem d_B_changeFactors_7 : decode b_B_changeFactors 7 = .ok (.if_icmp .ge 58, 3) := by decide +kernel
theorem d_B_changeFactors_10 : decode b_B_changeFactors 10 = .ok (.aload_n 0, 1) := by decide +kernel
theorem d_B_changeFactors_11 : decode b_B_changeFactors 11 = .ok (.iload_n 2, 1) := by decide +kernel
theorem d_B_changeFactors_12 : decode b_B_changeFactors 12 = .ok (.invokevirtual 71, 3) := by decide +kernel
theorem d_B_changeFactors_15 : decode b_B_changeFactors 15 = .ok (.istore_n 3, 1) := by decide +kernel
theorem d_B_changeFactors_16 : decode b_B_changeFactors 16 = .ok (.iload_n 3, 1) := by decide +kernel
theorem d_B_changeFactors_17 : decode b_B_changeFactors 17 = .ok (.ifCond .le 42, 3) := by decide +kernel
theorem d_B_changeFactors_20 : decode b_B_changeFactors 20 = .ok (.aload_n 0, 1) := by decide +kernel
theorem d_B_changeFactors_21 : decode b_B_changeFactors 21 = .ok (.getfield 18, 3) := by decide +kernel
theorem d_B_changeFactors_24 : decode b_B_changeFactors 24 = .ok (.iload_n 2, 1) := by decide +kernel
theorem d_B_changeFactors_25 : decode b_B_changeFactors 25 = .ok (.iaload, 1) := by decide +kernel
theorem d_B_changeFactors_26 : decode b_B_changeFactors 26 = .ok (.i2l, 1) := by decide +kernel
theorem d_B_changeFactors_27 : decode b_B_changeFactors 27 = .ok (.aload_n 1, 1) := by decide +kernel
theorem d_B_changeFactors_28 : decode b_B_changeFactors 28 = .ok (.getfield 75, 3) := by decide +kernel
theorem d_B_changeFactors_31 : decode b_B_changeFactors 31 = .ok (.iload_n 2, 1) := by decide +kernel
theorem d_B_changeFactors_32 : decode b_B_changeFactors 32 = .ok (.iaload, 1) := by decide +kernel
theorem d_B_changeFactors_33 : decode b_B_changeFactors 33 = .ok (.i2l, 1) := by decide +kernel
theorem d_B_changeFactors_34 : decode b_B_changeFactors 34 = .ok (.lmul, 1) := by decide +kernel
theorem d_B_changeFactors_35 : decode b_B_changeFactors 35 = .ok (.iload_n 3, 1) := by decide +kernel
theorem d_B_changeFactors_36 : decode b_B_changeFactors 36 = .ok (.i2l, 1) := by decide +kernel
theorem d_B_changeFactors_37 : decode b_B_changeFactors 37 = .ok (.ldiv, 1) := by decide +kernel
theorem d_B_changeFactors_38 : decode b_B_changeFactors 38 = .ok (.lstore 4, 2) := by decide +kernel
theorem d_B_changeFactors_40 : decode b_B_changeFactors 40 = .ok (.aload_n 0, 1) := by decide +kernel
theorem d_B_changeFactors_41 : decode b_B_changeFactors 41 = .ok (.getfield 18, 3) := by decide +kernel
theorem d_B_changeFactors_44 : decode b_B_changeFactors 44 = .ok (.iload_n 2, 1) := by decide +kernel
theorem d_B_changeFactors_45 : decode b_B_changeFactors 45 = .ok (.lconst 1, 1) := by decide +kernel
theorem d_B_changeFactors_46 : decode b_B_changeFactors 46 = .ok (.lload 4, 2) := by decide +kernel
theorem d_B_changeFactors_48 : decode b_B_changeFactors 48 = .ok (.ldc2_w 83, 3) := by decide +kernel
theorem d_B_changeFactors_51 : decode b_B_changeFactors 51 = .ok (.invokestatic 85, 3) := by decide +kernel
theorem d_B_changeFactors_54 : decode b_B_changeFactors 54 = .ok (.invokestatic 89, 3) := by decide +kernel
theorem d_B_changeFactors_57 : decode b_B_changeFactors 57 = .ok (.l2i, 1) := by decide +kernel
theorem d_B_changeFactors_58 : decode b_B_changeFactors 58 = .ok (.iastore, 1) := by decide +kernel
theorem d_B_changeFactors_59 : decode b_B_changeFactors 59 = .ok (.iinc 2 1, 3) := by decide +kernel
theorem d_B_changeFactors_62 : decode b_B_changeFactors 62 = .ok (.goto (-60), 3) := by decide +kernel
theorem d_B_changeFactors_65 : decode b_B_changeFactors 65 = .ok (.return_, 1) := by decide +kernel
theorem d_B_sumFrom_0 : decode b_B_sumFrom 0 = .ok (.iconst 0, 1) := by decide +kernel
theorem d_B_sumFrom_1 : decode b_B_sumFrom 1 = .ok (.istore_n 2, 1) := by decide +kernel
theorem d_B_sumFrom_2 : decode b_B_sumFrom 2 = .ok (.iconst 0, 1) := by decide +kernel
theorem d_B_sumFrom_3 : decode b_B_sumFrom 3 = .ok (.istore_n 3, 1) := by decide +kernel
theorem d_B_sumFrom_4 : decode b_B_sumFrom 4 = .ok (.iload_n 3, 1) := by decide +kernel
theorem d_B_sumFrom_5 : decode b_B_sumFrom 5 = .ok (.bipush 6, 2) := by decide +kernel
theorem d_B_sumFrom_7 : decode b_B_sumFrom 7 = .ok (.if_icmp .ge 22, 3) := by decide +kernel
theorem d_B_sumFrom_10 : decode b_B_sumFrom 10 = .ok (.iload_n 2, 1) := by decide +kernel
theorem d_B_sumFrom_11 : decode b_B_sumFrom 11 = .ok (.aload_n 0, 1) := by decide +kernel
theorem d_B_sumFrom_12 : decode b_B_sumFrom 12 = .ok (.getfield 15, 3) := by decide +kernel
theorem d_B_sumFrom_15 : decode b_B_sumFrom 15 = .ok (.iload_n 1, 1) := by decide +kernel
theorem d_B_sumFrom_16 : decode b_B_sumFrom 16 = .ok (.iload_n 3, 1) := by decide +kernel
theorem d_B_sumFrom_17 : decode b_B_sumFrom 17 = .ok (.invokestatic 57, 3) := by decide +kernel
theorem d_B_sumFrom_20 : decode b_B_sumFrom 20 = .ok (.iaload, 1) := by decide +kernel
theorem d_B_sumFrom_21 : decode b_B_sumFrom 21 = .ok (.iadd, 1) := by decide +kernel
theorem d_B_sumFrom_22 : decode b_B_sumFrom 22 = .ok (.istore_n 2, 1) := by decide +kernel
theorem d_B_sumFrom_23 : decode b_B_sumFrom 23 = .ok (.iinc 3 1, 3) := by decide +kernel
theorem d_B_sumFrom_26 : decode b_B_sumFrom 26 = .ok (.goto (-22), 3) := by decide +kernel
theorem d_B_sumFrom_29 : decode b_B_sumFrom 29 = .ok (.iload_n 2, 1) := by decide +kernel
theorem d_B_sumFrom_30 : decode b_B_sumFrom 30 = .ok (.ireturn, 1) := by decide +kernel
theorem d_B_sumTo_0 : decode b_B_sumTo 0 = .ok (.iconst 0, 1) := by decide +kernel
theorem d_B_sumTo_1 : decode b_B_sumTo 1 = .ok (.istore_n 2, 1) := by decide +kernel
theorem d_B_sumTo_2 : decode b_B_sumTo 2 = .ok (.iconst 0, 1) := by decide +kernel
theorem d_B_sumTo_3 : decode b_B_sumTo 3 = .ok (.istore_n 3, 1) := by decide +kernel
theorem d_B_sumTo_4 : decode b_B_sumTo 4 = .ok (.iload_n 3, 1) := by decide +kernel
theorem d_B_sumTo_5 : decode b_B_sumTo 5 = .ok (.bipush 6, 2) := by decide +kernel
theorem d_B_sumTo_7 : decode b_B_sumTo 7 = .ok (.if_icmp .ge 22, 3) := by decide +kernel
theorem d_B_sumTo_10 : decode b_B_sumTo 10 = .ok (.iload_n 2, 1) := by decide +kernel
theorem d_B_sumTo_11 : decode b_B_sumTo 11 = .ok (.aload_n 0, 1) := by decide +kernel
theorem d_B_sumTo_12 : decode b_B_sumTo 12 = .ok (.getfield 15, 3) := by decide +kernel
theorem d_B_sumTo_15 : decode b_B_sumTo 15 = .ok (.iload_n 3, 1) := by decide +kernel
theorem d_B_sumTo_16 : decode b_B_sumTo 16 = .ok (.iload_n 1, 1) := by decide +kernel
theorem d_B_sumTo_17 : decode b_B_sumTo 17 = .ok (.invokestatic 57, 3) := by decide +kernel
theorem d_B_sumTo_20 : decode b_B_sumTo 20 = .ok (.iaload, 1) := by decide +kernel
theorem d_B_sumTo_21 : decode b_B_sumTo 21 = .ok (.iadd, 1) := by decide +kernel
theorem d_B_sumTo_22 : decode b_B_sumTo 22 = .ok (.istore_n 2, 1) := by decide +kernel
theorem d_B_sumTo_23 : decode b_B_sumTo 23 = .ok (.iinc 3 1, 3) := by decide +kernel
theorem d_B_sumTo_26 : decode b_B_sumTo 26 = .ok (.goto (-22), 3) := by decide +kernel
theorem d_B_sumTo_29 : decode b_B_sumTo 29 = .ok (.iload_n 2, 1) := by decide +kernel
theorem d_B_sumTo_30 : decode b_B_sumTo 30 = .ok (.ireturn, 1) := by decide +kernel
theorem d_M_init_0 : decode b_M_init 0 = .ok (.aload_n 0, 1) := by decide +kernel
theorem d_M_init_1 : decode b_M_init 1 = .ok (.invokespecial 3, 3) := by decide +kernel
theorem d_M_init_4 : decode b_M_init 4 = .ok (.aload_n 0, 1) := by decide +kernel
theorem d_M_init_5 : decode b_M_init 5 = .ok (.bipush 108, 2) := by decide +kernel
theorem d_M_init_7 : decode b_M_init 7 = .ok (.newarray .int, 2) := by decide +kernel
theorem d_M_init_9 : decode b_M_init 9 = .ok (.putfield 9, 3) := by decide +kernel
theorem d_M_init_12 : decode b_M_init 12 = .ok (.aload_n 0, 1) := by decide +kernel
theorem d_M_init_13 : decode b_M_init 13 = .ok (.new 15, 3) := by decide +kernel
theorem d_M_init_16 : decode b_M_init 16 = .ok (.dup, 1) := by decide +kernel
theorem d_M_init_17 : decode b_M_init 17 = .ok (.iconst 3, 1) := by decide +kernel
theorem d_M_init_18 : decode b_M_init 18 = .ok (.invokespecial 17, 3) := by decide +kernel
theorem d_M_init_21 : decode b_M_init 21 = .ok (.putfield 20, 3) := by decide +kernel
theorem d_M_init_24 : decode b_M_init 24 = .ok (.iconst 0, 1) := by decide +kernel
theorem d_M_init_25 : decode b_M_init 25 = .ok (.istore_n 1, 1) := by decide +kernel
theorem d_M_init_26 : decode b_M_init 26 = .ok (.iload_n 1, 1) := by decide +kernel
theorem d_M_init_27 : decode b_M_init 27 = .ok (.bipush 36, 2) := by decide +kernel
theorem d_M_init_29 : decode b_M_init 29 = .ok (.if_icmp .ge 22, 3) := by decide +kernel
theorem d_M_init_32 : decode b_M_init 32 = .ok (.aload_n 0, 1) := by decide +kernel
theorem d_M_init_33 : decode b_M_init 33 = .ok (.getfield 9, 3) := by decide +kernel
theorem d_M_init_36 : decode b_M_init 36 = .ok (.iconst 0, 1) := by decide +kernel
theorem d_M_init_37 : decode b_M_init 37 = .ok (.iload_n 1, 1) := by decide +kernel
theorem d_M_init_38 : decode b_M_init 38 = .ok (.invokestatic 24, 3) := by decide +kernel
theorem d_M_init_41 : decode b_M_init 41 = .ok (.sipush 1000, 3) := by decide +kernel
theorem d_M_init_44 : decode b_M_init 44 = .ok (.iastore, 1) := by decide +kernel
theorem d_M_init_45 : decode b_M_init 45 = .ok (.iinc 1 1, 3) := by decide +kernel
theorem d_M_init_48 : decode b_M_init 48 = .ok (.goto (-22), 3) := by decide +kernel
theorem d_M_init_51 : decode b_M_init 51 = .ok (.return_, 1) := by decide +kernel
theorem d_M_placeOf_0 : decode b_M_placeOf 0 = .ok (.iload_n 0, 1) := by decide +kernel
theorem d_M_placeOf_1 : decode b_M_placeOf 1 = .ok (.bipush 36, 2) := by decide +kernel
theorem d_M_placeOf_3 : decode b_M_placeOf 3 = .ok (.imul, 1) := by decide +kernel
theorem d_M_placeOf_4 : decode b_M_placeOf 4 = .ok (.iload_n 1, 1) := by decide +kernel
theorem d_M_placeOf_5 : decode b_M_placeOf 5 = .ok (.iadd, 1) := by decide +kernel
theorem d_M_placeOf_6 : decode b_M_placeOf 6 = .ok (.ireturn, 1) := by decide +kernel
theorem d_M_tripsBy_0 : decode b_M_tripsBy 0 = .ok (.iconst 0, 1) := by decide +kernel
theorem d_M_tripsBy_1 : decode b_M_tripsBy 1 = .ok (.istore 4, 2) := by decide +kernel
theorem d_M_tripsBy_3 : decode b_M_tripsBy 3 = .ok (.iload 4, 2) := by decide +kernel
theorem d_M_tripsBy_5 : decode b_M_tripsBy 5 = .ok (.iconst 3, 1) := by decide +kernel
theorem d_M_tripsBy_6 : decode b_M_tripsBy 6 = .ok (.if_icmp .ge 31, 3) := by decide +kernel
theorem d_M_tripsBy_9 : decode b_M_tripsBy 9 = .ok (.aload_n 0, 1) := by decide +kernel
theorem d_M_tripsBy_10 : decode b_M_tripsBy 10 = .ok (.getfield 20, 3) := by decide +kernel
theorem d_M_tripsBy_13 : decode b_M_tripsBy 13 = .ok (.getfield 28, 3) := by decide +kernel
theorem d_M_tripsBy_16 : decode b_M_tripsBy 16 = .ok (.iload 4, 2) := by decide +kernel
theorem d_M_tripsBy_18 : decode b_M_tripsBy 18 = .ok (.aload_n 0, 1) := by decide +kernel
theorem d_M_tripsBy_19 : decode b_M_tripsBy 19 = .ok (.getfield 9, 3) := by decide +kernel
theorem d_M_tripsBy_22 : decode b_M_tripsBy 22 = .ok (.iload 4, 2) := by decide +kernel
theorem d_M_tripsBy_24 : decode b_M_tripsBy 24 = .ok (.iload_n 2, 1) := by decide +kernel
theorem d_M_tripsBy_25 : decode b_M_tripsBy 25 = .ok (.invokestatic 24, 3) := by decide +kernel
theorem d_M_tripsBy_28 : decode b_M_tripsBy 28 = .ok (.iaload, 1) := by decide +kernel
theorem d_M_tripsBy_29 : decode b_M_tripsBy 29 = .ok (.i2l, 1) := by decide +kernel
theorem d_M_tripsBy_30 : decode b_M_tripsBy 30 = .ok (.lastore, 1) := by decide +kernel
theorem d_M_tripsBy_31 : decode b_M_tripsBy 31 = .ok (.iinc 4 1, 3) := by decide +kernel
theorem d_M_tripsBy_34 : decode b_M_tripsBy 34 = .ok (.goto (-31), 3) := by decide +kernel
theorem d_M_tripsBy_37 : decode b_M_tripsBy 37 = .ok (.aload_n 0, 1) := by decide +kernel
theorem d_M_tripsBy_38 : decode b_M_tripsBy 38 = .ok (.getfield 20, 3) := by decide +kernel
theorem d_M_tripsBy_41 : decode b_M_tripsBy 41 = .ok (.iload_n 3, 1) := by decide +kernel
theorem d_M_tripsBy_42 : decode b_M_tripsBy 42 = .ok (.iconst 3, 1) := by decide +kernel
theorem d_M_tripsBy_43 : decode b_M_tripsBy 43 = .ok (.invokevirtual 32, 3) := by decide +kernel
theorem d_M_tripsBy_46 : decode b_M_tripsBy 46 = .ok (.aload_n 0, 1) := by decide +kernel
theorem d_M_tripsBy_47 : decode b_M_tripsBy 47 = .ok (.getfield 20, 3) := by decide +kernel
theorem d_M_tripsBy_50 : decode b_M_tripsBy 50 = .ok (.getfield 36, 3) := by decide +kernel
theorem d_M_tripsBy_53 : decode b_M_tripsBy 53 = .ok (.iload_n 1, 1) := by decide +kernel
theorem d_M_tripsBy_54 : decode b_M_tripsBy 54 = .ok (.iaload, 1) := by decide +kernel
theorem d_M_tripsBy_55 : decode b_M_tripsBy 55 = .ok (.ireturn, 1) := by decide +kernel
theorem d_S_init_0 : decode b_S_init 0 = .ok (.aload_n 0, 1) := by decide +kernel
theorem d_S_init_1 : decode b_S_init 1 = .ok (.invokespecial 3, 3) := by decide +kernel
theorem d_S_init_4 : decode b_S_init 4 = .ok (.aload_n 0, 1) := by decide +kernel
theorem d_S_init_5 : decode b_S_init 5 = .ok (.iconst 0, 1) := by decide +kernel
theorem d_S_init_6 : decode b_S_init 6 = .ok (.putfield 9, 3) := by decide +kernel
theorem d_S_init_9 : decode b_S_init 9 = .ok (.aload_n 0, 1) := by decide +kernel
theorem d_S_init_10 : decode b_S_init 10 = .ok (.bipush 40, 2) := by decide +kernel
theorem d_S_init_12 : decode b_S_init 12 = .ok (.newarray .int, 2) := by decide +kernel
theorem d_S_init_14 : decode b_S_init 14 = .ok (.putfield 15, 3) := by decide +kernel
theorem d_S_init_17 : decode b_S_init 17 = .ok (.aload_n 0, 1) := by decide +kernel
theorem d_S_init_18 : decode b_S_init 18 = .ok (.bipush 40, 2) := by decide +kernel
theorem d_S_init_20 : decode b_S_init 20 = .ok (.newarray .int, 2) := by decide +kernel
theorem d_S_init_22 : decode b_S_init 22 = .ok (.putfield 19, 3) := by decide +kernel
theorem d_S_init_25 : decode b_S_init 25 = .ok (.aload_n 0, 1) := by decide +kernel
theorem d_S_init_26 : decode b_S_init 26 = .ok (.bipush 40, 2) := by decide +kernel
theorem d_S_init_28 : decode b_S_init 28 = .ok (.newarray .int, 2) := by decide +kernel
theorem d_S_init_30 : decode b_S_init 30 = .ok (.putfield 22, 3) := by decide +kernel
theorem d_S_init_33 : decode b_S_init 33 = .ok (.aload_n 0, 1) := by decide +kernel
theorem d_S_init_34 : decode b_S_init 34 = .ok (.bipush 40, 2) := by decide +kernel
theorem d_S_init_36 : decode b_S_init 36 = .ok (.newarray .int, 2) := by decide +kernel
theorem d_S_init_38 : decode b_S_init 38 = .ok (.putfield 25, 3) := by decide +kernel
theorem d_S_init_41 : decode b_S_init 41 = .ok (.aload_n 0, 1) := by decide +kernel
theorem d_S_init_42 : decode b_S_init 42 = .ok (.bipush 40, 2) := by decide +kernel
theorem d_S_init_44 : decode b_S_init 44 = .ok (.newarray .int, 2) := by decide +kernel
theorem d_S_init_46 : decode b_S_init 46 = .ok (.putfield 28, 3) := by decide +kernel
theorem d_S_init_49 : decode b_S_init 49 = .ok (.aload_n 0, 1) := by decide +kernel
theorem d_S_init_50 : decode b_S_init 50 = .ok (.bipush 40, 2) := by decide +kernel
theorem d_S_init_52 : decode b_S_init 52 = .ok (.newarray .int, 2) := by decide +kernel
theorem d_S_init_54 : decode b_S_init 54 = .ok (.putfield 31, 3) := by decide +kernel
theorem d_S_init_57 : decode b_S_init 57 = .ok (.aload_n 0, 1) := by decide +kernel
theorem d_S_init_58 : decode b_S_init 58 = .ok (.bipush 40, 2) := by decide +kernel
theorem d_S_init_60 : decode b_S_init 60 = .ok (.newarray .boolean, 2) := by decide +kernel
theorem d_S_init_62 : decode b_S_init 62 = .ok (.putfield 34, 3) := by decide +kernel
theorem d_S_init_65 : decode b_S_init 65 = .ok (.aload_n 0, 1) := by decide +kernel
theorem d_S_init_66 : decode b_S_init 66 = .ok (.bipush 40, 2) := by decide +kernel
theorem d_S_init_68 : decode b_S_init 68 = .ok (.newarray .int, 2) := by decide +kernel
theorem d_S_init_70 : decode b_S_init 70 = .ok (.putfield 38, 3) := by decide +kernel
theorem d_S_init_73 : decode b_S_init 73 = .ok (.aload_n 0, 1) := by decide +kernel
theorem d_S_init_74 : decode b_S_init 74 = .ok (.bipush 40, 2) := by decide +kernel
theorem d_S_init_76 : decode b_S_init 76 = .ok (.newarray .int, 2) := by decide +kernel
theorem d_S_init_78 : decode b_S_init 78 = .ok (.putfield 41, 3) := by decide +kernel
theorem d_S_init_81 : decode b_S_init 81 = .ok (.aload_n 0, 1) := by decide +kernel
theorem d_S_init_82 : decode b_S_init 82 = .ok (.getfield 28, 3) := by decide +kernel
theorem d_S_init_85 : decode b_S_init 85 = .ok (.iconst 1, 1) := by decide +kernel
theorem d_S_init_86 : decode b_S_init 86 = .ok (.invokestatic 44, 3) := by decide +kernel
theorem d_S_init_89 : decode b_S_init 89 = .ok (.aload_n 0, 1) := by decide +kernel
theorem d_S_init_90 : decode b_S_init 90 = .ok (.getfield 38, 3) := by decide +kernel
theorem d_S_init_93 : decode b_S_init 93 = .ok (.iconst (-1), 1) := by decide +kernel
theorem d_S_init_94 : decode b_S_init 94 = .ok (.invokestatic 44, 3) := by decide +kernel
theorem d_S_init_97 : decode b_S_init 97 = .ok (.return_, 1) := by decide +kernel
theorem d_S_addStreet_0 : decode b_S_addStreet 0 = .ok (.aload_n 0, 1) := by decide +kernel
theorem d_S_addStreet_1 : decode b_S_addStreet 1 = .ok (.getfield 15, 3) := by decide +kernel
theorem d_S_addStreet_4 : decode b_S_addStreet 4 = .ok (.aload_n 0, 1) := by decide +kernel
theorem d_S_addStreet_5 : decode b_S_addStreet 5 = .ok (.getfield 9, 3) := by decide +kernel
theorem d_S_addStreet_8 : decode b_S_addStreet 8 = .ok (.iload_n 1, 1) := by decide +kernel
theorem d_S_addStreet_9 : decode b_S_addStreet 9 = .ok (.iastore, 1) := by decide +kernel
theorem d_S_addStreet_10 : decode b_S_addStreet 10 = .ok (.aload_n 0, 1) := by decide +kernel
theorem d_S_addStreet_11 : decode b_S_addStreet 11 = .ok (.getfield 19, 3) := by decide +kernel
theorem d_S_addStreet_14 : decode b_S_addStreet 14 = .ok (.aload_n 0, 1) := by decide +kernel
theorem d_S_addStreet_15 : decode b_S_addStreet 15 = .ok (.getfield 9, 3) := by decide +kernel
theorem d_S_addStreet_18 : decode b_S_addStreet 18 = .ok (.iload_n 2, 1) := by decide +kernel
theorem d_S_addStreet_19 : decode b_S_addStreet 19 = .ok (.iastore, 1) := by decide +kernel
theorem d_S_addStreet_20 : decode b_S_addStreet 20 = .ok (.aload_n 0, 1) := by decide +kernel
theorem d_S_addStreet_21 : decode b_S_addStreet 21 = .ok (.getfield 22, 3) := by decide +kernel
theorem d_S_addStreet_24 : decode b_S_addStreet 24 = .ok (.aload_n 0, 1) := by decide +kernel
theorem d_S_addStreet_25 : decode b_S_addStreet 25 = .ok (.getfield 9, 3) := by decide +kernel
theorem d_S_addStreet_28 : decode b_S_addStreet 28 = .ok (.iload_n 3, 1) := by decide +kernel
theorem d_S_addStreet_29 : decode b_S_addStreet 29 = .ok (.iastore, 1) := by decide +kernel
theorem d_S_addStreet_30 : decode b_S_addStreet 30 = .ok (.aload_n 0, 1) := by decide +kernel
theorem d_S_addStreet_31 : decode b_S_addStreet 31 = .ok (.getfield 25, 3) := by decide +kernel
theorem d_S_addStreet_34 : decode b_S_addStreet 34 = .ok (.aload_n 0, 1) := by decide +kernel
theorem d_S_addStreet_35 : decode b_S_addStreet 35 = .ok (.getfield 9, 3) := by decide +kernel
theorem d_S_addStreet_38 : decode b_S_addStreet 38 = .ok (.iload 4, 2) := by decide +kernel
theorem d_S_addStreet_40 : decode b_S_addStreet 40 = .ok (.iastore, 1) := by decide +kernel
theorem d_S_addStreet_41 : decode b_S_addStreet 41 = .ok (.aload_n 0, 1) := by decide +kernel
theorem d_S_addStreet_42 : decode b_S_addStreet 42 = .ok (.getfield 28, 3) := by decide +kernel
theorem d_S_addStreet_45 : decode b_S_addStreet 45 = .ok (.aload_n 0, 1) := by decide +kernel
theorem d_S_addStreet_46 : decode b_S_addStreet 46 = .ok (.getfield 9, 3) := by decide +kernel
theorem d_S_addStreet_49 : decode b_S_addStreet 49 = .ok (.iload 5, 2) := by decide +kernel
theorem d_S_addStreet_51 : decode b_S_addStreet 51 = .ok (.iastore, 1) := by decide +kernel
theorem d_S_addStreet_52 : decode b_S_addStreet 52 = .ok (.aload_n 0, 1) := by decide +kernel
theorem d_S_addStreet_53 : decode b_S_addStreet 53 = .ok (.getfield 34, 3) := by decide +kernel
theorem d_S_addStreet_56 : decode b_S_addStreet 56 = .ok (.aload_n 0, 1) := by decide +kernel
theorem d_S_addStreet_57 : decode b_S_addStreet 57 = .ok (.getfield 9, 3) := by decide +kernel
theorem d_S_addStreet_60 : decode b_S_addStreet 60 = .ok (.iconst 1, 1) := by decide +kernel
theorem d_S_addStreet_61 : decode b_S_addStreet 61 = .ok (.bastore, 1) := by decide +kernel
theorem d_S_addStreet_62 : decode b_S_addStreet 62 = .ok (.aload_n 0, 1) := by decide +kernel
theorem d_S_addStreet_63 : decode b_S_addStreet 63 = .ok (.dup, 1) := by decide +kernel
theorem d_S_addStreet_64 : decode b_S_addStreet 64 = .ok (.getfield 9, 3) := by decide +kernel
theorem d_S_addStreet_67 : decode b_S_addStreet 67 = .ok (.dup_x1, 1) := by decide +kernel
theorem d_S_addStreet_68 : decode b_S_addStreet 68 = .ok (.iconst 1, 1) := by decide +kernel
theorem d_S_addStreet_69 : decode b_S_addStreet 69 = .ok (.iadd, 1) := by decide +kernel
theorem d_S_addStreet_70 : decode b_S_addStreet 70 = .ok (.putfield 9, 3) := by decide +kernel
theorem d_S_addStreet_73 : decode b_S_addStreet 73 = .ok (.ireturn, 1) := by decide +kernel
theorem d_S_timeOf_0 : decode b_S_timeOf 0 = .ok (.aload_n 0, 1) := by decide +kernel
theorem d_S_timeOf_1 : decode b_S_timeOf 1 = .ok (.getfield 25, 3) := by decide +kernel
theorem d_S_timeOf_4 : decode b_S_timeOf 4 = .ok (.iload_n 1, 1) := by decide +kernel
theorem d_S_timeOf_5 : decode b_S_timeOf 5 = .ok (.iaload, 1) := by decide +kernel
theorem d_S_timeOf_6 : decode b_S_timeOf 6 = .ok (.i2l, 1) := by decide +kernel
theorem d_S_timeOf_7 : decode b_S_timeOf 7 = .ok (.aload_n 0, 1) := by decide +kernel
theorem d_S_timeOf_8 : decode b_S_timeOf 8 = .ok (.getfield 41, 3) := by decide +kernel
theorem d_S_timeOf_11 : decode b_S_timeOf 11 = .ok (.iload_n 1, 1) := by decide +kernel
theorem d_S_timeOf_12 : decode b_S_timeOf 12 = .ok (.iaload, 1) := by decide +kernel
theorem d_S_timeOf_13 : decode b_S_timeOf 13 = .ok (.i2l, 1) := by decide +kernel
theorem d_S_timeOf_14 : decode b_S_timeOf 14 = .ok (.lmul, 1) := by decide +kernel
theorem d_S_timeOf_15 : decode b_S_timeOf 15 = .ok (.aload_n 0, 1) := by decide +kernel
theorem d_S_timeOf_16 : decode b_S_timeOf 16 = .ok (.getfield 28, 3) := by decide +kernel
theorem d_S_timeOf_19 : decode b_S_timeOf 19 = .ok (.iload_n 1, 1) := by decide +kernel
theorem d_S_timeOf_20 : decode b_S_timeOf 20 = .ok (.iaload, 1) := by decide +kernel
theorem d_S_timeOf_21 : decode b_S_timeOf 21 = .ok (.i2l, 1) := by decide +kernel
theorem d_S_timeOf_22 : decode b_S_timeOf 22 = .ok (.ldiv, 1) := by decide +kernel
theorem d_S_timeOf_23 : decode b_S_timeOf 23 = .ok (.lstore_n 2, 1) := by decide +kernel
theorem d_S_timeOf_24 : decode b_S_timeOf 24 = .ok (.aload_n 0, 1) := by decide +kernel
theorem d_S_timeOf_25 : decode b_S_timeOf 25 = .ok (.getfield 22, 3) := by decide +kernel
theorem d_S_timeOf_28 : decode b_S_timeOf 28 = .ok (.iload_n 1, 1) := by decide +kernel
theorem d_S_timeOf_29 : decode b_S_timeOf 29 = .ok (.iaload, 1) := by decide +kernel
theorem d_S_timeOf_30 : decode b_S_timeOf 30 = .ok (.i2l, 1) := by decide +kernel
theorem d_S_timeOf_31 : decode b_S_timeOf 31 = .ok (.lload_n 2, 1) := by decide +kernel
theorem d_S_timeOf_32 : decode b_S_timeOf 32 = .ok (.ladd, 1) := by decide +kernel
theorem d_S_timeOf_33 : decode b_S_timeOf 33 = .ok (.aload_n 0, 1) := by decide +kernel
theorem d_S_timeOf_34 : decode b_S_timeOf 34 = .ok (.getfield 31, 3) := by decide +kernel
theorem d_S_timeOf_37 : decode b_S_timeOf 37 = .ok (.iload_n 1, 1) := by decide +kernel
theorem d_S_timeOf_38 : decode b_S_timeOf 38 = .ok (.iaload, 1) := by decide +kernel
theorem d_S_timeOf_39 : decode b_S_timeOf 39 = .ok (.i2l, 1) := by decide +kernel
theorem d_S_timeOf_40 : decode b_S_timeOf 40 = .ok (.ladd, 1) := by decide +kernel
theorem d_S_timeOf_41 : decode b_S_timeOf 41 = .ok (.ldc2_w 50, 3) := by decide +kernel
theorem d_S_timeOf_44 : decode b_S_timeOf 44 = .ok (.invokestatic 52, 3) := by decide +kernel
theorem d_S_timeOf_47 : decode b_S_timeOf 47 = .ok (.l2i, 1) := by decide +kernel
theorem d_S_timeOf_48 : decode b_S_timeOf 48 = .ok (.ireturn, 1) := by decide +kernel
theorem d_S_farthestFromCount_0 : decode b_S_farthestFromCount 0 = .ok (.iconst (-1), 1) := by decide +kernel
theorem d_S_farthestFromCount_1 : decode b_S_farthestFromCount 1 = .ok (.istore_n 1, 1) := by decide +kernel
theorem d_S_farthestFromCount_2 : decode b_S_farthestFromCount 2 = .ok (.iconst 0, 1) := by decide +kernel
theorem d_S_farthestFromCount_3 : decode b_S_farthestFromCount 3 = .ok (.istore_n 2, 1) := by decide +kernel
theorem d_S_farthestFromCount_4 : decode b_S_farthestFromCount 4 = .ok (.iconst 0, 1) := by decide +kernel
theorem d_S_farthestFromCount_5 : decode b_S_farthestFromCount 5 = .ok (.istore_n 3, 1) := by decide +kernel
theorem d_S_farthestFromCount_6 : decode b_S_farthestFromCount 6 = .ok (.iload_n 3, 1) := by decide +kernel
theorem d_S_farthestFromCount_7 : decode b_S_farthestFromCount 7 = .ok (.aload_n 0, 1) := by decide +kernel
theorem d_S_farthestFromCount_8 : decode b_S_farthestFromCount 8 = .ok (.getfield 9, 3) := by decide +kernel
theorem d_S_farthestFromCount_11 : decode b_S_farthestFromCount 11 = .ok (.if_icmp .ge 52, 3) := by decide +kernel
theorem d_S_farthestFromCount_14 : decode b_S_farthestFromCount 14 = .ok (.aload_n 0, 1) := by decide +kernel
theorem d_S_farthestFromCount_15 : decode b_S_farthestFromCount 15 = .ok (.getfield 38, 3) := by decide +kernel
theorem d_S_farthestFromCount_18 : decode b_S_farthestFromCount 18 = .ok (.iload_n 3, 1) := by decide +kernel
theorem d_S_farthestFromCount_19 : decode b_S_farthestFromCount 19 = .ok (.iaload, 1) := by decide +kernel
theorem d_S_farthestFromCount_20 : decode b_S_farthestFromCount 20 = .ok (.iconst (-1), 1) := by decide +kernel
theorem d_S_farthestFromCount_21 : decode b_S_farthestFromCount 21 = .ok (.if_icmp .ne 7, 3) := by decide +kernel
theorem d_S_farthestFromCount_24 : decode b_S_farthestFromCount 24 = .ok (.iconst 0, 1) := by decide +kernel
theorem d_S_farthestFromCount_25 : decode b_S_farthestFromCount 25 = .ok (.goto 19, 3) := by decide +kernel
theorem d_S_farthestFromCount_28 : decode b_S_farthestFromCount 28 = .ok (.aload_n 0, 1) := by decide +kernel
theorem d_S_farthestFromCount_29 : decode b_S_farthestFromCount 29 = .ok (.getfield 41, 3) := by decide +kernel
theorem d_S_farthestFromCount_32 : decode b_S_farthestFromCount 32 = .ok (.iload_n 3, 1) := by decide +kernel
theorem d_S_farthestFromCount_33 : decode b_S_farthestFromCount 33 = .ok (.iaload, 1) := by decide +kernel
theorem d_S_farthestFromCount_34 : decode b_S_farthestFromCount 34 = .ok (.aload_n 0, 1) := by decide +kernel
theorem d_S_farthestFromCount_35 : decode b_S_farthestFromCount 35 = .ok (.getfield 38, 3) := by decide +kernel
theorem d_S_farthestFromCount_38 : decode b_S_farthestFromCount 38 = .ok (.iload_n 3, 1) := by decide +kernel
theorem d_S_farthestFromCount_39 : decode b_S_farthestFromCount 39 = .ok (.iaload, 1) := by decide +kernel
theorem d_S_farthestFromCount_40 : decode b_S_farthestFromCount 40 = .ok (.isub, 1) := by decide +kernel
theorem d_S_farthestFromCount_41 : decode b_S_farthestFromCount 41 = .ok (.invokestatic 58, 3) := by decide +kernel
theorem d_S_farthestFromCount_44 : decode b_S_farthestFromCount 44 = .ok (.istore 4, 2) := by decide +kernel
theorem d_S_farthestFromCount_46 : decode b_S_farthestFromCount 46 = .ok (.iload 4, 2) := by decide +kernel
theorem d_S_farthestFromCount_48 : decode b_S_farthestFromCount 48 = .ok (.iload_n 2, 1) := by decide +kernel
theorem d_S_farthestFromCount_49 : decode b_S_farthestFromCount 49 = .ok (.if_icmp .le 8, 3) := by decide +kernel
theorem d_S_farthestFromCount_52 : decode b_S_farthestFromCount 52 = .ok (.iload_n 3, 1) := by decide +kernel
theorem d_S_farthestFromCount_53 : decode b_S_farthestFromCount 53 = .ok (.istore_n 1, 1) := by decide +kernel
theorem d_S_farthestFromCount_54 : decode b_S_farthestFromCount 54 = .ok (.iload 4, 2) := by decide +kernel
theorem d_S_farthestFromCount_56 : decode b_S_farthestFromCount 56 = .ok (.istore_n 2, 1) := by decide +kernel
theorem d_S_farthestFromCount_57 : decode b_S_farthestFromCount 57 = .ok (.iinc 3 1, 3) := by decide +kernel
theorem d_S_farthestFromCount_60 : decode b_S_farthestFromCount 60 = .ok (.goto (-54), 3) := by decide +kernel
theorem d_S_farthestFromCount_63 : decode b_S_farthestFromCount 63 = .ok (.iload_n 1, 1) := by decide +kernel
theorem d_S_farthestFromCount_64 : decode b_S_farthestFromCount 64 = .ok (.ireturn, 1) := by decide +kernel
theorem d_W_init_0 : decode b_W_init 0 = .ok (.aload_n 0, 1) := by decide +kernel
theorem d_W_init_1 : decode b_W_init 1 = .ok (.invokespecial 3, 3) := by decide +kernel
theorem d_W_init_4 : decode b_W_init 4 = .ok (.aload_n 0, 1) := by decide +kernel
theorem d_W_init_5 : decode b_W_init 5 = .ok (.bipush 40, 2) := by decide +kernel
theorem d_W_init_7 : decode b_W_init 7 = .ok (.newarray .int, 2) := by decide +kernel
theorem d_W_init_9 : decode b_W_init 9 = .ok (.putfield 9, 3) := by decide +kernel
theorem d_W_init_12 : decode b_W_init 12 = .ok (.aload_n 0, 1) := by decide +kernel
theorem d_W_init_13 : decode b_W_init 13 = .ok (.bipush 12, 2) := by decide +kernel
theorem d_W_init_15 : decode b_W_init 15 = .ok (.newarray .long, 2) := by decide +kernel
theorem d_W_init_17 : decode b_W_init 17 = .ok (.putfield 15, 3) := by decide +kernel
theorem d_W_init_20 : decode b_W_init 20 = .ok (.aload_n 0, 1) := by decide +kernel
theorem d_W_init_21 : decode b_W_init 21 = .ok (.bipush 12, 2) := by decide +kernel
theorem d_W_init_23 : decode b_W_init 23 = .ok (.newarray .int, 2) := by decide +kernel
theorem d_W_init_25 : decode b_W_init 25 = .ok (.putfield 19, 3) := by decide +kernel
theorem d_W_init_28 : decode b_W_init 28 = .ok (.return_, 1) := by decide +kernel
theorem d_W_holdTimes_0 : decode b_W_holdTimes 0 = .ok (.iconst 0, 1) := by decide +kernel
theorem d_W_holdTimes_1 : decode b_W_holdTimes 1 = .ok (.istore_n 2, 1) := by decide +kernel
theorem d_W_holdTimes_2 : decode b_W_holdTimes 2 = .ok (.iload_n 2, 1) := by decide +kernel
theorem d_W_holdTimes_3 : decode b_W_holdTimes 3 = .ok (.aload_n 1, 1) := by decide +kernel
theorem d_W_holdTimes_4 : decode b_W_holdTimes 4 = .ok (.getfield 22, 3) := by decide +kernel
theorem d_W_holdTimes_7 : decode b_W_holdTimes 7 = .ok (.if_icmp .ge 20, 3) := by decide +kernel
theorem d_W_holdTimes_10 : decode b_W_holdTimes 10 = .ok (.aload_n 0, 1) := by decide +kernel
theorem d_W_holdTimes_11 : decode b_W_holdTimes 11 = .ok (.getfield 9, 3) := by decide +kernel
theorem d_W_holdTimes_14 : decode b_W_holdTimes 14 = .ok (.iload_n 2, 1) := by decide +kernel
theorem d_W_holdTimes_15 : decode b_W_holdTimes 15 = .ok (.aload_n 1, 1) := by decide +kernel
theorem d_W_holdTimes_16 : decode b_W_holdTimes 16 = .ok (.iload_n 2, 1) := by decide +kernel
theorem d_W_holdTimes_17 : decode b_W_holdTimes 17 = .ok (.invokevirtual 28, 3) := by decide +kernel
theorem d_W_holdTimes_20 : decode b_W_holdTimes 20 = .ok (.iastore, 1) := by decide +kernel
theorem d_W_holdTimes_21 : decode b_W_holdTimes 21 = .ok (.iinc 2 1, 3) := by decide +kernel
theorem d_W_holdTimes_24 : decode b_W_holdTimes 24 = .ok (.goto (-22), 3) := by decide +kernel
theorem d_W_holdTimes_27 : decode b_W_holdTimes 27 = .ok (.return_, 1) := by decide +kernel
theorem d_W_aimAt_0 : decode b_W_aimAt 0 = .ok (.aload_n 0, 1) := by decide +kernel
theorem d_W_aimAt_1 : decode b_W_aimAt 1 = .ok (.getfield 15, 3) := by decide +kernel
theorem d_W_aimAt_4 : decode b_W_aimAt 4 = .ok (.ldc2_w 32, 3) := by decide +kernel
theorem d_W_aimAt_7 : decode b_W_aimAt 7 = .ok (.invokestatic 34, 3) := by decide +kernel
theorem d_W_aimAt_10 : decode b_W_aimAt 10 = .ok (.aload_n 0, 1) := by decide +kernel
theorem d_W_aimAt_11 : decode b_W_aimAt 11 = .ok (.getfield 15, 3) := by decide +kernel
theorem d_W_aimAt_14 : decode b_W_aimAt 14 = .ok (.iload_n 1, 1) := by decide +kernel
theorem d_W_aimAt_15 : decode b_W_aimAt 15 = .ok (.lconst 0, 1) := by decide +kernel
theorem d_W_aimAt_16 : decode b_W_aimAt 16 = .ok (.lastore, 1) := by decide +kernel
theorem d_W_aimAt_17 : decode b_W_aimAt 17 = .ok (.iconst 1, 1) := by decide +kernel
theorem d_W_aimAt_18 : decode b_W_aimAt 18 = .ok (.istore_n 3, 1) := by decide +kernel
theorem d_W_aimAt_19 : decode b_W_aimAt 19 = .ok (.iconst 0, 1) := by decide +kernel
theorem d_W_aimAt_20 : decode b_W_aimAt 20 = .ok (.istore 4, 2) := by decide +kernel
theorem d_W_aimAt_22 : decode b_W_aimAt 22 = .ok (.iload 4, 2) := by decide +kernel
theorem d_W_aimAt_24 : decode b_W_aimAt 24 = .ok (.bipush 12, 2) := by decide +kernel
theorem d_W_aimAt_26 : decode b_W_aimAt 26 = .ok (.if_icmp .ge 19, 3) := by decide +kernel
theorem d_W_aimAt_29 : decode b_W_aimAt 29 = .ok (.iload_n 3, 1) := by decide +kernel
theorem d_W_aimAt_30 : decode b_W_aimAt 30 = .ok (.ifCond .eq 15, 3) := by decide +kernel
theorem d_W_aimAt_33 : decode b_W_aimAt 33 = .ok (.aload_n 0, 1) := by decide +kernel
theorem d_W_aimAt_34 : decode b_W_aimAt 34 = .ok (.aload_n 2, 1) := by decide +kernel
theorem d_W_aimAt_35 : decode b_W_aimAt 35 = .ok (.invokevirtual 40, 3) := by decide +kernel
theorem d_W_aimAt_38 : decode b_W_aimAt 38 = .ok (.istore_n 3, 1) := by decide +kernel
theorem d_W_aimAt_39 : decode b_W_aimAt 39 = .ok (.iinc 4 1, 3) := by decide +kernel
theorem d_W_aimAt_42 : decode b_W_aimAt 42 = .ok (.goto (-20), 3) := by decide +kernel
theorem d_W_aimAt_45 : decode b_W_aimAt 45 = .ok (.aload_n 0, 1) := by decide +kernel
theorem d_W_aimAt_46 : decode b_W_aimAt 46 = .ok (.aload_n 2, 1) := by decide +kernel
theorem d_W_aimAt_47 : decode b_W_aimAt 47 = .ok (.invokevirtual 44, 3) := by decide +kernel
theorem d_W_aimAt_50 : decode b_W_aimAt 50 = .ok (.return_, 1) := by decide +kernel
theorem d_W_lowerCosts_0 : decode b_W_lowerCosts 0 = .ok (.iconst 0, 1) := by decide +kernel
theorem d_W_lowerCosts_1 : decode b_W_lowerCosts 1 = .ok (.istore_n 2, 1) := by decide +kernel
theorem d_W_lowerCosts_2 : decode b_W_lowerCosts 2 = .ok (.iconst 0, 1) := by decide +kernel
theorem d_W_lowerCosts_3 : decode b_W_lowerCosts 3 = .ok (.istore_n 3, 1) := by decide +kernel
theorem d_W_lowerCosts_4 : decode b_W_lowerCosts 4 = .ok (.iload_n 3, 1) := by decide +kernel
theorem d_W_lowerCosts_5 : decode b_W_lowerCosts 5 = .ok (.aload_n 1, 1) := by decide +kernel
theorem d_W_lowerCosts_6 : decode b_W_lowerCosts 6 = .ok (.getfield 22, 3) := by decide +kernel
theorem d_W_lowerCosts_9 : decode b_W_lowerCosts 9 = .ok (.if_icmp .ge 49, 3) := by decide +kernel
theorem d_W_lowerCosts_12 : decode b_W_lowerCosts 12 = .ok (.aload_n 0, 1) := by decide +kernel
theorem d_W_lowerCosts_13 : decode b_W_lowerCosts 13 = .ok (.iload_n 3, 1) := by decide +kernel
theorem d_W_lowerCosts_14 : decode b_W_lowerCosts 14 = .ok (.aload_n 1, 1) := by decide +kernel
theorem d_W_lowerCosts_15 : decode b_W_lowerCosts 15 = .ok (.invokevirtual 48, 3) := by decide +kernel
theorem d_W_lowerCosts_18 : decode b_W_lowerCosts 18 = .ok (.lstore 4, 2) := by decide +kernel
theorem d_W_lowerCosts_20 : decode b_W_lowerCosts 20 = .ok (.lload 4, 2) := by decide +kernel
theorem d_W_lowerCosts_22 : decode b_W_lowerCosts 22 = .ok (.aload_n 0, 1) := by decide +kernel
theorem d_W_lowerCosts_23 : decode b_W_lowerCosts 23 = .ok (.getfield 15, 3) := by decide +kernel
theorem d_W_lowerCosts_26 : decode b_W_lowerCosts 26 = .ok (.aload_n 1, 1) := by decide +kernel
theorem d_W_lowerCosts_27 : decode b_W_lowerCosts 27 = .ok (.getfield 52, 3) := by decide +kernel
theorem d_W_lowerCosts_30 : decode b_W_lowerCosts 30 = .ok (.iload_n 3, 1) := by decide +kernel
theorem d_W_lowerCosts_31 : decode b_W_lowerCosts 31 = .ok (.iaload, 1) := by decide +kernel
theorem d_W_lowerCosts_32 : decode b_W_lowerCosts 32 = .ok (.laload, 1) := by decide +kernel
theorem d_W_lowerCosts_33 : decode b_W_lowerCosts 33 = .ok (.lcmp, 1) := by decide +kernel
theorem d_W_lowerCosts_34 : decode b_W_lowerCosts 34 = .ok (.ifCond .ge 18, 3) := by decide +kernel
theorem d_W_lowerCosts_37 : decode b_W_lowerCosts 37 = .ok (.aload_n 0, 1) := by decide +kernel
theorem d_W_lowerCosts_38 : decode b_W_lowerCosts 38 = .ok (.getfield 15, 3) := by decide +kernel
theorem d_W_lowerCosts_41 : decode b_W_lowerCosts 41 = .ok (.aload_n 1, 1) := by decide +kernel
theorem d_W_lowerCosts_42 : decode b_W_lowerCosts 42 = .ok (.getfield 52, 3) := by decide +kernel
theorem d_W_lowerCosts_45 : decode b_W_lowerCosts 45 = .ok (.iload_n 3, 1) := by decide +kernel
theorem d_W_lowerCosts_46 : decode b_W_lowerCosts 46 = .ok (.iaload, 1) := by decide +kernel
theorem d_W_lowerCosts_47 : decode b_W_lowerCosts 47 = .ok (.lload 4, 2) := by decide +kernel
theorem d_W_lowerCosts_49 : decode b_W_lowerCosts 49 = .ok (.lastore, 1) := by decide +kernel
theorem d_W_lowerCosts_50 : decode b_W_lowerCosts 50 = .ok (.iconst 1, 1) := by decide +kernel
theorem d_W_lowerCosts_51 : decode b_W_lowerCosts 51 = .ok (.istore_n 2, 1) := by decide +kernel
theorem d_W_lowerCosts_52 : decode b_W_lowerCosts 52 = .ok (.iinc 3 1, 3) := by decide +kernel
theorem d_W_lowerCosts_55 : decode b_W_lowerCosts 55 = .ok (.goto (-51), 3) := by decide +kernel
theorem d_W_lowerCosts_58 : decode b_W_lowerCosts 58 = .ok (.iload_n 2, 1) := by decide +kernel
theorem d_W_lowerCosts_59 : decode b_W_lowerCosts 59 = .ok (.ireturn, 1) := by decide +kernel
theorem d_W_chooseNexts_0 : decode b_W_chooseNexts 0 = .ok (.aload_n 0, 1) := by decide +kernel
theorem d_W_chooseNexts_1 : decode b_W_chooseNexts 1 = .ok (.getfield 19, 3) := by decide +kernel
theorem d_W_chooseNexts_4 : decode b_W_chooseNexts 4 = .ok (.iconst (-1), 1) := by decide +kernel
theorem d_W_chooseNexts_5 : decode b_W_chooseNexts 5 = .ok (.invokestatic 55, 3) := by decide +kernel
theorem d_W_chooseNexts_8 : decode b_W_chooseNexts 8 = .ok (.iconst 0, 1) := by decide +kernel
theorem d_W_chooseNexts_9 : decode b_W_chooseNexts 9 = .ok (.istore_n 2, 1) := by decide +kernel
theorem d_W_chooseNexts_10 : decode b_W_chooseNexts 10 = .ok (.iload_n 2, 1) := by decide +kernel
theorem d_W_chooseNexts_11 : decode b_W_chooseNexts 11 = .ok (.aload_n 1, 1) := by decide +kernel
theorem d_W_chooseNexts_12 : decode b_W_chooseNexts 12 = .ok (.getfield 22, 3) := by decide +kernel
theorem d_W_chooseNexts_15 : decode b_W_chooseNexts 15 = .ok (.if_icmp .ge 62, 3) := by decide +kernel
theorem d_W_chooseNexts_18 : decode b_W_chooseNexts 18 = .ok (.aload_n 1, 1) := by decide +kernel
theorem d_W_chooseNexts_19 : decode b_W_chooseNexts 19 = .ok (.getfield 52, 3) := by decide +kernel
theorem d_W_chooseNexts_22 : decode b_W_chooseNexts 22 = .ok (.iload_n 2, 1) := by decide +kernel
theorem d_W_chooseNexts_23 : decode b_W_chooseNexts 23 = .ok (.iaload, 1) := by decide +kernel
theorem d_W_chooseNexts_24 : decode b_W_chooseNexts 24 = .ok (.istore_n 3, 1) := by decide +kernel
theorem d_W_chooseNexts_25 : decode b_W_chooseNexts 25 = .ok (.aload_n 0, 1) := by decide +kernel
theorem d_W_chooseNexts_26 : decode b_W_chooseNexts 26 = .ok (.iload_n 2, 1) := by decide +kernel
theorem d_W_chooseNexts_27 : decode b_W_chooseNexts 27 = .ok (.aload_n 1, 1) := by decide +kernel
theorem d_W_chooseNexts_28 : decode b_W_chooseNexts 28 = .ok (.invokevirtual 48, 3) := by decide +kernel
theorem d_W_chooseNexts_31 : decode b_W_chooseNexts 31 = .ok (.lstore 4, 2) := by decide +kernel
theorem d_W_chooseNexts_33 : decode b_W_chooseNexts 33 = .ok (.aload_n 0, 1) := by decide +kernel
theorem d_W_chooseNexts_34 : decode b_W_chooseNexts 34 = .ok (.getfield 19, 3) := by decide +kernel
theorem d_W_chooseNexts_37 : decode b_W_chooseNexts 37 = .ok (.iload_n 3, 1) := by decide +kernel
theorem d_W_chooseNexts_38 : decode b_W_chooseNexts 38 = .ok (.iaload, 1) := by decide +kernel
theorem d_W_chooseNexts_39 : decode b_W_chooseNexts 39 = .ok (.iconst (-1), 1) := by decide +kernel
theorem d_W_chooseNexts_40 : decode b_W_chooseNexts 40 = .ok (.if_icmp .ne 31, 3) := by decide +kernel
theorem d_W_chooseNexts_43 : decode b_W_chooseNexts 43 = .ok (.lload 4, 2) := by decide +kernel
theorem d_W_chooseNexts_45 : decode b_W_chooseNexts 45 = .ok (.ldc2_w 32, 3) := by decide +kernel
theorem d_W_chooseNexts_48 : decode b_W_chooseNexts 48 = .ok (.lcmp, 1) := by decide +kernel
theorem d_W_chooseNexts_49 : decode b_W_chooseNexts 49 = .ok (.ifCond .eq 22, 3) := by decide +kernel
theorem d_W_chooseNexts_52 : decode b_W_chooseNexts 52 = .ok (.lload 4, 2) := by decide +kernel
theorem d_W_chooseNexts_54 : decode b_W_chooseNexts 54 = .ok (.aload_n 0, 1) := by decide +kernel
theorem d_W_chooseNexts_55 : decode b_W_chooseNexts 55 = .ok (.getfield 15, 3) := by decide +kernel
theorem d_W_chooseNexts_58 : decode b_W_chooseNexts 58 = .ok (.iload_n 3, 1) := by decide +kernel
theorem d_W_chooseNexts_59 : decode b_W_chooseNexts 59 = .ok (.laload, 1) := by decide +kernel
theorem d_W_chooseNexts_60 : decode b_W_chooseNexts 60 = .ok (.lcmp, 1) := by decide +kernel
theorem d_W_chooseNexts_61 : decode b_W_chooseNexts 61 = .ok (.ifCond .ne 10, 3) := by decide +kernel
theorem d_W_chooseNexts_64 : decode b_W_chooseNexts 64 = .ok (.aload_n 0, 1) := by decide +kernel
theorem d_W_chooseNexts_65 : decode b_W_chooseNexts 65 = .ok (.getfield 19, 3) := by decide +kernel
theorem d_W_chooseNexts_68 : decode b_W_chooseNexts 68 = .ok (.iload_n 3, 1) := by decide +kernel
theorem d_W_chooseNexts_69 : decode b_W_chooseNexts 69 = .ok (.iload_n 2, 1) := by decide +kernel
theorem d_W_chooseNexts_70 : decode b_W_chooseNexts 70 = .ok (.iastore, 1) := by decide +kernel
theorem d_W_chooseNexts_71 : decode b_W_chooseNexts 71 = .ok (.iinc 2 1, 3) := by decide +kernel
theorem d_W_chooseNexts_74 : decode b_W_chooseNexts 74 = .ok (.goto (-64), 3) := by decide +kernel
theorem d_W_chooseNexts_77 : decode b_W_chooseNexts 77 = .ok (.return_, 1) := by decide +kernel
theorem d_W_costBy_0 : decode b_W_costBy 0 = .ok (.aload_n 0, 1) := by decide +kernel
theorem d_W_costBy_1 : decode b_W_costBy 1 = .ok (.getfield 15, 3) := by decide +kernel
theorem d_W_costBy_4 : decode b_W_costBy 4 = .ok (.aload_n 2, 1) := by decide +kernel
theorem d_W_costBy_5 : decode b_W_costBy 5 = .ok (.getfield 58, 3) := by decide +kernel
theorem d_W_costBy_8 : decode b_W_costBy 8 = .ok (.iload_n 1, 1) := by decide +kernel
theorem d_W_costBy_9 : decode b_W_costBy 9 = .ok (.iaload, 1) := by decide +kernel
theorem d_W_costBy_10 : decode b_W_costBy 10 = .ok (.laload, 1) := by decide +kernel
theorem d_W_costBy_11 : decode b_W_costBy 11 = .ok (.lstore_n 3, 1) := by decide +kernel
theorem d_W_costBy_12 : decode b_W_costBy 12 = .ok (.aload_n 2, 1) := by decide +kernel
theorem d_W_costBy_13 : decode b_W_costBy 13 = .ok (.getfield 61, 3) := by decide +kernel
theorem d_W_costBy_16 : decode b_W_costBy 16 = .ok (.iload_n 1, 1) := by decide +kernel
theorem d_W_costBy_17 : decode b_W_costBy 17 = .ok (.baload, 1) := by decide +kernel
theorem d_W_costBy_18 : decode b_W_costBy 18 = .ok (.ifCond .eq 11, 3) := by decide +kernel
theorem d_W_costBy_21 : decode b_W_costBy 21 = .ok (.lload_n 3, 1) := by decide +kernel
theorem d_W_costBy_22 : decode b_W_costBy 22 = .ok (.ldc2_w 32, 3) := by decide +kernel
theorem d_W_costBy_25 : decode b_W_costBy 25 = .ok (.lcmp, 1) := by decide +kernel
theorem d_W_costBy_26 : decode b_W_costBy 26 = .ok (.ifCond .ne 7, 3) := by decide +kernel
theorem d_W_costBy_29 : decode b_W_costBy 29 = .ok (.ldc2_w 32, 3) := by decide +kernel
theorem d_W_costBy_32 : decode b_W_costBy 32 = .ok (.lreturn, 1) := by decide +kernel
theorem d_W_costBy_33 : decode b_W_costBy 33 = .ok (.lload_n 3, 1) := by decide +kernel
theorem d_W_costBy_34 : decode b_W_costBy 34 = .ok (.aload_n 0, 1) := by decide +kernel
theorem d_W_costBy_35 : decode b_W_costBy 35 = .ok (.getfield 9, 3) := by decide +kernel
theorem d_W_costBy_38 : decode b_W_costBy 38 = .ok (.iload_n 1, 1) := by decide +kernel
theorem d_W_costBy_39 : decode b_W_costBy 39 = .ok (.iaload, 1) := by decide +kernel
theorem d_W_costBy_40 : decode b_W_costBy 40 = .ok (.i2l, 1) := by decide +kernel
theorem d_W_costBy_41 : decode b_W_costBy 41 = .ok (.ldc2_w 65, 3) := by decide +kernel
theorem d_W_costBy_44 : decode b_W_costBy 44 = .ok (.lmul, 1) := by decide +kernel
theorem d_W_costBy_45 : decode b_W_costBy 45 = .ok (.ladd, 1) := by decide +kernel
theorem d_W_costBy_46 : decode b_W_costBy 46 = .ok (.lconst 1, 1) := by decide +kernel
theorem d_W_costBy_47 : decode b_W_costBy 47 = .ok (.ladd, 1) := by decide +kernel
theorem d_W_costBy_48 : decode b_W_costBy 48 = .ok (.lreturn, 1) := by decide +kernel
theorem d_W_timeFrom_0 : decode b_W_timeFrom 0 = .ok (.aload_n 0, 1) := by decide +kernel
theorem d_W_timeFrom_1 : decode b_W_timeFrom 1 = .ok (.getfield 15, 3) := by decide +kernel
theorem d_W_timeFrom_4 : decode b_W_timeFrom 4 = .ok (.iload_n 1, 1) := by decide +kernel
theorem d_W_timeFrom_5 : decode b_W_timeFrom 5 = .ok (.laload, 1) := by decide +kernel
theorem d_W_timeFrom_6 : decode b_W_timeFrom 6 = .ok (.ldc2_w 32, 3) := by decide +kernel
theorem d_W_timeFrom_9 : decode b_W_timeFrom 9 = .ok (.lcmp, 1) := by decide +kernel
theorem d_W_timeFrom_10 : decode b_W_timeFrom 10 = .ok (.ifCond .ne 7, 3) := by decide +kernel
theorem d_W_timeFrom_13 : decode b_W_timeFrom 13 = .ok (.iconst (-1), 1) := by decide +kernel
theorem d_W_timeFrom_14 : decode b_W_timeFrom 14 = .ok (.goto 14, 3) := by decide +kernel
theorem d_W_timeFrom_17 : decode b_W_timeFrom 17 = .ok (.aload_n 0, 1) := by decide +kernel
theorem d_W_timeFrom_18 : decode b_W_timeFrom 18 = .ok (.getfield 15, 3) := by decide +kernel
theorem d_W_timeFrom_21 : decode b_W_timeFrom 21 = .ok (.iload_n 1, 1) := by decide +kernel
theorem d_W_timeFrom_22 : decode b_W_timeFrom 22 = .ok (.laload, 1) := by decide +kernel
theorem d_W_timeFrom_23 : decode b_W_timeFrom 23 = .ok (.ldc2_w 65, 3) := by decide +kernel
theorem d_W_timeFrom_26 : decode b_W_timeFrom 26 = .ok (.ldiv, 1) := by decide +kernel
theorem d_W_timeFrom_27 : decode b_W_timeFrom 27 = .ok (.l2i, 1) := by decide +kernel
theorem d_W_timeFrom_28 : decode b_W_timeFrom 28 = .ok (.ireturn, 1) := by decide +kernel
theorem d_W_streetAt_0 : decode b_W_streetAt 0 = .ok (.aload_n 0, 1) := by decide +kernel
theorem d_W_streetAt_1 : decode b_W_streetAt 1 = .ok (.getfield 19, 3) := by decide +kernel
theorem d_W_streetAt_4 : decode b_W_streetAt 4 = .ok (.iload_n 2, 1) := by decide +kernel
theorem d_W_streetAt_5 : decode b_W_streetAt 5 = .ok (.iaload, 1) := by decide +kernel
theorem d_W_streetAt_6 : decode b_W_streetAt 6 = .ok (.istore 4, 2) := by decide +kernel
theorem d_W_streetAt_8 : decode b_W_streetAt 8 = .ok (.iconst 0, 1) := by decide +kernel
theorem d_W_streetAt_9 : decode b_W_streetAt 9 = .ok (.istore 5, 2) := by decide +kernel
theorem d_W_streetAt_11 : decode b_W_streetAt 11 = .ok (.iload 5, 2) := by decide +kernel
theorem d_W_streetAt_13 : decode b_W_streetAt 13 = .ok (.iload_n 1, 1) := by decide +kernel
theorem d_W_streetAt_14 : decode b_W_streetAt 14 = .ok (.if_icmp .ge 36, 3) := by decide +kernel
theorem d_W_streetAt_17 : decode b_W_streetAt 17 = .ok (.iload 5, 2) := by decide +kernel
theorem d_W_streetAt_19 : decode b_W_streetAt 19 = .ok (.bipush 12, 2) := by decide +kernel
theorem d_W_streetAt_21 : decode b_W_streetAt 21 = .ok (.if_icmp .ge 29, 3) := by decide +kernel
theorem d_W_streetAt_24 : decode b_W_streetAt 24 = .ok (.iload 4, 2) := by decide +kernel
theorem d_W_streetAt_26 : decode b_W_streetAt 26 = .ok (.iconst (-1), 1) := by decide +kernel
theorem d_W_streetAt_27 : decode b_W_streetAt 27 = .ok (.if_icmp .eq 23, 3) := by decide +kernel
theorem d_W_streetAt_30 : decode b_W_streetAt 30 = .ok (.aload_n 0, 1) := by decide +kernel
theorem d_W_streetAt_31 : decode b_W_streetAt 31 = .ok (.getfield 19, 3) := by decide +kernel
theorem d_W_streetAt_34 : decode b_W_streetAt 34 = .ok (.aload_n 3, 1) := by decide +kernel
theorem d_W_streetAt_35 : decode b_W_streetAt 35 = .ok (.getfield 58, 3) := by decide +kernel
theorem d_W_streetAt_38 : decode b_W_streetAt 38 = .ok (.iload 4, 2) := by decide +kernel
theorem d_W_streetAt_40 : decode b_W_streetAt 40 = .ok (.iaload, 1) := by decide +kernel
theorem d_W_streetAt_41 : decode b_W_streetAt 41 = .ok (.iaload, 1) := by decide +kernel
theorem d_W_streetAt_42 : decode b_W_streetAt 42 = .ok (.istore 4, 2) := by decide +kernel
theorem d_W_streetAt_44 : decode b_W_streetAt 44 = .ok (.iinc 5 1, 3) := by decide +kernel
theorem d_W_streetAt_47 : decode b_W_streetAt 47 = .ok (.goto (-36), 3) := by decide +kernel
theorem d_W_streetAt_50 : decode b_W_streetAt 50 = .ok (.iload 4, 2) := by decide +kernel
theorem d_W_streetAt_52 : decode b_W_streetAt 52 = .ok (.ireturn, 1) := by decide +kernel
theorem d_A_init_0 : decode b_A_init 0 = .ok (.aload_n 0, 1) := by decide +kernel
theorem d_A_init_1 : decode b_A_init 1 = .ok (.invokespecial 3, 3) := by decide +kernel
theorem d_A_init_4 : decode b_A_init 4 = .ok (.aload_n 0, 1) := by decide +kernel
theorem d_A_init_5 : decode b_A_init 5 = .ok (.iconst 0, 1) := by decide +kernel
theorem d_A_init_6 : decode b_A_init 6 = .ok (.putfield 9, 3) := by decide +kernel
theorem d_A_init_9 : decode b_A_init 9 = .ok (.aload_n 0, 1) := by decide +kernel
theorem d_A_init_10 : decode b_A_init 10 = .ok (.iconst 0, 1) := by decide +kernel
theorem d_A_init_11 : decode b_A_init 11 = .ok (.putfield 15, 3) := by decide +kernel
theorem d_A_init_14 : decode b_A_init 14 = .ok (.aload_n 0, 1) := by decide +kernel
theorem d_A_init_15 : decode b_A_init 15 = .ok (.bipush 36, 2) := by decide +kernel
theorem d_A_init_17 : decode b_A_init 17 = .ok (.newarray .int, 2) := by decide +kernel
theorem d_A_init_19 : decode b_A_init 19 = .ok (.putfield 18, 3) := by decide +kernel
theorem d_A_init_22 : decode b_A_init 22 = .ok (.aload_n 0, 1) := by decide +kernel
theorem d_A_init_23 : decode b_A_init 23 = .ok (.bipush 36, 2) := by decide +kernel
theorem d_A_init_25 : decode b_A_init 25 = .ok (.newarray .int, 2) := by decide +kernel
theorem d_A_init_27 : decode b_A_init 27 = .ok (.putfield 22, 3) := by decide +kernel
theorem d_A_init_30 : decode b_A_init 30 = .ok (.aload_n 0, 1) := by decide +kernel
theorem d_A_init_31 : decode b_A_init 31 = .ok (.sipush 1440, 3) := by decide +kernel
theorem d_A_init_34 : decode b_A_init 34 = .ok (.newarray .int, 2) := by decide +kernel
theorem d_A_init_36 : decode b_A_init 36 = .ok (.putfield 25, 3) := by decide +kernel
theorem d_A_init_39 : decode b_A_init 39 = .ok (.return_, 1) := by decide +kernel
theorem d_A_placeOf_0 : decode b_A_placeOf 0 = .ok (.iload_n 0, 1) := by decide +kernel
theorem d_A_placeOf_1 : decode b_A_placeOf 1 = .ok (.bipush 36, 2) := by decide +kernel
theorem d_A_placeOf_3 : decode b_A_placeOf 3 = .ok (.imul, 1) := by decide +kernel
theorem d_A_placeOf_4 : decode b_A_placeOf 4 = .ok (.iload_n 1, 1) := by decide +kernel
theorem d_A_placeOf_5 : decode b_A_placeOf 5 = .ok (.iadd, 1) := by decide +kernel
theorem d_A_placeOf_6 : decode b_A_placeOf 6 = .ok (.ireturn, 1) := by decide +kernel
theorem d_A_begin_0 : decode b_A_begin 0 = .ok (.aload_n 0, 1) := by decide +kernel
theorem d_A_begin_1 : decode b_A_begin 1 = .ok (.iload_n 1, 1) := by decide +kernel
theorem d_A_begin_2 : decode b_A_begin 2 = .ok (.putfield 9, 3) := by decide +kernel
theorem d_A_begin_5 : decode b_A_begin 5 = .ok (.aload_n 0, 1) := by decide +kernel
theorem d_A_begin_6 : decode b_A_begin 6 = .ok (.iconst 0, 1) := by decide +kernel
theorem d_A_begin_7 : decode b_A_begin 7 = .ok (.putfield 15, 3) := by decide +kernel
theorem d_A_begin_10 : decode b_A_begin 10 = .ok (.aload_n 0, 1) := by decide +kernel
theorem d_A_begin_11 : decode b_A_begin 11 = .ok (.getfield 22, 3) := by decide +kernel
theorem d_A_begin_14 : decode b_A_begin 14 = .ok (.iconst 0, 1) := by decide +kernel
theorem d_A_begin_15 : decode b_A_begin 15 = .ok (.invokestatic 28, 3) := by decide +kernel
theorem d_A_begin_18 : decode b_A_begin 18 = .ok (.aload_n 0, 1) := by decide +kernel
theorem d_A_begin_19 : decode b_A_begin 19 = .ok (.getfield 25, 3) := by decide +kernel
theorem d_A_begin_22 : decode b_A_begin 22 = .ok (.iconst 0, 1) := by decide +kernel
theorem d_A_begin_23 : decode b_A_begin 23 = .ok (.invokestatic 28, 3) := by decide +kernel
theorem d_A_begin_26 : decode b_A_begin 26 = .ok (.return_, 1) := by decide +kernel
theorem d_A_tripsOfPart_0 : decode b_A_tripsOfPart 0 = .ok (.aload_n 0, 1) := by decide +kernel
theorem d_A_tripsOfPart_1 : decode b_A_tripsOfPart 1 = .ok (.getfield 9, 3) := by decide +kernel
theorem d_A_tripsOfPart_4 : decode b_A_tripsOfPart 4 = .ok (.ifCond .ne 5, 3) := by decide +kernel
theorem d_A_tripsOfPart_7 : decode b_A_tripsOfPart 7 = .ok (.iconst 0, 1) := by decide +kernel
theorem d_A_tripsOfPart_8 : decode b_A_tripsOfPart 8 = .ok (.ireturn, 1) := by decide +kernel
theorem d_A_tripsOfPart_9 : decode b_A_tripsOfPart 9 = .ok (.aload_n 0, 1) := by decide +kernel
theorem d_A_tripsOfPart_10 : decode b_A_tripsOfPart 10 = .ok (.getfield 18, 3) := by decide +kernel
theorem d_A_tripsOfPart_13 : decode b_A_tripsOfPart 13 = .ok (.iload_n 1, 1) := by decide +kernel
theorem d_A_tripsOfPart_14 : decode b_A_tripsOfPart 14 = .ok (.iaload, 1) := by decide +kernel
theorem d_A_tripsOfPart_15 : decode b_A_tripsOfPart 15 = .ok (.i2l, 1) := by decide +kernel
theorem d_A_tripsOfPart_16 : decode b_A_tripsOfPart 16 = .ok (.lstore_n 3, 1) := by decide +kernel
theorem d_A_tripsOfPart_17 : decode b_A_tripsOfPart 17 = .ok (.lload_n 3, 1) := by decide +kernel
theorem d_A_tripsOfPart_18 : decode b_A_tripsOfPart 18 = .ok (.iload_n 2, 1) := by decide +kernel
theorem d_A_tripsOfPart_19 : decode b_A_tripsOfPart 19 = .ok (.iconst 1, 1) := by decide +kernel
theorem d_A_tripsOfPart_20 : decode b_A_tripsOfPart 20 = .ok (.iadd, 1) := by decide +kernel
theorem d_A_tripsOfPart_21 : decode b_A_tripsOfPart 21 = .ok (.i2l, 1) := by decide +kernel
theorem d_A_tripsOfPart_22 : decode b_A_tripsOfPart 22 = .ok (.lmul, 1) := by decide +kernel
theorem d_A_tripsOfPart_23 : decode b_A_tripsOfPart 23 = .ok (.aload_n 0, 1) := by decide +kernel
theorem d_A_tripsOfPart_24 : decode b_A_tripsOfPart 24 = .ok (.getfield 9, 3) := by decide +kernel
theorem d_A_tripsOfPart_27 : decode b_A_tripsOfPart 27 = .ok (.i2l, 1) := by decide +kernel
theorem d_A_tripsOfPart_28 : decode b_A_tripsOfPart 28 = .ok (.ldiv, 1) := by decide +kernel
theorem d_A_tripsOfPart_29 : decode b_A_tripsOfPart 29 = .ok (.lload_n 3, 1) := by decide +kernel
theorem d_A_tripsOfPart_30 : decode b_A_tripsOfPart 30 = .ok (.iload_n 2, 1) := by decide +kernel
theorem d_A_tripsOfPart_31 : decode b_A_tripsOfPart 31 = .ok (.i2l, 1) := by decide +kernel
theorem d_A_tripsOfPart_32 : decode b_A_tripsOfPart 32 = .ok (.lmul, 1) := by decide +kernel
theorem d_A_tripsOfPart_33 : decode b_A_tripsOfPart 33 = .ok (.aload_n 0, 1) := by decide +kernel
theorem d_A_tripsOfPart_34 : decode b_A_tripsOfPart 34 = .ok (.getfield 9, 3) := by decide +kernel
theorem d_A_tripsOfPart_37 : decode b_A_tripsOfPart 37 = .ok (.i2l, 1) := by decide +kernel
theorem d_A_tripsOfPart_38 : decode b_A_tripsOfPart 38 = .ok (.ldiv, 1) := by decide +kernel
theorem d_A_tripsOfPart_39 : decode b_A_tripsOfPart 39 = .ok (.lsub, 1) := by decide +kernel
theorem d_A_tripsOfPart_40 : decode b_A_tripsOfPart 40 = .ok (.l2i, 1) := by decide +kernel
theorem d_A_tripsOfPart_41 : decode b_A_tripsOfPart 41 = .ok (.ireturn, 1) := by decide +kernel
theorem d_A_send_0 : decode b_A_send 0 = .ok (.aload 4, 2) := by decide +kernel
theorem d_A_send_2 : decode b_A_send 2 = .ok (.iload_n 3, 1) := by decide +kernel
theorem d_A_send_3 : decode b_A_send 3 = .ok (.invokevirtual 34, 3) := by decide +kernel
theorem d_A_send_6 : decode b_A_send 6 = .ok (.iconst (-1), 1) := by decide +kernel
theorem d_A_send_7 : decode b_A_send 7 = .ok (.if_icmp .ne 14, 3) := by decide +kernel
theorem d_A_send_10 : decode b_A_send 10 = .ok (.aload_n 0, 1) := by decide +kernel
theorem d_A_send_11 : decode b_A_send 11 = .ok (.dup, 1) := by decide +kernel
theorem d_A_send_12 : decode b_A_send 12 = .ok (.getfield 15, 3) := by decide +kernel
theorem d_A_send_15 : decode b_A_send 15 = .ok (.iload_n 2, 1) := by decide +kernel
theorem d_A_send_16 : decode b_A_send 16 = .ok (.iadd, 1) := by decide +kernel
theorem d_A_send_17 : decode b_A_send 17 = .ok (.putfield 15, 3) := by decide +kernel
theorem d_A_send_20 : decode b_A_send 20 = .ok (.return_, 1) := by decide +kernel
theorem d_A_send_21 : decode b_A_send 21 = .ok (.aload_n 0, 1) := by decide +kernel
theorem d_A_send_22 : decode b_A_send 22 = .ok (.getfield 22, 3) := by decide +kernel
theorem d_A_send_25 : decode b_A_send 25 = .ok (.iload_n 1, 1) := by decide +kernel
theorem d_A_send_26 : decode b_A_send 26 = .ok (.dup2, 1) := by decide +kernel
theorem d_A_send_27 : decode b_A_send 27 = .ok (.iaload, 1) := by decide +kernel
theorem d_A_send_28 : decode b_A_send 28 = .ok (.iload_n 2, 1) := by decide +kernel
theorem d_A_send_29 : decode b_A_send 29 = .ok (.iadd, 1) := by decide +kernel
theorem d_A_send_30 : decode b_A_send 30 = .ok (.iastore, 1) := by decide +kernel
theorem d_A_send_31 : decode b_A_send 31 = .ok (.aload 4, 2) := by decide +kernel
theorem d_A_send_33 : decode b_A_send 33 = .ok (.getfield 40, 3) := by decide +kernel
theorem d_A_send_36 : decode b_A_send 36 = .ok (.iload_n 3, 1) := by decide +kernel
theorem d_A_send_37 : decode b_A_send 37 = .ok (.iaload, 1) := by decide +kernel
theorem d_A_send_38 : decode b_A_send 38 = .ok (.istore 6, 2) := by decide +kernel
theorem d_A_send_40 : decode b_A_send 40 = .ok (.iconst 0, 1) := by decide +kernel
theorem d_A_send_41 : decode b_A_send 41 = .ok (.istore 7, 2) := by decide +kernel
theorem d_A_send_43 : decode b_A_send 43 = .ok (.iload 7, 2) := by decide +kernel
theorem d_A_send_45 : decode b_A_send 45 = .ok (.bipush 12, 2) := by decide +kernel
theorem d_A_send_47 : decode b_A_send 47 = .ok (.if_icmp .ge 58, 3) := by decide +kernel
theorem d_A_send_50 : decode b_A_send 50 = .ok (.iload 6, 2) := by decide +kernel
theorem d_A_send_52 : decode b_A_send 52 = .ok (.iconst (-1), 1) := by decide +kernel
theorem d_A_send_53 : decode b_A_send 53 = .ok (.if_icmp .eq 52, 3) := by decide +kernel
theorem d_A_send_56 : decode b_A_send 56 = .ok (.aload 5, 2) := by decide +kernel
theorem d_A_send_58 : decode b_A_send 58 = .ok (.getfield 43, 3) := by decide +kernel
theorem d_A_send_61 : decode b_A_send 61 = .ok (.iload 6, 2) := by decide +kernel
theorem d_A_send_63 : decode b_A_send 63 = .ok (.dup2, 1) := by decide +kernel
theorem d_A_send_64 : decode b_A_send 64 = .ok (.iaload, 1) := by decide +kernel
theorem d_A_send_65 : decode b_A_send 65 = .ok (.iload_n 2, 1) := by decide +kernel
theorem d_A_send_66 : decode b_A_send 66 = .ok (.iadd, 1) := by decide +kernel
theorem d_A_send_67 : decode b_A_send 67 = .ok (.iastore, 1) := by decide +kernel
theorem d_A_send_68 : decode b_A_send 68 = .ok (.aload_n 0, 1) := by decide +kernel
theorem d_A_send_69 : decode b_A_send 69 = .ok (.getfield 25, 3) := by decide +kernel
theorem d_A_send_72 : decode b_A_send 72 = .ok (.iload 6, 2) := by decide +kernel
theorem d_A_send_74 : decode b_A_send 74 = .ok (.iload_n 1, 1) := by decide +kernel
theorem d_A_send_75 : decode b_A_send 75 = .ok (.invokestatic 48, 3) := by decide +kernel
theorem d_A_send_78 : decode b_A_send 78 = .ok (.dup2, 1) := by decide +kernel
theorem d_A_send_79 : decode b_A_send 79 = .ok (.iaload, 1) := by decide +kernel
theorem d_A_send_80 : decode b_A_send 80 = .ok (.iload_n 2, 1) := by decide +kernel
theorem d_A_send_81 : decode b_A_send 81 = .ok (.iadd, 1) := by decide +kernel
theorem d_A_send_82 : decode b_A_send 82 = .ok (.iastore, 1) := by decide +kernel
theorem d_A_send_83 : decode b_A_send 83 = .ok (.aload 4, 2) := by decide +kernel
theorem d_A_send_85 : decode b_A_send 85 = .ok (.getfield 40, 3) := by decide +kernel
theorem d_A_send_88 : decode b_A_send 88 = .ok (.aload 5, 2) := by decide +kernel
theorem d_A_send_90 : decode b_A_send 90 = .ok (.getfield 52, 3) := by decide +kernel
theorem d_A_send_93 : decode b_A_send 93 = .ok (.iload 6, 2) := by decide +kernel
theorem d_A_send_95 : decode b_A_send 95 = .ok (.iaload, 1) := by decide +kernel
theorem d_A_send_96 : decode b_A_send 96 = .ok (.iaload, 1) := by decide +kernel
theorem d_A_send_97 : decode b_A_send 97 = .ok (.istore 6, 2) := by decide +kernel
theorem d_A_send_99 : decode b_A_send 99 = .ok (.iinc 7 1, 3) := by decide +kernel
theorem d_A_send_102 : decode b_A_send 102 = .ok (.goto (-59), 3) := by decide +kernel
theorem d_A_send_105 : decode b_A_send 105 = .ok (.return_, 1) := by decide +kernel
theorem d_H_init_0 : decode b_H_init 0 = .ok (.aload_n 0, 1) := by decide +kernel
theorem d_H_init_1 : decode b_H_init 1 = .ok (.invokespecial 1, 3) := by decide +kernel
theorem d_H_init_4 : decode b_H_init 4 = .ok (.aload_n 0, 1) := by decide +kernel
theorem d_H_init_5 : decode b_H_init 5 = .ok (.iload_n 1, 1) := by decide +kernel
theorem d_H_init_6 : decode b_H_init 6 = .ok (.newarray .long, 2) := by decide +kernel
theorem d_H_init_8 : decode b_H_init 8 = .ok (.putfield 7, 3) := by decide +kernel
theorem d_H_init_11 : decode b_H_init 11 = .ok (.aload_n 0, 1) := by decide +kernel
theorem d_H_init_12 : decode b_H_init 12 = .ok (.iload_n 1, 1) := by decide +kernel
theorem d_H_init_13 : decode b_H_init 13 = .ok (.newarray .long, 2) := by decide +kernel
theorem d_H_init_15 : decode b_H_init 15 = .ok (.putfield 13, 3) := by decide +kernel
theorem d_H_init_18 : decode b_H_init 18 = .ok (.aload_n 0, 1) := by decide +kernel
theorem d_H_init_19 : decode b_H_init 19 = .ok (.iload_n 1, 1) := by decide +kernel
theorem d_H_init_20 : decode b_H_init 20 = .ok (.newarray .int, 2) := by decide +kernel
theorem d_H_init_22 : decode b_H_init 22 = .ok (.putfield 16, 3) := by decide +kernel
theorem d_H_init_25 : decode b_H_init 25 = .ok (.return_, 1) := by decide +kernel
theorem d_H_shareOut_0 : decode b_H_shareOut 0 = .ok (.lconst 0, 1) := by decide +kernel
theorem d_H_shareOut_1 : decode b_H_shareOut 1 = .ok (.lstore_n 3, 1) := by decide +kernel
theorem d_H_shareOut_2 : decode b_H_shareOut 2 = .ok (.iconst 0, 1) := by decide +kernel
theorem d_H_shareOut_3 : decode b_H_shareOut 3 = .ok (.istore 5, 2) := by decide +kernel
theorem d_H_shareOut_5 : decode b_H_shareOut 5 = .ok (.iload 5, 2) := by decide +kernel
theorem d_H_shareOut_7 : decode b_H_shareOut 7 = .ok (.iload_n 2, 1) := by decide +kernel
theorem d_H_shareOut_8 : decode b_H_shareOut 8 = .ok (.if_icmp .ge 19, 3) := by decide +kernel
theorem d_H_shareOut_11 : decode b_H_shareOut 11 = .ok (.lload_n 3, 1) := by decide +kernel
theorem d_H_shareOut_12 : decode b_H_shareOut 12 = .ok (.aload_n 0, 1) := by decide +kernel
theorem d_H_shareOut_13 : decode b_H_shareOut 13 = .ok (.getfield 7, 3) := by decide +kernel
theorem d_H_shareOut_16 : decode b_H_shareOut 16 = .ok (.iload 5, 2) := by decide +kernel
theorem d_H_shareOut_18 : decode b_H_shareOut 18 = .ok (.laload, 1) := by decide +kernel
theorem d_H_shareOut_19 : decode b_H_shareOut 19 = .ok (.ladd, 1) := by decide +kernel
theorem d_H_shareOut_20 : decode b_H_shareOut 20 = .ok (.lstore_n 3, 1) := by decide +kernel
theorem d_H_shareOut_21 : decode b_H_shareOut 21 = .ok (.iinc 5 1, 3) := by decide +kernel
theorem d_H_shareOut_24 : decode b_H_shareOut 24 = .ok (.goto (-19), 3) := by decide +kernel
theorem d_H_shareOut_27 : decode b_H_shareOut 27 = .ok (.lload_n 3, 1) := by decide +kernel
theorem d_H_shareOut_28 : decode b_H_shareOut 28 = .ok (.lconst 0, 1) := by decide +kernel
theorem d_H_shareOut_29 : decode b_H_shareOut 29 = .ok (.lcmp, 1) := by decide +kernel
theorem d_H_shareOut_30 : decode b_H_shareOut 30 = .ok (.ifCond .ne 12, 3) := by decide +kernel
theorem d_H_shareOut_33 : decode b_H_shareOut 33 = .ok (.aload_n 0, 1) := by decide +kernel
theorem d_H_shareOut_34 : decode b_H_shareOut 34 = .ok (.getfield 16, 3) := by decide +kernel
theorem d_H_shareOut_37 : decode b_H_shareOut 37 = .ok (.iconst 0, 1) := by decide +kernel
theorem d_H_shareOut_38 : decode b_H_shareOut 38 = .ok (.invokestatic 20, 3) := by decide +kernel
theorem d_H_shareOut_41 : decode b_H_shareOut 41 = .ok (.return_, 1) := by decide +kernel
theorem d_H_shareOut_42 : decode b_H_shareOut 42 = .ok (.iload_n 1, 1) := by decide +kernel
theorem d_H_shareOut_43 : decode b_H_shareOut 43 = .ok (.istore 5, 2) := by decide +kernel
theorem d_H_shareOut_45 : decode b_H_shareOut 45 = .ok (.iconst 0, 1) := by decide +kernel
theorem d_H_shareOut_46 : decode b_H_shareOut 46 = .ok (.istore 6, 2) := by decide +kernel
theorem d_H_shareOut_48 : decode b_H_shareOut 48 = .ok (.iload 6, 2) := by decide +kernel
theorem d_H_shareOut_50 : decode b_H_shareOut 50 = .ok (.iload_n 2, 1) := by decide +kernel
theorem d_H_shareOut_51 : decode b_H_shareOut 51 = .ok (.if_icmp .ge 56, 3) := by decide +kernel
theorem d_H_shareOut_54 : decode b_H_shareOut 54 = .ok (.iload_n 1, 1) := by decide +kernel
theorem d_H_shareOut_55 : decode b_H_shareOut 55 = .ok (.i2l, 1) := by decide +kernel
theorem d_H_shareOut_56 : decode b_H_shareOut 56 = .ok (.aload_n 0, 1) := by decide +kernel
theorem d_H_shareOut_57 : decode b_H_shareOut 57 = .ok (.getfield 7, 3) := by decide +kernel
theorem d_H_shareOut_60 : decode b_H_shareOut 60 = .ok (.iload 6, 2) := by decide +kernel
theorem d_H_shareOut_62 : decode b_H_shareOut 62 = .ok (.laload, 1) := by decide +kernel
theorem d_H_shareOut_63 : decode b_H_shareOut 63 = .ok (.lmul, 1) := by decide +kernel
theorem d_H_shareOut_64 : decode b_H_shareOut 64 = .ok (.lstore 7, 2) := by decide +kernel
theorem d_H_shareOut_66 : decode b_H_shareOut 66 = .ok (.aload_n 0, 1) := by decide +kernel
theorem d_H_shareOut_67 : decode b_H_shareOut 67 = .ok (.getfield 16, 3) := by decide +kernel
theorem d_H_shareOut_70 : decode b_H_shareOut 70 = .ok (.iload 6, 2) := by decide +kernel
theorem d_H_shareOut_72 : decode b_H_shareOut 72 = .ok (.lload 7, 2) := by decide +kernel
theorem d_H_shareOut_74 : decode b_H_shareOut 74 = .ok (.lload_n 3, 1) := by decide +kernel
theorem d_H_shareOut_75 : decode b_H_shareOut 75 = .ok (.ldiv, 1) := by decide +kernel
theorem d_H_shareOut_76 : decode b_H_shareOut 76 = .ok (.l2i, 1) := by decide +kernel
theorem d_H_shareOut_77 : decode b_H_shareOut 77 = .ok (.iastore, 1) := by decide +kernel
theorem d_H_shareOut_78 : decode b_H_shareOut 78 = .ok (.aload_n 0, 1) := by decide +kernel
theorem d_H_shareOut_79 : decode b_H_shareOut 79 = .ok (.getfield 13, 3) := by decide +kernel
theorem d_H_shareOut_82 : decode b_H_shareOut 82 = .ok (.iload 6, 2) := by decide +kernel
theorem d_H_shareOut_84 : decode b_H_shareOut 84 = .ok (.lload 7, 2) := by decide +kernel
theorem d_H_shareOut_86 : decode b_H_shareOut 86 = .ok (.lload_n 3, 1) := by decide +kernel
theorem d_H_shareOut_87 : decode b_H_shareOut 87 = .ok (.lrem, 1) := by decide +kernel
theorem d_H_shareOut_88 : decode b_H_shareOut 88 = .ok (.lastore, 1) := by decide +kernel
theorem d_H_shareOut_89 : decode b_H_shareOut 89 = .ok (.iload 5, 2) := by decide +kernel
theorem d_H_shareOut_91 : decode b_H_shareOut 91 = .ok (.aload_n 0, 1) := by decide +kernel
theorem d_H_shareOut_92 : decode b_H_shareOut 92 = .ok (.getfield 16, 3) := by decide +kernel
theorem d_H_shareOut_95 : decode b_H_shareOut 95 = .ok (.iload 6, 2) := by decide +kernel
theorem d_H_shareOut_97 : decode b_H_shareOut 97 = .ok (.iaload, 1) := by decide +kernel
theorem d_H_shareOut_98 : decode b_H_shareOut 98 = .ok (.isub, 1) := by decide +kernel
theorem d_H_shareOut_99 : decode b_H_shareOut 99 = .ok (.istore 5, 2) := by decide +kernel
theorem d_H_shareOut_101 : decode b_H_shareOut 101 = .ok (.iinc 6 1, 3) := by decide +kernel
theorem d_H_shareOut_104 : decode b_H_shareOut 104 = .ok (.goto (-56), 3) := by decide +kernel
theorem d_H_shareOut_107 : decode b_H_shareOut 107 = .ok (.iconst 0, 1) := by decide +kernel
theorem d_H_shareOut_108 : decode b_H_shareOut 108 = .ok (.istore 6, 2) := by decide +kernel
theorem d_H_shareOut_110 : decode b_H_shareOut 110 = .ok (.iload 6, 2) := by decide +kernel
theorem d_H_shareOut_112 : decode b_H_shareOut 112 = .ok (.iload 5, 2) := by decide +kernel
theorem d_H_shareOut_114 : decode b_H_shareOut 114 = .ok (.if_icmp .ge 14, 3) := by decide +kernel
theorem d_H_shareOut_117 : decode b_H_shareOut 117 = .ok (.aload_n 0, 1) := by decide +kernel
theorem d_H_shareOut_118 : decode b_H_shareOut 118 = .ok (.iload_n 2, 1) := by decide +kernel
theorem d_H_shareOut_119 : decode b_H_shareOut 119 = .ok (.invokevirtual 26, 3) := by decide +kernel
theorem d_H_shareOut_122 : decode b_H_shareOut 122 = .ok (.iinc 6 1, 3) := by decide +kernel
theorem d_H_shareOut_125 : decode b_H_shareOut 125 = .ok (.goto (-15), 3) := by decide +kernel
theorem d_H_shareOut_128 : decode b_H_shareOut 128 = .ok (.return_, 1) := by decide +kernel
theorem d_H_giveOne_0 : decode b_H_giveOne 0 = .ok (.iconst 0, 1) := by decide +kernel
theorem d_H_giveOne_1 : decode b_H_giveOne 1 = .ok (.istore_n 2, 1) := by decide +kernel
theorem d_H_giveOne_2 : decode b_H_giveOne 2 = .ok (.iconst 1, 1) := by decide +kernel
theorem d_H_giveOne_3 : decode b_H_giveOne 3 = .ok (.istore_n 3, 1) := by decide +kernel
theorem d_H_giveOne_4 : decode b_H_giveOne 4 = .ok (.iload_n 3, 1) := by decide +kernel
theorem d_H_giveOne_5 : decode b_H_giveOne 5 = .ok (.iload_n 1, 1) := by decide +kernel
theorem d_H_giveOne_6 : decode b_H_giveOne 6 = .ok (.if_icmp .ge 27, 3) := by decide +kernel
theorem d_H_giveOne_9 : decode b_H_giveOne 9 = .ok (.aload_n 0, 1) := by decide +kernel
theorem d_H_giveOne_10 : decode b_H_giveOne 10 = .ok (.getfield 13, 3) := by decide +kernel
theorem d_H_giveOne_13 : decode b_H_giveOne 13 = .ok (.iload_n 3, 1) := by decide +kernel
theorem d_H_giveOne_14 : decode b_H_giveOne 14 = .ok (.laload, 1) := by decide +kernel
theorem d_H_giveOne_15 : decode b_H_giveOne 15 = .ok (.aload_n 0, 1) := by decide +kernel
theorem d_H_giveOne_16 : decode b_H_giveOne 16 = .ok (.getfield 13, 3) := by decide +kernel
theorem d_H_giveOne_19 : decode b_H_giveOne 19 = .ok (.iload_n 2, 1) := by decide +kernel
theorem d_H_giveOne_20 : decode b_H_giveOne 20 = .ok (.laload, 1) := by decide +kernel
theorem d_H_giveOne_21 : decode b_H_giveOne 21 = .ok (.lcmp, 1) := by decide +kernel
theorem d_H_giveOne_22 : decode b_H_giveOne 22 = .ok (.ifCond .le 5, 3) := by decide +kernel
theorem d_H_giveOne_25 : decode b_H_giveOne 25 = .ok (.iload_n 3, 1) := by decide +kernel
theorem d_H_giveOne_26 : decode b_H_giveOne 26 = .ok (.istore_n 2, 1) := by decide +kernel
theorem d_H_giveOne_27 : decode b_H_giveOne 27 = .ok (.iinc 3 1, 3) := by decide +kernel
theorem d_H_giveOne_30 : decode b_H_giveOne 30 = .ok (.goto (-26), 3) := by decide +kernel
theorem d_H_giveOne_33 : decode b_H_giveOne 33 = .ok (.aload_n 0, 1) := by decide +kernel
theorem d_H_giveOne_34 : decode b_H_giveOne 34 = .ok (.getfield 16, 3) := by decide +kernel
theorem d_H_giveOne_37 : decode b_H_giveOne 37 = .ok (.iload_n 2, 1) := by decide +kernel
theorem d_H_giveOne_38 : decode b_H_giveOne 38 = .ok (.dup2, 1) := by decide +kernel
theorem d_H_giveOne_39 : decode b_H_giveOne 39 = .ok (.iaload, 1) := by decide +kernel
theorem d_H_giveOne_40 : decode b_H_giveOne 40 = .ok (.iconst 1, 1) := by decide +kernel
theorem d_H_giveOne_41 : decode b_H_giveOne 41 = .ok (.iadd, 1) := by decide +kernel
theorem d_H_giveOne_42 : decode b_H_giveOne 42 = .ok (.iastore, 1) := by decide +kernel
theorem d_H_giveOne_43 : decode b_H_giveOne 43 = .ok (.aload_n 0, 1) := by decide +kernel
theorem d_H_giveOne_44 : decode b_H_giveOne 44 = .ok (.getfield 13, 3) := by decide +kernel
theorem d_H_giveOne_47 : decode b_H_giveOne 47 = .ok (.iload_n 2, 1) := by decide +kernel
theorem d_H_giveOne_48 : decode b_H_giveOne 48 = .ok (.ldc2_w 30, 3) := by decide +kernel
theorem d_H_giveOne_51 : decode b_H_giveOne 51 = .ok (.lastore, 1) := by decide +kernel
theorem d_H_giveOne_52 : decode b_H_giveOne 52 = .ok (.return_, 1) := by decide +kernel
end
section
def tw : List Cond := lw_tbl.filter goodWord
theorem tw_of {w : Cond} {i : Nat} (h : lw_tbl[i]? = some w) (hg : goodWord w = true) : w ∈ tw := List.mem_filter.mpr ⟨List.mem_of_getElem? h, hg⟩
theorem tw_in {w : Cond} (h : w ∈ tw) : w ∈ lw_tbl := (List.mem_filter.mp h).1
theorem tw_G {w : Cond} (h : w ∈ tw) : GoodIn tw (w :: tw) := fun v hv => by
  rcases List.mem_cons.mp hv with rfl | hv
  · exact ⟨h, good_of_word (List.mem_filter.mp h).2⟩
  · exact ⟨hv, good_of_word (List.mem_filter.mp hv).2⟩
theorem iw_T : ∀ w ∈ u_ws R_T F_T 7, w ∈ tw := fun w h => List.mem_filter.mpr ⟨(by decide +kernel : ∀ w ∈ u_ws R_T F_T 7, w ∈ lw_tbl) w h, (by decide +kernel : ∀ w ∈ u_ws R_T F_T 7, goodWord w = true) w h⟩
theorem iw_Z : ∀ w ∈ u_ws R_Z F_Z 4, w ∈ tw := fun w h => List.mem_filter.mpr ⟨(by decide +kernel : ∀ w ∈ u_ws R_Z F_Z 4, w ∈ lw_tbl) w h, (by decide +kernel : ∀ w ∈ u_ws R_Z F_Z 4, goodWord w = true) w h⟩
theorem iw_B : ∀ w ∈ u_ws R_B F_B 4, w ∈ tw := fun w h => List.mem_filter.mpr ⟨(by decide +kernel : ∀ w ∈ u_ws R_B F_B 4, w ∈ lw_tbl) w h, (by decide +kernel : ∀ w ∈ u_ws R_B F_B 4, goodWord w = true) w h⟩
theorem iw_M : ∀ w ∈ u_ws R_M F_M 2, w ∈ tw := fun w h => List.mem_filter.mpr ⟨(by decide +kernel : ∀ w ∈ u_ws R_M F_M 2, w ∈ lw_tbl) w h, (by decide +kernel : ∀ w ∈ u_ws R_M F_M 2, goodWord w = true) w h⟩
theorem iw_S : ∀ w ∈ u_ws R_S F_S 10, w ∈ tw := fun w h => List.mem_filter.mpr ⟨(by decide +kernel : ∀ w ∈ u_ws R_S F_S 10, w ∈ lw_tbl) w h, (by decide +kernel : ∀ w ∈ u_ws R_S F_S 10, goodWord w = true) w h⟩
theorem iw_W : ∀ w ∈ u_ws R_W F_W 3, w ∈ tw := fun w h => List.mem_filter.mpr ⟨(by decide +kernel : ∀ w ∈ u_ws R_W F_W 3, w ∈ lw_tbl) w h, (by decide +kernel : ∀ w ∈ u_ws R_W F_W 3, goodWord w = true) w h⟩
theorem iw_A : ∀ w ∈ u_ws R_A F_A 5, w ∈ tw := fun w h => List.mem_filter.mpr ⟨(by decide +kernel : ∀ w ∈ u_ws R_A F_A 5, w ∈ lw_tbl) w h, (by decide +kernel : ∀ w ∈ u_ws R_A F_A 5, goodWord w = true) w h⟩
theorem iw_H : ∀ w ∈ u_ws R_H F_H 3, w ∈ tw := fun w h => List.mem_filter.mpr ⟨(by decide +kernel : ∀ w ∈ u_ws R_H F_H 3, w ∈ lw_tbl) w h, (by decide +kernel : ∀ w ∈ u_ws R_H F_H 3, goodWord w = true) w h⟩
theorem iw_R : ∀ w ∈ u_ws R_R F_R 32, w ∈ tw := fun w h => List.mem_filter.mpr ⟨(by decide +kernel : ∀ w ∈ u_ws R_R F_R 32, w ∈ lw_tbl) w h, (by decide +kernel : ∀ w ∈ u_ws R_R F_R 32, goodWord w = true) w h⟩
set_option maxRecDepth 30000 in
theorem wd_0 : (.selects R_W y_W_lowerCosts y_W_lowerCosts : Cond) ∈ tw := tw_of (i := 0) rfl rfl
set_option maxRecDepth 30000 in
theorem wd_1 : (.selects R_W y_W_costBy y_W_costBy : Cond) ∈ tw := tw_of (i := 1) rfl rfl
set_option maxRecDepth 30000 in
theorem wd_2 : (.selects R_W y_W_chooseNexts y_W_chooseNexts : Cond) ∈ tw := tw_of (i := 2) rfl rfl
set_option maxRecDepth 30000 in
theorem wd_3 : (.selects R_T y_T_leastTimeTo y_T_leastTimeTo : Cond) ∈ tw := tw_of (i := 3) rfl rfl
set_option maxRecDepth 30000 in
theorem wd_5 : (.selects R_T y_T_needNode y_T_needNode : Cond) ∈ tw := tw_of (i := 5) rfl rfl
set_option maxRecDepth 30000 in
theorem wd_6 : (.selects R_T y_T_needStreet y_T_needStreet : Cond) ∈ tw := tw_of (i := 6) rfl rfl
set_option maxRecDepth 30000 in
theorem wd_7 : (.selects R_T y_T_needZone y_T_needZone : Cond) ∈ tw := tw_of (i := 7) rfl rfl
set_option maxRecDepth 30000 in
theorem wd_8 : (.selects R_B y_B_shareAllPeople y_B_shareAllPeople : Cond) ∈ tw := tw_of (i := 8) rfl rfl
set_option maxRecDepth 30000 in
theorem wd_9 : (.selects R_H y_H_giveOne y_H_giveOne : Cond) ∈ tw := tw_of (i := 9) rfl rfl
set_option maxRecDepth 30000 in
theorem wd_10 : (.selects R_B y_B_isMet y_B_isMet : Cond) ∈ tw := tw_of (i := 10) rfl rfl
set_option maxRecDepth 30000 in
theorem wd_11 : (.selects R_B y_B_changeFactors y_B_changeFactors : Cond) ∈ tw := tw_of (i := 11) rfl rfl
set_option maxRecDepth 30000 in
theorem wd_12 : (.selects R_T y_T_assignAll y_T_assignAll : Cond) ∈ tw := tw_of (i := 12) rfl rfl
set_option maxRecDepth 30000 in
theorem wd_13 : (.selects R_T y_T_gatherDrivers y_T_gatherDrivers : Cond) ∈ tw := tw_of (i := 13) rfl rfl
set_option maxRecDepth 30000 in
theorem wd_14 : (.selects R_T y_T_assignPart y_T_assignPart : Cond) ∈ tw := tw_of (i := 14) rfl rfl
set_option maxRecDepth 30000 in
theorem wd_15 : (.selects R_T y_T_scaleUsersOf y_T_scaleUsersOf : Cond) ∈ tw := tw_of (i := 15) rfl rfl
set_option maxRecDepth 30000 in
theorem wd_16 : (.selects R_R y_R_isNode y_R_isNode : Cond) ∈ tw := tw_of (i := 16) rfl rfl
set_option maxRecDepth 30000 in
theorem wd_17 : (.selects R_R y_R_isStreet y_R_isStreet : Cond) ∈ tw := tw_of (i := 17) rfl rfl
set_option maxRecDepth 30000 in
theorem wd_18 : (.selects R_R y_R_isPair y_R_isPair : Cond) ∈ tw := tw_of (i := 18) rfl rfl
set_option maxRecDepth 30000 in
theorem wd_19 : (.selects R_R y_R_isZone y_R_isZone : Cond) ∈ tw := tw_of (i := 19) rfl rfl
set_option maxRecDepth 30000 in
theorem wd_20 : (.selects R_R y_R_oneRound y_R_oneRound : Cond) ∈ tw := tw_of (i := 20) rfl rfl
set_option maxRecDepth 30000 in
theorem wd_21 : (.selects R_R y_R_share y_R_share : Cond) ∈ tw := tw_of (i := 21) rfl rfl
set_option maxRecDepth 30000 in
theorem wd_22 : (.selects R_R y_R_isMet y_R_isMet : Cond) ∈ tw := tw_of (i := 22) rfl rfl
set_option maxRecDepth 30000 in
theorem wd_23 : (.selects R_R y_R_sumTo y_R_sumTo : Cond) ∈ tw := tw_of (i := 23) rfl rfl
set_option maxRecDepth 30000 in
theorem wd_24 : (.selects R_R y_R_byMode y_R_byMode : Cond) ∈ tw := tw_of (i := 24) rfl rfl
set_option maxRecDepth 30000 in
theorem wd_25 : (.selects R_R y_R_assignAll y_R_assignAll : Cond) ∈ tw := tw_of (i := 25) rfl rfl
set_option maxRecDepth 30000 in
theorem wd_26 : (.selects R_R y_R_takeTimes y_R_takeTimes : Cond) ∈ tw := tw_of (i := 26) rfl rfl
set_option maxRecDepth 30000 in
theorem wd_27 : (.selects R_R y_R_timeOf y_R_timeOf : Cond) ∈ tw := tw_of (i := 27) rfl rfl
set_option maxRecDepth 30000 in
theorem wd_28 : (.selects R_R y_R_goPart y_R_goPart : Cond) ∈ tw := tw_of (i := 28) rfl rfl
set_option maxRecDepth 30000 in
theorem wd_29 : (.selects R_R y_R_findWay y_R_findWay : Cond) ∈ tw := tw_of (i := 29) rfl rfl
set_option maxRecDepth 30000 in
theorem wd_30 : (.selects R_R y_R_findNear y_R_findNear : Cond) ∈ tw := tw_of (i := 30) rfl rfl
set_option maxRecDepth 30000 in
theorem wd_31 : (.selects R_R y_R_worst y_R_worst : Cond) ∈ tw := tw_of (i := 31) rfl rfl
set_option maxRecDepth 30000 in
theorem wd_32 : (.selects R_R y_R_offOf y_R_offOf : Cond) ∈ tw := tw_of (i := 32) rfl rfl
set_option maxRecDepth 30000 in
theorem wd_34 : (.initialized R_T : Cond) ∈ tw := tw_of (i := 34) rfl rfl
set_option maxRecDepth 30000 in
theorem wd_35 : (.initialized R_Z : Cond) ∈ tw := tw_of (i := 35) rfl rfl
set_option maxRecDepth 30000 in
theorem wd_36 : (.initialized R_B : Cond) ∈ tw := tw_of (i := 36) rfl rfl
set_option maxRecDepth 30000 in
theorem wd_37 : (.initialized R_H : Cond) ∈ tw := tw_of (i := 37) rfl rfl
set_option maxRecDepth 30000 in
theorem wd_38 : (.initialized "java/util/Arrays" : Cond) ∈ tw := tw_of (i := 38) rfl rfl
set_option maxRecDepth 30000 in
theorem wd_39 : (.initialized R_M : Cond) ∈ tw := tw_of (i := 39) rfl rfl
set_option maxRecDepth 30000 in
theorem wd_40 : (.initialized R_S : Cond) ∈ tw := tw_of (i := 40) rfl rfl
set_option maxRecDepth 30000 in
theorem wd_41 : (.initialized R_W : Cond) ∈ tw := tw_of (i := 41) rfl rfl
set_option maxRecDepth 30000 in
theorem wd_42 : (.initialized R_A : Cond) ∈ tw := tw_of (i := 42) rfl rfl
set_option maxRecDepth 30000 in
theorem wd_43 : (.initialized R_R : Cond) ∈ tw := tw_of (i := 43) rfl rfl
set_option maxRecDepth 30000 in
theorem wd_49 : (.initialized "java/lang/Math" : Cond) ∈ tw := tw_of (i := 49) rfl rfl
set_option maxRecDepth 30000 in
theorem wd_64 : (.fieldLink R_Z 9 "TripRounds$Zones" "many" "I" : Cond) ∈ tw := tw_of (i := 64) rfl rfl
set_option maxRecDepth 30000 in
theorem wd_65 : (.fieldLink R_B 36 "TripRounds$Zones" "many" "I" : Cond) ∈ tw := tw_of (i := 65) rfl rfl
set_option maxRecDepth 30000 in
theorem wd_66 : (.fieldLink R_T 71 "TripRounds$Zones" "many" "I" : Cond) ∈ tw := tw_of (i := 66) rfl rfl
set_option maxRecDepth 30000 in
theorem wd_67 : (.fieldLink R_Z 15 "TripRounds$Zones" "places" "[I" : Cond) ∈ tw := tw_of (i := 67) rfl rfl
set_option maxRecDepth 30000 in
theorem wd_68 : (.fieldLink R_T 182 "TripRounds$Zones" "places" "[I" : Cond) ∈ tw := tw_of (i := 68) rfl rfl
set_option maxRecDepth 30000 in
theorem wd_69 : (.fieldLink R_Z 19 "TripRounds$Zones" "people" "[I" : Cond) ∈ tw := tw_of (i := 69) rfl rfl
set_option maxRecDepth 30000 in
theorem wd_70 : (.fieldLink R_B 61 "TripRounds$Zones" "people" "[I" : Cond) ∈ tw := tw_of (i := 70) rfl rfl
set_option maxRecDepth 30000 in
theorem wd_71 : (.fieldLink R_T 114 "TripRounds$Zones" "people" "[I" : Cond) ∈ tw := tw_of (i := 71) rfl rfl
set_option maxRecDepth 30000 in
theorem wd_72 : (.fieldLink R_Z 22 "TripRounds$Zones" "jobs" "[I" : Cond) ∈ tw := tw_of (i := 72) rfl rfl
set_option maxRecDepth 30000 in
theorem wd_73 : (.fieldLink R_B 75 "TripRounds$Zones" "jobs" "[I" : Cond) ∈ tw := tw_of (i := 73) rfl rfl
set_option maxRecDepth 30000 in
theorem wd_74 : (.fieldLink R_T 117 "TripRounds$Zones" "jobs" "[I" : Cond) ∈ tw := tw_of (i := 74) rfl rfl
set_option maxRecDepth 30000 in
theorem wd_97 : (.fieldLink R_H 7 "TripRounds$Sharing" "numbers" "[J" : Cond) ∈ tw := tw_of (i := 97) rfl rfl
set_option maxRecDepth 30000 in
theorem wd_98 : (.fieldLink R_M 28 "TripRounds$Sharing" "numbers" "[J" : Cond) ∈ tw := tw_of (i := 98) rfl rfl
set_option maxRecDepth 30000 in
theorem wd_99 : (.fieldLink R_B 53 "TripRounds$Sharing" "numbers" "[J" : Cond) ∈ tw := tw_of (i := 99) rfl rfl
set_option maxRecDepth 30000 in
theorem wd_100 : (.fieldLink R_H 13 "TripRounds$Sharing" "rests" "[J" : Cond) ∈ tw := tw_of (i := 100) rfl rfl
set_option maxRecDepth 30000 in
theorem wd_101 : (.fieldLink R_H 16 "TripRounds$Sharing" "shares" "[I" : Cond) ∈ tw := tw_of (i := 101) rfl rfl
set_option maxRecDepth 30000 in
theorem wd_102 : (.fieldLink R_M 36 "TripRounds$Sharing" "shares" "[I" : Cond) ∈ tw := tw_of (i := 102) rfl rfl
set_option maxRecDepth 30000 in
theorem wd_103 : (.fieldLink R_B 68 "TripRounds$Sharing" "shares" "[I" : Cond) ∈ tw := tw_of (i := 103) rfl rfl
set_option maxRecDepth 30000 in
theorem wd_113 : (.static ⟨"java/util/Arrays", "fill", "([II)V"⟩ : Cond) ∈ tw := tw_of (i := 113) rfl rfl
set_option maxRecDepth 30000 in
theorem wd_115 : (.fieldLink R_B 9 "TripRounds$Table" "weights" "[I" : Cond) ∈ tw := tw_of (i := 115) rfl rfl
set_option maxRecDepth 30000 in
theorem wd_116 : (.fieldLink R_T 111 "TripRounds$Table" "weights" "[I" : Cond) ∈ tw := tw_of (i := 116) rfl rfl
set_option maxRecDepth 30000 in
theorem wd_117 : (.fieldLink R_B 15 "TripRounds$Table" "cells" "[I" : Cond) ∈ tw := tw_of (i := 117) rfl rfl
set_option maxRecDepth 30000 in
theorem wd_118 : (.fieldLink R_T 124 "TripRounds$Table" "cells" "[I" : Cond) ∈ tw := tw_of (i := 118) rfl rfl
set_option maxRecDepth 30000 in
theorem wd_119 : (.fieldLink R_B 18 "TripRounds$Table" "factors" "[I" : Cond) ∈ tw := tw_of (i := 119) rfl rfl
set_option maxRecDepth 30000 in
theorem wd_120 : (.fieldLink R_T 134 "TripRounds$Table" "factors" "[I" : Cond) ∈ tw := tw_of (i := 120) rfl rfl
set_option maxRecDepth 30000 in
theorem wd_121 : (.fieldLink R_B 26 "TripRounds$Table" "sharing" "LTripRounds$Sharing;" : Cond) ∈ tw := tw_of (i := 121) rfl rfl
set_option maxRecDepth 30000 in
theorem wd_139 : (.methodLink R_M 24 y_M_placeOf : Cond) ∈ tw := tw_of (i := 139) rfl rfl
set_option maxRecDepth 30000 in
theorem wd_140 : (.static y_M_placeOf : Cond) ∈ tw := tw_of (i := 140) rfl rfl
set_option maxRecDepth 30000 in
theorem wd_142 : (.fieldLink R_M 9 "TripRounds$Modes" "pulls" "[I" : Cond) ∈ tw := tw_of (i := 142) rfl rfl
set_option maxRecDepth 30000 in
theorem wd_143 : (.fieldLink R_T 140 "TripRounds$Modes" "pulls" "[I" : Cond) ∈ tw := tw_of (i := 143) rfl rfl
set_option maxRecDepth 30000 in
theorem wd_144 : (.fieldLink R_M 20 "TripRounds$Modes" "sharing" "LTripRounds$Sharing;" : Cond) ∈ tw := tw_of (i := 144) rfl rfl
set_option maxRecDepth 30000 in
theorem wd_157 : (.fieldLink R_S 9 "TripRounds$Streets" "many" "I" : Cond) ∈ tw := tw_of (i := 157) rfl rfl
set_option maxRecDepth 30000 in
theorem wd_158 : (.fieldLink R_W 22 "TripRounds$Streets" "many" "I" : Cond) ∈ tw := tw_of (i := 158) rfl rfl
set_option maxRecDepth 30000 in
theorem wd_159 : (.fieldLink R_T 86 "TripRounds$Streets" "many" "I" : Cond) ∈ tw := tw_of (i := 159) rfl rfl
set_option maxRecDepth 30000 in
theorem wd_160 : (.fieldLink R_S 15 "TripRounds$Streets" "starts" "[I" : Cond) ∈ tw := tw_of (i := 160) rfl rfl
set_option maxRecDepth 30000 in
theorem wd_161 : (.fieldLink R_W 52 "TripRounds$Streets" "starts" "[I" : Cond) ∈ tw := tw_of (i := 161) rfl rfl
set_option maxRecDepth 30000 in
theorem wd_162 : (.fieldLink R_S 19 "TripRounds$Streets" "ends" "[I" : Cond) ∈ tw := tw_of (i := 162) rfl rfl
set_option maxRecDepth 30000 in
theorem wd_163 : (.fieldLink R_A 52 "TripRounds$Streets" "ends" "[I" : Cond) ∈ tw := tw_of (i := 163) rfl rfl
set_option maxRecDepth 30000 in
theorem wd_164 : (.fieldLink R_W 58 "TripRounds$Streets" "ends" "[I" : Cond) ∈ tw := tw_of (i := 164) rfl rfl
set_option maxRecDepth 30000 in
theorem wd_165 : (.fieldLink R_S 22 "TripRounds$Streets" "frees" "[I" : Cond) ∈ tw := tw_of (i := 165) rfl rfl
set_option maxRecDepth 30000 in
theorem wd_166 : (.fieldLink R_S 25 "TripRounds$Streets" "slopes" "[I" : Cond) ∈ tw := tw_of (i := 166) rfl rfl
set_option maxRecDepth 30000 in
theorem wd_167 : (.fieldLink R_S 28 "TripRounds$Streets" "rooms" "[I" : Cond) ∈ tw := tw_of (i := 167) rfl rfl
set_option maxRecDepth 30000 in
theorem wd_168 : (.fieldLink R_S 31 "TripRounds$Streets" "tolls" "[I" : Cond) ∈ tw := tw_of (i := 168) rfl rfl
set_option maxRecDepth 30000 in
theorem wd_169 : (.fieldLink R_T 96 "TripRounds$Streets" "tolls" "[I" : Cond) ∈ tw := tw_of (i := 169) rfl rfl
set_option maxRecDepth 30000 in
theorem wd_170 : (.fieldLink R_S 34 "TripRounds$Streets" "isOpen" "[Z" : Cond) ∈ tw := tw_of (i := 170) rfl rfl
set_option maxRecDepth 30000 in
theorem wd_171 : (.fieldLink R_T 100 "TripRounds$Streets" "isOpen" "[Z" : Cond) ∈ tw := tw_of (i := 171) rfl rfl
set_option maxRecDepth 30000 in
theorem wd_172 : (.fieldLink R_W 61 "TripRounds$Streets" "isOpen" "[Z" : Cond) ∈ tw := tw_of (i := 172) rfl rfl
set_option maxRecDepth 30000 in
theorem wd_173 : (.fieldLink R_S 38 "TripRounds$Streets" "counts" "[I" : Cond) ∈ tw := tw_of (i := 173) rfl rfl
set_option maxRecDepth 30000 in
theorem wd_174 : (.fieldLink R_T 189 "TripRounds$Streets" "counts" "[I" : Cond) ∈ tw := tw_of (i := 174) rfl rfl
set_option maxRecDepth 30000 in
theorem wd_175 : (.fieldLink R_S 41 "TripRounds$Streets" "volumes" "[I" : Cond) ∈ tw := tw_of (i := 175) rfl rfl
set_option maxRecDepth 30000 in
theorem wd_176 : (.fieldLink R_A 43 "TripRounds$Streets" "volumes" "[I" : Cond) ∈ tw := tw_of (i := 176) rfl rfl
set_option maxRecDepth 30000 in
theorem wd_177 : (.fieldLink R_T 152 "TripRounds$Streets" "volumes" "[I" : Cond) ∈ tw := tw_of (i := 177) rfl rfl
set_option maxRecDepth 30000 in
theorem wd_206 : (.fieldLink R_W 9 "TripRounds$Ways" "times" "[I" : Cond) ∈ tw := tw_of (i := 206) rfl rfl
set_option maxRecDepth 30000 in
theorem wd_207 : (.fieldLink R_T 179 "TripRounds$Ways" "times" "[I" : Cond) ∈ tw := tw_of (i := 207) rfl rfl
set_option maxRecDepth 30000 in
theorem wd_208 : (.fieldLink R_W 15 "TripRounds$Ways" "costs" "[J" : Cond) ∈ tw := tw_of (i := 208) rfl rfl
set_option maxRecDepth 30000 in
theorem wd_209 : (.fieldLink R_W 19 "TripRounds$Ways" "nexts" "[I" : Cond) ∈ tw := tw_of (i := 209) rfl rfl
set_option maxRecDepth 30000 in
theorem wd_210 : (.fieldLink R_A 40 "TripRounds$Ways" "nexts" "[I" : Cond) ∈ tw := tw_of (i := 210) rfl rfl
set_option maxRecDepth 30000 in
theorem wd_224 : (.fieldLink R_A 9 "TripRounds$Assignment" "parts" "I" : Cond) ∈ tw := tw_of (i := 224) rfl rfl
set_option maxRecDepth 30000 in
theorem wd_225 : (.fieldLink R_T 192 "TripRounds$Assignment" "parts" "I" : Cond) ∈ tw := tw_of (i := 225) rfl rfl
set_option maxRecDepth 30000 in
theorem wd_226 : (.fieldLink R_A 15 "TripRounds$Assignment" "lost" "I" : Cond) ∈ tw := tw_of (i := 226) rfl rfl
set_option maxRecDepth 30000 in
theorem wd_227 : (.fieldLink R_T 149 "TripRounds$Assignment" "lost" "I" : Cond) ∈ tw := tw_of (i := 227) rfl rfl
set_option maxRecDepth 30000 in
theorem wd_228 : (.fieldLink R_A 18 "TripRounds$Assignment" "drivers" "[I" : Cond) ∈ tw := tw_of (i := 228) rfl rfl
set_option maxRecDepth 30000 in
theorem wd_229 : (.fieldLink R_T 227 "TripRounds$Assignment" "drivers" "[I" : Cond) ∈ tw := tw_of (i := 229) rfl rfl
set_option maxRecDepth 30000 in
theorem wd_230 : (.fieldLink R_A 22 "TripRounds$Assignment" "went" "[I" : Cond) ∈ tw := tw_of (i := 230) rfl rfl
set_option maxRecDepth 30000 in
theorem wd_231 : (.fieldLink R_T 237 "TripRounds$Assignment" "went" "[I" : Cond) ∈ tw := tw_of (i := 231) rfl rfl
set_option maxRecDepth 30000 in
theorem wd_232 : (.fieldLink R_A 25 "TripRounds$Assignment" "used" "[I" : Cond) ∈ tw := tw_of (i := 232) rfl rfl
set_option maxRecDepth 30000 in
theorem wd_233 : (.fieldLink R_T 175 "TripRounds$Assignment" "used" "[I" : Cond) ∈ tw := tw_of (i := 233) rfl rfl
set_option maxRecDepth 30000 in
theorem wd_245 : (.fieldLink R_T 9 "TripRounds" "nodes" "I" : Cond) ∈ tw := tw_of (i := 245) rfl rfl
set_option maxRecDepth 30000 in
theorem wd_246 : (.fieldLink R_T 16 "TripRounds" "zones" "LTripRounds$Zones;" : Cond) ∈ tw := tw_of (i := 246) rfl rfl
set_option maxRecDepth 30000 in
theorem wd_247 : (.fieldLink R_T 23 "TripRounds" "table" "LTripRounds$Table;" : Cond) ∈ tw := tw_of (i := 247) rfl rfl
set_option maxRecDepth 30000 in
theorem wd_248 : (.fieldLink R_T 30 "TripRounds" "modes" "LTripRounds$Modes;" : Cond) ∈ tw := tw_of (i := 248) rfl rfl
set_option maxRecDepth 30000 in
theorem wd_249 : (.fieldLink R_T 37 "TripRounds" "streets" "LTripRounds$Streets;" : Cond) ∈ tw := tw_of (i := 249) rfl rfl
set_option maxRecDepth 30000 in
theorem wd_250 : (.fieldLink R_T 44 "TripRounds" "ways" "LTripRounds$Ways;" : Cond) ∈ tw := tw_of (i := 250) rfl rfl
set_option maxRecDepth 30000 in
theorem wd_251 : (.fieldLink R_T 51 "TripRounds" "latest" "LTripRounds$Assignment;" : Cond) ∈ tw := tw_of (i := 251) rfl rfl
set_option maxRecDepth 30000 in
theorem wd_271 : (.methodLink R_T 160 y_W_holdTimes : Cond) ∈ tw := tw_of (i := 271) rfl rfl
set_option maxRecDepth 30000 in
theorem wd_272 : (.instanceMethod y_W_holdTimes : Cond) ∈ tw := tw_of (i := 272) rfl rfl
set_option maxRecDepth 30000 in
theorem wd_273 : (.selects R_W y_W_holdTimes y_W_holdTimes : Cond) ∈ tw := tw_of (i := 273) rfl rfl
set_option maxRecDepth 30000 in
theorem wd_275 : (.methodLink R_W 28 y_S_timeOf : Cond) ∈ tw := tw_of (i := 275) rfl rfl
set_option maxRecDepth 30000 in
theorem wd_276 : (.instanceMethod y_S_timeOf : Cond) ∈ tw := tw_of (i := 276) rfl rfl
set_option maxRecDepth 30000 in
theorem wd_277 : (.selects R_S y_S_timeOf y_S_timeOf : Cond) ∈ tw := tw_of (i := 277) rfl rfl
set_option maxRecDepth 30000 in
theorem wd_279 : (.constantLong R_S 50 (1000000 : Int64) : Cond) ∈ tw := tw_of (i := 279) rfl rfl
set_option maxRecDepth 30000 in
theorem wd_280 : (.methodLink R_S 52 ⟨"java/lang/Math", "min", "(JJ)J"⟩ : Cond) ∈ tw := tw_of (i := 280) rfl rfl
set_option maxRecDepth 30000 in
theorem wd_281 : (.static ⟨"java/lang/Math", "min", "(JJ)J"⟩ : Cond) ∈ tw := tw_of (i := 281) rfl rfl
set_option maxRecDepth 30000 in
theorem wd_283 : (.methodLink R_T 164 y_W_aimAt : Cond) ∈ tw := tw_of (i := 283) rfl rfl
set_option maxRecDepth 30000 in
theorem wd_284 : (.instanceMethod y_W_aimAt : Cond) ∈ tw := tw_of (i := 284) rfl rfl
set_option maxRecDepth 30000 in
theorem wd_285 : (.selects R_W y_W_aimAt y_W_aimAt : Cond) ∈ tw := tw_of (i := 285) rfl rfl
set_option maxRecDepth 30000 in
theorem wd_287 : (.constantLong R_W 32 (1099511627776 : Int64) : Cond) ∈ tw := tw_of (i := 287) rfl rfl
set_option maxRecDepth 30000 in
theorem wd_288 : (.methodLink R_W 34 ⟨"java/util/Arrays", "fill", "([JJ)V"⟩ : Cond) ∈ tw := tw_of (i := 288) rfl rfl
set_option maxRecDepth 30000 in
theorem wd_289 : (.static ⟨"java/util/Arrays", "fill", "([JJ)V"⟩ : Cond) ∈ tw := tw_of (i := 289) rfl rfl
set_option maxRecDepth 30000 in
theorem wd_291 : (.methodLink R_W 40 y_W_lowerCosts : Cond) ∈ tw := tw_of (i := 291) rfl rfl
set_option maxRecDepth 30000 in
theorem wd_293 : (.instanceMethod y_W_lowerCosts : Cond) ∈ tw := tw_of (i := 293) rfl rfl
set_option maxRecDepth 30000 in
theorem wd_295 : (.methodLink R_W 48 y_W_costBy : Cond) ∈ tw := tw_of (i := 295) rfl rfl
set_option maxRecDepth 30000 in
theorem wd_297 : (.instanceMethod y_W_costBy : Cond) ∈ tw := tw_of (i := 297) rfl rfl
set_option maxRecDepth 30000 in
theorem wd_299 : (.constantLong R_W 65 (64 : Int64) : Cond) ∈ tw := tw_of (i := 299) rfl rfl
set_option maxRecDepth 30000 in
theorem wd_300 : (.methodLink R_W 44 y_W_chooseNexts : Cond) ∈ tw := tw_of (i := 300) rfl rfl
set_option maxRecDepth 30000 in
theorem wd_302 : (.instanceMethod y_W_chooseNexts : Cond) ∈ tw := tw_of (i := 302) rfl rfl
set_option maxRecDepth 30000 in
theorem wd_304 : (.methodLink R_W 55 ⟨"java/util/Arrays", "fill", "([II)V"⟩ : Cond) ∈ tw := tw_of (i := 304) rfl rfl
set_option maxRecDepth 30000 in
theorem wd_305 : (.methodLink R_T 185 y_T_leastTimeTo : Cond) ∈ tw := tw_of (i := 305) rfl rfl
set_option maxRecDepth 30000 in
theorem wd_307 : (.instanceMethod y_T_leastTimeTo : Cond) ∈ tw := tw_of (i := 307) rfl rfl
set_option maxRecDepth 30000 in
theorem wd_309 : (.methodLink R_T 172 y_W_timeFrom : Cond) ∈ tw := tw_of (i := 309) rfl rfl
set_option maxRecDepth 30000 in
theorem wd_310 : (.instanceMethod y_W_timeFrom : Cond) ∈ tw := tw_of (i := 310) rfl rfl
set_option maxRecDepth 30000 in
theorem wd_311 : (.selects R_W y_W_timeFrom y_W_timeFrom : Cond) ∈ tw := tw_of (i := 311) rfl rfl
set_option maxRecDepth 30000 in
theorem wd_313 : (.methodLink R_T 107 y_T_pairOf : Cond) ∈ tw := tw_of (i := 313) rfl rfl
set_option maxRecDepth 30000 in
theorem wd_314 : (.static y_T_pairOf : Cond) ∈ tw := tw_of (i := 314) rfl rfl
set_option maxRecDepth 30000 in
theorem wd_399 : (.methodLink R_T 62 y_T_needNode : Cond) ∈ tw := tw_of (i := 399) rfl rfl
set_option maxRecDepth 30000 in
theorem wd_401 : (.instanceMethod y_T_needNode : Cond) ∈ tw := tw_of (i := 401) rfl rfl
set_option maxRecDepth 30000 in
theorem wd_419 : (.constant R_T 66 (100000 : Int32) : Cond) ∈ tw := tw_of (i := 419) rfl rfl
set_option maxRecDepth 30000 in
theorem wd_420 : (.methodLink R_T 67 y_T_needWithin : Cond) ∈ tw := tw_of (i := 420) rfl rfl
set_option maxRecDepth 30000 in
theorem wd_421 : (.static y_T_needWithin : Cond) ∈ tw := tw_of (i := 421) rfl rfl
set_option maxRecDepth 30000 in
theorem wd_425 : (.methodLink R_T 76 y_Z_addZone : Cond) ∈ tw := tw_of (i := 425) rfl rfl
set_option maxRecDepth 30000 in
theorem wd_426 : (.instanceMethod y_Z_addZone : Cond) ∈ tw := tw_of (i := 426) rfl rfl
set_option maxRecDepth 30000 in
theorem wd_427 : (.selects R_Z y_Z_addZone y_Z_addZone : Cond) ∈ tw := tw_of (i := 427) rfl rfl
set_option maxRecDepth 30000 in
theorem wd_437 : (.constant R_T 85 (1000000 : Int32) : Cond) ∈ tw := tw_of (i := 437) rfl rfl
set_option maxRecDepth 30000 in
theorem wd_439 : (.methodLink R_T 89 y_S_addStreet : Cond) ∈ tw := tw_of (i := 439) rfl rfl
set_option maxRecDepth 30000 in
theorem wd_440 : (.instanceMethod y_S_addStreet : Cond) ∈ tw := tw_of (i := 440) rfl rfl
set_option maxRecDepth 30000 in
theorem wd_441 : (.selects R_S y_S_addStreet y_S_addStreet : Cond) ∈ tw := tw_of (i := 441) rfl rfl
set_option maxRecDepth 30000 in
theorem wd_450 : (.methodLink R_T 93 y_T_needStreet : Cond) ∈ tw := tw_of (i := 450) rfl rfl
set_option maxRecDepth 30000 in
theorem wd_452 : (.instanceMethod y_T_needStreet : Cond) ∈ tw := tw_of (i := 452) rfl rfl
set_option maxRecDepth 30000 in
theorem wd_469 : (.methodLink R_T 104 y_T_needZone : Cond) ∈ tw := tw_of (i := 469) rfl rfl
set_option maxRecDepth 30000 in
theorem wd_471 : (.instanceMethod y_T_needZone : Cond) ∈ tw := tw_of (i := 471) rfl rfl
set_option maxRecDepth 30000 in
theorem wd_488 : (.methodLink R_T 120 y_B_goRounds : Cond) ∈ tw := tw_of (i := 488) rfl rfl
set_option maxRecDepth 30000 in
theorem wd_489 : (.instanceMethod y_B_goRounds : Cond) ∈ tw := tw_of (i := 489) rfl rfl
set_option maxRecDepth 30000 in
theorem wd_490 : (.selects R_B y_B_goRounds y_B_goRounds : Cond) ∈ tw := tw_of (i := 490) rfl rfl
set_option maxRecDepth 30000 in
theorem wd_492 : (.methodLink R_B 42 y_B_shareAllPeople : Cond) ∈ tw := tw_of (i := 492) rfl rfl
set_option maxRecDepth 30000 in
theorem wd_494 : (.instanceMethod y_B_shareAllPeople : Cond) ∈ tw := tw_of (i := 494) rfl rfl
set_option maxRecDepth 30000 in
theorem wd_497 : (.methodLink R_B 64 y_H_shareOut : Cond) ∈ tw := tw_of (i := 497) rfl rfl
set_option maxRecDepth 30000 in
theorem wd_498 : (.instanceMethod y_H_shareOut : Cond) ∈ tw := tw_of (i := 498) rfl rfl
set_option maxRecDepth 30000 in
theorem wd_499 : (.selects R_H y_H_shareOut y_H_shareOut : Cond) ∈ tw := tw_of (i := 499) rfl rfl
set_option maxRecDepth 30000 in
theorem wd_501 : (.methodLink R_H 20 ⟨"java/util/Arrays", "fill", "([II)V"⟩ : Cond) ∈ tw := tw_of (i := 501) rfl rfl
set_option maxRecDepth 30000 in
theorem wd_502 : (.methodLink R_H 26 y_H_giveOne : Cond) ∈ tw := tw_of (i := 502) rfl rfl
set_option maxRecDepth 30000 in
theorem wd_504 : (.instanceMethod y_H_giveOne : Cond) ∈ tw := tw_of (i := 504) rfl rfl
set_option maxRecDepth 30000 in
theorem wd_506 : (.constantLong R_H 30 (-1 : Int64) : Cond) ∈ tw := tw_of (i := 506) rfl rfl
set_option maxRecDepth 30000 in
theorem wd_507 : (.methodLink R_B 46 y_B_isMet : Cond) ∈ tw := tw_of (i := 507) rfl rfl
set_option maxRecDepth 30000 in
theorem wd_509 : (.instanceMethod y_B_isMet : Cond) ∈ tw := tw_of (i := 509) rfl rfl
set_option maxRecDepth 30000 in
theorem wd_511 : (.methodLink R_B 71 y_B_sumTo : Cond) ∈ tw := tw_of (i := 511) rfl rfl
set_option maxRecDepth 30000 in
theorem wd_512 : (.instanceMethod y_B_sumTo : Cond) ∈ tw := tw_of (i := 512) rfl rfl
set_option maxRecDepth 30000 in
theorem wd_513 : (.selects R_B y_B_sumTo y_B_sumTo : Cond) ∈ tw := tw_of (i := 513) rfl rfl
set_option maxRecDepth 30000 in
theorem wd_515 : (.methodLink R_B 78 ⟨"java/lang/Math", "abs", "(I)I"⟩ : Cond) ∈ tw := tw_of (i := 515) rfl rfl
set_option maxRecDepth 30000 in
theorem wd_516 : (.static ⟨"java/lang/Math", "abs", "(I)I"⟩ : Cond) ∈ tw := tw_of (i := 516) rfl rfl
set_option maxRecDepth 30000 in
theorem wd_518 : (.methodLink R_B 50 y_B_changeFactors : Cond) ∈ tw := tw_of (i := 518) rfl rfl
set_option maxRecDepth 30000 in
theorem wd_520 : (.instanceMethod y_B_changeFactors : Cond) ∈ tw := tw_of (i := 520) rfl rfl
set_option maxRecDepth 30000 in
theorem wd_522 : (.constantLong R_B 83 (1000000 : Int64) : Cond) ∈ tw := tw_of (i := 522) rfl rfl
set_option maxRecDepth 30000 in
theorem wd_523 : (.methodLink R_B 85 ⟨"java/lang/Math", "min", "(JJ)J"⟩ : Cond) ∈ tw := tw_of (i := 523) rfl rfl
set_option maxRecDepth 30000 in
theorem wd_524 : (.methodLink R_B 89 ⟨"java/lang/Math", "max", "(JJ)J"⟩ : Cond) ∈ tw := tw_of (i := 524) rfl rfl
set_option maxRecDepth 30000 in
theorem wd_525 : (.static ⟨"java/lang/Math", "max", "(JJ)J"⟩ : Cond) ∈ tw := tw_of (i := 525) rfl rfl
set_option maxRecDepth 30000 in
theorem wd_541 : (.methodLink R_T 127 y_B_sumFrom : Cond) ∈ tw := tw_of (i := 541) rfl rfl
set_option maxRecDepth 30000 in
theorem wd_542 : (.instanceMethod y_B_sumFrom : Cond) ∈ tw := tw_of (i := 542) rfl rfl
set_option maxRecDepth 30000 in
theorem wd_543 : (.selects R_B y_B_sumFrom y_B_sumFrom : Cond) ∈ tw := tw_of (i := 543) rfl rfl
set_option maxRecDepth 30000 in
theorem wd_545 : (.methodLink R_T 131 y_B_sumTo : Cond) ∈ tw := tw_of (i := 545) rfl rfl
set_option maxRecDepth 30000 in
theorem wd_560 : (.methodLink R_T 137 y_M_placeOf : Cond) ∈ tw := tw_of (i := 560) rfl rfl
set_option maxRecDepth 30000 in
theorem wd_568 : (.methodLink R_T 143 y_M_tripsBy : Cond) ∈ tw := tw_of (i := 568) rfl rfl
set_option maxRecDepth 30000 in
theorem wd_569 : (.instanceMethod y_M_tripsBy : Cond) ∈ tw := tw_of (i := 569) rfl rfl
set_option maxRecDepth 30000 in
theorem wd_570 : (.selects R_M y_M_tripsBy y_M_tripsBy : Cond) ∈ tw := tw_of (i := 570) rfl rfl
set_option maxRecDepth 30000 in
theorem wd_572 : (.methodLink R_M 32 y_H_shareOut : Cond) ∈ tw := tw_of (i := 572) rfl rfl
set_option maxRecDepth 30000 in
theorem wd_580 : (.methodLink R_T 146 y_T_assignAll : Cond) ∈ tw := tw_of (i := 580) rfl rfl
set_option maxRecDepth 30000 in
theorem wd_582 : (.instanceMethod y_T_assignAll : Cond) ∈ tw := tw_of (i := 582) rfl rfl
set_option maxRecDepth 30000 in
theorem wd_584 : (.methodLink R_T 212 y_A_begin : Cond) ∈ tw := tw_of (i := 584) rfl rfl
set_option maxRecDepth 30000 in
theorem wd_585 : (.instanceMethod y_A_begin : Cond) ∈ tw := tw_of (i := 585) rfl rfl
set_option maxRecDepth 30000 in
theorem wd_586 : (.selects R_A y_A_begin y_A_begin : Cond) ∈ tw := tw_of (i := 586) rfl rfl
set_option maxRecDepth 30000 in
theorem wd_588 : (.methodLink R_A 28 ⟨"java/util/Arrays", "fill", "([II)V"⟩ : Cond) ∈ tw := tw_of (i := 588) rfl rfl
set_option maxRecDepth 30000 in
theorem wd_589 : (.methodLink R_T 215 ⟨"java/util/Arrays", "fill", "([II)V"⟩ : Cond) ∈ tw := tw_of (i := 589) rfl rfl
set_option maxRecDepth 30000 in
theorem wd_590 : (.methodLink R_T 221 y_T_gatherDrivers : Cond) ∈ tw := tw_of (i := 590) rfl rfl
set_option maxRecDepth 30000 in
theorem wd_592 : (.instanceMethod y_T_gatherDrivers : Cond) ∈ tw := tw_of (i := 592) rfl rfl
set_option maxRecDepth 30000 in
theorem wd_594 : (.methodLink R_T 224 y_T_assignPart : Cond) ∈ tw := tw_of (i := 594) rfl rfl
set_option maxRecDepth 30000 in
theorem wd_596 : (.instanceMethod y_T_assignPart : Cond) ∈ tw := tw_of (i := 596) rfl rfl
set_option maxRecDepth 30000 in
theorem wd_598 : (.methodLink R_T 230 y_A_tripsOfPart : Cond) ∈ tw := tw_of (i := 598) rfl rfl
set_option maxRecDepth 30000 in
theorem wd_599 : (.instanceMethod y_A_tripsOfPart : Cond) ∈ tw := tw_of (i := 599) rfl rfl
set_option maxRecDepth 30000 in
theorem wd_600 : (.selects R_A y_A_tripsOfPart y_A_tripsOfPart : Cond) ∈ tw := tw_of (i := 600) rfl rfl
set_option maxRecDepth 30000 in
theorem wd_602 : (.methodLink R_T 233 y_A_send : Cond) ∈ tw := tw_of (i := 602) rfl rfl
set_option maxRecDepth 30000 in
theorem wd_603 : (.instanceMethod y_A_send : Cond) ∈ tw := tw_of (i := 603) rfl rfl
set_option maxRecDepth 30000 in
theorem wd_604 : (.selects R_A y_A_send y_A_send : Cond) ∈ tw := tw_of (i := 604) rfl rfl
set_option maxRecDepth 30000 in
theorem wd_606 : (.methodLink R_A 34 y_W_timeFrom : Cond) ∈ tw := tw_of (i := 606) rfl rfl
set_option maxRecDepth 30000 in
theorem wd_607 : (.methodLink R_A 48 y_A_placeOf : Cond) ∈ tw := tw_of (i := 607) rfl rfl
set_option maxRecDepth 30000 in
theorem wd_608 : (.static y_A_placeOf : Cond) ∈ tw := tw_of (i := 608) rfl rfl
set_option maxRecDepth 30000 in
theorem wd_617 : (.methodLink R_T 155 y_S_timeOf : Cond) ∈ tw := tw_of (i := 617) rfl rfl
set_option maxRecDepth 30000 in
theorem wd_626 : (.methodLink R_T 168 y_W_streetAt : Cond) ∈ tw := tw_of (i := 626) rfl rfl
set_option maxRecDepth 30000 in
theorem wd_627 : (.instanceMethod y_W_streetAt : Cond) ∈ tw := tw_of (i := 627) rfl rfl
set_option maxRecDepth 30000 in
theorem wd_628 : (.selects R_W y_W_streetAt y_W_streetAt : Cond) ∈ tw := tw_of (i := 628) rfl rfl
set_option maxRecDepth 30000 in
theorem wd_644 : (.methodLink R_T 178 y_A_placeOf : Cond) ∈ tw := tw_of (i := 644) rfl rfl
set_option maxRecDepth 30000 in
theorem wd_660 : (.methodLink R_T 197 y_S_farthestFromCount : Cond) ∈ tw := tw_of (i := 660) rfl rfl
set_option maxRecDepth 30000 in
theorem wd_661 : (.instanceMethod y_S_farthestFromCount : Cond) ∈ tw := tw_of (i := 661) rfl rfl
set_option maxRecDepth 30000 in
theorem wd_662 : (.selects R_S y_S_farthestFromCount y_S_farthestFromCount : Cond) ∈ tw := tw_of (i := 662) rfl rfl
set_option maxRecDepth 30000 in
theorem wd_664 : (.methodLink R_S 58 ⟨"java/lang/Math", "abs", "(I)I"⟩ : Cond) ∈ tw := tw_of (i := 664) rfl rfl
set_option maxRecDepth 30000 in
theorem wd_665 : (.methodLink R_T 201 y_T_scaleUsersOf : Cond) ∈ tw := tw_of (i := 665) rfl rfl
set_option maxRecDepth 30000 in
theorem wd_667 : (.instanceMethod y_T_scaleUsersOf : Cond) ∈ tw := tw_of (i := 667) rfl rfl
set_option maxRecDepth 30000 in
theorem wd_669 : (.constantLong R_T 240 (1000000 : Int64) : Cond) ∈ tw := tw_of (i := 669) rfl rfl
set_option maxRecDepth 30000 in
theorem wd_670 : (.methodLink R_T 242 ⟨"java/lang/Math", "min", "(JJ)J"⟩ : Cond) ∈ tw := tw_of (i := 670) rfl rfl
set_option maxRecDepth 30000 in
theorem wd_677 : (.fieldLink R_R 87 "TripRoundsModel" "code" "I" : Cond) ∈ tw := tw_of (i := 677) rfl rfl
set_option maxRecDepth 30000 in
theorem wd_678 : (.fieldLink R_R 91 "TripRoundsModel" "nodes" "I" : Cond) ∈ tw := tw_of (i := 678) rfl rfl
set_option maxRecDepth 30000 in
theorem wd_679 : (.fieldLink R_R 98 "TripRoundsModel" "zones" "I" : Cond) ∈ tw := tw_of (i := 679) rfl rfl
set_option maxRecDepth 30000 in
theorem wd_680 : (.fieldLink R_R 105 "TripRoundsModel" "streets" "I" : Cond) ∈ tw := tw_of (i := 680) rfl rfl
set_option maxRecDepth 30000 in
theorem wd_681 : (.fieldLink R_R 7 "TripRoundsModel" "zoneNode" "[I" : Cond) ∈ tw := tw_of (i := 681) rfl rfl
set_option maxRecDepth 30000 in
theorem wd_682 : (.fieldLink R_R 13 "TripRoundsModel" "people" "[I" : Cond) ∈ tw := tw_of (i := 682) rfl rfl
set_option maxRecDepth 30000 in
theorem wd_683 : (.fieldLink R_R 16 "TripRoundsModel" "jobs" "[I" : Cond) ∈ tw := tw_of (i := 683) rfl rfl
set_option maxRecDepth 30000 in
theorem wd_684 : (.fieldLink R_R 19 "TripRoundsModel" "froms" "[I" : Cond) ∈ tw := tw_of (i := 684) rfl rfl
set_option maxRecDepth 30000 in
theorem wd_685 : (.fieldLink R_R 22 "TripRoundsModel" "tos" "[I" : Cond) ∈ tw := tw_of (i := 685) rfl rfl
set_option maxRecDepth 30000 in
theorem wd_686 : (.fieldLink R_R 25 "TripRoundsModel" "frees" "[I" : Cond) ∈ tw := tw_of (i := 686) rfl rfl
set_option maxRecDepth 30000 in
theorem wd_687 : (.fieldLink R_R 28 "TripRoundsModel" "slopes" "[I" : Cond) ∈ tw := tw_of (i := 687) rfl rfl
set_option maxRecDepth 30000 in
theorem wd_688 : (.fieldLink R_R 31 "TripRoundsModel" "rooms" "[I" : Cond) ∈ tw := tw_of (i := 688) rfl rfl
set_option maxRecDepth 30000 in
theorem wd_689 : (.fieldLink R_R 34 "TripRoundsModel" "tolls" "[I" : Cond) ∈ tw := tw_of (i := 689) rfl rfl
set_option maxRecDepth 30000 in
theorem wd_690 : (.fieldLink R_R 37 "TripRoundsModel" "shut" "[Z" : Cond) ∈ tw := tw_of (i := 690) rfl rfl
set_option maxRecDepth 30000 in
theorem wd_691 : (.fieldLink R_R 41 "TripRoundsModel" "counts" "[I" : Cond) ∈ tw := tw_of (i := 691) rfl rfl
set_option maxRecDepth 30000 in
theorem wd_692 : (.fieldLink R_R 44 "TripRoundsModel" "volumes" "[J" : Cond) ∈ tw := tw_of (i := 692) rfl rfl
set_option maxRecDepth 30000 in
theorem wd_693 : (.fieldLink R_R 48 "TripRoundsModel" "weights" "[I" : Cond) ∈ tw := tw_of (i := 693) rfl rfl
set_option maxRecDepth 30000 in
theorem wd_694 : (.fieldLink R_R 51 "TripRoundsModel" "table" "[I" : Cond) ∈ tw := tw_of (i := 694) rfl rfl
set_option maxRecDepth 30000 in
theorem wd_695 : (.fieldLink R_R 54 "TripRoundsModel" "pulls" "[I" : Cond) ∈ tw := tw_of (i := 695) rfl rfl
set_option maxRecDepth 30000 in
theorem wd_696 : (.fieldLink R_R 57 "TripRoundsModel" "went" "[I" : Cond) ∈ tw := tw_of (i := 696) rfl rfl
set_option maxRecDepth 30000 in
theorem wd_697 : (.fieldLink R_R 60 "TripRoundsModel" "links" "[I" : Cond) ∈ tw := tw_of (i := 697) rfl rfl
set_option maxRecDepth 30000 in
theorem wd_698 : (.fieldLink R_R 63 "TripRoundsModel" "factors" "[I" : Cond) ∈ tw := tw_of (i := 698) rfl rfl
set_option maxRecDepth 30000 in
theorem wd_699 : (.fieldLink R_R 154 "TripRoundsModel" "parts" "I" : Cond) ∈ tw := tw_of (i := 699) rfl rfl
set_option maxRecDepth 30000 in
theorem wd_700 : (.fieldLink R_R 157 "TripRoundsModel" "lost" "I" : Cond) ∈ tw := tw_of (i := 700) rfl rfl
set_option maxRecDepth 30000 in
theorem wd_701 : (.fieldLink R_R 66 "TripRoundsModel" "numbers" "[J" : Cond) ∈ tw := tw_of (i := 701) rfl rfl
set_option maxRecDepth 30000 in
theorem wd_702 : (.fieldLink R_R 69 "TripRoundsModel" "rests" "[J" : Cond) ∈ tw := tw_of (i := 702) rfl rfl
set_option maxRecDepth 30000 in
theorem wd_703 : (.fieldLink R_R 72 "TripRoundsModel" "gets" "[I" : Cond) ∈ tw := tw_of (i := 703) rfl rfl
set_option maxRecDepth 30000 in
theorem wd_704 : (.fieldLink R_R 75 "TripRoundsModel" "times" "[J" : Cond) ∈ tw := tw_of (i := 704) rfl rfl
set_option maxRecDepth 30000 in
theorem wd_705 : (.fieldLink R_R 78 "TripRoundsModel" "near" "[J" : Cond) ∈ tw := tw_of (i := 705) rfl rfl
set_option maxRecDepth 30000 in
theorem wd_706 : (.fieldLink R_R 81 "TripRoundsModel" "few" "[I" : Cond) ∈ tw := tw_of (i := 706) rfl rfl
set_option maxRecDepth 30000 in
theorem wd_707 : (.fieldLink R_R 84 "TripRoundsModel" "row" "[I" : Cond) ∈ tw := tw_of (i := 707) rfl rfl
set_option maxRecDepth 30000 in
theorem wd_708 : (.fieldLink R_R 151 "TripRoundsModel" "rowSize" "I" : Cond) ∈ tw := tw_of (i := 708) rfl rfl
set_option maxRecDepth 30000 in
theorem wd_786 : (.methodLink R_R 108 y_R_isNode : Cond) ∈ tw := tw_of (i := 786) rfl rfl
set_option maxRecDepth 30000 in
theorem wd_788 : (.instanceMethod y_R_isNode : Cond) ∈ tw := tw_of (i := 788) rfl rfl
set_option maxRecDepth 30000 in
theorem wd_790 : (.methodLink R_R 94 y_R_isIn : Cond) ∈ tw := tw_of (i := 790) rfl rfl
set_option maxRecDepth 30000 in
theorem wd_791 : (.static y_R_isIn : Cond) ∈ tw := tw_of (i := 791) rfl rfl
set_option maxRecDepth 30000 in
theorem wd_793 : (.constant R_R 111 (100000 : Int32) : Cond) ∈ tw := tw_of (i := 793) rfl rfl
set_option maxRecDepth 30000 in
theorem wd_798 : (.constant R_R 112 (1000000 : Int32) : Cond) ∈ tw := tw_of (i := 798) rfl rfl
set_option maxRecDepth 30000 in
theorem wd_803 : (.methodLink R_R 113 y_R_isStreet : Cond) ∈ tw := tw_of (i := 803) rfl rfl
set_option maxRecDepth 30000 in
theorem wd_805 : (.instanceMethod y_R_isStreet : Cond) ∈ tw := tw_of (i := 805) rfl rfl
set_option maxRecDepth 30000 in
theorem wd_815 : (.methodLink R_R 116 y_R_isPair : Cond) ∈ tw := tw_of (i := 815) rfl rfl
set_option maxRecDepth 30000 in
theorem wd_817 : (.instanceMethod y_R_isPair : Cond) ∈ tw := tw_of (i := 817) rfl rfl
set_option maxRecDepth 30000 in
theorem wd_819 : (.methodLink R_R 101 y_R_isZone : Cond) ∈ tw := tw_of (i := 819) rfl rfl
set_option maxRecDepth 30000 in
theorem wd_821 : (.instanceMethod y_R_isZone : Cond) ∈ tw := tw_of (i := 821) rfl rfl
set_option maxRecDepth 30000 in
theorem wd_831 : (.methodLink R_R 130 y_R_oneRound : Cond) ∈ tw := tw_of (i := 831) rfl rfl
set_option maxRecDepth 30000 in
theorem wd_833 : (.instanceMethod y_R_oneRound : Cond) ∈ tw := tw_of (i := 833) rfl rfl
set_option maxRecDepth 30000 in
theorem wd_835 : (.methodLink R_R 122 y_R_share : Cond) ∈ tw := tw_of (i := 835) rfl rfl
set_option maxRecDepth 30000 in
theorem wd_837 : (.instanceMethod y_R_share : Cond) ∈ tw := tw_of (i := 837) rfl rfl
set_option maxRecDepth 30000 in
theorem wd_839 : (.constantLong R_R 120 (-1 : Int64) : Cond) ∈ tw := tw_of (i := 839) rfl rfl
set_option maxRecDepth 30000 in
theorem wd_840 : (.methodLink R_R 133 y_R_isMet : Cond) ∈ tw := tw_of (i := 840) rfl rfl
set_option maxRecDepth 30000 in
theorem wd_842 : (.instanceMethod y_R_isMet : Cond) ∈ tw := tw_of (i := 842) rfl rfl
set_option maxRecDepth 30000 in
theorem wd_844 : (.methodLink R_R 126 y_R_sumTo : Cond) ∈ tw := tw_of (i := 844) rfl rfl
set_option maxRecDepth 30000 in
theorem wd_846 : (.instanceMethod y_R_sumTo : Cond) ∈ tw := tw_of (i := 846) rfl rfl
set_option maxRecDepth 30000 in
theorem wd_848 : (.constantLong R_R 136 (1000000 : Int64) : Cond) ∈ tw := tw_of (i := 848) rfl rfl
set_option maxRecDepth 30000 in
theorem wd_869 : (.methodLink R_R 138 y_R_byMode : Cond) ∈ tw := tw_of (i := 869) rfl rfl
set_option maxRecDepth 30000 in
theorem wd_871 : (.instanceMethod y_R_byMode : Cond) ∈ tw := tw_of (i := 871) rfl rfl
set_option maxRecDepth 30000 in
theorem wd_877 : (.methodLink R_R 170 y_R_assignAll : Cond) ∈ tw := tw_of (i := 877) rfl rfl
set_option maxRecDepth 30000 in
theorem wd_879 : (.instanceMethod y_R_assignAll : Cond) ∈ tw := tw_of (i := 879) rfl rfl
set_option maxRecDepth 30000 in
theorem wd_881 : (.methodLink R_R 160 y_R_takeTimes : Cond) ∈ tw := tw_of (i := 881) rfl rfl
set_option maxRecDepth 30000 in
theorem wd_883 : (.instanceMethod y_R_takeTimes : Cond) ∈ tw := tw_of (i := 883) rfl rfl
set_option maxRecDepth 30000 in
theorem wd_885 : (.methodLink R_R 142 y_R_timeOf : Cond) ∈ tw := tw_of (i := 885) rfl rfl
set_option maxRecDepth 30000 in
theorem wd_887 : (.instanceMethod y_R_timeOf : Cond) ∈ tw := tw_of (i := 887) rfl rfl
set_option maxRecDepth 30000 in
theorem wd_889 : (.methodLink R_R 163 y_R_goPart : Cond) ∈ tw := tw_of (i := 889) rfl rfl
set_option maxRecDepth 30000 in
theorem wd_891 : (.instanceMethod y_R_goPart : Cond) ∈ tw := tw_of (i := 891) rfl rfl
set_option maxRecDepth 30000 in
theorem wd_893 : (.methodLink R_R 167 y_R_findWay : Cond) ∈ tw := tw_of (i := 893) rfl rfl
set_option maxRecDepth 30000 in
theorem wd_895 : (.instanceMethod y_R_findWay : Cond) ∈ tw := tw_of (i := 895) rfl rfl
set_option maxRecDepth 30000 in
theorem wd_897 : (.methodLink R_R 147 y_R_findNear : Cond) ∈ tw := tw_of (i := 897) rfl rfl
set_option maxRecDepth 30000 in
theorem wd_899 : (.instanceMethod y_R_findNear : Cond) ∈ tw := tw_of (i := 899) rfl rfl
set_option maxRecDepth 30000 in
theorem wd_901 : (.constantLong R_R 145 (1000000000000 : Int64) : Cond) ∈ tw := tw_of (i := 901) rfl rfl
set_option maxRecDepth 30000 in
theorem wd_930 : (.methodLink R_R 176 y_R_worst : Cond) ∈ tw := tw_of (i := 930) rfl rfl
set_option maxRecDepth 30000 in
theorem wd_932 : (.instanceMethod y_R_worst : Cond) ∈ tw := tw_of (i := 932) rfl rfl
set_option maxRecDepth 30000 in
theorem wd_934 : (.methodLink R_R 173 y_R_offOf : Cond) ∈ tw := tw_of (i := 934) rfl rfl
set_option maxRecDepth 30000 in
theorem wd_936 : (.instanceMethod y_R_offOf : Cond) ∈ tw := tw_of (i := 936) rfl rfl
set_option maxRecDepth 30000 in
theorem wc_T_assignAll : (.code y_T_assignAll b_T_assignAll 3 none : Cond) ∈ tw := tw_of (i := 583) rfl rfl
set_option maxRecDepth 30000 in
theorem wc_T_assignPart : (.code y_T_assignPart b_T_assignPart 5 none : Cond) ∈ tw := tw_of (i := 597) rfl rfl
set_option maxRecDepth 30000 in
theorem wc_T_gatherDrivers : (.code y_T_gatherDrivers b_T_gatherDrivers 4 none : Cond) ∈ tw := tw_of (i := 593) rfl rfl
set_option maxRecDepth 30000 in
theorem wc_T_leastTimeTo : (.code y_T_leastTimeTo b_T_leastTimeTo 6 (some .long) : Cond) ∈ tw := tw_of (i := 308) rfl rfl
set_option maxRecDepth 30000 in
theorem wc_T_needNode : (.code y_T_needNode b_T_needNode 2 none : Cond) ∈ tw := tw_of (i := 402) rfl rfl
set_option maxRecDepth 30000 in
theorem wc_T_needStreet : (.code y_T_needStreet b_T_needStreet 2 none : Cond) ∈ tw := tw_of (i := 453) rfl rfl
set_option maxRecDepth 30000 in
theorem wc_T_needWithin : (.code y_T_needWithin b_T_needWithin 3 none : Cond) ∈ tw := tw_of (i := 422) rfl rfl
set_option maxRecDepth 30000 in
theorem wc_T_needZone : (.code y_T_needZone b_T_needZone 2 none : Cond) ∈ tw := tw_of (i := 472) rfl rfl
set_option maxRecDepth 30000 in
theorem wc_T_pairOf : (.code y_T_pairOf b_T_pairOf 2 (some .int) : Cond) ∈ tw := tw_of (i := 315) rfl rfl
set_option maxRecDepth 30000 in
theorem wc_T_scaleUsersOf : (.code y_T_scaleUsersOf b_T_scaleUsersOf 7 none : Cond) ∈ tw := tw_of (i := 668) rfl rfl
set_option maxRecDepth 30000 in
theorem wc_A_begin : (.code y_A_begin b_A_begin 2 none : Cond) ∈ tw := tw_of (i := 587) rfl rfl
set_option maxRecDepth 30000 in
theorem wc_A_placeOf : (.code y_A_placeOf b_A_placeOf 2 (some .int) : Cond) ∈ tw := tw_of (i := 609) rfl rfl
set_option maxRecDepth 30000 in
theorem wc_A_send : (.code y_A_send b_A_send 8 none : Cond) ∈ tw := tw_of (i := 605) rfl rfl
set_option maxRecDepth 30000 in
theorem wc_A_tripsOfPart : (.code y_A_tripsOfPart b_A_tripsOfPart 5 (some .int) : Cond) ∈ tw := tw_of (i := 601) rfl rfl
set_option maxRecDepth 30000 in
theorem wc_M_placeOf : (.code y_M_placeOf b_M_placeOf 2 (some .int) : Cond) ∈ tw := tw_of (i := 141) rfl rfl
set_option maxRecDepth 30000 in
theorem wc_M_tripsBy : (.code y_M_tripsBy b_M_tripsBy 5 (some .int) : Cond) ∈ tw := tw_of (i := 571) rfl rfl
set_option maxRecDepth 30000 in
theorem wc_H_giveOne : (.code y_H_giveOne b_H_giveOne 4 none : Cond) ∈ tw := tw_of (i := 505) rfl rfl
set_option maxRecDepth 30000 in
theorem wc_H_shareOut : (.code y_H_shareOut b_H_shareOut 9 none : Cond) ∈ tw := tw_of (i := 500) rfl rfl
set_option maxRecDepth 30000 in
theorem wc_S_addStreet : (.code y_S_addStreet b_S_addStreet 6 (some .int) : Cond) ∈ tw := tw_of (i := 442) rfl rfl
set_option maxRecDepth 30000 in
theorem wc_S_farthestFromCount : (.code y_S_farthestFromCount b_S_farthestFromCount 5 (some .int) : Cond) ∈ tw := tw_of (i := 663) rfl rfl
set_option maxRecDepth 30000 in
theorem wc_S_timeOf : (.code y_S_timeOf b_S_timeOf 4 (some .int) : Cond) ∈ tw := tw_of (i := 278) rfl rfl
set_option maxRecDepth 30000 in
theorem wc_B_changeFactors : (.code y_B_changeFactors b_B_changeFactors 6 none : Cond) ∈ tw := tw_of (i := 521) rfl rfl
set_option maxRecDepth 30000 in
theorem wc_B_goRounds : (.code y_B_goRounds b_B_goRounds 5 (some .int) : Cond) ∈ tw := tw_of (i := 491) rfl rfl
set_option maxRecDepth 30000 in
theorem wc_B_isMet : (.code y_B_isMet b_B_isMet 4 (some .boolean) : Cond) ∈ tw := tw_of (i := 510) rfl rfl
set_option maxRecDepth 30000 in
theorem wc_B_shareAllPeople : (.code y_B_shareAllPeople b_B_shareAllPeople 4 none : Cond) ∈ tw := tw_of (i := 495) rfl rfl
set_option maxRecDepth 30000 in
theorem wc_B_sumFrom : (.code y_B_sumFrom b_B_sumFrom 4 (some .int) : Cond) ∈ tw := tw_of (i := 544) rfl rfl
set_option maxRecDepth 30000 in
theorem wc_B_sumTo : (.code y_B_sumTo b_B_sumTo 4 (some .int) : Cond) ∈ tw := tw_of (i := 514) rfl rfl
set_option maxRecDepth 30000 in
theorem wc_W_aimAt : (.code y_W_aimAt b_W_aimAt 5 none : Cond) ∈ tw := tw_of (i := 286) rfl rfl
set_option maxRecDepth 30000 in
theorem wc_W_chooseNexts : (.code y_W_chooseNexts b_W_chooseNexts 6 none : Cond) ∈ tw := tw_of (i := 303) rfl rfl
set_option maxRecDepth 30000 in
theorem wc_W_costBy : (.code y_W_costBy b_W_costBy 5 (some .long) : Cond) ∈ tw := tw_of (i := 298) rfl rfl
set_option maxRecDepth 30000 in
theorem wc_W_holdTimes : (.code y_W_holdTimes b_W_holdTimes 3 none : Cond) ∈ tw := tw_of (i := 274) rfl rfl
set_option maxRecDepth 30000 in
theorem wc_W_lowerCosts : (.code y_W_lowerCosts b_W_lowerCosts 6 (some .boolean) : Cond) ∈ tw := tw_of (i := 294) rfl rfl
set_option maxRecDepth 30000 in
theorem wc_W_streetAt : (.code y_W_streetAt b_W_streetAt 6 (some .int) : Cond) ∈ tw := tw_of (i := 629) rfl rfl
set_option maxRecDepth 30000 in
theorem wc_W_timeFrom : (.code y_W_timeFrom b_W_timeFrom 2 (some .int) : Cond) ∈ tw := tw_of (i := 312) rfl rfl
set_option maxRecDepth 30000 in
theorem wc_Z_addZone : (.code y_Z_addZone b_Z_addZone 4 (some .int) : Cond) ∈ tw := tw_of (i := 428) rfl rfl
set_option maxRecDepth 30000 in
theorem wc_R_assignAll : (.code y_R_assignAll b_R_assignAll 5 none : Cond) ∈ tw := tw_of (i := 880) rfl rfl
set_option maxRecDepth 30000 in
theorem wc_R_byMode : (.code y_R_byMode b_R_byMode 4 (some .int) : Cond) ∈ tw := tw_of (i := 872) rfl rfl
set_option maxRecDepth 30000 in
theorem wc_R_findNear : (.code y_R_findNear b_R_findNear 9 none : Cond) ∈ tw := tw_of (i := 900) rfl rfl
set_option maxRecDepth 30000 in
theorem wc_R_findWay : (.code y_R_findWay b_R_findWay 8 (some .boolean) : Cond) ∈ tw := tw_of (i := 896) rfl rfl
set_option maxRecDepth 30000 in
theorem wc_R_goPart : (.code y_R_goPart b_R_goPart 10 none : Cond) ∈ tw := tw_of (i := 892) rfl rfl
set_option maxRecDepth 30000 in
theorem wc_R_isIn : (.code y_R_isIn b_R_isIn 3 (some .boolean) : Cond) ∈ tw := tw_of (i := 792) rfl rfl
set_option maxRecDepth 30000 in
theorem wc_R_isMet : (.code y_R_isMet b_R_isMet 6 (some .boolean) : Cond) ∈ tw := tw_of (i := 843) rfl rfl
set_option maxRecDepth 30000 in
theorem wc_R_isNode : (.code y_R_isNode b_R_isNode 2 (some .boolean) : Cond) ∈ tw := tw_of (i := 789) rfl rfl
set_option maxRecDepth 30000 in
theorem wc_R_isPair : (.code y_R_isPair b_R_isPair 3 (some .boolean) : Cond) ∈ tw := tw_of (i := 818) rfl rfl
set_option maxRecDepth 30000 in
theorem wc_R_isStreet : (.code y_R_isStreet b_R_isStreet 2 (some .boolean) : Cond) ∈ tw := tw_of (i := 806) rfl rfl
set_option maxRecDepth 30000 in
theorem wc_R_isZone : (.code y_R_isZone b_R_isZone 2 (some .boolean) : Cond) ∈ tw := tw_of (i := 822) rfl rfl
set_option maxRecDepth 30000 in
theorem wc_R_offOf : (.code y_R_offOf b_R_offOf 4 (some .long) : Cond) ∈ tw := tw_of (i := 937) rfl rfl
set_option maxRecDepth 30000 in
theorem wc_R_oneRound : (.code y_R_oneRound b_R_oneRound 3 none : Cond) ∈ tw := tw_of (i := 834) rfl rfl
set_option maxRecDepth 30000 in
theorem wc_R_share : (.code y_R_share b_R_share 10 none : Cond) ∈ tw := tw_of (i := 838) rfl rfl
set_option maxRecDepth 30000 in
theorem wc_R_sumTo : (.code y_R_sumTo b_R_sumTo 5 (some .long) : Cond) ∈ tw := tw_of (i := 847) rfl rfl
set_option maxRecDepth 30000 in
theorem wc_R_takeTimes : (.code y_R_takeTimes b_R_takeTimes 2 none : Cond) ∈ tw := tw_of (i := 884) rfl rfl
set_option maxRecDepth 30000 in
theorem wc_R_timeOf : (.code y_R_timeOf b_R_timeOf 4 (some .long) : Cond) ∈ tw := tw_of (i := 888) rfl rfl
set_option maxRecDepth 30000 in
theorem wc_R_worst : (.code y_R_worst b_R_worst 3 (some .int) : Cond) ∈ tw := tw_of (i := 933) rfl rfl
set_option maxRecDepth 30000 in
theorem wm_abs : (.code Lib.Math.abs.name Lib.Math.abs.code 1 (some .int) : Cond) ∈ tw := tw_of (i := 517) rfl rfl
set_option maxRecDepth 30000 in
theorem wm_max_long : (.code Lib.MathLoose.max_long.x Lib.MathLoose.max_long.code 4 (some .long) : Cond) ∈ tw := tw_of (i := 526) rfl rfl
set_option maxRecDepth 30000 in
theorem wm_min_long : (.code Lib.MathLoose.min_long.x Lib.MathLoose.min_long.code 4 (some .long) : Cond) ∈ tw := tw_of (i := 282) rfl rfl
abbrev b_fillI : ByteArray := prog_18_method_103_code
def y_fillI : MethodName := ⟨"java/util/Arrays", "fill", "([II)V"⟩
set_option maxRecDepth 30000 in
theorem wf_I : (.code y_fillI b_fillI 4 none : Cond) ∈ tw := tw_of (i := 114) rfl rfl
abbrev b_fillJ : ByteArray := prog_18_method_101_code
def y_fillJ : MethodName := ⟨"java/util/Arrays", "fill", "([JJ)V"⟩
set_option maxRecDepth 30000 in
theorem wf_J : (.code y_fillJ b_fillJ 5 none : Cond) ∈ tw := tw_of (i := 290) rfl rfl
/-- the one word of the tables that is kept by itself -/
def tW (U : State) : Prop := va_Nw (.methodLinkNest R_B 57 y_T_pairOf "TripRounds") U
theorem tW_warm {s U : State} (hW : s.WarmedH U.vm) (h : tW s) : tW U := va_Nw.warmM hW h
end
section
/-! STATES OF A COMPONENT: its int fields, its int and boolean arrays, its long arrays, each by a number -/
abbrev tS : Type := (Nat → Int32) × (Nat → Nat → Int32) × (Nat → Nat → Int64)
def tF (σ : tS) (j : Nat) (v : Int32) : tS := (upd σ.1 j v, σ.2)
def tI (σ : tS) (a k : Nat) (v : Int32) : tS := (σ.1, (fun b => if b = a then upd (σ.2.1 a) k v else σ.2.1 b), σ.2.2)
def tJ (σ : tS) (a k : Nat) (v : Int64) : tS := (σ.1, σ.2.1, (fun b => if b = a then vp_updL (σ.2.2 a) k v else σ.2.2 b))
def tIf (σ : tS) (a : Nat) (v : Int32) : tS := (σ.1, (fun b => if b = a then (fun _ => v) else σ.2.1 b), σ.2.2)
def tJf (σ : tS) (a : Nat) (v : Int64) : tS := (σ.1, σ.2.1, (fun b => if b = a then (fun _ => v) else σ.2.2 b))
/-! THE WORDS OF THE PURE FUNCTIONS: none where the machine would throw by itself or a counter runs out -/
def tg {α : Type} (i : Int32) (n : Nat) (k : Option α) : Option α := if i < 0 ∨ n ≤ i.toNatClampNeg then none else k
def tz {α : Type} (y : Int64) (k : Option α) : Option α := if y = 0 then none else k
def ty {α : Type} (y : Int32) (k : Option α) : Option α := if y = 0 then none else k
def tb {α : Type} (v : Int32) (k : Option α) : Option α := if v = 0 ∨ v = 1 then k else none
def tb1 {α β : Type} (o : Option α) (k : α → Option β) : Option β := match o with
  | none => none
  | some a => k a
def tb2 {α β : Type} (o : Option (α × tS)) (k : α → tS → Option β) : Option β := match o with
  | none => none
  | some q => k q.1 q.2
def tx {α : Type} (o k : Option α) : Option α := match o with
  | none => k
  | some a => some a
def tit {F : Type} (z : F) (st : F → F) : Nat → F
  | 0 => z
  | n + 1 => st (tit z st n)
theorem tg_of {α : Type} {i : Int32} {n : Nat} {k : Option α} {r : α} (h : tg i n k = some r) : vp_in i n ∧ k = some r := by
  unfold tg at h
  by_cases c : i < 0 ∨ n ≤ i.toNatClampNeg
  · rw [if_pos c] at h; cases h
  · rw [if_neg c] at h; exact ⟨c, h⟩
theorem tz_of {α : Type} {y : Int64} {k : Option α} {r : α} (h : tz y k = some r) : (¬ y = 0) ∧ k = some r := by
  unfold tz at h
  by_cases c : y = 0
  · rw [if_pos c] at h; cases h
  · rw [if_neg c] at h; exact ⟨c, h⟩
theorem ty_of {α : Type} {y : Int32} {k : Option α} {r : α} (h : ty y k = some r) : (¬ y = 0) ∧ k = some r := by
  unfold ty at h
  by_cases c : y = 0
  · rw [if_pos c] at h; cases h
  · rw [if_neg c] at h; exact ⟨c, h⟩
theorem tb_of {α : Type} {v : Int32} {k : Option α} {r : α} (h : tb v k = some r) : (v = 0 ∨ v = 1) ∧ k = some r := by
  unfold tb at h
  by_cases c : v = 0 ∨ v = 1
  · rw [if_pos c] at h; exact ⟨c, h⟩
  · rw [if_neg c] at h; cases h
theorem tb_nar {v : Int32} (h : v = 0 ∨ v = 1) : narrow .boolean (.int v) = .int v := by
  rcases h with rfl | rfl <;> decide
theorem tb1_of {α β : Type} {o : Option α} {k : α → Option β} {r : β} (h : tb1 o k = some r) : ∃ a, o = some a ∧ k a = some r := by
  cases o with
  | none => cases h
  | some a => exact ⟨a, rfl, h⟩
theorem tb2_of {α β : Type} {o : Option (α × tS)} {k : α → tS → Option β} {r : β} (h : tb2 o k = some r) : ∃ v s, o = some (v, s) ∧ k v s = some r := by
  cases o with
  | none => cases h
  | some a => exact ⟨a.1, a.2, rfl, h⟩
theorem tx_of {α : Type} {o k : Option α} {r : α} (h : tx o k = some r) : o = some r ∨ k = some r := by
  cases o with
  | none => exact Or.inr h
  | some a => exact Or.inl h
theorem tn_no {α : Type} {P : Prop} {r : α} (h : (none : Option α) = some r) : P := by cases h
theorem ts_of {α : Type} {a r : α} (h : some a = some r) : a = r := Option.some.inj h
theorem tp_of {α β : Type} {a r : α} {b t : β} (h : some (a, b) = some (r, t)) : a = r ∧ b = t := by cases h; exact ⟨rfl, rfl⟩
theorem ti_pos {c : Prop} [Decidable c] {α : Type} {a b r : α} (h : c) (hf : (if c then a else b) = r) : a = r := by rw [if_pos h] at hf; exact hf
theorem ti_neg {c : Prop} [Decidable c] {α : Type} {a b r : α} (h : ¬ c) (hf : (if c then a else b) = r) : b = r := by rw [if_neg h] at hf; exact hf
/-! ADDRESSES AND CONTRACTS -/
def tA (n : Nat) (ad : Nat → Nat) : Nat → Prop := fun q => ∃ k, k < n ∧ q = ad k
def tD (n : Nat) (ad : Nat → Nat) : Prop := ∀ i j : Nat, i < n → j < n → ad i = ad j → i = j
theorem tD_of {n : Nat} {ad : Nat → Nat} {ws : va_W} (h : ws.map Prod.fst = (List.range n).map ad) (hd : tD n ad) : va_D (tA n ad) ws := by
  have at' : ∀ (i : Nat) (p : Nat × va_E), ws[i]? = some p → i < n ∧ p.1 = ad i := by
    intro i p hp
    have h1 : (ws.map Prod.fst)[i]? = some p.1 := by rw [List.getElem?_map, hp]; rfl
    rw [h, List.getElem?_map] at h1
    by_cases hi : i < n
    · rw [List.getElem?_range hi] at h1
      exact ⟨hi, (Option.some.inj h1).symm⟩
    · rw [List.getElem?_eq_none (by simpa using hi)] at h1
      cases h1
  refine ⟨fun i j p q hi hj e => ?_, fun k q hk => ?_⟩
  · obtain ⟨a1, a2⟩ := at' i p hi
    obtain ⟨b1, b2⟩ := at' j q hj
    exact hd i j a1 b1 (by rw [← a2, ← b2]; exact e)
  · obtain ⟨a1, a2⟩ := at' k q hk
    exact ⟨k, a1, a2⟩
/-- a method's start: its arguments, the cells of its component -/
def tP (D : va_G) (cl : List vw_C) (tys : List (ClassId × FieldType)) (w : va_W) (av : List Value) : Array Value → State → Prop := fun v U => v = av.toArray ∧ va_P D cl w U.heap ∧ va_K D cl tys U ∧ tW U
theorem tP_blind {D : va_G} {cl : List vw_C} {tys : List (ClassId × FieldType)} {w : va_W} {av : List Value} : FrameBlind (tP D cl tys w av) := fun a U g mk q => ⟨q.1, q.2.1, va_K.moved (u := U) (U := U.calling g mk a) (Vm.Alike.refl U.vm) q.2.2.1, va_Nw.same (u := U) rfl rfl q.2.2.2⟩
/-- its end: what it answers, the cells as they are then; nothing else has changed -/
def tQ (D : va_G) (cl : List vw_C) (w : va_W) (v : Option Value) (A : Nat → Prop) : Array Value → State → Outcome → State → Prop := fun _ st oc t => oc = .returned v ∧ va_P D cl w t.heap ∧ va_F A st t
/-- what stands fast in a method's walk -/
def tC (p : Program) (s : State) (m : MethodId) (args : Array Value) (meth : Method) (c : Code) (cc : ByteArray) (ret : Option FieldType) (nL : Nat) (own : String) (D : va_G) (cl : List vw_C) (tys : List (ClassId × FieldType)) : Prop :=
  p.tables.exec = Jvm.exec ∧ c.code = cc ∧ meth.sig.returnType = ret ∧ c.maxLocals = nL ∧ s.vm.findClass own = some m.cls ∧ (∀ w ∈ tw, w.before args s = true) ∧ meth.locks = false ∧ va_K D cl tys s ∧ tW s
theorem tw_cb {R : Room} {s : State} {args : Array Value} {own : String} {index maxL n : Nat} {y : MethodName} {bytes : ByteArray} {ret : Option FieldType} {rm : Room} (ht : ∀ w ∈ tw, w.before args s = true) (hc : Cond.code y bytes maxL ret ∈ tw) (hi : Cond.initialized y.cls ∈ tw) (hl : Cond.methodLink own index y ∈ tw) (hz : rm.cells = 0 ∧ rm.slots = 0)
    (hd : y.cls ≠ "java/lang/invoke/MethodHandle" ∧ y.cls ≠ "java/lang/invoke/VarHandle" ∧ (parseMethodDescriptor y.desc).map (fun d => d.parameters.length) = some n) (hR : rm.frames + 1 ≤ R.frames ∧ 8 + (maxL + 11) + rm.locals ≤ R.locals) :
    CallB R s args own index y bytes maxL ret (Cond.code y bytes maxL ret :: tw) rm 0 0 n := callB_of n ht (tw_G hc) rfl hz.1 hz.2 (ht _ hi) (ht _ hl) hd hR
section TRC
variable {p : Program} {l : Launch} {e : Env} {R : Room} {s : State} {m : MethodId} {args : Array Value} {below : List Frame} {meth : Method} {c : Code} {H : Heap} {locs : List Loc} {cells slots : Nat} {Q : State → Prop}
variable {pc : Nat} {ls : Array Slot} {rest st0 : List Value} {a : Array Value} {A0 A1 : Nat → Prop} {H0 : Heap} {mc ms : Nat} {free : Addr → Prop} {D : va_G} {cl : List vw_C} {w : va_W}
theorem tr_call {v : Option Value} (hr : va_Run p l e R s m args below meth c H locs cells slots mc ms (F0 m pc ls st0) rest (tQ D cl w v A1 a) free) (hS : va_S A0 H0 H locs) (hA : ∀ q, A1 q → A0 q) (hf : ∀ q, free q → A0 q)
    (kk : ∀ (H1 : Heap) (locs1 : List Loc), va_P D cl w H1 → (∀ q : Nat, q < H.size → ¬ A1 q → H1[q]? = H[q]?) → H.size ≤ H1.size → va_S A0 H0 H1 locs1 → W p l e R s m args below meth c H1 locs1 (cells + mc) (slots + ms) Q (F0 m (pc + 3) ls (v.toList ++ rest))) : W p l e R s m args below meth c H locs cells slots Q (F0 m pc ls st0) := by
  intro T hT X
  obtain ⟨v9, st₀, t, T', L, h0, X', hL, e1, e2, ⟨hv, hp, hz, hk⟩, st⟩ := hr T hT X
  cases hv
  rw [h0] at hz hk
  obtain ⟨t2, a1, b1⟩ := kk T'.heap (locs ++ L) (by rw [e1]; exact hp) (fun q h1 h2 => by rw [e1]; exact hk q h1 h2) (by rw [e1]; exact hz)
    ⟨Nat.le_trans hS.1 (by rw [e1]; exact hz), fun q h1 h2 => by rw [e1, hk q (Nat.lt_of_lt_of_le h1 hS.1) (fun z => h2 (hA q z))]; exact hS.2.1 q h1 h2, fun q hq => by
      rcases List.mem_append.mp hq with h | h
      · exact hS.2.2 q h
      · exact hf _ (hL q h)⟩ T' rfl X'
  exact ⟨t2, st t2 a1, b1⟩
theorem tr_calli {r : Int32} (hr : va_Run p l e R s m args below meth c H locs cells slots 0 0 (F0 m pc ls st0) rest (tQ D cl w (some (.int r)) A1 a) free) (hS : va_S A0 H0 H locs) (hA : ∀ q, A1 q → A0 q) (hf : ∀ q, free q → A0 q)
    (kk : ∀ (H1 : Heap) (locs1 : List Loc), va_P D cl w H1 → va_S A0 H0 H1 locs1 → W p l e R s m args below meth c H1 locs1 cells slots Q (F0 m (pc + 3) ls (.int r :: rest))) : W p l e R s m args below meth c H locs cells slots Q (F0 m pc ls st0) :=
  tr_call hr hS hA hf (fun H1 locs1 hP _ _ hS => kk H1 locs1 hP hS)
theorem tr_calll {r : Int64} (hr : va_Run p l e R s m args below meth c H locs cells slots 0 0 (F0 m pc ls st0) rest (tQ D cl w (some (.long r)) A1 a) free) (hS : va_S A0 H0 H locs) (hA : ∀ q, A1 q → A0 q) (hf : ∀ q, free q → A0 q)
    (kk : ∀ (H1 : Heap) (locs1 : List Loc), va_P D cl w H1 → va_S A0 H0 H1 locs1 → W p l e R s m args below meth c H1 locs1 cells slots Q (F0 m (pc + 3) ls (.long r :: rest))) : W p l e R s m args below meth c H locs cells slots Q (F0 m pc ls st0) :=
  tr_call hr hS hA hf (fun H1 locs1 hP _ _ hS => kk H1 locs1 hP hS)
theorem tr_callv (hr : va_Run p l e R s m args below meth c H locs cells slots 0 0 (F0 m pc ls st0) rest (tQ D cl w none A1 a) free) (hS : va_S A0 H0 H locs) (hA : ∀ q, A1 q → A0 q) (hf : ∀ q, free q → A0 q)
    (kk : ∀ (H1 : Heap) (locs1 : List Loc), va_P D cl w H1 → va_S A0 H0 H1 locs1 → W p l e R s m args below meth c H1 locs1 cells slots Q (F0 m (pc + 3) ls rest)) : W p l e R s m args below meth c H locs cells slots Q (F0 m pc ls st0) :=
  tr_call hr hS hA hf (fun H1 locs1 hP _ _ hS => kk H1 locs1 hP hS)
end TRC
end
section
/-! THROWS: a contract for the road on which a method throws a new object of class X, all old cells as they were -/
def tXo (X : String) (st : State) (o : Outcome) (t : State) : Prop := ∃ (x : Nat) (cell : Cell), o = .threw x ∧ t.heap[x]? = some cell ∧ cell.vm = .none ∧ st.vm.findClass X = some cell.cls
def tXf (st t : State) : Prop := st.WarmedH t.vm ∧ st.sameButNew ({ t with vm := st.vm } : State) [] 1 6
def MetX (l : Launch) (y : MethodName) (ws : List Cond) (rm : Room) (Pc : Array Value → State → Prop) (X : String) : Prop :=
  MetFree l y (headSpec ws rm) Pc (fun _ _ _ _ _ => True) (fun _ st o t => tXo X st o t ∧ tXf st t)
def XQ (below : List Frame) (X : String) (s : State) : State → Prop := fun t => ∃ o, t.status = .running ∧ Ended t below o ∧ tXo X s o t ∧ tXf s t
theorem MetX.ofW {l : Launch} {y : MethodName} {ws ws' : List Cond} {rm : Room} {Pc : Array Value → State → Prop} {X : String} {cc : ByteArray} {maxL : Nat} {ret : Option FieldType}
    (hy : plainName y.cls = true) (hw : ws = Cond.code y cc maxL ret :: ws')
    (body : ∀ p e s m args below meth c s₁, BodyLoose p l y (headSpec ws rm) cc maxL ret e s m args below meth c s₁ → c.maxLocals = maxL → Pc args s →
      W p l e (headSpec ws rm).room s m args below meth c s.heap [] 0 0 (XQ below X s) (entryFrame m args maxL)) : MetX l y ws rm Pc X := by
  refine MetFree.of_bodyS (code := cc) (maxLocals := maxL) (ret := ret) hy ?_ ?_
  · intro args s m h hn
    obtain ⟨meth, c, h1, h2, h3, h4, h5, h6, -, -⟩ := Cond.code_spec hn (atoms_spec (ws := ws) h _ (by rw [hw]; exact List.mem_cons_self))
    exact ⟨meth, c, h1, h2, h3, h4, h5, h6⟩
  · intro p e s m args below meth c s₁ B hml hP _
    have hh0 : s₁.heap = s.heap := by rw [B.state]; rfl
    obtain ⟨t, a1, o, b1, b2, b3⟩ := body p e s m args below meth c s₁ B hml hP s₁ hh0 (Stand.of_body B)
    exact ⟨t, o, a1, b1, b2, b3⟩
def tNo : Nat → Prop := fun _ => False
theorem tNo_nil {H0 H : Heap} {locs : List Loc} (h : va_S tNo H0 H locs) : locs = [] := by
  cases locs with
  | nil => rfl
  | cons a l => exact (h.2.2 a List.mem_cons_self).elim
theorem tx_none {c : Code} (h : c.exceptionTable.isEmpty = true) {k : Nat} : ∀ x ∈ c.exceptionTable.toList, covers x k = false := by
  intro x hx
  have h1 : c.exceptionTable.toList = [] := by simpa using h
  rw [h1] at hx
  cases hx
section TXW
variable {p : Program} {l : Launch} {e : Env} {R : Room} {s : State} {m : MethodId} {args : Array Value} {below : List Frame} {meth : Method} {c : Code} {H : Heap} {locs : List Loc} {cells slots : Nat} {Q : State → Prop}
variable {cc : ByteArray} {pc : Nat} {ls : Array Slot} {rest : List Value}
/-- new X; dup; ldc; <init>(String); athrow -/
theorem tr_throw {own X text : String} {names : List String} {i1 i2 i3 q : Nat} (hexec : p.tables.exec = Jvm.exec) (hb : c.code = cc) (hlocks : meth.locks = false) (hne : c.exceptionTable.isEmpty = true) (htr : l.stackTraces = false) (hown : s.vm.findClass own = some m.cls) (hml : c.maxLocals = ls.size)
    (hX : Bundle.fit X = true) (hnames : ∀ n ∈ names, Bundle.fit n = true) (hw : ∀ a ∈ Bundle.ownAtoms own i3 X names, a.before args s = true) (hcl : (Cond.classLink own i1 X).before args s = true) (hins : (Cond.instantiable X 6).before args s = true) (hini : (Cond.initialized X).before args s = true) (hZ : vk_R own i2 text q s)
    (hS : va_S tNo s.heap H locs) (hR : 1 ≤ R.cells ∧ 6 ≤ R.slots ∧ names.length + 3 < R.frames ∧ 1 + (13 * (names.length + 1) + 42) ≤ R.locals)
    (d1 : decode cc pc = .ok (.new i1, 3)) (d2 : decode cc (pc + 3) = .ok (.dup, 1)) (d3 : decode cc (pc + 4) = .ok (.ldc i2, 2)) (d4 : decode cc (pc + 6) = .ok (.invokespecial i3, 3)) (d5 : decode cc (pc + 9) = .ok (.athrow, 1)) :
    W p l e R s m args below meth c H locs 0 0 (XQ below X s) (F0 m pc ls []) := by
  have hl0 := tNo_nil hS
  subst hl0
  obtain ⟨cX, kX, hfX, hkX, -⟩ := Cond.instantiable_spec hins
  refine W.newcK hexec hb hown hcl hins hini rfl d1 (by omega) (by omega) hfX rfl fun H' kC hkC h1 h2 h3 => ?_
  refine lv_dup hexec hb (pc := pc + 3) d2 rfl ?_
  refine va_ldcS hexec hb hown hZ d3 ?_
  intro T hT X9
  subst hb
  have hcell : T.heap[H.size]? = some (freshCell cX kC) := by rw [hT]; exact h1
  obtain ⟨U, st, hrun, hend, hW, hsame, ce, hce, hoc⟩ := X9.ctorThrowS hexec (by rw [X9.admits.platform]; exact htr) hown hX hnames hw (fun x hx => by cases hx) hfX hkC hcell hS.1 (msg := .ref q) rfl
    (g := F0 m (pc + 6) ls (.ref q :: .ref H.size :: .ref H.size :: [])) rfl hml.symm rfl rfl (rest := []) rfl d4 d5 (tx_none hne) hR.2.2.1 (by show 2 * 0 + _ + _ ≤ _; have := hR.2.2.2; simp [Value.category]; omega) hlocks
  exact ⟨U, st, .threw H.size, hrun, hend, ⟨H.size, ce, rfl, hce, hoc.vm, hoc.cls⟩, hW, hsame⟩
/-- a call that throws: the machine stands with the exception noted over the caller's frame -/
def tX_Run (p : Program) (l : Launch) (e : Env) (R : Room) (s : State) (m : MethodId) (args : Array Value) (below : List Frame) (meth : Method) (c : Code) (H : Heap) (locs : List Loc) (g : JFrame) (rest : List Value) (X : String) : Prop :=
  ∀ T : State, T.heap = H → Stand p l e R s m args below meth c T locs 0 0 → ∃ (x : Nat) (T' : State), Stand p l e R s m args below meth c T' locs 1 6 ∧ (∃ cell : Cell, T'.heap[x]? = some cell ∧ cell.vm = .none ∧ s.vm.findClass X = some cell.cls) ∧ H.size ≤ T'.heap.size ∧ (∀ a : Nat, a < H.size → T'.heap[a]? = H[a]?) ∧
    ∀ target, Steps p.tables e below ((T'.setTop { g with stack := rest }).pushFrame (.throwing x)) target → Steps p.tables e below (T.setTop g) target
theorem tx_back {T : State} (X9 : Stand p l e R s m args below meth c T locs 0 0) {y : MethodName} {ws : List Cond} {rm : Room} {Pc : Array Value → State → Prop} {X : String} {bytes : ByteArray} {maxL : Nat} {ret : Option FieldType} (hM : MetX l y ws rm Pc X)
    (hws : ∀ w ∈ ws, ∀ (a' : Array Value) (U : State), s.WarmedH U.vm → w.before a' U = true) (hcode : Cond.code y bytes maxL ret ∈ ws) (hini : ∀ (a' : Array Value) (U : State), s.WarmedH U.vm → (Cond.initialized y.cls).before a' U = true)
    (hr : rm.cells ≤ R.cells ∧ rm.slots ≤ R.slots ∧ rm.frames + 1 ≤ R.frames ∧ 8 + (maxL + 11) + rm.locals ≤ R.locals)
    {g : JFrame} {ig : Instr} {mk : MethodId} {a : Array Value} (hg : g.method = m) (hsize : g.locals.size = c.maxLocals) (hdg : decode c.code g.pc = .ok (ig, 3)) (hW : 2 * g.monitorRoom + (g.stack.map fun v => v.category).sum ≤ 8) (hn : T.methodNamed? y = some mk) (hp : Pc a (T.calling g mk a)) :
    ∃ (x : Nat) (T' : State), Stand p l e R s m args below meth c T' locs 1 6 ∧ (∃ cell : Cell, T'.heap[x]? = some cell ∧ cell.vm = .none ∧ s.vm.findClass X = some cell.cls) ∧ T.heap.size ≤ T'.heap.size ∧ (∀ b : Nat, b < T.heap.size → T'.heap[b]? = T.heap[b]?) ∧
      Steps p.tables e below (doInvoke e (T.setTop g) [] mk a).1 ((T'.setTop g).pushFrame (.throwing x)) := by
  obtain ⟨methY, cY, hmY, hcY, -, hlY, -, -, -, -⟩ := Cond.code_spec hn (hws _ hcode a T X9.warmed)
  obtain ⟨kY, hkY, -⟩ := className_of_methodNamed hn
  have hinitY : kY.init = .initialized := Cond.initialized_spec (findClass_of_methodNamed hn) hkY (hini a T X9.warmed)
  have h : At T g.method c below := by rw [hg]; exact X9.here
  have happ : (headSpec ws rm).appliesLoose y e.platform (T.calling g mk a) = true :=
    Spec.appliesLoose_calling (g := g) h hdg hn hkY hinitY
      (X9.room_calling (g := g) (R' := (headSpec ws rm).room) hsize hmY hcY hr.2.2.1 (by rw [hlY]; show _ + _ + (maxL + 11) + rm.locals ≤ _; omega) (by show 0 + rm.cells ≤ _; omega) (by show 0 + rm.slots ≤ _; omega)) (atoms_intro fun w hw => hws w hw _ _ X9.warmed)
  have hfr0 : (T.setTop g).frames = .java g :: below := by rw [State.frames_setTop' g h.top, X9.tail]
  have hfr : (T.setTop g).frames = [.java g] ++ below := hfr0
  obtain ⟨o, t, hsteps, -, hend, ⟨⟨x, cell, rfl, hx1, hx2, hx3⟩, hW2, hsame⟩⟩ := Steps.callFree hM p X9.admits X9.cas X9.clock (acts := []) hfr happ hp trivial
  rw [hfr0] at hend
  have hW2' : (T.calling g mk a).WarmedH t.vm := hW2
  have hsame' : (T.calling g mk a).sameButNew ({ t with vm := (T.calling g mk a).vm } : State) [] 1 6 := hsame
  obtain ⟨T', X', hW3, hsame3, ht⟩ := X9.outOfThrown hg hend hW2' hsame'
  have hheap : t.heap = T'.heap := by rw [ht]; exact Stand.throwing_heap T' g x
  rw [List.append_nil, Nat.zero_add, Nat.zero_add] at X'
  refine ⟨x, T', X', ⟨cell, by rw [← hheap]; exact hx1, hx2, ?_⟩, hsame3.2.1, fun b hb => ?_, by rw [← ht]; exact hsteps⟩
  · have h1 : T.vm.findClass X = some cell.cls := hx3
    rw [← X9.warmed.alike.findClass]; exact h1
  · obtain ⟨cb, hcb⟩ : ∃ cb, T.heap[b]? = some cb := ⟨_, Array.getElem?_eq_some_iff.mpr ⟨hb, rfl⟩⟩
    rw [hcb]
    exact hsame3.old_cell hcb
theorem tx_runV {own C : String} {index nL n : Nat} {y : MethodName} {bytes : ByteArray} {maxL : Nat} {ret : Option FieldType} {ws : List Cond} {rm : Room} {Pc : Array Value → State → Prop} {X : String} {Ts : List Cond} {b : Addr} {As : List Value} {g : JFrame}
    (S : CallFix p m c cc nL s args Ts own) (hM : MetX l y ws rm Pc X) (cw : (∀ w ∈ ws, ∀ (a' : Array Value) (U : State), s.WarmedH U.vm → w.before a' U = true) ∧ Cond.code y bytes maxL ret ∈ ws ∧ (Cond.initialized y.cls).before args s = true ∧ (rm.cells ≤ R.cells ∧ rm.slots ≤ R.slots ∧ rm.frames + 1 ≤ R.frames ∧ 8 + (maxL + 11) + rm.locals ≤ R.locals))
    (hlink : (Cond.methodLink own index y).before args s = true) (hinst : (Cond.instanceMethod y).before args s = true) (hsel : (Cond.selects C y y).before args s = true) (hcode : (Cond.code y bytes maxL ret).before args s = true) (hy : y.cls ≠ "java/lang/invoke/MethodHandle" ∧ y.cls ≠ "java/lang/invoke/VarHandle")
    (hp : PreV s H C b Pc As) (hg : g.method = m) (hn : (parseMethodDescriptor y.desc).map (fun d => d.parameters.length) = some As.length) (hsize : g.locals.size = nL) (hstack : g.stack = As.reverse ++ .ref b :: rest) (hW : 2 * g.monitorRoom + (rest.map fun v => v.category).sum ≤ 8) (hdg : decode cc g.pc = .ok (.invokevirtual index, 3)) :
    tX_Run p l e R s m args below meth c H locs g rest X := by
  obtain ⟨hx, hb, hml, ho, -⟩ := S
  obtain ⟨hws, hcw, hini, hrm⟩ := cw
  obtain ⟨hbl, ⟨cellB, hcB, hoB, hclB⟩, hPc⟩ := hp
  intro T hT X9
  subst hb
  obtain ⟨mk, methM, hnamed, hmethM, hstM, habM⟩ := Cond.instanceMethod_spec hinst
  obtain ⟨methM', cM, hmethM', -, -, -, -, -, -, hsigM⟩ := Cond.code_spec hnamed hcode
  cases hmethM.symm.trans hmethM'
  obtain ⟨c2, r2, m2, q1, q2, q3, q4, kP, hkP, hkPi⟩ := Cond.selects_spec hsel
  cases hclB.symm.trans q1
  cases (State.methodFound?_of_named hnamed hy).symm.trans q2
  cases hnamed.symm.trans q3
  have hselP : selectMethod e.platform s.vm cellB.cls mk = .method mk := by rw [Launch.admits_selectMethod X9.admits]; exact q4
  rw [hsigM] at hn
  obtain ⟨vm₁, X₁, hstep₁⟩ := X9.invokevirtual hx ho hlink hnamed hmethM hstM hkP hkPi hy (a := b) (cell := cellB) (by rw [hT]; exact hcB)
    (fun z h => by rw [h] at hoB; cases hoB) hselP hmethM habM hkP hkPi (g := g) hg (argsL := As) (rest := rest) (Option.some.inj hn).symm hstack hdg
  obtain ⟨x, T', X', hc, hz, ho2, hst⟩ := tx_back X₁ hM hws hcw (fun a' U hW => word_at hW (Or.inl (by first | rfl | simp [Cond.onTables, Cond.keeps, Cond.steady])) hini) hrm (g := { g with stack := rest }) (ig := .invokevirtual index) (mk := mk) (a := (Value.ref b :: As).toArray) hg (hsize.trans hml.symm) hdg hW (X₁.named hnamed) (hbl _ _ _ _ (hPc (T.setVm vm₁) hT X₁.warmed))
  refine ⟨x, T', X', hc, by rw [← hT]; exact hz, fun a ha => by rw [← hT]; exact ho2 a (by rw [← hT] at ha; exact ha), fun target h => hstep₁ _ fun acts => by rw [doInvoke_state]; exact hst.trans h⟩
theorem tx_runS {own : String} {index nL : Nat} {y : MethodName} {bytes : ByteArray} {maxL : Nat} {ret : Option FieldType} {ws : List Cond} {rm : Room} {Pc : Array Value → State → Prop} {X : String} {Ts : List Cond} {As : List Value} {g : JFrame}
    (S : CallFix p m c cc nL s args Ts own) (hM : MetX l y ws rm Pc X) (cw : (∀ w ∈ ws, ∀ (a' : Array Value) (U : State), s.WarmedH U.vm → w.before a' U = true) ∧ Cond.code y bytes maxL ret ∈ ws ∧ (Cond.initialized y.cls).before args s = true ∧ (rm.cells ≤ R.cells ∧ rm.slots ≤ R.slots ∧ rm.frames + 1 ≤ R.frames ∧ 8 + (maxL + 11) + rm.locals ≤ R.locals))
    (hlink : (Cond.methodLink own index y).before args s = true) (hstat : (Cond.static y).before args s = true) (hcode : (Cond.code y bytes maxL ret).before args s = true) (hy : y.cls ≠ "java/lang/invoke/MethodHandle" ∧ y.cls ≠ "java/lang/invoke/VarHandle")
    (hp : PreS s H Pc As) (hg : g.method = m) (hn : (parseMethodDescriptor y.desc).map (fun d => d.parameters.length) = some As.length) (hsize : g.locals.size = nL) (hstack : g.stack = As.reverse ++ rest) (hW : 2 * g.monitorRoom + (rest.map fun v => v.category).sum ≤ 8) (hdg : decode cc g.pc = .ok (.invokestatic index, 3)) :
    tX_Run p l e R s m args below meth c H locs g rest X := by
  obtain ⟨hx, hb, hml, ho, -⟩ := S
  obtain ⟨hws, hcw, hini, hrm⟩ := cw
  obtain ⟨hbl, hPc⟩ := hp
  intro T hT X9
  subst hb
  obtain ⟨mk, hnamed⟩ := Cond.code_named hcode
  obtain ⟨methM, cM, hmethM, -, -, -, -, -, -, hsigM⟩ := Cond.code_spec hnamed hcode
  have hstatic : methM.isStatic = true := Cond.static_spec hnamed hmethM hstat
  obtain ⟨kP, hkP, -⟩ := className_of_methodNamed hnamed
  have hinitP : kP.init = .initialized := Cond.initialized_spec (findClass_of_methodNamed hnamed) hkP hini
  rw [hsigM] at hn
  obtain ⟨vm₁, X₁, hstep₁⟩ := X9.invokestatic hx ho hlink hnamed hmethM hstatic hkP hinitP hy (g := g) hg (argsL := As) (rest := rest) (Option.some.inj hn).symm hstack hdg
  obtain ⟨x, T', X', hc, hz, ho2, hst⟩ := tx_back X₁ hM hws hcw (fun a' U hW => word_at hW (Or.inl (by first | rfl | simp [Cond.onTables, Cond.keeps, Cond.steady])) hini) hrm (g := { g with stack := rest }) (ig := .invokestatic index) (mk := mk) (a := As.toArray) hg (hsize.trans hml.symm) hdg hW (X₁.named hnamed) (hbl _ _ _ _ (hPc (T.setVm vm₁) hT X₁.warmed))
  refine ⟨x, T', X', hc, by rw [← hT]; exact hz, fun a ha => by rw [← hT]; exact ho2 a (by rw [← hT] at ha; exact ha), fun target h => hstep₁ _ fun acts => by rw [doInvoke_state]; exact hst.trans h⟩
/-- the callee throws, and nothing here catches it -/
theorem tr_pass {X : String} {st0 : List Value} (hr : tX_Run p l e R s m args below meth c H locs (F0 m pc ls st0) rest X) (hlocks : meth.locks = false) (hne : c.exceptionTable.isEmpty = true) (hS : va_S tNo s.heap H locs) : W p l e R s m args below meth c H locs 0 0 (XQ below X s) (F0 m pc ls st0) := by
  have hl0 := tNo_nil hS
  subst hl0
  intro T hT X9
  obtain ⟨x, T', X', ⟨cell, h1, h2, h3⟩, hz, ho2, hst⟩ := hr T hT X9
  obtain ⟨l1, l2, l3, l4, l5⟩ := X'.leaveThrown x (g := F0 m pc ls rest) rfl rfl rfl (tx_none hne) hlocks
  exact ⟨_, hst _ l1, .threw x, l2, l3, ⟨x, cell, rfl, h1, h2, h3⟩, l4, l5⟩
end TXW
end
section
theorem d_fillI_0 : decode b_fillI 0 = .ok (.iconst 0, 1) := by decide +kernel
theorem d_fillI_1 : decode b_fillI 1 = .ok (.istore_n 2, 1) := by decide +kernel
theorem d_fillI_2 : decode b_fillI 2 = .ok (.aload_n 0, 1) := by decide +kernel
theorem d_fillI_3 : decode b_fillI 3 = .ok (.arraylength, 1) := by decide +kernel
theorem d_fillI_4 : decode b_fillI 4 = .ok (.istore_n 3, 1) := by decide +kernel
theorem d_fillI_5 : decode b_fillI 5 = .ok (.iload_n 2, 1) := by decide +kernel
theorem d_fillI_6 : decode b_fillI 6 = .ok (.iload_n 3, 1) := by decide +kernel
theorem d_fillI_7 : decode b_fillI 7 = .ok (.if_icmp .ge 13, 3) := by decide +kernel
theorem d_fillI_10 : decode b_fillI 10 = .ok (.aload_n 0, 1) := by decide +kernel
theorem d_fillI_11 : decode b_fillI 11 = .ok (.iload_n 2, 1) := by decide +kernel
theorem d_fillI_12 : decode b_fillI 12 = .ok (.iload_n 1, 1) := by decide +kernel
theorem d_fillI_13 : decode b_fillI 13 = .ok (.iastore, 1) := by decide +kernel
theorem d_fillI_14 : decode b_fillI 14 = .ok (.iinc 2 1, 3) := by decide +kernel
theorem d_fillI_17 : decode b_fillI 17 = .ok (.goto (-12), 3) := by decide +kernel
theorem d_fillI_20 : decode b_fillI 20 = .ok (.return_, 1) := by decide +kernel
theorem d_fillJ_0 : decode b_fillJ 0 = .ok (.iconst 0, 1) := by decide +kernel
theorem d_fillJ_1 : decode b_fillJ 1 = .ok (.istore_n 3, 1) := by decide +kernel
theorem d_fillJ_2 : decode b_fillJ 2 = .ok (.aload_n 0, 1) := by decide +kernel
theorem d_fillJ_3 : decode b_fillJ 3 = .ok (.arraylength, 1) := by decide +kernel
theorem d_fillJ_4 : decode b_fillJ 4 = .ok (.istore 4, 2) := by decide +kernel
theorem d_fillJ_6 : decode b_fillJ 6 = .ok (.iload_n 3, 1) := by decide +kernel
theorem d_fillJ_7 : decode b_fillJ 7 = .ok (.iload 4, 2) := by decide +kernel
theorem d_fillJ_9 : decode b_fillJ 9 = .ok (.if_icmp .ge 13, 3) := by decide +kernel
theorem d_fillJ_12 : decode b_fillJ 12 = .ok (.aload_n 0, 1) := by decide +kernel
theorem d_fillJ_13 : decode b_fillJ 13 = .ok (.iload_n 3, 1) := by decide +kernel
theorem d_fillJ_14 : decode b_fillJ 14 = .ok (.lload_n 1, 1) := by decide +kernel
theorem d_fillJ_15 : decode b_fillJ 15 = .ok (.lastore, 1) := by decide +kernel
theorem d_fillJ_16 : decode b_fillJ 16 = .ok (.iinc 3 1, 3) := by decide +kernel
theorem d_fillJ_19 : decode b_fillJ 19 = .ok (.goto (-13), 3) := by decide +kernel
theorem d_fillJ_22 : decode b_fillJ 22 = .ok (.return_, 1) := by decide +kernel
/-! java.util.Arrays.fill of an int[] and of a long[]: the whole array becomes one number -/
theorem ar_congr {cA : ClassId} {n : Nat} {f g : Nat → Value} (h : ∀ j, j < n → f j = g j) : arrV cA n f = arrV cA n g := by
  have h1 : (fun j : Fin n => f j.val) = fun j : Fin n => g j.val := funext fun j => h j.val j.isLt
  unfold arrV
  rw [h1]
def rmF : Room := { frames := 0, cells := 0, slots := 0, locals := 0 }
set_option maxHeartbeats 4000000 in
set_option maxRecDepth 100000 in
theorem fi_loop {p : Program} {l : Launch} {e : Env} {s : State} {m : MethodId} {args : Array Value} {below : List Frame} {meth : Method} {c : Code} {D : va_G} {cl : List vw_C} {a n : Nat} {cA : ClassId} {v : Int32}
    (hx : p.tables.exec = Jvm.exec) (hb : c.code = b_fillI) (hr : meth.sig.returnType = none) (hlocks : meth.locks = false) (hK : va_K D cl [(cA, .int)] s) (hn : n < 2 ^ 31) :
    ∀ (k i : Nat) (f : Nat → Int32) (H : Heap) (locs : List Loc) (ls : Array Slot), i + k = n → (∀ j, j < i → f j = v) → va_P D cl [(a, .inl (cA, n, .inl f))] H → va_D (fun q => q = a) [(a, .inl (cA, n, .inl f))] → va_S (fun q => q = a) s.heap H locs → lv_has ls 4 [(0, .ref a), (1, .int v), (2, .int (nI i)), (3, .int (nI n))] →
      W p l e rmF s m args below meth c H locs 0 0 (MQ below (tQ D cl [(a, .inl (cA, n, .inl (fun _ => v)))] none (fun q => q = a)) args s 0 0 (fun q => q = a)) (F0 m 5 ls []) := by
  intro k
  induction k with
  | zero =>
    intro i f H locs ls hi hf hP hD hS hl
    have hin : i = n := by omega
    subst hin
    refine lv_iload_n hx hb d_fillI_5 rfl (lv_at hl 2 rfl) ?_
    refine lv_iload_n hx hb d_fillI_6 rfl (lv_at hl 3 rfl) ?_
    refine lv_icmp_ge (tgt := 20) hx hb d_fillI_7 (by decide) (fun hc => ?_) (fun hc => ?_)
    · have hP9 : va_P D cl [(a, .inl (cA, i, .inl (fun _ => v)))] H := by
        intro q x hq
        have h0 := hP 0 _ rfl
        have hz : q < 1 := (List.getElem?_eq_some_iff.mp hq).1
        rw [show q = 0 by omega] at hq
        cases hq
        show H[a]? = some (vp_cell _ _)
        have h1 : H[a]? = some (vp_cell cA (i, .inl f)) := h0
        rw [h1, vp_cell_i, vp_cell_i, ar_congr (fun j hj => by rw [hf j hj])]
      exact W.vret hx hb hr (fun t ht hW => ⟨rfl, by rw [ht]; exact hP9, hS.F ht⟩) hS.2.2 d_fillI_20
    · exact absurd (nI_le (Nat.le_refl i) hn) hc
  | succ k ih =>
    intro i f H locs ls hi hf hP hD hS hl
    have hin : i < n := by omega
    refine lv_iload_n hx hb d_fillI_5 rfl (lv_at hl 2 rfl) ?_
    refine lv_iload_n hx hb d_fillI_6 rfl (lv_at hl 3 rfl) ?_
    refine lv_icmp_ge (tgt := 20) hx hb d_fillI_7 (by decide) (fun hc => ?_) (fun hc => ?_)
    · exact absurd hc (nI_ge hin hn)
    · refine lv_aload_n hx hb d_fillI_10 rfl (lv_at hl 0 rfl) ?_
      refine lv_iload_n hx hb d_fillI_11 rfl (lv_at hl 2 rfl) ?_
      refine lv_iload_n hx hb d_fillI_12 rfl (lv_at hl 1 rfl) ?_
      refine va_iast (f := f) hx hb hK hP hD hS 0 0 rfl rfl (vp_in_nI hin hn) d_fillI_13 (fun H locs hP hD hS => ?_)
      refine lv_iinc (v := nI (i + 1)) (lv' := [(2, .int (nI (i + 1))), (0, .ref a), (1, .int v), (3, .int (nI n))]) hx hb d_fillI_14 hl (k := 2) rfl (nI_succ i).symm (by decide) rfl (fun ls hl => ?_)
      refine lv_goto (tgt := 5) hx hb d_fillI_17 (by decide) ?_
      refine ih (i + 1) (upd f (nI i).toNatClampNeg v) H locs ls (by omega) (fun j hj => ?_) hP hD hS (lv_sub hl [1, 2, 0, 3] rfl)
      rw [nI_clamp (by omega)]
      by_cases hji : j = i
      · subst hji; exact pk_us
      · rw [pk_un hji]; exact hf j (by omega)
set_option maxHeartbeats 4000000 in
set_option maxRecDepth 100000 in
theorem mc_fillI (l : Launch) {D : va_G} {cl : List vw_C} {a n : Nat} {cA : ClassId} {f : Nat → Int32} {v : Int32} (hn : n < 2 ^ 31) :
    Met l y_fillI (.code y_fillI b_fillI 4 none :: tw) rmF (tP D cl [(cA, .int)] [(a, .inl (cA, n, .inl f))] [.ref a, .int v]) (tQ D cl [(a, .inl (cA, n, .inl (fun _ => v)))] none (fun q => q = a)) 0 0 (fun q => q = a) := by
  refine Met.ofW (cc := b_fillI) (maxL := 4) (ret := none) (by decide) rfl ?_
  intro p e s m args below meth c s₁ B hml hv
  obtain ⟨rfl, hP, hK, -⟩ := hv
  have hx := B.exec
  have hb := B.bytes
  have hr := B.returns
  have hlocks := B.notSynchronized
  have hS : va_S (fun q => q = a) s.heap s.heap [] := va_S.rf
  have hD : va_D (fun q => q = a) [(a, .inl (cA, n, .inl f))] := ⟨fun i j x y hi hj _ => by
    have h1 : i < 1 := (List.getElem?_eq_some_iff.mp hi).1
    have h2 : j < 1 := (List.getElem?_eq_some_iff.mp hj).1
    omega, fun k q hk => by
    have hz : k < 1 := (List.getElem?_eq_some_iff.mp hk).1
    rw [show k = 0 by omega] at hk
    cases hk
    rfl⟩
  have hl := lv_entry ([.ref a, .int v]) (n := 4) (Nat.le_of_ble_eq_true rfl)
  rw [lg_entry_eq]
  generalize (lg_sl ([.ref a, .int v]) ++ List.replicate (4 - (lg_sl ([.ref a, .int v])).length) Slot.unset).toArray = ls at hl ⊢
  replace hl : lv_has ls 4 [(0, .ref a), (1, .int v)] := hl
  refine lv_iconst (v := 0) hx hb d_fillI_0 (by decide) ?_
  refine lv_istore_n (lv' := [(2, .int 0), (0, .ref a), (1, .int v)]) hx hb d_fillI_1 rfl hl (by decide) rfl (fun ls hl => ?_)
  refine lv_aload_n hx hb d_fillI_2 rfl (lv_at hl 1 rfl) ?_
  refine va_alen (v := nI n) hx hb hK hP 0 0 rfl rfl rfl d_fillI_3 ?_
  refine lv_istore_n (lv' := [(3, .int (nI n)), (2, .int 0), (0, .ref a), (1, .int v)]) hx hb d_fillI_4 rfl hl (by decide) rfl (fun ls hl => ?_)
  exact fi_loop hx hb hr hlocks hK hn n 0 f _ _ ls (by omega) (fun j hj => absurd hj (Nat.not_lt_zero j)) hP hD hS (by rw [nI_0]; exact lv_sub hl [2, 3, 1, 0] rfl)
set_option maxHeartbeats 4000000 in
set_option maxRecDepth 100000 in
theorem fj_loop {p : Program} {l : Launch} {e : Env} {s : State} {m : MethodId} {args : Array Value} {below : List Frame} {meth : Method} {c : Code} {D : va_G} {cl : List vw_C} {a n : Nat} {cA : ClassId} {v : Int64}
    (hx : p.tables.exec = Jvm.exec) (hb : c.code = b_fillJ) (hr : meth.sig.returnType = none) (hlocks : meth.locks = false) (hK : va_K D cl [(cA, .long)] s) (hn : n < 2 ^ 31) :
    ∀ (k i : Nat) (f : Nat → Int64) (H : Heap) (locs : List Loc) (ls : Array Slot), i + k = n → (∀ j, j < i → f j = v) → va_P D cl [(a, .inl (cA, n, .inr (.inl f)))] H → va_D (fun q => q = a) [(a, .inl (cA, n, .inr (.inl f)))] → va_S (fun q => q = a) s.heap H locs → lv_has ls 5 [(0, .ref a), (1, .long v), (3, .int (nI i)), (4, .int (nI n))] →
      W p l e rmF s m args below meth c H locs 0 0 (MQ below (tQ D cl [(a, .inl (cA, n, .inr (.inl (fun _ => v))))] none (fun q => q = a)) args s 0 0 (fun q => q = a)) (F0 m 6 ls []) := by
  intro k
  induction k with
  | zero =>
    intro i f H locs ls hi hf hP hD hS hl
    have hin : i = n := by omega
    subst hin
    refine lv_iload_n hx hb d_fillJ_6 rfl (lv_at hl 2 rfl) ?_
    refine lv_iload hx hb d_fillJ_7 (lv_at hl 3 rfl) ?_
    refine lv_icmp_ge (tgt := 22) hx hb d_fillJ_9 (by decide) (fun hc => ?_) (fun hc => ?_)
    · have hP9 : va_P D cl [(a, .inl (cA, i, .inr (.inl (fun _ => v))))] H := by
        intro q x hq
        have h0 := hP 0 _ rfl
        have hz : q < 1 := (List.getElem?_eq_some_iff.mp hq).1
        rw [show q = 0 by omega] at hq
        cases hq
        show H[a]? = some (vp_cell _ _)
        have h1 : H[a]? = some (vp_cell cA (i, .inr (.inl f))) := h0
        rw [h1, vp_cell_l, vp_cell_l, ar_congr (fun j hj => by rw [hf j hj])]
      exact W.vret hx hb hr (fun t ht hW => ⟨rfl, by rw [ht]; exact hP9, hS.F ht⟩) hS.2.2 d_fillJ_22
    · exact absurd (nI_le (Nat.le_refl i) hn) hc
  | succ k ih =>
    intro i f H locs ls hi hf hP hD hS hl
    have hin : i < n := by omega
    refine lv_iload_n hx hb d_fillJ_6 rfl (lv_at hl 2 rfl) ?_
    refine lv_iload hx hb d_fillJ_7 (lv_at hl 3 rfl) ?_
    refine lv_icmp_ge (tgt := 22) hx hb d_fillJ_9 (by decide) (fun hc => ?_) (fun hc => ?_)
    · exact absurd hc (nI_ge hin hn)
    · refine lv_aload_n hx hb d_fillJ_12 rfl (lv_at hl 0 rfl) ?_
      refine lv_iload_n hx hb d_fillJ_13 rfl (lv_at hl 2 rfl) ?_
      refine lv_lload_n hx hb d_fillJ_14 rfl (lv_at hl 1 rfl) ?_
      refine va_last (f := f) hx hb hK hP hD hS 0 0 rfl rfl (vp_in_nI hin hn) d_fillJ_15 (fun H locs hP hD hS => ?_)
      refine lv_iinc (v := nI (i + 1)) (lv' := [(3, .int (nI (i + 1))), (0, .ref a), (1, .long v), (4, .int (nI n))]) hx hb d_fillJ_16 hl (k := 2) rfl (nI_succ i).symm (by decide) rfl (fun ls hl => ?_)
      refine lv_goto (tgt := 6) hx hb d_fillJ_19 (by decide) ?_
      refine ih (i + 1) (vp_updL f (nI i).toNatClampNeg v) H locs ls (by omega) (fun j hj => ?_) hP hD hS (lv_sub hl [1, 2, 0, 3] rfl)
      rw [nI_clamp (by omega)]
      by_cases hji : j = i
      · subst hji; exact pk_uLs
      · rw [pk_uLn hji]; exact hf j (by omega)
set_option maxHeartbeats 4000000 in
set_option maxRecDepth 100000 in
theorem mc_fillJ (l : Launch) {D : va_G} {cl : List vw_C} {a n : Nat} {cA : ClassId} {f : Nat → Int64} {v : Int64} (hn : n < 2 ^ 31) :
    Met l y_fillJ (.code y_fillJ b_fillJ 5 none :: tw) rmF (tP D cl [(cA, .long)] [(a, .inl (cA, n, .inr (.inl f)))] [.ref a, .long v]) (tQ D cl [(a, .inl (cA, n, .inr (.inl (fun _ => v))))] none (fun q => q = a)) 0 0 (fun q => q = a) := by
  refine Met.ofW (cc := b_fillJ) (maxL := 5) (ret := none) (by decide) rfl ?_
  intro p e s m args below meth c s₁ B hml hv
  obtain ⟨rfl, hP, hK, -⟩ := hv
  have hx := B.exec
  have hb := B.bytes
  have hr := B.returns
  have hlocks := B.notSynchronized
  have hS : va_S (fun q => q = a) s.heap s.heap [] := va_S.rf
  have hD : va_D (fun q => q = a) [(a, .inl (cA, n, .inr (.inl f)))] := ⟨fun i j x y hi hj _ => by
    have h1 : i < 1 := (List.getElem?_eq_some_iff.mp hi).1
    have h2 : j < 1 := (List.getElem?_eq_some_iff.mp hj).1
    omega, fun k q hk => by
    have hz : k < 1 := (List.getElem?_eq_some_iff.mp hk).1
    rw [show k = 0 by omega] at hk
    cases hk
    rfl⟩
  have hl := lv_entry ([.ref a, .long v]) (n := 5) (Nat.le_of_ble_eq_true rfl)
  rw [lg_entry_eq]
  generalize (lg_sl ([.ref a, .long v]) ++ List.replicate (5 - (lg_sl ([.ref a, .long v])).length) Slot.unset).toArray = ls at hl ⊢
  replace hl : lv_has ls 5 [(0, .ref a), (1, .long v)] := hl
  refine lv_iconst (v := 0) hx hb d_fillJ_0 (by decide) ?_
  refine lv_istore_n (lv' := [(3, .int 0), (0, .ref a), (1, .long v)]) hx hb d_fillJ_1 rfl hl (by decide) rfl (fun ls hl => ?_)
  refine lv_aload_n hx hb d_fillJ_2 rfl (lv_at hl 1 rfl) ?_
  refine va_alen (v := nI n) hx hb hK hP 0 0 rfl rfl rfl d_fillJ_3 ?_
  refine lv_istore (lv' := [(4, .int (nI n)), (3, .int 0), (0, .ref a), (1, .long v)]) hx hb d_fillJ_4 hl (by decide) rfl (fun ls hl => ?_)
  exact fj_loop hx hb hr hlocks hK hn n 0 f _ _ ls (by omega) (fun j hj => absurd hj (Nat.not_lt_zero j)) hP hD hS (by rw [nI_0]; exact lv_sub hl [2, 3, 1, 0] rfl)
section TRF
variable {p : Program} {l : Launch} {e : Env} {R : Room} {s : State} {m : MethodId} {args : Array Value} {below : List Frame} {meth : Method} {c : Code} {H : Heap} {locs : List Loc} {cells slots : Nat} {Q : State → Prop}
variable {cc : ByteArray} {pc nL : Nat} {ls : Array Slot} {rest : List Value} {D : va_G} {cl : List vw_C} {A : Nat → Prop} {a : Nat} {tys : List (ClassId × FieldType)} {ws : va_W} {H0 : Heap} {own : String} {index : Nat}
theorem tr_set {q0 : Nat} {e0 e1 : va_E} {H1 : Heap} (h : va_P D cl ws H) (hD : va_D A ws) (hp : ws[q0]? = some (a, e0)) (he : va_at D cl (a, e1) H1) (oq : ∀ q : Nat, q < H.size → ¬ q = a → H1[q]? = H[q]?) : va_P D cl (ws.set q0 (a, e1)) H1 := by
  have hl := (List.getElem?_eq_some_iff.mp hp).1
  intro k q hk
  by_cases hkp : k = q0
  · subst hkp
    rw [List.getElem?_set_self hl] at hk
    cases hk
    exact he
  · rw [List.getElem?_set_ne (Ne.symm hkp)] at hk
    exact (h k q hk).kept (oq q.1 ((h k q hk).lt) (fun z => hkp (hD.1 k q0 q (a, e0) hk hp z)))
theorem tr_fillI (S : CallFix p m c cc nL s args tw own) (cw : CallB R s args own index y_fillI b_fillI 4 none (.code y_fillI b_fillI 4 none :: tw) rmF 0 0 2 ∧ (Cond.static y_fillI).before args s = true) (hK : va_K D cl tys s) (hN : tW s) (hP : va_P D cl ws H) (hD : va_D A ws) (hS : va_S A H0 H locs) (q0 t0 : Nat) {cA : ClassId} {n : Nat} {f : Nat → Int32} (ha : ws[q0]? = some (a, .inl (cA, n, .inl f))) (ht : tys[t0]? = some (cA, .int)) {v : Int32} (hn : n < 2 ^ 31) (hsz : ls.size = nL) (hW : 2 * (F0 m pc ls (.int v :: .ref a :: rest)).monitorRoom + (rest.map fun v => v.category).sum ≤ 8) (hdg : decode cc pc = .ok (.invokestatic index, 3))
    (kk : ∀ (H1 : Heap) (locs1 : List Loc), va_P D cl (ws.set q0 (a, .inl (cA, n, .inl (fun _ => v)))) H1 → va_S A H0 H1 locs1 → W p l e R s m args below meth c H1 locs1 cells slots Q (F0 m (pc + 3) ls rest)) (hc : cells ≤ R.cells ∧ slots ≤ R.slots) : W p l e R s m args below meth c H locs cells slots Q (F0 m pc ls (.int v :: .ref a :: rest)) := by
  have h1 : va_P D cl [(a, .inl (cA, n, .inl f))] H := hP.sub [q0] (by simp [ha])
  have h2 : va_K D cl [(cA, .int)] s := hK.sub [t0] (by simp [ht])
  exact tr_call (va_runS (As := [.ref a, .int v]) (rest := rest) S (mc_fillI l hn) cw ⟨tP_blind, fun U hU hW => ⟨rfl, by rw [hU]; exact h1, va_K.moved hW.alike h2, tW_warm hW hN⟩⟩ rfl rfl hsz rfl hW hdg hc) hS (fun q hq => by rw [hq]; exact hD.2 q0 _ ha) (fun q hq => by rw [hq]; exact hD.2 q0 _ ha)
    (fun H1 locs1 hP1 hk hz hS1 => kk H1 locs1 (tr_set hP hD ha (hP1 0 _ rfl) hk) hS1)
theorem tr_fillJ (S : CallFix p m c cc nL s args tw own) (cw : CallB R s args own index y_fillJ b_fillJ 5 none (.code y_fillJ b_fillJ 5 none :: tw) rmF 0 0 2 ∧ (Cond.static y_fillJ).before args s = true) (hK : va_K D cl tys s) (hN : tW s) (hP : va_P D cl ws H) (hD : va_D A ws) (hS : va_S A H0 H locs) (q0 t0 : Nat) {cA : ClassId} {n : Nat} {f : Nat → Int64} (ha : ws[q0]? = some (a, .inl (cA, n, .inr (.inl f)))) (ht : tys[t0]? = some (cA, .long)) {v : Int64} (hn : n < 2 ^ 31) (hsz : ls.size = nL) (hW : 2 * (F0 m pc ls (.long v :: .ref a :: rest)).monitorRoom + (rest.map fun v => v.category).sum ≤ 8) (hdg : decode cc pc = .ok (.invokestatic index, 3))
    (kk : ∀ (H1 : Heap) (locs1 : List Loc), va_P D cl (ws.set q0 (a, .inl (cA, n, .inr (.inl (fun _ => v))))) H1 → va_S A H0 H1 locs1 → W p l e R s m args below meth c H1 locs1 cells slots Q (F0 m (pc + 3) ls rest)) (hc : cells ≤ R.cells ∧ slots ≤ R.slots) : W p l e R s m args below meth c H locs cells slots Q (F0 m pc ls (.long v :: .ref a :: rest)) := by
  have h1 : va_P D cl [(a, .inl (cA, n, .inr (.inl f)))] H := hP.sub [q0] (by simp [ha])
  have h2 : va_K D cl [(cA, .long)] s := hK.sub [t0] (by simp [ht])
  exact tr_call (va_runS (As := [.ref a, .long v]) (rest := rest) S (mc_fillJ l hn) cw ⟨tP_blind, fun U hU hW => ⟨rfl, by rw [hU]; exact h1, va_K.moved hW.alike h2, tW_warm hW hN⟩⟩ rfl rfl hsz rfl hW hdg hc) hS (fun q hq => by rw [hq]; exact hD.2 q0 _ ha) (fun q hq => by rw [hq]; exact hD.2 q0 _ ha)
    (fun H1 locs1 hP1 hk hz hS1 => kk H1 locs1 (tr_set hP hD ha (hP1 0 _ rfl) hk) hS1)
end TRF
end
section
/-- the cells of component C in the state σ, at the addresses ad; ta: the classes of its arrays -/
def cwC (ad : Nat → Nat) (ta : Nat → ClassId) (σ : tS) : va_W := [
  (ad 0, .inr (0, [.int (σ.1 0), .ref (ad 1), .ref (ad 2), .ref (ad 3), .ref (ad 4), .ref (ad 5), .ref (ad 6)])),
  (ad 1, .inr (1, [.int (σ.1 1), .ref (ad 9), .ref (ad 10), .ref (ad 11)])),
  (ad 2, .inr (2, [.ref (ad 12), .ref (ad 13), .ref (ad 14), .ref (ad 7)])),
  (ad 3, .inr (3, [.ref (ad 15), .ref (ad 8)])),
  (ad 4, .inr (4, [.int (σ.1 2), .ref (ad 16), .ref (ad 17), .ref (ad 18), .ref (ad 19), .ref (ad 20), .ref (ad 21), .ref (ad 22), .ref (ad 23), .ref (ad 24)])),
  (ad 5, .inr (5, [.ref (ad 25), .ref (ad 26), .ref (ad 27)])),
  (ad 6, .inr (6, [.int (σ.1 3), .int (σ.1 4), .ref (ad 28), .ref (ad 29), .ref (ad 30)])),
  (ad 7, .inr (7, [.ref (ad 31), .ref (ad 32), .ref (ad 33)])),
  (ad 8, .inr (7, [.ref (ad 34), .ref (ad 35), .ref (ad 36)])),
  (ad 9, .inl (ta 0, 6, .inl (σ.2.1 0))),
  (ad 10, .inl (ta 1, 6, .inl (σ.2.1 1))),
  (ad 11, .inl (ta 2, 6, .inl (σ.2.1 2))),
  (ad 12, .inl (ta 3, 36, .inl (σ.2.1 3))),
  (ad 13, .inl (ta 4, 36, .inl (σ.2.1 4))),
  (ad 14, .inl (ta 5, 6, .inl (σ.2.1 5))),
  (ad 15, .inl (ta 6, 108, .inl (σ.2.1 6))),
  (ad 16, .inl (ta 7, 40, .inl (σ.2.1 7))),
  (ad 17, .inl (ta 8, 40, .inl (σ.2.1 8))),
  (ad 18, .inl (ta 9, 40, .inl (σ.2.1 9))),
  (ad 19, .inl (ta 10, 40, .inl (σ.2.1 10))),
  (ad 20, .inl (ta 11, 40, .inl (σ.2.1 11))),
  (ad 21, .inl (ta 12, 40, .inl (σ.2.1 12))),
  (ad 22, .inl (ta 13, 40, .inl (σ.2.1 13))),
  (ad 23, .inl (ta 14, 40, .inl (σ.2.1 14))),
  (ad 24, .inl (ta 15, 40, .inl (σ.2.1 15))),
  (ad 25, .inl (ta 16, 40, .inl (σ.2.1 16))),
  (ad 26, .inl (ta 17, 12, .inr (.inl (σ.2.2 0)))),
  (ad 27, .inl (ta 18, 12, .inl (σ.2.1 17))),
  (ad 28, .inl (ta 19, 36, .inl (σ.2.1 18))),
  (ad 29, .inl (ta 20, 36, .inl (σ.2.1 19))),
  (ad 30, .inl (ta 21, 1440, .inl (σ.2.1 20))),
  (ad 31, .inl (ta 22, 6, .inr (.inl (σ.2.2 1)))),
  (ad 32, .inl (ta 23, 6, .inr (.inl (σ.2.2 2)))),
  (ad 33, .inl (ta 24, 6, .inl (σ.2.1 21))),
  (ad 34, .inl (ta 25, 3, .inr (.inl (σ.2.2 3)))),
  (ad 35, .inl (ta 26, 3, .inr (.inl (σ.2.2 4)))),
  (ad 36, .inl (ta 27, 3, .inl (σ.2.1 22)))]
def tyC (ta : Nat → ClassId) : List (ClassId × FieldType) := [(ta 0, .int), (ta 1, .int), (ta 2, .int), (ta 3, .int), (ta 4, .int), (ta 5, .int), (ta 6, .int), (ta 7, .int), (ta 8, .int), (ta 9, .int), (ta 10, .int), (ta 11, .int), (ta 12, .int), (ta 13, .boolean), (ta 14, .int), (ta 15, .int), (ta 16, .int), (ta 17, .long), (ta 18, .int), (ta 19, .int), (ta 20, .int), (ta 21, .int), (ta 22, .long), (ta 23, .long), (ta 24, .int), (ta 25, .long), (ta 26, .long), (ta 27, .int)]
theorem cwC_D {ad : Nat → Nat} {ta : Nat → ClassId} {σ : tS} (hd : tD 37 ad) : va_D (tA 37 ad) (cwC ad ta σ) := tD_of rfl hd
/-- the cells of component R in the state σ, at the addresses ad; ta: the classes of its arrays -/
def cwR (ad : Nat → Nat) (ta : Nat → ClassId) (σ : tS) : va_W := [
  (ad 0, .inr (8, [.int (σ.1 0), .int (σ.1 1), .int (σ.1 2), .int (σ.1 3), .ref (ad 1), .ref (ad 2), .ref (ad 3), .ref (ad 4), .ref (ad 5), .ref (ad 6), .ref (ad 7), .ref (ad 8), .ref (ad 9), .ref (ad 10), .ref (ad 11), .ref (ad 12), .ref (ad 13), .ref (ad 14), .ref (ad 15), .ref (ad 16), .ref (ad 17), .ref (ad 18), .int (σ.1 4), .int (σ.1 5), .ref (ad 19), .ref (ad 20), .ref (ad 21), .ref (ad 22), .ref (ad 23), .ref (ad 24), .ref (ad 25), .int (σ.1 6)])),
  (ad 1, .inl (ta 0, 6, .inl (σ.2.1 0))),
  (ad 2, .inl (ta 1, 6, .inl (σ.2.1 1))),
  (ad 3, .inl (ta 2, 6, .inl (σ.2.1 2))),
  (ad 4, .inl (ta 3, 40, .inl (σ.2.1 3))),
  (ad 5, .inl (ta 4, 40, .inl (σ.2.1 4))),
  (ad 6, .inl (ta 5, 40, .inl (σ.2.1 5))),
  (ad 7, .inl (ta 6, 40, .inl (σ.2.1 6))),
  (ad 8, .inl (ta 7, 40, .inl (σ.2.1 7))),
  (ad 9, .inl (ta 8, 40, .inl (σ.2.1 8))),
  (ad 10, .inl (ta 9, 40, .inl (σ.2.1 9))),
  (ad 11, .inl (ta 10, 40, .inl (σ.2.1 10))),
  (ad 12, .inl (ta 11, 40, .inr (.inl (σ.2.2 0)))),
  (ad 13, .inl (ta 12, 36, .inl (σ.2.1 11))),
  (ad 14, .inl (ta 13, 36, .inl (σ.2.1 12))),
  (ad 15, .inl (ta 14, 108, .inl (σ.2.1 13))),
  (ad 16, .inl (ta 15, 36, .inl (σ.2.1 14))),
  (ad 17, .inl (ta 16, 1440, .inl (σ.2.1 15))),
  (ad 18, .inl (ta 17, 6, .inl (σ.2.1 16))),
  (ad 19, .inl (ta 18, 6, .inr (.inl (σ.2.2 1)))),
  (ad 20, .inl (ta 19, 6, .inr (.inl (σ.2.2 2)))),
  (ad 21, .inl (ta 20, 6, .inl (σ.2.1 17))),
  (ad 22, .inl (ta 21, 40, .inr (.inl (σ.2.2 3)))),
  (ad 23, .inl (ta 22, 12, .inr (.inl (σ.2.2 4)))),
  (ad 24, .inl (ta 23, 12, .inl (σ.2.1 18))),
  (ad 25, .inl (ta 24, 40, .inl (σ.2.1 19)))]
def tyR (ta : Nat → ClassId) : List (ClassId × FieldType) := [(ta 0, .int), (ta 1, .int), (ta 2, .int), (ta 3, .int), (ta 4, .int), (ta 5, .int), (ta 6, .int), (ta 7, .int), (ta 8, .int), (ta 9, .boolean), (ta 10, .int), (ta 11, .long), (ta 12, .int), (ta 13, .int), (ta 14, .int), (ta 15, .int), (ta 16, .int), (ta 17, .int), (ta 18, .long), (ta 19, .long), (ta 20, .int), (ta 21, .long), (ta 22, .long), (ta 23, .int), (ta 24, .int)]
theorem cwR_D {ad : Nat → Nat} {ta : Nat → ClassId} {σ : tS} (hd : tD 26 ad) : va_D (tA 26 ad) (cwR ad ta σ) := tD_of rfl hd
end
section
/-- TripRounds.node()I  -/
def mf_T_node  (σ : tS) : Option (Int32 × tS) :=
  if (σ.1 0) < (12 : Int32) then (some ((σ.1 0), (tF σ 0 ((σ.1 0) + (1 : Int32))))) else (none)
/-- TripRounds.node()I (what it throws) -/
def mx_T_node  (σ : tS) : Option Nat :=
  if (σ.1 0) < (12 : Int32) then (none) else (some 2)
/-- TripRounds.needNode(I)V  -/
def mf_T_needNode (p0 : Int32) (σ : tS) : Option tS :=
  if p0 < 0 then (none) else (if p0 < (σ.1 0) then (some σ) else (none))
/-- TripRounds.needNode(I)V (what it throws) -/
def mx_T_needNode (p0 : Int32) (σ : tS) : Option Nat :=
  if p0 < 0 then (some 1) else (if p0 < (σ.1 0) then (none) else (some 1))
/-- TripRounds.needWithin(III)V  -/
def mf_T_needWithin (p0 : Int32) (p1 : Int32) (p2 : Int32) (σ : tS) : Option tS :=
  if p0 < p1 then (none) else (if p0 ≤ p2 then (some σ) else (none))
/-- TripRounds.needWithin(III)V (what it throws) -/
def mx_T_needWithin (p0 : Int32) (p1 : Int32) (p2 : Int32) (σ : tS) : Option Nat :=
  if p0 < p1 then (some 1) else (if p0 ≤ p2 then (none) else (some 1))
/-- TripRounds$Zones.addZone(III)I  -/
def mf_Z_addZone (p0 : Int32) (p1 : Int32) (p2 : Int32) (σ : tS) : Option (Int32 × tS) :=
  tg (σ.1 1) 6 (tg (σ.1 1) 6 (tg (σ.1 1) 6 (some ((σ.1 1), (tF (tI (tI (tI σ 0 ((σ.1 1).toNatClampNeg) p0) 1 ((σ.1 1).toNatClampNeg) p1) 2 ((σ.1 1).toNatClampNeg) p2) 1 ((σ.1 1) + (1 : Int32)))))))
/-- TripRounds.zone(III)I  -/
def mf_T_zone (p0 : Int32) (p1 : Int32) (p2 : Int32) (σ : tS) : Option (Int32 × tS) :=
  tb1 (mf_T_needNode p0 σ) (fun s_1 => tb1 (mf_T_needWithin p1 (0 : Int32) (100000 : Int32) s_1) (fun s_2 => tb1 (mf_T_needWithin p2 (0 : Int32) (100000 : Int32) s_2) (fun s_3 => if (s_3.1 1) < (6 : Int32) then (tb2 (mf_Z_addZone p0 p1 p2 s_3) (fun r_4 s_4 => some (r_4, s_4))) else (none))))
/-- TripRounds.zone(III)I (what it throws) -/
def mx_T_zone (p0 : Int32) (p1 : Int32) (p2 : Int32) (σ : tS) : Option Nat :=
  tx (mx_T_needNode p0 σ) (tb1 (mf_T_needNode p0 σ) (fun s_1 => tx (mx_T_needWithin p1 (0 : Int32) (100000 : Int32) s_1) (tb1 (mf_T_needWithin p1 (0 : Int32) (100000 : Int32) s_1) (fun s_2 => tx (mx_T_needWithin p2 (0 : Int32) (100000 : Int32) s_2) (tb1 (mf_T_needWithin p2 (0 : Int32) (100000 : Int32) s_2) (fun s_3 => if (s_3.1 1) < (6 : Int32) then (none) else (some 2)))))))
/-- TripRounds$Streets.addStreet(IIIII)I  -/
def mf_S_addStreet (p0 : Int32) (p1 : Int32) (p2 : Int32) (p3 : Int32) (p4 : Int32) (σ : tS) : Option (Int32 × tS) :=
  tg (σ.1 2) 40 (tg (σ.1 2) 40 (tg (σ.1 2) 40 (tg (σ.1 2) 40 (tg (σ.1 2) 40 (tg (σ.1 2) 40 (some ((σ.1 2), (tF (tI (tI (tI (tI (tI (tI σ 7 ((σ.1 2).toNatClampNeg) p0) 8 ((σ.1 2).toNatClampNeg) p1) 9 ((σ.1 2).toNatClampNeg) p2) 10 ((σ.1 2).toNatClampNeg) p3) 11 ((σ.1 2).toNatClampNeg) p4) 13 ((σ.1 2).toNatClampNeg) (vp_nar .boolean (1 : Int32))) 2 ((σ.1 2) + (1 : Int32))))))))))
/-- TripRounds.street(IIIII)I  -/
def mf_T_street (p0 : Int32) (p1 : Int32) (p2 : Int32) (p3 : Int32) (p4 : Int32) (σ : tS) : Option (Int32 × tS) :=
  tb1 (mf_T_needNode p0 σ) (fun s_1 => tb1 (mf_T_needNode p1 s_1) (fun s_2 => if p0 = p1 then (none) else (tb1 (mf_T_needWithin p2 (1 : Int32) (1000 : Int32) s_2) (fun s_3 => tb1 (mf_T_needWithin p3 (0 : Int32) (1000 : Int32) s_3) (fun s_4 => tb1 (mf_T_needWithin p4 (1 : Int32) (1000000 : Int32) s_4) (fun s_5 => if (s_5.1 2) < (40 : Int32) then (tb2 (mf_S_addStreet p0 p1 p2 p3 p4 s_5) (fun r_6 s_6 => some (r_6, s_6))) else (none)))))))
/-- TripRounds.street(IIIII)I (what it throws) -/
def mx_T_street (p0 : Int32) (p1 : Int32) (p2 : Int32) (p3 : Int32) (p4 : Int32) (σ : tS) : Option Nat :=
  tx (mx_T_needNode p0 σ) (tb1 (mf_T_needNode p0 σ) (fun s_1 => tx (mx_T_needNode p1 s_1) (tb1 (mf_T_needNode p1 s_1) (fun s_2 => if p0 = p1 then (some 1) else (tx (mx_T_needWithin p2 (1 : Int32) (1000 : Int32) s_2) (tb1 (mf_T_needWithin p2 (1 : Int32) (1000 : Int32) s_2) (fun s_3 => tx (mx_T_needWithin p3 (0 : Int32) (1000 : Int32) s_3) (tb1 (mf_T_needWithin p3 (0 : Int32) (1000 : Int32) s_3) (fun s_4 => tx (mx_T_needWithin p4 (1 : Int32) (1000000 : Int32) s_4) (tb1 (mf_T_needWithin p4 (1 : Int32) (1000000 : Int32) s_4) (fun s_5 => if (s_5.1 2) < (40 : Int32) then (none) else (some 2))))))))))))
/-- TripRounds.needStreet(I)V  -/
def mf_T_needStreet (p0 : Int32) (σ : tS) : Option tS :=
  if p0 < 0 then (none) else (if p0 < (σ.1 2) then (some σ) else (none))
/-- TripRounds.needStreet(I)V (what it throws) -/
def mx_T_needStreet (p0 : Int32) (σ : tS) : Option Nat :=
  if p0 < 0 then (some 1) else (if p0 < (σ.1 2) then (none) else (some 1))
/-- TripRounds.toll(II)I  -/
def mf_T_toll (p0 : Int32) (p1 : Int32) (σ : tS) : Option (Int32 × tS) :=
  tb1 (mf_T_needStreet p0 σ) (fun s_1 => tb1 (mf_T_needWithin p1 (0 : Int32) (1000 : Int32) s_1) (fun s_2 => tg p0 40 (tg p0 40 (some ((s_2.2.1 12 p0.toNatClampNeg), (tI s_2 12 p0.toNatClampNeg p1))))))
/-- TripRounds.toll(II)I (what it throws) -/
def mx_T_toll (p0 : Int32) (p1 : Int32) (σ : tS) : Option Nat :=
  tx (mx_T_needStreet p0 σ) (tb1 (mf_T_needStreet p0 σ) (fun s_1 => tx (mx_T_needWithin p1 (0 : Int32) (1000 : Int32) s_1) (tb1 (mf_T_needWithin p1 (0 : Int32) (1000 : Int32) s_1) (fun s_2 => none))))
/-- TripRounds.open(IZ)Z  -/
def mf_T_open (p0 : Int32) (p1 : Int32) (σ : tS) : Option (Int32 × tS) :=
  tb1 (mf_T_needStreet p0 σ) (fun s_1 => tg p0 40 (tg p0 40 (tb (s_1.2.1 13 p0.toNatClampNeg) (some ((s_1.2.1 13 p0.toNatClampNeg), (tI s_1 13 p0.toNatClampNeg (vp_nar .boolean p1)))))))
/-- TripRounds.open(IZ)Z (what it throws) -/
def mx_T_open (p0 : Int32) (p1 : Int32) (σ : tS) : Option Nat :=
  tx (mx_T_needStreet p0 σ) (tb1 (mf_T_needStreet p0 σ) (fun s_1 => none))
/-- TripRounds.needZone(I)V  -/
def mf_T_needZone (p0 : Int32) (σ : tS) : Option tS :=
  if p0 < 0 then (none) else (if p0 < (σ.1 1) then (some σ) else (none))
/-- TripRounds.needZone(I)V (what it throws) -/
def mx_T_needZone (p0 : Int32) (σ : tS) : Option Nat :=
  if p0 < 0 then (some 1) else (if p0 < (σ.1 1) then (none) else (some 1))
/-- TripRounds.pairOf(II)I  -/
def mf_T_pairOf (p0 : Int32) (p1 : Int32) (σ : tS) : Option (Int32 × tS) :=
  some (((p0 * (6 : Int32)) + p1), σ)
/-- TripRounds.weight(III)I  -/
def mf_T_weight (p0 : Int32) (p1 : Int32) (p2 : Int32) (σ : tS) : Option (Int32 × tS) :=
  tb1 (mf_T_needZone p0 σ) (fun s_1 => tb1 (mf_T_needZone p1 s_1) (fun s_2 => tb1 (mf_T_needWithin p2 (0 : Int32) (1000 : Int32) s_2) (fun s_3 => tb2 (mf_T_pairOf p0 p1 s_3) (fun r_4 s_4 => tg r_4 36 (tg r_4 36 (some ((s_4.2.1 3 r_4.toNatClampNeg), (tI s_4 3 r_4.toNatClampNeg p2))))))))
/-- TripRounds.weight(III)I (what it throws) -/
def mx_T_weight (p0 : Int32) (p1 : Int32) (p2 : Int32) (σ : tS) : Option Nat :=
  tx (mx_T_needZone p0 σ) (tb1 (mf_T_needZone p0 σ) (fun s_1 => tx (mx_T_needZone p1 s_1) (tb1 (mf_T_needZone p1 s_1) (fun s_2 => tx (mx_T_needWithin p2 (0 : Int32) (1000 : Int32) s_2) (tb1 (mf_T_needWithin p2 (0 : Int32) (1000 : Int32) s_2) (fun s_3 => none))))))
/-- TripRounds.size(III)I  -/
def mf_T_size (p0 : Int32) (p1 : Int32) (p2 : Int32) (σ : tS) : Option (Int32 × tS) :=
  tb1 (mf_T_needZone p0 σ) (fun s_1 => tb1 (mf_T_needWithin p1 (0 : Int32) (1 : Int32) s_1) (fun s_2 => tb1 (mf_T_needWithin p2 (0 : Int32) (100000 : Int32) s_2) (fun s_3 => if p1 = 0 then (tg p0 6 (tg p0 6 (some ((s_3.2.1 1 p0.toNatClampNeg), (tI s_3 1 p0.toNatClampNeg p2))))) else (tg p0 6 (tg p0 6 (some ((s_3.2.1 2 p0.toNatClampNeg), (tI s_3 2 p0.toNatClampNeg p2))))))))
/-- TripRounds.size(III)I (what it throws) -/
def mx_T_size (p0 : Int32) (p1 : Int32) (p2 : Int32) (σ : tS) : Option Nat :=
  tx (mx_T_needZone p0 σ) (tb1 (mf_T_needZone p0 σ) (fun s_1 => tx (mx_T_needWithin p1 (0 : Int32) (1 : Int32) s_1) (tb1 (mf_T_needWithin p1 (0 : Int32) (1 : Int32) s_1) (fun s_2 => tx (mx_T_needWithin p2 (0 : Int32) (100000 : Int32) s_2) (tb1 (mf_T_needWithin p2 (0 : Int32) (100000 : Int32) s_2) (fun s_3 => none))))))
/-- TripRounds$Sharing.giveOne, the loop at 4 -/
def ms_H7_giveOne_4 (go : Int32 → Int32 → Int32 → tS → Option tS) : Int32 → Int32 → Int32 → tS → Option tS := fun v1 v2 v3 σ =>
  if v1 ≤ v3 then (tg v2 6 (tg v2 6 (tg v2 6 (some (tJ (tI σ 21 v2.toNatClampNeg ((σ.2.1 21 v2.toNatClampNeg) + (1 : Int32))) 2 v2.toNatClampNeg ((-1) : Int64)))))) else (tg v3 6 (tg v2 6 (if (lg_cmp (σ.2.2 2 v3.toNatClampNeg) (σ.2.2 2 v2.toNatClampNeg)) ≤ 0 then (go v1 v2 (v3 + (1 : Int32)) σ) else (go v1 v3 (v3 + (1 : Int32)) σ))))
def ml_H7_giveOne_4 : Nat → Int32 → Int32 → Int32 → tS → Option tS := tit (fun _ _ _ _ => none) ms_H7_giveOne_4
/-- TripRounds$Sharing.giveOne(I)V  -/
def mf_H7_giveOne (p0 : Int32) (σ : tS) : Option tS :=
  ml_H7_giveOne_4 4096 p0 (0 : Int32) (1 : Int32) σ
/-- TripRounds$Sharing.shareOut, the loop at 110 -/
def ms_H7_shareOut_110 (go : Int32 → Int32 → Int64 → Int32 → Int32 → tS → Option tS) : Int32 → Int32 → Int64 → Int32 → Int32 → tS → Option tS := fun v1 v2 v3 v5 v6 σ =>
  if v5 ≤ v6 then (some σ) else (tb1 (mf_H7_giveOne v2 σ) (fun s_1 => go v1 v2 v3 v5 (v6 + (1 : Int32)) s_1))
def ml_H7_shareOut_110 : Nat → Int32 → Int32 → Int64 → Int32 → Int32 → tS → Option tS := tit (fun _ _ _ _ _ _ => none) ms_H7_shareOut_110
/-- TripRounds$Sharing.shareOut, the loop at 48 -/
def ms_H7_shareOut_48 (go : Int32 → Int32 → Int64 → Int32 → Int32 → tS → Option tS) : Int32 → Int32 → Int64 → Int32 → Int32 → tS → Option tS := fun v1 v2 v3 v5 v6 σ =>
  if v2 ≤ v6 then (ml_H7_shareOut_110 4096 v1 v2 v3 v5 (0 : Int32) σ) else (tg v6 6 (tz v3 (tg v6 6 (tz v3 (tg v6 6 (tg v6 6 (go v1 v2 v3 (v5 - ((tI σ 21 v6.toNatClampNeg (((((v1).toInt64 * (σ.2.2 1 v6.toNatClampNeg)) / v3)).toInt32)).2.1 21 v6.toNatClampNeg)) (v6 + (1 : Int32)) (tJ (tI σ 21 v6.toNatClampNeg (((((v1).toInt64 * (σ.2.2 1 v6.toNatClampNeg)) / v3)).toInt32)) 2 v6.toNatClampNeg (((v1).toInt64 * (σ.2.2 1 v6.toNatClampNeg)) - ((v1).toInt64 * (σ.2.2 1 v6.toNatClampNeg)) / v3 * v3)))))))))
def ml_H7_shareOut_48 : Nat → Int32 → Int32 → Int64 → Int32 → Int32 → tS → Option tS := tit (fun _ _ _ _ _ _ => none) ms_H7_shareOut_48
/-- TripRounds$Sharing.shareOut, the loop at 5 -/
def ms_H7_shareOut_5 (go : Int32 → Int32 → Int64 → Int32 → tS → Option tS) : Int32 → Int32 → Int64 → Int32 → tS → Option tS := fun v1 v2 v3 v5 σ =>
  if v2 ≤ v5 then (if (lg_cmp v3 (0 : Int64)) = 0 then (some (tIf σ 21 (0 : Int32))) else (ml_H7_shareOut_48 4096 v1 v2 v3 v1 (0 : Int32) σ)) else (tg v5 6 (go v1 v2 (v3 + (σ.2.2 1 v5.toNatClampNeg)) (v5 + (1 : Int32)) σ))
def ml_H7_shareOut_5 : Nat → Int32 → Int32 → Int64 → Int32 → tS → Option tS := tit (fun _ _ _ _ _ => none) ms_H7_shareOut_5
/-- TripRounds$Sharing.shareOut(II)V  -/
def mf_H7_shareOut (p0 : Int32) (p1 : Int32) (σ : tS) : Option tS :=
  ml_H7_shareOut_5 4096 p0 p1 (0 : Int64) (0 : Int32) σ
/-- TripRounds$Table.shareAllPeople, the loop at 12 -/
def ms_B_shareAllPeople_12 (go : Int32 → Int32 → tS → Option (Int32 × Int32 × tS)) : Int32 → Int32 → tS → Option (Int32 × Int32 × tS) := fun v2 v3 σ =>
  if (σ.1 1) ≤ v3 then (some (v2, v3, σ)) else (tb2 (mf_T_pairOf v2 v3 σ) (fun r_1 s_1 => tg r_1 36 (tg v3 6 (tg v3 6 (go v2 (v3 + (1 : Int32)) (tJ s_1 1 v3.toNatClampNeg (((s_1.2.1 3 r_1.toNatClampNeg)).toInt64 * ((s_1.2.1 5 v3.toNatClampNeg)).toInt64)))))))
def ml_B_shareAllPeople_12 : Nat → Int32 → Int32 → tS → Option (Int32 × Int32 × tS) := tit (fun _ _ _ => none) ms_B_shareAllPeople_12
/-- TripRounds$Table.shareAllPeople, the loop at 73 -/
def ms_B_shareAllPeople_73 (go : Int32 → Int32 → tS → Option (Int32 × Int32 × tS)) : Int32 → Int32 → tS → Option (Int32 × Int32 × tS) := fun v2 v3 σ =>
  if (σ.1 1) ≤ v3 then (some (v2, v3, σ)) else (tb2 (mf_T_pairOf v2 v3 σ) (fun r_8 s_8 => tg v3 6 (tg r_8 36 (go v2 (v3 + (1 : Int32)) (tI s_8 4 r_8.toNatClampNeg (s_8.2.1 21 v3.toNatClampNeg))))))
def ml_B_shareAllPeople_73 : Nat → Int32 → Int32 → tS → Option (Int32 × Int32 × tS) := tit (fun _ _ _ => none) ms_B_shareAllPeople_73
/-- TripRounds$Table.shareAllPeople, the loop at 2 -/
def ms_B_shareAllPeople_2 (go : Int32 → tS → Option tS) : Int32 → tS → Option tS := fun v2 σ =>
  if (σ.1 1) ≤ v2 then (some σ) else (tb1 (ml_B_shareAllPeople_12 4096 v2 (0 : Int32) σ) (fun e_5 => tg e_5.1 6 (tb1 (mf_H7_shareOut (e_5.2.2.2.1 1 e_5.1.toNatClampNeg) (e_5.2.2.1 1) e_5.2.2) (fun s_7 => tb1 (ml_B_shareAllPeople_73 4096 e_5.1 (0 : Int32) s_7) (fun e_11 => go (e_11.1 + (1 : Int32)) e_11.2.2)))))
def ml_B_shareAllPeople_2 : Nat → Int32 → tS → Option tS := tit (fun _ _ => none) ms_B_shareAllPeople_2
/-- TripRounds$Table.shareAllPeople(LTripRounds$Zones;)V  -/
def mf_B_shareAllPeople  (σ : tS) : Option tS :=
  ml_B_shareAllPeople_2 4096 (0 : Int32) σ
/-- TripRounds$Table.sumTo, the loop at 4 -/
def ms_B_sumTo_4 (go : Int32 → Int32 → Int32 → tS → Option (Int32 × tS)) : Int32 → Int32 → Int32 → tS → Option (Int32 × tS) := fun v1 v2 v3 σ =>
  if (6 : Int32) ≤ v3 then (some (v2, σ)) else (tb2 (mf_T_pairOf v3 v1 σ) (fun r_1 s_1 => tg r_1 36 (go v1 (v2 + (s_1.2.1 4 r_1.toNatClampNeg)) (v3 + (1 : Int32)) s_1)))
def ml_B_sumTo_4 : Nat → Int32 → Int32 → Int32 → tS → Option (Int32 × tS) := tit (fun _ _ _ _ => none) ms_B_sumTo_4
/-- TripRounds$Table.sumTo(I)I  -/
def mf_B_sumTo (p0 : Int32) (σ : tS) : Option (Int32 × tS) :=
  ml_B_sumTo_4 4096 p0 (0 : Int32) (0 : Int32) σ
/-- TripRounds$Table.isMet, the loop at 2 -/
def ms_B_isMet_2 (go : Int32 → Int32 → tS → Option (Int32 × tS)) : Int32 → Int32 → tS → Option (Int32 × tS) := fun v2 v3 σ =>
  if (σ.1 1) ≤ v3 then (tb (1 : Int32) (some ((1 : Int32), σ))) else (tb2 (mf_B_sumTo v3 σ) (fun r_1 s_1 => tg v3 6 (if (if 0 ≤ (r_1 - (s_1.2.1 2 v3.toNatClampNeg)) then (r_1 - (s_1.2.1 2 v3.toNatClampNeg)) else 0 - (r_1 - (s_1.2.1 2 v3.toNatClampNeg))) ≤ v2 then (go v2 (v3 + (1 : Int32)) s_1) else (tb (0 : Int32) (some ((0 : Int32), s_1))))))
def ml_B_isMet_2 : Nat → Int32 → Int32 → tS → Option (Int32 × tS) := tit (fun _ _ _ => none) ms_B_isMet_2
/-- TripRounds$Table.isMet(LTripRounds$Zones;I)Z  -/
def mf_B_isMet (p0 : Int32) (σ : tS) : Option (Int32 × tS) :=
  ml_B_isMet_2 4096 p0 (0 : Int32) σ
/-- TripRounds$Table.changeFactors, the loop at 2 -/
def ms_B_changeFactors_2 (go : Int32 → tS → Option tS) : Int32 → tS → Option tS := fun v2 σ =>
  if (σ.1 1) ≤ v2 then (some σ) else (tb2 (mf_B_sumTo v2 σ) (fun r_1 s_1 => if r_1 ≤ 0 then (go (v2 + (1 : Int32)) s_1) else (tg v2 6 (tg v2 6 (tz ((r_1).toInt64) (tg v2 6 (go (v2 + (1 : Int32)) (tI s_1 5 v2.toNatClampNeg (((if (if (1000000 : Int64) < ((((s_1.2.1 5 v2.toNatClampNeg)).toInt64 * ((s_1.2.1 2 v2.toNatClampNeg)).toInt64) / (r_1).toInt64) then (1000000 : Int64) else ((((s_1.2.1 5 v2.toNatClampNeg)).toInt64 * ((s_1.2.1 2 v2.toNatClampNeg)).toInt64) / (r_1).toInt64)) < (1 : Int64) then (1 : Int64) else (if (1000000 : Int64) < ((((s_1.2.1 5 v2.toNatClampNeg)).toInt64 * ((s_1.2.1 2 v2.toNatClampNeg)).toInt64) / (r_1).toInt64) then (1000000 : Int64) else ((((s_1.2.1 5 v2.toNatClampNeg)).toInt64 * ((s_1.2.1 2 v2.toNatClampNeg)).toInt64) / (r_1).toInt64)))).toInt32)))))))))
def ml_B_changeFactors_2 : Nat → Int32 → tS → Option tS := tit (fun _ _ => none) ms_B_changeFactors_2
/-- TripRounds$Table.changeFactors(LTripRounds$Zones;)V  -/
def mf_B_changeFactors  (σ : tS) : Option tS :=
  ml_B_changeFactors_2 4096 (0 : Int32) σ
/-- TripRounds$Table.goRounds, the loop at 31 -/
def ms_B_goRounds_31 (go : Int32 → Int32 → Int32 → tS → Option (Int32 × tS)) : Int32 → Int32 → Int32 → tS → Option (Int32 × tS) := fun v2 v3 v4 σ =>
  if v2 < v4 then (some ((-v2), σ)) else (tb1 (mf_B_shareAllPeople σ) (fun s_1 => tb2 (mf_B_isMet v3 s_1) (fun r_2 s_2 => if r_2 = 0 then (if v2 ≤ v4 then (go v2 v3 (v4 + (1 : Int32)) s_2) else (tb1 (mf_B_changeFactors s_2) (fun s_3 => go v2 v3 (v4 + (1 : Int32)) s_3))) else (some (v4, s_2)))))
def ml_B_goRounds_31 : Nat → Int32 → Int32 → Int32 → tS → Option (Int32 × tS) := tit (fun _ _ _ _ => none) ms_B_goRounds_31
/-- TripRounds$Table.goRounds, the loop at 3 -/
def ms_B_goRounds_3 (go : Int32 → Int32 → Int32 → tS → Option (Int32 × tS)) : Int32 → Int32 → Int32 → tS → Option (Int32 × tS) := fun v2 v3 v4 σ =>
  if (σ.1 1) ≤ v4 then (ml_B_goRounds_31 4096 v2 v3 (1 : Int32) σ) else (tg v4 6 (go v2 v3 (v4 + (1 : Int32)) (tI σ 5 v4.toNatClampNeg (1000 : Int32))))
def ml_B_goRounds_3 : Nat → Int32 → Int32 → Int32 → tS → Option (Int32 × tS) := tit (fun _ _ _ _ => none) ms_B_goRounds_3
/-- TripRounds$Table.goRounds(LTripRounds$Zones;II)I  -/
def mf_B_goRounds (p0 : Int32) (p1 : Int32) (σ : tS) : Option (Int32 × tS) :=
  ml_B_goRounds_3 4096 p0 p1 (0 : Int32) σ
/-- TripRounds.rounds(II)I  -/
def mf_T_rounds (p0 : Int32) (p1 : Int32) (σ : tS) : Option (Int32 × tS) :=
  tb1 (mf_T_needWithin p0 (1 : Int32) (50 : Int32) σ) (fun s_1 => tb1 (mf_T_needWithin p1 (0 : Int32) (100000 : Int32) s_1) (fun s_2 => tb2 (mf_B_goRounds p0 p1 s_2) (fun r_3 s_3 => some (r_3, s_3))))
/-- TripRounds.rounds(II)I (what it throws) -/
def mx_T_rounds (p0 : Int32) (p1 : Int32) (σ : tS) : Option Nat :=
  tx (mx_T_needWithin p0 (1 : Int32) (50 : Int32) σ) (tb1 (mf_T_needWithin p0 (1 : Int32) (50 : Int32) σ) (fun s_1 => tx (mx_T_needWithin p1 (0 : Int32) (100000 : Int32) s_1) (tb1 (mf_T_needWithin p1 (0 : Int32) (100000 : Int32) s_1) (fun s_2 => none))))
/-- TripRounds.trips(II)I  -/
def mf_T_trips (p0 : Int32) (p1 : Int32) (σ : tS) : Option (Int32 × tS) :=
  tb1 (mf_T_needZone p0 σ) (fun s_1 => tb1 (mf_T_needZone p1 s_1) (fun s_2 => tb2 (mf_T_pairOf p0 p1 s_2) (fun r_3 s_3 => tg r_3 36 (some ((s_3.2.1 4 r_3.toNatClampNeg), s_3)))))
/-- TripRounds.trips(II)I (what it throws) -/
def mx_T_trips (p0 : Int32) (p1 : Int32) (σ : tS) : Option Nat :=
  tx (mx_T_needZone p0 σ) (tb1 (mf_T_needZone p0 σ) (fun s_1 => tx (mx_T_needZone p1 s_1) (tb1 (mf_T_needZone p1 s_1) (fun s_2 => none))))
/-- TripRounds$Table.sumFrom, the loop at 4 -/
def ms_B_sumFrom_4 (go : Int32 → Int32 → Int32 → tS → Option (Int32 × tS)) : Int32 → Int32 → Int32 → tS → Option (Int32 × tS) := fun v1 v2 v3 σ =>
  if (6 : Int32) ≤ v3 then (some (v2, σ)) else (tb2 (mf_T_pairOf v1 v3 σ) (fun r_1 s_1 => tg r_1 36 (go v1 (v2 + (s_1.2.1 4 r_1.toNatClampNeg)) (v3 + (1 : Int32)) s_1)))
def ml_B_sumFrom_4 : Nat → Int32 → Int32 → Int32 → tS → Option (Int32 × tS) := tit (fun _ _ _ _ => none) ms_B_sumFrom_4
/-- TripRounds$Table.sumFrom(I)I  -/
def mf_B_sumFrom (p0 : Int32) (σ : tS) : Option (Int32 × tS) :=
  ml_B_sumFrom_4 4096 p0 (0 : Int32) (0 : Int32) σ
/-- TripRounds.sum(II)I  -/
def mf_T_sum (p0 : Int32) (p1 : Int32) (σ : tS) : Option (Int32 × tS) :=
  tb1 (mf_T_needZone p0 σ) (fun s_1 => tb1 (mf_T_needWithin p1 (0 : Int32) (1 : Int32) s_1) (fun s_2 => if p1 = 0 then (tb2 (mf_B_sumFrom p0 s_2) (fun r_4 s_4 => some (r_4, s_4))) else (tb2 (mf_B_sumTo p0 s_2) (fun r_3 s_3 => some (r_3, s_3)))))
/-- TripRounds.sum(II)I (what it throws) -/
def mx_T_sum (p0 : Int32) (p1 : Int32) (σ : tS) : Option Nat :=
  tx (mx_T_needZone p0 σ) (tb1 (mf_T_needZone p0 σ) (fun s_1 => tx (mx_T_needWithin p1 (0 : Int32) (1 : Int32) s_1) (tb1 (mf_T_needWithin p1 (0 : Int32) (1 : Int32) s_1) (fun s_2 => none))))
/-- TripRounds.factor(I)I  -/
def mf_T_factor (p0 : Int32) (σ : tS) : Option (Int32 × tS) :=
  tb1 (mf_T_needZone p0 σ) (fun s_1 => tg p0 6 (some ((s_1.2.1 5 p0.toNatClampNeg), s_1)))
/-- TripRounds.factor(I)I (what it throws) -/
def mx_T_factor (p0 : Int32) (σ : tS) : Option Nat :=
  tx (mx_T_needZone p0 σ) (tb1 (mf_T_needZone p0 σ) (fun s_1 => none))
/-- TripRounds$Modes.placeOf(II)I  -/
def mf_M_placeOf (p0 : Int32) (p1 : Int32) (σ : tS) : Option (Int32 × tS) :=
  some (((p0 * (36 : Int32)) + p1), σ)
/-- TripRounds.pull(IIII)I  -/
def mf_T_pull (p0 : Int32) (p1 : Int32) (p2 : Int32) (p3 : Int32) (σ : tS) : Option (Int32 × tS) :=
  tb1 (mf_T_needWithin p0 (0 : Int32) (2 : Int32) σ) (fun s_1 => tb1 (mf_T_needZone p1 s_1) (fun s_2 => tb1 (mf_T_needZone p2 s_2) (fun s_3 => tb1 (mf_T_needWithin p3 (0 : Int32) (1000 : Int32) s_3) (fun s_4 => tb2 (mf_T_pairOf p1 p2 s_4) (fun r_5 s_5 => tb2 (mf_M_placeOf p0 r_5 s_5) (fun r_6 s_6 => tg r_6 108 (tg r_6 108 (some ((s_6.2.1 6 r_6.toNatClampNeg), (tI s_6 6 r_6.toNatClampNeg p3))))))))))
/-- TripRounds.pull(IIII)I (what it throws) -/
def mx_T_pull (p0 : Int32) (p1 : Int32) (p2 : Int32) (p3 : Int32) (σ : tS) : Option Nat :=
  tx (mx_T_needWithin p0 (0 : Int32) (2 : Int32) σ) (tb1 (mf_T_needWithin p0 (0 : Int32) (2 : Int32) σ) (fun s_1 => tx (mx_T_needZone p1 s_1) (tb1 (mf_T_needZone p1 s_1) (fun s_2 => tx (mx_T_needZone p2 s_2) (tb1 (mf_T_needZone p2 s_2) (fun s_3 => tx (mx_T_needWithin p3 (0 : Int32) (1000 : Int32) s_3) (tb1 (mf_T_needWithin p3 (0 : Int32) (1000 : Int32) s_3) (fun s_4 => none))))))))
/-- TripRounds$Sharing.giveOne, the loop at 4 -/
def ms_H8_giveOne_4 (go : Int32 → Int32 → Int32 → tS → Option tS) : Int32 → Int32 → Int32 → tS → Option tS := fun v1 v2 v3 σ =>
  if v1 ≤ v3 then (tg v2 3 (tg v2 3 (tg v2 3 (some (tJ (tI σ 22 v2.toNatClampNeg ((σ.2.1 22 v2.toNatClampNeg) + (1 : Int32))) 4 v2.toNatClampNeg ((-1) : Int64)))))) else (tg v3 3 (tg v2 3 (if (lg_cmp (σ.2.2 4 v3.toNatClampNeg) (σ.2.2 4 v2.toNatClampNeg)) ≤ 0 then (go v1 v2 (v3 + (1 : Int32)) σ) else (go v1 v3 (v3 + (1 : Int32)) σ))))
def ml_H8_giveOne_4 : Nat → Int32 → Int32 → Int32 → tS → Option tS := tit (fun _ _ _ _ => none) ms_H8_giveOne_4
/-- TripRounds$Sharing.giveOne(I)V  -/
def mf_H8_giveOne (p0 : Int32) (σ : tS) : Option tS :=
  ml_H8_giveOne_4 4096 p0 (0 : Int32) (1 : Int32) σ
/-- TripRounds$Sharing.shareOut, the loop at 110 -/
def ms_H8_shareOut_110 (go : Int32 → Int32 → Int64 → Int32 → Int32 → tS → Option tS) : Int32 → Int32 → Int64 → Int32 → Int32 → tS → Option tS := fun v1 v2 v3 v5 v6 σ =>
  if v5 ≤ v6 then (some σ) else (tb1 (mf_H8_giveOne v2 σ) (fun s_1 => go v1 v2 v3 v5 (v6 + (1 : Int32)) s_1))
def ml_H8_shareOut_110 : Nat → Int32 → Int32 → Int64 → Int32 → Int32 → tS → Option tS := tit (fun _ _ _ _ _ _ => none) ms_H8_shareOut_110
/-- TripRounds$Sharing.shareOut, the loop at 48 -/
def ms_H8_shareOut_48 (go : Int32 → Int32 → Int64 → Int32 → Int32 → tS → Option tS) : Int32 → Int32 → Int64 → Int32 → Int32 → tS → Option tS := fun v1 v2 v3 v5 v6 σ =>
  if v2 ≤ v6 then (ml_H8_shareOut_110 4096 v1 v2 v3 v5 (0 : Int32) σ) else (tg v6 3 (tz v3 (tg v6 3 (tz v3 (tg v6 3 (tg v6 3 (go v1 v2 v3 (v5 - ((tI σ 22 v6.toNatClampNeg (((((v1).toInt64 * (σ.2.2 3 v6.toNatClampNeg)) / v3)).toInt32)).2.1 22 v6.toNatClampNeg)) (v6 + (1 : Int32)) (tJ (tI σ 22 v6.toNatClampNeg (((((v1).toInt64 * (σ.2.2 3 v6.toNatClampNeg)) / v3)).toInt32)) 4 v6.toNatClampNeg (((v1).toInt64 * (σ.2.2 3 v6.toNatClampNeg)) - ((v1).toInt64 * (σ.2.2 3 v6.toNatClampNeg)) / v3 * v3)))))))))
def ml_H8_shareOut_48 : Nat → Int32 → Int32 → Int64 → Int32 → Int32 → tS → Option tS := tit (fun _ _ _ _ _ _ => none) ms_H8_shareOut_48
/-- TripRounds$Sharing.shareOut, the loop at 5 -/
def ms_H8_shareOut_5 (go : Int32 → Int32 → Int64 → Int32 → tS → Option tS) : Int32 → Int32 → Int64 → Int32 → tS → Option tS := fun v1 v2 v3 v5 σ =>
  if v2 ≤ v5 then (if (lg_cmp v3 (0 : Int64)) = 0 then (some (tIf σ 22 (0 : Int32))) else (ml_H8_shareOut_48 4096 v1 v2 v3 v1 (0 : Int32) σ)) else (tg v5 3 (go v1 v2 (v3 + (σ.2.2 3 v5.toNatClampNeg)) (v5 + (1 : Int32)) σ))
def ml_H8_shareOut_5 : Nat → Int32 → Int32 → Int64 → Int32 → tS → Option tS := tit (fun _ _ _ _ _ => none) ms_H8_shareOut_5
/-- TripRounds$Sharing.shareOut(II)V  -/
def mf_H8_shareOut (p0 : Int32) (p1 : Int32) (σ : tS) : Option tS :=
  ml_H8_shareOut_5 4096 p0 p1 (0 : Int64) (0 : Int32) σ
/-- TripRounds$Modes.tripsBy, the loop at 3 -/
def ms_M_tripsBy_3 (go : Int32 → Int32 → Int32 → Int32 → tS → Option (Int32 × tS)) : Int32 → Int32 → Int32 → Int32 → tS → Option (Int32 × tS) := fun v1 v2 v3 v4 σ =>
  if (3 : Int32) ≤ v4 then (tb1 (mf_H8_shareOut v3 (3 : Int32) σ) (fun s_1 => tg v1 3 (some ((s_1.2.1 22 v1.toNatClampNeg), s_1)))) else (tb2 (mf_M_placeOf v4 v2 σ) (fun r_3 s_3 => tg r_3 108 (tg v4 3 (go v1 v2 v3 (v4 + (1 : Int32)) (tJ s_3 3 v4.toNatClampNeg (((s_3.2.1 6 r_3.toNatClampNeg)).toInt64))))))
def ml_M_tripsBy_3 : Nat → Int32 → Int32 → Int32 → Int32 → tS → Option (Int32 × tS) := tit (fun _ _ _ _ _ => none) ms_M_tripsBy_3
/-- TripRounds$Modes.tripsBy(III)I  -/
def mf_M_tripsBy (p0 : Int32) (p1 : Int32) (p2 : Int32) (σ : tS) : Option (Int32 × tS) :=
  ml_M_tripsBy_3 4096 p0 p1 p2 (0 : Int32) σ
/-- TripRounds.chosen(III)I  -/
def mf_T_chosen (p0 : Int32) (p1 : Int32) (p2 : Int32) (σ : tS) : Option (Int32 × tS) :=
  tb1 (mf_T_needWithin p0 (0 : Int32) (2 : Int32) σ) (fun s_1 => tb1 (mf_T_needZone p1 s_1) (fun s_2 => tb1 (mf_T_needZone p2 s_2) (fun s_3 => tb2 (mf_T_pairOf p1 p2 s_3) (fun r_4 s_4 => tg r_4 36 (tb2 (mf_M_tripsBy p0 r_4 (s_4.2.1 4 r_4.toNatClampNeg) s_4) (fun r_6 s_6 => some (r_6, s_6)))))))
/-- TripRounds.chosen(III)I (what it throws) -/
def mx_T_chosen (p0 : Int32) (p1 : Int32) (p2 : Int32) (σ : tS) : Option Nat :=
  tx (mx_T_needWithin p0 (0 : Int32) (2 : Int32) σ) (tb1 (mf_T_needWithin p0 (0 : Int32) (2 : Int32) σ) (fun s_1 => tx (mx_T_needZone p1 s_1) (tb1 (mf_T_needZone p1 s_1) (fun s_2 => tx (mx_T_needZone p2 s_2) (tb1 (mf_T_needZone p2 s_2) (fun s_3 => none))))))
/-- TripRounds$Assignment.begin(I)V  -/
def mf_A_begin (p0 : Int32) (σ : tS) : Option tS :=
  some (tIf (tIf (tF (tF σ 3 p0) 4 (0 : Int32)) 19 (0 : Int32)) 20 (0 : Int32))
/-- TripRounds.gatherDrivers, the loop at 15 -/
def ms_T_gatherDrivers_15 (go : Int32 → Int32 → tS → Option (Int32 × Int32 × tS)) : Int32 → Int32 → tS → Option (Int32 × Int32 × tS) := fun v1 v2 σ =>
  if (σ.1 1) ≤ v2 then (some (v1, v2, σ)) else (tb2 (mf_T_pairOf v1 v2 σ) (fun r_1 s_1 => if v1 = v2 then (tg r_1 36 (go v1 (v2 + (1 : Int32)) (tI s_1 18 r_1.toNatClampNeg (0 : Int32)))) else (tg r_1 36 (tb2 (mf_M_tripsBy (0 : Int32) r_1 (s_1.2.1 4 r_1.toNatClampNeg) s_1) (fun r_3 s_3 => tg r_1 36 (go v1 (v2 + (1 : Int32)) (tI s_3 18 r_1.toNatClampNeg r_3)))))))
def ml_T_gatherDrivers_15 : Nat → Int32 → Int32 → tS → Option (Int32 × Int32 × tS) := tit (fun _ _ _ => none) ms_T_gatherDrivers_15
/-- TripRounds.gatherDrivers, the loop at 2 -/
def ms_T_gatherDrivers_2 (go : Int32 → tS → Option tS) : Int32 → tS → Option tS := fun v1 σ =>
  if (σ.1 1) ≤ v1 then (some σ) else (tb1 (ml_T_gatherDrivers_15 4096 v1 (0 : Int32) σ) (fun e_6 => go (e_6.1 + (1 : Int32)) e_6.2.2))
def ml_T_gatherDrivers_2 : Nat → Int32 → tS → Option tS := tit (fun _ _ => none) ms_T_gatherDrivers_2
/-- TripRounds.gatherDrivers()V  -/
def mf_T_gatherDrivers  (σ : tS) : Option tS :=
  ml_T_gatherDrivers_2 4096 (0 : Int32) σ
/-- TripRounds$Streets.timeOf(I)I  -/
def mf_S_timeOf (p0 : Int32) (σ : tS) : Option (Int32 × tS) :=
  tg p0 40 (tg p0 40 (tg p0 40 (tz (((σ.2.1 11 p0.toNatClampNeg)).toInt64) (tg p0 40 (tg p0 40 (some (((if (1000000 : Int64) < ((((σ.2.1 9 p0.toNatClampNeg)).toInt64 + ((((σ.2.1 10 p0.toNatClampNeg)).toInt64 * ((σ.2.1 15 p0.toNatClampNeg)).toInt64) / ((σ.2.1 11 p0.toNatClampNeg)).toInt64)) + ((σ.2.1 12 p0.toNatClampNeg)).toInt64) then (1000000 : Int64) else ((((σ.2.1 9 p0.toNatClampNeg)).toInt64 + ((((σ.2.1 10 p0.toNatClampNeg)).toInt64 * ((σ.2.1 15 p0.toNatClampNeg)).toInt64) / ((σ.2.1 11 p0.toNatClampNeg)).toInt64)) + ((σ.2.1 12 p0.toNatClampNeg)).toInt64))).toInt32, σ)))))))
/-- TripRounds$Ways.holdTimes, the loop at 2 -/
def ms_W_holdTimes_2 (go : Int32 → tS → Option tS) : Int32 → tS → Option tS := fun v2 σ =>
  if (σ.1 2) ≤ v2 then (some σ) else (tb2 (mf_S_timeOf v2 σ) (fun r_1 s_1 => tg v2 40 (go (v2 + (1 : Int32)) (tI s_1 16 v2.toNatClampNeg r_1))))
def ml_W_holdTimes_2 : Nat → Int32 → tS → Option tS := tit (fun _ _ => none) ms_W_holdTimes_2
/-- TripRounds$Ways.holdTimes(LTripRounds$Streets;)V  -/
def mf_W_holdTimes  (σ : tS) : Option tS :=
  ml_W_holdTimes_2 4096 (0 : Int32) σ
/-- TripRounds$Ways.costBy(ILTripRounds$Streets;)J  -/
def mf_W_costBy (p0 : Int32) (σ : tS) : Option (Int64 × tS) :=
  tg p0 40 (tg (σ.2.1 8 p0.toNatClampNeg) 12 (tg p0 40 (if (σ.2.1 13 p0.toNatClampNeg) = 0 then (some ((1099511627776 : Int64), σ)) else (if (lg_cmp (σ.2.2 0 (σ.2.1 8 p0.toNatClampNeg).toNatClampNeg) (1099511627776 : Int64)) = 0 then (some ((1099511627776 : Int64), σ)) else (tg p0 40 (some ((((σ.2.2 0 (σ.2.1 8 p0.toNatClampNeg).toNatClampNeg) + (((σ.2.1 16 p0.toNatClampNeg)).toInt64 * (64 : Int64))) + (1 : Int64)), σ)))))))
/-- TripRounds$Ways.chooseNexts, the loop at 10 -/
def ms_W_chooseNexts_10 (go : Int32 → tS → Option tS) : Int32 → tS → Option tS := fun v2 σ =>
  if (σ.1 2) ≤ v2 then (some σ) else (tg v2 40 (tb2 (mf_W_costBy v2 σ) (fun r_2 s_2 => tg (σ.2.1 7 v2.toNatClampNeg) 12 (if (s_2.2.1 17 (σ.2.1 7 v2.toNatClampNeg).toNatClampNeg) = ((-1) : Int32) then (if (lg_cmp r_2 (1099511627776 : Int64)) = 0 then (go (v2 + (1 : Int32)) s_2) else (tg (σ.2.1 7 v2.toNatClampNeg) 12 (if (lg_cmp r_2 (s_2.2.2 0 (σ.2.1 7 v2.toNatClampNeg).toNatClampNeg)) = 0 then (tg (σ.2.1 7 v2.toNatClampNeg) 12 (go (v2 + (1 : Int32)) (tI s_2 17 ((σ.2.1 7 v2.toNatClampNeg).toNatClampNeg) v2))) else (go (v2 + (1 : Int32)) s_2)))) else (go (v2 + (1 : Int32)) s_2)))))
def ml_W_chooseNexts_10 : Nat → Int32 → tS → Option tS := tit (fun _ _ => none) ms_W_chooseNexts_10
/-- TripRounds$Ways.chooseNexts(LTripRounds$Streets;)V  -/
def mf_W_chooseNexts  (σ : tS) : Option tS :=
  ml_W_chooseNexts_10 4096 (0 : Int32) (tIf σ 17 ((-1) : Int32))
/-- TripRounds$Ways.lowerCosts, the loop at 4 -/
def ms_W_lowerCosts_4 (go : Int32 → Int32 → tS → Option (Int32 × tS)) : Int32 → Int32 → tS → Option (Int32 × tS) := fun v2 v3 σ =>
  if (σ.1 2) ≤ v3 then (tb v2 (some (v2, σ))) else (tb2 (mf_W_costBy v3 σ) (fun r_1 s_1 => tg v3 40 (tg (s_1.2.1 7 v3.toNatClampNeg) 12 (if 0 ≤ (lg_cmp r_1 (s_1.2.2 0 (s_1.2.1 7 v3.toNatClampNeg).toNatClampNeg)) then (go v2 (v3 + (1 : Int32)) s_1) else (tg v3 40 (tg (s_1.2.1 7 v3.toNatClampNeg) 12 (go (1 : Int32) (v3 + (1 : Int32)) (tJ s_1 0 ((s_1.2.1 7 v3.toNatClampNeg).toNatClampNeg) r_1))))))))
def ml_W_lowerCosts_4 : Nat → Int32 → Int32 → tS → Option (Int32 × tS) := tit (fun _ _ _ => none) ms_W_lowerCosts_4
/-- TripRounds$Ways.lowerCosts(LTripRounds$Streets;)Z  -/
def mf_W_lowerCosts  (σ : tS) : Option (Int32 × tS) :=
  ml_W_lowerCosts_4 4096 (0 : Int32) (0 : Int32) σ
/-- TripRounds$Ways.aimAt, the loop at 22 -/
def ms_W_aimAt_22 (go : Int32 → Int32 → Int32 → tS → Option tS) : Int32 → Int32 → Int32 → tS → Option tS := fun v1 v3 v4 σ =>
  if (12 : Int32) ≤ v4 then (tb1 (mf_W_chooseNexts σ) (fun s_2 => some s_2)) else (if v3 = 0 then (tb1 (mf_W_chooseNexts σ) (fun s_3 => some s_3)) else (tb2 (mf_W_lowerCosts σ) (fun r_4 s_4 => go v1 r_4 (v4 + (1 : Int32)) s_4)))
def ml_W_aimAt_22 : Nat → Int32 → Int32 → Int32 → tS → Option tS := tit (fun _ _ _ _ => none) ms_W_aimAt_22
/-- TripRounds$Ways.aimAt(ILTripRounds$Streets;)V  -/
def mf_W_aimAt (p0 : Int32) (σ : tS) : Option tS :=
  tg p0 12 (ml_W_aimAt_22 4096 p0 (1 : Int32) (0 : Int32) (tJ (tJf σ 0 (1099511627776 : Int64)) 0 p0.toNatClampNeg (0 : Int64)))
/-- TripRounds$Assignment.tripsOfPart(II)I  -/
def mf_A_tripsOfPart (p0 : Int32) (p1 : Int32) (σ : tS) : Option (Int32 × tS) :=
  if (σ.1 3) = 0 then (some ((0 : Int32), σ)) else (tg p0 36 (tz (((σ.1 3)).toInt64) (tz (((σ.1 3)).toInt64) (some (((((((σ.2.1 18 p0.toNatClampNeg)).toInt64 * ((p1 + (1 : Int32))).toInt64) / ((σ.1 3)).toInt64) - ((((σ.2.1 18 p0.toNatClampNeg)).toInt64 * (p1).toInt64) / ((σ.1 3)).toInt64))).toInt32, σ)))))
/-- TripRounds$Ways.timeFrom(I)I  -/
def mf_W_timeFrom (p0 : Int32) (σ : tS) : Option (Int32 × tS) :=
  tg p0 12 (if (lg_cmp (σ.2.2 0 p0.toNatClampNeg) (1099511627776 : Int64)) = 0 then (some (((-1) : Int32), σ)) else (tg p0 12 (tz (64 : Int64) (some ((((σ.2.2 0 p0.toNatClampNeg) / (64 : Int64))).toInt32, σ)))))
/-- TripRounds$Assignment.placeOf(II)I  -/
def mf_A_placeOf (p0 : Int32) (p1 : Int32) (σ : tS) : Option (Int32 × tS) :=
  some (((p0 * (36 : Int32)) + p1), σ)
/-- TripRounds$Assignment.send, the loop at 43 -/
def ms_A_send_43 (go : Int32 → Int32 → Int32 → Int32 → Int32 → tS → Option tS) : Int32 → Int32 → Int32 → Int32 → Int32 → tS → Option tS := fun v1 v2 v3 v6 v7 σ =>
  if (12 : Int32) ≤ v7 then (some σ) else (if v6 = ((-1) : Int32) then (some σ) else (tg v6 40 (tg v6 40 (tb2 (mf_A_placeOf v6 v1 (tI σ 15 v6.toNatClampNeg ((σ.2.1 15 v6.toNatClampNeg) + v2))) (fun r_7 s_7 => tg r_7 1440 (tg r_7 1440 (tg v6 40 (tg (s_7.2.1 8 v6.toNatClampNeg) 12 (go v1 v2 v3 (s_7.2.1 17 (s_7.2.1 8 v6.toNatClampNeg).toNatClampNeg) (v7 + (1 : Int32)) (tI s_7 20 r_7.toNatClampNeg ((s_7.2.1 20 r_7.toNatClampNeg) + v2)))))))))))
def ml_A_send_43 : Nat → Int32 → Int32 → Int32 → Int32 → Int32 → tS → Option tS := tit (fun _ _ _ _ _ _ => none) ms_A_send_43
/-- TripRounds$Assignment.send(IIILTripRounds$Ways;LTripRounds$Streets;)V  -/
def mf_A_send (p0 : Int32) (p1 : Int32) (p2 : Int32) (σ : tS) : Option tS :=
  tb2 (mf_W_timeFrom p2 σ) (fun r_1 s_1 => if r_1 = ((-1) : Int32) then (some (tF s_1 4 ((s_1.1 4) + p1))) else (tg p0 36 (tg p0 36 (tg p2 12 (ml_A_send_43 4096 p0 p1 p2 (s_1.2.1 17 p2.toNatClampNeg) (0 : Int32) (tI s_1 19 p0.toNatClampNeg ((s_1.2.1 19 p0.toNatClampNeg) + p1)))))))
/-- TripRounds.assignPart, the loop at 46 -/
def ms_T_assignPart_46 (go : Int32 → Int32 → Int32 → tS → Option (Int32 × Int32 × Int32 × tS)) : Int32 → Int32 → Int32 → tS → Option (Int32 × Int32 × Int32 × tS) := fun v1 v2 v3 σ =>
  if (σ.1 1) ≤ v3 then (some (v1, v2, v3, σ)) else (tb2 (mf_T_pairOf v3 v2 σ) (fun r_4 s_4 => tb2 (mf_A_tripsOfPart r_4 v1 s_4) (fun r_5 s_5 => tg v3 6 (tb1 (mf_A_send r_4 r_5 (s_5.2.1 0 v3.toNatClampNeg) s_5) (fun s_7 => go v1 v2 (v3 + (1 : Int32)) s_7)))))
def ml_T_assignPart_46 : Nat → Int32 → Int32 → Int32 → tS → Option (Int32 × Int32 × Int32 × tS) := tit (fun _ _ _ _ => none) ms_T_assignPart_46
/-- TripRounds.assignPart, the loop at 13 -/
def ms_T_assignPart_13 (go : Int32 → Int32 → tS → Option tS) : Int32 → Int32 → tS → Option tS := fun v1 v2 σ =>
  if (σ.1 1) ≤ v2 then (some σ) else (tg v2 6 (tb1 (mf_W_aimAt (σ.2.1 0 v2.toNatClampNeg) σ) (fun s_3 => tb1 (ml_T_assignPart_46 4096 v1 v2 (0 : Int32) s_3) (fun e_8 => go e_8.1 (e_8.2.1 + (1 : Int32)) e_8.2.2.2))))
def ml_T_assignPart_13 : Nat → Int32 → Int32 → tS → Option tS := tit (fun _ _ _ => none) ms_T_assignPart_13
/-- TripRounds.assignPart(I)V  -/
def mf_T_assignPart (p0 : Int32) (σ : tS) : Option tS :=
  tb1 (mf_W_holdTimes σ) (fun s_1 => ml_T_assignPart_13 4096 p0 (0 : Int32) s_1)
/-- TripRounds.assignAll, the loop at 25 -/
def ms_T_assignAll_25 (go : Int32 → Int32 → tS → Option tS) : Int32 → Int32 → tS → Option tS := fun v1 v2 σ =>
  if v1 ≤ v2 then (some σ) else (tb1 (mf_T_assignPart v2 σ) (fun s_3 => go v1 (v2 + (1 : Int32)) s_3))
def ml_T_assignAll_25 : Nat → Int32 → Int32 → tS → Option tS := tit (fun _ _ _ => none) ms_T_assignAll_25
/-- TripRounds.assignAll(I)V  -/
def mf_T_assignAll (p0 : Int32) (σ : tS) : Option tS :=
  tb1 (mf_A_begin p0 σ) (fun s_1 => tb1 (mf_T_gatherDrivers (tIf s_1 15 (0 : Int32))) (fun s_2 => ml_T_assignAll_25 4096 p0 (0 : Int32) s_2))
/-- TripRounds.assign(I)I  -/
def mf_T_assign (p0 : Int32) (σ : tS) : Option (Int32 × tS) :=
  tb1 (mf_T_needWithin p0 (1 : Int32) (8 : Int32) σ) (fun s_1 => tb1 (mf_T_assignAll p0 s_1) (fun s_2 => some ((s_2.1 4), s_2)))
/-- TripRounds.assign(I)I (what it throws) -/
def mx_T_assign (p0 : Int32) (σ : tS) : Option Nat :=
  tx (mx_T_needWithin p0 (1 : Int32) (8 : Int32) σ) (tb1 (mf_T_needWithin p0 (1 : Int32) (8 : Int32) σ) (fun s_1 => none))
/-- TripRounds.flow(II)I  -/
def mf_T_flow (p0 : Int32) (p1 : Int32) (σ : tS) : Option (Int32 × tS) :=
  tb1 (mf_T_needStreet p0 σ) (fun s_1 => tb1 (mf_T_needWithin p1 (0 : Int32) (1 : Int32) s_1) (fun s_2 => if p1 = 0 then (tg p0 40 (some ((s_2.2.1 15 p0.toNatClampNeg), s_2))) else (tb2 (mf_S_timeOf p0 s_2) (fun r_3 s_3 => some (r_3, s_3)))))
/-- TripRounds.flow(II)I (what it throws) -/
def mx_T_flow (p0 : Int32) (p1 : Int32) (σ : tS) : Option Nat :=
  tx (mx_T_needStreet p0 σ) (tb1 (mf_T_needStreet p0 σ) (fun s_1 => tx (mx_T_needWithin p1 (0 : Int32) (1 : Int32) s_1) (tb1 (mf_T_needWithin p1 (0 : Int32) (1 : Int32) s_1) (fun s_2 => none))))
/-- TripRounds$Ways.streetAt, the loop at 11 -/
def ms_W_streetAt_11 (go : Int32 → Int32 → Int32 → Int32 → tS → Option (Int32 × tS)) : Int32 → Int32 → Int32 → Int32 → tS → Option (Int32 × tS) := fun v1 v2 v4 v5 σ =>
  if v1 ≤ v5 then (some (v4, σ)) else (if (12 : Int32) ≤ v5 then (some (v4, σ)) else (if v4 = ((-1) : Int32) then (some (v4, σ)) else (tg v4 40 (tg (σ.2.1 8 v4.toNatClampNeg) 12 (go v1 v2 (σ.2.1 17 (σ.2.1 8 v4.toNatClampNeg).toNatClampNeg) (v5 + (1 : Int32)) σ)))))
def ml_W_streetAt_11 : Nat → Int32 → Int32 → Int32 → Int32 → tS → Option (Int32 × tS) := tit (fun _ _ _ _ _ => none) ms_W_streetAt_11
/-- TripRounds$Ways.streetAt(IILTripRounds$Streets;)I  -/
def mf_W_streetAt (p0 : Int32) (p1 : Int32) (σ : tS) : Option (Int32 × tS) :=
  tg p1 12 (ml_W_streetAt_11 4096 p0 p1 (σ.2.1 17 p1.toNatClampNeg) (0 : Int32) σ)
/-- TripRounds.way(III)I  -/
def mf_T_way (p0 : Int32) (p1 : Int32) (p2 : Int32) (σ : tS) : Option (Int32 × tS) :=
  tb1 (mf_T_needNode p0 σ) (fun s_1 => tb1 (mf_T_needNode p1 s_1) (fun s_2 => if 0 ≤ p2 then (tb1 (mf_W_holdTimes s_2) (fun s_3 => tb1 (mf_W_aimAt p1 s_3) (fun s_4 => tb2 (mf_W_streetAt p2 p0 s_4) (fun r_5 s_5 => some (r_5, s_5))))) else (none)))
/-- TripRounds.way(III)I (what it throws) -/
def mx_T_way (p0 : Int32) (p1 : Int32) (p2 : Int32) (σ : tS) : Option Nat :=
  tx (mx_T_needNode p0 σ) (tb1 (mf_T_needNode p0 σ) (fun s_1 => tx (mx_T_needNode p1 s_1) (tb1 (mf_T_needNode p1 s_1) (fun s_2 => if 0 ≤ p2 then (none) else (some 1)))))
/-- TripRounds.least(II)I  -/
def mf_T_least (p0 : Int32) (p1 : Int32) (σ : tS) : Option (Int32 × tS) :=
  tb1 (mf_T_needNode p0 σ) (fun s_1 => tb1 (mf_T_needNode p1 s_1) (fun s_2 => tb1 (mf_W_holdTimes s_2) (fun s_3 => tb1 (mf_W_aimAt p1 s_3) (fun s_4 => tb2 (mf_W_timeFrom p0 s_4) (fun r_5 s_5 => some (r_5, s_5))))))
/-- TripRounds.least(II)I (what it throws) -/
def mx_T_least (p0 : Int32) (p1 : Int32) (σ : tS) : Option Nat :=
  tx (mx_T_needNode p0 σ) (tb1 (mf_T_needNode p0 σ) (fun s_1 => tx (mx_T_needNode p1 s_1) (tb1 (mf_T_needNode p1 s_1) (fun s_2 => none))))
/-- TripRounds.link(III)I  -/
def mf_T_link (p0 : Int32) (p1 : Int32) (p2 : Int32) (σ : tS) : Option (Int32 × tS) :=
  tb1 (mf_T_needStreet p0 σ) (fun s_1 => tb1 (mf_T_needZone p1 s_1) (fun s_2 => tb1 (mf_T_needZone p2 s_2) (fun s_3 => tb2 (mf_T_pairOf p1 p2 s_3) (fun r_4 s_4 => tb2 (mf_A_placeOf p0 r_4 s_4) (fun r_5 s_5 => tg r_5 1440 (some ((s_5.2.1 20 r_5.toNatClampNeg), s_5)))))))
/-- TripRounds.link(III)I (what it throws) -/
def mx_T_link (p0 : Int32) (p1 : Int32) (p2 : Int32) (σ : tS) : Option Nat :=
  tx (mx_T_needStreet p0 σ) (tb1 (mf_T_needStreet p0 σ) (fun s_1 => tx (mx_T_needZone p1 s_1) (tb1 (mf_T_needZone p1 s_1) (fun s_2 => tx (mx_T_needZone p2 s_2) (tb1 (mf_T_needZone p2 s_2) (fun s_3 => none))))))
/-- TripRounds.leastTimeTo, the loop at 5 -/
def ms_T_leastTimeTo_5 (go : Int32 → Int64 → Int32 → tS → Option (Int64 × tS)) : Int32 → Int64 → Int32 → tS → Option (Int64 × tS) := fun v1 v2 v4 σ =>
  if (σ.1 1) ≤ v4 then (some (v2, σ)) else (tg v4 6 (tb2 (mf_W_timeFrom (σ.2.1 0 v4.toNatClampNeg) σ) (fun r_2 s_2 => if r_2 = ((-1) : Int32) then (go v1 v2 (v4 + (1 : Int32)) s_2) else (tb2 (mf_T_pairOf v4 v1 s_2) (fun r_3 s_3 => tg r_3 36 (go v1 (v2 + (((s_3.2.1 19 r_3.toNatClampNeg)).toInt64 * (r_2).toInt64)) (v4 + (1 : Int32)) s_3))))))
def ml_T_leastTimeTo_5 : Nat → Int32 → Int64 → Int32 → tS → Option (Int64 × tS) := tit (fun _ _ _ _ => none) ms_T_leastTimeTo_5
/-- TripRounds.leastTimeTo(I)J  -/
def mf_T_leastTimeTo (p0 : Int32) (σ : tS) : Option (Int64 × tS) :=
  ml_T_leastTimeTo_5 4096 p0 (0 : Int64) (0 : Int32) σ
/-- TripRounds.gap, the loop at 58 -/
def ms_T_gap_58 (go : Int64 → Int32 → tS → Option (Int64 × tS)) : Int64 → Int32 → tS → Option (Int64 × tS) := fun v1 v3 σ =>
  if (σ.1 1) ≤ v3 then (some (v1, σ)) else (tg v3 6 (tb1 (mf_W_aimAt (σ.2.1 0 v3.toNatClampNeg) σ) (fun s_3 => tb2 (mf_T_leastTimeTo v3 s_3) (fun r_4 s_4 => go (v1 - r_4) (v3 + (1 : Int32)) s_4))))
def ml_T_gap_58 : Nat → Int64 → Int32 → tS → Option (Int64 × tS) := tit (fun _ _ _ => none) ms_T_gap_58
/-- TripRounds.gap, the loop at 15 -/
def ms_T_gap_15 (go : Int64 → Int32 → tS → Option (Int64 × tS)) : Int64 → Int32 → tS → Option (Int64 × tS) := fun v1 v3 σ =>
  if (σ.1 2) ≤ v3 then (ml_T_gap_58 4096 v1 (0 : Int32) σ) else (tg v3 40 (tg v3 40 (go (v1 + (((σ.2.1 15 v3.toNatClampNeg)).toInt64 * ((σ.2.1 16 v3.toNatClampNeg)).toInt64)) (v3 + (1 : Int32)) σ)))
def ml_T_gap_15 : Nat → Int64 → Int32 → tS → Option (Int64 × tS) := tit (fun _ _ _ => none) ms_T_gap_15
/-- TripRounds.gap()J  -/
def mf_T_gap  (σ : tS) : Option (Int64 × tS) :=
  tb1 (mf_W_holdTimes σ) (fun s_1 => ml_T_gap_15 4096 (0 : Int64) (0 : Int32) s_1)
/-- TripRounds.count(II)I  -/
def mf_T_count (p0 : Int32) (p1 : Int32) (σ : tS) : Option (Int32 × tS) :=
  tb1 (mf_T_needStreet p0 σ) (fun s_1 => tb1 (mf_T_needWithin p1 ((-1) : Int32) (1000000 : Int32) s_1) (fun s_2 => tg p0 40 (tg p0 40 (some ((s_2.2.1 14 p0.toNatClampNeg), (tI s_2 14 p0.toNatClampNeg p1))))))
/-- TripRounds.count(II)I (what it throws) -/
def mx_T_count (p0 : Int32) (p1 : Int32) (σ : tS) : Option Nat :=
  tx (mx_T_needStreet p0 σ) (tb1 (mf_T_needStreet p0 σ) (fun s_1 => tx (mx_T_needWithin p1 ((-1) : Int32) (1000000 : Int32) s_1) (tb1 (mf_T_needWithin p1 ((-1) : Int32) (1000000 : Int32) s_1) (fun s_2 => none))))
/-- TripRounds$Streets.farthestFromCount, the loop at 6 -/
def ms_S_farthestFromCount_6 (go : Int32 → Int32 → Int32 → tS → Option (Int32 × tS)) : Int32 → Int32 → Int32 → tS → Option (Int32 × tS) := fun v1 v2 v3 σ =>
  if (σ.1 2) ≤ v3 then (some (v1, σ)) else (tg v3 40 (if (σ.2.1 14 v3.toNatClampNeg) = ((-1) : Int32) then (if (0 : Int32) ≤ v2 then (go v1 v2 (v3 + (1 : Int32)) σ) else (go v3 (0 : Int32) (v3 + (1 : Int32)) σ)) else (tg v3 40 (tg v3 40 (if (if 0 ≤ ((σ.2.1 15 v3.toNatClampNeg) - (σ.2.1 14 v3.toNatClampNeg)) then ((σ.2.1 15 v3.toNatClampNeg) - (σ.2.1 14 v3.toNatClampNeg)) else 0 - ((σ.2.1 15 v3.toNatClampNeg) - (σ.2.1 14 v3.toNatClampNeg))) ≤ v2 then (go v1 v2 (v3 + (1 : Int32)) σ) else (go v3 (if 0 ≤ ((σ.2.1 15 v3.toNatClampNeg) - (σ.2.1 14 v3.toNatClampNeg)) then ((σ.2.1 15 v3.toNatClampNeg) - (σ.2.1 14 v3.toNatClampNeg)) else 0 - ((σ.2.1 15 v3.toNatClampNeg) - (σ.2.1 14 v3.toNatClampNeg))) (v3 + (1 : Int32)) σ))))))
def ml_S_farthestFromCount_6 : Nat → Int32 → Int32 → Int32 → tS → Option (Int32 × tS) := tit (fun _ _ _ _ => none) ms_S_farthestFromCount_6
/-- TripRounds$Streets.farthestFromCount()I  -/
def mf_S_farthestFromCount  (σ : tS) : Option (Int32 × tS) :=
  ml_S_farthestFromCount_6 4096 ((-1) : Int32) (0 : Int32) (0 : Int32) σ
/-- TripRounds.scaleUsersOf, the loop at 21 -/
def ms_T_scaleUsersOf_21 (go : Int32 → Int64 → Int32 → tS → Option tS) : Int32 → Int64 → Int32 → tS → Option tS := fun v1 v2 v4 σ =>
  if (36 : Int32) ≤ v4 then (some σ) else (tb2 (mf_A_placeOf v1 v4 σ) (fun r_2 s_2 => tg r_2 1440 (if (s_2.2.1 20 r_2.toNatClampNeg) ≤ 0 then (go v1 v2 (v4 + (1 : Int32)) s_2) else (tg v4 36 (tg v1 40 (tz v2 (tg v4 36 (go v1 v2 (v4 + (1 : Int32)) (tI s_2 4 v4.toNatClampNeg (((if (1000000 : Int64) < ((((s_2.2.1 4 v4.toNatClampNeg)).toInt64 * ((s_2.2.1 14 v1.toNatClampNeg)).toInt64) / v2) then (1000000 : Int64) else ((((s_2.2.1 4 v4.toNatClampNeg)).toInt64 * ((s_2.2.1 14 v1.toNatClampNeg)).toInt64) / v2))).toInt32))))))))))
def ml_T_scaleUsersOf_21 : Nat → Int32 → Int64 → Int32 → tS → Option tS := tit (fun _ _ _ _ => none) ms_T_scaleUsersOf_21
/-- TripRounds.scaleUsersOf(I)V  -/
def mf_T_scaleUsersOf (p0 : Int32) (σ : tS) : Option tS :=
  tg p0 40 (if (lg_cmp (((σ.2.1 15 p0.toNatClampNeg)).toInt64) (0 : Int64)) = 0 then (some σ) else (ml_T_scaleUsersOf_21 4096 p0 (((σ.2.1 15 p0.toNatClampNeg)).toInt64) (0 : Int32) σ))
/-- TripRounds.fit, the loop at 29 -/
def ms_T_fit_29 (go : Int32 → Int32 → tS → Option (Int32 × tS)) : Int32 → Int32 → tS → Option (Int32 × tS) := fun v1 v2 σ =>
  if v1 ≤ v2 then (some (v1, σ)) else (tb2 (mf_S_farthestFromCount σ) (fun r_2 s_2 => if r_2 = ((-1) : Int32) then (some (v2, s_2)) else (tg r_2 40 (if (s_2.2.1 15 r_2.toNatClampNeg) = 0 then (some (v2, s_2)) else (tb1 (mf_T_scaleUsersOf r_2 s_2) (fun s_4 => tb1 (mf_T_assignAll (s_4.1 3) s_4) (fun s_5 => go v1 (v2 + (1 : Int32)) s_5)))))))
def ml_T_fit_29 : Nat → Int32 → Int32 → tS → Option (Int32 × tS) := tit (fun _ _ _ => none) ms_T_fit_29
/-- TripRounds.fit(I)I  -/
def mf_T_fit (p0 : Int32) (σ : tS) : Option (Int32 × tS) :=
  tb1 (mf_T_needWithin p0 (1 : Int32) (20 : Int32) σ) (fun s_1 => if (s_1.1 3) = 0 then (none) else (ml_T_fit_29 4096 p0 (0 : Int32) s_1))
/-- TripRounds.fit(I)I (what it throws) -/
def mx_T_fit (p0 : Int32) (σ : tS) : Option Nat :=
  tx (mx_T_needWithin p0 (1 : Int32) (20 : Int32) σ) (tb1 (mf_T_needWithin p0 (1 : Int32) (20 : Int32) σ) (fun s_1 => if (s_1.1 3) = 0 then (some 2) else (none)))
end
section
abbrev rm_T_node : Room := { frames := 0, cells := 0, slots := 0, locals := 0 }
set_option maxHeartbeats 4000000 in
set_option maxRecDepth 100000 in
theorem mc_T_node (l : Launch) {D : va_G} {ad : Nat → Nat} {ta : Nat → ClassId} (hd : tD 37 ad) {σ σ' : tS}  {r : Int32} (hf : mf_T_node  σ = some (r, σ')) : Met l y_T_node (.code y_T_node b_T_node 1 (some .int) :: tw) rm_T_node (tP D clS (tyC ta) (cwC ad ta σ) [.ref (ad 0)]) (tQ D clS (cwC ad ta σ') (some (.int r)) (tA 37 ad)) 0 0 (tA 37 ad) := by
  refine Met.ofW (cc := b_T_node) (maxL := 1) (ret := (some .int)) (by decide) rfl ?_
  intro p e s m args below meth c s₁ B hml hv
  obtain ⟨rfl, hP, hK, hN⟩ := hv
  have hx := B.exec
  have hb := B.bytes
  have hr := B.returns
  have ht : ∀ w ∈ tw, w.before [.ref (ad 0)].toArray s = true := fun w h => atoms_spec (ws := (.code y_T_node b_T_node 1 (some .int) :: tw)) B.pre w (List.mem_cons_of_mem _ h)
  have hown : s.vm.findClass R_T = some m.cls := findClass_of_methodNamed B.named
  have hlocks := B.notSynchronized
  have CX : tC p s m [.ref (ad 0)].toArray meth c b_T_node (some .int) 1 R_T D clS (tyC ta) := ⟨hx, hb, hr, hml, hown, ht, hlocks, hK, hN⟩
  have hS : va_S (tA 37 ad) s.heap s.heap [] := va_S.rf
  have hl := lv_entry ([.ref (ad 0)]) (n := 1) (Nat.le_of_ble_eq_true rfl)
  rw [lg_entry_eq]
  generalize (lg_sl ([.ref (ad 0)]) ++ List.replicate (1 - (lg_sl ([.ref (ad 0)])).length) Slot.unset).toArray = ls at hl ⊢
  replace hl : lv_has ls 1 [(0, .ref (ad 0))] := hl
  unfold mf_T_node at hf
  refine lv_aload_n hx hb d_T_node_0 rfl (lv_at hl 0 rfl) ?_
  refine va_get (ci := 0) (v := .int (σ.1 0)) (C := R_T) (T := F_T) (N := 7) hx hb ht iw_T hown hK hP 0 rfl rfl 0 (by decide) (ht _ wd_245) (fun _ h9 => h9) rfl d_T_node_1 ?_
  refine lv_bipush (v := (12 : Int32)) hx hb d_T_node_4 (by decide) ?_
  refine lv_icmp_lt (tgt := 19) hx hb d_T_node_6 (by decide) (fun hc => ?_) (fun hc => ?_)
  · replace hf := ti_pos hc hf
    refine lv_aload_n hx hb d_T_node_19 rfl (lv_at hl 0 rfl) ?_
    refine lv_dup hx hb d_T_node_20 rfl ?_
    refine va_get (ci := 0) (v := .int (σ.1 0)) (C := R_T) (T := F_T) (N := 7) hx hb ht iw_T hown hK hP 0 rfl rfl 0 (by decide) (ht _ wd_245) (fun _ h9 => h9) rfl d_T_node_21 ?_
    refine lv_dup_x1 hx hb d_T_node_24 rfl rfl ?_
    refine lv_iconst (v := (1 : Int32)) hx hb d_T_node_25 (by decide) ?_
    refine lv_iadd hx hb d_T_node_26 ?_
    refine va_put (ci := 0) (v := .int ((σ.1 0) + (1 : Int32))) (ty := .int) (C := R_T) (T := F_T) (N := 7) hx hb ht iw_T ft_T to_T nm_T hown hK hP (cwC_D hd) hS 0 rfl rfl 0 (by decide) (ht _ wd_245) (fun _ h9 => h9) rfl (by decide +kernel) rfl rfl (Nat.le_of_ble_eq_true rfl) d_T_node_27 (fun H locs hP _ hS => ?_)
    replace hP : va_P D clS (cwC ad ta (tF σ 0 ((σ.1 0) + (1 : Int32)))) H := hP
    obtain ⟨rfl, rfl⟩ := tp_of hf
    exact W.iret (v := (σ.1 0)) hx hb hr (fun t ht hW => ⟨rfl, by rw [ht]; exact hP, hS.F ht⟩) hS.2.2 d_T_node_30
  · replace hf := ti_neg hc hf
    exact tn_no hf
abbrev rm_T_needNode : Room := { frames := 0, cells := 0, slots := 0, locals := 0 }
set_option maxHeartbeats 4000000 in
set_option maxRecDepth 100000 in
theorem mc_T_needNode (l : Launch) {D : va_G} {ad : Nat → Nat} {ta : Nat → ClassId} (hd : tD 37 ad) {σ σ' : tS} {p0 : Int32} (hf : mf_T_needNode p0 σ = some σ') : Met l y_T_needNode (.code y_T_needNode b_T_needNode 2 none :: tw) rm_T_needNode (tP D clS (tyC ta) (cwC ad ta σ) [.ref (ad 0), .int p0]) (tQ D clS (cwC ad ta σ') none (tA 37 ad)) 0 0 (tA 37 ad) := by
  refine Met.ofW (cc := b_T_needNode) (maxL := 2) (ret := none) (by decide) rfl ?_
  intro p e s m args below meth c s₁ B hml hv
  obtain ⟨rfl, hP, hK, hN⟩ := hv
  have hx := B.exec
  have hb := B.bytes
  have hr := B.returns
  have ht : ∀ w ∈ tw, w.before [.ref (ad 0), .int p0].toArray s = true := fun w h => atoms_spec (ws := (.code y_T_needNode b_T_needNode 2 none :: tw)) B.pre w (List.mem_cons_of_mem _ h)
  have hown : s.vm.findClass R_T = some m.cls := findClass_of_methodNamed B.named
  have hlocks := B.notSynchronized
  have CX : tC p s m [.ref (ad 0), .int p0].toArray meth c b_T_needNode none 2 R_T D clS (tyC ta) := ⟨hx, hb, hr, hml, hown, ht, hlocks, hK, hN⟩
  have hS : va_S (tA 37 ad) s.heap s.heap [] := va_S.rf
  have hl := lv_entry ([.ref (ad 0), .int p0]) (n := 2) (Nat.le_of_ble_eq_true rfl)
  rw [lg_entry_eq]
  generalize (lg_sl ([.ref (ad 0), .int p0]) ++ List.replicate (2 - (lg_sl ([.ref (ad 0), .int p0])).length) Slot.unset).toArray = ls at hl ⊢
  replace hl : lv_has ls 2 [(0, .ref (ad 0)), (1, .int p0)] := hl
  unfold mf_T_needNode at hf
  refine lv_iload_n hx hb d_T_needNode_0 rfl (lv_at hl 1 rfl) ?_
  refine lv_if_lt (tgt := 12) hx hb d_T_needNode_1 (by decide) (fun hc => ?_) (fun hc => ?_)
  · replace hf := ti_pos hc hf
    exact tn_no hf
  · replace hf := ti_neg hc hf
    refine lv_iload_n hx hb d_T_needNode_4 rfl (lv_at hl 1 rfl) ?_
    refine lv_aload_n hx hb d_T_needNode_5 rfl (lv_at hl 0 rfl) ?_
    refine va_get (ci := 0) (v := .int (σ.1 0)) (C := R_T) (T := F_T) (N := 7) hx hb ht iw_T hown hK hP 0 rfl rfl 0 (by decide) (ht _ wd_245) (fun _ h9 => h9) rfl d_T_needNode_6 ?_
    refine lv_icmp_lt (tgt := 22) hx hb d_T_needNode_9 (by decide) (fun hc => ?_) (fun hc => ?_)
    · replace hf := ti_pos hc hf
      obtain rfl := ts_of hf
      exact W.vret hx hb hr (fun t ht hW => ⟨rfl, by rw [ht]; exact hP, hS.F ht⟩) hS.2.2 d_T_needNode_22
    · replace hf := ti_neg hc hf
      exact tn_no hf
abbrev rm_T_needWithin : Room := { frames := 0, cells := 0, slots := 0, locals := 0 }
set_option maxHeartbeats 4000000 in
set_option maxRecDepth 100000 in
theorem mc_T_needWithin (l : Launch) {D : va_G} {ad : Nat → Nat} {ta : Nat → ClassId} (hd : tD 37 ad) {σ σ' : tS} {p0 : Int32} {p1 : Int32} {p2 : Int32} (hf : mf_T_needWithin p0 p1 p2 σ = some σ') : Met l y_T_needWithin (.code y_T_needWithin b_T_needWithin 3 none :: tw) rm_T_needWithin (tP D clS (tyC ta) (cwC ad ta σ) [.int p0, .int p1, .int p2]) (tQ D clS (cwC ad ta σ') none (tA 37 ad)) 0 0 (tA 37 ad) := by
  refine Met.ofW (cc := b_T_needWithin) (maxL := 3) (ret := none) (by decide) rfl ?_
  intro p e s m args below meth c s₁ B hml hv
  obtain ⟨rfl, hP, hK, hN⟩ := hv
  have hx := B.exec
  have hb := B.bytes
  have hr := B.returns
  have ht : ∀ w ∈ tw, w.before [.int p0, .int p1, .int p2].toArray s = true := fun w h => atoms_spec (ws := (.code y_T_needWithin b_T_needWithin 3 none :: tw)) B.pre w (List.mem_cons_of_mem _ h)
  have hown : s.vm.findClass R_T = some m.cls := findClass_of_methodNamed B.named
  have hlocks := B.notSynchronized
  have CX : tC p s m [.int p0, .int p1, .int p2].toArray meth c b_T_needWithin none 3 R_T D clS (tyC ta) := ⟨hx, hb, hr, hml, hown, ht, hlocks, hK, hN⟩
  have hS : va_S (tA 37 ad) s.heap s.heap [] := va_S.rf
  have hl := lv_entry ([.int p0, .int p1, .int p2]) (n := 3) (Nat.le_of_ble_eq_true rfl)
  rw [lg_entry_eq]
  generalize (lg_sl ([.int p0, .int p1, .int p2]) ++ List.replicate (3 - (lg_sl ([.int p0, .int p1, .int p2])).length) Slot.unset).toArray = ls at hl ⊢
  replace hl : lv_has ls 3 [(0, .int p0), (1, .int p1), (2, .int p2)] := hl
  unfold mf_T_needWithin at hf
  refine lv_iload_n hx hb d_T_needWithin_0 rfl (lv_at hl 0 rfl) ?_
  refine lv_iload_n hx hb d_T_needWithin_1 rfl (lv_at hl 1 rfl) ?_
  refine lv_icmp_lt (tgt := 10) hx hb d_T_needWithin_2 (by decide) (fun hc => ?_) (fun hc => ?_)
  · replace hf := ti_pos hc hf
    exact tn_no hf
  · replace hf := ti_neg hc hf
    refine lv_iload_n hx hb d_T_needWithin_5 rfl (lv_at hl 0 rfl) ?_
    refine lv_iload_n hx hb d_T_needWithin_6 rfl (lv_at hl 2 rfl) ?_
    refine lv_icmp_le (tgt := 20) hx hb d_T_needWithin_7 (by decide) (fun hc => ?_) (fun hc => ?_)
    · replace hf := ti_pos hc hf
      obtain rfl := ts_of hf
      exact W.vret hx hb hr (fun t ht hW => ⟨rfl, by rw [ht]; exact hP, hS.F ht⟩) hS.2.2 d_T_needWithin_20
    · replace hf := ti_neg hc hf
      exact tn_no hf
abbrev rm_Z_addZone : Room := { frames := 0, cells := 0, slots := 0, locals := 0 }
set_option maxHeartbeats 4000000 in
set_option maxRecDepth 100000 in
theorem mc_Z_addZone (l : Launch) {D : va_G} {ad : Nat → Nat} {ta : Nat → ClassId} (hd : tD 37 ad) {σ σ' : tS} {p0 : Int32} {p1 : Int32} {p2 : Int32} {r : Int32} (hf : mf_Z_addZone p0 p1 p2 σ = some (r, σ')) : Met l y_Z_addZone (.code y_Z_addZone b_Z_addZone 4 (some .int) :: tw) rm_Z_addZone (tP D clS (tyC ta) (cwC ad ta σ) [.ref (ad 1), .int p0, .int p1, .int p2]) (tQ D clS (cwC ad ta σ') (some (.int r)) (tA 37 ad)) 0 0 (tA 37 ad) := by
  refine Met.ofW (cc := b_Z_addZone) (maxL := 4) (ret := (some .int)) (by decide) rfl ?_
  intro p e s m args below meth c s₁ B hml hv
  obtain ⟨rfl, hP, hK, hN⟩ := hv
  have hx := B.exec
  have hb := B.bytes
  have hr := B.returns
  have ht : ∀ w ∈ tw, w.before [.ref (ad 1), .int p0, .int p1, .int p2].toArray s = true := fun w h => atoms_spec (ws := (.code y_Z_addZone b_Z_addZone 4 (some .int) :: tw)) B.pre w (List.mem_cons_of_mem _ h)
  have hown : s.vm.findClass R_Z = some m.cls := findClass_of_methodNamed B.named
  have hlocks := B.notSynchronized
  have CX : tC p s m [.ref (ad 1), .int p0, .int p1, .int p2].toArray meth c b_Z_addZone (some .int) 4 R_Z D clS (tyC ta) := ⟨hx, hb, hr, hml, hown, ht, hlocks, hK, hN⟩
  have hS : va_S (tA 37 ad) s.heap s.heap [] := va_S.rf
  have hl := lv_entry ([.ref (ad 1), .int p0, .int p1, .int p2]) (n := 4) (Nat.le_of_ble_eq_true rfl)
  rw [lg_entry_eq]
  generalize (lg_sl ([.ref (ad 1), .int p0, .int p1, .int p2]) ++ List.replicate (4 - (lg_sl ([.ref (ad 1), .int p0, .int p1, .int p2])).length) Slot.unset).toArray = ls at hl ⊢
  replace hl : lv_has ls 4 [(0, .ref (ad 1)), (1, .int p0), (2, .int p1), (3, .int p2)] := hl
  unfold mf_Z_addZone at hf
  refine lv_aload_n hx hb d_Z_addZone_0 rfl (lv_at hl 0 rfl) ?_
  refine va_get (ci := 1) (v := .ref (ad 9)) (C := R_Z) (T := F_Z) (N := 4) hx hb ht iw_Z hown hK hP 1 rfl rfl 1 (by decide) (ht _ wd_67) (fun _ h9 => h9) rfl d_Z_addZone_1 ?_
  refine lv_aload_n hx hb d_Z_addZone_4 rfl (lv_at hl 0 rfl) ?_
  refine va_get (ci := 1) (v := .int (σ.1 1)) (C := R_Z) (T := F_Z) (N := 4) hx hb ht iw_Z hown hK hP 1 rfl rfl 0 (by decide) (ht _ wd_64) (fun _ h9 => h9) rfl d_Z_addZone_5 ?_
  refine lv_iload_n hx hb d_Z_addZone_8 rfl (lv_at hl 1 rfl) ?_
  obtain ⟨hi1, hf⟩ := tg_of hf
  refine va_iast (f := σ.2.1 0) hx hb hK hP (cwC_D hd) hS 9 0 rfl rfl hi1 d_Z_addZone_9 (fun H locs hP _ hS => ?_)
  replace hP : va_P D clS (cwC ad ta (tI σ 0 ((σ.1 1).toNatClampNeg) p0)) H := hP
  refine lv_aload_n hx hb d_Z_addZone_10 rfl (lv_at hl 0 rfl) ?_
  refine va_get (ci := 1) (v := .ref (ad 10)) (C := R_Z) (T := F_Z) (N := 4) hx hb ht iw_Z hown hK hP 1 rfl rfl 2 (by decide) (ht _ wd_69) (fun _ h9 => h9) rfl d_Z_addZone_11 ?_
  refine lv_aload_n hx hb d_Z_addZone_14 rfl (lv_at hl 0 rfl) ?_
  refine va_get (ci := 1) (v := .int (σ.1 1)) (C := R_Z) (T := F_Z) (N := 4) hx hb ht iw_Z hown hK hP 1 rfl rfl 0 (by decide) (ht _ wd_64) (fun _ h9 => h9) rfl d_Z_addZone_15 ?_
  refine lv_iload_n hx hb d_Z_addZone_18 rfl (lv_at hl 2 rfl) ?_
  obtain ⟨hi2, hf⟩ := tg_of hf
  refine va_iast (f := σ.2.1 1) hx hb hK hP (cwC_D hd) hS 10 1 rfl rfl hi2 d_Z_addZone_19 (fun H locs hP _ hS => ?_)
  replace hP : va_P D clS (cwC ad ta (tI (tI σ 0 ((σ.1 1).toNatClampNeg) p0) 1 ((σ.1 1).toNatClampNeg) p1)) H := hP
  refine lv_aload_n hx hb d_Z_addZone_20 rfl (lv_at hl 0 rfl) ?_
  refine va_get (ci := 1) (v := .ref (ad 11)) (C := R_Z) (T := F_Z) (N := 4) hx hb ht iw_Z hown hK hP 1 rfl rfl 3 (by decide) (ht _ wd_72) (fun _ h9 => h9) rfl d_Z_addZone_21 ?_
  refine lv_aload_n hx hb d_Z_addZone_24 rfl (lv_at hl 0 rfl) ?_
  refine va_get (ci := 1) (v := .int (σ.1 1)) (C := R_Z) (T := F_Z) (N := 4) hx hb ht iw_Z hown hK hP 1 rfl rfl 0 (by decide) (ht _ wd_64) (fun _ h9 => h9) rfl d_Z_addZone_25 ?_
  refine lv_iload_n hx hb d_Z_addZone_28 rfl (lv_at hl 3 rfl) ?_
  obtain ⟨hi3, hf⟩ := tg_of hf
  refine va_iast (f := σ.2.1 2) hx hb hK hP (cwC_D hd) hS 11 2 rfl rfl hi3 d_Z_addZone_29 (fun H locs hP _ hS => ?_)
  replace hP : va_P D clS (cwC ad ta (tI (tI (tI σ 0 ((σ.1 1).toNatClampNeg) p0) 1 ((σ.1 1).toNatClampNeg) p1) 2 ((σ.1 1).toNatClampNeg) p2)) H := hP
  refine lv_aload_n hx hb d_Z_addZone_30 rfl (lv_at hl 0 rfl) ?_
  refine lv_dup hx hb d_Z_addZone_31 rfl ?_
  refine va_get (ci := 1) (v := .int (σ.1 1)) (C := R_Z) (T := F_Z) (N := 4) hx hb ht iw_Z hown hK hP 1 rfl rfl 0 (by decide) (ht _ wd_64) (fun _ h9 => h9) rfl d_Z_addZone_32 ?_
  refine lv_dup_x1 hx hb d_Z_addZone_35 rfl rfl ?_
  refine lv_iconst (v := (1 : Int32)) hx hb d_Z_addZone_36 (by decide) ?_
  refine lv_iadd hx hb d_Z_addZone_37 ?_
  refine va_put (ci := 1) (v := .int ((σ.1 1) + (1 : Int32))) (ty := .int) (C := R_Z) (T := F_Z) (N := 4) hx hb ht iw_Z ft_Z to_Z nm_Z hown hK hP (cwC_D hd) hS 1 rfl rfl 0 (by decide) (ht _ wd_64) (fun _ h9 => h9) rfl (by decide +kernel) rfl rfl (Nat.le_of_ble_eq_true rfl) d_Z_addZone_38 (fun H locs hP _ hS => ?_)
  replace hP : va_P D clS (cwC ad ta (tF (tI (tI (tI σ 0 ((σ.1 1).toNatClampNeg) p0) 1 ((σ.1 1).toNatClampNeg) p1) 2 ((σ.1 1).toNatClampNeg) p2) 1 ((σ.1 1) + (1 : Int32)))) H := hP
  obtain ⟨rfl, rfl⟩ := tp_of hf
  exact W.iret (v := (σ.1 1)) hx hb hr (fun t ht hW => ⟨rfl, by rw [ht]; exact hP, hS.F ht⟩) hS.2.2 d_Z_addZone_41
abbrev rm_T_zone : Room := { frames := 1, cells := 0, slots := 0, locals := 23 }
set_option maxHeartbeats 4000000 in
set_option maxRecDepth 100000 in
theorem mc_T_zone (l : Launch) {D : va_G} {ad : Nat → Nat} {ta : Nat → ClassId} (hd : tD 37 ad) {σ σ' : tS} {p0 : Int32} {p1 : Int32} {p2 : Int32} {r : Int32} (hf : mf_T_zone p0 p1 p2 σ = some (r, σ')) : Met l y_T_zone (.code y_T_zone b_T_zone 4 (some .int) :: tw) rm_T_zone (tP D clS (tyC ta) (cwC ad ta σ) [.ref (ad 0), .int p0, .int p1, .int p2]) (tQ D clS (cwC ad ta σ') (some (.int r)) (tA 37 ad)) 0 0 (tA 37 ad) := by
  refine Met.ofW (cc := b_T_zone) (maxL := 4) (ret := (some .int)) (by decide) rfl ?_
  intro p e s m args below meth c s₁ B hml hv
  obtain ⟨rfl, hP, hK, hN⟩ := hv
  have hx := B.exec
  have hb := B.bytes
  have hr := B.returns
  have ht : ∀ w ∈ tw, w.before [.ref (ad 0), .int p0, .int p1, .int p2].toArray s = true := fun w h => atoms_spec (ws := (.code y_T_zone b_T_zone 4 (some .int) :: tw)) B.pre w (List.mem_cons_of_mem _ h)
  have hown : s.vm.findClass R_T = some m.cls := findClass_of_methodNamed B.named
  have hlocks := B.notSynchronized
  have CX : tC p s m [.ref (ad 0), .int p0, .int p1, .int p2].toArray meth c b_T_zone (some .int) 4 R_T D clS (tyC ta) := ⟨hx, hb, hr, hml, hown, ht, hlocks, hK, hN⟩
  have hS : va_S (tA 37 ad) s.heap s.heap [] := va_S.rf
  have hl := lv_entry ([.ref (ad 0), .int p0, .int p1, .int p2]) (n := 4) (Nat.le_of_ble_eq_true rfl)
  rw [lg_entry_eq]
  generalize (lg_sl ([.ref (ad 0), .int p0, .int p1, .int p2]) ++ List.replicate (4 - (lg_sl ([.ref (ad 0), .int p0, .int p1, .int p2])).length) Slot.unset).toArray = ls at hl ⊢
  replace hl : lv_has ls 4 [(0, .ref (ad 0)), (1, .int p0), (2, .int p1), (3, .int p2)] := hl
  unfold mf_T_zone at hf
  refine lv_aload_n hx hb d_T_zone_0 rfl (lv_at hl 0 rfl) ?_
  refine lv_iload_n hx hb d_T_zone_1 rfl (lv_at hl 1 rfl) ?_
  obtain ⟨s_1, hq1, hf⟩ := tb1_of hf
  refine tr_callv (va_runV (C := R_T) (As := [.int p0]) (rest := []) ⟨hx, hb, hml, hown, ht⟩ (mc_T_needNode l hd hq1) ⟨(tw_cb (n := 1) ht wc_T_needNode wd_34 wd_399 ⟨rfl, rfl⟩ (by decide +kernel) ⟨(Nat.le_of_ble_eq_true rfl), (Nat.le_of_ble_eq_true rfl)⟩), ht _ wd_401, ht _ wd_5⟩ ⟨tP_blind, va_recv hK hP (ci := 0) (q0 := 0) rfl rfl, fun U hU hW => ⟨rfl, by rw [hU]; exact hP, va_K.moved hW.alike hK, tW_warm hW hN⟩⟩ rfl rfl hl.1 rfl (lv_room (Nat.le_of_ble_eq_true rfl)) d_T_zone_2 ⟨Nat.zero_le _, Nat.zero_le _⟩) hS (fun _ h => h) (fun _ h => h) (fun H locs hP hS => ?_)
  refine lv_iload_n hx hb d_T_zone_5 rfl (lv_at hl 2 rfl) ?_
  refine lv_iconst (v := (0 : Int32)) hx hb d_T_zone_6 (by decide) ?_
  refine lv_ldc (v := (100000 : Int32)) hx hb hown (ht _ wd_419) d_T_zone_7 ?_
  obtain ⟨s_2, hq2, hf⟩ := tb1_of hf
  refine tr_callv (va_runS (As := [.int p1, .int (0 : Int32), .int (100000 : Int32)]) (rest := []) ⟨hx, hb, hml, hown, ht⟩ (mc_T_needWithin l hd hq2) ⟨(tw_cb (n := 3) ht wc_T_needWithin wd_34 wd_420 ⟨rfl, rfl⟩ (by decide +kernel) ⟨(Nat.le_of_ble_eq_true rfl), (Nat.le_of_ble_eq_true rfl)⟩), ht _ wd_421⟩ ⟨tP_blind, fun U hU hW => ⟨rfl, by rw [hU]; exact hP, va_K.moved hW.alike hK, tW_warm hW hN⟩⟩ rfl rfl hl.1 rfl (lv_room (Nat.le_of_ble_eq_true rfl)) d_T_zone_9 ⟨Nat.zero_le _, Nat.zero_le _⟩) hS (fun _ h => h) (fun _ h => h) (fun H locs hP hS => ?_)
  refine lv_iload_n hx hb d_T_zone_12 rfl (lv_at hl 3 rfl) ?_
  refine lv_iconst (v := (0 : Int32)) hx hb d_T_zone_13 (by decide) ?_
  refine lv_ldc (v := (100000 : Int32)) hx hb hown (ht _ wd_419) d_T_zone_14 ?_
  obtain ⟨s_3, hq3, hf⟩ := tb1_of hf
  refine tr_callv (va_runS (As := [.int p2, .int (0 : Int32), .int (100000 : Int32)]) (rest := []) ⟨hx, hb, hml, hown, ht⟩ (mc_T_needWithin l hd hq3) ⟨(tw_cb (n := 3) ht wc_T_needWithin wd_34 wd_420 ⟨rfl, rfl⟩ (by decide +kernel) ⟨(Nat.le_of_ble_eq_true rfl), (Nat.le_of_ble_eq_true rfl)⟩), ht _ wd_421⟩ ⟨tP_blind, fun U hU hW => ⟨rfl, by rw [hU]; exact hP, va_K.moved hW.alike hK, tW_warm hW hN⟩⟩ rfl rfl hl.1 rfl (lv_room (Nat.le_of_ble_eq_true rfl)) d_T_zone_16 ⟨Nat.zero_le _, Nat.zero_le _⟩) hS (fun _ h => h) (fun _ h => h) (fun H locs hP hS => ?_)
  refine lv_aload_n hx hb d_T_zone_19 rfl (lv_at hl 0 rfl) ?_
  refine va_get (ci := 0) (v := .ref (ad 1)) (C := R_T) (T := F_T) (N := 7) hx hb ht iw_T hown hK hP 0 rfl rfl 1 (by decide) (ht _ wd_246) (fun _ h9 => h9) rfl d_T_zone_20 ?_
  refine va_get (ci := 1) (v := .int (s_3.1 1)) (C := R_Z) (T := F_Z) (N := 4) hx hb ht iw_Z hown hK hP 1 rfl rfl 0 (by decide) (ht _ wd_66) (fun _ h9 => h9) rfl d_T_zone_23 ?_
  refine lv_bipush (v := (6 : Int32)) hx hb d_T_zone_26 (by decide) ?_
  refine lv_icmp_lt (tgt := 41) hx hb d_T_zone_28 (by decide) (fun hc => ?_) (fun hc => ?_)
  · replace hf := ti_pos hc hf
    refine lv_aload_n hx hb d_T_zone_41 rfl (lv_at hl 0 rfl) ?_
    refine va_get (ci := 0) (v := .ref (ad 1)) (C := R_T) (T := F_T) (N := 7) hx hb ht iw_T hown hK hP 0 rfl rfl 1 (by decide) (ht _ wd_246) (fun _ h9 => h9) rfl d_T_zone_42 ?_
    refine lv_iload_n hx hb d_T_zone_45 rfl (lv_at hl 1 rfl) ?_
    refine lv_iload_n hx hb d_T_zone_46 rfl (lv_at hl 2 rfl) ?_
    refine lv_iload_n hx hb d_T_zone_47 rfl (lv_at hl 3 rfl) ?_
    obtain ⟨r_4, s_4, hq4, hf⟩ := tb2_of hf
    refine tr_calli (va_runV (C := R_Z) (As := [.int p0, .int p1, .int p2]) (rest := []) ⟨hx, hb, hml, hown, ht⟩ (mc_Z_addZone l hd hq4) ⟨(tw_cb (n := 3) ht wc_Z_addZone wd_35 wd_425 ⟨rfl, rfl⟩ (by decide +kernel) ⟨(Nat.le_of_ble_eq_true rfl), (Nat.le_of_ble_eq_true rfl)⟩), ht _ wd_426, ht _ wd_427⟩ ⟨tP_blind, va_recv hK hP (ci := 1) (q0 := 1) rfl rfl, fun U hU hW => ⟨rfl, by rw [hU]; exact hP, va_K.moved hW.alike hK, tW_warm hW hN⟩⟩ rfl rfl hl.1 rfl (lv_room (Nat.le_of_ble_eq_true rfl)) d_T_zone_48 ⟨Nat.zero_le _, Nat.zero_le _⟩) hS (fun _ h => h) (fun _ h => h) (fun H locs hP hS => ?_)
    obtain ⟨rfl, rfl⟩ := tp_of hf
    exact W.iret (v := r_4) hx hb hr (fun t ht hW => ⟨rfl, by rw [ht]; exact hP, hS.F ht⟩) hS.2.2 d_T_zone_51
  · replace hf := ti_neg hc hf
    exact tn_no hf
abbrev rm_S_addStreet : Room := { frames := 0, cells := 0, slots := 0, locals := 0 }
set_option maxHeartbeats 4000000 in
set_option maxRecDepth 100000 in
theorem mc_S_addStreet (l : Launch) {D : va_G} {ad : Nat → Nat} {ta : Nat → ClassId} (hd : tD 37 ad) {σ σ' : tS} {p0 : Int32} {p1 : Int32} {p2 : Int32} {p3 : Int32} {p4 : Int32} {r : Int32} (hf : mf_S_addStreet p0 p1 p2 p3 p4 σ = some (r, σ')) : Met l y_S_addStreet (.code y_S_addStreet b_S_addStreet 6 (some .int) :: tw) rm_S_addStreet (tP D clS (tyC ta) (cwC ad ta σ) [.ref (ad 4), .int p0, .int p1, .int p2, .int p3, .int p4]) (tQ D clS (cwC ad ta σ') (some (.int r)) (tA 37 ad)) 0 0 (tA 37 ad) := by
  refine Met.ofW (cc := b_S_addStreet) (maxL := 6) (ret := (some .int)) (by decide) rfl ?_
  intro p e s m args below meth c s₁ B hml hv
  obtain ⟨rfl, hP, hK, hN⟩ := hv
  have hx := B.exec
  have hb := B.bytes
  have hr := B.returns
  have ht : ∀ w ∈ tw, w.before [.ref (ad 4), .int p0, .int p1, .int p2, .int p3, .int p4].toArray s = true := fun w h => atoms_spec (ws := (.code y_S_addStreet b_S_addStreet 6 (some .int) :: tw)) B.pre w (List.mem_cons_of_mem _ h)
  have hown : s.vm.findClass R_S = some m.cls := findClass_of_methodNamed B.named
  have hlocks := B.notSynchronized
  have CX : tC p s m [.ref (ad 4), .int p0, .int p1, .int p2, .int p3, .int p4].toArray meth c b_S_addStreet (some .int) 6 R_S D clS (tyC ta) := ⟨hx, hb, hr, hml, hown, ht, hlocks, hK, hN⟩
  have hS : va_S (tA 37 ad) s.heap s.heap [] := va_S.rf
  have hl := lv_entry ([.ref (ad 4), .int p0, .int p1, .int p2, .int p3, .int p4]) (n := 6) (Nat.le_of_ble_eq_true rfl)
  rw [lg_entry_eq]
  generalize (lg_sl ([.ref (ad 4), .int p0, .int p1, .int p2, .int p3, .int p4]) ++ List.replicate (6 - (lg_sl ([.ref (ad 4), .int p0, .int p1, .int p2, .int p3, .int p4])).length) Slot.unset).toArray = ls at hl ⊢
  replace hl : lv_has ls 6 [(0, .ref (ad 4)), (1, .int p0), (2, .int p1), (3, .int p2), (4, .int p3), (5, .int p4)] := hl
  unfold mf_S_addStreet at hf
  refine lv_aload_n hx hb d_S_addStreet_0 rfl (lv_at hl 0 rfl) ?_
  refine va_get (ci := 4) (v := .ref (ad 16)) (C := R_S) (T := F_S) (N := 10) hx hb ht iw_S hown hK hP 4 rfl rfl 1 (by decide) (ht _ wd_160) (fun _ h9 => h9) rfl d_S_addStreet_1 ?_
  refine lv_aload_n hx hb d_S_addStreet_4 rfl (lv_at hl 0 rfl) ?_
  refine va_get (ci := 4) (v := .int (σ.1 2)) (C := R_S) (T := F_S) (N := 10) hx hb ht iw_S hown hK hP 4 rfl rfl 0 (by decide) (ht _ wd_157) (fun _ h9 => h9) rfl d_S_addStreet_5 ?_
  refine lv_iload_n hx hb d_S_addStreet_8 rfl (lv_at hl 1 rfl) ?_
  obtain ⟨hi1, hf⟩ := tg_of hf
  refine va_iast (f := σ.2.1 7) hx hb hK hP (cwC_D hd) hS 16 7 rfl rfl hi1 d_S_addStreet_9 (fun H locs hP _ hS => ?_)
  replace hP : va_P D clS (cwC ad ta (tI σ 7 ((σ.1 2).toNatClampNeg) p0)) H := hP
  refine lv_aload_n hx hb d_S_addStreet_10 rfl (lv_at hl 0 rfl) ?_
  refine va_get (ci := 4) (v := .ref (ad 17)) (C := R_S) (T := F_S) (N := 10) hx hb ht iw_S hown hK hP 4 rfl rfl 2 (by decide) (ht _ wd_162) (fun _ h9 => h9) rfl d_S_addStreet_11 ?_
  refine lv_aload_n hx hb d_S_addStreet_14 rfl (lv_at hl 0 rfl) ?_
  refine va_get (ci := 4) (v := .int (σ.1 2)) (C := R_S) (T := F_S) (N := 10) hx hb ht iw_S hown hK hP 4 rfl rfl 0 (by decide) (ht _ wd_157) (fun _ h9 => h9) rfl d_S_addStreet_15 ?_
  refine lv_iload_n hx hb d_S_addStreet_18 rfl (lv_at hl 2 rfl) ?_
  obtain ⟨hi2, hf⟩ := tg_of hf
  refine va_iast (f := σ.2.1 8) hx hb hK hP (cwC_D hd) hS 17 8 rfl rfl hi2 d_S_addStreet_19 (fun H locs hP _ hS => ?_)
  replace hP : va_P D clS (cwC ad ta (tI (tI σ 7 ((σ.1 2).toNatClampNeg) p0) 8 ((σ.1 2).toNatClampNeg) p1)) H := hP
  refine lv_aload_n hx hb d_S_addStreet_20 rfl (lv_at hl 0 rfl) ?_
  refine va_get (ci := 4) (v := .ref (ad 18)) (C := R_S) (T := F_S) (N := 10) hx hb ht iw_S hown hK hP 4 rfl rfl 3 (by decide) (ht _ wd_165) (fun _ h9 => h9) rfl d_S_addStreet_21 ?_
  refine lv_aload_n hx hb d_S_addStreet_24 rfl (lv_at hl 0 rfl) ?_
  refine va_get (ci := 4) (v := .int (σ.1 2)) (C := R_S) (T := F_S) (N := 10) hx hb ht iw_S hown hK hP 4 rfl rfl 0 (by decide) (ht _ wd_157) (fun _ h9 => h9) rfl d_S_addStreet_25 ?_
  refine lv_iload_n hx hb d_S_addStreet_28 rfl (lv_at hl 3 rfl) ?_
  obtain ⟨hi3, hf⟩ := tg_of hf
  refine va_iast (f := σ.2.1 9) hx hb hK hP (cwC_D hd) hS 18 9 rfl rfl hi3 d_S_addStreet_29 (fun H locs hP _ hS => ?_)
  replace hP : va_P D clS (cwC ad ta (tI (tI (tI σ 7 ((σ.1 2).toNatClampNeg) p0) 8 ((σ.1 2).toNatClampNeg) p1) 9 ((σ.1 2).toNatClampNeg) p2)) H := hP
  refine lv_aload_n hx hb d_S_addStreet_30 rfl (lv_at hl 0 rfl) ?_
  refine va_get (ci := 4) (v := .ref (ad 19)) (C := R_S) (T := F_S) (N := 10) hx hb ht iw_S hown hK hP 4 rfl rfl 4 (by decide) (ht _ wd_166) (fun _ h9 => h9) rfl d_S_addStreet_31 ?_
  refine lv_aload_n hx hb d_S_addStreet_34 rfl (lv_at hl 0 rfl) ?_
  refine va_get (ci := 4) (v := .int (σ.1 2)) (C := R_S) (T := F_S) (N := 10) hx hb ht iw_S hown hK hP 4 rfl rfl 0 (by decide) (ht _ wd_157) (fun _ h9 => h9) rfl d_S_addStreet_35 ?_
  refine lv_iload hx hb d_S_addStreet_38 (lv_at hl 4 rfl) ?_
  obtain ⟨hi4, hf⟩ := tg_of hf
  refine va_iast (f := σ.2.1 10) hx hb hK hP (cwC_D hd) hS 19 10 rfl rfl hi4 d_S_addStreet_40 (fun H locs hP _ hS => ?_)
  replace hP : va_P D clS (cwC ad ta (tI (tI (tI (tI σ 7 ((σ.1 2).toNatClampNeg) p0) 8 ((σ.1 2).toNatClampNeg) p1) 9 ((σ.1 2).toNatClampNeg) p2) 10 ((σ.1 2).toNatClampNeg) p3)) H := hP
  refine lv_aload_n hx hb d_S_addStreet_41 rfl (lv_at hl 0 rfl) ?_
  refine va_get (ci := 4) (v := .ref (ad 20)) (C := R_S) (T := F_S) (N := 10) hx hb ht iw_S hown hK hP 4 rfl rfl 5 (by decide) (ht _ wd_167) (fun _ h9 => h9) rfl d_S_addStreet_42 ?_
  refine lv_aload_n hx hb d_S_addStreet_45 rfl (lv_at hl 0 rfl) ?_
  refine va_get (ci := 4) (v := .int (σ.1 2)) (C := R_S) (T := F_S) (N := 10) hx hb ht iw_S hown hK hP 4 rfl rfl 0 (by decide) (ht _ wd_157) (fun _ h9 => h9) rfl d_S_addStreet_46 ?_
  refine lv_iload hx hb d_S_addStreet_49 (lv_at hl 5 rfl) ?_
  obtain ⟨hi5, hf⟩ := tg_of hf
  refine va_iast (f := σ.2.1 11) hx hb hK hP (cwC_D hd) hS 20 11 rfl rfl hi5 d_S_addStreet_51 (fun H locs hP _ hS => ?_)
  replace hP : va_P D clS (cwC ad ta (tI (tI (tI (tI (tI σ 7 ((σ.1 2).toNatClampNeg) p0) 8 ((σ.1 2).toNatClampNeg) p1) 9 ((σ.1 2).toNatClampNeg) p2) 10 ((σ.1 2).toNatClampNeg) p3) 11 ((σ.1 2).toNatClampNeg) p4)) H := hP
  refine lv_aload_n hx hb d_S_addStreet_52 rfl (lv_at hl 0 rfl) ?_
  refine va_get (ci := 4) (v := .ref (ad 22)) (C := R_S) (T := F_S) (N := 10) hx hb ht iw_S hown hK hP 4 rfl rfl 7 (by decide) (ht _ wd_170) (fun _ h9 => h9) rfl d_S_addStreet_53 ?_
  refine lv_aload_n hx hb d_S_addStreet_56 rfl (lv_at hl 0 rfl) ?_
  refine va_get (ci := 4) (v := .int (σ.1 2)) (C := R_S) (T := F_S) (N := 10) hx hb ht iw_S hown hK hP 4 rfl rfl 0 (by decide) (ht _ wd_157) (fun _ h9 => h9) rfl d_S_addStreet_57 ?_
  refine lv_iconst (v := (1 : Int32)) hx hb d_S_addStreet_60 (by decide) ?_
  obtain ⟨hi6, hf⟩ := tg_of hf
  refine va_zast (f := σ.2.1 13) hx hb hK hP (cwC_D hd) hS 22 13 rfl rfl hi6 d_S_addStreet_61 (fun H locs hP _ hS => ?_)
  replace hP : va_P D clS (cwC ad ta (tI (tI (tI (tI (tI (tI σ 7 ((σ.1 2).toNatClampNeg) p0) 8 ((σ.1 2).toNatClampNeg) p1) 9 ((σ.1 2).toNatClampNeg) p2) 10 ((σ.1 2).toNatClampNeg) p3) 11 ((σ.1 2).toNatClampNeg) p4) 13 ((σ.1 2).toNatClampNeg) (vp_nar .boolean (1 : Int32)))) H := hP
  refine lv_aload_n hx hb d_S_addStreet_62 rfl (lv_at hl 0 rfl) ?_
  refine lv_dup hx hb d_S_addStreet_63 rfl ?_
  refine va_get (ci := 4) (v := .int (σ.1 2)) (C := R_S) (T := F_S) (N := 10) hx hb ht iw_S hown hK hP 4 rfl rfl 0 (by decide) (ht _ wd_157) (fun _ h9 => h9) rfl d_S_addStreet_64 ?_
  refine lv_dup_x1 hx hb d_S_addStreet_67 rfl rfl ?_
  refine lv_iconst (v := (1 : Int32)) hx hb d_S_addStreet_68 (by decide) ?_
  refine lv_iadd hx hb d_S_addStreet_69 ?_
  refine va_put (ci := 4) (v := .int ((σ.1 2) + (1 : Int32))) (ty := .int) (C := R_S) (T := F_S) (N := 10) hx hb ht iw_S ft_S to_S nm_S hown hK hP (cwC_D hd) hS 4 rfl rfl 0 (by decide) (ht _ wd_157) (fun _ h9 => h9) rfl (by decide +kernel) rfl rfl (Nat.le_of_ble_eq_true rfl) d_S_addStreet_70 (fun H locs hP _ hS => ?_)
  replace hP : va_P D clS (cwC ad ta (tF (tI (tI (tI (tI (tI (tI σ 7 ((σ.1 2).toNatClampNeg) p0) 8 ((σ.1 2).toNatClampNeg) p1) 9 ((σ.1 2).toNatClampNeg) p2) 10 ((σ.1 2).toNatClampNeg) p3) 11 ((σ.1 2).toNatClampNeg) p4) 13 ((σ.1 2).toNatClampNeg) (vp_nar .boolean (1 : Int32))) 2 ((σ.1 2) + (1 : Int32)))) H := hP
  obtain ⟨rfl, rfl⟩ := tp_of hf
  exact W.iret (v := (σ.1 2)) hx hb hr (fun t ht hW => ⟨rfl, by rw [ht]; exact hP, hS.F ht⟩) hS.2.2 d_S_addStreet_73
abbrev rm_T_street : Room := { frames := 1, cells := 0, slots := 0, locals := 25 }
set_option maxHeartbeats 4000000 in
set_option maxRecDepth 100000 in
theorem mc_T_street (l : Launch) {D : va_G} {ad : Nat → Nat} {ta : Nat → ClassId} (hd : tD 37 ad) {σ σ' : tS} {p0 : Int32} {p1 : Int32} {p2 : Int32} {p3 : Int32} {p4 : Int32} {r : Int32} (hf : mf_T_street p0 p1 p2 p3 p4 σ = some (r, σ')) : Met l y_T_street (.code y_T_street b_T_street 6 (some .int) :: tw) rm_T_street (tP D clS (tyC ta) (cwC ad ta σ) [.ref (ad 0), .int p0, .int p1, .int p2, .int p3, .int p4]) (tQ D clS (cwC ad ta σ') (some (.int r)) (tA 37 ad)) 0 0 (tA 37 ad) := by
  refine Met.ofW (cc := b_T_street) (maxL := 6) (ret := (some .int)) (by decide) rfl ?_
  intro p e s m args below meth c s₁ B hml hv
  obtain ⟨rfl, hP, hK, hN⟩ := hv
  have hx := B.exec
  have hb := B.bytes
  have hr := B.returns
  have ht : ∀ w ∈ tw, w.before [.ref (ad 0), .int p0, .int p1, .int p2, .int p3, .int p4].toArray s = true := fun w h => atoms_spec (ws := (.code y_T_street b_T_street 6 (some .int) :: tw)) B.pre w (List.mem_cons_of_mem _ h)
  have hown : s.vm.findClass R_T = some m.cls := findClass_of_methodNamed B.named
  have hlocks := B.notSynchronized
  have CX : tC p s m [.ref (ad 0), .int p0, .int p1, .int p2, .int p3, .int p4].toArray meth c b_T_street (some .int) 6 R_T D clS (tyC ta) := ⟨hx, hb, hr, hml, hown, ht, hlocks, hK, hN⟩
  have hS : va_S (tA 37 ad) s.heap s.heap [] := va_S.rf
  have hl := lv_entry ([.ref (ad 0), .int p0, .int p1, .int p2, .int p3, .int p4]) (n := 6) (Nat.le_of_ble_eq_true rfl)
  rw [lg_entry_eq]
  generalize (lg_sl ([.ref (ad 0), .int p0, .int p1, .int p2, .int p3, .int p4]) ++ List.replicate (6 - (lg_sl ([.ref (ad 0), .int p0, .int p1, .int p2, .int p3, .int p4])).length) Slot.unset).toArray = ls at hl ⊢
  replace hl : lv_has ls 6 [(0, .ref (ad 0)), (1, .int p0), (2, .int p1), (3, .int p2), (4, .int p3), (5, .int p4)] := hl
  unfold mf_T_street at hf
  refine lv_aload_n hx hb d_T_street_0 rfl (lv_at hl 0 rfl) ?_
  refine lv_iload_n hx hb d_T_street_1 rfl (lv_at hl 1 rfl) ?_
  obtain ⟨s_1, hq1, hf⟩ := tb1_of hf
  refine tr_callv (va_runV (C := R_T) (As := [.int p0]) (rest := []) ⟨hx, hb, hml, hown, ht⟩ (mc_T_needNode l hd hq1) ⟨(tw_cb (n := 1) ht wc_T_needNode wd_34 wd_399 ⟨rfl, rfl⟩ (by decide +kernel) ⟨(Nat.le_of_ble_eq_true rfl), (Nat.le_of_ble_eq_true rfl)⟩), ht _ wd_401, ht _ wd_5⟩ ⟨tP_blind, va_recv hK hP (ci := 0) (q0 := 0) rfl rfl, fun U hU hW => ⟨rfl, by rw [hU]; exact hP, va_K.moved hW.alike hK, tW_warm hW hN⟩⟩ rfl rfl hl.1 rfl (lv_room (Nat.le_of_ble_eq_true rfl)) d_T_street_2 ⟨Nat.zero_le _, Nat.zero_le _⟩) hS (fun _ h => h) (fun _ h => h) (fun H locs hP hS => ?_)
  refine lv_aload_n hx hb d_T_street_5 rfl (lv_at hl 0 rfl) ?_
  refine lv_iload_n hx hb d_T_street_6 rfl (lv_at hl 2 rfl) ?_
  obtain ⟨s_2, hq2, hf⟩ := tb1_of hf
  refine tr_callv (va_runV (C := R_T) (As := [.int p1]) (rest := []) ⟨hx, hb, hml, hown, ht⟩ (mc_T_needNode l hd hq2) ⟨(tw_cb (n := 1) ht wc_T_needNode wd_34 wd_399 ⟨rfl, rfl⟩ (by decide +kernel) ⟨(Nat.le_of_ble_eq_true rfl), (Nat.le_of_ble_eq_true rfl)⟩), ht _ wd_401, ht _ wd_5⟩ ⟨tP_blind, va_recv hK hP (ci := 0) (q0 := 0) rfl rfl, fun U hU hW => ⟨rfl, by rw [hU]; exact hP, va_K.moved hW.alike hK, tW_warm hW hN⟩⟩ rfl rfl hl.1 rfl (lv_room (Nat.le_of_ble_eq_true rfl)) d_T_street_7 ⟨Nat.zero_le _, Nat.zero_le _⟩) hS (fun _ h => h) (fun _ h => h) (fun H locs hP hS => ?_)
  refine lv_iload_n hx hb d_T_street_10 rfl (lv_at hl 1 rfl) ?_
  refine lv_iload_n hx hb d_T_street_11 rfl (lv_at hl 2 rfl) ?_
  refine lv_icmp_ne (tgt := 25) hx hb d_T_street_12 (by decide) (fun hc => ?_) (fun hc => ?_)
  · replace hf := ti_neg hc hf
    refine lv_iload_n hx hb d_T_street_25 rfl (lv_at hl 3 rfl) ?_
    refine lv_iconst (v := (1 : Int32)) hx hb d_T_street_26 (by decide) ?_
    refine lv_sipush (v := (1000 : Int32)) hx hb d_T_street_27 (by decide) ?_
    obtain ⟨s_3, hq3, hf⟩ := tb1_of hf
    refine tr_callv (va_runS (As := [.int p2, .int (1 : Int32), .int (1000 : Int32)]) (rest := []) ⟨hx, hb, hml, hown, ht⟩ (mc_T_needWithin l hd hq3) ⟨(tw_cb (n := 3) ht wc_T_needWithin wd_34 wd_420 ⟨rfl, rfl⟩ (by decide +kernel) ⟨(Nat.le_of_ble_eq_true rfl), (Nat.le_of_ble_eq_true rfl)⟩), ht _ wd_421⟩ ⟨tP_blind, fun U hU hW => ⟨rfl, by rw [hU]; exact hP, va_K.moved hW.alike hK, tW_warm hW hN⟩⟩ rfl rfl hl.1 rfl (lv_room (Nat.le_of_ble_eq_true rfl)) d_T_street_30 ⟨Nat.zero_le _, Nat.zero_le _⟩) hS (fun _ h => h) (fun _ h => h) (fun H locs hP hS => ?_)
    refine lv_iload hx hb d_T_street_33 (lv_at hl 4 rfl) ?_
    refine lv_iconst (v := (0 : Int32)) hx hb d_T_street_35 (by decide) ?_
    refine lv_sipush (v := (1000 : Int32)) hx hb d_T_street_36 (by decide) ?_
    obtain ⟨s_4, hq4, hf⟩ := tb1_of hf
    refine tr_callv (va_runS (As := [.int p3, .int (0 : Int32), .int (1000 : Int32)]) (rest := []) ⟨hx, hb, hml, hown, ht⟩ (mc_T_needWithin l hd hq4) ⟨(tw_cb (n := 3) ht wc_T_needWithin wd_34 wd_420 ⟨rfl, rfl⟩ (by decide +kernel) ⟨(Nat.le_of_ble_eq_true rfl), (Nat.le_of_ble_eq_true rfl)⟩), ht _ wd_421⟩ ⟨tP_blind, fun U hU hW => ⟨rfl, by rw [hU]; exact hP, va_K.moved hW.alike hK, tW_warm hW hN⟩⟩ rfl rfl hl.1 rfl (lv_room (Nat.le_of_ble_eq_true rfl)) d_T_street_39 ⟨Nat.zero_le _, Nat.zero_le _⟩) hS (fun _ h => h) (fun _ h => h) (fun H locs hP hS => ?_)
    refine lv_iload hx hb d_T_street_42 (lv_at hl 5 rfl) ?_
    refine lv_iconst (v := (1 : Int32)) hx hb d_T_street_44 (by decide) ?_
    refine lv_ldc (v := (1000000 : Int32)) hx hb hown (ht _ wd_437) d_T_street_45 ?_
    obtain ⟨s_5, hq5, hf⟩ := tb1_of hf
    refine tr_callv (va_runS (As := [.int p4, .int (1 : Int32), .int (1000000 : Int32)]) (rest := []) ⟨hx, hb, hml, hown, ht⟩ (mc_T_needWithin l hd hq5) ⟨(tw_cb (n := 3) ht wc_T_needWithin wd_34 wd_420 ⟨rfl, rfl⟩ (by decide +kernel) ⟨(Nat.le_of_ble_eq_true rfl), (Nat.le_of_ble_eq_true rfl)⟩), ht _ wd_421⟩ ⟨tP_blind, fun U hU hW => ⟨rfl, by rw [hU]; exact hP, va_K.moved hW.alike hK, tW_warm hW hN⟩⟩ rfl rfl hl.1 rfl (lv_room (Nat.le_of_ble_eq_true rfl)) d_T_street_47 ⟨Nat.zero_le _, Nat.zero_le _⟩) hS (fun _ h => h) (fun _ h => h) (fun H locs hP hS => ?_)
    refine lv_aload_n hx hb d_T_street_50 rfl (lv_at hl 0 rfl) ?_
    refine va_get (ci := 0) (v := .ref (ad 4)) (C := R_T) (T := F_T) (N := 7) hx hb ht iw_T hown hK hP 0 rfl rfl 4 (by decide) (ht _ wd_249) (fun _ h9 => h9) rfl d_T_street_51 ?_
    refine va_get (ci := 4) (v := .int (s_5.1 2)) (C := R_S) (T := F_S) (N := 10) hx hb ht iw_S hown hK hP 4 rfl rfl 0 (by decide) (ht _ wd_159) (fun _ h9 => h9) rfl d_T_street_54 ?_
    refine lv_bipush (v := (40 : Int32)) hx hb d_T_street_57 (by decide) ?_
    refine lv_icmp_lt (tgt := 72) hx hb d_T_street_59 (by decide) (fun hc => ?_) (fun hc => ?_)
    · replace hf := ti_pos hc hf
      refine lv_aload_n hx hb d_T_street_72 rfl (lv_at hl 0 rfl) ?_
      refine va_get (ci := 0) (v := .ref (ad 4)) (C := R_T) (T := F_T) (N := 7) hx hb ht iw_T hown hK hP 0 rfl rfl 4 (by decide) (ht _ wd_249) (fun _ h9 => h9) rfl d_T_street_73 ?_
      refine lv_iload_n hx hb d_T_street_76 rfl (lv_at hl 1 rfl) ?_
      refine lv_iload_n hx hb d_T_street_77 rfl (lv_at hl 2 rfl) ?_
      refine lv_iload_n hx hb d_T_street_78 rfl (lv_at hl 3 rfl) ?_
      refine lv_iload hx hb d_T_street_79 (lv_at hl 4 rfl) ?_
      refine lv_iload hx hb d_T_street_81 (lv_at hl 5 rfl) ?_
      obtain ⟨r_6, s_6, hq6, hf⟩ := tb2_of hf
      refine tr_calli (va_runV (C := R_S) (As := [.int p0, .int p1, .int p2, .int p3, .int p4]) (rest := []) ⟨hx, hb, hml, hown, ht⟩ (mc_S_addStreet l hd hq6) ⟨(tw_cb (n := 5) ht wc_S_addStreet wd_40 wd_439 ⟨rfl, rfl⟩ (by decide +kernel) ⟨(Nat.le_of_ble_eq_true rfl), (Nat.le_of_ble_eq_true rfl)⟩), ht _ wd_440, ht _ wd_441⟩ ⟨tP_blind, va_recv hK hP (ci := 4) (q0 := 4) rfl rfl, fun U hU hW => ⟨rfl, by rw [hU]; exact hP, va_K.moved hW.alike hK, tW_warm hW hN⟩⟩ rfl rfl hl.1 rfl (lv_room (Nat.le_of_ble_eq_true rfl)) d_T_street_83 ⟨Nat.zero_le _, Nat.zero_le _⟩) hS (fun _ h => h) (fun _ h => h) (fun H locs hP hS => ?_)
      obtain ⟨rfl, rfl⟩ := tp_of hf
      exact W.iret (v := r_6) hx hb hr (fun t ht hW => ⟨rfl, by rw [ht]; exact hP, hS.F ht⟩) hS.2.2 d_T_street_86
    · replace hf := ti_neg hc hf
      exact tn_no hf
  · replace hf := ti_pos hc hf
    exact tn_no hf
abbrev rm_T_needStreet : Room := { frames := 0, cells := 0, slots := 0, locals := 0 }
set_option maxHeartbeats 4000000 in
set_option maxRecDepth 100000 in
theorem mc_T_needStreet (l : Launch) {D : va_G} {ad : Nat → Nat} {ta : Nat → ClassId} (hd : tD 37 ad) {σ σ' : tS} {p0 : Int32} (hf : mf_T_needStreet p0 σ = some σ') : Met l y_T_needStreet (.code y_T_needStreet b_T_needStreet 2 none :: tw) rm_T_needStreet (tP D clS (tyC ta) (cwC ad ta σ) [.ref (ad 0), .int p0]) (tQ D clS (cwC ad ta σ') none (tA 37 ad)) 0 0 (tA 37 ad) := by
  refine Met.ofW (cc := b_T_needStreet) (maxL := 2) (ret := none) (by decide) rfl ?_
  intro p e s m args below meth c s₁ B hml hv
  obtain ⟨rfl, hP, hK, hN⟩ := hv
  have hx := B.exec
  have hb := B.bytes
  have hr := B.returns
  have ht : ∀ w ∈ tw, w.before [.ref (ad 0), .int p0].toArray s = true := fun w h => atoms_spec (ws := (.code y_T_needStreet b_T_needStreet 2 none :: tw)) B.pre w (List.mem_cons_of_mem _ h)
  have hown : s.vm.findClass R_T = some m.cls := findClass_of_methodNamed B.named
  have hlocks := B.notSynchronized
  have CX : tC p s m [.ref (ad 0), .int p0].toArray meth c b_T_needStreet none 2 R_T D clS (tyC ta) := ⟨hx, hb, hr, hml, hown, ht, hlocks, hK, hN⟩
  have hS : va_S (tA 37 ad) s.heap s.heap [] := va_S.rf
  have hl := lv_entry ([.ref (ad 0), .int p0]) (n := 2) (Nat.le_of_ble_eq_true rfl)
  rw [lg_entry_eq]
  generalize (lg_sl ([.ref (ad 0), .int p0]) ++ List.replicate (2 - (lg_sl ([.ref (ad 0), .int p0])).length) Slot.unset).toArray = ls at hl ⊢
  replace hl : lv_has ls 2 [(0, .ref (ad 0)), (1, .int p0)] := hl
  unfold mf_T_needStreet at hf
  refine lv_iload_n hx hb d_T_needStreet_0 rfl (lv_at hl 1 rfl) ?_
  refine lv_if_lt (tgt := 15) hx hb d_T_needStreet_1 (by decide) (fun hc => ?_) (fun hc => ?_)
  · replace hf := ti_pos hc hf
    exact tn_no hf
  · replace hf := ti_neg hc hf
    refine lv_iload_n hx hb d_T_needStreet_4 rfl (lv_at hl 1 rfl) ?_
    refine lv_aload_n hx hb d_T_needStreet_5 rfl (lv_at hl 0 rfl) ?_
    refine va_get (ci := 0) (v := .ref (ad 4)) (C := R_T) (T := F_T) (N := 7) hx hb ht iw_T hown hK hP 0 rfl rfl 4 (by decide) (ht _ wd_249) (fun _ h9 => h9) rfl d_T_needStreet_6 ?_
    refine va_get (ci := 4) (v := .int (σ.1 2)) (C := R_S) (T := F_S) (N := 10) hx hb ht iw_S hown hK hP 4 rfl rfl 0 (by decide) (ht _ wd_159) (fun _ h9 => h9) rfl d_T_needStreet_9 ?_
    refine lv_icmp_lt (tgt := 25) hx hb d_T_needStreet_12 (by decide) (fun hc => ?_) (fun hc => ?_)
    · replace hf := ti_pos hc hf
      obtain rfl := ts_of hf
      exact W.vret hx hb hr (fun t ht hW => ⟨rfl, by rw [ht]; exact hP, hS.F ht⟩) hS.2.2 d_T_needStreet_25
    · replace hf := ti_neg hc hf
      exact tn_no hf
abbrev rm_T_toll : Room := { frames := 1, cells := 0, slots := 0, locals := 22 }
set_option maxHeartbeats 4000000 in
set_option maxRecDepth 100000 in
theorem mc_T_toll (l : Launch) {D : va_G} {ad : Nat → Nat} {ta : Nat → ClassId} (hd : tD 37 ad) {σ σ' : tS} {p0 : Int32} {p1 : Int32} {r : Int32} (hf : mf_T_toll p0 p1 σ = some (r, σ')) : Met l y_T_toll (.code y_T_toll b_T_toll 4 (some .int) :: tw) rm_T_toll (tP D clS (tyC ta) (cwC ad ta σ) [.ref (ad 0), .int p0, .int p1]) (tQ D clS (cwC ad ta σ') (some (.int r)) (tA 37 ad)) 0 0 (tA 37 ad) := by
  refine Met.ofW (cc := b_T_toll) (maxL := 4) (ret := (some .int)) (by decide) rfl ?_
  intro p e s m args below meth c s₁ B hml hv
  obtain ⟨rfl, hP, hK, hN⟩ := hv
  have hx := B.exec
  have hb := B.bytes
  have hr := B.returns
  have ht : ∀ w ∈ tw, w.before [.ref (ad 0), .int p0, .int p1].toArray s = true := fun w h => atoms_spec (ws := (.code y_T_toll b_T_toll 4 (some .int) :: tw)) B.pre w (List.mem_cons_of_mem _ h)
  have hown : s.vm.findClass R_T = some m.cls := findClass_of_methodNamed B.named
  have hlocks := B.notSynchronized
  have CX : tC p s m [.ref (ad 0), .int p0, .int p1].toArray meth c b_T_toll (some .int) 4 R_T D clS (tyC ta) := ⟨hx, hb, hr, hml, hown, ht, hlocks, hK, hN⟩
  have hS : va_S (tA 37 ad) s.heap s.heap [] := va_S.rf
  have hl := lv_entry ([.ref (ad 0), .int p0, .int p1]) (n := 4) (Nat.le_of_ble_eq_true rfl)
  rw [lg_entry_eq]
  generalize (lg_sl ([.ref (ad 0), .int p0, .int p1]) ++ List.replicate (4 - (lg_sl ([.ref (ad 0), .int p0, .int p1])).length) Slot.unset).toArray = ls at hl ⊢
  replace hl : lv_has ls 4 [(0, .ref (ad 0)), (1, .int p0), (2, .int p1)] := hl
  unfold mf_T_toll at hf
  refine lv_aload_n hx hb d_T_toll_0 rfl (lv_at hl 0 rfl) ?_
  refine lv_iload_n hx hb d_T_toll_1 rfl (lv_at hl 1 rfl) ?_
  obtain ⟨s_1, hq1, hf⟩ := tb1_of hf
  refine tr_callv (va_runV (C := R_T) (As := [.int p0]) (rest := []) ⟨hx, hb, hml, hown, ht⟩ (mc_T_needStreet l hd hq1) ⟨(tw_cb (n := 1) ht wc_T_needStreet wd_34 wd_450 ⟨rfl, rfl⟩ (by decide +kernel) ⟨(Nat.le_of_ble_eq_true rfl), (Nat.le_of_ble_eq_true rfl)⟩), ht _ wd_452, ht _ wd_6⟩ ⟨tP_blind, va_recv hK hP (ci := 0) (q0 := 0) rfl rfl, fun U hU hW => ⟨rfl, by rw [hU]; exact hP, va_K.moved hW.alike hK, tW_warm hW hN⟩⟩ rfl rfl hl.1 rfl (lv_room (Nat.le_of_ble_eq_true rfl)) d_T_toll_2 ⟨Nat.zero_le _, Nat.zero_le _⟩) hS (fun _ h => h) (fun _ h => h) (fun H locs hP hS => ?_)
  refine lv_iload_n hx hb d_T_toll_5 rfl (lv_at hl 2 rfl) ?_
  refine lv_iconst (v := (0 : Int32)) hx hb d_T_toll_6 (by decide) ?_
  refine lv_sipush (v := (1000 : Int32)) hx hb d_T_toll_7 (by decide) ?_
  obtain ⟨s_2, hq2, hf⟩ := tb1_of hf
  refine tr_callv (va_runS (As := [.int p1, .int (0 : Int32), .int (1000 : Int32)]) (rest := []) ⟨hx, hb, hml, hown, ht⟩ (mc_T_needWithin l hd hq2) ⟨(tw_cb (n := 3) ht wc_T_needWithin wd_34 wd_420 ⟨rfl, rfl⟩ (by decide +kernel) ⟨(Nat.le_of_ble_eq_true rfl), (Nat.le_of_ble_eq_true rfl)⟩), ht _ wd_421⟩ ⟨tP_blind, fun U hU hW => ⟨rfl, by rw [hU]; exact hP, va_K.moved hW.alike hK, tW_warm hW hN⟩⟩ rfl rfl hl.1 rfl (lv_room (Nat.le_of_ble_eq_true rfl)) d_T_toll_10 ⟨Nat.zero_le _, Nat.zero_le _⟩) hS (fun _ h => h) (fun _ h => h) (fun H locs hP hS => ?_)
  refine lv_aload_n hx hb d_T_toll_13 rfl (lv_at hl 0 rfl) ?_
  refine va_get (ci := 0) (v := .ref (ad 4)) (C := R_T) (T := F_T) (N := 7) hx hb ht iw_T hown hK hP 0 rfl rfl 4 (by decide) (ht _ wd_249) (fun _ h9 => h9) rfl d_T_toll_14 ?_
  refine va_get (ci := 4) (v := .ref (ad 21)) (C := R_S) (T := F_S) (N := 10) hx hb ht iw_S hown hK hP 4 rfl rfl 6 (by decide) (ht _ wd_169) (fun _ h9 => h9) rfl d_T_toll_17 ?_
  refine lv_iload_n hx hb d_T_toll_20 rfl (lv_at hl 1 rfl) ?_
  obtain ⟨hi3, hf⟩ := tg_of hf
  refine va_iald (f := s_2.2.1 12) hx hb hK hP 21 12 rfl rfl hi3 d_T_toll_21 ?_
  refine lv_istore_n (lv' := [(3, .int (s_2.2.1 12 p0.toNatClampNeg)), (0, .ref (ad 0)), (1, .int p0), (2, .int p1)]) hx hb d_T_toll_22 rfl hl (by decide) rfl (fun ls hl => ?_)
  refine lv_aload_n hx hb d_T_toll_23 rfl (lv_at hl 1 rfl) ?_
  refine va_get (ci := 0) (v := .ref (ad 4)) (C := R_T) (T := F_T) (N := 7) hx hb ht iw_T hown hK hP 0 rfl rfl 4 (by decide) (ht _ wd_249) (fun _ h9 => h9) rfl d_T_toll_24 ?_
  refine va_get (ci := 4) (v := .ref (ad 21)) (C := R_S) (T := F_S) (N := 10) hx hb ht iw_S hown hK hP 4 rfl rfl 6 (by decide) (ht _ wd_169) (fun _ h9 => h9) rfl d_T_toll_27 ?_
  refine lv_iload_n hx hb d_T_toll_30 rfl (lv_at hl 2 rfl) ?_
  refine lv_iload_n hx hb d_T_toll_31 rfl (lv_at hl 3 rfl) ?_
  obtain ⟨hi4, hf⟩ := tg_of hf
  refine va_iast (f := s_2.2.1 12) hx hb hK hP (cwC_D hd) hS 21 12 rfl rfl hi4 d_T_toll_32 (fun H locs hP _ hS => ?_)
  replace hP : va_P D clS (cwC ad ta (tI s_2 12 p0.toNatClampNeg p1)) H := hP
  refine lv_iload_n hx hb d_T_toll_33 rfl (lv_at hl 0 rfl) ?_
  obtain ⟨rfl, rfl⟩ := tp_of hf
  exact W.iret (v := (s_2.2.1 12 p0.toNatClampNeg)) hx hb hr (fun t ht hW => ⟨rfl, by rw [ht]; exact hP, hS.F ht⟩) hS.2.2 d_T_toll_34
abbrev rm_T_open : Room := { frames := 1, cells := 0, slots := 0, locals := 21 }
set_option maxHeartbeats 4000000 in
set_option maxRecDepth 100000 in
theorem mc_T_open (l : Launch) {D : va_G} {ad : Nat → Nat} {ta : Nat → ClassId} (hd : tD 37 ad) {σ σ' : tS} {p0 : Int32} {p1 : Int32} {r : Int32} (hf : mf_T_open p0 p1 σ = some (r, σ')) : Met l y_T_open (.code y_T_open b_T_open 4 (some .boolean) :: tw) rm_T_open (tP D clS (tyC ta) (cwC ad ta σ) [.ref (ad 0), .int p0, .int p1]) (tQ D clS (cwC ad ta σ') (some (.int r)) (tA 37 ad)) 0 0 (tA 37 ad) := by
  refine Met.ofW (cc := b_T_open) (maxL := 4) (ret := (some .boolean)) (by decide) rfl ?_
  intro p e s m args below meth c s₁ B hml hv
  obtain ⟨rfl, hP, hK, hN⟩ := hv
  have hx := B.exec
  have hb := B.bytes
  have hr := B.returns
  have ht : ∀ w ∈ tw, w.before [.ref (ad 0), .int p0, .int p1].toArray s = true := fun w h => atoms_spec (ws := (.code y_T_open b_T_open 4 (some .boolean) :: tw)) B.pre w (List.mem_cons_of_mem _ h)
  have hown : s.vm.findClass R_T = some m.cls := findClass_of_methodNamed B.named
  have hlocks := B.notSynchronized
  have CX : tC p s m [.ref (ad 0), .int p0, .int p1].toArray meth c b_T_open (some .boolean) 4 R_T D clS (tyC ta) := ⟨hx, hb, hr, hml, hown, ht, hlocks, hK, hN⟩
  have hS : va_S (tA 37 ad) s.heap s.heap [] := va_S.rf
  have hl := lv_entry ([.ref (ad 0), .int p0, .int p1]) (n := 4) (Nat.le_of_ble_eq_true rfl)
  rw [lg_entry_eq]
  generalize (lg_sl ([.ref (ad 0), .int p0, .int p1]) ++ List.replicate (4 - (lg_sl ([.ref (ad 0), .int p0, .int p1])).length) Slot.unset).toArray = ls at hl ⊢
  replace hl : lv_has ls 4 [(0, .ref (ad 0)), (1, .int p0), (2, .int p1)] := hl
  unfold mf_T_open at hf
  refine lv_aload_n hx hb d_T_open_0 rfl (lv_at hl 0 rfl) ?_
  refine lv_iload_n hx hb d_T_open_1 rfl (lv_at hl 1 rfl) ?_
  obtain ⟨s_1, hq1, hf⟩ := tb1_of hf
  refine tr_callv (va_runV (C := R_T) (As := [.int p0]) (rest := []) ⟨hx, hb, hml, hown, ht⟩ (mc_T_needStreet l hd hq1) ⟨(tw_cb (n := 1) ht wc_T_needStreet wd_34 wd_450 ⟨rfl, rfl⟩ (by decide +kernel) ⟨(Nat.le_of_ble_eq_true rfl), (Nat.le_of_ble_eq_true rfl)⟩), ht _ wd_452, ht _ wd_6⟩ ⟨tP_blind, va_recv hK hP (ci := 0) (q0 := 0) rfl rfl, fun U hU hW => ⟨rfl, by rw [hU]; exact hP, va_K.moved hW.alike hK, tW_warm hW hN⟩⟩ rfl rfl hl.1 rfl (lv_room (Nat.le_of_ble_eq_true rfl)) d_T_open_2 ⟨Nat.zero_le _, Nat.zero_le _⟩) hS (fun _ h => h) (fun _ h => h) (fun H locs hP hS => ?_)
  refine lv_aload_n hx hb d_T_open_5 rfl (lv_at hl 0 rfl) ?_
  refine va_get (ci := 0) (v := .ref (ad 4)) (C := R_T) (T := F_T) (N := 7) hx hb ht iw_T hown hK hP 0 rfl rfl 4 (by decide) (ht _ wd_249) (fun _ h9 => h9) rfl d_T_open_6 ?_
  refine va_get (ci := 4) (v := .ref (ad 22)) (C := R_S) (T := F_S) (N := 10) hx hb ht iw_S hown hK hP 4 rfl rfl 7 (by decide) (ht _ wd_171) (fun _ h9 => h9) rfl d_T_open_9 ?_
  refine lv_iload_n hx hb d_T_open_12 rfl (lv_at hl 1 rfl) ?_
  obtain ⟨hi2, hf⟩ := tg_of hf
  refine va_zald (f := s_1.2.1 13) hx hb hK hP 22 13 rfl rfl hi2 d_T_open_13 ?_
  refine lv_istore_n (lv' := [(3, .int (s_1.2.1 13 p0.toNatClampNeg)), (0, .ref (ad 0)), (1, .int p0), (2, .int p1)]) hx hb d_T_open_14 rfl hl (by decide) rfl (fun ls hl => ?_)
  refine lv_aload_n hx hb d_T_open_15 rfl (lv_at hl 1 rfl) ?_
  refine va_get (ci := 0) (v := .ref (ad 4)) (C := R_T) (T := F_T) (N := 7) hx hb ht iw_T hown hK hP 0 rfl rfl 4 (by decide) (ht _ wd_249) (fun _ h9 => h9) rfl d_T_open_16 ?_
  refine va_get (ci := 4) (v := .ref (ad 22)) (C := R_S) (T := F_S) (N := 10) hx hb ht iw_S hown hK hP 4 rfl rfl 7 (by decide) (ht _ wd_171) (fun _ h9 => h9) rfl d_T_open_19 ?_
  refine lv_iload_n hx hb d_T_open_22 rfl (lv_at hl 2 rfl) ?_
  refine lv_iload_n hx hb d_T_open_23 rfl (lv_at hl 3 rfl) ?_
  obtain ⟨hi3, hf⟩ := tg_of hf
  refine va_zast (f := s_1.2.1 13) hx hb hK hP (cwC_D hd) hS 22 13 rfl rfl hi3 d_T_open_24 (fun H locs hP _ hS => ?_)
  replace hP : va_P D clS (cwC ad ta (tI s_1 13 p0.toNatClampNeg (vp_nar .boolean p1))) H := hP
  refine lv_iload_n hx hb d_T_open_25 rfl (lv_at hl 0 rfl) ?_
  obtain ⟨hb01, hf⟩ := tb_of hf
  obtain ⟨rfl, rfl⟩ := tp_of hf
  exact W.zret (v := (s_1.2.1 13 p0.toNatClampNeg)) (ty := .boolean) hx hb hr (tb_nar hb01) (fun t ht hW => ⟨rfl, by rw [ht]; exact hP, hS.F ht⟩) hS.2.2 d_T_open_26
abbrev rm_T_needZone : Room := { frames := 0, cells := 0, slots := 0, locals := 0 }
set_option maxHeartbeats 4000000 in
set_option maxRecDepth 100000 in
theorem mc_T_needZone (l : Launch) {D : va_G} {ad : Nat → Nat} {ta : Nat → ClassId} (hd : tD 37 ad) {σ σ' : tS} {p0 : Int32} (hf : mf_T_needZone p0 σ = some σ') : Met l y_T_needZone (.code y_T_needZone b_T_needZone 2 none :: tw) rm_T_needZone (tP D clS (tyC ta) (cwC ad ta σ) [.ref (ad 0), .int p0]) (tQ D clS (cwC ad ta σ') none (tA 37 ad)) 0 0 (tA 37 ad) := by
  refine Met.ofW (cc := b_T_needZone) (maxL := 2) (ret := none) (by decide) rfl ?_
  intro p e s m args below meth c s₁ B hml hv
  obtain ⟨rfl, hP, hK, hN⟩ := hv
  have hx := B.exec
  have hb := B.bytes
  have hr := B.returns
  have ht : ∀ w ∈ tw, w.before [.ref (ad 0), .int p0].toArray s = true := fun w h => atoms_spec (ws := (.code y_T_needZone b_T_needZone 2 none :: tw)) B.pre w (List.mem_cons_of_mem _ h)
  have hown : s.vm.findClass R_T = some m.cls := findClass_of_methodNamed B.named
  have hlocks := B.notSynchronized
  have CX : tC p s m [.ref (ad 0), .int p0].toArray meth c b_T_needZone none 2 R_T D clS (tyC ta) := ⟨hx, hb, hr, hml, hown, ht, hlocks, hK, hN⟩
  have hS : va_S (tA 37 ad) s.heap s.heap [] := va_S.rf
  have hl := lv_entry ([.ref (ad 0), .int p0]) (n := 2) (Nat.le_of_ble_eq_true rfl)
  rw [lg_entry_eq]
  generalize (lg_sl ([.ref (ad 0), .int p0]) ++ List.replicate (2 - (lg_sl ([.ref (ad 0), .int p0])).length) Slot.unset).toArray = ls at hl ⊢
  replace hl : lv_has ls 2 [(0, .ref (ad 0)), (1, .int p0)] := hl
  unfold mf_T_needZone at hf
  refine lv_iload_n hx hb d_T_needZone_0 rfl (lv_at hl 1 rfl) ?_
  refine lv_if_lt (tgt := 15) hx hb d_T_needZone_1 (by decide) (fun hc => ?_) (fun hc => ?_)
  · replace hf := ti_pos hc hf
    exact tn_no hf
  · replace hf := ti_neg hc hf
    refine lv_iload_n hx hb d_T_needZone_4 rfl (lv_at hl 1 rfl) ?_
    refine lv_aload_n hx hb d_T_needZone_5 rfl (lv_at hl 0 rfl) ?_
    refine va_get (ci := 0) (v := .ref (ad 1)) (C := R_T) (T := F_T) (N := 7) hx hb ht iw_T hown hK hP 0 rfl rfl 1 (by decide) (ht _ wd_246) (fun _ h9 => h9) rfl d_T_needZone_6 ?_
    refine va_get (ci := 1) (v := .int (σ.1 1)) (C := R_Z) (T := F_Z) (N := 4) hx hb ht iw_Z hown hK hP 1 rfl rfl 0 (by decide) (ht _ wd_66) (fun _ h9 => h9) rfl d_T_needZone_9 ?_
    refine lv_icmp_lt (tgt := 25) hx hb d_T_needZone_12 (by decide) (fun hc => ?_) (fun hc => ?_)
    · replace hf := ti_pos hc hf
      obtain rfl := ts_of hf
      exact W.vret hx hb hr (fun t ht hW => ⟨rfl, by rw [ht]; exact hP, hS.F ht⟩) hS.2.2 d_T_needZone_25
    · replace hf := ti_neg hc hf
      exact tn_no hf
abbrev rm_T_pairOf : Room := { frames := 0, cells := 0, slots := 0, locals := 0 }
set_option maxHeartbeats 4000000 in
set_option maxRecDepth 100000 in
theorem mc_T_pairOf (l : Launch) {D : va_G} {ad : Nat → Nat} {ta : Nat → ClassId} (hd : tD 37 ad) {σ σ' : tS} {p0 : Int32} {p1 : Int32} {r : Int32} (hf : mf_T_pairOf p0 p1 σ = some (r, σ')) : Met l y_T_pairOf (.code y_T_pairOf b_T_pairOf 2 (some .int) :: tw) rm_T_pairOf (tP D clS (tyC ta) (cwC ad ta σ) [.int p0, .int p1]) (tQ D clS (cwC ad ta σ') (some (.int r)) (tA 37 ad)) 0 0 (tA 37 ad) := by
  refine Met.ofW (cc := b_T_pairOf) (maxL := 2) (ret := (some .int)) (by decide) rfl ?_
  intro p e s m args below meth c s₁ B hml hv
  obtain ⟨rfl, hP, hK, hN⟩ := hv
  have hx := B.exec
  have hb := B.bytes
  have hr := B.returns
  have ht : ∀ w ∈ tw, w.before [.int p0, .int p1].toArray s = true := fun w h => atoms_spec (ws := (.code y_T_pairOf b_T_pairOf 2 (some .int) :: tw)) B.pre w (List.mem_cons_of_mem _ h)
  have hown : s.vm.findClass R_T = some m.cls := findClass_of_methodNamed B.named
  have hlocks := B.notSynchronized
  have CX : tC p s m [.int p0, .int p1].toArray meth c b_T_pairOf (some .int) 2 R_T D clS (tyC ta) := ⟨hx, hb, hr, hml, hown, ht, hlocks, hK, hN⟩
  have hS : va_S (tA 37 ad) s.heap s.heap [] := va_S.rf
  have hl := lv_entry ([.int p0, .int p1]) (n := 2) (Nat.le_of_ble_eq_true rfl)
  rw [lg_entry_eq]
  generalize (lg_sl ([.int p0, .int p1]) ++ List.replicate (2 - (lg_sl ([.int p0, .int p1])).length) Slot.unset).toArray = ls at hl ⊢
  replace hl : lv_has ls 2 [(0, .int p0), (1, .int p1)] := hl
  unfold mf_T_pairOf at hf
  refine lv_iload_n hx hb d_T_pairOf_0 rfl (lv_at hl 0 rfl) ?_
  refine lv_bipush (v := (6 : Int32)) hx hb d_T_pairOf_1 (by decide) ?_
  refine lv_imul hx hb d_T_pairOf_3 ?_
  refine lv_iload_n hx hb d_T_pairOf_4 rfl (lv_at hl 1 rfl) ?_
  refine lv_iadd hx hb d_T_pairOf_5 ?_
  obtain ⟨rfl, rfl⟩ := tp_of hf
  exact W.iret (v := ((p0 * (6 : Int32)) + p1)) hx hb hr (fun t ht hW => ⟨rfl, by rw [ht]; exact hP, hS.F ht⟩) hS.2.2 d_T_pairOf_6
abbrev rm_T_weight : Room := { frames := 1, cells := 0, slots := 0, locals := 22 }
set_option maxHeartbeats 4000000 in
set_option maxRecDepth 100000 in
theorem mc_T_weight (l : Launch) {D : va_G} {ad : Nat → Nat} {ta : Nat → ClassId} (hd : tD 37 ad) {σ σ' : tS} {p0 : Int32} {p1 : Int32} {p2 : Int32} {r : Int32} (hf : mf_T_weight p0 p1 p2 σ = some (r, σ')) : Met l y_T_weight (.code y_T_weight b_T_weight 6 (some .int) :: tw) rm_T_weight (tP D clS (tyC ta) (cwC ad ta σ) [.ref (ad 0), .int p0, .int p1, .int p2]) (tQ D clS (cwC ad ta σ') (some (.int r)) (tA 37 ad)) 0 0 (tA 37 ad) := by
  refine Met.ofW (cc := b_T_weight) (maxL := 6) (ret := (some .int)) (by decide) rfl ?_
  intro p e s m args below meth c s₁ B hml hv
  obtain ⟨rfl, hP, hK, hN⟩ := hv
  have hx := B.exec
  have hb := B.bytes
  have hr := B.returns
  have ht : ∀ w ∈ tw, w.before [.ref (ad 0), .int p0, .int p1, .int p2].toArray s = true := fun w h => atoms_spec (ws := (.code y_T_weight b_T_weight 6 (some .int) :: tw)) B.pre w (List.mem_cons_of_mem _ h)
  have hown : s.vm.findClass R_T = some m.cls := findClass_of_methodNamed B.named
  have hlocks := B.notSynchronized
  have CX : tC p s m [.ref (ad 0), .int p0, .int p1, .int p2].toArray meth c b_T_weight (some .int) 6 R_T D clS (tyC ta) := ⟨hx, hb, hr, hml, hown, ht, hlocks, hK, hN⟩
  have hS : va_S (tA 37 ad) s.heap s.heap [] := va_S.rf
  have hl := lv_entry ([.ref (ad 0), .int p0, .int p1, .int p2]) (n := 6) (Nat.le_of_ble_eq_true rfl)
  rw [lg_entry_eq]
  generalize (lg_sl ([.ref (ad 0), .int p0, .int p1, .int p2]) ++ List.replicate (6 - (lg_sl ([.ref (ad 0), .int p0, .int p1, .int p2])).length) Slot.unset).toArray = ls at hl ⊢
  replace hl : lv_has ls 6 [(0, .ref (ad 0)), (1, .int p0), (2, .int p1), (3, .int p2)] := hl
  unfold mf_T_weight at hf
  refine lv_aload_n hx hb d_T_weight_0 rfl (lv_at hl 0 rfl) ?_
  refine lv_iload_n hx hb d_T_weight_1 rfl (lv_at hl 1 rfl) ?_
  obtain ⟨s_1, hq1, hf⟩ := tb1_of hf
  refine tr_callv (va_runV (C := R_T) (As := [.int p0]) (rest := []) ⟨hx, hb, hml, hown, ht⟩ (mc_T_needZone l hd hq1) ⟨(tw_cb (n := 1) ht wc_T_needZone wd_34 wd_469 ⟨rfl, rfl⟩ (by decide +kernel) ⟨(Nat.le_of_ble_eq_true rfl), (Nat.le_of_ble_eq_true rfl)⟩), ht _ wd_471, ht _ wd_7⟩ ⟨tP_blind, va_recv hK hP (ci := 0) (q0 := 0) rfl rfl, fun U hU hW => ⟨rfl, by rw [hU]; exact hP, va_K.moved hW.alike hK, tW_warm hW hN⟩⟩ rfl rfl hl.1 rfl (lv_room (Nat.le_of_ble_eq_true rfl)) d_T_weight_2 ⟨Nat.zero_le _, Nat.zero_le _⟩) hS (fun _ h => h) (fun _ h => h) (fun H locs hP hS => ?_)
  refine lv_aload_n hx hb d_T_weight_5 rfl (lv_at hl 0 rfl) ?_
  refine lv_iload_n hx hb d_T_weight_6 rfl (lv_at hl 2 rfl) ?_
  obtain ⟨s_2, hq2, hf⟩ := tb1_of hf
  refine tr_callv (va_runV (C := R_T) (As := [.int p1]) (rest := []) ⟨hx, hb, hml, hown, ht⟩ (mc_T_needZone l hd hq2) ⟨(tw_cb (n := 1) ht wc_T_needZone wd_34 wd_469 ⟨rfl, rfl⟩ (by decide +kernel) ⟨(Nat.le_of_ble_eq_true rfl), (Nat.le_of_ble_eq_true rfl)⟩), ht _ wd_471, ht _ wd_7⟩ ⟨tP_blind, va_recv hK hP (ci := 0) (q0 := 0) rfl rfl, fun U hU hW => ⟨rfl, by rw [hU]; exact hP, va_K.moved hW.alike hK, tW_warm hW hN⟩⟩ rfl rfl hl.1 rfl (lv_room (Nat.le_of_ble_eq_true rfl)) d_T_weight_7 ⟨Nat.zero_le _, Nat.zero_le _⟩) hS (fun _ h => h) (fun _ h => h) (fun H locs hP hS => ?_)
  refine lv_iload_n hx hb d_T_weight_10 rfl (lv_at hl 3 rfl) ?_
  refine lv_iconst (v := (0 : Int32)) hx hb d_T_weight_11 (by decide) ?_
  refine lv_sipush (v := (1000 : Int32)) hx hb d_T_weight_12 (by decide) ?_
  obtain ⟨s_3, hq3, hf⟩ := tb1_of hf
  refine tr_callv (va_runS (As := [.int p2, .int (0 : Int32), .int (1000 : Int32)]) (rest := []) ⟨hx, hb, hml, hown, ht⟩ (mc_T_needWithin l hd hq3) ⟨(tw_cb (n := 3) ht wc_T_needWithin wd_34 wd_420 ⟨rfl, rfl⟩ (by decide +kernel) ⟨(Nat.le_of_ble_eq_true rfl), (Nat.le_of_ble_eq_true rfl)⟩), ht _ wd_421⟩ ⟨tP_blind, fun U hU hW => ⟨rfl, by rw [hU]; exact hP, va_K.moved hW.alike hK, tW_warm hW hN⟩⟩ rfl rfl hl.1 rfl (lv_room (Nat.le_of_ble_eq_true rfl)) d_T_weight_15 ⟨Nat.zero_le _, Nat.zero_le _⟩) hS (fun _ h => h) (fun _ h => h) (fun H locs hP hS => ?_)
  refine lv_iload_n hx hb d_T_weight_18 rfl (lv_at hl 1 rfl) ?_
  refine lv_iload_n hx hb d_T_weight_19 rfl (lv_at hl 2 rfl) ?_
  obtain ⟨r_4, s_4, hq4, hf⟩ := tb2_of hf
  refine tr_calli (va_runS (As := [.int p0, .int p1]) (rest := []) ⟨hx, hb, hml, hown, ht⟩ (mc_T_pairOf l hd hq4) ⟨(tw_cb (n := 2) ht wc_T_pairOf wd_34 wd_313 ⟨rfl, rfl⟩ (by decide +kernel) ⟨(Nat.le_of_ble_eq_true rfl), (Nat.le_of_ble_eq_true rfl)⟩), ht _ wd_314⟩ ⟨tP_blind, fun U hU hW => ⟨rfl, by rw [hU]; exact hP, va_K.moved hW.alike hK, tW_warm hW hN⟩⟩ rfl rfl hl.1 rfl (lv_room (Nat.le_of_ble_eq_true rfl)) d_T_weight_20 ⟨Nat.zero_le _, Nat.zero_le _⟩) hS (fun _ h => h) (fun _ h => h) (fun H locs hP hS => ?_)
  refine lv_istore (lv' := [(4, .int r_4), (0, .ref (ad 0)), (1, .int p0), (2, .int p1), (3, .int p2)]) hx hb d_T_weight_23 hl (by decide) rfl (fun ls hl => ?_)
  refine lv_aload_n hx hb d_T_weight_25 rfl (lv_at hl 1 rfl) ?_
  refine va_get (ci := 0) (v := .ref (ad 2)) (C := R_T) (T := F_T) (N := 7) hx hb ht iw_T hown hK hP 0 rfl rfl 2 (by decide) (ht _ wd_247) (fun _ h9 => h9) rfl d_T_weight_26 ?_
  refine va_get (ci := 2) (v := .ref (ad 12)) (C := R_B) (T := F_B) (N := 4) hx hb ht iw_B hown hK hP 2 rfl rfl 0 (by decide) (ht _ wd_116) (fun _ h9 => h9) rfl d_T_weight_29 ?_
  refine lv_iload hx hb d_T_weight_32 (lv_at hl 0 rfl) ?_
  obtain ⟨hi5, hf⟩ := tg_of hf
  refine va_iald (f := s_4.2.1 3) hx hb hK hP 12 3 rfl rfl hi5 d_T_weight_34 ?_
  refine lv_istore (lv' := [(5, .int (s_4.2.1 3 r_4.toNatClampNeg)), (4, .int r_4), (0, .ref (ad 0)), (1, .int p0), (2, .int p1), (3, .int p2)]) hx hb d_T_weight_35 hl (by decide) rfl (fun ls hl => ?_)
  refine lv_aload_n hx hb d_T_weight_37 rfl (lv_at hl 2 rfl) ?_
  refine va_get (ci := 0) (v := .ref (ad 2)) (C := R_T) (T := F_T) (N := 7) hx hb ht iw_T hown hK hP 0 rfl rfl 2 (by decide) (ht _ wd_247) (fun _ h9 => h9) rfl d_T_weight_38 ?_
  refine va_get (ci := 2) (v := .ref (ad 12)) (C := R_B) (T := F_B) (N := 4) hx hb ht iw_B hown hK hP 2 rfl rfl 0 (by decide) (ht _ wd_116) (fun _ h9 => h9) rfl d_T_weight_41 ?_
  refine lv_iload hx hb d_T_weight_44 (lv_at hl 1 rfl) ?_
  refine lv_iload_n hx hb d_T_weight_46 rfl (lv_at hl 5 rfl) ?_
  obtain ⟨hi6, hf⟩ := tg_of hf
  refine va_iast (f := s_4.2.1 3) hx hb hK hP (cwC_D hd) hS 12 3 rfl rfl hi6 d_T_weight_47 (fun H locs hP _ hS => ?_)
  replace hP : va_P D clS (cwC ad ta (tI s_4 3 r_4.toNatClampNeg p2)) H := hP
  refine lv_iload hx hb d_T_weight_48 (lv_at hl 0 rfl) ?_
  obtain ⟨rfl, rfl⟩ := tp_of hf
  exact W.iret (v := (s_4.2.1 3 r_4.toNatClampNeg)) hx hb hr (fun t ht hW => ⟨rfl, by rw [ht]; exact hP, hS.F ht⟩) hS.2.2 d_T_weight_50
abbrev rm_T_size : Room := { frames := 1, cells := 0, slots := 0, locals := 22 }
set_option maxHeartbeats 4000000 in
set_option maxRecDepth 100000 in
theorem mc_T_size (l : Launch) {D : va_G} {ad : Nat → Nat} {ta : Nat → ClassId} (hd : tD 37 ad) {σ σ' : tS} {p0 : Int32} {p1 : Int32} {p2 : Int32} {r : Int32} (hf : mf_T_size p0 p1 p2 σ = some (r, σ')) : Met l y_T_size (.code y_T_size b_T_size 6 (some .int) :: tw) rm_T_size (tP D clS (tyC ta) (cwC ad ta σ) [.ref (ad 0), .int p0, .int p1, .int p2]) (tQ D clS (cwC ad ta σ') (some (.int r)) (tA 37 ad)) 0 0 (tA 37 ad) := by
  refine Met.ofW (cc := b_T_size) (maxL := 6) (ret := (some .int)) (by decide) rfl ?_
  intro p e s m args below meth c s₁ B hml hv
  obtain ⟨rfl, hP, hK, hN⟩ := hv
  have hx := B.exec
  have hb := B.bytes
  have hr := B.returns
  have ht : ∀ w ∈ tw, w.before [.ref (ad 0), .int p0, .int p1, .int p2].toArray s = true := fun w h => atoms_spec (ws := (.code y_T_size b_T_size 6 (some .int) :: tw)) B.pre w (List.mem_cons_of_mem _ h)
  have hown : s.vm.findClass R_T = some m.cls := findClass_of_methodNamed B.named
  have hlocks := B.notSynchronized
  have CX : tC p s m [.ref (ad 0), .int p0, .int p1, .int p2].toArray meth c b_T_size (some .int) 6 R_T D clS (tyC ta) := ⟨hx, hb, hr, hml, hown, ht, hlocks, hK, hN⟩
  have hS : va_S (tA 37 ad) s.heap s.heap [] := va_S.rf
  have hl := lv_entry ([.ref (ad 0), .int p0, .int p1, .int p2]) (n := 6) (Nat.le_of_ble_eq_true rfl)
  rw [lg_entry_eq]
  generalize (lg_sl ([.ref (ad 0), .int p0, .int p1, .int p2]) ++ List.replicate (6 - (lg_sl ([.ref (ad 0), .int p0, .int p1, .int p2])).length) Slot.unset).toArray = ls at hl ⊢
  replace hl : lv_has ls 6 [(0, .ref (ad 0)), (1, .int p0), (2, .int p1), (3, .int p2)] := hl
  unfold mf_T_size at hf
  refine lv_aload_n hx hb d_T_size_0 rfl (lv_at hl 0 rfl) ?_
  refine lv_iload_n hx hb d_T_size_1 rfl (lv_at hl 1 rfl) ?_
  obtain ⟨s_1, hq1, hf⟩ := tb1_of hf
  refine tr_callv (va_runV (C := R_T) (As := [.int p0]) (rest := []) ⟨hx, hb, hml, hown, ht⟩ (mc_T_needZone l hd hq1) ⟨(tw_cb (n := 1) ht wc_T_needZone wd_34 wd_469 ⟨rfl, rfl⟩ (by decide +kernel) ⟨(Nat.le_of_ble_eq_true rfl), (Nat.le_of_ble_eq_true rfl)⟩), ht _ wd_471, ht _ wd_7⟩ ⟨tP_blind, va_recv hK hP (ci := 0) (q0 := 0) rfl rfl, fun U hU hW => ⟨rfl, by rw [hU]; exact hP, va_K.moved hW.alike hK, tW_warm hW hN⟩⟩ rfl rfl hl.1 rfl (lv_room (Nat.le_of_ble_eq_true rfl)) d_T_size_2 ⟨Nat.zero_le _, Nat.zero_le _⟩) hS (fun _ h => h) (fun _ h => h) (fun H locs hP hS => ?_)
  refine lv_iload_n hx hb d_T_size_5 rfl (lv_at hl 2 rfl) ?_
  refine lv_iconst (v := (0 : Int32)) hx hb d_T_size_6 (by decide) ?_
  refine lv_iconst (v := (1 : Int32)) hx hb d_T_size_7 (by decide) ?_
  obtain ⟨s_2, hq2, hf⟩ := tb1_of hf
  refine tr_callv (va_runS (As := [.int p1, .int (0 : Int32), .int (1 : Int32)]) (rest := []) ⟨hx, hb, hml, hown, ht⟩ (mc_T_needWithin l hd hq2) ⟨(tw_cb (n := 3) ht wc_T_needWithin wd_34 wd_420 ⟨rfl, rfl⟩ (by decide +kernel) ⟨(Nat.le_of_ble_eq_true rfl), (Nat.le_of_ble_eq_true rfl)⟩), ht _ wd_421⟩ ⟨tP_blind, fun U hU hW => ⟨rfl, by rw [hU]; exact hP, va_K.moved hW.alike hK, tW_warm hW hN⟩⟩ rfl rfl hl.1 rfl (lv_room (Nat.le_of_ble_eq_true rfl)) d_T_size_8 ⟨Nat.zero_le _, Nat.zero_le _⟩) hS (fun _ h => h) (fun _ h => h) (fun H locs hP hS => ?_)
  refine lv_iload_n hx hb d_T_size_11 rfl (lv_at hl 3 rfl) ?_
  refine lv_iconst (v := (0 : Int32)) hx hb d_T_size_12 (by decide) ?_
  refine lv_ldc (v := (100000 : Int32)) hx hb hown (ht _ wd_419) d_T_size_13 ?_
  obtain ⟨s_3, hq3, hf⟩ := tb1_of hf
  refine tr_callv (va_runS (As := [.int p2, .int (0 : Int32), .int (100000 : Int32)]) (rest := []) ⟨hx, hb, hml, hown, ht⟩ (mc_T_needWithin l hd hq3) ⟨(tw_cb (n := 3) ht wc_T_needWithin wd_34 wd_420 ⟨rfl, rfl⟩ (by decide +kernel) ⟨(Nat.le_of_ble_eq_true rfl), (Nat.le_of_ble_eq_true rfl)⟩), ht _ wd_421⟩ ⟨tP_blind, fun U hU hW => ⟨rfl, by rw [hU]; exact hP, va_K.moved hW.alike hK, tW_warm hW hN⟩⟩ rfl rfl hl.1 rfl (lv_room (Nat.le_of_ble_eq_true rfl)) d_T_size_15 ⟨Nat.zero_le _, Nat.zero_le _⟩) hS (fun _ h => h) (fun _ h => h) (fun H locs hP hS => ?_)
  refine lv_iload_n hx hb d_T_size_18 rfl (lv_at hl 2 rfl) ?_
  refine lv_if_ne (tgt := 32) hx hb d_T_size_19 (by decide) (fun hc => ?_) (fun hc => ?_)
  · replace hf := ti_neg hc hf
    refine lv_aload_n hx hb d_T_size_32 rfl (lv_at hl 0 rfl) ?_
    refine va_get (ci := 0) (v := .ref (ad 1)) (C := R_T) (T := F_T) (N := 7) hx hb ht iw_T hown hK hP 0 rfl rfl 1 (by decide) (ht _ wd_246) (fun _ h9 => h9) rfl d_T_size_33 ?_
    refine va_get (ci := 1) (v := .ref (ad 11)) (C := R_Z) (T := F_Z) (N := 4) hx hb ht iw_Z hown hK hP 1 rfl rfl 3 (by decide) (ht _ wd_74) (fun _ h9 => h9) rfl d_T_size_36 ?_
    refine lv_astore (lv' := [(4, .ref (ad 11)), (0, .ref (ad 0)), (1, .int p0), (2, .int p1), (3, .int p2)]) hx hb d_T_size_39 hl (by decide) rfl (fun ls hl => ?_)
    refine lv_aload hx hb d_T_size_41 (lv_at hl 0 rfl) ?_
    refine lv_iload_n hx hb d_T_size_43 rfl (lv_at hl 2 rfl) ?_
    obtain ⟨hi4, hf⟩ := tg_of hf
    refine va_iald (f := s_3.2.1 2) hx hb hK hP 11 2 rfl rfl hi4 d_T_size_44 ?_
    refine lv_istore (lv' := [(5, .int (s_3.2.1 2 p0.toNatClampNeg)), (4, .ref (ad 11)), (0, .ref (ad 0)), (1, .int p0), (2, .int p1), (3, .int p2)]) hx hb d_T_size_45 hl (by decide) rfl (fun ls hl => ?_)
    refine lv_aload hx hb d_T_size_47 (lv_at hl 1 rfl) ?_
    refine lv_iload_n hx hb d_T_size_49 rfl (lv_at hl 3 rfl) ?_
    refine lv_iload_n hx hb d_T_size_50 rfl (lv_at hl 5 rfl) ?_
    obtain ⟨hi5, hf⟩ := tg_of hf
    refine va_iast (f := s_3.2.1 2) hx hb hK hP (cwC_D hd) hS 11 2 rfl rfl hi5 d_T_size_51 (fun H locs hP _ hS => ?_)
    replace hP : va_P D clS (cwC ad ta (tI s_3 2 p0.toNatClampNeg p2)) H := hP
    refine lv_iload hx hb d_T_size_52 (lv_at hl 0 rfl) ?_
    obtain ⟨rfl, rfl⟩ := tp_of hf
    exact W.iret (v := (s_3.2.1 2 p0.toNatClampNeg)) hx hb hr (fun t ht hW => ⟨rfl, by rw [ht]; exact hP, hS.F ht⟩) hS.2.2 d_T_size_54
  · replace hf := ti_pos hc hf
    refine lv_aload_n hx hb d_T_size_22 rfl (lv_at hl 0 rfl) ?_
    refine va_get (ci := 0) (v := .ref (ad 1)) (C := R_T) (T := F_T) (N := 7) hx hb ht iw_T hown hK hP 0 rfl rfl 1 (by decide) (ht _ wd_246) (fun _ h9 => h9) rfl d_T_size_23 ?_
    refine va_get (ci := 1) (v := .ref (ad 10)) (C := R_Z) (T := F_Z) (N := 4) hx hb ht iw_Z hown hK hP 1 rfl rfl 2 (by decide) (ht _ wd_71) (fun _ h9 => h9) rfl d_T_size_26 ?_
    refine lv_goto (tgt := 39) hx hb d_T_size_29 (by decide) ?_
    refine lv_astore (lv' := [(4, .ref (ad 10)), (0, .ref (ad 0)), (1, .int p0), (2, .int p1), (3, .int p2)]) hx hb d_T_size_39 hl (by decide) rfl (fun ls hl => ?_)
    refine lv_aload hx hb d_T_size_41 (lv_at hl 0 rfl) ?_
    refine lv_iload_n hx hb d_T_size_43 rfl (lv_at hl 2 rfl) ?_
    obtain ⟨hi6, hf⟩ := tg_of hf
    refine va_iald (f := s_3.2.1 1) hx hb hK hP 10 1 rfl rfl hi6 d_T_size_44 ?_
    refine lv_istore (lv' := [(5, .int (s_3.2.1 1 p0.toNatClampNeg)), (4, .ref (ad 10)), (0, .ref (ad 0)), (1, .int p0), (2, .int p1), (3, .int p2)]) hx hb d_T_size_45 hl (by decide) rfl (fun ls hl => ?_)
    refine lv_aload hx hb d_T_size_47 (lv_at hl 1 rfl) ?_
    refine lv_iload_n hx hb d_T_size_49 rfl (lv_at hl 3 rfl) ?_
    refine lv_iload_n hx hb d_T_size_50 rfl (lv_at hl 5 rfl) ?_
    obtain ⟨hi7, hf⟩ := tg_of hf
    refine va_iast (f := s_3.2.1 1) hx hb hK hP (cwC_D hd) hS 10 1 rfl rfl hi7 d_T_size_51 (fun H locs hP _ hS => ?_)
    replace hP : va_P D clS (cwC ad ta (tI s_3 1 p0.toNatClampNeg p2)) H := hP
    refine lv_iload hx hb d_T_size_52 (lv_at hl 0 rfl) ?_
    obtain ⟨rfl, rfl⟩ := tp_of hf
    exact W.iret (v := (s_3.2.1 1 p0.toNatClampNeg)) hx hb hr (fun t ht hW => ⟨rfl, by rw [ht]; exact hP, hS.F ht⟩) hS.2.2 d_T_size_54
abbrev rm_H7_giveOne : Room := { frames := 0, cells := 0, slots := 0, locals := 0 }
set_option maxHeartbeats 4000000 in
set_option maxRecDepth 100000 in
theorem mw_H7_giveOne_4 {p : Program} {l : Launch} {e : Env} {s : State} {m : MethodId} {args : Array Value} {below : List Frame} {meth : Method} {c : Code} {D : va_G} {ad : Nat → Nat} {ta : Nat → ClassId} (CX : tC p s m args meth c b_H_giveOne none 4 R_H D clS (tyC ta)) (hd : tD 37 ad) : ∀ (k : Nat) (v1 : Int32) (v2 : Int32) (v3 : Int32) (σ : tS) (res : tS), ml_H7_giveOne_4 k v1 v2 v3 σ = some res → ∀ (H : Heap) (locs : List Loc), va_P D clS (cwC ad ta σ) H → va_S (tA 37 ad) s.heap H locs → ∀ (ls : Array Slot), lv_has ls 4 [(0, .ref (ad 7)), (1, .int v1), (2, .int v2), (3, .int v3)] → W p l e rm_H7_giveOne s m args below meth c H locs 0 0 (MQ below (tQ D clS (cwC ad ta res) none (tA 37 ad)) args s 0 0 (tA 37 ad)) (F0 m 4 ls []) := by
  obtain ⟨hx, hb, hr, hml, hown, ht, hlocks, hK, hN⟩ := id CX
  intro k
  induction k with
  | zero =>
    intro v1 v2 v3 σ res hf
    exact tn_no hf
  | succ k ih =>
    intro v1 v2 v3 σ res hf H locs hP hS ls hl
    replace hf : ms_H7_giveOne_4 (ml_H7_giveOne_4 k) v1 v2 v3 σ = some res := hf
    unfold ms_H7_giveOne_4 at hf
    refine lv_iload_n hx hb d_H_giveOne_4 rfl (lv_at hl 3 rfl) ?_
    refine lv_iload_n hx hb d_H_giveOne_5 rfl (lv_at hl 1 rfl) ?_
    refine lv_icmp_ge (tgt := 33) hx hb d_H_giveOne_6 (by decide) (fun hc => ?_) (fun hc => ?_)
    · replace hf := ti_pos hc hf
      refine lv_aload_n hx hb d_H_giveOne_33 rfl (lv_at hl 0 rfl) ?_
      refine va_get (ci := 7) (v := .ref (ad 33)) (C := R_H) (T := F_H) (N := 3) hx hb ht iw_H hown hK hP 7 rfl rfl 2 (by decide) (ht _ wd_101) (fun _ h9 => h9) rfl d_H_giveOne_34 ?_
      refine lv_iload_n hx hb d_H_giveOne_37 rfl (lv_at hl 2 rfl) ?_
      refine lv_dup2_11 hx hb d_H_giveOne_38 rfl rfl ?_
      obtain ⟨hi1, hf⟩ := tg_of hf
      refine va_iald (f := σ.2.1 21) hx hb hK hP 33 24 rfl rfl hi1 d_H_giveOne_39 ?_
      refine lv_iconst (v := (1 : Int32)) hx hb d_H_giveOne_40 (by decide) ?_
      refine lv_iadd hx hb d_H_giveOne_41 ?_
      obtain ⟨hi2, hf⟩ := tg_of hf
      refine va_iast (f := σ.2.1 21) hx hb hK hP (cwC_D hd) hS 33 24 rfl rfl hi2 d_H_giveOne_42 (fun H locs hP _ hS => ?_)
      replace hP : va_P D clS (cwC ad ta (tI σ 21 v2.toNatClampNeg ((σ.2.1 21 v2.toNatClampNeg) + (1 : Int32)))) H := hP
      refine lv_aload_n hx hb d_H_giveOne_43 rfl (lv_at hl 0 rfl) ?_
      refine va_get (ci := 7) (v := .ref (ad 32)) (C := R_H) (T := F_H) (N := 3) hx hb ht iw_H hown hK hP 7 rfl rfl 1 (by decide) (ht _ wd_100) (fun _ h9 => h9) rfl d_H_giveOne_44 ?_
      refine lv_iload_n hx hb d_H_giveOne_47 rfl (lv_at hl 2 rfl) ?_
      refine lv_ldc2 (v := ((-1) : Int64)) hx hb hown (ht _ wd_506) d_H_giveOne_48 ?_
      obtain ⟨hi3, hf⟩ := tg_of hf
      refine va_last (f := σ.2.2 2) hx hb hK hP (cwC_D hd) hS 32 23 rfl rfl hi3 d_H_giveOne_51 (fun H locs hP _ hS => ?_)
      replace hP : va_P D clS (cwC ad ta (tJ (tI σ 21 v2.toNatClampNeg ((σ.2.1 21 v2.toNatClampNeg) + (1 : Int32))) 2 v2.toNatClampNeg ((-1) : Int64))) H := hP
      obtain rfl := ts_of hf
      exact W.vret hx hb hr (fun t ht hW => ⟨rfl, by rw [ht]; exact hP, hS.F ht⟩) hS.2.2 d_H_giveOne_52
    · replace hf := ti_neg hc hf
      refine lv_aload_n hx hb d_H_giveOne_9 rfl (lv_at hl 0 rfl) ?_
      refine va_get (ci := 7) (v := .ref (ad 32)) (C := R_H) (T := F_H) (N := 3) hx hb ht iw_H hown hK hP 7 rfl rfl 1 (by decide) (ht _ wd_100) (fun _ h9 => h9) rfl d_H_giveOne_10 ?_
      refine lv_iload_n hx hb d_H_giveOne_13 rfl (lv_at hl 3 rfl) ?_
      obtain ⟨hi4, hf⟩ := tg_of hf
      refine va_lald (f := σ.2.2 2) hx hb hK hP 32 23 rfl rfl hi4 d_H_giveOne_14 ?_
      refine lv_aload_n hx hb d_H_giveOne_15 rfl (lv_at hl 0 rfl) ?_
      refine va_get (ci := 7) (v := .ref (ad 32)) (C := R_H) (T := F_H) (N := 3) hx hb ht iw_H hown hK hP 7 rfl rfl 1 (by decide) (ht _ wd_100) (fun _ h9 => h9) rfl d_H_giveOne_16 ?_
      refine lv_iload_n hx hb d_H_giveOne_19 rfl (lv_at hl 2 rfl) ?_
      obtain ⟨hi5, hf⟩ := tg_of hf
      refine va_lald (f := σ.2.2 2) hx hb hK hP 32 23 rfl rfl hi5 d_H_giveOne_20 ?_
      refine W.lcmp hx hb d_H_giveOne_21 ?_
      refine lv_if_le (tgt := 27) hx hb d_H_giveOne_22 (by decide) (fun hc => ?_) (fun hc => ?_)
      · replace hf := ti_pos hc hf
        refine lv_iinc (v := (v3 + (1 : Int32))) (lv' := [(3, .int (v3 + (1 : Int32))), (0, .ref (ad 7)), (1, .int v1), (2, .int v2)]) hx hb d_H_giveOne_27 hl (k := 3) rfl rfl (by decide) rfl (fun ls hl => ?_)
        refine lv_goto (tgt := 4) hx hb d_H_giveOne_30 (by decide) ?_
        exact ih _ _ _ _ _ hf _ _ hP hS _ (lv_sub hl [1, 2, 3, 0] rfl)
      · replace hf := ti_neg hc hf
        refine lv_iload_n hx hb d_H_giveOne_25 rfl (lv_at hl 3 rfl) ?_
        refine lv_istore_n (lv' := [(2, .int v3), (0, .ref (ad 7)), (1, .int v1), (3, .int v3)]) hx hb d_H_giveOne_26 rfl hl (by decide) rfl (fun ls hl => ?_)
        refine lv_iinc (v := (v3 + (1 : Int32))) (lv' := [(3, .int (v3 + (1 : Int32))), (2, .int v3), (0, .ref (ad 7)), (1, .int v1)]) hx hb d_H_giveOne_27 hl (k := 3) rfl rfl (by decide) rfl (fun ls hl => ?_)
        refine lv_goto (tgt := 4) hx hb d_H_giveOne_30 (by decide) ?_
        exact ih _ _ _ _ _ hf _ _ hP hS _ (lv_sub hl [2, 3, 1, 0] rfl)
set_option maxHeartbeats 4000000 in
set_option maxRecDepth 100000 in
theorem mc_H7_giveOne (l : Launch) {D : va_G} {ad : Nat → Nat} {ta : Nat → ClassId} (hd : tD 37 ad) {σ σ' : tS} {p0 : Int32} (hf : mf_H7_giveOne p0 σ = some σ') : Met l y_H_giveOne (.code y_H_giveOne b_H_giveOne 4 none :: tw) rm_H7_giveOne (tP D clS (tyC ta) (cwC ad ta σ) [.ref (ad 7), .int p0]) (tQ D clS (cwC ad ta σ') none (tA 37 ad)) 0 0 (tA 37 ad) := by
  refine Met.ofW (cc := b_H_giveOne) (maxL := 4) (ret := none) (by decide) rfl ?_
  intro p e s m args below meth c s₁ B hml hv
  obtain ⟨rfl, hP, hK, hN⟩ := hv
  have hx := B.exec
  have hb := B.bytes
  have hr := B.returns
  have ht : ∀ w ∈ tw, w.before [.ref (ad 7), .int p0].toArray s = true := fun w h => atoms_spec (ws := (.code y_H_giveOne b_H_giveOne 4 none :: tw)) B.pre w (List.mem_cons_of_mem _ h)
  have hown : s.vm.findClass R_H = some m.cls := findClass_of_methodNamed B.named
  have hlocks := B.notSynchronized
  have CX : tC p s m [.ref (ad 7), .int p0].toArray meth c b_H_giveOne none 4 R_H D clS (tyC ta) := ⟨hx, hb, hr, hml, hown, ht, hlocks, hK, hN⟩
  have hS : va_S (tA 37 ad) s.heap s.heap [] := va_S.rf
  have hl := lv_entry ([.ref (ad 7), .int p0]) (n := 4) (Nat.le_of_ble_eq_true rfl)
  rw [lg_entry_eq]
  generalize (lg_sl ([.ref (ad 7), .int p0]) ++ List.replicate (4 - (lg_sl ([.ref (ad 7), .int p0])).length) Slot.unset).toArray = ls at hl ⊢
  replace hl : lv_has ls 4 [(0, .ref (ad 7)), (1, .int p0)] := hl
  unfold mf_H7_giveOne at hf
  refine lv_iconst (v := (0 : Int32)) hx hb d_H_giveOne_0 (by decide) ?_
  refine lv_istore_n (lv' := [(2, .int (0 : Int32)), (0, .ref (ad 7)), (1, .int p0)]) hx hb d_H_giveOne_1 rfl hl (by decide) rfl (fun ls hl => ?_)
  refine lv_iconst (v := (1 : Int32)) hx hb d_H_giveOne_2 (by decide) ?_
  refine lv_istore_n (lv' := [(3, .int (1 : Int32)), (2, .int (0 : Int32)), (0, .ref (ad 7)), (1, .int p0)]) hx hb d_H_giveOne_3 rfl hl (by decide) rfl (fun ls hl => ?_)
  exact mw_H7_giveOne_4 CX hd _ _ _ _ _ _ hf _ _ hP hS _ (lv_sub hl [2, 3, 1, 0] rfl)
abbrev rm_H7_shareOut : Room := { frames := 1, cells := 0, slots := 0, locals := 24 }
set_option maxHeartbeats 4000000 in
set_option maxRecDepth 100000 in
theorem mw_H7_shareOut_110 {p : Program} {l : Launch} {e : Env} {s : State} {m : MethodId} {args : Array Value} {below : List Frame} {meth : Method} {c : Code} {D : va_G} {ad : Nat → Nat} {ta : Nat → ClassId} (CX : tC p s m args meth c b_H_shareOut none 9 R_H D clS (tyC ta)) (hd : tD 37 ad) : ∀ (k : Nat) (v1 : Int32) (v2 : Int32) (v3 : Int64) (v5 : Int32) (v6 : Int32) (σ : tS) (res : tS), ml_H7_shareOut_110 k v1 v2 v3 v5 v6 σ = some res → ∀ (H : Heap) (locs : List Loc), va_P D clS (cwC ad ta σ) H → va_S (tA 37 ad) s.heap H locs → ∀ (ls : Array Slot), lv_has ls 9 [(0, .ref (ad 7)), (1, .int v1), (2, .int v2), (3, .long v3), (5, .int v5), (6, .int v6)] → W p l e rm_H7_shareOut s m args below meth c H locs 0 0 (MQ below (tQ D clS (cwC ad ta res) none (tA 37 ad)) args s 0 0 (tA 37 ad)) (F0 m 110 ls []) := by
  obtain ⟨hx, hb, hr, hml, hown, ht, hlocks, hK, hN⟩ := id CX
  intro k
  induction k with
  | zero =>
    intro v1 v2 v3 v5 v6 σ res hf
    exact tn_no hf
  | succ k ih =>
    intro v1 v2 v3 v5 v6 σ res hf H locs hP hS ls hl
    replace hf : ms_H7_shareOut_110 (ml_H7_shareOut_110 k) v1 v2 v3 v5 v6 σ = some res := hf
    unfold ms_H7_shareOut_110 at hf
    refine lv_iload hx hb d_H_shareOut_110 (lv_at hl 5 rfl) ?_
    refine lv_iload hx hb d_H_shareOut_112 (lv_at hl 4 rfl) ?_
    refine lv_icmp_ge (tgt := 128) hx hb d_H_shareOut_114 (by decide) (fun hc => ?_) (fun hc => ?_)
    · replace hf := ti_pos hc hf
      obtain rfl := ts_of hf
      exact W.vret hx hb hr (fun t ht hW => ⟨rfl, by rw [ht]; exact hP, hS.F ht⟩) hS.2.2 d_H_shareOut_128
    · replace hf := ti_neg hc hf
      refine lv_aload_n hx hb d_H_shareOut_117 rfl (lv_at hl 0 rfl) ?_
      refine lv_iload_n hx hb d_H_shareOut_118 rfl (lv_at hl 2 rfl) ?_
      obtain ⟨s_1, hq1, hf⟩ := tb1_of hf
      refine tr_callv (va_runV (C := R_H) (As := [.int v2]) (rest := []) ⟨hx, hb, hml, hown, ht⟩ (mc_H7_giveOne l hd hq1) ⟨(tw_cb (n := 1) ht wc_H_giveOne wd_37 wd_502 ⟨rfl, rfl⟩ (by decide +kernel) ⟨(Nat.le_of_ble_eq_true rfl), (Nat.le_of_ble_eq_true rfl)⟩), ht _ wd_504, ht _ wd_9⟩ ⟨tP_blind, va_recv hK hP (ci := 7) (q0 := 7) rfl rfl, fun U hU hW => ⟨rfl, by rw [hU]; exact hP, va_K.moved hW.alike hK, tW_warm hW hN⟩⟩ rfl rfl hl.1 rfl (lv_room (Nat.le_of_ble_eq_true rfl)) d_H_shareOut_119 ⟨Nat.zero_le _, Nat.zero_le _⟩) hS (fun _ h => h) (fun _ h => h) (fun H locs hP hS => ?_)
      refine lv_iinc (v := (v6 + (1 : Int32))) (lv' := [(6, .int (v6 + (1 : Int32))), (0, .ref (ad 7)), (1, .int v1), (2, .int v2), (3, .long v3), (5, .int v5)]) hx hb d_H_shareOut_122 hl (k := 5) rfl rfl (by decide) rfl (fun ls hl => ?_)
      refine lv_goto (tgt := 110) hx hb d_H_shareOut_125 (by decide) ?_
      exact ih _ _ _ _ _ _ _ hf _ _ hP hS _ (lv_sub hl [1, 2, 3, 4, 5, 0] rfl)
set_option maxHeartbeats 4000000 in
set_option maxRecDepth 100000 in
theorem mw_H7_shareOut_48 {p : Program} {l : Launch} {e : Env} {s : State} {m : MethodId} {args : Array Value} {below : List Frame} {meth : Method} {c : Code} {D : va_G} {ad : Nat → Nat} {ta : Nat → ClassId} (CX : tC p s m args meth c b_H_shareOut none 9 R_H D clS (tyC ta)) (hd : tD 37 ad) : ∀ (k : Nat) (v1 : Int32) (v2 : Int32) (v3 : Int64) (v5 : Int32) (v6 : Int32) (σ : tS) (res : tS), ml_H7_shareOut_48 k v1 v2 v3 v5 v6 σ = some res → ∀ (H : Heap) (locs : List Loc), va_P D clS (cwC ad ta σ) H → va_S (tA 37 ad) s.heap H locs → ∀ (ls : Array Slot), lv_has ls 9 [(0, .ref (ad 7)), (1, .int v1), (2, .int v2), (3, .long v3), (5, .int v5), (6, .int v6)] → W p l e rm_H7_shareOut s m args below meth c H locs 0 0 (MQ below (tQ D clS (cwC ad ta res) none (tA 37 ad)) args s 0 0 (tA 37 ad)) (F0 m 48 ls []) := by
  obtain ⟨hx, hb, hr, hml, hown, ht, hlocks, hK, hN⟩ := id CX
  intro k
  induction k with
  | zero =>
    intro v1 v2 v3 v5 v6 σ res hf
    exact tn_no hf
  | succ k ih =>
    intro v1 v2 v3 v5 v6 σ res hf H locs hP hS ls hl
    replace hf : ms_H7_shareOut_48 (ml_H7_shareOut_48 k) v1 v2 v3 v5 v6 σ = some res := hf
    unfold ms_H7_shareOut_48 at hf
    refine lv_iload hx hb d_H_shareOut_48 (lv_at hl 5 rfl) ?_
    refine lv_iload_n hx hb d_H_shareOut_50 rfl (lv_at hl 2 rfl) ?_
    refine lv_icmp_ge (tgt := 107) hx hb d_H_shareOut_51 (by decide) (fun hc => ?_) (fun hc => ?_)
    · replace hf := ti_pos hc hf
      refine lv_iconst (v := (0 : Int32)) hx hb d_H_shareOut_107 (by decide) ?_
      refine lv_istore (lv' := [(6, .int (0 : Int32)), (0, .ref (ad 7)), (1, .int v1), (2, .int v2), (3, .long v3), (5, .int v5)]) hx hb d_H_shareOut_108 hl (by decide) rfl (fun ls hl => ?_)
      exact mw_H7_shareOut_110 CX hd _ _ _ _ _ _ _ _ hf _ _ hP hS _ (lv_sub hl [1, 2, 3, 4, 5, 0] rfl)
    · replace hf := ti_neg hc hf
      refine lv_iload_n hx hb d_H_shareOut_54 rfl (lv_at hl 1 rfl) ?_
      refine lv_i2l hx hb d_H_shareOut_55 rfl ?_
      refine lv_aload_n hx hb d_H_shareOut_56 rfl (lv_at hl 0 rfl) ?_
      refine va_get (ci := 7) (v := .ref (ad 31)) (C := R_H) (T := F_H) (N := 3) hx hb ht iw_H hown hK hP 7 rfl rfl 0 (by decide) (ht _ wd_97) (fun _ h9 => h9) rfl d_H_shareOut_57 ?_
      refine lv_iload hx hb d_H_shareOut_60 (lv_at hl 5 rfl) ?_
      obtain ⟨hi2, hf⟩ := tg_of hf
      refine va_lald (f := σ.2.2 1) hx hb hK hP 31 22 rfl rfl hi2 d_H_shareOut_62 ?_
      refine lv_lmul hx hb d_H_shareOut_63 ?_
      refine lv_lstore (lv' := [(7, .long ((v1).toInt64 * (σ.2.2 1 v6.toNatClampNeg))), (0, .ref (ad 7)), (1, .int v1), (2, .int v2), (3, .long v3), (5, .int v5), (6, .int v6)]) hx hb d_H_shareOut_64 hl (by decide) rfl (fun ls hl => ?_)
      refine lv_aload_n hx hb d_H_shareOut_66 rfl (lv_at hl 1 rfl) ?_
      refine va_get (ci := 7) (v := .ref (ad 33)) (C := R_H) (T := F_H) (N := 3) hx hb ht iw_H hown hK hP 7 rfl rfl 2 (by decide) (ht _ wd_101) (fun _ h9 => h9) rfl d_H_shareOut_67 ?_
      refine lv_iload hx hb d_H_shareOut_70 (lv_at hl 6 rfl) ?_
      refine lv_lload hx hb d_H_shareOut_72 (lv_at hl 0 rfl) ?_
      refine lv_lload_n hx hb d_H_shareOut_74 rfl (lv_at hl 4 rfl) ?_
      obtain ⟨hz3, hf⟩ := tz_of hf
      refine lv_ldiv hx hb d_H_shareOut_75 hz3 ?_
      refine lv_l2i hx hb d_H_shareOut_76 rfl ?_
      obtain ⟨hi4, hf⟩ := tg_of hf
      refine va_iast (f := σ.2.1 21) hx hb hK hP (cwC_D hd) hS 33 24 rfl rfl hi4 d_H_shareOut_77 (fun H locs hP _ hS => ?_)
      replace hP : va_P D clS (cwC ad ta (tI σ 21 v6.toNatClampNeg (((((v1).toInt64 * (σ.2.2 1 v6.toNatClampNeg)) / v3)).toInt32))) H := hP
      refine lv_aload_n hx hb d_H_shareOut_78 rfl (lv_at hl 1 rfl) ?_
      refine va_get (ci := 7) (v := .ref (ad 32)) (C := R_H) (T := F_H) (N := 3) hx hb ht iw_H hown hK hP 7 rfl rfl 1 (by decide) (ht _ wd_100) (fun _ h9 => h9) rfl d_H_shareOut_79 ?_
      refine lv_iload hx hb d_H_shareOut_82 (lv_at hl 6 rfl) ?_
      refine lv_lload hx hb d_H_shareOut_84 (lv_at hl 0 rfl) ?_
      refine lv_lload_n hx hb d_H_shareOut_86 rfl (lv_at hl 4 rfl) ?_
      obtain ⟨hz5, hf⟩ := tz_of hf
      refine lv_lrem hx hb d_H_shareOut_87 hz5 ?_
      obtain ⟨hi6, hf⟩ := tg_of hf
      refine va_last (f := σ.2.2 2) hx hb hK hP (cwC_D hd) hS 32 23 rfl rfl hi6 d_H_shareOut_88 (fun H locs hP _ hS => ?_)
      replace hP : va_P D clS (cwC ad ta (tJ (tI σ 21 v6.toNatClampNeg (((((v1).toInt64 * (σ.2.2 1 v6.toNatClampNeg)) / v3)).toInt32)) 2 v6.toNatClampNeg (((v1).toInt64 * (σ.2.2 1 v6.toNatClampNeg)) - ((v1).toInt64 * (σ.2.2 1 v6.toNatClampNeg)) / v3 * v3))) H := hP
      refine lv_iload hx hb d_H_shareOut_89 (lv_at hl 5 rfl) ?_
      refine lv_aload_n hx hb d_H_shareOut_91 rfl (lv_at hl 1 rfl) ?_
      refine va_get (ci := 7) (v := .ref (ad 33)) (C := R_H) (T := F_H) (N := 3) hx hb ht iw_H hown hK hP 7 rfl rfl 2 (by decide) (ht _ wd_101) (fun _ h9 => h9) rfl d_H_shareOut_92 ?_
      refine lv_iload hx hb d_H_shareOut_95 (lv_at hl 6 rfl) ?_
      obtain ⟨hi7, hf⟩ := tg_of hf
      refine va_iald (f := (tI σ 21 v6.toNatClampNeg (((((v1).toInt64 * (σ.2.2 1 v6.toNatClampNeg)) / v3)).toInt32)).2.1 21) hx hb hK hP 33 24 rfl rfl hi7 d_H_shareOut_97 ?_
      refine lv_isub hx hb d_H_shareOut_98 ?_
      refine lv_istore (lv' := [(5, .int (v5 - ((tI σ 21 v6.toNatClampNeg (((((v1).toInt64 * (σ.2.2 1 v6.toNatClampNeg)) / v3)).toInt32)).2.1 21 v6.toNatClampNeg))), (7, .long ((v1).toInt64 * (σ.2.2 1 v6.toNatClampNeg))), (0, .ref (ad 7)), (1, .int v1), (2, .int v2), (3, .long v3), (6, .int v6)]) hx hb d_H_shareOut_99 hl (by decide) rfl (fun ls hl => ?_)
      refine lv_iinc (v := (v6 + (1 : Int32))) (lv' := [(6, .int (v6 + (1 : Int32))), (5, .int (v5 - ((tI σ 21 v6.toNatClampNeg (((((v1).toInt64 * (σ.2.2 1 v6.toNatClampNeg)) / v3)).toInt32)).2.1 21 v6.toNatClampNeg))), (7, .long ((v1).toInt64 * (σ.2.2 1 v6.toNatClampNeg))), (0, .ref (ad 7)), (1, .int v1), (2, .int v2), (3, .long v3)]) hx hb d_H_shareOut_101 hl (k := 6) rfl rfl (by decide) rfl (fun ls hl => ?_)
      refine lv_goto (tgt := 48) hx hb d_H_shareOut_104 (by decide) ?_
      exact ih _ _ _ _ _ _ _ hf _ _ hP hS _ (lv_sub hl [3, 4, 5, 6, 1, 0] rfl)
set_option maxHeartbeats 4000000 in
set_option maxRecDepth 100000 in
theorem mw_H7_shareOut_5 {p : Program} {l : Launch} {e : Env} {s : State} {m : MethodId} {args : Array Value} {below : List Frame} {meth : Method} {c : Code} {D : va_G} {ad : Nat → Nat} {ta : Nat → ClassId} (CX : tC p s m args meth c b_H_shareOut none 9 R_H D clS (tyC ta)) (hd : tD 37 ad) : ∀ (k : Nat) (v1 : Int32) (v2 : Int32) (v3 : Int64) (v5 : Int32) (σ : tS) (res : tS), ml_H7_shareOut_5 k v1 v2 v3 v5 σ = some res → ∀ (H : Heap) (locs : List Loc), va_P D clS (cwC ad ta σ) H → va_S (tA 37 ad) s.heap H locs → ∀ (ls : Array Slot), lv_has ls 9 [(0, .ref (ad 7)), (1, .int v1), (2, .int v2), (3, .long v3), (5, .int v5)] → W p l e rm_H7_shareOut s m args below meth c H locs 0 0 (MQ below (tQ D clS (cwC ad ta res) none (tA 37 ad)) args s 0 0 (tA 37 ad)) (F0 m 5 ls []) := by
  obtain ⟨hx, hb, hr, hml, hown, ht, hlocks, hK, hN⟩ := id CX
  intro k
  induction k with
  | zero =>
    intro v1 v2 v3 v5 σ res hf
    exact tn_no hf
  | succ k ih =>
    intro v1 v2 v3 v5 σ res hf H locs hP hS ls hl
    replace hf : ms_H7_shareOut_5 (ml_H7_shareOut_5 k) v1 v2 v3 v5 σ = some res := hf
    unfold ms_H7_shareOut_5 at hf
    refine lv_iload hx hb d_H_shareOut_5 (lv_at hl 4 rfl) ?_
    refine lv_iload_n hx hb d_H_shareOut_7 rfl (lv_at hl 2 rfl) ?_
    refine lv_icmp_ge (tgt := 27) hx hb d_H_shareOut_8 (by decide) (fun hc => ?_) (fun hc => ?_)
    · replace hf := ti_pos hc hf
      refine lv_lload_n hx hb d_H_shareOut_27 rfl (lv_at hl 3 rfl) ?_
      refine lv_lconst (v := (0 : Int64)) hx hb d_H_shareOut_28 (by decide) ?_
      refine W.lcmp hx hb d_H_shareOut_29 ?_
      refine lv_if_ne (tgt := 42) hx hb d_H_shareOut_30 (by decide) (fun hc => ?_) (fun hc => ?_)
      · replace hf := ti_neg hc hf
        refine lv_iload_n hx hb d_H_shareOut_42 rfl (lv_at hl 1 rfl) ?_
        refine lv_istore (lv' := [(5, .int v1), (0, .ref (ad 7)), (1, .int v1), (2, .int v2), (3, .long v3)]) hx hb d_H_shareOut_43 hl (by decide) rfl (fun ls hl => ?_)
        refine lv_iconst (v := (0 : Int32)) hx hb d_H_shareOut_45 (by decide) ?_
        refine lv_istore (lv' := [(6, .int (0 : Int32)), (5, .int v1), (0, .ref (ad 7)), (1, .int v1), (2, .int v2), (3, .long v3)]) hx hb d_H_shareOut_46 hl (by decide) rfl (fun ls hl => ?_)
        exact mw_H7_shareOut_48 CX hd _ _ _ _ _ _ _ _ hf _ _ hP hS _ (lv_sub hl [2, 3, 4, 5, 1, 0] rfl)
      · replace hf := ti_pos hc hf
        refine lv_aload_n hx hb d_H_shareOut_33 rfl (lv_at hl 0 rfl) ?_
        refine va_get (ci := 7) (v := .ref (ad 33)) (C := R_H) (T := F_H) (N := 3) hx hb ht iw_H hown hK hP 7 rfl rfl 2 (by decide) (ht _ wd_101) (fun _ h9 => h9) rfl d_H_shareOut_34 ?_
        refine lv_iconst (v := (0 : Int32)) hx hb d_H_shareOut_37 (by decide) ?_
        refine tr_fillI (f := σ.2.1 21) ⟨hx, hb, hml, hown, ht⟩ ⟨(tw_cb (n := 2) ht wf_I wd_38 wd_501 ⟨rfl, rfl⟩ (by decide +kernel) ⟨(Nat.le_of_ble_eq_true rfl), (Nat.le_of_ble_eq_true rfl)⟩), ht _ wd_113⟩ hK hN hP (cwC_D hd) hS 33 24 rfl rfl (by decide) hl.1 (lv_room (Nat.le_of_ble_eq_true rfl)) d_H_shareOut_38 (fun H locs hP hS => ?_) ⟨Nat.zero_le _, Nat.zero_le _⟩
        replace hP : va_P D clS (cwC ad ta (tIf σ 21 (0 : Int32))) H := hP
        obtain rfl := ts_of hf
        exact W.vret hx hb hr (fun t ht hW => ⟨rfl, by rw [ht]; exact hP, hS.F ht⟩) hS.2.2 d_H_shareOut_41
    · replace hf := ti_neg hc hf
      refine lv_lload_n hx hb d_H_shareOut_11 rfl (lv_at hl 3 rfl) ?_
      refine lv_aload_n hx hb d_H_shareOut_12 rfl (lv_at hl 0 rfl) ?_
      refine va_get (ci := 7) (v := .ref (ad 31)) (C := R_H) (T := F_H) (N := 3) hx hb ht iw_H hown hK hP 7 rfl rfl 0 (by decide) (ht _ wd_97) (fun _ h9 => h9) rfl d_H_shareOut_13 ?_
      refine lv_iload hx hb d_H_shareOut_16 (lv_at hl 4 rfl) ?_
      obtain ⟨hi8, hf⟩ := tg_of hf
      refine va_lald (f := σ.2.2 1) hx hb hK hP 31 22 rfl rfl hi8 d_H_shareOut_18 ?_
      refine lv_ladd hx hb d_H_shareOut_19 ?_
      refine lv_lstore_n (lv' := [(3, .long (v3 + (σ.2.2 1 v5.toNatClampNeg))), (0, .ref (ad 7)), (1, .int v1), (2, .int v2), (5, .int v5)]) hx hb d_H_shareOut_20 rfl hl (by decide) rfl (fun ls hl => ?_)
      refine lv_iinc (v := (v5 + (1 : Int32))) (lv' := [(5, .int (v5 + (1 : Int32))), (3, .long (v3 + (σ.2.2 1 v5.toNatClampNeg))), (0, .ref (ad 7)), (1, .int v1), (2, .int v2)]) hx hb d_H_shareOut_21 hl (k := 4) rfl rfl (by decide) rfl (fun ls hl => ?_)
      refine lv_goto (tgt := 5) hx hb d_H_shareOut_24 (by decide) ?_
      exact ih _ _ _ _ _ _ hf _ _ hP hS _ (lv_sub hl [2, 3, 4, 1, 0] rfl)
set_option maxHeartbeats 4000000 in
set_option maxRecDepth 100000 in
theorem mc_H7_shareOut (l : Launch) {D : va_G} {ad : Nat → Nat} {ta : Nat → ClassId} (hd : tD 37 ad) {σ σ' : tS} {p0 : Int32} {p1 : Int32} (hf : mf_H7_shareOut p0 p1 σ = some σ') : Met l y_H_shareOut (.code y_H_shareOut b_H_shareOut 9 none :: tw) rm_H7_shareOut (tP D clS (tyC ta) (cwC ad ta σ) [.ref (ad 7), .int p0, .int p1]) (tQ D clS (cwC ad ta σ') none (tA 37 ad)) 0 0 (tA 37 ad) := by
  refine Met.ofW (cc := b_H_shareOut) (maxL := 9) (ret := none) (by decide) rfl ?_
  intro p e s m args below meth c s₁ B hml hv
  obtain ⟨rfl, hP, hK, hN⟩ := hv
  have hx := B.exec
  have hb := B.bytes
  have hr := B.returns
  have ht : ∀ w ∈ tw, w.before [.ref (ad 7), .int p0, .int p1].toArray s = true := fun w h => atoms_spec (ws := (.code y_H_shareOut b_H_shareOut 9 none :: tw)) B.pre w (List.mem_cons_of_mem _ h)
  have hown : s.vm.findClass R_H = some m.cls := findClass_of_methodNamed B.named
  have hlocks := B.notSynchronized
  have CX : tC p s m [.ref (ad 7), .int p0, .int p1].toArray meth c b_H_shareOut none 9 R_H D clS (tyC ta) := ⟨hx, hb, hr, hml, hown, ht, hlocks, hK, hN⟩
  have hS : va_S (tA 37 ad) s.heap s.heap [] := va_S.rf
  have hl := lv_entry ([.ref (ad 7), .int p0, .int p1]) (n := 9) (Nat.le_of_ble_eq_true rfl)
  rw [lg_entry_eq]
  generalize (lg_sl ([.ref (ad 7), .int p0, .int p1]) ++ List.replicate (9 - (lg_sl ([.ref (ad 7), .int p0, .int p1])).length) Slot.unset).toArray = ls at hl ⊢
  replace hl : lv_has ls 9 [(0, .ref (ad 7)), (1, .int p0), (2, .int p1)] := hl
  unfold mf_H7_shareOut at hf
  refine lv_lconst (v := (0 : Int64)) hx hb d_H_shareOut_0 (by decide) ?_
  refine lv_lstore_n (lv' := [(3, .long (0 : Int64)), (0, .ref (ad 7)), (1, .int p0), (2, .int p1)]) hx hb d_H_shareOut_1 rfl hl (by decide) rfl (fun ls hl => ?_)
  refine lv_iconst (v := (0 : Int32)) hx hb d_H_shareOut_2 (by decide) ?_
  refine lv_istore (lv' := [(5, .int (0 : Int32)), (3, .long (0 : Int64)), (0, .ref (ad 7)), (1, .int p0), (2, .int p1)]) hx hb d_H_shareOut_3 hl (by decide) rfl (fun ls hl => ?_)
  exact mw_H7_shareOut_5 CX hd _ _ _ _ _ _ _ hf _ _ hP hS _ (lv_sub hl [2, 3, 4, 1, 0] rfl)
end
