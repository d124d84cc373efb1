section
-- ===== PART A: goes FIRST, ahead of the names: the tables' words, and 'selects' of the private methods out of them =====
/-- a private method of a class that the tables say can be made, by its rows of tables_1 -/
def lw_okq (q : MethodName × Nat) : Prop := (q.1.cls ≠ "java/lang/invoke/MethodHandle" ∧ q.1.cls ≠ "java/lang/invoke/VarHandle") ∧ Cond.instantiable q.1.cls q.2 ∈ tables_1 ∧ Cond.privateMethod q.1 ∈ tables_1 ∧ Cond.instanceMethod q.1 ∈ tables_1
theorem lw_p0 : lw_okq (⟨"TripRounds$Ways", "lowerCosts", "(LTripRounds$Streets;)Z"⟩, 3) := ⟨⟨by decide +kernel, by decide +kernel⟩, List.mem_of_getElem? (i := 168) (by decide +kernel), List.mem_of_getElem? (i := 259) (by decide +kernel), List.mem_of_getElem? (i := 260) (by decide +kernel)⟩
theorem lw_p1 : lw_okq (⟨"TripRounds$Ways", "costBy", "(ILTripRounds$Streets;)J"⟩, 3) := ⟨⟨by decide +kernel, by decide +kernel⟩, List.mem_of_getElem? (i := 168) (by decide +kernel), List.mem_of_getElem? (i := 263) (by decide +kernel), List.mem_of_getElem? (i := 264) (by decide +kernel)⟩
theorem lw_p2 : lw_okq (⟨"TripRounds$Ways", "chooseNexts", "(LTripRounds$Streets;)V"⟩, 3) := ⟨⟨by decide +kernel, by decide +kernel⟩, List.mem_of_getElem? (i := 168) (by decide +kernel), List.mem_of_getElem? (i := 268) (by decide +kernel), List.mem_of_getElem? (i := 269) (by decide +kernel)⟩
theorem lw_p3 : lw_okq (⟨"TripRounds", "leastTimeTo", "(I)J"⟩, 7) := ⟨⟨by decide +kernel, by decide +kernel⟩, List.mem_of_getElem? (i := 18) (by decide +kernel), List.mem_of_getElem? (i := 273) (by decide +kernel), List.mem_of_getElem? (i := 274) (by decide +kernel)⟩
theorem lw_p4 : lw_okq (⟨"java/lang/Throwable", "fillInStackTrace", "(I)Ljava/lang/Throwable;"⟩, 6) := ⟨⟨by decide +kernel, by decide +kernel⟩, List.mem_of_getElem? (i := 329) (by decide +kernel), List.mem_of_getElem? (i := 327) (by decide +kernel), List.mem_of_getElem? (i := 328) (by decide +kernel)⟩
theorem lw_p5 : lw_okq (⟨"TripRounds", "needNode", "(I)V"⟩, 7) := ⟨⟨by decide +kernel, by decide +kernel⟩, List.mem_of_getElem? (i := 18) (by decide +kernel), List.mem_of_getElem? (i := 367) (by decide +kernel), List.mem_of_getElem? (i := 368) (by decide +kernel)⟩
theorem lw_p6 : lw_okq (⟨"TripRounds", "needStreet", "(I)V"⟩, 7) := ⟨⟨by decide +kernel, by decide +kernel⟩, List.mem_of_getElem? (i := 18) (by decide +kernel), List.mem_of_getElem? (i := 418) (by decide +kernel), List.mem_of_getElem? (i := 419) (by decide +kernel)⟩
theorem lw_p7 : lw_okq (⟨"TripRounds", "needZone", "(I)V"⟩, 7) := ⟨⟨by decide +kernel, by decide +kernel⟩, List.mem_of_getElem? (i := 18) (by decide +kernel), List.mem_of_getElem? (i := 437) (by decide +kernel), List.mem_of_getElem? (i := 438) (by decide +kernel)⟩
theorem lw_p8 : lw_okq (⟨"TripRounds$Table", "shareAllPeople", "(LTripRounds$Zones;)V"⟩, 4) := ⟨⟨by decide +kernel, by decide +kernel⟩, List.mem_of_getElem? (i := 53) (by decide +kernel), List.mem_of_getElem? (i := 460) (by decide +kernel), List.mem_of_getElem? (i := 461) (by decide +kernel)⟩
theorem lw_p9 : lw_okq (⟨"TripRounds$Sharing", "giveOne", "(I)V"⟩, 3) := ⟨⟨by decide +kernel, by decide +kernel⟩, List.mem_of_getElem? (i := 59) (by decide +kernel), List.mem_of_getElem? (i := 470) (by decide +kernel), List.mem_of_getElem? (i := 471) (by decide +kernel)⟩
theorem lw_p10 : lw_okq (⟨"TripRounds$Table", "isMet", "(LTripRounds$Zones;I)Z"⟩, 4) := ⟨⟨by decide +kernel, by decide +kernel⟩, List.mem_of_getElem? (i := 53) (by decide +kernel), List.mem_of_getElem? (i := 475) (by decide +kernel), List.mem_of_getElem? (i := 476) (by decide +kernel)⟩
theorem lw_p11 : lw_okq (⟨"TripRounds$Table", "changeFactors", "(LTripRounds$Zones;)V"⟩, 4) := ⟨⟨by decide +kernel, by decide +kernel⟩, List.mem_of_getElem? (i := 53) (by decide +kernel), List.mem_of_getElem? (i := 486) (by decide +kernel), List.mem_of_getElem? (i := 487) (by decide +kernel)⟩
theorem lw_p12 : lw_okq (⟨"TripRounds", "assignAll", "(I)V"⟩, 7) := ⟨⟨by decide +kernel, by decide +kernel⟩, List.mem_of_getElem? (i := 18) (by decide +kernel), List.mem_of_getElem? (i := 548) (by decide +kernel), List.mem_of_getElem? (i := 549) (by decide +kernel)⟩
theorem lw_p13 : lw_okq (⟨"TripRounds", "gatherDrivers", "()V"⟩, 7) := ⟨⟨by decide +kernel, by decide +kernel⟩, List.mem_of_getElem? (i := 18) (by decide +kernel), List.mem_of_getElem? (i := 558) (by decide +kernel), List.mem_of_getElem? (i := 559) (by decide +kernel)⟩
theorem lw_p14 : lw_okq (⟨"TripRounds", "assignPart", "(I)V"⟩, 7) := ⟨⟨by decide +kernel, by decide +kernel⟩, List.mem_of_getElem? (i := 18) (by decide +kernel), List.mem_of_getElem? (i := 562) (by decide +kernel), List.mem_of_getElem? (i := 563) (by decide +kernel)⟩
theorem lw_p15 : lw_okq (⟨"TripRounds", "scaleUsersOf", "(I)V"⟩, 7) := ⟨⟨by decide +kernel, by decide +kernel⟩, List.mem_of_getElem? (i := 18) (by decide +kernel), List.mem_of_getElem? (i := 633) (by decide +kernel), List.mem_of_getElem? (i := 634) (by decide +kernel)⟩
def lw_privs_1 : List (MethodName × Nat) := [(⟨"TripRounds$Ways", "lowerCosts", "(LTripRounds$Streets;)Z"⟩, 3), (⟨"TripRounds$Ways", "costBy", "(ILTripRounds$Streets;)J"⟩, 3), (⟨"TripRounds$Ways", "chooseNexts", "(LTripRounds$Streets;)V"⟩, 3), (⟨"TripRounds", "leastTimeTo", "(I)J"⟩, 7), (⟨"java/lang/Throwable", "fillInStackTrace", "(I)Ljava/lang/Throwable;"⟩, 6), (⟨"TripRounds", "needNode", "(I)V"⟩, 7), (⟨"TripRounds", "needStreet", "(I)V"⟩, 7), (⟨"TripRounds", "needZone", "(I)V"⟩, 7), (⟨"TripRounds$Table", "shareAllPeople", "(LTripRounds$Zones;)V"⟩, 4), (⟨"TripRounds$Sharing", "giveOne", "(I)V"⟩, 3), (⟨"TripRounds$Table", "isMet", "(LTripRounds$Zones;I)Z"⟩, 4), (⟨"TripRounds$Table", "changeFactors", "(LTripRounds$Zones;)V"⟩, 4), (⟨"TripRounds", "assignAll", "(I)V"⟩, 7), (⟨"TripRounds", "gatherDrivers", "()V"⟩, 7), (⟨"TripRounds", "assignPart", "(I)V"⟩, 7), (⟨"TripRounds", "scaleUsersOf", "(I)V"⟩, 7)]
theorem lw_r1 : ∀ q ∈ lw_privs_1, lw_okq q := List.forall_mem_cons.mpr ⟨lw_p0, List.forall_mem_cons.mpr ⟨lw_p1, List.forall_mem_cons.mpr ⟨lw_p2, List.forall_mem_cons.mpr ⟨lw_p3, List.forall_mem_cons.mpr ⟨lw_p4, List.forall_mem_cons.mpr ⟨lw_p5, List.forall_mem_cons.mpr ⟨lw_p6, List.forall_mem_cons.mpr ⟨lw_p7, List.forall_mem_cons.mpr ⟨lw_p8, List.forall_mem_cons.mpr ⟨lw_p9, List.forall_mem_cons.mpr ⟨lw_p10, List.forall_mem_cons.mpr ⟨lw_p11, List.forall_mem_cons.mpr ⟨lw_p12, List.forall_mem_cons.mpr ⟨lw_p13, List.forall_mem_cons.mpr ⟨lw_p14, List.forall_mem_cons.mpr ⟨lw_p15, fun _ h => absurd h List.not_mem_nil⟩⟩⟩⟩⟩⟩⟩⟩⟩⟩⟩⟩⟩⟩⟩⟩
theorem lw_p16 : lw_okq (⟨"TripRoundsModel", "isNode", "(I)Z"⟩, 32) := ⟨⟨by decide +kernel, by decide +kernel⟩, List.mem_of_getElem? (i := 639) (by decide +kernel), List.mem_of_getElem? (i := 754) (by decide +kernel), List.mem_of_getElem? (i := 755) (by decide +kernel)⟩
theorem lw_p17 : lw_okq (⟨"TripRoundsModel", "isStreet", "(I)Z"⟩, 32) := ⟨⟨by decide +kernel, by decide +kernel⟩, List.mem_of_getElem? (i := 639) (by decide +kernel), List.mem_of_getElem? (i := 771) (by decide +kernel), List.mem_of_getElem? (i := 772) (by decide +kernel)⟩
theorem lw_p18 : lw_okq (⟨"TripRoundsModel", "isPair", "(II)Z"⟩, 32) := ⟨⟨by decide +kernel, by decide +kernel⟩, List.mem_of_getElem? (i := 639) (by decide +kernel), List.mem_of_getElem? (i := 783) (by decide +kernel), List.mem_of_getElem? (i := 784) (by decide +kernel)⟩
theorem lw_p19 : lw_okq (⟨"TripRoundsModel", "isZone", "(I)Z"⟩, 32) := ⟨⟨by decide +kernel, by decide +kernel⟩, List.mem_of_getElem? (i := 639) (by decide +kernel), List.mem_of_getElem? (i := 787) (by decide +kernel), List.mem_of_getElem? (i := 788) (by decide +kernel)⟩
theorem lw_p20 : lw_okq (⟨"TripRoundsModel", "oneRound", "()V"⟩, 32) := ⟨⟨by decide +kernel, by decide +kernel⟩, List.mem_of_getElem? (i := 639) (by decide +kernel), List.mem_of_getElem? (i := 799) (by decide +kernel), List.mem_of_getElem? (i := 800) (by decide +kernel)⟩
theorem lw_p21 : lw_okq (⟨"TripRoundsModel", "share", "(JI)V"⟩, 32) := ⟨⟨by decide +kernel, by decide +kernel⟩, List.mem_of_getElem? (i := 639) (by decide +kernel), List.mem_of_getElem? (i := 803) (by decide +kernel), List.mem_of_getElem? (i := 804) (by decide +kernel)⟩
theorem lw_p22 : lw_okq (⟨"TripRoundsModel", "isMet", "(I)Z"⟩, 32) := ⟨⟨by decide +kernel, by decide +kernel⟩, List.mem_of_getElem? (i := 639) (by decide +kernel), List.mem_of_getElem? (i := 808) (by decide +kernel), List.mem_of_getElem? (i := 809) (by decide +kernel)⟩
theorem lw_p23 : lw_okq (⟨"TripRoundsModel", "sumTo", "(I)J"⟩, 32) := ⟨⟨by decide +kernel, by decide +kernel⟩, List.mem_of_getElem? (i := 639) (by decide +kernel), List.mem_of_getElem? (i := 812) (by decide +kernel), List.mem_of_getElem? (i := 813) (by decide +kernel)⟩
theorem lw_p24 : lw_okq (⟨"TripRoundsModel", "byMode", "(II)I"⟩, 32) := ⟨⟨by decide +kernel, by decide +kernel⟩, List.mem_of_getElem? (i := 639) (by decide +kernel), List.mem_of_getElem? (i := 837) (by decide +kernel), List.mem_of_getElem? (i := 838) (by decide +kernel)⟩
theorem lw_p25 : lw_okq (⟨"TripRoundsModel", "assignAll", "(I)V"⟩, 32) := ⟨⟨by decide +kernel, by decide +kernel⟩, List.mem_of_getElem? (i := 639) (by decide +kernel), List.mem_of_getElem? (i := 845) (by decide +kernel), List.mem_of_getElem? (i := 846) (by decide +kernel)⟩
theorem lw_p26 : lw_okq (⟨"TripRoundsModel", "takeTimes", "()V"⟩, 32) := ⟨⟨by decide +kernel, by decide +kernel⟩, List.mem_of_getElem? (i := 639) (by decide +kernel), List.mem_of_getElem? (i := 849) (by decide +kernel), List.mem_of_getElem? (i := 850) (by decide +kernel)⟩
theorem lw_p27 : lw_okq (⟨"TripRoundsModel", "timeOf", "(I)J"⟩, 32) := ⟨⟨by decide +kernel, by decide +kernel⟩, List.mem_of_getElem? (i := 639) (by decide +kernel), List.mem_of_getElem? (i := 853) (by decide +kernel), List.mem_of_getElem? (i := 854) (by decide +kernel)⟩
theorem lw_p28 : lw_okq (⟨"TripRoundsModel", "goPart", "(IIII)V"⟩, 32) := ⟨⟨by decide +kernel, by decide +kernel⟩, List.mem_of_getElem? (i := 639) (by decide +kernel), List.mem_of_getElem? (i := 857) (by decide +kernel), List.mem_of_getElem? (i := 858) (by decide +kernel)⟩
theorem lw_p29 : lw_okq (⟨"TripRoundsModel", "findWay", "(II)Z"⟩, 32) := ⟨⟨by decide +kernel, by decide +kernel⟩, List.mem_of_getElem? (i := 639) (by decide +kernel), List.mem_of_getElem? (i := 861) (by decide +kernel), List.mem_of_getElem? (i := 862) (by decide +kernel)⟩
theorem lw_p30 : lw_okq (⟨"TripRoundsModel", "findNear", "(I)V"⟩, 32) := ⟨⟨by decide +kernel, by decide +kernel⟩, List.mem_of_getElem? (i := 639) (by decide +kernel), List.mem_of_getElem? (i := 865) (by decide +kernel), List.mem_of_getElem? (i := 866) (by decide +kernel)⟩
theorem lw_p31 : lw_okq (⟨"TripRoundsModel", "worst", "()I"⟩, 32) := ⟨⟨by decide +kernel, by decide +kernel⟩, List.mem_of_getElem? (i := 639) (by decide +kernel), List.mem_of_getElem? (i := 898) (by decide +kernel), List.mem_of_getElem? (i := 899) (by decide +kernel)⟩
def lw_privs_2 : List (MethodName × Nat) := [(⟨"TripRoundsModel", "isNode", "(I)Z"⟩, 32), (⟨"TripRoundsModel", "isStreet", "(I)Z"⟩, 32), (⟨"TripRoundsModel", "isPair", "(II)Z"⟩, 32), (⟨"TripRoundsModel", "isZone", "(I)Z"⟩, 32), (⟨"TripRoundsModel", "oneRound", "()V"⟩, 32), (⟨"TripRoundsModel", "share", "(JI)V"⟩, 32), (⟨"TripRoundsModel", "isMet", "(I)Z"⟩, 32), (⟨"TripRoundsModel", "sumTo", "(I)J"⟩, 32), (⟨"TripRoundsModel", "byMode", "(II)I"⟩, 32), (⟨"TripRoundsModel", "assignAll", "(I)V"⟩, 32), (⟨"TripRoundsModel", "takeTimes", "()V"⟩, 32), (⟨"TripRoundsModel", "timeOf", "(I)J"⟩, 32), (⟨"TripRoundsModel", "goPart", "(IIII)V"⟩, 32), (⟨"TripRoundsModel", "findWay", "(II)Z"⟩, 32), (⟨"TripRoundsModel", "findNear", "(I)V"⟩, 32), (⟨"TripRoundsModel", "worst", "()I"⟩, 32)]
theorem lw_r2 : ∀ q ∈ lw_privs_2, lw_okq q := List.forall_mem_cons.mpr ⟨lw_p16, List.forall_mem_cons.mpr ⟨lw_p17, List.forall_mem_cons.mpr ⟨lw_p18, List.forall_mem_cons.mpr ⟨lw_p19, List.forall_mem_cons.mpr ⟨lw_p20, List.forall_mem_cons.mpr ⟨lw_p21, List.forall_mem_cons.mpr ⟨lw_p22, List.forall_mem_cons.mpr ⟨lw_p23, List.forall_mem_cons.mpr ⟨lw_p24, List.forall_mem_cons.mpr ⟨lw_p25, List.forall_mem_cons.mpr ⟨lw_p26, List.forall_mem_cons.mpr ⟨lw_p27, List.forall_mem_cons.mpr ⟨lw_p28, List.forall_mem_cons.mpr ⟨lw_p29, List.forall_mem_cons.mpr ⟨lw_p30, List.forall_mem_cons.mpr ⟨lw_p31, fun _ h => absurd h List.not_mem_nil⟩⟩⟩⟩⟩⟩⟩⟩⟩⟩⟩⟩⟩⟩⟩⟩
theorem lw_p32 : lw_okq (⟨"TripRoundsModel", "offOf", "(I)J"⟩, 32) := ⟨⟨by decide +kernel, by decide +kernel⟩, List.mem_of_getElem? (i := 639) (by decide +kernel), List.mem_of_getElem? (i := 902) (by decide +kernel), List.mem_of_getElem? (i := 903) (by decide +kernel)⟩
def lw_privs_3 : List (MethodName × Nat) := [(⟨"TripRoundsModel", "offOf", "(I)J"⟩, 32)]
theorem lw_r3 : ∀ q ∈ lw_privs_3, lw_okq q := List.forall_mem_cons.mpr ⟨lw_p32, fun _ h => absurd h List.not_mem_nil⟩
def lw_privs : List (MethodName × Nat) := lw_privs_1 ++ (lw_privs_2 ++ (lw_privs_3))
def lw_tbl : List Cond := k2_sels lw_privs ++ tables_1
theorem lw_privs_ok : ∀ q ∈ lw_privs, lw_okq q := by
  show ∀ q ∈ lw_privs_1 ++ (lw_privs_2 ++ (lw_privs_3)), lw_okq q
  exact List.forall_mem_append.mpr ⟨lw_r1, List.forall_mem_append.mpr ⟨lw_r2, lw_r3⟩⟩
end
section
def R_T : String := "TripRounds"
def F_T : u_T := fun k => match k with
  | 0 => ("TripRounds", "nodes", "I", false)
  | 1 => ("TripRounds", "zones", "LTripRounds$Zones;", true)
  | 2 => ("TripRounds", "table", "LTripRounds$Table;", true)
  | 3 => ("TripRounds", "modes", "LTripRounds$Modes;", true)
  | 4 => ("TripRounds", "streets", "LTripRounds$Streets;", true)
  | 5 => ("TripRounds", "ways", "LTripRounds$Ways;", true)
  | _ => ("TripRounds", "latest", "LTripRounds$Assignment;", true)
def ft_T : Nat → FieldType := fun k => match k with
  | 0 => .int
  | 1 => .object "TripRounds$Zones"
  | 2 => .object "TripRounds$Table"
  | 3 => .object "TripRounds$Modes"
  | 4 => .object "TripRounds$Streets"
  | 5 => .object "TripRounds$Ways"
  | _ => .object "TripRounds$Assignment"
theorem nm_T : ∀ a, a < 7 → ∀ b, b < 7 → a ≠ b → (F_T a).2.1 ≠ (F_T b).2.1 := by decide +kernel
theorem to_T : ∀ k, k < 7 → parseFieldDescriptor (F_T k).2.2.1 = some (ft_T k) := by decide +kernel
def R_Z : String := "TripRounds$Zones"
def F_Z : u_T := fun k => match k with
  | 0 => ("TripRounds$Zones", "many", "I", false)
  | 1 => ("TripRounds$Zones", "places", "[I", true)
  | 2 => ("TripRounds$Zones", "people", "[I", true)
  | _ => ("TripRounds$Zones", "jobs", "[I", true)
def ft_Z : Nat → FieldType := fun k => match k with
  | 0 => .int
  | 1 => .array .int
  | 2 => .array .int
  | _ => .array .int
theorem nm_Z : ∀ a, a < 4 → ∀ b, b < 4 → a ≠ b → (F_Z a).2.1 ≠ (F_Z b).2.1 := by decide +kernel
theorem to_Z : ∀ k, k < 4 → parseFieldDescriptor (F_Z k).2.2.1 = some (ft_Z k) := by decide +kernel
def R_B : String := "TripRounds$Table"
def F_B : u_T := fun k => match k with
  | 0 => ("TripRounds$Table", "weights", "[I", true)
  | 1 => ("TripRounds$Table", "cells", "[I", true)
  | 2 => ("TripRounds$Table", "factors", "[I", true)
  | _ => ("TripRounds$Table", "sharing", "LTripRounds$Sharing;", true)
def ft_B : Nat → FieldType := fun k => match k with
  | 0 => .array .int
  | 1 => .array .int
  | 2 => .array .int
  | _ => .object "TripRounds$Sharing"
theorem nm_B : ∀ a, a < 4 → ∀ b, b < 4 → a ≠ b → (F_B a).2.1 ≠ (F_B b).2.1 := by decide +kernel
theorem to_B : ∀ k, k < 4 → parseFieldDescriptor (F_B k).2.2.1 = some (ft_B k) := by decide +kernel
def R_M : String := "TripRounds$Modes"
def F_M : u_T := fun k => match k with
  | 0 => ("TripRounds$Modes", "pulls", "[I", true)
  | _ => ("TripRounds$Modes", "sharing", "LTripRounds$Sharing;", true)
def ft_M : Nat → FieldType := fun k => match k with
  | 0 => .array .int
  | _ => .object "TripRounds$Sharing"
theorem nm_M : ∀ a, a < 2 → ∀ b, b < 2 → a ≠ b → (F_M a).2.1 ≠ (F_M b).2.1 := by decide +kernel
theorem to_M : ∀ k, k < 2 → parseFieldDescriptor (F_M k).2.2.1 = some (ft_M k) := by decide +kernel
def R_S : String := "TripRounds$Streets"
def F_S : u_T := fun k => match k with
  | 0 => ("TripRounds$Streets", "many", "I", false)
  | 1 => ("TripRounds$Streets", "starts", "[I", true)
  | 2 => ("TripRounds$Streets", "ends", "[I", true)
  | 3 => ("TripRounds$Streets", "frees", "[I", true)
  | 4 => ("TripRounds$Streets", "slopes", "[I", true)
  | 5 => ("TripRounds$Streets", "rooms", "[I", true)
  | 6 => ("TripRounds$Streets", "tolls", "[I", true)
  | 7 => ("TripRounds$Streets", "isOpen", "[Z", true)
  | 8 => ("TripRounds$Streets", "counts", "[I", true)
  | _ => ("TripRounds$Streets", "volumes", "[I", true)
def ft_S : Nat → FieldType := fun k => match k with
  | 0 => .int
  | 1 => .array .int
  | 2 => .array .int
  | 3 => .array .int
  | 4 => .array .int
  | 5 => .array .int
  | 6 => .array .int
  | 7 => .array .boolean
  | 8 => .array .int
  | _ => .array .int
theorem nm_S : ∀ a, a < 10 → ∀ b, b < 10 → a ≠ b → (F_S a).2.1 ≠ (F_S b).2.1 := by decide +kernel
theorem to_S : ∀ k, k < 10 → parseFieldDescriptor (F_S k).2.2.1 = some (ft_S k) := by decide +kernel
def R_W : String := "TripRounds$Ways"
def F_W : u_T := fun k => match k with
  | 0 => ("TripRounds$Ways", "times", "[I", true)
  | 1 => ("TripRounds$Ways", "costs", "[J", true)
  | _ => ("TripRounds$Ways", "nexts", "[I", true)
def ft_W : Nat → FieldType := fun k => match k with
  | 0 => .array .int
  | 1 => .array .long
  | _ => .array .int
theorem nm_W : ∀ a, a < 3 → ∀ b, b < 3 → a ≠ b → (F_W a).2.1 ≠ (F_W b).2.1 := by decide +kernel
theorem to_W : ∀ k, k < 3 → parseFieldDescriptor (F_W k).2.2.1 = some (ft_W k) := by decide +kernel
def R_A : String := "TripRounds$Assignment"
def F_A : u_T := fun k => match k with
  | 0 => ("TripRounds$Assignment", "parts", "I", false)
  | 1 => ("TripRounds$Assignment", "lost", "I", false)
  | 2 => ("TripRounds$Assignment", "drivers", "[I", true)
  | 3 => ("TripRounds$Assignment", "went", "[I", true)
  | _ => ("TripRounds$Assignment", "used", "[I", true)
def ft_A : Nat → FieldType := fun k => match k with
  | 0 => .int
  | 1 => .int
  | 2 => .array .int
  | 3 => .array .int
  | _ => .array .int
theorem nm_A : ∀ a, a < 5 → ∀ b, b < 5 → a ≠ b → (F_A a).2.1 ≠ (F_A b).2.1 := by decide +kernel
theorem to_A : ∀ k, k < 5 → parseFieldDescriptor (F_A k).2.2.1 = some (ft_A k) := by decide +kernel
def R_H : String := "TripRounds$Sharing"
def F_H : u_T := fun k => match k with
  | 0 => ("TripRounds$Sharing", "numbers", "[J", true)
  | 1 => ("TripRounds$Sharing", "rests", "[J", true)
  | _ => ("TripRounds$Sharing", "shares", "[I", true)
def ft_H : Nat → FieldType := fun k => match k with
  | 0 => .array .long
  | 1 => .array .long
  | _ => .array .int
theorem nm_H : ∀ a, a < 3 → ∀ b, b < 3 → a ≠ b → (F_H a).2.1 ≠ (F_H b).2.1 := by decide +kernel
theorem to_H : ∀ k, k < 3 → parseFieldDescriptor (F_H k).2.2.1 = some (ft_H k) := by decide +kernel
def R_R : String := "TripRoundsModel"
def F_R : u_T := fun k => match k with
  | 0 => ("TripRoundsModel", "code", "I", false)
  | 1 => ("TripRoundsModel", "nodes", "I", false)
  | 2 => ("TripRoundsModel", "zones", "I", false)
  | 3 => ("TripRoundsModel", "streets", "I", false)
  | 4 => ("TripRoundsModel", "zoneNode", "[I", true)
  | 5 => ("TripRoundsModel", "people", "[I", true)
  | 6 => ("TripRoundsModel", "jobs", "[I", true)
  | 7 => ("TripRoundsModel", "froms", "[I", true)
  | 8 => ("TripRoundsModel", "tos", "[I", true)
  | 9 => ("TripRoundsModel", "frees", "[I", true)
  | 10 => ("TripRoundsModel", "slopes", "[I", true)
  | 11 => ("TripRoundsModel", "rooms", "[I", true)
  | 12 => ("TripRoundsModel", "tolls", "[I", true)
  | 13 => ("TripRoundsModel", "shut", "[Z", true)
  | 14 => ("TripRoundsModel", "counts", "[I", true)
  | 15 => ("TripRoundsModel", "volumes", "[J", true)
  | 16 => ("TripRoundsModel", "weights", "[I", true)
  | 17 => ("TripRoundsModel", "table", "[I", true)
  | 18 => ("TripRoundsModel", "pulls", "[I", true)
  | 19 => ("TripRoundsModel", "went", "[I", true)
  | 20 => ("TripRoundsModel", "links", "[I", true)
  | 21 => ("TripRoundsModel", "factors", "[I", true)
  | 22 => ("TripRoundsModel", "parts", "I", false)
  | 23 => ("TripRoundsModel", "lost", "I", false)
  | 24 => ("TripRoundsModel", "numbers", "[J", true)
  | 25 => ("TripRoundsModel", "rests", "[J", true)
  | 26 => ("TripRoundsModel", "gets", "[I", true)
  | 27 => ("TripRoundsModel", "times", "[J", true)
  | 28 => ("TripRoundsModel", "near", "[J", true)
  | 29 => ("TripRoundsModel", "few", "[I", true)
  | 30 => ("TripRoundsModel", "row", "[I", true)
  | _ => ("TripRoundsModel", "rowSize", "I", false)
def ft_R : Nat → FieldType := fun k => match k with
  | 0 => .int
  | 1 => .int
  | 2 => .int
  | 3 => .int
  | 4 => .array .int
  | 5 => .array .int
  | 6 => .array .int
  | 7 => .array .int
  | 8 => .array .int
  | 9 => .array .int
  | 10 => .array .int
  | 11 => .array .int
  | 12 => .array .int
  | 13 => .array .boolean
  | 14 => .array .int
  | 15 => .array .long
  | 16 => .array .int
  | 17 => .array .int
  | 18 => .array .int
  | 19 => .array .int
  | 20 => .array .int
  | 21 => .array .int
  | 22 => .int
  | 23 => .int
  | 24 => .array .long
  | 25 => .array .long
  | 26 => .array .int
  | 27 => .array .long
  | 28 => .array .long
  | 29 => .array .int
  | 30 => .array .int
  | _ => .int
theorem nm_R : ∀ a, a < 32 → ∀ b, b < 32 → a ≠ b → (F_R a).2.1 ≠ (F_R b).2.1 := by decide +kernel
theorem to_R : ∀ k, k < 32 → parseFieldDescriptor (F_R k).2.2.1 = some (ft_R k) := by decide +kernel
def R_L : String := "TripRoundsLaw"
abbrev b_T_init : ByteArray := prog_1_method_1_code
def y_T_init : MethodName := ⟨R_T, "<init>", "()V"⟩
abbrev b_T_node : ByteArray := prog_1_method_2_code
def y_T_node : MethodName := ⟨R_T, "node", "()I"⟩
abbrev b_T_zone : ByteArray := prog_1_method_3_code
def y_T_zone : MethodName := ⟨R_T, "zone", "(III)I"⟩
abbrev b_T_street : ByteArray := prog_1_method_4_code
def y_T_street : MethodName := ⟨R_T, "street", "(IIIII)I"⟩
abbrev b_T_toll : ByteArray := prog_1_method_5_code
def y_T_toll : MethodName := ⟨R_T, "toll", "(II)I"⟩
abbrev b_T_open : ByteArray := prog_1_method_6_code
def y_T_open : MethodName := ⟨R_T, "open", "(IZ)Z"⟩
abbrev b_T_weight : ByteArray := prog_1_method_7_code
def y_T_weight : MethodName := ⟨R_T, "weight", "(III)I"⟩
abbrev b_T_size : ByteArray := prog_1_method_8_code
def y_T_size : MethodName := ⟨R_T, "size", "(III)I"⟩
abbrev b_T_rounds : ByteArray := prog_1_method_9_code
def y_T_rounds : MethodName := ⟨R_T, "rounds", "(II)I"⟩
abbrev b_T_trips : ByteArray := prog_1_method_10_code
def y_T_trips : MethodName := ⟨R_T, "trips", "(II)I"⟩
abbrev b_T_sum : ByteArray := prog_1_method_11_code
def y_T_sum : MethodName := ⟨R_T, "sum", "(II)I"⟩
abbrev b_T_factor : ByteArray := prog_1_method_12_code
def y_T_factor : MethodName := ⟨R_T, "factor", "(I)I"⟩
abbrev b_T_pull : ByteArray := prog_1_method_13_code
def y_T_pull : MethodName := ⟨R_T, "pull", "(IIII)I"⟩
abbrev b_T_chosen : ByteArray := prog_1_method_14_code
def y_T_chosen : MethodName := ⟨R_T, "chosen", "(III)I"⟩
abbrev b_T_assign : ByteArray := prog_1_method_15_code
def y_T_assign : MethodName := ⟨R_T, "assign", "(I)I"⟩
abbrev b_T_flow : ByteArray := prog_1_method_16_code
def y_T_flow : MethodName := ⟨R_T, "flow", "(II)I"⟩
abbrev b_T_way : ByteArray := prog_1_method_17_code
def y_T_way : MethodName := ⟨R_T, "way", "(III)I"⟩
abbrev b_T_least : ByteArray := prog_1_method_18_code
def y_T_least : MethodName := ⟨R_T, "least", "(II)I"⟩
abbrev b_T_link : ByteArray := prog_1_method_19_code
def y_T_link : MethodName := ⟨R_T, "link", "(III)I"⟩
abbrev b_T_gap : ByteArray := prog_1_method_20_code
def y_T_gap : MethodName := ⟨R_T, "gap", "()J"⟩
abbrev b_T_count : ByteArray := prog_1_method_21_code
def y_T_count : MethodName := ⟨R_T, "count", "(II)I"⟩
abbrev b_T_fit : ByteArray := prog_1_method_22_code
def y_T_fit : MethodName := ⟨R_T, "fit", "(I)I"⟩
abbrev b_T_needNode : ByteArray := prog_1_method_23_code
def y_T_needNode : MethodName := ⟨R_T, "needNode", "(I)V"⟩
abbrev b_T_needZone : ByteArray := prog_1_method_24_code
def y_T_needZone : MethodName := ⟨R_T, "needZone", "(I)V"⟩
abbrev b_T_needStreet : ByteArray := prog_1_method_25_code
def y_T_needStreet : MethodName := ⟨R_T, "needStreet", "(I)V"⟩
abbrev b_T_needWithin : ByteArray := prog_1_method_26_code
def y_T_needWithin : MethodName := ⟨R_T, "needWithin", "(III)V"⟩
abbrev b_T_pairOf : ByteArray := prog_1_method_27_code
def y_T_pairOf : MethodName := ⟨R_T, "pairOf", "(II)I"⟩
abbrev b_T_assignAll : ByteArray := prog_1_method_28_code
def y_T_assignAll : MethodName := ⟨R_T, "assignAll", "(I)V"⟩
abbrev b_T_gatherDrivers : ByteArray := prog_1_method_29_code
def y_T_gatherDrivers : MethodName := ⟨R_T, "gatherDrivers", "()V"⟩
abbrev b_T_assignPart : ByteArray := prog_1_method_30_code
def y_T_assignPart : MethodName := ⟨R_T, "assignPart", "(I)V"⟩
abbrev b_T_leastTimeTo : ByteArray := prog_1_method_31_code
def y_T_leastTimeTo : MethodName := ⟨R_T, "leastTimeTo", "(I)J"⟩
abbrev b_T_scaleUsersOf : ByteArray := prog_1_method_32_code
def y_T_scaleUsersOf : MethodName := ⟨R_T, "scaleUsersOf", "(I)V"⟩
abbrev b_Z_init : ByteArray := prog_8_method_1_code
def y_Z_init : MethodName := ⟨R_Z, "<init>", "()V"⟩
abbrev b_Z_addZone : ByteArray := prog_8_method_2_code
def y_Z_addZone : MethodName := ⟨R_Z, "addZone", "(III)I"⟩
abbrev b_B_init : ByteArray := prog_6_method_1_code
def y_B_init : MethodName := ⟨R_B, "<init>", "()V"⟩
abbrev b_B_goRounds : ByteArray := prog_6_method_2_code
def y_B_goRounds : MethodName := ⟨R_B, "goRounds", "(LTripRounds$Zones;II)I"⟩
abbrev b_B_shareAllPeople : ByteArray := prog_6_method_3_code
def y_B_shareAllPeople : MethodName := ⟨R_B, "shareAllPeople", "(LTripRounds$Zones;)V"⟩
abbrev b_B_isMet : ByteArray := prog_6_method_4_code
def y_B_isMet : MethodName := ⟨R_B, "isMet", "(LTripRounds$Zones;I)Z"⟩
abbrev b_B_changeFactors : ByteArray := prog_6_method_5_code
def y_B_changeFactors : MethodName := ⟨R_B, "changeFactors", "(LTripRounds$Zones;)V"⟩
abbrev b_B_sumFrom : ByteArray := prog_6_method_6_code
def y_B_sumFrom : MethodName := ⟨R_B, "sumFrom", "(I)I"⟩
abbrev b_B_sumTo : ByteArray := prog_6_method_7_code
def y_B_sumTo : MethodName := ⟨R_B, "sumTo", "(I)I"⟩
abbrev b_M_init : ByteArray := prog_3_method_1_code
def y_M_init : MethodName := ⟨R_M, "<init>", "()V"⟩
abbrev b_M_placeOf : ByteArray := prog_3_method_2_code
def y_M_placeOf : MethodName := ⟨R_M, "placeOf", "(II)I"⟩
abbrev b_M_tripsBy : ByteArray := prog_3_method_3_code
def y_M_tripsBy : MethodName := ⟨R_M, "tripsBy", "(III)I"⟩
abbrev b_S_init : ByteArray := prog_5_method_1_code
def y_S_init : MethodName := ⟨R_S, "<init>", "()V"⟩
abbrev b_S_addStreet : ByteArray := prog_5_method_2_code
def y_S_addStreet : MethodName := ⟨R_S, "addStreet", "(IIIII)I"⟩
abbrev b_S_timeOf : ByteArray := prog_5_method_3_code
def y_S_timeOf : MethodName := ⟨R_S, "timeOf", "(I)I"⟩
abbrev b_S_farthestFromCount : ByteArray := prog_5_method_4_code
def y_S_farthestFromCount : MethodName := ⟨R_S, "farthestFromCount", "()I"⟩
abbrev b_W_init : ByteArray := prog_7_method_1_code
def y_W_init : MethodName := ⟨R_W, "<init>", "()V"⟩
abbrev b_W_holdTimes : ByteArray := prog_7_method_2_code
def y_W_holdTimes : MethodName := ⟨R_W, "holdTimes", "(LTripRounds$Streets;)V"⟩
abbrev b_W_aimAt : ByteArray := prog_7_method_3_code
def y_W_aimAt : MethodName := ⟨R_W, "aimAt", "(ILTripRounds$Streets;)V"⟩
abbrev b_W_lowerCosts : ByteArray := prog_7_method_4_code
def y_W_lowerCosts : MethodName := ⟨R_W, "lowerCosts", "(LTripRounds$Streets;)Z"⟩
abbrev b_W_chooseNexts : ByteArray := prog_7_method_5_code
def y_W_chooseNexts : MethodName := ⟨R_W, "chooseNexts", "(LTripRounds$Streets;)V"⟩
abbrev b_W_costBy : ByteArray := prog_7_method_6_code
def y_W_costBy : MethodName := ⟨R_W, "costBy", "(ILTripRounds$Streets;)J"⟩
abbrev b_W_timeFrom : ByteArray := prog_7_method_7_code
def y_W_timeFrom : MethodName := ⟨R_W, "timeFrom", "(I)I"⟩
abbrev b_W_streetAt : ByteArray := prog_7_method_8_code
def y_W_streetAt : MethodName := ⟨R_W, "streetAt", "(IILTripRounds$Streets;)I"⟩
abbrev b_A_init : ByteArray := prog_2_method_1_code
def y_A_init : MethodName := ⟨R_A, "<init>", "()V"⟩
abbrev b_A_placeOf : ByteArray := prog_2_method_2_code
def y_A_placeOf : MethodName := ⟨R_A, "placeOf", "(II)I"⟩
abbrev b_A_begin : ByteArray := prog_2_method_3_code
def y_A_begin : MethodName := ⟨R_A, "begin", "(I)V"⟩
abbrev b_A_tripsOfPart : ByteArray := prog_2_method_4_code
def y_A_tripsOfPart : MethodName := ⟨R_A, "tripsOfPart", "(II)I"⟩
abbrev b_A_send : ByteArray := prog_2_method_5_code
def y_A_send : MethodName := ⟨R_A, "send", "(IIILTripRounds$Ways;LTripRounds$Streets;)V"⟩
abbrev b_H_init : ByteArray := prog_4_method_1_code
def y_H_init : MethodName := ⟨R_H, "<init>", "(I)V"⟩
abbrev b_H_shareOut : ByteArray := prog_4_method_2_code
def y_H_shareOut : MethodName := ⟨R_H, "shareOut", "(II)V"⟩
abbrev b_H_giveOne : ByteArray := prog_4_method_3_code
def y_H_giveOne : MethodName := ⟨R_H, "giveOne", "(I)V"⟩
abbrev b_R_init : ByteArray := prog_10_method_1_code
def y_R_init : MethodName := ⟨R_R, "<init>", "()V"⟩
abbrev b_R_thrown : ByteArray := prog_10_method_2_code
def y_R_thrown : MethodName := ⟨R_R, "thrown", "()I"⟩
abbrev b_R_isIn : ByteArray := prog_10_method_3_code
def y_R_isIn : MethodName := ⟨R_R, "isIn", "(III)Z"⟩
abbrev b_R_isNode : ByteArray := prog_10_method_4_code
def y_R_isNode : MethodName := ⟨R_R, "isNode", "(I)Z"⟩
abbrev b_R_isZone : ByteArray := prog_10_method_5_code
def y_R_isZone : MethodName := ⟨R_R, "isZone", "(I)Z"⟩
abbrev b_R_isPair : ByteArray := prog_10_method_6_code
def y_R_isPair : MethodName := ⟨R_R, "isPair", "(II)Z"⟩
abbrev b_R_isStreet : ByteArray := prog_10_method_7_code
def y_R_isStreet : MethodName := ⟨R_R, "isStreet", "(I)Z"⟩
abbrev b_R_node : ByteArray := prog_10_method_8_code
def y_R_node : MethodName := ⟨R_R, "node", "()I"⟩
abbrev b_R_zone : ByteArray := prog_10_method_9_code
def y_R_zone : MethodName := ⟨R_R, "zone", "(III)I"⟩
abbrev b_R_street : ByteArray := prog_10_method_10_code
def y_R_street : MethodName := ⟨R_R, "street", "(IIIII)I"⟩
abbrev b_R_toll : ByteArray := prog_10_method_11_code
def y_R_toll : MethodName := ⟨R_R, "toll", "(II)I"⟩
abbrev b_R_open : ByteArray := prog_10_method_12_code
def y_R_open : MethodName := ⟨R_R, "open", "(IZ)Z"⟩
abbrev b_R_weight : ByteArray := prog_10_method_13_code
def y_R_weight : MethodName := ⟨R_R, "weight", "(III)I"⟩
abbrev b_R_size : ByteArray := prog_10_method_14_code
def y_R_size : MethodName := ⟨R_R, "size", "(III)I"⟩
abbrev b_R_share : ByteArray := prog_10_method_15_code
def y_R_share : MethodName := ⟨R_R, "share", "(JI)V"⟩
abbrev b_R_sumTo : ByteArray := prog_10_method_16_code
def y_R_sumTo : MethodName := ⟨R_R, "sumTo", "(I)J"⟩
abbrev b_R_oneRound : ByteArray := prog_10_method_17_code
def y_R_oneRound : MethodName := ⟨R_R, "oneRound", "()V"⟩
abbrev b_R_isMet : ByteArray := prog_10_method_18_code
def y_R_isMet : MethodName := ⟨R_R, "isMet", "(I)Z"⟩
abbrev b_R_rounds : ByteArray := prog_10_method_19_code
def y_R_rounds : MethodName := ⟨R_R, "rounds", "(II)I"⟩
abbrev b_R_trips : ByteArray := prog_10_method_20_code
def y_R_trips : MethodName := ⟨R_R, "trips", "(II)I"⟩
abbrev b_R_sum : ByteArray := prog_10_method_21_code
def y_R_sum : MethodName := ⟨R_R, "sum", "(II)I"⟩
abbrev b_R_factor : ByteArray := prog_10_method_22_code
def y_R_factor : MethodName := ⟨R_R, "factor", "(I)I"⟩
abbrev b_R_pull : ByteArray := prog_10_method_23_code
def y_R_pull : MethodName := ⟨R_R, "pull", "(IIII)I"⟩
abbrev b_R_byMode : ByteArray := prog_10_method_24_code
def y_R_byMode : MethodName := ⟨R_R, "byMode", "(II)I"⟩
abbrev b_R_chosen : ByteArray := prog_10_method_25_code
def y_R_chosen : MethodName := ⟨R_R, "chosen", "(III)I"⟩
abbrev b_R_timeOf : ByteArray := prog_10_method_26_code
def y_R_timeOf : MethodName := ⟨R_R, "timeOf", "(I)J"⟩
abbrev b_R_takeTimes : ByteArray := prog_10_method_27_code
def y_R_takeTimes : MethodName := ⟨R_R, "takeTimes", "()V"⟩
abbrev b_R_findNear : ByteArray := prog_10_method_28_code
def y_R_findNear : MethodName := ⟨R_R, "findNear", "(I)V"⟩
abbrev b_R_findWay : ByteArray := prog_10_method_29_code
def y_R_findWay : MethodName := ⟨R_R, "findWay", "(II)Z"⟩
abbrev b_R_assignAll : ByteArray := prog_10_method_30_code
def y_R_assignAll : MethodName := ⟨R_R, "assignAll", "(I)V"⟩
abbrev b_R_goPart : ByteArray := prog_10_method_31_code
def y_R_goPart : MethodName := ⟨R_R, "goPart", "(IIII)V"⟩
abbrev b_R_assign : ByteArray := prog_10_method_32_code
def y_R_assign : MethodName := ⟨R_R, "assign", "(I)I"⟩
abbrev b_R_flow : ByteArray := prog_10_method_33_code
def y_R_flow : MethodName := ⟨R_R, "flow", "(II)I"⟩
abbrev b_R_way : ByteArray := prog_10_method_34_code
def y_R_way : MethodName := ⟨R_R, "way", "(III)I"⟩
abbrev b_R_least : ByteArray := prog_10_method_35_code
def y_R_least : MethodName := ⟨R_R, "least", "(II)I"⟩
abbrev b_R_link : ByteArray := prog_10_method_36_code
def y_R_link : MethodName := ⟨R_R, "link", "(III)I"⟩
abbrev b_R_gap : ByteArray := prog_10_method_37_code
def y_R_gap : MethodName := ⟨R_R, "gap", "()J"⟩
abbrev b_R_count : ByteArray := prog_10_method_38_code
def y_R_count : MethodName := ⟨R_R, "count", "(II)I"⟩
abbrev b_R_offOf : ByteArray := prog_10_method_39_code
def y_R_offOf : MethodName := ⟨R_R, "offOf", "(I)J"⟩
abbrev b_R_worst : ByteArray := prog_10_method_40_code
def y_R_worst : MethodName := ⟨R_R, "worst", "()I"⟩
abbrev b_R_fit : ByteArray := prog_10_method_41_code
def y_R_fit : MethodName := ⟨R_R, "fit", "(I)I"⟩
abbrev b_L_node : ByteArray := method_3_code
def y_L_node : MethodName := ⟨R_L, "node", "(LTripRounds;[J)I"⟩
abbrev b_L_zone : ByteArray := method_4_code
def y_L_zone : MethodName := ⟨R_L, "zone", "(LTripRounds;III[J)I"⟩
abbrev b_L_street : ByteArray := method_5_code
def y_L_street : MethodName := ⟨R_L, "street", "(LTripRounds;IIIII[J)I"⟩
abbrev b_L_toll : ByteArray := method_6_code
def y_L_toll : MethodName := ⟨R_L, "toll", "(LTripRounds;II[J)I"⟩
abbrev b_L_open : ByteArray := method_7_code
def y_L_open : MethodName := ⟨R_L, "open", "(LTripRounds;IZ[J)I"⟩
abbrev b_L_weight : ByteArray := method_8_code
def y_L_weight : MethodName := ⟨R_L, "weight", "(LTripRounds;III[J)I"⟩
abbrev b_L_size : ByteArray := method_9_code
def y_L_size : MethodName := ⟨R_L, "size", "(LTripRounds;III[J)I"⟩
abbrev b_L_rounds : ByteArray := method_10_code
def y_L_rounds : MethodName := ⟨R_L, "rounds", "(LTripRounds;II[J)I"⟩
abbrev b_L_trips : ByteArray := method_11_code
def y_L_trips : MethodName := ⟨R_L, "trips", "(LTripRounds;II[J)I"⟩
abbrev b_L_sum : ByteArray := method_12_code
def y_L_sum : MethodName := ⟨R_L, "sum", "(LTripRounds;II[J)I"⟩
abbrev b_L_factor : ByteArray := method_13_code
def y_L_factor : MethodName := ⟨R_L, "factor", "(LTripRounds;I[J)I"⟩
abbrev b_L_pull : ByteArray := method_14_code
def y_L_pull : MethodName := ⟨R_L, "pull", "(LTripRounds;IIII[J)I"⟩
abbrev b_L_chosen : ByteArray := method_15_code
def y_L_chosen : MethodName := ⟨R_L, "chosen", "(LTripRounds;III[J)I"⟩
abbrev b_L_assign : ByteArray := method_16_code
def y_L_assign : MethodName := ⟨R_L, "assign", "(LTripRounds;I[J)I"⟩
abbrev b_L_flow : ByteArray := method_17_code
def y_L_flow : MethodName := ⟨R_L, "flow", "(LTripRounds;II[J)I"⟩
abbrev b_L_way : ByteArray := method_18_code
def y_L_way : MethodName := ⟨R_L, "way", "(LTripRounds;III[J)I"⟩
abbrev b_L_least : ByteArray := method_19_code
def y_L_least : MethodName := ⟨R_L, "least", "(LTripRounds;II[J)I"⟩
abbrev b_L_link : ByteArray := method_20_code
def y_L_link : MethodName := ⟨R_L, "link", "(LTripRounds;III[J)I"⟩
abbrev b_L_count : ByteArray := method_21_code
def y_L_count : MethodName := ⟨R_L, "count", "(LTripRounds;II[J)I"⟩
abbrev b_L_fit : ByteArray := method_22_code
def y_L_fit : MethodName := ⟨R_L, "fit", "(LTripRounds;I[J)I"⟩
abbrev clS : List vw_C := [(R_T, F_T, 7), (R_Z, F_Z, 4), (R_B, F_B, 4), (R_M, F_M, 2), (R_S, F_S, 10), (R_W, F_W, 3), (R_A, F_A, 5), (R_H, F_H, 3), (R_R, F_R, 32)]
end
section
def tw : List Cond := lw_tbl.filter goodWord
theorem tw_of {w : Cond} {i : Nat} (h : lw_tbl[i]? = some w) (hg : goodWord w = true) : w ∈ tw := List.mem_filter.mpr ⟨List.mem_of_getElem? h, hg⟩
theorem tw_in {w : Cond} (h : w ∈ tw) : w ∈ lw_tbl := (List.mem_filter.mp h).1
theorem tw_G {w : Cond} (h : w ∈ tw) : GoodIn tw (w :: tw) := fun v hv => by
  rcases List.mem_cons.mp hv with rfl | hv
  · exact ⟨h, good_of_word (List.mem_filter.mp h).2⟩
  · exact ⟨hv, good_of_word (List.mem_filter.mp hv).2⟩
theorem iw_T : ∀ w ∈ u_ws R_T F_T 7, w ∈ tw := fun w h => List.mem_filter.mpr ⟨(by decide +kernel : ∀ w ∈ u_ws R_T F_T 7, w ∈ lw_tbl) w h, (by decide +kernel : ∀ w ∈ u_ws R_T F_T 7, goodWord w = true) w h⟩
theorem iw_Z : ∀ w ∈ u_ws R_Z F_Z 4, w ∈ tw := fun w h => List.mem_filter.mpr ⟨(by decide +kernel : ∀ w ∈ u_ws R_Z F_Z 4, w ∈ lw_tbl) w h, (by decide +kernel : ∀ w ∈ u_ws R_Z F_Z 4, goodWord w = true) w h⟩
theorem iw_B : ∀ w ∈ u_ws R_B F_B 4, w ∈ tw := fun w h => List.mem_filter.mpr ⟨(by decide +kernel : ∀ w ∈ u_ws R_B F_B 4, w ∈ lw_tbl) w h, (by decide +kernel : ∀ w ∈ u_ws R_B F_B 4, goodWord w = true) w h⟩
theorem iw_M : ∀ w ∈ u_ws R_M F_M 2, w ∈ tw := fun w h => List.mem_filter.mpr ⟨(by decide +kernel : ∀ w ∈ u_ws R_M F_M 2, w ∈ lw_tbl) w h, (by decide +kernel : ∀ w ∈ u_ws R_M F_M 2, goodWord w = true) w h⟩
theorem iw_S : ∀ w ∈ u_ws R_S F_S 10, w ∈ tw := fun w h => List.mem_filter.mpr ⟨(by decide +kernel : ∀ w ∈ u_ws R_S F_S 10, w ∈ lw_tbl) w h, (by decide +kernel : ∀ w ∈ u_ws R_S F_S 10, goodWord w = true) w h⟩
theorem iw_W : ∀ w ∈ u_ws R_W F_W 3, w ∈ tw := fun w h => List.mem_filter.mpr ⟨(by decide +kernel : ∀ w ∈ u_ws R_W F_W 3, w ∈ lw_tbl) w h, (by decide +kernel : ∀ w ∈ u_ws R_W F_W 3, goodWord w = true) w h⟩
theorem iw_A : ∀ w ∈ u_ws R_A F_A 5, w ∈ tw := fun w h => List.mem_filter.mpr ⟨(by decide +kernel : ∀ w ∈ u_ws R_A F_A 5, w ∈ lw_tbl) w h, (by decide +kernel : ∀ w ∈ u_ws R_A F_A 5, goodWord w = true) w h⟩
theorem iw_H : ∀ w ∈ u_ws R_H F_H 3, w ∈ tw := fun w h => List.mem_filter.mpr ⟨(by decide +kernel : ∀ w ∈ u_ws R_H F_H 3, w ∈ lw_tbl) w h, (by decide +kernel : ∀ w ∈ u_ws R_H F_H 3, goodWord w = true) w h⟩
theorem iw_R : ∀ w ∈ u_ws R_R F_R 32, w ∈ tw := fun w h => List.mem_filter.mpr ⟨(by decide +kernel : ∀ w ∈ u_ws R_R F_R 32, w ∈ lw_tbl) w h, (by decide +kernel : ∀ w ∈ u_ws R_R F_R 32, goodWord w = true) w h⟩
set_option maxRecDepth 30000 in
theorem wd_0 : (.selects R_W y_W_lowerCosts y_W_lowerCosts : Cond) ∈ tw := tw_of (i := 0) rfl rfl
set_option maxRecDepth 30000 in
theorem wd_1 : (.selects R_W y_W_costBy y_W_costBy : Cond) ∈ tw := tw_of (i := 1) rfl rfl
set_option maxRecDepth 30000 in
theorem wd_2 : (.selects R_W y_W_chooseNexts y_W_chooseNexts : Cond) ∈ tw := tw_of (i := 2) rfl rfl
set_option maxRecDepth 30000 in
theorem wd_3 : (.selects R_T y_T_leastTimeTo y_T_leastTimeTo : Cond) ∈ tw := tw_of (i := 3) rfl rfl
set_option maxRecDepth 30000 in
theorem wd_5 : (.selects R_T y_T_needNode y_T_needNode : Cond) ∈ tw := tw_of (i := 5) rfl rfl
set_option maxRecDepth 30000 in
theorem wd_6 : (.selects R_T y_T_needStreet y_T_needStreet : Cond) ∈ tw := tw_of (i := 6) rfl rfl
set_option maxRecDepth 30000 in
theorem wd_7 : (.selects R_T y_T_needZone y_T_needZone : Cond) ∈ tw := tw_of (i := 7) rfl rfl
set_option maxRecDepth 30000 in
theorem wd_8 : (.selects R_B y_B_shareAllPeople y_B_shareAllPeople : Cond) ∈ tw := tw_of (i := 8) rfl rfl
set_option maxRecDepth 30000 in
theorem wd_9 : (.selects R_H y_H_giveOne y_H_giveOne : Cond) ∈ tw := tw_of (i := 9) rfl rfl
set_option maxRecDepth 30000 in
theorem wd_10 : (.selects R_B y_B_isMet y_B_isMet : Cond) ∈ tw := tw_of (i := 10) rfl rfl
set_option maxRecDepth 30000 in
theorem wd_11 : (.selects R_B y_B_changeFactors y_B_changeFactors : Cond) ∈ tw := tw_of (i := 11) rfl rfl
set_option maxRecDepth 30000 in
theorem wd_12 : (.selects R_T y_T_assignAll y_T_assignAll : Cond) ∈ tw := tw_of (i := 12) rfl rfl
set_option maxRecDepth 30000 in
theorem wd_13 : (.selects R_T y_T_gatherDrivers y_T_gatherDrivers : Cond) ∈ tw := tw_of (i := 13) rfl rfl
set_option maxRecDepth 30000 in
theorem wd_14 : (.selects R_T y_T_assignPart y_T_assignPart : Cond) ∈ tw := tw_of (i := 14) rfl rfl
set_option maxRecDepth 30000 in
theorem wd_15 : (.selects R_T y_T_scaleUsersOf y_T_scaleUsersOf : Cond) ∈ tw := tw_of (i := 15) rfl rfl
set_option maxRecDepth 30000 in
theorem wd_16 : (.selects R_R y_R_isNode y_R_isNode : Cond) ∈ tw := tw_of (i := 16) rfl rfl
set_option maxRecDepth 30000 in
theorem wd_17 : (.selects R_R y_R_isStreet y_R_isStreet : Cond) ∈ tw := tw_of (i := 17) rfl rfl
set_option maxRecDepth 30000 in
theorem wd_18 : (.selects R_R y_R_isPair y_R_isPair : Cond) ∈ tw := tw_of (i := 18) rfl rfl
set_option maxRecDepth 30000 in
theorem wd_19 : (.selects R_R y_R_isZone y_R_isZone : Cond) ∈ tw := tw_of (i := 19) rfl rfl
set_option maxRecDepth 30000 in
theorem wd_20 : (.selects R_R y_R_oneRound y_R_oneRound : Cond) ∈ tw := tw_of (i := 20) rfl rfl
set_option maxRecDepth 30000 in
theorem wd_21 : (.selects R_R y_R_share y_R_share : Cond) ∈ tw := tw_of (i := 21) rfl rfl
set_option maxRecDepth 30000 in
theorem wd_22 : (.selects R_R y_R_isMet y_R_isMet : Cond) ∈ tw := tw_of (i := 22) rfl rfl
set_option maxRecDepth 30000 in
theorem wd_23 : (.selects R_R y_R_sumTo y_R_sumTo : Cond) ∈ tw := tw_of (i := 23) rfl rfl
set_option maxRecDepth 30000 in
theorem wd_24 : (.selects R_R y_R_byMode y_R_byMode : Cond) ∈ tw := tw_of (i := 24) rfl rfl
set_option maxRecDepth 30000 in
theorem wd_25 : (.selects R_R y_R_assignAll y_R_assignAll : Cond) ∈ tw := tw_of (i := 25) rfl rfl
set_option maxRecDepth 30000 in
theorem wd_26 : (.selects R_R y_R_takeTimes y_R_takeTimes : Cond) ∈ tw := tw_of (i := 26) rfl rfl
set_option maxRecDepth 30000 in
theorem wd_27 : (.selects R_R y_R_timeOf y_R_timeOf : Cond) ∈ tw := tw_of (i := 27) rfl rfl
set_option maxRecDepth 30000 in
theorem wd_28 : (.selects R_R y_R_goPart y_R_goPart : Cond) ∈ tw := tw_of (i := 28) rfl rfl
set_option maxRecDepth 30000 in
theorem wd_29 : (.selects R_R y_R_findWay y_R_findWay : Cond) ∈ tw := tw_of (i := 29) rfl rfl
set_option maxRecDepth 30000 in
theorem wd_30 : (.selects R_R y_R_findNear y_R_findNear : Cond) ∈ tw := tw_of (i := 30) rfl rfl
set_option maxRecDepth 30000 in
theorem wd_31 : (.selects R_R y_R_worst y_R_worst : Cond) ∈ tw := tw_of (i := 31) rfl rfl
set_option maxRecDepth 30000 in
theorem wd_32 : (.selects R_R y_R_offOf y_R_offOf : Cond) ∈ tw := tw_of (i := 32) rfl rfl
set_option maxRecDepth 30000 in
theorem wd_34 : (.initialized R_T : Cond) ∈ tw := tw_of (i := 34) rfl rfl
set_option maxRecDepth 30000 in
theorem wd_35 : (.initialized R_Z : Cond) ∈ tw := tw_of (i := 35) rfl rfl
set_option maxRecDepth 30000 in
theorem wd_36 : (.initialized R_B : Cond) ∈ tw := tw_of (i := 36) rfl rfl
set_option maxRecDepth 30000 in
theorem wd_37 : (.initialized R_H : Cond) ∈ tw := tw_of (i := 37) rfl rfl
set_option maxRecDepth 30000 in
theorem wd_38 : (.initialized "java/util/Arrays" : Cond) ∈ tw := tw_of (i := 38) rfl rfl
set_option maxRecDepth 30000 in
theorem wd_39 : (.initialized R_M : Cond) ∈ tw := tw_of (i := 39) rfl rfl
set_option maxRecDepth 30000 in
theorem wd_40 : (.initialized R_S : Cond) ∈ tw := tw_of (i := 40) rfl rfl
set_option maxRecDepth 30000 in
theorem wd_41 : (.initialized R_W : Cond) ∈ tw := tw_of (i := 41) rfl rfl
set_option maxRecDepth 30000 in
theorem wd_42 : (.initialized R_A : Cond) ∈ tw := tw_of (i := 42) rfl rfl
set_option maxRecDepth 30000 in
theorem wd_43 : (.initialized R_R : Cond) ∈ tw := tw_of (i := 43) rfl rfl
set_option maxRecDepth 30000 in
theorem wd_49 : (.initialized "java/lang/Math" : Cond) ∈ tw := tw_of (i := 49) rfl rfl
set_option maxRecDepth 30000 in
theorem wd_64 : (.fieldLink R_Z 9 "TripRounds$Zones" "many" "I" : Cond) ∈ tw := tw_of (i := 64) rfl rfl
set_option maxRecDepth 30000 in
theorem wd_65 : (.fieldLink R_B 36 "TripRounds$Zones" "many" "I" : Cond) ∈ tw := tw_of (i := 65) rfl rfl
set_option maxRecDepth 30000 in
theorem wd_66 : (.fieldLink R_T 71 "TripRounds$Zones" "many" "I" : Cond) ∈ tw := tw_of (i := 66) rfl rfl
set_option maxRecDepth 30000 in
theorem wd_67 : (.fieldLink R_Z 15 "TripRounds$Zones" "places" "[I" : Cond) ∈ tw := tw_of (i := 67) rfl rfl
set_option maxRecDepth 30000 in
theorem wd_68 : (.fieldLink R_T 182 "TripRounds$Zones" "places" "[I" : Cond) ∈ tw := tw_of (i := 68) rfl rfl
set_option maxRecDepth 30000 in
theorem wd_69 : (.fieldLink R_Z 19 "TripRounds$Zones" "people" "[I" : Cond) ∈ tw := tw_of (i := 69) rfl rfl
set_option maxRecDepth 30000 in
theorem wd_70 : (.fieldLink R_B 61 "TripRounds$Zones" "people" "[I" : Cond) ∈ tw := tw_of (i := 70) rfl rfl
set_option maxRecDepth 30000 in
theorem wd_71 : (.fieldLink R_T 114 "TripRounds$Zones" "people" "[I" : Cond) ∈ tw := tw_of (i := 71) rfl rfl
set_option maxRecDepth 30000 in
theorem wd_72 : (.fieldLink R_Z 22 "TripRounds$Zones" "jobs" "[I" : Cond) ∈ tw := tw_of (i := 72) rfl rfl
set_option maxRecDepth 30000 in
theorem wd_73 : (.fieldLink R_B 75 "TripRounds$Zones" "jobs" "[I" : Cond) ∈ tw := tw_of (i := 73) rfl rfl
set_option maxRecDepth 30000 in
theorem wd_74 : (.fieldLink R_T 117 "TripRounds$Zones" "jobs" "[I" : Cond) ∈ tw := tw_of (i := 74) rfl rfl
set_option maxRecDepth 30000 in
theorem wd_97 : (.fieldLink R_H 7 "TripRounds$Sharing" "numbers" "[J" : Cond) ∈ tw := tw_of (i := 97) rfl rfl
set_option maxRecDepth 30000 in
theorem wd_98 : (.fieldLink R_M 28 "TripRounds$Sharing" "numbers" "[J" : Cond) ∈ tw := tw_of (i := 98) rfl rfl
set_option maxRecDepth 30000 in
theorem wd_99 : (.fieldLink R_B 53 "TripRounds$Sharing" "numbers" "[J" : Cond) ∈ tw := tw_of (i := 99) rfl rfl
set_option maxRecDepth 30000 in
theorem wd_100 : (.fieldLink R_H 13 "TripRounds$Sharing" "rests" "[J" : Cond) ∈ tw := tw_of (i := 100) rfl rfl
set_option maxRecDepth 30000 in
theorem wd_101 : (.fieldLink R_H 16 "TripRounds$Sharing" "shares" "[I" : Cond) ∈ tw := tw_of (i := 101) rfl rfl
set_option maxRecDepth 30000 in
theorem wd_102 : (.fieldLink R_M 36 "TripRounds$Sharing" "shares" "[I" : Cond) ∈ tw := tw_of (i := 102) rfl rfl
set_option maxRecDepth 30000 in
theorem wd_103 : (.fieldLink R_B 68 "TripRounds$Sharing" "shares" "[I" : Cond) ∈ tw := tw_of (i := 103) rfl rfl
set_option maxRecDepth 30000 in
theorem wd_113 : (.static ⟨"java/util/Arrays", "fill", "([II)V"⟩ : Cond) ∈ tw := tw_of (i := 113) rfl rfl
set_option maxRecDepth 30000 in
theorem wd_115 : (.fieldLink R_B 9 "TripRounds$Table" "weights" "[I" : Cond) ∈ tw := tw_of (i := 115) rfl rfl
set_option maxRecDepth 30000 in
theorem wd_116 : (.fieldLink R_T 111 "TripRounds$Table" "weights" "[I" : Cond) ∈ tw := tw_of (i := 116) rfl rfl
set_option maxRecDepth 30000 in
theorem wd_117 : (.fieldLink R_B 15 "TripRounds$Table" "cells" "[I" : Cond) ∈ tw := tw_of (i := 117) rfl rfl
set_option maxRecDepth 30000 in
theorem wd_118 : (.fieldLink R_T 124 "TripRounds$Table" "cells" "[I" : Cond) ∈ tw := tw_of (i := 118) rfl rfl
set_option maxRecDepth 30000 in
theorem wd_119 : (.fieldLink R_B 18 "TripRounds$Table" "factors" "[I" : Cond) ∈ tw := tw_of (i := 119) rfl rfl
set_option maxRecDepth 30000 in
theorem wd_120 : (.fieldLink R_T 134 "TripRounds$Table" "factors" "[I" : Cond) ∈ tw := tw_of (i := 120) rfl rfl
set_option maxRecDepth 30000 in
theorem wd_121 : (.fieldLink R_B 26 "TripRounds$Table" "sharing" "LTripRounds$Sharing;" : Cond) ∈ tw := tw_of (i := 121) rfl rfl
set_option maxRecDepth 30000 in
theorem wd_139 : (.methodLink R_M 24 y_M_placeOf : Cond) ∈ tw := tw_of (i := 139) rfl rfl
set_option maxRecDepth 30000 in
theorem wd_140 : (.static y_M_placeOf : Cond) ∈ tw := tw_of (i := 140) rfl rfl
set_option maxRecDepth 30000 in
theorem wd_142 : (.fieldLink R_M 9 "TripRounds$Modes" "pulls" "[I" : Cond) ∈ tw := tw_of (i := 142) rfl rfl
set_option maxRecDepth 30000 in
theorem wd_143 : (.fieldLink R_T 140 "TripRounds$Modes" "pulls" "[I" : Cond) ∈ tw := tw_of (i := 143) rfl rfl
set_option maxRecDepth 30000 in
theorem wd_144 : (.fieldLink R_M 20 "TripRounds$Modes" "sharing" "LTripRounds$Sharing;" : Cond) ∈ tw := tw_of (i := 144) rfl rfl
set_option maxRecDepth 30000 in
theorem wd_157 : (.fieldLink R_S 9 "TripRounds$Streets" "many" "I" : Cond) ∈ tw := tw_of (i := 157) rfl rfl
set_option maxRecDepth 30000 in
theorem wd_158 : (.fieldLink R_W 22 "TripRounds$Streets" "many" "I" : Cond) ∈ tw := tw_of (i := 158) rfl rfl
set_option maxRecDepth 30000 in
theorem wd_159 : (.fieldLink R_T 86 "TripRounds$Streets" "many" "I" : Cond) ∈ tw := tw_of (i := 159) rfl rfl
set_option maxRecDepth 30000 in
theorem wd_160 : (.fieldLink R_S 15 "TripRounds$Streets" "starts" "[I" : Cond) ∈ tw := tw_of (i := 160) rfl rfl
set_option maxRecDepth 30000 in
theorem wd_161 : (.fieldLink R_W 52 "TripRounds$Streets" "starts" "[I" : Cond) ∈ tw := tw_of (i := 161) rfl rfl
set_option maxRecDepth 30000 in
theorem wd_162 : (.fieldLink R_S 19 "TripRounds$Streets" "ends" "[I" : Cond) ∈ tw := tw_of (i := 162) rfl rfl
set_option maxRecDepth 30000 in
theorem wd_163 : (.fieldLink R_A 52 "TripRounds$Streets" "ends" "[I" : Cond) ∈ tw := tw_of (i := 163) rfl rfl
set_option maxRecDepth 30000 in
theorem wd_164 : (.fieldLink R_W 58 "TripRounds$Streets" "ends" "[I" : Cond) ∈ tw := tw_of (i := 164) rfl rfl
set_option maxRecDepth 30000 in
theorem wd_165 : (.fieldLink R_S 22 "TripRounds$Streets" "frees" "[I" : Cond) ∈ tw := tw_of (i := 165) rfl rfl
set_option maxRecDepth 30000 in
theorem wd_166 : (.fieldLink R_S 25 "TripRounds$Streets" "slopes" "[I" : Cond) ∈ tw := tw_of (i := 166) rfl rfl
set_option maxRecDepth 30000 in
theorem wd_167 : (.fieldLink R_S 28 "TripRounds$Streets" "rooms" "[I" : Cond) ∈ tw := tw_of (i := 167) rfl rfl
set_option maxRecDepth 30000 in
theorem wd_168 : (.fieldLink R_S 31 "TripRounds$Streets" "tolls" "[I" : Cond) ∈ tw := tw_of (i := 168) rfl rfl
set_option maxRecDepth 30000 in
theorem wd_169 : (.fieldLink R_T 96 "TripRounds$Streets" "tolls" "[I" : Cond) ∈ tw := tw_of (i := 169) rfl rfl
set_option maxRecDepth 30000 in
theorem wd_170 : (.fieldLink R_S 34 "TripRounds$Streets" "isOpen" "[Z" : Cond) ∈ tw := tw_of (i := 170) rfl rfl
set_option maxRecDepth 30000 in
theorem wd_171 : (.fieldLink R_T 100 "TripRounds$Streets" "isOpen" "[Z" : Cond) ∈ tw := tw_of (i := 171) rfl rfl
set_option maxRecDepth 30000 in
theorem wd_172 : (.fieldLink R_W 61 "TripRounds$Streets" "isOpen" "[Z" : Cond) ∈ tw := tw_of (i := 172) rfl rfl
set_option maxRecDepth 30000 in
theorem wd_173 : (.fieldLink R_S 38 "TripRounds$Streets" "counts" "[I" : Cond) ∈ tw := tw_of (i := 173) rfl rfl
set_option maxRecDepth 30000 in
theorem wd_174 : (.fieldLink R_T 189 "TripRounds$Streets" "counts" "[I" : Cond) ∈ tw := tw_of (i := 174) rfl rfl
set_option maxRecDepth 30000 in
theorem wd_175 : (.fieldLink R_S 41 "TripRounds$Streets" "volumes" "[I" : Cond) ∈ tw := tw_of (i := 175) rfl rfl
set_option maxRecDepth 30000 in
theorem wd_176 : (.fieldLink R_A 43 "TripRounds$Streets" "volumes" "[I" : Cond) ∈ tw := tw_of (i := 176) rfl rfl
set_option maxRecDepth 30000 in
theorem wd_177 : (.fieldLink R_T 152 "TripRounds$Streets" "volumes" "[I" : Cond) ∈ tw := tw_of (i := 177) rfl rfl
set_option maxRecDepth 30000 in
theorem wd_206 : (.fieldLink R_W 9 "TripRounds$Ways" "times" "[I" : Cond) ∈ tw := tw_of (i := 206) rfl rfl
set_option maxRecDepth 30000 in
theorem wd_207 : (.fieldLink R_T 179 "TripRounds$Ways" "times" "[I" : Cond) ∈ tw := tw_of (i := 207) rfl rfl
set_option maxRecDepth 30000 in
theorem wd_208 : (.fieldLink R_W 15 "TripRounds$Ways" "costs" "[J" : Cond) ∈ tw := tw_of (i := 208) rfl rfl
set_option maxRecDepth 30000 in
theorem wd_209 : (.fieldLink R_W 19 "TripRounds$Ways" "nexts" "[I" : Cond) ∈ tw := tw_of (i := 209) rfl rfl
set_option maxRecDepth 30000 in
theorem wd_210 : (.fieldLink R_A 40 "TripRounds$Ways" "nexts" "[I" : Cond) ∈ tw := tw_of (i := 210) rfl rfl
set_option maxRecDepth 30000 in
theorem wd_224 : (.fieldLink R_A 9 "TripRounds$Assignment" "parts" "I" : Cond) ∈ tw := tw_of (i := 224) rfl rfl
set_option maxRecDepth 30000 in
theorem wd_225 : (.fieldLink R_T 192 "TripRounds$Assignment" "parts" "I" : Cond) ∈ tw := tw_of (i := 225) rfl rfl
set_option maxRecDepth 30000 in
theorem wd_226 : (.fieldLink R_A 15 "TripRounds$Assignment" "lost" "I" : Cond) ∈ tw := tw_of (i := 226) rfl rfl
set_option maxRecDepth 30000 in
theorem wd_227 : (.fieldLink R_T 149 "TripRounds$Assignment" "lost" "I" : Cond) ∈ tw := tw_of (i := 227) rfl rfl
set_option maxRecDepth 30000 in
theorem wd_228 : (.fieldLink R_A 18 "TripRounds$Assignment" "drivers" "[I" : Cond) ∈ tw := tw_of (i := 228) rfl rfl
set_option maxRecDepth 30000 in
theorem wd_229 : (.fieldLink R_T 227 "TripRounds$Assignment" "drivers" "[I" : Cond) ∈ tw := tw_of (i := 229) rfl rfl
set_option maxRecDepth 30000 in
theorem wd_230 : (.fieldLink R_A 22 "TripRounds$Assignment" "went" "[I" : Cond) ∈ tw := tw_of (i := 230) rfl rfl
set_option maxRecDepth 30000 in
theorem wd_231 : (.fieldLink R_T 237 "TripRounds$Assignment" "went" "[I" : Cond) ∈ tw := tw_of (i := 231) rfl rfl
set_option maxRecDepth 30000 in
theorem wd_232 : (.fieldLink R_A 25 "TripRounds$Assignment" "used" "[I" : Cond) ∈ tw := tw_of (i := 232) rfl rfl
set_option maxRecDepth 30000 in
theorem wd_233 : (.fieldLink R_T 175 "TripRounds$Assignment" "used" "[I" : Cond) ∈ tw := tw_of (i := 233) rfl rfl
set_option maxRecDepth 30000 in
theorem wd_245 : (.fieldLink R_T 9 "TripRounds" "nodes" "I" : Cond) ∈ tw := tw_of (i := 245) rfl rfl
set_option maxRecDepth 30000 in
theorem wd_246 : (.fieldLink R_T 16 "TripRounds" "zones" "LTripRounds$Zones;" : Cond) ∈ tw := tw_of (i := 246) rfl rfl
set_option maxRecDepth 30000 in
theorem wd_247 : (.fieldLink R_T 23 "TripRounds" "table" "LTripRounds$Table;" : Cond) ∈ tw := tw_of (i := 247) rfl rfl
set_option maxRecDepth 30000 in
theorem wd_248 : (.fieldLink R_T 30 "TripRounds" "modes" "LTripRounds$Modes;" : Cond) ∈ tw := tw_of (i := 248) rfl rfl
set_option maxRecDepth 30000 in
theorem wd_249 : (.fieldLink R_T 37 "TripRounds" "streets" "LTripRounds$Streets;" : Cond) ∈ tw := tw_of (i := 249) rfl rfl
set_option maxRecDepth 30000 in
theorem wd_250 : (.fieldLink R_T 44 "TripRounds" "ways" "LTripRounds$Ways;" : Cond) ∈ tw := tw_of (i := 250) rfl rfl
set_option maxRecDepth 30000 in
theorem wd_251 : (.fieldLink R_T 51 "TripRounds" "latest" "LTripRounds$Assignment;" : Cond) ∈ tw := tw_of (i := 251) rfl rfl
set_option maxRecDepth 30000 in
theorem wd_271 : (.methodLink R_T 160 y_W_holdTimes : Cond) ∈ tw := tw_of (i := 271) rfl rfl
set_option maxRecDepth 30000 in
theorem wd_272 : (.instanceMethod y_W_holdTimes : Cond) ∈ tw := tw_of (i := 272) rfl rfl
set_option maxRecDepth 30000 in
theorem wd_273 : (.selects R_W y_W_holdTimes y_W_holdTimes : Cond) ∈ tw := tw_of (i := 273) rfl rfl
set_option maxRecDepth 30000 in
theorem wd_275 : (.methodLink R_W 28 y_S_timeOf : Cond) ∈ tw := tw_of (i := 275) rfl rfl
set_option maxRecDepth 30000 in
theorem wd_276 : (.instanceMethod y_S_timeOf : Cond) ∈ tw := tw_of (i := 276) rfl rfl
set_option maxRecDepth 30000 in
theorem wd_277 : (.selects R_S y_S_timeOf y_S_timeOf : Cond) ∈ tw := tw_of (i := 277) rfl rfl
set_option maxRecDepth 30000 in
theorem wd_279 : (.constantLong R_S 50 (1000000 : Int64) : Cond) ∈ tw := tw_of (i := 279) rfl rfl
set_option maxRecDepth 30000 in
theorem wd_280 : (.methodLink R_S 52 ⟨"java/lang/Math", "min", "(JJ)J"⟩ : Cond) ∈ tw := tw_of (i := 280) rfl rfl
set_option maxRecDepth 30000 in
theorem wd_281 : (.static ⟨"java/lang/Math", "min", "(JJ)J"⟩ : Cond) ∈ tw := tw_of (i := 281) rfl rfl
set_option maxRecDepth 30000 in
theorem wd_283 : (.methodLink R_T 164 y_W_aimAt : Cond) ∈ tw := tw_of (i := 283) rfl rfl
set_option maxRecDepth 30000 in
theorem wd_284 : (.instanceMethod y_W_aimAt : Cond) ∈ tw := tw_of (i := 284) rfl rfl
set_option maxRecDepth 30000 in
theorem wd_285 : (.selects R_W y_W_aimAt y_W_aimAt : Cond) ∈ tw := tw_of (i := 285) rfl rfl
set_option maxRecDepth 30000 in
theorem wd_287 : (.constantLong R_W 32 (1099511627776 : Int64) : Cond) ∈ tw := tw_of (i := 287) rfl rfl
set_option maxRecDepth 30000 in
theorem wd_288 : (.methodLink R_W 34 ⟨"java/util/Arrays", "fill", "([JJ)V"⟩ : Cond) ∈ tw := tw_of (i := 288) rfl rfl
set_option maxRecDepth 30000 in
theorem wd_289 : (.static ⟨"java/util/Arrays", "fill", "([JJ)V"⟩ : Cond) ∈ tw := tw_of (i := 289) rfl rfl
set_option maxRecDepth 30000 in
theorem wd_291 : (.methodLink R_W 40 y_W_lowerCosts : Cond) ∈ tw := tw_of (i := 291) rfl rfl
set_option maxRecDepth 30000 in
theorem wd_293 : (.instanceMethod y_W_lowerCosts : Cond) ∈ tw := tw_of (i := 293) rfl rfl
set_option maxRecDepth 30000 in
theorem wd_295 : (.methodLink R_W 48 y_W_costBy : Cond) ∈ tw := tw_of (i := 295) rfl rfl
set_option maxRecDepth 30000 in
theorem wd_297 : (.instanceMethod y_W_costBy : Cond) ∈ tw := tw_of (i := 297) rfl rfl
set_option maxRecDepth 30000 in
theorem wd_299 : (.constantLong R_W 65 (64 : Int64) : Cond) ∈ tw := tw_of (i := 299) rfl rfl
set_option maxRecDepth 30000 in
theorem wd_300 : (.methodLink R_W 44 y_W_chooseNexts : Cond) ∈ tw := tw_of (i := 300) rfl rfl
set_option maxRecDepth 30000 in
theorem wd_302 : (.instanceMethod y_W_chooseNexts : Cond) ∈ tw := tw_of (i := 302) rfl rfl
set_option maxRecDepth 30000 in
theorem wd_304 : (.methodLink R_W 55 ⟨"java/util/Arrays", "fill", "([II)V"⟩ : Cond) ∈ tw := tw_of (i := 304) rfl rfl
set_option maxRecDepth 30000 in
theorem wd_305 : (.methodLink R_T 185 y_T_leastTimeTo : Cond) ∈ tw := tw_of (i := 305) rfl rfl
set_option maxRecDepth 30000 in
theorem wd_307 : (.instanceMethod y_T_leastTimeTo : Cond) ∈ tw := tw_of (i := 307) rfl rfl
set_option maxRecDepth 30000 in
theorem wd_309 : (.methodLink R_T 172 y_W_timeFrom : Cond) ∈ tw := tw_of (i := 309) rfl rfl
set_option maxRecDepth 30000 in
theorem wd_310 : (.instanceMethod y_W_timeFrom : Cond) ∈ tw := tw_of (i := 310) rfl rfl
set_option maxRecDepth 30000 in
theorem wd_311 : (.selects R_W y_W_timeFrom y_W_timeFrom : Cond) ∈ tw := tw_of (i := 311) rfl rfl
set_option maxRecDepth 30000 in
theorem wd_313 : (.methodLink R_T 107 y_T_pairOf : Cond) ∈ tw := tw_of (i := 313) rfl rfl
set_option maxRecDepth 30000 in
theorem wd_314 : (.static y_T_pairOf : Cond) ∈ tw := tw_of (i := 314) rfl rfl
set_option maxRecDepth 30000 in
theorem wd_399 : (.methodLink R_T 62 y_T_needNode : Cond) ∈ tw := tw_of (i := 399) rfl rfl
set_option maxRecDepth 30000 in
theorem wd_401 : (.instanceMethod y_T_needNode : Cond) ∈ tw := tw_of (i := 401) rfl rfl
set_option maxRecDepth 30000 in
theorem wd_419 : (.constant R_T 66 (100000 : Int32) : Cond) ∈ tw := tw_of (i := 419) rfl rfl
set_option maxRecDepth 30000 in
theorem wd_420 : (.methodLink R_T 67 y_T_needWithin : Cond) ∈ tw := tw_of (i := 420) rfl rfl
set_option maxRecDepth 30000 in
theorem wd_421 : (.static y_T_needWithin : Cond) ∈ tw := tw_of (i := 421) rfl rfl
set_option maxRecDepth 30000 in
theorem wd_425 : (.methodLink R_T 76 y_Z_addZone : Cond) ∈ tw := tw_of (i := 425) rfl rfl
set_option maxRecDepth 30000 in
theorem wd_426 : (.instanceMethod y_Z_addZone : Cond) ∈ tw := tw_of (i := 426) rfl rfl
set_option maxRecDepth 30000 in
theorem wd_427 : (.selects R_Z y_Z_addZone y_Z_addZone : Cond) ∈ tw := tw_of (i := 427) rfl rfl
set_option maxRecDepth 30000 in
theorem wd_437 : (.constant R_T 85 (1000000 : Int32) : Cond) ∈ tw := tw_of (i := 437) rfl rfl
set_option maxRecDepth 30000 in
theorem wd_439 : (.methodLink R_T 89 y_S_addStreet : Cond) ∈ tw := tw_of (i := 439) rfl rfl
set_option maxRecDepth 30000 in
theorem wd_440 : (.instanceMethod y_S_addStreet : Cond) ∈ tw := tw_of (i := 440) rfl rfl
set_option maxRecDepth 30000 in
theorem wd_441 : (.selects R_S y_S_addStreet y_S_addStreet : Cond) ∈ tw := tw_of (i := 441) rfl rfl
set_option maxRecDepth 30000 in
theorem wd_450 : (.methodLink R_T 93 y_T_needStreet : Cond) ∈ tw := tw_of (i := 450) rfl rfl
set_option maxRecDepth 30000 in
theorem wd_452 : (.instanceMethod y_T_needStreet : Cond) ∈ tw := tw_of (i := 452) rfl rfl
set_option maxRecDepth 30000 in
theorem wd_469 : (.methodLink R_T 104 y_T_needZone : Cond) ∈ tw := tw_of (i := 469) rfl rfl
set_option maxRecDepth 30000 in
theorem wd_471 : (.instanceMethod y_T_needZone : Cond) ∈ tw := tw_of (i := 471) rfl rfl
set_option maxRecDepth 30000 in
theorem wd_488 : (.methodLink R_T 120 y_B_goRounds : Cond) ∈ tw := tw_of (i := 488) rfl rfl
set_option maxRecDepth 30000 in
theorem wd_489 : (.instanceMethod y_B_goRounds : Cond) ∈ tw := tw_of (i := 489) rfl rfl
set_option maxRecDepth 30000 in
theorem wd_490 : (.selects R_B y_B_goRounds y_B_goRounds : Cond) ∈ tw := tw_of (i := 490) rfl rfl
set_option maxRecDepth 30000 in
theorem wd_492 : (.methodLink R_B 42 y_B_shareAllPeople : Cond) ∈ tw := tw_of (i := 492) rfl rfl
set_option maxRecDepth 30000 in
theorem wd_494 : (.instanceMethod y_B_shareAllPeople : Cond) ∈ tw := tw_of (i := 494) rfl rfl
set_option maxRecDepth 30000 in
theorem wd_497 : (.methodLink R_B 64 y_H_shareOut : Cond) ∈ tw := tw_of (i := 497) rfl rfl
set_option maxRecDepth 30000 in
theorem wd_498 : (.instanceMethod y_H_shareOut : Cond) ∈ tw := tw_of (i := 498) rfl rfl
set_option maxRecDepth 30000 in
theorem wd_499 : (.selects R_H y_H_shareOut y_H_shareOut : Cond) ∈ tw := tw_of (i := 499) rfl rfl
set_option maxRecDepth 30000 in
theorem wd_501 : (.methodLink R_H 20 ⟨"java/util/Arrays", "fill", "([II)V"⟩ : Cond) ∈ tw := tw_of (i := 501) rfl rfl
set_option maxRecDepth 30000 in
theorem wd_502 : (.methodLink R_H 26 y_H_giveOne : Cond) ∈ tw := tw_of (i := 502) rfl rfl
set_option maxRecDepth 30000 in
theorem wd_504 : (.instanceMethod y_H_giveOne : Cond) ∈ tw := tw_of (i := 504) rfl rfl
set_option maxRecDepth 30000 in
theorem wd_506 : (.constantLong R_H 30 (-1 : Int64) : Cond) ∈ tw := tw_of (i := 506) rfl rfl
set_option maxRecDepth 30000 in
theorem wd_507 : (.methodLink R_B 46 y_B_isMet : Cond) ∈ tw := tw_of (i := 507) rfl rfl
set_option maxRecDepth 30000 in
theorem wd_509 : (.instanceMethod y_B_isMet : Cond) ∈ tw := tw_of (i := 509) rfl rfl
set_option maxRecDepth 30000 in
theorem wd_511 : (.methodLink R_B 71 y_B_sumTo : Cond) ∈ tw := tw_of (i := 511) rfl rfl
set_option maxRecDepth 30000 in
theorem wd_512 : (.instanceMethod y_B_sumTo : Cond) ∈ tw := tw_of (i := 512) rfl rfl
set_option maxRecDepth 30000 in
theorem wd_513 : (.selects R_B y_B_sumTo y_B_sumTo : Cond) ∈ tw := tw_of (i := 513) rfl rfl
set_option maxRecDepth 30000 in
theorem wd_515 : (.methodLink R_B 78 ⟨"java/lang/Math", "abs", "(I)I"⟩ : Cond) ∈ tw := tw_of (i := 515) rfl rfl
set_option maxRecDepth 30000 in
theorem wd_516 : (.static ⟨"java/lang/Math", "abs", "(I)I"⟩ : Cond) ∈ tw := tw_of (i := 516) rfl rfl
set_option maxRecDepth 30000 in
theorem wd_518 : (.methodLink R_B 50 y_B_changeFactors : Cond) ∈ tw := tw_of (i := 518) rfl rfl
set_option maxRecDepth 30000 in
theorem wd_520 : (.instanceMethod y_B_changeFactors : Cond) ∈ tw := tw_of (i := 520) rfl rfl
set_option maxRecDepth 30000 in
theorem wd_522 : (.constantLong R_B 83 (1000000 : Int64) : Cond) ∈ tw := tw_of (i := 522) rfl rfl
set_option maxRecDepth 30000 in
theorem wd_523 : (.methodLink R_B 85 ⟨"java/lang/Math", "min", "(JJ)J"⟩ : Cond) ∈ tw := tw_of (i := 523) rfl rfl
set_option maxRecDepth 30000 in
theorem wd_524 : (.methodLink R_B 89 ⟨"java/lang/Math", "max", "(JJ)J"⟩ : Cond) ∈ tw := tw_of (i := 524) rfl rfl
set_option maxRecDepth 30000 in
theorem wd_525 : (.static ⟨"java/lang/Math", "max", "(JJ)J"⟩ : Cond) ∈ tw := tw_of (i := 525) rfl rfl
set_option maxRecDepth 30000 in
theorem wd_541 : (.methodLink R_T 127 y_B_sumFrom : Cond) ∈ tw := tw_of (i := 541) rfl rfl
set_option maxRecDepth 30000 in
theorem wd_542 : (.instanceMethod y_B_sumFrom : Cond) ∈ tw := tw_of (i := 542) rfl rfl
set_option maxRecDepth 30000 in
theorem wd_543 : (.selects R_B y_B_sumFrom y_B_sumFrom : Cond) ∈ tw := tw_of (i := 543) rfl rfl
set_option maxRecDepth 30000 in
theorem wd_545 : (.methodLink R_T 131 y_B_sumTo : Cond) ∈ tw := tw_of (i := 545) rfl rfl
set_option maxRecDepth 30000 in
theorem wd_560 : (.methodLink R_T 137 y_M_placeOf : Cond) ∈ tw := tw_of (i := 560) rfl rfl
set_option maxRecDepth 30000 in
theorem wd_568 : (.methodLink R_T 143 y_M_tripsBy : Cond) ∈ tw := tw_of (i := 568) rfl rfl
set_option maxRecDepth 30000 in
theorem wd_569 : (.instanceMethod y_M_tripsBy : Cond) ∈ tw := tw_of (i := 569) rfl rfl
set_option maxRecDepth 30000 in
theorem wd_570 : (.selects R_M y_M_tripsBy y_M_tripsBy : Cond) ∈ tw := tw_of (i := 570) rfl rfl
set_option maxRecDepth 30000 in
theorem wd_572 : (.methodLink R_M 32 y_H_shareOut : Cond) ∈ tw := tw_of (i := 572) rfl rfl
set_option maxRecDepth 30000 in
theorem wd_580 : (.methodLink R_T 146 y_T_assignAll : Cond) ∈ tw := tw_of (i := 580) rfl rfl
set_option maxRecDepth 30000 in
theorem wd_582 : (.instanceMethod y_T_assignAll : Cond) ∈ tw := tw_of (i := 582) rfl rfl
set_option maxRecDepth 30000 in
theorem wd_584 : (.methodLink R_T 212 y_A_begin : Cond) ∈ tw := tw_of (i := 584) rfl rfl
set_option maxRecDepth 30000 in
theorem wd_585 : (.instanceMethod y_A_begin : Cond) ∈ tw := tw_of (i := 585) rfl rfl
set_option maxRecDepth 30000 in
theorem wd_586 : (.selects R_A y_A_begin y_A_begin : Cond) ∈ tw := tw_of (i := 586) rfl rfl
set_option maxRecDepth 30000 in
theorem wd_588 : (.methodLink R_A 28 ⟨"java/util/Arrays", "fill", "([II)V"⟩ : Cond) ∈ tw := tw_of (i := 588) rfl rfl
set_option maxRecDepth 30000 in
theorem wd_589 : (.methodLink R_T 215 ⟨"java/util/Arrays", "fill", "([II)V"⟩ : Cond) ∈ tw := tw_of (i := 589) rfl rfl
set_option maxRecDepth 30000 in
theorem wd_590 : (.methodLink R_T 221 y_T_gatherDrivers : Cond) ∈ tw := tw_of (i := 590) rfl rfl
set_option maxRecDepth 30000 in
theorem wd_592 : (.instanceMethod y_T_gatherDrivers : Cond) ∈ tw := tw_of (i := 592) rfl rfl
set_option maxRecDepth 30000 in
theorem wd_594 : (.methodLink R_T 224 y_T_assignPart : Cond) ∈ tw := tw_of (i := 594) rfl rfl
set_option maxRecDepth 30000 in
theorem wd_596 : (.instanceMethod y_T_assignPart : Cond) ∈ tw := tw_of (i := 596) rfl rfl
set_option maxRecDepth 30000 in
theorem wd_598 : (.methodLink R_T 230 y_A_tripsOfPart : Cond) ∈ tw := tw_of (i := 598) rfl rfl
set_option maxRecDepth 30000 in
theorem wd_599 : (.instanceMethod y_A_tripsOfPart : Cond) ∈ tw := tw_of (i := 599) rfl rfl
set_option maxRecDepth 30000 in
theorem wd_600 : (.selects R_A y_A_tripsOfPart y_A_tripsOfPart : Cond) ∈ tw := tw_of (i := 600) rfl rfl
set_option maxRecDepth 30000 in
theorem wd_602 : (.methodLink R_T 233 y_A_send : Cond) ∈ tw := tw_of (i := 602) rfl rfl
set_option maxRecDepth 30000 in
theorem wd_603 : (.instanceMethod y_A_send : Cond) ∈ tw := tw_of (i := 603) rfl rfl
set_option maxRecDepth 30000 in
theorem wd_604 : (.selects R_A y_A_send y_A_send : Cond) ∈ tw := tw_of (i := 604) rfl rfl
set_option maxRecDepth 30000 in
theorem wd_606 : (.methodLink R_A 34 y_W_timeFrom : Cond) ∈ tw := tw_of (i := 606) rfl rfl
set_option maxRecDepth 30000 in
theorem wd_607 : (.methodLink R_A 48 y_A_placeOf : Cond) ∈ tw := tw_of (i := 607) rfl rfl
set_option maxRecDepth 30000 in
theorem wd_608 : (.static y_A_placeOf : Cond) ∈ tw := tw_of (i := 608) rfl rfl
set_option maxRecDepth 30000 in
theorem wd_617 : (.methodLink R_T 155 y_S_timeOf : Cond) ∈ tw := tw_of (i := 617) rfl rfl
set_option maxRecDepth 30000 in
theorem wd_626 : (.methodLink R_T 168 y_W_streetAt : Cond) ∈ tw := tw_of (i := 626) rfl rfl
set_option maxRecDepth 30000 in
theorem wd_627 : (.instanceMethod y_W_streetAt : Cond) ∈ tw := tw_of (i := 627) rfl rfl
set_option maxRecDepth 30000 in
theorem wd_628 : (.selects R_W y_W_streetAt y_W_streetAt : Cond) ∈ tw := tw_of (i := 628) rfl rfl
set_option maxRecDepth 30000 in
theorem wd_644 : (.methodLink R_T 178 y_A_placeOf : Cond) ∈ tw := tw_of (i := 644) rfl rfl
set_option maxRecDepth 30000 in
theorem wd_660 : (.methodLink R_T 197 y_S_farthestFromCount : Cond) ∈ tw := tw_of (i := 660) rfl rfl
set_option maxRecDepth 30000 in
theorem wd_661 : (.instanceMethod y_S_farthestFromCount : Cond) ∈ tw := tw_of (i := 661) rfl rfl
set_option maxRecDepth 30000 in
theorem wd_662 : (.selects R_S y_S_farthestFromCount y_S_farthestFromCount : Cond) ∈ tw := tw_of (i := 662) rfl rfl
set_option maxRecDepth 30000 in
theorem wd_664 : (.methodLink R_S 58 ⟨"java/lang/Math", "abs", "(I)I"⟩ : Cond) ∈ tw := tw_of (i := 664) rfl rfl
set_option maxRecDepth 30000 in
theorem wd_665 : (.methodLink R_T 201 y_T_scaleUsersOf : Cond) ∈ tw := tw_of (i := 665) rfl rfl
set_option maxRecDepth 30000 in
theorem wd_667 : (.instanceMethod y_T_scaleUsersOf : Cond) ∈ tw := tw_of (i := 667) rfl rfl
set_option maxRecDepth 30000 in
theorem wd_669 : (.constantLong R_T 240 (1000000 : Int64) : Cond) ∈ tw := tw_of (i := 669) rfl rfl
set_option maxRecDepth 30000 in
theorem wd_670 : (.methodLink R_T 242 ⟨"java/lang/Math", "min", "(JJ)J"⟩ : Cond) ∈ tw := tw_of (i := 670) rfl rfl
set_option maxRecDepth 30000 in
theorem wd_677 : (.fieldLink R_R 87 "TripRoundsModel" "code" "I" : Cond) ∈ tw := tw_of (i := 677) rfl rfl
set_option maxRecDepth 30000 in
theorem wd_678 : (.fieldLink R_R 91 "TripRoundsModel" "nodes" "I" : Cond) ∈ tw := tw_of (i := 678) rfl rfl
set_option maxRecDepth 30000 in
theorem wd_679 : (.fieldLink R_R 98 "TripRoundsModel" "zones" "I" : Cond) ∈ tw := tw_of (i := 679) rfl rfl
set_option maxRecDepth 30000 in
theorem wd_680 : (.fieldLink R_R 105 "TripRoundsModel" "streets" "I" : Cond) ∈ tw := tw_of (i := 680) rfl rfl
set_option maxRecDepth 30000 in
theorem wd_681 : (.fieldLink R_R 7 "TripRoundsModel" "zoneNode" "[I" : Cond) ∈ tw := tw_of (i := 681) rfl rfl
set_option maxRecDepth 30000 in
theorem wd_682 : (.fieldLink R_R 13 "TripRoundsModel" "people" "[I" : Cond) ∈ tw := tw_of (i := 682) rfl rfl
set_option maxRecDepth 30000 in
theorem wd_683 : (.fieldLink R_R 16 "TripRoundsModel" "jobs" "[I" : Cond) ∈ tw := tw_of (i := 683) rfl rfl
set_option maxRecDepth 30000 in
theorem wd_684 : (.fieldLink R_R 19 "TripRoundsModel" "froms" "[I" : Cond) ∈ tw := tw_of (i := 684) rfl rfl
set_option maxRecDepth 30000 in
theorem wd_685 : (.fieldLink R_R 22 "TripRoundsModel" "tos" "[I" : Cond) ∈ tw := tw_of (i := 685) rfl rfl
set_option maxRecDepth 30000 in
theorem wd_686 : (.fieldLink R_R 25 "TripRoundsModel" "frees" "[I" : Cond) ∈ tw := tw_of (i := 686) rfl rfl
set_option maxRecDepth 30000 in
theorem wd_687 : (.fieldLink R_R 28 "TripRoundsModel" "slopes" "[I" : Cond) ∈ tw := tw_of (i := 687) rfl rfl
set_option maxRecDepth 30000 in
theorem wd_688 : (.fieldLink R_R 31 "TripRoundsModel" "rooms" "[I" : Cond) ∈ tw := tw_of (i := 688) rfl rfl
set_option maxRecDepth 30000 in
theorem wd_689 : (.fieldLink R_R 34 "TripRoundsModel" "tolls" "[I" : Cond) ∈ tw := tw_of (i := 689) rfl rfl
set_option maxRecDepth 30000 in
theorem wd_690 : (.fieldLink R_R 37 "TripRoundsModel" "shut" "[Z" : Cond) ∈ tw := tw_of (i := 690) rfl rfl
set_option maxRecDepth 30000 in
theorem wd_691 : (.fieldLink R_R 41 "TripRoundsModel" "counts" "[I" : Cond) ∈ tw := tw_of (i := 691) rfl rfl
set_option maxRecDepth 30000 in
theorem wd_692 : (.fieldLink R_R 44 "TripRoundsModel" "volumes" "[J" : Cond) ∈ tw := tw_of (i := 692) rfl rfl
set_option maxRecDepth 30000 in
theorem wd_693 : (.fieldLink R_R 48 "TripRoundsModel" "weights" "[I" : Cond) ∈ tw := tw_of (i := 693) rfl rfl
set_option maxRecDepth 30000 in
theorem wd_694 : (.fieldLink R_R 51 "TripRoundsModel" "table" "[I" : Cond) ∈ tw := tw_of (i := 694) rfl rfl
set_option maxRecDepth 30000 in
theorem wd_695 : (.fieldLink R_R 54 "TripRoundsModel" "pulls" "[I" : Cond) ∈ tw := tw_of (i := 695) rfl rfl
set_option maxRecDepth 30000 in
theorem wd_696 : (.fieldLink R_R 57 "TripRoundsModel" "went" "[I" : Cond) ∈ tw := tw_of (i := 696) rfl rfl
set_option maxRecDepth 30000 in
theorem wd_697 : (.fieldLink R_R 60 "TripRoundsModel" "links" "[I" : Cond) ∈ tw := tw_of (i := 697) rfl rfl
set_option maxRecDepth 30000 in
theorem wd_698 : (.fieldLink R_R 63 "TripRoundsModel" "factors" "[I" : Cond) ∈ tw := tw_of (i := 698) rfl rfl
set_option maxRecDepth 30000 in
theorem wd_699 : (.fieldLink R_R 154 "TripRoundsModel" "parts" "I" : Cond) ∈ tw := tw_of (i := 699) rfl rfl
set_option maxRecDepth 30000 in
theorem wd_700 : (.fieldLink R_R 157 "TripRoundsModel" "lost" "I" : Cond) ∈ tw := tw_of (i := 700) rfl rfl
set_option maxRecDepth 30000 in
theorem wd_701 : (.fieldLink R_R 66 "TripRoundsModel" "numbers" "[J" : Cond) ∈ tw := tw_of (i := 701) rfl rfl
set_option maxRecDepth 30000 in
theorem wd_702 : (.fieldLink R_R 69 "TripRoundsModel" "rests" "[J" : Cond) ∈ tw := tw_of (i := 702) rfl rfl
set_option maxRecDepth 30000 in
theorem wd_703 : (.fieldLink R_R 72 "TripRoundsModel" "gets" "[I" : Cond) ∈ tw := tw_of (i := 703) rfl rfl
set_option maxRecDepth 30000 in
theorem wd_704 : (.fieldLink R_R 75 "TripRoundsModel" "times" "[J" : Cond) ∈ tw := tw_of (i := 704) rfl rfl
set_option maxRecDepth 30000 in
theorem wd_705 : (.fieldLink R_R 78 "TripRoundsModel" "near" "[J" : Cond) ∈ tw := tw_of (i := 705) rfl rfl
set_option maxRecDepth 30000 in
theorem wd_706 : (.fieldLink R_R 81 "TripRoundsModel" "few" "[I" : Cond) ∈ tw := tw_of (i := 706) rfl rfl
set_option maxRecDepth 30000 in
theorem wd_707 : (.fieldLink R_R 84 "TripRoundsModel" "row" "[I" : Cond) ∈ tw := tw_of (i := 707) rfl rfl
set_option maxRecDepth 30000 in
theorem wd_708 : (.fieldLink R_R 151 "TripRoundsModel" "rowSize" "I" : Cond) ∈ tw := tw_of (i := 708) rfl rfl
set_option maxRecDepth 30000 in
theorem wd_786 : (.methodLink R_R 108 y_R_isNode : Cond) ∈ tw := tw_of (i := 786) rfl rfl
set_option maxRecDepth 30000 in
theorem wd_788 : (.instanceMethod y_R_isNode : Cond) ∈ tw := tw_of (i := 788) rfl rfl
set_option maxRecDepth 30000 in
theorem wd_790 : (.methodLink R_R 94 y_R_isIn : Cond) ∈ tw := tw_of (i := 790) rfl rfl
set_option maxRecDepth 30000 in
theorem wd_791 : (.static y_R_isIn : Cond) ∈ tw := tw_of (i := 791) rfl rfl
set_option maxRecDepth 30000 in
theorem wd_793 : (.constant R_R 111 (100000 : Int32) : Cond) ∈ tw := tw_of (i := 793) rfl rfl
set_option maxRecDepth 30000 in
theorem wd_798 : (.constant R_R 112 (1000000 : Int32) : Cond) ∈ tw := tw_of (i := 798) rfl rfl
set_option maxRecDepth 30000 in
theorem wd_803 : (.methodLink R_R 113 y_R_isStreet : Cond) ∈ tw := tw_of (i := 803) rfl rfl
set_option maxRecDepth 30000 in
theorem wd_805 : (.instanceMethod y_R_isStreet : Cond) ∈ tw := tw_of (i := 805) rfl rfl
set_option maxRecDepth 30000 in
theorem wd_815 : (.methodLink R_R 116 y_R_isPair : Cond) ∈ tw := tw_of (i := 815) rfl rfl
set_option maxRecDepth 30000 in
theorem wd_817 : (.instanceMethod y_R_isPair : Cond) ∈ tw := tw_of (i := 817) rfl rfl
set_option maxRecDepth 30000 in
theorem wd_819 : (.methodLink R_R 101 y_R_isZone : Cond) ∈ tw := tw_of (i := 819) rfl rfl
set_option maxRecDepth 30000 in
theorem wd_821 : (.instanceMethod y_R_isZone : Cond) ∈ tw := tw_of (i := 821) rfl rfl
set_option maxRecDepth 30000 in
theorem wd_831 : (.methodLink R_R 130 y_R_oneRound : Cond) ∈ tw := tw_of (i := 831) rfl rfl
set_option maxRecDepth 30000 in
theorem wd_833 : (.instanceMethod y_R_oneRound : Cond) ∈ tw := tw_of (i := 833) rfl rfl
set_option maxRecDepth 30000 in
theorem wd_835 : (.methodLink R_R 122 y_R_share : Cond) ∈ tw := tw_of (i := 835) rfl rfl
set_option maxRecDepth 30000 in
theorem wd_837 : (.instanceMethod y_R_share : Cond) ∈ tw := tw_of (i := 837) rfl rfl
set_option maxRecDepth 30000 in
theorem wd_839 : (.constantLong R_R 120 (-1 : Int64) : Cond) ∈ tw := tw_of (i := 839) rfl rfl
set_option maxRecDepth 30000 in
theorem wd_840 : (.methodLink R_R 133 y_R_isMet : Cond) ∈ tw := tw_of (i := 840) rfl rfl
set_option maxRecDepth 30000 in
theorem wd_842 : (.instanceMethod y_R_isMet : Cond) ∈ tw := tw_of (i := 842) rfl rfl
set_option maxRecDepth 30000 in
theorem wd_844 : (.methodLink R_R 126 y_R_sumTo : Cond) ∈ tw := tw_of (i := 844) rfl rfl
set_option maxRecDepth 30000 in
theorem wd_846 : (.instanceMethod y_R_sumTo : Cond) ∈ tw := tw_of (i := 846) rfl rfl
set_option maxRecDepth 30000 in
theorem wd_848 : (.constantLong R_R 136 (1000000 : Int64) : Cond) ∈ tw := tw_of (i := 848) rfl rfl
set_option maxRecDepth 30000 in
theorem wd_869 : (.methodLink R_R 138 y_R_byMode : Cond) ∈ tw := tw_of (i := 869) rfl rfl
set_option maxRecDepth 30000 in
theorem wd_871 : (.instanceMethod y_R_byMode : Cond) ∈ tw := tw_of (i := 871) rfl rfl
set_option maxRecDepth 30000 in
theorem wd_877 : (.methodLink R_R 170 y_R_assignAll : Cond) ∈ tw := tw_of (i := 877) rfl rfl
set_option maxRecDepth 30000 in
theorem wd_879 : (.instanceMethod y_R_assignAll : Cond) ∈ tw := tw_of (i := 879) rfl rfl
set_option maxRecDepth 30000 in
theorem wd_881 : (.methodLink R_R 160 y_R_takeTimes : Cond) ∈ tw := tw_of (i := 881) rfl rfl
set_option maxRecDepth 30000 in
theorem wd_883 : (.instanceMethod y_R_takeTimes : Cond) ∈ tw := tw_of (i := 883) rfl rfl
set_option maxRecDepth 30000 in
theorem wd_885 : (.methodLink R_R 142 y_R_timeOf : Cond) ∈ tw := tw_of (i := 885) rfl rfl
set_option maxRecDepth 30000 in
theorem wd_887 : (.instanceMethod y_R_timeOf : Cond) ∈ tw := tw_of (i := 887) rfl rfl
set_option maxRecDepth 30000 in
theorem wd_889 : (.methodLink R_R 163 y_R_goPart : Cond) ∈ tw := tw_of (i := 889) rfl rfl
set_option maxRecDepth 30000 in
theorem wd_891 : (.instanceMethod y_R_goPart : Cond) ∈ tw := tw_of (i := 891) rfl rfl
set_option maxRecDepth 30000 in
theorem wd_893 : (.methodLink R_R 167 y_R_findWay : Cond) ∈ tw := tw_of (i := 893) rfl rfl
set_option maxRecDepth 30000 in
theorem wd_895 : (.instanceMethod y_R_findWay : Cond) ∈ tw := tw_of (i := 895) rfl rfl
set_option maxRecDepth 30000 in
theorem wd_897 : (.methodLink R_R 147 y_R_findNear : Cond) ∈ tw := tw_of (i := 897) rfl rfl
set_option maxRecDepth 30000 in
theorem wd_899 : (.instanceMethod y_R_findNear : Cond) ∈ tw := tw_of (i := 899) rfl rfl
set_option maxRecDepth 30000 in
theorem wd_901 : (.constantLong R_R 145 (1000000000000 : Int64) : Cond) ∈ tw := tw_of (i := 901) rfl rfl
set_option maxRecDepth 30000 in
theorem wd_930 : (.methodLink R_R 176 y_R_worst : Cond) ∈ tw := tw_of (i := 930) rfl rfl
set_option maxRecDepth 30000 in
theorem wd_932 : (.instanceMethod y_R_worst : Cond) ∈ tw := tw_of (i := 932) rfl rfl
set_option maxRecDepth 30000 in
theorem wd_934 : (.methodLink R_R 173 y_R_offOf : Cond) ∈ tw := tw_of (i := 934) rfl rfl
set_option maxRecDepth 30000 in
theorem wd_936 : (.instanceMethod y_R_offOf : Cond) ∈ tw := tw_of (i := 936) rfl rfl
set_option maxRecDepth 30000 in
theorem wc_T_assignAll : (.code y_T_assignAll b_T_assignAll 3 none : Cond) ∈ tw := tw_of (i := 583) rfl rfl
set_option maxRecDepth 30000 in
theorem wc_T_assignPart : (.code y_T_assignPart b_T_assignPart 5 none : Cond) ∈ tw := tw_of (i := 597) rfl rfl
set_option maxRecDepth 30000 in
theorem wc_T_gatherDrivers : (.code y_T_gatherDrivers b_T_gatherDrivers 4 none : Cond) ∈ tw := tw_of (i := 593) rfl rfl
set_option maxRecDepth 30000 in
theorem wc_T_leastTimeTo : (.code y_T_leastTimeTo b_T_leastTimeTo 6 (some .long) : Cond) ∈ tw := tw_of (i := 308) rfl rfl
set_option maxRecDepth 30000 in
theorem wc_T_needNode : (.code y_T_needNode b_T_needNode 2 none : Cond) ∈ tw := tw_of (i := 402) rfl rfl
set_option maxRecDepth 30000 in
theorem wc_T_needStreet : (.code y_T_needStreet b_T_needStreet 2 none : Cond) ∈ tw := tw_of (i := 453) rfl rfl
set_option maxRecDepth 30000 in
theorem wc_T_needWithin : (.code y_T_needWithin b_T_needWithin 3 none : Cond) ∈ tw := tw_of (i := 422) rfl rfl
set_option maxRecDepth 30000 in
theorem wc_T_needZone : (.code y_T_needZone b_T_needZone 2 none : Cond) ∈ tw := tw_of (i := 472) rfl rfl
set_option maxRecDepth 30000 in
theorem wc_T_pairOf : (.code y_T_pairOf b_T_pairOf 2 (some .int) : Cond) ∈ tw := tw_of (i := 315) rfl rfl
set_option maxRecDepth 30000 in
theorem wc_T_scaleUsersOf : (.code y_T_scaleUsersOf b_T_scaleUsersOf 7 none : Cond) ∈ tw := tw_of (i := 668) rfl rfl
set_option maxRecDepth 30000 in
theorem wc_A_begin : (.code y_A_begin b_A_begin 2 none : Cond) ∈ tw := tw_of (i := 587) rfl rfl
set_option maxRecDepth 30000 in
theorem wc_A_placeOf : (.code y_A_placeOf b_A_placeOf 2 (some .int) : Cond) ∈ tw := tw_of (i := 609) rfl rfl
set_option maxRecDepth 30000 in
theorem wc_A_send : (.code y_A_send b_A_send 8 none : Cond) ∈ tw := tw_of (i := 605) rfl rfl
set_option maxRecDepth 30000 in
theorem wc_A_tripsOfPart : (.code y_A_tripsOfPart b_A_tripsOfPart 5 (some .int) : Cond) ∈ tw := tw_of (i := 601) rfl rfl
set_option maxRecDepth 30000 in
theorem wc_M_placeOf : (.code y_M_placeOf b_M_placeOf 2 (some .int) : Cond) ∈ tw := tw_of (i := 141) rfl rfl
set_option maxRecDepth 30000 in
theorem wc_M_tripsBy : (.code y_M_tripsBy b_M_tripsBy 5 (some .int) : Cond) ∈ tw := tw_of (i := 571) rfl rfl
set_option maxRecDepth 30000 in
theorem wc_H_giveOne : (.code y_H_giveOne b_H_giveOne 4 none : Cond) ∈ tw := tw_of (i := 505) rfl rfl
set_option maxRecDepth 30000 in
theorem wc_H_shareOut : (.code y_H_shareOut b_H_shareOut 9 none : Cond) ∈ tw := tw_of (i := 500) rfl rfl
set_option maxRecDepth 30000 in
theorem wc_S_addStreet : (.code y_S_addStreet b_S_addStreet 6 (some .int) : Cond) ∈ tw := tw_of (i := 442) rfl rfl
set_option maxRecDepth 30000 in
theorem wc_S_farthestFromCount : (.code y_S_farthestFromCount b_S_farthestFromCount 5 (some .int) : Cond) ∈ tw := tw_of (i := 663) rfl rfl
set_option maxRecDepth 30000 in
theorem wc_S_timeOf : (.code y_S_timeOf b_S_timeOf 4 (some .int) : Cond) ∈ tw := tw_of (i := 278) rfl rfl
set_option maxRecDepth 30000 in
theorem wc_B_changeFactors : (.code y_B_changeFactors b_B_changeFactors 6 none : Cond) ∈ tw := tw_of (i := 521) rfl rfl
set_option maxRecDepth 30000 in
theorem wc_B_goRounds : (.code y_B_goRounds b_B_goRounds 5 (some .int) : Cond) ∈ tw := tw_of (i := 491) rfl rfl
set_option maxRecDepth 30000 in
theorem wc_B_isMet : (.code y_B_isMet b_B_isMet 4 (some .boolean) : Cond) ∈ tw := tw_of (i := 510) rfl rfl
set_option maxRecDepth 30000 in
theorem wc_B_shareAllPeople : (.code y_B_shareAllPeople b_B_shareAllPeople 4 none : Cond) ∈ tw := tw_of (i := 495) rfl rfl
set_option maxRecDepth 30000 in
theorem wc_B_sumFrom : (.code y_B_sumFrom b_B_sumFrom 4 (some .int) : Cond) ∈ tw := tw_of (i := 544) rfl rfl
set_option maxRecDepth 30000 in
theorem wc_B_sumTo : (.code y_B_sumTo b_B_sumTo 4 (some .int) : Cond) ∈ tw := tw_of (i := 514) rfl rfl
set_option maxRecDepth 30000 in
theorem wc_W_aimAt : (.code y_W_aimAt b_W_aimAt 5 none : Cond) ∈ tw := tw_of (i := 286) rfl rfl
set_option maxRecDepth 30000 in
theorem wc_W_chooseNexts : (.code y_W_chooseNexts b_W_chooseNexts 6 none : Cond) ∈ tw := tw_of (i := 303) rfl rfl
set_option maxRecDepth 30000 in
theorem wc_W_costBy : (.code y_W_costBy b_W_costBy 5 (some .long) : Cond) ∈ tw := tw_of (i := 298) rfl rfl
set_option maxRecDepth 30000 in
theorem wc_W_holdTimes : (.code y_W_holdTimes b_W_holdTimes 3 none : Cond) ∈ tw := tw_of (i := 274) rfl rfl
set_option maxRecDepth 30000 in
theorem wc_W_lowerCosts : (.code y_W_lowerCosts b_W_lowerCosts 6 (some .boolean) : Cond) ∈ tw := tw_of (i := 294) rfl rfl
set_option maxRecDepth 30000 in
theorem wc_W_streetAt : (.code y_W_streetAt b_W_streetAt 6 (some .int) : Cond) ∈ tw := tw_of (i := 629) rfl rfl
set_option maxRecDepth 30000 in
theorem wc_W_timeFrom : (.code y_W_timeFrom b_W_timeFrom 2 (some .int) : Cond) ∈ tw := tw_of (i := 312) rfl rfl
set_option maxRecDepth 30000 in
theorem wc_Z_addZone : (.code y_Z_addZone b_Z_addZone 4 (some .int) : Cond) ∈ tw := tw_of (i := 428) rfl rfl
set_option maxRecDepth 30000 in
theorem wc_R_assignAll : (.code y_R_assignAll b_R_assignAll 5 none : Cond) ∈ tw := tw_of (i := 880) rfl rfl
set_option maxRecDepth 30000 in
theorem wc_R_byMode : (.code y_R_byMode b_R_byMode 4 (some .int) : Cond) ∈ tw := tw_of (i := 872) rfl rfl
set_option maxRecDepth 30000 in
theorem wc_R_findNear : (.code y_R_findNear b_R_findNear 9 none : Cond) ∈ tw := tw_of (i := 900) rfl rfl
set_option maxRecDepth 30000 in
theorem wc_R_findWay : (.code y_R_findWay b_R_findWay 8 (some .boolean) : Cond) ∈ tw := tw_of (i := 896) rfl rfl
set_option maxRecDepth 30000 in
theorem wc_R_goPart : (.code y_R_goPart b_R_goPart 10 none : Cond) ∈ tw := tw_of (i := 892) rfl rfl
set_option maxRecDepth 30000 in
theorem wc_R_isIn : (.code y_R_isIn b_R_isIn 3 (some .boolean) : Cond) ∈ tw := tw_of (i := 792) rfl rfl
set_option maxRecDepth 30000 in
theorem wc_R_isMet : (.code y_R_isMet b_R_isMet 6 (some .boolean) : Cond) ∈ tw := tw_of (i := 843) rfl rfl
set_option maxRecDepth 30000 in
theorem wc_R_isNode : (.code y_R_isNode b_R_isNode 2 (some .boolean) : Cond) ∈ tw := tw_of (i := 789) rfl rfl
set_option maxRecDepth 30000 in
theorem wc_R_isPair : (.code y_R_isPair b_R_isPair 3 (some .boolean) : Cond) ∈ tw := tw_of (i := 818) rfl rfl
set_option maxRecDepth 30000 in
theorem wc_R_isStreet : (.code y_R_isStreet b_R_isStreet 2 (some .boolean) : Cond) ∈ tw := tw_of (i := 806) rfl rfl
set_option maxRecDepth 30000 in
theorem wc_R_isZone : (.code y_R_isZone b_R_isZone 2 (some .boolean) : Cond) ∈ tw := tw_of (i := 822) rfl rfl
set_option maxRecDepth 30000 in
theorem wc_R_offOf : (.code y_R_offOf b_R_offOf 4 (some .long) : Cond) ∈ tw := tw_of (i := 937) rfl rfl
set_option maxRecDepth 30000 in
theorem wc_R_oneRound : (.code y_R_oneRound b_R_oneRound 3 none : Cond) ∈ tw := tw_of (i := 834) rfl rfl
set_option maxRecDepth 30000 in
theorem wc_R_share : (.code y_R_share b_R_share 10 none : Cond) ∈ tw := tw_of (i := 838) rfl rfl
set_option maxRecDepth 30000 in
theorem wc_R_sumTo : (.code y_R_sumTo b_R_sumTo 5 (some .long) : Cond) ∈ tw := tw_of (i := 847) rfl rfl
set_option maxRecDepth 30000 in
theorem wc_R_takeTimes : (.code y_R_takeTimes b_R_takeTimes 2 none : Cond) ∈ tw := tw_of (i := 884) rfl rfl
set_option maxRecDepth 30000 in
theorem wc_R_timeOf : (.code y_R_timeOf b_R_timeOf 4 (some .long) : Cond) ∈ tw := tw_of (i := 888) rfl rfl
set_option maxRecDepth 30000 in
theorem wc_R_worst : (.code y_R_worst b_R_worst 3 (some .int) : Cond) ∈ tw := tw_of (i := 933) rfl rfl
set_option maxRecDepth 30000 in
theorem wm_abs : (.code Lib.Math.abs.name Lib.Math.abs.code 1 (some .int) : Cond) ∈ tw := tw_of (i := 517) rfl rfl
set_option maxRecDepth 30000 in
theorem wm_max_long : (.code Lib.MathLoose.max_long.x Lib.MathLoose.max_long.code 4 (some .long) : Cond) ∈ tw := tw_of (i := 526) rfl rfl
set_option maxRecDepth 30000 in
theorem wm_min_long : (.code Lib.MathLoose.min_long.x Lib.MathLoose.min_long.code 4 (some .long) : Cond) ∈ tw := tw_of (i := 282) rfl rfl
abbrev b_fillI : ByteArray := prog_18_method_103_code
def y_fillI : MethodName := ⟨"java/util/Arrays", "fill", "([II)V"⟩
set_option maxRecDepth 30000 in
theorem wf_I : (.code y_fillI b_fillI 4 none : Cond) ∈ tw := tw_of (i := 114) rfl rfl
abbrev b_fillJ : ByteArray := prog_18_method_101_code
def y_fillJ : MethodName := ⟨"java/util/Arrays", "fill", "([JJ)V"⟩
set_option maxRecDepth 30000 in
theorem wf_J : (.code y_fillJ b_fillJ 5 none : Cond) ∈ tw := tw_of (i := 290) rfl rfl
/-- the one word of the tables that is kept by itself -/
def tW (U : State) : Prop := va_Nw (.methodLinkNest R_B 57 y_T_pairOf "TripRounds") U
theorem tW_warm {s U : State} (hW : s.WarmedH U.vm) (h : tW s) : tW U := va_Nw.warmM hW h
end
section
/-! STATES OF A COMPONENT: its int fields, its int and boolean arrays, its long arrays, each by a number -/
abbrev tS : Type := (Nat → Int32) × (Nat → Nat → Int32) × (Nat → Nat → Int64)
def tF (σ : tS) (j : Nat) (v : Int32) : tS := (upd σ.1 j v, σ.2)
def tI (σ : tS) (a k : Nat) (v : Int32) : tS := (σ.1, (fun b => if b = a then upd (σ.2.1 a) k v else σ.2.1 b), σ.2.2)
def tJ (σ : tS) (a k : Nat) (v : Int64) : tS := (σ.1, σ.2.1, (fun b => if b = a then vp_updL (σ.2.2 a) k v else σ.2.2 b))
def tIf (σ : tS) (a : Nat) (v : Int32) : tS := (σ.1, (fun b => if b = a then (fun _ => v) else σ.2.1 b), σ.2.2)
def tJf (σ : tS) (a : Nat) (v : Int64) : tS := (σ.1, σ.2.1, (fun b => if b = a then (fun _ => v) else σ.2.2 b))
/-! THE WORDS OF THE PURE FUNCTIONS: none where the machine would throw by itself or a counter runs out -/
def tg {α : Type} (i : Int32) (n : Nat) (k : Option α) : Option α := if i < 0 ∨ n ≤ i.toNatClampNeg then none else k
def tz {α : Type} (y : Int64) (k : Option α) : Option α := if y = 0 then none else k
def ty {α : Type} (y : Int32) (k : Option α) : Option α := if y = 0 then none else k
def tb {α : Type} (v : Int32) (k : Option α) : Option α := if v = 0 ∨ v = 1 then k else none
def tb1 {α β : Type} (o : Option α) (k : α → Option β) : Option β := match o with
  | none => none
  | some a => k a
def tb2 {α β : Type} (o : Option (α × tS)) (k : α → tS → Option β) : Option β := match o with
  | none => none
  | some q => k q.1 q.2
def tx {α : Type} (o k : Option α) : Option α := match o with
  | none => k
  | some a => some a
def tit {F : Type} (z : F) (st : F → F) : Nat → F
  | 0 => z
  | n + 1 => st (tit z st n)
theorem tg_of {α : Type} {i : Int32} {n : Nat} {k : Option α} {r : α} (h : tg i n k = some r) : vp_in i n ∧ k = some r := by
  unfold tg at h
  by_cases c : i < 0 ∨ n ≤ i.toNatClampNeg
  · rw [if_pos c] at h; cases h
  · rw [if_neg c] at h; exact ⟨c, h⟩
theorem tz_of {α : Type} {y : Int64} {k : Option α} {r : α} (h : tz y k = some r) : (¬ y = 0) ∧ k = some r := by
  unfold tz at h
  by_cases c : y = 0
  · rw [if_pos c] at h; cases h
  · rw [if_neg c] at h; exact ⟨c, h⟩
theorem ty_of {α : Type} {y : Int32} {k : Option α} {r : α} (h : ty y k = some r) : (¬ y = 0) ∧ k = some r := by
  unfold ty at h
  by_cases c : y = 0
  · rw [if_pos c] at h; cases h
  · rw [if_neg c] at h; exact ⟨c, h⟩
theorem tb_of {α : Type} {v : Int32} {k : Option α} {r : α} (h : tb v k = some r) : (v = 0 ∨ v = 1) ∧ k = some r := by
  unfold tb at h
  by_cases c : v = 0 ∨ v = 1
  · rw [if_pos c] at h; exact ⟨c, h⟩
  · rw [if_neg c] at h; cases h
theorem tb_nar {v : Int32} (h : v = 0 ∨ v = 1) : narrow .boolean (.int v) = .int v := by
  rcases h with rfl | rfl <;> decide
theorem tb1_of {α β : Type} {o : Option α} {k : α → Option β} {r : β} (h : tb1 o k = some r) : ∃ a, o = some a ∧ k a = some r := by
  cases o with
  | none => cases h
  | some a => exact ⟨a, rfl, h⟩
theorem tb2_of {α β : Type} {o : Option (α × tS)} {k : α → tS → Option β} {r : β} (h : tb2 o k = some r) : ∃ v s, o = some (v, s) ∧ k v s = some r := by
  cases o with
  | none => cases h
  | some a => exact ⟨a.1, a.2, rfl, h⟩
theorem tx_of {α : Type} {o k : Option α} {r : α} (h : tx o k = some r) : o = some r ∨ k = some r := by
  cases o with
  | none => exact Or.inr h
  | some a => exact Or.inl h
theorem tn_no {α : Type} {P : Prop} {r : α} (h : (none : Option α) = some r) : P := by cases h
theorem ts_of {α : Type} {a r : α} (h : some a = some r) : a = r := Option.some.inj h
theorem ti_pos {c : Prop} [Decidable c] {α : Type} {a b r : α} (h : c) (hf : (if c then a else b) = r) : a = r := by rw [if_pos h] at hf; exact hf
theorem ti_neg {c : Prop} [Decidable c] {α : Type} {a b r : α} (h : ¬ c) (hf : (if c then a else b) = r) : b = r := by rw [if_neg h] at hf; exact hf
/-! ADDRESSES AND CONTRACTS -/
def tA (n : Nat) (ad : Nat → Nat) : Nat → Prop := fun q => ∃ k, k < n ∧ q = ad k
def tD (n : Nat) (ad : Nat → Nat) : Prop := ∀ i j : Nat, i < n → j < n → ad i = ad j → i = j
theorem tD_of {n : Nat} {ad : Nat → Nat} {ws : va_W} (h : ws.map Prod.fst = (List.range n).map ad) (hd : tD n ad) : va_D (tA n ad) ws := by
  have at' : ∀ (i : Nat) (p : Nat × va_E), ws[i]? = some p → i < n ∧ p.1 = ad i := by
    intro i p hp
    have h1 : (ws.map Prod.fst)[i]? = some p.1 := by rw [List.getElem?_map, hp]; rfl
    rw [h, List.getElem?_map] at h1
    by_cases hi : i < n
    · rw [List.getElem?_range hi] at h1
      exact ⟨hi, (Option.some.inj h1).symm⟩
    · rw [List.getElem?_eq_none (by simpa using hi)] at h1
      cases h1
  refine ⟨fun i j p q hi hj e => ?_, fun k q hk => ?_⟩
  · obtain ⟨a1, a2⟩ := at' i p hi
    obtain ⟨b1, b2⟩ := at' j q hj
    exact hd i j a1 b1 (by rw [← a2, ← b2]; exact e)
  · obtain ⟨a1, a2⟩ := at' k q hk
    exact ⟨k, a1, a2⟩
/-- a method's start: its arguments, the cells of its component -/
def tP (D : va_G) (cl : List vw_C) (tys : List (ClassId × FieldType)) (w : va_W) (av : List Value) : Array Value → State → Prop := fun v U => v = av.toArray ∧ va_P D cl w U.heap ∧ va_K D cl tys U ∧ tW U
theorem tP_blind {D : va_G} {cl : List vw_C} {tys : List (ClassId × FieldType)} {w : va_W} {av : List Value} : FrameBlind (tP D cl tys w av) := fun a U g mk q => ⟨q.1, q.2.1, va_K.moved (u := U) (U := U.calling g mk a) (Vm.Alike.refl U.vm) q.2.2.1, va_Nw.same (u := U) rfl rfl q.2.2.2⟩
/-- its end: what it answers, the cells as they are then; nothing else has changed -/
def tQ (D : va_G) (cl : List vw_C) (w : va_W) (v : Option Value) (A : Nat → Prop) : Array Value → State → Outcome → State → Prop := fun _ st oc t => oc = .returned v ∧ va_P D cl w t.heap ∧ va_F A st t
/-- what stands fast in a method's walk -/
def tC (p : Program) (s : State) (m : MethodId) (args : Array Value) (meth : Method) (c : Code) (cc : ByteArray) (ret : Option FieldType) (nL : Nat) (own : String) (D : va_G) (cl : List vw_C) (tys : List (ClassId × FieldType)) : Prop :=
  p.tables.exec = Jvm.exec ∧ c.code = cc ∧ meth.sig.returnType = ret ∧ c.maxLocals = nL ∧ s.vm.findClass own = some m.cls ∧ (∀ w ∈ tw, w.before args s = true) ∧ meth.locks = false ∧ va_K D cl tys s ∧ tW s
theorem tw_cb {R : Room} {s : State} {args : Array Value} {own : String} {index maxL n : Nat} {y : MethodName} {bytes : ByteArray} {ret : Option FieldType} {rm : Room} (ht : ∀ w ∈ tw, w.before args s = true) (hc : Cond.code y bytes maxL ret ∈ tw) (hi : Cond.initialized y.cls ∈ tw) (hl : Cond.methodLink own index y ∈ tw) (hz : rm.cells = 0 ∧ rm.slots = 0)
    (hd : y.cls ≠ "java/lang/invoke/MethodHandle" ∧ y.cls ≠ "java/lang/invoke/VarHandle" ∧ (parseMethodDescriptor y.desc).map (fun d => d.parameters.length) = some n) (hR : rm.frames + 1 ≤ R.frames ∧ 8 + (maxL + 11) + rm.locals ≤ R.locals) :
    CallB R s args own index y bytes maxL ret (Cond.code y bytes maxL ret :: tw) rm 0 0 n := callB_of n ht (tw_G hc) rfl hz.1 hz.2 (ht _ hi) (ht _ hl) hd hR
section TRC
variable {p : Program} {l : Launch} {e : Env} {R : Room} {s : State} {m : MethodId} {args : Array Value} {below : List Frame} {meth : Method} {c : Code} {H : Heap} {locs : List Loc} {cells slots : Nat} {Q : State → Prop}
variable {pc : Nat} {ls : Array Slot} {rest st0 : List Value} {a : Array Value} {A0 A1 : Nat → Prop} {H0 : Heap} {mc ms : Nat} {free : Addr → Prop} {D : va_G} {cl : List vw_C} {w : va_W}
theorem tr_call {v : Option Value} (hr : va_Run p l e R s m args below meth c H locs cells slots mc ms (F0 m pc ls st0) rest (tQ D cl w v A1 a) free) (hS : va_S A0 H0 H locs) (hA : ∀ q, A1 q → A0 q) (hf : ∀ q, free q → A0 q)
    (kk : ∀ (H1 : Heap) (locs1 : List Loc), va_P D cl w H1 → (∀ q : Nat, q < H.size → ¬ A1 q → H1[q]? = H[q]?) → H.size ≤ H1.size → va_S A0 H0 H1 locs1 → W p l e R s m args below meth c H1 locs1 (cells + mc) (slots + ms) Q (F0 m (pc + 3) ls (v.toList ++ rest))) : W p l e R s m args below meth c H locs cells slots Q (F0 m pc ls st0) := by
  intro T hT X
  obtain ⟨v9, st₀, t, T', L, h0, X', hL, e1, e2, ⟨hv, hp, hz, hk⟩, st⟩ := hr T hT X
  cases hv
  rw [h0] at hz hk
  obtain ⟨t2, a1, b1⟩ := kk T'.heap (locs ++ L) (by rw [e1]; exact hp) (fun q h1 h2 => by rw [e1]; exact hk q h1 h2) (by rw [e1]; exact hz)
    ⟨Nat.le_trans hS.1 (by rw [e1]; exact hz), fun q h1 h2 => by rw [e1, hk q (Nat.lt_of_lt_of_le h1 hS.1) (fun z => h2 (hA q z))]; exact hS.2.1 q h1 h2, fun q hq => by
      rcases List.mem_append.mp hq with h | h
      · exact hS.2.2 q h
      · exact hf _ (hL q h)⟩ T' rfl X'
  exact ⟨t2, st t2 a1, b1⟩
theorem tr_calli {r : Int32} (hr : va_Run p l e R s m args below meth c H locs cells slots 0 0 (F0 m pc ls st0) rest (tQ D cl w (some (.int r)) A1 a) free) (hS : va_S A0 H0 H locs) (hA : ∀ q, A1 q → A0 q) (hf : ∀ q, free q → A0 q)
    (kk : ∀ (H1 : Heap) (locs1 : List Loc), va_P D cl w H1 → va_S A0 H0 H1 locs1 → W p l e R s m args below meth c H1 locs1 cells slots Q (F0 m (pc + 3) ls (.int r :: rest))) : W p l e R s m args below meth c H locs cells slots Q (F0 m pc ls st0) :=
  tr_call hr hS hA hf (fun H1 locs1 hP _ _ hS => kk H1 locs1 hP hS)
theorem tr_calll {r : Int64} (hr : va_Run p l e R s m args below meth c H locs cells slots 0 0 (F0 m pc ls st0) rest (tQ D cl w (some (.long r)) A1 a) free) (hS : va_S A0 H0 H locs) (hA : ∀ q, A1 q → A0 q) (hf : ∀ q, free q → A0 q)
    (kk : ∀ (H1 : Heap) (locs1 : List Loc), va_P D cl w H1 → va_S A0 H0 H1 locs1 → W p l e R s m args below meth c H1 locs1 cells slots Q (F0 m (pc + 3) ls (.long r :: rest))) : W p l e R s m args below meth c H locs cells slots Q (F0 m pc ls st0) :=
  tr_call hr hS hA hf (fun H1 locs1 hP _ _ hS => kk H1 locs1 hP hS)
theorem tr_callv (hr : va_Run p l e R s m args below meth c H locs cells slots 0 0 (F0 m pc ls st0) rest (tQ D cl w none A1 a) free) (hS : va_S A0 H0 H locs) (hA : ∀ q, A1 q → A0 q) (hf : ∀ q, free q → A0 q)
    (kk : ∀ (H1 : Heap) (locs1 : List Loc), va_P D cl w H1 → va_S A0 H0 H1 locs1 → W p l e R s m args below meth c H1 locs1 cells slots Q (F0 m (pc + 3) ls rest)) : W p l e R s m args below meth c H locs cells slots Q (F0 m pc ls st0) :=
  tr_call hr hS hA hf (fun H1 locs1 hP _ _ hS => kk H1 locs1 hP hS)
end TRC
end
section
/-! THROWS: a contract for the road on which a method throws a new object of class X, all old cells as they were -/
def tXo (X : String) (st : State) (o : Outcome) (t : State) : Prop := ∃ (x : Nat) (cell : Cell), o = .threw x ∧ t.heap[x]? = some cell ∧ cell.vm = .none ∧ st.vm.findClass X = some cell.cls
def tXf (st t : State) : Prop := st.WarmedH t.vm ∧ st.sameButNew ({ t with vm := st.vm } : State) [] 1 6
def MetX (l : Launch) (y : MethodName) (ws : List Cond) (rm : Room) (Pc : Array Value → State → Prop) (X : String) : Prop :=
  MetFree l y (headSpec ws rm) Pc (fun _ _ _ _ _ => True) (fun _ st o t => tXo X st o t ∧ tXf st t)
def XQ (below : List Frame) (X : String) (s : State) : State → Prop := fun t => ∃ o, t.status = .running ∧ Ended t below o ∧ tXo X s o t ∧ tXf s t
theorem MetX.ofW {l : Launch} {y : MethodName} {ws ws' : List Cond} {rm : Room} {Pc : Array Value → State → Prop} {X : String} {cc : ByteArray} {maxL : Nat} {ret : Option FieldType}
    (hy : plainName y.cls = true) (hw : ws = Cond.code y cc maxL ret :: ws')
    (body : ∀ p e s m args below meth c s₁, BodyLoose p l y (headSpec ws rm) cc maxL ret e s m args below meth c s₁ → c.maxLocals = maxL → Pc args s →
      W p l e (headSpec ws rm).room s m args below meth c s.heap [] 0 0 (XQ below X s) (entryFrame m args maxL)) : MetX l y ws rm Pc X := by
  refine MetFree.of_bodyS (code := cc) (maxLocals := maxL) (ret := ret) hy ?_ ?_
  · intro args s m h hn
    obtain ⟨meth, c, h1, h2, h3, h4, h5, h6, -, -⟩ := Cond.code_spec hn (atoms_spec (ws := ws) h _ (by rw [hw]; exact List.mem_cons_self))
    exact ⟨meth, c, h1, h2, h3, h4, h5, h6⟩
  · intro p e s m args below meth c s₁ B hml hP _
    have hh0 : s₁.heap = s.heap := by rw [B.state]; rfl
    obtain ⟨t, a1, o, b1, b2, b3⟩ := body p e s m args below meth c s₁ B hml hP s₁ hh0 (Stand.of_body B)
    exact ⟨t, o, a1, b1, b2, b3⟩
def tNo : Nat → Prop := fun _ => False
theorem tNo_nil {H0 H : Heap} {locs : List Loc} (h : va_S tNo H0 H locs) : locs = [] := by
  cases locs with
  | nil => rfl
  | cons a l => exact (h.2.2 a List.mem_cons_self).elim
theorem tx_none {c : Code} (h : c.exceptionTable.isEmpty = true) {k : Nat} : ∀ x ∈ c.exceptionTable.toList, covers x k = false := by
  intro x hx
  have h1 : c.exceptionTable.toList = [] := by simpa using h
  rw [h1] at hx
  cases hx
section TXW
variable {p : Program} {l : Launch} {e : Env} {R : Room} {s : State} {m : MethodId} {args : Array Value} {below : List Frame} {meth : Method} {c : Code} {H : Heap} {locs : List Loc} {cells slots : Nat} {Q : State → Prop}
variable {cc : ByteArray} {pc : Nat} {ls : Array Slot} {rest : List Value}
/-- new X; dup; ldc; <init>(String); athrow -/
theorem tr_throw {own X text : String} {names : List String} {i1 i2 i3 q : Nat} (hexec : p.tables.exec = Jvm.exec) (hb : c.code = cc) (hlocks : meth.locks = false) (hne : c.exceptionTable.isEmpty = true) (htr : l.stackTraces = false) (hown : s.vm.findClass own = some m.cls) (hml : c.maxLocals = ls.size)
    (hX : Bundle.fit X = true) (hnames : ∀ n ∈ names, Bundle.fit n = true) (hw : ∀ a ∈ Bundle.ownAtoms own i3 X names, a.before args s = true) (hcl : (Cond.classLink own i1 X).before args s = true) (hins : (Cond.instantiable X 6).before args s = true) (hini : (Cond.initialized X).before args s = true) (hZ : vk_R own i2 text q s)
    (hS : va_S tNo s.heap H locs) (hR : 1 ≤ R.cells ∧ 6 ≤ R.slots ∧ names.length + 3 < R.frames ∧ 1 + (13 * (names.length + 1) + 42) ≤ R.locals)
    (d1 : decode cc pc = .ok (.new i1, 3)) (d2 : decode cc (pc + 3) = .ok (.dup, 1)) (d3 : decode cc (pc + 4) = .ok (.ldc i2, 2)) (d4 : decode cc (pc + 6) = .ok (.invokespecial i3, 3)) (d5 : decode cc (pc + 9) = .ok (.athrow, 1)) :
    W p l e R s m args below meth c H locs 0 0 (XQ below X s) (F0 m pc ls []) := by
  have hl0 := tNo_nil hS
  subst hl0
  obtain ⟨cX, kX, hfX, hkX, -⟩ := Cond.instantiable_spec hins
  refine W.newcK hexec hb hown hcl hins hini rfl d1 (by omega) (by omega) hfX rfl fun H' kC hkC h1 h2 h3 => ?_
  refine lv_dup hexec hb (pc := pc + 3) d2 rfl ?_
  refine va_ldcS hexec hb hown hZ d3 ?_
  intro T hT X9
  subst hb
  have hcell : T.heap[H.size]? = some (freshCell cX kC) := by rw [hT]; exact h1
  obtain ⟨U, st, hrun, hend, hW, hsame, ce, hce, hoc⟩ := X9.ctorThrowS hexec (by rw [X9.admits.platform]; exact htr) hown hX hnames hw (fun x hx => by cases hx) hfX hkC hcell hS.1 (msg := .ref q) rfl
    (g := F0 m (pc + 6) ls (.ref q :: .ref H.size :: .ref H.size :: [])) rfl hml.symm rfl rfl (rest := []) rfl d4 d5 (tx_none hne) hR.2.2.1 (by show 2 * 0 + _ + _ ≤ _; have := hR.2.2.2; simp [Value.category]; omega) hlocks
  exact ⟨U, st, .threw H.size, hrun, hend, ⟨H.size, ce, rfl, hce, hoc.vm, hoc.cls⟩, hW, hsame⟩
/-- a call that throws: the machine stands with the exception noted over the caller's frame -/
def tX_Run (p : Program) (l : Launch) (e : Env) (R : Room) (s : State) (m : MethodId) (args : Array Value) (below : List Frame) (meth : Method) (c : Code) (H : Heap) (locs : List Loc) (g : JFrame) (rest : List Value) (X : String) : Prop :=
  ∀ T : State, T.heap = H → Stand p l e R s m args below meth c T locs 0 0 → ∃ (x : Nat) (T' : State), Stand p l e R s m args below meth c T' locs 1 6 ∧ (∃ cell : Cell, T'.heap[x]? = some cell ∧ cell.vm = .none ∧ s.vm.findClass X = some cell.cls) ∧ H.size ≤ T'.heap.size ∧ (∀ a : Nat, a < H.size → T'.heap[a]? = H[a]?) ∧
    ∀ target, Steps p.tables e below ((T'.setTop { g with stack := rest }).pushFrame (.throwing x)) target → Steps p.tables e below (T.setTop g) target
theorem tx_back {T : State} (X9 : Stand p l e R s m args below meth c T locs 0 0) {y : MethodName} {ws : List Cond} {rm : Room} {Pc : Array Value → State → Prop} {X : String} {bytes : ByteArray} {maxL : Nat} {ret : Option FieldType} (hM : MetX l y ws rm Pc X)
    (hws : ∀ w ∈ ws, ∀ (a' : Array Value) (U : State), s.WarmedH U.vm → w.before a' U = true) (hcode : Cond.code y bytes maxL ret ∈ ws) (hini : ∀ (a' : Array Value) (U : State), s.WarmedH U.vm → (Cond.initialized y.cls).before a' U = true)
    (hr : rm.cells ≤ R.cells ∧ rm.slots ≤ R.slots ∧ rm.frames + 1 ≤ R.frames ∧ 8 + (maxL + 11) + rm.locals ≤ R.locals)
    {g : JFrame} {ig : Instr} {mk : MethodId} {a : Array Value} (hg : g.method = m) (hsize : g.locals.size = c.maxLocals) (hdg : decode c.code g.pc = .ok (ig, 3)) (hW : 2 * g.monitorRoom + (g.stack.map fun v => v.category).sum ≤ 8) (hn : T.methodNamed? y = some mk) (hp : Pc a (T.calling g mk a)) :
    ∃ (x : Nat) (T' : State), Stand p l e R s m args below meth c T' locs 1 6 ∧ (∃ cell : Cell, T'.heap[x]? = some cell ∧ cell.vm = .none ∧ s.vm.findClass X = some cell.cls) ∧ T.heap.size ≤ T'.heap.size ∧ (∀ b : Nat, b < T.heap.size → T'.heap[b]? = T.heap[b]?) ∧
      Steps p.tables e below (doInvoke e (T.setTop g) [] mk a).1 ((T'.setTop g).pushFrame (.throwing x)) := by
  obtain ⟨methY, cY, hmY, hcY, -, hlY, -, -, -, -⟩ := Cond.code_spec hn (hws _ hcode a T X9.warmed)
  obtain ⟨kY, hkY, -⟩ := className_of_methodNamed hn
  have hinitY : kY.init = .initialized := Cond.initialized_spec (findClass_of_methodNamed hn) hkY (hini a T X9.warmed)
  have h : At T g.method c below := by rw [hg]; exact X9.here
  have happ : (headSpec ws rm).appliesLoose y e.platform (T.calling g mk a) = true :=
    Spec.appliesLoose_calling (g := g) h hdg hn hkY hinitY
      (X9.room_calling (g := g) (R' := (headSpec ws rm).room) hsize hmY hcY hr.2.2.1 (by rw [hlY]; show _ + _ + (maxL + 11) + rm.locals ≤ _; omega) (by show 0 + rm.cells ≤ _; omega) (by show 0 + rm.slots ≤ _; omega)) (atoms_intro fun w hw => hws w hw _ _ X9.warmed)
  have hfr0 : (T.setTop g).frames = .java g :: below := by rw [State.frames_setTop' g h.top, X9.tail]
  have hfr : (T.setTop g).frames = [.java g] ++ below := hfr0
  obtain ⟨o, t, hsteps, -, hend, ⟨⟨x, cell, rfl, hx1, hx2, hx3⟩, hW2, hsame⟩⟩ := Steps.callFree hM p X9.admits X9.cas X9.clock (acts := []) hfr happ hp trivial
  rw [hfr0] at hend
  have hW2' : (T.calling g mk a).WarmedH t.vm := hW2
  have hsame' : (T.calling g mk a).sameButNew ({ t with vm := (T.calling g mk a).vm } : State) [] 1 6 := hsame
  obtain ⟨T', X', hW3, hsame3, ht⟩ := X9.outOfThrown hg hend hW2' hsame'
  have hheap : t.heap = T'.heap := by rw [ht]; exact Stand.throwing_heap T' g x
  rw [List.append_nil, Nat.zero_add, Nat.zero_add] at X'
  refine ⟨x, T', X', ⟨cell, by rw [← hheap]; exact hx1, hx2, ?_⟩, hsame3.2.1, fun b hb => ?_, by rw [← ht]; exact hsteps⟩
  · have h1 : T.vm.findClass X = some cell.cls := hx3
    rw [← X9.warmed.alike.findClass]; exact h1
  · obtain ⟨cb, hcb⟩ : ∃ cb, T.heap[b]? = some cb := ⟨_, Array.getElem?_eq_some_iff.mpr ⟨hb, rfl⟩⟩
    rw [hcb]
    exact hsame3.old_cell hcb
theorem tx_runV {own C : String} {index nL n : Nat} {y : MethodName} {bytes : ByteArray} {maxL : Nat} {ret : Option FieldType} {ws : List Cond} {rm : Room} {Pc : Array Value → State → Prop} {X : String} {Ts : List Cond} {b : Addr} {As : List Value} {g : JFrame}
    (S : CallFix p m c cc nL s args Ts own) (hM : MetX l y ws rm Pc X) (cw : (∀ w ∈ ws, ∀ (a' : Array Value) (U : State), s.WarmedH U.vm → w.before a' U = true) ∧ Cond.code y bytes maxL ret ∈ ws ∧ (Cond.initialized y.cls).before args s = true ∧ (rm.cells ≤ R.cells ∧ rm.slots ≤ R.slots ∧ rm.frames + 1 ≤ R.frames ∧ 8 + (maxL + 11) + rm.locals ≤ R.locals))
    (hlink : (Cond.methodLink own index y).before args s = true) (hinst : (Cond.instanceMethod y).before args s = true) (hsel : (Cond.selects C y y).before args s = true) (hcode : (Cond.code y bytes maxL ret).before args s = true) (hy : y.cls ≠ "java/lang/invoke/MethodHandle" ∧ y.cls ≠ "java/lang/invoke/VarHandle")
    (hp : PreV s H C b Pc As) (hg : g.method = m) (hn : (parseMethodDescriptor y.desc).map (fun d => d.parameters.length) = some As.length) (hsize : g.locals.size = nL) (hstack : g.stack = As.reverse ++ .ref b :: rest) (hW : 2 * g.monitorRoom + (rest.map fun v => v.category).sum ≤ 8) (hdg : decode cc g.pc = .ok (.invokevirtual index, 3)) :
    tX_Run p l e R s m args below meth c H locs g rest X := by
  obtain ⟨hx, hb, hml, ho, -⟩ := S
  obtain ⟨hws, hcw, hini, hrm⟩ := cw
  obtain ⟨hbl, ⟨cellB, hcB, hoB, hclB⟩, hPc⟩ := hp
  intro T hT X9
  subst hb
  obtain ⟨mk, methM, hnamed, hmethM, hstM, habM⟩ := Cond.instanceMethod_spec hinst
  obtain ⟨methM', cM, hmethM', -, -, -, -, -, -, hsigM⟩ := Cond.code_spec hnamed hcode
  cases hmethM.symm.trans hmethM'
  obtain ⟨c2, r2, m2, q1, q2, q3, q4, kP, hkP, hkPi⟩ := Cond.selects_spec hsel
  cases hclB.symm.trans q1
  cases (State.methodFound?_of_named hnamed hy).symm.trans q2
  cases hnamed.symm.trans q3
  have hselP : selectMethod e.platform s.vm cellB.cls mk = .method mk := by rw [Launch.admits_selectMethod X9.admits]; exact q4
  rw [hsigM] at hn
  obtain ⟨vm₁, X₁, hstep₁⟩ := X9.invokevirtual hx ho hlink hnamed hmethM hstM hkP hkPi hy (a := b) (cell := cellB) (by rw [hT]; exact hcB)
    (fun z h => by rw [h] at hoB; cases hoB) hselP hmethM habM hkP hkPi (g := g) hg (argsL := As) (rest := rest) (Option.some.inj hn).symm hstack hdg
  obtain ⟨x, T', X', hc, hz, ho2, hst⟩ := tx_back X₁ hM hws hcw (fun a' U hW => word_at hW (Or.inl (by first | rfl | simp [Cond.onTables, Cond.keeps, Cond.steady])) hini) hrm (g := { g with stack := rest }) (ig := .invokevirtual index) (mk := mk) (a := (Value.ref b :: As).toArray) hg (hsize.trans hml.symm) hdg hW (X₁.named hnamed) (hbl _ _ _ _ (hPc (T.setVm vm₁) hT X₁.warmed))
  refine ⟨x, T', X', hc, by rw [← hT]; exact hz, fun a ha => by rw [← hT]; exact ho2 a (by rw [← hT] at ha; exact ha), fun target h => hstep₁ _ fun acts => by rw [doInvoke_state]; exact hst.trans h⟩
theorem tx_runS {own : String} {index nL : Nat} {y : MethodName} {bytes : ByteArray} {maxL : Nat} {ret : Option FieldType} {ws : List Cond} {rm : Room} {Pc : Array Value → State → Prop} {X : String} {Ts : List Cond} {As : List Value} {g : JFrame}
    (S : CallFix p m c cc nL s args Ts own) (hM : MetX l y ws rm Pc X) (cw : (∀ w ∈ ws, ∀ (a' : Array Value) (U : State), s.WarmedH U.vm → w.before a' U = true) ∧ Cond.code y bytes maxL ret ∈ ws ∧ (Cond.initialized y.cls).before args s = true ∧ (rm.cells ≤ R.cells ∧ rm.slots ≤ R.slots ∧ rm.frames + 1 ≤ R.frames ∧ 8 + (maxL + 11) + rm.locals ≤ R.locals))
    (hlink : (Cond.methodLink own index y).before args s = true) (hstat : (Cond.static y).before args s = true) (hcode : (Cond.code y bytes maxL ret).before args s = true) (hy : y.cls ≠ "java/lang/invoke/MethodHandle" ∧ y.cls ≠ "java/lang/invoke/VarHandle")
    (hp : PreS s H Pc As) (hg : g.method = m) (hn : (parseMethodDescriptor y.desc).map (fun d => d.parameters.length) = some As.length) (hsize : g.locals.size = nL) (hstack : g.stack = As.reverse ++ rest) (hW : 2 * g.monitorRoom + (rest.map fun v => v.category).sum ≤ 8) (hdg : decode cc g.pc = .ok (.invokestatic index, 3)) :
    tX_Run p l e R s m args below meth c H locs g rest X := by
  obtain ⟨hx, hb, hml, ho, -⟩ := S
  obtain ⟨hws, hcw, hini, hrm⟩ := cw
  obtain ⟨hbl, hPc⟩ := hp
  intro T hT X9
  subst hb
  obtain ⟨mk, hnamed⟩ := Cond.code_named hcode
  obtain ⟨methM, cM, hmethM, -, -, -, -, -, -, hsigM⟩ := Cond.code_spec hnamed hcode
  have hstatic : methM.isStatic = true := Cond.static_spec hnamed hmethM hstat
  obtain ⟨kP, hkP, -⟩ := className_of_methodNamed hnamed
  have hinitP : kP.init = .initialized := Cond.initialized_spec (findClass_of_methodNamed hnamed) hkP hini
  rw [hsigM] at hn
  obtain ⟨vm₁, X₁, hstep₁⟩ := X9.invokestatic hx ho hlink hnamed hmethM hstatic hkP hinitP hy (g := g) hg (argsL := As) (rest := rest) (Option.some.inj hn).symm hstack hdg
  obtain ⟨x, T', X', hc, hz, ho2, hst⟩ := tx_back X₁ hM hws hcw (fun a' U hW => word_at hW (Or.inl (by first | rfl | simp [Cond.onTables, Cond.keeps, Cond.steady])) hini) hrm (g := { g with stack := rest }) (ig := .invokestatic index) (mk := mk) (a := As.toArray) hg (hsize.trans hml.symm) hdg hW (X₁.named hnamed) (hbl _ _ _ _ (hPc (T.setVm vm₁) hT X₁.warmed))
  refine ⟨x, T', X', hc, by rw [← hT]; exact hz, fun a ha => by rw [← hT]; exact ho2 a (by rw [← hT] at ha; exact ha), fun target h => hstep₁ _ fun acts => by rw [doInvoke_state]; exact hst.trans h⟩
/-- the callee throws, and nothing here catches it -/
theorem tr_pass {X : String} {st0 : List Value} (hr : tX_Run p l e R s m args below meth c H locs (F0 m pc ls st0) rest X) (hlocks : meth.locks = false) (hne : c.exceptionTable.isEmpty = true) (hS : va_S tNo s.heap H locs) : W p l e R s m args below meth c H locs 0 0 (XQ below X s) (F0 m pc ls st0) := by
  have hl0 := tNo_nil hS
  subst hl0
  intro T hT X9
  obtain ⟨x, T', X', ⟨cell, h1, h2, h3⟩, hz, ho2, hst⟩ := hr T hT X9
  obtain ⟨l1, l2, l3, l4, l5⟩ := X'.leaveThrown x (g := F0 m pc ls rest) rfl rfl rfl (tx_none hne) hlocks
  exact ⟨_, hst _ l1, .threw x, l2, l3, ⟨x, cell, rfl, h1, h2, h3⟩, l4, l5⟩
end TXW
end
section
theorem d_fillI_0 : decode b_fillI 0 = .ok (.iconst 0, 1) := by decide +kernel
theorem d_fillI_1 : decode b_fillI 1 = .ok (.istore_n 2, 1) := by decide +kernel
theorem d_fillI_2 : decode b_fillI 2 = .ok (.aload_n 0, 1) := by decide +kernel
theorem d_fillI_3 : decode b_fillI 3 = .ok (.arraylength, 1) := by decide +kernel
theorem d_fillI_4 : decode b_fillI 4 = .ok (.istore_n 3, 1) := by decide +kernel
theorem d_fillI_5 : decode b_fillI 5 = .ok (.iload_n 2, 1) := by decide +kernel
theorem d_fillI_6 : decode b_fillI 6 = .ok (.iload_n 3, 1) := by decide +kernel
theorem d_fillI_7 : decode b_fillI 7 = .ok (.if_icmp .ge 13, 3) := by decide +kernel
theorem d_fillI_10 : decode b_fillI 10 = .ok (.aload_n 0, 1) := by decide +kernel
theorem d_fillI_11 : decode b_fillI 11 = .ok (.iload_n 2, 1) := by decide +kernel
theorem d_fillI_12 : decode b_fillI 12 = .ok (.iload_n 1, 1) := by decide +kernel
theorem d_fillI_13 : decode b_fillI 13 = .ok (.iastore, 1) := by decide +kernel
theorem d_fillI_14 : decode b_fillI 14 = .ok (.iinc 2 1, 3) := by decide +kernel
theorem d_fillI_17 : decode b_fillI 17 = .ok (.goto (-12), 3) := by decide +kernel
theorem d_fillI_20 : decode b_fillI 20 = .ok (.return_, 1) := by decide +kernel
theorem d_fillJ_0 : decode b_fillJ 0 = .ok (.iconst 0, 1) := by decide +kernel
theorem d_fillJ_1 : decode b_fillJ 1 = .ok (.istore_n 3, 1) := by decide +kernel
theorem d_fillJ_2 : decode b_fillJ 2 = .ok (.aload_n 0, 1) := by decide +kernel
theorem d_fillJ_3 : decode b_fillJ 3 = .ok (.arraylength, 1) := by decide +kernel
theorem d_fillJ_4 : decode b_fillJ 4 = .ok (.istore 4, 2) := by decide +kernel
theorem d_fillJ_6 : decode b_fillJ 6 = .ok (.iload_n 3, 1) := by decide +kernel
theorem d_fillJ_7 : decode b_fillJ 7 = .ok (.iload 4, 2) := by decide +kernel
theorem d_fillJ_9 : decode b_fillJ 9 = .ok (.if_icmp .ge 13, 3) := by decide +kernel
theorem d_fillJ_12 : decode b_fillJ 12 = .ok (.aload_n 0, 1) := by decide +kernel
theorem d_fillJ_13 : decode b_fillJ 13 = .ok (.iload_n 3, 1) := by decide +kernel
theorem d_fillJ_14 : decode b_fillJ 14 = .ok (.lload_n 1, 1) := by decide +kernel
theorem d_fillJ_15 : decode b_fillJ 15 = .ok (.lastore, 1) := by decide +kernel
theorem d_fillJ_16 : decode b_fillJ 16 = .ok (.iinc 3 1, 3) := by decide +kernel
theorem d_fillJ_19 : decode b_fillJ 19 = .ok (.goto (-13), 3) := by decide +kernel
theorem d_fillJ_22 : decode b_fillJ 22 = .ok (.return_, 1) := by decide +kernel
/-! java.util.Arrays.fill of an int[] and of a long[]: the whole array becomes one number -/
theorem ar_congr {cA : ClassId} {n : Nat} {f g : Nat → Value} (h : ∀ j, j < n → f j = g j) : arrV cA n f = arrV cA n g := by
  have h1 : (fun j : Fin n => f j.val) = fun j : Fin n => g j.val := funext fun j => h j.val j.isLt
  unfold arrV
  rw [h1]
def rmF : Room := { frames := 0, cells := 0, slots := 0, locals := 0 }
set_option maxHeartbeats 4000000 in
set_option maxRecDepth 100000 in
theorem fi_loop {p : Program} {l : Launch} {e : Env} {s : State} {m : MethodId} {args : Array Value} {below : List Frame} {meth : Method} {c : Code} {D : va_G} {cl : List vw_C} {a n : Nat} {cA : ClassId} {v : Int32}
    (hx : p.tables.exec = Jvm.exec) (hb : c.code = b_fillI) (hr : meth.sig.returnType = none) (hlocks : meth.locks = false) (hK : va_K D cl [(cA, .int)] s) (hn : n < 2 ^ 31) :
    ∀ (k i : Nat) (f : Nat → Int32) (H : Heap) (locs : List Loc) (ls : Array Slot), i + k = n → (∀ j, j < i → f j = v) → va_P D cl [(a, .inl (cA, n, .inl f))] H → va_D (fun q => q = a) [(a, .inl (cA, n, .inl f))] → va_S (fun q => q = a) s.heap H locs → lv_has ls 4 [(0, .ref a), (1, .int v), (2, .int (nI i)), (3, .int (nI n))] →
      W p l e rmF s m args below meth c H locs 0 0 (MQ below (tQ D cl [(a, .inl (cA, n, .inl (fun _ => v)))] none (fun q => q = a)) args s 0 0 (fun q => q = a)) (F0 m 5 ls []) := by
  intro k
  induction k with
  | zero =>
    intro i f H locs ls hi hf hP hD hS hl
    have hin : i = n := by omega
    subst hin
    refine lv_iload_n hx hb d_fillI_5 rfl (lv_at hl 2 rfl) ?_
    refine lv_iload_n hx hb d_fillI_6 rfl (lv_at hl 3 rfl) ?_
    refine lv_icmp_ge (tgt := 20) hx hb d_fillI_7 (by decide) (fun hc => ?_) (fun hc => ?_)
    · have hP9 : va_P D cl [(a, .inl (cA, i, .inl (fun _ => v)))] H := by
        intro q x hq
        have h0 := hP 0 _ rfl
        have hz : q < 1 := (List.getElem?_eq_some_iff.mp hq).1
        rw [show q = 0 by omega] at hq
        cases hq
        show H[a]? = some (vp_cell _ _)
        have h1 : H[a]? = some (vp_cell cA (i, .inl f)) := h0
        rw [h1, vp_cell_i, vp_cell_i, ar_congr (fun j hj => by rw [hf j hj])]
      exact W.vret hx hb hr (fun t ht hW => ⟨rfl, by rw [ht]; exact hP9, hS.F ht⟩) hS.2.2 d_fillI_20
    · exact absurd (nI_le (Nat.le_refl i) hn) hc
  | succ k ih =>
    intro i f H locs ls hi hf hP hD hS hl
    have hin : i < n := by omega
    refine lv_iload_n hx hb d_fillI_5 rfl (lv_at hl 2 rfl) ?_
    refine lv_iload_n hx hb d_fillI_6 rfl (lv_at hl 3 rfl) ?_
    refine lv_icmp_ge (tgt := 20) hx hb d_fillI_7 (by decide) (fun hc => ?_) (fun hc => ?_)
    · exact absurd hc (nI_ge hin hn)
    · refine lv_aload_n hx hb d_fillI_10 rfl (lv_at hl 0 rfl) ?_
      refine lv_iload_n hx hb d_fillI_11 rfl (lv_at hl 2 rfl) ?_
      refine lv_iload_n hx hb d_fillI_12 rfl (lv_at hl 1 rfl) ?_
      refine va_iast (f := f) hx hb hK hP hD hS 0 0 rfl rfl (vp_in_nI hin hn) d_fillI_13 (fun H locs hP hD hS => ?_)
      refine lv_iinc (v := nI (i + 1)) (lv' := [(2, .int (nI (i + 1))), (0, .ref a), (1, .int v), (3, .int (nI n))]) hx hb d_fillI_14 hl (k := 2) rfl (nI_succ i).symm (by decide) rfl (fun ls hl => ?_)
      refine lv_goto (tgt := 5) hx hb d_fillI_17 (by decide) ?_
      refine ih (i + 1) (upd f (nI i).toNatClampNeg v) H locs ls (by omega) (fun j hj => ?_) hP hD hS (lv_sub hl [1, 2, 0, 3] rfl)
      rw [nI_clamp (by omega)]
      by_cases hji : j = i
      · subst hji; exact pk_us
      · rw [pk_un hji]; exact hf j (by omega)
set_option maxHeartbeats 4000000 in
set_option maxRecDepth 100000 in
theorem mc_fillI (l : Launch) {D : va_G} {cl : List vw_C} {a n : Nat} {cA : ClassId} {f : Nat → Int32} {v : Int32} (hn : n < 2 ^ 31) :
    Met l y_fillI (.code y_fillI b_fillI 4 none :: tw) rmF (tP D cl [(cA, .int)] [(a, .inl (cA, n, .inl f))] [.ref a, .int v]) (tQ D cl [(a, .inl (cA, n, .inl (fun _ => v)))] none (fun q => q = a)) 0 0 (fun q => q = a) := by
  refine Met.ofW (cc := b_fillI) (maxL := 4) (ret := none) (by decide) rfl ?_
  intro p e s m args below meth c s₁ B hml hv
  obtain ⟨rfl, hP, hK, -⟩ := hv
  have hx := B.exec
  have hb := B.bytes
  have hr := B.returns
  have hlocks := B.notSynchronized
  have hS : va_S (fun q => q = a) s.heap s.heap [] := va_S.rf
  have hD : va_D (fun q => q = a) [(a, .inl (cA, n, .inl f))] := ⟨fun i j x y hi hj _ => by
    have h1 : i < 1 := (List.getElem?_eq_some_iff.mp hi).1
    have h2 : j < 1 := (List.getElem?_eq_some_iff.mp hj).1
    omega, fun k q hk => by
    have hz : k < 1 := (List.getElem?_eq_some_iff.mp hk).1
    rw [show k = 0 by omega] at hk
    cases hk
    rfl⟩
  have hl := lv_entry ([.ref a, .int v]) (n := 4) (Nat.le_of_ble_eq_true rfl)
  rw [lg_entry_eq]
  generalize (lg_sl ([.ref a, .int v]) ++ List.replicate (4 - (lg_sl ([.ref a, .int v])).length) Slot.unset).toArray = ls at hl ⊢
  replace hl : lv_has ls 4 [(0, .ref a), (1, .int v)] := hl
  refine lv_iconst (v := 0) hx hb d_fillI_0 (by decide) ?_
  refine lv_istore_n (lv' := [(2, .int 0), (0, .ref a), (1, .int v)]) hx hb d_fillI_1 rfl hl (by decide) rfl (fun ls hl => ?_)
  refine lv_aload_n hx hb d_fillI_2 rfl (lv_at hl 1 rfl) ?_
  refine va_alen (v := nI n) hx hb hK hP 0 0 rfl rfl rfl d_fillI_3 ?_
  refine lv_istore_n (lv' := [(3, .int (nI n)), (2, .int 0), (0, .ref a), (1, .int v)]) hx hb d_fillI_4 rfl hl (by decide) rfl (fun ls hl => ?_)
  exact fi_loop hx hb hr hlocks hK hn n 0 f _ _ ls (by omega) (fun j hj => absurd hj (Nat.not_lt_zero j)) hP hD hS (by rw [nI_0]; exact lv_sub hl [2, 3, 1, 0] rfl)
set_option maxHeartbeats 4000000 in
set_option maxRecDepth 100000 in
theorem fj_loop {p : Program} {l : Launch} {e : Env} {s : State} {m : MethodId} {args : Array Value} {below : List Frame} {meth : Method} {c : Code} {D : va_G} {cl : List vw_C} {a n : Nat} {cA : ClassId} {v : Int64}
    (hx : p.tables.exec = Jvm.exec) (hb : c.code = b_fillJ) (hr : meth.sig.returnType = none) (hlocks : meth.locks = false) (hK : va_K D cl [(cA, .long)] s) (hn : n < 2 ^ 31) :
    ∀ (k i : Nat) (f : Nat → Int64) (H : Heap) (locs : List Loc) (ls : Array Slot), i + k = n → (∀ j, j < i → f j = v) → va_P D cl [(a, .inl (cA, n, .inr (.inl f)))] H → va_D (fun q => q = a) [(a, .inl (cA, n, .inr (.inl f)))] → va_S (fun q => q = a) s.heap H locs → lv_has ls 5 [(0, .ref a), (1, .long v), (3, .int (nI i)), (4, .int (nI n))] →
      W p l e rmF s m args below meth c H locs 0 0 (MQ below (tQ D cl [(a, .inl (cA, n, .inr (.inl (fun _ => v))))] none (fun q => q = a)) args s 0 0 (fun q => q = a)) (F0 m 6 ls []) := by
  intro k
  induction k with
  | zero =>
    intro i f H locs ls hi hf hP hD hS hl
    have hin : i = n := by omega
    subst hin
    refine lv_iload_n hx hb d_fillJ_6 rfl (lv_at hl 2 rfl) ?_
    refine lv_iload hx hb d_fillJ_7 (lv_at hl 3 rfl) ?_
    refine lv_icmp_ge (tgt := 22) hx hb d_fillJ_9 (by decide) (fun hc => ?_) (fun hc => ?_)
    · have hP9 : va_P D cl [(a, .inl (cA, i, .inr (.inl (fun _ => v))))] H := by
        intro q x hq
        have h0 := hP 0 _ rfl
        have hz : q < 1 := (List.getElem?_eq_some_iff.mp hq).1
        rw [show q = 0 by omega] at hq
        cases hq
        show H[a]? = some (vp_cell _ _)
        have h1 : H[a]? = some (vp_cell cA (i, .inr (.inl f))) := h0
        rw [h1, vp_cell_l, vp_cell_l, ar_congr (fun j hj => by rw [hf j hj])]
      exact W.vret hx hb hr (fun t ht hW => ⟨rfl, by rw [ht]; exact hP9, hS.F ht⟩) hS.2.2 d_fillJ_22
    · exact absurd (nI_le (Nat.le_refl i) hn) hc
  | succ k ih =>
    intro i f H locs ls hi hf hP hD hS hl
    have hin : i < n := by omega
    refine lv_iload_n hx hb d_fillJ_6 rfl (lv_at hl 2 rfl) ?_
    refine lv_iload hx hb d_fillJ_7 (lv_at hl 3 rfl) ?_
    refine lv_icmp_ge (tgt := 22) hx hb d_fillJ_9 (by decide) (fun hc => ?_) (fun hc => ?_)
    · exact absurd hc (nI_ge hin hn)
    · refine lv_aload_n hx hb d_fillJ_12 rfl (lv_at hl 0 rfl) ?_
      refine lv_iload_n hx hb d_fillJ_13 rfl (lv_at hl 2 rfl) ?_
      refine lv_lload_n hx hb d_fillJ_14 rfl (lv_at hl 1 rfl) ?_
      refine va_last (f := f) hx hb hK hP hD hS 0 0 rfl rfl (vp_in_nI hin hn) d_fillJ_15 (fun H locs hP hD hS => ?_)
      refine lv_iinc (v := nI (i + 1)) (lv' := [(3, .int (nI (i + 1))), (0, .ref a), (1, .long v), (4, .int (nI n))]) hx hb d_fillJ_16 hl (k := 2) rfl (nI_succ i).symm (by decide) rfl (fun ls hl => ?_)
      refine lv_goto (tgt := 6) hx hb d_fillJ_19 (by decide) ?_
      refine ih (i + 1) (vp_updL f (nI i).toNatClampNeg v) H locs ls (by omega) (fun j hj => ?_) hP hD hS (lv_sub hl [1, 2, 0, 3] rfl)
      rw [nI_clamp (by omega)]
      by_cases hji : j = i
      · subst hji; exact pk_uLs
      · rw [pk_uLn hji]; exact hf j (by omega)
set_option maxHeartbeats 4000000 in
set_option maxRecDepth 100000 in
theorem mc_fillJ (l : Launch) {D : va_G} {cl : List vw_C} {a n : Nat} {cA : ClassId} {f : Nat → Int64} {v : Int64} (hn : n < 2 ^ 31) :
    Met l y_fillJ (.code y_fillJ b_fillJ 5 none :: tw) rmF (tP D cl [(cA, .long)] [(a, .inl (cA, n, .inr (.inl f)))] [.ref a, .long v]) (tQ D cl [(a, .inl (cA, n, .inr (.inl (fun _ => v))))] none (fun q => q = a)) 0 0 (fun q => q = a) := by
  refine Met.ofW (cc := b_fillJ) (maxL := 5) (ret := none) (by decide) rfl ?_
  intro p e s m args below meth c s₁ B hml hv
  obtain ⟨rfl, hP, hK, -⟩ := hv
  have hx := B.exec
  have hb := B.bytes
  have hr := B.returns
  have hlocks := B.notSynchronized
  have hS : va_S (fun q => q = a) s.heap s.heap [] := va_S.rf
  have hD : va_D (fun q => q = a) [(a, .inl (cA, n, .inr (.inl f)))] := ⟨fun i j x y hi hj _ => by
    have h1 : i < 1 := (List.getElem?_eq_some_iff.mp hi).1
    have h2 : j < 1 := (List.getElem?_eq_some_iff.mp hj).1
    omega, fun k q hk => by
    have hz : k < 1 := (List.getElem?_eq_some_iff.mp hk).1
    rw [show k = 0 by omega] at hk
    cases hk
    rfl⟩
  have hl := lv_entry ([.ref a, .long v]) (n := 5) (Nat.le_of_ble_eq_true rfl)
  rw [lg_entry_eq]
  generalize (lg_sl ([.ref a, .long v]) ++ List.replicate (5 - (lg_sl ([.ref a, .long v])).length) Slot.unset).toArray = ls at hl ⊢
  replace hl : lv_has ls 5 [(0, .ref a), (1, .long v)] := hl
  refine lv_iconst (v := 0) hx hb d_fillJ_0 (by decide) ?_
  refine lv_istore_n (lv' := [(3, .int 0), (0, .ref a), (1, .long v)]) hx hb d_fillJ_1 rfl hl (by decide) rfl (fun ls hl => ?_)
  refine lv_aload_n hx hb d_fillJ_2 rfl (lv_at hl 1 rfl) ?_
  refine va_alen (v := nI n) hx hb hK hP 0 0 rfl rfl rfl d_fillJ_3 ?_
  refine lv_istore (lv' := [(4, .int (nI n)), (3, .int 0), (0, .ref a), (1, .long v)]) hx hb d_fillJ_4 hl (by decide) rfl (fun ls hl => ?_)
  exact fj_loop hx hb hr hlocks hK hn n 0 f _ _ ls (by omega) (fun j hj => absurd hj (Nat.not_lt_zero j)) hP hD hS (by rw [nI_0]; exact lv_sub hl [2, 3, 1, 0] rfl)
section TRF
variable {p : Program} {l : Launch} {e : Env} {R : Room} {s : State} {m : MethodId} {args : Array Value} {below : List Frame} {meth : Method} {c : Code} {H : Heap} {locs : List Loc} {cells slots : Nat} {Q : State → Prop}
variable {cc : ByteArray} {pc nL : Nat} {ls : Array Slot} {rest : List Value} {D : va_G} {cl : List vw_C} {A : Nat → Prop} {a : Nat} {tys : List (ClassId × FieldType)} {ws : va_W} {H0 : Heap} {own : String} {index : Nat}
theorem tr_set {q0 : Nat} {e0 e1 : va_E} {H1 : Heap} (h : va_P D cl ws H) (hD : va_D A ws) (hp : ws[q0]? = some (a, e0)) (he : va_at D cl (a, e1) H1) (oq : ∀ q : Nat, q < H.size → ¬ q = a → H1[q]? = H[q]?) : va_P D cl (ws.set q0 (a, e1)) H1 := by
  have hl := (List.getElem?_eq_some_iff.mp hp).1
  intro k q hk
  by_cases hkp : k = q0
  · subst hkp
    rw [List.getElem?_set_self hl] at hk
    cases hk
    exact he
  · rw [List.getElem?_set_ne (Ne.symm hkp)] at hk
    exact (h k q hk).kept (oq q.1 ((h k q hk).lt) (fun z => hkp (hD.1 k q0 q (a, e0) hk hp z)))
theorem tr_fillI (S : CallFix p m c cc nL s args tw own) (cw : CallB R s args own index y_fillI b_fillI 4 none (.code y_fillI b_fillI 4 none :: tw) rmF 0 0 2 ∧ (Cond.static y_fillI).before args s = true) (hK : va_K D cl tys s) (hN : tW s) (hP : va_P D cl ws H) (hD : va_D A ws) (hS : va_S A H0 H locs) (q0 t0 : Nat) {cA : ClassId} {n : Nat} {f : Nat → Int32} (ha : ws[q0]? = some (a, .inl (cA, n, .inl f))) (ht : tys[t0]? = some (cA, .int)) {v : Int32} (hn : n < 2 ^ 31) (hsz : ls.size = nL) (hW : 2 * (F0 m pc ls (.int v :: .ref a :: rest)).monitorRoom + (rest.map fun v => v.category).sum ≤ 8) (hdg : decode cc pc = .ok (.invokestatic index, 3))
    (kk : ∀ (H1 : Heap) (locs1 : List Loc), va_P D cl (ws.set q0 (a, .inl (cA, n, .inl (fun _ => v)))) H1 → va_S A H0 H1 locs1 → W p l e R s m args below meth c H1 locs1 cells slots Q (F0 m (pc + 3) ls rest)) (hc : cells ≤ R.cells ∧ slots ≤ R.slots) : W p l e R s m args below meth c H locs cells slots Q (F0 m pc ls (.int v :: .ref a :: rest)) := by
  have h1 : va_P D cl [(a, .inl (cA, n, .inl f))] H := hP.sub [q0] (by simp [ha])
  have h2 : va_K D cl [(cA, .int)] s := hK.sub [t0] (by simp [ht])
  exact tr_call (va_runS (As := [.ref a, .int v]) (rest := rest) S (mc_fillI l hn) cw ⟨tP_blind, fun U hU hW => ⟨rfl, by rw [hU]; exact h1, va_K.moved hW.alike h2, tW_warm hW hN⟩⟩ rfl rfl hsz rfl hW hdg hc) hS (fun q hq => by rw [hq]; exact hD.2 q0 _ ha) (fun q hq => by rw [hq]; exact hD.2 q0 _ ha)
    (fun H1 locs1 hP1 hk hz hS1 => kk H1 locs1 (tr_set hP hD ha (hP1 0 _ rfl) hk) hS1)
theorem tr_fillJ (S : CallFix p m c cc nL s args tw own) (cw : CallB R s args own index y_fillJ b_fillJ 5 none (.code y_fillJ b_fillJ 5 none :: tw) rmF 0 0 2 ∧ (Cond.static y_fillJ).before args s = true) (hK : va_K D cl tys s) (hN : tW s) (hP : va_P D cl ws H) (hD : va_D A ws) (hS : va_S A H0 H locs) (q0 t0 : Nat) {cA : ClassId} {n : Nat} {f : Nat → Int64} (ha : ws[q0]? = some (a, .inl (cA, n, .inr (.inl f)))) (ht : tys[t0]? = some (cA, .long)) {v : Int64} (hn : n < 2 ^ 31) (hsz : ls.size = nL) (hW : 2 * (F0 m pc ls (.long v :: .ref a :: rest)).monitorRoom + (rest.map fun v => v.category).sum ≤ 8) (hdg : decode cc pc = .ok (.invokestatic index, 3))
    (kk : ∀ (H1 : Heap) (locs1 : List Loc), va_P D cl (ws.set q0 (a, .inl (cA, n, .inr (.inl (fun _ => v))))) H1 → va_S A H0 H1 locs1 → W p l e R s m args below meth c H1 locs1 cells slots Q (F0 m (pc + 3) ls rest)) (hc : cells ≤ R.cells ∧ slots ≤ R.slots) : W p l e R s m args below meth c H locs cells slots Q (F0 m pc ls (.long v :: .ref a :: rest)) := by
  have h1 : va_P D cl [(a, .inl (cA, n, .inr (.inl f)))] H := hP.sub [q0] (by simp [ha])
  have h2 : va_K D cl [(cA, .long)] s := hK.sub [t0] (by simp [ht])
  exact tr_call (va_runS (As := [.ref a, .long v]) (rest := rest) S (mc_fillJ l hn) cw ⟨tP_blind, fun U hU hW => ⟨rfl, by rw [hU]; exact h1, va_K.moved hW.alike h2, tW_warm hW hN⟩⟩ rfl rfl hsz rfl hW hdg hc) hS (fun q hq => by rw [hq]; exact hD.2 q0 _ ha) (fun q hq => by rw [hq]; exact hD.2 q0 _ ha)
    (fun H1 locs1 hP1 hk hz hS1 => kk H1 locs1 (tr_set hP hD ha (hP1 0 _ rfl) hk) hS1)
end TRF
end
section
/-- the cells of component C in the state σ, at the addresses ad; ta: the classes of its arrays -/
def cwC (ad : Nat → Nat) (ta : Nat → ClassId) (σ : tS) : va_W := [
  (ad 0, .inr (0, [.int (σ.1 0), .ref (ad 1), .ref (ad 2), .ref (ad 3), .ref (ad 4), .ref (ad 5), .ref (ad 6)])),
  (ad 1, .inr (1, [.int (σ.1 1), .ref (ad 9), .ref (ad 10), .ref (ad 11)])),
  (ad 2, .inr (2, [.ref (ad 12), .ref (ad 13), .ref (ad 14), .ref (ad 7)])),
  (ad 3, .inr (3, [.ref (ad 15), .ref (ad 8)])),
  (ad 4, .inr (4, [.int (σ.1 2), .ref (ad 16), .ref (ad 17), .ref (ad 18), .ref (ad 19), .ref (ad 20), .ref (ad 21), .ref (ad 22), .ref (ad 23), .ref (ad 24)])),
  (ad 5, .inr (5, [.ref (ad 25), .ref (ad 26), .ref (ad 27)])),
  (ad 6, .inr (6, [.int (σ.1 3), .int (σ.1 4), .ref (ad 28), .ref (ad 29), .ref (ad 30)])),
  (ad 7, .inr (7, [.ref (ad 31), .ref (ad 32), .ref (ad 33)])),
  (ad 8, .inr (7, [.ref (ad 34), .ref (ad 35), .ref (ad 36)])),
  (ad 9, .inl (ta 0, 6, .inl (σ.2.1 0))),
  (ad 10, .inl (ta 1, 6, .inl (σ.2.1 1))),
  (ad 11, .inl (ta 2, 6, .inl (σ.2.1 2))),
  (ad 12, .inl (ta 3, 36, .inl (σ.2.1 3))),
  (ad 13, .inl (ta 4, 36, .inl (σ.2.1 4))),
  (ad 14, .inl (ta 5, 6, .inl (σ.2.1 5))),
  (ad 15, .inl (ta 6, 108, .inl (σ.2.1 6))),
  (ad 16, .inl (ta 7, 40, .inl (σ.2.1 7))),
  (ad 17, .inl (ta 8, 40, .inl (σ.2.1 8))),
  (ad 18, .inl (ta 9, 40, .inl (σ.2.1 9))),
  (ad 19, .inl (ta 10, 40, .inl (σ.2.1 10))),
  (ad 20, .inl (ta 11, 40, .inl (σ.2.1 11))),
  (ad 21, .inl (ta 12, 40, .inl (σ.2.1 12))),
  (ad 22, .inl (ta 13, 40, .inl (σ.2.1 13))),
  (ad 23, .inl (ta 14, 40, .inl (σ.2.1 14))),
  (ad 24, .inl (ta 15, 40, .inl (σ.2.1 15))),
  (ad 25, .inl (ta 16, 40, .inl (σ.2.1 16))),
  (ad 26, .inl (ta 17, 12, .inr (.inl (σ.2.2 0)))),
  (ad 27, .inl (ta 18, 12, .inl (σ.2.1 17))),
  (ad 28, .inl (ta 19, 36, .inl (σ.2.1 18))),
  (ad 29, .inl (ta 20, 36, .inl (σ.2.1 19))),
  (ad 30, .inl (ta 21, 1440, .inl (σ.2.1 20))),
  (ad 31, .inl (ta 22, 6, .inr (.inl (σ.2.2 1)))),
  (ad 32, .inl (ta 23, 6, .inr (.inl (σ.2.2 2)))),
  (ad 33, .inl (ta 24, 6, .inl (σ.2.1 21))),
  (ad 34, .inl (ta 25, 3, .inr (.inl (σ.2.2 3)))),
  (ad 35, .inl (ta 26, 3, .inr (.inl (σ.2.2 4)))),
  (ad 36, .inl (ta 27, 3, .inl (σ.2.1 22)))]
def tyC (ta : Nat → ClassId) : List (ClassId × FieldType) := [(ta 0, .int), (ta 1, .int), (ta 2, .int), (ta 3, .int), (ta 4, .int), (ta 5, .int), (ta 6, .int), (ta 7, .int), (ta 8, .int), (ta 9, .int), (ta 10, .int), (ta 11, .int), (ta 12, .int), (ta 13, .boolean), (ta 14, .int), (ta 15, .int), (ta 16, .int), (ta 17, .long), (ta 18, .int), (ta 19, .int), (ta 20, .int), (ta 21, .int), (ta 22, .long), (ta 23, .long), (ta 24, .int), (ta 25, .long), (ta 26, .long), (ta 27, .int)]
theorem cwC_D {ad : Nat → Nat} {ta : Nat → ClassId} {σ : tS} (hd : tD 37 ad) : va_D (tA 37 ad) (cwC ad ta σ) := tD_of rfl hd
/-- the cells of component R in the state σ, at the addresses ad; ta: the classes of its arrays -/
def cwR (ad : Nat → Nat) (ta : Nat → ClassId) (σ : tS) : va_W := [
  (ad 0, .inr (8, [.int (σ.1 0), .int (σ.1 1), .int (σ.1 2), .int (σ.1 3), .ref (ad 1), .ref (ad 2), .ref (ad 3), .ref (ad 4), .ref (ad 5), .ref (ad 6), .ref (ad 7), .ref (ad 8), .ref (ad 9), .ref (ad 10), .ref (ad 11), .ref (ad 12), .ref (ad 13), .ref (ad 14), .ref (ad 15), .ref (ad 16), .ref (ad 17), .ref (ad 18), .int (σ.1 4), .int (σ.1 5), .ref (ad 19), .ref (ad 20), .ref (ad 21), .ref (ad 22), .ref (ad 23), .ref (ad 24), .ref (ad 25), .int (σ.1 6)])),
  (ad 1, .inl (ta 0, 6, .inl (σ.2.1 0))),
  (ad 2, .inl (ta 1, 6, .inl (σ.2.1 1))),
  (ad 3, .inl (ta 2, 6, .inl (σ.2.1 2))),
  (ad 4, .inl (ta 3, 40, .inl (σ.2.1 3))),
  (ad 5, .inl (ta 4, 40, .inl (σ.2.1 4))),
  (ad 6, .inl (ta 5, 40, .inl (σ.2.1 5))),
  (ad 7, .inl (ta 6, 40, .inl (σ.2.1 6))),
  (ad 8, .inl (ta 7, 40, .inl (σ.2.1 7))),
  (ad 9, .inl (ta 8, 40, .inl (σ.2.1 8))),
  (ad 10, .inl (ta 9, 40, .inl (σ.2.1 9))),
  (ad 11, .inl (ta 10, 40, .inl (σ.2.1 10))),
  (ad 12, .inl (ta 11, 40, .inr (.inl (σ.2.2 0)))),
  (ad 13, .inl (ta 12, 36, .inl (σ.2.1 11))),
  (ad 14, .inl (ta 13, 36, .inl (σ.2.1 12))),
  (ad 15, .inl (ta 14, 108, .inl (σ.2.1 13))),
  (ad 16, .inl (ta 15, 36, .inl (σ.2.1 14))),
  (ad 17, .inl (ta 16, 1440, .inl (σ.2.1 15))),
  (ad 18, .inl (ta 17, 6, .inl (σ.2.1 16))),
  (ad 19, .inl (ta 18, 6, .inr (.inl (σ.2.2 1)))),
  (ad 20, .inl (ta 19, 6, .inr (.inl (σ.2.2 2)))),
  (ad 21, .inl (ta 20, 6, .inl (σ.2.1 17))),
  (ad 22, .inl (ta 21, 40, .inr (.inl (σ.2.2 3)))),
  (ad 23, .inl (ta 22, 12, .inr (.inl (σ.2.2 4)))),
  (ad 24, .inl (ta 23, 12, .inl (σ.2.1 18))),
  (ad 25, .inl (ta 24, 40, .inl (σ.2.1 19)))]
def tyR (ta : Nat → ClassId) : List (ClassId × FieldType) := [(ta 0, .int), (ta 1, .int), (ta 2, .int), (ta 3, .int), (ta 4, .int), (ta 5, .int), (ta 6, .int), (ta 7, .int), (ta 8, .int), (ta 9, .boolean), (ta 10, .int), (ta 11, .long), (ta 12, .int), (ta 13, .int), (ta 14, .int), (ta 15, .int), (ta 16, .int), (ta 17, .int), (ta 18, .long), (ta 19, .long), (ta 20, .int), (ta 21, .long), (ta 22, .long), (ta 23, .int), (ta 24, .int)]
theorem cwR_D {ad : Nat → Nat} {ta : Nat → ClassId} {σ : tS} (hd : tD 26 ad) : va_D (tA 26 ad) (cwR ad ta σ) := tD_of rfl hd
end
