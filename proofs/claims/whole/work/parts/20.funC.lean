/-- TripRounds.node()I  -/
def mf_T_node  (σ : tS) : Option (Int32 × tS) :=
  if (σ.1 0) < (12 : Int32) then (some ((σ.1 0), (tF σ 0 ((σ.1 0) + (1 : Int32))))) else (none)
/-- TripRounds.node()I (what it throws) -/
def mx_T_node  (σ : tS) : Option Nat :=
  if (σ.1 0) < (12 : Int32) then (none) else (some 2)
/-- TripRounds.needNode(I)V  -/
def mf_T_needNode (p0 : Int32) (σ : tS) : Option tS :=
  if p0 < 0 then (none) else (if p0 < (σ.1 0) then (some σ) else (none))
/-- TripRounds.needNode(I)V (what it throws) -/
def mx_T_needNode (p0 : Int32) (σ : tS) : Option Nat :=
  if p0 < 0 then (some 1) else (if p0 < (σ.1 0) then (none) else (some 1))
/-- TripRounds.needWithin(III)V  -/
def mf_T_needWithin (p0 : Int32) (p1 : Int32) (p2 : Int32) (σ : tS) : Option tS :=
  if p0 < p1 then (none) else (if p0 ≤ p2 then (some σ) else (none))
/-- TripRounds.needWithin(III)V (what it throws) -/
def mx_T_needWithin (p0 : Int32) (p1 : Int32) (p2 : Int32) (σ : tS) : Option Nat :=
  if p0 < p1 then (some 1) else (if p0 ≤ p2 then (none) else (some 1))
/-- TripRounds$Zones.addZone(III)I  -/
def mf_Z_addZone (p0 : Int32) (p1 : Int32) (p2 : Int32) (σ : tS) : Option (Int32 × tS) :=
  tg (σ.1 1) 6 (tg (σ.1 1) 6 (tg (σ.1 1) 6 (some ((σ.1 1), (tF (tI (tI (tI σ 0 ((σ.1 1).toNatClampNeg) p0) 1 ((σ.1 1).toNatClampNeg) p1) 2 ((σ.1 1).toNatClampNeg) p2) 1 ((σ.1 1) + (1 : Int32)))))))
/-- TripRounds.zone(III)I  -/
def mf_T_zone (p0 : Int32) (p1 : Int32) (p2 : Int32) (σ : tS) : Option (Int32 × tS) :=
  tb1 (mf_T_needNode p0 σ) (fun s_1 => tb1 (mf_T_needWithin p1 (0 : Int32) (100000 : Int32) s_1) (fun s_2 => tb1 (mf_T_needWithin p2 (0 : Int32) (100000 : Int32) s_2) (fun s_3 => if (s_3.1 1) < (6 : Int32) then (tb2 (mf_Z_addZone p0 p1 p2 s_3) (fun r_4 s_4 => some (r_4, s_4))) else (none))))
/-- TripRounds.zone(III)I (what it throws) -/
def mx_T_zone (p0 : Int32) (p1 : Int32) (p2 : Int32) (σ : tS) : Option Nat :=
  tx (mx_T_needNode p0 σ) (tb1 (mf_T_needNode p0 σ) (fun s_1 => tx (mx_T_needWithin p1 (0 : Int32) (100000 : Int32) s_1) (tb1 (mf_T_needWithin p1 (0 : Int32) (100000 : Int32) s_1) (fun s_2 => tx (mx_T_needWithin p2 (0 : Int32) (100000 : Int32) s_2) (tb1 (mf_T_needWithin p2 (0 : Int32) (100000 : Int32) s_2) (fun s_3 => if (s_3.1 1) < (6 : Int32) then (none) else (some 2)))))))
/-- TripRounds$Streets.addStreet(IIIII)I  -/
def mf_S_addStreet (p0 : Int32) (p1 : Int32) (p2 : Int32) (p3 : Int32) (p4 : Int32) (σ : tS) : Option (Int32 × tS) :=
  tg (σ.1 2) 40 (tg (σ.1 2) 40 (tg (σ.1 2) 40 (tg (σ.1 2) 40 (tg (σ.1 2) 40 (tg (σ.1 2) 40 (some ((σ.1 2), (tF (tI (tI (tI (tI (tI (tI σ 7 ((σ.1 2).toNatClampNeg) p0) 8 ((σ.1 2).toNatClampNeg) p1) 9 ((σ.1 2).toNatClampNeg) p2) 10 ((σ.1 2).toNatClampNeg) p3) 11 ((σ.1 2).toNatClampNeg) p4) 13 ((σ.1 2).toNatClampNeg) (vp_nar .boolean (1 : Int32))) 2 ((σ.1 2) + (1 : Int32))))))))))
/-- TripRounds.street(IIIII)I  -/
def mf_T_street (p0 : Int32) (p1 : Int32) (p2 : Int32) (p3 : Int32) (p4 : Int32) (σ : tS) : Option (Int32 × tS) :=
  tb1 (mf_T_needNode p0 σ) (fun s_1 => tb1 (mf_T_needNode p1 s_1) (fun s_2 => if p0 = p1 then (none) else (tb1 (mf_T_needWithin p2 (1 : Int32) (1000 : Int32) s_2) (fun s_3 => tb1 (mf_T_needWithin p3 (0 : Int32) (1000 : Int32) s_3) (fun s_4 => tb1 (mf_T_needWithin p4 (1 : Int32) (1000000 : Int32) s_4) (fun s_5 => if (s_5.1 2) < (40 : Int32) then (tb2 (mf_S_addStreet p0 p1 p2 p3 p4 s_5) (fun r_6 s_6 => some (r_6, s_6))) else (none)))))))
/-- TripRounds.street(IIIII)I (what it throws) -/
def mx_T_street (p0 : Int32) (p1 : Int32) (p2 : Int32) (p3 : Int32) (p4 : Int32) (σ : tS) : Option Nat :=
  tx (mx_T_needNode p0 σ) (tb1 (mf_T_needNode p0 σ) (fun s_1 => tx (mx_T_needNode p1 s_1) (tb1 (mf_T_needNode p1 s_1) (fun s_2 => if p0 = p1 then (some 1) else (tx (mx_T_needWithin p2 (1 : Int32) (1000 : Int32) s_2) (tb1 (mf_T_needWithin p2 (1 : Int32) (1000 : Int32) s_2) (fun s_3 => tx (mx_T_needWithin p3 (0 : Int32) (1000 : Int32) s_3) (tb1 (mf_T_needWithin p3 (0 : Int32) (1000 : Int32) s_3) (fun s_4 => tx (mx_T_needWithin p4 (1 : Int32) (1000000 : Int32) s_4) (tb1 (mf_T_needWithin p4 (1 : Int32) (1000000 : Int32) s_4) (fun s_5 => if (s_5.1 2) < (40 : Int32) then (none) else (some 2))))))))))))
/-- TripRounds.needStreet(I)V  -/
def mf_T_needStreet (p0 : Int32) (σ : tS) : Option tS :=
  if p0 < 0 then (none) else (if p0 < (σ.1 2) then (some σ) else (none))
/-- TripRounds.needStreet(I)V (what it throws) -/
def mx_T_needStreet (p0 : Int32) (σ : tS) : Option Nat :=
  if p0 < 0 then (some 1) else (if p0 < (σ.1 2) then (none) else (some 1))
/-- TripRounds.toll(II)I  -/
def mf_T_toll (p0 : Int32) (p1 : Int32) (σ : tS) : Option (Int32 × tS) :=
  tb1 (mf_T_needStreet p0 σ) (fun s_1 => tb1 (mf_T_needWithin p1 (0 : Int32) (1000 : Int32) s_1) (fun s_2 => tg p0 40 (tg p0 40 (some ((s_2.2.1 12 p0.toNatClampNeg), (tI s_2 12 p0.toNatClampNeg p1))))))
/-- TripRounds.toll(II)I (what it throws) -/
def mx_T_toll (p0 : Int32) (p1 : Int32) (σ : tS) : Option Nat :=
  tx (mx_T_needStreet p0 σ) (tb1 (mf_T_needStreet p0 σ) (fun s_1 => tx (mx_T_needWithin p1 (0 : Int32) (1000 : Int32) s_1) (tb1 (mf_T_needWithin p1 (0 : Int32) (1000 : Int32) s_1) (fun s_2 => none))))
/-- TripRounds.open(IZ)Z  -/
def mf_T_open (p0 : Int32) (p1 : Int32) (σ : tS) : Option (Int32 × tS) :=
  tb1 (mf_T_needStreet p0 σ) (fun s_1 => tg p0 40 (tg p0 40 (tb (s_1.2.1 13 p0.toNatClampNeg) (some ((s_1.2.1 13 p0.toNatClampNeg), (tI s_1 13 p0.toNatClampNeg (vp_nar .boolean p1)))))))
/-- TripRounds.open(IZ)Z (what it throws) -/
def mx_T_open (p0 : Int32) (p1 : Int32) (σ : tS) : Option Nat :=
  tx (mx_T_needStreet p0 σ) (tb1 (mf_T_needStreet p0 σ) (fun s_1 => none))
/-- TripRounds.needZone(I)V  -/
def mf_T_needZone (p0 : Int32) (σ : tS) : Option tS :=
  if p0 < 0 then (none) else (if p0 < (σ.1 1) then (some σ) else (none))
/-- TripRounds.needZone(I)V (what it throws) -/
def mx_T_needZone (p0 : Int32) (σ : tS) : Option Nat :=
  if p0 < 0 then (some 1) else (if p0 < (σ.1 1) then (none) else (some 1))
/-- TripRounds.pairOf(II)I  -/
def mf_T_pairOf (p0 : Int32) (p1 : Int32) (σ : tS) : Option (Int32 × tS) :=
  some (((p0 * (6 : Int32)) + p1), σ)
/-- TripRounds.weight(III)I  -/
def mf_T_weight (p0 : Int32) (p1 : Int32) (p2 : Int32) (σ : tS) : Option (Int32 × tS) :=
  tb1 (mf_T_needZone p0 σ) (fun s_1 => tb1 (mf_T_needZone p1 s_1) (fun s_2 => tb1 (mf_T_needWithin p2 (0 : Int32) (1000 : Int32) s_2) (fun s_3 => tb2 (mf_T_pairOf p0 p1 s_3) (fun r_4 s_4 => tg r_4 36 (tg r_4 36 (some ((s_4.2.1 3 r_4.toNatClampNeg), (tI s_4 3 r_4.toNatClampNeg p2))))))))
/-- TripRounds.weight(III)I (what it throws) -/
def mx_T_weight (p0 : Int32) (p1 : Int32) (p2 : Int32) (σ : tS) : Option Nat :=
  tx (mx_T_needZone p0 σ) (tb1 (mf_T_needZone p0 σ) (fun s_1 => tx (mx_T_needZone p1 s_1) (tb1 (mf_T_needZone p1 s_1) (fun s_2 => tx (mx_T_needWithin p2 (0 : Int32) (1000 : Int32) s_2) (tb1 (mf_T_needWithin p2 (0 : Int32) (1000 : Int32) s_2) (fun s_3 => none))))))
/-- TripRounds.size(III)I  -/
def mf_T_size (p0 : Int32) (p1 : Int32) (p2 : Int32) (σ : tS) : Option (Int32 × tS) :=
  tb1 (mf_T_needZone p0 σ) (fun s_1 => tb1 (mf_T_needWithin p1 (0 : Int32) (1 : Int32) s_1) (fun s_2 => tb1 (mf_T_needWithin p2 (0 : Int32) (100000 : Int32) s_2) (fun s_3 => if p1 = 0 then (tg p0 6 (tg p0 6 (some ((s_3.2.1 1 p0.toNatClampNeg), (tI s_3 1 p0.toNatClampNeg p2))))) else (tg p0 6 (tg p0 6 (some ((s_3.2.1 2 p0.toNatClampNeg), (tI s_3 2 p0.toNatClampNeg p2))))))))
/-- TripRounds.size(III)I (what it throws) -/
def mx_T_size (p0 : Int32) (p1 : Int32) (p2 : Int32) (σ : tS) : Option Nat :=
  tx (mx_T_needZone p0 σ) (tb1 (mf_T_needZone p0 σ) (fun s_1 => tx (mx_T_needWithin p1 (0 : Int32) (1 : Int32) s_1) (tb1 (mf_T_needWithin p1 (0 : Int32) (1 : Int32) s_1) (fun s_2 => tx (mx_T_needWithin p2 (0 : Int32) (100000 : Int32) s_2) (tb1 (mf_T_needWithin p2 (0 : Int32) (100000 : Int32) s_2) (fun s_3 => none))))))
/-- TripRounds$Sharing.giveOne, the loop at 4 -/
def ms_H7_giveOne_4 (go : Int32 → Int32 → Int32 → tS → Option tS) : Int32 → Int32 → Int32 → tS → Option tS := fun v1 v2 v3 σ =>
  if v1 ≤ v3 then (tg v2 6 (tg v2 6 (tg v2 6 (some (tJ (tI σ 21 v2.toNatClampNeg ((σ.2.1 21 v2.toNatClampNeg) + (1 : Int32))) 2 v2.toNatClampNeg ((-1) : Int64)))))) else (tg v3 6 (tg v2 6 (if (lg_cmp (σ.2.2 2 v3.toNatClampNeg) (σ.2.2 2 v2.toNatClampNeg)) ≤ 0 then (go v1 v2 (v3 + (1 : Int32)) σ) else (go v1 v3 (v3 + (1 : Int32)) σ))))
def ml_H7_giveOne_4 : Nat → Int32 → Int32 → Int32 → tS → Option tS := tit (fun _ _ _ _ => none) ms_H7_giveOne_4
/-- TripRounds$Sharing.giveOne(I)V  -/
def mf_H7_giveOne (p0 : Int32) (σ : tS) : Option tS :=
  ml_H7_giveOne_4 4096 p0 (0 : Int32) (1 : Int32) σ
/-- TripRounds$Sharing.shareOut, the loop at 110 -/
def ms_H7_shareOut_110 (go : Int32 → Int32 → Int64 → Int32 → Int32 → tS → Option tS) : Int32 → Int32 → Int64 → Int32 → Int32 → tS → Option tS := fun v1 v2 v3 v5 v6 σ =>
  if v5 ≤ v6 then (some σ) else (tb1 (mf_H7_giveOne v2 σ) (fun s_1 => go v1 v2 v3 v5 (v6 + (1 : Int32)) s_1))
def ml_H7_shareOut_110 : Nat → Int32 → Int32 → Int64 → Int32 → Int32 → tS → Option tS := tit (fun _ _ _ _ _ _ => none) ms_H7_shareOut_110
/-- TripRounds$Sharing.shareOut, the loop at 48 -/
def ms_H7_shareOut_48 (go : Int32 → Int32 → Int64 → Int32 → Int32 → tS → Option tS) : Int32 → Int32 → Int64 → Int32 → Int32 → tS → Option tS := fun v1 v2 v3 v5 v6 σ =>
  if v2 ≤ v6 then (ml_H7_shareOut_110 4096 v1 v2 v3 v5 (0 : Int32) σ) else (tg v6 6 (tz v3 (tg v6 6 (tz v3 (tg v6 6 (tg v6 6 (go v1 v2 v3 (v5 - ((tI σ 21 v6.toNatClampNeg (((((v1).toInt64 * (σ.2.2 1 v6.toNatClampNeg)) / v3)).toInt32)).2.1 21 v6.toNatClampNeg)) (v6 + (1 : Int32)) (tJ (tI σ 21 v6.toNatClampNeg (((((v1).toInt64 * (σ.2.2 1 v6.toNatClampNeg)) / v3)).toInt32)) 2 v6.toNatClampNeg (((v1).toInt64 * (σ.2.2 1 v6.toNatClampNeg)) - ((v1).toInt64 * (σ.2.2 1 v6.toNatClampNeg)) / v3 * v3)))))))))
def ml_H7_shareOut_48 : Nat → Int32 → Int32 → Int64 → Int32 → Int32 → tS → Option tS := tit (fun _ _ _ _ _ _ => none) ms_H7_shareOut_48
/-- TripRounds$Sharing.shareOut, the loop at 5 -/
def ms_H7_shareOut_5 (go : Int32 → Int32 → Int64 → Int32 → tS → Option tS) : Int32 → Int32 → Int64 → Int32 → tS → Option tS := fun v1 v2 v3 v5 σ =>
  if v2 ≤ v5 then (if (lg_cmp v3 (0 : Int64)) = 0 then (some (tIf σ 21 (0 : Int32))) else (ml_H7_shareOut_48 4096 v1 v2 v3 v1 (0 : Int32) σ)) else (tg v5 6 (go v1 v2 (v3 + (σ.2.2 1 v5.toNatClampNeg)) (v5 + (1 : Int32)) σ))
def ml_H7_shareOut_5 : Nat → Int32 → Int32 → Int64 → Int32 → tS → Option tS := tit (fun _ _ _ _ _ => none) ms_H7_shareOut_5
/-- TripRounds$Sharing.shareOut(II)V  -/
def mf_H7_shareOut (p0 : Int32) (p1 : Int32) (σ : tS) : Option tS :=
  ml_H7_shareOut_5 4096 p0 p1 (0 : Int64) (0 : Int32) σ
/-- TripRounds$Table.shareAllPeople, the loop at 12 -/
def ms_B_shareAllPeople_12 (go : Int32 → Int32 → tS → Option (Int32 × Int32 × tS)) : Int32 → Int32 → tS → Option (Int32 × Int32 × tS) := fun v2 v3 σ =>
  if (σ.1 1) ≤ v3 then (some (v2, v3, σ)) else (tb2 (mf_T_pairOf v2 v3 σ) (fun r_1 s_1 => tg r_1 36 (tg v3 6 (tg v3 6 (go v2 (v3 + (1 : Int32)) (tJ s_1 1 v3.toNatClampNeg (((s_1.2.1 3 r_1.toNatClampNeg)).toInt64 * ((s_1.2.1 5 v3.toNatClampNeg)).toInt64)))))))
def ml_B_shareAllPeople_12 : Nat → Int32 → Int32 → tS → Option (Int32 × Int32 × tS) := tit (fun _ _ _ => none) ms_B_shareAllPeople_12
/-- TripRounds$Table.shareAllPeople, the loop at 73 -/
def ms_B_shareAllPeople_73 (go : Int32 → Int32 → tS → Option (Int32 × Int32 × tS)) : Int32 → Int32 → tS → Option (Int32 × Int32 × tS) := fun v2 v3 σ =>
  if (σ.1 1) ≤ v3 then (some (v2, v3, σ)) else (tb2 (mf_T_pairOf v2 v3 σ) (fun r_8 s_8 => tg v3 6 (tg r_8 36 (go v2 (v3 + (1 : Int32)) (tI s_8 4 r_8.toNatClampNeg (s_8.2.1 21 v3.toNatClampNeg))))))
def ml_B_shareAllPeople_73 : Nat → Int32 → Int32 → tS → Option (Int32 × Int32 × tS) := tit (fun _ _ _ => none) ms_B_shareAllPeople_73
/-- TripRounds$Table.shareAllPeople, the loop at 2 -/
def ms_B_shareAllPeople_2 (go : Int32 → tS → Option tS) : Int32 → tS → Option tS := fun v2 σ =>
  if (σ.1 1) ≤ v2 then (some σ) else (tb1 (ml_B_shareAllPeople_12 4096 v2 (0 : Int32) σ) (fun e_5 => tg e_5.1 6 (tb1 (mf_H7_shareOut (e_5.2.2.2.1 1 e_5.1.toNatClampNeg) (e_5.2.2.1 1) e_5.2.2) (fun s_7 => tb1 (ml_B_shareAllPeople_73 4096 e_5.1 (0 : Int32) s_7) (fun e_11 => go (e_11.1 + (1 : Int32)) e_11.2.2)))))
def ml_B_shareAllPeople_2 : Nat → Int32 → tS → Option tS := tit (fun _ _ => none) ms_B_shareAllPeople_2
/-- TripRounds$Table.shareAllPeople(LTripRounds$Zones;)V  -/
def mf_B_shareAllPeople  (σ : tS) : Option tS :=
  ml_B_shareAllPeople_2 4096 (0 : Int32) σ
/-- TripRounds$Table.sumTo, the loop at 4 -/
def ms_B_sumTo_4 (go : Int32 → Int32 → Int32 → tS → Option (Int32 × tS)) : Int32 → Int32 → Int32 → tS → Option (Int32 × tS) := fun v1 v2 v3 σ =>
  if (6 : Int32) ≤ v3 then (some (v2, σ)) else (tb2 (mf_T_pairOf v3 v1 σ) (fun r_1 s_1 => tg r_1 36 (go v1 (v2 + (s_1.2.1 4 r_1.toNatClampNeg)) (v3 + (1 : Int32)) s_1)))
def ml_B_sumTo_4 : Nat → Int32 → Int32 → Int32 → tS → Option (Int32 × tS) := tit (fun _ _ _ _ => none) ms_B_sumTo_4
/-- TripRounds$Table.sumTo(I)I  -/
def mf_B_sumTo (p0 : Int32) (σ : tS) : Option (Int32 × tS) :=
  ml_B_sumTo_4 4096 p0 (0 : Int32) (0 : Int32) σ
/-- TripRounds$Table.isMet, the loop at 2 -/
def ms_B_isMet_2 (go : Int32 → Int32 → tS → Option (Int32 × tS)) : Int32 → Int32 → tS → Option (Int32 × tS) := fun v2 v3 σ =>
  if (σ.1 1) ≤ v3 then (tb (1 : Int32) (some ((1 : Int32), σ))) else (tb2 (mf_B_sumTo v3 σ) (fun r_1 s_1 => tg v3 6 (if (if 0 ≤ (r_1 - (s_1.2.1 2 v3.toNatClampNeg)) then (r_1 - (s_1.2.1 2 v3.toNatClampNeg)) else 0 - (r_1 - (s_1.2.1 2 v3.toNatClampNeg))) ≤ v2 then (go v2 (v3 + (1 : Int32)) s_1) else (tb (0 : Int32) (some ((0 : Int32), s_1))))))
def ml_B_isMet_2 : Nat → Int32 → Int32 → tS → Option (Int32 × tS) := tit (fun _ _ _ => none) ms_B_isMet_2
/-- TripRounds$Table.isMet(LTripRounds$Zones;I)Z  -/
def mf_B_isMet (p0 : Int32) (σ : tS) : Option (Int32 × tS) :=
  ml_B_isMet_2 4096 p0 (0 : Int32) σ
/-- TripRounds$Table.changeFactors, the loop at 2 -/
def ms_B_changeFactors_2 (go : Int32 → tS → Option tS) : Int32 → tS → Option tS := fun v2 σ =>
  if (σ.1 1) ≤ v2 then (some σ) else (tb2 (mf_B_sumTo v2 σ) (fun r_1 s_1 => if r_1 ≤ 0 then (go (v2 + (1 : Int32)) s_1) else (tg v2 6 (tg v2 6 (tz ((r_1).toInt64) (tg v2 6 (go (v2 + (1 : Int32)) (tI s_1 5 v2.toNatClampNeg (((if (if (1000000 : Int64) < ((((s_1.2.1 5 v2.toNatClampNeg)).toInt64 * ((s_1.2.1 2 v2.toNatClampNeg)).toInt64) / (r_1).toInt64) then (1000000 : Int64) else ((((s_1.2.1 5 v2.toNatClampNeg)).toInt64 * ((s_1.2.1 2 v2.toNatClampNeg)).toInt64) / (r_1).toInt64)) < (1 : Int64) then (1 : Int64) else (if (1000000 : Int64) < ((((s_1.2.1 5 v2.toNatClampNeg)).toInt64 * ((s_1.2.1 2 v2.toNatClampNeg)).toInt64) / (r_1).toInt64) then (1000000 : Int64) else ((((s_1.2.1 5 v2.toNatClampNeg)).toInt64 * ((s_1.2.1 2 v2.toNatClampNeg)).toInt64) / (r_1).toInt64)))).toInt32)))))))))
def ml_B_changeFactors_2 : Nat → Int32 → tS → Option tS := tit (fun _ _ => none) ms_B_changeFactors_2
/-- TripRounds$Table.changeFactors(LTripRounds$Zones;)V  -/
def mf_B_changeFactors  (σ : tS) : Option tS :=
  ml_B_changeFactors_2 4096 (0 : Int32) σ
/-- TripRounds$Table.goRounds, the loop at 31 -/
def ms_B_goRounds_31 (go : Int32 → Int32 → Int32 → tS → Option (Int32 × tS)) : Int32 → Int32 → Int32 → tS → Option (Int32 × tS) := fun v2 v3 v4 σ =>
  if v2 < v4 then (some ((-v2), σ)) else (tb1 (mf_B_shareAllPeople σ) (fun s_1 => tb2 (mf_B_isMet v3 s_1) (fun r_2 s_2 => if r_2 = 0 then (if v2 ≤ v4 then (go v2 v3 (v4 + (1 : Int32)) s_2) else (tb1 (mf_B_changeFactors s_2) (fun s_3 => go v2 v3 (v4 + (1 : Int32)) s_3))) else (some (v4, s_2)))))
def ml_B_goRounds_31 : Nat → Int32 → Int32 → Int32 → tS → Option (Int32 × tS) := tit (fun _ _ _ _ => none) ms_B_goRounds_31
/-- TripRounds$Table.goRounds, the loop at 3 -/
def ms_B_goRounds_3 (go : Int32 → Int32 → Int32 → tS → Option (Int32 × tS)) : Int32 → Int32 → Int32 → tS → Option (Int32 × tS) := fun v2 v3 v4 σ =>
  if (σ.1 1) ≤ v4 then (ml_B_goRounds_31 4096 v2 v3 (1 : Int32) σ) else (tg v4 6 (go v2 v3 (v4 + (1 : Int32)) (tI σ 5 v4.toNatClampNeg (1000 : Int32))))
def ml_B_goRounds_3 : Nat → Int32 → Int32 → Int32 → tS → Option (Int32 × tS) := tit (fun _ _ _ _ => none) ms_B_goRounds_3
/-- TripRounds$Table.goRounds(LTripRounds$Zones;II)I  -/
def mf_B_goRounds (p0 : Int32) (p1 : Int32) (σ : tS) : Option (Int32 × tS) :=
  ml_B_goRounds_3 4096 p0 p1 (0 : Int32) σ
/-- TripRounds.rounds(II)I  -/
def mf_T_rounds (p0 : Int32) (p1 : Int32) (σ : tS) : Option (Int32 × tS) :=
  tb1 (mf_T_needWithin p0 (1 : Int32) (50 : Int32) σ) (fun s_1 => tb1 (mf_T_needWithin p1 (0 : Int32) (100000 : Int32) s_1) (fun s_2 => tb2 (mf_B_goRounds p0 p1 s_2) (fun r_3 s_3 => some (r_3, s_3))))
/-- TripRounds.rounds(II)I (what it throws) -/
def mx_T_rounds (p0 : Int32) (p1 : Int32) (σ : tS) : Option Nat :=
  tx (mx_T_needWithin p0 (1 : Int32) (50 : Int32) σ) (tb1 (mf_T_needWithin p0 (1 : Int32) (50 : Int32) σ) (fun s_1 => tx (mx_T_needWithin p1 (0 : Int32) (100000 : Int32) s_1) (tb1 (mf_T_needWithin p1 (0 : Int32) (100000 : Int32) s_1) (fun s_2 => none))))
/-- TripRounds.trips(II)I  -/
def mf_T_trips (p0 : Int32) (p1 : Int32) (σ : tS) : Option (Int32 × tS) :=
  tb1 (mf_T_needZone p0 σ) (fun s_1 => tb1 (mf_T_needZone p1 s_1) (fun s_2 => tb2 (mf_T_pairOf p0 p1 s_2) (fun r_3 s_3 => tg r_3 36 (some ((s_3.2.1 4 r_3.toNatClampNeg), s_3)))))
/-- TripRounds.trips(II)I (what it throws) -/
def mx_T_trips (p0 : Int32) (p1 : Int32) (σ : tS) : Option Nat :=
  tx (mx_T_needZone p0 σ) (tb1 (mf_T_needZone p0 σ) (fun s_1 => tx (mx_T_needZone p1 s_1) (tb1 (mf_T_needZone p1 s_1) (fun s_2 => none))))
/-- TripRounds$Table.sumFrom, the loop at 4 -/
def ms_B_sumFrom_4 (go : Int32 → Int32 → Int32 → tS → Option (Int32 × tS)) : Int32 → Int32 → Int32 → tS → Option (Int32 × tS) := fun v1 v2 v3 σ =>
  if (6 : Int32) ≤ v3 then (some (v2, σ)) else (tb2 (mf_T_pairOf v1 v3 σ) (fun r_1 s_1 => tg r_1 36 (go v1 (v2 + (s_1.2.1 4 r_1.toNatClampNeg)) (v3 + (1 : Int32)) s_1)))
def ml_B_sumFrom_4 : Nat → Int32 → Int32 → Int32 → tS → Option (Int32 × tS) := tit (fun _ _ _ _ => none) ms_B_sumFrom_4
/-- TripRounds$Table.sumFrom(I)I  -/
def mf_B_sumFrom (p0 : Int32) (σ : tS) : Option (Int32 × tS) :=
  ml_B_sumFrom_4 4096 p0 (0 : Int32) (0 : Int32) σ
/-- TripRounds.sum(II)I  -/
def mf_T_sum (p0 : Int32) (p1 : Int32) (σ : tS) : Option (Int32 × tS) :=
  tb1 (mf_T_needZone p0 σ) (fun s_1 => tb1 (mf_T_needWithin p1 (0 : Int32) (1 : Int32) s_1) (fun s_2 => if p1 = 0 then (tb2 (mf_B_sumFrom p0 s_2) (fun r_4 s_4 => some (r_4, s_4))) else (tb2 (mf_B_sumTo p0 s_2) (fun r_3 s_3 => some (r_3, s_3)))))
/-- TripRounds.sum(II)I (what it throws) -/
def mx_T_sum (p0 : Int32) (p1 : Int32) (σ : tS) : Option Nat :=
  tx (mx_T_needZone p0 σ) (tb1 (mf_T_needZone p0 σ) (fun s_1 => tx (mx_T_needWithin p1 (0 : Int32) (1 : Int32) s_1) (tb1 (mf_T_needWithin p1 (0 : Int32) (1 : Int32) s_1) (fun s_2 => none))))
/-- TripRounds.factor(I)I  -/
def mf_T_factor (p0 : Int32) (σ : tS) : Option (Int32 × tS) :=
  tb1 (mf_T_needZone p0 σ) (fun s_1 => tg p0 6 (some ((s_1.2.1 5 p0.toNatClampNeg), s_1)))
/-- TripRounds.factor(I)I (what it throws) -/
def mx_T_factor (p0 : Int32) (σ : tS) : Option Nat :=
  tx (mx_T_needZone p0 σ) (tb1 (mf_T_needZone p0 σ) (fun s_1 => none))
/-- TripRounds$Modes.placeOf(II)I  -/
def mf_M_placeOf (p0 : Int32) (p1 : Int32) (σ : tS) : Option (Int32 × tS) :=
  some (((p0 * (36 : Int32)) + p1), σ)
/-- TripRounds.pull(IIII)I  -/
def mf_T_pull (p0 : Int32) (p1 : Int32) (p2 : Int32) (p3 : Int32) (σ : tS) : Option (Int32 × tS) :=
  tb1 (mf_T_needWithin p0 (0 : Int32) (2 : Int32) σ) (fun s_1 => tb1 (mf_T_needZone p1 s_1) (fun s_2 => tb1 (mf_T_needZone p2 s_2) (fun s_3 => tb1 (mf_T_needWithin p3 (0 : Int32) (1000 : Int32) s_3) (fun s_4 => tb2 (mf_T_pairOf p1 p2 s_4) (fun r_5 s_5 => tb2 (mf_M_placeOf p0 r_5 s_5) (fun r_6 s_6 => tg r_6 108 (tg r_6 108 (some ((s_6.2.1 6 r_6.toNatClampNeg), (tI s_6 6 r_6.toNatClampNeg p3))))))))))
/-- TripRounds.pull(IIII)I (what it throws) -/
def mx_T_pull (p0 : Int32) (p1 : Int32) (p2 : Int32) (p3 : Int32) (σ : tS) : Option Nat :=
  tx (mx_T_needWithin p0 (0 : Int32) (2 : Int32) σ) (tb1 (mf_T_needWithin p0 (0 : Int32) (2 : Int32) σ) (fun s_1 => tx (mx_T_needZone p1 s_1) (tb1 (mf_T_needZone p1 s_1) (fun s_2 => tx (mx_T_needZone p2 s_2) (tb1 (mf_T_needZone p2 s_2) (fun s_3 => tx (mx_T_needWithin p3 (0 : Int32) (1000 : Int32) s_3) (tb1 (mf_T_needWithin p3 (0 : Int32) (1000 : Int32) s_3) (fun s_4 => none))))))))
/-- TripRounds$Sharing.giveOne, the loop at 4 -/
def ms_H8_giveOne_4 (go : Int32 → Int32 → Int32 → tS → Option tS) : Int32 → Int32 → Int32 → tS → Option tS := fun v1 v2 v3 σ =>
  if v1 ≤ v3 then (tg v2 3 (tg v2 3 (tg v2 3 (some (tJ (tI σ 22 v2.toNatClampNeg ((σ.2.1 22 v2.toNatClampNeg) + (1 : Int32))) 4 v2.toNatClampNeg ((-1) : Int64)))))) else (tg v3 3 (tg v2 3 (if (lg_cmp (σ.2.2 4 v3.toNatClampNeg) (σ.2.2 4 v2.toNatClampNeg)) ≤ 0 then (go v1 v2 (v3 + (1 : Int32)) σ) else (go v1 v3 (v3 + (1 : Int32)) σ))))
def ml_H8_giveOne_4 : Nat → Int32 → Int32 → Int32 → tS → Option tS := tit (fun _ _ _ _ => none) ms_H8_giveOne_4
/-- TripRounds$Sharing.giveOne(I)V  -/
def mf_H8_giveOne (p0 : Int32) (σ : tS) : Option tS :=
  ml_H8_giveOne_4 4096 p0 (0 : Int32) (1 : Int32) σ
/-- TripRounds$Sharing.shareOut, the loop at 110 -/
def ms_H8_shareOut_110 (go : Int32 → Int32 → Int64 → Int32 → Int32 → tS → Option tS) : Int32 → Int32 → Int64 → Int32 → Int32 → tS → Option tS := fun v1 v2 v3 v5 v6 σ =>
  if v5 ≤ v6 then (some σ) else (tb1 (mf_H8_giveOne v2 σ) (fun s_1 => go v1 v2 v3 v5 (v6 + (1 : Int32)) s_1))
def ml_H8_shareOut_110 : Nat → Int32 → Int32 → Int64 → Int32 → Int32 → tS → Option tS := tit (fun _ _ _ _ _ _ => none) ms_H8_shareOut_110
/-- TripRounds$Sharing.shareOut, the loop at 48 -/
def ms_H8_shareOut_48 (go : Int32 → Int32 → Int64 → Int32 → Int32 → tS → Option tS) : Int32 → Int32 → Int64 → Int32 → Int32 → tS → Option tS := fun v1 v2 v3 v5 v6 σ =>
  if v2 ≤ v6 then (ml_H8_shareOut_110 4096 v1 v2 v3 v5 (0 : Int32) σ) else (tg v6 3 (tz v3 (tg v6 3 (tz v3 (tg v6 3 (tg v6 3 (go v1 v2 v3 (v5 - ((tI σ 22 v6.toNatClampNeg (((((v1).toInt64 * (σ.2.2 3 v6.toNatClampNeg)) / v3)).toInt32)).2.1 22 v6.toNatClampNeg)) (v6 + (1 : Int32)) (tJ (tI σ 22 v6.toNatClampNeg (((((v1).toInt64 * (σ.2.2 3 v6.toNatClampNeg)) / v3)).toInt32)) 4 v6.toNatClampNeg (((v1).toInt64 * (σ.2.2 3 v6.toNatClampNeg)) - ((v1).toInt64 * (σ.2.2 3 v6.toNatClampNeg)) / v3 * v3)))))))))
def ml_H8_shareOut_48 : Nat → Int32 → Int32 → Int64 → Int32 → Int32 → tS → Option tS := tit (fun _ _ _ _ _ _ => none) ms_H8_shareOut_48
/-- TripRounds$Sharing.shareOut, the loop at 5 -/
def ms_H8_shareOut_5 (go : Int32 → Int32 → Int64 → Int32 → tS → Option tS) : Int32 → Int32 → Int64 → Int32 → tS → Option tS := fun v1 v2 v3 v5 σ =>
  if v2 ≤ v5 then (if (lg_cmp v3 (0 : Int64)) = 0 then (some (tIf σ 22 (0 : Int32))) else (ml_H8_shareOut_48 4096 v1 v2 v3 v1 (0 : Int32) σ)) else (tg v5 3 (go v1 v2 (v3 + (σ.2.2 3 v5.toNatClampNeg)) (v5 + (1 : Int32)) σ))
def ml_H8_shareOut_5 : Nat → Int32 → Int32 → Int64 → Int32 → tS → Option tS := tit (fun _ _ _ _ _ => none) ms_H8_shareOut_5
/-- TripRounds$Sharing.shareOut(II)V  -/
def mf_H8_shareOut (p0 : Int32) (p1 : Int32) (σ : tS) : Option tS :=
  ml_H8_shareOut_5 4096 p0 p1 (0 : Int64) (0 : Int32) σ
/-- TripRounds$Modes.tripsBy, the loop at 3 -/
def ms_M_tripsBy_3 (go : Int32 → Int32 → Int32 → Int32 → tS → Option (Int32 × tS)) : Int32 → Int32 → Int32 → Int32 → tS → Option (Int32 × tS) := fun v1 v2 v3 v4 σ =>
  if (3 : Int32) ≤ v4 then (tb1 (mf_H8_shareOut v3 (3 : Int32) σ) (fun s_1 => tg v1 3 (some ((s_1.2.1 22 v1.toNatClampNeg), s_1)))) else (tb2 (mf_M_placeOf v4 v2 σ) (fun r_3 s_3 => tg r_3 108 (tg v4 3 (go v1 v2 v3 (v4 + (1 : Int32)) (tJ s_3 3 v4.toNatClampNeg (((s_3.2.1 6 r_3.toNatClampNeg)).toInt64))))))
def ml_M_tripsBy_3 : Nat → Int32 → Int32 → Int32 → Int32 → tS → Option (Int32 × tS) := tit (fun _ _ _ _ _ => none) ms_M_tripsBy_3
/-- TripRounds$Modes.tripsBy(III)I  -/
def mf_M_tripsBy (p0 : Int32) (p1 : Int32) (p2 : Int32) (σ : tS) : Option (Int32 × tS) :=
  ml_M_tripsBy_3 4096 p0 p1 p2 (0 : Int32) σ
/-- TripRounds.chosen(III)I  -/
def mf_T_chosen (p0 : Int32) (p1 : Int32) (p2 : Int32) (σ : tS) : Option (Int32 × tS) :=
  tb1 (mf_T_needWithin p0 (0 : Int32) (2 : Int32) σ) (fun s_1 => tb1 (mf_T_needZone p1 s_1) (fun s_2 => tb1 (mf_T_needZone p2 s_2) (fun s_3 => tb2 (mf_T_pairOf p1 p2 s_3) (fun r_4 s_4 => tg r_4 36 (tb2 (mf_M_tripsBy p0 r_4 (s_4.2.1 4 r_4.toNatClampNeg) s_4) (fun r_6 s_6 => some (r_6, s_6)))))))
/-- TripRounds.chosen(III)I (what it throws) -/
def mx_T_chosen (p0 : Int32) (p1 : Int32) (p2 : Int32) (σ : tS) : Option Nat :=
  tx (mx_T_needWithin p0 (0 : Int32) (2 : Int32) σ) (tb1 (mf_T_needWithin p0 (0 : Int32) (2 : Int32) σ) (fun s_1 => tx (mx_T_needZone p1 s_1) (tb1 (mf_T_needZone p1 s_1) (fun s_2 => tx (mx_T_needZone p2 s_2) (tb1 (mf_T_needZone p2 s_2) (fun s_3 => none))))))
/-- TripRounds$Assignment.begin(I)V  -/
def mf_A_begin (p0 : Int32) (σ : tS) : Option tS :=
  some (tIf (tIf (tF (tF σ 3 p0) 4 (0 : Int32)) 19 (0 : Int32)) 20 (0 : Int32))
/-- TripRounds.gatherDrivers, the loop at 15 -/
def ms_T_gatherDrivers_15 (go : Int32 → Int32 → tS → Option (Int32 × Int32 × tS)) : Int32 → Int32 → tS → Option (Int32 × Int32 × tS) := fun v1 v2 σ =>
  if (σ.1 1) ≤ v2 then (some (v1, v2, σ)) else (tb2 (mf_T_pairOf v1 v2 σ) (fun r_1 s_1 => if v1 = v2 then (tg r_1 36 (go v1 (v2 + (1 : Int32)) (tI s_1 18 r_1.toNatClampNeg (0 : Int32)))) else (tg r_1 36 (tb2 (mf_M_tripsBy (0 : Int32) r_1 (s_1.2.1 4 r_1.toNatClampNeg) s_1) (fun r_3 s_3 => tg r_1 36 (go v1 (v2 + (1 : Int32)) (tI s_3 18 r_1.toNatClampNeg r_3)))))))
def ml_T_gatherDrivers_15 : Nat → Int32 → Int32 → tS → Option (Int32 × Int32 × tS) := tit (fun _ _ _ => none) ms_T_gatherDrivers_15
/-- TripRounds.gatherDrivers, the loop at 2 -/
def ms_T_gatherDrivers_2 (go : Int32 → tS → Option tS) : Int32 → tS → Option tS := fun v1 σ =>
  if (σ.1 1) ≤ v1 then (some σ) else (tb1 (ml_T_gatherDrivers_15 4096 v1 (0 : Int32) σ) (fun e_6 => go (e_6.1 + (1 : Int32)) e_6.2.2))
def ml_T_gatherDrivers_2 : Nat → Int32 → tS → Option tS := tit (fun _ _ => none) ms_T_gatherDrivers_2
/-- TripRounds.gatherDrivers()V  -/
def mf_T_gatherDrivers  (σ : tS) : Option tS :=
  ml_T_gatherDrivers_2 4096 (0 : Int32) σ
/-- TripRounds$Streets.timeOf(I)I  -/
def mf_S_timeOf (p0 : Int32) (σ : tS) : Option (Int32 × tS) :=
  tg p0 40 (tg p0 40 (tg p0 40 (tz (((σ.2.1 11 p0.toNatClampNeg)).toInt64) (tg p0 40 (tg p0 40 (some (((if (1000000 : Int64) < ((((σ.2.1 9 p0.toNatClampNeg)).toInt64 + ((((σ.2.1 10 p0.toNatClampNeg)).toInt64 * ((σ.2.1 15 p0.toNatClampNeg)).toInt64) / ((σ.2.1 11 p0.toNatClampNeg)).toInt64)) + ((σ.2.1 12 p0.toNatClampNeg)).toInt64) then (1000000 : Int64) else ((((σ.2.1 9 p0.toNatClampNeg)).toInt64 + ((((σ.2.1 10 p0.toNatClampNeg)).toInt64 * ((σ.2.1 15 p0.toNatClampNeg)).toInt64) / ((σ.2.1 11 p0.toNatClampNeg)).toInt64)) + ((σ.2.1 12 p0.toNatClampNeg)).toInt64))).toInt32, σ)))))))
/-- TripRounds$Ways.holdTimes, the loop at 2 -/
def ms_W_holdTimes_2 (go : Int32 → tS → Option tS) : Int32 → tS → Option tS := fun v2 σ =>
  if (σ.1 2) ≤ v2 then (some σ) else (tb2 (mf_S_timeOf v2 σ) (fun r_1 s_1 => tg v2 40 (go (v2 + (1 : Int32)) (tI s_1 16 v2.toNatClampNeg r_1))))
def ml_W_holdTimes_2 : Nat → Int32 → tS → Option tS := tit (fun _ _ => none) ms_W_holdTimes_2
/-- TripRounds$Ways.holdTimes(LTripRounds$Streets;)V  -/
def mf_W_holdTimes  (σ : tS) : Option tS :=
  ml_W_holdTimes_2 4096 (0 : Int32) σ
/-- TripRounds$Ways.costBy(ILTripRounds$Streets;)J  -/
def mf_W_costBy (p0 : Int32) (σ : tS) : Option (Int64 × tS) :=
  tg p0 40 (tg (σ.2.1 8 p0.toNatClampNeg) 12 (tg p0 40 (if (σ.2.1 13 p0.toNatClampNeg) = 0 then (some ((1099511627776 : Int64), σ)) else (if (lg_cmp (σ.2.2 0 (σ.2.1 8 p0.toNatClampNeg).toNatClampNeg) (1099511627776 : Int64)) = 0 then (some ((1099511627776 : Int64), σ)) else (tg p0 40 (some ((((σ.2.2 0 (σ.2.1 8 p0.toNatClampNeg).toNatClampNeg) + (((σ.2.1 16 p0.toNatClampNeg)).toInt64 * (64 : Int64))) + (1 : Int64)), σ)))))))
/-- TripRounds$Ways.chooseNexts, the loop at 10 -/
def ms_W_chooseNexts_10 (go : Int32 → tS → Option tS) : Int32 → tS → Option tS := fun v2 σ =>
  if (σ.1 2) ≤ v2 then (some σ) else (tg v2 40 (tb2 (mf_W_costBy v2 σ) (fun r_2 s_2 => tg (σ.2.1 7 v2.toNatClampNeg) 12 (if (s_2.2.1 17 (σ.2.1 7 v2.toNatClampNeg).toNatClampNeg) = ((-1) : Int32) then (if (lg_cmp r_2 (1099511627776 : Int64)) = 0 then (go (v2 + (1 : Int32)) s_2) else (tg (σ.2.1 7 v2.toNatClampNeg) 12 (if (lg_cmp r_2 (s_2.2.2 0 (σ.2.1 7 v2.toNatClampNeg).toNatClampNeg)) = 0 then (tg (σ.2.1 7 v2.toNatClampNeg) 12 (go (v2 + (1 : Int32)) (tI s_2 17 ((σ.2.1 7 v2.toNatClampNeg).toNatClampNeg) v2))) else (go (v2 + (1 : Int32)) s_2)))) else (go (v2 + (1 : Int32)) s_2)))))
def ml_W_chooseNexts_10 : Nat → Int32 → tS → Option tS := tit (fun _ _ => none) ms_W_chooseNexts_10
/-- TripRounds$Ways.chooseNexts(LTripRounds$Streets;)V  -/
def mf_W_chooseNexts  (σ : tS) : Option tS :=
  ml_W_chooseNexts_10 4096 (0 : Int32) (tIf σ 17 ((-1) : Int32))
/-- TripRounds$Ways.lowerCosts, the loop at 4 -/
def ms_W_lowerCosts_4 (go : Int32 → Int32 → tS → Option (Int32 × tS)) : Int32 → Int32 → tS → Option (Int32 × tS) := fun v2 v3 σ =>
  if (σ.1 2) ≤ v3 then (tb v2 (some (v2, σ))) else (tb2 (mf_W_costBy v3 σ) (fun r_1 s_1 => tg v3 40 (tg (s_1.2.1 7 v3.toNatClampNeg) 12 (if 0 ≤ (lg_cmp r_1 (s_1.2.2 0 (s_1.2.1 7 v3.toNatClampNeg).toNatClampNeg)) then (go v2 (v3 + (1 : Int32)) s_1) else (tg v3 40 (tg (s_1.2.1 7 v3.toNatClampNeg) 12 (go (1 : Int32) (v3 + (1 : Int32)) (tJ s_1 0 ((s_1.2.1 7 v3.toNatClampNeg).toNatClampNeg) r_1))))))))
def ml_W_lowerCosts_4 : Nat → Int32 → Int32 → tS → Option (Int32 × tS) := tit (fun _ _ _ => none) ms_W_lowerCosts_4
/-- TripRounds$Ways.lowerCosts(LTripRounds$Streets;)Z  -/
def mf_W_lowerCosts  (σ : tS) : Option (Int32 × tS) :=
  ml_W_lowerCosts_4 4096 (0 : Int32) (0 : Int32) σ
/-- TripRounds$Ways.aimAt, the loop at 22 -/
def ms_W_aimAt_22 (go : Int32 → Int32 → Int32 → tS → Option tS) : Int32 → Int32 → Int32 → tS → Option tS := fun v1 v3 v4 σ =>
  if (12 : Int32) ≤ v4 then (tb1 (mf_W_chooseNexts σ) (fun s_2 => some s_2)) else (if v3 = 0 then (tb1 (mf_W_chooseNexts σ) (fun s_3 => some s_3)) else (tb2 (mf_W_lowerCosts σ) (fun r_4 s_4 => go v1 r_4 (v4 + (1 : Int32)) s_4)))
def ml_W_aimAt_22 : Nat → Int32 → Int32 → Int32 → tS → Option tS := tit (fun _ _ _ _ => none) ms_W_aimAt_22
/-- TripRounds$Ways.aimAt(ILTripRounds$Streets;)V  -/
def mf_W_aimAt (p0 : Int32) (σ : tS) : Option tS :=
  tg p0 12 (ml_W_aimAt_22 4096 p0 (1 : Int32) (0 : Int32) (tJ (tJf σ 0 (1099511627776 : Int64)) 0 p0.toNatClampNeg (0 : Int64)))
/-- TripRounds$Assignment.tripsOfPart(II)I  -/
def mf_A_tripsOfPart (p0 : Int32) (p1 : Int32) (σ : tS) : Option (Int32 × tS) :=
  if (σ.1 3) = 0 then (some ((0 : Int32), σ)) else (tg p0 36 (tz (((σ.1 3)).toInt64) (tz (((σ.1 3)).toInt64) (some (((((((σ.2.1 18 p0.toNatClampNeg)).toInt64 * ((p1 + (1 : Int32))).toInt64) / ((σ.1 3)).toInt64) - ((((σ.2.1 18 p0.toNatClampNeg)).toInt64 * (p1).toInt64) / ((σ.1 3)).toInt64))).toInt32, σ)))))
/-- TripRounds$Ways.timeFrom(I)I  -/
def mf_W_timeFrom (p0 : Int32) (σ : tS) : Option (Int32 × tS) :=
  tg p0 12 (if (lg_cmp (σ.2.2 0 p0.toNatClampNeg) (1099511627776 : Int64)) = 0 then (some (((-1) : Int32), σ)) else (tg p0 12 (tz (64 : Int64) (some ((((σ.2.2 0 p0.toNatClampNeg) / (64 : Int64))).toInt32, σ)))))
/-- TripRounds$Assignment.placeOf(II)I  -/
def mf_A_placeOf (p0 : Int32) (p1 : Int32) (σ : tS) : Option (Int32 × tS) :=
  some (((p0 * (36 : Int32)) + p1), σ)
/-- TripRounds$Assignment.send, the loop at 43 -/
def ms_A_send_43 (go : Int32 → Int32 → Int32 → Int32 → Int32 → tS → Option tS) : Int32 → Int32 → Int32 → Int32 → Int32 → tS → Option tS := fun v1 v2 v3 v6 v7 σ =>
  if (12 : Int32) ≤ v7 then (some σ) else (if v6 = ((-1) : Int32) then (some σ) else (tg v6 40 (tg v6 40 (tb2 (mf_A_placeOf v6 v1 (tI σ 15 v6.toNatClampNeg ((σ.2.1 15 v6.toNatClampNeg) + v2))) (fun r_7 s_7 => tg r_7 1440 (tg r_7 1440 (tg v6 40 (tg (s_7.2.1 8 v6.toNatClampNeg) 12 (go v1 v2 v3 (s_7.2.1 17 (s_7.2.1 8 v6.toNatClampNeg).toNatClampNeg) (v7 + (1 : Int32)) (tI s_7 20 r_7.toNatClampNeg ((s_7.2.1 20 r_7.toNatClampNeg) + v2)))))))))))
def ml_A_send_43 : Nat → Int32 → Int32 → Int32 → Int32 → Int32 → tS → Option tS := tit (fun _ _ _ _ _ _ => none) ms_A_send_43
/-- TripRounds$Assignment.send(IIILTripRounds$Ways;LTripRounds$Streets;)V  -/
def mf_A_send (p0 : Int32) (p1 : Int32) (p2 : Int32) (σ : tS) : Option tS :=
  tb2 (mf_W_timeFrom p2 σ) (fun r_1 s_1 => if r_1 = ((-1) : Int32) then (some (tF s_1 4 ((s_1.1 4) + p1))) else (tg p0 36 (tg p0 36 (tg p2 12 (ml_A_send_43 4096 p0 p1 p2 (s_1.2.1 17 p2.toNatClampNeg) (0 : Int32) (tI s_1 19 p0.toNatClampNeg ((s_1.2.1 19 p0.toNatClampNeg) + p1)))))))
/-- TripRounds.assignPart, the loop at 46 -/
def ms_T_assignPart_46 (go : Int32 → Int32 → Int32 → tS → Option (Int32 × Int32 × Int32 × tS)) : Int32 → Int32 → Int32 → tS → Option (Int32 × Int32 × Int32 × tS) := fun v1 v2 v3 σ =>
  if (σ.1 1) ≤ v3 then (some (v1, v2, v3, σ)) else (tb2 (mf_T_pairOf v3 v2 σ) (fun r_4 s_4 => tb2 (mf_A_tripsOfPart r_4 v1 s_4) (fun r_5 s_5 => tg v3 6 (tb1 (mf_A_send r_4 r_5 (s_5.2.1 0 v3.toNatClampNeg) s_5) (fun s_7 => go v1 v2 (v3 + (1 : Int32)) s_7)))))
def ml_T_assignPart_46 : Nat → Int32 → Int32 → Int32 → tS → Option (Int32 × Int32 × Int32 × tS) := tit (fun _ _ _ _ => none) ms_T_assignPart_46
/-- TripRounds.assignPart, the loop at 13 -/
def ms_T_assignPart_13 (go : Int32 → Int32 → tS → Option tS) : Int32 → Int32 → tS → Option tS := fun v1 v2 σ =>
  if (σ.1 1) ≤ v2 then (some σ) else (tg v2 6 (tb1 (mf_W_aimAt (σ.2.1 0 v2.toNatClampNeg) σ) (fun s_3 => tb1 (ml_T_assignPart_46 4096 v1 v2 (0 : Int32) s_3) (fun e_8 => go e_8.1 (e_8.2.1 + (1 : Int32)) e_8.2.2.2))))
def ml_T_assignPart_13 : Nat → Int32 → Int32 → tS → Option tS := tit (fun _ _ _ => none) ms_T_assignPart_13
/-- TripRounds.assignPart(I)V  -/
def mf_T_assignPart (p0 : Int32) (σ : tS) : Option tS :=
  tb1 (mf_W_holdTimes σ) (fun s_1 => ml_T_assignPart_13 4096 p0 (0 : Int32) s_1)
/-- TripRounds.assignAll, the loop at 25 -/
def ms_T_assignAll_25 (go : Int32 → Int32 → tS → Option tS) : Int32 → Int32 → tS → Option tS := fun v1 v2 σ =>
  if v1 ≤ v2 then (some σ) else (tb1 (mf_T_assignPart v2 σ) (fun s_3 => go v1 (v2 + (1 : Int32)) s_3))
def ml_T_assignAll_25 : Nat → Int32 → Int32 → tS → Option tS := tit (fun _ _ _ => none) ms_T_assignAll_25
/-- TripRounds.assignAll(I)V  -/
def mf_T_assignAll (p0 : Int32) (σ : tS) : Option tS :=
  tb1 (mf_A_begin p0 σ) (fun s_1 => tb1 (mf_T_gatherDrivers (tIf s_1 15 (0 : Int32))) (fun s_2 => ml_T_assignAll_25 4096 p0 (0 : Int32) s_2))
/-- TripRounds.assign(I)I  -/
def mf_T_assign (p0 : Int32) (σ : tS) : Option (Int32 × tS) :=
  tb1 (mf_T_needWithin p0 (1 : Int32) (8 : Int32) σ) (fun s_1 => tb1 (mf_T_assignAll p0 s_1) (fun s_2 => some ((s_2.1 4), s_2)))
/-- TripRounds.assign(I)I (what it throws) -/
def mx_T_assign (p0 : Int32) (σ : tS) : Option Nat :=
  tx (mx_T_needWithin p0 (1 : Int32) (8 : Int32) σ) (tb1 (mf_T_needWithin p0 (1 : Int32) (8 : Int32) σ) (fun s_1 => none))
/-- TripRounds.flow(II)I  -/
def mf_T_flow (p0 : Int32) (p1 : Int32) (σ : tS) : Option (Int32 × tS) :=
  tb1 (mf_T_needStreet p0 σ) (fun s_1 => tb1 (mf_T_needWithin p1 (0 : Int32) (1 : Int32) s_1) (fun s_2 => if p1 = 0 then (tg p0 40 (some ((s_2.2.1 15 p0.toNatClampNeg), s_2))) else (tb2 (mf_S_timeOf p0 s_2) (fun r_3 s_3 => some (r_3, s_3)))))
/-- TripRounds.flow(II)I (what it throws) -/
def mx_T_flow (p0 : Int32) (p1 : Int32) (σ : tS) : Option Nat :=
  tx (mx_T_needStreet p0 σ) (tb1 (mf_T_needStreet p0 σ) (fun s_1 => tx (mx_T_needWithin p1 (0 : Int32) (1 : Int32) s_1) (tb1 (mf_T_needWithin p1 (0 : Int32) (1 : Int32) s_1) (fun s_2 => none))))
/-- TripRounds$Ways.streetAt, the loop at 11 -/
def ms_W_streetAt_11 (go : Int32 → Int32 → Int32 → Int32 → tS → Option (Int32 × tS)) : Int32 → Int32 → Int32 → Int32 → tS → Option (Int32 × tS) := fun v1 v2 v4 v5 σ =>
  if v1 ≤ v5 then (some (v4, σ)) else (if (12 : Int32) ≤ v5 then (some (v4, σ)) else (if v4 = ((-1) : Int32) then (some (v4, σ)) else (tg v4 40 (tg (σ.2.1 8 v4.toNatClampNeg) 12 (go v1 v2 (σ.2.1 17 (σ.2.1 8 v4.toNatClampNeg).toNatClampNeg) (v5 + (1 : Int32)) σ)))))
def ml_W_streetAt_11 : Nat → Int32 → Int32 → Int32 → Int32 → tS → Option (Int32 × tS) := tit (fun _ _ _ _ _ => none) ms_W_streetAt_11
/-- TripRounds$Ways.streetAt(IILTripRounds$Streets;)I  -/
def mf_W_streetAt (p0 : Int32) (p1 : Int32) (σ : tS) : Option (Int32 × tS) :=
  tg p1 12 (ml_W_streetAt_11 4096 p0 p1 (σ.2.1 17 p1.toNatClampNeg) (0 : Int32) σ)
/-- TripRounds.way(III)I  -/
def mf_T_way (p0 : Int32) (p1 : Int32) (p2 : Int32) (σ : tS) : Option (Int32 × tS) :=
  tb1 (mf_T_needNode p0 σ) (fun s_1 => tb1 (mf_T_needNode p1 s_1) (fun s_2 => if 0 ≤ p2 then (tb1 (mf_W_holdTimes s_2) (fun s_3 => tb1 (mf_W_aimAt p1 s_3) (fun s_4 => tb2 (mf_W_streetAt p2 p0 s_4) (fun r_5 s_5 => some (r_5, s_5))))) else (none)))
/-- TripRounds.way(III)I (what it throws) -/
def mx_T_way (p0 : Int32) (p1 : Int32) (p2 : Int32) (σ : tS) : Option Nat :=
  tx (mx_T_needNode p0 σ) (tb1 (mf_T_needNode p0 σ) (fun s_1 => tx (mx_T_needNode p1 s_1) (tb1 (mf_T_needNode p1 s_1) (fun s_2 => if 0 ≤ p2 then (none) else (some 1)))))
/-- TripRounds.least(II)I  -/
def mf_T_least (p0 : Int32) (p1 : Int32) (σ : tS) : Option (Int32 × tS) :=
  tb1 (mf_T_needNode p0 σ) (fun s_1 => tb1 (mf_T_needNode p1 s_1) (fun s_2 => tb1 (mf_W_holdTimes s_2) (fun s_3 => tb1 (mf_W_aimAt p1 s_3) (fun s_4 => tb2 (mf_W_timeFrom p0 s_4) (fun r_5 s_5 => some (r_5, s_5))))))
/-- TripRounds.least(II)I (what it throws) -/
def mx_T_least (p0 : Int32) (p1 : Int32) (σ : tS) : Option Nat :=
  tx (mx_T_needNode p0 σ) (tb1 (mf_T_needNode p0 σ) (fun s_1 => tx (mx_T_needNode p1 s_1) (tb1 (mf_T_needNode p1 s_1) (fun s_2 => none))))
/-- TripRounds.link(III)I  -/
def mf_T_link (p0 : Int32) (p1 : Int32) (p2 : Int32) (σ : tS) : Option (Int32 × tS) :=
  tb1 (mf_T_needStreet p0 σ) (fun s_1 => tb1 (mf_T_needZone p1 s_1) (fun s_2 => tb1 (mf_T_needZone p2 s_2) (fun s_3 => tb2 (mf_T_pairOf p1 p2 s_3) (fun r_4 s_4 => tb2 (mf_A_placeOf p0 r_4 s_4) (fun r_5 s_5 => tg r_5 1440 (some ((s_5.2.1 20 r_5.toNatClampNeg), s_5)))))))
/-- TripRounds.link(III)I (what it throws) -/
def mx_T_link (p0 : Int32) (p1 : Int32) (p2 : Int32) (σ : tS) : Option Nat :=
  tx (mx_T_needStreet p0 σ) (tb1 (mf_T_needStreet p0 σ) (fun s_1 => tx (mx_T_needZone p1 s_1) (tb1 (mf_T_needZone p1 s_1) (fun s_2 => tx (mx_T_needZone p2 s_2) (tb1 (mf_T_needZone p2 s_2) (fun s_3 => none))))))
/-- TripRounds.leastTimeTo, the loop at 5 -/
def ms_T_leastTimeTo_5 (go : Int32 → Int64 → Int32 → tS → Option (Int64 × tS)) : Int32 → Int64 → Int32 → tS → Option (Int64 × tS) := fun v1 v2 v4 σ =>
  if (σ.1 1) ≤ v4 then (some (v2, σ)) else (tg v4 6 (tb2 (mf_W_timeFrom (σ.2.1 0 v4.toNatClampNeg) σ) (fun r_2 s_2 => if r_2 = ((-1) : Int32) then (go v1 v2 (v4 + (1 : Int32)) s_2) else (tb2 (mf_T_pairOf v4 v1 s_2) (fun r_3 s_3 => tg r_3 36 (go v1 (v2 + (((s_3.2.1 19 r_3.toNatClampNeg)).toInt64 * (r_2).toInt64)) (v4 + (1 : Int32)) s_3))))))
def ml_T_leastTimeTo_5 : Nat → Int32 → Int64 → Int32 → tS → Option (Int64 × tS) := tit (fun _ _ _ _ => none) ms_T_leastTimeTo_5
/-- TripRounds.leastTimeTo(I)J  -/
def mf_T_leastTimeTo (p0 : Int32) (σ : tS) : Option (Int64 × tS) :=
  ml_T_leastTimeTo_5 4096 p0 (0 : Int64) (0 : Int32) σ
/-- TripRounds.gap, the loop at 58 -/
def ms_T_gap_58 (go : Int64 → Int32 → tS → Option (Int64 × tS)) : Int64 → Int32 → tS → Option (Int64 × tS) := fun v1 v3 σ =>
  if (σ.1 1) ≤ v3 then (some (v1, σ)) else (tg v3 6 (tb1 (mf_W_aimAt (σ.2.1 0 v3.toNatClampNeg) σ) (fun s_3 => tb2 (mf_T_leastTimeTo v3 s_3) (fun r_4 s_4 => go (v1 - r_4) (v3 + (1 : Int32)) s_4))))
def ml_T_gap_58 : Nat → Int64 → Int32 → tS → Option (Int64 × tS) := tit (fun _ _ _ => none) ms_T_gap_58
/-- TripRounds.gap, the loop at 15 -/
def ms_T_gap_15 (go : Int64 → Int32 → tS → Option (Int64 × tS)) : Int64 → Int32 → tS → Option (Int64 × tS) := fun v1 v3 σ =>
  if (σ.1 2) ≤ v3 then (ml_T_gap_58 4096 v1 (0 : Int32) σ) else (tg v3 40 (tg v3 40 (go (v1 + (((σ.2.1 15 v3.toNatClampNeg)).toInt64 * ((σ.2.1 16 v3.toNatClampNeg)).toInt64)) (v3 + (1 : Int32)) σ)))
def ml_T_gap_15 : Nat → Int64 → Int32 → tS → Option (Int64 × tS) := tit (fun _ _ _ => none) ms_T_gap_15
/-- TripRounds.gap()J  -/
def mf_T_gap  (σ : tS) : Option (Int64 × tS) :=
  tb1 (mf_W_holdTimes σ) (fun s_1 => ml_T_gap_15 4096 (0 : Int64) (0 : Int32) s_1)
/-- TripRounds.count(II)I  -/
def mf_T_count (p0 : Int32) (p1 : Int32) (σ : tS) : Option (Int32 × tS) :=
  tb1 (mf_T_needStreet p0 σ) (fun s_1 => tb1 (mf_T_needWithin p1 ((-1) : Int32) (1000000 : Int32) s_1) (fun s_2 => tg p0 40 (tg p0 40 (some ((s_2.2.1 14 p0.toNatClampNeg), (tI s_2 14 p0.toNatClampNeg p1))))))
/-- TripRounds.count(II)I (what it throws) -/
def mx_T_count (p0 : Int32) (p1 : Int32) (σ : tS) : Option Nat :=
  tx (mx_T_needStreet p0 σ) (tb1 (mf_T_needStreet p0 σ) (fun s_1 => tx (mx_T_needWithin p1 ((-1) : Int32) (1000000 : Int32) s_1) (tb1 (mf_T_needWithin p1 ((-1) : Int32) (1000000 : Int32) s_1) (fun s_2 => none))))
/-- TripRounds$Streets.farthestFromCount, the loop at 6 -/
def ms_S_farthestFromCount_6 (go : Int32 → Int32 → Int32 → tS → Option (Int32 × tS)) : Int32 → Int32 → Int32 → tS → Option (Int32 × tS) := fun v1 v2 v3 σ =>
  if (σ.1 2) ≤ v3 then (some (v1, σ)) else (tg v3 40 (if (σ.2.1 14 v3.toNatClampNeg) = ((-1) : Int32) then (if (0 : Int32) ≤ v2 then (go v1 v2 (v3 + (1 : Int32)) σ) else (go v3 (0 : Int32) (v3 + (1 : Int32)) σ)) else (tg v3 40 (tg v3 40 (if (if 0 ≤ ((σ.2.1 15 v3.toNatClampNeg) - (σ.2.1 14 v3.toNatClampNeg)) then ((σ.2.1 15 v3.toNatClampNeg) - (σ.2.1 14 v3.toNatClampNeg)) else 0 - ((σ.2.1 15 v3.toNatClampNeg) - (σ.2.1 14 v3.toNatClampNeg))) ≤ v2 then (go v1 v2 (v3 + (1 : Int32)) σ) else (go v3 (if 0 ≤ ((σ.2.1 15 v3.toNatClampNeg) - (σ.2.1 14 v3.toNatClampNeg)) then ((σ.2.1 15 v3.toNatClampNeg) - (σ.2.1 14 v3.toNatClampNeg)) else 0 - ((σ.2.1 15 v3.toNatClampNeg) - (σ.2.1 14 v3.toNatClampNeg))) (v3 + (1 : Int32)) σ))))))
def ml_S_farthestFromCount_6 : Nat → Int32 → Int32 → Int32 → tS → Option (Int32 × tS) := tit (fun _ _ _ _ => none) ms_S_farthestFromCount_6
/-- TripRounds$Streets.farthestFromCount()I  -/
def mf_S_farthestFromCount  (σ : tS) : Option (Int32 × tS) :=
  ml_S_farthestFromCount_6 4096 ((-1) : Int32) (0 : Int32) (0 : Int32) σ
/-- TripRounds.scaleUsersOf, the loop at 21 -/
def ms_T_scaleUsersOf_21 (go : Int32 → Int64 → Int32 → tS → Option tS) : Int32 → Int64 → Int32 → tS → Option tS := fun v1 v2 v4 σ =>
  if (36 : Int32) ≤ v4 then (some σ) else (tb2 (mf_A_placeOf v1 v4 σ) (fun r_2 s_2 => tg r_2 1440 (if (s_2.2.1 20 r_2.toNatClampNeg) ≤ 0 then (go v1 v2 (v4 + (1 : Int32)) s_2) else (tg v4 36 (tg v1 40 (tz v2 (tg v4 36 (go v1 v2 (v4 + (1 : Int32)) (tI s_2 4 v4.toNatClampNeg (((if (1000000 : Int64) < ((((s_2.2.1 4 v4.toNatClampNeg)).toInt64 * ((s_2.2.1 14 v1.toNatClampNeg)).toInt64) / v2) then (1000000 : Int64) else ((((s_2.2.1 4 v4.toNatClampNeg)).toInt64 * ((s_2.2.1 14 v1.toNatClampNeg)).toInt64) / v2))).toInt32))))))))))
def ml_T_scaleUsersOf_21 : Nat → Int32 → Int64 → Int32 → tS → Option tS := tit (fun _ _ _ _ => none) ms_T_scaleUsersOf_21
/-- TripRounds.scaleUsersOf(I)V  -/
def mf_T_scaleUsersOf (p0 : Int32) (σ : tS) : Option tS :=
  tg p0 40 (if (lg_cmp (((σ.2.1 15 p0.toNatClampNeg)).toInt64) (0 : Int64)) = 0 then (some σ) else (ml_T_scaleUsersOf_21 4096 p0 (((σ.2.1 15 p0.toNatClampNeg)).toInt64) (0 : Int32) σ))
/-- TripRounds.fit, the loop at 29 -/
def ms_T_fit_29 (go : Int32 → Int32 → tS → Option (Int32 × tS)) : Int32 → Int32 → tS → Option (Int32 × tS) := fun v1 v2 σ =>
  if v1 ≤ v2 then (some (v1, σ)) else (tb2 (mf_S_farthestFromCount σ) (fun r_2 s_2 => if r_2 = ((-1) : Int32) then (some (v2, s_2)) else (tg r_2 40 (if (s_2.2.1 15 r_2.toNatClampNeg) = 0 then (some (v2, s_2)) else (tb1 (mf_T_scaleUsersOf r_2 s_2) (fun s_4 => tb1 (mf_T_assignAll (s_4.1 3) s_4) (fun s_5 => go v1 (v2 + (1 : Int32)) s_5)))))))
def ml_T_fit_29 : Nat → Int32 → Int32 → tS → Option (Int32 × tS) := tit (fun _ _ _ => none) ms_T_fit_29
/-- TripRounds.fit(I)I  -/
def mf_T_fit (p0 : Int32) (σ : tS) : Option (Int32 × tS) :=
  tb1 (mf_T_needWithin p0 (1 : Int32) (20 : Int32) σ) (fun s_1 => if (s_1.1 3) = 0 then (none) else (ml_T_fit_29 4096 p0 (0 : Int32) s_1))
/-- TripRounds.fit(I)I (what it throws) -/
def mx_T_fit (p0 : Int32) (σ : tS) : Option Nat :=
  tx (mx_T_needWithin p0 (1 : Int32) (20 : Int32) σ) (tb1 (mf_T_needWithin p0 (1 : Int32) (20 : Int32) σ) (fun s_1 => if (s_1.1 3) = 0 then (some 2) else (none)))
