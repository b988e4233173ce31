/-! pure functions, written by program out of the bytecode -/
def q_X5_slot (x0 : Int32) (x1 : Int32) : Option (Int32) :=
  some ((x0 * 8) + x1)
def q_X5_mix (x0 : Int64) (x2 : Int32) : Option (Int64) :=
  some ((x0 * 31) + ((x2 : Int32).toInt64))
def q_J6_bitCount_0f7a4 (x0 : Int32) : Option (Int32) :=
  (some (x0 - (((x0.toUInt32 >>> ((1 : Int32).toUInt32 &&& Int32.toUInt32 31)).toInt32) &&& 1431655765))).bind fun t1 =>
  (some ((t1 &&& 858993459) + (((t1.toUInt32 >>> ((2 : Int32).toUInt32 &&& Int32.toUInt32 31)).toInt32) &&& 858993459))).bind fun t2 =>
  (some ((t2 + ((t2.toUInt32 >>> ((4 : Int32).toUInt32 &&& Int32.toUInt32 31)).toInt32)) &&& 252645135)).bind fun t3 =>
  (some (t3 + ((t3.toUInt32 >>> ((8 : Int32).toUInt32 &&& Int32.toUInt32 31)).toInt32))).bind fun t4 =>
  (some (t4 + ((t4.toUInt32 >>> ((16 : Int32).toUInt32 &&& Int32.toUInt32 31)).toInt32))).bind fun t5 =>
  some (t5 &&& 63)
def q_X2_contains (x0 : Int32) (x1 : Int32) : Option (Int32) :=
  if ((x0 >>> (x1 &&& 31)) &&& 1) = 1 then (
    some 1
  ) else (
    some 0
  )
def q_X0_append (S : PS) (x1 : Int32) : Option (PS × Int32) :=
  (wA S 0 16 (S.1 0) x1).bind fun S1 =>
  (rd (S1.2 2) 16 x1).bind fun v2 =>
  (wA S1 2 16 (S.1 0) (v2 ||| (1 <<< ((S.1 0) &&& 31)))).bind fun S3 =>
  (wN S3 0 ((S3.1 0) + 1)).bind fun S4 =>
  some (S4, (S.1 0))
def q_X0_under (S : PS) (x1 : Int32) (x2 : Int32) : Option (Int32) :=
  (rd (S.2 2) 16 x1).bind fun v1 =>
  if ((v1 >>> (x2 &&& 31)) &&& 1) = 1 then (
    some 1
  ) else (
    some 0
  )
def q_X0_mixInto_L12 (S : PS)  (rec12 : Int64 → Int32 → Option (Int64)) (x3 : Int64) (x5 : Int32) : Option (Int64) :=
  if (S.1 0) ≤ x5 then (
    some x3
  ) else (
    (rd (S.2 0) 16 x5).bind fun v2 =>
    (q_X5_mix x3 v2).bind fun v3 =>
    (rd (S.2 1) 16 x5).bind fun v4 =>
    if v4 = 0 then (
      (q_X5_mix v3 0).bind fun v5 =>
      rec12 v5 (x5 + 1)
    ) else (
      (q_X5_mix v3 1).bind fun v6 =>
      rec12 v6 (x5 + 1)
    )
  )
def q_X0_mixInto (S : PS) (x1 : Int64) : Option (Int64) :=
  (q_X5_mix x1 (S.1 0)).bind fun v1 =>
  iter2 (q_X0_mixInto_L12 S ) 1000 v1 0
def q_X1_change (S : PS) (x1 : Int32) (x2 : Int32) (x3 : Int32) : Option (PS × Int32) :=
  if x1 = (S.1 2) then (
    if x2 = (S.1 3) then (
      if x3 = (S.1 4) then (
        (wN S 2 x1).bind fun S7 =>
        (wN S7 3 x2).bind fun S8 =>
        (wN S8 4 x3).bind fun S9 =>
        some (S9, 0)
      ) else (
        (wN S 2 x1).bind fun S10 =>
        (wN S10 3 x2).bind fun S11 =>
        (wN S11 4 x3).bind fun S12 =>
        some (S12, 1)
      )
    ) else (
      (wN S 2 x1).bind fun S4 =>
      (wN S4 3 x2).bind fun S5 =>
      (wN S5 4 x3).bind fun S6 =>
      some (S6, 1)
    )
  ) else (
    (wN S 2 x1).bind fun S1 =>
    (wN S1 3 x2).bind fun S2 =>
    (wN S2 4 x3).bind fun S3 =>
    some (S3, 1)
  )
def q_X1_mixInto (S : PS) (x1 : Int64) : Option (Int64) :=
  (q_X5_mix x1 (S.1 2)).bind fun v1 =>
  (q_X5_mix v1 (S.1 3)).bind fun v2 =>
  (q_X5_mix v2 (S.1 4)).bind fun v3 =>
  some v3
def q_X4_isTakenBefore (S : PS) (x1 : Int32) (x2 : Int32) (x3 : Int32) : Option (Int32) :=
  (rd (S.2 18) 400 x3).bind fun v1 =>
  if x2 = v1 then (
    (rd (S.2 17) 400 x3).bind fun v3 =>
    if v3 ≤ x1 then (
      some 0
    ) else (
      some 1
    )
  ) else (
    (rd (S.2 18) 400 x3).bind fun v2 =>
    if x2 ≤ v2 then (
      some 0
    ) else (
      some 1
    )
  )
def q_X4_insert_L5 (x1 : Int32) (x2 : Int32)  (rec5 : Int32 → PS → Option (PS)) (x3 : Int32) (S : PS) : Option (PS) :=
  if x3 ≤ 0 then (
    (wA S 17 400 x3 x1).bind fun S1 =>
    (wA S1 18 400 x3 x2).bind fun S2 =>
    (wN S2 7 ((S2.1 7) + 1)).bind fun S3 =>
    some S3
  ) else (
    (q_X4_isTakenBefore S x1 x2 (x3 - 1)).bind fun v4 =>
    if v4 = 0 then (
      (rd (S.2 17) 400 (x3 - 1)).bind fun v8 =>
      (wA S 17 400 x3 v8).bind fun S9 =>
      (rd (S9.2 18) 400 (x3 - 1)).bind fun v10 =>
      (wA S9 18 400 x3 v10).bind fun S11 =>
      rec5 (x3 + -1) S11
    ) else (
      (wA S 17 400 x3 x1).bind fun S5 =>
      (wA S5 18 400 x3 x2).bind fun S6 =>
      (wN S6 7 ((S6.1 7) + 1)).bind fun S7 =>
      some S7
    )
  )
def q_X4_insert (S : PS) (x1 : Int32) (x2 : Int32) : Option (PS) :=
  iter2 (q_X4_insert_L5 x1 x2 ) 1000 (S.1 7) S
def q_X4_takeNext (S : PS)  : Option (PS × Int32) :=
  (wN S 7 ((S.1 7) - 1)).bind fun S1 =>
  (rd (S1.2 17) 400 (S1.1 7)).bind fun v2 =>
  some (S1, v2)
def q_X2_hasOwn (S : PS) (x1 : Int32) (x2 : Int32) : Option (Int32) :=
  (rd (S.2 8) 128 ((x1 * 8) + x2)).bind fun v1 =>
  if v1 ≤ 0 then (
    some 0
  ) else (
    some 1
  )
def q_X2_appendMethod (S : PS) (x1 : Int32) (x2 : Int32) (x3 : Int32) : Option (PS × Int32) :=
  (wA S 3 30 (S.1 1) x3).bind fun S1 =>
  (wN S1 1 ((S1.1 1) + 1)).bind fun S2 =>
  (wA S2 8 128 ((x1 * 8) + x2) (S2.1 1)).bind fun S3 =>
  some (S3, (S.1 1))
def q_X2_appendSite (S : PS) (x1 : Int32) (x2 : Int32) (x3 : Int32) (x4 : Int32) : Option (PS × Int32) :=
  (rd (S.2 4) 30 x1).bind fun v1 =>
  (q_X5_slot x1 v1).bind fun v2 =>
  (wA S 6 240 v2 x2).bind fun S3 =>
  (wA S3 7 240 v2 x3).bind fun S4 =>
  (wA S4 5 240 v2 x4).bind fun S5 =>
  (rd (S5.2 4) 30 x1).bind fun v6 =>
  (wA S5 4 30 x1 (v6 + 1)).bind fun S7 =>
  some (S7, v1)
def q_X2_lookUp_L5 (S : PS) (x2 : Int32)  (rec5 : Int32 → Int32 → Option (Int32)) (x3 : Int32) (x4 : Int32) : Option (Int32) :=
  if 16 ≤ x4 then (
    some (-1)
  ) else (
    if x3 < 0 then (
      some (-1)
    ) else (
      (rd (S.2 8) 128 ((x3 * 8) + x2)).bind fun v1 =>
      if (v1 - 1) < 0 then (
        (rd (S.2 0) 16 x3).bind fun v2 =>
        rec5 v2 (x4 + 1)
      ) else (
        some (v1 - 1)
      )
    )
  )
def q_X2_lookUp (S : PS) (x1 : Int32) (x2 : Int32) : Option (Int32) :=
  iter2 (q_X2_lookUp_L5 S x2 ) 1000 x1 0
def q_X2_targetSet_L5 (S : PS) (x1 : Int32) (x2 : Int32)  (rec5 : Int32 → Int32 → Option (Int32)) (x3 : Int32) (x4 : Int32) : Option (Int32) :=
  if (S.1 0) ≤ x4 then (
    some x3
  ) else (
    (rd (S.2 1) 16 x4).bind fun v1 =>
    if v1 = 0 then (
      rec5 x3 (x4 + 1)
    ) else (
      (q_X0_under S x4 x1).bind fun v2 =>
      if v2 = 0 then (
        rec5 x3 (x4 + 1)
      ) else (
        (q_X2_lookUp S x4 x2).bind fun v3 =>
        if 0 ≤ v3 then (
          rec5 (x3 ||| (1 <<< (v3 &&& 31))) (x4 + 1)
        ) else (
          rec5 (x3 ||| 0) (x4 + 1)
        )
      )
    )
  )
def q_X2_targetSet (S : PS) (x1 : Int32) (x2 : Int32) : Option (Int32) :=
  iter2 (q_X2_targetSet_L5 S x1 x2 ) 1000 0 x1
def q_X2_targetsOfSite (S : PS) (x1 : Int32) (x2 : Int32) : Option (Int32) :=
  (q_X5_slot x1 x2).bind fun v1 =>
  (rd (S.2 6) 240 v1).bind fun v2 =>
  (rd (S.2 7) 240 v1).bind fun v3 =>
  (q_X2_targetSet S v2 v3).bind fun v4 =>
  some v4
def q_X2_member_L5 (S : PS) (x1 : Int32)  (rec5 : Int32 → Int32 → Option (Int32)) (x3 : Int32) (x4 : Int32) : Option (Int32) :=
  if (S.1 1) ≤ x4 then (
    some (-1)
  ) else (
    (q_X2_contains x1 x4).bind fun v1 =>
    if v1 = 0 then (
      rec5 x3 (x4 + 1)
    ) else (
      if x3 = 0 then (
        some x4
      ) else (
        rec5 (x3 + -1) (x4 + 1)
      )
    )
  )
def q_X2_member (S : PS) (x1 : Int32) (x2 : Int32) : Option (Int32) :=
  iter2 (q_X2_member_L5 S x1 ) 1000 x2 0
def q_X2_calledFrom_L4 (S : PS) (x1 : Int32)  (rec4 : Int32 → Int32 → Option (Int32)) (x2 : Int32) (x3 : Int32) : Option (Int32) :=
  (rd (S.2 4) 30 x1).bind fun v1 =>
  if v1 ≤ x3 then (
    some x2
  ) else (
    (q_X2_targetsOfSite S x1 x3).bind fun v2 =>
    rec4 (x2 ||| v2) (x3 + 1)
  )
def q_X2_calledFrom (S : PS) (x1 : Int32) : Option (Int32) :=
  iter2 (q_X2_calledFrom_L4 S x1 ) 1000 0 0
def q_X2_reachableSet_L9 (S : PS)  (rec9 : Int32 → Int32 → Int32 → Option (Int32)) (x2 : Int32) (x3 : Int32) (x4 : Int32) : Option (Int32) :=
  if (S.1 1) ≤ x4 then (
    some x2
  ) else (
    (q_X2_member S (x2 &&& (x3 ^^^ (-1))) 0).bind fun v1 =>
    if 0 ≤ v1 then (
      (q_X2_calledFrom S v1).bind fun v2 =>
      rec9 (x2 ||| v2) (x3 ||| (1 <<< (v1 &&& 31))) (x4 + 1)
    ) else (
      some x2
    )
  )
def q_X2_reachableSet (S : PS) (x1 : Int32) : Option (Int32) :=
  iter3 (q_X2_reachableSet_L9 S ) 1000 (1 <<< (x1 &&& 31)) 0 0
def q_X3_exists (S : PS)  : Option (Int32) :=
  if (S.1 5) ≤ 0 then (
    some 0
  ) else (
    some 1
  )
def q_X3_remove (S : PS)  : Option (PS) :=
  (wN S 5 0).bind fun S1 =>
  (wN S1 6 0).bind fun S2 =>
  some S2
def q_X3_sitesAt (S : PS) (x1 : Int32) : Option (Int32) :=
  (rd (S.2 9) 50 x1).bind fun v1 =>
  (rd (S.2 4) 30 v1).bind fun v2 =>
  some v2
def q_X3_copiesOnPath_L8 (S : PS) (x2 : Int32)  (rec8 : Int32 → Int32 → Int32 → Option (Int32)) (x3 : Int32) (x4 : Int32) (x5 : Int32) : Option (Int32) :=
  if 10 < x5 then (
    some x3
  ) else (
    if x4 < 0 then (
      some x3
    ) else (
      (rd (S.2 9) 50 x4).bind fun v1 =>
      if v1 = x2 then (
        (rd (S.2 10) 50 x4).bind fun v3 =>
        rec8 (x3 + 1) v3 (x5 + 1)
      ) else (
        (rd (S.2 10) 50 x4).bind fun v2 =>
        rec8 x3 v2 (x5 + 1)
      )
    )
  )
def q_X3_copiesOnPath (S : PS) (x1 : Int32) (x2 : Int32) : Option (Int32) :=
  iter3 (q_X3_copiesOnPath_L8 S x2 ) 1000 0 x1 0
def q_X3_earlyVerdict (S : PS) (x1 : Int32) (x2 : Int32) (x3 : Int32) : Option (Int32) :=
  if x2 = 0 then (
    some 1
  ) else (
    if x2 ≤ 1 then (
      (rd (S.2 12) 50 x1).bind fun v1 =>
      if v1 < (S.1 3) then (
        (q_X3_copiesOnPath S x1 x3).bind fun v2 =>
        if v2 ≤ (S.1 4) then (
          some (-1)
        ) else (
          some 4
        )
      ) else (
        some 3
      )
    ) else (
      some 2
    )
  )
def q_X3_lateVerdict (S : PS) (x1 : Int32) : Option (Int32) :=
  if ((S.1 6) + x1) ≤ (S.1 2) then (
    if (S.1 5) < 50 then (
      some 0
    ) else (
      some 6
    )
  ) else (
    some 5
  )
def q_X3_merit (x0 : Int32) (x1 : Int32) : Option (Int32) :=
  if 1 ≤ x1 then (
    (nz x1).bind fun _ =>
    some ((1000 * x0) / x1)
  ) else (
    some 0
  )
def q_X3_lookAtSite (S : PS) (x1 : Int32) (x2 : Int32) (x3 : Int32) : Option (PS) :=
  (q_X5_slot x1 x2).bind fun v1 =>
  (rd (S.2 9) 50 x1).bind fun v2 =>
  (q_X2_targetsOfSite S v2 x2).bind fun v3 =>
  (rd (S.2 9) 50 x1).bind fun v4 =>
  (q_X5_slot v4 x2).bind fun v5 =>
  (rd (S.2 5) 240 v5).bind fun v6 =>
  (wA S 14 400 v1 (if (x3 * v6) < 1000000 then (x3 * v6) else 1000000)).bind fun S7 =>
  (q_X2_member S7 v3 0).bind fun v8 =>
  (wA S7 15 400 v1 v8).bind fun S9 =>
  (q_J6_bitCount_0f7a4 v3).bind fun v10 =>
  (rd (S9.2 15) 400 v1).bind fun v11 =>
  (q_X3_earlyVerdict S9 x1 v10 v11).bind fun v12 =>
  (wA S9 13 400 v1 v12).bind fun S13 =>
  (rd (S13.2 13) 400 v1).bind fun v14 =>
  if v14 = (-1) then (
    (rd (S13.2 14) 400 v1).bind fun v15 =>
    (rd (S13.2 15) 400 v1).bind fun v16 =>
    (rd (S13.2 3) 30 v16).bind fun v17 =>
    (q_X3_merit v15 v17).bind fun v18 =>
    (q_X4_insert S13 v1 v18).bind fun S20 =>
    some S20
  ) else (
    some S13
  )
def q_X3_appendNode_L70 (x5 : Int32) (x6 : Int32)  (rec70 : Int32 → PS → Option (PS)) (x7 : Int32) (S : PS) : Option (PS) :=
  (q_X3_sitesAt S x6).bind fun v8 =>
  if v8 ≤ x7 then (
    some S
  ) else (
    (q_X3_lookAtSite S x6 x7 x5).bind fun S10 =>
    rec70 (x7 + 1) S10
  )
def q_X3_appendNode (S : PS) (x1 : Int32) (x2 : Int32) (x3 : Int32) (x4 : Int32) (x5 : Int32) : Option (PS) :=
  (wA S 9 50 (S.1 5) x1).bind fun S1 =>
  (wA S1 10 50 (S.1 5) x2).bind fun S2 =>
  (wA S2 11 50 (S.1 5) x3).bind fun S3 =>
  (wA S3 12 50 (S.1 5) x4).bind fun S4 =>
  (wN S4 5 ((S4.1 5) + 1)).bind fun S5 =>
  (rd (S5.2 3) 30 x1).bind fun v6 =>
  (wN S5 6 ((S5.1 6) + v6)).bind fun S7 =>
  iter2 (q_X3_appendNode_L70 x5 (S.1 5) ) 1000 0 S7
def q_X3_grow_L15   (rec15 : Int32 → PS → Option (PS)) (x2 : Int32) (S : PS) : Option (PS) :=
  if 400 ≤ x2 then (
    some S
  ) else (
    if (S.1 7) ≤ 0 then (
      some S
    ) else (
      (q_X4_takeNext S).bind fun (S6, v5) =>
      (rd (S6.2 15) 400 v5).bind fun v7 =>
      (rd (S6.2 3) 30 v7).bind fun v8 =>
      (q_X3_lateVerdict S6 v8).bind fun v9 =>
      (wA S6 13 400 v5 v9).bind fun S10 =>
      (rd (S10.2 13) 400 v5).bind fun v11 =>
      if v11 = 0 then (
        (nz 8).bind fun _ =>
        (nz 8).bind fun _ =>
        (rd (S10.2 12) 50 (v5 / 8)).bind fun v14 =>
        (rd (S10.2 14) 400 v5).bind fun v15 =>
        (q_X3_appendNode S10 v7 (v5 / 8) (v5 - v5 / 8 * 8) (v14 + 1) v15).bind fun S17 =>
        rec15 (x2 + 1) S17
      ) else (
        rec15 (x2 + 1) S10
      )
    )
  )
def q_X3_grow (S : PS) (x1 : Int32) : Option (PS) :=
  (q_X3_remove S).bind fun S2 =>
  (q_X3_appendNode S2 x1 (-1) (-1) 0 1).bind fun S4 =>
  iter2 (q_X3_grow_L15  ) 1000 0 S4
def q_X3_weightBetween_L17 (S : PS) (x1 : Int32) (x2 : Int32) (x5 : Int32) (rec5 : Int64 → Int32 → Option (Int64)) (rec17 : Int64 → Int32 → Option (Int64)) (x3 : Int64) (x6 : Int32) : Option (Int64) :=
  (q_X3_sitesAt S x5).bind fun v1 =>
  if v1 ≤ x6 then (
    rec5 x3 (x5 + 1)
  ) else (
    (q_X5_slot x5 x6).bind fun v2 =>
    (rd (S.2 13) 400 v2).bind fun v3 =>
    if v3 < x1 then (
      rec17 x3 (x6 + 1)
    ) else (
      (rd (S.2 13) 400 v2).bind fun v4 =>
      if x2 < v4 then (
        rec17 x3 (x6 + 1)
      ) else (
        (rd (S.2 14) 400 v2).bind fun v5 =>
        rec17 (x3 + ((v5 : Int32).toInt64)) (x6 + 1)
      )
    )
  )
def q_X3_weightBetween_L5 (S : PS) (x1 : Int32) (x2 : Int32)  (rec5 : Int64 → Int32 → Option (Int64)) (x3 : Int64) (x5 : Int32) : Option (Int64) :=
  if (S.1 5) ≤ x5 then (
    some x3
  ) else (
    iter2 (q_X3_weightBetween_L17 S x1 x2 x5 rec5) 1000 x3 0
  )
def q_X3_weightBetween (S : PS) (x1 : Int32) (x2 : Int32) : Option (Int64) :=
  iter2 (q_X3_weightBetween_L5 S x1 x2 ) 1000 0 0
def q_X3_isSound (S : PS) (x1 : Int32) : Option (Int32) :=
  (rd (S.2 10) 50 x1).bind fun v1 =>
  if v1 < 0 then (
    some 1
  ) else (
    (rd (S.2 9) 50 v1).bind fun v2 =>
    (rd (S.2 11) 50 x1).bind fun v3 =>
    (q_X2_targetsOfSite S v2 v3).bind fun v4 =>
    (rd (S.2 9) 50 x1).bind fun v5 =>
    if v4 = (1 <<< (v5 &&& 31)) then (
      some 1
    ) else (
      some 0
    )
  )
def q_X3_numberAnew_L4   (rec4 : Int32 → Int32 → PS → Option (PS × Int32)) (x1 : Int32) (x2 : Int32) (S : PS) : Option (PS × Int32) :=
  if (S.1 5) ≤ x2 then (
    some (S, x1)
  ) else (
    (rd (S.2 10) 50 x2).bind fun v1 =>
    if v1 < 0 then (
      (q_X3_isSound S x2).bind fun v2 =>
      if v2 = 0 then (
        (wA S 16 50 x2 (-1)).bind fun S3 =>
        (rd (S3.2 11) 50 x2).bind fun v4 =>
        (q_X5_slot v1 v4).bind fun v5 =>
        (wA S3 13 400 v5 7).bind fun S6 =>
        rec4 x1 (x2 + 1) S6
      ) else (
        (wA S 16 50 x2 x1).bind fun S7 =>
        rec4 (x1 + 1) (x2 + 1) S7
      )
    ) else (
      (rd (S.2 16) 50 v1).bind fun v8 =>
      if v8 < 0 then (
        (wA S 16 50 x2 (-1)).bind fun S9 =>
        rec4 x1 (x2 + 1) S9
      ) else (
        (q_X3_isSound S x2).bind fun v10 =>
        if v10 = 0 then (
          (wA S 16 50 x2 (-1)).bind fun S11 =>
          (rd (S11.2 11) 50 x2).bind fun v12 =>
          (q_X5_slot v1 v12).bind fun v13 =>
          (wA S11 13 400 v13 7).bind fun S14 =>
          rec4 x1 (x2 + 1) S14
        ) else (
          (wA S 16 50 x2 x1).bind fun S15 =>
          rec4 (x1 + 1) (x2 + 1) S15
        )
      )
    )
  )
def q_X3_numberAnew (S : PS)  : Option (PS × Int32) :=
  iter3 (q_X3_numberAnew_L4  ) 1000 0 0 S
def q_X3_move_L68 (x1 : Int32) (x2 : Int32)  (rec68 : Int32 → PS → Option (PS)) (x3 : Int32) (S : PS) : Option (PS) :=
  (q_X3_sitesAt S x2).bind fun v11 =>
  if v11 ≤ x3 then (
    some S
  ) else (
    (q_X5_slot x2 x3).bind fun v12 =>
    (q_X5_slot x1 x3).bind fun v13 =>
    (rd (S.2 13) 400 v13).bind fun v14 =>
    (wA S 13 400 v12 v14).bind fun S15 =>
    (q_X5_slot x2 x3).bind fun v16 =>
    (q_X5_slot x1 x3).bind fun v17 =>
    (rd (S15.2 14) 400 v17).bind fun v18 =>
    (wA S15 14 400 v16 v18).bind fun S19 =>
    rec68 (x3 + 1) S19
  )
def q_X3_move (S : PS) (x1 : Int32) (x2 : Int32) : Option (PS) :=
  (rd (S.2 9) 50 x1).bind fun v1 =>
  (wA S 9 50 x2 v1).bind fun S2 =>
  (rd (S2.2 10) 50 x1).bind fun v3 =>
  if 0 ≤ v3 then (
    (rd (S2.2 10) 50 x1).bind fun v4 =>
    (rd (S2.2 16) 50 v4).bind fun v5 =>
    (wA S2 10 50 x2 v5).bind fun S6 =>
    (rd (S6.2 11) 50 x1).bind fun v7 =>
    (wA S6 11 50 x2 v7).bind fun S8 =>
    (rd (S8.2 12) 50 x1).bind fun v9 =>
    (wA S8 12 50 x2 v9).bind fun S10 =>
    iter2 (q_X3_move_L68 x1 x2 ) 1000 0 S10
  ) else (
    (wA S2 10 50 x2 (-1)).bind fun S20 =>
    (rd (S20.2 11) 50 x1).bind fun v21 =>
    (wA S20 11 50 x2 v21).bind fun S22 =>
    (rd (S22.2 12) 50 x1).bind fun v23 =>
    (wA S22 12 50 x2 v23).bind fun S24 =>
    iter2 (q_X3_move_L68 x1 x2 ) 1000 0 S24
  )
def q_X3_cutBroken_L12 (x1 : Int32)  (rec12 : Int32 → PS → Option (PS)) (x2 : Int32) (S : PS) : Option (PS) :=
  if (S.1 5) ≤ x2 then (
    (wN S 5 x1).bind fun S4 =>
    some S4
  ) else (
    (rd (S.2 16) 50 x2).bind fun v5 =>
    if v5 < 0 then (
      rec12 (x2 + 1) S
    ) else (
      (rd (S.2 16) 50 x2).bind fun v6 =>
      (q_X3_move S x2 v6).bind fun S8 =>
      (rd (S8.2 16) 50 x2).bind fun v9 =>
      (rd (S8.2 9) 50 v9).bind fun v10 =>
      (rd (S8.2 3) 30 v10).bind fun v11 =>
      (wN S8 6 ((S8.1 6) + v11)).bind fun S12 =>
      rec12 (x2 + 1) S12
    )
  )
def q_X3_cutBroken (S : PS)  : Option (PS) :=
  (q_X3_numberAnew S).bind fun (S2, v1) =>
  (wN S2 6 0).bind fun S3 =>
  iter2 (q_X3_cutBroken_L12 v1 ) 1000 0 S3
def q_X3_mixInto_L46 (S : PS) (x5 : Int32) (rec12 : Int64 → Int32 → Option (Int64)) (rec46 : Int64 → Int32 → Option (Int64)) (x3 : Int64) (x6 : Int32) : Option (Int64) :=
  (q_X3_sitesAt S x5).bind fun v6 =>
  if v6 ≤ x6 then (
    rec12 x3 (x5 + 1)
  ) else (
    (q_X5_slot x5 x6).bind fun v7 =>
    (rd (S.2 13) 400 v7).bind fun v8 =>
    (q_X5_mix x3 v8).bind fun v9 =>
    (q_X5_slot x5 x6).bind fun v10 =>
    (rd (S.2 14) 400 v10).bind fun v11 =>
    (q_X5_mix v9 v11).bind fun v12 =>
    rec46 v12 (x6 + 1)
  )
def q_X3_mixInto_L12 (S : PS)  (rec12 : Int64 → Int32 → Option (Int64)) (x3 : Int64) (x5 : Int32) : Option (Int64) :=
  if (S.1 5) ≤ x5 then (
    some x3
  ) else (
    (rd (S.2 9) 50 x5).bind fun v2 =>
    (q_X5_mix x3 v2).bind fun v3 =>
    (rd (S.2 10) 50 x5).bind fun v4 =>
    (q_X5_mix v3 v4).bind fun v5 =>
    iter2 (q_X3_mixInto_L46 S x5 rec12) 1000 v5 0
  )
def q_X3_mixInto (S : PS) (x1 : Int64) : Option (Int64) :=
  (q_X5_mix x1 (S.1 5)).bind fun v1 =>
  iter2 (q_X3_mixInto_L12 S ) 1000 v1 0
def q_X5_checkClass (S : PS) (x1 : Int32) : Option (Nat ⊕ Unit) :=
  if x1 < 0 then (
    some (.inl 1)
  ) else (
    if x1 < (S.1 0) then (
      some (.inr ())
    ) else (
      some (.inl 1)
    )
  )
def q_X5_checkSelector (S : PS) (x1 : Int32) : Option (Nat ⊕ Unit) :=
  if x1 < 0 then (
    some (.inl 1)
  ) else (
    if x1 < 8 then (
      some (.inr ())
    ) else (
      some (.inl 1)
    )
  )
def q_X5_checkMethod (S : PS) (x1 : Int32) : Option (Nat ⊕ Unit) :=
  if x1 < 0 then (
    some (.inl 1)
  ) else (
    if x1 < (S.1 1) then (
      some (.inr ())
    ) else (
      some (.inl 1)
    )
  )
def q_X5_checkPlan (S : PS)  : Option (Nat ⊕ Unit) :=
  (q_X3_exists S).bind fun v1 =>
  if v1 = 0 then (
    some (.inl 2)
  ) else (
    some (.inr ())
  )
def q_X5_checkNode (S : PS) (x1 : Int32) : Option (Nat ⊕ Unit) :=
  xb (q_X5_checkPlan S) fun v1 => (
    if x1 < 0 then (
      some (.inl 1)
    ) else (
      if x1 < (S.1 5) then (
        some (.inr ())
      ) else (
        some (.inl 1)
      )
    )
  )
def q_X5_checkSite (S : PS) (x1 : Int32) (x2 : Int32) : Option (Nat ⊕ Unit) :=
  xb (q_X5_checkNode S x1) fun v1 => (
    if x2 < 0 then (
      some (.inl 1)
    ) else (
      (q_X3_sitesAt S x1).bind fun v3 =>
      if x2 < v3 then (
        some (.inr ())
      ) else (
        some (.inl 1)
      )
    )
  )
def q_X5_addClass (S : PS) (x1 : Int32) : Option (Nat ⊕ (PS × Int32)) :=
  xb (q_X5_checkClass S x1) fun v1 => (
    if (S.1 0) < 16 then (
      (q_X0_append S x1).bind fun (S4, v3) =>
      some (.inr (S4, v3))
    ) else (
      some (.inl 2)
    )
  )
def q_X5_setLive (S : PS) (x1 : Int32) (x2 : Int32) : Option (Nat ⊕ (PS × Int32)) :=
  xb (q_X5_checkClass S x1) fun v1 => (
    (rd (S.2 1) 16 x1).bind fun v3 =>
    (wZ S 1 16 x1 x2).bind fun S4 =>
    (zg v3).bind fun z5 =>
    some (.inr (S4, z5))
  )
def q_X5_classCount (S : PS)  : Option (Int32) :=
  some (S.1 0)
def q_X5_parent (S : PS) (x1 : Int32) : Option (Nat ⊕ Int32) :=
  xb (q_X5_checkClass S x1) fun v1 => (
    (rd (S.2 0) 16 x1).bind fun v3 =>
    some (.inr v3)
  )
def q_X5_isBelow (S : PS) (x1 : Int32) (x2 : Int32) : Option (Nat ⊕ Int32) :=
  xb (q_X5_checkClass S x1) fun v1 => (
    xb (q_X5_checkClass S x2) fun v3 => (
      (q_X0_under S x1 x2).bind fun v5 =>
      (zg v5).bind fun z6 =>
      some (.inr z6)
    )
  )
def q_X5_liveBelow_L9 (S : PS) (x1 : Int32)  (rec9 : Int32 → Int32 → Option (Nat ⊕ Int32)) (x2 : Int32) (x3 : Int32) : Option (Nat ⊕ Int32) :=
  if (S.1 0) ≤ x3 then (
    some (.inr x2)
  ) else (
    (rd (S.2 1) 16 x3).bind fun v3 =>
    if v3 = 0 then (
      rec9 x2 (x3 + 1)
    ) else (
      (q_X0_under S x3 x1).bind fun v4 =>
      if v4 = 0 then (
        rec9 x2 (x3 + 1)
      ) else (
        rec9 (x2 + 1) (x3 + 1)
      )
    )
  )
def q_X5_liveBelow (S : PS) (x1 : Int32) : Option (Nat ⊕ Int32) :=
  xb (q_X5_checkClass S x1) fun v1 => (
    iter2 (q_X5_liveBelow_L9 S x1 ) 1000 0 0
  )
def q_X5_addMethod (S : PS) (x1 : Int32) (x2 : Int32) (x3 : Int32) : Option (Nat ⊕ (PS × Int32)) :=
  xb (q_X5_checkClass S x1) fun v1 => (
    xb (q_X5_checkSelector S x2) fun v3 => (
      if x3 < 1 then (
        some (.inl 3)
      ) else (
        if x3 ≤ 100 then (
          (q_X2_hasOwn S x1 x2).bind fun v5 =>
          if v5 = 0 then (
            if (S.1 1) < 30 then (
              (q_X2_appendMethod S x1 x2 x3).bind fun (S7, v6) =>
              some (.inr (S7, v6))
            ) else (
              some (.inl 2)
            )
          ) else (
            some (.inl 3)
          )
        ) else (
          some (.inl 3)
        )
      )
    )
  )
def q_X5_addCall (S : PS) (x1 : Int32) (x2 : Int32) (x3 : Int32) (x4 : Int32) : Option (Nat ⊕ (PS × Int32)) :=
  xb (q_X5_checkMethod S x1) fun v1 => (
    xb (q_X5_checkClass S x2) fun v3 => (
      xb (q_X5_checkSelector S x3) fun v5 => (
        if x4 < 1 then (
          some (.inl 3)
        ) else (
          if x4 ≤ 20 then (
            (rd (S.2 4) 30 x1).bind fun v7 =>
            if v7 < 8 then (
              (q_X3_remove S).bind fun S9 =>
              (q_X2_appendSite S9 x1 x2 x3 x4).bind fun (S11, v10) =>
              some (.inr (S11, v10))
            ) else (
              some (.inl 2)
            )
          ) else (
            some (.inl 3)
          )
        )
      )
    )
  )
def q_X5_methodCount (S : PS)  : Option (Int32) :=
  some (S.1 1)
def q_X5_found (S : PS) (x1 : Int32) (x2 : Int32) : Option (Nat ⊕ Int32) :=
  xb (q_X5_checkClass S x1) fun v1 => (
    xb (q_X5_checkSelector S x2) fun v3 => (
      (q_X2_lookUp S x1 x2).bind fun v5 =>
      some (.inr v5)
    )
  )
def q_X5_targetCount (S : PS) (x1 : Int32) (x2 : Int32) : Option (Nat ⊕ Int32) :=
  xb (q_X5_checkClass S x1) fun v1 => (
    xb (q_X5_checkSelector S x2) fun v3 => (
      (q_X2_targetSet S x1 x2).bind fun v5 =>
      (q_J6_bitCount_0f7a4 v5).bind fun v6 =>
      some (.inr v6)
    )
  )
def q_X5_target (S : PS) (x1 : Int32) (x2 : Int32) (x3 : Int32) : Option (Nat ⊕ Int32) :=
  xb (q_X5_checkClass S x1) fun v1 => (
    xb (q_X5_checkSelector S x2) fun v3 => (
      (q_X2_targetSet S x1 x2).bind fun v5 =>
      (q_X2_member S v5 x3).bind fun v6 =>
      if 0 ≤ v6 then (
        some (.inr v6)
      ) else (
        some (.inl 4)
      )
    )
  )
def q_X5_reached (S : PS) (x1 : Int32) : Option (Nat ⊕ Int32) :=
  xb (q_X5_checkMethod S x1) fun v1 => (
    (q_X2_reachableSet S x1).bind fun v3 =>
    some (.inr v3)
  )
def q_X5_setLimits (S : PS) (x1 : Int32) (x2 : Int32) (x3 : Int32) : Option (Nat ⊕ (PS × Int32)) :=
  if x1 < 1 then (
    some (.inl 3)
  ) else (
    if x1 ≤ 5000 then (
      if x2 < 0 then (
        some (.inl 3)
      ) else (
        if x2 ≤ 10 then (
          if x3 < 0 then (
            some (.inl 3)
          ) else (
            if x3 ≤ 5 then (
              (q_X3_remove S).bind fun S2 =>
              (q_X1_change S2 x1 x2 x3).bind fun (S4, v3) =>
              (zg v3).bind fun z5 =>
              some (.inr (S4, z5))
            ) else (
              some (.inl 3)
            )
          )
        ) else (
          some (.inl 3)
        )
      )
    ) else (
      some (.inl 3)
    )
  )
def q_X5_plan (S : PS) (x1 : Int32) : Option (Nat ⊕ (PS × Int32)) :=
  xb (q_X5_checkMethod S x1) fun v1 => (
    (q_X3_grow S x1).bind fun S4 =>
    some (.inr (S4, (S4.1 5)))
  )
def q_X5_hasPlan (S : PS)  : Option (Int32) :=
  (q_X3_exists S).bind fun v1 =>
  (zg v1).bind fun z2 =>
  some z2
def q_X5_nodeCount (S : PS)  : Option (Nat ⊕ Int32) :=
  xb (q_X5_checkPlan S) fun v1 => (
    some (.inr (S.1 5))
  )
def q_X5_size (S : PS)  : Option (Nat ⊕ Int32) :=
  xb (q_X5_checkPlan S) fun v1 => (
    some (.inr (S.1 6))
  )
def q_X5_method (S : PS) (x1 : Int32) : Option (Nat ⊕ Int32) :=
  xb (q_X5_checkNode S x1) fun v1 => (
    (rd (S.2 9) 50 x1).bind fun v3 =>
    some (.inr v3)
  )
def q_X5_parentNode (S : PS) (x1 : Int32) : Option (Nat ⊕ Int32) :=
  xb (q_X5_checkNode S x1) fun v1 => (
    (rd (S.2 10) 50 x1).bind fun v3 =>
    some (.inr v3)
  )
def q_X5_siteOf (S : PS) (x1 : Int32) : Option (Nat ⊕ Int32) :=
  xb (q_X5_checkNode S x1) fun v1 => (
    (rd (S.2 11) 50 x1).bind fun v3 =>
    some (.inr v3)
  )
def q_X5_depth (S : PS) (x1 : Int32) : Option (Nat ⊕ Int32) :=
  xb (q_X5_checkNode S x1) fun v1 => (
    (rd (S.2 12) 50 x1).bind fun v3 =>
    some (.inr v3)
  )
def q_X5_siteCount (S : PS) (x1 : Int32) : Option (Nat ⊕ Int32) :=
  xb (q_X5_checkNode S x1) fun v1 => (
    (q_X3_sitesAt S x1).bind fun v3 =>
    some (.inr v3)
  )
def q_X5_verdict (S : PS) (x1 : Int32) (x2 : Int32) : Option (Nat ⊕ Int32) :=
  xb (q_X5_checkSite S x1 x2) fun v1 => (
    (q_X5_slot x1 x2).bind fun v3 =>
    (rd (S.2 13) 400 v3).bind fun v4 =>
    some (.inr v4)
  )
def q_X5_weight (S : PS) (x1 : Int32) (x2 : Int32) : Option (Nat ⊕ Int32) :=
  xb (q_X5_checkSite S x1 x2) fun v1 => (
    (q_X5_slot x1 x2).bind fun v3 =>
    (rd (S.2 14) 400 v3).bind fun v4 =>
    some (.inr v4)
  )
def q_X5_weightOf (S : PS) (x1 : Int32) : Option (Nat ⊕ Int64) :=
  xb (q_X5_checkPlan S) fun v1 => (
    if x1 < 0 then (
      some (.inl 1)
    ) else (
      if x1 ≤ 7 then (
        (q_X3_weightBetween S x1 x1).bind fun v3 =>
        some (.inr v3)
      ) else (
        some (.inl 1)
      )
    )
  )
def q_X5_share (S : PS)  : Option (Nat ⊕ UInt64) :=
  xb (q_X5_checkPlan S) fun v1 => (
    (q_X3_weightBetween S 0 7).bind fun v3 =>
    if (lg_cmp v3 0) = 0 then (
      some (.inr (FP.dconst1))
    ) else (
      (q_X3_weightBetween S 0 0).bind fun v4 =>
      (ndiv (FP.l2d v4) (FP.l2d v3)).bind fun _ =>
      some (.inr (FP.ddiv (FP.l2d v4) (FP.l2d v3)))
    )
  )
def q_X5_holds (S : PS) (x1 : Int32) : Option (Nat ⊕ Int32) :=
  xb (q_X5_checkNode S x1) fun v1 => (
    (q_X3_isSound S x1).bind fun v3 =>
    (zg v3).bind fun z4 =>
    some (.inr z4)
  )
def q_X5_firstBroken_L6 (S : PS)  (rec6 : Int32 → Option (Nat ⊕ Int32)) (x1 : Int32) : Option (Nat ⊕ Int32) :=
  if (S.1 5) ≤ x1 then (
    some (.inr (-1))
  ) else (
    (q_X3_isSound S x1).bind fun v3 =>
    if v3 = 0 then (
      some (.inr x1)
    ) else (
      rec6 (x1 + 1)
    )
  )
def q_X5_firstBroken (S : PS)  : Option (Nat ⊕ Int32) :=
  xb (q_X5_checkPlan S) fun v1 => (
    iter1 (q_X5_firstBroken_L6 S ) 1000 0
  )
def q_X5_prune (S : PS)  : Option (Nat ⊕ (PS × Int32)) :=
  xb (q_X5_checkPlan S) fun v1 => (
    (q_X3_cutBroken S).bind fun S4 =>
    some (.inr (S4, ((S.1 5) - (S4.1 5))))
  )
def q_X5_digest (S : PS)  : Option (Int64) :=
  (q_X0_mixInto S 89).bind fun v1 =>
  (q_X5_mix v1 (S.1 1)).bind fun v2 =>
  (q_X1_mixInto S v2).bind fun v3 =>
  (q_X3_exists S).bind fun v4 =>
  if v4 = 0 then (
    some v3
  ) else (
    (q_X3_mixInto S v3).bind fun v5 =>
    some v5
  )
def q_X6_isIn (x0 : Int32) (x1 : Int32) (x2 : Int32) : Option (Int32) :=
  if x0 < x1 then (
    some 0
  ) else (
    if x2 < x0 then (
      some 0
    ) else (
      some 1
    )
  )
def q_X6_isSelector (x0 : Int32) : Option (Int32) :=
  (q_X6_isIn x0 0 7).bind fun v1 =>
  (zg v1).bind fun z2 =>
  some z2
def q_X6_bits_L4 (x0 : Int32)  (rec4 : Int32 → Int32 → Option (Int32)) (x1 : Int32) (x2 : Int32) : Option (Int32) :=
  if 30 ≤ x2 then (
    some x1
  ) else (
    rec4 (x1 + ((x0 >>> (x2 &&& 31)) &&& 1)) (x2 + 1)
  )
def q_X6_bits (x0 : Int32) : Option (Int32) :=
  iter2 (q_X6_bits_L4 x0 ) 1000 0 0
def q_X6_member_L4 (x0 : Int32)  (rec4 : Int32 → Int32 → Option (Int32)) (x2 : Int32) (x3 : Int32) : Option (Int32) :=
  if 30 ≤ x3 then (
    some (-1)
  ) else (
    if ((x0 >>> (x3 &&& 31)) &&& 1) = 0 then (
      rec4 x2 (x3 + 1)
    ) else (
      if x2 = 0 then (
        some x3
      ) else (
        rec4 (x2 + -1) (x3 + 1)
      )
    )
  )
def q_X6_member (x0 : Int32) (x1 : Int32) : Option (Int32) :=
  iter2 (q_X6_member_L4 x0 ) 1000 x1 0
def q_X6_thrown (S : PS)  : Option (Int32) :=
  some (S.1 0)
def q_X6_no (S : PS) (x1 : Int32) : Option (PS × Int32) :=
  (wN S 0 x1).bind fun S1 =>
  some (S1, 0)
def q_X6_isClass (S : PS) (x1 : Int32) : Option (Int32) :=
  (q_X6_isIn x1 0 ((S.1 1) - 1)).bind fun v1 =>
  (zg v1).bind fun z2 =>
  some z2
def q_X6_isMethod (S : PS) (x1 : Int32) : Option (Int32) :=
  (q_X6_isIn x1 0 ((S.1 2) - 1)).bind fun v1 =>
  (zg v1).bind fun z2 =>
  some z2
def q_X6_addClass (S : PS) (x1 : Int32) : Option (PS × Int32) :=
  (wN S 0 0).bind fun S1 =>
  (q_X6_isClass S1 x1).bind fun v2 =>
  if v2 = 0 then (
    (q_X6_no S1 1).bind fun (S9, v8) =>
    some (S9, v8)
  ) else (
    if (S1.1 1) = 16 then (
      (q_X6_no S1 2).bind fun (S7, v6) =>
      some (S7, v6)
    ) else (
      (wA S1 0 16 (S1.1 1) x1).bind fun S3 =>
      (wZ S3 1 16 (S3.1 1) 0).bind fun S4 =>
      (wN S4 1 ((S4.1 1) + 1)).bind fun S5 =>
      some (S5, ((S5.1 1) - 1))
    )
  )
def q_X6_setLive (S : PS) (x1 : Int32) (x2 : Int32) : Option (PS × Int32) :=
  (q_X6_isClass S x1).bind fun v1 =>
  if v1 = 0 then (
    (wN S 0 1).bind fun S2 =>
    if (S2.1 0) = 0 then (
      (rd (S2.2 1) 16 x1).bind fun v3 =>
      (wZ S2 1 16 x1 x2).bind fun S4 =>
      (zg v3).bind fun z5 =>
      some (S4, z5)
    ) else (
      some (S2, 0)
    )
  ) else (
    (wN S 0 0).bind fun S6 =>
    if (S6.1 0) = 0 then (
      (rd (S6.2 1) 16 x1).bind fun v7 =>
      (wZ S6 1 16 x1 x2).bind fun S8 =>
      (zg v7).bind fun z9 =>
      some (S8, z9)
    ) else (
      some (S6, 0)
    )
  )
def q_X6_classCount (S : PS)  : Option (PS × Int32) :=
  (wN S 0 0).bind fun S1 =>
  some (S1, (S1.1 1))
def q_X6_parent (S : PS) (x1 : Int32) : Option (PS × Int32) :=
  (wN S 0 0).bind fun S1 =>
  (q_X6_isClass S1 x1).bind fun v2 =>
  if v2 = 0 then (
    (q_X6_no S1 1).bind fun (S4, v3) =>
    some (S4, v3)
  ) else (
    (rd (S1.2 0) 16 x1).bind fun v5 =>
    some (S1, v5)
  )
def q_X6_below_L2 (S : PS) (x2 : Int32)  (rec2 : Int32 → Option (Int32)) (x3 : Int32) : Option (Int32) :=
  if x3 = (-1) then (
    if x3 = x2 then (
      some 1
    ) else (
      some 0
    )
  ) else (
    if x3 = x2 then (
      if x3 = x2 then (
        some 1
      ) else (
        some 0
      )
    ) else (
      (rd (S.2 0) 16 x3).bind fun v1 =>
      rec2 v1
    )
  )
def q_X6_below (S : PS) (x1 : Int32) (x2 : Int32) : Option (Int32) :=
  iter1 (q_X6_below_L2 S x2 ) 1000 x1
def q_X6_isBelow (S : PS) (x1 : Int32) (x2 : Int32) : Option (PS × Int32) :=
  (q_X6_isClass S x1).bind fun v1 =>
  if v1 = 0 then (
    (wN S 0 1).bind fun S2 =>
    if (S2.1 0) = 0 then (
      (q_X6_below S2 x1 x2).bind fun v3 =>
      if v3 = 0 then (
        some (S2, 0)
      ) else (
        some (S2, 1)
      )
    ) else (
      some (S2, 0)
    )
  ) else (
    (q_X6_isClass S x2).bind fun v4 =>
    if v4 = 0 then (
      (wN S 0 1).bind fun S5 =>
      if (S5.1 0) = 0 then (
        (q_X6_below S5 x1 x2).bind fun v6 =>
        if v6 = 0 then (
          some (S5, 0)
        ) else (
          some (S5, 1)
        )
      ) else (
        some (S5, 0)
      )
    ) else (
      (wN S 0 0).bind fun S7 =>
      if (S7.1 0) = 0 then (
        (q_X6_below S7 x1 x2).bind fun v8 =>
        if v8 = 0 then (
          some (S7, 0)
        ) else (
          some (S7, 1)
        )
      ) else (
        some (S7, 0)
      )
    )
  )
def q_X6_liveBelow_L23 (x1 : Int32) (S : PS)  (rec23 : Int32 → Int32 → Option (PS × Int32)) (x2 : Int32) (x3 : Int32) : Option (PS × Int32) :=
  if (S.1 1) ≤ x3 then (
    some (S, x2)
  ) else (
    (rd (S.2 1) 16 x3).bind fun v3 =>
    if v3 = 0 then (
      rec23 (x2 + 0) (x3 + 1)
    ) else (
      (q_X6_below S x3 x1).bind fun v4 =>
      if v4 = 0 then (
        rec23 (x2 + 0) (x3 + 1)
      ) else (
        rec23 (x2 + 1) (x3 + 1)
      )
    )
  )
def q_X6_liveBelow (S : PS) (x1 : Int32) : Option (PS × Int32) :=
  (wN S 0 0).bind fun S1 =>
  (q_X6_isClass S1 x1).bind fun v2 =>
  if v2 = 0 then (
    (q_X6_no S1 1).bind fun (S6, v5) =>
    some (S6, v5)
  ) else (
    iter2 (q_X6_liveBelow_L23 x1 S1 ) 1000 0 0
  )
def q_X6_own_L2 (S : PS) (x1 : Int32) (x2 : Int32)  (rec2 : Int32 → Option (Int32)) (x3 : Int32) : Option (Int32) :=
  if (S.1 2) ≤ x3 then (
    some (-1)
  ) else (
    (rd (S.2 2) 30 x3).bind fun v1 =>
    if v1 = x1 then (
      (rd (S.2 3) 30 x3).bind fun v2 =>
      if v2 = x2 then (
        some x3
      ) else (
        rec2 (x3 + 1)
      )
    ) else (
      rec2 (x3 + 1)
    )
  )
def q_X6_own (S : PS) (x1 : Int32) (x2 : Int32) : Option (Int32) :=
  iter1 (q_X6_own_L2 S x1 x2 ) 1000 0
def q_X6_find_L2 (S : PS) (x2 : Int32)  (rec2 : Int32 → Option (Int32)) (x3 : Int32) : Option (Int32) :=
  if x3 = (-1) then (
    some (-1)
  ) else (
    (q_X6_own S x3 x2).bind fun v1 =>
    if v1 = (-1) then (
      (rd (S.2 0) 16 x3).bind fun v2 =>
      rec2 v2
    ) else (
      (q_X6_own S x3 x2).bind fun v3 =>
      some v3
    )
  )
def q_X6_find (S : PS) (x1 : Int32) (x2 : Int32) : Option (Int32) :=
  iter1 (q_X6_find_L2 S x2 ) 1000 x1
def q_X6_addMethod (S : PS) (x1 : Int32) (x2 : Int32) (x3 : Int32) : Option (PS × Int32) :=
  (wN S 0 0).bind fun S1 =>
  (q_X6_isClass S1 x1).bind fun v2 =>
  if v2 = 0 then (
    (q_X6_no S1 1).bind fun (S4, v3) =>
    some (S4, v3)
  ) else (
    (q_X6_isSelector x2).bind fun v5 =>
    if v5 = 0 then (
      (q_X6_no S1 1).bind fun (S20, v19) =>
      some (S20, v19)
    ) else (
      (q_X6_isIn x3 1 100).bind fun v6 =>
      if v6 = 0 then (
        (q_X6_no S1 2).bind fun (S8, v7) =>
        some (S8, v7)
      ) else (
        (q_X6_own S1 x1 x2).bind fun v9 =>
        if v9 = (-1) then (
          if (S1.1 2) = 30 then (
            (q_X6_no S1 3).bind fun (S16, v15) =>
            some (S16, v15)
          ) else (
            (wA S1 2 30 (S1.1 2) x1).bind fun S10 =>
            (wA S10 3 30 (S10.1 2) x2).bind fun S11 =>
            (wA S11 4 30 (S11.1 2) x3).bind fun S12 =>
            (wA S12 5 30 (S12.1 2) 0).bind fun S13 =>
            (wN S13 2 ((S13.1 2) + 1)).bind fun S14 =>
            some (S14, ((S14.1 2) - 1))
          )
        ) else (
          (q_X6_no S1 2).bind fun (S18, v17) =>
          some (S18, v17)
        )
      )
    )
  )
def q_X6_call (S : PS) (x1 : Int32) (x2 : Int32) (x3 : Int32) : Option (Int32) :=
  (rd (S.2 6) 720 ((3 * ((8 * x1) + x2)) + x3)).bind fun v1 =>
  some v1
def q_X6_addCall (S : PS) (x1 : Int32) (x2 : Int32) (x3 : Int32) (x4 : Int32) : Option (PS × Int32) :=
  (wN S 0 0).bind fun S1 =>
  (q_X6_isMethod S1 x1).bind fun v2 =>
  if v2 = 0 then (
    (q_X6_no S1 1).bind fun (S4, v3) =>
    some (S4, v3)
  ) else (
    (q_X6_isClass S1 x2).bind fun v5 =>
    if v5 = 0 then (
      (q_X6_no S1 1).bind fun (S7, v6) =>
      some (S7, v6)
    ) else (
      (q_X6_isSelector x3).bind fun v8 =>
      if v8 = 0 then (
        (q_X6_no S1 1).bind fun (S24, v23) =>
        some (S24, v23)
      ) else (
        (q_X6_isIn x4 1 20).bind fun v9 =>
        if v9 = 0 then (
          (q_X6_no S1 2).bind fun (S22, v21) =>
          some (S22, v21)
        ) else (
          (rd (S1.2 5) 30 x1).bind fun v10 =>
          if v10 = 8 then (
            (q_X6_no S1 3).bind fun (S20, v19) =>
            some (S20, v19)
          ) else (
            (rd (S1.2 5) 30 x1).bind fun v11 =>
            (wA S1 6 720 (3 * ((8 * x1) + v11)) x2).bind fun S12 =>
            (wA S12 6 720 ((3 * ((8 * x1) + v11)) + 1) x3).bind fun S13 =>
            (wA S13 6 720 ((3 * ((8 * x1) + v11)) + 2) x4).bind fun S14 =>
            (rd (S14.2 5) 30 x1).bind fun v15 =>
            (wA S14 5 30 x1 (v15 + 1)).bind fun S16 =>
            (wN S16 6 0).bind fun S17 =>
            (rd (S17.2 5) 30 x1).bind fun v18 =>
            some (S17, (v18 - 1))
          )
        )
      )
    )
  )
def q_X6_methodCount (S : PS)  : Option (PS × Int32) :=
  (wN S 0 0).bind fun S1 =>
  some (S1, (S1.1 2))
def q_X6_found (S : PS) (x1 : Int32) (x2 : Int32) : Option (PS × Int32) :=
  (wN S 0 0).bind fun S1 =>
  (q_X6_isClass S1 x1).bind fun v2 =>
  if v2 = 0 then (
    (q_X6_no S1 1).bind fun (S4, v3) =>
    some (S4, v3)
  ) else (
    (q_X6_isSelector x2).bind fun v5 =>
    if v5 = 0 then (
      (q_X6_no S1 1).bind fun (S7, v6) =>
      some (S7, v6)
    ) else (
      (q_X6_find S1 x1 x2).bind fun v8 =>
      some (S1, v8)
    )
  )
def q_X6_targets_L5 (S : PS) (x1 : Int32) (x2 : Int32)  (rec5 : Int32 → Int32 → Option (Int32)) (x3 : Int32) (x4 : Int32) : Option (Int32) :=
  if (S.1 1) ≤ x4 then (
    some x3
  ) else (
    (rd (S.2 1) 16 x4).bind fun v1 =>
    if v1 = 0 then (
      rec5 x3 (x4 + 1)
    ) else (
      (q_X6_below S x4 x1).bind fun v2 =>
      if v2 = 0 then (
        rec5 x3 (x4 + 1)
      ) else (
        (q_X6_find S x4 x2).bind fun v3 =>
        if v3 = (-1) then (
          rec5 x3 (x4 + 1)
        ) else (
          rec5 (x3 ||| (1 <<< (v3 &&& 31))) (x4 + 1)
        )
      )
    )
  )
def q_X6_targets (S : PS) (x1 : Int32) (x2 : Int32) : Option (Int32) :=
  iter2 (q_X6_targets_L5 S x1 x2 ) 1000 0 0
def q_X6_targetCount (S : PS) (x1 : Int32) (x2 : Int32) : Option (PS × Int32) :=
  (wN S 0 0).bind fun S1 =>
  (q_X6_isClass S1 x1).bind fun v2 =>
  if v2 = 0 then (
    (q_X6_no S1 1).bind fun (S4, v3) =>
    some (S4, v3)
  ) else (
    (q_X6_isSelector x2).bind fun v5 =>
    if v5 = 0 then (
      (q_X6_no S1 1).bind fun (S7, v6) =>
      some (S7, v6)
    ) else (
      (q_X6_targets S1 x1 x2).bind fun v8 =>
      (q_X6_bits v8).bind fun v9 =>
      some (S1, v9)
    )
  )
def q_X6_target (S : PS) (x1 : Int32) (x2 : Int32) (x3 : Int32) : Option (PS × Int32) :=
  (wN S 0 0).bind fun S1 =>
  (q_X6_isClass S1 x1).bind fun v2 =>
  if v2 = 0 then (
    (q_X6_no S1 1).bind fun (S4, v3) =>
    some (S4, v3)
  ) else (
    (q_X6_isSelector x2).bind fun v5 =>
    if v5 = 0 then (
      (q_X6_no S1 1).bind fun (S13, v12) =>
      some (S13, v12)
    ) else (
      if 0 ≤ x3 then (
        (q_X6_targets S1 x1 x2).bind fun v6 =>
        (q_X6_member v6 x3).bind fun v7 =>
        if v7 = (-1) then (
          (q_X6_no S1 2).bind fun (S9, v8) =>
          some (S9, v8)
        ) else (
          some (S1, v7)
        )
      ) else (
        (q_X6_no S1 2).bind fun (S11, v10) =>
        some (S11, v10)
      )
    )
  )
def q_X6_reached_L47 (x3 : Int32) (x4 : Int32) (S : PS) (rec25 : Int32 → Int32 → Option (PS × Int32)) (rec35 : Int32 → Int32 → Option (PS × Int32)) (rec47 : Int32 → Int32 → Option (PS × Int32)) (x2 : Int32) (x5 : Int32) : Option (PS × Int32) :=
  (rd (S.2 5) 30 x4).bind fun v3 =>
  if v3 ≤ x5 then (
    rec35 x2 (x4 + 1)
  ) else (
    if ((x2 >>> (x4 &&& 31)) &&& 1) = 1 then (
      (q_X6_call S x4 x5 0).bind fun v4 =>
      (q_X6_call S x4 x5 1).bind fun v5 =>
      (q_X6_targets S v4 v5).bind fun v6 =>
      rec47 (x2 ||| v6) (x5 + 1)
    ) else (
      rec35 x2 (x4 + 1)
    )
  )
def q_X6_reached_L35 (x3 : Int32) (S : PS) (rec25 : Int32 → Int32 → Option (PS × Int32)) (rec35 : Int32 → Int32 → Option (PS × Int32)) (x2 : Int32) (x4 : Int32) : Option (PS × Int32) :=
  if (S.1 2) ≤ x4 then (
    rec25 x2 x3
  ) else (
    iter2 (q_X6_reached_L47 x3 x4 S rec25 rec35) 1000 x2 0
  )
def q_X6_reached_L25 (S : PS)  (rec25 : Int32 → Int32 → Option (PS × Int32)) (x2 : Int32) (x3 : Int32) : Option (PS × Int32) :=
  if x2 = x3 then (
    some (S, x2)
  ) else (
    iter2 (q_X6_reached_L35 x2 S rec25) 1000 x2 0
  )
def q_X6_reached (S : PS) (x1 : Int32) : Option (PS × Int32) :=
  (wN S 0 0).bind fun S1 =>
  (q_X6_isMethod S1 x1).bind fun v2 =>
  if v2 = 0 then (
    (q_X6_no S1 1).bind fun (S8, v7) =>
    some (S8, v7)
  ) else (
    iter2 (q_X6_reached_L25 S1 ) 1000 (1 <<< (x1 &&& 31)) 0
  )
def q_X6_setLimits (S : PS) (x1 : Int32) (x2 : Int32) (x3 : Int32) : Option (PS × Int32) :=
  (wN S 0 0).bind fun S1 =>
  (q_X6_isIn x1 1 5000).bind fun v2 =>
  if v2 = 0 then (
    (q_X6_no S1 1).bind fun (S4, v3) =>
    if v3 ≤ 0 then (
      some (S4, 0)
    ) else (
      some (S4, 1)
    )
  ) else (
    (q_X6_isIn x2 0 10).bind fun v5 =>
    if v5 = 0 then (
      (q_X6_no S1 1).bind fun (S7, v6) =>
      if v6 ≤ 0 then (
        some (S7, 0)
      ) else (
        some (S7, 1)
      )
    ) else (
      (q_X6_isIn x3 0 5).bind fun v8 =>
      if v8 = 0 then (
        (q_X6_no S1 1).bind fun (S26, v25) =>
        if v25 ≤ 0 then (
          some (S26, 0)
        ) else (
          some (S26, 1)
        )
      ) else (
        if (S1.1 3) = x1 then (
          if (S1.1 4) = x2 then (
            if (S1.1 5) = x3 then (
              (wN S1 3 x1).bind fun S17 =>
              (wN S17 4 x2).bind fun S18 =>
              (wN S18 5 x3).bind fun S19 =>
              (wN S19 6 0).bind fun S20 =>
              some (S20, 0)
            ) else (
              (wN S1 3 x1).bind fun S21 =>
              (wN S21 4 x2).bind fun S22 =>
              (wN S22 5 x3).bind fun S23 =>
              (wN S23 6 0).bind fun S24 =>
              some (S24, 1)
            )
          ) else (
            (wN S1 3 x1).bind fun S13 =>
            (wN S13 4 x2).bind fun S14 =>
            (wN S14 5 x3).bind fun S15 =>
            (wN S15 6 0).bind fun S16 =>
            some (S16, 1)
          )
        ) else (
          (wN S1 3 x1).bind fun S9 =>
          (wN S9 4 x2).bind fun S10 =>
          (wN S10 5 x3).bind fun S11 =>
          (wN S11 6 0).bind fun S12 =>
          some (S12, 1)
        )
      )
    )
  )
def q_X6_targetsOf (S : PS) (x1 : Int32) (x2 : Int32) : Option (Int32) :=
  (rd (S.2 7) 50 x1).bind fun v1 =>
  (q_X6_call S v1 x2 0).bind fun v2 =>
  (rd (S.2 7) 50 x1).bind fun v3 =>
  (q_X6_call S v3 x2 1).bind fun v4 =>
  (q_X6_targets S v2 v4).bind fun v5 =>
  some v5
def q_X6_times_L5 (S : PS) (x2 : Int32)  (rec5 : Int32 → Int32 → Option (Int32)) (x3 : Int32) (x4 : Int32) : Option (Int32) :=
  if x4 = (-1) then (
    some x3
  ) else (
    (rd (S.2 7) 50 x4).bind fun v1 =>
    if v1 = x2 then (
      (rd (S.2 8) 50 x4).bind fun v3 =>
      rec5 (x3 + 1) v3
    ) else (
      (rd (S.2 8) 50 x4).bind fun v2 =>
      rec5 (x3 + 0) v2
    )
  )
def q_X6_times (S : PS) (x1 : Int32) (x2 : Int32) : Option (Int32) :=
  iter2 (q_X6_times_L5 S x2 ) 1000 0 x1
def q_X6_make_L61 (x1 : Int32) (x2 : Int32) (x3 : Int32) (x6 : Int32)  (rec61 : Int32 → PS → Option (PS)) (x7 : Int32) (S : PS) : Option (PS) :=
  (rd (S.2 5) 30 x1).bind fun v7 =>
  if v7 ≤ x7 then (
    some S
  ) else (
    (q_X6_targetsOf S x6 x7).bind fun v8 =>
    (q_X6_call S x1 x7 2).bind fun v9 =>
    (wA S 13 400 ((8 * x6) + x7) (if (x2 * v9) < 1000000 then (x2 * v9) else 1000000)).bind fun S10 =>
    (q_X6_bits v8).bind fun v11 =>
    if v11 = 1 then (
      (q_X6_member v8 0).bind fun v17 =>
      (q_X6_times S10 x6 v17).bind fun v18 =>
      if v18 ≤ (S10.1 5) then (
        if v8 = 0 then (
          (wA S10 12 400 ((8 * x6) + x7) 1).bind fun S23 =>
          rec61 (x7 + 1) S23
        ) else (
          (q_X6_bits v8).bind fun v19 =>
          if v19 ≤ 1 then (
            if x3 < (S10.1 4) then (
              (wA S10 12 400 ((8 * x6) + x7) (-1)).bind fun S20 =>
              rec61 (x7 + 1) S20
            ) else (
              (wA S10 12 400 ((8 * x6) + x7) 3).bind fun S21 =>
              rec61 (x7 + 1) S21
            )
          ) else (
            (wA S10 12 400 ((8 * x6) + x7) 2).bind fun S22 =>
            rec61 (x7 + 1) S22
          )
        )
      ) else (
        if v8 = 0 then (
          (wA S10 12 400 ((8 * x6) + x7) 1).bind fun S28 =>
          rec61 (x7 + 1) S28
        ) else (
          (q_X6_bits v8).bind fun v24 =>
          if v24 ≤ 1 then (
            if x3 < (S10.1 4) then (
              (wA S10 12 400 ((8 * x6) + x7) 4).bind fun S25 =>
              rec61 (x7 + 1) S25
            ) else (
              (wA S10 12 400 ((8 * x6) + x7) 3).bind fun S26 =>
              rec61 (x7 + 1) S26
            )
          ) else (
            (wA S10 12 400 ((8 * x6) + x7) 2).bind fun S27 =>
            rec61 (x7 + 1) S27
          )
        )
      )
    ) else (
      if v8 = 0 then (
        (wA S10 12 400 ((8 * x6) + x7) 1).bind fun S16 =>
        rec61 (x7 + 1) S16
      ) else (
        (q_X6_bits v8).bind fun v12 =>
        if v12 ≤ 1 then (
          if x3 < (S10.1 4) then (
            (wA S10 12 400 ((8 * x6) + x7) (-1)).bind fun S13 =>
            rec61 (x7 + 1) S13
          ) else (
            (wA S10 12 400 ((8 * x6) + x7) 3).bind fun S14 =>
            rec61 (x7 + 1) S14
          )
        ) else (
          (wA S10 12 400 ((8 * x6) + x7) 2).bind fun S15 =>
          rec61 (x7 + 1) S15
        )
      )
    )
  )
def q_X6_make (S : PS) (x1 : Int32) (x2 : Int32) (x3 : Int32) (x4 : Int32) (x5 : Int32) : Option (PS) :=
  (wN S 7 ((S.1 7) + 1)).bind fun S1 =>
  (wA S1 7 50 (S.1 7) x1).bind fun S2 =>
  (wA S2 11 50 (S.1 7) x2).bind fun S3 =>
  (wA S3 10 50 (S.1 7) x3).bind fun S4 =>
  (wA S4 8 50 (S.1 7) x4).bind fun S5 =>
  (wA S5 9 50 (S.1 7) x5).bind fun S6 =>
  iter2 (q_X6_make_L61 x1 x2 x3 (S.1 7) ) 1000 0 S6
def q_X6_merit (S : PS) (x1 : Int32) (x2 : Int32) : Option (Int32) :=
  (rd (S.2 13) 400 ((8 * x1) + x2)).bind fun v1 =>
  (q_X6_targetsOf S x1 x2).bind fun v2 =>
  (q_X6_member v2 0).bind fun v3 =>
  (rd (S.2 4) 30 v3).bind fun v4 =>
  (nz v4).bind fun _ =>
  some ((1000 * v1) / v4)
def q_X6_best_L17 (S : PS) (x3 : Int32) (rec6 : Int32 → Int32 → Int32 → Option (Int32)) (rec17 : Int32 → Int32 → Int32 → Option (Int32)) (x1 : Int32) (x2 : Int32) (x4 : Int32) : Option (Int32) :=
  (rd (S.2 7) 50 x3).bind fun v1 =>
  (rd (S.2 5) 30 v1).bind fun v2 =>
  if v2 ≤ x4 then (
    rec6 x1 x2 (x3 + 1)
  ) else (
    (rd (S.2 12) 400 ((8 * x3) + x4)).bind fun v3 =>
    if v3 = (-1) then (
      (q_X6_merit S x3 x4).bind fun v4 =>
      if x1 = (-1) then (
        rec17 ((8 * x3) + x4) v4 (x4 + 1)
      ) else (
        if x2 < v4 then (
          rec17 ((8 * x3) + x4) v4 (x4 + 1)
        ) else (
          rec17 x1 x2 (x4 + 1)
        )
      )
    ) else (
      rec17 x1 x2 (x4 + 1)
    )
  )
def q_X6_best_L6 (S : PS)  (rec6 : Int32 → Int32 → Int32 → Option (Int32)) (x1 : Int32) (x2 : Int32) (x3 : Int32) : Option (Int32) :=
  if (S.1 7) ≤ x3 then (
    some x1
  ) else (
    iter3 (q_X6_best_L17 S x3 rec6) 1000 x1 x2 0
  )
def q_X6_best (S : PS)  : Option (Int32) :=
  iter3 (q_X6_best_L6 S ) 1000 (-1) 0 0
def q_X6_wholeSize_L4 (S : PS)  (rec4 : Int32 → Int32 → Option (Int32)) (x1 : Int32) (x2 : Int32) : Option (Int32) :=
  if (S.1 7) ≤ x2 then (
    some x1
  ) else (
    (rd (S.2 7) 50 x2).bind fun v1 =>
    (rd (S.2 4) 30 v1).bind fun v2 =>
    rec4 (x1 + v2) (x2 + 1)
  )
def q_X6_wholeSize (S : PS)  : Option (Int32) :=
  iter2 (q_X6_wholeSize_L4 S ) 1000 0 0
def q_X6_plan_L43   (rec43 : Int32 → PS → Option (PS × Int32)) (x2 : Int32) (S : PS) : Option (PS × Int32) :=
  if x2 = (-1) then (
    some (S, (S.1 7))
  ) else (
    (nz 8).bind fun _ =>
    (nz 8).bind fun _ =>
    (q_X6_targetsOf S (x2 / 8) (x2 - x2 / 8 * 8)).bind fun v10 =>
    (q_X6_member v10 0).bind fun v11 =>
    (q_X6_wholeSize S).bind fun v12 =>
    (rd (S.2 4) 30 v11).bind fun v13 =>
    if (v12 + v13) ≤ (S.1 3) then (
      if (S.1 7) = 50 then (
        (wA S 12 400 x2 6).bind fun S23 =>
        (rd (S23.2 12) 400 x2).bind fun v24 =>
        if v24 = 0 then (
          (rd (S23.2 13) 400 x2).bind fun v26 =>
          (rd (S23.2 10) 50 (x2 / 8)).bind fun v27 =>
          (nz 8).bind fun _ =>
          (q_X6_make S23 v11 v26 (v27 + 1) (x2 / 8) (x2 - x2 / 8 * 8)).bind fun S30 =>
          (q_X6_best S30).bind fun v31 =>
          rec43 v31 S30
        ) else (
          (q_X6_best S23).bind fun v25 =>
          rec43 v25 S23
        )
      ) else (
        (wA S 12 400 x2 0).bind fun S14 =>
        (rd (S14.2 12) 400 x2).bind fun v15 =>
        if v15 = 0 then (
          (rd (S14.2 13) 400 x2).bind fun v17 =>
          (rd (S14.2 10) 50 (x2 / 8)).bind fun v18 =>
          (nz 8).bind fun _ =>
          (q_X6_make S14 v11 v17 (v18 + 1) (x2 / 8) (x2 - x2 / 8 * 8)).bind fun S21 =>
          (q_X6_best S21).bind fun v22 =>
          rec43 v22 S21
        ) else (
          (q_X6_best S14).bind fun v16 =>
          rec43 v16 S14
        )
      )
    ) else (
      (wA S 12 400 x2 5).bind fun S32 =>
      (rd (S32.2 12) 400 x2).bind fun v33 =>
      if v33 = 0 then (
        (rd (S32.2 13) 400 x2).bind fun v35 =>
        (rd (S32.2 10) 50 (x2 / 8)).bind fun v36 =>
        (nz 8).bind fun _ =>
        (q_X6_make S32 v11 v35 (v36 + 1) (x2 / 8) (x2 - x2 / 8 * 8)).bind fun S39 =>
        (q_X6_best S39).bind fun v40 =>
        rec43 v40 S39
      ) else (
        (q_X6_best S32).bind fun v34 =>
        rec43 v34 S32
      )
    )
  )
def q_X6_plan (S : PS) (x1 : Int32) : Option (PS × Int32) :=
  (wN S 0 0).bind fun S1 =>
  (q_X6_isMethod S1 x1).bind fun v2 =>
  if v2 = 0 then (
    (q_X6_no S1 1).bind fun (S42, v41) =>
    some (S42, v41)
  ) else (
    (wN S1 7 0).bind fun S3 =>
    (wN S3 6 1).bind fun S4 =>
    (q_X6_make S4 x1 1 0 (-1) (-1)).bind fun S6 =>
    (q_X6_best S6).bind fun v7 =>
    iter2 (q_X6_plan_L43  ) 1000 v7 S6
  )
def q_X6_hasPlan (S : PS)  : Option (PS × Int32) :=
  (wN S 0 0).bind fun S1 =>
  (zg (S1.1 6)).bind fun z2 =>
  some (S1, z2)
def q_X6_asks (S : PS)  : Option (PS × Int32) :=
  if (S.1 6) = 0 then (
    (wN S 0 1).bind fun S1 =>
    (zg (S1.1 6)).bind fun z2 =>
    some (S1, z2)
  ) else (
    (wN S 0 0).bind fun S3 =>
    (zg (S3.1 6)).bind fun z4 =>
    some (S3, z4)
  )
def q_X6_asks_ (S : PS) (x1 : Int32) : Option (PS × Int32) :=
  if (S.1 6) = 0 then (
    (wN S 0 1).bind fun S4 =>
    if (S4.1 0) = 0 then (
      some (S4, 1)
    ) else (
      some (S4, 0)
    )
  ) else (
    (q_X6_isIn x1 0 ((S.1 7) - 1)).bind fun v1 =>
    if v1 = 0 then (
      (wN S 0 2).bind fun S3 =>
      if (S3.1 0) = 0 then (
        some (S3, 1)
      ) else (
        some (S3, 0)
      )
    ) else (
      (wN S 0 0).bind fun S2 =>
      if (S2.1 0) = 0 then (
        some (S2, 1)
      ) else (
        some (S2, 0)
      )
    )
  )
def q_X6_asks__ (S : PS) (x1 : Int32) (x2 : Int32) : Option (PS × Int32) :=
  (q_X6_asks_ S x1).bind fun (S2, v1) =>
  if v1 = 0 then (
    some (S2, 0)
  ) else (
    (rd (S2.2 7) 50 x1).bind fun v3 =>
    (rd (S2.2 5) 30 v3).bind fun v4 =>
    (q_X6_isIn x2 0 (v4 - 1)).bind fun v5 =>
    if v5 = 0 then (
      (wN S2 0 2).bind fun S6 =>
      if (S6.1 0) = 0 then (
        some (S6, 1)
      ) else (
        some (S6, 0)
      )
    ) else (
      (wN S2 0 0).bind fun S7 =>
      if (S7.1 0) = 0 then (
        some (S7, 1)
      ) else (
        some (S7, 0)
      )
    )
  )
def q_X6_nodeCount (S : PS)  : Option (PS × Int32) :=
  (q_X6_asks S).bind fun (S2, v1) =>
  if v1 = 0 then (
    some (S2, 0)
  ) else (
    some (S2, (S2.1 7))
  )
def q_X6_size (S : PS)  : Option (PS × Int32) :=
  (q_X6_asks S).bind fun (S2, v1) =>
  if v1 = 0 then (
    some (S2, 0)
  ) else (
    (q_X6_wholeSize S2).bind fun v3 =>
    some (S2, v3)
  )
def q_X6_method (S : PS) (x1 : Int32) : Option (PS × Int32) :=
  (q_X6_asks_ S x1).bind fun (S2, v1) =>
  if v1 = 0 then (
    some (S2, 0)
  ) else (
    (rd (S2.2 7) 50 x1).bind fun v3 =>
    some (S2, v3)
  )
def q_X6_parentNode (S : PS) (x1 : Int32) : Option (PS × Int32) :=
  (q_X6_asks_ S x1).bind fun (S2, v1) =>
  if v1 = 0 then (
    some (S2, 0)
  ) else (
    (rd (S2.2 8) 50 x1).bind fun v3 =>
    some (S2, v3)
  )
def q_X6_siteOf (S : PS) (x1 : Int32) : Option (PS × Int32) :=
  (q_X6_asks_ S x1).bind fun (S2, v1) =>
  if v1 = 0 then (
    some (S2, 0)
  ) else (
    (rd (S2.2 9) 50 x1).bind fun v3 =>
    some (S2, v3)
  )
def q_X6_depth (S : PS) (x1 : Int32) : Option (PS × Int32) :=
  (q_X6_asks_ S x1).bind fun (S2, v1) =>
  if v1 = 0 then (
    some (S2, 0)
  ) else (
    (rd (S2.2 10) 50 x1).bind fun v3 =>
    some (S2, v3)
  )
def q_X6_siteCount (S : PS) (x1 : Int32) : Option (PS × Int32) :=
  (q_X6_asks_ S x1).bind fun (S2, v1) =>
  if v1 = 0 then (
    some (S2, 0)
  ) else (
    (rd (S2.2 7) 50 x1).bind fun v3 =>
    (rd (S2.2 5) 30 v3).bind fun v4 =>
    some (S2, v4)
  )
def q_X6_verdict (S : PS) (x1 : Int32) (x2 : Int32) : Option (PS × Int32) :=
  (q_X6_asks__ S x1 x2).bind fun (S2, v1) =>
  if v1 = 0 then (
    some (S2, 0)
  ) else (
    (rd (S2.2 12) 400 ((8 * x1) + x2)).bind fun v3 =>
    some (S2, v3)
  )
def q_X6_weight (S : PS) (x1 : Int32) (x2 : Int32) : Option (PS × Int32) :=
  (q_X6_asks__ S x1 x2).bind fun (S2, v1) =>
  if v1 = 0 then (
    some (S2, 0)
  ) else (
    (rd (S2.2 13) 400 ((8 * x1) + x2)).bind fun v3 =>
    some (S2, v3)
  )
def q_X6_sum_L17 (S : PS) (x1 : Int32) (x4 : Int32) (rec5 : Int64 → Int32 → Option (Int64)) (rec17 : Int64 → Int32 → Option (Int64)) (x2 : Int64) (x5 : Int32) : Option (Int64) :=
  (rd (S.2 7) 50 x4).bind fun v1 =>
  (rd (S.2 5) 30 v1).bind fun v2 =>
  if v2 ≤ x5 then (
    rec5 x2 (x4 + 1)
  ) else (
    (rd (S.2 12) 400 ((8 * x4) + x5)).bind fun v3 =>
    if v3 = x1 then (
      (rd (S.2 13) 400 ((8 * x4) + x5)).bind fun v4 =>
      rec17 (x2 + ((v4 : Int32).toInt64)) (x5 + 1)
    ) else (
      rec17 (x2 + 0) (x5 + 1)
    )
  )
def q_X6_sum_L5 (S : PS) (x1 : Int32)  (rec5 : Int64 → Int32 → Option (Int64)) (x2 : Int64) (x4 : Int32) : Option (Int64) :=
  if (S.1 7) ≤ x4 then (
    some x2
  ) else (
    iter2 (q_X6_sum_L17 S x1 x4 rec5) 1000 x2 0
  )
def q_X6_sum (S : PS) (x1 : Int32) : Option (Int64) :=
  iter2 (q_X6_sum_L5 S x1 ) 1000 0 0
def q_X6_weightOf (S : PS) (x1 : Int32) : Option (PS × Int64) :=
  if (S.1 6) = 0 then (
    (wN S 0 1).bind fun S6 =>
    if (S6.1 0) = 0 then (
      (q_X6_sum S6 x1).bind fun v7 =>
      some (S6, v7)
    ) else (
      some (S6, 0)
    )
  ) else (
    (q_X6_isIn x1 0 7).bind fun v1 =>
    if v1 = 0 then (
      (wN S 0 2).bind fun S4 =>
      if (S4.1 0) = 0 then (
        (q_X6_sum S4 x1).bind fun v5 =>
        some (S4, v5)
      ) else (
        some (S4, 0)
      )
    ) else (
      (wN S 0 0).bind fun S2 =>
      if (S2.1 0) = 0 then (
        (q_X6_sum S2 x1).bind fun v3 =>
        some (S2, v3)
      ) else (
        some (S2, 0)
      )
    )
  )
def q_X6_share_L13 (S : PS)  (rec13 : Int64 → Int32 → Option (PS × UInt64)) (x1 : Int64) (x3 : Int32) : Option (PS × UInt64) :=
  if 7 < x3 then (
    if (lg_cmp x1 0) = 0 then (
      some (S, (FP.dconst1))
    ) else (
      (q_X6_sum S 0).bind fun v3 =>
      (ndiv (FP.l2d v3) (FP.l2d x1)).bind fun _ =>
      some (S, (FP.ddiv (FP.l2d v3) (FP.l2d x1)))
    )
  ) else (
    (q_X6_sum S x3).bind fun v5 =>
    rec13 (x1 + v5) (x3 + 1)
  )
def q_X6_share (S : PS)  : Option (PS × UInt64) :=
  (q_X6_asks S).bind fun (S2, v1) =>
  if v1 = 0 then (
    some (S2, (FP.dconst0))
  ) else (
    iter2 (q_X6_share_L13 S2 ) 1000 0 0
  )
def q_X6_isHolding (S : PS) (x1 : Int32) : Option (Int32) :=
  if x1 = 0 then (
    some 1
  ) else (
    (rd (S.2 8) 50 x1).bind fun v1 =>
    (rd (S.2 9) 50 x1).bind fun v2 =>
    (q_X6_targetsOf S v1 v2).bind fun v3 =>
    (rd (S.2 7) 50 x1).bind fun v4 =>
    if v3 = (1 <<< (v4 &&& 31)) then (
      some 1
    ) else (
      some 0
    )
  )
def q_X6_holds (S : PS) (x1 : Int32) : Option (PS × Int32) :=
  (q_X6_asks_ S x1).bind fun (S2, v1) =>
  if v1 = 0 then (
    some (S2, 0)
  ) else (
    (q_X6_isHolding S2 x1).bind fun v3 =>
    if v3 = 0 then (
      some (S2, 0)
    ) else (
      some (S2, 1)
    )
  )
def q_X6_firstBroken_L11 (S : PS)  (rec11 : Int32 → Option (PS × Int32)) (x1 : Int32) : Option (PS × Int32) :=
  if (S.1 7) ≤ x1 then (
    some (S, (-1))
  ) else (
    (q_X6_isHolding S x1).bind fun v3 =>
    if v3 = 0 then (
      some (S, x1)
    ) else (
      rec11 (x1 + 1)
    )
  )
def q_X6_firstBroken (S : PS)  : Option (PS × Int32) :=
  (q_X6_asks S).bind fun (S2, v1) =>
  if v1 = 0 then (
    some (S2, 0)
  ) else (
    iter1 (q_X6_firstBroken_L11 S2 ) 1000 0
  )
def q_X6_move_L73 (x1 : Int32) (x2 : Int32) (xf : (Nat → Int32))  (rec73 : Int32 → PS → Option (PS)) (x4 : Int32) (S : PS) : Option (PS) :=
  if 8 ≤ x4 then (
    some S
  ) else (
    (rd (S.2 12) 400 ((8 * x1) + x4)).bind fun v12 =>
    (wA S 12 400 ((8 * x2) + x4) v12).bind fun S13 =>
    (rd (S13.2 13) 400 ((8 * x1) + x4)).bind fun v14 =>
    (wA S13 13 400 ((8 * x2) + x4) v14).bind fun S15 =>
    rec73 (x4 + 1) S15
  )
def q_X6_move (S : PS) (xf : Nat → Int32) (x1 : Int32) (x2 : Int32) : Option (PS) :=
  (rd (S.2 7) 50 x1).bind fun v1 =>
  (wA S 7 50 x2 v1).bind fun S2 =>
  (rd (S2.2 11) 50 x1).bind fun v3 =>
  (wA S2 11 50 x2 v3).bind fun S4 =>
  (rd (S4.2 10) 50 x1).bind fun v5 =>
  (wA S4 10 50 x2 v5).bind fun S6 =>
  (rd (S6.2 9) 50 x1).bind fun v7 =>
  (wA S6 9 50 x2 v7).bind fun S8 =>
  if x1 = 0 then (
    (wA S8 8 50 x2 (-1)).bind fun S16 =>
    iter2 (q_X6_move_L73 x1 x2 xf ) 1000 0 S16
  ) else (
    (rd (S8.2 8) 50 x1).bind fun v9 =>
    (rd xf 50 v9).bind fun v10 =>
    (wA S8 8 50 x2 v10).bind fun S11 =>
    iter2 (q_X6_move_L73 x1 x2 xf ) 1000 0 S11
  )
def q_X6_digest_L166 (x3 : Int32) (S : PS) (rec129 : Int64 → Int32 → Option (PS × Int64)) (rec166 : Int64 → Int32 → Option (PS × Int64)) (x1 : Int64) (x4 : Int32) : Option (PS × Int64) :=
  (rd (S.2 7) 50 x3).bind fun v4 =>
  (rd (S.2 5) 30 v4).bind fun v5 =>
  if v5 ≤ x4 then (
    rec129 x1 (x3 + 1)
  ) else (
    (rd (S.2 12) 400 ((8 * x3) + x4)).bind fun v6 =>
    (rd (S.2 13) 400 ((8 * x3) + x4)).bind fun v7 =>
    rec166 ((((x1 * 31) + ((v6 : Int32).toInt64)) * 31) + ((v7 : Int32).toInt64)) (x4 + 1)
  )
def q_X6_digest_L129 (S : PS)  (rec129 : Int64 → Int32 → Option (PS × Int64)) (x1 : Int64) (x3 : Int32) : Option (PS × Int64) :=
  if (S.1 7) ≤ x3 then (
    some (S, x1)
  ) else (
    (rd (S.2 7) 50 x3).bind fun v2 =>
    (rd (S.2 8) 50 x3).bind fun v3 =>
    iter2 (q_X6_digest_L166 x3 S rec129) 1000 ((((x1 * 31) + ((v2 : Int32).toInt64)) * 31) + ((v3 : Int32).toInt64)) 0
  )
def q_X6_digest_L17 (S : PS)  (rec17 : Int64 → Int32 → Option (PS × Int64)) (x1 : Int64) (x3 : Int32) : Option (PS × Int64) :=
  if (S.1 1) ≤ x3 then (
    if (S.1 6) = 0 then (
      some (S, ((((((((x1 * 31) + (((S.1 2) : Int32).toInt64)) * 31) + (((S.1 3) : Int32).toInt64)) * 31) + (((S.1 4) : Int32).toInt64)) * 31) + (((S.1 5) : Int32).toInt64)))
    ) else (
      iter2 (q_X6_digest_L129 S ) 1000 ((((((((((x1 * 31) + (((S.1 2) : Int32).toInt64)) * 31) + (((S.1 3) : Int32).toInt64)) * 31) + (((S.1 4) : Int32).toInt64)) * 31) + (((S.1 5) : Int32).toInt64)) * 31) + (((S.1 7) : Int32).toInt64)) 0
    )
  ) else (
    (rd (S.2 0) 16 x3).bind fun v8 =>
    (rd (S.2 1) 16 x3).bind fun v9 =>
    if v9 = 0 then (
      rec17 ((((x1 * 31) + ((v8 : Int32).toInt64)) * 31) + 0) (x3 + 1)
    ) else (
      rec17 ((((x1 * 31) + ((v8 : Int32).toInt64)) * 31) + 1) (x3 + 1)
    )
  )
def q_X6_digest (S : PS)  : Option (PS × Int64) :=
  (wN S 0 0).bind fun S1 =>
  iter2 (q_X6_digest_L17 S1 ) 1000 (2759 + (((S1.1 1) : Int32).toInt64)) 0
def q_X6_prune_L137 (x2 : Int32) (xf : (Nat → Int32))  (rec137 : Int32 → PS → Option (PS × Int32)) (x3 : Int32) (S : PS) : Option (PS × Int32) :=
  if (S.1 7) ≤ x3 then (
    (wN S 7 x2).bind fun S3 =>
    some (S3, ((S.1 7) - x2))
  ) else (
    (rd xf 50 x3).bind fun v4 =>
    if v4 = (-1) then (
      rec137 (x3 + 1) S
    ) else (
      (rd xf 50 x3).bind fun v5 =>
      (q_X6_move S xf x3 v5).bind fun S7 =>
      rec137 (x3 + 1) S7
    )
  )
def q_X6_prune_L91 (x2 : Int32) (xf : (Nat → Int32))  (rec91 : Int32 → PS → Option (PS × Int32)) (x3 : Int32) (S : PS) : Option (PS × Int32) :=
  if (S.1 7) ≤ x3 then (
    iter2 (q_X6_prune_L137 x2 xf ) 1000 0 S
  ) else (
    (rd xf 50 x3).bind fun v8 =>
    if v8 = (-1) then (
      (rd (S.2 8) 50 x3).bind fun v9 =>
      (rd (S.2 9) 50 x3).bind fun v10 =>
      (wA S 12 400 ((8 * v9) + v10) 7).bind fun S11 =>
      rec91 (x3 + 1) S11
    ) else (
      rec91 (x3 + 1) S
    )
  )
def q_X6_prune_L18 (S : PS)  (rec18 : Int32 → Int32 → (Nat → Int32) → Option (PS × Int32)) (x2 : Int32) (x3 : Int32) (xf : (Nat → Int32)) : Option (PS × Int32) :=
  if (S.1 7) ≤ x3 then (
    iter2 (q_X6_prune_L91 x2 xf ) 1000 1 S
  ) else (
    if x3 = 0 then (
      (wr xf 50 x3 x2).bind fun f13 =>
      rec18 (x2 + 1) (x3 + 1) f13
    ) else (
      (q_X6_isHolding S x3).bind fun v14 =>
      if v14 = 0 then (
        (wr xf 50 x3 (-1)).bind fun f16 =>
        rec18 (x2 + 0) (x3 + 1) f16
      ) else (
        (rd (S.2 8) 50 x3).bind fun v17 =>
        (rd xf 50 v17).bind fun v18 =>
        if v18 = (-1) then (
          (wr xf 50 x3 (-1)).bind fun f20 =>
          rec18 (x2 + 0) (x3 + 1) f20
        ) else (
          (wr xf 50 x3 x2).bind fun f22 =>
          rec18 (x2 + 1) (x3 + 1) f22
        )
      )
    )
  )
def q_X6_prune (S : PS)  : Option (PS × Int32) :=
  (q_X6_asks S).bind fun (S2, v1) =>
  if v1 = 0 then (
    some (S2, 0)
  ) else (
    iter3 (q_X6_prune_L18 S2 ) 1000 0 0 (fun _ => 0)
  )
