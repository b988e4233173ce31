/-! the law, as pure functions -/
def q_law_c0 (xs : Nat → Int32) (L : Nat) (rec : PS → PS → (Nat → Int64) → (Nat → UInt64) → Int32 → Option Int32) (S M : PS) (ov : Nat → Int64) (dv : Nat → UInt64) (x5 : Int32) : Option Int32 :=
  (rd xs L (x5 + 1)).bind fun v1 =>
  (q_L_addClass S ov v1).bind fun (S3, o4, v2) =>
  (rd xs L (x5 + 1)).bind fun v5 =>
  (q_X6_addClass M v5).bind fun (M7, v6) =>
  (q_X6_thrown M7).bind fun v8 =>
  if v8 = v2 then (
    if v2 = 0 then (
      (rd o4 1 0).bind fun v9 =>
      if (lg_cmp v9 ((v6 : Int32).toInt64)) = 0 then (
        rec S3 M7 o4 dv (x5 + 5)
      ) else (
        some 0
      )
    ) else (
      rec S3 M7 o4 dv (x5 + 5)
    )
  ) else (
    some 0
  )
def q_law_c1 (xs : Nat → Int32) (L : Nat) (rec : PS → PS → (Nat → Int64) → (Nat → UInt64) → Int32 → Option Int32) (S M : PS) (ov : Nat → Int64) (dv : Nat → UInt64) (x5 : Int32) : Option Int32 :=
  (rd xs L (x5 + 1)).bind fun v1 =>
  (rd xs L (x5 + 2)).bind fun v2 =>
  if v2 = 0 then (
    (q_L_setLive S ov v1 0).bind fun (S4, o5, v3) =>
    (rd xs L (x5 + 1)).bind fun v6 =>
    (rd xs L (x5 + 2)).bind fun v7 =>
    if v7 = 0 then (
      (q_X6_setLive M v6 0).bind fun (M9, v8) =>
      (q_X6_thrown M9).bind fun v10 =>
      if v10 = v3 then (
        if v3 = 0 then (
          (rd o5 1 0).bind fun v11 =>
          if v8 = 0 then (
            if (lg_cmp v11 0) = 0 then (
              rec S4 M9 o5 dv (x5 + 5)
            ) else (
              some 0
            )
          ) else (
            if (lg_cmp v11 1) = 0 then (
              rec S4 M9 o5 dv (x5 + 5)
            ) else (
              some 0
            )
          )
        ) else (
          rec S4 M9 o5 dv (x5 + 5)
        )
      ) else (
        some 0
      )
    ) else (
      (q_X6_setLive M v6 1).bind fun (M13, v12) =>
      (q_X6_thrown M13).bind fun v14 =>
      if v14 = v3 then (
        if v3 = 0 then (
          (rd o5 1 0).bind fun v15 =>
          if v12 = 0 then (
            if (lg_cmp v15 0) = 0 then (
              rec S4 M13 o5 dv (x5 + 5)
            ) else (
              some 0
            )
          ) else (
            if (lg_cmp v15 1) = 0 then (
              rec S4 M13 o5 dv (x5 + 5)
            ) else (
              some 0
            )
          )
        ) else (
          rec S4 M13 o5 dv (x5 + 5)
        )
      ) else (
        some 0
      )
    )
  ) else (
    (q_L_setLive S ov v1 1).bind fun (S17, o18, v16) =>
    (rd xs L (x5 + 1)).bind fun v19 =>
    (rd xs L (x5 + 2)).bind fun v20 =>
    if v20 = 0 then (
      (q_X6_setLive M v19 0).bind fun (M22, v21) =>
      (q_X6_thrown M22).bind fun v23 =>
      if v23 = v16 then (
        if v16 = 0 then (
          (rd o18 1 0).bind fun v24 =>
          if v21 = 0 then (
            if (lg_cmp v24 0) = 0 then (
              rec S17 M22 o18 dv (x5 + 5)
            ) else (
              some 0
            )
          ) else (
            if (lg_cmp v24 1) = 0 then (
              rec S17 M22 o18 dv (x5 + 5)
            ) else (
              some 0
            )
          )
        ) else (
          rec S17 M22 o18 dv (x5 + 5)
        )
      ) else (
        some 0
      )
    ) else (
      (q_X6_setLive M v19 1).bind fun (M26, v25) =>
      (q_X6_thrown M26).bind fun v27 =>
      if v27 = v16 then (
        if v16 = 0 then (
          (rd o18 1 0).bind fun v28 =>
          if v25 = 0 then (
            if (lg_cmp v28 0) = 0 then (
              rec S17 M26 o18 dv (x5 + 5)
            ) else (
              some 0
            )
          ) else (
            if (lg_cmp v28 1) = 0 then (
              rec S17 M26 o18 dv (x5 + 5)
            ) else (
              some 0
            )
          )
        ) else (
          rec S17 M26 o18 dv (x5 + 5)
        )
      ) else (
        some 0
      )
    )
  )
def q_law_c2 (xs : Nat → Int32) (L : Nat) (rec : PS → PS → (Nat → Int64) → (Nat → UInt64) → Int32 → Option Int32) (S M : PS) (ov : Nat → Int64) (dv : Nat → UInt64) (x5 : Int32) : Option Int32 :=
  (q_X5_classCount S).bind fun v1 =>
  (q_X6_classCount M).bind fun (M3, v2) =>
  if v1 = v2 then (
    rec S M3 ov dv (x5 + 5)
  ) else (
    some 0
  )
def q_law_c3 (xs : Nat → Int32) (L : Nat) (rec : PS → PS → (Nat → Int64) → (Nat → UInt64) → Int32 → Option Int32) (S M : PS) (ov : Nat → Int64) (dv : Nat → UInt64) (x5 : Int32) : Option Int32 :=
  (rd xs L (x5 + 1)).bind fun v1 =>
  (q_L_parent S ov v1).bind fun (S3, o4, v2) =>
  (rd xs L (x5 + 1)).bind fun v5 =>
  (q_X6_parent M v5).bind fun (M7, v6) =>
  (q_X6_thrown M7).bind fun v8 =>
  if v8 = v2 then (
    if v2 = 0 then (
      (rd o4 1 0).bind fun v9 =>
      if (lg_cmp v9 ((v6 : Int32).toInt64)) = 0 then (
        rec S3 M7 o4 dv (x5 + 5)
      ) else (
        some 0
      )
    ) else (
      rec S3 M7 o4 dv (x5 + 5)
    )
  ) else (
    some 0
  )
def q_law_c4 (xs : Nat → Int32) (L : Nat) (rec : PS → PS → (Nat → Int64) → (Nat → UInt64) → Int32 → Option Int32) (S M : PS) (ov : Nat → Int64) (dv : Nat → UInt64) (x5 : Int32) : Option Int32 :=
  (rd xs L (x5 + 1)).bind fun v1 =>
  (rd xs L (x5 + 2)).bind fun v2 =>
  (q_L_isBelow S ov v1 v2).bind fun (S4, o5, v3) =>
  (rd xs L (x5 + 1)).bind fun v6 =>
  (rd xs L (x5 + 2)).bind fun v7 =>
  (q_X6_isBelow M v6 v7).bind fun (M9, v8) =>
  (q_X6_thrown M9).bind fun v10 =>
  if v10 = v3 then (
    if v3 = 0 then (
      (rd o5 1 0).bind fun v11 =>
      if v8 = 0 then (
        if (lg_cmp v11 0) = 0 then (
          rec S4 M9 o5 dv (x5 + 5)
        ) else (
          some 0
        )
      ) else (
        if (lg_cmp v11 1) = 0 then (
          rec S4 M9 o5 dv (x5 + 5)
        ) else (
          some 0
        )
      )
    ) else (
      rec S4 M9 o5 dv (x5 + 5)
    )
  ) else (
    some 0
  )
def q_law_c5 (xs : Nat → Int32) (L : Nat) (rec : PS → PS → (Nat → Int64) → (Nat → UInt64) → Int32 → Option Int32) (S M : PS) (ov : Nat → Int64) (dv : Nat → UInt64) (x5 : Int32) : Option Int32 :=
  (rd xs L (x5 + 1)).bind fun v1 =>
  (q_L_liveBelow S ov v1).bind fun (S3, o4, v2) =>
  (rd xs L (x5 + 1)).bind fun v5 =>
  (q_X6_liveBelow M v5).bind fun (M7, v6) =>
  (q_X6_thrown M7).bind fun v8 =>
  if v8 = v2 then (
    if v2 = 0 then (
      (rd o4 1 0).bind fun v9 =>
      if (lg_cmp v9 ((v6 : Int32).toInt64)) = 0 then (
        rec S3 M7 o4 dv (x5 + 5)
      ) else (
        some 0
      )
    ) else (
      rec S3 M7 o4 dv (x5 + 5)
    )
  ) else (
    some 0
  )
def q_law_c6 (xs : Nat → Int32) (L : Nat) (rec : PS → PS → (Nat → Int64) → (Nat → UInt64) → Int32 → Option Int32) (S M : PS) (ov : Nat → Int64) (dv : Nat → UInt64) (x5 : Int32) : Option Int32 :=
  (rd xs L (x5 + 1)).bind fun v1 =>
  (rd xs L (x5 + 2)).bind fun v2 =>
  (rd xs L (x5 + 3)).bind fun v3 =>
  (q_L_addMethod S ov v1 v2 v3).bind fun (S5, o6, v4) =>
  (rd xs L (x5 + 1)).bind fun v7 =>
  (rd xs L (x5 + 2)).bind fun v8 =>
  (rd xs L (x5 + 3)).bind fun v9 =>
  (q_X6_addMethod M v7 v8 v9).bind fun (M11, v10) =>
  (q_X6_thrown M11).bind fun v12 =>
  if v12 = v4 then (
    if v4 = 0 then (
      (rd o6 1 0).bind fun v13 =>
      if (lg_cmp v13 ((v10 : Int32).toInt64)) = 0 then (
        rec S5 M11 o6 dv (x5 + 5)
      ) else (
        some 0
      )
    ) else (
      rec S5 M11 o6 dv (x5 + 5)
    )
  ) else (
    some 0
  )
def q_law_c7 (xs : Nat → Int32) (L : Nat) (rec : PS → PS → (Nat → Int64) → (Nat → UInt64) → Int32 → Option Int32) (S M : PS) (ov : Nat → Int64) (dv : Nat → UInt64) (x5 : Int32) : Option Int32 :=
  (rd xs L (x5 + 1)).bind fun v1 =>
  (rd xs L (x5 + 2)).bind fun v2 =>
  (rd xs L (x5 + 3)).bind fun v3 =>
  (rd xs L (x5 + 4)).bind fun v4 =>
  (q_L_addCall S ov v1 v2 v3 v4).bind fun (S6, o7, v5) =>
  (rd xs L (x5 + 1)).bind fun v8 =>
  (rd xs L (x5 + 2)).bind fun v9 =>
  (rd xs L (x5 + 3)).bind fun v10 =>
  (rd xs L (x5 + 4)).bind fun v11 =>
  (q_X6_addCall M v8 v9 v10 v11).bind fun (M13, v12) =>
  (q_X6_thrown M13).bind fun v14 =>
  if v14 = v5 then (
    if v5 = 0 then (
      (rd o7 1 0).bind fun v15 =>
      if (lg_cmp v15 ((v12 : Int32).toInt64)) = 0 then (
        rec S6 M13 o7 dv (x5 + 5)
      ) else (
        some 0
      )
    ) else (
      rec S6 M13 o7 dv (x5 + 5)
    )
  ) else (
    some 0
  )
def q_law_c8 (xs : Nat → Int32) (L : Nat) (rec : PS → PS → (Nat → Int64) → (Nat → UInt64) → Int32 → Option Int32) (S M : PS) (ov : Nat → Int64) (dv : Nat → UInt64) (x5 : Int32) : Option Int32 :=
  (q_X5_methodCount S).bind fun v1 =>
  (q_X6_methodCount M).bind fun (M3, v2) =>
  if v1 = v2 then (
    rec S M3 ov dv (x5 + 5)
  ) else (
    some 0
  )
def q_law_c9 (xs : Nat → Int32) (L : Nat) (rec : PS → PS → (Nat → Int64) → (Nat → UInt64) → Int32 → Option Int32) (S M : PS) (ov : Nat → Int64) (dv : Nat → UInt64) (x5 : Int32) : Option Int32 :=
  (rd xs L (x5 + 1)).bind fun v1 =>
  (rd xs L (x5 + 2)).bind fun v2 =>
  (q_L_found S ov v1 v2).bind fun (S4, o5, v3) =>
  (rd xs L (x5 + 1)).bind fun v6 =>
  (rd xs L (x5 + 2)).bind fun v7 =>
  (q_X6_found M v6 v7).bind fun (M9, v8) =>
  (q_X6_thrown M9).bind fun v10 =>
  if v10 = v3 then (
    if v3 = 0 then (
      (rd o5 1 0).bind fun v11 =>
      if (lg_cmp v11 ((v8 : Int32).toInt64)) = 0 then (
        rec S4 M9 o5 dv (x5 + 5)
      ) else (
        some 0
      )
    ) else (
      rec S4 M9 o5 dv (x5 + 5)
    )
  ) else (
    some 0
  )
def q_law_c10 (xs : Nat → Int32) (L : Nat) (rec : PS → PS → (Nat → Int64) → (Nat → UInt64) → Int32 → Option Int32) (S M : PS) (ov : Nat → Int64) (dv : Nat → UInt64) (x5 : Int32) : Option Int32 :=
  (rd xs L (x5 + 1)).bind fun v1 =>
  (rd xs L (x5 + 2)).bind fun v2 =>
  (q_L_targetCount S ov v1 v2).bind fun (S4, o5, v3) =>
  (rd xs L (x5 + 1)).bind fun v6 =>
  (rd xs L (x5 + 2)).bind fun v7 =>
  (q_X6_targetCount M v6 v7).bind fun (M9, v8) =>
  (q_X6_thrown M9).bind fun v10 =>
  if v10 = v3 then (
    if v3 = 0 then (
      (rd o5 1 0).bind fun v11 =>
      if (lg_cmp v11 ((v8 : Int32).toInt64)) = 0 then (
        rec S4 M9 o5 dv (x5 + 5)
      ) else (
        some 0
      )
    ) else (
      rec S4 M9 o5 dv (x5 + 5)
    )
  ) else (
    some 0
  )
def q_law_c11 (xs : Nat → Int32) (L : Nat) (rec : PS → PS → (Nat → Int64) → (Nat → UInt64) → Int32 → Option Int32) (S M : PS) (ov : Nat → Int64) (dv : Nat → UInt64) (x5 : Int32) : Option Int32 :=
  (rd xs L (x5 + 1)).bind fun v1 =>
  (rd xs L (x5 + 2)).bind fun v2 =>
  (rd xs L (x5 + 3)).bind fun v3 =>
  (q_L_target S ov v1 v2 v3).bind fun (S5, o6, v4) =>
  (rd xs L (x5 + 1)).bind fun v7 =>
  (rd xs L (x5 + 2)).bind fun v8 =>
  (rd xs L (x5 + 3)).bind fun v9 =>
  (q_X6_target M v7 v8 v9).bind fun (M11, v10) =>
  (q_X6_thrown M11).bind fun v12 =>
  if v12 = v4 then (
    if v4 = 0 then (
      (rd o6 1 0).bind fun v13 =>
      if (lg_cmp v13 ((v10 : Int32).toInt64)) = 0 then (
        rec S5 M11 o6 dv (x5 + 5)
      ) else (
        some 0
      )
    ) else (
      rec S5 M11 o6 dv (x5 + 5)
    )
  ) else (
    some 0
  )
def q_law_c12 (xs : Nat → Int32) (L : Nat) (rec : PS → PS → (Nat → Int64) → (Nat → UInt64) → Int32 → Option Int32) (S M : PS) (ov : Nat → Int64) (dv : Nat → UInt64) (x5 : Int32) : Option Int32 :=
  (rd xs L (x5 + 1)).bind fun v1 =>
  (q_L_reached S ov v1).bind fun (S3, o4, v2) =>
  (rd xs L (x5 + 1)).bind fun v5 =>
  (q_X6_reached M v5).bind fun (M7, v6) =>
  (q_X6_thrown M7).bind fun v8 =>
  if v8 = v2 then (
    if v2 = 0 then (
      (rd o4 1 0).bind fun v9 =>
      if (lg_cmp v9 ((v6 : Int32).toInt64)) = 0 then (
        rec S3 M7 o4 dv (x5 + 5)
      ) else (
        some 0
      )
    ) else (
      rec S3 M7 o4 dv (x5 + 5)
    )
  ) else (
    some 0
  )
def q_law_c13 (xs : Nat → Int32) (L : Nat) (rec : PS → PS → (Nat → Int64) → (Nat → UInt64) → Int32 → Option Int32) (S M : PS) (ov : Nat → Int64) (dv : Nat → UInt64) (x5 : Int32) : Option Int32 :=
  (rd xs L (x5 + 1)).bind fun v1 =>
  (rd xs L (x5 + 2)).bind fun v2 =>
  (rd xs L (x5 + 3)).bind fun v3 =>
  (q_L_setLimits S ov v1 v2 v3).bind fun (S5, o6, v4) =>
  (rd xs L (x5 + 1)).bind fun v7 =>
  (rd xs L (x5 + 2)).bind fun v8 =>
  (rd xs L (x5 + 3)).bind fun v9 =>
  (q_X6_setLimits M v7 v8 v9).bind fun (M11, v10) =>
  (q_X6_thrown M11).bind fun v12 =>
  if v12 = v4 then (
    if v4 = 0 then (
      (rd o6 1 0).bind fun v13 =>
      if v10 = 0 then (
        if (lg_cmp v13 0) = 0 then (
          rec S5 M11 o6 dv (x5 + 5)
        ) else (
          some 0
        )
      ) else (
        if (lg_cmp v13 1) = 0 then (
          rec S5 M11 o6 dv (x5 + 5)
        ) else (
          some 0
        )
      )
    ) else (
      rec S5 M11 o6 dv (x5 + 5)
    )
  ) else (
    some 0
  )
def q_law_c14 (xs : Nat → Int32) (L : Nat) (rec : PS → PS → (Nat → Int64) → (Nat → UInt64) → Int32 → Option Int32) (S M : PS) (ov : Nat → Int64) (dv : Nat → UInt64) (x5 : Int32) : Option Int32 :=
  (rd xs L (x5 + 1)).bind fun v1 =>
  (q_L_plan S ov v1).bind fun (S3, o4, v2) =>
  (rd xs L (x5 + 1)).bind fun v5 =>
  (q_X6_plan M v5).bind fun (M7, v6) =>
  (q_X6_thrown M7).bind fun v8 =>
  if v8 = v2 then (
    if v2 = 0 then (
      (rd o4 1 0).bind fun v9 =>
      if (lg_cmp v9 ((v6 : Int32).toInt64)) = 0 then (
        rec S3 M7 o4 dv (x5 + 5)
      ) else (
        some 0
      )
    ) else (
      rec S3 M7 o4 dv (x5 + 5)
    )
  ) else (
    some 0
  )
def q_law_c15 (xs : Nat → Int32) (L : Nat) (rec : PS → PS → (Nat → Int64) → (Nat → UInt64) → Int32 → Option Int32) (S M : PS) (ov : Nat → Int64) (dv : Nat → UInt64) (x5 : Int32) : Option Int32 :=
  (q_X5_hasPlan S).bind fun v1 =>
  (q_X6_hasPlan M).bind fun (M3, v2) =>
  if v1 = v2 then (
    rec S M3 ov dv (x5 + 5)
  ) else (
    some 0
  )
def q_law_c16 (xs : Nat → Int32) (L : Nat) (rec : PS → PS → (Nat → Int64) → (Nat → UInt64) → Int32 → Option Int32) (S M : PS) (ov : Nat → Int64) (dv : Nat → UInt64) (x5 : Int32) : Option Int32 :=
  (q_L_nodeCount S ov).bind fun (S2, o3, v1) =>
  (q_X6_nodeCount M).bind fun (M5, v4) =>
  (q_X6_thrown M5).bind fun v6 =>
  if v6 = v1 then (
    if v1 = 0 then (
      (rd o3 1 0).bind fun v7 =>
      if (lg_cmp v7 ((v4 : Int32).toInt64)) = 0 then (
        rec S2 M5 o3 dv (x5 + 5)
      ) else (
        some 0
      )
    ) else (
      rec S2 M5 o3 dv (x5 + 5)
    )
  ) else (
    some 0
  )
def q_law_c17 (xs : Nat → Int32) (L : Nat) (rec : PS → PS → (Nat → Int64) → (Nat → UInt64) → Int32 → Option Int32) (S M : PS) (ov : Nat → Int64) (dv : Nat → UInt64) (x5 : Int32) : Option Int32 :=
  (q_L_size S ov).bind fun (S2, o3, v1) =>
  (q_X6_size M).bind fun (M5, v4) =>
  (q_X6_thrown M5).bind fun v6 =>
  if v6 = v1 then (
    if v1 = 0 then (
      (rd o3 1 0).bind fun v7 =>
      if (lg_cmp v7 ((v4 : Int32).toInt64)) = 0 then (
        rec S2 M5 o3 dv (x5 + 5)
      ) else (
        some 0
      )
    ) else (
      rec S2 M5 o3 dv (x5 + 5)
    )
  ) else (
    some 0
  )
def q_law_c18 (xs : Nat → Int32) (L : Nat) (rec : PS → PS → (Nat → Int64) → (Nat → UInt64) → Int32 → Option Int32) (S M : PS) (ov : Nat → Int64) (dv : Nat → UInt64) (x5 : Int32) : Option Int32 :=
  (rd xs L (x5 + 1)).bind fun v1 =>
  (q_L_method S ov v1).bind fun (S3, o4, v2) =>
  (rd xs L (x5 + 1)).bind fun v5 =>
  (q_X6_method M v5).bind fun (M7, v6) =>
  (q_X6_thrown M7).bind fun v8 =>
  if v8 = v2 then (
    if v2 = 0 then (
      (rd o4 1 0).bind fun v9 =>
      if (lg_cmp v9 ((v6 : Int32).toInt64)) = 0 then (
        rec S3 M7 o4 dv (x5 + 5)
      ) else (
        some 0
      )
    ) else (
      rec S3 M7 o4 dv (x5 + 5)
    )
  ) else (
    some 0
  )
def q_law_c19 (xs : Nat → Int32) (L : Nat) (rec : PS → PS → (Nat → Int64) → (Nat → UInt64) → Int32 → Option Int32) (S M : PS) (ov : Nat → Int64) (dv : Nat → UInt64) (x5 : Int32) : Option Int32 :=
  (rd xs L (x5 + 1)).bind fun v1 =>
  (q_L_parentNode S ov v1).bind fun (S3, o4, v2) =>
  (rd xs L (x5 + 1)).bind fun v5 =>
  (q_X6_parentNode M v5).bind fun (M7, v6) =>
  (q_X6_thrown M7).bind fun v8 =>
  if v8 = v2 then (
    if v2 = 0 then (
      (rd o4 1 0).bind fun v9 =>
      if (lg_cmp v9 ((v6 : Int32).toInt64)) = 0 then (
        rec S3 M7 o4 dv (x5 + 5)
      ) else (
        some 0
      )
    ) else (
      rec S3 M7 o4 dv (x5 + 5)
    )
  ) else (
    some 0
  )
def q_law_c20 (xs : Nat → Int32) (L : Nat) (rec : PS → PS → (Nat → Int64) → (Nat → UInt64) → Int32 → Option Int32) (S M : PS) (ov : Nat → Int64) (dv : Nat → UInt64) (x5 : Int32) : Option Int32 :=
  (rd xs L (x5 + 1)).bind fun v1 =>
  (q_L_siteOf S ov v1).bind fun (S3, o4, v2) =>
  (rd xs L (x5 + 1)).bind fun v5 =>
  (q_X6_siteOf M v5).bind fun (M7, v6) =>
  (q_X6_thrown M7).bind fun v8 =>
  if v8 = v2 then (
    if v2 = 0 then (
      (rd o4 1 0).bind fun v9 =>
      if (lg_cmp v9 ((v6 : Int32).toInt64)) = 0 then (
        rec S3 M7 o4 dv (x5 + 5)
      ) else (
        some 0
      )
    ) else (
      rec S3 M7 o4 dv (x5 + 5)
    )
  ) else (
    some 0
  )
def q_law_c21 (xs : Nat → Int32) (L : Nat) (rec : PS → PS → (Nat → Int64) → (Nat → UInt64) → Int32 → Option Int32) (S M : PS) (ov : Nat → Int64) (dv : Nat → UInt64) (x5 : Int32) : Option Int32 :=
  (rd xs L (x5 + 1)).bind fun v1 =>
  (q_L_depth S ov v1).bind fun (S3, o4, v2) =>
  (rd xs L (x5 + 1)).bind fun v5 =>
  (q_X6_depth M v5).bind fun (M7, v6) =>
  (q_X6_thrown M7).bind fun v8 =>
  if v8 = v2 then (
    if v2 = 0 then (
      (rd o4 1 0).bind fun v9 =>
      if (lg_cmp v9 ((v6 : Int32).toInt64)) = 0 then (
        rec S3 M7 o4 dv (x5 + 5)
      ) else (
        some 0
      )
    ) else (
      rec S3 M7 o4 dv (x5 + 5)
    )
  ) else (
    some 0
  )
def q_law_c22 (xs : Nat → Int32) (L : Nat) (rec : PS → PS → (Nat → Int64) → (Nat → UInt64) → Int32 → Option Int32) (S M : PS) (ov : Nat → Int64) (dv : Nat → UInt64) (x5 : Int32) : Option Int32 :=
  (rd xs L (x5 + 1)).bind fun v1 =>
  (q_L_siteCount S ov v1).bind fun (S3, o4, v2) =>
  (rd xs L (x5 + 1)).bind fun v5 =>
  (q_X6_siteCount M v5).bind fun (M7, v6) =>
  (q_X6_thrown M7).bind fun v8 =>
  if v8 = v2 then (
    if v2 = 0 then (
      (rd o4 1 0).bind fun v9 =>
      if (lg_cmp v9 ((v6 : Int32).toInt64)) = 0 then (
        rec S3 M7 o4 dv (x5 + 5)
      ) else (
        some 0
      )
    ) else (
      rec S3 M7 o4 dv (x5 + 5)
    )
  ) else (
    some 0
  )
def q_law_c23 (xs : Nat → Int32) (L : Nat) (rec : PS → PS → (Nat → Int64) → (Nat → UInt64) → Int32 → Option Int32) (S M : PS) (ov : Nat → Int64) (dv : Nat → UInt64) (x5 : Int32) : Option Int32 :=
  (rd xs L (x5 + 1)).bind fun v1 =>
  (rd xs L (x5 + 2)).bind fun v2 =>
  (q_L_verdict S ov v1 v2).bind fun (S4, o5, v3) =>
  (rd xs L (x5 + 1)).bind fun v6 =>
  (rd xs L (x5 + 2)).bind fun v7 =>
  (q_X6_verdict M v6 v7).bind fun (M9, v8) =>
  (q_X6_thrown M9).bind fun v10 =>
  if v10 = v3 then (
    if v3 = 0 then (
      (rd o5 1 0).bind fun v11 =>
      if (lg_cmp v11 ((v8 : Int32).toInt64)) = 0 then (
        rec S4 M9 o5 dv (x5 + 5)
      ) else (
        some 0
      )
    ) else (
      rec S4 M9 o5 dv (x5 + 5)
    )
  ) else (
    some 0
  )
def q_law_c24 (xs : Nat → Int32) (L : Nat) (rec : PS → PS → (Nat → Int64) → (Nat → UInt64) → Int32 → Option Int32) (S M : PS) (ov : Nat → Int64) (dv : Nat → UInt64) (x5 : Int32) : Option Int32 :=
  (rd xs L (x5 + 1)).bind fun v1 =>
  (rd xs L (x5 + 2)).bind fun v2 =>
  (q_L_weight S ov v1 v2).bind fun (S4, o5, v3) =>
  (rd xs L (x5 + 1)).bind fun v6 =>
  (rd xs L (x5 + 2)).bind fun v7 =>
  (q_X6_weight M v6 v7).bind fun (M9, v8) =>
  (q_X6_thrown M9).bind fun v10 =>
  if v10 = v3 then (
    if v3 = 0 then (
      (rd o5 1 0).bind fun v11 =>
      if (lg_cmp v11 ((v8 : Int32).toInt64)) = 0 then (
        rec S4 M9 o5 dv (x5 + 5)
      ) else (
        some 0
      )
    ) else (
      rec S4 M9 o5 dv (x5 + 5)
    )
  ) else (
    some 0
  )
def q_law_c25 (xs : Nat → Int32) (L : Nat) (rec : PS → PS → (Nat → Int64) → (Nat → UInt64) → Int32 → Option Int32) (S M : PS) (ov : Nat → Int64) (dv : Nat → UInt64) (x5 : Int32) : Option Int32 :=
  (rd xs L (x5 + 1)).bind fun v1 =>
  (q_L_weightOf S ov v1).bind fun (S3, o4, v2) =>
  (rd xs L (x5 + 1)).bind fun v5 =>
  (q_X6_weightOf M v5).bind fun (M7, v6) =>
  (q_X6_thrown M7).bind fun v8 =>
  if v8 = v2 then (
    if v2 = 0 then (
      (rd o4 1 0).bind fun v9 =>
      if (lg_cmp v9 v6) = 0 then (
        rec S3 M7 o4 dv (x5 + 5)
      ) else (
        some 0
      )
    ) else (
      rec S3 M7 o4 dv (x5 + 5)
    )
  ) else (
    some 0
  )
def q_law_c26 (xs : Nat → Int32) (L : Nat) (rec : PS → PS → (Nat → Int64) → (Nat → UInt64) → Int32 → Option Int32) (S M : PS) (ov : Nat → Int64) (dv : Nat → UInt64) (x5 : Int32) : Option Int32 :=
  (q_L_share S dv).bind fun (S2, o3, v1) =>
  (q_X6_share M).bind fun (M5, v4) =>
  (q_X6_thrown M5).bind fun v6 =>
  if v6 = v1 then (
    if v1 = 0 then (
      (rd o3 1 0).bind fun v7 =>
      if (Op.cmpValue (FP.dcmp v7 v4) CmpOp.l) = 0 then (
        rec S2 M5 ov o3 (x5 + 5)
      ) else (
        (rd o3 1 0).bind fun v8 =>
        (rd o3 1 0).bind fun v9 =>
        if (Op.cmpValue (FP.dcmp v8 v9) CmpOp.l) = 0 then (
          some 0
        ) else (
          if (Op.cmpValue (FP.dcmp v4 v4) CmpOp.l) = 0 then (
            some 0
          ) else (
            rec S2 M5 ov o3 (x5 + 5)
          )
        )
      )
    ) else (
      rec S2 M5 ov o3 (x5 + 5)
    )
  ) else (
    some 0
  )
def q_law_c27 (xs : Nat → Int32) (L : Nat) (rec : PS → PS → (Nat → Int64) → (Nat → UInt64) → Int32 → Option Int32) (S M : PS) (ov : Nat → Int64) (dv : Nat → UInt64) (x5 : Int32) : Option Int32 :=
  (rd xs L (x5 + 1)).bind fun v1 =>
  (q_L_holds S ov v1).bind fun (S3, o4, v2) =>
  (rd xs L (x5 + 1)).bind fun v5 =>
  (q_X6_holds M v5).bind fun (M7, v6) =>
  (q_X6_thrown M7).bind fun v8 =>
  if v8 = v2 then (
    if v2 = 0 then (
      (rd o4 1 0).bind fun v9 =>
      if v6 = 0 then (
        if (lg_cmp v9 0) = 0 then (
          rec S3 M7 o4 dv (x5 + 5)
        ) else (
          some 0
        )
      ) else (
        if (lg_cmp v9 1) = 0 then (
          rec S3 M7 o4 dv (x5 + 5)
        ) else (
          some 0
        )
      )
    ) else (
      rec S3 M7 o4 dv (x5 + 5)
    )
  ) else (
    some 0
  )
def q_law_c28 (xs : Nat → Int32) (L : Nat) (rec : PS → PS → (Nat → Int64) → (Nat → UInt64) → Int32 → Option Int32) (S M : PS) (ov : Nat → Int64) (dv : Nat → UInt64) (x5 : Int32) : Option Int32 :=
  (q_L_firstBroken S ov).bind fun (S2, o3, v1) =>
  (q_X6_firstBroken M).bind fun (M5, v4) =>
  (q_X6_thrown M5).bind fun v6 =>
  if v6 = v1 then (
    if v1 = 0 then (
      (rd o3 1 0).bind fun v7 =>
      if (lg_cmp v7 ((v4 : Int32).toInt64)) = 0 then (
        rec S2 M5 o3 dv (x5 + 5)
      ) else (
        some 0
      )
    ) else (
      rec S2 M5 o3 dv (x5 + 5)
    )
  ) else (
    some 0
  )
def q_law_c29 (xs : Nat → Int32) (L : Nat) (rec : PS → PS → (Nat → Int64) → (Nat → UInt64) → Int32 → Option Int32) (S M : PS) (ov : Nat → Int64) (dv : Nat → UInt64) (x5 : Int32) : Option Int32 :=
  (q_L_prune S ov).bind fun (S2, o3, v1) =>
  (q_X6_prune M).bind fun (M5, v4) =>
  (q_X6_thrown M5).bind fun v6 =>
  if v6 = v1 then (
    if v1 = 0 then (
      (rd o3 1 0).bind fun v7 =>
      if (lg_cmp v7 ((v4 : Int32).toInt64)) = 0 then (
        rec S2 M5 o3 dv (x5 + 5)
      ) else (
        some 0
      )
    ) else (
      rec S2 M5 o3 dv (x5 + 5)
    )
  ) else (
    some 0
  )
def q_law_c30 (xs : Nat → Int32) (L : Nat) (rec : PS → PS → (Nat → Int64) → (Nat → UInt64) → Int32 → Option Int32) (S M : PS) (ov : Nat → Int64) (dv : Nat → UInt64) (x5 : Int32) : Option Int32 :=
  (q_X5_digest S).bind fun v1 =>
  (q_X6_digest M).bind fun (M3, v2) =>
  if (lg_cmp v1 v2) = 0 then (
    rec S M3 ov dv (x5 + 5)
  ) else (
    some 0
  )
def q_law_b (xs : Nat → Int32) (L : Nat) (rec : PS → PS → (Nat → Int64) → (Nat → UInt64) → Int32 → Option Int32) (S M : PS) (ov : Nat → Int64) (dv : Nat → UInt64) (x5 : Int32) : Option Int32 :=
  if (Int32.ofNat L - 5) < x5 then some 1 else
  (rd xs L x5).bind fun v =>
  if (v &&& 31) = 0 then q_law_c0 xs L rec S M ov dv x5 else
  if (v &&& 31) = 1 then q_law_c1 xs L rec S M ov dv x5 else
  if (v &&& 31) = 2 then q_law_c2 xs L rec S M ov dv x5 else
  if (v &&& 31) = 3 then q_law_c3 xs L rec S M ov dv x5 else
  if (v &&& 31) = 4 then q_law_c4 xs L rec S M ov dv x5 else
  if (v &&& 31) = 5 then q_law_c5 xs L rec S M ov dv x5 else
  if (v &&& 31) = 6 then q_law_c6 xs L rec S M ov dv x5 else
  if (v &&& 31) = 7 then q_law_c7 xs L rec S M ov dv x5 else
  if (v &&& 31) = 8 then q_law_c8 xs L rec S M ov dv x5 else
  if (v &&& 31) = 9 then q_law_c9 xs L rec S M ov dv x5 else
  if (v &&& 31) = 10 then q_law_c10 xs L rec S M ov dv x5 else
  if (v &&& 31) = 11 then q_law_c11 xs L rec S M ov dv x5 else
  if (v &&& 31) = 12 then q_law_c12 xs L rec S M ov dv x5 else
  if (v &&& 31) = 13 then q_law_c13 xs L rec S M ov dv x5 else
  if (v &&& 31) = 14 then q_law_c14 xs L rec S M ov dv x5 else
  if (v &&& 31) = 15 then q_law_c15 xs L rec S M ov dv x5 else
  if (v &&& 31) = 16 then q_law_c16 xs L rec S M ov dv x5 else
  if (v &&& 31) = 17 then q_law_c17 xs L rec S M ov dv x5 else
  if (v &&& 31) = 18 then q_law_c18 xs L rec S M ov dv x5 else
  if (v &&& 31) = 19 then q_law_c19 xs L rec S M ov dv x5 else
  if (v &&& 31) = 20 then q_law_c20 xs L rec S M ov dv x5 else
  if (v &&& 31) = 21 then q_law_c21 xs L rec S M ov dv x5 else
  if (v &&& 31) = 22 then q_law_c22 xs L rec S M ov dv x5 else
  if (v &&& 31) = 23 then q_law_c23 xs L rec S M ov dv x5 else
  if (v &&& 31) = 24 then q_law_c24 xs L rec S M ov dv x5 else
  if (v &&& 31) = 25 then q_law_c25 xs L rec S M ov dv x5 else
  if (v &&& 31) = 26 then q_law_c26 xs L rec S M ov dv x5 else
  if (v &&& 31) = 27 then q_law_c27 xs L rec S M ov dv x5 else
  if (v &&& 31) = 28 then q_law_c28 xs L rec S M ov dv x5 else
  if (v &&& 31) = 29 then q_law_c29 xs L rec S M ov dv x5 else
  if (v &&& 31) = 30 then q_law_c30 xs L rec S M ov dv x5 else
  if (v &&& 31) = 31 then rec S M ov dv (x5 + 5) else none
