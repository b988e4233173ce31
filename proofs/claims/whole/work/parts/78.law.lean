/-! the law: planner and reference answer alike to its end -/
theorem lg_self (x : Int64) : lg_cmp x x = 0 := by unfold lg_cmp; simp
theorem rdL0 (f : Nat → Int64) : rd f 1 0 = some (f 0) := rfl
theorem rdD0 (f : Nat → UInt64) : rd f 1 0 = some (f 0) := rfl
theorem lawI {cl : Option (PS × (Nat → Int64) × Int32)} {re : Option (PS × Int32)} (h : opI cl re) (K : PS → PS → (Nat → Int64) → Option Int32) (hK : ∀ S M o, INV S M → K S M o = some 1) :
    (cl.bind fun (S3, o4, v2) => re.bind fun (M7, v6) => (q_X6_thrown M7).bind fun v8 => if v8 = v2 then (if v2 = 0 then ((rd o4 1 0).bind fun v9 => if (lg_cmp v9 ((v6 : Int32).toInt64)) = 0 then K S3 M7 o4 else some 0) else K S3 M7 o4) else some 0) = some 1 := by
  obtain ⟨S', o, c, M', r, e1, e2, e3, e4, e5⟩ := h
  subst e1 e2
  unfold q_X6_thrown
  show (if M'.1 0 = c then (if c = 0 then (if (lg_cmp (o 0) (r.toInt64)) = 0 then K S' M' o else some 0) else K S' M' o) else some 0) = some 1
  rw [if_pos e3]
  by_cases hc : c = 0
  · rw [if_pos hc, e4 hc, if_pos (lg_self _)]; exact hK _ _ _ e5
  · rw [if_neg hc]; exact hK _ _ _ e5
theorem lawL {cl : Option (PS × (Nat → Int64) × Int32)} {re : Option (PS × Int64)} (h : opL cl re) (K : PS → PS → (Nat → Int64) → Option Int32) (hK : ∀ S M o, INV S M → K S M o = some 1) :
    (cl.bind fun (S3, o4, v2) => re.bind fun (M7, v6) => (q_X6_thrown M7).bind fun v8 => if v8 = v2 then (if v2 = 0 then ((rd o4 1 0).bind fun v9 => if (lg_cmp v9 v6) = 0 then K S3 M7 o4 else some 0) else K S3 M7 o4) else some 0) = some 1 := by
  obtain ⟨S', o, c, M', r, e1, e2, e3, e4, e5⟩ := h
  subst e1 e2
  unfold q_X6_thrown
  show (if M'.1 0 = c then (if c = 0 then (if (lg_cmp (o 0) r) = 0 then K S' M' o else some 0) else K S' M' o) else some 0) = some 1
  rw [if_pos e3]
  by_cases hc : c = 0
  · rw [if_pos hc, e4 hc, if_pos (lg_self _)]; exact hK _ _ _ e5
  · rw [if_neg hc]; exact hK _ _ _ e5
theorem lawZ {cl : Option (PS × (Nat → Int64) × Int32)} {re : Option (PS × Int32)} (h : opZ cl re) (K : PS → PS → (Nat → Int64) → Option Int32) (hK : ∀ S M o, INV S M → K S M o = some 1) :
    (cl.bind fun (S3, o4, v2) => re.bind fun (M7, v6) => (q_X6_thrown M7).bind fun v8 => if v8 = v2 then (if v2 = 0 then ((rd o4 1 0).bind fun v9 => if v6 = 0 then (if (lg_cmp v9 0) = 0 then K S3 M7 o4 else some 0) else (if (lg_cmp v9 1) = 0 then K S3 M7 o4 else some 0)) else K S3 M7 o4) else some 0) = some 1 := by
  obtain ⟨S', o, c, M', r, e1, e2, e3, er, e4, e5⟩ := h
  subst e1 e2
  unfold q_X6_thrown
  show (if M'.1 0 = c then (if c = 0 then (if r = 0 then (if (lg_cmp (o 0) 0) = 0 then K S' M' o else some 0) else (if (lg_cmp (o 0) 1) = 0 then K S' M' o else some 0)) else K S' M' o) else some 0) = some 1
  rw [if_pos e3]
  by_cases hc : c = 0
  · rw [if_pos hc, e4 hc]
    rcases er with rfl | rfl
    · rw [if_pos rfl, if_pos (by decide)]; exact hK _ _ _ e5
    · rw [if_neg d10, if_pos (by decide)]; exact hK _ _ _ e5
  · rw [if_neg hc]; exact hK _ _ _ e5
theorem lawD {cl : Option (PS × (Nat → UInt64) × Int32)} {re : Option (PS × UInt64)} (h : opD cl re) (K : PS → PS → (Nat → UInt64) → Option Int32) (hK : ∀ S M o, INV S M → K S M o = some 1) :
    (cl.bind fun (S2, o3, v1) => re.bind fun (M5, v4) => (q_X6_thrown M5).bind fun v6 => if v6 = v1 then (if v1 = 0 then ((rd o3 1 0).bind fun v7 => if (Op.cmpValue (FP.dcmp v7 v4) CmpOp.l) = 0 then K S2 M5 o3 else ((rd o3 1 0).bind fun v8 => (rd o3 1 0).bind fun v9 => if (Op.cmpValue (FP.dcmp v8 v9) CmpOp.l) = 0 then some 0 else (if (Op.cmpValue (FP.dcmp v4 v4) CmpOp.l) = 0 then some 0 else K S2 M5 o3))) else K S2 M5 o3) else some 0) = some 1 := by
  obtain ⟨S', o, c, M', r, e1, e2, e3, e4, e5⟩ := h
  subst e1 e2
  unfold q_X6_thrown
  show (if M'.1 0 = c then (if c = 0 then (if (Op.cmpValue (FP.dcmp (o 0) r) CmpOp.l) = 0 then K S' M' o else (if (Op.cmpValue (FP.dcmp (o 0) (o 0)) CmpOp.l) = 0 then some 0 else (if (Op.cmpValue (FP.dcmp r r) CmpOp.l) = 0 then some 0 else K S' M' o))) else K S' M' o) else some 0) = some 1
  rw [if_pos e3]
  by_cases hc : c = 0
  · rw [if_pos hc, e4 hc]
    by_cases hd : (Op.cmpValue (FP.dcmp r r) CmpOp.l) = 0
    · rw [if_pos hd]; exact hK _ _ _ e5
    · rw [if_neg hd, if_neg hd, if_neg hd]; exact hK _ _ _ e5
  · rw [if_neg hc]; exact hK _ _ _ e5
theorem rdx {xs : Nat → Int32} {L i : Nat} (hL : L ≤ 2560) (hi : 5 * i + 5 ≤ L) : rd xs L (nI (5 * i)) = some (xs (5 * i)) ∧ rd xs L (nI (5 * i) + 1) = some (xs (5 * i + 1)) ∧ rd xs L (nI (5 * i) + 2) = some (xs (5 * i + 2)) ∧ rd xs L (nI (5 * i) + 3) = some (xs (5 * i + 3)) ∧ rd xs L (nI (5 * i) + 4) = some (xs (5 * i + 4)) := by
  refine ⟨rd_nI _ (by omega) (by omega), ?_, ?_, ?_, ?_⟩
  · rw [nI_1, rd_nI _ (by omega) (by omega)]
  · rw [show (2 : Int32) = nI 2 from rfl, nI_add, rd_nI _ (by omega) (by omega)]
  · rw [show (3 : Int32) = nI 3 from rfl, nI_add, rd_nI _ (by omega) (by omega)]
  · rw [show (4 : Int32) = nI 4 from rfl, nI_add, rd_nI _ (by omega) (by omega)]
theorem law_0 {xs : Nat → Int32} {L i : Nat} (hL : L ≤ 2560) (hi : 5 * i + 5 ≤ L) (rec : PS → PS → (Nat → Int64) → (Nat → UInt64) → Int32 → Option Int32) {S M : PS} {ov : Nat → Int64} {dv : Nat → UInt64} (h : INV S M) (hr : ∀ S M o d, INV S M → rec S M o d (nI (5 * i) + 5) = some 1) : q_law_c0 xs L rec S M ov dv (nI (5 * i)) = some 1 := by
  obtain ⟨-, r1, r2, r3, r4⟩ := rdx (xs := xs) hL hi
  unfold q_law_c0
  simp only [ob_some, r1]
  exact lawI (c_addClass (ov := ov) h (xs (5 * i + 1))) (fun S M o => rec S M o dv (nI (5 * i) + 5)) (fun S M o hI => hr S M o dv hI)
theorem law_3 {xs : Nat → Int32} {L i : Nat} (hL : L ≤ 2560) (hi : 5 * i + 5 ≤ L) (rec : PS → PS → (Nat → Int64) → (Nat → UInt64) → Int32 → Option Int32) {S M : PS} {ov : Nat → Int64} {dv : Nat → UInt64} (h : INV S M) (hr : ∀ S M o d, INV S M → rec S M o d (nI (5 * i) + 5) = some 1) : q_law_c3 xs L rec S M ov dv (nI (5 * i)) = some 1 := by
  obtain ⟨-, r1, r2, r3, r4⟩ := rdx (xs := xs) hL hi
  unfold q_law_c3
  simp only [ob_some, r1]
  exact lawI (c_parent (ov := ov) h (xs (5 * i + 1))) (fun S M o => rec S M o dv (nI (5 * i) + 5)) (fun S M o hI => hr S M o dv hI)
theorem law_4 {xs : Nat → Int32} {L i : Nat} (hL : L ≤ 2560) (hi : 5 * i + 5 ≤ L) (rec : PS → PS → (Nat → Int64) → (Nat → UInt64) → Int32 → Option Int32) {S M : PS} {ov : Nat → Int64} {dv : Nat → UInt64} (h : INV S M) (hr : ∀ S M o d, INV S M → rec S M o d (nI (5 * i) + 5) = some 1) : q_law_c4 xs L rec S M ov dv (nI (5 * i)) = some 1 := by
  obtain ⟨-, r1, r2, r3, r4⟩ := rdx (xs := xs) hL hi
  unfold q_law_c4
  simp only [ob_some, r1, r2]
  exact lawZ (c_isBelow (ov := ov) h (xs (5 * i + 1)) (xs (5 * i + 2))) (fun S M o => rec S M o dv (nI (5 * i) + 5)) (fun S M o hI => hr S M o dv hI)
theorem law_5 {xs : Nat → Int32} {L i : Nat} (hL : L ≤ 2560) (hi : 5 * i + 5 ≤ L) (rec : PS → PS → (Nat → Int64) → (Nat → UInt64) → Int32 → Option Int32) {S M : PS} {ov : Nat → Int64} {dv : Nat → UInt64} (h : INV S M) (hr : ∀ S M o d, INV S M → rec S M o d (nI (5 * i) + 5) = some 1) : q_law_c5 xs L rec S M ov dv (nI (5 * i)) = some 1 := by
  obtain ⟨-, r1, r2, r3, r4⟩ := rdx (xs := xs) hL hi
  unfold q_law_c5
  simp only [ob_some, r1]
  exact lawI (c_liveBelow (ov := ov) h (xs (5 * i + 1))) (fun S M o => rec S M o dv (nI (5 * i) + 5)) (fun S M o hI => hr S M o dv hI)
theorem law_6 {xs : Nat → Int32} {L i : Nat} (hL : L ≤ 2560) (hi : 5 * i + 5 ≤ L) (rec : PS → PS → (Nat → Int64) → (Nat → UInt64) → Int32 → Option Int32) {S M : PS} {ov : Nat → Int64} {dv : Nat → UInt64} (h : INV S M) (hr : ∀ S M o d, INV S M → rec S M o d (nI (5 * i) + 5) = some 1) : q_law_c6 xs L rec S M ov dv (nI (5 * i)) = some 1 := by
  obtain ⟨-, r1, r2, r3, r4⟩ := rdx (xs := xs) hL hi
  unfold q_law_c6
  simp only [ob_some, r1, r2, r3]
  exact lawI (c_addMethod (ov := ov) h (xs (5 * i + 1)) (xs (5 * i + 2)) (xs (5 * i + 3))) (fun S M o => rec S M o dv (nI (5 * i) + 5)) (fun S M o hI => hr S M o dv hI)
theorem law_7 {xs : Nat → Int32} {L i : Nat} (hL : L ≤ 2560) (hi : 5 * i + 5 ≤ L) (rec : PS → PS → (Nat → Int64) → (Nat → UInt64) → Int32 → Option Int32) {S M : PS} {ov : Nat → Int64} {dv : Nat → UInt64} (h : INV S M) (hr : ∀ S M o d, INV S M → rec S M o d (nI (5 * i) + 5) = some 1) : q_law_c7 xs L rec S M ov dv (nI (5 * i)) = some 1 := by
  obtain ⟨-, r1, r2, r3, r4⟩ := rdx (xs := xs) hL hi
  unfold q_law_c7
  simp only [ob_some, r1, r2, r3, r4]
  exact lawI (c_addCall (ov := ov) h (xs (5 * i + 1)) (xs (5 * i + 2)) (xs (5 * i + 3)) (xs (5 * i + 4))) (fun S M o => rec S M o dv (nI (5 * i) + 5)) (fun S M o hI => hr S M o dv hI)
theorem law_9 {xs : Nat → Int32} {L i : Nat} (hL : L ≤ 2560) (hi : 5 * i + 5 ≤ L) (rec : PS → PS → (Nat → Int64) → (Nat → UInt64) → Int32 → Option Int32) {S M : PS} {ov : Nat → Int64} {dv : Nat → UInt64} (h : INV S M) (hr : ∀ S M o d, INV S M → rec S M o d (nI (5 * i) + 5) = some 1) : q_law_c9 xs L rec S M ov dv (nI (5 * i)) = some 1 := by
  obtain ⟨-, r1, r2, r3, r4⟩ := rdx (xs := xs) hL hi
  unfold q_law_c9
  simp only [ob_some, r1, r2]
  exact lawI (c_found (ov := ov) h (xs (5 * i + 1)) (xs (5 * i + 2))) (fun S M o => rec S M o dv (nI (5 * i) + 5)) (fun S M o hI => hr S M o dv hI)
theorem law_10 {xs : Nat → Int32} {L i : Nat} (hL : L ≤ 2560) (hi : 5 * i + 5 ≤ L) (rec : PS → PS → (Nat → Int64) → (Nat → UInt64) → Int32 → Option Int32) {S M : PS} {ov : Nat → Int64} {dv : Nat → UInt64} (h : INV S M) (hr : ∀ S M o d, INV S M → rec S M o d (nI (5 * i) + 5) = some 1) : q_law_c10 xs L rec S M ov dv (nI (5 * i)) = some 1 := by
  obtain ⟨-, r1, r2, r3, r4⟩ := rdx (xs := xs) hL hi
  unfold q_law_c10
  simp only [ob_some, r1, r2]
  exact lawI (c_targetCount (ov := ov) h (xs (5 * i + 1)) (xs (5 * i + 2))) (fun S M o => rec S M o dv (nI (5 * i) + 5)) (fun S M o hI => hr S M o dv hI)
theorem law_11 {xs : Nat → Int32} {L i : Nat} (hL : L ≤ 2560) (hi : 5 * i + 5 ≤ L) (rec : PS → PS → (Nat → Int64) → (Nat → UInt64) → Int32 → Option Int32) {S M : PS} {ov : Nat → Int64} {dv : Nat → UInt64} (h : INV S M) (hr : ∀ S M o d, INV S M → rec S M o d (nI (5 * i) + 5) = some 1) : q_law_c11 xs L rec S M ov dv (nI (5 * i)) = some 1 := by
  obtain ⟨-, r1, r2, r3, r4⟩ := rdx (xs := xs) hL hi
  unfold q_law_c11
  simp only [ob_some, r1, r2, r3]
  exact lawI (c_target (ov := ov) h (xs (5 * i + 1)) (xs (5 * i + 2)) (xs (5 * i + 3))) (fun S M o => rec S M o dv (nI (5 * i) + 5)) (fun S M o hI => hr S M o dv hI)
theorem law_12 {xs : Nat → Int32} {L i : Nat} (hL : L ≤ 2560) (hi : 5 * i + 5 ≤ L) (rec : PS → PS → (Nat → Int64) → (Nat → UInt64) → Int32 → Option Int32) {S M : PS} {ov : Nat → Int64} {dv : Nat → UInt64} (h : INV S M) (hr : ∀ S M o d, INV S M → rec S M o d (nI (5 * i) + 5) = some 1) : q_law_c12 xs L rec S M ov dv (nI (5 * i)) = some 1 := by
  obtain ⟨-, r1, r2, r3, r4⟩ := rdx (xs := xs) hL hi
  unfold q_law_c12
  simp only [ob_some, r1]
  exact lawI (c_reached (ov := ov) h (xs (5 * i + 1))) (fun S M o => rec S M o dv (nI (5 * i) + 5)) (fun S M o hI => hr S M o dv hI)
theorem law_13 {xs : Nat → Int32} {L i : Nat} (hL : L ≤ 2560) (hi : 5 * i + 5 ≤ L) (rec : PS → PS → (Nat → Int64) → (Nat → UInt64) → Int32 → Option Int32) {S M : PS} {ov : Nat → Int64} {dv : Nat → UInt64} (h : INV S M) (hr : ∀ S M o d, INV S M → rec S M o d (nI (5 * i) + 5) = some 1) : q_law_c13 xs L rec S M ov dv (nI (5 * i)) = some 1 := by
  obtain ⟨-, r1, r2, r3, r4⟩ := rdx (xs := xs) hL hi
  unfold q_law_c13
  simp only [ob_some, r1, r2, r3]
  exact lawZ (c_setLimits (ov := ov) h (xs (5 * i + 1)) (xs (5 * i + 2)) (xs (5 * i + 3))) (fun S M o => rec S M o dv (nI (5 * i) + 5)) (fun S M o hI => hr S M o dv hI)
theorem law_14 {xs : Nat → Int32} {L i : Nat} (hL : L ≤ 2560) (hi : 5 * i + 5 ≤ L) (rec : PS → PS → (Nat → Int64) → (Nat → UInt64) → Int32 → Option Int32) {S M : PS} {ov : Nat → Int64} {dv : Nat → UInt64} (h : INV S M) (hr : ∀ S M o d, INV S M → rec S M o d (nI (5 * i) + 5) = some 1) : q_law_c14 xs L rec S M ov dv (nI (5 * i)) = some 1 := by
  obtain ⟨-, r1, r2, r3, r4⟩ := rdx (xs := xs) hL hi
  unfold q_law_c14
  simp only [ob_some, r1]
  exact lawI (c_planO (ov := ov) h (xs (5 * i + 1))) (fun S M o => rec S M o dv (nI (5 * i) + 5)) (fun S M o hI => hr S M o dv hI)
theorem law_16 {xs : Nat → Int32} {L i : Nat} (hL : L ≤ 2560) (hi : 5 * i + 5 ≤ L) (rec : PS → PS → (Nat → Int64) → (Nat → UInt64) → Int32 → Option Int32) {S M : PS} {ov : Nat → Int64} {dv : Nat → UInt64} (h : INV S M) (hr : ∀ S M o d, INV S M → rec S M o d (nI (5 * i) + 5) = some 1) : q_law_c16 xs L rec S M ov dv (nI (5 * i)) = some 1 := by
  obtain ⟨-, r1, r2, r3, r4⟩ := rdx (xs := xs) hL hi
  unfold q_law_c16
  simp only [ob_some]
  exact lawI (c_nodeCount (ov := ov) h) (fun S M o => rec S M o dv (nI (5 * i) + 5)) (fun S M o hI => hr S M o dv hI)
theorem law_17 {xs : Nat → Int32} {L i : Nat} (hL : L ≤ 2560) (hi : 5 * i + 5 ≤ L) (rec : PS → PS → (Nat → Int64) → (Nat → UInt64) → Int32 → Option Int32) {S M : PS} {ov : Nat → Int64} {dv : Nat → UInt64} (h : INV S M) (hr : ∀ S M o d, INV S M → rec S M o d (nI (5 * i) + 5) = some 1) : q_law_c17 xs L rec S M ov dv (nI (5 * i)) = some 1 := by
  obtain ⟨-, r1, r2, r3, r4⟩ := rdx (xs := xs) hL hi
  unfold q_law_c17
  simp only [ob_some]
  exact lawI (c_size (ov := ov) h) (fun S M o => rec S M o dv (nI (5 * i) + 5)) (fun S M o hI => hr S M o dv hI)
theorem law_18 {xs : Nat → Int32} {L i : Nat} (hL : L ≤ 2560) (hi : 5 * i + 5 ≤ L) (rec : PS → PS → (Nat → Int64) → (Nat → UInt64) → Int32 → Option Int32) {S M : PS} {ov : Nat → Int64} {dv : Nat → UInt64} (h : INV S M) (hr : ∀ S M o d, INV S M → rec S M o d (nI (5 * i) + 5) = some 1) : q_law_c18 xs L rec S M ov dv (nI (5 * i)) = some 1 := by
  obtain ⟨-, r1, r2, r3, r4⟩ := rdx (xs := xs) hL hi
  unfold q_law_c18
  simp only [ob_some, r1]
  exact lawI (c_method (ov := ov) h (xs (5 * i + 1))) (fun S M o => rec S M o dv (nI (5 * i) + 5)) (fun S M o hI => hr S M o dv hI)
theorem law_19 {xs : Nat → Int32} {L i : Nat} (hL : L ≤ 2560) (hi : 5 * i + 5 ≤ L) (rec : PS → PS → (Nat → Int64) → (Nat → UInt64) → Int32 → Option Int32) {S M : PS} {ov : Nat → Int64} {dv : Nat → UInt64} (h : INV S M) (hr : ∀ S M o d, INV S M → rec S M o d (nI (5 * i) + 5) = some 1) : q_law_c19 xs L rec S M ov dv (nI (5 * i)) = some 1 := by
  obtain ⟨-, r1, r2, r3, r4⟩ := rdx (xs := xs) hL hi
  unfold q_law_c19
  simp only [ob_some, r1]
  exact lawI (c_parentNode (ov := ov) h (xs (5 * i + 1))) (fun S M o => rec S M o dv (nI (5 * i) + 5)) (fun S M o hI => hr S M o dv hI)
theorem law_20 {xs : Nat → Int32} {L i : Nat} (hL : L ≤ 2560) (hi : 5 * i + 5 ≤ L) (rec : PS → PS → (Nat → Int64) → (Nat → UInt64) → Int32 → Option Int32) {S M : PS} {ov : Nat → Int64} {dv : Nat → UInt64} (h : INV S M) (hr : ∀ S M o d, INV S M → rec S M o d (nI (5 * i) + 5) = some 1) : q_law_c20 xs L rec S M ov dv (nI (5 * i)) = some 1 := by
  obtain ⟨-, r1, r2, r3, r4⟩ := rdx (xs := xs) hL hi
  unfold q_law_c20
  simp only [ob_some, r1]
  exact lawI (c_siteOf (ov := ov) h (xs (5 * i + 1))) (fun S M o => rec S M o dv (nI (5 * i) + 5)) (fun S M o hI => hr S M o dv hI)
theorem law_21 {xs : Nat → Int32} {L i : Nat} (hL : L ≤ 2560) (hi : 5 * i + 5 ≤ L) (rec : PS → PS → (Nat → Int64) → (Nat → UInt64) → Int32 → Option Int32) {S M : PS} {ov : Nat → Int64} {dv : Nat → UInt64} (h : INV S M) (hr : ∀ S M o d, INV S M → rec S M o d (nI (5 * i) + 5) = some 1) : q_law_c21 xs L rec S M ov dv (nI (5 * i)) = some 1 := by
  obtain ⟨-, r1, r2, r3, r4⟩ := rdx (xs := xs) hL hi
  unfold q_law_c21
  simp only [ob_some, r1]
  exact lawI (c_depth (ov := ov) h (xs (5 * i + 1))) (fun S M o => rec S M o dv (nI (5 * i) + 5)) (fun S M o hI => hr S M o dv hI)
theorem law_22 {xs : Nat → Int32} {L i : Nat} (hL : L ≤ 2560) (hi : 5 * i + 5 ≤ L) (rec : PS → PS → (Nat → Int64) → (Nat → UInt64) → Int32 → Option Int32) {S M : PS} {ov : Nat → Int64} {dv : Nat → UInt64} (h : INV S M) (hr : ∀ S M o d, INV S M → rec S M o d (nI (5 * i) + 5) = some 1) : q_law_c22 xs L rec S M ov dv (nI (5 * i)) = some 1 := by
  obtain ⟨-, r1, r2, r3, r4⟩ := rdx (xs := xs) hL hi
  unfold q_law_c22
  simp only [ob_some, r1]
  exact lawI (c_siteCount (ov := ov) h (xs (5 * i + 1))) (fun S M o => rec S M o dv (nI (5 * i) + 5)) (fun S M o hI => hr S M o dv hI)
theorem law_23 {xs : Nat → Int32} {L i : Nat} (hL : L ≤ 2560) (hi : 5 * i + 5 ≤ L) (rec : PS → PS → (Nat → Int64) → (Nat → UInt64) → Int32 → Option Int32) {S M : PS} {ov : Nat → Int64} {dv : Nat → UInt64} (h : INV S M) (hr : ∀ S M o d, INV S M → rec S M o d (nI (5 * i) + 5) = some 1) : q_law_c23 xs L rec S M ov dv (nI (5 * i)) = some 1 := by
  obtain ⟨-, r1, r2, r3, r4⟩ := rdx (xs := xs) hL hi
  unfold q_law_c23
  simp only [ob_some, r1, r2]
  exact lawI (c_verdict (ov := ov) h (xs (5 * i + 1)) (xs (5 * i + 2))) (fun S M o => rec S M o dv (nI (5 * i) + 5)) (fun S M o hI => hr S M o dv hI)
theorem law_24 {xs : Nat → Int32} {L i : Nat} (hL : L ≤ 2560) (hi : 5 * i + 5 ≤ L) (rec : PS → PS → (Nat → Int64) → (Nat → UInt64) → Int32 → Option Int32) {S M : PS} {ov : Nat → Int64} {dv : Nat → UInt64} (h : INV S M) (hr : ∀ S M o d, INV S M → rec S M o d (nI (5 * i) + 5) = some 1) : q_law_c24 xs L rec S M ov dv (nI (5 * i)) = some 1 := by
  obtain ⟨-, r1, r2, r3, r4⟩ := rdx (xs := xs) hL hi
  unfold q_law_c24
  simp only [ob_some, r1, r2]
  exact lawI (c_weight (ov := ov) h (xs (5 * i + 1)) (xs (5 * i + 2))) (fun S M o => rec S M o dv (nI (5 * i) + 5)) (fun S M o hI => hr S M o dv hI)
theorem law_25 {xs : Nat → Int32} {L i : Nat} (hL : L ≤ 2560) (hi : 5 * i + 5 ≤ L) (rec : PS → PS → (Nat → Int64) → (Nat → UInt64) → Int32 → Option Int32) {S M : PS} {ov : Nat → Int64} {dv : Nat → UInt64} (h : INV S M) (hr : ∀ S M o d, INV S M → rec S M o d (nI (5 * i) + 5) = some 1) : q_law_c25 xs L rec S M ov dv (nI (5 * i)) = some 1 := by
  obtain ⟨-, r1, r2, r3, r4⟩ := rdx (xs := xs) hL hi
  unfold q_law_c25
  simp only [ob_some, r1]
  exact lawL (c_weightOf (ov := ov) h (xs (5 * i + 1))) (fun S M o => rec S M o dv (nI (5 * i) + 5)) (fun S M o hI => hr S M o dv hI)
theorem law_26 {xs : Nat → Int32} {L i : Nat} (hL : L ≤ 2560) (hi : 5 * i + 5 ≤ L) (rec : PS → PS → (Nat → Int64) → (Nat → UInt64) → Int32 → Option Int32) {S M : PS} {ov : Nat → Int64} {dv : Nat → UInt64} (h : INV S M) (hr : ∀ S M o d, INV S M → rec S M o d (nI (5 * i) + 5) = some 1) : q_law_c26 xs L rec S M ov dv (nI (5 * i)) = some 1 := by
  obtain ⟨-, r1, r2, r3, r4⟩ := rdx (xs := xs) hL hi
  unfold q_law_c26
  simp only [ob_some]
  exact lawD (c_share (ov := dv) h) (fun S M o => rec S M ov o (nI (5 * i) + 5)) (fun S M o hI => hr S M ov o hI)
theorem law_27 {xs : Nat → Int32} {L i : Nat} (hL : L ≤ 2560) (hi : 5 * i + 5 ≤ L) (rec : PS → PS → (Nat → Int64) → (Nat → UInt64) → Int32 → Option Int32) {S M : PS} {ov : Nat → Int64} {dv : Nat → UInt64} (h : INV S M) (hr : ∀ S M o d, INV S M → rec S M o d (nI (5 * i) + 5) = some 1) : q_law_c27 xs L rec S M ov dv (nI (5 * i)) = some 1 := by
  obtain ⟨-, r1, r2, r3, r4⟩ := rdx (xs := xs) hL hi
  unfold q_law_c27
  simp only [ob_some, r1]
  exact lawZ (c_holds (ov := ov) h (xs (5 * i + 1))) (fun S M o => rec S M o dv (nI (5 * i) + 5)) (fun S M o hI => hr S M o dv hI)
theorem law_28 {xs : Nat → Int32} {L i : Nat} (hL : L ≤ 2560) (hi : 5 * i + 5 ≤ L) (rec : PS → PS → (Nat → Int64) → (Nat → UInt64) → Int32 → Option Int32) {S M : PS} {ov : Nat → Int64} {dv : Nat → UInt64} (h : INV S M) (hr : ∀ S M o d, INV S M → rec S M o d (nI (5 * i) + 5) = some 1) : q_law_c28 xs L rec S M ov dv (nI (5 * i)) = some 1 := by
  obtain ⟨-, r1, r2, r3, r4⟩ := rdx (xs := xs) hL hi
  unfold q_law_c28
  simp only [ob_some]
  exact lawI (c_firstBroken (ov := ov) h) (fun S M o => rec S M o dv (nI (5 * i) + 5)) (fun S M o hI => hr S M o dv hI)
theorem law_29 {xs : Nat → Int32} {L i : Nat} (hL : L ≤ 2560) (hi : 5 * i + 5 ≤ L) (rec : PS → PS → (Nat → Int64) → (Nat → UInt64) → Int32 → Option Int32) {S M : PS} {ov : Nat → Int64} {dv : Nat → UInt64} (h : INV S M) (hr : ∀ S M o d, INV S M → rec S M o d (nI (5 * i) + 5) = some 1) : q_law_c29 xs L rec S M ov dv (nI (5 * i)) = some 1 := by
  obtain ⟨-, r1, r2, r3, r4⟩ := rdx (xs := xs) hL hi
  unfold q_law_c29
  simp only [ob_some]
  exact lawI (c_prune (ov := ov) h) (fun S M o => rec S M o dv (nI (5 * i) + 5)) (fun S M o hI => hr S M o dv hI)
theorem law_1 {xs : Nat → Int32} {L i : Nat} (hL : L ≤ 2560) (hi : 5 * i + 5 ≤ L) (rec : PS → PS → (Nat → Int64) → (Nat → UInt64) → Int32 → Option Int32) {S M : PS} {ov : Nat → Int64} {dv : Nat → UInt64} (h : INV S M) (hr : ∀ S M o d, INV S M → rec S M o d (nI (5 * i) + 5) = some 1) : q_law_c1 xs L rec S M ov dv (nI (5 * i)) = some 1 := by
  obtain ⟨-, r1, r2, r3, r4⟩ := rdx (xs := xs) hL hi
  unfold q_law_c1
  simp only [ob_some, r1, r2]
  by_cases hz : xs (5 * i + 2) = 0
  · simp only [if_pos hz]
    exact lawZ (c_setLive (ov := ov) h (xs (5 * i + 1)) 0 (Or.inl rfl)) (fun S M o => rec S M o dv (nI (5 * i) + 5)) (fun S M o hI => hr S M o dv hI)
  · simp only [if_neg hz]
    exact lawZ (c_setLive (ov := ov) h (xs (5 * i + 1)) 1 (Or.inr rfl)) (fun S M o => rec S M o dv (nI (5 * i) + 5)) (fun S M o hI => hr S M o dv hI)
theorem law_2 {xs : Nat → Int32} {L i : Nat} (hL : L ≤ 2560) (hi : 5 * i + 5 ≤ L) (rec : PS → PS → (Nat → Int64) → (Nat → UInt64) → Int32 → Option Int32) {S M : PS} {ov : Nat → Int64} {dv : Nat → UInt64} (h : INV S M) (hr : ∀ S M o d, INV S M → rec S M o d (nI (5 * i) + 5) = some 1) : q_law_c2 xs L rec S M ov dv (nI (5 * i)) = some 1 := by
  unfold q_law_c2 q_X5_classCount q_X6_classCount
  rw [ob_some, wN_e, ob_some, ob_pair]
  dsimp only
  rw [if_pos (show S.1 0 = (sN M 0 0).1 1 from h.2.2.1.1)]
  exact hr _ _ _ _ (inv_thr 0 h)
theorem law_8 {xs : Nat → Int32} {L i : Nat} (hL : L ≤ 2560) (hi : 5 * i + 5 ≤ L) (rec : PS → PS → (Nat → Int64) → (Nat → UInt64) → Int32 → Option Int32) {S M : PS} {ov : Nat → Int64} {dv : Nat → UInt64} (h : INV S M) (hr : ∀ S M o d, INV S M → rec S M o d (nI (5 * i) + 5) = some 1) : q_law_c8 xs L rec S M ov dv (nI (5 * i)) = some 1 := by
  unfold q_law_c8 q_X5_methodCount q_X6_methodCount
  rw [ob_some, wN_e, ob_some, ob_pair]
  dsimp only
  rw [if_pos (show S.1 1 = (sN M 0 0).1 2 from h.2.2.2.1.1)]
  exact hr _ _ _ _ (inv_thr 0 h)
theorem law_15 {xs : Nat → Int32} {L i : Nat} (hL : L ≤ 2560) (hi : 5 * i + 5 ≤ L) (rec : PS → PS → (Nat → Int64) → (Nat → UInt64) → Int32 → Option Int32) {S M : PS} {ov : Nat → Int64} {dv : Nat → UInt64} (h : INV S M) (hr : ∀ S M o d, INV S M → rec S M o d (nI (5 * i) + 5) = some 1) : q_law_c15 xs L rec S M ov dv (nI (5 * i)) = some 1 := by
  unfold q_law_c15 q_X5_hasPlan q_X6_hasPlan
  rw [wN_e, ob_some, show (sN M 0 0).1 6 = M.1 6 from rfl]
  rcases c_plan h with ⟨a1, a2, a3⟩ | ⟨a1, a2, a3, a4, a5⟩
  · rw [a1, a3, ob_some, zg_0, ob_some, ob_some, ob_some, ob_pair]
    dsimp only
    rw [if_pos rfl]
    exact hr _ _ _ _ (inv_thr 0 h)
  · rw [a1, a3, ob_some, zg_1, ob_some, ob_some, ob_some, ob_pair]
    dsimp only
    rw [if_pos rfl]
    exact hr _ _ _ _ (inv_thr 0 h)
theorem law_30 {xs : Nat → Int32} {L i : Nat} (hL : L ≤ 2560) (hi : 5 * i + 5 ≤ L) (rec : PS → PS → (Nat → Int64) → (Nat → UInt64) → Int32 → Option Int32) {S M : PS} {ov : Nat → Int64} {dv : Nat → UInt64} (h : INV S M) (hr : ∀ S M o d, INV S M → rec S M o d (nI (5 * i) + 5) = some 1) : q_law_c30 xs L rec S M ov dv (nI (5 * i)) = some 1 := by
  obtain ⟨v, v1, v2⟩ := c_digest h
  unfold q_law_c30
  rw [v1, v2, ob_some, ob_pair]
  dsimp only
  rw [if_pos (lg_self v)]
  exact hr _ _ _ _ (inv_thr 0 h)
theorem ite_or {c : Prop} [Decidable c] {a b r : Option Int32} (h1 : c → a = r) (h2 : ¬ c → b = r) : (if c then a else b) = r := by
  by_cases h : c
  · rw [if_pos h]; exact h1 h
  · rw [if_neg h]; exact h2 h
theorem law_body {xs : Nat → Int32} {L i : Nat} (hL : L ≤ 2560) (hi : 5 * i + 5 ≤ L) (rec : PS → PS → (Nat → Int64) → (Nat → UInt64) → Int32 → Option Int32) {S M : PS} {ov : Nat → Int64} {dv : Nat → UInt64} (h : INV S M) (hr : ∀ S M o d, INV S M → rec S M o d (nI (5 * i) + 5) = some 1) : q_law_b xs L rec S M ov dv (nI (5 * i)) = some 1 := by
  unfold q_law_b
  by_cases hend : (Int32.ofNat L - 5) < nI (5 * i)
  · rw [if_pos hend]
  · rw [if_neg hend, (rdx (xs := xs) hL hi).1, ob_some]
    obtain ⟨j, j1, j2⟩ := pk_andE (xs (5 * i)) (m := 31) 5 (by decide)
    rw [j2]
    have hj : j < 32 := j1
    clear j1 j2
    refine ite_or (fun h0 => law_0 hL hi rec h hr) (fun h0 => ?_)
    refine ite_or (fun h1 => law_1 hL hi rec h hr) (fun h1 => ?_)
    refine ite_or (fun h2 => law_2 hL hi rec h hr) (fun h2 => ?_)
    refine ite_or (fun h3 => law_3 hL hi rec h hr) (fun h3 => ?_)
    refine ite_or (fun h4 => law_4 hL hi rec h hr) (fun h4 => ?_)
    refine ite_or (fun h5 => law_5 hL hi rec h hr) (fun h5 => ?_)
    refine ite_or (fun h6 => law_6 hL hi rec h hr) (fun h6 => ?_)
    refine ite_or (fun h7 => law_7 hL hi rec h hr) (fun h7 => ?_)
    refine ite_or (fun h8 => law_8 hL hi rec h hr) (fun h8 => ?_)
    refine ite_or (fun h9 => law_9 hL hi rec h hr) (fun h9 => ?_)
    refine ite_or (fun h10 => law_10 hL hi rec h hr) (fun h10 => ?_)
    refine ite_or (fun h11 => law_11 hL hi rec h hr) (fun h11 => ?_)
    refine ite_or (fun h12 => law_12 hL hi rec h hr) (fun h12 => ?_)
    refine ite_or (fun h13 => law_13 hL hi rec h hr) (fun h13 => ?_)
    refine ite_or (fun h14 => law_14 hL hi rec h hr) (fun h14 => ?_)
    refine ite_or (fun h15 => law_15 hL hi rec h hr) (fun h15 => ?_)
    refine ite_or (fun h16 => law_16 hL hi rec h hr) (fun h16 => ?_)
    refine ite_or (fun h17 => law_17 hL hi rec h hr) (fun h17 => ?_)
    refine ite_or (fun h18 => law_18 hL hi rec h hr) (fun h18 => ?_)
    refine ite_or (fun h19 => law_19 hL hi rec h hr) (fun h19 => ?_)
    refine ite_or (fun h20 => law_20 hL hi rec h hr) (fun h20 => ?_)
    refine ite_or (fun h21 => law_21 hL hi rec h hr) (fun h21 => ?_)
    refine ite_or (fun h22 => law_22 hL hi rec h hr) (fun h22 => ?_)
    refine ite_or (fun h23 => law_23 hL hi rec h hr) (fun h23 => ?_)
    refine ite_or (fun h24 => law_24 hL hi rec h hr) (fun h24 => ?_)
    refine ite_or (fun h25 => law_25 hL hi rec h hr) (fun h25 => ?_)
    refine ite_or (fun h26 => law_26 hL hi rec h hr) (fun h26 => ?_)
    refine ite_or (fun h27 => law_27 hL hi rec h hr) (fun h27 => ?_)
    refine ite_or (fun h28 => law_28 hL hi rec h hr) (fun h28 => ?_)
    refine ite_or (fun h29 => law_29 hL hi rec h hr) (fun h29 => ?_)
    refine ite_or (fun h30 => law_30 hL hi rec h hr) (fun h30 => ?_)
    refine ite_or (fun _ => hr _ _ _ _ h) (fun h31 => ?_)
    exfalso
    have q0 : j ≠ 0 := fun e => h0 (by rw [e]; rfl)
    have q1 : j ≠ 1 := fun e => h1 (by rw [e]; rfl)
    have q2 : j ≠ 2 := fun e => h2 (by rw [e]; rfl)
    have q3 : j ≠ 3 := fun e => h3 (by rw [e]; rfl)
    have q4 : j ≠ 4 := fun e => h4 (by rw [e]; rfl)
    have q5 : j ≠ 5 := fun e => h5 (by rw [e]; rfl)
    have q6 : j ≠ 6 := fun e => h6 (by rw [e]; rfl)
    have q7 : j ≠ 7 := fun e => h7 (by rw [e]; rfl)
    have q8 : j ≠ 8 := fun e => h8 (by rw [e]; rfl)
    have q9 : j ≠ 9 := fun e => h9 (by rw [e]; rfl)
    have q10 : j ≠ 10 := fun e => h10 (by rw [e]; rfl)
    have q11 : j ≠ 11 := fun e => h11 (by rw [e]; rfl)
    have q12 : j ≠ 12 := fun e => h12 (by rw [e]; rfl)
    have q13 : j ≠ 13 := fun e => h13 (by rw [e]; rfl)
    have q14 : j ≠ 14 := fun e => h14 (by rw [e]; rfl)
    have q15 : j ≠ 15 := fun e => h15 (by rw [e]; rfl)
    have q16 : j ≠ 16 := fun e => h16 (by rw [e]; rfl)
    have q17 : j ≠ 17 := fun e => h17 (by rw [e]; rfl)
    have q18 : j ≠ 18 := fun e => h18 (by rw [e]; rfl)
    have q19 : j ≠ 19 := fun e => h19 (by rw [e]; rfl)
    have q20 : j ≠ 20 := fun e => h20 (by rw [e]; rfl)
    have q21 : j ≠ 21 := fun e => h21 (by rw [e]; rfl)
    have q22 : j ≠ 22 := fun e => h22 (by rw [e]; rfl)
    have q23 : j ≠ 23 := fun e => h23 (by rw [e]; rfl)
    have q24 : j ≠ 24 := fun e => h24 (by rw [e]; rfl)
    have q25 : j ≠ 25 := fun e => h25 (by rw [e]; rfl)
    have q26 : j ≠ 26 := fun e => h26 (by rw [e]; rfl)
    have q27 : j ≠ 27 := fun e => h27 (by rw [e]; rfl)
    have q28 : j ≠ 28 := fun e => h28 (by rw [e]; rfl)
    have q29 : j ≠ 29 := fun e => h29 (by rw [e]; rfl)
    have q30 : j ≠ 30 := fun e => h30 (by rw [e]; rfl)
    have q31 : j ≠ 31 := fun e => h31 (by rw [e]; rfl)
    omega
theorem inv_0 : INV S0 M0 := by
  have hnc : nc M0 = 1 := rfl
  have hnm : nm M0 = 0 := rfl
  refine ⟨⟨rfl, by omega, by omega, rfl, fun c h0 hc => by omega, fun c hc => ?_⟩, ⟨rfl, by omega, fun m hm => by omega, fun m m' hm => by omega, fun m k hm => by omega⟩, ⟨rfl, fun c hc => ?_, fun c _ _ => rfl⟩, ⟨rfl, fun m hm => by omega, fun m _ _ => rfl, fun m k hm => by omega, fun c s hc hs => rfl⟩, ⟨⟨200, by omega, by omega, rfl⟩, ⟨4, by omega, rfl⟩, ⟨1, by omega, rfl⟩, rfl, rfl, rfl⟩, Or.inl ⟨rfl, rfl⟩, rfl⟩
  · have : c = 0 := by omega
    subst this; exact Or.inl rfl
  · have : c = 0 := by omega
    subst this; exact ⟨rfl, rfl, rfl⟩
theorem law_run {xs : Nat → Int32} {L : Nat} (hL : L ≤ 2560) : ∀ (k i : Nat) (S M : PS) (ov : Nat → Int64) (dv : Nat → UInt64), L + 5 < 5 * i + 5 * k → 5 * i ≤ L + 5 → INV S M → iter5 (q_law_b xs L) k S M ov dv (nI (5 * i)) = some 1 := by
  intro k
  induction k with
  | zero =>
    intro i S M ov dv h1 h2 h
    omega
  | succ k ih =>
    intro i S M ov dv h1 h2 h
    show q_law_b xs L (iter5 (q_law_b xs L) k) S M ov dv (nI (5 * i)) = some 1
    by_cases hi : 5 * i + 5 ≤ L
    · refine law_body hL hi _ h (fun S' M' o d h' => ?_)
      rw [show (5 : Int32) = nI 5 from rfl, nI_add]
      exact ih (i + 1) S' M' o d (by omega) (by omega) h'
    · generalize iter5 (q_law_b xs L) k = rec
      unfold q_law_b
      rw [if_pos]
      have e : (Int32.ofNat L - 5).toInt = (L : Int) - 5 := by
        rcases Nat.lt_or_ge L 5 with h5 | h5
        · have : L = 0 ∨ L = 1 ∨ L = 2 ∨ L = 3 ∨ L = 4 := by omega
          rcases this with rfl | rfl | rfl | rfl | rfl <;> decide
        · have : Int32.ofNat L - 5 = nI (L - 5) := pk_sub (a := L) (b := 5) h5
          rw [this, nI_toInt (by omega)]
          omega
      rw [Int32.lt_iff_toInt_lt, e, nI_toInt (by omega)]
      omega
theorem law_pure (xs : Nat → Int32) (L : Nat) (hL : L ≤ 2560) : iter5 (q_law_b xs L) 600 S0 M0 (fun _ => 0) (fun _ => 0) 0 = some 1 := by
  have := law_run (xs := xs) hL 600 0 S0 M0 (fun _ => 0) (fun _ => 0) (by omega) (by omega) inv_0
  rw [show nI (5 * 0) = 0 from rfl] at this
  exact this
