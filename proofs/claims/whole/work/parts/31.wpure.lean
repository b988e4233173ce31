/-- a callee that may throw, and what its caller does then -/
def xc {a b : Type} (o : Option (Nat ⊕ a)) (kx : Nat → Option b) (k : a → Option b) : Option b := match o with
  | none => none
  | some (.inl e) => kx e
  | some (.inr v) => k v
theorem x_catch {a b : Type} {o : Option (Nat ⊕ a)} {kx : Nat → Option b} {k : a → Option b} {x : b} (h : xc o kx k = some x) : (∃ e, o = some (.inl e) ∧ kx e = some x) ∨ ∃ v, o = some (.inr v) ∧ k v = some x := by
  cases o with
  | none => cases h
  | some v => cases v with
    | inl e => exact Or.inl ⟨e, rfl, h⟩
    | inr v => exact Or.inr ⟨v, rfl, h⟩
def q_L_addClass (S : PS) (ov : (Nat → Int64)) (x1 : Int32) : Option (PS × (Nat → Int64) × Int32) :=
  xc (q_X5_addClass S x1) (fun e => if e = 1 then some (S, ov, 1) else if e = 2 then some (S, ov, 2) else none) fun (S1, v) => (
    (wrL ov 1 0 ((v : Int32).toInt64)).bind fun f1 =>
    some (S1, f1, 0)
  )
def q_L_setLive (S : PS) (ov : (Nat → Int64)) (x1 : Int32) (x2 : Int32) : Option (PS × (Nat → Int64) × Int32) :=
  xc (q_X5_setLive S x1 x2) (fun e => if e = 1 then some (S, ov, 1) else none) fun (S1, v) => (
    if v = 0 then (
      (wrL ov 1 0 0).bind fun f1 =>
      some (S1, f1, 0)
    ) else (
      (wrL ov 1 0 1).bind fun f2 =>
      some (S1, f2, 0)
    )
  )
def q_L_parent (S : PS) (ov : (Nat → Int64)) (x1 : Int32) : Option (PS × (Nat → Int64) × Int32) :=
  xc (q_X5_parent S x1) (fun e => if e = 1 then some (S, ov, 1) else none) fun v => (
    (wrL ov 1 0 ((v : Int32).toInt64)).bind fun f1 =>
    some (S, f1, 0)
  )
def q_L_isBelow (S : PS) (ov : (Nat → Int64)) (x1 : Int32) (x2 : Int32) : Option (PS × (Nat → Int64) × Int32) :=
  xc (q_X5_isBelow S x1 x2) (fun e => if e = 1 then some (S, ov, 1) else none) fun v => (
    if v = 0 then (
      (wrL ov 1 0 0).bind fun f1 =>
      some (S, f1, 0)
    ) else (
      (wrL ov 1 0 1).bind fun f2 =>
      some (S, f2, 0)
    )
  )
def q_L_liveBelow (S : PS) (ov : (Nat → Int64)) (x1 : Int32) : Option (PS × (Nat → Int64) × Int32) :=
  xc (q_X5_liveBelow S x1) (fun e => if e = 1 then some (S, ov, 1) else none) fun v => (
    (wrL ov 1 0 ((v : Int32).toInt64)).bind fun f1 =>
    some (S, f1, 0)
  )
def q_L_addMethod (S : PS) (ov : (Nat → Int64)) (x1 : Int32) (x2 : Int32) (x3 : Int32) : Option (PS × (Nat → Int64) × Int32) :=
  xc (q_X5_addMethod S x1 x2 x3) (fun e => if e = 1 then some (S, ov, 1) else if e = 3 then some (S, ov, 2) else if e = 2 then some (S, ov, 3) else none) fun (S1, v) => (
    (wrL ov 1 0 ((v : Int32).toInt64)).bind fun f1 =>
    some (S1, f1, 0)
  )
def q_L_addCall (S : PS) (ov : (Nat → Int64)) (x1 : Int32) (x2 : Int32) (x3 : Int32) (x4 : Int32) : Option (PS × (Nat → Int64) × Int32) :=
  xc (q_X5_addCall S x1 x2 x3 x4) (fun e => if e = 1 then some (S, ov, 1) else if e = 3 then some (S, ov, 2) else if e = 2 then some (S, ov, 3) else none) fun (S1, v) => (
    (wrL ov 1 0 ((v : Int32).toInt64)).bind fun f1 =>
    some (S1, f1, 0)
  )
def q_L_found (S : PS) (ov : (Nat → Int64)) (x1 : Int32) (x2 : Int32) : Option (PS × (Nat → Int64) × Int32) :=
  xc (q_X5_found S x1 x2) (fun e => if e = 1 then some (S, ov, 1) else none) fun v => (
    (wrL ov 1 0 ((v : Int32).toInt64)).bind fun f1 =>
    some (S, f1, 0)
  )
def q_L_targetCount (S : PS) (ov : (Nat → Int64)) (x1 : Int32) (x2 : Int32) : Option (PS × (Nat → Int64) × Int32) :=
  xc (q_X5_targetCount S x1 x2) (fun e => if e = 1 then some (S, ov, 1) else none) fun v => (
    (wrL ov 1 0 ((v : Int32).toInt64)).bind fun f1 =>
    some (S, f1, 0)
  )
def q_L_target (S : PS) (ov : (Nat → Int64)) (x1 : Int32) (x2 : Int32) (x3 : Int32) : Option (PS × (Nat → Int64) × Int32) :=
  xc (q_X5_target S x1 x2 x3) (fun e => if e = 1 then some (S, ov, 1) else if e = 4 then some (S, ov, 2) else none) fun v => (
    (wrL ov 1 0 ((v : Int32).toInt64)).bind fun f1 =>
    some (S, f1, 0)
  )
def q_L_reached (S : PS) (ov : (Nat → Int64)) (x1 : Int32) : Option (PS × (Nat → Int64) × Int32) :=
  xc (q_X5_reached S x1) (fun e => if e = 1 then some (S, ov, 1) else none) fun v => (
    (wrL ov 1 0 ((v : Int32).toInt64)).bind fun f1 =>
    some (S, f1, 0)
  )
def q_L_setLimits (S : PS) (ov : (Nat → Int64)) (x1 : Int32) (x2 : Int32) (x3 : Int32) : Option (PS × (Nat → Int64) × Int32) :=
  xc (q_X5_setLimits S x1 x2 x3) (fun e => if e = 3 then some (S, ov, 1) else none) fun (S1, v) => (
    if v = 0 then (
      (wrL ov 1 0 0).bind fun f1 =>
      some (S1, f1, 0)
    ) else (
      (wrL ov 1 0 1).bind fun f2 =>
      some (S1, f2, 0)
    )
  )
def q_L_plan (S : PS) (ov : (Nat → Int64)) (x1 : Int32) : Option (PS × (Nat → Int64) × Int32) :=
  xc (q_X5_plan S x1) (fun e => if e = 1 then some (S, ov, 1) else none) fun (S1, v) => (
    (wrL ov 1 0 ((v : Int32).toInt64)).bind fun f1 =>
    some (S1, f1, 0)
  )
def q_L_nodeCount (S : PS) (ov : (Nat → Int64))  : Option (PS × (Nat → Int64) × Int32) :=
  xc (q_X5_nodeCount S) (fun e => if e = 2 then some (S, ov, 1) else none) fun v => (
    (wrL ov 1 0 ((v : Int32).toInt64)).bind fun f1 =>
    some (S, f1, 0)
  )
def q_L_size (S : PS) (ov : (Nat → Int64))  : Option (PS × (Nat → Int64) × Int32) :=
  xc (q_X5_size S) (fun e => if e = 2 then some (S, ov, 1) else none) fun v => (
    (wrL ov 1 0 ((v : Int32).toInt64)).bind fun f1 =>
    some (S, f1, 0)
  )
def q_L_method (S : PS) (ov : (Nat → Int64)) (x1 : Int32) : Option (PS × (Nat → Int64) × Int32) :=
  xc (q_X5_method S x1) (fun e => if e = 2 then some (S, ov, 1) else if e = 1 then some (S, ov, 2) else none) fun v => (
    (wrL ov 1 0 ((v : Int32).toInt64)).bind fun f1 =>
    some (S, f1, 0)
  )
def q_L_parentNode (S : PS) (ov : (Nat → Int64)) (x1 : Int32) : Option (PS × (Nat → Int64) × Int32) :=
  xc (q_X5_parentNode S x1) (fun e => if e = 2 then some (S, ov, 1) else if e = 1 then some (S, ov, 2) else none) fun v => (
    (wrL ov 1 0 ((v : Int32).toInt64)).bind fun f1 =>
    some (S, f1, 0)
  )
def q_L_siteOf (S : PS) (ov : (Nat → Int64)) (x1 : Int32) : Option (PS × (Nat → Int64) × Int32) :=
  xc (q_X5_siteOf S x1) (fun e => if e = 2 then some (S, ov, 1) else if e = 1 then some (S, ov, 2) else none) fun v => (
    (wrL ov 1 0 ((v : Int32).toInt64)).bind fun f1 =>
    some (S, f1, 0)
  )
def q_L_depth (S : PS) (ov : (Nat → Int64)) (x1 : Int32) : Option (PS × (Nat → Int64) × Int32) :=
  xc (q_X5_depth S x1) (fun e => if e = 2 then some (S, ov, 1) else if e = 1 then some (S, ov, 2) else none) fun v => (
    (wrL ov 1 0 ((v : Int32).toInt64)).bind fun f1 =>
    some (S, f1, 0)
  )
def q_L_siteCount (S : PS) (ov : (Nat → Int64)) (x1 : Int32) : Option (PS × (Nat → Int64) × Int32) :=
  xc (q_X5_siteCount S x1) (fun e => if e = 2 then some (S, ov, 1) else if e = 1 then some (S, ov, 2) else none) fun v => (
    (wrL ov 1 0 ((v : Int32).toInt64)).bind fun f1 =>
    some (S, f1, 0)
  )
def q_L_verdict (S : PS) (ov : (Nat → Int64)) (x1 : Int32) (x2 : Int32) : Option (PS × (Nat → Int64) × Int32) :=
  xc (q_X5_verdict S x1 x2) (fun e => if e = 2 then some (S, ov, 1) else if e = 1 then some (S, ov, 2) else none) fun v => (
    (wrL ov 1 0 ((v : Int32).toInt64)).bind fun f1 =>
    some (S, f1, 0)
  )
def q_L_weight (S : PS) (ov : (Nat → Int64)) (x1 : Int32) (x2 : Int32) : Option (PS × (Nat → Int64) × Int32) :=
  xc (q_X5_weight S x1 x2) (fun e => if e = 2 then some (S, ov, 1) else if e = 1 then some (S, ov, 2) else none) fun v => (
    (wrL ov 1 0 ((v : Int32).toInt64)).bind fun f1 =>
    some (S, f1, 0)
  )
def q_L_weightOf (S : PS) (ov : (Nat → Int64)) (x1 : Int32) : Option (PS × (Nat → Int64) × Int32) :=
  xc (q_X5_weightOf S x1) (fun e => if e = 2 then some (S, ov, 1) else if e = 1 then some (S, ov, 2) else none) fun v => (
    (wrL ov 1 0 v).bind fun f1 =>
    some (S, f1, 0)
  )
def q_L_share (S : PS) (ov : (Nat → UInt64))  : Option (PS × (Nat → UInt64) × Int32) :=
  xc (q_X5_share S) (fun e => if e = 2 then some (S, ov, 1) else none) fun v => (
    (wrD ov 1 0 v).bind fun f1 =>
    some (S, f1, 0)
  )
def q_L_holds (S : PS) (ov : (Nat → Int64)) (x1 : Int32) : Option (PS × (Nat → Int64) × Int32) :=
  xc (q_X5_holds S x1) (fun e => if e = 2 then some (S, ov, 1) else if e = 1 then some (S, ov, 2) else none) fun v => (
    if v = 0 then (
      (wrL ov 1 0 0).bind fun f1 =>
      some (S, f1, 0)
    ) else (
      (wrL ov 1 0 1).bind fun f2 =>
      some (S, f2, 0)
    )
  )
def q_L_firstBroken (S : PS) (ov : (Nat → Int64))  : Option (PS × (Nat → Int64) × Int32) :=
  xc (q_X5_firstBroken S) (fun e => if e = 2 then some (S, ov, 1) else none) fun v => (
    (wrL ov 1 0 ((v : Int32).toInt64)).bind fun f1 =>
    some (S, f1, 0)
  )
def q_L_prune (S : PS) (ov : (Nat → Int64))  : Option (PS × (Nat → Int64) × Int32) :=
  xc (q_X5_prune S) (fun e => if e = 2 then some (S, ov, 1) else none) fun (S1, v) => (
    (wrL ov 1 0 ((v : Int32).toInt64)).bind fun f1 =>
    some (S1, f1, 0)
  )
