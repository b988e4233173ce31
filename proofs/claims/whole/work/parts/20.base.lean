/-! pure states: numbers and rows; loops with fuel; what a step of a pure program says -/
abbrev PS : Type := (Nat → Int32) × (Nat → Nat → Int32)
def sN (S : PS) (k : Nat) (v : Int32) : PS := (va_up S.1 k v, S.2)
def sA (S : PS) (k : Nat) (f : Nat → Int32) : PS := (S.1, va_up S.2 k f)
def inb (i : Int32) (n : Nat) : Bool := !(decide (i < 0) || decide (n ≤ i.toNatClampNeg))
def rd {α : Type} (f : Nat → α) (n : Nat) (i : Int32) : Option α := if inb i n = true then some (f i.toNatClampNeg) else none
def wr (f : Nat → Int32) (n : Nat) (i x : Int32) : Option (Nat → Int32) := if inb i n = true then some (upd f i.toNatClampNeg x) else none
def wrZ (f : Nat → Int32) (n : Nat) (i x : Int32) : Option (Nat → Int32) := if inb i n = true then some (upd f i.toNatClampNeg (vp_nar .boolean x)) else none
def wrL (f : Nat → Int64) (n : Nat) (i : Int32) (x : Int64) : Option (Nat → Int64) := if inb i n = true then some (vp_updL f i.toNatClampNeg x) else none
def wrD (f : Nat → UInt64) (n : Nat) (i : Int32) (x : UInt64) : Option (Nat → UInt64) := if inb i n = true then some (vf_upd f i.toNatClampNeg x) else none
/-- a number of the state, a place of a row of the state -/
def wN (S : PS) (k : Nat) (v : Int32) : Option PS := some (sN S k v)
def wA (S : PS) (k n : Nat) (i x : Int32) : Option PS := (wr (S.2 k) n i x).map (sA S k)
def wZ (S : PS) (k n : Nat) (i x : Int32) : Option PS := (wrZ (S.2 k) n i x).map (sA S k)
/-- a number that is a truth value -/
def zg (x : Int32) : Option Int32 := if x = 0 ∨ x = 1 then some x else none
/-- a divisor that isn't 0 -/
def nz (x : Int32) : Option Unit := if x = 0 then none else some ()
def iter1 {a z : Type} (f : (a → Option z) → a → Option z) : Nat → a → Option z
  | 0, _ => none
  | n + 1, x => f (iter1 f n) x
def iter2 {a b z : Type} (f : (a → b → Option z) → a → b → Option z) : Nat → a → b → Option z
  | 0, _, _ => none
  | n + 1, x, y => f (iter2 f n) x y
def iter3 {a b c z : Type} (f : (a → b → c → Option z) → a → b → c → Option z) : Nat → a → b → c → Option z
  | 0, _, _, _ => none
  | n + 1, x, y, u => f (iter3 f n) x y u
def iter4 {a b c d z : Type} (f : (a → b → c → d → Option z) → a → b → c → d → Option z) : Nat → a → b → c → d → Option z
  | 0, _, _, _, _ => none
  | n + 1, x, y, u, v => f (iter4 f n) x y u v
def iter5 {a b c d g z : Type} (f : (a → b → c → d → g → Option z) → a → b → c → d → g → Option z) : Nat → a → b → c → d → g → Option z
  | 0, _, _, _, _, _ => none
  | n + 1, x, y, u, v, w => f (iter5 f n) x y u v w
def iter6 {a b c d g h z : Type} (f : (a → b → c → d → g → h → Option z) → a → b → c → d → g → h → Option z) : Nat → a → b → c → d → g → h → Option z
  | 0, _, _, _, _, _, _ => none
  | n + 1, x, y, u, v, w, t => f (iter6 f n) x y u v w t
/-- a callee that may throw: what it throws goes on -/
def xb {a b : Type} (o : Option (Nat ⊕ a)) (k : a → Option (Nat ⊕ b)) : Option (Nat ⊕ b) := match o with
  | none => none
  | some (.inl e) => some (.inl e)
  | some (.inr v) => k v
theorem o_bind {a b : Type} {o : Option a} {k : a → Option b} {x : b} (h : o.bind k = some x) : ∃ v, o = some v ∧ k v = some x := by
  cases o with
  | none => cases h
  | some v => exact ⟨v, rfl, h⟩
theorem x_bind {a b : Type} {o : Option (Nat ⊕ a)} {k : a → Option (Nat ⊕ b)} {x : Nat ⊕ b} (h : xb o k = some x) : (∃ e, o = some (.inl e) ∧ .inl e = x) ∨ ∃ v, o = some (.inr v) ∧ k v = some x := by
  cases o with
  | none => cases h
  | some v => cases v with
    | inl e => exact Or.inl ⟨e, rfl, Option.some.inj h⟩
    | inr v => exact Or.inr ⟨v, rfl, h⟩
theorem o_pos {b : Type} {c : Prop} [Decidable c] {p q : Option b} {x : b} (hc : c) (h : (if c then p else q) = some x) : p = some x := by rw [if_pos hc] at h; exact h
theorem o_neg {b : Type} {c : Prop} [Decidable c] {p q : Option b} {x : b} (hc : ¬ c) (h : (if c then p else q) = some x) : q = some x := by rw [if_neg hc] at h; exact h
theorem inb_spec {i : Int32} {n : Nat} (h : inb i n = true) : vp_in i n := by
  unfold inb at h
  unfold vp_in
  intro h2
  simp only [Bool.not_eq_true', Bool.or_eq_false_iff, decide_eq_false_iff_not] at h
  rcases h2 with h2 | h2
  · exact h.1 h2
  · exact h.2 h2
theorem rd_spec {α : Type} {f : Nat → α} {n : Nat} {i : Int32} {v : α} (h : rd f n i = some v) : vp_in i n ∧ f i.toNatClampNeg = v := by
  unfold rd at h
  split at h
  · rename_i h1; exact ⟨inb_spec h1, Option.some.inj h⟩
  · cases h
theorem wr_spec {f g : Nat → Int32} {n : Nat} {i x : Int32} (h : wr f n i x = some g) : vp_in i n ∧ upd f i.toNatClampNeg x = g := by
  unfold wr at h
  split at h
  · rename_i h1; exact ⟨inb_spec h1, Option.some.inj h⟩
  · cases h
theorem wrZ_spec {f g : Nat → Int32} {n : Nat} {i x : Int32} (h : wrZ f n i x = some g) : vp_in i n ∧ upd f i.toNatClampNeg (vp_nar .boolean x) = g := by
  unfold wrZ at h
  split at h
  · rename_i h1; exact ⟨inb_spec h1, Option.some.inj h⟩
  · cases h
theorem wrL_spec {f g : Nat → Int64} {n : Nat} {i : Int32} {x : Int64} (h : wrL f n i x = some g) : vp_in i n ∧ vp_updL f i.toNatClampNeg x = g := by
  unfold wrL at h
  split at h
  · rename_i h1; exact ⟨inb_spec h1, Option.some.inj h⟩
  · cases h
theorem wrD_spec {f g : Nat → UInt64} {n : Nat} {i : Int32} {x : UInt64} (h : wrD f n i x = some g) : vp_in i n ∧ vf_upd f i.toNatClampNeg x = g := by
  unfold wrD at h
  split at h
  · rename_i h1; exact ⟨inb_spec h1, Option.some.inj h⟩
  · cases h
theorem wA_spec {S S1 : PS} {k n : Nat} {i x : Int32} (h : wA S k n i x = some S1) : vp_in i n ∧ sA S k (upd (S.2 k) i.toNatClampNeg x) = S1 := by
  unfold wA at h
  cases hw : wr (S.2 k) n i x with
  | none => rw [hw] at h; cases h
  | some g =>
    rw [hw] at h
    obtain ⟨h1, h2⟩ := wr_spec hw
    exact ⟨h1, by rw [h2]; exact Option.some.inj h⟩
theorem wZ_spec {S S1 : PS} {k n : Nat} {i x : Int32} (h : wZ S k n i x = some S1) : vp_in i n ∧ sA S k (upd (S.2 k) i.toNatClampNeg (vp_nar .boolean x)) = S1 := by
  unfold wZ at h
  cases hw : wrZ (S.2 k) n i x with
  | none => rw [hw] at h; cases h
  | some g =>
    rw [hw] at h
    obtain ⟨h1, h2⟩ := wrZ_spec hw
    exact ⟨h1, by rw [h2]; exact Option.some.inj h⟩
theorem zg_spec {x y : Int32} (h : zg x = some y) : narrow .boolean (.int x) = .int x ∧ x = y := by
  unfold zg at h
  split at h
  · rename_i h1
    refine ⟨?_, Option.some.inj h⟩
    rcases h1 with rfl | rfl <;> rfl
  · cases h
theorem nz_spec {x : Int32} {u : Unit} (h : nz x = some u) : ¬ x = 0 := by
  unfold nz at h
  split at h
  · cases h
  · rename_i h1; exact h1
/-! the worlds -/
/-- the kinds of throw: 1 a wrong index, 2 a wrong state, 3 a wrong argument, 4 no such element -/
def exN (k : Nat) : String := if k = 1 then "java/lang/IndexOutOfBoundsException" else if k = 2 then "java/lang/IllegalStateException" else if k = 3 then "java/lang/IllegalArgumentException" else "java/util/NoSuchElementException"
def nwOk : Cond → Bool
  | .declares _ => true
  | .castable .. => true
  | .methodLinkNest .. => true
  | _ => false
theorem nw_warm {w : Cond} (h : nwOk w = true) {s U : State} (hW : s.WarmedH U.vm) (hZ : va_Nw w s) : va_Nw w U := by
  cases w <;> first | exact va_Nw.warmM hW hZ | exact va_Nw.warmD hW hZ | exact va_Nw.warmC hW hZ | (simp [nwOk] at h)
theorem nw_same {w : Cond} (h : nwOk w = true) {u U : State} (hv : u.vm = U.vm) (hZ : va_Nw w u) : va_Nw w U := va_Nw.same (by cases w <;> first | rfl | (simp [nwOk] at h)) hv hZ
/-- what the class needs of the machine beside its words: two statics of Throwable's, its texts, links among nest mates -/
def gE (xstr : List (Nat × String)) (xnon : List Cond) (A : Nat → Prop) (U : State) : Prop :=
  vx_Zq Bundle.tN "UNASSIGNED_STACK" Bundle.steD A U U.heap ∧ vx_Zq Bundle.tN "SUPPRESSED_SENTINEL" Bundle.listD A U U.heap ∧ (∀ q ∈ xstr, ∃ sa, vk_R RX5 q.1 q.2 sa U) ∧ (∀ w ∈ xnon, va_Nw w U) ∧ ∀ j k : Nat, j ∈ [1, 2, 3, 4] → k ∈ [1, 2, 3, 4] → j ≠ k → va_Nc (exN j) (exN k) U
theorem gE.to {xs : List (Nat × String)} {xn : List Cond} (hxn : xn.all nwOk = true) {A B : Nat → Prop} {s U : State} {H : Heap} {locs : List Loc} (h : gE xs xn A s) (hS : va_S A s.heap H locs) (hAB : ∀ q, B q → A q) (hU : U.heap = H) (hW : s.WarmedH U.vm) : gE xs xn B U := by
  obtain ⟨h1, h2, h3, h4, h5⟩ := h
  refine ⟨?_, ?_, fun q hq => ?_, fun w hw => nw_warm (List.all_eq_true.mp hxn w hw) hW (h4 w hw), fun j k hj hk hjk => va_Nc.moved hW.alike (h5 j k hj hk hjk)⟩
  · rw [hU]; exact vx_Zq.moved hW.alike ((h1.kept hS.2.1).narrow hAB)
  · rw [hU]; exact vx_Zq.moved hW.alike ((h2.kept hS.2.1).narrow hAB)
  · obtain ⟨sa, h⟩ := h3 q hq
    exact ⟨sa, vk_R.warm hW h⟩
theorem gE.blind {xs : List (Nat × String)} {xn : List Cond} (hxn : xn.all nwOk = true) {A : Nat → Prop} {U : State} (g : JFrame) (mk : MethodId) (a : Array Value) (h : gE xs xn A U) : gE xs xn A (U.calling g mk a) := by
  obtain ⟨h1, h2, h3, h4, h5⟩ := h
  refine ⟨vx_Zq.moved (u := U) (U := U.calling g mk a) (Vm.Alike.refl U.vm) h1, vx_Zq.moved (u := U) (U := U.calling g mk a) (Vm.Alike.refl U.vm) h2, fun q hq => ?_, fun w hw => nw_same (u := U) (U := U.calling g mk a) (List.all_eq_true.mp hxn w hw) rfl (h4 w hw), fun j k hj hk hjk => va_Nc.moved (u := U) (U := U.calling g mk a) (Vm.Alike.refl U.vm) (h5 j k hj hk hjk)⟩
  obtain ⟨sa, h⟩ := h3 q hq
  exact ⟨sa, vk_R.same (u := U) (U := U.calling g mk a) rfl h⟩
def xstr : List (Nat × String) := [(100, "the method has 8 sites"), (126, "there is no such target"), (132, "the budget is not 1 to 5000"), (134, "the depth is not 0 to 10"), (136, "the recursion is not 0 to 5"), (187, "the verdict is not 0 to 7"), (213, "there is no such class"), (215, "there is no such selector"), (217, "there is no such method"), (219, "there is no plan"), (221, "there is no such node"), (223, "there is no such site"), (51, "there are 16 classes"), (77, "the size is not 1 to 100"), (83, "the class has a method for this selector"), (86, "there are 30 methods"), (95, "the frequency is not 1 to 20")]
def xnon : List Cond := [.methodLinkNest RX5 27 yX1_init RX5, .methodLinkNest RX0 26 yX5_mix RX5, .methodLinkNest RX1 19 yX5_mix RX5, .methodLinkNest RX2 38 yX5_slot RX5, .methodLinkNest RX3 148 yX5_mix RX5, .methodLinkNest RX3 35 yX4_init RX5, .methodLinkNest RX3 89 yX5_slot RX5, .declares (Bundle.initS "java/lang/RuntimeException"), .declares (Bundle.initS "java/lang/Exception"), .declares (Bundle.initS Bundle.tN), .castable "java/lang/IndexOutOfBoundsException" "java/lang/IndexOutOfBoundsException", .castable "java/lang/IllegalStateException" "java/lang/IllegalStateException", .castable "java/lang/IllegalArgumentException" "java/lang/IllegalArgumentException", .castable "java/util/NoSuchElementException" "java/util/NoSuchElementException"]
theorem xnon_ok : xnon.all nwOk = true := by decide +kernel
abbrev gX (A : Nat → Prop) (U : State) : Prop := gE xstr xnon A U
def gPre (D : va_G) (tys : List (ClassId × FieldType)) (sz : Nat) (Wd : va_W) (U : State) : Prop := U.heap.size = sz ∧ va_P D vwCl Wd U.heap ∧ va_K D vwCl tys U ∧ va_D (fun _ => True) Wd ∧ gX (va_A Wd sz) U
def gPost (D : va_G) (tys : List (ClassId × FieldType)) (A : Nat → Prop) (Wd : va_W) (t : State) : Prop := va_P D vwCl Wd t.heap ∧ va_K D vwCl tys t ∧ va_D A Wd
theorem gPre.blind {D : va_G} {tys : List (ClassId × FieldType)} {sz : Nat} {Wd : va_W} (av : List Value) : FrameBlind (va_Pc av (gPre D tys sz Wd)) := by
  intro a U g mk h
  obtain ⟨h0, h1, h2, h3, h4, h5⟩ := h
  exact ⟨h0, h1, h2, va_K.moved (u := U) (U := U.calling g mk a) (Vm.Alike.refl U.vm) h3, h4, gE.blind xnon_ok g mk a h5⟩
theorem gFree {A : Nat → Prop} {Wd : va_W} {H0 H : Heap} {locs : List Loc} (hD : va_D A Wd) (hS : va_S A H0 H locs) (hA : ∀ q, H0.size ≤ q → A q) : ∀ q, va_A Wd H.size q → A q := by
  intro q h
  rcases h with ⟨k, e, h⟩ | h
  · exact hD.2 k (q, e) h
  · exact hA q (Nat.le_trans hS.1 h)
theorem gPre.to {D : va_G} {tys : List (ClassId × FieldType)} {Wd : va_W} {A : Nat → Prop} {s : State} {H : Heap} {locs : List Loc} {av : List Value} (hP : va_P D vwCl Wd H) (hK : va_K D vwCl tys s) (hD : va_D A Wd) (hS : va_S A s.heap H locs) (hA : ∀ q, s.heap.size ≤ q → A q) (hE : gX A s) : ∀ U : State, U.heap = H → s.WarmedH U.vm → va_Pc av (gPre D tys H.size Wd) av.toArray U := by
  intro U hU hW
  exact ⟨rfl, by rw [hU], by rw [hU]; exact hP, va_K.moved hW.alike hK, hD.weaken (fun _ _ _ _ => trivial), hE.to xnon_ok hS (gFree hD hS hA) hU hW⟩
/-- the throw's side of a contract: o says which kind -/
abbrev gXX {a : Type} (o : Nat ⊕ a) (D : va_G) (tys : List (ClassId × FieldType)) (Wd : va_W) (A : Nat → Prop) : String → State → State → Prop := vx_X (fun k : Nat => o = .inl k) (fun E k t => E = exN k ∧ gPost D tys A Wd t) A
abbrev gMi (l : Launch) (y : MethodName) (ws : List Cond) (rm : Room) (mc ms : Nat) (D : va_G) (tys : List (ClassId × FieldType)) (av : List Value) (sz : Nat) (Wd : va_W) (Wd' : va_W) (v : Int32) : Prop :=
  Met l y ws rm (va_Pc av (gPre D tys sz Wd)) (va_Qi (fun r (_ : Unit) => v = r) (fun _ t => gPost D tys (va_A Wd sz) Wd' t) (va_A Wd sz)) mc ms (va_A Wd sz)
/-- reads, or throws -/
abbrev gYi (l : Launch) (y : MethodName) (ws : List Cond) (rm : Room) (mc ms : Nat) (D : va_G) (tys : List (ClassId × FieldType)) (av : List Value) (sz : Nat) (Wd : va_W) (o : Nat ⊕ Int32) : Prop :=
  vx_Met l y ws rm (va_Pc av (gPre D tys sz Wd)) (va_Qi (fun r (_ : Unit) => o = .inr r) (fun _ t => gPost D tys (va_A Wd sz) Wd t) (va_A Wd sz)) (gXX o D tys Wd (va_A Wd sz)) mc ms (va_A Wd sz)
/-- writes, or throws -/
abbrev gXi (l : Launch) (y : MethodName) (ws : List Cond) (rm : Room) (mc ms : Nat) (D : va_G) (tys : List (ClassId × FieldType)) (av : List Value) (sz : Nat) (Wd : va_W) (Wf : PS → va_W) (o : Nat ⊕ (PS × Int32)) : Prop :=
  vx_Met l y ws rm (va_Pc av (gPre D tys sz Wd)) (va_Qi (fun r (u : PS) => o = .inr (u, r)) (fun u t => gPost D tys (va_A Wd sz) (Wf u) t) (va_A Wd sz)) (gXX o D tys Wd (va_A Wd sz)) mc ms (va_A Wd sz)
abbrev gMl (l : Launch) (y : MethodName) (ws : List Cond) (rm : Room) (mc ms : Nat) (D : va_G) (tys : List (ClassId × FieldType)) (av : List Value) (sz : Nat) (Wd : va_W) (Wd' : va_W) (v : Int64) : Prop :=
  Met l y ws rm (va_Pc av (gPre D tys sz Wd)) (va_Ql (fun r (_ : Unit) => v = r) (fun _ t => gPost D tys (va_A Wd sz) Wd' t) (va_A Wd sz)) mc ms (va_A Wd sz)
/-- reads, or throws -/
abbrev gYl (l : Launch) (y : MethodName) (ws : List Cond) (rm : Room) (mc ms : Nat) (D : va_G) (tys : List (ClassId × FieldType)) (av : List Value) (sz : Nat) (Wd : va_W) (o : Nat ⊕ Int64) : Prop :=
  vx_Met l y ws rm (va_Pc av (gPre D tys sz Wd)) (va_Ql (fun r (_ : Unit) => o = .inr r) (fun _ t => gPost D tys (va_A Wd sz) Wd t) (va_A Wd sz)) (gXX o D tys Wd (va_A Wd sz)) mc ms (va_A Wd sz)
/-- writes, or throws -/
abbrev gXl (l : Launch) (y : MethodName) (ws : List Cond) (rm : Room) (mc ms : Nat) (D : va_G) (tys : List (ClassId × FieldType)) (av : List Value) (sz : Nat) (Wd : va_W) (Wf : PS → va_W) (o : Nat ⊕ (PS × Int64)) : Prop :=
  vx_Met l y ws rm (va_Pc av (gPre D tys sz Wd)) (va_Ql (fun r (u : PS) => o = .inr (u, r)) (fun u t => gPost D tys (va_A Wd sz) (Wf u) t) (va_A Wd sz)) (gXX o D tys Wd (va_A Wd sz)) mc ms (va_A Wd sz)
abbrev gMd (l : Launch) (y : MethodName) (ws : List Cond) (rm : Room) (mc ms : Nat) (D : va_G) (tys : List (ClassId × FieldType)) (av : List Value) (sz : Nat) (Wd : va_W) (Wd' : va_W) (v : UInt64) : Prop :=
  Met l y ws rm (va_Pc av (gPre D tys sz Wd)) (va_Qd (fun r (_ : Unit) => v = r) (fun _ t => gPost D tys (va_A Wd sz) Wd' t) (va_A Wd sz)) mc ms (va_A Wd sz)
/-- reads, or throws -/
abbrev gYd (l : Launch) (y : MethodName) (ws : List Cond) (rm : Room) (mc ms : Nat) (D : va_G) (tys : List (ClassId × FieldType)) (av : List Value) (sz : Nat) (Wd : va_W) (o : Nat ⊕ UInt64) : Prop :=
  vx_Met l y ws rm (va_Pc av (gPre D tys sz Wd)) (va_Qd (fun r (_ : Unit) => o = .inr r) (fun _ t => gPost D tys (va_A Wd sz) Wd t) (va_A Wd sz)) (gXX o D tys Wd (va_A Wd sz)) mc ms (va_A Wd sz)
/-- writes, or throws -/
abbrev gXd (l : Launch) (y : MethodName) (ws : List Cond) (rm : Room) (mc ms : Nat) (D : va_G) (tys : List (ClassId × FieldType)) (av : List Value) (sz : Nat) (Wd : va_W) (Wf : PS → va_W) (o : Nat ⊕ (PS × UInt64)) : Prop :=
  vx_Met l y ws rm (va_Pc av (gPre D tys sz Wd)) (va_Qd (fun r (u : PS) => o = .inr (u, r)) (fun u t => gPost D tys (va_A Wd sz) (Wf u) t) (va_A Wd sz)) (gXX o D tys Wd (va_A Wd sz)) mc ms (va_A Wd sz)
abbrev gMv (l : Launch) (y : MethodName) (ws : List Cond) (rm : Room) (mc ms : Nat) (D : va_G) (tys : List (ClassId × FieldType)) (av : List Value) (sz : Nat) (Wd : va_W) (Wd' : va_W) : Prop :=
  Met l y ws rm (va_Pc av (gPre D tys sz Wd)) (va_Qv (fun (_ : Unit) => True) (fun _ t => gPost D tys (va_A Wd sz) Wd' t) (va_A Wd sz)) mc ms (va_A Wd sz)
abbrev gYv (l : Launch) (y : MethodName) (ws : List Cond) (rm : Room) (mc ms : Nat) (D : va_G) (tys : List (ClassId × FieldType)) (av : List Value) (sz : Nat) (Wd : va_W) (o : Nat ⊕ Unit) : Prop :=
  vx_Met l y ws rm (va_Pc av (gPre D tys sz Wd)) (va_Qv (fun (_ : Unit) => o = .inr ()) (fun _ t => gPost D tys (va_A Wd sz) Wd t) (va_A Wd sz)) (gXX o D tys Wd (va_A Wd sz)) mc ms (va_A Wd sz)
theorem it1_0 {a z : Type} {f : (a → Option z) → a → Option z} {x : a} {r : z} (h : iter1 f 0 x = some r) : False := by simp [iter1] at h
theorem it2_0 {a b z : Type} {f : (a → b → Option z) → a → b → Option z} {x : a} {y : b} {r : z} (h : iter2 f 0 x y = some r) : False := by simp [iter2] at h
theorem it3_0 {a b c z : Type} {f : (a → b → c → Option z) → a → b → c → Option z} {x : a} {y : b} {u : c} {r : z} (h : iter3 f 0 x y u = some r) : False := by simp [iter3] at h
theorem it4_0 {a b c d z : Type} {f : (a → b → c → d → Option z) → a → b → c → d → Option z} {x : a} {y : b} {u : c} {v : d} {r : z} (h : iter4 f 0 x y u v = some r) : False := by simp [iter4] at h
theorem it5_0 {a b c d g z : Type} {f : (a → b → c → d → g → Option z) → a → b → c → d → g → Option z} {x : a} {y : b} {u : c} {v : d} {w : g} {r : z} (h : iter5 f 0 x y u v w = some r) : False := by simp [iter5] at h
theorem it6_0 {a b c d g h z : Type} {f : (a → b → c → d → g → h → Option z) → a → b → c → d → g → h → Option z} {x : a} {y : b} {u : c} {v : d} {w : g} {t : h} {r : z} (h : iter6 f 0 x y u v w t = some r) : False := by simp [iter6] at h
/-- a quotient of doubles that is a number -/
def ndiv (x y : UInt64) : Option Unit := if FP.ddiv x y &&& 0x7fffffffffffffff ≤ 0x7ff0000000000000 then some () else none
theorem ndiv_spec {x y : UInt64} {u : Unit} (h : ndiv x y = some u) : vf_n64 (FP.ddiv x y) := by
  unfold ndiv at h
  split at h
  · rename_i h1; exact h1
  · cases h
