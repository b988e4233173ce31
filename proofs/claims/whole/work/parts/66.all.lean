/-! all that the planner and the reference have in common -/
def nn (M : PS) : Nat := nv (M.1 7)
def nd (M : PS) (i : Nat) : Nat := nv (M.2 7 i)
def np (M : PS) (i : Nat) : Nat := nv (M.2 8 i)
def ns (M : PS) (i : Nat) : Nat := nv (M.2 9 i)
def dp (M : PS) (i : Nat) : Nat := nv (M.2 10 i)
/-- how many sites a node has -/
def sn (M : PS) (i : Nat) : Nat := si M (nd M i)
/-- a node's numbers -/
def Wn (M : PS) (i : Nat) : Prop := M.2 7 i = nI (nd M i) ∧ nd M i < nm M ∧ M.2 10 i = nI (dp M i) ∧ dp M i ≤ 10 ∧ (i = 0 → M.2 8 i = -1 ∧ M.2 9 i = -1) ∧ (0 < i → M.2 8 i = nI (np M i) ∧ np M i < i ∧ M.2 9 i = nI (ns M i) ∧ ns M i < sn M (np M i) ∧ dp M i = dp M (np M i) + 1)
/-- a site's weight, its verdict -/
def Ww (M : PS) (t : Nat) : Prop := ∃ w, 1 ≤ w ∧ w ≤ 1000000 ∧ M.2 13 t = nI w
def Wv (M : PS) (t : Nat) : Prop := ∃ v, v ≤ 7 ∧ M.2 12 t = nI v
/-- the plan is in order -/
def WP (M : PS) : Prop := M.1 7 = nI (nn M) ∧ 1 ≤ nn M ∧ nn M ≤ 50 ∧ (∀ i, i < nn M → Wn M i) ∧ ∀ i k, i < nn M → k < sn M i → Ww M (8 * i + k) ∧ Wv M (8 * i + k)
/-- the planner has the same node, the same site -/
def SPn (S M : PS) (i : Nat) : Prop := S.2 9 i = M.2 7 i ∧ S.2 10 i = M.2 8 i ∧ S.2 11 i = M.2 9 i ∧ S.2 12 i = M.2 10 i
def SPv (S M : PS) (t : Nat) : Prop := S.2 13 t = M.2 12 t ∧ S.2 14 t = M.2 13 t
/-- the size of the nodes before i -/
def szF (M : PS) : Nat → Nat
  | 0 => 0
  | i + 1 => szF M i + zs M (nd M i)
def SP (S M : PS) : Prop := S.1 5 = M.1 7 ∧ (∀ i, i < nn M → SPn S M i) ∧ (∀ i k, i < nn M → k < sn M i → SPv S M (8 * i + k)) ∧ S.1 6 = nI (szF M (nn M))
/-- the limits -/
def WL (S M : PS) : Prop := (∃ b, 1 ≤ b ∧ b ≤ 5000 ∧ M.1 3 = nI b) ∧ (∃ d, d ≤ 10 ∧ M.1 4 = nI d) ∧ (∃ r, r ≤ 5 ∧ M.1 5 = nI r) ∧ S.1 2 = M.1 3 ∧ S.1 3 = M.1 4 ∧ S.1 4 = M.1 5
def PL (S M : PS) : Prop := (M.1 6 = 0 ∧ S.1 5 = 0) ∨ (M.1 6 = 1 ∧ WP M ∧ SP S M)
def INV (S M : PS) : Prop := WC M ∧ WM M ∧ SC S M ∧ SM S M ∧ WL S M ∧ PL S M ∧ S.1 7 = 0
theorem szF_cg {M M' : PS} : ∀ n, (∀ i, i < n → zs M' (nd M' i) = zs M (nd M i)) → szF M' n = szF M n := by
  intro n
  induction n with
  | zero => intro _; rfl
  | succ n ih => intro h; show szF M' n + zs M' (nd M' n) = szF M n + zs M (nd M n); rw [ih (fun i hi => h i (by omega)), h n (by omega)]
theorem szF_le {M : PS} (hM : WM M) : ∀ n, (∀ i, i < n → nd M i < nm M) → szF M n ≤ 100 * n := by
  intro n
  induction n with
  | zero => intro _; exact Nat.le_refl _
  | succ n ih =>
    intro h
    show szF M n + zs M (nd M n) ≤ 100 * (n + 1)
    have := ih (fun i hi => h i (by omega))
    have h2 := (hM.2.2.1 _ (h n (by omega))).2.2.2.2.2.2.1
    omega
theorem PL_cg {S S' M M' : PS} (h6 : M'.1 6 = M.1 6) (h7 : M'.1 7 = M.1 7) (hr : ∀ k, k = 7 ∨ k = 8 ∨ k = 9 ∨ k = 10 ∨ k = 12 ∨ k = 13 → M'.2 k = M.2 k) (hm : nm M ≤ nm M') (hz : ∀ m, m < nm M → si M' m = si M m ∧ zs M' m = zs M m) (s5 : S'.1 5 = S.1 5) (s6 : S'.1 6 = S.1 6) (sr : ∀ k, 9 ≤ k → k ≤ 14 → S'.2 k = S.2 k) (h : PL S M) : PL S' M' := by
  rcases h with ⟨h1, h2⟩ | ⟨h1, h2, h3⟩
  · exact Or.inl ⟨by rw [h6, h1], by rw [s5, h2]⟩
  · right
    have en : nn M' = nn M := by unfold nn; rw [h7]
    have ed : ∀ i, nd M' i = nd M i := fun i => by unfold nd; rw [hr 7 (by simp)]
    have ep : ∀ i, np M' i = np M i := fun i => by unfold np; rw [hr 8 (by simp)]
    have es : ∀ i, ns M' i = ns M i := fun i => by unfold ns; rw [hr 9 (by simp)]
    have edp : ∀ i, dp M' i = dp M i := fun i => by unfold dp; rw [hr 10 (by simp)]
    have esn : ∀ i, i < nn M → sn M' i = sn M i := fun i hi => by unfold sn; rw [ed]; exact (hz _ (h2.2.2.2.1 i hi).2.1).1
    refine ⟨by rw [h6, h1], ?_, ?_⟩
    · refine ⟨by rw [en, h7]; exact h2.1, by rw [en]; exact h2.2.1, by rw [en]; exact h2.2.2.1, fun i hi => ?_, fun i k hi hk => ?_⟩
      · rw [en] at hi
        obtain ⟨a1, a2, a3, a4, a5, a6⟩ := h2.2.2.2.1 i hi
        unfold Wn
        rw [ed, ep, es, edp, edp, hr 7 (by simp), hr 8 (by simp), hr 9 (by simp), hr 10 (by simp)]
        refine ⟨a1, by omega, a3, a4, a5, fun h0 => ?_⟩
        obtain ⟨b1, b2, b3, b4, b5⟩ := a6 h0
        rw [esn _ (by omega)]
        exact ⟨b1, b2, b3, b4, b5⟩
      · rw [en] at hi
        rw [esn i hi] at hk
        unfold Ww Wv
        rw [hr 12 (by simp), hr 13 (by simp)]
        exact h2.2.2.2.2 i k hi hk
    · refine ⟨by rw [s5, h7]; exact h3.1, fun i hi => ?_, fun i k hi hk => ?_, ?_⟩
      · rw [en] at hi
        unfold SPn
        rw [hr 7 (by simp), hr 8 (by simp), hr 9 (by simp), hr 10 (by simp), sr 9 (by decide) (by decide), sr 10 (by decide) (by decide), sr 11 (by decide) (by decide), sr 12 (by decide) (by decide)]
        exact h3.2.1 i hi
      · rw [en] at hi
        rw [esn i hi] at hk
        unfold SPv
        rw [hr 12 (by simp), hr 13 (by simp), sr 13 (by decide) (by decide), sr 14 (by decide) (by decide)]
        exact h3.2.2.1 i k hi hk
      · rw [s6, en, szF_cg (M := M) (M' := M') _ (fun i hi => by rw [ed]; exact (hz _ (h2.2.2.2.1 i hi).2.1).2)]
        exact h3.2.2.2
/-- thrown or not: the rest stays -/
theorem inv_thr {S M : PS} (v : Int32) (h : INV S M) : INV S (sN M 0 v) := by
  obtain ⟨h1, h2, h3, h4, h5, h6, h7⟩ := h
  have hc := core_sN M (k := 0) v (by decide) (by decide)
  exact ⟨(core_eq hc).2.2.2.2.2.2.1 h1, (core_eq hc).2.2.2.2.2.2.2 h2, SC_core hc rfl h3, SM_core hc rfl h4, h5, PL_cg (S := S) (M := M) rfl rfl (fun _ _ => rfl) (Nat.le_refl _) (fun _ _ => ⟨rfl, rfl⟩) rfl rfl (fun _ _ _ => rfl) h6, h7⟩
/-! what the law compares -/
def opI (cl : Option (PS × (Nat → Int64) × Int32)) (re : Option (PS × Int32)) : Prop := ∃ S' o c M' r, cl = some (S', o, c) ∧ re = some (M', r) ∧ M'.1 0 = c ∧ (c = 0 → o 0 = (r : Int32).toInt64) ∧ INV S' M'
/-- the same, of a truth value -/
def opZ (cl : Option (PS × (Nat → Int64) × Int32)) (re : Option (PS × Int32)) : Prop := ∃ S' o c M' r, cl = some (S', o, c) ∧ re = some (M', r) ∧ M'.1 0 = c ∧ (r = 0 ∨ r = 1) ∧ (c = 0 → o 0 = (r : Int32).toInt64) ∧ INV S' M'
theorem wrL_0 (ov : Nat → Int64) (x : Int64) : ∃ f, wrL ov 1 0 x = some f ∧ f 0 = x := ⟨vp_updL ov 0 x, rfl, rfl⟩
theorem wrD_0 (ov : Nat → UInt64) (x : UInt64) : ∃ f, wrD ov 1 0 x = some f ∧ f 0 = x := ⟨vf_upd ov 0 x, rfl, rfl⟩
/-- thrown alike -/
theorem opI_thr {S M : PS} {ov : Nat → Int64} {e r : Int32} (he : e ≠ 0) (h : INV S M) : opI (some (S, ov, e)) (some (sN M 0 e, r)) := ⟨S, ov, e, _, r, rfl, rfl, rfl, fun h0 => absurd h0 he, inv_thr e h⟩
theorem opZ_thr {S M : PS} {ov : Nat → Int64} {e r : Int32} (he : e ≠ 0) (hr : r = 0 ∨ r = 1) (h : INV S M) : opZ (some (S, ov, e)) (some (sN M 0 e, r)) := ⟨S, ov, e, _, r, rfl, rfl, rfl, hr, fun h0 => absurd h0 he, inv_thr e h⟩
/-- an answer, and nothing changed -/
theorem opI_ok {S M : PS} {ov : Nat → Int64} {r : Int32} (h : INV S (sN M 0 0)) : opI ((wrL ov 1 0 (r.toInt64)).bind fun f1 => some (S, f1, 0)) (some (sN M 0 0, r)) := by
  obtain ⟨f, h1, h2⟩ := wrL_0 ov r.toInt64
  rw [h1, ob_some]
  exact ⟨S, f, 0, _, r, rfl, rfl, rfl, fun _ => h2, h⟩
theorem opZ_ok {S M : PS} {ov : Nat → Int64} {r : Int32} (hr : r = 0 ∨ r = 1) (h : INV S (sN M 0 0)) : opZ (if r = 0 then ((wrL ov 1 0 0).bind fun f1 => some (S, f1, 0)) else ((wrL ov 1 0 1).bind fun f2 => some (S, f2, 0))) (some (sN M 0 0, r)) := by
  rcases hr with rfl | rfl
  · rw [if_pos rfl]
    obtain ⟨f, h1, h2⟩ := wrL_0 ov 0
    rw [h1, ob_some]
    exact ⟨S, f, 0, _, 0, rfl, rfl, rfl, Or.inl rfl, fun _ => h2, h⟩
  · rw [if_neg (by decide)]
    obtain ⟨f, h1, h2⟩ := wrL_0 ov 1
    rw [h1, ob_some]
    exact ⟨S, f, 0, _, 1, rfl, rfl, rfl, Or.inr rfl, fun _ => h2, h⟩
/-! arguments -/
theorem c_class {S M : PS} (h : INV S M) {x : Int32} : (isI x (nc M) → q_X5_checkClass S x = some (.inr ()) ∧ q_X6_isClass M x = some 1) ∧ (¬ isI x (nc M) → q_X5_checkClass S x = some (.inl 1) ∧ q_X6_isClass M x = some 0) := by
  have h16 := h.1.2.2.1
  have hn := h.1.1
  have hs := h.2.2.1.1
  unfold q_X5_checkClass q_X6_isClass
  rw [hs, hn]
  obtain ⟨a1, a2⟩ := e_isInN x (n := nc M) (by omega)
  refine ⟨fun hx => ⟨by rw [if_neg hx.1, if_pos hx.2], by rw [a1 hx]; rfl⟩, fun hx => ⟨?_, by rw [a2 hx]; rfl⟩⟩
  by_cases h1 : x < 0
  · rw [if_pos h1]
  · rw [if_neg h1, if_neg (fun h2 => hx ⟨h1, h2⟩)]
theorem c_selector {S : PS} {x : Int32} : (isI x 8 → q_X5_checkSelector S x = some (.inr ()) ∧ q_X6_isSelector x = some 1) ∧ (¬ isI x 8 → q_X5_checkSelector S x = some (.inl 1) ∧ q_X6_isSelector x = some 0) := by
  unfold q_X5_checkSelector q_X6_isSelector
  rw [show (8 : Int32) = nI 8 from rfl]
  obtain ⟨a1, a2⟩ := e_isInN x (n := 8) (by omega)
  rw [show nI 8 - 1 = 7 from rfl] at a1 a2
  refine ⟨fun hx => ⟨by rw [if_neg hx.1, if_pos hx.2], by rw [a1 hx]; rfl⟩, fun hx => ⟨?_, by rw [a2 hx]; rfl⟩⟩
  by_cases h1 : x < 0
  · rw [if_pos h1]
  · rw [if_neg h1, if_neg (fun h2 => hx ⟨h1, h2⟩)]
theorem c_methodA {S M : PS} (h : INV S M) {x : Int32} : (isI x (nm M) → q_X5_checkMethod S x = some (.inr ()) ∧ q_X6_isMethod M x = some 1) ∧ (¬ isI x (nm M) → q_X5_checkMethod S x = some (.inl 1) ∧ q_X6_isMethod M x = some 0) := by
  have h16 := h.2.1.2.1
  have hn := h.2.1.1
  have hs := h.2.2.2.1.1
  unfold q_X5_checkMethod q_X6_isMethod
  rw [hs, hn]
  obtain ⟨a1, a2⟩ := e_isInN x (n := nm M) (by omega)
  refine ⟨fun hx => ⟨by rw [if_neg hx.1, if_pos hx.2], by rw [a1 hx]; rfl⟩, fun hx => ⟨?_, by rw [a2 hx]; rfl⟩⟩
  by_cases h1 : x < 0
  · rw [if_pos h1]
  · rw [if_neg h1, if_neg (fun h2 => hx ⟨h1, h2⟩)]
/-- a plan is there in both, or in neither -/
theorem c_plan {S M : PS} (h : INV S M) : (M.1 6 = 0 ∧ q_X5_checkPlan S = some (.inl 2) ∧ q_X3_exists S = some 0) ∨ (M.1 6 = 1 ∧ q_X5_checkPlan S = some (.inr ()) ∧ q_X3_exists S = some 1 ∧ WP M ∧ SP S M) := by
  rcases h.2.2.2.2.2.1 with ⟨h1, h2⟩ | ⟨h1, h2, h3⟩
  · left
    refine ⟨h1, ?_, ?_⟩
    · unfold q_X5_checkPlan q_X3_exists
      rw [h2, if_pos (by decide), ob_some, if_pos rfl]
    · unfold q_X3_exists
      rw [h2, if_pos (by decide)]
  · right
    have h0 : ¬ S.1 5 ≤ 0 := by
      have := h2.2.1
      have := h2.2.2.1
      rw [h3.1, h2.1, show (0 : Int32) = nI 0 from rfl]
      exact nI_nlec (by omega) (by omega)
    refine ⟨h1, ?_, ?_, h2, h3⟩
    · unfold q_X5_checkPlan q_X3_exists
      rw [if_neg h0, ob_some, if_neg (by decide)]
    · unfold q_X3_exists
      rw [if_neg h0]
theorem ob_pair {a b c : Type} (v : a) (u : b) (k : a × b → Option c) : (some (v, u)).bind k = k (v, u) := rfl
