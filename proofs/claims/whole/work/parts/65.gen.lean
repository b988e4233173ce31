/-! numbers as arguments; what a state says that has the same classes and methods; more loops -/
/-- an argument is a number below n, or it isn't -/
def isI (x : Int32) (n : Nat) : Prop := ¬ x < 0 ∧ x < nI n
theorem isI_ex {x : Int32} {n : Nat} (hn : n < 2 ^ 31) (h : isI x n) : ∃ c, c < n ∧ x = nI c := by
  obtain ⟨h1, h2⟩ := h
  rw [Int32.lt_iff_toInt_lt] at h1 h2
  rw [nI_toInt hn] at h2
  have h0 : (0 : Int32).toInt = 0 := rfl
  rw [h0] at h1
  refine ⟨x.toInt.toNat, by omega, ?_⟩
  apply Int32.toInt_inj.mp
  rw [nI_toInt (by omega)]
  omega
theorem isI_nI {c n : Nat} (h : c < n) (hn : n < 2 ^ 31) : isI (nI c) n := ⟨nI_pos (by omega), by rw [Int32.lt_iff_toInt_lt, nI_toInt (by omega), nI_toInt hn]; omega⟩
theorem isI_out {x : Int32} {n : Nat} (h : ¬ isI x n) : x < 0 ∨ ¬ x < nI n := by
  by_cases h1 : x < 0
  · exact Or.inl h1
  · exact Or.inr (fun h2 => h ⟨h1, h2⟩)
theorem isI_cases (x : Int32) {n : Nat} (hn : n < 2 ^ 31) : (∃ c, c < n ∧ x = nI c) ∨ ¬ isI x n := by
  by_cases h : isI x n
  · exact Or.inl (isI_ex hn h)
  · exact Or.inr h
theorem nI_ltc {a b : Nat} (h : a < b) (hb : b < 2 ^ 31) : nI a < nI b := (isI_nI h hb).2
theorem nI_nltc {a b : Nat} (h : b ≤ a) (ha : a < 2 ^ 31) : ¬ nI a < nI b := by
  rw [Int32.lt_iff_toInt_lt, nI_toInt (by omega), nI_toInt (by omega)]; omega
theorem nI_lec {a b : Nat} (h : a ≤ b) (hb : b < 2 ^ 31) : nI a ≤ nI b := by
  rw [Int32.le_iff_toInt_le, nI_toInt (by omega), nI_toInt (by omega)]; omega
theorem nI_nlec {a b : Nat} (h : b < a) (ha : a < 2 ^ 31) : ¬ nI a ≤ nI b := by
  rw [Int32.le_iff_toInt_le, nI_toInt (by omega), nI_toInt (by omega)]; omega
theorem nI_nec {a b : Nat} (h : a ≠ b) (ha : a < 2 ^ 31) (hb : b < 2 ^ 31) : ¬ nI a = nI b := fun e => h ((nI_eq ha hb).mp e)
theorem e_isInN (x : Int32) {n : Nat} (hn : n < 2 ^ 31) : (isI x n → q_X6_isIn x 0 (nI n - 1) = some 1) ∧ (¬ isI x n → q_X6_isIn x 0 (nI n - 1) = some 0) := by
  have key : (nI n - 1).toInt = (n : Int) - 1 := by
    rcases Nat.eq_zero_or_pos n with h | h
    · subst h; decide
    · rw [nIm h, nI_toInt (by omega)]; omega
  unfold q_X6_isIn
  constructor
  · intro h
    rw [if_neg h.1, if_neg]
    have h2 := h.2
    rw [Int32.lt_iff_toInt_lt, nI_toInt hn] at h2
    rw [Int32.lt_iff_toInt_lt, key]; omega
  · intro h
    by_cases h1 : x < 0
    · rw [if_pos h1]
    · rw [if_neg h1, if_pos]
      have h2 : ¬ x < nI n := fun h2 => h ⟨h1, h2⟩
      rw [Int32.lt_iff_toInt_lt, nI_toInt hn] at h2
      rw [Int32.lt_iff_toInt_lt, key]; omega
theorem sA_s (S : PS) (k : Nat) (f : Nat → Int32) : (sA S k f).2 k = f := by rw [sA_2, if_pos rfl]
theorem sA_o (S : PS) {k j : Nat} (f : Nat → Int32) (h : j ≠ k) : (sA S k f).2 j = S.2 j := by rw [sA_2, if_neg h]
theorem sN_o (S : PS) {k j : Nat} (v : Int32) (h : j ≠ k) : (sN S k v).1 j = S.1 j := by rw [sN_1, if_neg h]
theorem upd_s (f : Nat → Int32) (k : Nat) (x : Int32) : upd f k x k = x := by rw [upd_e, if_pos rfl]
theorem upd_o (f : Nat → Int32) {k j : Nat} (x : Int32) (h : j ≠ k) : upd f k x j = f j := by rw [upd_e, if_neg h]
theorem d20 : ¬ (2 : Int32) = 0 := by decide
theorem d10 : ¬ (1 : Int32) = 0 := by decide
theorem zg_1 : zg 1 = some 1 := rfl
theorem zg_0 : zg 0 = some 0 := rfl
/-! the reference's classes and methods -/
def core (M : PS) : PS := (fun k => if k = 1 then M.1 1 else if k = 2 then M.1 2 else 0, fun k => if k < 7 then M.2 k else fun _ => 0)
theorem nc_core (M : PS) : nc (core M) = nc M := rfl
theorem nm_core (M : PS) : nm (core M) = nm M := rfl
theorem anc_core (M : PS) : ∀ n c, anc (core M) n c = anc M n c := by
  intro n
  induction n with
  | zero => intro c; rfl
  | succ n ih => intro c; show (if c = 0 then 1 else anc (core M) n (pa M c) ||| 2 ^ c) = (if c = 0 then 1 else anc M n (pa M c) ||| 2 ^ c); rw [ih]
theorem an_core (M : PS) (c : Nat) : an (core M) c = an M c := anc_core M c c
theorem omF_core (M : PS) (c s : Nat) : ∀ n, omF (core M) c s n = omF M c s n := by
  intro n
  induction n with
  | zero => rfl
  | succ n ih => show (if ow M n = c ∧ na M n = s then n + 1 else omF (core M) c s n) = (if ow M n = c ∧ na M n = s then n + 1 else omF M c s n); rw [ih]
theorem om_core (M : PS) (c s : Nat) : om (core M) c s = om M c s := omF_core M c s _
theorem fdF_core (M : PS) (s : Nat) : ∀ n c, fdF (core M) s n c = fdF M s n c := by
  intro n
  induction n with
  | zero => intro c; exact om_core M c s
  | succ n ih => intro c; show (if om (core M) c s ≠ 0 then om (core M) c s else if c = 0 then 0 else fdF (core M) s n (pa M c)) = (if om M c s ≠ 0 then om M c s else if c = 0 then 0 else fdF M s n (pa M c)); rw [ih, om_core]
theorem fd_core (M : PS) (c s : Nat) : fd (core M) c s = fd M c s := fdF_core M s c c
theorem tsF_core (M : PS) (r s : Nat) : ∀ c, tsF (core M) r s c = tsF M r s c := by
  intro c
  induction c with
  | zero => rfl
  | succ c ih => show tsF (core M) r s c ||| (if M.2 1 c ≠ 0 ∧ (an (core M) c).testBit r = true ∧ fd (core M) c s ≠ 0 then 2 ^ (fd (core M) c s - 1) else 0) = tsF M r s c ||| (if M.2 1 c ≠ 0 ∧ (an M c).testBit r = true ∧ fd M c s ≠ 0 then 2 ^ (fd M c s - 1) else 0); rw [ih, an_core, fd_core]
theorem ts_core (M : PS) (r s : Nat) : ts (core M) r s = ts M r s := tsF_core M r s _
theorem WC_core (M : PS) : WC (core M) ↔ WC M := Iff.rfl
theorem WM_core (M : PS) : WM (core M) ↔ WM M := Iff.rfl
/-- the same classes and methods -/
theorem core_eq {M M' : PS} (h : core M' = core M) : nc M' = nc M ∧ nm M' = nm M ∧ (∀ c, an M' c = an M c) ∧ (∀ c s, om M' c s = om M c s) ∧ (∀ c s, fd M' c s = fd M c s) ∧ (∀ r s, ts M' r s = ts M r s) ∧ (WC M → WC M') ∧ (WM M → WM M') := by
  refine ⟨by rw [← nc_core, h, nc_core], by rw [← nm_core, h, nm_core], fun c => by rw [← an_core, h, an_core], fun c s => by rw [← om_core, h, om_core], fun c s => by rw [← fd_core, h, fd_core], fun r s => by rw [← ts_core, h, ts_core], fun hC => by rw [← WC_core, h, WC_core]; exact hC, fun hC => by rw [← WM_core, h, WM_core]; exact hC⟩
theorem core_row {M M' : PS} (h : core M' = core M) {k : Nat} (hk : k < 7) : M'.2 k = M.2 k := by
  have := congrArg (fun X : PS => X.2 k) h
  simpa [core, hk] using this
theorem core_sN (M : PS) {k : Nat} (v : Int32) (h1 : k ≠ 1) (h2 : k ≠ 2) : core (sN M k v) = core M := by
  refine Prod.ext (funext fun j => ?_) rfl
  show (if j = 1 then (sN M k v).1 1 else if j = 2 then (sN M k v).1 2 else 0) = (if j = 1 then M.1 1 else if j = 2 then M.1 2 else 0)
  have e1 : (sN M k v).1 1 = M.1 1 := by rw [sN_1, if_neg (fun e => h1 e.symm)]
  have e2 : (sN M k v).1 2 = M.1 2 := by rw [sN_1, if_neg (fun e => h2 e.symm)]
  rw [e1, e2]
theorem core_sA (M : PS) {k : Nat} (f : Nat → Int32) (h : 7 ≤ k) : core (sA M k f) = core M := by
  refine Prod.ext rfl (funext fun j => ?_)
  show (if j < 7 then (sA M k f).2 j else fun _ => 0) = (if j < 7 then M.2 j else fun _ => 0)
  by_cases hj : j < 7
  · rw [if_pos hj, if_pos hj, sA_2, if_neg (by omega)]
  · rw [if_neg hj, if_neg hj]
/-- what the planner's part on classes and methods is -/
def coreS (S : PS) : PS := (fun k => if k < 5 then S.1 k else 0, fun k => if k < 9 then S.2 k else fun _ => 0)
theorem SC_coreS (S M : PS) : SC (coreS S) M ↔ SC S M := Iff.rfl
theorem SM_coreS (S M : PS) : SM (coreS S) M ↔ SM S M := Iff.rfl
theorem coreS_row {S S' : PS} (h : coreS S' = coreS S) {k : Nat} (hk : k < 9) : S'.2 k = S.2 k := by
  have := congrArg (fun X : PS => X.2 k) h
  simpa [coreS, hk] using this
theorem coreS_num {S S' : PS} (h : coreS S' = coreS S) {k : Nat} (hk : k < 5) : S'.1 k = S.1 k := by
  have := congrArg (fun X : PS => X.1 k) h
  simpa [coreS, hk] using this
theorem coreS_sN (M : PS) {k : Nat} (v : Int32) (h : 5 ≤ k) : coreS (sN M k v) = coreS M := by
  refine Prod.ext (funext fun j => ?_) rfl
  show (if j < 5 then (sN M k v).1 j else 0) = (if j < 5 then M.1 j else 0)
  by_cases hj : j < 5
  · rw [if_pos hj, if_pos hj, sN_1, if_neg (by omega)]
  · rw [if_neg hj, if_neg hj]
theorem coreS_sA (M : PS) {k : Nat} (f : Nat → Int32) (h : 9 ≤ k) : coreS (sA M k f) = coreS M := by
  refine Prod.ext rfl (funext fun j => ?_)
  show (if j < 9 then (sA M k f).2 j else fun _ => 0) = (if j < 9 then M.2 j else fun _ => 0)
  by_cases hj : j < 9
  · rw [if_pos hj, if_pos hj, sA_2, if_neg (by omega)]
  · rw [if_neg hj, if_neg hj]
theorem SC_core {S S' M M' : PS} (h : core M' = core M) (hs : coreS S' = coreS S) (x : SC S M) : SC S' M' := by
  obtain ⟨e1, e2, e3, e4, e5, e6, -⟩ := core_eq h
  rw [← SC_coreS, hs, SC_coreS]
  have hn : (core M').1 1 = (core M).1 1 := by rw [h]
  have hn : M'.1 1 = M.1 1 := hn
  unfold SC
  rw [e1, hn, core_row h (show 0 < 7 by decide), core_row h (show 1 < 7 by decide)]
  exact ⟨x.1, fun c hc => by rw [e3]; exact x.2.1 c hc, x.2.2⟩
theorem SM_core {S S' M M' : PS} (h : core M' = core M) (hs : coreS S' = coreS S) (x : SM S M) : SM S' M' := by
  obtain ⟨e1, e2, e3, e4, e5, e6, -⟩ := core_eq h
  rw [← SM_coreS, hs, SM_coreS]
  have hn : (core M').1 2 = (core M).1 2 := by rw [h]
  have hn : M'.1 2 = M.1 2 := hn
  have h5 : ∀ m, si M' m = si M m := fun m => by unfold si; rw [core_row h (show 5 < 7 by decide)]
  unfold SM
  rw [e2, hn, core_row h (show 4 < 7 by decide), core_row h (show 5 < 7 by decide), core_row h (show 6 < 7 by decide)]
  exact ⟨x.1, x.2.1, x.2.2.1, fun m k hm hk => x.2.2.2.1 m k hm (by rw [← h5]; exact hk), fun c s hc hs => by rw [e4]; exact x.2.2.2.2 c s hc hs⟩
/-! loops that run to their end -/
theorem forE1 {z : Type} {f : (Int32 → Option z) → Int32 → Option z} {n : Nat} {e : Option z} (hs : ∀ (rec : Int32 → Option z) (i : Nat), i < n → f rec (nI i) = rec (nI (i + 1))) (he : ∀ rec : Int32 → Option z, f rec (nI n) = e) :
    ∀ (k i : Nat), i ≤ n → n < i + k → iter1 f k (nI i) = e := by
  intro k i h1 h2
  exact for1 (n := n) (fun _ => True) (fun rec i hi _ => Or.inr ⟨trivial, hs rec i hi⟩) (fun rec _ => he rec) k i h1 h2 trivial
theorem forE2 {a z : Type} {f : (a → Int32 → Option z) → a → Int32 → Option z} {n : Nat} {e : a → Option z} (P : Nat → a → Prop) (hs : ∀ (rec : a → Int32 → Option z) (i : Nat) (x : a), i < n → P i x → ∃ y, P (i + 1) y ∧ f rec x (nI i) = rec y (nI (i + 1))) (he : ∀ (rec : a → Int32 → Option z) (x : a), P n x → f rec x (nI n) = e x) :
    ∀ (k i : Nat) (x : a), i ≤ n → n < i + k → P i x → ∃ y, P n y ∧ iter2 f k x (nI i) = e y := by
  intro k
  induction k with
  | zero => intro i x h1 h2; omega
  | succ k ih =>
    intro i x h1 h2 hP
    show ∃ y, P n y ∧ f (iter2 f k) x (nI i) = e y
    rcases Nat.lt_or_ge i n with h | h
    · obtain ⟨y, h3, h4⟩ := hs (iter2 f k) i x h hP
      rw [h4]; exact ih (i + 1) y (by omega) (by omega) h3
    · have : i = n := by omega
      subst this
      exact ⟨x, hP, he _ x hP⟩
theorem forE2' {a z : Type} {f : (Int32 → a → Option z) → Int32 → a → Option z} {n : Nat} {e : a → Option z} (P : Nat → a → Prop) (hs : ∀ (rec : Int32 → a → Option z) (i : Nat) (x : a), i < n → P i x → ∃ y, P (i + 1) y ∧ f rec (nI i) x = rec (nI (i + 1)) y) (he : ∀ (rec : Int32 → a → Option z) (x : a), P n x → f rec (nI n) x = e x) :
    ∀ (k i : Nat) (x : a), i ≤ n → n < i + k → P i x → ∃ y, P n y ∧ iter2 f k (nI i) x = e y := by
  intro k
  induction k with
  | zero => intro i x h1 h2; omega
  | succ k ih =>
    intro i x h1 h2 hP
    show ∃ y, P n y ∧ f (iter2 f k) (nI i) x = e y
    rcases Nat.lt_or_ge i n with h | h
    · obtain ⟨y, h3, h4⟩ := hs (iter2 f k) i x h hP
      rw [h4]; exact ih (i + 1) y (by omega) (by omega) h3
    · have : i = n := by omega
      subst this
      exact ⟨x, hP, he _ x hP⟩
theorem forE3 {a b z : Type} {f : (a → b → Int32 → Option z) → a → b → Int32 → Option z} {n : Nat} {e : a → b → Option z} (P : Nat → a → b → Prop) (hs : ∀ (rec : a → b → Int32 → Option z) (i : Nat) (x : a) (u : b), i < n → P i x u → ∃ y v, P (i + 1) y v ∧ f rec x u (nI i) = rec y v (nI (i + 1))) (he : ∀ (rec : a → b → Int32 → Option z) (x : a) (u : b), P n x u → f rec x u (nI n) = e x u) :
    ∀ (k i : Nat) (x : a) (u : b), i ≤ n → n < i + k → P i x u → ∃ y v, P n y v ∧ iter3 f k x u (nI i) = e y v := by
  intro k
  induction k with
  | zero => intro i x u h1 h2; omega
  | succ k ih =>
    intro i x u h1 h2 hP
    show ∃ y v, P n y v ∧ f (iter3 f k) x u (nI i) = e y v
    rcases Nat.lt_or_ge i n with h | h
    · obtain ⟨y, v, h3, h4⟩ := hs (iter3 f k) i x u h hP
      rw [h4]; exact ih (i + 1) y v (by omega) (by omega) h3
    · have : i = n := by omega
      subst this
      exact ⟨x, u, hP, he _ x u hP⟩
theorem forE3m {a b z : Type} {f : (a → Int32 → b → Option z) → a → Int32 → b → Option z} {n : Nat} {e : a → b → Option z} (P : Nat → a → b → Prop) (hs : ∀ (rec : a → Int32 → b → Option z) (i : Nat) (x : a) (u : b), i < n → P i x u → ∃ y v, P (i + 1) y v ∧ f rec x (nI i) u = rec y (nI (i + 1)) v) (he : ∀ (rec : a → Int32 → b → Option z) (x : a) (u : b), P n x u → f rec x (nI n) u = e x u) :
    ∀ (k i : Nat) (x : a) (u : b), i ≤ n → n < i + k → P i x u → ∃ y v, P n y v ∧ iter3 f k x (nI i) u = e y v := by
  intro k
  induction k with
  | zero => intro i x u h1 h2; omega
  | succ k ih =>
    intro i x u h1 h2 hP
    show ∃ y v, P n y v ∧ f (iter3 f k) x (nI i) u = e y v
    rcases Nat.lt_or_ge i n with h | h
    · obtain ⟨y, v, h3, h4⟩ := hs (iter3 f k) i x u h hP
      rw [h4]; exact ih (i + 1) y v (by omega) (by omega) h3
    · have : i = n := by omega
      subst this
      exact ⟨x, u, hP, he _ x u hP⟩
