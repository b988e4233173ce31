/-! plain facts on rows and numbers -/
theorem inb_nI {i n : Nat} (h : i < n) (hn : n < 2 ^ 31) : inb (nI i) n = true := by
  unfold inb
  have h1 : ¬ nI i < 0 := nI_pos (by omega)
  rw [nI_clamp (by omega)]
  simp [h1, h]
theorem rd_nI {α : Type} (f : Nat → α) {n i : Nat} (h : i < n) (hn : n < 2 ^ 31) : rd f n (nI i) = some (f i) := by
  unfold rd
  rw [if_pos (inb_nI h hn), nI_clamp (by omega)]
theorem wr_nI (f : Nat → Int32) {n i : Nat} (x : Int32) (h : i < n) (hn : n < 2 ^ 31) : wr f n (nI i) x = some (upd f i x) := by
  unfold wr
  rw [if_pos (inb_nI h hn), nI_clamp (by omega)]
theorem wrZ_nI (f : Nat → Int32) {n i : Nat} (x : Int32) (h : i < n) (hn : n < 2 ^ 31) : wrZ f n (nI i) x = some (upd f i (vp_nar .boolean x)) := by
  unfold wrZ
  rw [if_pos (inb_nI h hn), nI_clamp (by omega)]
theorem wA_nI (S : PS) (k : Nat) {n i : Nat} (x : Int32) (h : i < n) (hn : n < 2 ^ 31) : wA S k n (nI i) x = some (sA S k (upd (S.2 k) i x)) := by
  unfold wA
  rw [wr_nI _ _ h hn]
  rfl
theorem wZ_nI (S : PS) (k : Nat) {n i : Nat} (x : Int32) (h : i < n) (hn : n < 2 ^ 31) : wZ S k n (nI i) x = some (sA S k (upd (S.2 k) i (vp_nar .boolean x))) := by
  unfold wZ
  rw [wrZ_nI _ _ h hn]
  rfl
theorem wN_e (S : PS) (k : Nat) (v : Int32) : wN S k v = some (sN S k v) := rfl
theorem sA_1 (S : PS) (k : Nat) (f : Nat → Int32) : (sA S k f).1 = S.1 := rfl
theorem sN_2 (S : PS) (k : Nat) (v : Int32) : (sN S k v).2 = S.2 := rfl
theorem sA_2 (S : PS) (k : Nat) (f : Nat → Int32) (j : Nat) : (sA S k f).2 j = if j = k then f else S.2 j := rfl
theorem sN_1 (S : PS) (k : Nat) (v : Int32) (j : Nat) : (sN S k v).1 j = if j = k then v else S.1 j := rfl
theorem upd_e (f : Nat → Int32) (k : Nat) (x : Int32) (j : Nat) : upd f k x j = if j = k then x else f j := rfl
theorem ob_some {a b : Type} (v : a) (k : a → Option b) : (some v).bind k = k v := rfl
/-- a loop that counts up: a from i, until n; P what holds at its head -/
theorem for1 {z : Type} {f : (Int32 → Option z) → Int32 → Option z} {n : Nat} {r : Option z} (P : Nat → Prop) (hs : ∀ (rec : Int32 → Option z) (i : Nat), i < n → P i → (f rec (nI i) = r ∨ (P (i + 1) ∧ f rec (nI i) = rec (nI (i + 1))))) (he : ∀ rec : Int32 → Option z, P n → f rec (nI n) = r) :
    ∀ (k i : Nat), i ≤ n → n < i + k → P i → iter1 f k (nI i) = r := by
  intro k
  induction k with
  | zero => intro i h1 h2; omega
  | succ k ih =>
    intro i h1 h2 hP
    show f (iter1 f k) (nI i) = r
    rcases Nat.lt_or_ge i n with h | h
    · rcases hs (iter1 f k) i h hP with h3 | ⟨h3, h4⟩
      · exact h3
      · rw [h4]; exact ih (i + 1) (by omega) (by omega) h3
    · have : i = n := by omega
      subst this
      exact he _ hP
/-- the same with a number (or a state) that is carried along, first -/
theorem for2 {a z : Type} {f : (a → Int32 → Option z) → a → Int32 → Option z} {n : Nat} {r : Option z} (P : Nat → a → Prop) (hs : ∀ (rec : a → Int32 → Option z) (i : Nat) (x : a), i < n → P i x → (f rec x (nI i) = r ∨ ∃ y, P (i + 1) y ∧ f rec x (nI i) = rec y (nI (i + 1)))) (he : ∀ (rec : a → Int32 → Option z) (x : a), P n x → f rec x (nI n) = r) :
    ∀ (k i : Nat) (x : a), i ≤ n → n < i + k → P i x → iter2 f k x (nI i) = r := by
  intro k
  induction k with
  | zero => intro i x h1 h2; omega
  | succ k ih =>
    intro i x h1 h2 hP
    show f (iter2 f k) x (nI i) = r
    rcases Nat.lt_or_ge i n with h | h
    · rcases hs (iter2 f k) i x h hP with h3 | ⟨y, h3, h4⟩
      · exact h3
      · rw [h4]; exact ih (i + 1) y (by omega) (by omega) h3
    · have : i = n := by omega
      subst this
      exact he _ x hP
/-- the counter first, a state behind it -/
theorem for2' {a z : Type} {f : (Int32 → a → Option z) → Int32 → a → Option z} {n : Nat} {r : Option z} (P : Nat → a → Prop) (hs : ∀ (rec : Int32 → a → Option z) (i : Nat) (x : a), i < n → P i x → (f rec (nI i) x = r ∨ ∃ y, P (i + 1) y ∧ f rec (nI i) x = rec (nI (i + 1)) y)) (he : ∀ (rec : Int32 → a → Option z) (x : a), P n x → f rec (nI n) x = r) :
    ∀ (k i : Nat) (x : a), i ≤ n → n < i + k → P i x → iter2 f k (nI i) x = r := by
  intro k
  induction k with
  | zero => intro i x h1 h2; omega
  | succ k ih =>
    intro i x h1 h2 hP
    show f (iter2 f k) (nI i) x = r
    rcases Nat.lt_or_ge i n with h | h
    · rcases hs (iter2 f k) i x h hP with h3 | ⟨y, h3, h4⟩
      · exact h3
      · rw [h4]; exact ih (i + 1) y (by omega) (by omega) h3
    · have : i = n := by omega
      subst this
      exact he _ x hP
/-! bits of a set of methods: a natural number -/
theorem shl1 {k : Nat} (h : k < 31) : (1 : Int32) <<< (nI k &&& 31) = nI (2 ^ k) := by
  have h1 : (1 : Int32) = nI 1 := rfl
  rw [h1, pk_shlN (nI k &&& 31) k ((by decide +kernel : ∀ n, n < 32 → ((nI n &&& 31).toBitVec.smod 32).toNat = n) k (by omega)) (by rw [Nat.one_mul]; exact Nat.pow_lt_pow_right (by omega) (by omega)), Nat.one_mul]
theorem shrN {a k : Nat} (ha : a < 2 ^ 31) (h : k < 32) : nI a >>> (nI k &&& 31) = nI (a / 2 ^ k) := pk_shrN ha (nI k &&& 31) k ((by decide +kernel : ∀ n, n < 32 → ((nI n &&& 31).toBitVec.smod 32).toNat = n) k h)
theorem and1 (a : Nat) : nI a &&& 1 = nI (a % 2) := fa_mask a 1
theorem bitI {a k : Nat} (ha : a < 2 ^ 31) (h : k < 32) : nI a >>> (nI k &&& 31) &&& 1 = if a.testBit k = true then 1 else 0 := by
  rw [shrN ha h, and1, Nat.testBit_eq_decide_div_mod_eq]
  have h2 : a / 2 ^ k % 2 < 2 := Nat.mod_lt _ (by omega)
  by_cases h3 : a / 2 ^ k % 2 = 1
  · rw [h3]; simp; rfl
  · have h4 : a / 2 ^ k % 2 = 0 := by omega
    rw [h4]; simp; rfl
