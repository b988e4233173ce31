/-! sets of methods: how many, and which one -/
/-- how many of the bits below k are set -/
def pcn (a : Nat) : Nat → Nat
  | 0 => 0
  | k + 1 => pcn a k + (if a.testBit k = true then 1 else 0)
theorem pcn_le (a : Nat) : ∀ k, pcn a k ≤ k := by
  intro k
  induction k with
  | zero => exact Nat.le_refl _
  | succ k ih =>
    show pcn a k + _ ≤ k + 1
    by_cases h : a.testBit k = true <;> simp [h] <;> omega
theorem e_bits {a : Nat} (ha : a < 2 ^ 31) : q_X6_bits (nI a) = some (nI (pcn a 30)) := by
  unfold q_X6_bits
  rw [← nI_0]
  refine for2 (n := 30) (fun i x => x = nI (pcn a i)) (fun rec i x hi hx => ?_) (fun rec x hx => ?_) 1000 0 _ (by omega) (by omega) rfl
  · right
    subst hx
    unfold q_X6_bits_L4
    rw [show (30 : Int32) = nI 30 from rfl, if_neg (nI_ge hi (by omega)), bitI ha (by omega), nI_1]
    refine ⟨_, ?_, rfl⟩
    show _ = nI (pcn a i + _)
    by_cases h : a.testBit i = true
    · rw [if_pos h, if_pos h, nI_1]
    · rw [if_neg h, if_neg h, show (0 : Int32) = nI 0 from rfl, nI_add]
  · subst hx
    unfold q_X6_bits_L4
    rw [show (30 : Int32) = nI 30 from rfl, if_pos (nI_le (Nat.le_refl _) (by omega))]
/-- the member with an index, of the n from i on; -1 without one -/
def mb (a : Nat) : Int32 → Nat → Nat → Int32
  | _, 0, _ => -1
  | x, n + 1, i => if a.testBit i = true then (if x = 0 then nI i else mb a (x + -1) n (i + 1)) else mb a x n (i + 1)
theorem mb_none {a : Nat} : ∀ (n i : Nat) (x : Int32), (∀ j, i ≤ j → a.testBit j = false) → mb a x n i = -1 := by
  intro n
  induction n with
  | zero => intros; rfl
  | succ n ih =>
    intro i x h
    show (if a.testBit i = true then _ else mb a x n (i + 1)) = -1
    rw [h i (Nat.le_refl _), if_neg (by simp), ih (i + 1) x (fun j hj => h j (by omega))]
theorem mb_ext {a : Nat} : ∀ (n k i : Nat) (x : Int32), (∀ j, i + n ≤ j → a.testBit j = false) → mb a x (n + k) i = mb a x n i := by
  intro n
  induction n with
  | zero => intro k i x h; rw [mb_none _ i x (fun j hj => h j (by omega))]; rfl
  | succ n ih =>
    intro k i x h
    rw [show n + 1 + k = (n + k) + 1 by omega]
    show (if a.testBit i = true then (if x = 0 then nI i else mb a (x + -1) (n + k) (i + 1)) else mb a x (n + k) (i + 1)) = (if a.testBit i = true then (if x = 0 then nI i else mb a (x + -1) n (i + 1)) else mb a x n (i + 1))
    rw [ih k (i + 1) _ (fun j hj => h j (by omega)), ih k (i + 1) _ (fun j hj => h j (by omega))]
theorem mb_far {a : Nat} : ∀ (n i : Nat) (x : Int32), (∀ k, k < n → x ≠ nI k) → mb a x n i = -1 := by
  intro n
  induction n with
  | zero => intros; rfl
  | succ n ih =>
    intro i x h
    show (if a.testBit i = true then (if x = 0 then nI i else mb a (x + -1) n (i + 1)) else mb a x n (i + 1)) = -1
    rw [if_neg (show ¬ x = 0 from h 0 (by omega)), ih (i + 1) x (fun k hk => h k (by omega)), ih (i + 1) (x + -1) (fun k hk e => h (k + 1) (by omega) (by rw [← nI_1, ← e, Int32.add_assoc]; simp))]
    simp
theorem mb_first {a : Nat} : ∀ (n i m : Nat), i ≤ m → m < i + n → a.testBit m = true → (∀ j, i ≤ j → j < m → a.testBit j = false) → mb a 0 n i = nI m := by
  intro n
  induction n with
  | zero => intro i m h1 h2; omega
  | succ n ih =>
    intro i m h1 h2 h3 h4
    show (if a.testBit i = true then (if (0 : Int32) = 0 then nI i else mb a (0 + -1) n (i + 1)) else mb a 0 n (i + 1)) = nI m
    by_cases h5 : i = m
    · subst h5; rw [if_pos h3, if_pos rfl]
    · rw [h4 i (Nat.le_refl _) (by omega), if_neg (by simp), ih (i + 1) m (by omega) (by omega) h3 (fun j hj hm => h4 j (by omega) hm)]
theorem l_member6 {a : Nat} (ha : a < 2 ^ 31) : ∀ (k n i : Nat) (x : Int32), n < k → i + n = 30 → iter2 (q_X6_member_L4 (nI a)) k x (nI i) = some (mb a x n i) := by
  intro k
  induction k with
  | zero => intro n i x h; omega
  | succ k ih =>
    intro n i x h1 h2
    show q_X6_member_L4 (nI a) (iter2 (q_X6_member_L4 (nI a)) k) x (nI i) = _
    generalize iter2 (q_X6_member_L4 (nI a)) k = rec at ih ⊢
    unfold q_X6_member_L4
    cases n with
    | zero =>
      have : i = 30 := by omega
      subst this
      rw [show (30 : Int32) = nI 30 from rfl, if_pos (nI_le (Nat.le_refl _) (by omega))]
      rfl
    | succ n =>
      rw [show (30 : Int32) = nI 30 from rfl, if_neg (nI_ge (by omega) (by omega)), bitI ha (by omega), nI_1, ih n (i + 1) x (by omega) (by omega), ih n (i + 1) (x + -1) (by omega) (by omega)]
      show _ = some (if a.testBit i = true then (if x = 0 then nI i else mb a (x + -1) n (i + 1)) else mb a x n (i + 1))
      by_cases h : a.testBit i = true
      · rw [if_pos h, if_pos h, if_neg (by decide)]
        by_cases hx : x = 0
        · rw [if_pos hx, if_pos hx]
        · rw [if_neg hx, if_neg hx]
      · rw [if_neg h, if_neg h, if_pos rfl]
theorem e_member6 {a : Nat} (ha : a < 2 ^ 31) (x : Int32) : q_X6_member (nI a) x = some (mb a x 30 0) := by
  unfold q_X6_member
  rw [← nI_0]
  exact l_member6 ha 1000 30 0 x (by omega) rfl
theorem l_member2 {S : PS} {a N : Nat} (ha : a < 2 ^ 31) (hN : N ≤ 30) (hS : S.1 1 = nI N) : ∀ (k n i : Nat) (x : Int32), n < k → i + n = N → iter2 (q_X2_member_L5 S (nI a)) k x (nI i) = some (mb a x n i) := by
  intro k
  induction k with
  | zero => intro n i x h; omega
  | succ k ih =>
    intro n i x h1 h2
    show q_X2_member_L5 S (nI a) (iter2 (q_X2_member_L5 S (nI a)) k) x (nI i) = _
    generalize iter2 (q_X2_member_L5 S (nI a)) k = rec at ih ⊢
    unfold q_X2_member_L5
    cases n with
    | zero =>
      have : i = N := by omega
      subst this
      rw [hS, if_pos (nI_le (Nat.le_refl _) (by omega))]
      rfl
    | succ n =>
      unfold q_X2_contains
      rw [hS, if_neg (nI_ge (by omega) (by omega)), bitI ha (by omega), nI_1, ih n (i + 1) x (by omega) (by omega), ih n (i + 1) (x + -1) (by omega) (by omega)]
      show _ = some (if a.testBit i = true then (if x = 0 then nI i else mb a (x + -1) n (i + 1)) else mb a x n (i + 1))
      by_cases h : a.testBit i = true
      · rw [if_pos h, if_pos h, if_pos rfl, ob_some, if_neg (by decide)]
        by_cases hx : x = 0
        · rw [if_pos hx, if_pos hx]
        · rw [if_neg hx, if_neg hx]
      · rw [if_neg h, if_neg h, if_neg (by decide), ob_some, if_pos rfl]
/-- the planner's member, of a set of methods that are there -/
theorem e_member2 {S : PS} {a N : Nat} (ha : a < 2 ^ 31) (hN : N ≤ 30) (hS : S.1 1 = nI N) (hb : ∀ j, N ≤ j → a.testBit j = false) (x : Int32) : q_X2_member S (nI a) x = some (mb a x 30 0) := by
  unfold q_X2_member
  rw [← nI_0, l_member2 ha hN hS 1000 N 0 x (by omega) (by omega), ← mb_ext N (30 - N) 0 x (fun j hj => hb j (by omega))]
  rw [show N + (30 - N) = 30 by omega]
/-- a set with one member -/
theorem pcn_zero {a : Nat} : ∀ k, pcn a k = 0 → ∀ j, j < k → a.testBit j = false := by
  intro k
  induction k with
  | zero => intro _ j hj; omega
  | succ k ih =>
    intro h j hj
    have h : pcn a k + (if a.testBit k = true then 1 else 0) = 0 := h
    by_cases h2 : a.testBit k = true
    · rw [if_pos h2] at h; omega
    · rcases Nat.lt_or_ge j k with h3 | h3
      · exact ih (by omega) j h3
      · have : j = k := by omega
        subst this; simpa using h2
theorem pcn_first {a : Nat} : ∀ k, 0 < pcn a k → ∃ m, m < k ∧ a.testBit m = true ∧ ∀ j, j < m → a.testBit j = false := by
  intro k
  induction k with
  | zero => intro h; exact absurd h (Nat.lt_irrefl 0)
  | succ k ih =>
    intro h
    by_cases h0 : pcn a k = 0
    · have h : 0 < pcn a k + (if a.testBit k = true then 1 else 0) := h
      refine ⟨k, by omega, ?_, pcn_zero k h0⟩
      by_cases h2 : a.testBit k = true
      · exact h2
      · rw [if_neg h2] at h; omega
    · obtain ⟨m, h1, h2, h3⟩ := ih (by omega)
      exact ⟨m, by omega, h2, h3⟩
theorem pcn_all0 {a : Nat} (h : a < 2 ^ 30) : pcn a 30 = 0 ↔ a = 0 := by
  constructor
  · intro h0
    refine Nat.eq_of_testBit_eq (fun i => ?_)
    rw [Nat.zero_testBit]
    rcases Nat.lt_or_ge i 30 with h1 | h1
    · exact pcn_zero 30 h0 i h1
    · exact Nat.testBit_lt_two_pow (Nat.lt_of_lt_of_le h (Nat.pow_le_pow_right (by omega) h1))
  · intro h0
    subst h0
    have : ∀ k, pcn 0 k = 0 := by
      intro k
      induction k with
      | zero => rfl
      | succ k ih => show pcn 0 k + _ = 0; rw [ih, Nat.zero_testBit]; rfl
    exact this 30
