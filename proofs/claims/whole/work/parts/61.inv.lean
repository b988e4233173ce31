/-! what a state of the reference says, as natural numbers -/
def nv (x : Int32) : Nat := x.toNatClampNeg
theorem nv_nI {n : Nat} (h : n < 2 ^ 31) : nv (nI n) = n := nI_clamp h
def nc (M : PS) : Nat := nv (M.1 1)
def nm (M : PS) : Nat := nv (M.1 2)
def pa (M : PS) (c : Nat) : Nat := nv (M.2 0 c)
def ow (M : PS) (m : Nat) : Nat := nv (M.2 2 m)
def na (M : PS) (m : Nat) : Nat := nv (M.2 3 m)
def zs (M : PS) (m : Nat) : Nat := nv (M.2 4 m)
def si (M : PS) (m : Nat) : Nat := nv (M.2 5 m)
def rc (M : PS) (m k : Nat) : Nat := nv (M.2 6 (3 * (8 * m + k)))
def sl (M : PS) (m k : Nat) : Nat := nv (M.2 6 (3 * (8 * m + k) + 1))
def fq (M : PS) (m k : Nat) : Nat := nv (M.2 6 (3 * (8 * m + k) + 2))
/-- the classes are in order -/
def WC (M : PS) : Prop := M.1 1 = nI (nc M) ∧ 1 ≤ nc M ∧ nc M ≤ 16 ∧ M.2 0 0 = -1 ∧ (∀ c, 0 < c → c < nc M → M.2 0 c = nI (pa M c) ∧ pa M c < c) ∧ ∀ c, c < nc M → M.2 1 c = 0 ∨ M.2 1 c = 1
/-- a method's numbers -/
def Wm (M : PS) (m : Nat) : Prop := M.2 2 m = nI (ow M m) ∧ ow M m < nc M ∧ M.2 3 m = nI (na M m) ∧ na M m < 8 ∧ M.2 4 m = nI (zs M m) ∧ 1 ≤ zs M m ∧ zs M m ≤ 100 ∧ M.2 5 m = nI (si M m) ∧ si M m ≤ 8
/-- a site's numbers -/
def Ws (M : PS) (m k : Nat) : Prop := M.2 6 (3 * (8 * m + k)) = nI (rc M m k) ∧ rc M m k < nc M ∧ M.2 6 (3 * (8 * m + k) + 1) = nI (sl M m k) ∧ sl M m k < 8 ∧ M.2 6 (3 * (8 * m + k) + 2) = nI (fq M m k) ∧ 1 ≤ fq M m k ∧ fq M m k ≤ 20
/-- the methods are in order -/
def WM (M : PS) : Prop := M.1 2 = nI (nm M) ∧ nm M ≤ 30 ∧ (∀ m, m < nm M → Wm M m) ∧ (∀ m m', m < nm M → m' < nm M → ow M m = ow M m' → na M m = na M m' → m = m') ∧ ∀ m k, m < nm M → k < si M m → Ws M m k
/-- the classes that a planner is below, as bits -/
def anc (M : PS) : Nat → Nat → Nat
  | 0, c => 2 ^ c
  | n + 1, c => if c = 0 then 1 else anc M n (pa M c) ||| 2 ^ c
def an (M : PS) (c : Nat) : Nat := anc M c c
/-- one more than a planner's own method for a selector; 0 without one -/
def omF (M : PS) (c s : Nat) : Nat → Nat
  | 0 => 0
  | m + 1 => if ow M m = c ∧ na M m = s then m + 1 else omF M c s m
def om (M : PS) (c s : Nat) : Nat := omF M c s (nm M)
/-- one more than the method found; 0 without one -/
def fdF (M : PS) (s : Nat) : Nat → Nat → Nat
  | 0, c => om M c s
  | n + 1, c => if om M c s ≠ 0 then om M c s else if c = 0 then 0 else fdF M s n (pa M c)
def fd (M : PS) (c s : Nat) : Nat := fdF M s c c
/-- the targets, as bits, of the classes before c -/
def tsF (M : PS) (r s : Nat) : Nat → Nat
  | 0 => 0
  | c + 1 => tsF M r s c ||| (if M.2 1 c ≠ 0 ∧ (an M c).testBit r = true ∧ fd M c s ≠ 0 then 2 ^ (fd M c s - 1) else 0)
def ts (M : PS) (r s : Nat) : Nat := tsF M r s (nc M)
theorem anc_fuel {M : PS} (h : WC M) (c : Nat) : c < nc M → ∀ n, c ≤ n → anc M n c = an M c := by
  induction c using Nat.strongRecOn with
  | _ c ih =>
    intro hc n hn
    rcases Nat.eq_zero_or_pos c with h3 | h3
    · subst h3
      cases n with
      | zero => rfl
      | succ n => simp [anc, an]
    · have hp := (h.2.2.2.2.1 c h3 hc).2
      obtain ⟨c', rfl⟩ : ∃ c', c = c' + 1 := ⟨c - 1, by omega⟩
      obtain ⟨n', rfl⟩ : ∃ n', n = n' + 1 := ⟨n - 1, by omega⟩
      show (if c' + 1 = 0 then 1 else anc M n' (pa M (c' + 1)) ||| 2 ^ (c' + 1)) = (if c' + 1 = 0 then 1 else anc M c' (pa M (c' + 1)) ||| 2 ^ (c' + 1))
      rw [ih _ hp (by omega) n' (by omega), ih _ hp (by omega) c' (by omega)]
theorem an_0 (M : PS) : an M 0 = 1 := rfl
theorem an_S {M : PS} (h : WC M) {c : Nat} (h0 : 0 < c) (hc : c < nc M) : an M c = an M (pa M c) ||| 2 ^ c := by
  have hp := (h.2.2.2.2.1 c h0 hc).2
  obtain ⟨c', rfl⟩ : ∃ c', c = c' + 1 := ⟨c - 1, by omega⟩
  show (if c' + 1 = 0 then 1 else anc M c' (pa M (c' + 1)) ||| 2 ^ (c' + 1)) = _
  rw [if_neg (by omega), anc_fuel h _ (by omega) c' (by omega)]
theorem an_lt {M : PS} (h : WC M) (c : Nat) : c < nc M → an M c < 2 ^ (c + 1) := by
  induction c using Nat.strongRecOn with
  | _ c ih =>
    intro hc
    rcases Nat.eq_zero_or_pos c with h3 | h3
    · subst h3; rw [an_0]; decide
    · have hp := (h.2.2.2.2.1 c h3 hc).2
      rw [an_S h h3 hc]
      refine Nat.or_lt_two_pow ?_ (Nat.pow_lt_pow_right (by omega) (by omega))
      exact Nat.lt_of_lt_of_le (ih _ hp (by omega)) (Nat.pow_le_pow_right (by omega) (by omega))
theorem an_self {M : PS} (h : WC M) {c : Nat} (hc : c < nc M) : (an M c).testBit c = true := by
  rcases Nat.eq_zero_or_pos c with h3 | h3
  · subst h3; rw [an_0]; decide
  · rw [an_S h h3 hc, Nat.testBit_or, Nat.testBit_two_pow_self]; simp
theorem an_high {M : PS} (h : WC M) {c d : Nat} (hc : c < nc M) (hd : c < d) : (an M c).testBit d = false := Nat.testBit_lt_two_pow (Nat.lt_of_lt_of_le (an_lt h c hc) (Nat.pow_le_pow_right (by omega) (by omega)))
theorem an_par {M : PS} (h : WC M) {c d : Nat} (h0 : 0 < c) (hc : c < nc M) (hd : d ≠ c) : (an M c).testBit d = (an M (pa M c)).testBit d := by
  rw [an_S h h0 hc, Nat.testBit_or, Nat.testBit_two_pow]
  have : ¬ c = d := fun e => hd e.symm
  simp [this]
theorem fdF_fuel {M : PS} (h : WC M) (s c : Nat) : c < nc M → ∀ n, c ≤ n → fdF M s n c = fd M c s := by
  induction c using Nat.strongRecOn with
  | _ c ih =>
    intro hc n hn
    rcases Nat.eq_zero_or_pos c with h3 | h3
    · subst h3
      cases n with
      | zero => rfl
      | succ n =>
        show (if om M 0 s ≠ 0 then om M 0 s else if (0 : Nat) = 0 then 0 else fdF M s n (pa M 0)) = om M 0 s
        by_cases h4 : om M 0 s ≠ 0
        · rw [if_pos h4]
        · rw [if_neg h4, if_pos rfl]; omega
    · have hp := (h.2.2.2.2.1 c h3 hc).2
      obtain ⟨c', rfl⟩ : ∃ c', c = c' + 1 := ⟨c - 1, by omega⟩
      obtain ⟨n', rfl⟩ : ∃ n', n = n' + 1 := ⟨n - 1, by omega⟩
      show (if om M (c' + 1) s ≠ 0 then om M (c' + 1) s else if c' + 1 = 0 then 0 else fdF M s n' (pa M (c' + 1))) = (if om M (c' + 1) s ≠ 0 then om M (c' + 1) s else if c' + 1 = 0 then 0 else fdF M s c' (pa M (c' + 1)))
      rw [ih _ hp (by omega) n' (by omega), ih _ hp (by omega) c' (by omega)]
theorem fd_own {M : PS} {c s : Nat} (h : om M c s ≠ 0) : fd M c s = om M c s := by
  unfold fd
  cases c with
  | zero => rfl
  | succ c => show (if om M (c + 1) s ≠ 0 then _ else _) = _; rw [if_pos h]
theorem fd_0 {M : PS} {s : Nat} (h : om M 0 s = 0) : fd M 0 s = 0 := h
theorem fd_S {M : PS} (h : WC M) {c s : Nat} (h0 : 0 < c) (hc : c < nc M) (ho : om M c s = 0) : fd M c s = fd M (pa M c) s := by
  have hp := (h.2.2.2.2.1 c h0 hc).2
  obtain ⟨c', rfl⟩ : ∃ c', c = c' + 1 := ⟨c - 1, by omega⟩
  show (if om M (c' + 1) s ≠ 0 then om M (c' + 1) s else if c' + 1 = 0 then 0 else fdF M s c' (pa M (c' + 1))) = _
  rw [if_neg (by omega), if_neg (by omega), fdF_fuel h s _ (by omega) c' (by omega)]
theorem omF_le (M : PS) (c s : Nat) : ∀ n, omF M c s n ≤ n := by
  intro n
  induction n with
  | zero => exact Nat.le_refl _
  | succ n ih =>
    show (if ow M n = c ∧ na M n = s then n + 1 else omF M c s n) ≤ n + 1
    by_cases h : ow M n = c ∧ na M n = s
    · rw [if_pos h]; exact Nat.le_refl _
    · rw [if_neg h]; omega
theorem om_le (M : PS) (c s : Nat) : om M c s ≤ nm M := omF_le M c s _
theorem omF_some {M : PS} {c s : Nat} : ∀ n, omF M c s n ≠ 0 → omF M c s n - 1 < n ∧ ow M (omF M c s n - 1) = c ∧ na M (omF M c s n - 1) = s := by
  intro n
  induction n with
  | zero => intro h; exact absurd rfl h
  | succ n ih =>
    show (if ow M n = c ∧ na M n = s then n + 1 else omF M c s n) ≠ 0 → _
    by_cases h : ow M n = c ∧ na M n = s
    · have e : omF M c s (n + 1) = n + 1 := by show (if ow M n = c ∧ na M n = s then n + 1 else omF M c s n) = _; rw [if_pos h]
      intro _
      rw [e]
      exact ⟨by omega, by simpa using h.1, by simpa using h.2⟩
    · have e : omF M c s (n + 1) = omF M c s n := by show (if ow M n = c ∧ na M n = s then n + 1 else omF M c s n) = _; rw [if_neg h]
      rw [if_neg h, e]
      intro h2
      obtain ⟨h3, h4⟩ := ih h2
      exact ⟨by omega, h4⟩
theorem omF_none {M : PS} {c s : Nat} : ∀ n, omF M c s n = 0 → ∀ m, m < n → ¬ (ow M m = c ∧ na M m = s) := by
  intro n
  induction n with
  | zero => intro _ m hm; omega
  | succ n ih =>
    intro h0 m hm h2
    have h0 : (if ow M n = c ∧ na M n = s then n + 1 else omF M c s n) = 0 := h0
    by_cases h : ow M n = c ∧ na M n = s
    · rw [if_pos h] at h0; omega
    · rw [if_neg h] at h0
      rcases Nat.lt_or_ge m n with h3 | h3
      · exact ih h0 m h3 h2
      · have : m = n := by omega
        subst this; exact h h2
/-- the one method of a planner and a selector -/
theorem om_eq {M : PS} (h : WM M) {c s m : Nat} (hm : m < nm M) (h1 : ow M m = c) (h2 : na M m = s) : om M c s = m + 1 := by
  by_cases h0 : om M c s = 0
  · exact absurd ⟨h1, h2⟩ (omF_none _ h0 m hm)
  · obtain ⟨h3, h4, h5⟩ := omF_some _ h0
    have := h.2.2.2.1 _ _ h3 hm (by rw [h4, h1]) (by rw [h5, h2])
    have h6 : om M c s - 1 = m := this
    omega
theorem fd_le {M : PS} (h : WC M) (s c : Nat) : c < nc M → fd M c s ≤ nm M := by
  induction c using Nat.strongRecOn with
  | _ c ih =>
    intro hc
    by_cases ho : om M c s = 0
    · rcases Nat.eq_zero_or_pos c with h3 | h3
      · subst h3; rw [fd_0 ho]; exact Nat.zero_le _
      · rw [fd_S h h3 hc ho]; exact ih _ (h.2.2.2.2.1 c h3 hc).2 (Nat.lt_trans (h.2.2.2.2.1 c h3 hc).2 hc)
    · rw [fd_own ho]; exact om_le M c s
theorem tsF_lt {M : PS} (h : WC M) (hM : WM M) (r s : Nat) : ∀ c, c ≤ nc M → tsF M r s c < 2 ^ 30 := by
  intro c
  induction c with
  | zero => intro _; show 0 < 2 ^ 30; decide
  | succ c ih =>
    intro hc
    show tsF M r s c ||| (if M.2 1 c ≠ 0 ∧ (an M c).testBit r = true ∧ fd M c s ≠ 0 then 2 ^ (fd M c s - 1) else 0) < 2 ^ 30
    refine Nat.or_lt_two_pow (ih (by omega)) ?_
    by_cases h2 : M.2 1 c ≠ 0 ∧ (an M c).testBit r = true ∧ fd M c s ≠ 0
    · rw [if_pos h2]
      have := fd_le h s c (by omega)
      have := hM.2.1
      exact Nat.pow_lt_pow_right (by omega) (by omega)
    · rw [if_neg h2]; decide
theorem ts_lt {M : PS} (h : WC M) (hM : WM M) (r s : Nat) : ts M r s < 2 ^ 30 := tsF_lt h hM r s _ (Nat.le_refl _)
/-- a member of the targets is a method -/
theorem tsF_bit {M : PS} (h : WC M) {r s m : Nat} : ∀ c, c ≤ nc M → (tsF M r s c).testBit m = true → m < nm M := by
  intro c
  induction c with
  | zero => intro _ h2; have h2 : (0 : Nat).testBit m = true := h2; simp at h2
  | succ c ih =>
    intro hc h2
    have h2 : (tsF M r s c ||| (if M.2 1 c ≠ 0 ∧ (an M c).testBit r = true ∧ fd M c s ≠ 0 then 2 ^ (fd M c s - 1) else 0)).testBit m = true := h2
    rw [Nat.testBit_or] at h2
    rcases Bool.or_eq_true_iff.mp h2 with h3 | h3
    · exact ih (by omega) h3
    · by_cases h4 : M.2 1 c ≠ 0 ∧ (an M c).testBit r = true ∧ fd M c s ≠ 0
      · rw [if_pos h4, Nat.testBit_two_pow] at h3
        have h5 : fd M c s - 1 = m := by simpa using h3
        have := fd_le h s c (by omega)
        have := h4.2.2
        omega
      · rw [if_neg h4] at h3; simp at h3
