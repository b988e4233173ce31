/-! prune: which nodes are kept, and what their numbers are then -/
def kpF (M : PS) : Nat → Nat → Bool
  | 0, _ => true
  | f + 1, i => if i = 0 then true else hb M i && kpF M f (np M i)
def kp (M : PS) (i : Nat) : Bool := kpF M i i
def cn (M : PS) : Nat → Nat
  | 0 => 0
  | i + 1 => cn M i + (if kp M i = true then 1 else 0)
def szK (M : PS) : Nat → Nat
  | 0 => 0
  | i + 1 => szK M i + (if kp M i = true then zs M (nd M i) else 0)
theorem kp_fuel {M : PS} {n : Nat} (hN : ∀ i, i < n → Wn M i) (i : Nat) : i < n → ∀ f, i ≤ f → kpF M f i = kp M i := by
  induction i using Nat.strongRecOn with
  | _ i ih =>
    intro hi f hf
    rcases Nat.eq_zero_or_pos i with h3 | h3
    · subst h3
      cases f with
      | zero => rfl
      | succ f => simp [kpF, kp]
    · have hp := ((hN i hi).2.2.2.2.2 h3).2.1
      obtain ⟨i', rfl⟩ : ∃ i', i = i' + 1 := ⟨i - 1, by omega⟩
      obtain ⟨f', rfl⟩ : ∃ f', f = f' + 1 := ⟨f - 1, by omega⟩
      show (if i' + 1 = 0 then true else hb M (i' + 1) && kpF M f' (np M (i' + 1))) = (if i' + 1 = 0 then true else hb M (i' + 1) && kpF M i' (np M (i' + 1)))
      rw [ih _ hp (by omega) f' (by omega), ih _ hp (by omega) i' (by omega)]
theorem kp_0 (M : PS) : kp M 0 = true := rfl
theorem kp_S {M : PS} {n : Nat} (hN : ∀ i, i < n → Wn M i) {i : Nat} (h0 : 0 < i) (hi : i < n) : kp M i = (hb M i && kp M (np M i)) := by
  have hp := ((hN i hi).2.2.2.2.2 h0).2.1
  obtain ⟨i', rfl⟩ : ∃ i', i = i' + 1 := ⟨i - 1, by omega⟩
  show (if i' + 1 = 0 then true else hb M (i' + 1) && kpF M i' (np M (i' + 1))) = _
  rw [if_neg (by omega), kp_fuel hN _ (by omega) i' (by omega)]
theorem cn_le (M : PS) : ∀ i, cn M i ≤ i := by
  intro i
  induction i with
  | zero => exact Nat.le_refl _
  | succ i ih =>
    show cn M i + _ ≤ i + 1
    by_cases h : kp M i = true
    · rw [if_pos h]; omega
    · rw [if_neg h]; omega
theorem cn_kp {M : PS} {i : Nat} (h : kp M i = true) : cn M (i + 1) = cn M i + 1 := by
  show cn M i + _ = _
  rw [if_pos h]
theorem cn_nk {M : PS} {i : Nat} (h : ¬ kp M i = true) : cn M (i + 1) = cn M i := by
  show cn M i + _ = _
  rw [if_neg h]; rfl
theorem cn_mono {M : PS} : ∀ {i j : Nat}, i ≤ j → cn M i ≤ cn M j := by
  intro i j h
  induction j with
  | zero => have : i = 0 := by omega
            subst this; exact Nat.le_refl _
  | succ j ih =>
    rcases Nat.lt_or_ge i (j + 1) with h1 | h1
    · have h2 := ih (by omega)
      have : cn M j ≤ cn M (j + 1) := by
        show cn M j ≤ cn M j + _
        omega
      omega
    · have : i = j + 1 := by omega
      subst this; exact Nat.le_refl _
theorem cn_lt {M : PS} {i j : Nat} (h : i < j) (hk : kp M i = true) : cn M i < cn M j := by
  have := cn_mono (M := M) (show i + 1 ≤ j by omega)
  rw [cn_kp hk] at this
  omega
theorem cn_ex {M : PS} : ∀ {n c : Nat}, c < cn M n → ∃ i, i < n ∧ kp M i = true ∧ cn M i = c := by
  intro n
  induction n with
  | zero => intro c h; have h : c < 0 := h; omega
  | succ n ih =>
    intro c h
    by_cases hk : kp M n = true
    · rw [cn_kp hk] at h
      rcases Nat.lt_or_ge c (cn M n) with h1 | h1
      · obtain ⟨i, a, b, d⟩ := ih h1
        exact ⟨i, by omega, b, d⟩
      · exact ⟨n, by omega, hk, by omega⟩
    · rw [cn_nk hk] at h
      obtain ⟨i, a, b, d⟩ := ih h
      exact ⟨i, by omega, b, d⟩
/-- a new number, or -1 -/
def nw (M : PS) (i : Nat) : Int32 := if kp M i = true then nI (cn M i) else -1
/-- the site of a node that goes, of the nodes before i: the planner looks at kept parents alone -/
def mkC (M : PS) (i t : Nat) : Prop := ∃ j, j < i ∧ 0 < j ∧ ¬ kp M j = true ∧ kp M (np M j) = true ∧ t = 8 * np M j + ns M j
def mkR (M : PS) (i t : Nat) : Prop := ∃ j, j < i ∧ 0 < j ∧ ¬ kp M j = true ∧ t = 8 * np M j + ns M j
/-- s places of row f from block i on to block c -/
def cp (f : Nat → Int32) (c i s : Nat) : Nat → Int32 := fun t => if 8 * c ≤ t ∧ t < 8 * c + s then f (8 * i + (t - 8 * c)) else f t
theorem cp_0 (f : Nat → Int32) (c i : Nat) : cp f c i 0 = f := by
  funext t
  unfold cp
  rw [if_neg (by omega)]
theorem cp_S (f : Nat → Int32) {c i s : Nat} (hci : c ≤ i) (hs : s < 8) : upd (cp f c i s) (8 * c + s) (cp f c i s (8 * i + s)) = cp f c i (s + 1) := by
  funext t
  rw [upd_e]
  unfold cp
  by_cases h : t = 8 * c + s
  · rw [if_pos h, if_neg (by omega), if_pos (by omega)]
    congr 1; omega
  · rw [if_neg h]
    by_cases h2 : 8 * c ≤ t ∧ t < 8 * c + s
    · rw [if_pos h2, if_pos (by omega)]
    · rw [if_neg h2, if_neg (by omega)]
theorem cp_in (f : Nat → Int32) {c i s k : Nat} (hk : k < s) : cp f c i s (8 * c + k) = f (8 * i + k) := by
  unfold cp
  rw [if_pos (by omega)]
  congr 1; omega
theorem cp_out (f : Nat → Int32) {c i s t : Nat} (h : ¬ (8 * c ≤ t ∧ t < 8 * c + s)) : cp f c i s t = f t := by
  unfold cp
  rw [if_neg h]
theorem coreS_of {S S' : PS} (h1 : ∀ k, k < 5 → S'.1 k = S.1 k) (h2 : ∀ k, k < 9 → S'.2 k = S.2 k) : coreS S' = coreS S := by
  refine Prod.ext (funext fun j => ?_) (funext fun j => ?_)
  · show (if j < 5 then S'.1 j else 0) = (if j < 5 then S.1 j else 0)
    by_cases hj : j < 5
    · rw [if_pos hj, if_pos hj, h1 j hj]
    · rw [if_neg hj, if_neg hj]
  · show (if j < 9 then S'.2 j else fun _ => 0) = (if j < 9 then S.2 j else fun _ => 0)
    by_cases hj : j < 9
    · rw [if_pos hj, if_pos hj, h2 j hj]
    · rw [if_neg hj, if_neg hj]
theorem core_of {M M' : PS} (h1 : ∀ k, k = 1 ∨ k = 2 → M'.1 k = M.1 k) (h2 : ∀ k, k < 7 → M'.2 k = M.2 k) : core M' = core M := by
  refine Prod.ext (funext fun j => ?_) (funext fun j => ?_)
  · show (if j = 1 then M'.1 1 else if j = 2 then M'.1 2 else 0) = (if j = 1 then M.1 1 else if j = 2 then M.1 2 else 0)
    rw [h1 1 (by simp), h1 2 (by simp)]
  · show (if j < 7 then M'.2 j else fun _ => 0) = (if j < 7 then M.2 j else fun _ => 0)
    by_cases hj : j < 7
    · rw [if_pos hj, if_pos hj, h2 j hj]
    · rw [if_neg hj, if_neg hj]
/-! the planner -/
theorem e_numberAnew {S M : PS} (hC : WC M) (hM : WM M) (hS : SC S M) (hT : SM S M) (hP : WP M) (hQ : SP S M) : ∃ A, q_X3_numberAnew S = some (A, nI (cn M (nn M))) ∧ A.1 = S.1 ∧ (∀ k, k ≠ 13 → k ≠ 16 → A.2 k = S.2 k) ∧ (∀ j, j < nn M → A.2 16 j = nw M j) ∧ (∀ t, mkC M (nn M) t → A.2 13 t = 7) ∧ ∀ t, ¬ mkC M (nn M) t → A.2 13 t = S.2 13 t := by
  have h50 := hP.2.2.1
  unfold q_X3_numberAnew
  rw [← nI_0]
  refine Exists.elim (forE3m (n := nn M) (f := q_X3_numberAnew_L4) (e := fun x u => some (u, x)) (fun i x A => x = nI (cn M i) ∧ A.1 = S.1 ∧ (∀ k, k ≠ 13 → k ≠ 16 → A.2 k = S.2 k) ∧ (∀ j, j < i → A.2 16 j = nw M j) ∧ (∀ t, mkC M i t → A.2 13 t = 7) ∧ ∀ t, ¬ mkC M i t → A.2 13 t = S.2 13 t) (fun rec i x A hi hA => ?_) (fun rec x A hA => ?_) 1000 0 (nI 0) S (Nat.zero_le _) (by omega) ⟨rfl, rfl, fun _ _ _ => rfl, fun j hj => by omega, fun t ht => ?_, fun _ _ => rfl⟩) ?_
  · obtain ⟨rfl, a1, a2, a3, a4, a5⟩ := hA
    have hcs : coreS A = coreS S := coreS_of (fun k _ => by rw [a1]) (fun k hk => a2 k (by omega) (by omega))
    obtain ⟨n1, n2, -, -, n3, n4⟩ := hP.2.2.2.1 i hi
    have hsound := e_isSound hC hM (SC_core (S := S) (M := M) rfl hcs hS) (SM_core (S := S) (M := M) rfl hcs hT) (n := nn M) h50 hP.2.2.2.1 (fun i hi => by unfold SPn; rw [a2 9 (by decide) (by decide), a2 10 (by decide) (by decide), a2 11 (by decide) (by decide), a2 12 (by decide) (by decide)]; exact hQ.2.1 i hi) hi
    have hcl := cn_le M i
    unfold q_X3_numberAnew_L4
    rw [a1, hQ.1, hP.1, if_neg (nI_ge hi (by omega)), a2 10 (by decide) (by decide), rd_nI _ (by omega) (by omega), ob_some, (hQ.2.1 i hi).2.1, nI_1, nI_1]
    rcases Nat.eq_zero_or_pos i with h0 | h0
    · subst h0
      rw [(n3 rfl).1, if_pos m1_neg, hsound, ob_some, if_pos (show hb M 0 = true by unfold hb; simp), if_neg d10, wA_nI _ _ _ (by omega) (by omega), ob_some]
      refine ⟨_, _, ⟨?_, ?_, ?_, ?_, ?_, ?_⟩, rfl⟩
      · rw [cn_kp (kp_0 M)]
      · exact a1
      · intro k h1 h2
        rw [sA_o _ _ h2, a2 k h1 h2]
      · intro j hj
        have : j = 0 := by omega
        subst this
        rw [sA_s, upd_s]
        unfold nw
        rw [if_pos (kp_0 M)]
      · intro t ht
        obtain ⟨j, j1, j2, -⟩ := ht
        omega
      · intro t ht
        rw [sA_o _ _ (by decide)]
        exact a5 t (fun ⟨j, j1, j2, _⟩ => by omega)
    · obtain ⟨b1, b2, b3, b4, -⟩ := n4 h0
      have hks := kp_S hP.2.2.2.1 h0 hi
      rw [b1, if_neg (nI_pos (by omega)), rd_nI _ (by omega) (by omega), ob_some, a3 _ b2]
      have keep : ∀ t, (mkC M (i + 1) t ↔ mkC M i t ∨ (¬ kp M i = true ∧ kp M (np M i) = true ∧ t = 8 * np M i + ns M i)) := by
        intro t
        constructor
        · rintro ⟨j, j1, j2, j3⟩
          rcases Nat.lt_or_ge j i with h | h
          · exact Or.inl ⟨j, h, j2, j3⟩
          · have : j = i := by omega
            subst this; exact Or.inr j3
        · rintro (⟨j, j1, j2, j3⟩ | j3)
          · exact ⟨j, by omega, j2, j3⟩
          · exact ⟨i, by omega, h0, j3⟩
      by_cases hkp : kp M (np M i) = true
      · have hnw : nw M (np M i) = nI (cn M (np M i)) := by unfold nw; rw [if_pos hkp]
        have := cn_le M (np M i)
        rw [hnw, if_neg (nI_pos (by omega)), hsound, ob_some]
        by_cases hh : hb M i = true
        · have hki : kp M i = true := by rw [hks, hh, hkp]; rfl
          rw [if_pos hh, if_neg d10, wA_nI _ _ _ (by omega) (by omega), ob_some]
          refine ⟨_, _, ⟨by rw [cn_kp hki], ?_, ?_, ?_, ?_, ?_⟩, rfl⟩
          · exact a1
          · intro k h1 h2
            rw [sA_o _ _ h2, a2 k h1 h2]
          · intro j hj
            rw [sA_s, upd_e]
            by_cases hj2 : j = i
            · subst hj2; rw [if_pos rfl]; unfold nw; rw [if_pos hki]
            · rw [if_neg hj2]; exact a3 j (by omega)
          · intro t ht
            rw [sA_o _ _ (by decide)]
            rcases (keep t).mp ht with h | h
            · exact a4 t h
            · exact absurd hki h.1
          · intro t ht
            rw [sA_o _ _ (by decide)]
            exact a5 t (fun h => ht ((keep t).mpr (Or.inl h)))
        · have hki : ¬ kp M i = true := by rw [hks]; simp [hh]
          have hp8 := sn_le hM (hP.2.2.2.1 (np M i) (by omega)).2.1
          rw [if_neg hh, if_pos rfl, wA_nI _ _ _ (by omega) (by omega), ob_some, sA_o _ _ (by decide), a2 11 (by decide) (by decide), rd_nI _ (by omega) (by omega), ob_some, (hQ.2.1 i hi).2.2.1, b3]
          unfold q_X5_slot
          rw [ob_some, slotN, wA_nI _ _ _ (by omega) (by omega), ob_some]
          refine ⟨_, _, ⟨by rw [cn_nk hki], ?_, ?_, ?_, ?_, ?_⟩, rfl⟩
          · exact a1
          · intro k h1 h2
            rw [sA_o _ _ h1, sA_o _ _ h2, a2 k h1 h2]
          · intro j hj
            rw [sA_o _ _ (by decide), sA_s, upd_e]
            by_cases hj2 : j = i
            · subst hj2; rw [if_pos rfl]; unfold nw; rw [if_neg hki]
            · rw [if_neg hj2]; exact a3 j (by omega)
          · intro t ht
            rw [sA_s, sA_o _ _ (by decide), upd_e]
            by_cases h1 : t = 8 * np M i + ns M i
            · rw [if_pos h1]
            · rw [if_neg h1]
              rcases (keep t).mp ht with h | h
              · exact a4 t h
              · exact absurd h.2.2 h1
          · intro t ht
            rw [sA_s, sA_o _ _ (by decide), upd_e]
            rw [if_neg (fun h1 => ht ((keep t).mpr (Or.inr ⟨hki, hkp, h1⟩)))]
            exact a5 t (fun h => ht ((keep t).mpr (Or.inl h)))
      · have hnw : nw M (np M i) = -1 := by unfold nw; rw [if_neg hkp]
        have hki : ¬ kp M i = true := by rw [hks]; simp [hkp]
        rw [hnw, if_pos m1_neg, wA_nI _ _ _ (by omega) (by omega), ob_some]
        refine ⟨_, _, ⟨by rw [cn_nk hki], ?_, ?_, ?_, ?_, ?_⟩, rfl⟩
        · exact a1
        · intro k h1 h2
          rw [sA_o _ _ h2, a2 k h1 h2]
        · intro j hj
          rw [sA_s, upd_e]
          by_cases hj2 : j = i
          · subst hj2; rw [if_pos rfl]; unfold nw; rw [if_neg hki]
          · rw [if_neg hj2]; exact a3 j (by omega)
        · intro t ht
          rw [sA_o _ _ (by decide)]
          rcases (keep t).mp ht with h | h
          · exact a4 t h
          · exact absurd h.2.1 hkp
        · intro t ht
          rw [sA_o _ _ (by decide)]
          exact a5 t (fun h => ht ((keep t).mpr (Or.inl h)))
  · unfold q_X3_numberAnew_L4
    rw [hA.2.1, hQ.1, hP.1, if_pos (nI_le (Nat.le_refl _) (by omega))]
  · obtain ⟨j, j1, -⟩ := ht; omega
  · rintro x ⟨A, ⟨rfl, a1, a2, a3, a4, a5⟩, e⟩
    exact ⟨A, e, a1, a2, a3, a4, a5⟩
