/-! plan: copies on a path, sets with one member, the list of what waits -/
def tmF (M : PS) (m : Nat) : Nat → Nat → Nat
  | 0, i => if nd M i = m then 1 else 0
  | f + 1, i => (if nd M i = m then 1 else 0) + (if i = 0 then 0 else tmF M m f (np M i))
def tm (M : PS) (m i : Nat) : Nat := tmF M m i i
theorem tmF_fuel {M : PS} {n m : Nat} (hN : ∀ i, i < n → Wn M i) (i : Nat) : i < n → ∀ f, i ≤ f → tmF M m f i = tm M m i := by
  induction i using Nat.strongRecOn with
  | _ i ih =>
    intro hi f hf
    rcases Nat.eq_zero_or_pos i with h3 | h3
    · subst h3
      cases f with
      | zero => rfl
      | succ f => show (if nd M 0 = m then 1 else 0) + (if (0 : Nat) = 0 then 0 else _) = (if nd M 0 = m then 1 else 0); rw [if_pos rfl]; rfl
    · have hp := ((hN i hi).2.2.2.2.2 h3).2.1
      obtain ⟨i', rfl⟩ : ∃ i', i = i' + 1 := ⟨i - 1, by omega⟩
      obtain ⟨f', rfl⟩ : ∃ f', f = f' + 1 := ⟨f - 1, by omega⟩
      show (if nd M (i' + 1) = m then 1 else 0) + (if i' + 1 = 0 then 0 else tmF M m f' (np M (i' + 1))) = (if nd M (i' + 1) = m then 1 else 0) + (if i' + 1 = 0 then 0 else tmF M m i' (np M (i' + 1)))
      rw [ih _ hp (by omega) f' (by omega), ih _ hp (by omega) i' (by omega)]
theorem tm_0 (M : PS) (m : Nat) : tm M m 0 = if nd M 0 = m then 1 else 0 := rfl
theorem tm_S {M : PS} {n m : Nat} (hN : ∀ i, i < n → Wn M i) {i : Nat} (h0 : 0 < i) (hi : i < n) : tm M m i = (if nd M i = m then 1 else 0) + tm M m (np M i) := by
  have hp := ((hN i hi).2.2.2.2.2 h0).2.1
  obtain ⟨i', rfl⟩ : ∃ i', i = i' + 1 := ⟨i - 1, by omega⟩
  show (if nd M (i' + 1) = m then 1 else 0) + (if i' + 1 = 0 then 0 else tmF M m i' (np M (i' + 1))) = _
  rw [tmF_fuel hN _ (by omega) i' (by omega), if_neg (show ¬ i' + 1 = 0 by omega)]
theorem l_times {M : PS} {n m : Nat} (hn : n ≤ 50) (hN : ∀ i, i < n → Wn M i) (hmm : nm M ≤ 30) (hm : m < 30) : ∀ (k i x : Nat), i + 1 < k → i < n → iter2 (q_X6_times_L5 M (nI m)) k (nI x) (nI i) = some (nI (x + tm M m i)) := by
  intro k
  induction k with
  | zero => intro i x h; omega
  | succ k ih =>
    intro i x h1 hi
    show q_X6_times_L5 M (nI m) (iter2 (q_X6_times_L5 M (nI m)) k) (nI x) (nI i) = _
    have hend : ∀ y : Int32, iter2 (q_X6_times_L5 M (nI m)) k y (-1) = some y := by
      intro y
      obtain ⟨k', rfl⟩ : ∃ k', k = k' + 1 := ⟨k - 1, by omega⟩
      show q_X6_times_L5 M (nI m) (iter2 (q_X6_times_L5 M (nI m)) k') y (-1) = some y
      generalize iter2 (q_X6_times_L5 M (nI m)) k' = rec
      unfold q_X6_times_L5
      rw [if_pos rfl]
    generalize iter2 (q_X6_times_L5 M (nI m)) k = rec at ih hend ⊢
    obtain ⟨n1, n2, -, -, n3, n4⟩ := hN i hi
    unfold q_X6_times_L5
    rw [if_neg (nI_nm1 (by omega)), rd_nI _ (by omega) (by omega), ob_some, n1, rd_nI _ (by omega) (by omega)]
    have e0 : (0 : Int32) = nI 0 := rfl
    rcases Nat.eq_zero_or_pos i with h0 | h0
    · subst h0
      rw [(n3 rfl).1, tm_0]
      by_cases hc : nd M 0 = m
      · rw [hc, if_pos rfl, if_pos rfl, ob_some, nI_1, hend]
      · rw [if_neg hc, if_neg (nI_nec hc (by omega) (by omega)), ob_some, e0, nI_add, hend]
    · obtain ⟨b1, b2, -⟩ := n4 h0
      rw [b1, tm_S hN h0 hi]
      by_cases hc : nd M i = m
      · rw [hc, if_pos rfl, if_pos rfl, ob_some, nI_1, ih _ _ (by omega) (by omega)]
        congr 2; omega
      · rw [if_neg hc, if_neg (nI_nec hc (by omega) (by omega)), ob_some, e0, nI_add, ih _ _ (by omega) (by omega)]
        congr 2; omega
theorem e_times {M : PS} {n m i : Nat} (hn : n ≤ 50) (hN : ∀ i, i < n → Wn M i) (hmm : nm M ≤ 30) (hm : m < 30) (hi : i < n) : q_X6_times M (nI i) (nI m) = some (nI (tm M m i)) := by
  unfold q_X6_times
  have := l_times hn hN hmm hm 1000 i 0 (by omega) hi
  rw [nI_0, Nat.zero_add] at this
  exact this
theorem l_copies {S M : PS} {n m : Nat} (hn : n ≤ 50) (hN : ∀ i, i < n → Wn M i) (hP : ∀ i, i < n → SPn S M i) (hmm : nm M ≤ 30) (hm : m < 30) : ∀ (k i x y : Nat), i + 1 < k → i < n → dp M i + y ≤ 10 → iter3 (q_X3_copiesOnPath_L8 S (nI m)) k (nI x) (nI i) (nI y) = some (nI (x + tm M m i)) := by
  intro k
  induction k with
  | zero => intro i x y h; omega
  | succ k ih =>
    intro i x y h1 hi hy
    show q_X3_copiesOnPath_L8 S (nI m) (iter3 (q_X3_copiesOnPath_L8 S (nI m)) k) (nI x) (nI i) (nI y) = _
    have hend : ∀ u v : Int32, iter3 (q_X3_copiesOnPath_L8 S (nI m)) k u (-1) v = some u := by
      intro u v
      obtain ⟨k', rfl⟩ : ∃ k', k = k' + 1 := ⟨k - 1, by omega⟩
      show q_X3_copiesOnPath_L8 S (nI m) (iter3 (q_X3_copiesOnPath_L8 S (nI m)) k') u (-1) v = some u
      generalize iter3 (q_X3_copiesOnPath_L8 S (nI m)) k' = rec
      unfold q_X3_copiesOnPath_L8
      by_cases h : 10 < v
      · rw [if_pos h]
      · rw [if_neg h, if_pos m1_neg]
    generalize iter3 (q_X3_copiesOnPath_L8 S (nI m)) k = rec at ih hend ⊢
    obtain ⟨n1, n2, -, -, n3, n4⟩ := hN i hi
    obtain ⟨p1, p2, -⟩ := hP i hi
    unfold q_X3_copiesOnPath_L8
    rw [show (10 : Int32) = nI 10 from rfl, if_neg (nI_nltc (by omega) (by omega)), if_neg (nI_pos (by omega)), rd_nI _ (by omega) (by omega), ob_some, p1, n1, rd_nI _ (by omega) (by omega), p2]
    rcases Nat.eq_zero_or_pos i with h0 | h0
    · subst h0
      rw [(n3 rfl).1, tm_0]
      by_cases hc : nd M 0 = m
      · rw [hc, if_pos rfl, if_pos rfl, ob_some, nI_1, hend]
      · rw [if_neg hc, if_neg (nI_nec hc (by omega) (by omega)), ob_some, hend]; rfl
    · obtain ⟨b1, b2, b3, b4, b5⟩ := n4 h0
      rw [b1, tm_S hN h0 hi]
      by_cases hc : nd M i = m
      · rw [hc, if_pos rfl, if_pos rfl, ob_some, nI_1, nI_1, ih _ _ _ (by omega) (by omega) (by omega)]
        congr 2; omega
      · rw [if_neg hc, if_neg (nI_nec hc (by omega) (by omega)), ob_some, nI_1, ih _ _ _ (by omega) (by omega) (by omega)]
        congr 2; omega
theorem e_copies {S M : PS} {n m i : Nat} (hn : n ≤ 50) (hN : ∀ i, i < n → Wn M i) (hP : ∀ i, i < n → SPn S M i) (hmm : nm M ≤ 30) (hm : m < 30) (hi : i < n) : q_X3_copiesOnPath S (nI i) (nI m) = some (nI (tm M m i)) := by
  unfold q_X3_copiesOnPath
  have := l_copies hn hN hP hmm hm 1000 i 0 0 (by omega) hi (hN i hi).2.2.2.1
  rw [nI_0, Nat.zero_add] at this
  exact this
/-! a set with one member -/
theorem pcn_one {a : Nat} (ha : a < 2 ^ 30) (h : pcn a 30 = 1) : ∃ m, m < 30 ∧ a = 2 ^ m := by
  have key : ∀ n, pcn a n = 1 → ∃ m, m < n ∧ a.testBit m = true ∧ ∀ j, j < n → j ≠ m → a.testBit j = false := by
    intro n
    induction n with
    | zero => intro h; have h : (0 : Nat) = 1 := h; omega
    | succ n ih =>
      intro h
      have h : pcn a n + (if a.testBit n = true then 1 else 0) = 1 := h
      by_cases hb : a.testBit n = true
      · rw [if_pos hb] at h
        refine ⟨n, by omega, hb, fun j hj hjn => pcn_zero n (by omega) j (by omega)⟩
      · rw [if_neg hb] at h
        obtain ⟨m, m1, m2, m3⟩ := ih (by omega)
        refine ⟨m, by omega, m2, fun j hj hjm => ?_⟩
        rcases Nat.lt_or_ge j n with h1 | h1
        · exact m3 j h1 hjm
        · have : j = n := by omega
          subst this; simpa using hb
  obtain ⟨m, m1, m2, m3⟩ := key 30 h
  refine ⟨m, m1, Nat.eq_of_testBit_eq (fun i => ?_)⟩
  rw [Nat.testBit_two_pow]
  by_cases hi : m = i
  · subst hi; rw [m2]; simp
  · rcases Nat.lt_or_ge i 30 with h1 | h1
    · rw [m3 i h1 (fun e => hi e.symm)]; simp [hi]
    · rw [Nat.testBit_lt_two_pow (Nat.lt_of_lt_of_le ha (Nat.pow_le_pow_right (by omega) h1))]; simp [hi]
theorem mb_pow {m : Nat} (hm : m < 30) : mb (2 ^ m) 0 30 0 = nI m := mb_first 30 0 m (by omega) (by omega) Nat.testBit_two_pow_self (fun j _ hj => by rw [Nat.testBit_two_pow]; simp; omega)
theorem pcn_pow {m : Nat} (hm : m < 30) : pcn (2 ^ m) 30 = 1 := (by decide +kernel : ∀ m, m < 30 → pcn (2 ^ m) 30 = 1) m hm
/-! the list of what waits -/
/-- what is taken later has the smaller key -/
def kq (S : PS) (j : Nat) : Nat := nv (S.2 18 j) * 400 + (399 - nv (S.2 17 j))
def wl (S : PS) (w : Nat) : Prop := S.1 7 = nI w ∧ (∀ j, j < w → S.2 17 j = nI (nv (S.2 17 j)) ∧ nv (S.2 17 j) < 400 ∧ S.2 18 j = nI (nv (S.2 18 j)) ∧ nv (S.2 18 j) < 2 ^ 31) ∧ ∀ j j', j < j' → j' < w → kq S j < kq S j'
/-- the row with one more in place p -/
def inr_ (f : Nat → Int32) (p : Nat) (v : Int32) (j : Nat) : Int32 := if j < p then f j else if j = p then v else f (j - 1)
theorem e_before {X : PS} {t q a b c : Nat} (hc : c < 400) (h1 : X.2 17 c = nI a) (h2 : X.2 18 c = nI b) (ha : a < 400) (hb : b < 2 ^ 31) (ht : t < 400) (hq : q < 2 ^ 31) (hne : t ≠ a) : q_X4_isTakenBefore X (nI t) (nI q) (nI c) = some (if b * 400 + (399 - a) < q * 400 + (399 - t) then 1 else 0) := by
  unfold q_X4_isTakenBefore
  rw [rd_nI _ hc (by omega), ob_some, h2]
  by_cases hqb : q = b
  · subst hqb
    rw [if_pos rfl, rd_nI _ hc (by omega), ob_some, h1]
    by_cases hat : a ≤ t
    · rw [if_pos (nI_lec hat (by omega)), if_neg (by omega)]
    · rw [if_neg (nI_nlec (by omega) (by omega)), if_pos (by omega)]
  · rw [if_neg (nI_nec hqb hq hb), ob_some]
    by_cases hle : q ≤ b
    · rw [if_pos (nI_lec hle hb), if_neg (by omega)]
    · rw [if_neg (nI_nlec (by omega) hq), if_pos (by omega)]
theorem l_insert {S : PS} {w t q : Nat} (hw : w < 400) (hS : wl S w) (ht : t < 400) (hq : q < 2 ^ 31) (hne : ∀ j, j < w → nv (S.2 17 j) ≠ t) : ∀ (k c : Nat) (X : PS), c < k → c ≤ w → X.1 = S.1 → (∀ r, r ≠ 17 → r ≠ 18 → X.2 r = S.2 r) → (∀ j, j < c → X.2 17 j = S.2 17 j ∧ X.2 18 j = S.2 18 j) → (∀ j, c < j → j ≤ w → X.2 17 j = S.2 17 (j - 1) ∧ X.2 18 j = S.2 18 (j - 1)) → (∀ j, c ≤ j → j < w → q * 400 + (399 - t) < kq S j) →
    ∃ p Y, p ≤ w ∧ iter2 (q_X4_insert_L5 (nI t) (nI q)) k (nI c) X = some Y ∧ Y.1 7 = nI (w + 1) ∧ (∀ r, r ≠ 7 → Y.1 r = S.1 r) ∧ (∀ r, r ≠ 17 → r ≠ 18 → Y.2 r = S.2 r) ∧ (∀ j, j ≤ w → Y.2 17 j = inr_ (S.2 17) p (nI t) j ∧ Y.2 18 j = inr_ (S.2 18) p (nI q) j) ∧ (∀ j, p ≤ j → j < w → q * 400 + (399 - t) < kq S j) ∧ ∀ j, j < p → kq S j < q * 400 + (399 - t) := by
  obtain ⟨s7, s1, s2⟩ := hS
  intro k
  induction k with
  | zero => intro c X h; omega
  | succ k ih =>
    intro c X h1 hc x1 x2 x3 x4 x5
    show ∃ p Y, p ≤ w ∧ q_X4_insert_L5 (nI t) (nI q) (iter2 (q_X4_insert_L5 (nI t) (nI q)) k) (nI c) X = some Y ∧ _
    generalize iter2 (q_X4_insert_L5 (nI t) (nI q)) k = rec at ih ⊢
    have put : (∀ j, j < c → kq S j < q * 400 + (399 - t)) → ∃ p Y, p ≤ w ∧ ((wA X 17 400 (nI c) (nI t)).bind fun S1 => (wA S1 18 400 (nI c) (nI q)).bind fun S2 => (wN S2 7 ((S2.1 7) + 1)).bind fun S3 => some S3) = some Y ∧ Y.1 7 = nI (w + 1) ∧ (∀ r, r ≠ 7 → Y.1 r = S.1 r) ∧ (∀ r, r ≠ 17 → r ≠ 18 → Y.2 r = S.2 r) ∧ (∀ j, j ≤ w → Y.2 17 j = inr_ (S.2 17) p (nI t) j ∧ Y.2 18 j = inr_ (S.2 18) p (nI q) j) ∧ (∀ j, p ≤ j → j < w → q * 400 + (399 - t) < kq S j) ∧ ∀ j, j < p → kq S j < q * 400 + (399 - t) := by
      intro hlow
      refine ⟨c, _, hc, by rw [wA_nI _ _ _ (by omega) (by omega), ob_some, wA_nI _ _ _ (by omega) (by omega), ob_some, wN_e, ob_some], ?_, ?_, ?_, ?_, x5, hlow⟩
      · rw [sN0, sA_1, sA_1, x1, s7, nI_1]
      · intro r hr
        rw [sN_o _ _ hr, sA_1, sA_1, x1]
      · intro r r1 r2
        rw [sN_2, sA_o _ _ r2, sA_o _ _ r1, x2 r r1 r2]
      · intro j hj
        rw [sN_2, sA_o _ _ (by decide), sA_s, sA_s, sA_o _ _ (by decide), upd_e, upd_e]
        unfold inr_
        rcases Nat.lt_trichotomy j c with h | h | h
        · rw [if_pos h, if_pos h, if_neg (by omega), if_neg (by omega)]; exact x3 j h
        · subst h; simp
        · rw [if_neg (by omega), if_neg (by omega), if_neg (by omega), if_neg (by omega), if_neg (by omega), if_neg (by omega)]; exact x4 j h hj
    unfold q_X4_insert_L5
    rcases Nat.eq_zero_or_pos c with h0 | h0
    · subst h0
      rw [if_pos (by decide)]
      exact put (fun j hj => by omega)
    · have ec : ¬ nI c ≤ 0 := by rw [show (0 : Int32) = nI 0 from rfl]; exact nI_nlec h0 (by omega)
      obtain ⟨a1, a2, a3, a4⟩ := s1 (c - 1) (by omega)
      obtain ⟨y1, y2⟩ := x3 (c - 1) (by omega)
      rw [if_neg ec, nIm h0, e_before (X := X) (a := nv (S.2 17 (c - 1))) (b := nv (S.2 18 (c - 1))) (by omega) (by rw [y1]; exact a1) (by rw [y2]; exact a3) a2 a4 ht hq (fun e => hne (c - 1) (by omega) e.symm), ob_some]
      by_cases hlt : nv (S.2 18 (c - 1)) * 400 + (399 - nv (S.2 17 (c - 1))) < q * 400 + (399 - t)
      · rw [if_pos hlt, if_neg d10]
        refine put (fun j hj => ?_)
        have hlt' : kq S (c - 1) < q * 400 + (399 - t) := hlt
        rcases Nat.lt_or_ge j (c - 1) with h | h
        · have := s2 j (c - 1) h (by omega)
          omega
        · have : j = c - 1 := by omega
          subst this; exact hlt'
      · rw [if_neg hlt, if_pos rfl, rd_nI _ (by omega) (by omega), ob_some, wA_nI _ _ _ (by omega) (by omega), ob_some, sA_o _ _ (by decide), rd_nI _ (by omega) (by omega), ob_some, wA_nI _ _ _ (by omega) (by omega), ob_some, sb_m1 h0]
        have hkne : kq S (c - 1) ≠ q * 400 + (399 - t) := by
          have := hne (c - 1) (by omega)
          unfold kq
          omega
        refine ih (c - 1) _ (by omega) (by omega) ?_ ?_ ?_ ?_ ?_
        · exact x1
        · intro r r1 r2
          rw [sA_o _ _ r2, sA_o _ _ r1, x2 r r1 r2]
        · intro j hj
          rw [sA_o _ _ (by decide), sA_s, sA_s, sA_o _ _ (by decide), upd_o _ _ (by omega), upd_o _ _ (by omega)]
          exact x3 j (by omega)
        · intro j hj1 hj2
          rw [sA_o _ _ (by decide), sA_s, sA_s, sA_o _ _ (by decide), upd_e, upd_e]
          by_cases hjc : j = c
          · subst hjc
            rw [if_pos rfl, if_pos rfl]; exact ⟨y1, y2⟩
          · rw [if_neg hjc, if_neg hjc]; exact x4 j (by omega) hj2
        · intro j hj1 hj2
          have hlt' : ¬ kq S (c - 1) < q * 400 + (399 - t) := hlt
          rcases Nat.lt_or_ge j c with h | h
          · have : j = c - 1 := by omega
            subst this; omega
          · exact x5 j h hj2
theorem e_insert {S : PS} {w t q : Nat} (hw : w < 400) (hS : wl S w) (ht : t < 400) (hq : q < 2 ^ 31) (hne : ∀ j, j < w → nv (S.2 17 j) ≠ t) : ∃ Y, q_X4_insert S (nI t) (nI q) = some Y ∧ wl Y (w + 1) ∧ (∀ r, r ≠ 7 → Y.1 r = S.1 r) ∧ (∀ r, r ≠ 17 → r ≠ 18 → Y.2 r = S.2 r) ∧ (∀ j, j < w + 1 → (Y.2 17 j = nI t ∧ Y.2 18 j = nI q) ∨ ∃ j', j' < w ∧ Y.2 17 j = S.2 17 j' ∧ Y.2 18 j = S.2 18 j') ∧ (∃ j, j < w + 1 ∧ Y.2 17 j = nI t) ∧ ∀ j, j < w → ∃ j', j' < w + 1 ∧ Y.2 17 j' = S.2 17 j := by
  unfold q_X4_insert
  rw [hS.1]
  obtain ⟨p, Y, hp, e, y1, y2, y3, y4, y5, y6⟩ := l_insert hw hS ht hq hne 1000 w S (by omega) (Nat.le_refl _) rfl (fun _ _ _ => rfl) (fun _ _ => ⟨rfl, rfl⟩) (fun j h1 h2 => by omega) (fun j h1 h2 => by omega)
  have at_ : ∀ j, j ≤ w → (j < p ∧ Y.2 17 j = S.2 17 j ∧ Y.2 18 j = S.2 18 j) ∨ (j = p ∧ Y.2 17 j = nI t ∧ Y.2 18 j = nI q) ∨ (p < j ∧ Y.2 17 j = S.2 17 (j - 1) ∧ Y.2 18 j = S.2 18 (j - 1)) := by
    intro j hj
    obtain ⟨e1, e2⟩ := y4 j hj
    unfold inr_ at e1 e2
    rcases Nat.lt_trichotomy j p with h | h | h
    · rw [if_pos h] at e1 e2; exact Or.inl ⟨h, e1, e2⟩
    · rw [if_neg (by omega), if_pos h] at e1 e2; exact Or.inr (Or.inl ⟨h, e1, e2⟩)
    · rw [if_neg (by omega), if_neg (by omega)] at e1 e2; exact Or.inr (Or.inr ⟨h, e1, e2⟩)
  have key : ∀ j, j ≤ w → (j < p ∧ kq Y j = kq S j) ∨ (j = p ∧ kq Y j = q * 400 + (399 - t)) ∨ (p < j ∧ kq Y j = kq S (j - 1)) := by
    intro j hj
    rcases at_ j hj with ⟨h, e1, e2⟩ | ⟨h, e1, e2⟩ | ⟨h, e1, e2⟩
    · left; refine ⟨h, ?_⟩; unfold kq; rw [e1, e2]
    · right; left; refine ⟨h, ?_⟩; unfold kq; rw [e1, e2, nv_nI (show t < 2 ^ 31 by omega), nv_nI hq]
    · right; right; refine ⟨h, ?_⟩; unfold kq; rw [e1, e2]
  refine ⟨Y, e, ⟨y1, fun j hj => ?_, fun j j' h1 h2 => ?_⟩, y2, y3, fun j hj => ?_, ⟨p, by omega, ?_⟩, fun j hj => ?_⟩
  · rcases at_ j (by omega) with ⟨h, e1, e2⟩ | ⟨h, e1, e2⟩ | ⟨h, e1, e2⟩
    · rw [e1, e2]; exact hS.2.1 j (by omega)
    · rw [e1, e2, nv_nI (show t < 2 ^ 31 by omega), nv_nI hq]; exact ⟨rfl, ht, rfl, hq⟩
    · rw [e1, e2]; exact hS.2.1 (j - 1) (by omega)
  · rcases key j (by omega) with ⟨a, e1⟩ | ⟨a, e1⟩ | ⟨a, e1⟩
    · rcases key j' (by omega) with ⟨b, e2⟩ | ⟨b, e2⟩ | ⟨b, e2⟩
      · rw [e1, e2]; exact hS.2.2 j j' h1 (by omega)
      · rw [e1, e2]; exact y6 j a
      · rw [e1, e2]
        rcases Nat.lt_or_ge j (j' - 1) with h | h
        · exact hS.2.2 j (j' - 1) h (by omega)
        · omega
    · rcases key j' (by omega) with ⟨b, e2⟩ | ⟨b, e2⟩ | ⟨b, e2⟩
      · omega
      · omega
      · rw [e1, e2]; exact y5 (j' - 1) (by omega) (by omega)
    · rcases key j' (by omega) with ⟨b, e2⟩ | ⟨b, e2⟩ | ⟨b, e2⟩
      · omega
      · omega
      · rw [e1, e2]; exact hS.2.2 (j - 1) (j' - 1) (by omega) (by omega)
  · rcases at_ j (by omega) with ⟨h, e1, e2⟩ | ⟨h, e1, e2⟩ | ⟨h, e1, e2⟩
    · exact Or.inr ⟨j, by omega, e1, e2⟩
    · exact Or.inl ⟨e1, e2⟩
    · exact Or.inr ⟨j - 1, by omega, e1, e2⟩
  · rcases at_ p hp with ⟨h, e1, e2⟩ | ⟨h, e1, e2⟩ | ⟨h, e1, e2⟩
    · omega
    · exact e1
    · omega
  · rcases Nat.lt_or_ge j p with h | h
    · refine ⟨j, by omega, ?_⟩
      rcases at_ j (by omega) with ⟨h, e1, e2⟩ | ⟨h, e1, e2⟩ | ⟨h, e1, e2⟩
      · exact e1
      · omega
      · omega
    · refine ⟨j + 1, by omega, ?_⟩
      rcases at_ (j + 1) (by omega) with ⟨h, e1, e2⟩ | ⟨h, e1, e2⟩ | ⟨h, e1, e2⟩
      · omega
      · omega
      · rw [e1]; rfl
