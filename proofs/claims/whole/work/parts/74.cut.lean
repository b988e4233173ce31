/-! prune, the planner: nodes move to their new places -/
theorem l_moveC {B M : PS} (hM : WM M) (hT : SM B M) {m c i : Nat} (hci : c ≤ i) (hi : i < 50) (hm : m < nm M) (h9 : B.2 9 c = nI m) : ∃ X, iter2 (q_X3_move_L68 (nI i) (nI c)) 1000 0 B = some X ∧ X.1 = B.1 ∧ (∀ k, k ≠ 13 → k ≠ 14 → X.2 k = B.2 k) ∧ X.2 13 = cp (B.2 13) c i (si M m) ∧ X.2 14 = cp (B.2 14) c i (si M m) := by
  have h8 := (hM.2.2.1 m hm).2.2.2.2.2.2.2.2
  have hsi := (hM.2.2.1 m hm).2.2.2.2.2.2.2.1
  have h30 := hM.2.1
  have hst : ∀ X : PS, (∀ k, k ≠ 13 → k ≠ 14 → X.2 k = B.2 k) → q_X3_sitesAt X (nI c) = some (nI (si M m)) := by
    intro X hX
    unfold q_X3_sitesAt
    rw [hX 9 (by decide) (by decide), hX 4 (by decide) (by decide), rd_nI _ (by omega) (by omega), ob_some, h9, rd_nI _ (by omega) (by omega), ob_some, (hT.2.1 m hm).2, hsi]
  rw [← nI_0]
  refine Exists.elim (forE2' (n := si M m) (f := q_X3_move_L68 (nI i) (nI c)) (e := fun X => some X) (fun k X => X.1 = B.1 ∧ (∀ k, k ≠ 13 → k ≠ 14 → X.2 k = B.2 k) ∧ X.2 13 = cp (B.2 13) c i k ∧ X.2 14 = cp (B.2 14) c i k) (fun rec k X hk hX => ?_) (fun rec X hX => ?_) 1000 0 B (Nat.zero_le _) (by omega) ⟨rfl, fun _ _ _ => rfl, (cp_0 _ _ _).symm, (cp_0 _ _ _).symm⟩) ?_
  · obtain ⟨x1, x2, x3, x4⟩ := hX
    unfold q_X3_move_L68 q_X5_slot
    rw [hst X x2, ob_some, if_neg (nI_ge hk (by omega)), ob_some, ob_some, slotN, slotN, rd_nI _ (by omega) (by omega), ob_some, wA_nI _ _ _ (by omega) (by omega), ob_some, ob_some, ob_some, rd_nI _ (by omega) (by omega), ob_some, wA_nI _ _ _ (by omega) (by omega), ob_some, nI_1]
    refine ⟨_, ⟨?_, ?_, ?_, ?_⟩, rfl⟩
    · exact x1
    · intro k h1 h2
      rw [sA_o _ _ h2, sA_o _ _ h1, x2 k h1 h2]
    · rw [sA_o _ _ (by decide), sA_s, x3, cp_S _ hci (by omega)]
    · rw [sA_s, sA_o _ _ (by decide), x4, cp_S _ hci (by omega)]
  · obtain ⟨x1, x2, x3, x4⟩ := hX
    unfold q_X3_move_L68
    rw [hst X x2, ob_some, if_pos (nI_le (Nat.le_refl _) (by omega))]
  · rintro X ⟨⟨x1, x2, x3, x4⟩, e⟩
    exact ⟨X, e, x1, x2, x3, x4⟩
/-- where nodes before i are, and that those from i on are where they were -/
def mvC (A M : PS) (i : Nat) (X : PS) : Prop :=
  (∀ k, k ≠ 6 → X.1 k = A.1 k) ∧ X.1 6 = nI (szK M i) ∧ (∀ k, k < 9 ∨ k = 16 → X.2 k = A.2 k) ∧
  (∀ j, j < i → kp M j = true → X.2 9 (cn M j) = A.2 9 j ∧ X.2 10 (cn M j) = (if j = 0 then -1 else nI (cn M (np M j))) ∧ X.2 11 (cn M j) = A.2 11 j ∧ X.2 12 (cn M j) = A.2 12 j ∧ ∀ k, k < sn M j → X.2 13 (8 * cn M j + k) = A.2 13 (8 * j + k) ∧ X.2 14 (8 * cn M j + k) = A.2 14 (8 * j + k)) ∧
  (∀ j, i ≤ j → (∀ r, 9 ≤ r → r ≤ 12 → X.2 r j = A.2 r j) ∧ ∀ k, k < 8 → X.2 13 (8 * j + k) = A.2 13 (8 * j + k) ∧ X.2 14 (8 * j + k) = A.2 14 (8 * j + k))
theorem s_moveC {A M X : PS} (hM : WM M) (hT : SM A M) {n i : Nat} (hn : n ≤ 50) (hN : ∀ i, i < n → Wn M i) (hP : ∀ i, i < n → SPn A M i) (h16 : ∀ j, j < n → A.2 16 j = nw M j) (hi : i < n) (hk : kp M i = true) (hX : mvC A M i X) : ∃ Y, q_X3_move X (nI i) (nI (cn M i)) = some Y ∧ mvC A M (i + 1) (sN Y 6 (Y.1 6 + nI (zs M (nd M i)))) ∧ Y.1 = X.1 ∧ Y.2 16 = A.2 16 ∧ Y.2 3 = A.2 3 ∧ Y.2 9 (cn M i) = nI (nd M i) := by
  obtain ⟨x1, x2, x3, x4, x5⟩ := hX
  obtain ⟨n1, n2, -, -, n3, n4⟩ := hN i hi
  obtain ⟨p1, p2, p3, p4⟩ := hP i hi
  have hcl := cn_le M i
  have h8 := sn_le hM n2
  have o9 := (x5 i (Nat.le_refl _)).1 9 (by decide) (by decide)
  have o10 := (x5 i (Nat.le_refl _)).1 10 (by decide) (by decide)
  have o11 := (x5 i (Nat.le_refl _)).1 11 (by decide) (by decide)
  have o12 := (x5 i (Nat.le_refl _)).1 12 (by decide) (by decide)
  have fin : ∀ (B : PS), (∀ k, B.1 k = X.1 k) → (∀ k, k ≠ 9 → k ≠ 10 → k ≠ 11 → k ≠ 12 → B.2 k = X.2 k) → B.2 9 = upd (X.2 9) (cn M i) (A.2 9 i) → B.2 10 = upd (X.2 10) (cn M i) (if i = 0 then -1 else nI (cn M (np M i))) → B.2 11 = upd (X.2 11) (cn M i) (A.2 11 i) → B.2 12 = upd (X.2 12) (cn M i) (A.2 12 i) → ∃ Y, iter2 (q_X3_move_L68 (nI i) (nI (cn M i))) 1000 0 B = some Y ∧ mvC A M (i + 1) (sN Y 6 (Y.1 6 + nI (zs M (nd M i)))) ∧ Y.1 = X.1 ∧ Y.2 16 = A.2 16 ∧ Y.2 3 = A.2 3 ∧ Y.2 9 (cn M i) = nI (nd M i) := by
    intro B b1 b2 b9 b10 b11 b12
    have hTB : SM B M := SM_core (S := A) (M := M) rfl (coreS_of (fun k hk => by rw [b1, x1 k (by omega)]) (fun k hk => by rw [b2 k (by omega) (by omega) (by omega) (by omega), x3 k (by omega)])) hT
    have hB9 : B.2 9 (cn M i) = nI (nd M i) := by rw [b9, upd_s, p1, n1]
    obtain ⟨Y, y0, y1, y2, y3, y4⟩ := l_moveC hM hTB hcl (by omega) n2 hB9
    refine ⟨Y, y0, ⟨fun k hk6 => ?_, ?_, fun k hk2 => ?_, fun j hj hkj => ?_, fun j hj => ?_⟩, ?_, ?_, ?_, ?_⟩
    · rw [sN_o _ _ hk6, y1, b1, x1 k hk6]
    · rw [sN0, y1, b1, x2, nI_add]
      show _ = nI (szK M i + _)
      rw [if_pos hk]
    · rw [sN_2, y2 k (by omega) (by omega), b2 k (by omega) (by omega) (by omega) (by omega), x3 k hk2]
    · rw [sN_2]
      rcases Nat.lt_or_ge j i with h1 | h1
      · obtain ⟨a1, a2, a3, a4, a5⟩ := x4 j h1 hkj
        have hlt := cn_lt h1 hkj
        refine ⟨?_, ?_, ?_, ?_, fun k hk2 => ?_⟩
        · rw [y2 9 (by decide) (by decide), b9, upd_o _ _ (by omega), a1]
        · rw [y2 10 (by decide) (by decide), b10, upd_o _ _ (by omega), a2]
        · rw [y2 11 (by decide) (by decide), b11, upd_o _ _ (by omega), a3]
        · rw [y2 12 (by decide) (by decide), b12, upd_o _ _ (by omega), a4]
        · have hj8 := sn_le hM (hN j (by omega)).2.1
          rw [y3, y4, cp_out _ (by omega), cp_out _ (by omega), b2 13 (by decide) (by decide) (by decide) (by decide), b2 14 (by decide) (by decide) (by decide) (by decide)]
          exact a5 k hk2
      · have : j = i := by omega
        subst this
        refine ⟨?_, ?_, ?_, ?_, fun k hk2 => ?_⟩
        · rw [y2 9 (by decide) (by decide), b9, upd_s]
        · rw [y2 10 (by decide) (by decide), b10, upd_s]
        · rw [y2 11 (by decide) (by decide), b11, upd_s]
        · rw [y2 12 (by decide) (by decide), b12, upd_s]
        · have hk3 : k < si M (nd M j) := hk2
          rw [y3, y4, cp_in _ hk3, cp_in _ hk3, b2 13 (by decide) (by decide) (by decide) (by decide), b2 14 (by decide) (by decide) (by decide) (by decide)]
          exact (x5 j (Nat.le_refl _)).2 k (by omega)
    · rw [sN_2]
      refine ⟨fun r hr1 hr2 => ?_, fun k hk2 => ?_⟩
      · rw [y2 r (by omega) (by omega), ← (x5 j (by omega)).1 r hr1 hr2]
        have : r = 9 ∨ r = 10 ∨ r = 11 ∨ r = 12 := by omega
        rcases this with rfl | rfl | rfl | rfl
        · rw [b9, upd_o _ _ (by omega)]
        · rw [b10, upd_o _ _ (by omega)]
        · rw [b11, upd_o _ _ (by omega)]
        · rw [b12, upd_o _ _ (by omega)]
      · have h8' : si M (nd M i) ≤ 8 := h8
        rw [y3, y4, cp_out _ (by omega), cp_out _ (by omega), b2 13 (by decide) (by decide) (by decide) (by decide), b2 14 (by decide) (by decide) (by decide) (by decide)]
        exact (x5 j (by omega)).2 k hk2
    · rw [y1]; exact funext b1
    · rw [y2 16 (by decide) (by decide), b2 16 (by decide) (by decide) (by decide) (by decide), x3 16 (by simp)]
    · rw [y2 3 (by decide) (by decide), b2 3 (by decide) (by decide) (by decide) (by decide), x3 3 (by simp)]
    · rw [y2 9 (by decide) (by decide), hB9]
  unfold q_X3_move
  rw [rd_nI _ (by omega) (by omega), ob_some, wA_nI _ _ _ (by omega) (by omega), ob_some, sA_o _ _ (by decide), rd_nI _ (by omega) (by omega), ob_some, o9, o10, p2]
  rcases Nat.eq_zero_or_pos i with h0 | h0
  · subst h0
    rw [(n3 rfl).1, if_neg (by decide), wA_nI _ _ _ (by omega) (by omega), ob_some, rd_nI _ (by omega) (by omega), ob_some, wA_nI _ _ _ (by omega) (by omega), ob_some, rd_nI _ (by omega) (by omega), ob_some, wA_nI _ _ _ (by omega) (by omega), ob_some]
    refine fin _ (fun _ => rfl) (fun k k9 k10 k11 k12 => ?_) rfl rfl ?_ ?_
    · rw [sA_o _ _ k12, sA_o _ _ k11, sA_o _ _ k10, sA_o _ _ k9]
    · rw [← o11]; rfl
    · rw [← o12]; rfl
  · obtain ⟨b1, b2, b3, b4, -⟩ := n4 h0
    have hks := kp_S hN h0 hi
    have hkp : kp M (np M i) = true := by
      rw [hk] at hks
      have := hks.symm
      simp only [Bool.and_eq_true] at this
      exact this.2
    have hcp := cn_le M (np M i)
    have e16 : (sA X 9 (upd (X.2 9) (cn M i) (A.2 9 i))).2 16 (np M i) = nI (cn M (np M i)) := by
      rw [sA_o _ _ (by decide), x3 16 (by simp), h16 _ (by omega)]
      unfold nw
      rw [if_pos hkp]
    rw [b1, if_pos (nI_pos' (by omega)), ob_some, rd_nI _ (by omega) (by omega), ob_some, e16, wA_nI _ _ _ (by omega) (by omega), ob_some, rd_nI _ (by omega) (by omega), ob_some, wA_nI _ _ _ (by omega) (by omega), ob_some, rd_nI _ (by omega) (by omega), ob_some, wA_nI _ _ _ (by omega) (by omega), ob_some]
    refine fin _ (fun _ => rfl) (fun k k9 k10 k11 k12 => ?_) rfl ?_ ?_ ?_
    · rw [sA_o _ _ k12, sA_o _ _ k11, sA_o _ _ k10, sA_o _ _ k9]
    · rw [if_neg (by omega)]; rfl
    · rw [← o11]; rfl
    · rw [← o12]; rfl
theorem e_cutBroken {S M : PS} (hC : WC M) (hM : WM M) (hS : SC S M) (hT : SM S M) (hP : WP M) (hQ : SP S M) : ∃ A X, q_X3_cutBroken S = some (sN X 5 (nI (cn M (nn M)))) ∧ mvC A M (nn M) X ∧ (∀ k, k ≠ 6 → A.1 k = S.1 k) ∧ (∀ k, k ≠ 13 → k ≠ 16 → A.2 k = S.2 k) ∧ (∀ t, mkC M (nn M) t → A.2 13 t = 7) ∧ ∀ t, ¬ mkC M (nn M) t → A.2 13 t = S.2 13 t := by
  have h50 := hP.2.2.1
  obtain ⟨A0, a0, a1, a2, a3, a4, a5⟩ := e_numberAnew hC hM hS hT hP hQ
  unfold q_X3_cutBroken
  rw [a0, ob_pair]
  dsimp only
  rw [wN_e, ob_some]
  generalize hA : sN A0 6 0 = A
  have r1 : ∀ k, k ≠ 6 → A.1 k = S.1 k := fun k hk => by rw [← hA, sN_o _ _ hk, a1]
  have r2 : ∀ k, A.2 k = A0.2 k := fun k => by rw [← hA]; rfl
  have r6 : A.1 6 = 0 := by rw [← hA]; rfl
  clear hA
  have b2 : ∀ k, k ≠ 13 → k ≠ 16 → A.2 k = S.2 k := fun k h1 h2 => by rw [r2, a2 k h1 h2]
  have b3 : ∀ j, j < nn M → A.2 16 j = nw M j := fun j hj => by rw [r2]; exact a3 j hj
  have hTA : SM A M := SM_core (S := S) (M := M) rfl (coreS_of (fun k hk => r1 k (by omega)) (fun k hk => b2 k (by omega) (by omega))) hT
  have hPA : ∀ i, i < nn M → SPn A M i := fun i hi => by unfold SPn; rw [b2 9 (by decide) (by decide), b2 10 (by decide) (by decide), b2 11 (by decide) (by decide), b2 12 (by decide) (by decide)]; exact hQ.2.1 i hi
  rw [← nI_0]
  refine Exists.elim (forE2' (n := nn M) (f := q_X3_cutBroken_L12 (nI (cn M (nn M)))) (e := fun X => some (sN X 5 (nI (cn M (nn M))))) (fun i X => mvC A M i X) (fun rec i X hi hX => ?_) (fun rec X hX => ?_) 1000 0 A (Nat.zero_le _) (by omega) ⟨fun _ _ => rfl, r6, fun _ _ => rfl, fun j hj => by omega, fun j _ => ⟨fun _ _ _ => rfl, fun _ _ => ⟨rfl, rfl⟩⟩⟩) ?_
  · have hcl := cn_le M i
    obtain ⟨n1, n2, -⟩ := hP.2.2.2.1 i hi
    have h30 := hM.2.1
    have e16 : X.2 16 i = nw M i := by rw [hX.2.2.1 16 (by simp), b3 i hi]
    unfold q_X3_cutBroken_L12
    rw [hX.1 5 (by decide), r1 5 (by decide), hQ.1, hP.1, if_neg (nI_ge hi (by omega)), rd_nI _ (by omega) (by omega), ob_some, e16]
    by_cases hk : kp M i = true
    · have hnw : nw M i = nI (cn M i) := by unfold nw; rw [if_pos hk]
      obtain ⟨Y, y1, y2, y3, y4, y5, y6⟩ := s_moveC hM hTA h50 hP.2.2.2.1 hPA b3 hi hk hX
      rw [hnw, if_neg (nI_pos (by omega)), ob_some, y1, ob_some, y4, rd_nI _ (by omega) (by omega), ob_some, b3 i hi, hnw, rd_nI _ (by omega) (by omega), ob_some, y6, y5, rd_nI _ (by omega) (by omega), ob_some, wN_e, ob_some, nI_1, b2 3 (by decide) (by decide), (hT.2.1 _ n2).1, (hM.2.2.1 _ n2).2.2.2.2.1]
      exact ⟨_, y2, rfl⟩
    · have hnw : nw M i = -1 := by unfold nw; rw [if_neg hk]
      rw [hnw, if_pos m1_neg, nI_1]
      refine ⟨X, ?_, rfl⟩
      obtain ⟨x1, x2, x3, x4, x5⟩ := hX
      refine ⟨x1, ?_, x3, fun j hj hkj => ?_, fun j hj => x5 j (by omega)⟩
      · show _ = nI (szK M i + _)
        rw [if_neg hk]; exact x2
      · rcases Nat.lt_or_ge j i with h1 | h1
        · exact x4 j h1 hkj
        · have : j = i := by omega
          subst this; exact absurd hkj hk
  · unfold q_X3_cutBroken_L12
    rw [hX.1 5 (by decide), r1 5 (by decide), hQ.1, hP.1, if_pos (nI_le (Nat.le_refl _) (by omega)), wN_e, ob_some]
  · rintro X ⟨hX, e⟩
    exact ⟨A, X, e, hX, r1, b2, fun t ht => by rw [r2]; exact a4 t ht, fun t ht => by rw [r2]; exact a5 t ht⟩
