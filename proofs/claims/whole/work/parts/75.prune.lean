/-! prune, the reference -/
theorem l_moveR {B : PS} {xf : Nat → Int32} {c i : Nat} (hci : c ≤ i) (hi : i < 50) : ∃ X, iter2 (q_X6_move_L73 (nI i) (nI c) xf) 1000 0 B = some X ∧ X.1 = B.1 ∧ (∀ k, k ≠ 12 → k ≠ 13 → X.2 k = B.2 k) ∧ X.2 12 = cp (B.2 12) c i 8 ∧ X.2 13 = cp (B.2 13) c i 8 := by
  rw [← nI_0]
  refine Exists.elim (forE2' (n := 8) (f := q_X6_move_L73 (nI i) (nI c) xf) (e := fun X => some X) (fun k X => X.1 = B.1 ∧ (∀ k, k ≠ 12 → k ≠ 13 → X.2 k = B.2 k) ∧ X.2 12 = cp (B.2 12) c i k ∧ X.2 13 = cp (B.2 13) c i k) (fun rec k X hk hX => ?_) (fun rec X hX => ?_) 1000 0 B (Nat.zero_le _) (by omega) ⟨rfl, fun _ _ _ => rfl, (cp_0 _ _ _).symm, (cp_0 _ _ _).symm⟩) ?_
  · obtain ⟨x1, x2, x3, x4⟩ := hX
    unfold q_X6_move_L73
    have e8 : ¬ (8 : Int32) ≤ nI k := by rw [show (8 : Int32) = nI 8 from rfl]; exact nI_ge hk (by omega)
    rw [if_neg e8, slotM, slotM, rd_nI _ (by omega) (by omega), ob_some, wA_nI _ _ _ (by omega) (by omega), ob_some, rd_nI _ (by omega) (by omega), ob_some, wA_nI _ _ _ (by omega) (by omega), ob_some, nI_1]
    refine ⟨_, ⟨?_, ?_, ?_, ?_⟩, rfl⟩
    · exact x1
    · intro k h1 h2
      rw [sA_o _ _ h2, sA_o _ _ h1, x2 k h1 h2]
    · rw [sA_o _ _ (by decide), sA_s, x3, cp_S _ hci (by omega)]
    · rw [sA_s, sA_o _ _ (by decide), x4, cp_S _ hci (by omega)]
  · unfold q_X6_move_L73
    rw [if_pos (by decide)]
  · rintro X ⟨⟨x1, x2, x3, x4⟩, e⟩
    exact ⟨X, e, x1, x2, x3, x4⟩
def mvR (A M : PS) (i : Nat) (X : PS) : Prop :=
  (∀ k, X.1 k = A.1 k) ∧ (∀ k, k < 7 → X.2 k = A.2 k) ∧
  (∀ j, j < i → kp M j = true → X.2 7 (cn M j) = A.2 7 j ∧ X.2 8 (cn M j) = (if j = 0 then -1 else nI (cn M (np M j))) ∧ X.2 9 (cn M j) = A.2 9 j ∧ X.2 10 (cn M j) = A.2 10 j ∧ ∀ k, k < 8 → X.2 12 (8 * cn M j + k) = A.2 12 (8 * j + k) ∧ X.2 13 (8 * cn M j + k) = A.2 13 (8 * j + k)) ∧
  (∀ j, i ≤ j → (∀ r, 7 ≤ r → r ≤ 10 → X.2 r j = A.2 r j) ∧ ∀ k, k < 8 → X.2 12 (8 * j + k) = A.2 12 (8 * j + k) ∧ X.2 13 (8 * j + k) = A.2 13 (8 * j + k))
theorem s_moveR {A M X : PS} {xf : Nat → Int32} {n i : Nat} (hn : n ≤ 50) (hN : ∀ i, i < n → Wn M i) (h8 : A.2 8 = M.2 8) (hxf : ∀ j, j < n → xf j = nw M j) (hi : i < n) (hk : kp M i = true) (hX : mvR A M i X) : ∃ Y, q_X6_move X xf (nI i) (nI (cn M i)) = some Y ∧ mvR A M (i + 1) Y := by
  obtain ⟨x1, x3, x4, x5⟩ := hX
  obtain ⟨n1, n2, -, -, n3, n4⟩ := hN i hi
  have hcl := cn_le M i
  have o7 := (x5 i (Nat.le_refl _)).1 7 (by decide) (by decide)
  have o8 := (x5 i (Nat.le_refl _)).1 8 (by decide) (by decide)
  have o9 := (x5 i (Nat.le_refl _)).1 9 (by decide) (by decide)
  have o10 := (x5 i (Nat.le_refl _)).1 10 (by decide) (by decide)
  have fin : ∀ (B : PS), (∀ k, B.1 k = X.1 k) → (∀ k, k ≠ 7 → k ≠ 8 → k ≠ 9 → k ≠ 10 → k ≠ 11 → B.2 k = X.2 k) → B.2 7 = upd (X.2 7) (cn M i) (A.2 7 i) → B.2 8 = upd (X.2 8) (cn M i) (if i = 0 then -1 else nI (cn M (np M i))) → B.2 9 = upd (X.2 9) (cn M i) (A.2 9 i) → B.2 10 = upd (X.2 10) (cn M i) (A.2 10 i) → ∃ Y, iter2 (q_X6_move_L73 (nI i) (nI (cn M i)) xf) 1000 0 B = some Y ∧ mvR A M (i + 1) Y := by
    intro B b1 b2 b7 b8 b9 b10
    obtain ⟨Y, y0, y1, y2, y3, y4⟩ := l_moveR (B := B) (xf := xf) hcl (show i < 50 by omega)
    refine ⟨Y, y0, fun k => ?_, fun k hk2 => ?_, fun j hj hkj => ?_, fun j hj => ?_⟩
    · rw [y1, b1, x1 k]
    · rw [y2 k (by omega) (by omega), b2 k (by omega) (by omega) (by omega) (by omega) (by omega), x3 k hk2]
    · rcases Nat.lt_or_ge j i with h1 | h1
      · obtain ⟨a1, a2, a3, a4, a5⟩ := x4 j h1 hkj
        have hlt := cn_lt h1 hkj
        refine ⟨?_, ?_, ?_, ?_, fun k hk2 => ?_⟩
        · rw [y2 7 (by decide) (by decide), b7, upd_o _ _ (by omega), a1]
        · rw [y2 8 (by decide) (by decide), b8, upd_o _ _ (by omega), a2]
        · rw [y2 9 (by decide) (by decide), b9, upd_o _ _ (by omega), a3]
        · rw [y2 10 (by decide) (by decide), b10, upd_o _ _ (by omega), a4]
        · rw [y3, y4, cp_out _ (by omega), cp_out _ (by omega), b2 12 (by decide) (by decide) (by decide) (by decide) (by decide), b2 13 (by decide) (by decide) (by decide) (by decide) (by decide)]
          exact a5 k hk2
      · have : j = i := by omega
        subst this
        refine ⟨?_, ?_, ?_, ?_, fun k hk2 => ?_⟩
        · rw [y2 7 (by decide) (by decide), b7, upd_s]
        · rw [y2 8 (by decide) (by decide), b8, upd_s]
        · rw [y2 9 (by decide) (by decide), b9, upd_s]
        · rw [y2 10 (by decide) (by decide), b10, upd_s]
        · rw [y3, y4, cp_in _ hk2, cp_in _ hk2, b2 12 (by decide) (by decide) (by decide) (by decide) (by decide), b2 13 (by decide) (by decide) (by decide) (by decide) (by decide)]
          exact (x5 j (Nat.le_refl _)).2 k hk2
    · refine ⟨fun r hr1 hr2 => ?_, fun k hk2 => ?_⟩
      · rw [y2 r (by omega) (by omega), ← (x5 j (by omega)).1 r hr1 hr2]
        have : r = 7 ∨ r = 8 ∨ r = 9 ∨ r = 10 := by omega
        rcases this with rfl | rfl | rfl | rfl
        · rw [b7, upd_o _ _ (by omega)]
        · rw [b8, upd_o _ _ (by omega)]
        · rw [b9, upd_o _ _ (by omega)]
        · rw [b10, upd_o _ _ (by omega)]
      · rw [y3, y4, cp_out _ (by omega), cp_out _ (by omega), b2 12 (by decide) (by decide) (by decide) (by decide) (by decide), b2 13 (by decide) (by decide) (by decide) (by decide) (by decide)]
        exact (x5 j (by omega)).2 k hk2
  unfold q_X6_move
  rw [rd_nI _ (by omega) (by omega), ob_some, wA_nI _ _ _ (by omega) (by omega), ob_some, rd_nI _ (by omega) (by omega), ob_some, wA_nI _ _ _ (by omega) (by omega), ob_some, rd_nI _ (by omega) (by omega), ob_some, wA_nI _ _ _ (by omega) (by omega), ob_some, rd_nI _ (by omega) (by omega), ob_some, wA_nI _ _ _ (by omega) (by omega), ob_some]
  rcases Nat.eq_zero_or_pos i with h0 | h0
  · subst h0
    rw [if_pos nI_0, wA_nI _ _ _ (by omega) (by omega), ob_some]
    refine fin _ (fun _ => rfl) (fun k k7 k8 k9 k10 k11 => ?_) ?_ rfl ?_ ?_
    · rw [sA_o _ _ k8, sA_o _ _ k9, sA_o _ _ k10, sA_o _ _ k11, sA_o _ _ k7]
    · rw [← o7]; rfl
    · rw [← o9]; rfl
    · rw [← o10]; rfl
  · obtain ⟨b1, b2, b3, b4, -⟩ := n4 h0
    have hks := kp_S hN h0 hi
    have hkp : kp M (np M i) = true := by
      rw [hk] at hks
      have := hks.symm
      simp only [Bool.and_eq_true] at this
      exact this.2
    have hcp := cn_le M (np M i)
    have e0 : ¬ nI i = 0 := by rw [show (0 : Int32) = nI 0 from rfl]; exact nI_nec (by omega) (by omega) (by omega)
    have e8 : X.2 8 i = nI (np M i) := by rw [o8, h8, b1]
    have exf : xf (np M i) = nI (cn M (np M i)) := by
      rw [hxf _ (by omega)]
      unfold nw
      rw [if_pos hkp]
    rw [if_neg e0, sA_o _ _ (by decide), sA_o _ _ (by decide), sA_o _ _ (by decide), sA_o _ _ (by decide), rd_nI _ (by omega) (by omega), ob_some, e8, rd_nI _ (by omega) (by omega), ob_some, exf, wA_nI _ _ _ (by omega) (by omega), ob_some]
    refine fin _ (fun _ => rfl) (fun k k7 k8 k9 k10 k11 => ?_) ?_ ?_ ?_ ?_
    · rw [sA_o _ _ k8, sA_o _ _ k9, sA_o _ _ k10, sA_o _ _ k11, sA_o _ _ k7]
    · rw [← o7]; rfl
    · rw [if_neg (by omega)]; rfl
    · rw [← o9]; rfl
    · rw [← o10]; rfl
theorem e_pruneR {M : PS} (hC : WC M) (hM : WM M) (hP : WP M) : ∃ A X, iter3 (q_X6_prune_L18 M) 1000 0 0 (fun _ => 0) = some (sN X 7 (nI (cn M (nn M))), nI (nn M) - nI (cn M (nn M))) ∧ mvR A M (nn M) X ∧ A.1 = M.1 ∧ (∀ k, k ≠ 12 → A.2 k = M.2 k) ∧ (∀ t, mkR M (nn M) t → A.2 12 t = 7) ∧ ∀ t, ¬ mkR M (nn M) t → A.2 12 t = M.2 12 t := by
  have h50 := hP.2.2.1
  have h1n := hP.2.1
  have h30 := hM.2.1
  have hN := hP.2.2.2.1
  rw [← nI_0]
  refine Exists.elim (forE3m (n := nn M) (f := q_X6_prune_L18 M) (e := fun x u => iter2 (q_X6_prune_L91 x u) 1000 1 M) (fun i x u => x = nI (cn M i) ∧ ∀ j, j < i → u j = nw M j) (fun rec i x u hi hA => ?_) (fun rec x u hA => ?_) 1000 0 (nI 0) (fun _ => nI 0) (Nat.zero_le _) (by omega) ⟨rfl, fun j hj => by omega⟩) ?_
  · obtain ⟨rfl, hu⟩ := hA
    have hcl := cn_le M i
    unfold q_X6_prune_L18
    rw [hP.1, if_neg (nI_ge hi (by omega))]
    have up : ∀ (v : Int32), v = nw M i → ∀ j, j < i + 1 → upd u i v j = nw M j := by
      intro v hv j hj
      rw [upd_e]
      by_cases h1 : j = i
      · rw [if_pos h1, hv, h1]
      · rw [if_neg h1]; exact hu j (by omega)
    rcases Nat.eq_zero_or_pos i with h0 | h0
    · subst h0
      rw [if_pos nI_0, wr_nI _ _ (by omega) (by omega), ob_some, nI_1, nI_1]
      refine ⟨_, _, ⟨?_, up _ ?_⟩, rfl⟩
      · rw [cn_kp (kp_0 M)]
      · unfold nw; rw [if_pos (kp_0 M)]
    · obtain ⟨b1, b2, b3, b4, -⟩ := (hN i hi).2.2.2.2.2 h0
      have hks := kp_S hN h0 hi
      have e0 : ¬ nI i = 0 := by rw [show (0 : Int32) = nI 0 from rfl]; exact nI_nec (by omega) (by omega) (by omega)
      rw [if_neg e0, e_isHolding hC hM h50 hN hi, ob_some]
      by_cases hh : hb M i = true
      · rw [if_pos hh, if_neg d10, rd_nI _ (by omega) (by omega), ob_some, b1, rd_nI _ (by omega) (by omega), ob_some, hu _ b2]
        by_cases hkp : kp M (np M i) = true
        · have hki : kp M i = true := by rw [hks, hh, hkp]; rfl
          have hnw : nw M (np M i) = nI (cn M (np M i)) := by unfold nw; rw [if_pos hkp]
          have := cn_le M (np M i)
          rw [hnw, if_neg (nI_nm1 (by omega)), wr_nI _ _ (by omega) (by omega), ob_some, nI_1, nI_1]
          refine ⟨_, _, ⟨?_, up _ ?_⟩, rfl⟩
          · rw [cn_kp hki]
          · unfold nw; rw [if_pos hki]
        · have hki : ¬ kp M i = true := by rw [hks]; simp [hkp]
          have hnw : nw M (np M i) = -1 := by unfold nw; rw [if_neg hkp]
          rw [hnw, if_pos rfl, wr_nI _ _ (by omega) (by omega), ob_some, nI_1, show (0 : Int32) = nI 0 from rfl, nI_add]
          refine ⟨_, _, ⟨?_, up _ ?_⟩, rfl⟩
          · rw [cn_nk hki]; rfl
          · unfold nw; rw [if_neg hki]
      · have hki : ¬ kp M i = true := by rw [hks]; simp [hh]
        rw [if_neg hh, if_pos rfl, wr_nI _ _ (by omega) (by omega), ob_some, nI_1, show (0 : Int32) = nI 0 from rfl, nI_add]
        refine ⟨_, _, ⟨?_, up _ ?_⟩, rfl⟩
        · rw [cn_nk hki]; rfl
        · unfold nw; rw [if_neg hki]
  · unfold q_X6_prune_L18
    rw [hP.1, if_pos (nI_le (Nat.le_refl _) (by omega))]
  · rintro x ⟨xf, ⟨rfl, hxf⟩, e18⟩
    have e1 : (1 : Int32) = nI 1 := rfl
    obtain ⟨A, hA, e91⟩ : ∃ A : PS, (A.1 = M.1 ∧ (∀ k, k ≠ 12 → A.2 k = M.2 k) ∧ (∀ t, mkR M (nn M) t → A.2 12 t = 7) ∧ ∀ t, ¬ mkR M (nn M) t → A.2 12 t = M.2 12 t) ∧ iter2 (q_X6_prune_L91 (nI (cn M (nn M))) xf) 1000 1 M = iter2 (q_X6_prune_L137 (nI (cn M (nn M))) xf) 1000 0 A := by
      rw [e1]
      refine forE2' (n := nn M) (f := q_X6_prune_L91 (nI (cn M (nn M))) xf) (e := fun A => iter2 (q_X6_prune_L137 (nI (cn M (nn M))) xf) 1000 0 A) (fun i A => A.1 = M.1 ∧ (∀ k, k ≠ 12 → A.2 k = M.2 k) ∧ (∀ t, mkR M i t → A.2 12 t = 7) ∧ ∀ t, ¬ mkR M i t → A.2 12 t = M.2 12 t) (fun rec i A hi hA => ?_) (fun rec A hA => ?_) 1000 1 M h1n (by omega) ⟨rfl, fun _ _ => rfl, fun t ht => ?_, fun _ _ => rfl⟩
      · obtain ⟨a1, a2, a3, a4⟩ := hA
        unfold q_X6_prune_L91
        rw [a1, hP.1, if_neg (nI_ge hi (by omega)), rd_nI _ (by omega) (by omega), ob_some, hxf i hi, nI_1]
        have keep : ∀ t, (mkR M (i + 1) t ↔ mkR M i t ∨ (0 < i ∧ ¬ kp M i = true ∧ t = 8 * np M i + ns M i)) := by
          intro t
          constructor
          · rintro ⟨j, j1, j2, j3⟩
            rcases Nat.lt_or_ge j i with h | h
            · exact Or.inl ⟨j, h, j2, j3⟩
            · have : j = i := by omega
              subst this; exact Or.inr ⟨j2, j3⟩
          · rintro (⟨j, j1, j2, j3⟩ | ⟨j2, j3⟩)
            · exact ⟨j, by omega, j2, j3⟩
            · exact ⟨i, by omega, j2, j3⟩
        by_cases hk : kp M i = true
        · have hnw : nw M i = nI (cn M i) := by unfold nw; rw [if_pos hk]
          have := cn_le M i
          rw [hnw, if_neg (nI_nm1 (by omega))]
          refine ⟨A, ⟨a1, a2, fun t ht => ?_, fun t ht => a4 t (fun h => ht ((keep t).mpr (Or.inl h)))⟩, rfl⟩
          rcases (keep t).mp ht with h | h
          · exact a3 t h
          · exact absurd hk h.2.1
        · have hnw : nw M i = -1 := by unfold nw; rw [if_neg hk]
          have h0 : 0 < i := by
            rcases Nat.eq_zero_or_pos i with h0 | h0
            · subst h0; exact absurd (kp_0 M) hk
            · exact h0
          obtain ⟨b1, b2, b3, b4, -⟩ := (hN i hi).2.2.2.2.2 h0
          have hp8 := sn_le hM (hN (np M i) (by omega)).2.1
          rw [hnw, if_pos rfl, a2 8 (by decide), rd_nI _ (by omega) (by omega), ob_some, a2 9 (by decide), rd_nI _ (by omega) (by omega), ob_some, b1, b3, slotM, wA_nI _ _ _ (by omega) (by omega), ob_some]
          refine ⟨_, ⟨?_, ?_, ?_, ?_⟩, rfl⟩
          · exact a1
          · intro k h1
            rw [sA_o _ _ h1, a2 k h1]
          · intro t ht
            rw [sA_s, upd_e]
            by_cases h1 : t = 8 * np M i + ns M i
            · rw [if_pos h1]
            · rw [if_neg h1]
              rcases (keep t).mp ht with h | h
              · exact a3 t h
              · exact absurd h.2.2 h1
          · intro t ht
            rw [sA_s, upd_e, if_neg (fun h1 => ht ((keep t).mpr (Or.inr ⟨h0, hk, h1⟩)))]
            exact a4 t (fun h => ht ((keep t).mpr (Or.inl h)))
      · unfold q_X6_prune_L91
        rw [hA.1, hP.1, if_pos (nI_le (Nat.le_refl _) (by omega))]
      · obtain ⟨j, j1, j2, -⟩ := ht; omega
    obtain ⟨a1, a2, a3, a4⟩ := hA
    refine Exists.elim (forE2' (n := nn M) (f := q_X6_prune_L137 (nI (cn M (nn M))) xf) (e := fun X => some (sN X 7 (nI (cn M (nn M))), nI (nn M) - nI (cn M (nn M)))) (fun i X => mvR A M i X) (fun rec i X hi hX => ?_) (fun rec X hX => ?_) 1000 0 A (Nat.zero_le _) (by omega) ⟨fun _ => rfl, fun _ _ => rfl, fun j hj => by omega, fun j _ => ⟨fun _ _ _ => rfl, fun _ _ => ⟨rfl, rfl⟩⟩⟩) ?_
    · have hcl := cn_le M i
      unfold q_X6_prune_L137
      rw [hX.1 7, a1, hP.1, if_neg (nI_ge hi (by omega)), rd_nI _ (by omega) (by omega), ob_some, hxf i hi, nI_1]
      by_cases hk : kp M i = true
      · have hnw : nw M i = nI (cn M i) := by unfold nw; rw [if_pos hk]
        obtain ⟨Y, y1, y2⟩ := s_moveR h50 hN (a2 8 (by decide)) hxf hi hk hX
        rw [hnw, if_neg (nI_nm1 (by omega)), ob_some, y1, ob_some]
        exact ⟨Y, y2, rfl⟩
      · have hnw : nw M i = -1 := by unfold nw; rw [if_neg hk]
        rw [hnw, if_pos rfl]
        refine ⟨X, ?_, rfl⟩
        obtain ⟨x1, x3, x4, x5⟩ := hX
        refine ⟨x1, x3, fun j hj hkj => ?_, fun j hj => x5 j (by omega)⟩
        rcases Nat.lt_or_ge j i with h1 | h1
        · exact x4 j h1 hkj
        · have : j = i := by omega
          subst this; exact absurd hkj hk
    · unfold q_X6_prune_L137
      rw [hX.1 7, a1, hP.1, if_pos (nI_le (Nat.le_refl _) (by omega)), wN_e, ob_some]
    · rintro X ⟨hX, e137⟩
      refine ⟨A, X, ?_, hX, a1, a2, a3, a4⟩
      rw [e18, e91, ← e137, nI_0]
