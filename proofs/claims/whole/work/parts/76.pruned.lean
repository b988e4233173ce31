/-! prune: what is left is the same plan -/
theorem prune_inv {S M A X A' X' : PS} (h : INV S M) (hP : WP M) (hQ : SP S M) (h6 : M.1 6 = 1)
    (c1 : mvC A M (nn M) X) (c2 : ∀ k, k ≠ 6 → A.1 k = S.1 k) (c3 : ∀ k, k ≠ 13 → k ≠ 16 → A.2 k = S.2 k) (c4 : ∀ t, mkC M (nn M) t → A.2 13 t = 7) (c5 : ∀ t, ¬ mkC M (nn M) t → A.2 13 t = S.2 13 t)
    (r1 : mvR A' M (nn M) X') (r2 : A'.1 = M.1) (r3 : ∀ k, k ≠ 12 → A'.2 k = M.2 k) (r4 : ∀ t, mkR M (nn M) t → A'.2 12 t = 7) (r5 : ∀ t, ¬ mkR M (nn M) t → A'.2 12 t = M.2 12 t) :
    INV (sN X 5 (nI (cn M (nn M)))) (sN X' 7 (nI (cn M (nn M)))) := by
  obtain ⟨i1, i2, i3, i4, i5, i6, i7⟩ := h
  have h50 := hP.2.2.1
  have h1n := hP.2.1
  have hN := hP.2.2.2.1
  have hcl := cn_le M (nn M)
  have hc1 : 1 ≤ cn M (nn M) := cn_lt (i := 0) (j := nn M) (by omega) (kp_0 M)
  generalize hSf : sN X 5 (nI (cn M (nn M))) = Sf
  generalize hMf : sN X' 7 (nI (cn M (nn M))) = Mf
  have m1 : ∀ k, k ≠ 7 → Mf.1 k = M.1 k := fun k hk => by rw [← hMf, sN_o _ _ hk, r1.1 k, r2]
  have m7 : Mf.1 7 = nI (cn M (nn M)) := by rw [← hMf]; rfl
  have mr : Mf.2 = X'.2 := by rw [← hMf]; rfl
  have s1 : ∀ k, k ≠ 5 → k ≠ 6 → Sf.1 k = S.1 k := fun k h5 h6 => by rw [← hSf, sN_o _ _ h5, c1.1 k h6, c2 k h6]
  have s5 : Sf.1 5 = nI (cn M (nn M)) := by rw [← hSf]; rfl
  have s6 : Sf.1 6 = nI (szK M (nn M)) := by rw [← hSf, sN_o _ _ (by decide)]; exact c1.2.1
  have sr : Sf.2 = X.2 := by rw [← hSf]; rfl
  clear hSf hMf
  have hcore : core Mf = core M := core_of (fun k hk => m1 k (by omega)) (fun k hk => by rw [mr, r1.2.1 k hk, r3 k (by omega)])
  have hcoreS : coreS Sf = coreS S := coreS_of (fun k hk => s1 k (by omega) (by omega)) (fun k hk => by rw [sr, c1.2.2.1 k (by omega), c3 k (by omega) (by omega)])
  obtain ⟨q1, q2, -, -, -, -, q7, q8⟩ := core_eq hcore
  have esi : ∀ m, si Mf m = si M m := fun m => by unfold si; rw [core_row hcore (by decide)]
  have ezs : ∀ m, zs Mf m = zs M m := fun m => by unfold zs; rw [core_row hcore (by decide)]
  have enn : nn Mf = cn M (nn M) := by unfold nn; rw [m7, nv_nI (by show cn M (nn M) < _; omega)]; rfl
  -- a kept node, in its new place
  have mrow : ∀ i, i < nn M → kp M i = true → Mf.2 7 (cn M i) = M.2 7 i ∧ Mf.2 8 (cn M i) = (if i = 0 then -1 else nI (cn M (np M i))) ∧ Mf.2 9 (cn M i) = M.2 9 i ∧ Mf.2 10 (cn M i) = M.2 10 i ∧ ∀ k, k < 8 → Mf.2 12 (8 * cn M i + k) = A'.2 12 (8 * i + k) ∧ Mf.2 13 (8 * cn M i + k) = M.2 13 (8 * i + k) := by
    intro i hi hk
    rw [mr]
    have := r1.2.2.1 i hi hk
    rw [r3 7 (by decide), r3 9 (by decide), r3 10 (by decide), r3 13 (by decide)] at this
    exact this
  have srow : ∀ i, i < nn M → kp M i = true → Sf.2 9 (cn M i) = S.2 9 i ∧ Sf.2 10 (cn M i) = (if i = 0 then -1 else nI (cn M (np M i))) ∧ Sf.2 11 (cn M i) = S.2 11 i ∧ Sf.2 12 (cn M i) = S.2 12 i ∧ ∀ k, k < sn M i → Sf.2 13 (8 * cn M i + k) = A.2 13 (8 * i + k) ∧ Sf.2 14 (8 * cn M i + k) = S.2 14 (8 * i + k) := by
    intro i hi hk
    rw [sr]
    have := c1.2.2.2.1 i hi hk
    rw [c3 9 (by decide) (by decide), c3 11 (by decide) (by decide), c3 12 (by decide) (by decide), c3 14 (by decide) (by decide)] at this
    exact this
  have end_ : ∀ i, i < nn M → kp M i = true → nd Mf (cn M i) = nd M i := fun i hi hk => by unfold nd; rw [(mrow i hi hk).1]
  have edp : ∀ i, i < nn M → kp M i = true → dp Mf (cn M i) = dp M i := fun i hi hk => by unfold dp; rw [(mrow i hi hk).2.2.2.1]
  have ens : ∀ i, i < nn M → kp M i = true → ns Mf (cn M i) = ns M i := fun i hi hk => by unfold ns; rw [(mrow i hi hk).2.2.1]
  have esn : ∀ i, i < nn M → kp M i = true → sn Mf (cn M i) = sn M i := fun i hi hk => by unfold sn; rw [end_ i hi hk, esi]
  -- the verdicts, marked
  have mark : ∀ i k, i < nn M → kp M i = true → k < sn M i → A.2 13 (8 * i + k) = A'.2 12 (8 * i + k) ∧ ∃ v, v ≤ 7 ∧ A'.2 12 (8 * i + k) = nI v := by
    intro i k hi hk hk2
    have h8 := sn_le i2 (hN i hi).2.1
    by_cases hm : mkR M (nn M) (8 * i + k)
    · have hmc : mkC M (nn M) (8 * i + k) := by
        obtain ⟨j, j1, j2, j3, j4⟩ := hm
        have hb := (hN j j1).2.2.2.2.2 j2
        have h9 := sn_le i2 (hN (np M j) (by omega)).2.1
        have : np M j = i := by omega
        exact ⟨j, j1, j2, j3, by rw [this]; exact hk, j4⟩
      rw [c4 _ hmc, r4 _ hm]
      exact ⟨rfl, 7, by omega, rfl⟩
    · have hmc : ¬ mkC M (nn M) (8 * i + k) := fun ⟨j, j1, j2, j3, _, j5⟩ => hm ⟨j, j1, j2, j3, j5⟩
      rw [c5 _ hmc, r5 _ hm]
      exact ⟨(hQ.2.2.1 i k hi hk2).1, (hP.2.2.2.2 i k hi hk2).2⟩
  have hWP : WP Mf := by
    refine ⟨by rw [enn, m7], by omega, by omega, fun j hj => ?_, fun j k hj hk => ?_⟩
    · rw [enn] at hj
      obtain ⟨i, hi, hk, rfl⟩ := cn_ex hj
      obtain ⟨n1, n2, n3, n4, n5, n6⟩ := hN i hi
      obtain ⟨g1, g2, g3, g4, -⟩ := mrow i hi hk
      unfold Wn
      rw [end_ i hi hk, edp i hi hk, ens i hi hk, g1, g2, g3, g4, q2]
      refine ⟨n1, n2, n3, n4, fun h0 => ?_, fun h0 => ?_⟩
      · have hi0 : i = 0 := by
          rcases Nat.eq_zero_or_pos i with e | e
          · exact e
          · have := cn_lt (M := M) (i := 0) (j := i) e (kp_0 M)
            omega
        rw [if_pos hi0]
        exact ⟨rfl, (n5 hi0).2⟩
      · have hi0 : 0 < i := by
          rcases Nat.eq_zero_or_pos i with e | e
          · subst e; exact absurd h0 (by show ¬ 0 < 0; omega)
          · exact e
        obtain ⟨b1, b2, b3, b4, b5⟩ := n6 hi0
        have hks := kp_S hN hi0 hi
        have hkp : kp M (np M i) = true := by
          rw [hk] at hks
          have := hks.symm
          simp only [Bool.and_eq_true] at this
          exact this.2
        have hcp := cn_le M (np M i)
        have enp : np Mf (cn M i) = cn M (np M i) := by unfold np; rw [g2, if_neg (by omega)]; exact nv_nI (by show cn M (np M i) < _; omega)
        rw [enp, if_neg (by omega), esn _ (by omega) hkp, edp _ (by omega) hkp]
        exact ⟨rfl, cn_lt b2 hkp, b3, b4, b5⟩
    · rw [enn] at hj
      obtain ⟨i, hi, hk', rfl⟩ := cn_ex hj
      rw [esn i hi hk'] at hk
      have h8 := sn_le i2 (hN i hi).2.1
      obtain ⟨g5, g6⟩ := (mrow i hi hk').2.2.2.2 k (by omega)
      unfold Ww Wv
      rw [g5, g6]
      exact ⟨(hP.2.2.2.2 i k hi hk).1, (mark i k hi hk' hk).2⟩
  have hsz : ∀ i, i ≤ nn M → szF Mf (cn M i) = szK M i := by
    intro i
    induction i with
    | zero => intro _; rfl
    | succ i ih =>
      intro hi
      show _ = szK M i + _
      by_cases hk : kp M i = true
      · rw [cn_kp hk, if_pos hk, ← ih (by omega)]
        show szF Mf (cn M i) + zs Mf (nd Mf (cn M i)) = _
        rw [end_ i (by omega) hk, ezs]
      · rw [cn_nk hk, if_neg hk, ih (by omega)]; rfl
  have hSP : SP Sf Mf := by
    refine ⟨by rw [s5, m7], fun j hj => ?_, fun j k hj hk => ?_, ?_⟩
    · rw [enn] at hj
      obtain ⟨i, hi, hk, rfl⟩ := cn_ex hj
      obtain ⟨g1, g2, g3, g4, -⟩ := mrow i hi hk
      obtain ⟨f1, f2, f3, f4, -⟩ := srow i hi hk
      obtain ⟨p1, p2, p3, p4⟩ := hQ.2.1 i hi
      unfold SPn
      rw [g1, g2, g3, g4, f1, f2, f3, f4]
      exact ⟨p1, rfl, p3, p4⟩
    · rw [enn] at hj
      obtain ⟨i, hi, hk', rfl⟩ := cn_ex hj
      rw [esn i hi hk'] at hk
      have h8 := sn_le i2 (hN i hi).2.1
      obtain ⟨g5, g6⟩ := (mrow i hi hk').2.2.2.2 k (by omega)
      obtain ⟨f5, f6⟩ := (srow i hi hk').2.2.2.2 k hk
      unfold SPv
      rw [g5, g6, f5, f6]
      exact ⟨(mark i k hi hk' hk).1, (hQ.2.2.1 i k hi hk).2⟩
    · rw [s6, enn, hsz _ (Nat.le_refl _)]
  refine ⟨q7 i1, q8 i2, SC_core hcore hcoreS i3, SM_core hcore hcoreS i4, ?_, Or.inr ⟨by rw [m1 6 (by decide), h6], hWP, hSP⟩, by rw [s1 7 (by decide) (by decide), i7]⟩
  unfold WL
  rw [m1 3 (by decide), m1 4 (by decide), m1 5 (by decide), s1 2 (by decide) (by decide), s1 3 (by decide) (by decide), s1 4 (by decide) (by decide)]
  exact i5
theorem c_prune {S M : PS} {ov : Nat → Int64} (h : INV S M) : opI (q_L_prune S ov) (q_X6_prune M) := by
  unfold q_L_prune q_X5_prune q_X6_prune
  rcases c_asks h with ⟨h1, h2⟩ | ⟨-, -, h1, h2⟩
  · rw [h1, h2, xb_l, ob_pair, xc_l]
    exact opI_thr (e := 1) (r := 0) (by decide) h
  · rw [h1, h2, xb_r, ob_pair]
    dsimp only
    have h' := inv_thr 0 h
    have z0 : (sN M 0 0).1 0 = 0 := rfl
    clear h2
    generalize sN M 0 0 = M1 at h' z0 ⊢
    rcases c_plan h' with ⟨-, e2, -⟩ | ⟨a1, -, -, a4, a5⟩
    · rw [h1] at e2; cases e2
    · obtain ⟨A, X, b0, b1, b2, b3, b4, b5⟩ := e_cutBroken h'.1 h'.2.1 h'.2.2.1 h'.2.2.2.1 a4 a5
      obtain ⟨A', X', d0, d1, d2, d3, d4, d5⟩ := e_pruneR h'.1 h'.2.1 a4
      have key := prune_inv h' a4 a5 a1 b1 b2 b3 b4 b5 d1 d2 d3 d4 d5
      rw [if_neg d10, b0, ob_some, xc_r, d0, sN0, a5.1, a4.1]
      dsimp only
      obtain ⟨f, f1, f2⟩ := wrL_0 ov ((nI (nn M1) - nI (cn M1 (nn M1))).toInt64)
      rw [f1, ob_some]
      refine ⟨_, _, 0, _, _, rfl, rfl, ?_, fun _ => f2, key⟩
      rw [sN_o _ _ (by decide), d1.1 0, d2, z0]
