/-! plan: one site more -/
theorem site_step {S M : PS} {n i K x w p : Nat} (hG : GR S M n K x w) (hn : n = i + 1) (hK : K < sn M i) (hp1 : 1 ≤ p) (hp : p ≤ 1000000) :
    ∃ S' w', q_X3_lookAtSite S (nI i) (nI K) (nI p) = some S' ∧ GR S' (sA (sA M 13 (upd (M.2 13) (8 * i + K) (nI (wgt p (fq M (nd M i) K))))) 12 (upd (M.2 12) (8 * i + K) (vv M i K))) n (K + 1) x w' := by
  have hsn8 := gr_sn hG (show i < n by omega)
  obtain ⟨hr, g1, g2, g3, g4, g5, g6, g7, g8, g9, g10⟩ := hG
  have hN : ∀ i, i < n → Wn M i := fun i hi => (g4 i hi).1
  have hP : ∀ i, i < n → SPn S M i := fun i hi => (g4 i hi).2
  obtain ⟨hC, hM, hSC, hSM, hWL, h6, h00⟩ := id hr
  have h30 := hM.2.1
  have hi : i < n := by omega
  obtain ⟨n1, n2, n3, n4, -⟩ := hN i hi
  obtain ⟨p1, p2, p3, p4⟩ := hP i hi
  obtain ⟨-, -, -, -, f1, f2, f3⟩ := hM.2.2.2.2 (nd M i) K n2 hK
  have hS5 := (hSM.2.2.2.1 (nd M i) K n2 hK).2.2
  have hlt := tn_lt hC hM i K
  have hpl := pcn_le (tn M i K) 30
  obtain ⟨wb1, wb2⟩ := wgt_b hp1 f2 (p := p)
  generalize hW : wgt p (fq M (nd M i) K) = W at wb1 wb2 ⊢
  have ht : 8 * i + K < 400 := by omega
  generalize htt : 8 * i + K = t at ht ⊢
  -- the new states
  generalize hM' : sA (sA M 13 (upd (M.2 13) t (nI W))) 12 (upd (M.2 12) t (vv M i K)) = M'
  have m13 : M'.2 13 = upd (M.2 13) t (nI W) := by rw [← hM']; rfl
  have m12 : M'.2 12 = upd (M.2 12) t (vv M i K) := by rw [← hM']; rfl
  have mk : ∀ r, r ≠ 12 → r ≠ 13 → M'.2 r = M.2 r := fun r r1 r2 => by rw [← hM', sA_o _ _ r1, sA_o _ _ r2]
  have mn : M'.1 = M.1 := by rw [← hM']; rfl
  clear hM'
  have hag : AG M M' n := ⟨core_of (fun k _ => by rw [mn]) (fun k hk => mk k (by omega) (by omega)), fun j _ r r1 r2 => by rw [mk r (by omega) (by omega)]⟩
  have hcq := core_eq hag.1
  -- common to both ways out
  have other : ∀ j k, j < n → k < dn M' n (K + 1) j → (j = i ∧ k = K) ∨ (k < dn M n K j ∧ 8 * j + k ≠ t) := by
    intro j k hj hk
    unfold dn at hk ⊢
    by_cases h1 : j + 1 = n
    · rw [if_pos h1] at hk ⊢
      have : j = i := by omega
      subst this
      rcases Nat.lt_or_ge k K with h2 | h2
      · right; omega
      · left; omega
    · rw [if_neg h1, ag_sn hag hj] at hk
      rw [if_neg h1]
      have := sn_le hM (hN j hj).2.1
      right; omega
  have hHR : ∀ S' : PS, coreS S' = coreS S → HR S' M' := by
    intro S' hS'
    refine ⟨hcq.2.2.2.2.2.2.1 hC, hcq.2.2.2.2.2.2.2 hM, SC_core hag.1 hS' hSC, SM_core hag.1 hS' hSM, ?_, by rw [mn]; exact h6, by rw [mn]; exact h00⟩
    unfold WL
    rw [mn, coreS_num hS' (by decide), coreS_num hS' (by decide), coreS_num hS' (by decide)]
    exact hWL
  have hdnK : ∀ j k, j < n → k < dn M n K j → k < dn M' n (K + 1) j := by
    intro j k hj hk
    unfold dn at hk ⊢
    by_cases h1 : j + 1 = n
    · rw [if_pos h1] at hk ⊢; omega
    · rw [if_neg h1] at hk ⊢
      rw [ag_sn hag hj]; exact hk
  have hlast : K < dn M' n (K + 1) i := by unfold dn; rw [if_pos (by omega)]; omega
  -- what the planner writes
  unfold q_X3_lookAtSite q_X5_slot
  rw [ob_some, slotN, htt, rd_nI _ (by omega) (by omega), ob_some, p1, n1, e_targetsOfSite hC hM hSC hSM n2 hK, ob_some, ob_some, ob_some, slotN, rd_nI _ (by omega) (by omega), ob_some, hS5, f1, e_wgt hp f3, hW, wA_nI _ _ _ (by omega) (by omega), ob_some]
  have etn : ts M (rc M (nd M i) K) (sl M (nd M i) K) = tn M i K := rfl
  have hs1 : (sA S 14 (upd (S.2 14) t (nI W))).1 1 = nI (nm M) := by show S.1 1 = _; rw [hSM.1, hM.1]
  rw [etn, e_member2 (Nat.lt_of_lt_of_le hlt (by decide)) h30 hs1 (ts_hi hC), ob_some, wA_nI _ _ _ (by omega) (by omega), ob_some, e_bitCount (Nat.lt_of_lt_of_le hlt (by decide)), pcn_30 hlt, ob_some, sA_s, rd_nI _ (by omega) (by omega), ob_some, upd_s]
  generalize hS9 : sA (sA S 14 (upd (S.2 14) t (nI W))) 15 (upd ((sA S 14 (upd (S.2 14) t (nI W))).2 15) t (mb (tn M i K) 0 30 0)) = S9
  have t14 : S9.2 14 = upd (S.2 14) t (nI W) := by rw [← hS9]; rfl
  have t15 : S9.2 15 = upd (S.2 15) t (mb (tn M i K) 0 30 0) := by rw [← hS9]; rfl
  have tk : ∀ r, r ≠ 14 → r ≠ 15 → S9.2 r = S.2 r := fun r r1 r2 => by rw [← hS9, sA_o _ _ r2, sA_o _ _ r1]
  have t1 : S9.1 = S.1 := by rw [← hS9]; rfl
  clear hS9
  have hcs9 : coreS S9 = coreS S := coreS_of (fun k _ => by rw [t1]) (fun k hk => tk k (by omega) (by omega))
  have hr9 : HR S9 M := ⟨hC, hM, SC_core (M := M) rfl hcs9 hSC, SM_core (M := M) rfl hcs9 hSM, by unfold WL; rw [t1]; exact hWL, h6, h00⟩
  rw [e_early (n := n) hr9 g3 hN (fun j hj => by unfold SPn; rw [tk 9 (by decide) (by decide), tk 10 (by decide) (by decide), tk 11 (by decide) (by decide), tk 12 (by decide) (by decide)]; exact hP j hj) hi, ob_some, wA_nI _ _ _ (by omega) (by omega), ob_some, sA_s, rd_nI _ (by omega) (by omega), ob_some, upd_s]
  generalize hS13 : sA S9 13 (upd (S9.2 13) t (vv M i K)) = S13
  have u13 : S13.2 13 = upd (S.2 13) t (vv M i K) := by rw [← hS13, sA_s, tk 13 (by decide) (by decide)]
  have u14 : S13.2 14 = upd (S.2 14) t (nI W) := by rw [← hS13, sA_o _ _ (by decide), t14]
  have u15 : S13.2 15 = upd (S.2 15) t (mb (tn M i K) 0 30 0) := by rw [← hS13, sA_o _ _ (by decide), t15]
  have uk : ∀ r, r ≠ 13 → r ≠ 14 → r ≠ 15 → S13.2 r = S.2 r := fun r r1 r2 r3 => by rw [← hS13, sA_o _ _ r1, tk r r2 r3]
  have u1 : S13.1 = S.1 := by rw [← hS13]; exact t1
  clear hS13
  have wvt : M'.2 13 t = nI W := by rw [m13, upd_s]
  have wvv : M'.2 12 t = vv M i K := by rw [m12, upd_s]
  have hWw : Ww M' (8 * i + K) := ⟨W, wb1, wb2, by rw [htt]; exact wvt⟩
  have hmer : ∀ j k, j < n → 8 * j + k ≠ t → mer M' j k = mer M j k := fun j k hj h1 => ag_mer hag hj (by rw [m13, upd_o _ _ h1])
  have hszF : szF M' n = szF M n := ag_szF hag
  -- the rest of the invariant, for a state with these rows
  have main : ∀ (S' : PS) (w' : Nat), (∀ r, r ≠ 7 → S'.1 r = S.1 r) → (∀ r, r ≠ 13 → r ≠ 14 → r ≠ 15 → r ≠ 17 → r ≠ 18 → S'.2 r = S.2 r) → S'.2 13 = S13.2 13 → S'.2 14 = S13.2 14 → S'.2 15 = S13.2 15 → (Wv M' (8 * i + K) ∨ OPN S' M' i K) → WTL S' M' n (K + 1) w' → w' ≤ w + 1 → GR S' M' n (K + 1) x w' := by
    intro S' w' a1 a2 a13 a14 a15 hv hwt hle
    have hcs : coreS S' = coreS S := coreS_of (fun k hk => a1 k (by omega)) (fun k hk => a2 k (by omega) (by omega) (by omega) (by omega) (by omega))
    refine ⟨hHR S' hcs, by rw [a1 5 (by decide)]; exact g1, by rw [mn]; exact g2, g3, fun j hj => ⟨ag_Wn hag hj (hN j hj), ?_⟩, fun h => by omega, fun _ => ?_, by rw [a1 6 (by decide), hszF]; exact g7, fun j k hj hk => ?_, hwt, by omega⟩
    · unfold SPn
      rw [mk 7 (by decide) (by decide), mk 8 (by decide) (by decide), mk 9 (by decide) (by decide), mk 10 (by decide) (by decide), a2 9 (by decide) (by decide) (by decide) (by decide) (by decide), a2 10 (by decide) (by decide) (by decide) (by decide) (by decide), a2 11 (by decide) (by decide) (by decide) (by decide) (by decide), a2 12 (by decide) (by decide) (by decide) (by decide) (by decide)]
      exact hP j hj
    · rw [show n - 1 = i by omega, ag_sn hag hi]; omega
    · rcases other j k hj hk with ⟨rfl, rfl⟩ | ⟨h1, h2⟩
      · refine ⟨hWw, ?_, hv⟩
        unfold SPv
        rw [htt, a13, a14, u13, u14, m12, m13, upd_s, upd_s, upd_s, upd_s]
        exact ⟨rfl, rfl⟩
      · refine ag_ST hag hj (by rw [mn]) (by rw [m12, upd_o _ _ h2]) (by rw [m13, upd_o _ _ h2]) (fun r r1 r2 => ?_) (g8 j k hj h1)
        have : r = 13 ∨ r = 14 ∨ r = 15 := by omega
        rcases this with rfl | rfl | rfl
        · rw [a13, u13, upd_o _ _ h2]
        · rw [a14, u14, upd_o _ _ h2]
        · rw [a15, u15, upd_o _ _ h2]
  -- the list, with no site more
  have hold : ∀ j, j < w → ∃ j' k, j' < n ∧ k < dn M n K j' ∧ 8 * j' + k ≠ t ∧ M.2 12 (8 * j' + k) = -1 ∧ S.2 17 j = nI (8 * j' + k) ∧ S.2 18 j = nI (mer M j' k) := by
    intro j hj
    obtain ⟨j', k, a1, a2, a3, a4, a5⟩ := g9.2.1 j hj
    refine ⟨j', k, a1, a2, ?_, a3, a4, a5⟩
    unfold dn at a2
    by_cases h1 : j' + 1 = n
    · rw [if_pos h1] at a2; omega
    · rw [if_neg h1] at a2
      have := sn_le hM (hN j' a1).2.1
      omega
  by_cases hopen : vv M i K = -1
  · rw [if_pos hopen]
    -- it waits
    have hcond : tn M i K ≠ 0 ∧ pcn (tn M i K) 30 ≤ 1 ∧ dp M i < nv (M.1 4) := by
      unfold vv at hopen
      by_cases c0 : tn M i K = 0
      · rw [if_pos c0] at hopen; exact absurd hopen (by decide)
      · rw [if_neg c0] at hopen
        by_cases c1 : pcn (tn M i K) 30 ≤ 1
        · rw [if_pos c1] at hopen
          by_cases c2 : dp M i < nv (M.1 4)
          · exact ⟨c0, c1, c2⟩
          · rw [if_neg c2] at hopen; exact absurd hopen (by decide)
        · rw [if_neg c1] at hopen; exact absurd hopen (by decide)
    obtain ⟨c0, c1, c2⟩ := hcond
    obtain ⟨o1, o2, o3⟩ := tn_one hC hM c0 c1
    have emb : mb (tn M i K) 0 30 0 = nI (tg M i K) := by
      have := mb_pow (m := tg M i K) (by omega)
      rw [← o1] at this; exact this
    have hz := (hM.2.2.1 _ o2).2.2.2.2
    have e14 : S13.2 14 t = nI W := by rw [u14, upd_s]
    have e15 : S13.2 15 t = nI (tg M i K) := by rw [u15, upd_s, emb]
    have e3 : S13.2 3 (tg M i K) = nI (zs M (tg M i K)) := by rw [uk 3 (by decide) (by decide) (by decide), (hSM.2.1 _ o2).1, hz.1]
    have hz1 := hz.2.1
    have hz2 := hz.2.2.1
    have emer : mer M' i K = 1000 * W / zs M (tg M i K) := by
      unfold mer wt
      rw [ag_tg hag hi, ag_zs hag, htt, wvt, nv_nI (by omega)]
    have hdiv : 1000 * W / zs M (tg M i K) ≤ 1000000000 := Nat.le_trans (Nat.div_le_self _ _) (by omega)
    have enz : nz (nI (zs M (tg M i K))) = some () := by
      unfold nz
      rw [if_neg (by rw [show (0 : Int32) = nI 0 from rfl]; exact nI_nec (by omega) (by omega) (by omega))]
    have emt : q_X3_merit (nI W) (nI (zs M (tg M i K))) = some (nI (1000 * W / zs M (tg M i K))) := by
      unfold q_X3_merit
      rw [show (1 : Int32) = nI 1 from rfl, if_pos (nI_le (by omega) (by omega)), enz, ob_some, show (1000 : Int32) = nI 1000 from rfl, pk_mul, pk_div (by omega) (by omega) (by omega)]
    rw [rd_nI _ (by omega) (by omega), ob_some, e14, rd_nI _ (by omega) (by omega), ob_some, e15, rd_nI _ (by omega) (by omega), ob_some, e3, emt, ob_some]
    have hwl : wl S13 w := by
      have g := g9.1
      unfold wl kq at g ⊢
      rw [u1, uk 17 (by decide) (by decide) (by decide), uk 18 (by decide) (by decide) (by decide)]
      exact g
    have hne : ∀ j, j < w → nv (S13.2 17 j) ≠ t := by
      intro j hj
      obtain ⟨j', k, a1, a2, a3, a4, a5, a6⟩ := hold j hj
      have := sn_le hM (hN j' a1).2.1
      have hd : k ≤ 8 := by
        have h2 := dn_le (S := S) (x := x) (w := w) ⟨hr, g1, g2, g3, g4, g5, g6, g7, g8, g9, g10⟩ a1
        omega
      rw [uk 17 (by decide) (by decide) (by decide), a5, nv_nI (by omega)]
      exact a3
    obtain ⟨Y, y0, y1, y2, y3, y4, y5, y6⟩ := e_insert (S := S13) (w := w) (t := t) (q := 1000 * W / zs M (tg M i K)) (by omega) hwl ht (by omega) hne
    rw [y0, ob_some]
    refine ⟨Y, w + 1, rfl, main Y (w + 1) (fun r hr7 => by rw [y2 r hr7, u1]) (fun r r1 r2 r3 r4 r5 => by rw [y3 r r4 r5, uk r r1 r2 r3]) (y3 13 (by decide) (by decide)) (y3 14 (by decide) (by decide)) (y3 15 (by decide) (by decide)) (Or.inr ?_) ⟨y1, ?_, ?_⟩ (Nat.le_refl _)⟩
    · refine ⟨by rw [htt, wvv, hopen], by rw [ag_dp hag hi, mn]; exact c2, by rw [ag_tn hag hi, ag_tg hag hi]; exact o1, by rw [ag_tg hag hi, hcq.2.1]; exact o2, ?_⟩
      rw [htt, y3 15 (by decide) (by decide), e15, ag_tg hag hi]
    · intro j hj
      rcases y4 j hj with ⟨b1, b2⟩ | ⟨j', b0, b1, b2⟩
      · exact ⟨i, K, hi, hlast, by rw [htt, wvv, hopen], by rw [b1, htt], by rw [b2, emer]⟩
      · obtain ⟨q, k, a1, a2, a3, a4, a5, a6⟩ := hold j' b0
        refine ⟨q, k, a1, hdnK q k a1 a2, by rw [m12, upd_o _ _ a3]; exact a4, by rw [b1, uk 17 (by decide) (by decide) (by decide)]; exact a5, by rw [b2, uk 18 (by decide) (by decide) (by decide), hmer q k a1 a3]; exact a6⟩
    · intro j k hj hk hop
      rcases other j k hj hk with ⟨rfl, rfl⟩ | ⟨h1, h2⟩
      · rw [htt]; exact y5
      · rw [m12, upd_o _ _ h2] at hop
        obtain ⟨j', b1, b2⟩ := g9.2.2 j k hj h1 hop
        obtain ⟨j'', b3, b4⟩ := y6 j' b1
        exact ⟨j'', b3, by rw [b4, uk 17 (by decide) (by decide) (by decide)]; exact b2⟩
  · rw [if_neg hopen]
    refine ⟨S13, w, rfl, main S13 w (fun r _ => by rw [u1]) (fun r r1 r2 r3 _ _ => uk r r1 r2 r3) rfl rfl rfl (Or.inl ?_) ⟨?_, ?_, ?_⟩ (by omega)⟩
    · unfold Wv
      rw [htt, wvv]
      unfold vv at hopen ⊢
      by_cases c0 : tn M i K = 0
      · rw [if_pos c0]; exact ⟨1, by decide, rfl⟩
      · rw [if_neg c0] at hopen ⊢
        by_cases c1 : pcn (tn M i K) 30 ≤ 1
        · rw [if_pos c1] at hopen ⊢
          by_cases c2 : dp M i < nv (M.1 4)
          · rw [if_pos c2] at hopen ⊢
            by_cases c3 : nI (tm M (tg M i K) i) ≤ M.1 5
            · rw [if_pos c3] at hopen; exact absurd rfl hopen
            · rw [if_neg c3]; exact ⟨4, by decide, rfl⟩
          · rw [if_neg c2]; exact ⟨3, by decide, rfl⟩
        · rw [if_neg c1]; exact ⟨2, by decide, rfl⟩
    · have g := g9.1
      unfold wl kq at g ⊢
      rw [u1, uk 17 (by decide) (by decide) (by decide), uk 18 (by decide) (by decide) (by decide)]
      exact g
    · intro j hj
      obtain ⟨q, k, a1, a2, a3, a4, a5, a6⟩ := hold j hj
      exact ⟨q, k, a1, hdnK q k a1 a2, by rw [m12, upd_o _ _ a3]; exact a4, by rw [uk 17 (by decide) (by decide) (by decide)]; exact a5, by rw [uk 18 (by decide) (by decide) (by decide), hmer q k a1 a3]; exact a6⟩
    · intro j k hj hk hop
      rcases other j k hj hk with ⟨rfl, rfl⟩ | ⟨h1, h2⟩
      · rw [htt, wvv] at hop; exact absurd hop hopen
      · rw [m12, upd_o _ _ h2] at hop
        obtain ⟨j', b1, b2⟩ := g9.2.2 j k hj h1 hop
        exact ⟨j', b1, by rw [uk 17 (by decide) (by decide) (by decide)]; exact b2⟩
