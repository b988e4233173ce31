/-! plan: one node more -/
theorem sites_run {n i p : Nat} (hn : n = i + 1) (hp1 : 1 ≤ p) (hp : p ≤ 1000000) : ∀ (r K x w : Nat) (S M : PS) (kc kr : Nat), GR S M n K x w → K + r = sn M i → r < kc → r < kr →
    ∃ S' M' w', iter2 (q_X3_appendNode_L70 (nI p) (nI i)) kc (nI K) S = some S' ∧ iter2 (q_X6_make_L61 (nI (nd M i)) (nI p) (nI (dp M i)) (nI i)) kr (nI K) M = some M' ∧ GR S' M' n (sn M' i) x w' := by
  intro r
  induction r with
  | zero =>
    intro K x w S M kc kr hG hK hc hr
    have h8 := gr_sn hG (show i < n by omega)
    obtain ⟨kc, rfl⟩ : ∃ k', kc = k' + 1 := ⟨kc - 1, by omega⟩
    obtain ⟨kr, rfl⟩ : ∃ k', kr = k' + 1 := ⟨kr - 1, by omega⟩
    have hK : K = sn M i := by omega
    subst hK
    have hg := hG
    obtain ⟨hr, g1, g2, g3, g4, -⟩ := hG
    obtain ⟨n1, n2, -⟩ := (g4 i (by omega)).1
    have h30 := hr.2.1.2.1
    have hsi : M.2 5 (nd M i) = nI (sn M i) := (hr.2.1.2.2.1 _ n2).2.2.2.2.2.2.2.1
    refine ⟨S, M, w, ?_, ?_, hg⟩
    · show q_X3_appendNode_L70 (nI p) (nI i) (iter2 (q_X3_appendNode_L70 (nI p) (nI i)) kc) (nI (sn M i)) S = _
      generalize iter2 (q_X3_appendNode_L70 (nI p) (nI i)) kc = rec
      unfold q_X3_appendNode_L70
      rw [e_sitesAt hr.2.1 hr.2.2.2.1 (by omega) (by rw [(g4 i (by omega)).2.1, n1]) n2, ob_some, if_pos (nI_le (Nat.le_refl _) (by omega))]
    · show q_X6_make_L61 (nI (nd M i)) (nI p) (nI (dp M i)) (nI i) (iter2 (q_X6_make_L61 (nI (nd M i)) (nI p) (nI (dp M i)) (nI i)) kr) (nI (sn M i)) M = _
      generalize iter2 (q_X6_make_L61 (nI (nd M i)) (nI p) (nI (dp M i)) (nI i)) kr = rec
      unfold q_X6_make_L61
      rw [rd_nI _ (by omega) (by omega), ob_some, hsi, if_pos (nI_le (Nat.le_refl _) (by omega))]
  | succ r ih =>
    intro K x w S M kc kr hG hK hc hr
    have h8 := gr_sn hG (show i < n by omega)
    obtain ⟨kc, rfl⟩ : ∃ k', kc = k' + 1 := ⟨kc - 1, by omega⟩
    obtain ⟨kr, rfl⟩ : ∃ k', kr = k' + 1 := ⟨kr - 1, by omega⟩
    obtain ⟨S1, w1, e1, hG1⟩ := site_step hG hn (show K < sn M i by omega) hp1 hp
    obtain ⟨hr', g1, g2, g3, g4, -⟩ := hG
    obtain ⟨n1, n2, -⟩ := (g4 i (by omega)).1
    have e2 := e_make hr'.1 hr'.2.1 hr'.2.2.2.2.1.2.1 g3 (fun j hj => (g4 j hj).1) (show i < n by omega) (show K < sn M i by omega) hp
    obtain ⟨S', M', w', h1, h2, h3⟩ := ih (K + 1) x w1 S1 _ kc kr hG1 (show K + 1 + r = sn M i by omega) (by omega) (by omega)
    refine ⟨S', M', w', ?_, ?_, h3⟩
    · show q_X3_appendNode_L70 (nI p) (nI i) (iter2 (q_X3_appendNode_L70 (nI p) (nI i)) kc) (nI K) S = _
      generalize iter2 (q_X3_appendNode_L70 (nI p) (nI i)) kc = rec at h1 ⊢
      unfold q_X3_appendNode_L70
      rw [e_sitesAt hr'.2.1 hr'.2.2.2.1 (by omega) (by rw [(g4 i (by omega)).2.1, n1]) n2, ob_some, if_neg (nI_ge (show K < sn M i by omega) (by omega)), e1, ob_some, nI_1]
      exact h1
    · show q_X6_make_L61 (nI (nd M i)) (nI p) (nI (dp M i)) (nI i) (iter2 (q_X6_make_L61 (nI (nd M i)) (nI p) (nI (dp M i)) (nI i)) kr) (nI K) M = _
      rw [e2]
      exact h2
/-- a node more, with all its sites -/
theorem node_step {S M : PS} {n K x w m p d : Nat} {par st : Int32} (hG : GR S M n K x w) (hf : 0 < n → K = sn M (n - 1)) (hn : n < 50) (hm : m < nm M) (hp1 : 1 ≤ p) (hp : p ≤ 1000000) (hd : d ≤ 10) (hpar : (n = 0 ∧ par = -1 ∧ st = -1) ∨ (0 < n ∧ ∃ q k, q < n ∧ par = nI q ∧ k < sn M q ∧ st = nI k ∧ d = dp M q + 1)) :
    ∃ S' M' w', q_X3_appendNode S (nI m) par st (nI d) (nI p) = some S' ∧ q_X6_make M (nI m) (nI p) (nI d) par st = some M' ∧ GR S' M' (n + 1) (sn M' n) x w' := by
  have hsn : ∀ i, i < n → sn M i ≤ 8 := fun i hi => gr_sn hG hi
  obtain ⟨hr, g1, g2, g3, g4, g5, g6, g7, g8, g9, g10⟩ := hG
  obtain ⟨hC, hM, hSC, hSM, hWL, h6, h00⟩ := id hr
  have h30 := hM.2.1
  have hz := (hM.2.2.1 m hm).2.2.2.2
  unfold q_X3_appendNode q_X6_make
  rw [g1, g2, wA_nI _ _ _ (by omega) (by omega), ob_some, wA_nI _ _ _ (by omega) (by omega), ob_some, wA_nI _ _ _ (by omega) (by omega), ob_some, wA_nI _ _ _ (by omega) (by omega), ob_some, wN_e, ob_some, wN_e, ob_some, wA_nI _ _ _ (by omega) (by omega), ob_some, wA_nI _ _ _ (by omega) (by omega), ob_some, wA_nI _ _ _ (by omega) (by omega), ob_some, wA_nI _ _ _ (by omega) (by omega), ob_some, wA_nI _ _ _ (by omega) (by omega), ob_some, sA_1, sA_1, sA_1, sA_1, g1, nI_1]
  have e3 : (sN (sA (sA (sA (sA S 9 (upd (S.2 9) n (nI m))) 10 (upd ((sA S 9 (upd (S.2 9) n (nI m))).2 10) n par)) 11 (upd ((sA (sA S 9 (upd (S.2 9) n (nI m))) 10 (upd ((sA S 9 (upd (S.2 9) n (nI m))).2 10) n par)).2 11) n st)) 12 (upd ((sA (sA (sA S 9 (upd (S.2 9) n (nI m))) 10 (upd ((sA S 9 (upd (S.2 9) n (nI m))).2 10) n par)) 11 (upd ((sA (sA S 9 (upd (S.2 9) n (nI m))) 10 (upd ((sA S 9 (upd (S.2 9) n (nI m))).2 10) n par)).2 11) n st)).2 12) n (nI d))) 5 (nI (n + 1))).2 3 = S.2 3 := rfl
  rw [e3, rd_nI _ (by omega) (by omega), ob_some, (hSM.2.1 m hm).1, hz.1, wN_e, ob_some, sN_o _ _ (by decide), sA_1, sA_1, sA_1, sA_1, g7, nI_add]
  generalize hS' : sN (sN (sA (sA (sA (sA S 9 _) 10 _) 11 _) 12 _) 5 (nI (n + 1))) 6 (nI (szF M n + zs M m)) = S'
  generalize hM' : sA (sA (sA (sA (sA (sN M 7 (nI (n + 1))) 7 _) 11 _) 10 _) 8 _) 9 _ = M'
  have s9 : S'.2 9 = upd (S.2 9) n (nI m) := by rw [← hS']; rfl
  have s10 : S'.2 10 = upd (S.2 10) n par := by rw [← hS']; rfl
  have s11 : S'.2 11 = upd (S.2 11) n st := by rw [← hS']; rfl
  have s12 : S'.2 12 = upd (S.2 12) n (nI d) := by rw [← hS']; rfl
  have sk : ∀ r, r < 9 ∨ 12 < r → S'.2 r = S.2 r := fun r hr => by rw [← hS', sN_2, sN_2, sA_o _ _ (by omega), sA_o _ _ (by omega), sA_o _ _ (by omega), sA_o _ _ (by omega)]
  have sn5 : S'.1 5 = nI (n + 1) := by rw [← hS']; rfl
  have sn6 : S'.1 6 = nI (szF M n + zs M m) := by rw [← hS']; rfl
  have snk : ∀ r, r ≠ 5 → r ≠ 6 → S'.1 r = S.1 r := fun r r5 r6 => by rw [← hS', sN_o _ _ r6, sN_o _ _ r5, sA_1, sA_1, sA_1, sA_1]
  have m7 : M'.2 7 = upd (M.2 7) n (nI m) := by rw [← hM']; rfl
  have m8 : M'.2 8 = upd (M.2 8) n par := by rw [← hM']; rfl
  have m9 : M'.2 9 = upd (M.2 9) n st := by rw [← hM']; rfl
  have m10 : M'.2 10 = upd (M.2 10) n (nI d) := by rw [← hM']; rfl
  have mk : ∀ r, r < 7 ∨ 11 < r → M'.2 r = M.2 r := fun r hr => by rw [← hM', sA_o _ _ (by omega), sA_o _ _ (by omega), sA_o _ _ (by omega), sA_o _ _ (by omega), sA_o _ _ (by omega), sN_2]
  have mn7 : M'.1 7 = nI (n + 1) := by rw [← hM']; rfl
  have mnk : ∀ r, r ≠ 7 → M'.1 r = M.1 r := fun r hr => by rw [← hM', sA_1, sA_1, sA_1, sA_1, sA_1, sN_o _ _ hr]
  clear hS' hM' e3
  have hag : AG M M' n := by
    refine ⟨core_of (fun k hk => mnk k (by omega)) (fun k hk => mk k (by omega)), fun j hj r r1 r2 => ?_⟩
    have : r = 7 ∨ r = 8 ∨ r = 9 ∨ r = 10 := by omega
    rcases this with rfl | rfl | rfl | rfl
    · rw [m7, upd_o _ _ (by omega)]
    · rw [m8, upd_o _ _ (by omega)]
    · rw [m9, upd_o _ _ (by omega)]
    · rw [m10, upd_o _ _ (by omega)]
  have hcq := core_eq hag.1
  have hcs : coreS S' = coreS S := coreS_of (fun k hk => snk k (by omega) (by omega)) (fun k hk => sk k (by omega))
  have endn : nd M' n = m := by unfold nd; rw [m7, upd_s, nv_nI (by omega)]
  have edpn : dp M' n = d := by unfold dp; rw [m10, upd_s, nv_nI (by omega)]
  have hWnn : Wn M' n := by
    unfold Wn
    rw [endn, edpn, m7, m8, m9, m10, upd_s, upd_s, upd_s, upd_s, hcq.2.1]
    refine ⟨rfl, hm, rfl, hd, fun h0 => ?_, fun h0 => ?_⟩
    · rcases hpar with ⟨-, a, b⟩ | ⟨a, -⟩
      · exact ⟨a, b⟩
      · omega
    · rcases hpar with ⟨a, -⟩ | ⟨-, q, k, q1, q2, q3, q4, q5⟩
      · omega
      · have h8 := hsn q q1
        have enp : np M' n = q := by unfold np; rw [m8, upd_s, q2, nv_nI (by omega)]
        have ens : ns M' n = k := by unfold ns; rw [m9, upd_s, q4, nv_nI (by omega)]
        rw [enp, ens, ag_sn hag q1, ag_dp hag q1]
        exact ⟨q2, q1, q4, q3, q5⟩
  have hdn : ∀ i, i < n → dn M' (n + 1) 0 i = dn M n K i := by
    intro i hi
    unfold dn
    rw [if_neg (by omega), ag_sn hag hi]
    by_cases h1 : i + 1 = n
    · rw [if_pos h1, hf (by omega), show n - 1 = i by omega]
    · rw [if_neg h1]
  have hdn0 : dn M' (n + 1) 0 n = 0 := by unfold dn; rw [if_pos rfl]
  have hmer : ∀ i k, i < n → mer M' i k = mer M i k := fun i k hi => ag_mer hag hi (by rw [mk 13 (by simp)])
  have hG1 : GR S' M' (n + 1) 0 x w := by
    refine ⟨⟨hcq.2.2.2.2.2.2.1 hC, hcq.2.2.2.2.2.2.2 hM, SC_core hag.1 hcs hSC, SM_core hag.1 hcs hSM, ?_, by rw [mnk 6 (by decide)]; exact h6, by rw [mnk 0 (by decide)]; exact h00⟩, sn5, mn7, by omega, fun i hi => ?_, fun h => by omega, fun _ => Nat.zero_le _, ?_, fun i k hi hk => ?_, ⟨?_, fun j hj => ?_, fun i k hi hk hop => ?_⟩, ?_⟩
    · unfold WL
      rw [mnk 3 (by decide), mnk 4 (by decide), mnk 5 (by decide), snk 2 (by decide) (by decide), snk 3 (by decide) (by decide), snk 4 (by decide) (by decide)]
      exact hWL
    · rcases Nat.lt_or_ge i n with h1 | h1
      · refine ⟨ag_Wn hag h1 (g4 i h1).1, ?_⟩
        unfold SPn
        rw [s9, s10, s11, s12, m7, m8, m9, m10, upd_o _ _ (by omega), upd_o _ _ (by omega), upd_o _ _ (by omega), upd_o _ _ (by omega), upd_o _ _ (by omega), upd_o _ _ (by omega), upd_o _ _ (by omega), upd_o _ _ (by omega)]
        exact (g4 i h1).2
      · have : i = n := by omega
        subst this
        refine ⟨hWnn, ?_⟩
        unfold SPn
        rw [s9, s10, s11, s12, m7, m8, m9, m10, upd_s, upd_s, upd_s, upd_s, upd_s, upd_s, upd_s, upd_s]
        exact ⟨rfl, rfl, rfl, rfl⟩
    · rw [sn6]
      show _ = nI (szF M' n + zs M' (nd M' n))
      rw [ag_szF hag, endn, ag_zs hag]
    · rcases Nat.lt_or_ge i n with h1 | h1
      · rw [hdn i h1] at hk
        exact ag_ST hag h1 (mnk 4 (by decide)) (by rw [mk 12 (by simp)]) (by rw [mk 13 (by simp)]) (fun r r1 r2 => by rw [sk r (by omega)]) (g8 i k h1 hk)
      · have : i = n := by omega
        subst this
        rw [hdn0] at hk; omega
    · have g := g9.1
      unfold wl kq at g ⊢
      rw [snk 7 (by decide) (by decide), sk 17 (by simp), sk 18 (by simp)]
      exact g
    · obtain ⟨i, k, a1, a2, a3, a4, a5⟩ := g9.2.1 j hj
      exact ⟨i, k, by omega, by rw [hdn i a1]; exact a2, by rw [mk 12 (by simp)]; exact a3, by rw [sk 17 (by simp)]; exact a4, by rw [sk 18 (by simp), hmer i k a1]; exact a5⟩
    · rcases Nat.lt_or_ge i n with h1 | h1
      · rw [hdn i h1] at hk
        rw [mk 12 (by simp)] at hop
        obtain ⟨j, j1, j2⟩ := g9.2.2 i k h1 hk hop
        exact ⟨j, j1, by rw [sk 17 (by simp)]; exact j2⟩
      · have : i = n := by omega
        subst this
        rw [hdn0] at hk; omega
    · rcases Nat.eq_zero_or_pos n with h1 | h1
      · have := g5 h1; omega
      · have h2 := g6 h1
        have h3 := hsn (n - 1) (by omega)
        omega
  obtain ⟨S2, M2, w2, h1, h2, h3⟩ := sites_run (n := n + 1) (i := n) rfl hp1 hp (sn M' n) 0 x w S' M' 1000 1000 hG1 (by omega) (by have := gr_sn hG1 (show n < n + 1 by omega); omega) (by have := gr_sn hG1 (show n < n + 1 by omega); omega)
  rw [endn, edpn, nI_0] at h2
  rw [nI_0] at h1
  exact ⟨S2, M2, w2, h1, h2, h3⟩
