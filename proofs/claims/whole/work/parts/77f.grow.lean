/-! plan: it grows alike -/
/-- the verdict on a site that is taken -/
def lv (M : PS) (n i k : Nat) : Int32 := if nI (szF M n + zs M (tg M i k)) ≤ M.1 3 then (if n < 50 then 0 else 6) else 5
theorem lv_val (M : PS) (n i k : Nat) : ∃ v, v ≤ 7 ∧ lv M n i k = nI v := by
  unfold lv
  by_cases h1 : nI (szF M n + zs M (tg M i k)) ≤ M.1 3
  · rw [if_pos h1]
    by_cases h2 : n < 50
    · rw [if_pos h2]; exact ⟨0, by decide, rfl⟩
    · rw [if_neg h2]; exact ⟨6, by decide, rfl⟩
  · rw [if_neg h1]; exact ⟨5, by decide, rfl⟩
/-- a site is taken off the list -/
theorem take_step {S M : PS} {n K x w i k : Nat} (hG : GR S M n K x w) (hf : 0 < n → K = sn M (n - 1)) (hw : 0 < w) (hi : i < n) (hk : k < sn M i) (ho : M.2 12 (8 * i + k) = -1) (ht : S.2 17 (w - 1) = nI (8 * i + k)) {v : Nat} (hv : v ≤ 7) :
    GR (sA (sN S 7 (nI (w - 1))) 13 (upd (S.2 13) (8 * i + k) (nI v))) (sA M 12 (upd (M.2 12) (8 * i + k) (nI v))) n K (x + 1) (w - 1) := by
  have hsn : ∀ i, i < n → sn M i ≤ 8 := fun i hi => gr_sn hG hi
  obtain ⟨hr, g1, g2, g3, g4, g5, g6, g7, g8, ⟨w1, w2, w3⟩, g10⟩ := hG
  obtain ⟨hC, hM, hSC, hSM, hWL, h6, h00⟩ := id hr
  generalize htt : 8 * i + k = t at ho ht ⊢
  generalize hS' : sA (sN S 7 (nI (w - 1))) 13 (upd (S.2 13) t (nI v)) = S'
  generalize hM' : sA M 12 (upd (M.2 12) t (nI v)) = M'
  have s13 : S'.2 13 = upd (S.2 13) t (nI v) := by rw [← hS']; rfl
  have sk : ∀ r, r ≠ 13 → S'.2 r = S.2 r := fun r hr => by rw [← hS', sA_o _ _ hr]; rfl
  have sn7 : S'.1 7 = nI (w - 1) := by rw [← hS']; rfl
  have snk : ∀ r, r ≠ 7 → S'.1 r = S.1 r := fun r hr => by rw [← hS', sA_1, sN_o _ _ hr]
  have m12 : M'.2 12 = upd (M.2 12) t (nI v) := by rw [← hM']; rfl
  have mk : ∀ r, r ≠ 12 → M'.2 r = M.2 r := fun r hr => by rw [← hM', sA_o _ _ hr]
  have mn : M'.1 = M.1 := by rw [← hM']; rfl
  clear hS' hM'
  have hag : AG M M' n := ⟨core_of (fun k _ => by rw [mn]) (fun k hk => mk k (by omega)), fun j _ r r1 r2 => by rw [mk r (by omega)]⟩
  have hcq := core_eq hag.1
  have hcs : coreS S' = coreS S := coreS_of (fun k hk => snk k (by omega)) (fun k hk => sk k (by omega))
  have hdn : ∀ j, j < n → dn M' n K j = dn M n K j := by
    intro j hj
    unfold dn
    rw [ag_sn hag hj]
  have hnv : ¬ nI v = -1 := nI_nm1 (by omega)
  have hmer : ∀ j k, j < n → mer M' j k = mer M j k := fun j k hj => ag_mer hag hj (by rw [mk 13 (by decide)])
  have hkq : ∀ j, kq S' j = kq S j := fun j => by unfold kq; rw [sk 17 (by decide), sk 18 (by decide)]
  have hnt : ∀ j, j < w - 1 → S.2 17 j ≠ nI t := by
    intro j hj e
    obtain ⟨a, b, a1, a2, a3, a4, a5⟩ := w2 j (by omega)
    obtain ⟨c, d, c1, c2, c3, c4, c5⟩ := w2 (w - 1) (by omega)
    rw [dn_full hf a1] at a2
    rw [dn_full hf c1] at c2
    have h1 := hsn a a1
    have h2 := hsn c c1
    have e1 := (nI_eq (by omega) (by omega)).mp ((a4.symm.trans e).trans (ht.symm.trans c4))
    have hab : a = c ∧ b = d := by omega
    obtain ⟨rfl, rfl⟩ := hab
    have := w1.2.2 j (w - 1) hj (by omega)
    unfold kq at this
    rw [a4, a5, c4, c5] at this
    omega
  have h8i := hsn i hi
  refine ⟨⟨hcq.2.2.2.2.2.2.1 hC, hcq.2.2.2.2.2.2.2 hM, SC_core hag.1 hcs hSC, SM_core hag.1 hcs hSM, ?_, by rw [mn]; exact h6, by rw [mn]; exact h00⟩, by rw [snk 5 (by decide)]; exact g1, by rw [mn]; exact g2, g3, fun j hj => ⟨ag_Wn hag hj (g4 j hj).1, ?_⟩, g5, fun h => by rw [ag_sn hag (by omega)]; exact g6 h, by rw [snk 6 (by decide), ag_szF hag]; exact g7, fun j b hj hb => ?_, ⟨⟨sn7, fun j hj => ?_, fun j j' h1 h2 => ?_⟩, fun j hj => ?_, fun j b hj hb hop => ?_⟩, by omega⟩
  · unfold WL
    rw [mn, snk 2 (by decide), snk 3 (by decide), snk 4 (by decide)]
    exact hWL
  · unfold SPn
    rw [mk 7 (by decide), mk 8 (by decide), mk 9 (by decide), mk 10 (by decide), sk 9 (by decide), sk 10 (by decide), sk 11 (by decide), sk 12 (by decide)]
    exact (g4 j hj).2
  · rw [hdn j hj] at hb
    have hst := g8 j b hj hb
    by_cases h1 : 8 * j + b = t
    · refine ⟨?_, ?_, Or.inl ⟨v, hv, by rw [h1, m12, upd_s]⟩⟩
      · unfold Ww; rw [mk 13 (by decide)]; exact hst.1
      · unfold SPv
        rw [h1, s13, m12, upd_s, upd_s, sk 14 (by decide), mk 13 (by decide)]
        have := hst.2.1.2
        rw [h1] at this
        exact ⟨rfl, this⟩
    · refine ag_ST hag hj (by rw [mn]) (by rw [m12, upd_o _ _ h1]) (by rw [mk 13 (by decide)]) (fun r r1 r2 => ?_) hst
      by_cases hr13 : r = 13
      · subst hr13; rw [s13, upd_o _ _ h1]
      · rw [sk r hr13]
  · rw [sk 17 (by decide), sk 18 (by decide)]
    exact w1.2.1 j (by omega)
  · rw [hkq, hkq]
    exact w1.2.2 j j' h1 (by omega)
  · obtain ⟨a, b, a1, a2, a3, a4, a5⟩ := w2 j (by omega)
    have hne : 8 * a + b ≠ t := fun e => hnt j hj (by rw [a4, e])
    exact ⟨a, b, a1, by rw [hdn a a1]; exact a2, by rw [m12, upd_o _ _ hne]; exact a3, by rw [sk 17 (by decide)]; exact a4, by rw [sk 18 (by decide), hmer a b a1]; exact a5⟩
  · rw [hdn j hj] at hb
    by_cases h1 : 8 * j + b = t
    · rw [h1, m12, upd_s] at hop; exact absurd hop hnv
    · rw [m12, upd_o _ _ h1] at hop
      obtain ⟨j', j1, j2⟩ := w3 j b hj hb hop
      refine ⟨j', ?_, by rw [sk 17 (by decide)]; exact j2⟩
      rcases Nat.lt_or_ge j' (w - 1) with h2 | h2
      · exact h2
      · exfalso
        have : j' = w - 1 := by omega
        subst this
        rw [ht] at j2
        have := hsn j hj
        have hb2 := hb
        rw [dn_full hf hj] at hb2
        have := (nI_eq (by omega) (by omega)).mp j2
        omega
theorem nz8 : nz 8 = some () := by unfold nz; rw [if_neg (by decide)]
theorem div8 {i k : Nat} (hi : i < 50) (hk : k < 8) : nI (8 * i + k) / 8 = nI i ∧ nI (8 * i + k) - nI i * 8 = nI k := by
  have h1 : nI (8 * i + k) / 8 = nI i := by
    rw [show (8 : Int32) = nI 8 from rfl, pk_div (by omega) (by decide) (by decide)]
    congr 1; omega
  refine ⟨h1, ?_⟩
  have h2 := pk_rem (a := 8 * i + k) (d := 8) (by omega) (by decide) (by decide)
  rw [← show (8 : Int32) = nI 8 from rfl, h1] at h2
  rw [h2]
  congr 1; omega
/-- the planner takes a site -/
theorem e_growC {S M : PS} {n K x w i k : Nat} (hG : GR S M n K x w) (hw : 0 < w) (hx : x < 400) (hi : i < n) (hk : k < sn M i) (hs : ST S M i k) (ho : M.2 12 (8 * i + k) = -1) (ht : S.2 17 (w - 1) = nI (8 * i + k)) (hw4 : w ≤ 400) (rec : Int32 → PS → Option PS) :
    q_X3_grow_L15 rec (nI x) S = if lv M n i k = 0 then (q_X3_appendNode (sA (sN S 7 (nI (w - 1))) 13 (upd (S.2 13) (8 * i + k) (lv M n i k))) (nI (tg M i k)) (nI i) (nI k) (nI (dp M i + 1)) (nI (wt M (8 * i + k)))).bind fun S17 => rec (nI (x + 1)) S17 else rec (nI (x + 1)) (sA (sN S 7 (nI (w - 1))) 13 (upd (S.2 13) (8 * i + k) (lv M n i k))) := by
  have h8 := gr_sn hG hi
  obtain ⟨hr, g1, g2, g3, g4, g5, g6, g7, g8, ⟨w1, w2, w3⟩, g10⟩ := hG
  obtain ⟨hC, hM, hSC, hSM, hWL, h6, h00⟩ := id hr
  have h30 := hM.2.1
  obtain ⟨o0, o1, o2, o3, o4⟩ := opn_of hs ho
  obtain ⟨q1, q2, q3⟩ := wt_of hs
  have hz := (hM.2.2.1 _ o3).2.2.2.2
  have hz2 := hz.2.2.1
  obtain ⟨b, b1, b2, b3⟩ := hWL.1
  obtain ⟨d1, d2⟩ := div8 (i := i) (k := k) (by omega) (by omega)
  unfold q_X3_grow_L15 q_X4_takeNext
  have e400 : ¬ (400 : Int32) ≤ nI x := by rw [show (400 : Int32) = nI 400 from rfl]; exact nI_nlec hx (by omega)
  have e7 : ¬ S.1 7 ≤ 0 := by rw [w1.1, show (0 : Int32) = nI 0 from rfl]; exact nI_nlec hw (by omega)
  rw [if_neg e400, if_neg e7, w1.1, nIm hw, wN_e, ob_some, sN0, sN_2, rd_nI _ (by omega) (by omega), ob_some, ht, ob_pair]
  dsimp only
  rw [sN_2, rd_nI _ (by omega) (by omega), ob_some, o4, rd_nI _ (by omega) (by omega), ob_some, (hSM.2.1 _ o3).1, hz.1]
  have elv : q_X3_lateVerdict (sN S 7 (nI (w - 1))) (nI (zs M (tg M i k))) = some (lv M n i k) := by
    unfold q_X3_lateVerdict lv
    rw [sN_o _ _ (by decide), sN_o _ _ (by decide), sN_o _ _ (by decide), g7, g1, nI_add, hWL.2.2.2.1]
    by_cases c1 : nI (szF M n + zs M (tg M i k)) ≤ M.1 3
    · rw [if_pos c1, if_pos c1, show (50 : Int32) = nI 50 from rfl]
      by_cases c2 : n < 50
      · rw [if_pos c2, if_pos (nI_ltc c2 (by omega))]
      · rw [if_neg c2, if_neg (nI_nltc (by omega) (by omega))]
    · rw [if_neg c1, if_neg c1]
  rw [elv, ob_some, wA_nI _ _ _ (by omega) (by omega), ob_some, sA_s, rd_nI _ (by omega) (by omega), ob_some, upd_s, nI_1, sN_2]
  by_cases hl : lv M n i k = 0
  · rw [if_pos hl, if_pos hl, nz8, ob_some, ob_some, d1, d2]
    have e12 : (sA (sN S 7 (nI (w - 1))) 13 (upd (S.2 13) (8 * i + k) (lv M n i k))).2 12 = S.2 12 := rfl
    have e14 : (sA (sN S 7 (nI (w - 1))) 13 (upd (S.2 13) (8 * i + k) (lv M n i k))).2 14 = S.2 14 := rfl
    rw [e12, e14, rd_nI _ (by omega) (by omega), ob_some, rd_nI _ (by omega) (by omega), ob_some, (g4 i hi).2.2.2.2, (g4 i hi).1.2.2.1, nI_1, hs.2.1.2, q1]
  · rw [if_neg hl, if_neg hl]
/-- the reference takes a site -/
theorem e_growR {S M : PS} {n K x w i k : Nat} (hG : GR S M n K x w) (hi : i < n) (hk : k < sn M i) (hs : ST S M i k) (ho : M.2 12 (8 * i + k) = -1) (rec : Int32 → PS → Option (PS × Int32)) :
    q_X6_plan_L43 rec (nI (8 * i + k)) M = if lv M n i k = 0 then (q_X6_make (sA M 12 (upd (M.2 12) (8 * i + k) (lv M n i k))) (nI (tg M i k)) (nI (wt M (8 * i + k))) (nI (dp M i + 1)) (nI i) (nI k)).bind fun S30 => (q_X6_best S30).bind fun v31 => rec v31 S30 else (q_X6_best (sA M 12 (upd (M.2 12) (8 * i + k) (lv M n i k)))).bind fun v25 => rec v25 (sA M 12 (upd (M.2 12) (8 * i + k) (lv M n i k))) := by
  have h8 := gr_sn hG hi
  obtain ⟨hr, g1, g2, g3, g4, g5, g6, g7, g8, ⟨w1, w2, w3⟩, g10⟩ := hG
  obtain ⟨hC, hM, hSC, hSM, hWL, h6, h00⟩ := id hr
  have h30 := hM.2.1
  obtain ⟨o0, o1, o2, o3, o4⟩ := opn_of hs ho
  obtain ⟨q1, q2, q3⟩ := wt_of hs
  have hz := (hM.2.2.1 _ o3).2.2.2.2
  have hz2 := hz.2.2.1
  have hlt := tn_lt hC hM i k
  obtain ⟨n1, n2, n3, -⟩ := (g4 i hi).1
  obtain ⟨d1, d2⟩ := div8 (i := i) (k := k) (by omega) (by omega)
  have e2 : q_X6_member (nI (tn M i k)) 0 = some (nI (tg M i k)) := by
    rw [e_member6 (Nat.lt_of_lt_of_le hlt (by decide))]
    have := mb_pow (m := tg M i k) (by omega)
    rw [← o2] at this
    rw [this]
  have fin : ∀ v : Int32, ((wA M 12 400 (nI (8 * i + k)) v).bind fun S14 =>
        (rd (S14.2 12) 400 (nI (8 * i + k))).bind fun v15 =>
        if v15 = 0 then (
          (rd (S14.2 13) 400 (nI (8 * i + k))).bind fun v17 =>
          (rd (S14.2 10) 50 (nI i)).bind fun v18 =>
          (nz 8).bind fun _ =>
          (q_X6_make S14 (nI (tg M i k)) v17 (v18 + 1) (nI i) (nI k)).bind fun S21 =>
          (q_X6_best S21).bind fun v22 =>
          rec v22 S21
        ) else (
          (q_X6_best S14).bind fun v16 =>
          rec v16 S14
        )) = if v = 0 then (q_X6_make (sA M 12 (upd (M.2 12) (8 * i + k) v)) (nI (tg M i k)) (nI (wt M (8 * i + k))) (nI (dp M i + 1)) (nI i) (nI k)).bind fun S30 => (q_X6_best S30).bind fun v31 => rec v31 S30 else (q_X6_best (sA M 12 (upd (M.2 12) (8 * i + k) v))).bind fun v25 => rec v25 (sA M 12 (upd (M.2 12) (8 * i + k) v)) := by
    intro v
    rw [wA_nI _ _ _ (by omega) (by omega), ob_some, sA_s, rd_nI _ (by omega) (by omega), ob_some, upd_s]
    by_cases hv : v = 0
    · rw [if_pos hv, if_pos hv, sA_o _ _ (by decide), rd_nI _ (by omega) (by omega), ob_some, q1, sA_o _ _ (by decide), rd_nI _ (by omega) (by omega), ob_some, n3, nz8, ob_some, nI_1]
    · rw [if_neg hv, if_neg hv]
  unfold q_X6_plan_L43
  rw [if_neg (nI_nm1 (by omega)), nz8, ob_some, ob_some, d1, d2, e_targetsOf hC hM (by omega) n1 n2 hk, ob_some, e2, ob_some, e_wholeSize hM g2 g3 (fun j hj => ⟨(g4 j hj).1.1, (g4 j hj).1.2.1⟩), ob_some, rd_nI _ (by omega) (by omega), ob_some, hz.1, nI_add, ← nz8, fin, fin, fin]
  unfold lv
  by_cases c1 : nI (szF M n + zs M (tg M i k)) ≤ M.1 3
  · rw [if_pos c1, if_pos c1, g2, show (50 : Int32) = nI 50 from rfl]
    by_cases c2 : n < 50
    · rw [if_pos c2, if_neg (nI_nec (by omega) (by omega) (by omega))]
    · rw [if_neg c2, if_pos (by rw [show n = 50 by omega])]
  · rw [if_neg c1, if_neg c1]
/-- the two run together -/
theorem grow_run : ∀ (r : Nat) (S M : PS) (n K x w kc kr : Nat), 400 ≤ x + r → GR S M n K x w → (0 < n → K = sn M (n - 1)) → r < kc → r < kr →
    ∃ S' M' n' K' x', iter2 q_X3_grow_L15 kc (nI x) S = some S' ∧ ((q_X6_best M).bind fun v => iter2 q_X6_plan_L43 kr v M) = some (M', M'.1 7) ∧ GR S' M' n' K' x' 0 ∧ (0 < n' → K' = sn M' (n' - 1)) ∧ (0 < n → 0 < n') := by
  intro r
  induction r with
  | zero =>
    intro S M n K x w kc kr hx hG hf hkc hkr
    have hx4 : x + w ≤ 400 := by
      have h10 := hG.2.2.2.2.2.2.2.2.2.2
      have h50 := hG.2.2.2.1
      rcases Nat.eq_zero_or_pos n with h1 | h1
      · have := hG.2.2.2.2.2.1 h1; omega
      · have h2 := hG.2.2.2.2.2.2.1 h1
        have h3 := gr_sn hG (show n - 1 < n by omega)
        omega
    have hw0 : w = 0 := by omega
    subst hw0
    obtain ⟨kc, rfl⟩ : ∃ k', kc = k' + 1 := ⟨kc - 1, by omega⟩
    obtain ⟨kr, rfl⟩ : ∃ k', kr = k' + 1 := ⟨kr - 1, by omega⟩
    refine ⟨S, M, n, K, x, ?_, ?_, hG, hf, fun h => h⟩
    · show q_X3_grow_L15 (iter2 q_X3_grow_L15 kc) (nI x) S = _
      generalize iter2 q_X3_grow_L15 kc = rec
      unfold q_X3_grow_L15
      rw [show (400 : Int32) = nI 400 from rfl, if_pos (nI_lec (by omega) (by omega))]
    · rw [(e_best hG hf).1 rfl, ob_some]
      show q_X6_plan_L43 (iter2 q_X6_plan_L43 kr) (-1) M = _
      generalize iter2 q_X6_plan_L43 kr = rec
      unfold q_X6_plan_L43
      rw [if_pos rfl]
  | succ r ih =>
    intro S M n K x w kc kr hx hG hf hkc hkr
    have hx4 : x + w ≤ 400 := by
      have h10 := hG.2.2.2.2.2.2.2.2.2.2
      have h50 := hG.2.2.2.1
      rcases Nat.eq_zero_or_pos n with h1 | h1
      · have := hG.2.2.2.2.2.1 h1; omega
      · have h2 := hG.2.2.2.2.2.2.1 h1
        have h3 := gr_sn hG (show n - 1 < n by omega)
        omega
    obtain ⟨kc, rfl⟩ : ∃ k', kc = k' + 1 := ⟨kc - 1, by omega⟩
    obtain ⟨kr, rfl⟩ : ∃ k', kr = k' + 1 := ⟨kr - 1, by omega⟩
    rcases Nat.eq_zero_or_pos w with hw | hw
    · subst hw
      refine ⟨S, M, n, K, x, ?_, ?_, hG, hf, fun h => h⟩
      · show q_X3_grow_L15 (iter2 q_X3_grow_L15 kc) (nI x) S = _
        generalize iter2 q_X3_grow_L15 kc = rec
        unfold q_X3_grow_L15
        by_cases h4 : (400 : Int32) ≤ nI x
        · rw [if_pos h4]
        · have e7 : S.1 7 ≤ 0 := by rw [hG.2.2.2.2.2.2.2.2.2.1.1.1]; decide
          rw [if_neg h4, if_pos e7]
      · rw [(e_best hG hf).1 rfl, ob_some]
        show q_X6_plan_L43 (iter2 q_X6_plan_L43 kr) (-1) M = _
        generalize iter2 q_X6_plan_L43 kr = rec
        unfold q_X6_plan_L43
        rw [if_pos rfl]
    · obtain ⟨i, k, a1, a2, a3, a4, a5⟩ := hG.2.2.2.2.2.2.2.2.2.1.2.1 (w - 1) (by omega)
      have hs := hG.2.2.2.2.2.2.2.2.1 i k a1 a2
      rw [dn_full hf a1] at a2
      obtain ⟨v, v1, v2⟩ := lv_val M n i k
      have hG1 := take_step hG hf hw a1 a2 a3 a4 v1
      rw [← v2] at hG1
      have hf1 : 0 < n → K = sn (sA M 12 (upd (M.2 12) (8 * i + k) (lv M n i k))) (n - 1) := hf
      have eC := e_growC hG hw (by omega) a1 a2 hs a3 a4 (by omega) (iter2 q_X3_grow_L15 kc)
      have eR := e_growR hG a1 a2 hs a3 (iter2 q_X6_plan_L43 kr)
      have hC : iter2 q_X3_grow_L15 (kc + 1) (nI x) S = q_X3_grow_L15 (iter2 q_X3_grow_L15 kc) (nI x) S := rfl
      have hR : ((q_X6_best M).bind fun v => iter2 q_X6_plan_L43 (kr + 1) v M) = q_X6_plan_L43 (iter2 q_X6_plan_L43 kr) (nI (8 * i + k)) M := by
        rw [(e_best hG hf).2 hw, ob_some, a4]
        rfl
      rw [hC, hR, eC, eR]
      by_cases hl : lv M n i k = 0
      · rw [if_pos hl, if_pos hl]
        have hn50 : n < 50 := by
          unfold lv at hl
          by_cases c1 : nI (szF M n + zs M (tg M i k)) ≤ M.1 3
          · rw [if_pos c1] at hl
            by_cases c2 : n < 50
            · exact c2
            · rw [if_neg c2] at hl; exact absurd hl (by decide)
          · rw [if_neg c1] at hl; exact absurd hl (by decide)
        obtain ⟨o0, o1, o2, o3, o4⟩ := opn_of hs a3
        obtain ⟨q1, q2, q3⟩ := wt_of hs
        have hd : dp M i + 1 ≤ 10 := by
          obtain ⟨d, d1, d2⟩ := hG.1.2.2.2.2.1.2.1
          rw [d2, nv_nI (by omega)] at o1
          omega
        obtain ⟨S2, M2, w2, e1, e2, hG2⟩ := node_step (m := tg M i k) (p := wt M (8 * i + k)) (d := dp M i + 1) (par := nI i) (st := nI k) hG1 hf1 hn50 o3 q2 q3 hd (Or.inr ⟨by omega, i, k, a1, rfl, a2, rfl, rfl⟩)
        rw [e1, e2, ob_some, ob_some]
        obtain ⟨S', M', n', K', x', h1, h2, h3, h4, h5⟩ := ih S2 M2 (n + 1) (sn M2 n) (x + 1) w2 kc kr (by omega) hG2 (fun _ => rfl) (by omega) (by omega)
        exact ⟨S', M', n', K', x', h1, h2, h3, h4, fun _ => h5 (by omega)⟩
      · rw [if_neg hl, if_neg hl]
        obtain ⟨S', M', n', K', x', h1, h2, h3, h4, h5⟩ := ih _ _ n K (x + 1) (w - 1) kc kr (by omega) hG1 hf1 (by omega) (by omega)
        exact ⟨S', M', n', K', x', h1, h2, h3, h4, h5⟩
theorem grown {S M : PS} {n K x : Nat} (hG : GR S M n K x 0) (hf : 0 < n → K = sn M (n - 1)) (hn : 0 < n) : INV S M := by
  obtain ⟨hr, g1, g2, g3, g4, g5, g6, g7, g8, ⟨w1, w2, w3⟩, g10⟩ := hG
  obtain ⟨hC, hM, hSC, hSM, hWL, h6, h00⟩ := hr
  have enn : nn M = n := by unfold nn; rw [g2, nv_nI (by omega)]
  refine ⟨hC, hM, hSC, hSM, hWL, Or.inr ⟨h6, ⟨by rw [enn]; exact g2, by omega, by omega, fun i hi => ?_, fun i k hi hk => ?_⟩, ⟨by rw [g1, g2], fun i hi => ?_, fun i k hi hk => ?_, by rw [enn]; exact g7⟩⟩, w1.1⟩
  · rw [enn] at hi; exact (g4 i hi).1
  · rw [enn] at hi
    have hk2 : k < dn M n K i := by rw [dn_full hf hi]; exact hk
    obtain ⟨h1, h2, h3⟩ := g8 i k hi hk2
    refine ⟨h1, ?_⟩
    rcases h3 with h3 | h3
    · exact h3
    · obtain ⟨j, j1, -⟩ := w3 i k hi hk2 h3.1
      omega
  · rw [enn] at hi; exact (g4 i hi).2
  · rw [enn] at hi
    exact (g8 i k hi (by rw [dn_full hf hi]; exact hk)).2.1
theorem c_planO {S M : PS} {ov : Nat → Int64} (h : INV S M) (x : Int32) : opI (q_L_plan S ov x) (q_X6_plan M x) := by
  have h' := inv_thr 0 h
  have h30 := h.2.1.2.1
  unfold q_L_plan q_X5_plan q_X6_plan
  rw [wN_e, ob_some]
  rcases isI_cases x (n := nm M) (by omega) with ⟨m, hm, rfl⟩ | hx
  · obtain ⟨a1, a2⟩ := (c_methodA h').1 (isI_nI (n := nm M) hm (by omega))
    rw [a1, a2, xb_r, ob_some, if_neg d10, wN_e, ob_some, wN_e, ob_some]
    unfold q_X3_grow q_X3_remove
    rw [wN_e, ob_some, wN_e, ob_some, ob_some]
    obtain ⟨i1, i2, i3, i4, i5, i6, i7⟩ := h
    have hc : core (sN (sN (sN M 0 0) 7 0) 6 1) = core M := by
      rw [core_sN _ _ (by decide) (by decide), core_sN _ _ (by decide) (by decide), core_sN _ _ (by decide) (by decide)]
    have hcs : coreS (sN (sN S 5 0) 6 0) = coreS S := by
      rw [coreS_sN _ _ (by decide), coreS_sN _ _ (by decide)]
    have hcq := core_eq hc
    have hG0 : GR (sN (sN S 5 0) 6 0) (sN (sN (sN M 0 0) 7 0) 6 1) 0 0 0 0 := by
      refine ⟨⟨hcq.2.2.2.2.2.2.1 i1, hcq.2.2.2.2.2.2.2 i2, SC_core hc hcs i3, SM_core hc hcs i4, i5, rfl, rfl⟩, rfl, rfl, by omega, fun i hi => by omega, fun _ => rfl, fun hh => by omega, rfl, fun i k hi => by omega, ⟨⟨i7, fun j hj => by omega, fun j j' _ hj => by omega⟩, fun j hj => by omega, fun i k hi => by omega⟩, by omega⟩
    obtain ⟨S2, M2, w2, e1, e2, hG2⟩ := node_step (m := m) (p := 1) (d := 0) (par := -1) (st := -1) hG0 (fun hh => by omega) (by omega) hm (by omega) (by omega) (by omega) (Or.inl ⟨rfl, rfl, rfl⟩)
    rw [nI_0, show nI 1 = 1 from rfl] at e1 e2
    obtain ⟨S', M', n', K', x', f1, f2, f3, f4, f5⟩ := grow_run 400 S2 M2 (0 + 1) (sn M2 0) 0 w2 1000 1000 (by omega) hG2 (fun _ => rfl) (by omega) (by omega)
    rw [nI_0] at f1
    rw [e1, e2, ob_some, ob_some, f1, f2, ob_some, xc_r]
    dsimp only
    have hfin := grown f3 f4 (f5 (by omega))
    obtain ⟨g, w3, w4⟩ := wrL_0 ov ((S'.1 5).toInt64)
    rw [w3, ob_some]
    exact ⟨_, _, 0, _, _, rfl, rfl, f3.1.2.2.2.2.2.2, fun _ => by rw [w4, f3.2.1, f3.2.2.1], hfin⟩
  · obtain ⟨a1, a2⟩ := (c_methodA h').2 hx
    rw [a1, a2, xb_l, ob_some, if_pos rfl, no_e, xc_l]
    exact opI_thr (by decide) h'
