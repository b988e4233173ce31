/-! plan: the site that is taken next -/
theorem opn_of {S M : PS} {i k : Nat} (h : ST S M i k) (ho : M.2 12 (8 * i + k) = -1) : OPN S M i k := by
  rcases h.2.2 with ⟨v, v1, v2⟩ | h
  · rw [v2] at ho
    exact absurd ho (nI_nm1 (by omega))
  · exact h
theorem wt_of {S M : PS} {i k : Nat} (h : ST S M i k) : M.2 13 (8 * i + k) = nI (wt M (8 * i + k)) ∧ 1 ≤ wt M (8 * i + k) ∧ wt M (8 * i + k) ≤ 1000000 := by
  obtain ⟨w, w1, w2, w3⟩ := h.1
  have e : wt M (8 * i + k) = w := by unfold wt; rw [w3, nv_nI (by omega)]
  rw [e]; exact ⟨w3, w1, w2⟩
def ky (M : PS) (i k : Nat) : Nat := mer M i k * 400 + (399 - (8 * i + k))
theorem mer_le {S M : PS} {i k : Nat} (h : ST S M i k) : mer M i k ≤ 1000000000 := by
  have := (wt_of h).2.2
  unfold mer
  exact Nat.le_trans (Nat.div_le_self _ _) (by omega)
theorem e_merit {S M : PS} {i k : Nat} (hC : WC M) (hM : WM M) (hi : i < 50) (h1 : M.2 7 i = nI (nd M i)) (h2 : nd M i < nm M) (hk : k < sn M i) (hs : ST S M i k) (ho : M.2 12 (8 * i + k) = -1) : q_X6_merit M (nI i) (nI k) = some (nI (mer M i k)) := by
  have h30 := hM.2.1
  have h8 := sn_le hM h2
  obtain ⟨-, -, o1, o2, -⟩ := opn_of hs ho
  obtain ⟨w1, w2, w3⟩ := wt_of hs
  have hlt := tn_lt hC hM i k
  have e2 : q_X6_member (nI (tn M i k)) 0 = some (nI (tg M i k)) := by
    rw [e_member6 (Nat.lt_of_lt_of_le hlt (by decide))]
    have := mb_pow (m := tg M i k) (by omega)
    rw [← o1] at this
    rw [this]
  have hz := (hM.2.2.1 _ o2).2.2.2.2
  have hz1 := hz.2.1
  have hz2 := hz.2.2.1
  have enz : nz (nI (zs M (tg M i k))) = some () := by
    unfold nz
    rw [if_neg (by rw [show (0 : Int32) = nI 0 from rfl]; exact nI_nec (by omega) (by omega) (by omega))]
  unfold q_X6_merit
  rw [slotM, rd_nI _ (by omega) (by omega), ob_some, w1, e_targetsOf hC hM hi h1 h2 hk, ob_some, e2, ob_some, rd_nI _ (by omega) (by omega), ob_some, hz.1, enz, ob_some, show (1000 : Int32) = nI 1000 from rfl, pk_mul, pk_div (by omega) (by omega) (by omega)]
  rfl
/-- the best of the sites before site k of node i -/
def BST (M : PS) (i k : Nat) (x1 x2 : Int32) : Prop :=
  (x1 = -1 ∧ ∀ a b, (a < i ∨ (a = i ∧ b < k)) → b < sn M a → ¬ M.2 12 (8 * a + b) = -1) ∨
  ∃ a b, (a < i ∨ (a = i ∧ b < k)) ∧ b < sn M a ∧ M.2 12 (8 * a + b) = -1 ∧ x1 = nI (8 * a + b) ∧ x2 = nI (mer M a b) ∧ ∀ a' b', (a' < i ∨ (a' = i ∧ b' < k)) → b' < sn M a' → M.2 12 (8 * a' + b') = -1 → ky M a' b' ≤ ky M a b
theorem l_best {S M : PS} {n : Nat} (hC : WC M) (hM : WM M) (hn : n ≤ 50) (hn7 : M.1 7 = nI n) (hN : ∀ i, i < n → Wn M i) (hs : ∀ i k, i < n → k < sn M i → ST S M i k) : ∃ x1 x2, BST M n 0 x1 x2 ∧ q_X6_best M = some x1 := by
  have h30 := hM.2.1
  unfold q_X6_best
  rw [show (0 : Int32) = nI 0 from rfl]
  refine Exists.elim (forE3 (n := n) (f := q_X6_best_L6 M) (e := fun x1 _ => some x1) (fun i x1 x2 => BST M i 0 x1 x2) (fun rec i x1 x2 hi hB => ?_) (fun rec x1 x2 hB => ?_) 1000 0 (-1) (nI 0) (Nat.zero_le _) (by omega) (Or.inl ⟨rfl, fun a b h => by omega⟩)) ?_
  · obtain ⟨n1, n2, -⟩ := hN i hi
    have h8 := sn_le hM n2
    have hsi : M.2 5 (nd M i) = nI (sn M i) := (hM.2.2.1 _ n2).2.2.2.2.2.2.2.1
    unfold q_X6_best_L6
    rw [hn7, if_neg (nI_ge hi (by omega)), show (0 : Int32) = nI 0 from rfl]
    refine Exists.elim (forE3 (n := sn M i) (f := q_X6_best_L17 M (nI i) rec) (e := fun y1 y2 => rec y1 y2 (nI (i + 1))) (fun k y1 y2 => BST M i k y1 y2) (fun rc2 k y1 y2 hk hB2 => ?_) (fun rc2 y1 y2 hB2 => ?_) 1000 0 x1 x2 (Nat.zero_le _) (by omega) hB) ?_
    · unfold q_X6_best_L17
      rw [rd_nI _ (by omega) (by omega), ob_some, n1, rd_nI _ (by omega) (by omega), ob_some, hsi, if_neg (nI_ge hk (by omega)), slotM, rd_nI _ (by omega) (by omega), ob_some, nI_1]
      have later : ∀ a b, (a < i ∨ (a = i ∧ b < k + 1)) → (a < i ∨ (a = i ∧ b < k)) ∨ (a = i ∧ b = k) := by
        intro a b h; omega
      by_cases ho : M.2 12 (8 * i + k) = -1
      · have hst := hs i k hi hk
        have hml := mer_le hst
        rw [if_pos ho, e_merit hC hM (by omega) n1 n2 hk hst ho, ob_some]
        have take : (∀ a' b', (a' < i ∨ (a' = i ∧ b' < k)) → b' < sn M a' → M.2 12 (8 * a' + b') = -1 → ky M a' b' ≤ ky M i k) → BST M i (k + 1) (nI (8 * i + k)) (nI (mer M i k)) := by
          intro h
          refine Or.inr ⟨i, k, by omega, hk, ho, rfl, rfl, fun a' b' h1 h2 h3 => ?_⟩
          rcases later a' b' h1 with h4 | ⟨rfl, rfl⟩
          · exact h a' b' h4 h2 h3
          · exact Nat.le_refl _
        rcases hB2 with ⟨rfl, e2⟩ | ⟨a, b, e1, e2, e3, rfl, rfl, e6⟩
        · rw [if_pos rfl]
          exact ⟨_, _, take (fun a' b' h1 h2 h3 => absurd h3 (e2 a' b' h1 h2)), rfl⟩
        · have han : a < n := by omega
          have ha8 := sn_le hM (hN a han).2.1
          have hml2 := mer_le (hs a b han e2)
          rw [if_neg (nI_nm1 (by omega))]
          by_cases hlt : mer M a b < mer M i k
          · rw [if_pos (nI_ltc hlt (by omega))]
            refine ⟨_, _, take (fun a' b' h1 h2 h3 => Nat.le_trans (e6 a' b' h1 h2 h3) ?_), rfl⟩
            unfold ky; omega
          · rw [if_neg (nI_nltc (by omega) (by omega))]
            refine ⟨_, _, Or.inr ⟨a, b, by omega, e2, e3, rfl, rfl, fun a' b' h1 h2 h3 => ?_⟩, rfl⟩
            rcases later a' b' h1 with h4 | ⟨rfl, rfl⟩
            · exact e6 a' b' h4 h2 h3
            · unfold ky; omega
      · rw [if_neg ho]
        refine ⟨_, _, ?_, rfl⟩
        rcases hB2 with ⟨e1, e2⟩ | ⟨a, b, e1, e2, e3, e4, e5, e6⟩
        · refine Or.inl ⟨e1, fun a b h1 h2 => ?_⟩
          rcases later a b h1 with h4 | ⟨rfl, rfl⟩
          · exact e2 a b h4 h2
          · exact ho
        · refine Or.inr ⟨a, b, by omega, e2, e3, e4, e5, fun a' b' h1 h2 h3 => ?_⟩
          rcases later a' b' h1 with h4 | ⟨rfl, rfl⟩
          · exact e6 a' b' h4 h2 h3
          · exact absurd h3 ho
    · unfold q_X6_best_L17
      rw [rd_nI _ (by omega) (by omega), ob_some, n1, rd_nI _ (by omega) (by omega), ob_some, hsi, if_pos (nI_le (Nat.le_refl _) (by omega)), nI_1]
    · rintro y1 ⟨y2, hB2, e⟩
      refine ⟨y1, y2, ?_, e⟩
      have later : ∀ a b, b < sn M a → ((a < i + 1 ∨ (a = i + 1 ∧ b < 0)) ↔ (a < i ∨ (a = i ∧ b < sn M i))) := by
        intro a b hb
        constructor
        · intro h
          rcases Nat.lt_or_ge a i with h1 | h1
          · exact Or.inl h1
          · have : a = i := by omega
            subst this; exact Or.inr ⟨rfl, hb⟩
        · intro h; omega
      rcases hB2 with ⟨e1, e2⟩ | ⟨a, b, e1, e2, e3, e4, e5, e6⟩
      · exact Or.inl ⟨e1, fun a b h1 h2 => e2 a b ((later a b h2).mp h1) h2⟩
      · exact Or.inr ⟨a, b, (later a b e2).mpr e1, e2, e3, e4, e5, fun a' b' h1 h2 h3 => e6 a' b' ((later a' b' h2).mp h1) h2 h3⟩
  · unfold q_X6_best_L6
    rw [hn7, if_pos (nI_le (Nat.le_refl _) (by omega))]
  · rintro x1 ⟨x2, hB, e⟩
    exact ⟨x1, x2, hB, e⟩
/-- all sites of all nodes have been looked at -/
theorem dn_full {M : PS} {n K i : Nat} (hf : 0 < n → K = sn M (n - 1)) (hi : i < n) : dn M n K i = sn M i := by
  unfold dn
  by_cases h1 : i + 1 = n
  · rw [if_pos h1, hf (by omega), show n - 1 = i by omega]
  · rw [if_neg h1]
/-- the planner's next site is the reference's best one -/
theorem e_best {S M : PS} {n K x w : Nat} (hG : GR S M n K x w) (hf : 0 < n → K = sn M (n - 1)) : (w = 0 → q_X6_best M = some (-1)) ∧ (0 < w → q_X6_best M = some (S.2 17 (w - 1))) := by
  have hsn : ∀ i, i < n → sn M i ≤ 8 := fun i hi => gr_sn hG hi
  obtain ⟨hr, g1, g2, g3, g4, g5, g6, g7, g8, ⟨w1, w2, w3⟩, g10⟩ := hG
  have hs : ∀ i k, i < n → k < sn M i → ST S M i k := fun i k hi hk => g8 i k hi (by rw [dn_full hf hi]; exact hk)
  obtain ⟨x1, x2, hB, hb⟩ := l_best hr.1 hr.2.1 g3 g2 (fun i hi => (g4 i hi).1) hs
  have hkq : ∀ j i k, i < n → k < sn M i → S.2 17 j = nI (8 * i + k) → S.2 18 j = nI (mer M i k) → kq S j = ky M i k := by
    intro j i k hi hk e1 e2
    have := hsn i hi
    have := mer_le (hs i k hi hk)
    unfold kq ky
    rw [e1, e2, nv_nI (by omega), nv_nI (by omega)]
  constructor
  · intro h0
    subst h0
    rw [hb]
    rcases hB with ⟨e1, -⟩ | ⟨a, b, e1, e2, e3, -⟩
    · rw [e1]
    · obtain ⟨j, j1, -⟩ := w3 a b (by omega) (by rw [dn_full hf (by omega)]; exact e2) e3
      omega
  · intro h0
    obtain ⟨i, k, a1, a2, a3, a4, a5⟩ := w2 (w - 1) (by omega)
    rw [dn_full hf a1] at a2
    rw [hb]
    rcases hB with ⟨-, e2⟩ | ⟨a, b, e1, e2, e3, e4, e5, e6⟩
    · exact absurd a3 (e2 i k (Or.inl a1) a2)
    · have han : a < n := by omega
      obtain ⟨j, j1, j2⟩ := w3 a b han (by rw [dn_full hf han]; exact e2) e3
      obtain ⟨a', b', b1, b2, b3, b4, b5⟩ := w2 j j1
      rw [dn_full hf b1] at b2
      have hab : a' = a ∧ b' = b := by
        have h1 := hsn a' b1
        have h2 := hsn a han
        have := (nI_eq (by omega) (by omega)).mp (b4.symm.trans j2)
        omega
      obtain ⟨rfl, rfl⟩ := hab
      have k1 := hkq j a' b' b1 b2 b4 b5
      have k2 := hkq (w - 1) i k a1 a2 a4 a5
      have k3 := e6 i k (Or.inl a1) a2 a3
      rcases Nat.lt_or_ge j (w - 1) with h1 | h1
      · have := w1.2.2 j (w - 1) h1 (by omega)
        omega
      · have : j = w - 1 := by omega
        subst this
        rw [e4, b4]
