/-! targets: the planner and the reference find the same ones -/
/-- the planner holds the same classes -/
def SC (S M : PS) : Prop := S.1 0 = M.1 1 ∧ (∀ c, c < nc M → S.2 0 c = M.2 0 c ∧ S.2 1 c = M.2 1 c ∧ S.2 2 c = nI (an M c)) ∧ ∀ c, nc M ≤ c → c < 16 → S.2 1 c = 0
/-- the planner holds the same methods and sites -/
def SM (S M : PS) : Prop := S.1 1 = M.1 2 ∧ (∀ m, m < nm M → S.2 3 m = M.2 4 m ∧ S.2 4 m = M.2 5 m) ∧ (∀ m, nm M ≤ m → m < 30 → S.2 4 m = 0) ∧ (∀ m k, m < nm M → k < si M m → S.2 6 (8 * m + k) = M.2 6 (3 * (8 * m + k)) ∧ S.2 7 (8 * m + k) = M.2 6 (3 * (8 * m + k) + 1) ∧ S.2 5 (8 * m + k) = M.2 6 (3 * (8 * m + k) + 2)) ∧ ∀ c s, c < 16 → s < 8 → S.2 8 (8 * c + s) = nI (om M c s)
theorem m1_neg : (-1 : Int32) < 0 := by decide
theorem nIm {k : Nat} (h : 0 < k) : nI k - 1 = nI (k - 1) := by
  obtain ⟨j, rfl⟩ : ∃ j, k = j + 1 := ⟨k - 1, by omega⟩
  exact nI_pred j
theorem nI0m : nI 0 - 1 = -1 := by decide
theorem nI_nm1 {n : Nat} (h : n < 2 ^ 31) : ¬ nI n = -1 := by
  intro e
  exact nI_pos h (by rw [e]; decide)
theorem slotN (a b : Nat) : (nI a * 8) + nI b = nI (8 * a + b) := by
  rw [show (8 : Int32) = nI 8 from rfl, pk_mul, nI_add, Nat.mul_comm]
theorem slotM (a b : Nat) : (8 * nI a) + nI b = nI (8 * a + b) := by
  rw [show (8 : Int32) = nI 8 from rfl, pk_mul, nI_add]
theorem e_under {S M : PS} (hC : WC M) (hS : SC S M) {c d : Nat} (hc : c < nc M) (hd : d < 32) : q_X0_under S (nI c) (nI d) = some (if (an M c).testBit d = true then 1 else 0) := by
  unfold q_X0_under
  have h16 := hC.2.2.1
  rw [rd_nI _ (by omega) (by omega), ob_some, (hS.2.1 c hc).2.2, bitI (Nat.lt_of_lt_of_le (an_lt hC c hc) (Nat.pow_le_pow_right (by omega) (by omega))) hd]
  by_cases h : (an M c).testBit d = true
  · simp [h]
  · simp [h]
theorem e_belowN {M : PS} {d : Nat} (hd : d < 2 ^ 31) (k : Nat) : iter1 (q_X6_below_L2 M (nI d)) (k + 1) (-1) = some 0 := by
  show q_X6_below_L2 M (nI d) (iter1 (q_X6_below_L2 M (nI d)) k) (-1) = _
  generalize iter1 (q_X6_below_L2 M (nI d)) k = rec
  unfold q_X6_below_L2
  rw [if_pos rfl, if_neg (fun e => nI_nm1 hd e.symm)]
theorem e_below {M : PS} (hC : WC M) {d : Nat} (hd : d < nc M) : ∀ (k c : Nat), c + 1 < k → c < nc M → iter1 (q_X6_below_L2 M (nI d)) k (nI c) = some (if (an M c).testBit d = true then 1 else 0) := by
  have h16 := hC.2.2.1
  intro k
  induction k with
  | zero => intro c h; omega
  | succ k ih =>
    intro c h1 hc
    show q_X6_below_L2 M (nI d) (iter1 (q_X6_below_L2 M (nI d)) k) (nI c) = _
    have hN : iter1 (q_X6_below_L2 M (nI d)) k (-1) = some 0 := by
      obtain ⟨k', rfl⟩ : ∃ k', k = k' + 1 := ⟨k - 1, by omega⟩
      exact e_belowN (by omega) k'
    generalize iter1 (q_X6_below_L2 M (nI d)) k = rec at ih hN ⊢
    unfold q_X6_below_L2
    rw [if_neg (nI_nm1 (by omega))]
    by_cases hcd : c = d
    · subst hcd
      rw [if_pos rfl, if_pos rfl, an_self hC hc]; rfl
    · rw [if_neg (fun e => hcd ((nI_eq (by omega) (by omega)).mp e)), rd_nI _ (by omega) (by omega), ob_some]
      rcases Nat.eq_zero_or_pos c with h0 | h0
      · subst h0
        rw [hC.2.2.2.1, hN, an_high hC hc (show 0 < d by omega)]
        rfl
      · obtain ⟨hp, hlt⟩ := hC.2.2.2.2.1 c h0 hc
        rw [hp, ih _ (by omega) (by omega), an_par hC h0 hc (fun e => hcd e.symm)]
theorem q_below {M : PS} (hC : WC M) {c d : Nat} (hc : c < nc M) (hd : d < nc M) : q_X6_below M (nI c) (nI d) = some (if (an M c).testBit d = true then 1 else 0) := by
  have h16 := hC.2.2.1
  exact e_below hC hd 1000 c (by omega) hc
theorem q_own {M : PS} (hC : WC M) (hM : WM M) {c s : Nat} (hc : c < 16) (hs : s < 8) : q_X6_own M (nI c) (nI s) = some (nI (om M c s) - 1) := by
  have h30 := hM.2.1
  have h16 := hC.2.2.1
  unfold q_X6_own
  rw [← nI_0]
  refine for1 (n := nm M) (fun i => ∀ m, m < i → ¬ (ow M m = c ∧ na M m = s)) (fun rec i hi hP => ?_) (fun rec hP => ?_) 1000 0 (Nat.zero_le _) (by omega) (fun m hm => by omega)
  · obtain ⟨a1, a2, a3, a4, -⟩ := hM.2.2.1 i hi
    unfold q_X6_own_L2
    rw [hM.1, if_neg (nI_ge hi (by omega)), rd_nI _ (by omega) (by omega), ob_some, a1]
    by_cases h1 : ow M i = c
    · rw [h1, if_pos rfl, rd_nI _ (by omega) (by omega), ob_some, a3]
      by_cases h2 : na M i = s
      · left
        rw [h2, if_pos rfl, om_eq hM hi h1 h2, nI_pred]
      · right
        rw [if_neg (fun e => h2 ((nI_eq (by omega) (by omega)).mp e)), nI_1]
        refine ⟨fun m hm => ?_, rfl⟩
        rcases Nat.lt_or_ge m i with h3 | h3
        · exact hP m h3
        · have : m = i := by omega
          subst this; exact fun h => h2 h.2
    · right
      rw [if_neg (fun e => h1 ((nI_eq (by omega) (by omega)).mp e)), nI_1]
      refine ⟨fun m hm => ?_, rfl⟩
      rcases Nat.lt_or_ge m i with h3 | h3
      · exact hP m h3
      · have : m = i := by omega
        subst this; exact fun h => h1 h.1
  · unfold q_X6_own_L2
    rw [hM.1, if_pos (nI_le (Nat.le_refl _) (by omega))]
    have h0 : om M c s = 0 := by
      by_cases h0 : om M c s = 0
      · exact h0
      · obtain ⟨h3, h4⟩ := omF_some _ h0
        exact absurd h4 (hP _ h3)
    rw [h0, nI0m]
theorem q_hasOwn0 {S M : PS} (hS : SM S M) {c s : Nat} (hc : c < 16) (hs : s < 8) (ho : om M c s = 0) : q_X2_hasOwn S (nI c) (nI s) = some 0 := by
  unfold q_X2_hasOwn
  rw [slotN, rd_nI _ (by omega) (by omega), ob_some, hS.2.2.2.2 c s hc hs, ho, if_pos (by decide)]
theorem q_hasOwn1 {S M : PS} (hM : WM M) (hS : SM S M) {c s : Nat} (hc : c < 16) (hs : s < 8) (ho : om M c s ≠ 0) : q_X2_hasOwn S (nI c) (nI s) = some 1 := by
  have h30 := hM.2.1
  have hle := om_le M c s
  have hg : ¬ nI (om M c s) ≤ (0 : Int32) := by rw [← nI_0]; exact nI_ge (by omega) (by omega)
  unfold q_X2_hasOwn
  rw [slotN, rd_nI _ (by omega) (by omega), ob_some, hS.2.2.2.2 c s hc hs, if_neg hg]
theorem q_findN {M : PS} {s : Nat} (k : Nat) : iter1 (q_X6_find_L2 M (nI s)) (k + 1) (-1) = some (-1) := by
  show q_X6_find_L2 M (nI s) (iter1 (q_X6_find_L2 M (nI s)) k) (-1) = _
  generalize iter1 (q_X6_find_L2 M (nI s)) k = rec
  unfold q_X6_find_L2
  rw [if_pos rfl]
theorem q_find {M : PS} (hC : WC M) (hM : WM M) {s : Nat} (hs : s < 8) : ∀ (k c : Nat), c + 1 < k → c < nc M → iter1 (q_X6_find_L2 M (nI s)) k (nI c) = some (nI (fd M c s) - 1) := by
  have h30 := hM.2.1
  have h16 := hC.2.2.1
  intro k
  induction k with
  | zero => intro c h; omega
  | succ k ih =>
    intro c h1 hc
    show q_X6_find_L2 M (nI s) (iter1 (q_X6_find_L2 M (nI s)) k) (nI c) = _
    have hN : iter1 (q_X6_find_L2 M (nI s)) k (-1) = some (-1) := by
      obtain ⟨k', rfl⟩ : ∃ k', k = k' + 1 := ⟨k - 1, by omega⟩
      exact q_findN k'
    generalize iter1 (q_X6_find_L2 M (nI s)) k = rec at ih hN ⊢
    unfold q_X6_find_L2
    have hle := om_le M c s
    rw [if_neg (nI_nm1 (by omega)), q_own hC hM (by omega) hs, ob_some]
    by_cases ho : om M c s = 0
    · rw [ho, nI0m, if_pos rfl, rd_nI _ (by omega) (by omega), ob_some]
      rcases Nat.eq_zero_or_pos c with h0 | h0
      · subst h0
        rw [hC.2.2.2.1, fd_0 ho, nI0m, hN]
      · obtain ⟨hp, hlt⟩ := hC.2.2.2.2.1 c h0 hc
        rw [hp, ih _ (by omega) (by omega), fd_S hC h0 hc ho]
    · rw [fd_own ho, nIm (by omega), if_neg (nI_nm1 (by omega)), ob_some]
theorem e_find {M : PS} (hC : WC M) (hM : WM M) {c s : Nat} (hc : c < nc M) (hs : s < 8) : q_X6_find M (nI c) (nI s) = some (nI (fd M c s) - 1) := by
  have h16 := hC.2.2.1
  exact q_find hC hM hs 1000 c (by omega) hc
theorem q_lookUpN {S : PS} {s : Nat} (k : Nat) (x : Int32) : iter2 (q_X2_lookUp_L5 S (nI s)) (k + 1) (-1) x = some (-1) := by
  show q_X2_lookUp_L5 S (nI s) (iter2 (q_X2_lookUp_L5 S (nI s)) k) (-1) x = _
  generalize iter2 (q_X2_lookUp_L5 S (nI s)) k = rec
  unfold q_X2_lookUp_L5
  by_cases h : 16 ≤ x
  · rw [if_pos h]
  · rw [if_neg h, if_pos m1_neg]
/-- the planner goes up the parents: j steps so far, each to a smaller class -/
theorem q_lookUp {S M : PS} (hC : WC M) (hM : WM M) (hS : SC S M) (hT : SM S M) {s : Nat} (hs : s < 8) : ∀ (k d j : Nat), d + 1 < k → d < nc M → j + d < 16 → iter2 (q_X2_lookUp_L5 S (nI s)) k (nI d) (nI j) = some (nI (fd M d s) - 1) := by
  have h30 := hM.2.1
  have h16 := hC.2.2.1
  intro k
  induction k with
  | zero => intro d j h; omega
  | succ k ih =>
    intro d j h1 hd hj
    show q_X2_lookUp_L5 S (nI s) (iter2 (q_X2_lookUp_L5 S (nI s)) k) (nI d) (nI j) = _
    have hN : ∀ x : Int32, iter2 (q_X2_lookUp_L5 S (nI s)) k (-1) x = some (-1) := by
      obtain ⟨k', rfl⟩ : ∃ k', k = k' + 1 := ⟨k - 1, by omega⟩
      exact q_lookUpN k'
    generalize iter2 (q_X2_lookUp_L5 S (nI s)) k = rec at ih hN ⊢
    unfold q_X2_lookUp_L5
    have hle := om_le M d s
    have hg : ¬ (16 : Int32) ≤ nI j := by rw [show (16 : Int32) = nI 16 from rfl]; exact nI_ge (by omega) (by omega)
    rw [if_neg hg, if_neg (nI_pos (by omega)), slotN, rd_nI _ (by omega) (by omega), ob_some, hT.2.2.2.2 d s (by omega) hs]
    by_cases ho : om M d s = 0
    · rw [ho, nI0m, if_pos m1_neg, rd_nI _ (by omega) (by omega), ob_some, (hS.2.1 d hd).1]
      rcases Nat.eq_zero_or_pos d with h0 | h0
      · subst h0
        rw [hC.2.2.2.1, fd_0 ho, nI0m, hN]
      · obtain ⟨hp, hlt⟩ := hC.2.2.2.2.1 d h0 hd
        rw [hp, nI_1, ih _ _ (by omega) (by omega) (by omega), fd_S hC h0 hd ho]
    · rw [fd_own ho, nIm (by omega), if_neg (nI_pos (by omega))]
theorem e_lookUp {S M : PS} (hC : WC M) (hM : WM M) (hS : SC S M) (hT : SM S M) {c s : Nat} (hc : c < nc M) (hs : s < 8) : q_X2_lookUp S (nI c) (nI s) = some (nI (fd M c s) - 1) := by
  have h16 := hC.2.2.1
  unfold q_X2_lookUp
  rw [← nI_0]
  exact q_lookUp hC hM hS hT hs 1000 c 0 (by omega) hc (by omega)
theorem or_bit {a k : Nat} (h : k < 31) : nI a ||| (1 : Int32) <<< (nI k &&& 31) = nI (a ||| 2 ^ k) := by rw [shl1 h, fa_or]
theorem e_targets {M : PS} (hC : WC M) (hM : WM M) {r s : Nat} (hr : r < nc M) (hs : s < 8) : q_X6_targets M (nI r) (nI s) = some (nI (ts M r s)) := by
  have h30 := hM.2.1
  have h16 := hC.2.2.1
  unfold q_X6_targets
  rw [← nI_0]
  refine for2 (n := nc M) (fun i x => x = nI (tsF M r s i)) (fun rec i x hi hx => ?_) (fun rec x hx => ?_) 1000 0 _ (Nat.zero_le _) (by omega) rfl
  · right
    subst hx
    unfold q_X6_targets_L5
    rw [hC.1, if_neg (nI_ge hi (by omega)), rd_nI _ (by omega) (by omega), ob_some, nI_1]
    have hle := fd_le hC s i hi
    by_cases hl : M.2 1 i = 0
    · rw [if_pos hl]
      refine ⟨_, ?_, rfl⟩
      show _ = nI (tsF M r s i ||| _)
      rw [if_neg (fun h => h.1 hl), Nat.or_zero]
    · rw [if_neg hl, q_below hC hi hr, ob_some]
      by_cases hb : (an M i).testBit r = true
      · rw [if_pos hb, if_neg (by decide), e_find hC hM hi hs, ob_some]
        by_cases hf : fd M i s = 0
        · rw [hf, nI0m, if_pos rfl]
          refine ⟨_, ?_, rfl⟩
          show _ = nI (tsF M r s i ||| _)
          rw [if_neg (fun h => h.2.2 hf), Nat.or_zero]
        · rw [nIm (by omega), if_neg (nI_nm1 (by omega)), or_bit (by omega)]
          refine ⟨_, ?_, rfl⟩
          show _ = nI (tsF M r s i ||| _)
          rw [if_pos ⟨hl, hb, hf⟩]
      · rw [if_neg hb, if_pos rfl]
        refine ⟨_, ?_, rfl⟩
        show _ = nI (tsF M r s i ||| _)
        rw [if_neg (fun h => hb h.2.1), Nat.or_zero]
  · subst hx
    unfold q_X6_targets_L5
    rw [hC.1, if_pos (nI_le (Nat.le_refl _) (by omega))]
    rfl
theorem tsF_low {M : PS} (hC : WC M) {r s : Nat} (hr : r < nc M) : ∀ c, c ≤ r → tsF M r s c = 0 := by
  intro c
  induction c with
  | zero => intro _; rfl
  | succ c ih =>
    intro hc
    show tsF M r s c ||| _ = 0
    rw [ih (by omega), an_high hC (by omega) (by omega)]
    simp
theorem e_targetSet {S M : PS} (hC : WC M) (hM : WM M) (hS : SC S M) (hT : SM S M) {r s : Nat} (hr : r < nc M) (hs : s < 8) : q_X2_targetSet S (nI r) (nI s) = some (nI (ts M r s)) := by
  have h30 := hM.2.1
  have h16 := hC.2.2.1
  unfold q_X2_targetSet
  refine for2 (n := nc M) (fun i x => x = nI (tsF M r s i)) (fun rec i x hi hx => ?_) (fun rec x hx => ?_) 1000 r _ (by omega) (by omega) (by rw [tsF_low hC hr _ (Nat.le_refl _)]; rfl)
  · right
    subst hx
    unfold q_X2_targetSet_L5
    rw [hS.1, hC.1, if_neg (nI_ge hi (by omega)), rd_nI _ (by omega) (by omega), ob_some, nI_1, (hS.2.1 i hi).2.1]
    have hle := fd_le hC s i hi
    by_cases hl : M.2 1 i = 0
    · rw [if_pos hl]
      refine ⟨_, ?_, rfl⟩
      show _ = nI (tsF M r s i ||| _)
      rw [if_neg (fun h => h.1 hl), Nat.or_zero]
    · rw [if_neg hl, e_under hC hS hi (by omega), ob_some]
      by_cases hb : (an M i).testBit r = true
      · rw [if_pos hb, if_neg (by decide), e_lookUp hC hM hS hT hi hs, ob_some]
        by_cases hf : fd M i s = 0
        · rw [hf, nI0m, if_neg (by decide)]
          refine ⟨_, ?_, rfl⟩
          show _ = nI (tsF M r s i ||| _)
          rw [if_neg (fun h => h.2.2 hf), Nat.or_zero]
          rw [show (0 : Int32) = nI 0 from rfl, fa_or, Nat.or_zero]
        · rw [nIm (by omega), if_pos (nI_pos' (by omega)), or_bit (by omega)]
          refine ⟨_, ?_, rfl⟩
          show _ = nI (tsF M r s i ||| _)
          rw [if_pos ⟨hl, hb, hf⟩]
      · rw [if_neg hb, if_pos rfl]
        refine ⟨_, ?_, rfl⟩
        show _ = nI (tsF M r s i ||| _)
        rw [if_neg (fun h => hb h.2.1), Nat.or_zero]
  · subst hx
    unfold q_X2_targetSet_L5
    rw [hS.1, hC.1, if_pos (nI_le (Nat.le_refl _) (by omega))]
    rfl
