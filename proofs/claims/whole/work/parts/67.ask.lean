/-! the plain questions -/
theorem xb_r {a b : Type} (v : a) (k : a → Option (Nat ⊕ b)) : xb (some (.inr v)) k = k v := rfl
theorem xb_l {a b : Type} (e : Nat) (k : a → Option (Nat ⊕ b)) : xb (some (.inl e)) k = some (.inl e) := rfl
theorem xc_r {a b : Type} (v : a) (kx : Nat → Option b) (k : a → Option b) : xc (some (.inr v)) kx k = k v := rfl
theorem xc_l {a b : Type} (e : Nat) (kx : Nat → Option b) (k : a → Option b) : xc (some (.inl e)) kx k = kx e := rfl
theorem no_e (M : PS) (e : Int32) : q_X6_no M e = some (sN M 0 e, 0) := rfl
theorem sN0 (M : PS) (k : Nat) (v : Int32) : (sN M k v).1 k = v := by rw [sN_1, if_pos rfl]
theorem c_parent {S M : PS} {ov : Nat → Int64} (h : INV S M) (x : Int32) : opI (q_L_parent S ov x) (q_X6_parent M x) := by
  have h' := inv_thr 0 h
  have h16 := h.1.2.2.1
  unfold q_L_parent q_X5_parent q_X6_parent
  rw [wN_e, ob_some]
  rcases isI_cases x (n := nc M) (by omega) with ⟨c, hc, rfl⟩ | hx
  · obtain ⟨a1, a2⟩ := (c_class h').1 (isI_nI (n := nc M) hc (by omega))
    rw [a1, a2, xb_r, ob_some, if_neg (by decide), rd_nI _ (by omega) (by omega), rd_nI _ (by omega) (by omega), ob_some, ob_some, xc_r, (h.2.2.1.2.1 c hc).1]
    exact opI_ok h'
  · obtain ⟨a1, a2⟩ := (c_class h').2 hx
    rw [a1, a2, xb_l, ob_some, if_pos rfl, no_e, xc_l]
    exact opI_thr (by decide) h'
theorem c_isBelow {S M : PS} {ov : Nat → Int64} (h : INV S M) (x y : Int32) : opZ (q_L_isBelow S ov x y) (q_X6_isBelow M x y) := by
  have h16 := h.1.2.2.1
  unfold q_L_isBelow q_X5_isBelow q_X6_isBelow
  rcases isI_cases x (n := nc M) (by omega) with ⟨c, hc, rfl⟩ | hx
  · obtain ⟨a1, a2⟩ := (c_class h).1 (isI_nI (n := nc M) hc (by omega))
    rw [a1, a2, xb_r, ob_some, if_neg (by decide)]
    rcases isI_cases y (n := nc M) (by omega) with ⟨d, hd, rfl⟩ | hy
    · obtain ⟨b1, b2⟩ := (c_class h).1 (isI_nI (n := nc M) hd (by omega))
      have h' := inv_thr 0 h
      rw [b1, b2, xb_r, ob_some, if_neg (by decide), wN_e, ob_some, sN0, if_pos rfl, q_below h'.1 hc hd, e_under h.1 h.2.2.1 hc (by omega), ob_some, ob_some, (core_eq (core_sN M (k := 0) 0 (by decide) (by decide))).2.2.1 c]
      by_cases hb : (an M c).testBit d = true
      · rw [if_pos hb, zg_1, ob_some, xc_r, if_neg (by decide : ¬ (1 : Int32) = 0), if_neg (by decide : ¬ (1 : Int32) = 0)]
        exact opZ_ok (r := 1) (Or.inr rfl) h'
      · rw [if_neg hb, zg_0, ob_some, xc_r, if_pos rfl, if_pos rfl]
        exact opZ_ok (r := 0) (Or.inl rfl) h'
    · obtain ⟨b1, b2⟩ := (c_class h).2 hy
      rw [b1, b2, xb_l, ob_some, if_pos rfl, wN_e, ob_some, sN0, if_neg (by decide), xc_l]
      exact opZ_thr (by decide) (Or.inl rfl) h
  · obtain ⟨a1, a2⟩ := (c_class h).2 hx
    rw [a1, a2, xb_l, ob_some, if_pos rfl, wN_e, ob_some, sN0, if_neg (by decide), xc_l]
    exact opZ_thr (by decide) (Or.inl rfl) h
/-- how many live classes before n are below c -/
def lvF (M : PS) (c : Nat) : Nat → Nat
  | 0 => 0
  | n + 1 => lvF M c n + (if M.2 1 n ≠ 0 ∧ (an M n).testBit c = true then 1 else 0)
theorem e_liveBelow5 {S M : PS} (hC : WC M) (hS : SC S M) {c : Nat} (hc : c < nc M) : iter2 (q_X5_liveBelow_L9 S (nI c)) 1000 0 0 = some (.inr (nI (lvF M c (nc M)))) := by
  have h16 := hC.2.2.1
  rw [← nI_0]
  refine for2 (n := nc M) (fun i x => x = nI (lvF M c i)) (fun rec i x hi hx => ?_) (fun rec x hx => ?_) 1000 0 _ (Nat.zero_le _) (by omega) rfl
  · right
    subst hx
    unfold q_X5_liveBelow_L9
    rw [hS.1, hC.1, if_neg (nI_ge hi (by omega)), rd_nI _ (by omega) (by omega), ob_some, nI_1, (hS.2.1 i hi).2.1]
    by_cases hl : M.2 1 i = 0
    · rw [if_pos hl]
      refine ⟨_, ?_, rfl⟩
      show _ = nI (lvF M c i + _)
      rw [if_neg (fun h => h.1 hl)]
      rfl
    · rw [if_neg hl, e_under hC hS hi (by omega), ob_some]
      by_cases hb : (an M i).testBit c = true
      · rw [if_pos hb, if_neg (by decide)]
        refine ⟨_, ?_, rfl⟩
        show _ = nI (lvF M c i + _)
        rw [if_pos ⟨hl, hb⟩, nI_1]
      · rw [if_neg hb, if_pos rfl]
        refine ⟨_, ?_, rfl⟩
        show _ = nI (lvF M c i + _)
        rw [if_neg (fun h => hb h.2)]
        rfl
  · subst hx
    unfold q_X5_liveBelow_L9
    rw [hS.1, hC.1, if_pos (nI_le (Nat.le_refl _) (by omega))]
theorem e_liveBelow6 {M : PS} (hC : WC M) {c : Nat} (hc : c < nc M) : iter2 (q_X6_liveBelow_L23 (nI c) M) 1000 0 0 = some (M, nI (lvF M c (nc M))) := by
  have h16 := hC.2.2.1
  rw [← nI_0]
  refine for2 (n := nc M) (fun i x => x = nI (lvF M c i)) (fun rec i x hi hx => ?_) (fun rec x hx => ?_) 1000 0 _ (Nat.zero_le _) (by omega) rfl
  · right
    subst hx
    unfold q_X6_liveBelow_L23
    rw [hC.1, if_neg (nI_ge hi (by omega)), rd_nI _ (by omega) (by omega), ob_some, nI_1]
    by_cases hl : M.2 1 i = 0
    · rw [if_pos hl]
      refine ⟨_, ?_, rfl⟩
      show _ = nI (lvF M c i + _)
      rw [if_neg (fun h => h.1 hl), show (0 : Int32) = nI 0 from rfl, nI_add]
    · rw [if_neg hl, q_below hC hi hc, ob_some]
      by_cases hb : (an M i).testBit c = true
      · rw [if_pos hb, if_neg (by decide)]
        refine ⟨_, ?_, rfl⟩
        show _ = nI (lvF M c i + _)
        rw [if_pos ⟨hl, hb⟩, nI_1]
      · rw [if_neg hb, if_pos rfl]
        refine ⟨_, ?_, rfl⟩
        show _ = nI (lvF M c i + _)
        rw [if_neg (fun h => hb h.2), show (0 : Int32) = nI 0 from rfl, nI_add]
  · subst hx
    unfold q_X6_liveBelow_L23
    rw [hC.1, if_pos (nI_le (Nat.le_refl _) (by omega))]
theorem lvF_cg {M M' : PS} (h1 : M'.2 1 = M.2 1) (h2 : ∀ c, an M' c = an M c) (c : Nat) : ∀ n, lvF M' c n = lvF M c n := by
  intro n
  induction n with
  | zero => rfl
  | succ n ih => show lvF M' c n + (if M'.2 1 n ≠ 0 ∧ (an M' n).testBit c = true then 1 else 0) = lvF M c n + (if M.2 1 n ≠ 0 ∧ (an M n).testBit c = true then 1 else 0); rw [ih, h1, h2]
theorem c_liveBelow {S M : PS} {ov : Nat → Int64} (h : INV S M) (x : Int32) : opI (q_L_liveBelow S ov x) (q_X6_liveBelow M x) := by
  have h' := inv_thr 0 h
  have h16 := h.1.2.2.1
  unfold q_L_liveBelow q_X5_liveBelow q_X6_liveBelow
  rw [wN_e, ob_some]
  rcases isI_cases x (n := nc M) (by omega) with ⟨c, hc, rfl⟩ | hx
  · obtain ⟨a1, a2⟩ := (c_class h').1 (isI_nI (n := nc M) hc (by omega))
    rw [a1, a2, xb_r, ob_some, if_neg (by decide), e_liveBelow5 h'.1 h'.2.2.1 hc, e_liveBelow6 h'.1 hc, xc_r]
    exact opI_ok h'
  · obtain ⟨a1, a2⟩ := (c_class h').2 hx
    rw [a1, a2, xb_l, ob_some, if_pos rfl, no_e, xc_l]
    exact opI_thr (by decide) h'
theorem c_found {S M : PS} {ov : Nat → Int64} (h : INV S M) (x y : Int32) : opI (q_L_found S ov x y) (q_X6_found M x y) := by
  have h' := inv_thr 0 h
  have h16 := h.1.2.2.1
  unfold q_L_found q_X5_found q_X6_found
  rw [wN_e, ob_some]
  rcases isI_cases x (n := nc M) (by omega) with ⟨c, hc, rfl⟩ | hx
  · obtain ⟨a1, a2⟩ := (c_class h').1 (isI_nI (n := nc M) hc (by omega))
    rw [a1, a2, xb_r, ob_some, if_neg (by decide)]
    rcases isI_cases y (n := 8) (by omega) with ⟨s, hs, rfl⟩ | hy
    · obtain ⟨b1, b2⟩ := (c_selector (S := S)).1 (isI_nI hs (by omega))
      rw [b1, b2, xb_r, ob_some, if_neg (by decide), e_lookUp h'.1 h'.2.1 h'.2.2.1 h'.2.2.2.1 hc hs, e_find h'.1 h'.2.1 hc hs, ob_some, ob_some, xc_r]
      exact opI_ok h'
    · obtain ⟨b1, b2⟩ := (c_selector (S := S)).2 hy
      rw [b1, b2, xb_l, ob_some, if_pos rfl, no_e, xc_l]
      exact opI_thr (by decide) h'
  · obtain ⟨a1, a2⟩ := (c_class h').2 hx
    rw [a1, a2, xb_l, ob_some, if_pos rfl, no_e, xc_l]
    exact opI_thr (by decide) h'
theorem c_targetCount {S M : PS} {ov : Nat → Int64} (h : INV S M) (x y : Int32) : opI (q_L_targetCount S ov x y) (q_X6_targetCount M x y) := by
  have h' := inv_thr 0 h
  have h16 := h.1.2.2.1
  unfold q_L_targetCount q_X5_targetCount q_X6_targetCount
  rw [wN_e, ob_some]
  rcases isI_cases x (n := nc M) (by omega) with ⟨c, hc, rfl⟩ | hx
  · obtain ⟨a1, a2⟩ := (c_class h').1 (isI_nI (n := nc M) hc (by omega))
    rw [a1, a2, xb_r, ob_some, if_neg (by decide)]
    rcases isI_cases y (n := 8) (by omega) with ⟨s, hs, rfl⟩ | hy
    · obtain ⟨b1, b2⟩ := (c_selector (S := S)).1 (isI_nI hs (by omega))
      have hlt := ts_lt h'.1 h'.2.1 c s
      rw [b1, b2, xb_r, ob_some, if_neg (by decide), e_targetSet h'.1 h'.2.1 h'.2.2.1 h'.2.2.2.1 hc hs, e_targets h'.1 h'.2.1 hc hs, ob_some, ob_some, e_bitCount (Nat.lt_of_lt_of_le hlt (by decide)), e_bits (Nat.lt_of_lt_of_le hlt (by decide)), pcn_30 hlt, ob_some, ob_some, xc_r]
      exact opI_ok h'
    · obtain ⟨b1, b2⟩ := (c_selector (S := S)).2 hy
      rw [b1, b2, xb_l, ob_some, if_pos rfl, no_e, xc_l]
      exact opI_thr (by decide) h'
  · obtain ⟨a1, a2⟩ := (c_class h').2 hx
    rw [a1, a2, xb_l, ob_some, if_pos rfl, no_e, xc_l]
    exact opI_thr (by decide) h'
theorem mb_val {a : Nat} : ∀ (n i : Nat) (x : Int32), i + n ≤ 100 → mb a x n i = -1 ∨ ∃ j, j < 100 ∧ mb a x n i = nI j := by
  intro n
  induction n with
  | zero => intros; exact Or.inl rfl
  | succ n ih =>
    intro i x hi
    show (if a.testBit i = true then (if x = 0 then nI i else mb a (x + -1) n (i + 1)) else mb a x n (i + 1)) = -1 ∨ ∃ j, j < 100 ∧ (if a.testBit i = true then (if x = 0 then nI i else mb a (x + -1) n (i + 1)) else mb a x n (i + 1)) = nI j
    by_cases h : a.testBit i = true
    · rw [if_pos h]
      by_cases hx : x = 0
      · rw [if_pos hx]; exact Or.inr ⟨i, by omega, rfl⟩
      · rw [if_neg hx]; exact ih _ _ (by omega)
    · rw [if_neg h]; exact ih _ _ (by omega)
theorem ts_hi {M : PS} (h : WC M) {r s : Nat} : ∀ j, nm M ≤ j → (ts M r s).testBit j = false := by
  intro j hj
  by_cases hb : (ts M r s).testBit j = true
  · exact absurd (tsF_bit h _ (Nat.le_refl _) hb) (by omega)
  · simpa using hb
theorem c_target {S M : PS} {ov : Nat → Int64} (h : INV S M) (x y w : Int32) : opI (q_L_target S ov x y w) (q_X6_target M x y w) := by
  have h' := inv_thr 0 h
  have h16 := h.1.2.2.1
  unfold q_L_target q_X5_target q_X6_target
  rw [wN_e, ob_some]
  rcases isI_cases x (n := nc M) (by omega) with ⟨c, hc, rfl⟩ | hx
  · obtain ⟨a1, a2⟩ := (c_class h').1 (isI_nI (n := nc M) hc (by omega))
    rw [a1, a2, xb_r, ob_some, if_neg (by decide)]
    rcases isI_cases y (n := 8) (by omega) with ⟨s, hs, rfl⟩ | hy
    · obtain ⟨b1, b2⟩ := (c_selector (S := S)).1 (isI_nI hs (by omega))
      have hlt := ts_lt h'.1 h'.2.1 c s
      rw [b1, b2, xb_r, ob_some, if_neg (by decide), e_targetSet h'.1 h'.2.1 h'.2.2.1 h'.2.2.2.1 hc hs, ob_some, e_member2 (Nat.lt_of_lt_of_le hlt (by decide)) h'.2.1.2.1 (by rw [h'.2.2.2.1.1, h'.2.1.1]) (ts_hi h'.1), ob_some]
      by_cases hw : 0 ≤ w
      · rw [if_pos hw, e_targets h'.1 h'.2.1 hc hs, ob_some, e_member6 (Nat.lt_of_lt_of_le hlt (by decide)), ob_some]
        rcases mb_val (a := ts (sN M 0 0) c s) 30 0 w (by omega) with e | ⟨j, hj, e⟩
        · rw [e, if_neg (by decide), if_pos rfl, no_e, xc_l]
          exact opI_thr (by decide) h'
        · rw [e, if_pos (nI_pos' (by omega)), if_neg (nI_nm1 (by omega)), xc_r]
          exact opI_ok h'
      · rw [if_neg hw, mb_far 30 0 w (fun k hk e => hw (by rw [e]; exact nI_pos' (by omega))), if_neg (by decide), no_e, xc_l]
        exact opI_thr (by decide) h'
    · obtain ⟨b1, b2⟩ := (c_selector (S := S)).2 hy
      rw [b1, b2, xb_l, ob_some, if_pos rfl, no_e, xc_l]
      exact opI_thr (by decide) h'
  · obtain ⟨a1, a2⟩ := (c_class h').2 hx
    rw [a1, a2, xb_l, ob_some, if_pos rfl, no_e, xc_l]
    exact opI_thr (by decide) h'
/-! of the plan -/
theorem c_asks {S M : PS} (h : INV S M) : (q_X5_checkPlan S = some (.inl 2) ∧ q_X6_asks M = some (sN M 0 1, 0)) ∨ (WP M ∧ SP S M ∧ q_X5_checkPlan S = some (.inr ()) ∧ q_X6_asks M = some (sN M 0 0, 1)) := by
  unfold q_X6_asks
  rcases c_plan h with ⟨h1, h2, -⟩ | ⟨h1, h2, -, h3, h4⟩
  · left
    rw [h1, if_pos rfl, wN_e, ob_some]
    refine ⟨h2, ?_⟩
    rw [show (sN M 0 1).1 6 = 0 from h1]
    rfl
  · right
    rw [h1, if_neg (by decide), wN_e, ob_some]
    refine ⟨h3, h4, h2, ?_⟩
    rw [show (sN M 0 0).1 6 = 1 from h1]
    rfl
theorem c_node {S M : PS} (h : INV S M) (x : Int32) : (q_X5_checkNode S x = some (.inl 2) ∧ q_X6_asks_ M x = some (sN M 0 1, 0)) ∨ (q_X5_checkNode S x = some (.inl 1) ∧ q_X6_asks_ M x = some (sN M 0 2, 0)) ∨ ∃ i, i < nn M ∧ x = nI i ∧ WP M ∧ SP S M ∧ q_X5_checkNode S x = some (.inr ()) ∧ q_X6_asks_ M x = some (sN M 0 0, 1) := by
  rcases c_plan h with ⟨h1, h2, -⟩ | ⟨h1, h2, -, h3, h4⟩
  · left
    unfold q_X5_checkNode q_X6_asks_
    rw [h1, if_pos rfl, h2, xb_l, wN_e, ob_some, sN0, if_neg (by decide)]
    exact ⟨rfl, rfl⟩
  · right
    have h50 := h3.2.2.1
    obtain ⟨a1, a2⟩ := e_isInN x (n := nn M) (by omega)
    rcases isI_cases x (n := nn M) (by omega) with ⟨i, hi, rfl⟩ | hx
    · right
      refine ⟨i, hi, rfl, h3, h4, ?_, ?_⟩
      · unfold q_X5_checkNode
        rw [h2, xb_r, h4.1, h3.1, if_neg (nI_pos (by omega)), if_pos (nI_ltc hi (by omega))]
      · unfold q_X6_asks_
        rw [h1, if_neg (by decide : ¬ (1 : Int32) = 0), h3.1, a1 (isI_nI hi (by omega)), ob_some, if_neg (by decide : ¬ (1 : Int32) = 0), wN_e, ob_some, sN0, if_pos rfl]
    · left
      constructor
      · unfold q_X5_checkNode
        rw [h2, xb_r, h4.1, h3.1]
        by_cases hn : x < 0
        · rw [if_pos hn]
        · rw [if_neg hn, if_neg (fun h5 => hx ⟨hn, h5⟩)]
      · unfold q_X6_asks_
        rw [h1, if_neg (by decide : ¬ (1 : Int32) = 0), h3.1, a2 hx, ob_some, if_pos rfl, wN_e, ob_some, sN0, if_neg (by decide)]
theorem e_sitesAt {S M : PS} (hM : WM M) (hS : SM S M) {i : Nat} (hi : i < 50) (h1 : S.2 9 i = nI (nd M i)) (h2 : nd M i < nm M) : q_X3_sitesAt S (nI i) = some (nI (sn M i)) := by
  unfold q_X3_sitesAt
  have := hM.2.1
  rw [rd_nI _ hi (by omega), ob_some, h1, rd_nI _ (by omega) (by omega), ob_some, (hS.2.1 _ h2).2, (hM.2.2.1 _ h2).2.2.2.2.2.2.2.1]
  rfl
theorem sn_le {M : PS} (hM : WM M) {i : Nat} (h2 : nd M i < nm M) : sn M i ≤ 8 := (hM.2.2.1 _ h2).2.2.2.2.2.2.2.2
theorem c_site {S M : PS} (h : INV S M) (x y : Int32) : (q_X5_checkSite S x y = some (.inl 2) ∧ q_X6_asks__ M x y = some (sN M 0 1, 0)) ∨ (q_X5_checkSite S x y = some (.inl 1) ∧ ∃ M', INV S M' ∧ q_X6_asks__ M x y = some (sN M' 0 2, 0)) ∨ ∃ i k, i < nn M ∧ k < sn M i ∧ x = nI i ∧ y = nI k ∧ WP M ∧ SP S M ∧ q_X5_checkSite S x y = some (.inr ()) ∧ q_X6_asks__ M x y = some (sN (sN M 0 0) 0 0, 1) := by
  unfold q_X5_checkSite q_X6_asks__
  rcases c_node h x with ⟨h1, h2⟩ | ⟨h1, h2⟩ | ⟨i, hi, rfl, h3, h4, h1, h2⟩
  · left
    rw [h1, h2]
    exact ⟨rfl, rfl⟩
  · right; left
    rw [h1, h2]
    exact ⟨rfl, M, h, rfl⟩
  · right
    have h50 := h3.2.2.1
    have h30 := h.2.1.2.1
    obtain ⟨b1, b2, -⟩ := h3.2.2.2.1 i hi
    have h8 := sn_le h.2.1 b2
    have hsi : M.2 5 (nd M i) = nI (sn M i) := (h.2.1.2.2.1 _ b2).2.2.2.2.2.2.2.1
    rw [h1, h2, xb_r, ob_pair]
    dsimp only
    rw [if_neg (by decide : ¬ (1 : Int32) = 0), sN_2, rd_nI (M.2 7) (show i < 50 by omega) (by omega), ob_some, b1, rd_nI (M.2 5) (show nd M i < 30 by omega) (by omega), ob_some, hsi]
    obtain ⟨a1, a2⟩ := e_isInN y (n := sn M i) (by omega)
    rw [e_sitesAt h.2.1 h.2.2.2.1 (by omega) (by rw [(h4.2.1 i hi).1, b1]) b2, ob_some]
    rcases isI_cases y (n := sn M i) (by omega) with ⟨k, hk, rfl⟩ | hy
    · right
      refine ⟨i, k, hi, hk, rfl, rfl, h3, h4, ?_, ?_⟩
      · rw [if_neg (nI_pos (by omega)), if_pos (nI_ltc hk (by omega))]
      · rw [a1 (isI_nI hk (by omega)), ob_some, if_neg (by decide : ¬ (1 : Int32) = 0), wN_e, ob_some, sN0, if_pos rfl]
    · left
      constructor
      · by_cases hn : y < 0
        · rw [if_pos hn]
        · rw [if_neg hn, if_neg (fun h5 => hy ⟨hn, h5⟩)]
      · refine ⟨sN M 0 0, inv_thr 0 h, ?_⟩
        rw [a2 hy, ob_some, if_pos rfl, wN_e, ob_some, sN0, if_neg (by decide)]
theorem c_method {S M : PS} {ov : Nat → Int64} (h : INV S M) (x : Int32) : opI (q_L_method S ov x) (q_X6_method M x) := by
  unfold q_L_method q_X5_method q_X6_method
  rcases c_node h x with ⟨h1, h2⟩ | ⟨h1, h2⟩ | ⟨i, hi, rfl, h3, h4, h1, h2⟩
  · rw [h1, h2, xb_l, ob_pair, xc_l]
    exact opI_thr (e := 1) (r := 0) (by decide) h
  · rw [h1, h2, xb_l, ob_pair, xc_l]
    exact opI_thr (e := 2) (r := 0) (by decide) h
  · have h50 := h3.2.2.1
    rw [h1, h2, xb_r, ob_pair]
    dsimp only
    rw [if_neg (by decide), rd_nI _ (by omega) (by omega), rd_nI _ (by omega) (by omega), ob_some, ob_some, xc_r, (h4.2.1 i hi).1]
    exact opI_ok (inv_thr 0 h)
theorem c_parentNode {S M : PS} {ov : Nat → Int64} (h : INV S M) (x : Int32) : opI (q_L_parentNode S ov x) (q_X6_parentNode M x) := by
  unfold q_L_parentNode q_X5_parentNode q_X6_parentNode
  rcases c_node h x with ⟨h1, h2⟩ | ⟨h1, h2⟩ | ⟨i, hi, rfl, h3, h4, h1, h2⟩
  · rw [h1, h2, xb_l, ob_pair, xc_l]
    exact opI_thr (e := 1) (r := 0) (by decide) h
  · rw [h1, h2, xb_l, ob_pair, xc_l]
    exact opI_thr (e := 2) (r := 0) (by decide) h
  · have h50 := h3.2.2.1
    rw [h1, h2, xb_r, ob_pair]
    dsimp only
    rw [if_neg (by decide), rd_nI _ (by omega) (by omega), rd_nI _ (by omega) (by omega), ob_some, ob_some, xc_r, (h4.2.1 i hi).2.1]
    exact opI_ok (inv_thr 0 h)
theorem c_siteOf {S M : PS} {ov : Nat → Int64} (h : INV S M) (x : Int32) : opI (q_L_siteOf S ov x) (q_X6_siteOf M x) := by
  unfold q_L_siteOf q_X5_siteOf q_X6_siteOf
  rcases c_node h x with ⟨h1, h2⟩ | ⟨h1, h2⟩ | ⟨i, hi, rfl, h3, h4, h1, h2⟩
  · rw [h1, h2, xb_l, ob_pair, xc_l]
    exact opI_thr (e := 1) (r := 0) (by decide) h
  · rw [h1, h2, xb_l, ob_pair, xc_l]
    exact opI_thr (e := 2) (r := 0) (by decide) h
  · have h50 := h3.2.2.1
    rw [h1, h2, xb_r, ob_pair]
    dsimp only
    rw [if_neg (by decide), rd_nI _ (by omega) (by omega), rd_nI _ (by omega) (by omega), ob_some, ob_some, xc_r, (h4.2.1 i hi).2.2.1]
    exact opI_ok (inv_thr 0 h)
theorem c_depth {S M : PS} {ov : Nat → Int64} (h : INV S M) (x : Int32) : opI (q_L_depth S ov x) (q_X6_depth M x) := by
  unfold q_L_depth q_X5_depth q_X6_depth
  rcases c_node h x with ⟨h1, h2⟩ | ⟨h1, h2⟩ | ⟨i, hi, rfl, h3, h4, h1, h2⟩
  · rw [h1, h2, xb_l, ob_pair, xc_l]
    exact opI_thr (e := 1) (r := 0) (by decide) h
  · rw [h1, h2, xb_l, ob_pair, xc_l]
    exact opI_thr (e := 2) (r := 0) (by decide) h
  · have h50 := h3.2.2.1
    rw [h1, h2, xb_r, ob_pair]
    dsimp only
    rw [if_neg (by decide), rd_nI _ (by omega) (by omega), rd_nI _ (by omega) (by omega), ob_some, ob_some, xc_r, (h4.2.1 i hi).2.2.2]
    exact opI_ok (inv_thr 0 h)
theorem c_siteCount {S M : PS} {ov : Nat → Int64} (h : INV S M) (x : Int32) : opI (q_L_siteCount S ov x) (q_X6_siteCount M x) := by
  unfold q_L_siteCount q_X5_siteCount q_X6_siteCount
  rcases c_node h x with ⟨h1, h2⟩ | ⟨h1, h2⟩ | ⟨i, hi, rfl, h3, h4, h1, h2⟩
  · rw [h1, h2, xb_l, ob_pair, xc_l]
    exact opI_thr (e := 1) (r := 0) (by decide) h
  · rw [h1, h2, xb_l, ob_pair, xc_l]
    exact opI_thr (e := 2) (r := 0) (by decide) h
  · have h50 := h3.2.2.1
    have h30 := h.2.1.2.1
    obtain ⟨b1, b2, -⟩ := h3.2.2.2.1 i hi
    have hsi : M.2 5 (nd M i) = nI (sn M i) := (h.2.1.2.2.1 _ b2).2.2.2.2.2.2.2.1
    rw [h1, h2, xb_r, ob_pair]
    dsimp only
    rw [if_neg (by decide), rd_nI _ (by omega) (by omega), ob_some, sN_2, b1, rd_nI _ (by omega) (by omega), ob_some, hsi, e_sitesAt h.2.1 h.2.2.2.1 (by omega) (by rw [(h4.2.1 i hi).1, b1]) b2, ob_some, xc_r]
    exact opI_ok (inv_thr 0 h)
theorem c_verdict {S M : PS} {ov : Nat → Int64} (h : INV S M) (x y : Int32) : opI (q_L_verdict S ov x y) (q_X6_verdict M x y) := by
  unfold q_L_verdict q_X5_verdict q_X6_verdict
  rcases c_site h x y with ⟨h1, h2⟩ | ⟨h1, M', hM', h2⟩ | ⟨i, k, hi, hk, rfl, rfl, h3, h4, h1, h2⟩
  · rw [h1, h2, xb_l, ob_pair, xc_l]
    exact opI_thr (e := 1) (r := 0) (by decide) h
  · rw [h1, h2, xb_l, ob_pair, xc_l]
    exact opI_thr (e := 2) (r := 0) (by decide) hM'
  · have h50 := h3.2.2.1
    have h8 := sn_le h.2.1 (h3.2.2.2.1 i hi).2.1
    rw [h1, h2, xb_r, ob_pair]
    dsimp only
    unfold q_X5_slot
    rw [if_neg (by decide), ob_some, slotN, slotM, rd_nI _ (by omega) (by omega), rd_nI _ (by omega) (by omega), ob_some, ob_some, xc_r, (h4.2.2.1 i k hi hk).1]
    exact opI_ok (M := sN M 0 0) (inv_thr 0 (inv_thr 0 h))
theorem c_weight {S M : PS} {ov : Nat → Int64} (h : INV S M) (x y : Int32) : opI (q_L_weight S ov x y) (q_X6_weight M x y) := by
  unfold q_L_weight q_X5_weight q_X6_weight
  rcases c_site h x y with ⟨h1, h2⟩ | ⟨h1, M', hM', h2⟩ | ⟨i, k, hi, hk, rfl, rfl, h3, h4, h1, h2⟩
  · rw [h1, h2, xb_l, ob_pair, xc_l]
    exact opI_thr (e := 1) (r := 0) (by decide) h
  · rw [h1, h2, xb_l, ob_pair, xc_l]
    exact opI_thr (e := 2) (r := 0) (by decide) hM'
  · have h50 := h3.2.2.1
    have h8 := sn_le h.2.1 (h3.2.2.2.1 i hi).2.1
    rw [h1, h2, xb_r, ob_pair]
    dsimp only
    unfold q_X5_slot
    rw [if_neg (by decide), ob_some, slotN, slotM, rd_nI _ (by omega) (by omega), rd_nI _ (by omega) (by omega), ob_some, ob_some, xc_r, (h4.2.2.1 i k hi hk).2]
    exact opI_ok (M := sN M 0 0) (inv_thr 0 (inv_thr 0 h))
theorem c_nodeCount {S M : PS} {ov : Nat → Int64} (h : INV S M) : opI (q_L_nodeCount S ov) (q_X6_nodeCount M) := by
  unfold q_L_nodeCount q_X5_nodeCount q_X6_nodeCount
  rcases c_asks h with ⟨h1, h2⟩ | ⟨h3, h4, h1, h2⟩
  · rw [h1, h2, xb_l, ob_pair, xc_l]
    exact opI_thr (e := 1) (r := 0) (by decide) h
  · rw [h1, h2, xb_r, ob_pair, xc_r, h4.1]
    exact opI_ok (inv_thr 0 h)
theorem e_wholeSize {M : PS} (hM : WM M) {n : Nat} (hn : M.1 7 = nI n) (h50 : n ≤ 50) (hd : ∀ i, i < n → M.2 7 i = nI (nd M i) ∧ nd M i < nm M) : q_X6_wholeSize M = some (nI (szF M n)) := by
  have h30 := hM.2.1
  unfold q_X6_wholeSize
  rw [← nI_0]
  refine for2 (n := n) (fun i x => x = nI (szF M i)) (fun rec i x hi hx => ?_) (fun rec x hx => ?_) 1000 0 _ (Nat.zero_le _) (by omega) rfl
  · right
    subst hx
    unfold q_X6_wholeSize_L4
    obtain ⟨b1, b2⟩ := hd i hi
    rw [hn, if_neg (nI_ge hi (by omega)), rd_nI _ (by omega) (by omega), ob_some, b1, rd_nI _ (by omega) (by omega), ob_some, nI_1, (hM.2.2.1 _ b2).2.2.2.2.1, nI_add]
    exact ⟨_, rfl, rfl⟩
  · subst hx
    unfold q_X6_wholeSize_L4
    rw [hn, if_pos (nI_le (Nat.le_refl _) (by omega))]
theorem c_size {S M : PS} {ov : Nat → Int64} (h : INV S M) : opI (q_L_size S ov) (q_X6_size M) := by
  unfold q_L_size q_X5_size q_X6_size
  rcases c_asks h with ⟨h1, h2⟩ | ⟨h3, h4, h1, h2⟩
  · rw [h1, h2, xb_l, ob_pair, xc_l]
    exact opI_thr (e := 1) (r := 0) (by decide) h
  · rw [h1, h2, xb_r, ob_pair, xc_r]
    dsimp only
    have h' := inv_thr 0 h
    rw [if_neg (by decide), e_wholeSize (M := sN M 0 0) (n := nn M) h'.2.1 h3.1 h3.2.2.1 (fun i hi => ⟨(h3.2.2.2.1 i hi).1, (h3.2.2.2.1 i hi).2.1⟩), ob_some, h4.2.2.2, szF_cg (M := M) (M' := sN M 0 0) (nn M) (fun i _ => rfl)]
    exact opI_ok h'
