/-! which nodes hold -/
/-- the targets of a node's site -/
def tn (M : PS) (i k : Nat) : Nat := ts M (rc M (nd M i) k) (sl M (nd M i) k)
def hb (M : PS) (i : Nat) : Bool := decide (i = 0 ∨ tn M (np M i) (ns M i) = 2 ^ nd M i)
theorem e_targetsOf {M : PS} (hC : WC M) (hM : WM M) {i k : Nat} (hi : i < 50) (h1 : M.2 7 i = nI (nd M i)) (h2 : nd M i < nm M) (hk : k < sn M i) : q_X6_targetsOf M (nI i) (nI k) = some (nI (tn M i k)) := by
  have h30 := hM.2.1
  have h8 := sn_le hM h2
  obtain ⟨a1, a2, a3, a4, -⟩ := hM.2.2.2.2 (nd M i) k h2 hk
  have c0 := e_call (M := M) (m := nd M i) (k := k) (j := 0) (by omega) (by omega) (by omega)
  have c1 := e_call (M := M) (m := nd M i) (k := k) (j := 1) (by omega) (by omega) (by omega)
  rw [nI_0] at c0
  rw [show nI 1 = 1 from rfl] at c1
  unfold q_X6_targetsOf
  rw [rd_nI _ hi (by omega), ob_some, h1, c0, ob_some, ob_some, c1, ob_some, Nat.add_zero, a1, a3, e_targets hC hM a2 a4, ob_some]
  rfl
theorem e_isSound {S M : PS} (hC : WC M) (hM : WM M) (hS : SC S M) (hT : SM S M) {n i : Nat} (hn : n ≤ 50) (hN : ∀ i, i < n → Wn M i) (hP : ∀ i, i < n → SPn S M i) (hi : i < n) : q_X3_isSound S (nI i) = some (if hb M i = true then 1 else 0) := by
  have h30 := hM.2.1
  obtain ⟨n1, n2, -, -, n3, n4⟩ := hN i hi
  obtain ⟨p1, p2, p3, p4⟩ := hP i hi
  unfold q_X3_isSound
  rw [rd_nI _ (by omega) (by omega), ob_some, p2]
  rcases Nat.eq_zero_or_pos i with h0 | h0
  · rw [(n3 h0).1, if_pos m1_neg, if_pos (by unfold hb; simp [h0])]
  · obtain ⟨b1, b2, b3, b4, -⟩ := n4 h0
    obtain ⟨m1, m2, -⟩ := hN (np M i) (by omega)
    have hlt := ts_lt hC hM (rc M (nd M (np M i)) (ns M i)) (sl M (nd M (np M i)) (ns M i))
    have hpw : 2 ^ nd M i < 2 ^ 30 := Nat.pow_lt_pow_right (by omega) (by omega)
    rw [b1, if_neg (nI_pos (by omega)), rd_nI _ (by omega) (by omega), ob_some, rd_nI _ (by omega) (by omega), ob_some, p3, b3, (hP (np M i) (by omega)).1, m1, e_targetsOfSite hC hM hS hT m2 b4, ob_some, rd_nI _ (by omega) (by omega), ob_some, p1, n1, shl1 (by omega)]
    by_cases h : ts M (rc M (nd M (np M i)) (ns M i)) (sl M (nd M (np M i)) (ns M i)) = 2 ^ nd M i
    · rw [h, if_pos rfl, if_pos (by unfold hb tn; simp [h])]
    · rw [if_neg (nI_nec h (by omega) (by omega)), if_neg (by unfold hb tn; simp [h]; omega)]
theorem e_isHolding {M : PS} (hC : WC M) (hM : WM M) {n i : Nat} (hn : n ≤ 50) (hN : ∀ i, i < n → Wn M i) (hi : i < n) : q_X6_isHolding M (nI i) = some (if hb M i = true then 1 else 0) := by
  have h30 := hM.2.1
  obtain ⟨n1, n2, -, -, n3, n4⟩ := hN i hi
  unfold q_X6_isHolding
  rcases Nat.eq_zero_or_pos i with h0 | h0
  · subst h0
    rw [if_pos nI_0, if_pos (by unfold hb; simp)]
  · obtain ⟨b1, b2, b3, b4, -⟩ := n4 h0
    obtain ⟨m1, m2, -⟩ := hN (np M i) (by omega)
    have hlt := ts_lt hC hM (rc M (nd M (np M i)) (ns M i)) (sl M (nd M (np M i)) (ns M i))
    have hpw : 2 ^ nd M i < 2 ^ 30 := Nat.pow_lt_pow_right (by omega) (by omega)
    rw [show (0 : Int32) = nI 0 from rfl, if_neg (nI_nec (by omega) (by omega) (by omega)), rd_nI _ (by omega) (by omega), ob_some, rd_nI _ (by omega) (by omega), ob_some, b1, b3, e_targetsOf hC hM (by omega) m1 m2 b4, ob_some, rd_nI _ (by omega) (by omega), ob_some, n1, shl1 (by omega)]
    by_cases h : tn M (np M i) (ns M i) = 2 ^ nd M i
    · rw [h, if_pos rfl, if_pos (by unfold hb; simp [h])]
    · rw [if_neg (nI_nec h (by unfold tn; omega) (by omega)), if_neg (by unfold hb; simp [h]; omega)]
theorem c_holds {S M : PS} {ov : Nat → Int64} (h : INV S M) (x : Int32) : opZ (q_L_holds S ov x) (q_X6_holds M x) := by
  unfold q_L_holds q_X5_holds q_X6_holds
  rcases c_node h x with ⟨h1, h2⟩ | ⟨h1, h2⟩ | ⟨i, hi, rfl, h3, h4, h1, h2⟩
  · rw [h1, h2, xb_l, ob_pair, xc_l]
    exact opZ_thr (e := 1) (r := 0) (by decide) (Or.inl rfl) h
  · rw [h1, h2, xb_l, ob_pair, xc_l]
    exact opZ_thr (e := 2) (r := 0) (by decide) (Or.inl rfl) h
  · have h' := inv_thr 0 h
    rw [h1, h2, xb_r, ob_pair]
    dsimp only
    have e5 := e_isSound h'.1 h'.2.1 h'.2.2.1 h'.2.2.2.1 (n := nn M) h3.2.2.1 h3.2.2.2.1 h4.2.1 hi
    have e6 := e_isHolding (M := sN M 0 0) h'.1 h'.2.1 (n := nn M) h3.2.2.1 h3.2.2.2.1 hi
    rw [if_neg d10, e5, e6, ob_some, ob_some]
    by_cases hh : hb (sN M 0 0) i = true
    · rw [if_pos hh, zg_1, ob_some, xc_r, if_neg d10, if_neg d10]
      exact opZ_ok (r := 1) (Or.inr rfl) h'
    · rw [if_neg hh, zg_0, ob_some, xc_r, if_pos rfl, if_pos rfl]
      exact opZ_ok (r := 0) (Or.inl rfl) h'
/-- the first of n nodes from i on that doesn't hold -/
def fbF (M : PS) : Nat → Nat → Int32
  | 0, _ => -1
  | n + 1, i => if hb M i = true then fbF M n (i + 1) else nI i
theorem e_firstBroken5 {S M : PS} (hC : WC M) (hM : WM M) (hS : SC S M) (hT : SM S M) (hP : WP M) (hQ : SP S M) : ∀ (k n i : Nat), n < k → i + n = nn M → iter1 (q_X5_firstBroken_L6 S) k (nI i) = some (.inr (fbF M n i)) := by
  have h50 := hP.2.2.1
  intro k
  induction k with
  | zero => intro n i h; omega
  | succ k ih =>
    intro n i h1 h2
    show q_X5_firstBroken_L6 S (iter1 (q_X5_firstBroken_L6 S) k) (nI i) = _
    generalize iter1 (q_X5_firstBroken_L6 S) k = rec at ih ⊢
    unfold q_X5_firstBroken_L6
    rw [hQ.1, hP.1]
    cases n with
    | zero =>
      have : i = nn M := by omega
      subst this
      rw [if_pos (nI_le (Nat.le_refl _) (by omega))]; rfl
    | succ n =>
      rw [if_neg (nI_ge (by omega) (by omega)), e_isSound hC hM hS hT h50 hP.2.2.2.1 hQ.2.1 (show i < nn M by omega), ob_some, nI_1, ih n (i + 1) (by omega) (by omega)]
      show _ = some (Sum.inr (if hb M i = true then fbF M n (i + 1) else nI i))
      by_cases hh : hb M i = true
      · rw [if_pos hh, if_pos hh, if_neg d10]
      · rw [if_neg hh, if_neg hh, if_pos rfl]
theorem e_firstBroken6 {M : PS} (hC : WC M) (hM : WM M) (hP : WP M) : ∀ (k n i : Nat), n < k → i + n = nn M → iter1 (q_X6_firstBroken_L11 M) k (nI i) = some (M, fbF M n i) := by
  have h50 := hP.2.2.1
  intro k
  induction k with
  | zero => intro n i h; omega
  | succ k ih =>
    intro n i h1 h2
    show q_X6_firstBroken_L11 M (iter1 (q_X6_firstBroken_L11 M) k) (nI i) = _
    generalize iter1 (q_X6_firstBroken_L11 M) k = rec at ih ⊢
    unfold q_X6_firstBroken_L11
    rw [hP.1]
    cases n with
    | zero =>
      have : i = nn M := by omega
      subst this
      rw [if_pos (nI_le (Nat.le_refl _) (by omega))]; rfl
    | succ n =>
      rw [if_neg (nI_ge (by omega) (by omega)), e_isHolding hC hM h50 hP.2.2.2.1 (show i < nn M by omega), ob_some, nI_1, ih n (i + 1) (by omega) (by omega)]
      show _ = some (M, if hb M i = true then fbF M n (i + 1) else nI i)
      by_cases hh : hb M i = true
      · rw [if_pos hh, if_pos hh, if_neg d10]
      · rw [if_neg hh, if_neg hh, if_pos rfl]
theorem c_firstBroken {S M : PS} {ov : Nat → Int64} (h : INV S M) : opI (q_L_firstBroken S ov) (q_X6_firstBroken M) := by
  unfold q_L_firstBroken q_X5_firstBroken q_X6_firstBroken
  rcases c_asks h with ⟨h1, h2⟩ | ⟨h3, h4, h1, h2⟩
  · rw [h1, h2, xb_l, ob_pair, xc_l]
    exact opI_thr (e := 1) (r := 0) (by decide) h
  · rw [h1, h2, xb_r, ob_pair]
    dsimp only
    have h50 := h3.2.2.1
    have h' := inv_thr 0 h
    obtain ⟨c1, c2, c3, c4, -, c5, -⟩ := h'
    have w' : WP (sN M 0 0) := h3
    rcases c5 with ⟨e1, e2⟩ | ⟨-, -, e3⟩
    · exfalso
      rw [h4.1, h3.1] at e2
      have := h3.2.1
      exact nI_nec (a := nn M) (b := 0) (by omega) (by omega) (by omega) e2
    · have e5 := e_firstBroken5 c1 c2 c3 c4 w' e3 1000 (nn M) 0 (by omega) (Nat.zero_add _)
      have e6 := e_firstBroken6 c1 c2 w' 1000 (nn M) 0 (by omega) (Nat.zero_add _)
      rw [nI_0] at e5 e6
      rw [if_neg d10, e5, e6, xc_r]
      exact opI_ok (inv_thr 0 h)
/-! the digest -/
def foldN (g : Nat → Int64 → Int64) : Nat → Int64 → Int64
  | 0, a => a
  | n + 1, a => g n (foldN g n a)
/-- one number more -/
def mx (a : Int64) (x : Int32) : Int64 := a * 31 + x.toInt64
def dgC (M : PS) (i : Nat) (a : Int64) : Int64 := mx (mx a (M.2 0 i)) (M.2 1 i)
def dgS (M : PS) (i k : Nat) (a : Int64) : Int64 := mx (mx a (M.2 12 (8 * i + k))) (M.2 13 (8 * i + k))
def dgN (M : PS) (i : Nat) (a : Int64) : Int64 := foldN (dgS M i) (sn M i) (mx (mx a (M.2 7 i)) (M.2 8 i))
def dg0 (M : PS) : Int64 := mx (mx (mx (mx (foldN (dgC M) (nc M) (2759 + (M.1 1).toInt64)) (M.1 2)) (M.1 3)) (M.1 4)) (M.1 5)
def dgP (M : PS) : Int64 := foldN (dgN M) (nn M) (mx (dg0 M) (M.1 7))
theorem e_mixC {S M : PS} (hC : WC M) (hS : SC S M) : q_X0_mixInto S 89 = some (foldN (dgC M) (nc M) (2759 + (M.1 1).toInt64)) := by
  have h16 := hC.2.2.1
  unfold q_X0_mixInto q_X5_mix
  rw [ob_some, ← nI_0, hS.1]
  refine for2 (n := nc M) (fun i x => x = foldN (dgC M) i (2759 + (M.1 1).toInt64)) (fun rec i x hi hx => ?_) (fun rec x hx => ?_) 1000 0 _ (Nat.zero_le _) (by omega) ?_
  · right
    subst hx
    unfold q_X0_mixInto_L12 q_X5_mix
    rw [hS.1, hC.1, if_neg (nI_ge hi (by omega)), rd_nI _ (by omega) (by omega), ob_some, ob_some, rd_nI _ (by omega) (by omega), ob_some, (hS.2.1 i hi).1, (hS.2.1 i hi).2.1, nI_1]
    refine ⟨_, rfl, ?_⟩
    show _ = rec (dgC M i (foldN (dgC M) i _)) _
    unfold dgC mx
    rcases hC.2.2.2.2.2 i hi with e | e
    · rw [e, if_pos rfl, ob_some]
    · rw [e, if_neg d10, ob_some]
  · subst hx
    unfold q_X0_mixInto_L12
    rw [hS.1, hC.1, if_pos (nI_le (Nat.le_refl _) (by omega))]
  · show (89 : Int64) * 31 + _ = 2759 + _
    rfl
theorem l_mixP {S M : PS} (hM : WM M) (hT : SM S M) (hP : WP M) (hS : SP S M) (a : Int64) : iter2 (q_X3_mixInto_L12 S) 1000 a 0 = some (foldN (dgN M) (nn M) a) := by
  have h50 := hP.2.2.1
  rw [← nI_0]
  refine for2 (n := nn M) (fun i x => x = foldN (dgN M) i a) (fun rec i x hi hx => ?_) (fun rec x hx => ?_) 1000 0 _ (Nat.zero_le _) (by omega) rfl
  · right
    subst hx
    obtain ⟨n1, n2, -⟩ := hP.2.2.2.1 i hi
    have h8 := sn_le hM n2
    obtain ⟨p1, p2, -⟩ := hS.2.1 i hi
    unfold q_X3_mixInto_L12 q_X5_mix
    rw [hS.1, hP.1, if_neg (nI_ge hi (by omega)), rd_nI _ (by omega) (by omega), ob_some, ob_some, rd_nI _ (by omega) (by omega), ob_some, ob_some, p1, p2, ← nI_0]
    refine Exists.elim (forE2 (n := sn M i) (f := q_X3_mixInto_L46 S (nI i) rec) (e := fun y => rec y (nI (i + 1))) (fun k y => y = foldN (dgS M i) k (mx (mx (foldN (dgN M) i a) (M.2 7 i)) (M.2 8 i))) (fun rc2 k y hk hy => ?_) (fun rc2 y hy => ?_) 1000 0 _ (Nat.zero_le _) (by omega) rfl) ?_
    · subst hy
      obtain ⟨s1, s2⟩ := hS.2.2.1 i k hi hk
      unfold q_X3_mixInto_L46 q_X5_slot q_X5_mix
      rw [e_sitesAt hM hT (by omega) (by rw [p1, n1]) n2, ob_some, if_neg (nI_ge hk (by omega)), ob_some, slotN, rd_nI _ (by omega) (by omega), ob_some, ob_some, ob_some, rd_nI _ (by omega) (by omega), ob_some, ob_some, s1, s2, nI_1]
      exact ⟨_, rfl, rfl⟩
    · unfold q_X3_mixInto_L46
      rw [e_sitesAt hM hT (by omega) (by rw [p1, n1]) n2, ob_some, if_pos (nI_le (Nat.le_refl _) (by omega)), nI_1]
    · rintro y ⟨e1, e2⟩
      exact ⟨y, by rw [e1]; rfl, e2⟩
  · subst hx
    unfold q_X3_mixInto_L12
    rw [hS.1, hP.1, if_pos (nI_le (Nat.le_refl _) (by omega))]
theorem e_mixP {S M : PS} (hM : WM M) (hT : SM S M) (hP : WP M) (hS : SP S M) (a : Int64) : q_X3_mixInto S a = some (foldN (dgN M) (nn M) (mx a (M.1 7))) := by
  unfold q_X3_mixInto q_X5_mix
  rw [ob_some, hS.1]
  exact l_mixP hM hT hP hS _
theorem l_digP {M : PS} (hM : WM M) (hP : WP M) (a : Int64) : iter2 (q_X6_digest_L129 M) 1000 a 0 = some (M, foldN (dgN M) (nn M) a) := by
  have h50 := hP.2.2.1
  have h30 := hM.2.1
  rw [← nI_0]
  refine for2 (n := nn M) (fun i x => x = foldN (dgN M) i a) (fun rec i x hi hx => ?_) (fun rec x hx => ?_) 1000 0 _ (Nat.zero_le _) (by omega) rfl
  · right
    subst hx
    obtain ⟨n1, n2, -⟩ := hP.2.2.2.1 i hi
    have h8 := sn_le hM n2
    have hsi : M.2 5 (nd M i) = nI (sn M i) := (hM.2.2.1 _ n2).2.2.2.2.2.2.2.1
    unfold q_X6_digest_L129
    rw [hP.1, if_neg (nI_ge hi (by omega)), rd_nI _ (by omega) (by omega), ob_some, rd_nI _ (by omega) (by omega), ob_some, ← nI_0]
    refine Exists.elim (forE2 (n := sn M i) (f := q_X6_digest_L166 (nI i) M rec) (e := fun y => rec y (nI (i + 1))) (fun k y => y = foldN (dgS M i) k (mx (mx (foldN (dgN M) i a) (M.2 7 i)) (M.2 8 i))) (fun rc2 k y hk hy => ?_) (fun rc2 y hy => ?_) 1000 0 _ (Nat.zero_le _) (by omega) rfl) ?_
    · subst hy
      unfold q_X6_digest_L166
      rw [rd_nI _ (by omega) (by omega), ob_some, n1, rd_nI _ (by omega) (by omega), ob_some, hsi, if_neg (nI_ge hk (by omega)), slotM, rd_nI _ (by omega) (by omega), ob_some, rd_nI _ (by omega) (by omega), ob_some, nI_1]
      exact ⟨_, rfl, rfl⟩
    · unfold q_X6_digest_L166
      rw [rd_nI _ (by omega) (by omega), ob_some, n1, rd_nI _ (by omega) (by omega), ob_some, hsi, if_pos (nI_le (Nat.le_refl _) (by omega)), nI_1]
    · rintro y ⟨e1, e2⟩
      exact ⟨y, by rw [e1]; rfl, e2⟩
  · subst hx
    unfold q_X6_digest_L129
    rw [hP.1, if_pos (nI_le (Nat.le_refl _) (by omega))]
theorem l_digC {M : PS} (hC : WC M) (r : Option (PS × Int64)) (hr : (if M.1 6 = 0 then some (M, dg0 M) else iter2 (q_X6_digest_L129 M) 1000 (mx (dg0 M) (M.1 7)) 0) = r) : iter2 (q_X6_digest_L17 M) 1000 (2759 + (M.1 1).toInt64) 0 = r := by
  have h16 := hC.2.2.1
  rw [← nI_0]
  refine for2 (n := nc M) (fun i x => x = foldN (dgC M) i (2759 + (M.1 1).toInt64)) (fun rec i x hi hx => ?_) (fun rec x hx => ?_) 1000 0 _ (Nat.zero_le _) (by omega) rfl
  · right
    subst hx
    unfold q_X6_digest_L17
    have e1 : M.1 1 = nI (nc M) := hC.1
    have e0 : ¬ M.1 1 ≤ nI i := by rw [e1]; exact nI_ge hi (by omega)
    rw [if_neg e0, rd_nI _ (by omega) (by omega), ob_some, rd_nI _ (by omega) (by omega), ob_some, nI_1]
    refine ⟨_, rfl, ?_⟩
    show _ = rec (dgC M i (foldN (dgC M) i _)) _
    unfold dgC mx
    rcases hC.2.2.2.2.2 i hi with e | e
    · rw [e, if_pos rfl]; rfl
    · rw [e, if_neg d10]; rfl
  · subst hx
    unfold q_X6_digest_L17
    have e0 : M.1 1 ≤ nI (nc M) := by rw [hC.1]; exact nI_le (Nat.le_refl _) (by omega)
    rw [if_pos e0, ← hr]
    rfl
theorem e_digest5 {S M : PS} (h : INV S M) : q_X5_digest S = some (if M.1 6 = 0 then dg0 M else dgP M) := by
  obtain ⟨h1, h2, h3, h4, h5, h6, h7⟩ := h
  unfold q_X5_digest q_X1_mixInto q_X5_mix
  rw [e_mixC h1 h3, ob_some, ob_some, ob_some, ob_some, ob_some, ob_some, h4.1, h5.2.2.2.1, h5.2.2.2.2.1, h5.2.2.2.2.2]
  rcases c_plan (S := S) (M := M) ⟨h1, h2, h3, h4, h5, h6, h7⟩ with ⟨a1, a2, a3⟩ | ⟨a1, a2, a3, a4, a5⟩
  · rw [a3, ob_some, if_pos rfl, a1, if_pos rfl]; rfl
  · rw [a3, ob_some, if_neg d10, a1, if_neg d10, e_mixP h2 h4 a4 a5, ob_some]; rfl
theorem e_digest6 {S M : PS} (h : INV S M) : q_X6_digest M = some (sN M 0 0, if M.1 6 = 0 then dg0 (sN M 0 0) else dgP (sN M 0 0)) := by
  have h' := inv_thr 0 h
  unfold q_X6_digest
  rw [wN_e, ob_some]
  refine l_digC h'.1 _ ?_
  rw [show (sN M 0 0).1 6 = M.1 6 from rfl]
  rcases c_plan h with ⟨a1, a2, a3⟩ | ⟨a1, a2, a3, a4, a5⟩
  · rw [a1, if_pos rfl, if_pos rfl]
  · rw [a1, if_neg d10, if_neg d10, l_digP h'.2.1 (show WP (sN M 0 0) from a4)]; rfl
theorem c_digest {S M : PS} (h : INV S M) : ∃ v, q_X5_digest S = some v ∧ q_X6_digest M = some (sN M 0 0, v) := by
  refine ⟨_, e_digest5 (inv_thr 0 h), ?_⟩
  rw [e_digest6 h]
  rfl
