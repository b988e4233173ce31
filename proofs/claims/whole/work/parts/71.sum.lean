/-! weights: sums, and their quotient -/
def vd (M : PS) (t : Nat) : Nat := nv (M.2 12 t)
def wt (M : PS) (t : Nat) : Nat := nv (M.2 13 t)
def wsK (M : PS) (p : Nat → Bool) (i : Nat) : Nat → Nat
  | 0 => 0
  | k + 1 => wsK M p i k + (if p (vd M (8 * i + k)) = true then wt M (8 * i + k) else 0)
def wsN (M : PS) (p : Nat → Bool) : Nat → Nat
  | 0 => 0
  | i + 1 => wsN M p i + wsK M p i (sn M i)
theorem wvd {M : PS} {t : Nat} (h : Ww M t ∧ Wv M t) : M.2 13 t = nI (wt M t) ∧ 1 ≤ wt M t ∧ wt M t ≤ 1000000 ∧ M.2 12 t = nI (vd M t) ∧ vd M t ≤ 7 := by
  obtain ⟨⟨w, w1, w2, w3⟩, v, v1, v2⟩ := h
  have e1 : wt M t = w := by unfold wt; rw [w3, nv_nI (by omega)]
  have e2 : vd M t = v := by unfold vd; rw [v2, nv_nI (by omega)]
  rw [e1, e2]
  exact ⟨w3, w1, w2, v2, v1⟩
theorem e_between {S M : PS} (hM : WM M) (hT : SM S M) (hP : WP M) (hS : SP S M) {a b : Nat} (ha : a ≤ 7) (hb : b ≤ 7) : q_X3_weightBetween S (nI a) (nI b) = some (lN (wsN M (fun v => decide (a ≤ v ∧ v ≤ b)) (nn M))) := by
  have h50 := hP.2.2.1
  unfold q_X3_weightBetween
  rw [show (0 : Int64) = lN 0 from rfl, ← nI_0]
  refine for2 (n := nn M) (fun i x => x = lN (wsN M (fun v => decide (a ≤ v ∧ v ≤ b)) i)) (fun rec i x hi hx => ?_) (fun rec x hx => ?_) 1000 0 _ (Nat.zero_le _) (by omega) rfl
  · right
    subst hx
    obtain ⟨n1, n2, -⟩ := hP.2.2.2.1 i hi
    have h8 := sn_le hM n2
    unfold q_X3_weightBetween_L5
    rw [hS.1, hP.1, if_neg (nI_ge hi (by omega)), ← nI_0]
    refine Exists.elim (forE2 (n := sn M i) (f := q_X3_weightBetween_L17 S (nI a) (nI b) (nI i) rec) (e := fun y => rec y (nI (i + 1))) (fun k y => y = lN (wsN M (fun v => decide (a ≤ v ∧ v ≤ b)) i + wsK M (fun v => decide (a ≤ v ∧ v ≤ b)) i k)) (fun rc2 k y hk hy => ?_) (fun rc2 y hy => ?_) 1000 0 _ (Nat.zero_le _) (by omega) rfl) ?_
    · subst hy
      obtain ⟨w1, w2, w3, w4, w5⟩ := wvd (hP.2.2.2.2 i k hi hk)
      obtain ⟨s1, s2⟩ := hS.2.2.1 i k hi hk
      unfold q_X3_weightBetween_L17 q_X5_slot
      rw [e_sitesAt hM hT (by omega) (by rw [(hS.2.1 i hi).1, n1]) n2, ob_some, if_neg (nI_ge hk (by omega)), ob_some, slotN, rd_nI _ (by omega) (by omega), ob_some, s1, w4, nI_1]
      by_cases c1 : vd M (8 * i + k) < a
      · rw [if_pos (nI_ltc c1 (by omega))]
        refine ⟨_, ?_, rfl⟩
        show _ = lN (_ + (_ + _))
        rw [if_neg (by simp; omega)]; rfl
      · rw [if_neg (nI_nltc (by omega) (by omega)), ob_some]
        by_cases c2 : b < vd M (8 * i + k)
        · rw [if_pos (nI_ltc c2 (by omega))]
          refine ⟨_, ?_, rfl⟩
          show _ = lN (_ + (_ + _))
          rw [if_neg (by simp; omega)]; rfl
        · rw [if_neg (nI_nltc (by omega) (by omega)), rd_nI _ (by omega) (by omega), ob_some, s2, w1, nI_l (by omega), lN_add]
          refine ⟨_, ?_, rfl⟩
          show _ = lN (_ + (_ + _))
          rw [if_pos (by simp; omega), Nat.add_assoc]
    · unfold q_X3_weightBetween_L17
      rw [e_sitesAt hM hT (by omega) (by rw [(hS.2.1 i hi).1, n1]) n2, ob_some, if_pos (nI_le (Nat.le_refl _) (by omega)), nI_1]
    · rintro y ⟨e1, e2⟩
      exact ⟨y, e1, e2⟩
  · subst hx
    unfold q_X3_weightBetween_L5
    rw [hS.1, hP.1, if_pos (nI_le (Nat.le_refl _) (by omega))]
theorem e_sum {M : PS} (hM : WM M) (hP : WP M) {a : Nat} (ha : a ≤ 7) : q_X6_sum M (nI a) = some (lN (wsN M (fun v => decide (v = a)) (nn M))) := by
  have h50 := hP.2.2.1
  have h30 := hM.2.1
  unfold q_X6_sum
  rw [show (0 : Int64) = lN 0 from rfl, ← nI_0]
  refine for2 (n := nn M) (fun i x => x = lN (wsN M (fun v => decide (v = a)) i)) (fun rec i x hi hx => ?_) (fun rec x hx => ?_) 1000 0 _ (Nat.zero_le _) (by omega) rfl
  · right
    subst hx
    obtain ⟨n1, n2, -⟩ := hP.2.2.2.1 i hi
    have h8 := sn_le hM n2
    have hsi : M.2 5 (nd M i) = nI (sn M i) := (hM.2.2.1 _ n2).2.2.2.2.2.2.2.1
    unfold q_X6_sum_L5
    rw [hP.1, if_neg (nI_ge hi (by omega)), ← nI_0]
    refine Exists.elim (forE2 (n := sn M i) (f := q_X6_sum_L17 M (nI a) (nI i) rec) (e := fun y => rec y (nI (i + 1))) (fun k y => y = lN (wsN M (fun v => decide (v = a)) i + wsK M (fun v => decide (v = a)) i k)) (fun rc2 k y hk hy => ?_) (fun rc2 y hy => ?_) 1000 0 _ (Nat.zero_le _) (by omega) rfl) ?_
    · subst hy
      obtain ⟨w1, w2, w3, w4, w5⟩ := wvd (hP.2.2.2.2 i k hi hk)
      unfold q_X6_sum_L17
      rw [rd_nI _ (by omega) (by omega), ob_some, n1, rd_nI _ (by omega) (by omega), ob_some, hsi, if_neg (nI_ge hk (by omega)), slotM, rd_nI _ (by omega) (by omega), ob_some, w4, nI_1]
      by_cases c1 : vd M (8 * i + k) = a
      · rw [if_pos (by rw [c1]), rd_nI _ (by omega) (by omega), ob_some, w1, nI_l (by omega), lN_add]
        refine ⟨_, ?_, rfl⟩
        show _ = lN (_ + (_ + _))
        rw [if_pos (by simp; omega), Nat.add_assoc]
      · rw [if_neg (nI_nec c1 (by omega) (by omega)), show (0 : Int64) = lN 0 from rfl, lN_add]
        refine ⟨_, ?_, rfl⟩
        show _ = lN (_ + (_ + _))
        rw [if_neg (by simp; omega)]; rfl
    · unfold q_X6_sum_L17
      rw [rd_nI _ (by omega) (by omega), ob_some, n1, rd_nI _ (by omega) (by omega), ob_some, hsi, if_pos (nI_le (Nat.le_refl _) (by omega)), nI_1]
    · rintro y ⟨e1, e2⟩
      exact ⟨y, e1, e2⟩
  · subst hx
    unfold q_X6_sum_L5
    rw [hP.1, if_pos (nI_le (Nat.le_refl _) (by omega))]
theorem wsN_cg {M : PS} {p q : Nat → Bool} (h : ∀ v, p v = q v) (n : Nat) : wsN M p n = wsN M q n := by
  have : p = q := funext h
  rw [this]
theorem wsN_add {M : PS} {p q r : Nat → Bool} (h1 : ∀ v, r v = (p v || q v)) (h2 : ∀ v, ¬ (p v = true ∧ q v = true)) : ∀ n, wsN M r n = wsN M p n + wsN M q n := by
  have key : ∀ i k, wsK M r i k = wsK M p i k + wsK M q i k := by
    intro i k
    induction k with
    | zero => rfl
    | succ k ih =>
      show wsK M r i k + (if r (vd M (8 * i + k)) = true then wt M (8 * i + k) else 0) = wsK M p i k + (if p (vd M (8 * i + k)) = true then wt M (8 * i + k) else 0) + (wsK M q i k + (if q (vd M (8 * i + k)) = true then wt M (8 * i + k) else 0))
      have h3 := h1 (vd M (8 * i + k))
      have h4 := h2 (vd M (8 * i + k))
      rw [ih, h3]
      cases hp : p (vd M (8 * i + k)) with
      | false => simp; omega
      | true =>
        cases hq : q (vd M (8 * i + k)) with
        | false => simp; omega
        | true => exact absurd ⟨hp, hq⟩ h4
  intro n
  induction n with
  | zero => rfl
  | succ n ih =>
    show wsN M r n + wsK M r n (sn M n) = wsN M p n + wsK M p n (sn M n) + (wsN M q n + wsK M q n (sn M n))
    rw [ih, key]; omega
theorem wsN_le {M : PS} (hM : WM M) (hP : WP M) (p : Nat → Bool) : ∀ n, n ≤ nn M → wsN M p n ≤ 8000000 * n := by
  intro n
  induction n with
  | zero => intro _; exact Nat.le_refl _
  | succ n ih =>
    intro hn
    have h1 := ih (by omega)
    have h8 := sn_le hM (hP.2.2.2.1 n (by omega)).2.1
    have key : ∀ k, k ≤ sn M n → wsK M p n k ≤ 1000000 * k := by
      intro k
      induction k with
      | zero => intro _; exact Nat.le_refl _
      | succ k ih2 =>
        intro hk
        show wsK M p n k + (if p (vd M (8 * n + k)) = true then wt M (8 * n + k) else 0) ≤ _
        have h2 := ih2 (by omega)
        have h3 := (wvd (hP.2.2.2.2 n k (by omega) (by omega))).2.2.1
        by_cases h4 : p (vd M (8 * n + k)) = true
        · rw [if_pos h4]; omega
        · rw [if_neg h4]; omega
    have h2 := key _ (Nat.le_refl _)
    show wsN M p n + wsK M p n (sn M n) ≤ _
    omega
def wsX (M : PS) : Nat → Nat
  | 0 => 0
  | x + 1 => wsX M x + wsN M (fun v => decide (v = x)) (nn M)
theorem wsX_e (M : PS) : ∀ x, wsX M x = wsN M (fun v => decide (v < x)) (nn M) := by
  intro x
  induction x with
  | zero =>
    have key : ∀ i k, wsK M (fun v => decide (v < 0)) i k = 0 := by
      intro i k
      induction k with
      | zero => rfl
      | succ k ih => show wsK M (fun v => decide (v < 0)) i k + (if decide (vd M (8 * i + k) < 0) = true then _ else 0) = 0; rw [ih, if_neg (by simp)]
    have : ∀ n, wsN M (fun v => decide (v < 0)) n = 0 := by
      intro n
      induction n with
      | zero => rfl
      | succ n ih => show wsN M _ n + wsK M _ n _ = 0; rw [ih, key]
    exact (this _).symm
  | succ x ih =>
    show wsX M x + wsN M (fun v => decide (v = x)) (nn M) = _
    rw [ih, wsN_add (r := fun v => decide (v < x + 1)) (p := fun v => decide (v < x)) (q := fun v => decide (v = x)) (fun v => ?_) (fun v => ?_)]
    · by_cases h1 : v < x
      · simp [h1]; omega
      · by_cases h2 : v = x
        · simp [h2]
        · simp [h1, h2]; omega
    · simp; omega
/-! a quotient of two whole numbers is no NaN -/
theorem fp_enc {e t : Nat} (he : e ≤ 2046) (ht : t < 2 ^ 52) : FP.Core.assemble FP.Core.b64 false e t < 2047 * 2 ^ 52 ∧ FP.Core.assemble FP.Core.b64 false e t = e * 2 ^ 52 + t := by
  have : FP.Core.assemble FP.Core.b64 false e t = e * 2 ^ 52 + t := by
    show (false.toNat * 2 ^ 11 + e) * 2 ^ 52 + t = _
    rw [show false.toNat = 0 from rfl]; omega
  rw [this]
  exact ⟨by omega, rfl⟩
theorem fp_rnd {n : Nat} (h0 : 0 < n) (hn : n < 2 ^ 53) : ∃ e t, 1 ≤ e ∧ e ≤ 2046 ∧ t < 2 ^ 52 ∧ FP.Core.fromInt FP.Core.b64 (n : Int) = e * 2 ^ 52 + t := by
  have hl : n.log2 ≤ 52 := by
    have := (Nat.log2_lt (by omega)).mpr hn
    omega
  have hs := Nat.log2_self_le (by omega : n ≠ 0)
  have hlt := Nat.lt_log2_self (n := n)
  have hle : FP.Core.leading n 1 = (n.log2 : Int) := by
    have h1 : Nat.log2 1 = 0 := by decide
    show (if 1 * 2 ^ ((n.log2 : Int) - ((Nat.log2 1 : Nat) : Int)).toNat ≤ n * 2 ^ (-((n.log2 : Int) - ((Nat.log2 1 : Nat) : Int))).toNat then (n.log2 : Int) - ((Nat.log2 1 : Nat) : Int) else (n.log2 : Int) - ((Nat.log2 1 : Nat) : Int) - 1) = _
    rw [h1]
    have e1 : ((n.log2 : Int) - ((0 : Nat) : Int)).toNat = n.log2 := by omega
    have e2 : (-((n.log2 : Int) - ((0 : Nat) : Int))).toNat = 0 := by omega
    rw [e1, e2, if_pos (by omega)]
    omega
  have hq : FP.Core.quantum FP.Core.b64 n 1 0 = (n.log2 : Int) - 52 := by
    unfold FP.Core.quantum
    rw [hle]
    show max (-1074 : Int) ((n.log2 : Int) + 0 - ((53 : Nat) - 1)) = _
    omega
  have hpow : 2 ^ n.log2 * 2 ^ (52 - n.log2) = 2 ^ 52 := by rw [← Nat.pow_add]; congr 1; omega
  have hpow2 : 2 ^ (n.log2 + 1) * 2 ^ (52 - n.log2) = 2 ^ 53 := by rw [← Nat.pow_add]; congr 1; omega
  have c1 : 2 ^ 52 ≤ n * 2 ^ (52 - n.log2) := by rw [← hpow]; exact Nat.mul_le_mul_right _ hs
  have c2 : n * 2 ^ (52 - n.log2) < 2 ^ 53 := by rw [← hpow2]; exact Nat.mul_lt_mul_of_pos_right hlt (Nat.two_pow_pos _)
  have hnear : FP.Core.nearest (FP.Core.unitsNum n 0 ((n.log2 : Int) - 52)) (FP.Core.unitsDen 1 0 ((n.log2 : Int) - 52)) = n * 2 ^ (52 - n.log2) := by
    unfold FP.Core.unitsNum FP.Core.unitsDen FP.Core.nearest
    have e1 : ((0 : Int) - ((n.log2 : Int) - 52)).toNat = 52 - n.log2 := by omega
    have e2 : (((n.log2 : Int) - 52) - 0).toNat = 0 := by omega
    rw [e1, e2, Nat.pow_zero, Nat.mul_one, Nat.mod_one, Nat.div_one, if_pos (by omega)]
  refine ⟨n.log2 + 1023, n * 2 ^ (52 - n.log2) - 2 ^ 52, by omega, by omega, by omega, ?_⟩
  have hr : FP.Core.round FP.Core.b64 (FP.Core.ofInt (n : Int)) = .fin false (n * 2 ^ (52 - n.log2)) ((n.log2 : Int) - 52) := by
    show FP.Core.roundRatio FP.Core.b64 (decide ((n : Int) < 0)) (n : Int).natAbs 1 0 = _
    rw [show (n : Int).natAbs = n from rfl, decide_eq_false (by omega)]
    unfold FP.Core.roundRatio FP.Core.roundAt FP.Core.settle FP.Core.bound
    rw [if_neg (by omega), hq, hnear]
    show (if n * 2 ^ (52 - n.log2) < 2 ^ 53 then (if (n.log2 : Int) - 52 ≤ 971 then _ else _) else _) = _
    rw [if_pos c2, if_pos (by omega)]
  unfold FP.Core.fromInt
  rw [hr]
  show (if n * 2 ^ (52 - n.log2) < 2 ^ 52 then _ else FP.Core.assemble FP.Core.b64 false (((n.log2 : Int) - 52 - (-1074)).toNat + 1) (n * 2 ^ (52 - n.log2) - 2 ^ 52)) = _
  rw [if_neg (by omega)]
  have e3 : ((n.log2 : Int) - 52 - (-1074)).toNat + 1 = n.log2 + 1023 := by omega
  rw [e3, (fp_enc (by omega) (by omega)).2]
theorem fp_dec {n : Nat} (h0 : 0 < n) (hn : n < 2 ^ 53) : ∃ c q, 0 < c ∧ FP.Core.decode FP.Core.b64 (FP.Core.l2d (lN n)).toNat = .fin false c q := by
  obtain ⟨e, t, e1, e2, t1, he⟩ := fp_rnd h0 hn
  have h1 : (FP.Core.l2d (lN n)).toNat = e * 2 ^ 52 + t := by
    unfold FP.Core.l2d
    rw [pk_lT (by omega), he, UInt64.toNat_ofNat_of_lt']
    show _ < 2 ^ 64
    omega
  rw [h1]
  have f1 : FP.Core.fieldE FP.Core.b64 (e * 2 ^ 52 + t) = e := by
    show (e * 2 ^ 52 + t) / 2 ^ 52 % 2 ^ 11 = e
    omega
  have f2 : FP.Core.fieldT FP.Core.b64 (e * 2 ^ 52 + t) = t := by
    show (e * 2 ^ 52 + t) % 2 ^ 52 = t
    omega
  have f3 : FP.Core.fieldS FP.Core.b64 (e * 2 ^ 52 + t) = false := by
    show ((e * 2 ^ 52 + t) / 2 ^ 52 / 2 ^ 11 % 2 == 1) = false
    have : (e * 2 ^ 52 + t) / 2 ^ 52 / 2 ^ 11 % 2 = 0 := by omega
    rw [this]; rfl
  unfold FP.Core.decode
  rw [f1, f2, f3]
  refine ⟨2 ^ 52 + t, FP.Core.b64.qmin + ((e : Int) - 1), by omega, ?_⟩
  show (if e = 2 ^ 11 - 1 then _ else if e = 0 then _ else _) = _
  rw [if_neg (by omega), if_neg (by omega)]
  rfl
theorem fp_dec0 : FP.Core.decode FP.Core.b64 (FP.Core.l2d (lN 0)).toNat = .fin false 0 (-1074) := by decide +kernel
theorem fp_quo {c d : Nat} (hd : 0 < d) (e : Int) : FP.Core.encode FP.Core.b64 (FP.Core.roundRatio FP.Core.b64 false c d e) ≤ 2047 * 2 ^ 52 := by
  have inf : FP.Core.encode FP.Core.b64 (.inf false) ≤ 2047 * 2 ^ 52 := by decide +kernel
  have fin : ∀ (c : Nat) (q : Int), c < 2 ^ 53 → -1074 ≤ q → q ≤ 971 → FP.Core.encode FP.Core.b64 (.fin false c q) ≤ 2047 * 2 ^ 52 := by
    intro c q hc h1 h2
    show (if c < 2 ^ 52 then FP.Core.assemble FP.Core.b64 false 0 c else FP.Core.assemble FP.Core.b64 false ((q - (-1074)).toNat + 1) (c - 2 ^ 52)) ≤ _
    by_cases h3 : c < 2 ^ 52
    · rw [if_pos h3]; exact Nat.le_of_lt (fp_enc (by omega) h3).1
    · rw [if_neg h3]; exact Nat.le_of_lt (fp_enc (by omega) (by omega)).1
  have bnd : ∀ (c : Nat) (q : Int), c < 2 ^ 53 → -1074 ≤ q → FP.Core.encode FP.Core.b64 (FP.Core.bound FP.Core.b64 false c q) ≤ 2047 * 2 ^ 52 := by
    intro c q hc h1
    show FP.Core.encode FP.Core.b64 (if q ≤ 971 then .fin false c q else .inf false) ≤ _
    by_cases h2 : q ≤ 971
    · rw [if_pos h2]; exact fin c q hc h1 h2
    · rw [if_neg h2]; exact inf
  unfold FP.Core.roundRatio
  by_cases hc : c = 0
  · have z : FP.Core.encode FP.Core.b64 (.fin false 0 FP.Core.b64.qmin) ≤ 2047 * 2 ^ 52 := by decide +kernel
    rw [if_pos hc]; exact z
  · rw [if_neg hc]
    have hq : (-1074 : Int) ≤ FP.Core.quantum FP.Core.b64 c d e := Int.le_max_left _ _
    generalize FP.Core.quantum FP.Core.b64 c d e = q at hq
    unfold FP.Core.roundAt
    generalize FP.Core.nearest (FP.Core.unitsNum c e q) (FP.Core.unitsDen d e q) = m
    show FP.Core.encode FP.Core.b64 (if m < 2 ^ 53 then FP.Core.bound FP.Core.b64 false m q else FP.Core.bound FP.Core.b64 false (2 ^ 52) (q + 1)) ≤ _
    by_cases hm : m < 2 ^ 53
    · rw [if_pos hm]; exact bnd m q hm hq
    · rw [if_neg hm]; exact bnd _ _ (by decide) (by omega)
theorem ndiv_ok {a b : Nat} (ha : a < 2 ^ 53) (hb0 : 0 < b) (hb : b < 2 ^ 53) : ndiv (FP.l2d (lN a)) (FP.l2d (lN b)) = some () := by
  obtain ⟨d, r, d1, d2⟩ := fp_dec hb0 hb
  obtain ⟨c, q, c2⟩ : ∃ c q, FP.Core.decode FP.Core.b64 (FP.Core.l2d (lN a)).toNat = .fin false c q := by
    rcases Nat.eq_zero_or_pos a with h | h
    · subst h; exact ⟨_, _, fp_dec0⟩
    · obtain ⟨c, q, -, c2⟩ := fp_dec h ha
      exact ⟨c, q, c2⟩
  have key : (FP.Core.ddiv (FP.Core.l2d (lN a)) (FP.Core.l2d (lN b))).toNat ≤ 2047 * 2 ^ 52 := by
    have h1 : FP.Core.div FP.Core.b64 (FP.Core.l2d (lN a)).toNat (FP.Core.l2d (lN b)).toNat ≤ 2047 * 2 ^ 52 := by
      unfold FP.Core.div
      rw [c2, d2]
      show FP.Core.encode FP.Core.b64 (if d = 0 then _ else FP.Core.roundRatio FP.Core.b64 (false != false) c d (q - r)) ≤ _
      rw [if_neg (by omega)]
      exact fp_quo d1 _
    unfold FP.Core.ddiv
    generalize FP.Core.div FP.Core.b64 (FP.Core.l2d (lN a)).toNat (FP.Core.l2d (lN b)).toNat = m at h1
    have h2 : m < 2 ^ 64 := by omega
    rw [UInt64.toNat_ofNat_of_lt' h2]
    exact h1
  unfold ndiv
  rw [if_pos]
  rw [UInt64.le_iff_toNat_le, UInt64.toNat_and]
  have h2 : (0x7ff0000000000000 : UInt64).toNat = 2047 * 2 ^ 52 := by decide
  rw [h2]
  exact Nat.le_trans Nat.and_le_left key
/-! the answers -/
def opL (cl : Option (PS × (Nat → Int64) × Int32)) (re : Option (PS × Int64)) : Prop := ∃ S' o c M' r, cl = some (S', o, c) ∧ re = some (M', r) ∧ M'.1 0 = c ∧ (c = 0 → o 0 = r) ∧ INV S' M'
def opD (cl : Option (PS × (Nat → UInt64) × Int32)) (re : Option (PS × UInt64)) : Prop := ∃ S' o c M' r, cl = some (S', o, c) ∧ re = some (M', r) ∧ M'.1 0 = c ∧ (c = 0 → o 0 = r) ∧ INV S' M'
theorem c_weightOf {S M : PS} {ov : Nat → Int64} (h : INV S M) (x : Int32) : opL (q_L_weightOf S ov x) (q_X6_weightOf M x) := by
  unfold q_L_weightOf q_X5_weightOf q_X6_weightOf
  rcases c_plan h with ⟨h1, h2, -⟩ | ⟨h1, h2, -, h3, h4⟩
  · rw [h2, xb_l, xc_l, h1, if_pos rfl, wN_e, ob_some, sN0, if_neg d10]
    exact ⟨_, _, _, _, _, rfl, rfl, rfl, fun e => absurd e (by decide), inv_thr 1 h⟩
  · rw [h2, xb_r, h1, if_neg d10]
    by_cases hx : ¬ x < 0 ∧ x ≤ 7
    · rw [(e_isInC x 0 7).1 hx, ob_some, if_neg d10, if_neg hx.1, if_pos hx.2, wN_e, ob_some, sN0, if_pos rfl]
      obtain ⟨z, z1, z2, rfl⟩ := in_ex (a := 0) (b := 7) (by decide) (by decide) hx
      have h' := inv_thr 0 h
      have w' : WP (sN M 0 0) := h3
      rw [e_between h.2.1 h.2.2.2.1 h3 h4 z2 z2, e_sum h'.2.1 w' z2, ob_some, ob_some, xc_r]
      obtain ⟨f, f1, f2⟩ := wrL_0 ov (lN (wsN M (fun v => decide (z ≤ v ∧ v ≤ z)) (nn M)))
      rw [f1, ob_some]
      refine ⟨_, _, _, _, _, rfl, rfl, rfl, fun _ => ?_, h'⟩
      rw [f2, wsN_cg (p := fun v => decide (z ≤ v ∧ v ≤ z)) (q := fun v => decide (v = z)) (fun v => decide_eq_decide.mpr (by omega))]
      have key : ∀ n, wsN (sN M 0 0) (fun v => decide (v = z)) n = wsN M (fun v => decide (v = z)) n := by
        intro n
        have k1 : ∀ i k, wsK (sN M 0 0) (fun v => decide (v = z)) i k = wsK M (fun v => decide (v = z)) i k := by
          intro i k
          induction k with
          | zero => rfl
          | succ k ih => show wsK (sN M 0 0) _ i k + (if decide (vd M (8 * i + k) = z) = true then wt M (8 * i + k) else 0) = wsK M _ i k + (if decide (vd M (8 * i + k) = z) = true then wt M (8 * i + k) else 0); rw [ih]
        induction n with
        | zero => rfl
        | succ n ih => show wsN (sN M 0 0) _ n + wsK (sN M 0 0) _ n (sn M n) = wsN M _ n + wsK M _ n (sn M n); rw [ih, k1]
      exact congrArg lN (key (nn M)).symm
    · rw [(e_isInC x 0 7).2 hx, ob_some, if_pos rfl, wN_e, ob_some, sN0, if_neg d20]
      by_cases hn : x < 0
      · rw [if_pos hn, xc_l]
        exact ⟨_, _, _, _, _, rfl, rfl, rfl, fun e => absurd e (by decide), inv_thr 2 h⟩
      · rw [if_neg hn, if_neg (fun h5 => hx ⟨hn, h5⟩), xc_l]
        exact ⟨_, _, _, _, _, rfl, rfl, rfl, fun e => absurd e (by decide), inv_thr 2 h⟩
theorem wsN_thr (M : PS) (p : Nat → Bool) : ∀ n, wsN (sN M 0 0) p n = wsN M p n := by
  intro n
  have k1 : ∀ i k, wsK (sN M 0 0) p i k = wsK M p i k := by
    intro i k
    induction k with
    | zero => rfl
    | succ k ih => show wsK (sN M 0 0) p i k + (if p (vd M (8 * i + k)) = true then wt M (8 * i + k) else 0) = wsK M p i k + (if p (vd M (8 * i + k)) = true then wt M (8 * i + k) else 0); rw [ih]
  induction n with
  | zero => rfl
  | succ n ih => show wsN (sN M 0 0) p n + wsK (sN M 0 0) p n (sn M n) = wsN M p n + wsK M p n (sn M n); rw [ih, k1]
theorem c_share {S M : PS} {ov : Nat → UInt64} (h : INV S M) : opD (q_L_share S ov) (q_X6_share M) := by
  unfold q_L_share q_X5_share q_X6_share
  rcases c_asks h with ⟨h1, h2⟩ | ⟨h3, h4, h1, h2⟩
  · rw [h1, h2, xb_l, ob_pair, xc_l]
    exact ⟨_, _, 1, _, _, rfl, rfl, rfl, fun e => absurd e (by decide), inv_thr 1 h⟩
  · rw [h1, h2, xb_r, ob_pair]
    dsimp only
    rw [if_neg d10]
    have h' := inv_thr 0 h
    have w' : WP (sN M 0 0) := h3
    have t0 : q_X3_weightBetween S 0 7 = some (lN (wsX (sN M 0 0) 8)) := by
      have := e_between h.2.1 h.2.2.2.1 h3 h4 (a := 0) (b := 7) (by decide) (by decide)
      rw [nI_0, show nI 7 = 7 from rfl] at this
      rw [this, wsX_e, wsN_thr, wsN_cg (p := fun v => decide (0 ≤ v ∧ v ≤ 7)) (q := fun v => decide (v < 8)) (fun v => decide_eq_decide.mpr (by omega))]
      rfl
    have t1 : q_X3_weightBetween S 0 0 = some (lN (wsN (sN M 0 0) (fun v => decide (v = 0)) (nn M))) := by
      have := e_between h.2.1 h.2.2.2.1 h3 h4 (a := 0) (b := 0) (by decide) (by decide)
      rw [nI_0] at this
      rw [this, wsN_thr, wsN_cg (p := fun v => decide (0 ≤ v ∧ v ≤ 0)) (q := fun v => decide (v = 0)) (fun v => decide_eq_decide.mpr (by omega))]
    have b0 : wsX (sN M 0 0) 8 ≤ 8000000 * nn M := by
      rw [wsX_e]; exact wsN_le h'.2.1 w' _ _ (Nat.le_refl _)
    have b1 : wsN (sN M 0 0) (fun v => decide (v = 0)) (nn M) ≤ 8000000 * nn M := wsN_le h'.2.1 w' _ _ (Nat.le_refl _)
    have h50 := h3.2.2.1
    have q0 : q_X6_sum (sN M 0 0) 0 = some (lN (wsN (sN M 0 0) (fun v => decide (v = 0)) (nn M))) := by
      have := e_sum h'.2.1 w' (a := 0) (by decide)
      rw [nI_0] at this
      exact this
    clear h2
    have z0 : (sN M 0 0).1 0 = 0 := rfl
    generalize sN M 0 0 = M1 at t0 t1 b0 b1 q0 h' w' z0 ⊢
    have hsum : ∀ {a : Nat}, a ≤ 7 → q_X6_sum M1 (nI a) = some (lN (wsN M1 (fun v => decide (v = a)) (nn M1))) := fun ha => e_sum h'.2.1 w' ha
    obtain ⟨r, r1, r2⟩ : ∃ r, iter2 (q_X6_share_L13 (M1)) 1000 0 0 = some (M1, r) ∧ xb (some (.inr ())) (fun _ => (q_X3_weightBetween S 0 7).bind fun v3 => if (lg_cmp v3 0) = 0 then some (.inr FP.dconst1) else (q_X3_weightBetween S 0 0).bind fun v4 => (ndiv (FP.l2d v4) (FP.l2d v3)).bind fun _ => some (.inr (FP.ddiv (FP.l2d v4) (FP.l2d v3)))) = some (.inr r) := by
      rw [show (0 : Int64) = lN 0 from rfl, ← nI_0]
      refine ⟨if lg_cmp (lN (wsX (M1) 8)) (lN 0) = 0 then FP.dconst1 else FP.ddiv (FP.l2d (lN (wsN (M1) (fun v => decide (v = 0)) (nn M)))) (FP.l2d (lN (wsX (M1) 8))), ?_, ?_⟩
      · refine for2 (n := 8) (fun i x => x = lN (wsX (M1) i)) (fun rec i x hi hx => ?_) (fun rec x hx => ?_) 1000 0 _ (Nat.zero_le _) (by omega) rfl
        · right
          subst hx
          unfold q_X6_share_L13
          rw [show (7 : Int32) = nI 7 from rfl, if_neg (nI_nltc (by omega) (by omega)), hsum (by omega), ob_some, lN_add, nI_1]
          exact ⟨_, rfl, rfl⟩
        · subst hx
          unfold q_X6_share_L13
          rw [if_pos (by decide), show (0 : Int64) = lN 0 from rfl]
          by_cases hz : lg_cmp (lN (wsX (M1) 8)) (lN 0) = 0
          · rw [if_pos hz, if_pos hz]
          · rw [if_neg hz, if_neg hz, q0, ob_some, ndiv_ok (by omega) ?_ (by omega), ob_some]
            rcases Nat.eq_zero_or_pos (wsX (M1) 8) with e | e
            · rw [e] at hz; exact absurd (by decide) hz
            · exact e
      · rw [xb_r, nI_0, t0, ob_some]
        by_cases hz : lg_cmp (lN (wsX (M1) 8)) (lN 0) = 0
        · rw [if_pos hz, if_pos hz]
        · rw [if_neg hz, if_neg hz, t1, ob_some, ndiv_ok (by omega) ?_ (by omega), ob_some]
          rcases Nat.eq_zero_or_pos (wsX (M1) 8) with e | e
          · rw [e] at hz; exact absurd (by decide) hz
          · exact e
    rw [xb_r] at r2
    rw [r1, r2, xc_r]
    obtain ⟨f, f1, f2⟩ := wrD_0 ov r
    rw [f1, ob_some]
    exact ⟨_, _, 0, _, _, rfl, rfl, z0, fun _ => f2, h'⟩
