/-! plan: what holds while it grows -/
def tg (M : PS) (i k : Nat) : Nat := (tn M i k).log2
def mer (M : PS) (i k : Nat) : Nat := 1000 * wt M (8 * i + k) / zs M (tg M i k)
/-- a site that waits -/
def OPN (S M : PS) (i k : Nat) : Prop := M.2 12 (8 * i + k) = -1 ∧ dp M i < nv (M.1 4) ∧ tn M i k = 2 ^ tg M i k ∧ tg M i k < nm M ∧ S.2 15 (8 * i + k) = nI (tg M i k)
def ST (S M : PS) (i k : Nat) : Prop := Ww M (8 * i + k) ∧ SPv S M (8 * i + k) ∧ (Wv M (8 * i + k) ∨ OPN S M i k)
/-- how many sites of a node have been looked at: of the last one K -/
def dn (M : PS) (n K i : Nat) : Nat := if i + 1 = n then K else sn M i
def HR (S M : PS) : Prop := WC M ∧ WM M ∧ SC S M ∧ SM S M ∧ WL S M ∧ M.1 6 = 1 ∧ M.1 0 = 0
def WTL (S M : PS) (n K w : Nat) : Prop := wl S w ∧ (∀ j, j < w → ∃ i k, i < n ∧ k < dn M n K i ∧ M.2 12 (8 * i + k) = -1 ∧ S.2 17 j = nI (8 * i + k) ∧ S.2 18 j = nI (mer M i k)) ∧ ∀ i k, i < n → k < dn M n K i → M.2 12 (8 * i + k) = -1 → ∃ j, j < w ∧ S.2 17 j = nI (8 * i + k)
def GR (S M : PS) (n K x w : Nat) : Prop := HR S M ∧ S.1 5 = nI n ∧ M.1 7 = nI n ∧ n ≤ 50 ∧ (∀ i, i < n → Wn M i ∧ SPn S M i) ∧ (n = 0 → K = 0) ∧ (0 < n → K ≤ sn M (n - 1)) ∧ S.1 6 = nI (szF M n) ∧ (∀ i k, i < n → k < dn M n K i → ST S M i k) ∧ WTL S M n K w ∧ w + x ≤ 8 * (n - 1) + K
/-- the same classes, methods and nodes -/
def AG (M M' : PS) (n : Nat) : Prop := core M' = core M ∧ ∀ i, i < n → ∀ r, 7 ≤ r → r ≤ 10 → M'.2 r i = M.2 r i
theorem ag_si {M M' : PS} {n : Nat} (h : AG M M' n) (m : Nat) : si M' m = si M m := by unfold si; rw [core_row h.1 (by decide)]
theorem ag_zs {M M' : PS} {n : Nat} (h : AG M M' n) (m : Nat) : zs M' m = zs M m := by unfold zs; rw [core_row h.1 (by decide)]
theorem ag_nd {M M' : PS} {n i : Nat} (h : AG M M' n) (hi : i < n) : nd M' i = nd M i := by unfold nd; rw [h.2 i hi 7 (by decide) (by decide)]
theorem ag_np {M M' : PS} {n i : Nat} (h : AG M M' n) (hi : i < n) : np M' i = np M i := by unfold np; rw [h.2 i hi 8 (by decide) (by decide)]
theorem ag_ns {M M' : PS} {n i : Nat} (h : AG M M' n) (hi : i < n) : ns M' i = ns M i := by unfold ns; rw [h.2 i hi 9 (by decide) (by decide)]
theorem ag_dp {M M' : PS} {n i : Nat} (h : AG M M' n) (hi : i < n) : dp M' i = dp M i := by unfold dp; rw [h.2 i hi 10 (by decide) (by decide)]
theorem ag_sn {M M' : PS} {n i : Nat} (h : AG M M' n) (hi : i < n) : sn M' i = sn M i := by unfold sn; rw [ag_nd h hi, ag_si h]
theorem ag_tn {M M' : PS} {n i : Nat} (h : AG M M' n) (hi : i < n) (k : Nat) : tn M' i k = tn M i k := by
  unfold tn rc sl
  rw [ag_nd h hi, (core_eq h.1).2.2.2.2.2.1, core_row h.1 (by decide)]
theorem ag_tg {M M' : PS} {n i : Nat} (h : AG M M' n) (hi : i < n) (k : Nat) : tg M' i k = tg M i k := by unfold tg; rw [ag_tn h hi]
theorem ag_mer {M M' : PS} {n i k : Nat} (h : AG M M' n) (hi : i < n) (h13 : M'.2 13 (8 * i + k) = M.2 13 (8 * i + k)) : mer M' i k = mer M i k := by
  unfold mer wt
  rw [ag_tg h hi, ag_zs h, h13]
theorem ag_Wn {M M' : PS} {n i : Nat} (h : AG M M' n) (hi : i < n) (hw : Wn M i) : Wn M' i := by
  obtain ⟨a1, a2, a3, a4, a5, a6⟩ := hw
  unfold Wn
  rw [ag_nd h hi, ag_np h hi, ag_ns h hi, ag_dp h hi, (core_eq h.1).2.1, h.2 i hi 7 (by decide) (by decide), h.2 i hi 8 (by decide) (by decide), h.2 i hi 9 (by decide) (by decide), h.2 i hi 10 (by decide) (by decide)]
  refine ⟨a1, a2, a3, a4, a5, fun h0 => ?_⟩
  obtain ⟨b1, b2, b3, b4, b5⟩ := a6 h0
  rw [ag_sn h (by omega), ag_dp h (by omega)]
  exact ⟨b1, b2, b3, b4, b5⟩
theorem ag_szF {M M' : PS} {n : Nat} (h : AG M M' n) : szF M' n = szF M n := szF_cg n (fun i hi => by rw [ag_nd h hi, ag_zs h])
theorem ag_ST {S S' M M' : PS} {n i k : Nat} (h : AG M M' n) (hi : i < n) (h4 : M'.1 4 = M.1 4) (h12 : M'.2 12 (8 * i + k) = M.2 12 (8 * i + k)) (h13 : M'.2 13 (8 * i + k) = M.2 13 (8 * i + k)) (hs : ∀ r, 13 ≤ r → r ≤ 15 → S'.2 r (8 * i + k) = S.2 r (8 * i + k)) (hst : ST S M i k) : ST S' M' i k := by
  unfold ST Ww SPv Wv OPN at hst ⊢
  rw [ag_tn h hi, ag_tg h hi, ag_dp h hi, h4, h12, h13, hs 13 (by decide) (by decide), hs 14 (by decide) (by decide), hs 15 (by decide) (by decide), (core_eq h.1).2.1]
  exact hst
/-- what is looked at last -/
theorem dn_last {M : PS} {n K : Nat} (h : 0 < n) : dn M n K (n - 1) = K := by unfold dn; rw [if_pos (by omega)]
theorem dn_le {S M : PS} {n K x w i : Nat} (h : GR S M n K x w) (hi : i < n) : dn M n K i ≤ sn M i := by
  unfold dn
  by_cases h1 : i + 1 = n
  · rw [if_pos h1]
    have := h.2.2.2.2.2.2.1 (by omega)
    rw [show i = n - 1 by omega]; exact this
  · rw [if_neg h1]; exact Nat.le_refl _
theorem gr_sn {S M : PS} {n K x w i : Nat} (h : GR S M n K x w) (hi : i < n) : sn M i ≤ 8 := sn_le h.1.2.1 (h.2.2.2.2.1 i hi).1.2.1
/-! a verdict -/
def vv (M : PS) (i k : Nat) : Int32 := if tn M i k = 0 then 1 else if pcn (tn M i k) 30 ≤ 1 then (if dp M i < nv (M.1 4) then (if nI (tm M (tg M i k) i) ≤ M.1 5 then -1 else 4) else 3) else 2
theorem tn_lt {M : PS} (hC : WC M) (hM : WM M) (i k : Nat) : tn M i k < 2 ^ 30 := ts_lt hC hM _ _
theorem tn_one {M : PS} (hC : WC M) (hM : WM M) {i k : Nat} (h0 : tn M i k ≠ 0) (h1 : pcn (tn M i k) 30 ≤ 1) : tn M i k = 2 ^ tg M i k ∧ tg M i k < nm M ∧ pcn (tn M i k) 30 = 1 := by
  have hlt := tn_lt hC hM i k
  have hp : pcn (tn M i k) 30 ≠ 0 := fun e => h0 ((pcn_all0 hlt).mp e)
  obtain ⟨m, m1, m2⟩ := pcn_one hlt (by omega)
  have e : tg M i k = m := by unfold tg; rw [m2, Nat.log2_two_pow]
  refine ⟨by rw [e]; exact m2, ?_, by omega⟩
  rw [e]
  have : (ts M (rc M (nd M i) k) (sl M (nd M i) k)).testBit m = true := by
    show (tn M i k).testBit m = true
    rw [m2]; exact Nat.testBit_two_pow_self
  exact tsF_bit hC _ (Nat.le_refl _) this
theorem e_early {S M : PS} {n i k : Nat} (hr : HR S M) (hn : n ≤ 50) (hN : ∀ i, i < n → Wn M i) (hP : ∀ i, i < n → SPn S M i) (hi : i < n) : q_X3_earlyVerdict S (nI i) (nI (pcn (tn M i k) 30)) (mb (tn M i k) 0 30 0) = some (vv M i k) := by
  obtain ⟨hC, hM, -, -, ⟨-, ⟨d, d1, d2⟩, -, -, w2, w3⟩, -⟩ := hr
  have h30 := hM.2.1
  have hlt := tn_lt hC hM i k
  have hpl := pcn_le (tn M i k) 30
  unfold q_X3_earlyVerdict vv
  by_cases h0 : tn M i k = 0
  · rw [if_pos h0, (pcn_all0 hlt).mpr h0, if_pos nI_0]
  · have hp : pcn (tn M i k) 30 ≠ 0 := fun e => h0 ((pcn_all0 hlt).mp e)
    have e0 : ¬ nI (pcn (tn M i k) 30) = 0 := by rw [show (0 : Int32) = nI 0 from rfl]; exact nI_nec hp (by omega) (by omega)
    rw [if_neg h0, if_neg e0]
    by_cases h1 : pcn (tn M i k) 30 ≤ 1
    · obtain ⟨t1, t2, t3⟩ := tn_one hC hM h0 h1
      have e1 : nI (pcn (tn M i k) 30) ≤ 1 := by rw [show (1 : Int32) = nI 1 from rfl]; exact nI_lec h1 (by omega)
      have e2 : mb (tn M i k) 0 30 0 = nI (tg M i k) := by rw [t1, ← t1]; have := mb_pow (m := tg M i k) (by omega); rw [← t1] at this; exact this
      rw [if_pos h1, if_pos e1, rd_nI _ (by omega) (by omega), ob_some, (hP i hi).2.2.2, (hN i hi).2.2.1, w2, e2, e_copies hn hN hP h30 (by omega) hi, ob_some, w3, d2, nv_nI (by omega)]
      by_cases h2 : dp M i < d
      · rw [if_pos h2, if_pos (nI_ltc h2 (by omega))]
        by_cases h3 : nI (tm M (tg M i k) i) ≤ M.1 5
        · rw [if_pos h3, if_pos h3]
        · rw [if_neg h3, if_neg h3]
      · have := (hN i hi).2.2.2.1
        rw [if_neg h2, if_neg (nI_nltc (by omega) (by omega))]
    · have e1 : ¬ nI (pcn (tn M i k) 30) ≤ 1 := by rw [show (1 : Int32) = nI 1 from rfl]; exact nI_nlec (by omega) (by omega)
      rw [if_neg h1, if_neg e1]
/-- a site's weight -/
def wgt (p f : Nat) : Nat := if p * f < 1000000 then p * f else 1000000
theorem e_wgt {p f : Nat} (hp : p ≤ 1000000) (hf : f ≤ 20) : (if (nI p * nI f) < 1000000 then (nI p * nI f) else 1000000) = nI (wgt p f) := by
  have hm : p * f ≤ 1000000 * 20 := Nat.mul_le_mul hp hf
  rw [pk_mul, show (1000000 : Int32) = nI 1000000 from rfl]
  unfold wgt
  by_cases h : p * f < 1000000
  · rw [if_pos h, if_pos (nI_ltc h (by omega))]
  · rw [if_neg h, if_neg (nI_nltc (by omega) (by omega))]
theorem wgt_b {p f : Nat} (hp : 1 ≤ p) (hf : 1 ≤ f) : 1 ≤ wgt p f ∧ wgt p f ≤ 1000000 := by
  unfold wgt
  have : 1 * 1 ≤ p * f := Nat.mul_le_mul hp hf
  by_cases h : p * f < 1000000
  · rw [if_pos h]; omega
  · rw [if_neg h]; omega
theorem e_make {M : PS} {n i k p : Nat} (hC : WC M) (hM : WM M) (hd4 : ∃ d, d ≤ 10 ∧ M.1 4 = nI d) (hn : n ≤ 50) (hN : ∀ i, i < n → Wn M i) (hi : i < n) (hk : k < sn M i) (hp : p ≤ 1000000) (rec : Int32 → PS → Option PS) :
    q_X6_make_L61 (nI (nd M i)) (nI p) (nI (dp M i)) (nI i) rec (nI k) M = rec (nI (k + 1)) (sA (sA M 13 (upd (M.2 13) (8 * i + k) (nI (wgt p (fq M (nd M i) k))))) 12 (upd (M.2 12) (8 * i + k) (vv M i k))) := by
  obtain ⟨d, d1, d2⟩ := hd4
  have h30 := hM.2.1
  obtain ⟨n1, n2, n3, n4, -⟩ := hN i hi
  have h8 := sn_le hM n2
  have hsi : M.2 5 (nd M i) = nI (sn M i) := (hM.2.2.1 _ n2).2.2.2.2.2.2.2.1
  obtain ⟨-, -, -, -, f1, f2, f3⟩ := hM.2.2.2.2 (nd M i) k n2 hk
  have hlt := tn_lt hC hM i k
  have hpl := pcn_le (tn M i k) 30
  have c2 := e_call (M := M) (m := nd M i) (k := k) (j := 2) (by omega) (by omega) (by omega)
  rw [show nI 2 = 2 from rfl, f1] at c2
  have hN' : ∀ j, j < n → Wn (sA M 13 (upd (M.2 13) (8 * i + k) (nI (wgt p (fq M (nd M i) k))))) j := fun j hj => ag_Wn (n := n) ⟨core_sA _ _ (by decide), fun _ _ r _ _ => by rw [sA_o _ _ (by omega)]⟩ hj (hN j hj)
  unfold q_X6_make_L61
  rw [rd_nI _ (by omega) (by omega), ob_some, hsi, if_neg (nI_ge hk (by omega)), e_targetsOf hC hM (by omega) n1 n2 hk, ob_some, c2, ob_some, e_wgt hp f3, slotM, wA_nI _ _ _ (by omega) (by omega), ob_some, e_bits (Nat.lt_of_lt_of_le hlt (by decide)), ob_some, nI_1]
  have htm : ∀ m, m < 30 → q_X6_times (sA M 13 (upd (M.2 13) (8 * i + k) (nI (wgt p (fq M (nd M i) k))))) (nI i) (nI m) = some (nI (tm M m i)) := by
    intro m hm
    have := e_times (m := m) hn hN' (by exact h30) hm hi
    rw [this]
    have : ∀ f j, tmF (sA M 13 (upd (M.2 13) (8 * i + k) (nI (wgt p (fq M (nd M i) k))))) m f j = tmF M m f j := by
      intro f
      induction f with
      | zero => intro j; rfl
      | succ f ih => intro j; show (if nd M j = m then 1 else 0) + (if j = 0 then 0 else tmF _ m f (np M j)) = (if nd M j = m then 1 else 0) + (if j = 0 then 0 else tmF M m f (np M j)); rw [ih]
    unfold tm
    rw [this]
  have e4 : (sA M 13 (upd (M.2 13) (8 * i + k) (nI (wgt p (fq M (nd M i) k))))).1 4 = M.1 4 := rfl
  have e5 : (sA M 13 (upd (M.2 13) (8 * i + k) (nI (wgt p (fq M (nd M i) k))))).1 5 = M.1 5 := rfl
  have e12 : (sA M 13 (upd (M.2 13) (8 * i + k) (nI (wgt p (fq M (nd M i) k))))).2 12 = M.2 12 := rfl
  have hwr : ∀ v : Int32, ((wA (sA M 13 (upd (M.2 13) (8 * i + k) (nI (wgt p (fq M (nd M i) k))))) 12 400 (nI (8 * i + k)) v).bind fun S' => rec (nI (k + 1)) S') = rec (nI (k + 1)) (sA (sA M 13 (upd (M.2 13) (8 * i + k) (nI (wgt p (fq M (nd M i) k))))) 12 (upd (M.2 12) (8 * i + k) v)) := by
    intro v
    rw [wA_nI _ _ _ (by omega) (by omega), ob_some, e12]
  simp only [hwr, e4, e5, e_bits (Nat.lt_of_lt_of_le hlt (by decide)), ob_some]
  have z0 : (nI (tn M i k) = 0) = (tn M i k = 0) := by
    refine propext ⟨fun h => ?_, fun h => by rw [h]; exact nI_0⟩
    exact (nI_eq (by omega) (by omega)).mp (h.trans nI_0.symm)
  have z1 : (nI (pcn (tn M i k) 30) = 1) = (pcn (tn M i k) 30 = 1) := by
    refine propext ⟨fun h => ?_, fun h => by rw [h]; rfl⟩
    exact (nI_eq (by omega) (by omega)).mp (h.trans (show (1 : Int32) = nI 1 from rfl))
  have z2 : (nI (pcn (tn M i k) 30) ≤ 1) = (pcn (tn M i k) 30 ≤ 1) := by
    refine propext ⟨fun h => ?_, fun h => by rw [show (1 : Int32) = nI 1 from rfl]; exact nI_lec h (by omega)⟩
    rcases Nat.lt_or_ge 1 (pcn (tn M i k) 30) with h2 | h2
    · exact absurd h (by rw [show (1 : Int32) = nI 1 from rfl]; exact nI_nlec h2 (by omega))
    · exact h2
  have z3 : (nI (dp M i) < M.1 4) = (dp M i < nv (M.1 4)) := by
    rw [d2, nv_nI (by omega)]
    refine propext ⟨fun h => ?_, fun h => nI_ltc h (by omega)⟩
    rcases Nat.lt_or_ge (dp M i) d with h2 | h2
    · exact h2
    · exact absurd h (nI_nltc h2 (by omega))
  simp only [z0, z1, z2, z3]
  unfold vv
  by_cases h0 : tn M i k = 0
  · have hpc : pcn (tn M i k) 30 = 0 := (pcn_all0 hlt).mpr h0
    rw [if_neg (by omega), if_pos h0, if_pos h0]
  · rw [if_neg h0, if_neg h0, if_neg h0]
    by_cases h1 : pcn (tn M i k) 30 ≤ 1
    · obtain ⟨t1, t2, t3⟩ := tn_one hC hM h0 h1
      have e2 : q_X6_member (nI (tn M i k)) 0 = some (nI (tg M i k)) := by
        rw [e_member6 (Nat.lt_of_lt_of_le hlt (by decide))]
        have := mb_pow (m := tg M i k) (by omega)
        rw [← t1] at this
        rw [this]
      rw [if_pos t3, e2, ob_some, htm _ (by omega), ob_some]
      by_cases h2 : dp M i < nv (M.1 4)
      · simp only [if_pos h1, if_pos h2, if_neg h0]
        by_cases h3 : nI (tm M (tg M i k) i) ≤ M.1 5
        · rw [if_pos h3, if_pos h3]
        · rw [if_neg h3, if_neg h3]
      · simp only [if_pos h1, if_neg h2, if_neg h0, ite_self]
    · rw [if_neg (by omega), if_neg h1, if_neg h1]
