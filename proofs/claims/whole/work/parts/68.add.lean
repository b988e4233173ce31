/-! the calls that change classes, methods, limits -/
theorem om_cg {M M' : PS} (h2 : M'.2 2 = M.2 2) (h3 : M'.2 3 = M.2 3) (hn : M'.1 2 = M.1 2) (c s : Nat) : om M' c s = om M c s := by
  unfold om nm
  rw [hn]
  generalize nv (M.1 2) = n
  induction n with
  | zero => rfl
  | succ n ih =>
    show (if ow M' n = c ∧ na M' n = s then n + 1 else omF M' c s n) = (if ow M n = c ∧ na M n = s then n + 1 else omF M c s n)
    have e1 : ow M' n = ow M n := by unfold ow; rw [h2]
    have e2 : na M' n = na M n := by unfold na; rw [h3]
    rw [ih, e1, e2]
theorem an_cg {M M' : PS} (hC : WC M) (h : ∀ d, d < nc M → pa M' d = pa M d) {c : Nat} (hc : c < nc M) : an M' c = an M c := by
  have key : ∀ n c, c < nc M → anc M' n c = anc M n c := by
    intro n
    induction n with
    | zero => intros; rfl
    | succ n ih =>
      intro c hc
      show (if c = 0 then 1 else anc M' n (pa M' c) ||| 2 ^ c) = (if c = 0 then 1 else anc M n (pa M c) ||| 2 ^ c)
      rcases Nat.eq_zero_or_pos c with h0 | h0
      · rw [if_pos h0, if_pos h0]
      · rw [if_neg (by omega), if_neg (by omega), h c hc, ih _ (by have := (hC.2.2.2.2.1 c h0 hc).2; omega)]
  exact key c c hc
theorem nar0 : vp_nar .boolean 0 = 0 := by decide
theorem nar1 : vp_nar .boolean 1 = 1 := by decide
theorem WM_cls {M M' : PS} (hn : nc M ≤ nc M') (h2 : M'.1 2 = M.1 2) (hr : ∀ k, 2 ≤ k → k ≤ 6 → M'.2 k = M.2 k) (h : WM M) : WM M' := by
  have em : nm M' = nm M := by unfold nm; rw [h2]
  have e2 : ∀ m, ow M' m = ow M m := fun m => by unfold ow; rw [hr 2 (by decide) (by decide)]
  have e3 : ∀ m, na M' m = na M m := fun m => by unfold na; rw [hr 3 (by decide) (by decide)]
  have e4 : ∀ m, zs M' m = zs M m := fun m => by unfold zs; rw [hr 4 (by decide) (by decide)]
  have e5 : ∀ m, si M' m = si M m := fun m => by unfold si; rw [hr 5 (by decide) (by decide)]
  have e6 : ∀ m k, rc M' m k = rc M m k := fun m k => by unfold rc; rw [hr 6 (by decide) (by decide)]
  have e7 : ∀ m k, sl M' m k = sl M m k := fun m k => by unfold sl; rw [hr 6 (by decide) (by decide)]
  have e8 : ∀ m k, fq M' m k = fq M m k := fun m k => by unfold fq; rw [hr 6 (by decide) (by decide)]
  unfold WM
  rw [em, h2]
  refine ⟨h.1, h.2.1, fun m hm => ?_, fun m m' a b c d => h.2.2.2.1 m m' a b (by rw [← e2, ← e2]; exact c) (by rw [← e3, ← e3]; exact d), fun m k hm hk => ?_⟩
  · obtain ⟨a1, a2, a3⟩ := h.2.2.1 m hm
    unfold Wm
    rw [e2, e3, e4, e5, hr 2 (by decide) (by decide), hr 3 (by decide) (by decide), hr 4 (by decide) (by decide), hr 5 (by decide) (by decide)]
    exact ⟨a1, by omega, a3⟩
  · obtain ⟨a1, a2, a3⟩ := h.2.2.2.2 m k hm (by rw [← e5]; exact hk)
    unfold Ws
    rw [e6, e7, e8, hr 6 (by decide) (by decide)]
    exact ⟨a1, by omega, a3⟩
theorem SM_cls {S S' M M' : PS} (h2 : M'.1 2 = M.1 2) (hr : ∀ k, 2 ≤ k → k ≤ 6 → M'.2 k = M.2 k) (s1 : S'.1 1 = S.1 1) (sr : ∀ k, 3 ≤ k → k ≤ 8 → S'.2 k = S.2 k) (h : SM S M) : SM S' M' := by
  have em : nm M' = nm M := by unfold nm; rw [h2]
  have e5 : ∀ m, si M' m = si M m := fun m => by unfold si; rw [hr 5 (by decide) (by decide)]
  unfold SM
  rw [em, h2, s1, hr 4 (by decide) (by decide), hr 5 (by decide) (by decide), hr 6 (by decide) (by decide), sr 3 (by decide) (by decide), sr 4 (by decide) (by decide), sr 5 (by decide) (by decide), sr 6 (by decide) (by decide), sr 7 (by decide) (by decide), sr 8 (by decide) (by decide)]
  exact ⟨h.1, h.2.1, h.2.2.1, fun m k hm hk => h.2.2.2.1 m k hm (by rw [← e5]; exact hk), fun c s hc hs => by rw [om_cg (hr 2 (by decide) (by decide)) (hr 3 (by decide) (by decide)) h2]; exact h.2.2.2.2 c s hc hs⟩
theorem c_addClass {S M : PS} {ov : Nat → Int64} (h : INV S M) (x : Int32) : opI (q_L_addClass S ov x) (q_X6_addClass M x) := by
  have h' := inv_thr 0 h
  have h16 := h.1.2.2.1
  have hn : M.1 1 = nI (nc M) := h.1.1
  have hn' : (sN M 0 0).1 1 = nI (nc M) := hn
  have hs : S.1 0 = nI (nc M) := by rw [h.2.2.1.1, hn]
  unfold q_L_addClass q_X5_addClass q_X6_addClass
  rw [wN_e, ob_some]
  rcases isI_cases x (n := nc M) (by omega) with ⟨p, hp, rfl⟩ | hx
  · obtain ⟨a1, a2⟩ := (c_class h').1 (isI_nI (n := nc M) hp (by omega))
    rw [a1, a2, xb_r, ob_some, if_neg d10, hn', hs]
    by_cases hf : nc M = 16
    · rw [hf, if_neg (by decide), if_pos (by decide), no_e, xc_l]
      exact opI_thr (e := 2) (r := 0) (by decide) h'
    · rw [show (16 : Int32) = nI 16 from rfl, if_pos (nI_ltc (b := 16) (by omega) (by omega)), if_neg (nI_nec (b := 16) (by omega) (by omega) (by omega))]
      unfold q_X0_append
      rw [hs, wA_nI _ _ _ (by omega) (by omega), ob_some, rd_nI _ (by omega) (by omega), ob_some, wA_nI _ _ _ (by omega) (by omega), ob_some, wN_e, ob_some, ob_pair, xc_r]
      dsimp only
      rw [wA_nI _ _ _ (by omega) (by omega), ob_some]
      have hn2 : (sA (sN M 0 0) 0 (upd ((sN M 0 0).2 0) (nc M) (nI p))).1 1 = nI (nc M) := hn
      rw [hn2, wZ_nI _ _ _ (by omega) (by omega), ob_some]
      have hn3 : (sA (sA (sN M 0 0) 0 (upd ((sN M 0 0).2 0) (nc M) (nI p))) 1 (upd ((sA (sN M 0 0) 0 (upd ((sN M 0 0).2 0) (nc M) (nI p))).2 1) (nc M) (vp_nar .boolean 0))).1 1 = nI (nc M) := hn
      rw [hn3, wN_e, ob_some, sN0, nI_1]
      obtain ⟨f, f1, f2⟩ := wrL_0 ov ((nI (nc M)).toInt64)
      rw [f1, ob_some]
      refine ⟨_, _, _, _, _, rfl, rfl, rfl, fun _ => ?_, ?_⟩
      · rw [f2, nIm (by omega)]; rfl
      · obtain ⟨i1, i2, i3, i4, i5, i6, i7⟩ := h
        have hnc : nc (sN (sA (sA (sN M 0 0) 0 (upd ((sN M 0 0).2 0) (nc M) (nI p))) 1 (upd ((sA (sN M 0 0) 0 (upd ((sN M 0 0).2 0) (nc M) (nI p))).2 1) (nc M) (vp_nar .boolean 0))) 1 (nI (nc M + 1))) = nc M + 1 := by
          show nv (nI (nc M + 1)) = nc M + 1
          exact nv_nI (by omega)
        generalize hM' : sN (sA (sA (sN M 0 0) 0 (upd ((sN M 0 0).2 0) (nc M) (nI p))) 1 (upd ((sA (sN M 0 0) 0 (upd ((sN M 0 0).2 0) (nc M) (nI p))).2 1) (nc M) (vp_nar .boolean 0))) 1 (nI (nc M + 1)) = M' at hnc ⊢
        have r0 : M'.2 0 = upd (M.2 0) (nc M) (nI p) := by rw [← hM']; rfl
        have r1 : M'.2 1 = upd (M.2 1) (nc M) 0 := by rw [← hM', ← nar0]; rfl
        have rk : ∀ k, 2 ≤ k → M'.2 k = M.2 k := by
          intro k hk
          rw [← hM', sN_2, sA_2, if_neg (by omega), sA_2, if_neg (by omega)]
          rfl
        have n1 : M'.1 1 = nI (nc M + 1) := by rw [← hM']; rfl
        have nk : ∀ k, 2 ≤ k → M'.1 k = M.1 k := by
          intro k hk
          rw [← hM', sN_1, if_neg (by omega), sA_1, sA_1, sN_1, if_neg (by omega)]
        have rp : ∀ d, d < nc M → M'.2 0 d = M.2 0 d := fun d hd => by rw [r0, upd_e, if_neg (by omega)]
        have pp : ∀ d, d < nc M → pa M' d = pa M d := fun d hd => by unfold pa; rw [rp d hd]
        have rn : M'.2 0 (nc M) = nI p := by rw [r0, upd_e, if_pos rfl]
        have pn : pa M' (nc M) = p := by unfold pa; rw [rn, nv_nI (by omega)]
        have hC : WC M' := by
          refine ⟨by rw [hnc, n1], by omega, by omega, ?_, fun c h0 hc => ?_, fun c hc => ?_⟩
          · rw [rp 0 (by omega)]; exact i1.2.2.2.1
          · rcases Nat.lt_or_ge c (nc M) with h1 | h1
            · rw [rp c h1, pp c h1]; exact i1.2.2.2.2.1 c h0 h1
            · have : c = nc M := by omega
              subst this
              rw [rn, pn]; exact ⟨rfl, hp⟩
          · rw [r1, upd_e]
            by_cases h1 : c = nc M
            · rw [if_pos h1]; exact Or.inl rfl
            · rw [if_neg h1]; exact i1.2.2.2.2.2 c (by omega)
        refine ⟨hC, WM_cls (by omega) (nk 2 (by decide)) (fun k hk _ => rk k hk) i2, ?_, SM_cls (S := S) (M := M) (nk 2 (by decide)) (fun k hk _ => rk k hk) rfl (fun k hk hk2 => ?_) i4, ?_, PL_cg (S := S) (M := M) (nk 6 (by decide)) (nk 7 (by decide)) (fun k hk => rk k (by omega)) ?_ (fun m _ => ⟨?_, ?_⟩) rfl rfl (fun k hk _ => ?_) i6, i7⟩
        · refine ⟨?_, fun c hc => ?_, fun c hc hc2 => ?_⟩
          · rw [n1, sN0, sA_1, sA_1, hs, nI_1]
          · rw [sN_2, sA_2, sA_2, sA_2, sA_2, sA_2, sA_2, if_neg (by decide), if_pos rfl, if_neg (by decide), if_neg (by decide), if_pos rfl, if_neg (by decide), upd_e, upd_e]
            by_cases h1 : c = nc M
            · subst h1
              rw [if_pos rfl, if_pos rfl, rn, r1, upd_e, if_pos rfl, i3.2.2 _ (Nat.le_refl _) (by omega)]
              refine ⟨rfl, rfl, ?_⟩
              rw [(i3.2.1 p hp).2.2, or_bit (by omega), an_S hC (by omega) (by omega), pn, an_cg i1 pp hp]
            · have h2 : c < nc M := by omega
              rw [if_neg h1, if_neg h1, rp c h2, r1, upd_e, if_neg h1, an_cg i1 pp h2]
              exact i3.2.1 c h2
          · rw [sN_2, sA_o _ _ (by decide), sA_o _ _ (by decide)]
            exact i3.2.2 c (by omega) hc2
        · rw [sN_2, sA_o _ _ (by omega), sA_o _ _ (by omega)]
        · unfold WL
          rw [nk 3 (by decide), nk 4 (by decide), nk 5 (by decide)]
          exact i5
        · unfold nm; rw [nk 2 (by decide)]; exact Nat.le_refl _
        · unfold si; rw [rk 5 (by decide)]
        · unfold zs; rw [rk 4 (by decide)]
        · rw [sN_2, sA_o _ _ (by omega), sA_o _ _ (by omega)]
  · obtain ⟨a1, a2⟩ := (c_class h').2 hx
    rw [a1, a2, xb_l, ob_some, if_pos rfl, no_e, xc_l]
    exact opI_thr (by decide) h'
theorem e_isInC (x a b : Int32) : (¬ x < a ∧ x ≤ b → q_X6_isIn x a b = some 1) ∧ (¬ (¬ x < a ∧ x ≤ b) → q_X6_isIn x a b = some 0) := by
  unfold q_X6_isIn
  have e : b < x ↔ ¬ x ≤ b := by rw [Int32.lt_iff_toInt_lt, Int32.le_iff_toInt_le]; omega
  constructor
  · intro h; rw [if_neg h.1, if_neg (by rw [e]; exact fun h2 => h2 h.2)]
  · intro h
    by_cases h1 : x < a
    · rw [if_pos h1]
    · rw [if_neg h1, if_pos (by rw [e]; exact fun h2 => h ⟨h1, h2⟩)]
theorem in_ex {x : Int32} {a b : Nat} (hb : b < 2 ^ 31) (ha : a < 2 ^ 31) (h : ¬ x < nI a ∧ x ≤ nI b) : ∃ z, a ≤ z ∧ z ≤ b ∧ x = nI z := by
  obtain ⟨h1, h2⟩ := h
  rw [Int32.lt_iff_toInt_lt, nI_toInt ha] at h1
  rw [Int32.le_iff_toInt_le, nI_toInt hb] at h2
  refine ⟨x.toInt.toNat, by omega, by omega, ?_⟩
  apply Int32.toInt_inj.mp
  rw [nI_toInt (by omega)]
  omega
theorem c_setLive {S M : PS} {ov : Nat → Int64} (h : INV S M) (x b : Int32) (hb : b = 0 ∨ b = 1) : opZ (q_L_setLive S ov x b) (q_X6_setLive M x b) := by
  have h16 := h.1.2.2.1
  have h' := inv_thr 0 h
  unfold q_L_setLive q_X5_setLive q_X6_setLive
  rcases isI_cases x (n := nc M) (by omega) with ⟨c, hc, rfl⟩ | hx
  · obtain ⟨a1, a2⟩ := (c_class h).1 (isI_nI hc (by omega))
    rw [a1, a2, xb_r, ob_some, if_neg d10, rd_nI _ (by omega) (by omega), ob_some, wZ_nI _ _ _ (by omega) (by omega), ob_some, wN_e, ob_some, sN0, if_pos rfl, rd_nI _ (by omega) (by omega), ob_some, wZ_nI _ _ _ (by omega) (by omega), ob_some, sN_2, (h.2.2.1.2.1 c hc).2.1]
    have hnb : vp_nar .boolean b = b := by
      rcases hb with rfl | rfl
      · exact nar0
      · exact nar1
    rw [hnb]
    have key : INV (sA S 1 (upd (S.2 1) c b)) (sA (sN M 0 0) 1 (upd (M.2 1) c b)) := by
      obtain ⟨i1, i2, i3, i4, i5, i6, i7⟩ := h
      refine ⟨?_, WM_cls (M := M) (Nat.le_refl _) rfl (fun k hk hk2 => ?_) i2, ?_, SM_cls (S := S) (M := M) rfl (fun k hk hk2 => ?_) rfl (fun k hk hk2 => ?_) i4, i5, PL_cg (S := S) (M := M) rfl rfl (fun k hk => ?_) (Nat.le_refl _) (fun m _ => ⟨rfl, rfl⟩) rfl rfl (fun k hk _ => ?_) i6, i7⟩
      · refine ⟨i1.1, i1.2.1, i1.2.2.1, i1.2.2.2.1, i1.2.2.2.2.1, fun d hd => ?_⟩
        rw [sA_s, upd_e]
        by_cases h1 : d = c
        · rw [if_pos h1]; exact hb
        · rw [if_neg h1]; exact i1.2.2.2.2.2 d hd
      · rw [sA_o _ _ (by omega)]; rfl
      · refine ⟨i3.1, fun d hd => ?_, fun d hd hd2 => ?_⟩
        · rw [an_cg (M := M) (M' := sA (sN M 0 0) 1 (upd (M.2 1) c b)) i1 (fun _ _ => rfl) hd]
          show S.2 0 d = M.2 0 d ∧ upd (S.2 1) c b d = upd (M.2 1) c b d ∧ S.2 2 d = nI (an M d)
          rw [upd_e, upd_e]
          refine ⟨(i3.2.1 d hd).1, ?_, (i3.2.1 d hd).2.2⟩
          by_cases h1 : d = c
          · rw [if_pos h1, if_pos h1]
          · rw [if_neg h1, if_neg h1]; exact (i3.2.1 d hd).2.1
        · have hd : nc M ≤ d := hd
          rw [sA_s, upd_o _ _ (by omega)]
          exact i3.2.2 d hd hd2
      · rw [sA_o _ _ (by omega)]; rfl
      · rw [sA_o _ _ (by omega)]
      · rw [sA_o _ _ (by omega)]; rfl
      · rw [sA_o _ _ (by omega)]
    rcases h.1.2.2.2.2.2 c hc with e | e
    · rw [e, zg_0, ob_some, ob_some, xc_r]
      dsimp only
      rw [if_pos rfl]
      obtain ⟨f, f1, f2⟩ := wrL_0 ov 0
      rw [f1, ob_some]
      exact ⟨_, _, _, _, _, rfl, rfl, rfl, Or.inl rfl, fun _ => f2, key⟩
    · rw [e, zg_1, ob_some, ob_some, xc_r]
      dsimp only
      rw [if_neg d10]
      obtain ⟨f, f1, f2⟩ := wrL_0 ov 1
      rw [f1, ob_some]
      exact ⟨_, _, _, _, _, rfl, rfl, rfl, Or.inr rfl, fun _ => f2, key⟩
  · obtain ⟨a1, a2⟩ := (c_class h).2 hx
    rw [a1, a2, xb_l, ob_some, if_pos rfl, wN_e, ob_some, sN0, if_neg d10, xc_l]
    exact opZ_thr (by decide) (Or.inl rfl) h
/-- the planner's and the reference's limits -/
theorem c_setLimits {S M : PS} {ov : Nat → Int64} (h : INV S M) (x y w : Int32) : opZ (q_L_setLimits S ov x y w) (q_X6_setLimits M x y w) := by
  have h' := inv_thr 0 h
  have hthr : opZ (some (S, ov, 1)) (some (sN (sN M 0 0) 0 1, 0)) := opZ_thr (by decide) (Or.inl rfl) h'
  unfold q_L_setLimits q_X5_setLimits q_X6_setLimits
  rw [wN_e, ob_some]
  by_cases hx : ¬ x < 1 ∧ x ≤ 5000
  · rw [(e_isInC x 1 5000).1 hx, ob_some, if_neg d10, if_neg hx.1, if_pos hx.2]
    by_cases hy : ¬ y < 0 ∧ y ≤ 10
    · rw [(e_isInC y 0 10).1 hy, ob_some, if_neg d10, if_neg hy.1, if_pos hy.2]
      by_cases hw : ¬ w < 0 ∧ w ≤ 5
      · rw [(e_isInC w 0 5).1 hw, ob_some, if_neg d10, if_neg hw.1, if_pos hw.2]
        obtain ⟨b, b1, b2, rfl⟩ := in_ex (a := 1) (b := 5000) (by decide) (by decide) hx
        obtain ⟨d, d1, d2, rfl⟩ := in_ex (a := 0) (b := 10) (by decide) (by decide) hy
        obtain ⟨r, r1, r2, rfl⟩ := in_ex (a := 0) (b := 5) (by decide) (by decide) hw
        obtain ⟨i1, i2, i3, i4, i5, i6, i7⟩ := h
        have key : INV (sN (sN (sN (sN (sN S 5 0) 6 0) 2 (nI b)) 3 (nI d)) 4 (nI r)) (sN (sN (sN (sN (sN M 0 0) 3 (nI b)) 4 (nI d)) 5 (nI r)) 6 0) := by
          have hc : core (sN (sN (sN (sN (sN M 0 0) 3 (nI b)) 4 (nI d)) 5 (nI r)) 6 0) = core M := by
            rw [core_sN _ _ (by decide) (by decide), core_sN _ _ (by decide) (by decide), core_sN _ _ (by decide) (by decide), core_sN _ _ (by decide) (by decide), core_sN _ _ (by decide) (by decide)]
          refine ⟨(core_eq hc).2.2.2.2.2.2.1 i1, (core_eq hc).2.2.2.2.2.2.2 i2, (SC_core (S := S) (S' := S) (M := M) hc rfl i3 :), (SM_core (S := S) (S' := S) (M := M) hc rfl i4 :), ⟨⟨b, b1, b2, rfl⟩, ⟨d, d2, rfl⟩, ⟨r, r2, rfl⟩, rfl, rfl, rfl⟩, Or.inl ⟨rfl, rfl⟩, i7⟩
        have e2 : (sN M 0 0).1 3 = S.1 2 := i5.2.2.2.1.symm
        have e3 : (sN M 0 0).1 4 = S.1 3 := i5.2.2.2.2.1.symm
        have e4 : (sN M 0 0).1 5 = S.1 4 := i5.2.2.2.2.2.symm
        unfold q_X3_remove q_X1_change
        rw [wN_e, ob_some, wN_e, ob_some, ob_some, e2, e3, e4]
        have f2 : (sN (sN S 5 0) 6 0).1 2 = S.1 2 := rfl
        have f3 : (sN (sN S 5 0) 6 0).1 3 = S.1 3 := rfl
        have f4 : (sN (sN S 5 0) 6 0).1 4 = S.1 4 := rfl
        rw [f2, f3, f4]
        obtain ⟨g, g1, g2⟩ := wrL_0 ov 0
        obtain ⟨g', g3, g4⟩ := wrL_0 ov 1
        by_cases c2 : nI b = S.1 2
        · by_cases c3 : nI d = S.1 3
          · by_cases c4 : nI r = S.1 4
            · rw [if_pos c2, if_pos c3, if_pos c4, if_pos c2.symm, if_pos c3.symm, if_pos c4.symm]
              exact ⟨_, g, 0, _, 0, by simp only [wN_e, ob_some, zg_0, xc_r, g1, if_true], by simp only [wN_e, ob_some], rfl, Or.inl rfl, fun _ => g2, key⟩
            · rw [if_pos c2, if_pos c3, if_neg c4, if_pos c2.symm, if_pos c3.symm, if_neg (fun e => c4 e.symm)]
              exact ⟨_, g', 0, _, 1, by simp only [wN_e, ob_some, zg_1, xc_r, g3, if_neg d10], by simp only [wN_e, ob_some], rfl, Or.inr rfl, fun _ => g4, key⟩
          · rw [if_pos c2, if_neg c3, if_pos c2.symm, if_neg (fun e => c3 e.symm)]
            exact ⟨_, g', 0, _, 1, by simp only [wN_e, ob_some, zg_1, xc_r, g3, if_neg d10], by simp only [wN_e, ob_some], rfl, Or.inr rfl, fun _ => g4, key⟩
        · rw [if_neg c2, if_neg (fun e => c2 e.symm)]
          exact ⟨_, g', 0, _, 1, by simp only [wN_e, ob_some, zg_1, xc_r, g3, if_neg d10], by simp only [wN_e, ob_some], rfl, Or.inr rfl, fun _ => g4, key⟩
      · rw [(e_isInC w 0 5).2 hw, ob_some, if_pos rfl, no_e]
        by_cases h1 : w < 0
        · rw [if_pos h1, xc_l]; exact hthr
        · rw [if_neg h1, if_neg (fun h2 => hw ⟨h1, h2⟩), xc_l]; exact hthr
    · rw [(e_isInC y 0 10).2 hy, ob_some, if_pos rfl, no_e]
      by_cases h1 : y < 0
      · rw [if_pos h1, xc_l]; exact hthr
      · rw [if_neg h1, if_neg (fun h2 => hy ⟨h1, h2⟩), xc_l]; exact hthr
  · rw [(e_isInC x 1 5000).2 hx, ob_some, if_pos rfl, no_e]
    by_cases h1 : x < 1
    · rw [if_pos h1, xc_l]; exact hthr
    · rw [if_neg h1, if_neg (fun h2 => hx ⟨h1, h2⟩), xc_l]; exact hthr
theorem c_addMethod {S M : PS} {ov : Nat → Int64} (h : INV S M) (x y w : Int32) : opI (q_L_addMethod S ov x y w) (q_X6_addMethod M x y w) := by
  have h' := inv_thr 0 h
  have h16 := h.1.2.2.1
  have h30 := h.2.1.2.1
  unfold q_L_addMethod q_X5_addMethod q_X6_addMethod
  rw [wN_e, ob_some]
  rcases isI_cases x (n := nc M) (by omega) with ⟨c, hc, rfl⟩ | hx
  · obtain ⟨a1, a2⟩ := (c_class h').1 (isI_nI (n := nc M) hc (by omega))
    rw [a1, a2, xb_r, ob_some, if_neg d10]
    rcases isI_cases y (n := 8) (by omega) with ⟨s, hs, rfl⟩ | hy
    · obtain ⟨b1, b2⟩ := (c_selector (S := S)).1 (isI_nI hs (by omega))
      rw [b1, b2, xb_r, ob_some, if_neg d10]
      by_cases hw : ¬ w < 1 ∧ w ≤ 100
      · rw [(e_isInC w 1 100).1 hw, ob_some, if_neg d10, if_neg hw.1, if_pos hw.2, q_own h'.1 h'.2.1 (by omega) hs, ob_some, (core_eq (core_sN M (k := 0) 0 (by decide) (by decide))).2.2.2.1]
        have hle := om_le M c s
        by_cases ho : om M c s = 0
        · have hn : S.1 1 = nI (nm M) := by rw [h.2.2.2.1.1, h.2.1.1]
          have hn' : (sN M 0 0).1 2 = nI (nm M) := h.2.1.1
          rw [q_hasOwn0 h.2.2.2.1 (by omega) hs ho, ob_some, if_pos rfl, ho, nI0m, if_pos rfl, hn, hn', show (30 : Int32) = nI 30 from rfl]
          by_cases hf : nm M = 30
          · rw [hf, if_neg (by decide), if_pos rfl, no_e, xc_l]
            exact opI_thr (e := 3) (r := 0) (by decide) h'
          · rw [if_pos (nI_ltc (by omega) (by omega)), if_neg (nI_nec hf (by omega) (by omega))]
            obtain ⟨z, z1, z2, rfl⟩ := in_ex (a := 1) (b := 100) (by decide) (by decide) hw
            unfold q_X2_appendMethod
            rw [hn, wA_nI _ _ _ (by omega) (by omega), ob_some, sA_1, hn, nI_1, wN_e, ob_some, sN0, slotN, wA_nI _ _ _ (by omega) (by omega), ob_some, ob_pair, xc_r]
            dsimp only
            rw [wA_nI _ _ _ (by omega) (by omega), ob_some, sA_1, hn', wA_nI _ _ _ (by omega) (by omega), ob_some, sA_1, sA_1, hn', wA_nI _ _ _ (by omega) (by omega), ob_some, sA_1, sA_1, sA_1, hn', wA_nI _ _ _ (by omega) (by omega), ob_some, sA_1, sA_1, sA_1, sA_1, hn', nI_1, wN_e, ob_some, sN0, nI_pred]
            obtain ⟨f, f1, f2⟩ := wrL_0 ov ((nI (nm M)).toInt64)
            rw [f1, ob_some]
            refine ⟨_, _, _, _, _, rfl, rfl, rfl, fun _ => f2, ?_⟩
            obtain ⟨i1, i2, i3, i4, i5, i6, i7⟩ := h
            generalize hM' : sN (sA (sA (sA (sA (sN M 0 0) 2 _) 3 _) 4 _) 5 _) 2 _ = M'
            have r2 : M'.2 2 = upd (M.2 2) (nm M) (nI c) := by rw [← hM']; rfl
            have r3 : M'.2 3 = upd (M.2 3) (nm M) (nI s) := by rw [← hM']; rfl
            have r4 : M'.2 4 = upd (M.2 4) (nm M) (nI z) := by rw [← hM']; rfl
            have r5 : M'.2 5 = upd (M.2 5) (nm M) 0 := by rw [← hM']; rfl
            have r0 : M'.2 0 = M.2 0 := by rw [← hM']; rfl
            have r1 : M'.2 1 = M.2 1 := by rw [← hM']; rfl
            have rk : ∀ k, 6 ≤ k → M'.2 k = M.2 k := by
              intro k hk
              rw [← hM', sN_2, sA_o _ _ (by omega), sA_o _ _ (by omega), sA_o _ _ (by omega), sA_o _ _ (by omega)]; rfl
            have n2 : M'.1 2 = nI (nm M + 1) := by rw [← hM']; rfl
            have n1 : M'.1 1 = M.1 1 := by rw [← hM']; rfl
            have nk : ∀ k, 3 ≤ k → M'.1 k = M.1 k := by
              intro k hk
              rw [← hM', sN_o _ _ (by omega), sA_1, sA_1, sA_1, sA_1, sN_o _ _ (by omega)]
            have enc : nc M' = nc M := by unfold nc; rw [n1]
            have enm : nm M' = nm M + 1 := by unfold nm; rw [n2, nv_nI (by show nm M + 1 < _; omega)]; rfl
            have w2 : ∀ m, m < nm M → ow M' m = ow M m := fun m hm => by unfold ow; rw [r2, upd_o _ _ (by omega)]
            have w3 : ∀ m, m < nm M → na M' m = na M m := fun m hm => by unfold na; rw [r3, upd_o _ _ (by omega)]
            have w4 : ∀ m, m < nm M → zs M' m = zs M m := fun m hm => by unfold zs; rw [r4, upd_o _ _ (by omega)]
            have w5 : ∀ m, m < nm M → si M' m = si M m := fun m hm => by unfold si; rw [r5, upd_o _ _ (by omega)]
            have v2 : ow M' (nm M) = c := by unfold ow; rw [r2, upd_s, nv_nI (by omega)]
            have v3 : na M' (nm M) = s := by unfold na; rw [r3, upd_s, nv_nI (by omega)]
            have v4 : zs M' (nm M) = z := by unfold zs; rw [r4, upd_s, nv_nI (by omega)]
            have v5 : si M' (nm M) = 0 := by unfold si; rw [r5, upd_s]; rfl
            have w6 : ∀ m k, rc M' m k = rc M m k := fun m k => by unfold rc; rw [rk 6 (by decide)]
            have w7 : ∀ m k, sl M' m k = sl M m k := fun m k => by unfold sl; rw [rk 6 (by decide)]
            have w8 : ∀ m k, fq M' m k = fq M m k := fun m k => by unfold fq; rw [rk 6 (by decide)]
            have eom : ∀ c' s', om M' c' s' = if c = c' ∧ s = s' then nm M + 1 else om M c' s' := by
              intro c' s'
              have e1 : ∀ n, n ≤ nm M → omF M' c' s' n = omF M c' s' n := by
                intro n
                induction n with
                | zero => intro _; rfl
                | succ n ih =>
                  intro hn
                  show (if ow M' n = c' ∧ na M' n = s' then n + 1 else omF M' c' s' n) = (if ow M n = c' ∧ na M n = s' then n + 1 else omF M c' s' n)
                  rw [ih (by omega), w2 n (by omega), w3 n (by omega)]
              show omF M' c' s' (nm M') = _
              rw [enm]
              show (if ow M' (nm M) = c' ∧ na M' (nm M) = s' then nm M + 1 else omF M' c' s' (nm M)) = _
              rw [v2, v3, e1 _ (Nat.le_refl _)]
              rfl
            have fresh : ∀ m, m < nm M → ¬ (ow M m = c ∧ na M m = s) := omF_none _ ho
            refine ⟨?_, ?_, ?_, ?_, ?_, PL_cg (S := S) (M := M) (nk 6 (by decide)) (nk 7 (by decide)) (fun k hk => rk k (by omega)) (by omega) (fun m hm => ⟨w5 m hm, w4 m hm⟩) rfl rfl (fun k hk _ => ?_) i6, i7⟩
            · unfold WC
              rw [enc, n1, r0, r1]
              refine ⟨i1.1, i1.2.1, i1.2.2.1, i1.2.2.2.1, fun d h0 hd => ?_, i1.2.2.2.2.2⟩
              have : pa M' d = pa M d := by unfold pa; rw [r0]
              rw [this]; exact i1.2.2.2.2.1 d h0 hd
            · refine ⟨by rw [enm, n2], by omega, fun m hm => ?_, fun m m' hm hm' e1 e2 => ?_, fun m k hm hk => ?_⟩
              · rcases Nat.lt_or_ge m (nm M) with h1 | h1
                · unfold Wm
                  rw [w2 m h1, w3 m h1, w4 m h1, w5 m h1, r2, r3, r4, r5, upd_o _ _ (by omega), upd_o _ _ (by omega), upd_o _ _ (by omega), upd_o _ _ (by omega), enc]
                  exact i2.2.2.1 m h1
                · have : m = nm M := by omega
                  subst this
                  unfold Wm
                  rw [v2, v3, v4, v5, r2, r3, r4, r5, upd_s, upd_s, upd_s, upd_s, enc]
                  exact ⟨rfl, hc, rfl, hs, rfl, z1, z2, rfl, by omega⟩
              · rcases Nat.lt_or_ge m (nm M) with h1 | h1
                · rcases Nat.lt_or_ge m' (nm M) with h2 | h2
                  · rw [w2 m h1, w2 m' h2] at e1
                    rw [w3 m h1, w3 m' h2] at e2
                    exact i2.2.2.2.1 m m' h1 h2 e1 e2
                  · have : m' = nm M := by omega
                    subst this
                    rw [w2 m h1, v2] at e1
                    rw [w3 m h1, v3] at e2
                    exact absurd ⟨e1, e2⟩ (fresh m h1)
                · have : m = nm M := by omega
                  subst this
                  rcases Nat.lt_or_ge m' (nm M) with h2 | h2
                  · rw [w2 m' h2, v2] at e1
                    rw [w3 m' h2, v3] at e2
                    exact absurd ⟨e1.symm, e2.symm⟩ (fresh m' h2)
                  · omega
              · rcases Nat.lt_or_ge m (nm M) with h1 | h1
                · rw [w5 m h1] at hk
                  unfold Ws
                  rw [w6, w7, w8, rk 6 (by decide), enc]
                  exact i2.2.2.2.2 m k h1 hk
                · have : m = nm M := by omega
                  subst this
                  rw [v5] at hk; omega
            · refine ⟨by rw [n1]; exact i3.1, fun d hd => ?_, fun d hd hd2 => ?_⟩
              · rw [enc] at hd
                rw [an_cg (M := M) (M' := M') i1 (fun e _ => by unfold pa; rw [r0]) hd, r0, r1]
                exact i3.2.1 d hd
              · rw [enc] at hd
                exact i3.2.2 d hd hd2
            · refine ⟨by rw [n2]; rfl, fun m hm => ?_, fun m hm hm2 => ?_, fun m k hm hk => ?_, fun c' s' hc' hs' => ?_⟩
              · show (upd (S.2 3) (nm M) (nI z)) m = _ ∧ S.2 4 m = _
                rw [r4, r5]
                rcases Nat.lt_or_ge m (nm M) with h1 | h1
                · rw [upd_o _ _ (by omega), upd_o _ _ (by omega), upd_o _ _ (by omega)]
                  exact i4.2.1 m h1
                · have : m = nm M := by omega
                  subst this
                  rw [upd_s, upd_s, upd_s]
                  exact ⟨rfl, i4.2.2.1 _ (Nat.le_refl _) (by omega)⟩
              · exact i4.2.2.1 m (by omega) hm2
              · rcases Nat.lt_or_ge m (nm M) with h1 | h1
                · rw [w5 m h1] at hk
                  rw [rk 6 (by decide)]
                  exact i4.2.2.2.1 m k h1 hk
                · have : m = nm M := by omega
                  subst this
                  rw [v5] at hk; omega
              · show upd (S.2 8) (8 * c + s) (nI (nm M + 1)) (8 * c' + s') = _
                rw [eom, upd_e]
                by_cases h1 : c = c' ∧ s = s'
                · rw [if_pos h1, if_pos (by omega)]
                · rw [if_neg h1, if_neg (by omega)]
                  exact i4.2.2.2.2 c' s' hc' hs'
            · unfold WL
              rw [nk 3 (by decide), nk 4 (by decide), nk 5 (by decide)]
              exact i5
            · rw [sA_o _ _ (by omega), sN_2, sA_o _ _ (by omega)]
        · rw [q_hasOwn1 h.2.1 h.2.2.2.1 (by omega) hs ho, ob_some, if_neg d10, nIm (by omega), if_neg (nI_nm1 (by omega)), no_e, xc_l]
          exact opI_thr (e := 2) (r := 0) (by decide) h'
      · rw [(e_isInC w 1 100).2 hw, ob_some, if_pos rfl, no_e]
        have hthr : opI (some (S, ov, 2)) (some (sN (sN M 0 0) 0 2, 0)) := opI_thr (by decide) h'
        by_cases h1 : w < 1
        · rw [if_pos h1, xc_l]; exact hthr
        · rw [if_neg h1, if_neg (fun h2 => hw ⟨h1, h2⟩), xc_l]; exact hthr
    · obtain ⟨b1, b2⟩ := (c_selector (S := S)).2 hy
      rw [b1, b2, xb_l, ob_some, if_pos rfl, no_e, xc_l]
      exact opI_thr (by decide) h'
  · obtain ⟨a1, a2⟩ := (c_class h').2 hx
    rw [a1, a2, xb_l, ob_some, if_pos rfl, no_e, xc_l]
    exact opI_thr (by decide) h'
theorem call3 (a k : Nat) (j : Nat) : (3 * ((8 * nI a) + nI k)) + nI j = nI (3 * (8 * a + k) + j) := by
  rw [slotM, show (3 : Int32) = nI 3 from rfl, pk_mul, nI_add]
theorem call0 (a k : Nat) : (3 * ((8 * nI a) + nI k)) = nI (3 * (8 * a + k)) := by
  rw [slotM, show (3 : Int32) = nI 3 from rfl, pk_mul]
theorem c_addCall {S M : PS} {ov : Nat → Int64} (h : INV S M) (x y w u : Int32) : opI (q_L_addCall S ov x y w u) (q_X6_addCall M x y w u) := by
  have h' := inv_thr 0 h
  have h16 := h.1.2.2.1
  have h30 := h.2.1.2.1
  unfold q_L_addCall q_X5_addCall q_X6_addCall
  rw [wN_e, ob_some]
  rcases isI_cases x (n := nm M) (by omega) with ⟨m, hm, rfl⟩ | hx
  · obtain ⟨a1, a2⟩ := (c_methodA h').1 (isI_nI (n := nm M) hm (by omega))
    rw [a1, a2, xb_r, ob_some, if_neg d10]
    rcases isI_cases y (n := nc M) (by omega) with ⟨c, hc, rfl⟩ | hy
    · obtain ⟨b1, b2⟩ := (c_class h').1 (isI_nI (n := nc M) hc (by omega))
      rw [b1, b2, xb_r, ob_some, if_neg d10]
      rcases isI_cases w (n := 8) (by omega) with ⟨s, hs, rfl⟩ | hw
      · obtain ⟨b1, b2⟩ := (c_selector (S := S)).1 (isI_nI hs (by omega))
        rw [b1, b2, xb_r, ob_some, if_neg d10]
        by_cases hu : ¬ u < 1 ∧ u ≤ 20
        · have hsi : M.2 5 m = nI (si M m) := (h.2.1.2.2.1 m hm).2.2.2.2.2.2.2.1
          have hsi8 : si M m ≤ 8 := (h.2.1.2.2.1 m hm).2.2.2.2.2.2.2.2
          have hsS : S.2 4 m = nI (si M m) := by rw [(h.2.2.2.1.2.1 m hm).2, hsi]
          rw [(e_isInC u 1 20).1 hu, ob_some, if_neg d10, if_neg hu.1, if_pos hu.2, rd_nI _ (by omega) (by omega), ob_some, hsS, sN_2, rd_nI _ (by omega) (by omega), ob_some, hsi, show (8 : Int32) = nI 8 from rfl]
          by_cases hf : si M m = 8
          · rw [hf, if_neg (by decide), if_pos rfl, no_e, xc_l]
            exact opI_thr (e := 3) (r := 0) (by decide) h'
          · rw [if_pos (nI_ltc (by omega) (by omega)), if_neg (nI_nec hf (by omega) (by omega)), ← show (8 : Int32) = nI 8 from rfl]
            obtain ⟨z, z1, z2, rfl⟩ := in_ex (a := 1) (b := 20) (by decide) (by decide) hu
            unfold q_X3_remove q_X2_appendSite q_X5_slot
            have e0 : (sN (sN S 5 0) 6 0).2 4 = S.2 4 := rfl
            rw [wN_e, ob_some, wN_e, ob_some, ob_some, e0, rd_nI _ (by omega) (by omega), ob_some, hsS, ob_some, slotN, wA_nI _ _ _ (by omega) (by omega), ob_some, wA_nI _ _ _ (by omega) (by omega), ob_some, wA_nI _ _ _ (by omega) (by omega), ob_some]
            rw [sA_o _ _ (by decide), sA_o _ _ (by decide), sA_o _ _ (by decide), sN_2, sN_2, rd_nI (S.2 4) (by omega) (by omega), ob_some, hsS, nI_1, wA_nI _ _ _ (by omega) (by omega), ob_some, ob_pair, xc_r]
            dsimp only
            rw [ob_some, call0, nI_1, show (2 : Int32) = nI 2 from rfl, nI_add, wA_nI _ _ _ (by omega) (by omega), ob_some, wA_nI _ _ _ (by omega) (by omega), ob_some, wA_nI _ _ _ (by omega) (by omega), ob_some]
            erw [rd_nI (M.2 5) (show m < 30 by omega) (by omega)]
            rw [ob_some, hsi, nI_1, wA_nI _ _ _ (by omega) (by omega), ob_some, wN_e, ob_some, sN_2, sA_s, rd_nI _ (by omega) (by omega), ob_some, upd_s, nI_pred]
            obtain ⟨f, f1, f2⟩ := wrL_0 ov ((nI (si M m)).toInt64)
            rw [f1, ob_some]
            refine ⟨_, _, _, _, _, rfl, rfl, rfl, fun _ => f2, ?_⟩
            obtain ⟨i1, i2, i3, i4, i5, i6, i7⟩ := h
            generalize hM' : sN (sA (sA (sA (sA (sN M 0 0) 6 _) 6 _) 6 _) 5 _) 6 0 = M'
            generalize hS' : sA (sA (sA (sA (sN (sN S 5 0) 6 0) 6 _) 7 _) 5 _) 4 _ = S'
            have r6 : M'.2 6 = upd (upd (upd (M.2 6) (3 * (8 * m + si M m)) (nI c)) (3 * (8 * m + si M m) + 1) (nI s)) (3 * (8 * m + si M m) + 2) (nI z) := by rw [← hM']; rfl
            have r5 : M'.2 5 = upd (M.2 5) m (nI (si M m + 1)) := by rw [← hM']; rfl
            have rk : ∀ k, k < 5 → M'.2 k = M.2 k := by
              intro k hk
              rw [← hM', sN_2, sA_o _ _ (by omega), sA_o _ _ (by omega), sA_o _ _ (by omega), sA_o _ _ (by omega)]; rfl
            have nk : ∀ k, k < 6 → k ≠ 0 → M'.1 k = M.1 k := by
              intro k hk h0
              rw [← hM', sN_o _ _ (by omega), sA_1, sA_1, sA_1, sA_1, sN_o _ _ h0]
            have n6 : M'.1 6 = 0 := by rw [← hM']; rfl
            have t6 : S'.2 6 = upd (S.2 6) (8 * m + si M m) (nI c) := by rw [← hS']; rfl
            have t7 : S'.2 7 = upd (S.2 7) (8 * m + si M m) (nI s) := by rw [← hS']; rfl
            have t5 : S'.2 5 = upd (S.2 5) (8 * m + si M m) (nI z) := by rw [← hS']; rfl
            have t4 : S'.2 4 = upd (S.2 4) m (nI (si M m + 1)) := by rw [← hS']; rfl
            have t3 : S'.2 3 = S.2 3 := by rw [← hS']; rfl
            have t8 : S'.2 8 = S.2 8 := by rw [← hS']; rfl
            have t0 : S'.2 0 = S.2 0 := by rw [← hS']; rfl
            have t1 : S'.2 1 = S.2 1 := by rw [← hS']; rfl
            have t2 : S'.2 2 = S.2 2 := by rw [← hS']; rfl
            have u5 : S'.1 5 = 0 := by rw [← hS']; rfl
            have uk : ∀ k, k < 5 ∨ k = 7 → S'.1 k = S.1 k := by
              intro k hk
              rw [← hS', sA_1, sA_1, sA_1, sA_1, sN_o _ _ (by omega), sN_o _ _ (by omega)]
            clear hM' hS'
            have enc : nc M' = nc M := by unfold nc; rw [nk 1 (by decide) (by decide)]
            have enm : nm M' = nm M := by unfold nm; rw [nk 2 (by decide) (by decide)]
            have w2 : ∀ m, ow M' m = ow M m := fun m => by unfold ow; rw [rk 2 (by decide)]
            have w3 : ∀ m, na M' m = na M m := fun m => by unfold na; rw [rk 3 (by decide)]
            have w4 : ∀ m, zs M' m = zs M m := fun m => by unfold zs; rw [rk 4 (by decide)]
            have w5 : ∀ m', m' ≠ m → si M' m' = si M m' := fun m' h1 => by unfold si; rw [r5, upd_o _ _ h1]
            have v5 : si M' m = si M m + 1 := by unfold si; rw [r5, upd_s, nv_nI (by show si M m + 1 < _; omega)]; rfl
            have row6 : ∀ m' k j, k < 8 → j < 3 → ¬ (m' = m ∧ k = si M m) → M'.2 6 (3 * (8 * m' + k) + j) = M.2 6 (3 * (8 * m' + k) + j) := by
              intro m' k j hk hj h1
              rw [r6, upd_o _ _ (by omega), upd_o _ _ (by omega), upd_o _ _ (by omega)]
            have g0 : M'.2 6 (3 * (8 * m + si M m)) = nI c := by rw [r6, upd_o _ _ (by omega), upd_o _ _ (by omega), upd_s]
            have g1 : M'.2 6 (3 * (8 * m + si M m) + 1) = nI s := by rw [r6, upd_o _ _ (by omega), upd_s]
            have g2 : M'.2 6 (3 * (8 * m + si M m) + 2) = nI z := by rw [r6, upd_s]
            refine ⟨?_, ?_, ?_, ?_, ?_, Or.inl ⟨n6, u5⟩, by rw [uk 7 (by simp), i7]⟩
            · unfold WC
              rw [enc, nk 1 (by decide) (by decide), rk 0 (by decide), rk 1 (by decide)]
              refine ⟨i1.1, i1.2.1, i1.2.2.1, i1.2.2.2.1, fun d h0 hd => ?_, i1.2.2.2.2.2⟩
              have : pa M' d = pa M d := by unfold pa; rw [rk 0 (by decide)]
              rw [this]; exact i1.2.2.2.2.1 d h0 hd
            · refine ⟨by rw [enm, nk 2 (by decide) (by decide)]; exact i2.1, by omega, fun m' hm' => ?_, fun m' m'' hm' hm'' e1 e2 => ?_, fun m' k hm' hk => ?_⟩
              · rw [enm] at hm'
                obtain ⟨b1, b2, b3, b4, b5, b6, b7, b8, b9⟩ := i2.2.2.1 m' hm'
                unfold Wm
                rw [w2, w3, w4, rk 2 (by decide), rk 3 (by decide), rk 4 (by decide), r5, enc]
                refine ⟨b1, b2, b3, b4, b5, b6, b7, ?_⟩
                by_cases h1 : m' = m
                · subst h1
                  rw [upd_s, v5]
                  exact ⟨rfl, by omega⟩
                · rw [upd_o _ _ h1, w5 _ h1]
                  exact ⟨b8, b9⟩
              · rw [enm] at hm' hm''
                rw [w2, w2] at e1
                rw [w3, w3] at e2
                exact i2.2.2.2.1 m' m'' hm' hm'' e1 e2
              · rw [enm] at hm'
                by_cases h1 : m' = m ∧ k = si M m
                · obtain ⟨rfl, rfl⟩ := h1
                  unfold Ws rc sl fq
                  rw [g0, g1, g2, nv_nI (by omega), nv_nI (by omega), nv_nI (by omega), enc]
                  exact ⟨rfl, hc, rfl, hs, rfl, z1, z2⟩
                · have hk2 : k < si M m' := by
                    by_cases h2 : m' = m
                    · subst h2; rw [v5] at hk; omega
                    · rw [w5 _ h2] at hk; exact hk
                  have hk8 : k < 8 := by have := (i2.2.2.1 m' hm').2.2.2.2.2.2.2.2; omega
                  have e3 := row6 m' k 0 hk8 (by decide) h1
                  rw [Nat.add_zero] at e3
                  unfold Ws rc sl fq
                  rw [e3, row6 m' k 1 hk8 (by decide) h1, row6 m' k 2 hk8 (by decide) h1, enc]
                  exact i2.2.2.2.2 m' k hm' hk2
            · refine ⟨by rw [nk 1 (by decide) (by decide), uk 0 (by simp)]; exact i3.1, fun d hd => ?_, fun d hd hd2 => ?_⟩
              · rw [enc] at hd
                rw [an_cg (M := M) (M' := M') i1 (fun e _ => by unfold pa; rw [rk 0 (by decide)]) hd, rk 0 (by decide), rk 1 (by decide), t0, t1, t2]
                exact i3.2.1 d hd
              · rw [enc] at hd
                rw [t1]
                exact i3.2.2 d hd hd2
            · refine ⟨by rw [nk 2 (by decide) (by decide), uk 1 (by simp)]; exact i4.1, fun m' hm' => ?_, fun m' hm' hm2 => ?_, fun m' k hm' hk => ?_, fun c' s' hc' hs' => ?_⟩
              · rw [enm] at hm'
                rw [t3, t4, rk 4 (by decide), r5]
                refine ⟨(i4.2.1 m' hm').1, ?_⟩
                by_cases h1 : m' = m
                · subst h1; rw [upd_s, upd_s]
                · rw [upd_o _ _ h1, upd_o _ _ h1]; exact (i4.2.1 m' hm').2
              · rw [enm] at hm'
                rw [t4, upd_o _ _ (by omega)]
                exact i4.2.2.1 m' hm' hm2
              · rw [enm] at hm'
                rw [t5, t6, t7]
                by_cases h1 : m' = m ∧ k = si M m
                · obtain ⟨rfl, rfl⟩ := h1
                  rw [g0, g1, g2, upd_s, upd_s, upd_s]
                  exact ⟨rfl, rfl, rfl⟩
                · have hk2 : k < si M m' := by
                    by_cases h2 : m' = m
                    · subst h2; rw [v5] at hk; omega
                    · rw [w5 _ h2] at hk; exact hk
                  have hk8 : k < 8 := by have := (i2.2.2.1 m' hm').2.2.2.2.2.2.2.2; omega
                  have e3 := row6 m' k 0 hk8 (by decide) h1
                  rw [Nat.add_zero] at e3
                  rw [upd_o _ _ (by omega), upd_o _ _ (by omega), upd_o _ _ (by omega), e3, row6 m' k 1 hk8 (by decide) h1, row6 m' k 2 hk8 (by decide) h1]
                  exact i4.2.2.2.1 m' k hm' hk2
              · rw [t8, om_cg (M := M) (M' := M') (rk 2 (by decide)) (rk 3 (by decide)) (nk 2 (by decide) (by decide))]
                exact i4.2.2.2.2 c' s' hc' hs'
            · unfold WL
              rw [nk 3 (by decide) (by decide), nk 4 (by decide) (by decide), nk 5 (by decide) (by decide), uk 2 (by simp), uk 3 (by simp), uk 4 (by simp)]
              exact i5
        · rw [(e_isInC u 1 20).2 hu, ob_some, if_pos rfl, no_e]
          have hthr : opI (some (S, ov, 2)) (some (sN (sN M 0 0) 0 2, 0)) := opI_thr (by decide) h'
          by_cases h1 : u < 1
          · rw [if_pos h1, xc_l]; exact hthr
          · rw [if_neg h1, if_neg (fun h2 => hu ⟨h1, h2⟩), xc_l]; exact hthr
      · obtain ⟨b1, b2⟩ := (c_selector (S := S)).2 hw
        rw [b1, b2, xb_l, ob_some, if_pos rfl, no_e, xc_l]
        exact opI_thr (by decide) h'
    · obtain ⟨b1, b2⟩ := (c_class h').2 hy
      rw [b1, b2, xb_l, ob_some, if_pos rfl, no_e, xc_l]
      exact opI_thr (by decide) h'
  · obtain ⟨a1, a2⟩ := (c_methodA h').2 hx
    rw [a1, a2, xb_l, ob_some, if_pos rfl, no_e, xc_l]
    exact opI_thr (by decide) h'
