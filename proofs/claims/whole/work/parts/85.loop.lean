set_option maxHeartbeats 4000000 in
set_option maxRecDepth 100000 in
theorem law_loop {p : Program} {l : Launch} {e : Env} {s : State} {m : MethodId} {below : List Frame} {meth : Method} {c : Code} (hst : l.stackTraces = false) {b L : Nat} {xs : Nat → Int32} (C0 : lw_At p s m meth c b L xs) {D : va_G} {cy : Nat → ClassId} {ad am : Nat → Nat} {qo qd : Nat} (hK : va_K D vwCl (gT cy ++ []) s) (hE : gX (lA s) s) :
    ∀ (n kc ks : Nat), kc + 5 * n ≤ 601024 → ks + 80 * n ≤ 7293034 → lw_K p l e s m below meth c b D cy ad am qo qd (iter5 (q_law_b xs L) n) kc ks := by
  intro n
  induction n with
  | zero =>
    intro kc ks h1 h2 S M ov dv x5 H locs ls hP hD hS hl h
    exact (it5_0 h).elim
  | succ n ih =>
    intro kc ks h1 h2 S M ov dv x5 H locs ls hP hD hS hl h
    have K := ih (kc + 5) (ks + 80) (by omega) (by omega)
    have h : q_law_b xs L (iter5 (q_law_b xs L) n) S M ov dv x5 = some 1 := h
    generalize iter5 (q_law_b xs L) n = rec at K h
    unfold q_law_b at h
    obtain ⟨hx, hb, hr, hml, hown, hts0, hX, hbl, hlocks, hgv⟩ := id C0
    have hA : ∀ q : Nat, s.heap.size ≤ q → lA s q := fun _ h => h
    have hbA : ¬ lA s b := Nat.not_le.mpr hbl
    refine lv_iload hx hb dL_law_28 (lv_at hl 5 rfl) ?_
    refine lv_aload_n hx hb dL_law_30 rfl (lv_at hl 0 rfl) ?_
    refine va_slen hx hb hX hbl hbA hS dL_law_31 ?_
    refine lv_iconst (v := 5) hx hb dL_law_32 (by decide) ?_
    refine lv_isub hx hb dL_law_33 ?_
    refine lv_icmp_gt (tgt := 1939) hx hb dL_law_34 (by decide) (fun hc => ?_) (fun hc => ?_)
    · refine lv_iconst (v := 1) hx hb dL_law_1939 (by decide) ?_
      refine va_forget (fun q hq => hS.2.2 q hq) ?_
      refine W.widen (k := 601024) (n := 7293034) (by omega) (by omega) ?_
      refine W.base ?_
      exact lw_ret (Drawn.sameBut.refl s.drawn lw_cs) hx hb hr hlocks dL_law_1940
    · have h := o_neg hc h
      refine lv_aload_n hx hb dL_law_37 rfl (lv_at hl 0 rfl) ?_
      refine lv_iload hx hb dL_law_38 (lv_at hl 5 rfl) ?_
      obtain ⟨v, ev, h⟩ := o_bind h
      refine g_sld hx hb hX hbl hbA hS ev dL_law_40 ?_
      refine lv_bipush (v := 31) hx hb dL_law_41 (by decide) ?_
      refine lv_iand hx hb dL_law_43 ?_
      generalize v &&& 31 = x at h ⊢
      by_cases h0 : x = 0
      · have h := o_pos h0 h
        subst h0
        refine lv_tableIn (off := 140) (tgt := 184) hx hb dL_law_44 (by decide) (by decide) (by decide) (by decide) ?_
        exact law_c0 hst C0 hK hE (by omega) (by omega) K S M ov dv x5 H locs ls hP hD hS hl h
      have h := o_neg h0 h
      by_cases h1 : x = 1
      · have h := o_pos h1 h
        subst h1
        refine lv_tableIn (off := 196) (tgt := 240) hx hb dL_law_44 (by decide) (by decide) (by decide) (by decide) ?_
        exact law_c1 hst C0 hK hE (by omega) (by omega) K S M ov dv x5 H locs ls hP hD hS hl h
      have h := o_neg h1 h
      by_cases h2 : x = 2
      · have h := o_pos h2 h
        subst h2
        refine lv_tableIn (off := 287) (tgt := 331) hx hb dL_law_44 (by decide) (by decide) (by decide) (by decide) ?_
        exact law_c2 hst C0 hK hE (by omega) (by omega) K S M ov dv x5 H locs ls hP hD hS hl h
      have h := o_neg h2 h
      by_cases h3 : x = 3
      · have h := o_pos h3 h
        subst h3
        refine lv_tableIn (off := 300) (tgt := 344) hx hb dL_law_44 (by decide) (by decide) (by decide) (by decide) ?_
        exact law_c3 hst C0 hK hE (by omega) (by omega) K S M ov dv x5 H locs ls hP hD hS hl h
      have h := o_neg h3 h
      by_cases h4 : x = 4
      · have h := o_pos h4 h
        subst h4
        refine lv_tableIn (off := 356) (tgt := 400) hx hb dL_law_44 (by decide) (by decide) (by decide) (by decide) ?_
        exact law_c4 hst C0 hK hE (by omega) (by omega) K S M ov dv x5 H locs ls hP hD hS hl h
      have h := o_neg h4 h
      by_cases h5 : x = 5
      · have h := o_pos h5 h
        subst h5
        refine lv_tableIn (off := 431) (tgt := 475) hx hb dL_law_44 (by decide) (by decide) (by decide) (by decide) ?_
        exact law_c5 hst C0 hK hE (by omega) (by omega) K S M ov dv x5 H locs ls hP hD hS hl h
      have h := o_neg h5 h
      by_cases h6 : x = 6
      · have h := o_pos h6 h
        subst h6
        refine lv_tableIn (off := 487) (tgt := 531) hx hb dL_law_44 (by decide) (by decide) (by decide) (by decide) ?_
        exact law_c6 hst C0 hK hE (by omega) (by omega) K S M ov dv x5 H locs ls hP hD hS hl h
      have h := o_neg h6 h
      by_cases h7 : x = 7
      · have h := o_pos h7 h
        subst h7
        refine lv_tableIn (off := 567) (tgt := 611) hx hb dL_law_44 (by decide) (by decide) (by decide) (by decide) ?_
        exact law_c7 hst C0 hK hE (by omega) (by omega) K S M ov dv x5 H locs ls hP hD hS hl h
      have h := o_neg h7 h
      by_cases h8 : x = 8
      · have h := o_pos h8 h
        subst h8
        refine lv_tableIn (off := 659) (tgt := 703) hx hb dL_law_44 (by decide) (by decide) (by decide) (by decide) ?_
        exact law_c8 hst C0 hK hE (by omega) (by omega) K S M ov dv x5 H locs ls hP hD hS hl h
      have h := o_neg h8 h
      by_cases h9 : x = 9
      · have h := o_pos h9 h
        subst h9
        refine lv_tableIn (off := 672) (tgt := 716) hx hb dL_law_44 (by decide) (by decide) (by decide) (by decide) ?_
        exact law_c9 hst C0 hK hE (by omega) (by omega) K S M ov dv x5 H locs ls hP hD hS hl h
      have h := o_neg h9 h
      by_cases h10 : x = 10
      · have h := o_pos h10 h
        subst h10
        refine lv_tableIn (off := 740) (tgt := 784) hx hb dL_law_44 (by decide) (by decide) (by decide) (by decide) ?_
        exact law_c10 hst C0 hK hE (by omega) (by omega) K S M ov dv x5 H locs ls hP hD hS hl h
      have h := o_neg h10 h
      by_cases h11 : x = 11
      · have h := o_pos h11 h
        subst h11
        refine lv_tableIn (off := 808) (tgt := 852) hx hb dL_law_44 (by decide) (by decide) (by decide) (by decide) ?_
        exact law_c11 hst C0 hK hE (by omega) (by omega) K S M ov dv x5 H locs ls hP hD hS hl h
      have h := o_neg h11 h
      by_cases h12 : x = 12
      · have h := o_pos h12 h
        subst h12
        refine lv_tableIn (off := 888) (tgt := 932) hx hb dL_law_44 (by decide) (by decide) (by decide) (by decide) ?_
        exact law_c12 hst C0 hK hE (by omega) (by omega) K S M ov dv x5 H locs ls hP hD hS hl h
      have h := o_neg h12 h
      by_cases h13 : x = 13
      · have h := o_pos h13 h
        subst h13
        refine lv_tableIn (off := 944) (tgt := 988) hx hb dL_law_44 (by decide) (by decide) (by decide) (by decide) ?_
        exact law_c13 hst C0 hK hE (by omega) (by omega) K S M ov dv x5 H locs ls hP hD hS hl h
      have h := o_neg h13 h
      by_cases h14 : x = 14
      · have h := o_pos h14 h
        subst h14
        refine lv_tableIn (off := 1031) (tgt := 1075) hx hb dL_law_44 (by decide) (by decide) (by decide) (by decide) ?_
        exact law_c14 hst C0 hK hE (by omega) (by omega) K S M ov dv x5 H locs ls hP hD hS hl h
      have h := o_neg h14 h
      by_cases h15 : x = 15
      · have h := o_pos h15 h
        subst h15
        refine lv_tableIn (off := 1087) (tgt := 1131) hx hb dL_law_44 (by decide) (by decide) (by decide) (by decide) ?_
        exact law_c15 hst C0 hK hE (by omega) (by omega) K S M ov dv x5 H locs ls hP hD hS hl h
      have h := o_neg h15 h
      by_cases h16 : x = 16
      · have h := o_pos h16 h
        subst h16
        refine lv_tableIn (off := 1100) (tgt := 1144) hx hb dL_law_44 (by decide) (by decide) (by decide) (by decide) ?_
        exact law_c16 hst C0 hK hE (by omega) (by omega) K S M ov dv x5 H locs ls hP hD hS hl h
      have h := o_neg h16 h
      by_cases h17 : x = 17
      · have h := o_pos h17 h
        subst h17
        refine lv_tableIn (off := 1144) (tgt := 1188) hx hb dL_law_44 (by decide) (by decide) (by decide) (by decide) ?_
        exact law_c17 hst C0 hK hE (by omega) (by omega) K S M ov dv x5 H locs ls hP hD hS hl h
      have h := o_neg h17 h
      by_cases h18 : x = 18
      · have h := o_pos h18 h
        subst h18
        refine lv_tableIn (off := 1188) (tgt := 1232) hx hb dL_law_44 (by decide) (by decide) (by decide) (by decide) ?_
        exact law_c18 hst C0 hK hE (by omega) (by omega) K S M ov dv x5 H locs ls hP hD hS hl h
      have h := o_neg h18 h
      by_cases h19 : x = 19
      · have h := o_pos h19 h
        subst h19
        refine lv_tableIn (off := 1244) (tgt := 1288) hx hb dL_law_44 (by decide) (by decide) (by decide) (by decide) ?_
        exact law_c19 hst C0 hK hE (by omega) (by omega) K S M ov dv x5 H locs ls hP hD hS hl h
      have h := o_neg h19 h
      by_cases h20 : x = 20
      · have h := o_pos h20 h
        subst h20
        refine lv_tableIn (off := 1300) (tgt := 1344) hx hb dL_law_44 (by decide) (by decide) (by decide) (by decide) ?_
        exact law_c20 hst C0 hK hE (by omega) (by omega) K S M ov dv x5 H locs ls hP hD hS hl h
      have h := o_neg h20 h
      by_cases h21 : x = 21
      · have h := o_pos h21 h
        subst h21
        refine lv_tableIn (off := 1356) (tgt := 1400) hx hb dL_law_44 (by decide) (by decide) (by decide) (by decide) ?_
        exact law_c21 hst C0 hK hE (by omega) (by omega) K S M ov dv x5 H locs ls hP hD hS hl h
      have h := o_neg h21 h
      by_cases h22 : x = 22
      · have h := o_pos h22 h
        subst h22
        refine lv_tableIn (off := 1412) (tgt := 1456) hx hb dL_law_44 (by decide) (by decide) (by decide) (by decide) ?_
        exact law_c22 hst C0 hK hE (by omega) (by omega) K S M ov dv x5 H locs ls hP hD hS hl h
      have h := o_neg h22 h
      by_cases h23 : x = 23
      · have h := o_pos h23 h
        subst h23
        refine lv_tableIn (off := 1468) (tgt := 1512) hx hb dL_law_44 (by decide) (by decide) (by decide) (by decide) ?_
        exact law_c23 hst C0 hK hE (by omega) (by omega) K S M ov dv x5 H locs ls hP hD hS hl h
      have h := o_neg h23 h
      by_cases h24 : x = 24
      · have h := o_pos h24 h
        subst h24
        refine lv_tableIn (off := 1536) (tgt := 1580) hx hb dL_law_44 (by decide) (by decide) (by decide) (by decide) ?_
        exact law_c24 hst C0 hK hE (by omega) (by omega) K S M ov dv x5 H locs ls hP hD hS hl h
      have h := o_neg h24 h
      by_cases h25 : x = 25
      · have h := o_pos h25 h
        subst h25
        refine lv_tableIn (off := 1604) (tgt := 1648) hx hb dL_law_44 (by decide) (by decide) (by decide) (by decide) ?_
        exact law_c25 hst C0 hK hE (by omega) (by omega) K S M ov dv x5 H locs ls hP hD hS hl h
      have h := o_neg h25 h
      by_cases h26 : x = 26
      · have h := o_pos h26 h
        subst h26
        refine lv_tableIn (off := 1659) (tgt := 1703) hx hb dL_law_44 (by decide) (by decide) (by decide) (by decide) ?_
        exact law_c26 hst C0 hK hE (by omega) (by omega) K S M ov dv x5 H locs ls hP hD hS hl h
      have h := o_neg h26 h
      by_cases h27 : x = 27
      · have h := o_pos h27 h
        subst h27
        refine lv_tableIn (off := 1724) (tgt := 1768) hx hb dL_law_44 (by decide) (by decide) (by decide) (by decide) ?_
        exact law_c27 hst C0 hK hE (by omega) (by omega) K S M ov dv x5 H locs ls hP hD hS hl h
      have h := o_neg h27 h
      by_cases h28 : x = 28
      · have h := o_pos h28 h
        subst h28
        refine lv_tableIn (off := 1787) (tgt := 1831) hx hb dL_law_44 (by decide) (by decide) (by decide) (by decide) ?_
        exact law_c28 hst C0 hK hE (by omega) (by omega) K S M ov dv x5 H locs ls hP hD hS hl h
      have h := o_neg h28 h
      by_cases h29 : x = 29
      · have h := o_pos h29 h
        subst h29
        refine lv_tableIn (off := 1831) (tgt := 1875) hx hb dL_law_44 (by decide) (by decide) (by decide) (by decide) ?_
        exact law_c29 hst C0 hK hE (by omega) (by omega) K S M ov dv x5 H locs ls hP hD hS hl h
      have h := o_neg h29 h
      by_cases h30 : x = 30
      · have h := o_pos h30 h
        subst h30
        refine lv_tableIn (off := 1875) (tgt := 1919) hx hb dL_law_44 (by decide) (by decide) (by decide) (by decide) ?_
        exact law_c30 hst C0 hK hE (by omega) (by omega) K S M ov dv x5 H locs ls hP hD hS hl h
      have h := o_neg h30 h
      by_cases h31 : x = 31
      · have h := o_pos h31 h
        subst h31
        refine lv_tableOut (tgt := 1933) hx hb dL_law_44 (by decide) (by decide) ?_
        refine lv_iinc (v := (x5 + 5)) (lv' := [(5, .int (x5 + 5)), (0, .ref b), (1, .ref (ad 0)), (2, .ref (am 0)), (3, .ref qo), (4, .ref qd)]) hx hb dL_law_1933 hl (k := 5) rfl rfl (by decide) rfl (fun ls hl => ?_)
        refine lv_goto (tgt := 28) hx hb dL_law_1936 (by decide) ?_
        refine W.widen (k := kc + 5) (n := ks + 80) (by omega) (by omega) ?_
        exact K S M ov dv (x5 + 5) _ _ ls hP hD hS (lv_sub hl [1, 2, 3, 4, 5, 0] rfl) h
      have h := o_neg h31 h
      cases h
