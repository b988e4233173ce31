set_option maxHeartbeats 4000000 in
set_option maxRecDepth 100000 in
theorem m_X6_targetsOf (l : Launch) (hst : l.stackTraces = false) (D : va_G) (cy : Nat → ClassId) (tx : List (ClassId × FieldType)) (ad : Nat → Nat) (R : va_W) (sz : Nat) (S : PS) (x1 : Int32) (x2 : Int32) (v : Int32) (h : q_X6_targetsOf S x1 x2 = some v) : gMi l yX6_targetsOf wsX6_targetsOf ({ frames := 3, cells := 0, slots := 0, locals := 71 }) 0 0 D (gT cy ++ tx) [.ref (ad 0), .int x1, .int x2] sz (mW cy ad S R) (mW cy ad S R) v := by
  refine Met.ofW (cc := cX6_targetsOf) (maxL := 3) (ret := (some .int)) (by decide) rfl ?_
  intro p e s m args below meth c s₁ B hml hv
  obtain ⟨hav, hsz, hP, hK, hD0, hE⟩ := hv
  have hx := B.exec
  have hb := B.bytes
  have hr := B.returns
  have hts := atoms_spec (ws := wsX6_targetsOf) B.pre
  have hown : s.vm.findClass RX6 = some m.cls := findClass_of_methodNamed B.named
  have hlocks := B.notSynchronized
  subst hsz
  have hD := hD0.self (sz := s.heap.size)
  generalize hAe : va_A (mW cy ad S R) s.heap.size = A at hD hE ⊢
  have hA : ∀ q : Nat, s.heap.size ≤ q → A q := fun q h => by rw [← hAe]; exact Or.inr h
  have hS : va_S A s.heap s.heap [] := va_S.rf
  have iX6 : ∀ w ∈ u_ws RX6 TX6 22, w ∈ wsX6_targetsOf := by decide +kernel
  have hf45 := hts (.fieldLink RX6 45 "InlinePlannerModel" "nodeMethods" "[I") (by decide +kernel)
  refine g_entry (n := 3) hav (Nat.le_of_ble_eq_true rfl) (fun ls hl => ?_)
  have hl : lv_has ls 3 [(0, .ref (ad 0)), (1, .int x1), (2, .int x2)] := hl
  refine g_nameQ (fun Q hQ => ?_)
  unfold q_X6_targetsOf at h
  refine lv_aload_n hx hb dX6_targetsOf_0 rfl (lv_at hl 0 rfl) ?_
  refine lv_aload_n hx hb dX6_targetsOf_1 rfl (lv_at hl 0 rfl) ?_
  refine lv_aload_n hx hb dX6_targetsOf_2 rfl (lv_at hl 0 rfl) ?_
  refine mgX6_15 hx hb hts iX6 hown hK hP hf45 dX6_targetsOf_3 ?_
  refine lv_iload_n hx hb dX6_targetsOf_6 rfl (lv_at hl 1 rfl) ?_
  obtain ⟨v1, ev1, h⟩ := o_bind h
  refine mld7 hx hb hK hP ev1 dX6_targetsOf_7 ?_
  refine lv_iload_n hx hb dX6_targetsOf_8 rfl (lv_at hl 2 rfl) ?_
  refine lv_iconst (v := 0) hx hb dX6_targetsOf_9 (by decide) ?_
  obtain ⟨v2, ev2, h⟩ := o_bind h
  refine g_cVi (As := [.int v1, .int x2, .int 0]) (rest := [.ref (ad 0)]) ⟨hx, hb, hml, hown, hts⟩ (m_X6_call l hst D cy tx ad R _ S v1 x2 0 v2 ev2) (cwV 3 hts gX6_targetsOf_X6_call rfl rfl rfl (by decide +kernel) ⟨Nat.le_of_ble_eq_true rfl, Nat.le_of_ble_eq_true rfl⟩) (va_recv hK hP (ci := 6) (q0 := 0) rfl rfl) hP hK hD hS hA hE rfl hl.1 rfl (Nat.le_of_ble_eq_true rfl) dX6_targetsOf_10 ⟨Nat.le_of_ble_eq_true rfl, Nat.le_of_ble_eq_true rfl⟩ (fun H locs hP hD hS => ?_)
  refine lv_aload_n hx hb dX6_targetsOf_13 rfl (lv_at hl 0 rfl) ?_
  refine lv_aload_n hx hb dX6_targetsOf_14 rfl (lv_at hl 0 rfl) ?_
  refine mgX6_15 hx hb hts iX6 hown hK hP hf45 dX6_targetsOf_15 ?_
  refine lv_iload_n hx hb dX6_targetsOf_18 rfl (lv_at hl 1 rfl) ?_
  obtain ⟨v3, ev3, h⟩ := o_bind h
  refine mld7 hx hb hK hP ev3 dX6_targetsOf_19 ?_
  refine lv_iload_n hx hb dX6_targetsOf_20 rfl (lv_at hl 2 rfl) ?_
  refine lv_iconst (v := 1) hx hb dX6_targetsOf_21 (by decide) ?_
  obtain ⟨v4, ev4, h⟩ := o_bind h
  refine g_cVi (As := [.int v3, .int x2, .int 1]) (rest := [.int v2, .ref (ad 0)]) ⟨hx, hb, hml, hown, hts⟩ (m_X6_call l hst D cy tx ad R _ S v3 x2 1 v4 ev4) (cwV 3 hts gX6_targetsOf_X6_call rfl rfl rfl (by decide +kernel) ⟨Nat.le_of_ble_eq_true rfl, Nat.le_of_ble_eq_true rfl⟩) (va_recv hK hP (ci := 6) (q0 := 0) rfl rfl) hP hK hD hS hA hE rfl hl.1 rfl (Nat.le_of_ble_eq_true rfl) dX6_targetsOf_22 ⟨Nat.le_of_ble_eq_true rfl, Nat.le_of_ble_eq_true rfl⟩ (fun H locs hP hD hS => ?_)
  obtain ⟨v5, ev5, h⟩ := o_bind h
  refine g_cVi (As := [.int v2, .int v4]) (rest := []) ⟨hx, hb, hml, hown, hts⟩ (m_X6_targets l hst D cy tx ad R _ S v2 v4 v5 ev5) (cwV 2 hts gX6_targetsOf_X6_targets rfl rfl rfl (by decide +kernel) ⟨Nat.le_of_ble_eq_true rfl, Nat.le_of_ble_eq_true rfl⟩) (va_recv hK hP (ci := 6) (q0 := 0) rfl rfl) hP hK hD hS hA hE rfl hl.1 rfl (Nat.le_of_ble_eq_true rfl) dX6_targetsOf_25 ⟨Nat.le_of_ble_eq_true rfl, Nat.le_of_ble_eq_true rfl⟩ (fun H locs hP hD hS => ?_)
  exact g_iret hQ hx hb hr hP hK hD hS (Nat.le_of_ble_eq_true rfl) (Nat.le_of_ble_eq_true rfl) dX6_targetsOf_28 hlocks (Option.some.inj h)
set_option maxHeartbeats 4000000 in
set_option maxRecDepth 100000 in
theorem m_X6_times (l : Launch) (hst : l.stackTraces = false) (D : va_G) (cy : Nat → ClassId) (tx : List (ClassId × FieldType)) (ad : Nat → Nat) (R : va_W) (sz : Nat) (S : PS) (x1 : Int32) (x2 : Int32) (v : Int32) (h : q_X6_times S x1 x2 = some v) : gMi l yX6_times wsX6_times ({ frames := 0, cells := 0, slots := 0, locals := 0 }) 0 0 D (gT cy ++ tx) [.ref (ad 0), .int x1, .int x2] sz (mW cy ad S R) (mW cy ad S R) v := by
  refine Met.ofW (cc := cX6_times) (maxL := 5) (ret := (some .int)) (by decide) rfl ?_
  intro p e s m args below meth c s₁ B hml hv
  obtain ⟨hav, hsz, hP, hK, hD0, hE⟩ := hv
  have hx := B.exec
  have hb := B.bytes
  have hr := B.returns
  have hts := atoms_spec (ws := wsX6_times) B.pre
  have hown : s.vm.findClass RX6 = some m.cls := findClass_of_methodNamed B.named
  have hlocks := B.notSynchronized
  subst hsz
  have hD := hD0.self (sz := s.heap.size)
  generalize hAe : va_A (mW cy ad S R) s.heap.size = A at hD hE ⊢
  have hA : ∀ q : Nat, s.heap.size ≤ q → A q := fun q h => by rw [← hAe]; exact Or.inr h
  have hS : va_S A s.heap s.heap [] := va_S.rf
  have iX6 : ∀ w ∈ u_ws RX6 TX6 22, w ∈ wsX6_times := by decide +kernel
  have hf45 := hts (.fieldLink RX6 45 "InlinePlannerModel" "nodeMethods" "[I") (by decide +kernel)
  have hf48 := hts (.fieldLink RX6 48 "InlinePlannerModel" "nodeParents" "[I") (by decide +kernel)
  refine g_entry (n := 5) hav (Nat.le_of_ble_eq_true rfl) (fun ls hl => ?_)
  have hl : lv_has ls 5 [(0, .ref (ad 0)), (1, .int x1), (2, .int x2)] := hl
  refine g_nameQ (fun Q hQ => ?_)
  unfold q_X6_times at h
  refine lv_iconst (v := 0) hx hb dX6_times_0 (by decide) ?_
  refine lv_istore_n (lv' := [(3, .int 0), (0, .ref (ad 0)), (1, .int x1), (2, .int x2)]) hx hb dX6_times_1 rfl hl (by decide) rfl (fun ls hl => ?_)
  refine lv_iload_n hx hb dX6_times_2 rfl (lv_at hl 2 rfl) ?_
  refine lv_istore (lv' := [(4, .int x1), (3, .int 0), (0, .ref (ad 0)), (1, .int x1), (2, .int x2)]) hx hb dX6_times_3 hl (by decide) rfl (fun ls hl => ?_)
  have L5 : ∀ (n5 : Nat) (x3 : Int32) (x4 : Int32) (H : Heap) (locs : List Loc) (ls : Array Slot), va_P D vwCl (mW cy ad S R) H → va_D A (mW cy ad S R) → va_S A s.heap H locs → lv_has ls 5 [(0, .ref (ad 0)), (2, .int x2), (3, .int x3), (4, .int x4)] → iter2 (q_X6_times_L5 S x2 ) n5 x3 x4 = some v → W p l e (headSpec wsX6_times ({ frames := 0, cells := 0, slots := 0, locals := 0 })).room s m args below meth c H locs 0 0 Q (F0 m 5 ls []) := by
    intro  n5
    induction n5 with
    | zero =>
      intro x3 x4 H locs ls hP hD hS hl h
      exact (it2_0 h).elim
    | succ n5 ih5 =>
      intro x3 x4 H locs ls hP hD hS hl h
      have h : q_X6_times_L5 S x2  (iter2 (q_X6_times_L5 S x2 ) n5) x3 x4 = some v := h
      unfold q_X6_times_L5 at h
      refine lv_iload hx hb dX6_times_5 (lv_at hl 3 rfl) ?_
      refine lv_iconst (v := (-1)) hx hb dX6_times_7 (by decide) ?_
      refine lv_icmp_eq (tgt := 42) hx hb dX6_times_8 (by decide) (fun hc => ?_) (fun hc => ?_)
      · have h := o_pos hc h
        refine lv_iload_n hx hb dX6_times_42 rfl (lv_at hl 2 rfl) ?_
        exact g_iret hQ hx hb hr hP hK hD hS (Nat.le_of_ble_eq_true rfl) (Nat.le_of_ble_eq_true rfl) dX6_times_43 hlocks (Option.some.inj h)
      · have h := o_neg hc h
        refine lv_iload_n hx hb dX6_times_11 rfl (lv_at hl 2 rfl) ?_
        refine lv_aload_n hx hb dX6_times_12 rfl (lv_at hl 0 rfl) ?_
        refine mgX6_15 hx hb hts iX6 hown hK hP hf45 dX6_times_13 ?_
        refine lv_iload hx hb dX6_times_16 (lv_at hl 3 rfl) ?_
        obtain ⟨v1, ev1, h⟩ := o_bind h
        refine mld7 hx hb hK hP ev1 dX6_times_18 ?_
        refine lv_iload_n hx hb dX6_times_19 rfl (lv_at hl 1 rfl) ?_
        refine lv_icmp_ne (tgt := 27) hx hb dX6_times_20 (by decide) (fun hc => ?_) (fun hc => ?_)
        · have h := o_neg hc h
          refine lv_iconst (v := 0) hx hb dX6_times_27 (by decide) ?_
          refine lv_iadd hx hb dX6_times_28 ?_
          refine lv_istore_n (lv' := [(3, .int (x3 + 0)), (0, .ref (ad 0)), (2, .int x2), (4, .int x4)]) hx hb dX6_times_29 rfl hl (by decide) rfl (fun ls hl => ?_)
          refine lv_aload_n hx hb dX6_times_30 rfl (lv_at hl 1 rfl) ?_
          refine mgX6_16 hx hb hts iX6 hown hK hP hf48 dX6_times_31 ?_
          refine lv_iload hx hb dX6_times_34 (lv_at hl 3 rfl) ?_
          obtain ⟨v2, ev2, h⟩ := o_bind h
          refine mld8 hx hb hK hP ev2 dX6_times_36 ?_
          refine lv_istore (lv' := [(4, .int v2), (3, .int (x3 + 0)), (0, .ref (ad 0)), (2, .int x2)]) hx hb dX6_times_37 hl (by decide) rfl (fun ls hl => ?_)
          refine lv_goto (tgt := 5) hx hb dX6_times_39 (by decide) ?_
          exact ih5 (x3 + 0) v2 _ _ ls hP hD hS (lv_sub hl [2, 3, 1, 0] rfl) h
        · have h := o_pos hc h
          refine lv_iconst (v := 1) hx hb dX6_times_23 (by decide) ?_
          refine lv_goto (tgt := 28) hx hb dX6_times_24 (by decide) ?_
          refine lv_iadd hx hb dX6_times_28 ?_
          refine lv_istore_n (lv' := [(3, .int (x3 + 1)), (0, .ref (ad 0)), (2, .int x2), (4, .int x4)]) hx hb dX6_times_29 rfl hl (by decide) rfl (fun ls hl => ?_)
          refine lv_aload_n hx hb dX6_times_30 rfl (lv_at hl 1 rfl) ?_
          refine mgX6_16 hx hb hts iX6 hown hK hP hf48 dX6_times_31 ?_
          refine lv_iload hx hb dX6_times_34 (lv_at hl 3 rfl) ?_
          obtain ⟨v3, ev3, h⟩ := o_bind h
          refine mld8 hx hb hK hP ev3 dX6_times_36 ?_
          refine lv_istore (lv' := [(4, .int v3), (3, .int (x3 + 1)), (0, .ref (ad 0)), (2, .int x2)]) hx hb dX6_times_37 hl (by decide) rfl (fun ls hl => ?_)
          refine lv_goto (tgt := 5) hx hb dX6_times_39 (by decide) ?_
          exact ih5 (x3 + 1) v3 _ _ ls hP hD hS (lv_sub hl [2, 3, 1, 0] rfl) h
  exact L5  1000 0 x1 _ _ ls hP hD hS (lv_sub hl [2, 4, 1, 0] rfl) h
set_option maxHeartbeats 4000000 in
set_option maxRecDepth 100000 in
theorem m_X6_make (l : Launch) (hst : l.stackTraces = false) (D : va_G) (cy : Nat → ClassId) (tx : List (ClassId × FieldType)) (ad : Nat → Nat) (R : va_W) (sz : Nat) (S : PS) (x1 : Int32) (x2 : Int32) (x3 : Int32) (x4 : Int32) (x5 : Int32) (S' : PS) (h : q_X6_make S x1 x2 x3 x4 x5 = some S') : gMv l yX6_make wsX6_make ({ frames := 4, cells := 0, slots := 0, locals := 93 }) 0 0 D (gT cy ++ tx) [.ref (ad 0), .int x1, .int x2, .int x3, .int x4, .int x5] sz (mW cy ad S R) (mW cy ad S' R) := by
  refine Met.ofW (cc := cX6_make) (maxL := 10) (ret := none) (by decide) rfl ?_
  intro p e s m args below meth c s₁ B hml hv
  obtain ⟨hav, hsz, hP, hK, hD0, hE⟩ := hv
  have hx := B.exec
  have hb := B.bytes
  have hr := B.returns
  have hts := atoms_spec (ws := wsX6_make) B.pre
  have hown : s.vm.findClass RX6 = some m.cls := findClass_of_methodNamed B.named
  have hlocks := B.notSynchronized
  subst hsz
  have hD := hD0.self (sz := s.heap.size)
  generalize hAe : va_A (mW cy ad S R) s.heap.size = A at hD hE ⊢
  have hA : ∀ q : Nat, s.heap.size ≤ q → A q := fun q h => by rw [← hAe]; exact Or.inr h
  have hS : va_S A s.heap s.heap [] := va_S.rf
  have iX6 : ∀ w ∈ u_ws RX6 TX6 22, w ∈ wsX6_make := by decide +kernel
  have hf30 := hts (.fieldLink RX6 30 "InlinePlannerModel" "sites" "[I") (by decide +kernel)
  have hf39 := hts (.fieldLink RX6 39 "InlinePlannerModel" "deepest" "I") (by decide +kernel)
  have hf42 := hts (.fieldLink RX6 42 "InlinePlannerModel" "recursion" "I") (by decide +kernel)
  have hf45 := hts (.fieldLink RX6 45 "InlinePlannerModel" "nodeMethods" "[I") (by decide +kernel)
  have hf48 := hts (.fieldLink RX6 48 "InlinePlannerModel" "nodeParents" "[I") (by decide +kernel)
  have hf51 := hts (.fieldLink RX6 51 "InlinePlannerModel" "nodeSites" "[I") (by decide +kernel)
  have hf54 := hts (.fieldLink RX6 54 "InlinePlannerModel" "nodeDepths" "[I") (by decide +kernel)
  have hf57 := hts (.fieldLink RX6 57 "InlinePlannerModel" "nodeWeights" "[I") (by decide +kernel)
  have hf60 := hts (.fieldLink RX6 60 "InlinePlannerModel" "verdicts" "[I") (by decide +kernel)
  have hf63 := hts (.fieldLink RX6 63 "InlinePlannerModel" "weights" "[I") (by decide +kernel)
  have hf118 := hts (.fieldLink RX6 118 "InlinePlannerModel" "nodes" "I") (by decide +kernel)
  refine g_entry (n := 10) hav (Nat.le_of_ble_eq_true rfl) (fun ls hl => ?_)
  have hl : lv_has ls 10 [(0, .ref (ad 0)), (1, .int x1), (2, .int x2), (3, .int x3), (4, .int x4), (5, .int x5)] := hl
  refine g_nameQ (fun Q hQ => ?_)
  unfold q_X6_make at h
  refine lv_aload_n hx hb dX6_make_0 rfl (lv_at hl 0 rfl) ?_
  refine mgX6_14 hx hb hts iX6 hown hK hP hf118 dX6_make_1 ?_
  refine lv_istore (lv' := [(6, .int (S.1 7)), (0, .ref (ad 0)), (1, .int x1), (2, .int x2), (3, .int x3), (4, .int x4), (5, .int x5)]) hx hb dX6_make_4 hl (by decide) rfl (fun ls hl => ?_)
  refine lv_aload_n hx hb dX6_make_6 rfl (lv_at hl 1 rfl) ?_
  refine lv_dup hx hb dX6_make_7 rfl ?_
  refine mgX6_14 hx hb hts iX6 hown hK hP hf118 dX6_make_8 ?_
  refine lv_iconst (v := 1) hx hb dX6_make_11 (by decide) ?_
  refine lv_iadd hx hb dX6_make_12 ?_
  obtain ⟨S1, eS1, h⟩ := o_bind h
  refine mpX6_14 hx hb hts iX6 hown hK hP hD hS hf118 eS1 dX6_make_13 (fun H locs hP hD hS => ?_)
  refine lv_aload_n hx hb dX6_make_16 rfl (lv_at hl 1 rfl) ?_
  refine mgX6_15 hx hb hts iX6 hown hK hP hf45 dX6_make_17 ?_
  refine lv_iload hx hb dX6_make_20 (lv_at hl 0 rfl) ?_
  refine lv_iload_n hx hb dX6_make_22 rfl (lv_at hl 2 rfl) ?_
  obtain ⟨S2, eS2, h⟩ := o_bind h
  refine mst7 hx hb hK hP hD hS eS2 dX6_make_23 (fun H locs hP hD hS => ?_)
  refine lv_aload_n hx hb dX6_make_24 rfl (lv_at hl 1 rfl) ?_
  refine mgX6_19 hx hb hts iX6 hown hK hP hf57 dX6_make_25 ?_
  refine lv_iload hx hb dX6_make_28 (lv_at hl 0 rfl) ?_
  refine lv_iload_n hx hb dX6_make_30 rfl (lv_at hl 3 rfl) ?_
  obtain ⟨S3, eS3, h⟩ := o_bind h
  refine mst11 hx hb hK hP hD hS eS3 dX6_make_31 (fun H locs hP hD hS => ?_)
  refine lv_aload_n hx hb dX6_make_32 rfl (lv_at hl 1 rfl) ?_
  refine mgX6_18 hx hb hts iX6 hown hK hP hf54 dX6_make_33 ?_
  refine lv_iload hx hb dX6_make_36 (lv_at hl 0 rfl) ?_
  refine lv_iload_n hx hb dX6_make_38 rfl (lv_at hl 4 rfl) ?_
  obtain ⟨S4, eS4, h⟩ := o_bind h
  refine mst10 hx hb hK hP hD hS eS4 dX6_make_39 (fun H locs hP hD hS => ?_)
  refine lv_aload_n hx hb dX6_make_40 rfl (lv_at hl 1 rfl) ?_
  refine mgX6_16 hx hb hts iX6 hown hK hP hf48 dX6_make_41 ?_
  refine lv_iload hx hb dX6_make_44 (lv_at hl 0 rfl) ?_
  refine lv_iload hx hb dX6_make_46 (lv_at hl 5 rfl) ?_
  obtain ⟨S5, eS5, h⟩ := o_bind h
  refine mst8 hx hb hK hP hD hS eS5 dX6_make_48 (fun H locs hP hD hS => ?_)
  refine lv_aload_n hx hb dX6_make_49 rfl (lv_at hl 1 rfl) ?_
  refine mgX6_17 hx hb hts iX6 hown hK hP hf51 dX6_make_50 ?_
  refine lv_iload hx hb dX6_make_53 (lv_at hl 0 rfl) ?_
  refine lv_iload hx hb dX6_make_55 (lv_at hl 6 rfl) ?_
  obtain ⟨S6, eS6, h⟩ := o_bind h
  refine mst9 hx hb hK hP hD hS eS6 dX6_make_57 (fun H locs hP hD hS => ?_)
  refine lv_iconst (v := 0) hx hb dX6_make_58 (by decide) ?_
  refine lv_istore (lv' := [(7, .int 0), (6, .int (S.1 7)), (0, .ref (ad 0)), (1, .int x1), (2, .int x2), (3, .int x3), (4, .int x4), (5, .int x5)]) hx hb dX6_make_59 hl (by decide) rfl (fun ls hl => ?_)
  have L61 : ∀ (x6 : Int32), ∀ (n61 : Nat) (x7 : Int32) (S : PS) (H : Heap) (locs : List Loc) (ls : Array Slot), va_P D vwCl (mW cy ad S R) H → va_D A (mW cy ad S R) → va_S A s.heap H locs → lv_has ls 10 [(0, .ref (ad 0)), (1, .int x1), (2, .int x2), (3, .int x3), (6, .int x6), (7, .int x7)] → iter2 (q_X6_make_L61 x1 x2 x3 x6 ) n61 x7 S = some S' → W p l e (headSpec wsX6_make ({ frames := 4, cells := 0, slots := 0, locals := 93 })).room s m args below meth c H locs 0 0 Q (F0 m 61 ls []) := by
    intro x6 n61
    induction n61 with
    | zero =>
      intro x7 S H locs ls hP hD hS hl h
      exact (it2_0 h).elim
    | succ n61 ih61 =>
      intro x7 S H locs ls hP hD hS hl h
      have h : q_X6_make_L61 x1 x2 x3 x6  (iter2 (q_X6_make_L61 x1 x2 x3 x6 ) n61) x7 S = some S' := h
      unfold q_X6_make_L61 at h
      refine lv_iload hx hb dX6_make_61 (lv_at hl 5 rfl) ?_
      refine lv_aload_n hx hb dX6_make_63 rfl (lv_at hl 0 rfl) ?_
      refine mgX6_8 hx hb hts iX6 hown hK hP hf30 dX6_make_64 ?_
      refine lv_iload_n hx hb dX6_make_67 rfl (lv_at hl 1 rfl) ?_
      obtain ⟨v7, ev7, h⟩ := o_bind h
      refine mld5 hx hb hK hP ev7 dX6_make_68 ?_
      refine lv_icmp_ge (tgt := 208) hx hb dX6_make_69 (by decide) (fun hc => ?_) (fun hc => ?_)
      · have h := o_pos hc h
        have eS := Option.some.inj h
        subst eS
        exact g_vret hQ hx hb hr hP hK hD hS (Nat.le_of_ble_eq_true rfl) (Nat.le_of_ble_eq_true rfl) dX6_make_208 hlocks
      · have h := o_neg hc h
        refine lv_aload_n hx hb dX6_make_72 rfl (lv_at hl 0 rfl) ?_
        refine lv_iload hx hb dX6_make_73 (lv_at hl 4 rfl) ?_
        refine lv_iload hx hb dX6_make_75 (lv_at hl 5 rfl) ?_
        obtain ⟨v8, ev8, h⟩ := o_bind h
        refine g_cVi (As := [.int x6, .int x7]) (rest := []) ⟨hx, hb, hml, hown, hts⟩ (m_X6_targetsOf l hst D cy tx ad R _ S x6 x7 v8 ev8) (cwV 2 hts gX6_make_X6_targetsOf rfl rfl rfl (by decide +kernel) ⟨Nat.le_of_ble_eq_true rfl, Nat.le_of_ble_eq_true rfl⟩) (va_recv hK hP (ci := 6) (q0 := 0) rfl rfl) hP hK hD hS hA hE rfl hl.1 rfl (Nat.le_of_ble_eq_true rfl) dX6_make_77 ⟨Nat.le_of_ble_eq_true rfl, Nat.le_of_ble_eq_true rfl⟩ (fun H locs hP hD hS => ?_)
        refine lv_istore (lv' := [(8, .int v8), (0, .ref (ad 0)), (1, .int x1), (2, .int x2), (3, .int x3), (6, .int x6), (7, .int x7)]) hx hb dX6_make_80 hl (by decide) rfl (fun ls hl => ?_)
        refine lv_aload_n hx hb dX6_make_82 rfl (lv_at hl 1 rfl) ?_
        refine mgX6_21 hx hb hts iX6 hown hK hP hf63 dX6_make_83 ?_
        refine lv_bipush (v := 8) hx hb dX6_make_86 (by decide) ?_
        refine lv_iload hx hb dX6_make_88 (lv_at hl 5 rfl) ?_
        refine lv_imul hx hb dX6_make_90 ?_
        refine lv_iload hx hb dX6_make_91 (lv_at hl 6 rfl) ?_
        refine lv_iadd hx hb dX6_make_93 ?_
        refine lv_ldc (v := 1000000) hx hb hown (hts (.constant RX6 124 (1000000)) (by decide +kernel)) dX6_make_94 ?_
        refine lv_iload_n hx hb dX6_make_96 rfl (lv_at hl 3 rfl) ?_
        refine lv_aload_n hx hb dX6_make_97 rfl (lv_at hl 1 rfl) ?_
        refine lv_iload_n hx hb dX6_make_98 rfl (lv_at hl 2 rfl) ?_
        refine lv_iload hx hb dX6_make_99 (lv_at hl 6 rfl) ?_
        refine lv_iconst (v := 2) hx hb dX6_make_101 (by decide) ?_
        obtain ⟨v9, ev9, h⟩ := o_bind h
        refine g_cVi (As := [.int x1, .int x7, .int 2]) (rest := [.int x2, .int 1000000, .int ((8 * x6) + x7), .ref (ad 14)]) ⟨hx, hb, hml, hown, hts⟩ (m_X6_call l hst D cy tx ad R _ S x1 x7 2 v9 ev9) (cwV 3 hts gX6_make_X6_call rfl rfl rfl (by decide +kernel) ⟨Nat.le_of_ble_eq_true rfl, Nat.le_of_ble_eq_true rfl⟩) (va_recv hK hP (ci := 6) (q0 := 0) rfl rfl) hP hK hD hS hA hE rfl hl.1 rfl (Nat.le_of_ble_eq_true rfl) dX6_make_102 ⟨Nat.le_of_ble_eq_true rfl, Nat.le_of_ble_eq_true rfl⟩ (fun H locs hP hD hS => ?_)
        refine lv_imul hx hb dX6_make_105 ?_
        refine va_mmin hx hb (by rw [hml]; exact hl.1.symm) hown (hts (.methodLink RX6 125 Lib.Math.min.name) (by decide +kernel)) (hts (.static Lib.Math.min.name) (by decide +kernel)) (hts (.initialized "java/lang/Math") (by decide +kernel)) (hts (.code Lib.Math.min.name Lib.Math.min.code 2 (some .int)) (by decide +kernel)) (Nat.le_of_ble_eq_true rfl) (Nat.le_of_ble_eq_true rfl) (Nat.le_of_ble_eq_true rfl) (Nat.le_of_ble_eq_true rfl) dX6_make_106 ?_
        obtain ⟨S10, eS10, h⟩ := o_bind h
        refine mst13 hx hb hK hP hD hS eS10 dX6_make_109 (fun H locs hP hD hS => ?_)
        refine lv_iload hx hb dX6_make_110 (lv_at hl 0 rfl) ?_
        obtain ⟨v11, ev11, h⟩ := o_bind h
        refine g_cSi (As := [.int v8]) (rest := []) ⟨hx, hb, hml, hown, hts⟩ (m_X6_bits l hst D (gT cy ++ tx) (mW cy ad S10 R) _ v8 v11 ev11) (va_cwS 1 hts gX6_make_X6_bits rfl rfl rfl (by decide +kernel) ⟨Nat.le_of_ble_eq_true rfl, Nat.le_of_ble_eq_true rfl⟩) hP hK hD hS hA hE rfl hl.1 rfl (Nat.le_of_ble_eq_true rfl) dX6_make_112 ⟨Nat.le_of_ble_eq_true rfl, Nat.le_of_ble_eq_true rfl⟩ (fun H locs hP hD hS => ?_)
        refine lv_iconst (v := 1) hx hb dX6_make_115 (by decide) ?_
        refine lv_icmp_ne (tgt := 142) hx hb dX6_make_116 (by decide) (fun hc => ?_) (fun hc => ?_)
        · have h := o_neg hc h
          refine lv_iconst (v := 0) hx hb dX6_make_142 (by decide) ?_
          refine lv_istore (lv' := [(9, .int 0), (8, .int v8), (0, .ref (ad 0)), (1, .int x1), (2, .int x2), (3, .int x3), (6, .int x6), (7, .int x7)]) hx hb dX6_make_143 hl (by decide) rfl (fun ls hl => ?_)
          refine lv_aload_n hx hb dX6_make_145 rfl (lv_at hl 2 rfl) ?_
          refine mgX6_20 hx hb hts iX6 hown hK hP hf60 dX6_make_146 ?_
          refine lv_bipush (v := 8) hx hb dX6_make_149 (by decide) ?_
          refine lv_iload hx hb dX6_make_151 (lv_at hl 6 rfl) ?_
          refine lv_imul hx hb dX6_make_153 ?_
          refine lv_iload hx hb dX6_make_154 (lv_at hl 7 rfl) ?_
          refine lv_iadd hx hb dX6_make_156 ?_
          refine lv_iload hx hb dX6_make_157 (lv_at hl 1 rfl) ?_
          refine lv_if_ne (tgt := 166) hx hb dX6_make_159 (by decide) (fun hc => ?_) (fun hc => ?_)
          · have h := o_neg hc h
            refine lv_iload hx hb dX6_make_166 (lv_at hl 1 rfl) ?_
            obtain ⟨v12, ev12, h⟩ := o_bind h
            refine g_cSi (As := [.int v8]) (rest := [.int ((8 * x6) + x7), .ref (ad 13)]) ⟨hx, hb, hml, hown, hts⟩ (m_X6_bits l hst D (gT cy ++ tx) (mW cy ad S10 R) _ v8 v12 ev12) (va_cwS 1 hts gX6_make_X6_bits rfl rfl rfl (by decide +kernel) ⟨Nat.le_of_ble_eq_true rfl, Nat.le_of_ble_eq_true rfl⟩) hP hK hD hS hA hE rfl hl.1 rfl (Nat.le_of_ble_eq_true rfl) dX6_make_168 ⟨Nat.le_of_ble_eq_true rfl, Nat.le_of_ble_eq_true rfl⟩ (fun H locs hP hD hS => ?_)
            refine lv_iconst (v := 1) hx hb dX6_make_171 (by decide) ?_
            refine lv_icmp_le (tgt := 179) hx hb dX6_make_172 (by decide) (fun hc => ?_) (fun hc => ?_)
            · have h := o_pos hc h
              refine lv_iload_n hx hb dX6_make_179 rfl (lv_at hl 5 rfl) ?_
              refine lv_aload_n hx hb dX6_make_180 rfl (lv_at hl 2 rfl) ?_
              refine mgX6_11 hx hb hts iX6 hown hK hP hf39 dX6_make_181 ?_
              refine lv_icmp_lt (tgt := 191) hx hb dX6_make_184 (by decide) (fun hc => ?_) (fun hc => ?_)
              · have h := o_pos hc h
                refine lv_iload hx hb dX6_make_191 (lv_at hl 0 rfl) ?_
                refine lv_if_eq (tgt := 200) hx hb dX6_make_193 (by decide) (fun _ => ?_) (fun hc => absurd (by decide) hc)
                refine lv_iconst (v := (-1)) hx hb dX6_make_200 (by decide) ?_
                obtain ⟨S13, eS13, h⟩ := o_bind h
                refine mst12 hx hb hK hP hD hS eS13 dX6_make_201 (fun H locs hP hD hS => ?_)
                refine lv_iinc (v := (x7 + 1)) (lv' := [(7, .int (x7 + 1)), (9, .int 0), (8, .int v8), (0, .ref (ad 0)), (1, .int x1), (2, .int x2), (3, .int x3), (6, .int x6)]) hx hb dX6_make_202 hl (k := 7) rfl rfl (by decide) rfl (fun ls hl => ?_)
                refine lv_goto (tgt := 61) hx hb dX6_make_205 (by decide) ?_
                exact ih61 (x7 + 1) S13 _ _ ls hP hD hS (lv_sub hl [3, 4, 5, 6, 7, 0] rfl) h
              · have h := o_neg hc h
                refine lv_iconst (v := 3) hx hb dX6_make_187 (by decide) ?_
                refine lv_goto (tgt := 201) hx hb dX6_make_188 (by decide) ?_
                obtain ⟨S14, eS14, h⟩ := o_bind h
                refine mst12 hx hb hK hP hD hS eS14 dX6_make_201 (fun H locs hP hD hS => ?_)
                refine lv_iinc (v := (x7 + 1)) (lv' := [(7, .int (x7 + 1)), (9, .int 0), (8, .int v8), (0, .ref (ad 0)), (1, .int x1), (2, .int x2), (3, .int x3), (6, .int x6)]) hx hb dX6_make_202 hl (k := 7) rfl rfl (by decide) rfl (fun ls hl => ?_)
                refine lv_goto (tgt := 61) hx hb dX6_make_205 (by decide) ?_
                exact ih61 (x7 + 1) S14 _ _ ls hP hD hS (lv_sub hl [3, 4, 5, 6, 7, 0] rfl) h
            · have h := o_neg hc h
              refine lv_iconst (v := 2) hx hb dX6_make_175 (by decide) ?_
              refine lv_goto (tgt := 201) hx hb dX6_make_176 (by decide) ?_
              obtain ⟨S15, eS15, h⟩ := o_bind h
              refine mst12 hx hb hK hP hD hS eS15 dX6_make_201 (fun H locs hP hD hS => ?_)
              refine lv_iinc (v := (x7 + 1)) (lv' := [(7, .int (x7 + 1)), (9, .int 0), (8, .int v8), (0, .ref (ad 0)), (1, .int x1), (2, .int x2), (3, .int x3), (6, .int x6)]) hx hb dX6_make_202 hl (k := 7) rfl rfl (by decide) rfl (fun ls hl => ?_)
              refine lv_goto (tgt := 61) hx hb dX6_make_205 (by decide) ?_
              exact ih61 (x7 + 1) S15 _ _ ls hP hD hS (lv_sub hl [3, 4, 5, 6, 7, 0] rfl) h
          · have h := o_pos hc h
            refine lv_iconst (v := 1) hx hb dX6_make_162 (by decide) ?_
            refine lv_goto (tgt := 201) hx hb dX6_make_163 (by decide) ?_
            obtain ⟨S16, eS16, h⟩ := o_bind h
            refine mst12 hx hb hK hP hD hS eS16 dX6_make_201 (fun H locs hP hD hS => ?_)
            refine lv_iinc (v := (x7 + 1)) (lv' := [(7, .int (x7 + 1)), (9, .int 0), (8, .int v8), (0, .ref (ad 0)), (1, .int x1), (2, .int x2), (3, .int x3), (6, .int x6)]) hx hb dX6_make_202 hl (k := 7) rfl rfl (by decide) rfl (fun ls hl => ?_)
            refine lv_goto (tgt := 61) hx hb dX6_make_205 (by decide) ?_
            exact ih61 (x7 + 1) S16 _ _ ls hP hD hS (lv_sub hl [3, 4, 5, 6, 7, 0] rfl) h
        · have h := o_pos hc h
          refine lv_aload_n hx hb dX6_make_119 rfl (lv_at hl 1 rfl) ?_
          refine lv_iload hx hb dX6_make_120 (lv_at hl 5 rfl) ?_
          refine lv_iload hx hb dX6_make_122 (lv_at hl 0 rfl) ?_
          refine lv_iconst (v := 0) hx hb dX6_make_124 (by decide) ?_
          obtain ⟨v17, ev17, h⟩ := o_bind h
          refine g_cSi (As := [.int v8, .int 0]) (rest := [.int x6, .ref (ad 0)]) ⟨hx, hb, hml, hown, hts⟩ (m_X6_member l hst D (gT cy ++ tx) (mW cy ad S10 R) _ v8 0 v17 ev17) (va_cwS 2 hts gX6_make_X6_member rfl rfl rfl (by decide +kernel) ⟨Nat.le_of_ble_eq_true rfl, Nat.le_of_ble_eq_true rfl⟩) hP hK hD hS hA hE rfl hl.1 rfl (Nat.le_of_ble_eq_true rfl) dX6_make_125 ⟨Nat.le_of_ble_eq_true rfl, Nat.le_of_ble_eq_true rfl⟩ (fun H locs hP hD hS => ?_)
          obtain ⟨v18, ev18, h⟩ := o_bind h
          refine g_cVi (As := [.int x6, .int v17]) (rest := []) ⟨hx, hb, hml, hown, hts⟩ (m_X6_times l hst D cy tx ad R _ S10 x6 v17 v18 ev18) (cwV 2 hts gX6_make_X6_times rfl rfl rfl (by decide +kernel) ⟨Nat.le_of_ble_eq_true rfl, Nat.le_of_ble_eq_true rfl⟩) (va_recv hK hP (ci := 6) (q0 := 0) rfl rfl) hP hK hD hS hA hE rfl hl.1 rfl (Nat.le_of_ble_eq_true rfl) dX6_make_128 ⟨Nat.le_of_ble_eq_true rfl, Nat.le_of_ble_eq_true rfl⟩ (fun H locs hP hD hS => ?_)
          refine lv_aload_n hx hb dX6_make_131 rfl (lv_at hl 1 rfl) ?_
          refine mgX6_12 hx hb hts iX6 hown hK hP hf42 dX6_make_132 ?_
          refine lv_icmp_le (tgt := 142) hx hb dX6_make_135 (by decide) (fun hc => ?_) (fun hc => ?_)
          · have h := o_pos hc h
            refine lv_iconst (v := 0) hx hb dX6_make_142 (by decide) ?_
            refine lv_istore (lv' := [(9, .int 0), (8, .int v8), (0, .ref (ad 0)), (1, .int x1), (2, .int x2), (3, .int x3), (6, .int x6), (7, .int x7)]) hx hb dX6_make_143 hl (by decide) rfl (fun ls hl => ?_)
            refine lv_aload_n hx hb dX6_make_145 rfl (lv_at hl 2 rfl) ?_
            refine mgX6_20 hx hb hts iX6 hown hK hP hf60 dX6_make_146 ?_
            refine lv_bipush (v := 8) hx hb dX6_make_149 (by decide) ?_
            refine lv_iload hx hb dX6_make_151 (lv_at hl 6 rfl) ?_
            refine lv_imul hx hb dX6_make_153 ?_
            refine lv_iload hx hb dX6_make_154 (lv_at hl 7 rfl) ?_
            refine lv_iadd hx hb dX6_make_156 ?_
            refine lv_iload hx hb dX6_make_157 (lv_at hl 1 rfl) ?_
            refine lv_if_ne (tgt := 166) hx hb dX6_make_159 (by decide) (fun hc => ?_) (fun hc => ?_)
            · have h := o_neg hc h
              refine lv_iload hx hb dX6_make_166 (lv_at hl 1 rfl) ?_
              obtain ⟨v19, ev19, h⟩ := o_bind h
              refine g_cSi (As := [.int v8]) (rest := [.int ((8 * x6) + x7), .ref (ad 13)]) ⟨hx, hb, hml, hown, hts⟩ (m_X6_bits l hst D (gT cy ++ tx) (mW cy ad S10 R) _ v8 v19 ev19) (va_cwS 1 hts gX6_make_X6_bits rfl rfl rfl (by decide +kernel) ⟨Nat.le_of_ble_eq_true rfl, Nat.le_of_ble_eq_true rfl⟩) hP hK hD hS hA hE rfl hl.1 rfl (Nat.le_of_ble_eq_true rfl) dX6_make_168 ⟨Nat.le_of_ble_eq_true rfl, Nat.le_of_ble_eq_true rfl⟩ (fun H locs hP hD hS => ?_)
              refine lv_iconst (v := 1) hx hb dX6_make_171 (by decide) ?_
              refine lv_icmp_le (tgt := 179) hx hb dX6_make_172 (by decide) (fun hc => ?_) (fun hc => ?_)
              · have h := o_pos hc h
                refine lv_iload_n hx hb dX6_make_179 rfl (lv_at hl 5 rfl) ?_
                refine lv_aload_n hx hb dX6_make_180 rfl (lv_at hl 2 rfl) ?_
                refine mgX6_11 hx hb hts iX6 hown hK hP hf39 dX6_make_181 ?_
                refine lv_icmp_lt (tgt := 191) hx hb dX6_make_184 (by decide) (fun hc => ?_) (fun hc => ?_)
                · have h := o_pos hc h
                  refine lv_iload hx hb dX6_make_191 (lv_at hl 0 rfl) ?_
                  refine lv_if_eq (tgt := 200) hx hb dX6_make_193 (by decide) (fun _ => ?_) (fun hc => absurd (by decide) hc)
                  refine lv_iconst (v := (-1)) hx hb dX6_make_200 (by decide) ?_
                  obtain ⟨S20, eS20, h⟩ := o_bind h
                  refine mst12 hx hb hK hP hD hS eS20 dX6_make_201 (fun H locs hP hD hS => ?_)
                  refine lv_iinc (v := (x7 + 1)) (lv' := [(7, .int (x7 + 1)), (9, .int 0), (8, .int v8), (0, .ref (ad 0)), (1, .int x1), (2, .int x2), (3, .int x3), (6, .int x6)]) hx hb dX6_make_202 hl (k := 7) rfl rfl (by decide) rfl (fun ls hl => ?_)
                  refine lv_goto (tgt := 61) hx hb dX6_make_205 (by decide) ?_
                  exact ih61 (x7 + 1) S20 _ _ ls hP hD hS (lv_sub hl [3, 4, 5, 6, 7, 0] rfl) h
                · have h := o_neg hc h
                  refine lv_iconst (v := 3) hx hb dX6_make_187 (by decide) ?_
                  refine lv_goto (tgt := 201) hx hb dX6_make_188 (by decide) ?_
                  obtain ⟨S21, eS21, h⟩ := o_bind h
                  refine mst12 hx hb hK hP hD hS eS21 dX6_make_201 (fun H locs hP hD hS => ?_)
                  refine lv_iinc (v := (x7 + 1)) (lv' := [(7, .int (x7 + 1)), (9, .int 0), (8, .int v8), (0, .ref (ad 0)), (1, .int x1), (2, .int x2), (3, .int x3), (6, .int x6)]) hx hb dX6_make_202 hl (k := 7) rfl rfl (by decide) rfl (fun ls hl => ?_)
                  refine lv_goto (tgt := 61) hx hb dX6_make_205 (by decide) ?_
                  exact ih61 (x7 + 1) S21 _ _ ls hP hD hS (lv_sub hl [3, 4, 5, 6, 7, 0] rfl) h
              · have h := o_neg hc h
                refine lv_iconst (v := 2) hx hb dX6_make_175 (by decide) ?_
                refine lv_goto (tgt := 201) hx hb dX6_make_176 (by decide) ?_
                obtain ⟨S22, eS22, h⟩ := o_bind h
                refine mst12 hx hb hK hP hD hS eS22 dX6_make_201 (fun H locs hP hD hS => ?_)
                refine lv_iinc (v := (x7 + 1)) (lv' := [(7, .int (x7 + 1)), (9, .int 0), (8, .int v8), (0, .ref (ad 0)), (1, .int x1), (2, .int x2), (3, .int x3), (6, .int x6)]) hx hb dX6_make_202 hl (k := 7) rfl rfl (by decide) rfl (fun ls hl => ?_)
                refine lv_goto (tgt := 61) hx hb dX6_make_205 (by decide) ?_
                exact ih61 (x7 + 1) S22 _ _ ls hP hD hS (lv_sub hl [3, 4, 5, 6, 7, 0] rfl) h
            · have h := o_pos hc h
              refine lv_iconst (v := 1) hx hb dX6_make_162 (by decide) ?_
              refine lv_goto (tgt := 201) hx hb dX6_make_163 (by decide) ?_
              obtain ⟨S23, eS23, h⟩ := o_bind h
              refine mst12 hx hb hK hP hD hS eS23 dX6_make_201 (fun H locs hP hD hS => ?_)
              refine lv_iinc (v := (x7 + 1)) (lv' := [(7, .int (x7 + 1)), (9, .int 0), (8, .int v8), (0, .ref (ad 0)), (1, .int x1), (2, .int x2), (3, .int x3), (6, .int x6)]) hx hb dX6_make_202 hl (k := 7) rfl rfl (by decide) rfl (fun ls hl => ?_)
              refine lv_goto (tgt := 61) hx hb dX6_make_205 (by decide) ?_
              exact ih61 (x7 + 1) S23 _ _ ls hP hD hS (lv_sub hl [3, 4, 5, 6, 7, 0] rfl) h
          · have h := o_neg hc h
            refine lv_iconst (v := 1) hx hb dX6_make_138 (by decide) ?_
            refine lv_goto (tgt := 143) hx hb dX6_make_139 (by decide) ?_
            refine lv_istore (lv' := [(9, .int 1), (8, .int v8), (0, .ref (ad 0)), (1, .int x1), (2, .int x2), (3, .int x3), (6, .int x6), (7, .int x7)]) hx hb dX6_make_143 hl (by decide) rfl (fun ls hl => ?_)
            refine lv_aload_n hx hb dX6_make_145 rfl (lv_at hl 2 rfl) ?_
            refine mgX6_20 hx hb hts iX6 hown hK hP hf60 dX6_make_146 ?_
            refine lv_bipush (v := 8) hx hb dX6_make_149 (by decide) ?_
            refine lv_iload hx hb dX6_make_151 (lv_at hl 6 rfl) ?_
            refine lv_imul hx hb dX6_make_153 ?_
            refine lv_iload hx hb dX6_make_154 (lv_at hl 7 rfl) ?_
            refine lv_iadd hx hb dX6_make_156 ?_
            refine lv_iload hx hb dX6_make_157 (lv_at hl 1 rfl) ?_
            refine lv_if_ne (tgt := 166) hx hb dX6_make_159 (by decide) (fun hc => ?_) (fun hc => ?_)
            · have h := o_neg hc h
              refine lv_iload hx hb dX6_make_166 (lv_at hl 1 rfl) ?_
              obtain ⟨v24, ev24, h⟩ := o_bind h
              refine g_cSi (As := [.int v8]) (rest := [.int ((8 * x6) + x7), .ref (ad 13)]) ⟨hx, hb, hml, hown, hts⟩ (m_X6_bits l hst D (gT cy ++ tx) (mW cy ad S10 R) _ v8 v24 ev24) (va_cwS 1 hts gX6_make_X6_bits rfl rfl rfl (by decide +kernel) ⟨Nat.le_of_ble_eq_true rfl, Nat.le_of_ble_eq_true rfl⟩) hP hK hD hS hA hE rfl hl.1 rfl (Nat.le_of_ble_eq_true rfl) dX6_make_168 ⟨Nat.le_of_ble_eq_true rfl, Nat.le_of_ble_eq_true rfl⟩ (fun H locs hP hD hS => ?_)
              refine lv_iconst (v := 1) hx hb dX6_make_171 (by decide) ?_
              refine lv_icmp_le (tgt := 179) hx hb dX6_make_172 (by decide) (fun hc => ?_) (fun hc => ?_)
              · have h := o_pos hc h
                refine lv_iload_n hx hb dX6_make_179 rfl (lv_at hl 5 rfl) ?_
                refine lv_aload_n hx hb dX6_make_180 rfl (lv_at hl 2 rfl) ?_
                refine mgX6_11 hx hb hts iX6 hown hK hP hf39 dX6_make_181 ?_
                refine lv_icmp_lt (tgt := 191) hx hb dX6_make_184 (by decide) (fun hc => ?_) (fun hc => ?_)
                · have h := o_pos hc h
                  refine lv_iload hx hb dX6_make_191 (lv_at hl 0 rfl) ?_
                  refine lv_if_eq (tgt := 200) hx hb dX6_make_193 (by decide) (fun hc => absurd hc (by decide)) (fun _ => ?_)
                  refine lv_iconst (v := 4) hx hb dX6_make_196 (by decide) ?_
                  refine lv_goto (tgt := 201) hx hb dX6_make_197 (by decide) ?_
                  obtain ⟨S25, eS25, h⟩ := o_bind h
                  refine mst12 hx hb hK hP hD hS eS25 dX6_make_201 (fun H locs hP hD hS => ?_)
                  refine lv_iinc (v := (x7 + 1)) (lv' := [(7, .int (x7 + 1)), (9, .int 1), (8, .int v8), (0, .ref (ad 0)), (1, .int x1), (2, .int x2), (3, .int x3), (6, .int x6)]) hx hb dX6_make_202 hl (k := 7) rfl rfl (by decide) rfl (fun ls hl => ?_)
                  refine lv_goto (tgt := 61) hx hb dX6_make_205 (by decide) ?_
                  exact ih61 (x7 + 1) S25 _ _ ls hP hD hS (lv_sub hl [3, 4, 5, 6, 7, 0] rfl) h
                · have h := o_neg hc h
                  refine lv_iconst (v := 3) hx hb dX6_make_187 (by decide) ?_
                  refine lv_goto (tgt := 201) hx hb dX6_make_188 (by decide) ?_
                  obtain ⟨S26, eS26, h⟩ := o_bind h
                  refine mst12 hx hb hK hP hD hS eS26 dX6_make_201 (fun H locs hP hD hS => ?_)
                  refine lv_iinc (v := (x7 + 1)) (lv' := [(7, .int (x7 + 1)), (9, .int 1), (8, .int v8), (0, .ref (ad 0)), (1, .int x1), (2, .int x2), (3, .int x3), (6, .int x6)]) hx hb dX6_make_202 hl (k := 7) rfl rfl (by decide) rfl (fun ls hl => ?_)
                  refine lv_goto (tgt := 61) hx hb dX6_make_205 (by decide) ?_
                  exact ih61 (x7 + 1) S26 _ _ ls hP hD hS (lv_sub hl [3, 4, 5, 6, 7, 0] rfl) h
              · have h := o_neg hc h
                refine lv_iconst (v := 2) hx hb dX6_make_175 (by decide) ?_
                refine lv_goto (tgt := 201) hx hb dX6_make_176 (by decide) ?_
                obtain ⟨S27, eS27, h⟩ := o_bind h
                refine mst12 hx hb hK hP hD hS eS27 dX6_make_201 (fun H locs hP hD hS => ?_)
                refine lv_iinc (v := (x7 + 1)) (lv' := [(7, .int (x7 + 1)), (9, .int 1), (8, .int v8), (0, .ref (ad 0)), (1, .int x1), (2, .int x2), (3, .int x3), (6, .int x6)]) hx hb dX6_make_202 hl (k := 7) rfl rfl (by decide) rfl (fun ls hl => ?_)
                refine lv_goto (tgt := 61) hx hb dX6_make_205 (by decide) ?_
                exact ih61 (x7 + 1) S27 _ _ ls hP hD hS (lv_sub hl [3, 4, 5, 6, 7, 0] rfl) h
            · have h := o_pos hc h
              refine lv_iconst (v := 1) hx hb dX6_make_162 (by decide) ?_
              refine lv_goto (tgt := 201) hx hb dX6_make_163 (by decide) ?_
              obtain ⟨S28, eS28, h⟩ := o_bind h
              refine mst12 hx hb hK hP hD hS eS28 dX6_make_201 (fun H locs hP hD hS => ?_)
              refine lv_iinc (v := (x7 + 1)) (lv' := [(7, .int (x7 + 1)), (9, .int 1), (8, .int v8), (0, .ref (ad 0)), (1, .int x1), (2, .int x2), (3, .int x3), (6, .int x6)]) hx hb dX6_make_202 hl (k := 7) rfl rfl (by decide) rfl (fun ls hl => ?_)
              refine lv_goto (tgt := 61) hx hb dX6_make_205 (by decide) ?_
              exact ih61 (x7 + 1) S28 _ _ ls hP hD hS (lv_sub hl [3, 4, 5, 6, 7, 0] rfl) h
  exact L61 (S.1 7) 1000 0 S6 _ _ ls hP hD hS (lv_sub hl [2, 3, 4, 5, 1, 0] rfl) h
set_option maxHeartbeats 4000000 in
set_option maxRecDepth 100000 in
theorem m_X6_merit (l : Launch) (hst : l.stackTraces = false) (D : va_G) (cy : Nat → ClassId) (tx : List (ClassId × FieldType)) (ad : Nat → Nat) (R : va_W) (sz : Nat) (S : PS) (x1 : Int32) (x2 : Int32) (v : Int32) (h : q_X6_merit S x1 x2 = some v) : gMi l yX6_merit wsX6_merit ({ frames := 4, cells := 0, slots := 0, locals := 93 }) 0 0 D (gT cy ++ tx) [.ref (ad 0), .int x1, .int x2] sz (mW cy ad S R) (mW cy ad S R) v := by
  refine Met.ofW (cc := cX6_merit) (maxL := 3) (ret := (some .int)) (by decide) rfl ?_
  intro p e s m args below meth c s₁ B hml hv
  obtain ⟨hav, hsz, hP, hK, hD0, hE⟩ := hv
  have hx := B.exec
  have hb := B.bytes
  have hr := B.returns
  have hts := atoms_spec (ws := wsX6_merit) B.pre
  have hown : s.vm.findClass RX6 = some m.cls := findClass_of_methodNamed B.named
  have hlocks := B.notSynchronized
  subst hsz
  have hD := hD0.self (sz := s.heap.size)
  generalize hAe : va_A (mW cy ad S R) s.heap.size = A at hD hE ⊢
  have hA : ∀ q : Nat, s.heap.size ≤ q → A q := fun q h => by rw [← hAe]; exact Or.inr h
  have hS : va_S A s.heap s.heap [] := va_S.rf
  have iX6 : ∀ w ∈ u_ws RX6 TX6 22, w ∈ wsX6_merit := by decide +kernel
  have hf27 := hts (.fieldLink RX6 27 "InlinePlannerModel" "sizes" "[I") (by decide +kernel)
  have hf63 := hts (.fieldLink RX6 63 "InlinePlannerModel" "weights" "[I") (by decide +kernel)
  refine g_entry (n := 3) hav (Nat.le_of_ble_eq_true rfl) (fun ls hl => ?_)
  have hl : lv_has ls 3 [(0, .ref (ad 0)), (1, .int x1), (2, .int x2)] := hl
  refine g_nameQ (fun Q hQ => ?_)
  unfold q_X6_merit at h
  refine lv_sipush (v := 1000) hx hb dX6_merit_0 (by decide) ?_
  refine lv_aload_n hx hb dX6_merit_3 rfl (lv_at hl 0 rfl) ?_
  refine mgX6_21 hx hb hts iX6 hown hK hP hf63 dX6_merit_4 ?_
  refine lv_bipush (v := 8) hx hb dX6_merit_7 (by decide) ?_
  refine lv_iload_n hx hb dX6_merit_9 rfl (lv_at hl 1 rfl) ?_
  refine lv_imul hx hb dX6_merit_10 ?_
  refine lv_iload_n hx hb dX6_merit_11 rfl (lv_at hl 2 rfl) ?_
  refine lv_iadd hx hb dX6_merit_12 ?_
  obtain ⟨v1, ev1, h⟩ := o_bind h
  refine mld13 hx hb hK hP ev1 dX6_merit_13 ?_
  refine lv_imul hx hb dX6_merit_14 ?_
  refine lv_aload_n hx hb dX6_merit_15 rfl (lv_at hl 0 rfl) ?_
  refine mgX6_7 hx hb hts iX6 hown hK hP hf27 dX6_merit_16 ?_
  refine lv_aload_n hx hb dX6_merit_19 rfl (lv_at hl 0 rfl) ?_
  refine lv_iload_n hx hb dX6_merit_20 rfl (lv_at hl 1 rfl) ?_
  refine lv_iload_n hx hb dX6_merit_21 rfl (lv_at hl 2 rfl) ?_
  obtain ⟨v2, ev2, h⟩ := o_bind h
  refine g_cVi (As := [.int x1, .int x2]) (rest := [.ref (ad 5), .int (1000 * v1)]) ⟨hx, hb, hml, hown, hts⟩ (m_X6_targetsOf l hst D cy tx ad R _ S x1 x2 v2 ev2) (cwV 2 hts gX6_merit_X6_targetsOf rfl rfl rfl (by decide +kernel) ⟨Nat.le_of_ble_eq_true rfl, Nat.le_of_ble_eq_true rfl⟩) (va_recv hK hP (ci := 6) (q0 := 0) rfl rfl) hP hK hD hS hA hE rfl hl.1 rfl (Nat.le_of_ble_eq_true rfl) dX6_merit_22 ⟨Nat.le_of_ble_eq_true rfl, Nat.le_of_ble_eq_true rfl⟩ (fun H locs hP hD hS => ?_)
  refine lv_iconst (v := 0) hx hb dX6_merit_25 (by decide) ?_
  obtain ⟨v3, ev3, h⟩ := o_bind h
  refine g_cSi (As := [.int v2, .int 0]) (rest := [.ref (ad 5), .int (1000 * v1)]) ⟨hx, hb, hml, hown, hts⟩ (m_X6_member l hst D (gT cy ++ tx) (mW cy ad S R) _ v2 0 v3 ev3) (va_cwS 2 hts gX6_merit_X6_member rfl rfl rfl (by decide +kernel) ⟨Nat.le_of_ble_eq_true rfl, Nat.le_of_ble_eq_true rfl⟩) hP hK hD hS hA hE rfl hl.1 rfl (Nat.le_of_ble_eq_true rfl) dX6_merit_26 ⟨Nat.le_of_ble_eq_true rfl, Nat.le_of_ble_eq_true rfl⟩ (fun H locs hP hD hS => ?_)
  obtain ⟨v4, ev4, h⟩ := o_bind h
  refine mld4 hx hb hK hP ev4 dX6_merit_29 ?_
  obtain ⟨_, hu5, h⟩ := o_bind h
  refine lv_idiv hx hb dX6_merit_30 (nz_spec hu5) ?_
  exact g_iret hQ hx hb hr hP hK hD hS (Nat.le_of_ble_eq_true rfl) (Nat.le_of_ble_eq_true rfl) dX6_merit_31 hlocks (Option.some.inj h)
set_option maxHeartbeats 4000000 in
set_option maxRecDepth 100000 in
theorem m_X6_best (l : Launch) (hst : l.stackTraces = false) (D : va_G) (cy : Nat → ClassId) (tx : List (ClassId × FieldType)) (ad : Nat → Nat) (R : va_W) (sz : Nat) (S : PS)  (v : Int32) (h : q_X6_best S = some v) : gMi l yX6_best wsX6_best ({ frames := 5, cells := 0, slots := 0, locals := 115 }) 0 0 D (gT cy ++ tx) [.ref (ad 0)] sz (mW cy ad S R) (mW cy ad S R) v := by
  refine Met.ofW (cc := cX6_best) (maxL := 6) (ret := (some .int)) (by decide) rfl ?_
  intro p e s m args below meth c s₁ B hml hv
  obtain ⟨hav, hsz, hP, hK, hD0, hE⟩ := hv
  have hx := B.exec
  have hb := B.bytes
  have hr := B.returns
  have hts := atoms_spec (ws := wsX6_best) B.pre
  have hown : s.vm.findClass RX6 = some m.cls := findClass_of_methodNamed B.named
  have hlocks := B.notSynchronized
  subst hsz
  have hD := hD0.self (sz := s.heap.size)
  generalize hAe : va_A (mW cy ad S R) s.heap.size = A at hD hE ⊢
  have hA : ∀ q : Nat, s.heap.size ≤ q → A q := fun q h => by rw [← hAe]; exact Or.inr h
  have hS : va_S A s.heap s.heap [] := va_S.rf
  have iX6 : ∀ w ∈ u_ws RX6 TX6 22, w ∈ wsX6_best := by decide +kernel
  have hf30 := hts (.fieldLink RX6 30 "InlinePlannerModel" "sites" "[I") (by decide +kernel)
  have hf45 := hts (.fieldLink RX6 45 "InlinePlannerModel" "nodeMethods" "[I") (by decide +kernel)
  have hf60 := hts (.fieldLink RX6 60 "InlinePlannerModel" "verdicts" "[I") (by decide +kernel)
  have hf118 := hts (.fieldLink RX6 118 "InlinePlannerModel" "nodes" "I") (by decide +kernel)
  refine g_entry (n := 6) hav (Nat.le_of_ble_eq_true rfl) (fun ls hl => ?_)
  have hl : lv_has ls 6 [(0, .ref (ad 0))] := hl
  refine g_nameQ (fun Q hQ => ?_)
  unfold q_X6_best at h
  refine lv_iconst (v := (-1)) hx hb dX6_best_0 (by decide) ?_
  refine lv_istore_n (lv' := [(1, .int (-1)), (0, .ref (ad 0))]) hx hb dX6_best_1 rfl hl (by decide) rfl (fun ls hl => ?_)
  refine lv_iconst (v := 0) hx hb dX6_best_2 (by decide) ?_
  refine lv_istore_n (lv' := [(2, .int 0), (1, .int (-1)), (0, .ref (ad 0))]) hx hb dX6_best_3 rfl hl (by decide) rfl (fun ls hl => ?_)
  refine lv_iconst (v := 0) hx hb dX6_best_4 (by decide) ?_
  refine lv_istore_n (lv' := [(3, .int 0), (2, .int 0), (1, .int (-1)), (0, .ref (ad 0))]) hx hb dX6_best_5 rfl hl (by decide) rfl (fun ls hl => ?_)
  have L6 : ∀ (n6 : Nat) (x1 : Int32) (x2 : Int32) (x3 : Int32) (H : Heap) (locs : List Loc) (ls : Array Slot), va_P D vwCl (mW cy ad S R) H → va_D A (mW cy ad S R) → va_S A s.heap H locs → lv_has ls 6 [(0, .ref (ad 0)), (1, .int x1), (2, .int x2), (3, .int x3)] → iter3 (q_X6_best_L6 S ) n6 x1 x2 x3 = some v → W p l e (headSpec wsX6_best ({ frames := 5, cells := 0, slots := 0, locals := 115 })).room s m args below meth c H locs 0 0 Q (F0 m 6 ls []) := by
    intro  n6
    induction n6 with
    | zero =>
      intro x1 x2 x3 H locs ls hP hD hS hl h
      exact (it3_0 h).elim
    | succ n6 ih6 =>
      intro x1 x2 x3 H locs ls hP hD hS hl h
      have h : q_X6_best_L6 S  (iter3 (q_X6_best_L6 S ) n6) x1 x2 x3 = some v := h
      unfold q_X6_best_L6 at h
      refine lv_iload_n hx hb dX6_best_6 rfl (lv_at hl 3 rfl) ?_
      refine lv_aload_n hx hb dX6_best_7 rfl (lv_at hl 0 rfl) ?_
      refine mgX6_14 hx hb hts iX6 hown hK hP hf118 dX6_best_8 ?_
      refine lv_icmp_ge (tgt := 98) hx hb dX6_best_11 (by decide) (fun hc => ?_) (fun hc => ?_)
      · have h := o_pos hc h
        refine lv_iload_n hx hb dX6_best_98 rfl (lv_at hl 1 rfl) ?_
        exact g_iret hQ hx hb hr hP hK hD hS (Nat.le_of_ble_eq_true rfl) (Nat.le_of_ble_eq_true rfl) dX6_best_99 hlocks (Option.some.inj h)
      · have h := o_neg hc h
        refine lv_iconst (v := 0) hx hb dX6_best_14 (by decide) ?_
        refine lv_istore (lv' := [(4, .int 0), (0, .ref (ad 0)), (1, .int x1), (2, .int x2), (3, .int x3)]) hx hb dX6_best_15 hl (by decide) rfl (fun ls hl => ?_)
        have L17 : ∀ (n17 : Nat) (x1 : Int32) (x2 : Int32) (x4 : Int32) (H : Heap) (locs : List Loc) (ls : Array Slot), va_P D vwCl (mW cy ad S R) H → va_D A (mW cy ad S R) → va_S A s.heap H locs → lv_has ls 6 [(0, .ref (ad 0)), (1, .int x1), (2, .int x2), (3, .int x3), (4, .int x4)] → iter3 (q_X6_best_L17 S x3 (iter3 (q_X6_best_L6 S ) n6)) n17 x1 x2 x4 = some v → W p l e (headSpec wsX6_best ({ frames := 5, cells := 0, slots := 0, locals := 115 })).room s m args below meth c H locs 0 0 Q (F0 m 17 ls []) := by
          intro  n17
          induction n17 with
          | zero =>
            intro x1 x2 x4 H locs ls hP hD hS hl h
            exact (it3_0 h).elim
          | succ n17 ih17 =>
            intro x1 x2 x4 H locs ls hP hD hS hl h
            have h : q_X6_best_L17 S x3 (iter3 (q_X6_best_L6 S ) n6) (iter3 (q_X6_best_L17 S x3 (iter3 (q_X6_best_L6 S ) n6)) n17) x1 x2 x4 = some v := h
            unfold q_X6_best_L17 at h
            refine lv_iload hx hb dX6_best_17 (lv_at hl 4 rfl) ?_
            refine lv_aload_n hx hb dX6_best_19 rfl (lv_at hl 0 rfl) ?_
            refine mgX6_8 hx hb hts iX6 hown hK hP hf30 dX6_best_20 ?_
            refine lv_aload_n hx hb dX6_best_23 rfl (lv_at hl 0 rfl) ?_
            refine mgX6_15 hx hb hts iX6 hown hK hP hf45 dX6_best_24 ?_
            refine lv_iload_n hx hb dX6_best_27 rfl (lv_at hl 3 rfl) ?_
            obtain ⟨v1, ev1, h⟩ := o_bind h
            refine mld7 hx hb hK hP ev1 dX6_best_28 ?_
            obtain ⟨v2, ev2, h⟩ := o_bind h
            refine mld5 hx hb hK hP ev2 dX6_best_29 ?_
            refine lv_icmp_ge (tgt := 92) hx hb dX6_best_30 (by decide) (fun hc => ?_) (fun hc => ?_)
            · have h := o_pos hc h
              refine lv_iinc (v := (x3 + 1)) (lv' := [(3, .int (x3 + 1)), (0, .ref (ad 0)), (1, .int x1), (2, .int x2), (4, .int x4)]) hx hb dX6_best_92 hl (k := 3) rfl rfl (by decide) rfl (fun ls hl => ?_)
              refine lv_goto (tgt := 6) hx hb dX6_best_95 (by decide) ?_
              exact ih6 x1 x2 (x3 + 1) _ _ ls hP hD hS (lv_sub hl [1, 2, 3, 0] rfl) h
            · have h := o_neg hc h
              refine lv_aload_n hx hb dX6_best_33 rfl (lv_at hl 0 rfl) ?_
              refine mgX6_20 hx hb hts iX6 hown hK hP hf60 dX6_best_34 ?_
              refine lv_bipush (v := 8) hx hb dX6_best_37 (by decide) ?_
              refine lv_iload_n hx hb dX6_best_39 rfl (lv_at hl 3 rfl) ?_
              refine lv_imul hx hb dX6_best_40 ?_
              refine lv_iload hx hb dX6_best_41 (lv_at hl 4 rfl) ?_
              refine lv_iadd hx hb dX6_best_43 ?_
              obtain ⟨v3, ev3, h⟩ := o_bind h
              refine mld12 hx hb hK hP ev3 dX6_best_44 ?_
              refine lv_iconst (v := (-1)) hx hb dX6_best_45 (by decide) ?_
              refine lv_icmp_eq (tgt := 52) hx hb dX6_best_46 (by decide) (fun hc => ?_) (fun hc => ?_)
              · have h := o_pos hc h
                refine lv_aload_n hx hb dX6_best_52 rfl (lv_at hl 0 rfl) ?_
                refine lv_iload_n hx hb dX6_best_53 rfl (lv_at hl 3 rfl) ?_
                refine lv_iload hx hb dX6_best_54 (lv_at hl 4 rfl) ?_
                obtain ⟨v4, ev4, h⟩ := o_bind h
                refine g_cVi (As := [.int x3, .int x4]) (rest := []) ⟨hx, hb, hml, hown, hts⟩ (m_X6_merit l hst D cy tx ad R _ S x3 x4 v4 ev4) (cwV 2 hts gX6_best_X6_merit rfl rfl rfl (by decide +kernel) ⟨Nat.le_of_ble_eq_true rfl, Nat.le_of_ble_eq_true rfl⟩) (va_recv hK hP (ci := 6) (q0 := 0) rfl rfl) hP hK hD hS hA hE rfl hl.1 rfl (Nat.le_of_ble_eq_true rfl) dX6_best_56 ⟨Nat.le_of_ble_eq_true rfl, Nat.le_of_ble_eq_true rfl⟩ (fun H locs hP hD hS => ?_)
                refine lv_istore (lv' := [(5, .int v4), (0, .ref (ad 0)), (1, .int x1), (2, .int x2), (3, .int x3), (4, .int x4)]) hx hb dX6_best_59 hl (by decide) rfl (fun ls hl => ?_)
                refine lv_iload_n hx hb dX6_best_61 rfl (lv_at hl 2 rfl) ?_
                refine lv_iconst (v := (-1)) hx hb dX6_best_62 (by decide) ?_
                refine lv_icmp_eq (tgt := 75) hx hb dX6_best_63 (by decide) (fun hc => ?_) (fun hc => ?_)
                · have h := o_pos hc h
                  refine lv_bipush (v := 8) hx hb dX6_best_75 (by decide) ?_
                  refine lv_iload_n hx hb dX6_best_77 rfl (lv_at hl 4 rfl) ?_
                  refine lv_imul hx hb dX6_best_78 ?_
                  refine lv_iload hx hb dX6_best_79 (lv_at hl 5 rfl) ?_
                  refine lv_iadd hx hb dX6_best_81 ?_
                  refine lv_istore_n (lv' := [(1, .int ((8 * x3) + x4)), (5, .int v4), (0, .ref (ad 0)), (2, .int x2), (3, .int x3), (4, .int x4)]) hx hb dX6_best_82 rfl hl (by decide) rfl (fun ls hl => ?_)
                  refine lv_iload hx hb dX6_best_83 (lv_at hl 1 rfl) ?_
                  refine lv_istore_n (lv' := [(2, .int v4), (1, .int ((8 * x3) + x4)), (5, .int v4), (0, .ref (ad 0)), (3, .int x3), (4, .int x4)]) hx hb dX6_best_85 rfl hl (by decide) rfl (fun ls hl => ?_)
                  refine lv_iinc (v := (x4 + 1)) (lv' := [(4, .int (x4 + 1)), (2, .int v4), (1, .int ((8 * x3) + x4)), (5, .int v4), (0, .ref (ad 0)), (3, .int x3)]) hx hb dX6_best_86 hl (k := 5) rfl rfl (by decide) rfl (fun ls hl => ?_)
                  refine lv_goto (tgt := 17) hx hb dX6_best_89 (by decide) ?_
                  exact ih17 ((8 * x3) + x4) v4 (x4 + 1) _ _ ls hP hD hS (lv_sub hl [4, 2, 1, 5, 0] rfl) h
                · have h := o_neg hc h
                  refine lv_iload hx hb dX6_best_66 (lv_at hl 0 rfl) ?_
                  refine lv_iload_n hx hb dX6_best_68 rfl (lv_at hl 3 rfl) ?_
                  refine lv_icmp_gt (tgt := 75) hx hb dX6_best_69 (by decide) (fun hc => ?_) (fun hc => ?_)
                  · have h := o_pos hc h
                    refine lv_bipush (v := 8) hx hb dX6_best_75 (by decide) ?_
                    refine lv_iload_n hx hb dX6_best_77 rfl (lv_at hl 4 rfl) ?_
                    refine lv_imul hx hb dX6_best_78 ?_
                    refine lv_iload hx hb dX6_best_79 (lv_at hl 5 rfl) ?_
                    refine lv_iadd hx hb dX6_best_81 ?_
                    refine lv_istore_n (lv' := [(1, .int ((8 * x3) + x4)), (5, .int v4), (0, .ref (ad 0)), (2, .int x2), (3, .int x3), (4, .int x4)]) hx hb dX6_best_82 rfl hl (by decide) rfl (fun ls hl => ?_)
                    refine lv_iload hx hb dX6_best_83 (lv_at hl 1 rfl) ?_
                    refine lv_istore_n (lv' := [(2, .int v4), (1, .int ((8 * x3) + x4)), (5, .int v4), (0, .ref (ad 0)), (3, .int x3), (4, .int x4)]) hx hb dX6_best_85 rfl hl (by decide) rfl (fun ls hl => ?_)
                    refine lv_iinc (v := (x4 + 1)) (lv' := [(4, .int (x4 + 1)), (2, .int v4), (1, .int ((8 * x3) + x4)), (5, .int v4), (0, .ref (ad 0)), (3, .int x3)]) hx hb dX6_best_86 hl (k := 5) rfl rfl (by decide) rfl (fun ls hl => ?_)
                    refine lv_goto (tgt := 17) hx hb dX6_best_89 (by decide) ?_
                    exact ih17 ((8 * x3) + x4) v4 (x4 + 1) _ _ ls hP hD hS (lv_sub hl [4, 2, 1, 5, 0] rfl) h
                  · have h := o_neg hc h
                    refine lv_goto (tgt := 86) hx hb dX6_best_72 (by decide) ?_
                    refine lv_iinc (v := (x4 + 1)) (lv' := [(4, .int (x4 + 1)), (5, .int v4), (0, .ref (ad 0)), (1, .int x1), (2, .int x2), (3, .int x3)]) hx hb dX6_best_86 hl (k := 5) rfl rfl (by decide) rfl (fun ls hl => ?_)
                    refine lv_goto (tgt := 17) hx hb dX6_best_89 (by decide) ?_
                    exact ih17 x1 x2 (x4 + 1) _ _ ls hP hD hS (lv_sub hl [2, 3, 4, 5, 0] rfl) h
              · have h := o_neg hc h
                refine lv_goto (tgt := 86) hx hb dX6_best_49 (by decide) ?_
                refine lv_iinc (v := (x4 + 1)) (lv' := [(4, .int (x4 + 1)), (0, .ref (ad 0)), (1, .int x1), (2, .int x2), (3, .int x3)]) hx hb dX6_best_86 hl (k := 4) rfl rfl (by decide) rfl (fun ls hl => ?_)
                refine lv_goto (tgt := 17) hx hb dX6_best_89 (by decide) ?_
                exact ih17 x1 x2 (x4 + 1) _ _ ls hP hD hS (lv_sub hl [1, 2, 3, 4, 0] rfl) h
        exact L17  1000 x1 x2 0 _ _ ls hP hD hS (lv_sub hl [1, 2, 3, 4, 0] rfl) h
  exact L6  1000 (-1) 0 0 _ _ ls hP hD hS (lv_sub hl [3, 2, 1, 0] rfl) h
set_option maxHeartbeats 4000000 in
set_option maxRecDepth 100000 in
theorem m_X6_wholeSize (l : Launch) (hst : l.stackTraces = false) (D : va_G) (cy : Nat → ClassId) (tx : List (ClassId × FieldType)) (ad : Nat → Nat) (R : va_W) (sz : Nat) (S : PS)  (v : Int32) (h : q_X6_wholeSize S = some v) : gMi l yX6_wholeSize wsX6_wholeSize ({ frames := 0, cells := 0, slots := 0, locals := 0 }) 0 0 D (gT cy ++ tx) [.ref (ad 0)] sz (mW cy ad S R) (mW cy ad S R) v := by
  refine Met.ofW (cc := cX6_wholeSize) (maxL := 3) (ret := (some .int)) (by decide) rfl ?_
  intro p e s m args below meth c s₁ B hml hv
  obtain ⟨hav, hsz, hP, hK, hD0, hE⟩ := hv
  have hx := B.exec
  have hb := B.bytes
  have hr := B.returns
  have hts := atoms_spec (ws := wsX6_wholeSize) B.pre
  have hown : s.vm.findClass RX6 = some m.cls := findClass_of_methodNamed B.named
  have hlocks := B.notSynchronized
  subst hsz
  have hD := hD0.self (sz := s.heap.size)
  generalize hAe : va_A (mW cy ad S R) s.heap.size = A at hD hE ⊢
  have hA : ∀ q : Nat, s.heap.size ≤ q → A q := fun q h => by rw [← hAe]; exact Or.inr h
  have hS : va_S A s.heap s.heap [] := va_S.rf
  have iX6 : ∀ w ∈ u_ws RX6 TX6 22, w ∈ wsX6_wholeSize := by decide +kernel
  have hf27 := hts (.fieldLink RX6 27 "InlinePlannerModel" "sizes" "[I") (by decide +kernel)
  have hf45 := hts (.fieldLink RX6 45 "InlinePlannerModel" "nodeMethods" "[I") (by decide +kernel)
  have hf118 := hts (.fieldLink RX6 118 "InlinePlannerModel" "nodes" "I") (by decide +kernel)
  refine g_entry (n := 3) hav (Nat.le_of_ble_eq_true rfl) (fun ls hl => ?_)
  have hl : lv_has ls 3 [(0, .ref (ad 0))] := hl
  refine g_nameQ (fun Q hQ => ?_)
  unfold q_X6_wholeSize at h
  refine lv_iconst (v := 0) hx hb dX6_wholeSize_0 (by decide) ?_
  refine lv_istore_n (lv' := [(1, .int 0), (0, .ref (ad 0))]) hx hb dX6_wholeSize_1 rfl hl (by decide) rfl (fun ls hl => ?_)
  refine lv_iconst (v := 0) hx hb dX6_wholeSize_2 (by decide) ?_
  refine lv_istore_n (lv' := [(2, .int 0), (1, .int 0), (0, .ref (ad 0))]) hx hb dX6_wholeSize_3 rfl hl (by decide) rfl (fun ls hl => ?_)
  have L4 : ∀ (n4 : Nat) (x1 : Int32) (x2 : Int32) (H : Heap) (locs : List Loc) (ls : Array Slot), va_P D vwCl (mW cy ad S R) H → va_D A (mW cy ad S R) → va_S A s.heap H locs → lv_has ls 3 [(0, .ref (ad 0)), (1, .int x1), (2, .int x2)] → iter2 (q_X6_wholeSize_L4 S ) n4 x1 x2 = some v → W p l e (headSpec wsX6_wholeSize ({ frames := 0, cells := 0, slots := 0, locals := 0 })).room s m args below meth c H locs 0 0 Q (F0 m 4 ls []) := by
    intro  n4
    induction n4 with
    | zero =>
      intro x1 x2 H locs ls hP hD hS hl h
      exact (it2_0 h).elim
    | succ n4 ih4 =>
      intro x1 x2 H locs ls hP hD hS hl h
      have h : q_X6_wholeSize_L4 S  (iter2 (q_X6_wholeSize_L4 S ) n4) x1 x2 = some v := h
      unfold q_X6_wholeSize_L4 at h
      refine lv_iload_n hx hb dX6_wholeSize_4 rfl (lv_at hl 2 rfl) ?_
      refine lv_aload_n hx hb dX6_wholeSize_5 rfl (lv_at hl 0 rfl) ?_
      refine mgX6_14 hx hb hts iX6 hown hK hP hf118 dX6_wholeSize_6 ?_
      refine lv_icmp_ge (tgt := 32) hx hb dX6_wholeSize_9 (by decide) (fun hc => ?_) (fun hc => ?_)
      · have h := o_pos hc h
        refine lv_iload_n hx hb dX6_wholeSize_32 rfl (lv_at hl 1 rfl) ?_
        exact g_iret hQ hx hb hr hP hK hD hS (Nat.le_of_ble_eq_true rfl) (Nat.le_of_ble_eq_true rfl) dX6_wholeSize_33 hlocks (Option.some.inj h)
      · have h := o_neg hc h
        refine lv_iload_n hx hb dX6_wholeSize_12 rfl (lv_at hl 1 rfl) ?_
        refine lv_aload_n hx hb dX6_wholeSize_13 rfl (lv_at hl 0 rfl) ?_
        refine mgX6_7 hx hb hts iX6 hown hK hP hf27 dX6_wholeSize_14 ?_
        refine lv_aload_n hx hb dX6_wholeSize_17 rfl (lv_at hl 0 rfl) ?_
        refine mgX6_15 hx hb hts iX6 hown hK hP hf45 dX6_wholeSize_18 ?_
        refine lv_iload_n hx hb dX6_wholeSize_21 rfl (lv_at hl 2 rfl) ?_
        obtain ⟨v1, ev1, h⟩ := o_bind h
        refine mld7 hx hb hK hP ev1 dX6_wholeSize_22 ?_
        obtain ⟨v2, ev2, h⟩ := o_bind h
        refine mld4 hx hb hK hP ev2 dX6_wholeSize_23 ?_
        refine lv_iadd hx hb dX6_wholeSize_24 ?_
        refine lv_istore_n (lv' := [(1, .int (x1 + v2)), (0, .ref (ad 0)), (2, .int x2)]) hx hb dX6_wholeSize_25 rfl hl (by decide) rfl (fun ls hl => ?_)
        refine lv_iinc (v := (x2 + 1)) (lv' := [(2, .int (x2 + 1)), (1, .int (x1 + v2)), (0, .ref (ad 0))]) hx hb dX6_wholeSize_26 hl (k := 2) rfl rfl (by decide) rfl (fun ls hl => ?_)
        refine lv_goto (tgt := 4) hx hb dX6_wholeSize_29 (by decide) ?_
        exact ih4 (x1 + v2) (x2 + 1) _ _ ls hP hD hS (lv_sub hl [2, 1, 0] rfl) h
  exact L4  1000 0 0 _ _ ls hP hD hS (lv_sub hl [2, 1, 0] rfl) h
set_option maxHeartbeats 4000000 in
set_option maxRecDepth 100000 in
theorem m_X6_plan (l : Launch) (hst : l.stackTraces = false) (D : va_G) (cy : Nat → ClassId) (tx : List (ClassId × FieldType)) (ad : Nat → Nat) (R : va_W) (sz : Nat) (S : PS) (x1 : Int32) (S' : PS) (v : Int32) (h : q_X6_plan S x1 = some (S', v)) : gMi l yX6_plan wsX6_plan ({ frames := 6, cells := 0, slots := 0, locals := 140 }) 0 0 D (gT cy ++ tx) [.ref (ad 0), .int x1] sz (mW cy ad S R) (mW cy ad S' R) v := by
  refine Met.ofW (cc := cX6_plan) (maxL := 5) (ret := (some .int)) (by decide) rfl ?_
  intro p e s m args below meth c s₁ B hml hv
  obtain ⟨hav, hsz, hP, hK, hD0, hE⟩ := hv
  have hx := B.exec
  have hb := B.bytes
  have hr := B.returns
  have hts := atoms_spec (ws := wsX6_plan) B.pre
  have hown : s.vm.findClass RX6 = some m.cls := findClass_of_methodNamed B.named
  have hlocks := B.notSynchronized
  subst hsz
  have hD := hD0.self (sz := s.heap.size)
  generalize hAe : va_A (mW cy ad S R) s.heap.size = A at hD hE ⊢
  have hA : ∀ q : Nat, s.heap.size ≤ q → A q := fun q h => by rw [← hAe]; exact Or.inr h
  have hS : va_S A s.heap s.heap [] := va_S.rf
  have iX6 : ∀ w ∈ u_ws RX6 TX6 22, w ∈ wsX6_plan := by decide +kernel
  have hf27 := hts (.fieldLink RX6 27 "InlinePlannerModel" "sizes" "[I") (by decide +kernel)
  have hf36 := hts (.fieldLink RX6 36 "InlinePlannerModel" "budget" "I") (by decide +kernel)
  have hf54 := hts (.fieldLink RX6 54 "InlinePlannerModel" "nodeDepths" "[I") (by decide +kernel)
  have hf60 := hts (.fieldLink RX6 60 "InlinePlannerModel" "verdicts" "[I") (by decide +kernel)
  have hf63 := hts (.fieldLink RX6 63 "InlinePlannerModel" "weights" "[I") (by decide +kernel)
  have hf66 := hts (.fieldLink RX6 66 "InlinePlannerModel" "thrown" "I") (by decide +kernel)
  have hf98 := hts (.fieldLink RX6 98 "InlinePlannerModel" "hasPlan" "Z") (by decide +kernel)
  have hf118 := hts (.fieldLink RX6 118 "InlinePlannerModel" "nodes" "I") (by decide +kernel)
  refine g_entry (n := 5) hav (Nat.le_of_ble_eq_true rfl) (fun ls hl => ?_)
  have hl : lv_has ls 5 [(0, .ref (ad 0)), (1, .int x1)] := hl
  refine g_nameQ (fun Q hQ => ?_)
  unfold q_X6_plan at h
  refine lv_aload_n hx hb dX6_plan_0 rfl (lv_at hl 0 rfl) ?_
  refine lv_iconst (v := 0) hx hb dX6_plan_1 (by decide) ?_
  obtain ⟨S1, eS1, h⟩ := o_bind h
  refine mpX6_0 hx hb hts iX6 hown hK hP hD hS hf66 eS1 dX6_plan_2 (fun H locs hP hD hS => ?_)
  refine lv_aload_n hx hb dX6_plan_5 rfl (lv_at hl 0 rfl) ?_
  refine lv_iload_n hx hb dX6_plan_6 rfl (lv_at hl 1 rfl) ?_
  obtain ⟨v2, ev2, h⟩ := o_bind h
  refine g_cVi (As := [.int x1]) (rest := []) ⟨hx, hb, hml, hown, hts⟩ (m_X6_isMethod l hst D cy tx ad R _ S1 x1 v2 ev2) (cwV 1 hts gX6_plan_X6_isMethod rfl rfl rfl (by decide +kernel) ⟨Nat.le_of_ble_eq_true rfl, Nat.le_of_ble_eq_true rfl⟩) (va_recv hK hP (ci := 6) (q0 := 0) rfl rfl) hP hK hD hS hA hE rfl hl.1 rfl (Nat.le_of_ble_eq_true rfl) dX6_plan_7 ⟨Nat.le_of_ble_eq_true rfl, Nat.le_of_ble_eq_true rfl⟩ (fun H locs hP hD hS => ?_)
  refine lv_if_ne (tgt := 19) hx hb dX6_plan_10 (by decide) (fun hc => ?_) (fun hc => ?_)
  · have h := o_neg hc h
    refine lv_aload_n hx hb dX6_plan_19 rfl (lv_at hl 0 rfl) ?_
    refine lv_iconst (v := 0) hx hb dX6_plan_20 (by decide) ?_
    obtain ⟨S3, eS3, h⟩ := o_bind h
    refine mpX6_14 hx hb hts iX6 hown hK hP hD hS hf118 eS3 dX6_plan_21 (fun H locs hP hD hS => ?_)
    refine lv_aload_n hx hb dX6_plan_24 rfl (lv_at hl 0 rfl) ?_
    refine lv_iconst (v := 1) hx hb dX6_plan_25 (by decide) ?_
    obtain ⟨S4, eS4, h⟩ := o_bind h
    refine mpX6_13 hx hb hts iX6 hown hK hP hD hS hf98 (by decide) eS4 dX6_plan_26 (fun H locs hP hD hS => ?_)
    refine lv_aload_n hx hb dX6_plan_29 rfl (lv_at hl 0 rfl) ?_
    refine lv_iload_n hx hb dX6_plan_30 rfl (lv_at hl 1 rfl) ?_
    refine lv_iconst (v := 1) hx hb dX6_plan_31 (by decide) ?_
    refine lv_iconst (v := 0) hx hb dX6_plan_32 (by decide) ?_
    refine lv_iconst (v := (-1)) hx hb dX6_plan_33 (by decide) ?_
    refine lv_iconst (v := (-1)) hx hb dX6_plan_34 (by decide) ?_
    obtain ⟨S6, ev5, h⟩ := o_bind h
    refine g_cVv (As := [.int x1, .int 1, .int 0, .int (-1), .int (-1)]) (rest := []) ⟨hx, hb, hml, hown, hts⟩ (m_X6_make l hst D cy tx ad R _ S4 x1 1 0 (-1) (-1) S6 ev5) (cwV 5 hts gX6_plan_X6_make rfl rfl rfl (by decide +kernel) ⟨Nat.le_of_ble_eq_true rfl, Nat.le_of_ble_eq_true rfl⟩) (va_recv hK hP (ci := 6) (q0 := 0) rfl rfl) hP hK hD hS hA hE rfl hl.1 rfl (Nat.le_of_ble_eq_true rfl) dX6_plan_35 ⟨Nat.le_of_ble_eq_true rfl, Nat.le_of_ble_eq_true rfl⟩ (fun H locs hP hD hS => ?_)
    refine lv_aload_n hx hb dX6_plan_38 rfl (lv_at hl 0 rfl) ?_
    obtain ⟨v7, ev7, h⟩ := o_bind h
    refine g_cVi (As := []) (rest := []) ⟨hx, hb, hml, hown, hts⟩ (m_X6_best l hst D cy tx ad R _ S6  v7 ev7) (cwV 0 hts gX6_plan_X6_best rfl rfl rfl (by decide +kernel) ⟨Nat.le_of_ble_eq_true rfl, Nat.le_of_ble_eq_true rfl⟩) (va_recv hK hP (ci := 6) (q0 := 0) rfl rfl) hP hK hD hS hA hE rfl hl.1 rfl (Nat.le_of_ble_eq_true rfl) dX6_plan_39 ⟨Nat.le_of_ble_eq_true rfl, Nat.le_of_ble_eq_true rfl⟩ (fun H locs hP hD hS => ?_)
    refine lv_istore_n (lv' := [(2, .int v7), (0, .ref (ad 0)), (1, .int x1)]) hx hb dX6_plan_42 rfl hl (by decide) rfl (fun ls hl => ?_)
    have L43 : ∀ (n43 : Nat) (x2 : Int32) (S : PS) (H : Heap) (locs : List Loc) (ls : Array Slot), va_P D vwCl (mW cy ad S R) H → va_D A (mW cy ad S R) → va_S A s.heap H locs → lv_has ls 5 [(0, .ref (ad 0)), (2, .int x2)] → iter2 (q_X6_plan_L43  ) n43 x2 S = some (S', v) → W p l e (headSpec wsX6_plan ({ frames := 6, cells := 0, slots := 0, locals := 140 })).room s m args below meth c H locs 0 0 Q (F0 m 43 ls []) := by
      intro  n43
      induction n43 with
      | zero =>
        intro x2 S H locs ls hP hD hS hl h
        exact (it2_0 h).elim
      | succ n43 ih43 =>
        intro x2 S H locs ls hP hD hS hl h
        have h : q_X6_plan_L43   (iter2 (q_X6_plan_L43  ) n43) x2 S = some (S', v) := h
        unfold q_X6_plan_L43 at h
        refine lv_iload_n hx hb dX6_plan_43 rfl (lv_at hl 1 rfl) ?_
        refine lv_iconst (v := (-1)) hx hb dX6_plan_44 (by decide) ?_
        refine lv_icmp_eq (tgt := 154) hx hb dX6_plan_45 (by decide) (fun hc => ?_) (fun hc => ?_)
        · have h := o_pos hc h
          refine lv_aload_n hx hb dX6_plan_154 rfl (lv_at hl 0 rfl) ?_
          refine mgX6_14 hx hb hts iX6 hown hK hP hf118 dX6_plan_155 ?_
          obtain ⟨eS, ev⟩ := Prod.mk.inj (Option.some.inj h)
          subst eS
          exact g_iret hQ hx hb hr hP hK hD hS (Nat.le_of_ble_eq_true rfl) (Nat.le_of_ble_eq_true rfl) dX6_plan_158 hlocks ev
        · have h := o_neg hc h
          refine lv_iload_n hx hb dX6_plan_48 rfl (lv_at hl 1 rfl) ?_
          refine lv_bipush (v := 8) hx hb dX6_plan_49 (by decide) ?_
          obtain ⟨_, hu8, h⟩ := o_bind h
          refine lv_idiv hx hb dX6_plan_51 (nz_spec hu8) ?_
          refine lv_istore_n (lv' := [(3, .int (x2 / 8)), (0, .ref (ad 0)), (2, .int x2)]) hx hb dX6_plan_52 rfl hl (by decide) rfl (fun ls hl => ?_)
          refine lv_aload_n hx hb dX6_plan_53 rfl (lv_at hl 1 rfl) ?_
          refine lv_iload_n hx hb dX6_plan_54 rfl (lv_at hl 0 rfl) ?_
          refine lv_iload_n hx hb dX6_plan_55 rfl (lv_at hl 2 rfl) ?_
          refine lv_bipush (v := 8) hx hb dX6_plan_56 (by decide) ?_
          obtain ⟨_, hu9, h⟩ := o_bind h
          refine lv_irem hx hb dX6_plan_58 (nz_spec hu9) ?_
          obtain ⟨v10, ev10, h⟩ := o_bind h
          refine g_cVi (As := [.int (x2 / 8), .int (x2 - x2 / 8 * 8)]) (rest := []) ⟨hx, hb, hml, hown, hts⟩ (m_X6_targetsOf l hst D cy tx ad R _ S (x2 / 8) (x2 - x2 / 8 * 8) v10 ev10) (cwV 2 hts gX6_plan_X6_targetsOf rfl rfl rfl (by decide +kernel) ⟨Nat.le_of_ble_eq_true rfl, Nat.le_of_ble_eq_true rfl⟩) (va_recv hK hP (ci := 6) (q0 := 0) rfl rfl) hP hK hD hS hA hE rfl hl.1 rfl (Nat.le_of_ble_eq_true rfl) dX6_plan_59 ⟨Nat.le_of_ble_eq_true rfl, Nat.le_of_ble_eq_true rfl⟩ (fun H locs hP hD hS => ?_)
          refine lv_iconst (v := 0) hx hb dX6_plan_62 (by decide) ?_
          obtain ⟨v11, ev11, h⟩ := o_bind h
          refine g_cSi (As := [.int v10, .int 0]) (rest := []) ⟨hx, hb, hml, hown, hts⟩ (m_X6_member l hst D (gT cy ++ tx) (mW cy ad S R) _ v10 0 v11 ev11) (va_cwS 2 hts gX6_plan_X6_member rfl rfl rfl (by decide +kernel) ⟨Nat.le_of_ble_eq_true rfl, Nat.le_of_ble_eq_true rfl⟩) hP hK hD hS hA hE rfl hl.1 rfl (Nat.le_of_ble_eq_true rfl) dX6_plan_63 ⟨Nat.le_of_ble_eq_true rfl, Nat.le_of_ble_eq_true rfl⟩ (fun H locs hP hD hS => ?_)
          refine lv_istore (lv' := [(4, .int v11), (3, .int (x2 / 8)), (0, .ref (ad 0)), (2, .int x2)]) hx hb dX6_plan_66 hl (by decide) rfl (fun ls hl => ?_)
          refine lv_aload_n hx hb dX6_plan_68 rfl (lv_at hl 2 rfl) ?_
          refine mgX6_20 hx hb hts iX6 hown hK hP hf60 dX6_plan_69 ?_
          refine lv_iload_n hx hb dX6_plan_72 rfl (lv_at hl 3 rfl) ?_
          refine lv_aload_n hx hb dX6_plan_73 rfl (lv_at hl 2 rfl) ?_
          obtain ⟨v12, ev12, h⟩ := o_bind h
          refine g_cVi (As := []) (rest := [.int x2, .ref (ad 13)]) ⟨hx, hb, hml, hown, hts⟩ (m_X6_wholeSize l hst D cy tx ad R _ S  v12 ev12) (cwV 0 hts gX6_plan_X6_wholeSize rfl rfl rfl (by decide +kernel) ⟨Nat.le_of_ble_eq_true rfl, Nat.le_of_ble_eq_true rfl⟩) (va_recv hK hP (ci := 6) (q0 := 0) rfl rfl) hP hK hD hS hA hE rfl hl.1 rfl (Nat.le_of_ble_eq_true rfl) dX6_plan_74 ⟨Nat.le_of_ble_eq_true rfl, Nat.le_of_ble_eq_true rfl⟩ (fun H locs hP hD hS => ?_)
          refine lv_aload_n hx hb dX6_plan_77 rfl (lv_at hl 2 rfl) ?_
          refine mgX6_7 hx hb hts iX6 hown hK hP hf27 dX6_plan_78 ?_
          refine lv_iload hx hb dX6_plan_81 (lv_at hl 0 rfl) ?_
          obtain ⟨v13, ev13, h⟩ := o_bind h
          refine mld4 hx hb hK hP ev13 dX6_plan_83 ?_
          refine lv_iadd hx hb dX6_plan_84 ?_
          refine lv_aload_n hx hb dX6_plan_85 rfl (lv_at hl 2 rfl) ?_
          refine mgX6_10 hx hb hts iX6 hown hK hP hf36 dX6_plan_86 ?_
          refine lv_icmp_le (tgt := 96) hx hb dX6_plan_89 (by decide) (fun hc => ?_) (fun hc => ?_)
          · have h := o_pos hc h
            refine lv_aload_n hx hb dX6_plan_96 rfl (lv_at hl 2 rfl) ?_
            refine mgX6_14 hx hb hts iX6 hown hK hP hf118 dX6_plan_97 ?_
            refine lv_bipush (v := 50) hx hb dX6_plan_100 (by decide) ?_
            refine lv_icmp_ne (tgt := 110) hx hb dX6_plan_102 (by decide) (fun hc => ?_) (fun hc => ?_)
            · have h := o_neg hc h
              refine lv_iconst (v := 0) hx hb dX6_plan_110 (by decide) ?_
              obtain ⟨S14, eS14, h⟩ := o_bind h
              refine mst12 hx hb hK hP hD hS eS14 dX6_plan_111 (fun H locs hP hD hS => ?_)
              refine lv_aload_n hx hb dX6_plan_112 rfl (lv_at hl 2 rfl) ?_
              refine mgX6_20 hx hb hts iX6 hown hK hP hf60 dX6_plan_113 ?_
              refine lv_iload_n hx hb dX6_plan_116 rfl (lv_at hl 3 rfl) ?_
              obtain ⟨v15, ev15, h⟩ := o_bind h
              refine mld12 hx hb hK hP ev15 dX6_plan_117 ?_
              refine lv_if_ne (tgt := 146) hx hb dX6_plan_118 (by decide) (fun hc => ?_) (fun hc => ?_)
              · have h := o_neg hc h
                refine lv_aload_n hx hb dX6_plan_146 rfl (lv_at hl 2 rfl) ?_
                obtain ⟨v16, ev16, h⟩ := o_bind h
                refine g_cVi (As := []) (rest := []) ⟨hx, hb, hml, hown, hts⟩ (m_X6_best l hst D cy tx ad R _ S14  v16 ev16) (cwV 0 hts gX6_plan_X6_best rfl rfl rfl (by decide +kernel) ⟨Nat.le_of_ble_eq_true rfl, Nat.le_of_ble_eq_true rfl⟩) (va_recv hK hP (ci := 6) (q0 := 0) rfl rfl) hP hK hD hS hA hE rfl hl.1 rfl (Nat.le_of_ble_eq_true rfl) dX6_plan_147 ⟨Nat.le_of_ble_eq_true rfl, Nat.le_of_ble_eq_true rfl⟩ (fun H locs hP hD hS => ?_)
                refine lv_istore_n (lv' := [(2, .int v16), (4, .int v11), (3, .int (x2 / 8)), (0, .ref (ad 0))]) hx hb dX6_plan_150 rfl hl (by decide) rfl (fun ls hl => ?_)
                refine lv_goto (tgt := 43) hx hb dX6_plan_151 (by decide) ?_
                exact ih43 v16 S14 _ _ ls hP hD hS (lv_sub hl [3, 0] rfl) h
              · have h := o_pos hc h
                refine lv_aload_n hx hb dX6_plan_121 rfl (lv_at hl 2 rfl) ?_
                refine lv_iload hx hb dX6_plan_122 (lv_at hl 0 rfl) ?_
                refine lv_aload_n hx hb dX6_plan_124 rfl (lv_at hl 2 rfl) ?_
                refine mgX6_21 hx hb hts iX6 hown hK hP hf63 dX6_plan_125 ?_
                refine lv_iload_n hx hb dX6_plan_128 rfl (lv_at hl 3 rfl) ?_
                obtain ⟨v17, ev17, h⟩ := o_bind h
                refine mld13 hx hb hK hP ev17 dX6_plan_129 ?_
                refine lv_aload_n hx hb dX6_plan_130 rfl (lv_at hl 2 rfl) ?_
                refine mgX6_18 hx hb hts iX6 hown hK hP hf54 dX6_plan_131 ?_
                refine lv_iload_n hx hb dX6_plan_134 rfl (lv_at hl 1 rfl) ?_
                obtain ⟨v18, ev18, h⟩ := o_bind h
                refine mld10 hx hb hK hP ev18 dX6_plan_135 ?_
                refine lv_iconst (v := 1) hx hb dX6_plan_136 (by decide) ?_
                refine lv_iadd hx hb dX6_plan_137 ?_
                refine lv_iload_n hx hb dX6_plan_138 rfl (lv_at hl 1 rfl) ?_
                refine lv_iload_n hx hb dX6_plan_139 rfl (lv_at hl 3 rfl) ?_
                refine lv_bipush (v := 8) hx hb dX6_plan_140 (by decide) ?_
                obtain ⟨_, hu19, h⟩ := o_bind h
                refine lv_irem hx hb dX6_plan_142 (nz_spec hu19) ?_
                obtain ⟨S21, ev20, h⟩ := o_bind h
                refine g_cVv (As := [.int v11, .int v17, .int (v18 + 1), .int (x2 / 8), .int (x2 - x2 / 8 * 8)]) (rest := []) ⟨hx, hb, hml, hown, hts⟩ (m_X6_make l hst D cy tx ad R _ S14 v11 v17 (v18 + 1) (x2 / 8) (x2 - x2 / 8 * 8) S21 ev20) (cwV 5 hts gX6_plan_X6_make rfl rfl rfl (by decide +kernel) ⟨Nat.le_of_ble_eq_true rfl, Nat.le_of_ble_eq_true rfl⟩) (va_recv hK hP (ci := 6) (q0 := 0) rfl rfl) hP hK hD hS hA hE rfl hl.1 rfl (Nat.le_of_ble_eq_true rfl) dX6_plan_143 ⟨Nat.le_of_ble_eq_true rfl, Nat.le_of_ble_eq_true rfl⟩ (fun H locs hP hD hS => ?_)
                refine lv_aload_n hx hb dX6_plan_146 rfl (lv_at hl 2 rfl) ?_
                obtain ⟨v22, ev22, h⟩ := o_bind h
                refine g_cVi (As := []) (rest := []) ⟨hx, hb, hml, hown, hts⟩ (m_X6_best l hst D cy tx ad R _ S21  v22 ev22) (cwV 0 hts gX6_plan_X6_best rfl rfl rfl (by decide +kernel) ⟨Nat.le_of_ble_eq_true rfl, Nat.le_of_ble_eq_true rfl⟩) (va_recv hK hP (ci := 6) (q0 := 0) rfl rfl) hP hK hD hS hA hE rfl hl.1 rfl (Nat.le_of_ble_eq_true rfl) dX6_plan_147 ⟨Nat.le_of_ble_eq_true rfl, Nat.le_of_ble_eq_true rfl⟩ (fun H locs hP hD hS => ?_)
                refine lv_istore_n (lv' := [(2, .int v22), (4, .int v11), (3, .int (x2 / 8)), (0, .ref (ad 0))]) hx hb dX6_plan_150 rfl hl (by decide) rfl (fun ls hl => ?_)
                refine lv_goto (tgt := 43) hx hb dX6_plan_151 (by decide) ?_
                exact ih43 v22 S21 _ _ ls hP hD hS (lv_sub hl [3, 0] rfl) h
            · have h := o_pos hc h
              refine lv_bipush (v := 6) hx hb dX6_plan_105 (by decide) ?_
              refine lv_goto (tgt := 111) hx hb dX6_plan_107 (by decide) ?_
              obtain ⟨S23, eS23, h⟩ := o_bind h
              refine mst12 hx hb hK hP hD hS eS23 dX6_plan_111 (fun H locs hP hD hS => ?_)
              refine lv_aload_n hx hb dX6_plan_112 rfl (lv_at hl 2 rfl) ?_
              refine mgX6_20 hx hb hts iX6 hown hK hP hf60 dX6_plan_113 ?_
              refine lv_iload_n hx hb dX6_plan_116 rfl (lv_at hl 3 rfl) ?_
              obtain ⟨v24, ev24, h⟩ := o_bind h
              refine mld12 hx hb hK hP ev24 dX6_plan_117 ?_
              refine lv_if_ne (tgt := 146) hx hb dX6_plan_118 (by decide) (fun hc => ?_) (fun hc => ?_)
              · have h := o_neg hc h
                refine lv_aload_n hx hb dX6_plan_146 rfl (lv_at hl 2 rfl) ?_
                obtain ⟨v25, ev25, h⟩ := o_bind h
                refine g_cVi (As := []) (rest := []) ⟨hx, hb, hml, hown, hts⟩ (m_X6_best l hst D cy tx ad R _ S23  v25 ev25) (cwV 0 hts gX6_plan_X6_best rfl rfl rfl (by decide +kernel) ⟨Nat.le_of_ble_eq_true rfl, Nat.le_of_ble_eq_true rfl⟩) (va_recv hK hP (ci := 6) (q0 := 0) rfl rfl) hP hK hD hS hA hE rfl hl.1 rfl (Nat.le_of_ble_eq_true rfl) dX6_plan_147 ⟨Nat.le_of_ble_eq_true rfl, Nat.le_of_ble_eq_true rfl⟩ (fun H locs hP hD hS => ?_)
                refine lv_istore_n (lv' := [(2, .int v25), (4, .int v11), (3, .int (x2 / 8)), (0, .ref (ad 0))]) hx hb dX6_plan_150 rfl hl (by decide) rfl (fun ls hl => ?_)
                refine lv_goto (tgt := 43) hx hb dX6_plan_151 (by decide) ?_
                exact ih43 v25 S23 _ _ ls hP hD hS (lv_sub hl [3, 0] rfl) h
              · have h := o_pos hc h
                refine lv_aload_n hx hb dX6_plan_121 rfl (lv_at hl 2 rfl) ?_
                refine lv_iload hx hb dX6_plan_122 (lv_at hl 0 rfl) ?_
                refine lv_aload_n hx hb dX6_plan_124 rfl (lv_at hl 2 rfl) ?_
                refine mgX6_21 hx hb hts iX6 hown hK hP hf63 dX6_plan_125 ?_
                refine lv_iload_n hx hb dX6_plan_128 rfl (lv_at hl 3 rfl) ?_
                obtain ⟨v26, ev26, h⟩ := o_bind h
                refine mld13 hx hb hK hP ev26 dX6_plan_129 ?_
                refine lv_aload_n hx hb dX6_plan_130 rfl (lv_at hl 2 rfl) ?_
                refine mgX6_18 hx hb hts iX6 hown hK hP hf54 dX6_plan_131 ?_
                refine lv_iload_n hx hb dX6_plan_134 rfl (lv_at hl 1 rfl) ?_
                obtain ⟨v27, ev27, h⟩ := o_bind h
                refine mld10 hx hb hK hP ev27 dX6_plan_135 ?_
                refine lv_iconst (v := 1) hx hb dX6_plan_136 (by decide) ?_
                refine lv_iadd hx hb dX6_plan_137 ?_
                refine lv_iload_n hx hb dX6_plan_138 rfl (lv_at hl 1 rfl) ?_
                refine lv_iload_n hx hb dX6_plan_139 rfl (lv_at hl 3 rfl) ?_
                refine lv_bipush (v := 8) hx hb dX6_plan_140 (by decide) ?_
                obtain ⟨_, hu28, h⟩ := o_bind h
                refine lv_irem hx hb dX6_plan_142 (nz_spec hu28) ?_
                obtain ⟨S30, ev29, h⟩ := o_bind h
                refine g_cVv (As := [.int v11, .int v26, .int (v27 + 1), .int (x2 / 8), .int (x2 - x2 / 8 * 8)]) (rest := []) ⟨hx, hb, hml, hown, hts⟩ (m_X6_make l hst D cy tx ad R _ S23 v11 v26 (v27 + 1) (x2 / 8) (x2 - x2 / 8 * 8) S30 ev29) (cwV 5 hts gX6_plan_X6_make rfl rfl rfl (by decide +kernel) ⟨Nat.le_of_ble_eq_true rfl, Nat.le_of_ble_eq_true rfl⟩) (va_recv hK hP (ci := 6) (q0 := 0) rfl rfl) hP hK hD hS hA hE rfl hl.1 rfl (Nat.le_of_ble_eq_true rfl) dX6_plan_143 ⟨Nat.le_of_ble_eq_true rfl, Nat.le_of_ble_eq_true rfl⟩ (fun H locs hP hD hS => ?_)
                refine lv_aload_n hx hb dX6_plan_146 rfl (lv_at hl 2 rfl) ?_
                obtain ⟨v31, ev31, h⟩ := o_bind h
                refine g_cVi (As := []) (rest := []) ⟨hx, hb, hml, hown, hts⟩ (m_X6_best l hst D cy tx ad R _ S30  v31 ev31) (cwV 0 hts gX6_plan_X6_best rfl rfl rfl (by decide +kernel) ⟨Nat.le_of_ble_eq_true rfl, Nat.le_of_ble_eq_true rfl⟩) (va_recv hK hP (ci := 6) (q0 := 0) rfl rfl) hP hK hD hS hA hE rfl hl.1 rfl (Nat.le_of_ble_eq_true rfl) dX6_plan_147 ⟨Nat.le_of_ble_eq_true rfl, Nat.le_of_ble_eq_true rfl⟩ (fun H locs hP hD hS => ?_)
                refine lv_istore_n (lv' := [(2, .int v31), (4, .int v11), (3, .int (x2 / 8)), (0, .ref (ad 0))]) hx hb dX6_plan_150 rfl hl (by decide) rfl (fun ls hl => ?_)
                refine lv_goto (tgt := 43) hx hb dX6_plan_151 (by decide) ?_
                exact ih43 v31 S30 _ _ ls hP hD hS (lv_sub hl [3, 0] rfl) h
          · have h := o_neg hc h
            refine lv_iconst (v := 5) hx hb dX6_plan_92 (by decide) ?_
            refine lv_goto (tgt := 111) hx hb dX6_plan_93 (by decide) ?_
            obtain ⟨S32, eS32, h⟩ := o_bind h
            refine mst12 hx hb hK hP hD hS eS32 dX6_plan_111 (fun H locs hP hD hS => ?_)
            refine lv_aload_n hx hb dX6_plan_112 rfl (lv_at hl 2 rfl) ?_
            refine mgX6_20 hx hb hts iX6 hown hK hP hf60 dX6_plan_113 ?_
            refine lv_iload_n hx hb dX6_plan_116 rfl (lv_at hl 3 rfl) ?_
            obtain ⟨v33, ev33, h⟩ := o_bind h
            refine mld12 hx hb hK hP ev33 dX6_plan_117 ?_
            refine lv_if_ne (tgt := 146) hx hb dX6_plan_118 (by decide) (fun hc => ?_) (fun hc => ?_)
            · have h := o_neg hc h
              refine lv_aload_n hx hb dX6_plan_146 rfl (lv_at hl 2 rfl) ?_
              obtain ⟨v34, ev34, h⟩ := o_bind h
              refine g_cVi (As := []) (rest := []) ⟨hx, hb, hml, hown, hts⟩ (m_X6_best l hst D cy tx ad R _ S32  v34 ev34) (cwV 0 hts gX6_plan_X6_best rfl rfl rfl (by decide +kernel) ⟨Nat.le_of_ble_eq_true rfl, Nat.le_of_ble_eq_true rfl⟩) (va_recv hK hP (ci := 6) (q0 := 0) rfl rfl) hP hK hD hS hA hE rfl hl.1 rfl (Nat.le_of_ble_eq_true rfl) dX6_plan_147 ⟨Nat.le_of_ble_eq_true rfl, Nat.le_of_ble_eq_true rfl⟩ (fun H locs hP hD hS => ?_)
              refine lv_istore_n (lv' := [(2, .int v34), (4, .int v11), (3, .int (x2 / 8)), (0, .ref (ad 0))]) hx hb dX6_plan_150 rfl hl (by decide) rfl (fun ls hl => ?_)
              refine lv_goto (tgt := 43) hx hb dX6_plan_151 (by decide) ?_
              exact ih43 v34 S32 _ _ ls hP hD hS (lv_sub hl [3, 0] rfl) h
            · have h := o_pos hc h
              refine lv_aload_n hx hb dX6_plan_121 rfl (lv_at hl 2 rfl) ?_
              refine lv_iload hx hb dX6_plan_122 (lv_at hl 0 rfl) ?_
              refine lv_aload_n hx hb dX6_plan_124 rfl (lv_at hl 2 rfl) ?_
              refine mgX6_21 hx hb hts iX6 hown hK hP hf63 dX6_plan_125 ?_
              refine lv_iload_n hx hb dX6_plan_128 rfl (lv_at hl 3 rfl) ?_
              obtain ⟨v35, ev35, h⟩ := o_bind h
              refine mld13 hx hb hK hP ev35 dX6_plan_129 ?_
              refine lv_aload_n hx hb dX6_plan_130 rfl (lv_at hl 2 rfl) ?_
              refine mgX6_18 hx hb hts iX6 hown hK hP hf54 dX6_plan_131 ?_
              refine lv_iload_n hx hb dX6_plan_134 rfl (lv_at hl 1 rfl) ?_
              obtain ⟨v36, ev36, h⟩ := o_bind h
              refine mld10 hx hb hK hP ev36 dX6_plan_135 ?_
              refine lv_iconst (v := 1) hx hb dX6_plan_136 (by decide) ?_
              refine lv_iadd hx hb dX6_plan_137 ?_
              refine lv_iload_n hx hb dX6_plan_138 rfl (lv_at hl 1 rfl) ?_
              refine lv_iload_n hx hb dX6_plan_139 rfl (lv_at hl 3 rfl) ?_
              refine lv_bipush (v := 8) hx hb dX6_plan_140 (by decide) ?_
              obtain ⟨_, hu37, h⟩ := o_bind h
              refine lv_irem hx hb dX6_plan_142 (nz_spec hu37) ?_
              obtain ⟨S39, ev38, h⟩ := o_bind h
              refine g_cVv (As := [.int v11, .int v35, .int (v36 + 1), .int (x2 / 8), .int (x2 - x2 / 8 * 8)]) (rest := []) ⟨hx, hb, hml, hown, hts⟩ (m_X6_make l hst D cy tx ad R _ S32 v11 v35 (v36 + 1) (x2 / 8) (x2 - x2 / 8 * 8) S39 ev38) (cwV 5 hts gX6_plan_X6_make rfl rfl rfl (by decide +kernel) ⟨Nat.le_of_ble_eq_true rfl, Nat.le_of_ble_eq_true rfl⟩) (va_recv hK hP (ci := 6) (q0 := 0) rfl rfl) hP hK hD hS hA hE rfl hl.1 rfl (Nat.le_of_ble_eq_true rfl) dX6_plan_143 ⟨Nat.le_of_ble_eq_true rfl, Nat.le_of_ble_eq_true rfl⟩ (fun H locs hP hD hS => ?_)
              refine lv_aload_n hx hb dX6_plan_146 rfl (lv_at hl 2 rfl) ?_
              obtain ⟨v40, ev40, h⟩ := o_bind h
              refine g_cVi (As := []) (rest := []) ⟨hx, hb, hml, hown, hts⟩ (m_X6_best l hst D cy tx ad R _ S39  v40 ev40) (cwV 0 hts gX6_plan_X6_best rfl rfl rfl (by decide +kernel) ⟨Nat.le_of_ble_eq_true rfl, Nat.le_of_ble_eq_true rfl⟩) (va_recv hK hP (ci := 6) (q0 := 0) rfl rfl) hP hK hD hS hA hE rfl hl.1 rfl (Nat.le_of_ble_eq_true rfl) dX6_plan_147 ⟨Nat.le_of_ble_eq_true rfl, Nat.le_of_ble_eq_true rfl⟩ (fun H locs hP hD hS => ?_)
              refine lv_istore_n (lv' := [(2, .int v40), (4, .int v11), (3, .int (x2 / 8)), (0, .ref (ad 0))]) hx hb dX6_plan_150 rfl hl (by decide) rfl (fun ls hl => ?_)
              refine lv_goto (tgt := 43) hx hb dX6_plan_151 (by decide) ?_
              exact ih43 v40 S39 _ _ ls hP hD hS (lv_sub hl [3, 0] rfl) h
    exact L43  1000 v7 S6 _ _ ls hP hD hS (lv_sub hl [1, 0] rfl) h
  · have h := o_pos hc h
    refine lv_aload_n hx hb dX6_plan_13 rfl (lv_at hl 0 rfl) ?_
    refine lv_iconst (v := 1) hx hb dX6_plan_14 (by decide) ?_
    obtain ⟨⟨S42, v41⟩, ev41, h⟩ := o_bind h
    refine g_cVi (As := [.int 1]) (rest := []) ⟨hx, hb, hml, hown, hts⟩ (m_X6_no l hst D cy tx ad R _ S1 1 S42 v41 ev41) (cwV 1 hts gX6_plan_X6_no rfl rfl rfl (by decide +kernel) ⟨Nat.le_of_ble_eq_true rfl, Nat.le_of_ble_eq_true rfl⟩) (va_recv hK hP (ci := 6) (q0 := 0) rfl rfl) hP hK hD hS hA hE rfl hl.1 rfl (Nat.le_of_ble_eq_true rfl) dX6_plan_15 ⟨Nat.le_of_ble_eq_true rfl, Nat.le_of_ble_eq_true rfl⟩ (fun H locs hP hD hS => ?_)
    obtain ⟨eS, ev⟩ := Prod.mk.inj (Option.some.inj h)
    subst eS
    exact g_iret hQ hx hb hr hP hK hD hS (Nat.le_of_ble_eq_true rfl) (Nat.le_of_ble_eq_true rfl) dX6_plan_18 hlocks ev
set_option maxHeartbeats 4000000 in
set_option maxRecDepth 100000 in
theorem m_X6_hasPlan (l : Launch) (hst : l.stackTraces = false) (D : va_G) (cy : Nat → ClassId) (tx : List (ClassId × FieldType)) (ad : Nat → Nat) (R : va_W) (sz : Nat) (S : PS)  (S' : PS) (v : Int32) (h : q_X6_hasPlan S = some (S', v)) : gMi l yX6_hasPlan wsX6_hasPlan ({ frames := 0, cells := 0, slots := 0, locals := 0 }) 0 0 D (gT cy ++ tx) [.ref (ad 0)] sz (mW cy ad S R) (mW cy ad S' R) v := by
  refine Met.ofW (cc := cX6_hasPlan) (maxL := 1) (ret := (some .boolean)) (by decide) rfl ?_
  intro p e s m args below meth c s₁ B hml hv
  obtain ⟨hav, hsz, hP, hK, hD0, hE⟩ := hv
  have hx := B.exec
  have hb := B.bytes
  have hr := B.returns
  have hts := atoms_spec (ws := wsX6_hasPlan) B.pre
  have hown : s.vm.findClass RX6 = some m.cls := findClass_of_methodNamed B.named
  have hlocks := B.notSynchronized
  subst hsz
  have hD := hD0.self (sz := s.heap.size)
  generalize hAe : va_A (mW cy ad S R) s.heap.size = A at hD hE ⊢
  have hA : ∀ q : Nat, s.heap.size ≤ q → A q := fun q h => by rw [← hAe]; exact Or.inr h
  have hS : va_S A s.heap s.heap [] := va_S.rf
  have iX6 : ∀ w ∈ u_ws RX6 TX6 22, w ∈ wsX6_hasPlan := by decide +kernel
  have hf66 := hts (.fieldLink RX6 66 "InlinePlannerModel" "thrown" "I") (by decide +kernel)
  have hf98 := hts (.fieldLink RX6 98 "InlinePlannerModel" "hasPlan" "Z") (by decide +kernel)
  refine g_entry (n := 1) hav (Nat.le_of_ble_eq_true rfl) (fun ls hl => ?_)
  have hl : lv_has ls 1 [(0, .ref (ad 0))] := hl
  refine g_nameQ (fun Q hQ => ?_)
  unfold q_X6_hasPlan at h
  refine lv_aload_n hx hb dX6_hasPlan_0 rfl (lv_at hl 0 rfl) ?_
  refine lv_iconst (v := 0) hx hb dX6_hasPlan_1 (by decide) ?_
  obtain ⟨S1, eS1, h⟩ := o_bind h
  refine mpX6_0 hx hb hts iX6 hown hK hP hD hS hf66 eS1 dX6_hasPlan_2 (fun H locs hP hD hS => ?_)
  refine lv_aload_n hx hb dX6_hasPlan_5 rfl (lv_at hl 0 rfl) ?_
  refine mgX6_13 hx hb hts iX6 hown hK hP hf98 dX6_hasPlan_6 ?_
  obtain ⟨z2, ez2, h⟩ := o_bind h
  obtain ⟨hn, ez2⟩ := zg_spec ez2
  subst ez2
  obtain ⟨eS, ev⟩ := Prod.mk.inj (Option.some.inj h)
  subst eS
  exact g_zret hQ hx hb hr hn hP hK hD hS (Nat.le_of_ble_eq_true rfl) (Nat.le_of_ble_eq_true rfl) dX6_hasPlan_9 hlocks ev
set_option maxHeartbeats 4000000 in
set_option maxRecDepth 100000 in
theorem m_X6_asks (l : Launch) (hst : l.stackTraces = false) (D : va_G) (cy : Nat → ClassId) (tx : List (ClassId × FieldType)) (ad : Nat → Nat) (R : va_W) (sz : Nat) (S : PS)  (S' : PS) (v : Int32) (h : q_X6_asks S = some (S', v)) : gMi l yX6_asks wsX6_asks ({ frames := 0, cells := 0, slots := 0, locals := 0 }) 0 0 D (gT cy ++ tx) [.ref (ad 0)] sz (mW cy ad S R) (mW cy ad S' R) v := by
  refine Met.ofW (cc := cX6_asks) (maxL := 1) (ret := (some .boolean)) (by decide) rfl ?_
  intro p e s m args below meth c s₁ B hml hv
  obtain ⟨hav, hsz, hP, hK, hD0, hE⟩ := hv
  have hx := B.exec
  have hb := B.bytes
  have hr := B.returns
  have hts := atoms_spec (ws := wsX6_asks) B.pre
  have hown : s.vm.findClass RX6 = some m.cls := findClass_of_methodNamed B.named
  have hlocks := B.notSynchronized
  subst hsz
  have hD := hD0.self (sz := s.heap.size)
  generalize hAe : va_A (mW cy ad S R) s.heap.size = A at hD hE ⊢
  have hA : ∀ q : Nat, s.heap.size ≤ q → A q := fun q h => by rw [← hAe]; exact Or.inr h
  have hS : va_S A s.heap s.heap [] := va_S.rf
  have iX6 : ∀ w ∈ u_ws RX6 TX6 22, w ∈ wsX6_asks := by decide +kernel
  have hf66 := hts (.fieldLink RX6 66 "InlinePlannerModel" "thrown" "I") (by decide +kernel)
  have hf98 := hts (.fieldLink RX6 98 "InlinePlannerModel" "hasPlan" "Z") (by decide +kernel)
  refine g_entry (n := 1) hav (Nat.le_of_ble_eq_true rfl) (fun ls hl => ?_)
  have hl : lv_has ls 1 [(0, .ref (ad 0))] := hl
  refine g_nameQ (fun Q hQ => ?_)
  unfold q_X6_asks at h
  refine lv_aload_n hx hb dX6_asks_0 rfl (lv_at hl 0 rfl) ?_
  refine lv_aload_n hx hb dX6_asks_1 rfl (lv_at hl 0 rfl) ?_
  refine mgX6_13 hx hb hts iX6 hown hK hP hf98 dX6_asks_2 ?_
  refine lv_if_eq (tgt := 12) hx hb dX6_asks_5 (by decide) (fun hc => ?_) (fun hc => ?_)
  · have h := o_pos hc h
    refine lv_iconst (v := 1) hx hb dX6_asks_12 (by decide) ?_
    obtain ⟨S1, eS1, h⟩ := o_bind h
    refine mpX6_0 hx hb hts iX6 hown hK hP hD hS hf66 eS1 dX6_asks_13 (fun H locs hP hD hS => ?_)
    refine lv_aload_n hx hb dX6_asks_16 rfl (lv_at hl 0 rfl) ?_
    refine mgX6_13 hx hb hts iX6 hown hK hP hf98 dX6_asks_17 ?_
    obtain ⟨z2, ez2, h⟩ := o_bind h
    obtain ⟨hn, ez2⟩ := zg_spec ez2
    subst ez2
    obtain ⟨eS, ev⟩ := Prod.mk.inj (Option.some.inj h)
    subst eS
    exact g_zret hQ hx hb hr hn hP hK hD hS (Nat.le_of_ble_eq_true rfl) (Nat.le_of_ble_eq_true rfl) dX6_asks_20 hlocks ev
  · have h := o_neg hc h
    refine lv_iconst (v := 0) hx hb dX6_asks_8 (by decide) ?_
    refine lv_goto (tgt := 13) hx hb dX6_asks_9 (by decide) ?_
    obtain ⟨S3, eS3, h⟩ := o_bind h
    refine mpX6_0 hx hb hts iX6 hown hK hP hD hS hf66 eS3 dX6_asks_13 (fun H locs hP hD hS => ?_)
    refine lv_aload_n hx hb dX6_asks_16 rfl (lv_at hl 0 rfl) ?_
    refine mgX6_13 hx hb hts iX6 hown hK hP hf98 dX6_asks_17 ?_
    obtain ⟨z4, ez4, h⟩ := o_bind h
    obtain ⟨hn, ez4⟩ := zg_spec ez4
    subst ez4
    obtain ⟨eS, ev⟩ := Prod.mk.inj (Option.some.inj h)
    subst eS
    exact g_zret hQ hx hb hr hn hP hK hD hS (Nat.le_of_ble_eq_true rfl) (Nat.le_of_ble_eq_true rfl) dX6_asks_20 hlocks ev
set_option maxHeartbeats 4000000 in
set_option maxRecDepth 100000 in
theorem m_X6_asks_ (l : Launch) (hst : l.stackTraces = false) (D : va_G) (cy : Nat → ClassId) (tx : List (ClassId × FieldType)) (ad : Nat → Nat) (R : va_W) (sz : Nat) (S : PS) (x1 : Int32) (S' : PS) (v : Int32) (h : q_X6_asks_ S x1 = some (S', v)) : gMi l yX6_asks_ wsX6_asks_ ({ frames := 1, cells := 0, slots := 0, locals := 22 }) 0 0 D (gT cy ++ tx) [.ref (ad 0), .int x1] sz (mW cy ad S R) (mW cy ad S' R) v := by
  refine Met.ofW (cc := cX6_asks_) (maxL := 2) (ret := (some .boolean)) (by decide) rfl ?_
  intro p e s m args below meth c s₁ B hml hv
  obtain ⟨hav, hsz, hP, hK, hD0, hE⟩ := hv
  have hx := B.exec
  have hb := B.bytes
  have hr := B.returns
  have hts := atoms_spec (ws := wsX6_asks_) B.pre
  have hown : s.vm.findClass RX6 = some m.cls := findClass_of_methodNamed B.named
  have hlocks := B.notSynchronized
  subst hsz
  have hD := hD0.self (sz := s.heap.size)
  generalize hAe : va_A (mW cy ad S R) s.heap.size = A at hD hE ⊢
  have hA : ∀ q : Nat, s.heap.size ≤ q → A q := fun q h => by rw [← hAe]; exact Or.inr h
  have hS : va_S A s.heap s.heap [] := va_S.rf
  have iX6 : ∀ w ∈ u_ws RX6 TX6 22, w ∈ wsX6_asks_ := by decide +kernel
  have hf66 := hts (.fieldLink RX6 66 "InlinePlannerModel" "thrown" "I") (by decide +kernel)
  have hf98 := hts (.fieldLink RX6 98 "InlinePlannerModel" "hasPlan" "Z") (by decide +kernel)
  have hf118 := hts (.fieldLink RX6 118 "InlinePlannerModel" "nodes" "I") (by decide +kernel)
  refine g_entry (n := 2) hav (Nat.le_of_ble_eq_true rfl) (fun ls hl => ?_)
  have hl : lv_has ls 2 [(0, .ref (ad 0)), (1, .int x1)] := hl
  refine g_nameQ (fun Q hQ => ?_)
  unfold q_X6_asks_ at h
  refine lv_aload_n hx hb dX6_asks__0 rfl (lv_at hl 0 rfl) ?_
  refine lv_aload_n hx hb dX6_asks__1 rfl (lv_at hl 0 rfl) ?_
  refine mgX6_13 hx hb hts iX6 hown hK hP hf98 dX6_asks__2 ?_
  refine lv_if_ne (tgt := 12) hx hb dX6_asks__5 (by decide) (fun hc => ?_) (fun hc => ?_)
  · have h := o_neg hc h
    refine lv_iload_n hx hb dX6_asks__12 rfl (lv_at hl 1 rfl) ?_
    refine lv_iconst (v := 0) hx hb dX6_asks__13 (by decide) ?_
    refine lv_aload_n hx hb dX6_asks__14 rfl (lv_at hl 0 rfl) ?_
    refine mgX6_14 hx hb hts iX6 hown hK hP hf118 dX6_asks__15 ?_
    refine lv_iconst (v := 1) hx hb dX6_asks__18 (by decide) ?_
    refine lv_isub hx hb dX6_asks__19 ?_
    obtain ⟨v1, ev1, h⟩ := o_bind h
    refine g_cSi (As := [.int x1, .int 0, .int ((S.1 7) - 1)]) (rest := [.ref (ad 0)]) ⟨hx, hb, hml, hown, hts⟩ (m_X6_isIn l hst D (gT cy ++ tx) (mW cy ad S R) _ x1 0 ((S.1 7) - 1) v1 ev1) (va_cwS 3 hts gX6_asks__X6_isIn rfl rfl rfl (by decide +kernel) ⟨Nat.le_of_ble_eq_true rfl, Nat.le_of_ble_eq_true rfl⟩) hP hK hD hS hA hE rfl hl.1 rfl (Nat.le_of_ble_eq_true rfl) dX6_asks__20 ⟨Nat.le_of_ble_eq_true rfl, Nat.le_of_ble_eq_true rfl⟩ (fun H locs hP hD hS => ?_)
    refine lv_if_ne (tgt := 30) hx hb dX6_asks__23 (by decide) (fun hc => ?_) (fun hc => ?_)
    · have h := o_neg hc h
      refine lv_iconst (v := 0) hx hb dX6_asks__30 (by decide) ?_
      obtain ⟨S2, eS2, h⟩ := o_bind h
      refine mpX6_0 hx hb hts iX6 hown hK hP hD hS hf66 eS2 dX6_asks__31 (fun H locs hP hD hS => ?_)
      refine lv_aload_n hx hb dX6_asks__34 rfl (lv_at hl 0 rfl) ?_
      refine mgX6_0 hx hb hts iX6 hown hK hP hf66 dX6_asks__35 ?_
      refine lv_if_ne (tgt := 45) hx hb dX6_asks__38 (by decide) (fun hc => ?_) (fun hc => ?_)
      · have h := o_neg hc h
        refine lv_iconst (v := 0) hx hb dX6_asks__45 (by decide) ?_
        obtain ⟨eS, ev⟩ := Prod.mk.inj (Option.some.inj h)
        subst eS
        exact g_zret hQ hx hb hr rfl hP hK hD hS (Nat.le_of_ble_eq_true rfl) (Nat.le_of_ble_eq_true rfl) dX6_asks__46 hlocks ev
      · have h := o_pos hc h
        refine lv_iconst (v := 1) hx hb dX6_asks__41 (by decide) ?_
        refine lv_goto (tgt := 46) hx hb dX6_asks__42 (by decide) ?_
        obtain ⟨eS, ev⟩ := Prod.mk.inj (Option.some.inj h)
        subst eS
        exact g_zret hQ hx hb hr rfl hP hK hD hS (Nat.le_of_ble_eq_true rfl) (Nat.le_of_ble_eq_true rfl) dX6_asks__46 hlocks ev
    · have h := o_pos hc h
      refine lv_iconst (v := 2) hx hb dX6_asks__26 (by decide) ?_
      refine lv_goto (tgt := 31) hx hb dX6_asks__27 (by decide) ?_
      obtain ⟨S3, eS3, h⟩ := o_bind h
      refine mpX6_0 hx hb hts iX6 hown hK hP hD hS hf66 eS3 dX6_asks__31 (fun H locs hP hD hS => ?_)
      refine lv_aload_n hx hb dX6_asks__34 rfl (lv_at hl 0 rfl) ?_
      refine mgX6_0 hx hb hts iX6 hown hK hP hf66 dX6_asks__35 ?_
      refine lv_if_ne (tgt := 45) hx hb dX6_asks__38 (by decide) (fun hc => ?_) (fun hc => ?_)
      · have h := o_neg hc h
        refine lv_iconst (v := 0) hx hb dX6_asks__45 (by decide) ?_
        obtain ⟨eS, ev⟩ := Prod.mk.inj (Option.some.inj h)
        subst eS
        exact g_zret hQ hx hb hr rfl hP hK hD hS (Nat.le_of_ble_eq_true rfl) (Nat.le_of_ble_eq_true rfl) dX6_asks__46 hlocks ev
      · have h := o_pos hc h
        refine lv_iconst (v := 1) hx hb dX6_asks__41 (by decide) ?_
        refine lv_goto (tgt := 46) hx hb dX6_asks__42 (by decide) ?_
        obtain ⟨eS, ev⟩ := Prod.mk.inj (Option.some.inj h)
        subst eS
        exact g_zret hQ hx hb hr rfl hP hK hD hS (Nat.le_of_ble_eq_true rfl) (Nat.le_of_ble_eq_true rfl) dX6_asks__46 hlocks ev
  · have h := o_pos hc h
    refine lv_iconst (v := 1) hx hb dX6_asks__8 (by decide) ?_
    refine lv_goto (tgt := 31) hx hb dX6_asks__9 (by decide) ?_
    obtain ⟨S4, eS4, h⟩ := o_bind h
    refine mpX6_0 hx hb hts iX6 hown hK hP hD hS hf66 eS4 dX6_asks__31 (fun H locs hP hD hS => ?_)
    refine lv_aload_n hx hb dX6_asks__34 rfl (lv_at hl 0 rfl) ?_
    refine mgX6_0 hx hb hts iX6 hown hK hP hf66 dX6_asks__35 ?_
    refine lv_if_ne (tgt := 45) hx hb dX6_asks__38 (by decide) (fun hc => ?_) (fun hc => ?_)
    · have h := o_neg hc h
      refine lv_iconst (v := 0) hx hb dX6_asks__45 (by decide) ?_
      obtain ⟨eS, ev⟩ := Prod.mk.inj (Option.some.inj h)
      subst eS
      exact g_zret hQ hx hb hr rfl hP hK hD hS (Nat.le_of_ble_eq_true rfl) (Nat.le_of_ble_eq_true rfl) dX6_asks__46 hlocks ev
    · have h := o_pos hc h
      refine lv_iconst (v := 1) hx hb dX6_asks__41 (by decide) ?_
      refine lv_goto (tgt := 46) hx hb dX6_asks__42 (by decide) ?_
      obtain ⟨eS, ev⟩ := Prod.mk.inj (Option.some.inj h)
      subst eS
      exact g_zret hQ hx hb hr rfl hP hK hD hS (Nat.le_of_ble_eq_true rfl) (Nat.le_of_ble_eq_true rfl) dX6_asks__46 hlocks ev
set_option maxHeartbeats 4000000 in
set_option maxRecDepth 100000 in
theorem m_X6_asks__ (l : Launch) (hst : l.stackTraces = false) (D : va_G) (cy : Nat → ClassId) (tx : List (ClassId × FieldType)) (ad : Nat → Nat) (R : va_W) (sz : Nat) (S : PS) (x1 : Int32) (x2 : Int32) (S' : PS) (v : Int32) (h : q_X6_asks__ S x1 x2 = some (S', v)) : gMi l yX6_asks__ wsX6_asks__ ({ frames := 2, cells := 0, slots := 0, locals := 43 }) 0 0 D (gT cy ++ tx) [.ref (ad 0), .int x1, .int x2] sz (mW cy ad S R) (mW cy ad S' R) v := by
  refine Met.ofW (cc := cX6_asks__) (maxL := 3) (ret := (some .boolean)) (by decide) rfl ?_
  intro p e s m args below meth c s₁ B hml hv
  obtain ⟨hav, hsz, hP, hK, hD0, hE⟩ := hv
  have hx := B.exec
  have hb := B.bytes
  have hr := B.returns
  have hts := atoms_spec (ws := wsX6_asks__) B.pre
  have hown : s.vm.findClass RX6 = some m.cls := findClass_of_methodNamed B.named
  have hlocks := B.notSynchronized
  subst hsz
  have hD := hD0.self (sz := s.heap.size)
  generalize hAe : va_A (mW cy ad S R) s.heap.size = A at hD hE ⊢
  have hA : ∀ q : Nat, s.heap.size ≤ q → A q := fun q h => by rw [← hAe]; exact Or.inr h
  have hS : va_S A s.heap s.heap [] := va_S.rf
  have iX6 : ∀ w ∈ u_ws RX6 TX6 22, w ∈ wsX6_asks__ := by decide +kernel
  have hf30 := hts (.fieldLink RX6 30 "InlinePlannerModel" "sites" "[I") (by decide +kernel)
  have hf45 := hts (.fieldLink RX6 45 "InlinePlannerModel" "nodeMethods" "[I") (by decide +kernel)
  have hf66 := hts (.fieldLink RX6 66 "InlinePlannerModel" "thrown" "I") (by decide +kernel)
  refine g_entry (n := 3) hav (Nat.le_of_ble_eq_true rfl) (fun ls hl => ?_)
  have hl : lv_has ls 3 [(0, .ref (ad 0)), (1, .int x1), (2, .int x2)] := hl
  refine g_nameQ (fun Q hQ => ?_)
  unfold q_X6_asks__ at h
  refine lv_aload_n hx hb dX6_asks___0 rfl (lv_at hl 0 rfl) ?_
  refine lv_iload_n hx hb dX6_asks___1 rfl (lv_at hl 1 rfl) ?_
  obtain ⟨⟨S2, v1⟩, ev1, h⟩ := o_bind h
  refine g_cVi (As := [.int x1]) (rest := []) ⟨hx, hb, hml, hown, hts⟩ (m_X6_asks_ l hst D cy tx ad R _ S x1 S2 v1 ev1) (cwV 1 hts gX6_asks___X6_asks_ rfl rfl rfl (by decide +kernel) ⟨Nat.le_of_ble_eq_true rfl, Nat.le_of_ble_eq_true rfl⟩) (va_recv hK hP (ci := 6) (q0 := 0) rfl rfl) hP hK hD hS hA hE rfl hl.1 rfl (Nat.le_of_ble_eq_true rfl) dX6_asks___2 ⟨Nat.le_of_ble_eq_true rfl, Nat.le_of_ble_eq_true rfl⟩ (fun H locs hP hD hS => ?_)
  refine lv_if_ne (tgt := 10) hx hb dX6_asks___5 (by decide) (fun hc => ?_) (fun hc => ?_)
  · have h := o_neg hc h
    refine lv_aload_n hx hb dX6_asks___10 rfl (lv_at hl 0 rfl) ?_
    refine lv_iload_n hx hb dX6_asks___11 rfl (lv_at hl 2 rfl) ?_
    refine lv_iconst (v := 0) hx hb dX6_asks___12 (by decide) ?_
    refine lv_aload_n hx hb dX6_asks___13 rfl (lv_at hl 0 rfl) ?_
    refine mgX6_8 hx hb hts iX6 hown hK hP hf30 dX6_asks___14 ?_
    refine lv_aload_n hx hb dX6_asks___17 rfl (lv_at hl 0 rfl) ?_
    refine mgX6_15 hx hb hts iX6 hown hK hP hf45 dX6_asks___18 ?_
    refine lv_iload_n hx hb dX6_asks___21 rfl (lv_at hl 1 rfl) ?_
    obtain ⟨v3, ev3, h⟩ := o_bind h
    refine mld7 hx hb hK hP ev3 dX6_asks___22 ?_
    obtain ⟨v4, ev4, h⟩ := o_bind h
    refine mld5 hx hb hK hP ev4 dX6_asks___23 ?_
    refine lv_iconst (v := 1) hx hb dX6_asks___24 (by decide) ?_
    refine lv_isub hx hb dX6_asks___25 ?_
    obtain ⟨v5, ev5, h⟩ := o_bind h
    refine g_cSi (As := [.int x2, .int 0, .int (v4 - 1)]) (rest := [.ref (ad 0)]) ⟨hx, hb, hml, hown, hts⟩ (m_X6_isIn l hst D (gT cy ++ tx) (mW cy ad S2 R) _ x2 0 (v4 - 1) v5 ev5) (va_cwS 3 hts gX6_asks___X6_isIn rfl rfl rfl (by decide +kernel) ⟨Nat.le_of_ble_eq_true rfl, Nat.le_of_ble_eq_true rfl⟩) hP hK hD hS hA hE rfl hl.1 rfl (Nat.le_of_ble_eq_true rfl) dX6_asks___26 ⟨Nat.le_of_ble_eq_true rfl, Nat.le_of_ble_eq_true rfl⟩ (fun H locs hP hD hS => ?_)
    refine lv_if_eq (tgt := 36) hx hb dX6_asks___29 (by decide) (fun hc => ?_) (fun hc => ?_)
    · have h := o_pos hc h
      refine lv_iconst (v := 2) hx hb dX6_asks___36 (by decide) ?_
      obtain ⟨S6, eS6, h⟩ := o_bind h
      refine mpX6_0 hx hb hts iX6 hown hK hP hD hS hf66 eS6 dX6_asks___37 (fun H locs hP hD hS => ?_)
      refine lv_aload_n hx hb dX6_asks___40 rfl (lv_at hl 0 rfl) ?_
      refine mgX6_0 hx hb hts iX6 hown hK hP hf66 dX6_asks___41 ?_
      refine lv_if_ne (tgt := 51) hx hb dX6_asks___44 (by decide) (fun hc => ?_) (fun hc => ?_)
      · have h := o_neg hc h
        refine lv_iconst (v := 0) hx hb dX6_asks___51 (by decide) ?_
        obtain ⟨eS, ev⟩ := Prod.mk.inj (Option.some.inj h)
        subst eS
        exact g_zret hQ hx hb hr rfl hP hK hD hS (Nat.le_of_ble_eq_true rfl) (Nat.le_of_ble_eq_true rfl) dX6_asks___52 hlocks ev
      · have h := o_pos hc h
        refine lv_iconst (v := 1) hx hb dX6_asks___47 (by decide) ?_
        refine lv_goto (tgt := 52) hx hb dX6_asks___48 (by decide) ?_
        obtain ⟨eS, ev⟩ := Prod.mk.inj (Option.some.inj h)
        subst eS
        exact g_zret hQ hx hb hr rfl hP hK hD hS (Nat.le_of_ble_eq_true rfl) (Nat.le_of_ble_eq_true rfl) dX6_asks___52 hlocks ev
    · have h := o_neg hc h
      refine lv_iconst (v := 0) hx hb dX6_asks___32 (by decide) ?_
      refine lv_goto (tgt := 37) hx hb dX6_asks___33 (by decide) ?_
      obtain ⟨S7, eS7, h⟩ := o_bind h
      refine mpX6_0 hx hb hts iX6 hown hK hP hD hS hf66 eS7 dX6_asks___37 (fun H locs hP hD hS => ?_)
      refine lv_aload_n hx hb dX6_asks___40 rfl (lv_at hl 0 rfl) ?_
      refine mgX6_0 hx hb hts iX6 hown hK hP hf66 dX6_asks___41 ?_
      refine lv_if_ne (tgt := 51) hx hb dX6_asks___44 (by decide) (fun hc => ?_) (fun hc => ?_)
      · have h := o_neg hc h
        refine lv_iconst (v := 0) hx hb dX6_asks___51 (by decide) ?_
        obtain ⟨eS, ev⟩ := Prod.mk.inj (Option.some.inj h)
        subst eS
        exact g_zret hQ hx hb hr rfl hP hK hD hS (Nat.le_of_ble_eq_true rfl) (Nat.le_of_ble_eq_true rfl) dX6_asks___52 hlocks ev
      · have h := o_pos hc h
        refine lv_iconst (v := 1) hx hb dX6_asks___47 (by decide) ?_
        refine lv_goto (tgt := 52) hx hb dX6_asks___48 (by decide) ?_
        obtain ⟨eS, ev⟩ := Prod.mk.inj (Option.some.inj h)
        subst eS
        exact g_zret hQ hx hb hr rfl hP hK hD hS (Nat.le_of_ble_eq_true rfl) (Nat.le_of_ble_eq_true rfl) dX6_asks___52 hlocks ev
  · have h := o_pos hc h
    refine lv_iconst (v := 0) hx hb dX6_asks___8 (by decide) ?_
    obtain ⟨eS, ev⟩ := Prod.mk.inj (Option.some.inj h)
    subst eS
    exact g_zret hQ hx hb hr rfl hP hK hD hS (Nat.le_of_ble_eq_true rfl) (Nat.le_of_ble_eq_true rfl) dX6_asks___9 hlocks ev
set_option maxHeartbeats 4000000 in
set_option maxRecDepth 100000 in
theorem m_X6_nodeCount (l : Launch) (hst : l.stackTraces = false) (D : va_G) (cy : Nat → ClassId) (tx : List (ClassId × FieldType)) (ad : Nat → Nat) (R : va_W) (sz : Nat) (S : PS)  (S' : PS) (v : Int32) (h : q_X6_nodeCount S = some (S', v)) : gMi l yX6_nodeCount wsX6_nodeCount ({ frames := 1, cells := 0, slots := 0, locals := 20 }) 0 0 D (gT cy ++ tx) [.ref (ad 0)] sz (mW cy ad S R) (mW cy ad S' R) v := by
  refine Met.ofW (cc := cX6_nodeCount) (maxL := 1) (ret := (some .int)) (by decide) rfl ?_
  intro p e s m args below meth c s₁ B hml hv
  obtain ⟨hav, hsz, hP, hK, hD0, hE⟩ := hv
  have hx := B.exec
  have hb := B.bytes
  have hr := B.returns
  have hts := atoms_spec (ws := wsX6_nodeCount) B.pre
  have hown : s.vm.findClass RX6 = some m.cls := findClass_of_methodNamed B.named
  have hlocks := B.notSynchronized
  subst hsz
  have hD := hD0.self (sz := s.heap.size)
  generalize hAe : va_A (mW cy ad S R) s.heap.size = A at hD hE ⊢
  have hA : ∀ q : Nat, s.heap.size ≤ q → A q := fun q h => by rw [← hAe]; exact Or.inr h
  have hS : va_S A s.heap s.heap [] := va_S.rf
  have iX6 : ∀ w ∈ u_ws RX6 TX6 22, w ∈ wsX6_nodeCount := by decide +kernel
  have hf118 := hts (.fieldLink RX6 118 "InlinePlannerModel" "nodes" "I") (by decide +kernel)
  refine g_entry (n := 1) hav (Nat.le_of_ble_eq_true rfl) (fun ls hl => ?_)
  have hl : lv_has ls 1 [(0, .ref (ad 0))] := hl
  refine g_nameQ (fun Q hQ => ?_)
  unfold q_X6_nodeCount at h
  refine lv_aload_n hx hb dX6_nodeCount_0 rfl (lv_at hl 0 rfl) ?_
  obtain ⟨⟨S2, v1⟩, ev1, h⟩ := o_bind h
  refine g_cVi (As := []) (rest := []) ⟨hx, hb, hml, hown, hts⟩ (m_X6_asks l hst D cy tx ad R _ S  S2 v1 ev1) (cwV 0 hts gX6_nodeCount_X6_asks rfl rfl rfl (by decide +kernel) ⟨Nat.le_of_ble_eq_true rfl, Nat.le_of_ble_eq_true rfl⟩) (va_recv hK hP (ci := 6) (q0 := 0) rfl rfl) hP hK hD hS hA hE rfl hl.1 rfl (Nat.le_of_ble_eq_true rfl) dX6_nodeCount_1 ⟨Nat.le_of_ble_eq_true rfl, Nat.le_of_ble_eq_true rfl⟩ (fun H locs hP hD hS => ?_)
  refine lv_if_eq (tgt := 14) hx hb dX6_nodeCount_4 (by decide) (fun hc => ?_) (fun hc => ?_)
  · have h := o_pos hc h
    refine lv_iconst (v := 0) hx hb dX6_nodeCount_14 (by decide) ?_
    obtain ⟨eS, ev⟩ := Prod.mk.inj (Option.some.inj h)
    subst eS
    exact g_iret hQ hx hb hr hP hK hD hS (Nat.le_of_ble_eq_true rfl) (Nat.le_of_ble_eq_true rfl) dX6_nodeCount_15 hlocks ev
  · have h := o_neg hc h
    refine lv_aload_n hx hb dX6_nodeCount_7 rfl (lv_at hl 0 rfl) ?_
    refine mgX6_14 hx hb hts iX6 hown hK hP hf118 dX6_nodeCount_8 ?_
    refine lv_goto (tgt := 15) hx hb dX6_nodeCount_11 (by decide) ?_
    obtain ⟨eS, ev⟩ := Prod.mk.inj (Option.some.inj h)
    subst eS
    exact g_iret hQ hx hb hr hP hK hD hS (Nat.le_of_ble_eq_true rfl) (Nat.le_of_ble_eq_true rfl) dX6_nodeCount_15 hlocks ev
set_option maxHeartbeats 4000000 in
set_option maxRecDepth 100000 in
theorem m_X6_size (l : Launch) (hst : l.stackTraces = false) (D : va_G) (cy : Nat → ClassId) (tx : List (ClassId × FieldType)) (ad : Nat → Nat) (R : va_W) (sz : Nat) (S : PS)  (S' : PS) (v : Int32) (h : q_X6_size S = some (S', v)) : gMi l yX6_size wsX6_size ({ frames := 1, cells := 0, slots := 0, locals := 22 }) 0 0 D (gT cy ++ tx) [.ref (ad 0)] sz (mW cy ad S R) (mW cy ad S' R) v := by
  refine Met.ofW (cc := cX6_size) (maxL := 1) (ret := (some .int)) (by decide) rfl ?_
  intro p e s m args below meth c s₁ B hml hv
  obtain ⟨hav, hsz, hP, hK, hD0, hE⟩ := hv
  have hx := B.exec
  have hb := B.bytes
  have hr := B.returns
  have hts := atoms_spec (ws := wsX6_size) B.pre
  have hown : s.vm.findClass RX6 = some m.cls := findClass_of_methodNamed B.named
  have hlocks := B.notSynchronized
  subst hsz
  have hD := hD0.self (sz := s.heap.size)
  generalize hAe : va_A (mW cy ad S R) s.heap.size = A at hD hE ⊢
  have hA : ∀ q : Nat, s.heap.size ≤ q → A q := fun q h => by rw [← hAe]; exact Or.inr h
  have hS : va_S A s.heap s.heap [] := va_S.rf
  refine g_entry (n := 1) hav (Nat.le_of_ble_eq_true rfl) (fun ls hl => ?_)
  have hl : lv_has ls 1 [(0, .ref (ad 0))] := hl
  refine g_nameQ (fun Q hQ => ?_)
  unfold q_X6_size at h
  refine lv_aload_n hx hb dX6_size_0 rfl (lv_at hl 0 rfl) ?_
  obtain ⟨⟨S2, v1⟩, ev1, h⟩ := o_bind h
  refine g_cVi (As := []) (rest := []) ⟨hx, hb, hml, hown, hts⟩ (m_X6_asks l hst D cy tx ad R _ S  S2 v1 ev1) (cwV 0 hts gX6_size_X6_asks rfl rfl rfl (by decide +kernel) ⟨Nat.le_of_ble_eq_true rfl, Nat.le_of_ble_eq_true rfl⟩) (va_recv hK hP (ci := 6) (q0 := 0) rfl rfl) hP hK hD hS hA hE rfl hl.1 rfl (Nat.le_of_ble_eq_true rfl) dX6_size_1 ⟨Nat.le_of_ble_eq_true rfl, Nat.le_of_ble_eq_true rfl⟩ (fun H locs hP hD hS => ?_)
  refine lv_if_eq (tgt := 14) hx hb dX6_size_4 (by decide) (fun hc => ?_) (fun hc => ?_)
  · have h := o_pos hc h
    refine lv_iconst (v := 0) hx hb dX6_size_14 (by decide) ?_
    obtain ⟨eS, ev⟩ := Prod.mk.inj (Option.some.inj h)
    subst eS
    exact g_iret hQ hx hb hr hP hK hD hS (Nat.le_of_ble_eq_true rfl) (Nat.le_of_ble_eq_true rfl) dX6_size_15 hlocks ev
  · have h := o_neg hc h
    refine lv_aload_n hx hb dX6_size_7 rfl (lv_at hl 0 rfl) ?_
    obtain ⟨v3, ev3, h⟩ := o_bind h
    refine g_cVi (As := []) (rest := []) ⟨hx, hb, hml, hown, hts⟩ (m_X6_wholeSize l hst D cy tx ad R _ S2  v3 ev3) (cwV 0 hts gX6_size_X6_wholeSize rfl rfl rfl (by decide +kernel) ⟨Nat.le_of_ble_eq_true rfl, Nat.le_of_ble_eq_true rfl⟩) (va_recv hK hP (ci := 6) (q0 := 0) rfl rfl) hP hK hD hS hA hE rfl hl.1 rfl (Nat.le_of_ble_eq_true rfl) dX6_size_8 ⟨Nat.le_of_ble_eq_true rfl, Nat.le_of_ble_eq_true rfl⟩ (fun H locs hP hD hS => ?_)
    refine lv_goto (tgt := 15) hx hb dX6_size_11 (by decide) ?_
    obtain ⟨eS, ev⟩ := Prod.mk.inj (Option.some.inj h)
    subst eS
    exact g_iret hQ hx hb hr hP hK hD hS (Nat.le_of_ble_eq_true rfl) (Nat.le_of_ble_eq_true rfl) dX6_size_15 hlocks ev
set_option maxHeartbeats 4000000 in
set_option maxRecDepth 100000 in
theorem m_X6_method (l : Launch) (hst : l.stackTraces = false) (D : va_G) (cy : Nat → ClassId) (tx : List (ClassId × FieldType)) (ad : Nat → Nat) (R : va_W) (sz : Nat) (S : PS) (x1 : Int32) (S' : PS) (v : Int32) (h : q_X6_method S x1 = some (S', v)) : gMi l yX6_method wsX6_method ({ frames := 2, cells := 0, slots := 0, locals := 43 }) 0 0 D (gT cy ++ tx) [.ref (ad 0), .int x1] sz (mW cy ad S R) (mW cy ad S' R) v := by
  refine Met.ofW (cc := cX6_method) (maxL := 2) (ret := (some .int)) (by decide) rfl ?_
  intro p e s m args below meth c s₁ B hml hv
  obtain ⟨hav, hsz, hP, hK, hD0, hE⟩ := hv
  have hx := B.exec
  have hb := B.bytes
  have hr := B.returns
  have hts := atoms_spec (ws := wsX6_method) B.pre
  have hown : s.vm.findClass RX6 = some m.cls := findClass_of_methodNamed B.named
  have hlocks := B.notSynchronized
  subst hsz
  have hD := hD0.self (sz := s.heap.size)
  generalize hAe : va_A (mW cy ad S R) s.heap.size = A at hD hE ⊢
  have hA : ∀ q : Nat, s.heap.size ≤ q → A q := fun q h => by rw [← hAe]; exact Or.inr h
  have hS : va_S A s.heap s.heap [] := va_S.rf
  have iX6 : ∀ w ∈ u_ws RX6 TX6 22, w ∈ wsX6_method := by decide +kernel
  have hf45 := hts (.fieldLink RX6 45 "InlinePlannerModel" "nodeMethods" "[I") (by decide +kernel)
  refine g_entry (n := 2) hav (Nat.le_of_ble_eq_true rfl) (fun ls hl => ?_)
  have hl : lv_has ls 2 [(0, .ref (ad 0)), (1, .int x1)] := hl
  refine g_nameQ (fun Q hQ => ?_)
  unfold q_X6_method at h
  refine lv_aload_n hx hb dX6_method_0 rfl (lv_at hl 0 rfl) ?_
  refine lv_iload_n hx hb dX6_method_1 rfl (lv_at hl 1 rfl) ?_
  obtain ⟨⟨S2, v1⟩, ev1, h⟩ := o_bind h
  refine g_cVi (As := [.int x1]) (rest := []) ⟨hx, hb, hml, hown, hts⟩ (m_X6_asks_ l hst D cy tx ad R _ S x1 S2 v1 ev1) (cwV 1 hts gX6_method_X6_asks_ rfl rfl rfl (by decide +kernel) ⟨Nat.le_of_ble_eq_true rfl, Nat.le_of_ble_eq_true rfl⟩) (va_recv hK hP (ci := 6) (q0 := 0) rfl rfl) hP hK hD hS hA hE rfl hl.1 rfl (Nat.le_of_ble_eq_true rfl) dX6_method_2 ⟨Nat.le_of_ble_eq_true rfl, Nat.le_of_ble_eq_true rfl⟩ (fun H locs hP hD hS => ?_)
  refine lv_if_eq (tgt := 17) hx hb dX6_method_5 (by decide) (fun hc => ?_) (fun hc => ?_)
  · have h := o_pos hc h
    refine lv_iconst (v := 0) hx hb dX6_method_17 (by decide) ?_
    obtain ⟨eS, ev⟩ := Prod.mk.inj (Option.some.inj h)
    subst eS
    exact g_iret hQ hx hb hr hP hK hD hS (Nat.le_of_ble_eq_true rfl) (Nat.le_of_ble_eq_true rfl) dX6_method_18 hlocks ev
  · have h := o_neg hc h
    refine lv_aload_n hx hb dX6_method_8 rfl (lv_at hl 0 rfl) ?_
    refine mgX6_15 hx hb hts iX6 hown hK hP hf45 dX6_method_9 ?_
    refine lv_iload_n hx hb dX6_method_12 rfl (lv_at hl 1 rfl) ?_
    obtain ⟨v3, ev3, h⟩ := o_bind h
    refine mld7 hx hb hK hP ev3 dX6_method_13 ?_
    refine lv_goto (tgt := 18) hx hb dX6_method_14 (by decide) ?_
    obtain ⟨eS, ev⟩ := Prod.mk.inj (Option.some.inj h)
    subst eS
    exact g_iret hQ hx hb hr hP hK hD hS (Nat.le_of_ble_eq_true rfl) (Nat.le_of_ble_eq_true rfl) dX6_method_18 hlocks ev
set_option maxHeartbeats 4000000 in
set_option maxRecDepth 100000 in
theorem m_X6_parentNode (l : Launch) (hst : l.stackTraces = false) (D : va_G) (cy : Nat → ClassId) (tx : List (ClassId × FieldType)) (ad : Nat → Nat) (R : va_W) (sz : Nat) (S : PS) (x1 : Int32) (S' : PS) (v : Int32) (h : q_X6_parentNode S x1 = some (S', v)) : gMi l yX6_parentNode wsX6_parentNode ({ frames := 2, cells := 0, slots := 0, locals := 43 }) 0 0 D (gT cy ++ tx) [.ref (ad 0), .int x1] sz (mW cy ad S R) (mW cy ad S' R) v := by
  refine Met.ofW (cc := cX6_parentNode) (maxL := 2) (ret := (some .int)) (by decide) rfl ?_
  intro p e s m args below meth c s₁ B hml hv
  obtain ⟨hav, hsz, hP, hK, hD0, hE⟩ := hv
  have hx := B.exec
  have hb := B.bytes
  have hr := B.returns
  have hts := atoms_spec (ws := wsX6_parentNode) B.pre
  have hown : s.vm.findClass RX6 = some m.cls := findClass_of_methodNamed B.named
  have hlocks := B.notSynchronized
  subst hsz
  have hD := hD0.self (sz := s.heap.size)
  generalize hAe : va_A (mW cy ad S R) s.heap.size = A at hD hE ⊢
  have hA : ∀ q : Nat, s.heap.size ≤ q → A q := fun q h => by rw [← hAe]; exact Or.inr h
  have hS : va_S A s.heap s.heap [] := va_S.rf
  have iX6 : ∀ w ∈ u_ws RX6 TX6 22, w ∈ wsX6_parentNode := by decide +kernel
  have hf48 := hts (.fieldLink RX6 48 "InlinePlannerModel" "nodeParents" "[I") (by decide +kernel)
  refine g_entry (n := 2) hav (Nat.le_of_ble_eq_true rfl) (fun ls hl => ?_)
  have hl : lv_has ls 2 [(0, .ref (ad 0)), (1, .int x1)] := hl
  refine g_nameQ (fun Q hQ => ?_)
  unfold q_X6_parentNode at h
  refine lv_aload_n hx hb dX6_parentNode_0 rfl (lv_at hl 0 rfl) ?_
  refine lv_iload_n hx hb dX6_parentNode_1 rfl (lv_at hl 1 rfl) ?_
  obtain ⟨⟨S2, v1⟩, ev1, h⟩ := o_bind h
  refine g_cVi (As := [.int x1]) (rest := []) ⟨hx, hb, hml, hown, hts⟩ (m_X6_asks_ l hst D cy tx ad R _ S x1 S2 v1 ev1) (cwV 1 hts gX6_parentNode_X6_asks_ rfl rfl rfl (by decide +kernel) ⟨Nat.le_of_ble_eq_true rfl, Nat.le_of_ble_eq_true rfl⟩) (va_recv hK hP (ci := 6) (q0 := 0) rfl rfl) hP hK hD hS hA hE rfl hl.1 rfl (Nat.le_of_ble_eq_true rfl) dX6_parentNode_2 ⟨Nat.le_of_ble_eq_true rfl, Nat.le_of_ble_eq_true rfl⟩ (fun H locs hP hD hS => ?_)
  refine lv_if_eq (tgt := 17) hx hb dX6_parentNode_5 (by decide) (fun hc => ?_) (fun hc => ?_)
  · have h := o_pos hc h
    refine lv_iconst (v := 0) hx hb dX6_parentNode_17 (by decide) ?_
    obtain ⟨eS, ev⟩ := Prod.mk.inj (Option.some.inj h)
    subst eS
    exact g_iret hQ hx hb hr hP hK hD hS (Nat.le_of_ble_eq_true rfl) (Nat.le_of_ble_eq_true rfl) dX6_parentNode_18 hlocks ev
  · have h := o_neg hc h
    refine lv_aload_n hx hb dX6_parentNode_8 rfl (lv_at hl 0 rfl) ?_
    refine mgX6_16 hx hb hts iX6 hown hK hP hf48 dX6_parentNode_9 ?_
    refine lv_iload_n hx hb dX6_parentNode_12 rfl (lv_at hl 1 rfl) ?_
    obtain ⟨v3, ev3, h⟩ := o_bind h
    refine mld8 hx hb hK hP ev3 dX6_parentNode_13 ?_
    refine lv_goto (tgt := 18) hx hb dX6_parentNode_14 (by decide) ?_
    obtain ⟨eS, ev⟩ := Prod.mk.inj (Option.some.inj h)
    subst eS
    exact g_iret hQ hx hb hr hP hK hD hS (Nat.le_of_ble_eq_true rfl) (Nat.le_of_ble_eq_true rfl) dX6_parentNode_18 hlocks ev
set_option maxHeartbeats 4000000 in
set_option maxRecDepth 100000 in
theorem m_X6_siteOf (l : Launch) (hst : l.stackTraces = false) (D : va_G) (cy : Nat → ClassId) (tx : List (ClassId × FieldType)) (ad : Nat → Nat) (R : va_W) (sz : Nat) (S : PS) (x1 : Int32) (S' : PS) (v : Int32) (h : q_X6_siteOf S x1 = some (S', v)) : gMi l yX6_siteOf wsX6_siteOf ({ frames := 2, cells := 0, slots := 0, locals := 43 }) 0 0 D (gT cy ++ tx) [.ref (ad 0), .int x1] sz (mW cy ad S R) (mW cy ad S' R) v := by
  refine Met.ofW (cc := cX6_siteOf) (maxL := 2) (ret := (some .int)) (by decide) rfl ?_
  intro p e s m args below meth c s₁ B hml hv
  obtain ⟨hav, hsz, hP, hK, hD0, hE⟩ := hv
  have hx := B.exec
  have hb := B.bytes
  have hr := B.returns
  have hts := atoms_spec (ws := wsX6_siteOf) B.pre
  have hown : s.vm.findClass RX6 = some m.cls := findClass_of_methodNamed B.named
  have hlocks := B.notSynchronized
  subst hsz
  have hD := hD0.self (sz := s.heap.size)
  generalize hAe : va_A (mW cy ad S R) s.heap.size = A at hD hE ⊢
  have hA : ∀ q : Nat, s.heap.size ≤ q → A q := fun q h => by rw [← hAe]; exact Or.inr h
  have hS : va_S A s.heap s.heap [] := va_S.rf
  have iX6 : ∀ w ∈ u_ws RX6 TX6 22, w ∈ wsX6_siteOf := by decide +kernel
  have hf51 := hts (.fieldLink RX6 51 "InlinePlannerModel" "nodeSites" "[I") (by decide +kernel)
  refine g_entry (n := 2) hav (Nat.le_of_ble_eq_true rfl) (fun ls hl => ?_)
  have hl : lv_has ls 2 [(0, .ref (ad 0)), (1, .int x1)] := hl
  refine g_nameQ (fun Q hQ => ?_)
  unfold q_X6_siteOf at h
  refine lv_aload_n hx hb dX6_siteOf_0 rfl (lv_at hl 0 rfl) ?_
  refine lv_iload_n hx hb dX6_siteOf_1 rfl (lv_at hl 1 rfl) ?_
  obtain ⟨⟨S2, v1⟩, ev1, h⟩ := o_bind h
  refine g_cVi (As := [.int x1]) (rest := []) ⟨hx, hb, hml, hown, hts⟩ (m_X6_asks_ l hst D cy tx ad R _ S x1 S2 v1 ev1) (cwV 1 hts gX6_siteOf_X6_asks_ rfl rfl rfl (by decide +kernel) ⟨Nat.le_of_ble_eq_true rfl, Nat.le_of_ble_eq_true rfl⟩) (va_recv hK hP (ci := 6) (q0 := 0) rfl rfl) hP hK hD hS hA hE rfl hl.1 rfl (Nat.le_of_ble_eq_true rfl) dX6_siteOf_2 ⟨Nat.le_of_ble_eq_true rfl, Nat.le_of_ble_eq_true rfl⟩ (fun H locs hP hD hS => ?_)
  refine lv_if_eq (tgt := 17) hx hb dX6_siteOf_5 (by decide) (fun hc => ?_) (fun hc => ?_)
  · have h := o_pos hc h
    refine lv_iconst (v := 0) hx hb dX6_siteOf_17 (by decide) ?_
    obtain ⟨eS, ev⟩ := Prod.mk.inj (Option.some.inj h)
    subst eS
    exact g_iret hQ hx hb hr hP hK hD hS (Nat.le_of_ble_eq_true rfl) (Nat.le_of_ble_eq_true rfl) dX6_siteOf_18 hlocks ev
  · have h := o_neg hc h
    refine lv_aload_n hx hb dX6_siteOf_8 rfl (lv_at hl 0 rfl) ?_
    refine mgX6_17 hx hb hts iX6 hown hK hP hf51 dX6_siteOf_9 ?_
    refine lv_iload_n hx hb dX6_siteOf_12 rfl (lv_at hl 1 rfl) ?_
    obtain ⟨v3, ev3, h⟩ := o_bind h
    refine mld9 hx hb hK hP ev3 dX6_siteOf_13 ?_
    refine lv_goto (tgt := 18) hx hb dX6_siteOf_14 (by decide) ?_
    obtain ⟨eS, ev⟩ := Prod.mk.inj (Option.some.inj h)
    subst eS
    exact g_iret hQ hx hb hr hP hK hD hS (Nat.le_of_ble_eq_true rfl) (Nat.le_of_ble_eq_true rfl) dX6_siteOf_18 hlocks ev
set_option maxHeartbeats 4000000 in
set_option maxRecDepth 100000 in
theorem m_X6_depth (l : Launch) (hst : l.stackTraces = false) (D : va_G) (cy : Nat → ClassId) (tx : List (ClassId × FieldType)) (ad : Nat → Nat) (R : va_W) (sz : Nat) (S : PS) (x1 : Int32) (S' : PS) (v : Int32) (h : q_X6_depth S x1 = some (S', v)) : gMi l yX6_depth wsX6_depth ({ frames := 2, cells := 0, slots := 0, locals := 43 }) 0 0 D (gT cy ++ tx) [.ref (ad 0), .int x1] sz (mW cy ad S R) (mW cy ad S' R) v := by
  refine Met.ofW (cc := cX6_depth) (maxL := 2) (ret := (some .int)) (by decide) rfl ?_
  intro p e s m args below meth c s₁ B hml hv
  obtain ⟨hav, hsz, hP, hK, hD0, hE⟩ := hv
  have hx := B.exec
  have hb := B.bytes
  have hr := B.returns
  have hts := atoms_spec (ws := wsX6_depth) B.pre
  have hown : s.vm.findClass RX6 = some m.cls := findClass_of_methodNamed B.named
  have hlocks := B.notSynchronized
  subst hsz
  have hD := hD0.self (sz := s.heap.size)
  generalize hAe : va_A (mW cy ad S R) s.heap.size = A at hD hE ⊢
  have hA : ∀ q : Nat, s.heap.size ≤ q → A q := fun q h => by rw [← hAe]; exact Or.inr h
  have hS : va_S A s.heap s.heap [] := va_S.rf
  have iX6 : ∀ w ∈ u_ws RX6 TX6 22, w ∈ wsX6_depth := by decide +kernel
  have hf54 := hts (.fieldLink RX6 54 "InlinePlannerModel" "nodeDepths" "[I") (by decide +kernel)
  refine g_entry (n := 2) hav (Nat.le_of_ble_eq_true rfl) (fun ls hl => ?_)
  have hl : lv_has ls 2 [(0, .ref (ad 0)), (1, .int x1)] := hl
  refine g_nameQ (fun Q hQ => ?_)
  unfold q_X6_depth at h
  refine lv_aload_n hx hb dX6_depth_0 rfl (lv_at hl 0 rfl) ?_
  refine lv_iload_n hx hb dX6_depth_1 rfl (lv_at hl 1 rfl) ?_
  obtain ⟨⟨S2, v1⟩, ev1, h⟩ := o_bind h
  refine g_cVi (As := [.int x1]) (rest := []) ⟨hx, hb, hml, hown, hts⟩ (m_X6_asks_ l hst D cy tx ad R _ S x1 S2 v1 ev1) (cwV 1 hts gX6_depth_X6_asks_ rfl rfl rfl (by decide +kernel) ⟨Nat.le_of_ble_eq_true rfl, Nat.le_of_ble_eq_true rfl⟩) (va_recv hK hP (ci := 6) (q0 := 0) rfl rfl) hP hK hD hS hA hE rfl hl.1 rfl (Nat.le_of_ble_eq_true rfl) dX6_depth_2 ⟨Nat.le_of_ble_eq_true rfl, Nat.le_of_ble_eq_true rfl⟩ (fun H locs hP hD hS => ?_)
  refine lv_if_eq (tgt := 17) hx hb dX6_depth_5 (by decide) (fun hc => ?_) (fun hc => ?_)
  · have h := o_pos hc h
    refine lv_iconst (v := 0) hx hb dX6_depth_17 (by decide) ?_
    obtain ⟨eS, ev⟩ := Prod.mk.inj (Option.some.inj h)
    subst eS
    exact g_iret hQ hx hb hr hP hK hD hS (Nat.le_of_ble_eq_true rfl) (Nat.le_of_ble_eq_true rfl) dX6_depth_18 hlocks ev
  · have h := o_neg hc h
    refine lv_aload_n hx hb dX6_depth_8 rfl (lv_at hl 0 rfl) ?_
    refine mgX6_18 hx hb hts iX6 hown hK hP hf54 dX6_depth_9 ?_
    refine lv_iload_n hx hb dX6_depth_12 rfl (lv_at hl 1 rfl) ?_
    obtain ⟨v3, ev3, h⟩ := o_bind h
    refine mld10 hx hb hK hP ev3 dX6_depth_13 ?_
    refine lv_goto (tgt := 18) hx hb dX6_depth_14 (by decide) ?_
    obtain ⟨eS, ev⟩ := Prod.mk.inj (Option.some.inj h)
    subst eS
    exact g_iret hQ hx hb hr hP hK hD hS (Nat.le_of_ble_eq_true rfl) (Nat.le_of_ble_eq_true rfl) dX6_depth_18 hlocks ev
set_option maxHeartbeats 4000000 in
set_option maxRecDepth 100000 in
theorem m_X6_siteCount (l : Launch) (hst : l.stackTraces = false) (D : va_G) (cy : Nat → ClassId) (tx : List (ClassId × FieldType)) (ad : Nat → Nat) (R : va_W) (sz : Nat) (S : PS) (x1 : Int32) (S' : PS) (v : Int32) (h : q_X6_siteCount S x1 = some (S', v)) : gMi l yX6_siteCount wsX6_siteCount ({ frames := 2, cells := 0, slots := 0, locals := 43 }) 0 0 D (gT cy ++ tx) [.ref (ad 0), .int x1] sz (mW cy ad S R) (mW cy ad S' R) v := by
  refine Met.ofW (cc := cX6_siteCount) (maxL := 2) (ret := (some .int)) (by decide) rfl ?_
  intro p e s m args below meth c s₁ B hml hv
  obtain ⟨hav, hsz, hP, hK, hD0, hE⟩ := hv
  have hx := B.exec
  have hb := B.bytes
  have hr := B.returns
  have hts := atoms_spec (ws := wsX6_siteCount) B.pre
  have hown : s.vm.findClass RX6 = some m.cls := findClass_of_methodNamed B.named
  have hlocks := B.notSynchronized
  subst hsz
  have hD := hD0.self (sz := s.heap.size)
  generalize hAe : va_A (mW cy ad S R) s.heap.size = A at hD hE ⊢
  have hA : ∀ q : Nat, s.heap.size ≤ q → A q := fun q h => by rw [← hAe]; exact Or.inr h
  have hS : va_S A s.heap s.heap [] := va_S.rf
  have iX6 : ∀ w ∈ u_ws RX6 TX6 22, w ∈ wsX6_siteCount := by decide +kernel
  have hf30 := hts (.fieldLink RX6 30 "InlinePlannerModel" "sites" "[I") (by decide +kernel)
  have hf45 := hts (.fieldLink RX6 45 "InlinePlannerModel" "nodeMethods" "[I") (by decide +kernel)
  refine g_entry (n := 2) hav (Nat.le_of_ble_eq_true rfl) (fun ls hl => ?_)
  have hl : lv_has ls 2 [(0, .ref (ad 0)), (1, .int x1)] := hl
  refine g_nameQ (fun Q hQ => ?_)
  unfold q_X6_siteCount at h
  refine lv_aload_n hx hb dX6_siteCount_0 rfl (lv_at hl 0 rfl) ?_
  refine lv_iload_n hx hb dX6_siteCount_1 rfl (lv_at hl 1 rfl) ?_
  obtain ⟨⟨S2, v1⟩, ev1, h⟩ := o_bind h
  refine g_cVi (As := [.int x1]) (rest := []) ⟨hx, hb, hml, hown, hts⟩ (m_X6_asks_ l hst D cy tx ad R _ S x1 S2 v1 ev1) (cwV 1 hts gX6_siteCount_X6_asks_ rfl rfl rfl (by decide +kernel) ⟨Nat.le_of_ble_eq_true rfl, Nat.le_of_ble_eq_true rfl⟩) (va_recv hK hP (ci := 6) (q0 := 0) rfl rfl) hP hK hD hS hA hE rfl hl.1 rfl (Nat.le_of_ble_eq_true rfl) dX6_siteCount_2 ⟨Nat.le_of_ble_eq_true rfl, Nat.le_of_ble_eq_true rfl⟩ (fun H locs hP hD hS => ?_)
  refine lv_if_eq (tgt := 22) hx hb dX6_siteCount_5 (by decide) (fun hc => ?_) (fun hc => ?_)
  · have h := o_pos hc h
    refine lv_iconst (v := 0) hx hb dX6_siteCount_22 (by decide) ?_
    obtain ⟨eS, ev⟩ := Prod.mk.inj (Option.some.inj h)
    subst eS
    exact g_iret hQ hx hb hr hP hK hD hS (Nat.le_of_ble_eq_true rfl) (Nat.le_of_ble_eq_true rfl) dX6_siteCount_23 hlocks ev
  · have h := o_neg hc h
    refine lv_aload_n hx hb dX6_siteCount_8 rfl (lv_at hl 0 rfl) ?_
    refine mgX6_8 hx hb hts iX6 hown hK hP hf30 dX6_siteCount_9 ?_
    refine lv_aload_n hx hb dX6_siteCount_12 rfl (lv_at hl 0 rfl) ?_
    refine mgX6_15 hx hb hts iX6 hown hK hP hf45 dX6_siteCount_13 ?_
    refine lv_iload_n hx hb dX6_siteCount_16 rfl (lv_at hl 1 rfl) ?_
    obtain ⟨v3, ev3, h⟩ := o_bind h
    refine mld7 hx hb hK hP ev3 dX6_siteCount_17 ?_
    obtain ⟨v4, ev4, h⟩ := o_bind h
    refine mld5 hx hb hK hP ev4 dX6_siteCount_18 ?_
    refine lv_goto (tgt := 23) hx hb dX6_siteCount_19 (by decide) ?_
    obtain ⟨eS, ev⟩ := Prod.mk.inj (Option.some.inj h)
    subst eS
    exact g_iret hQ hx hb hr hP hK hD hS (Nat.le_of_ble_eq_true rfl) (Nat.le_of_ble_eq_true rfl) dX6_siteCount_23 hlocks ev
set_option maxHeartbeats 4000000 in
set_option maxRecDepth 100000 in
theorem m_X6_verdict (l : Launch) (hst : l.stackTraces = false) (D : va_G) (cy : Nat → ClassId) (tx : List (ClassId × FieldType)) (ad : Nat → Nat) (R : va_W) (sz : Nat) (S : PS) (x1 : Int32) (x2 : Int32) (S' : PS) (v : Int32) (h : q_X6_verdict S x1 x2 = some (S', v)) : gMi l yX6_verdict wsX6_verdict ({ frames := 3, cells := 0, slots := 0, locals := 65 }) 0 0 D (gT cy ++ tx) [.ref (ad 0), .int x1, .int x2] sz (mW cy ad S R) (mW cy ad S' R) v := by
  refine Met.ofW (cc := cX6_verdict) (maxL := 3) (ret := (some .int)) (by decide) rfl ?_
  intro p e s m args below meth c s₁ B hml hv
  obtain ⟨hav, hsz, hP, hK, hD0, hE⟩ := hv
  have hx := B.exec
  have hb := B.bytes
  have hr := B.returns
  have hts := atoms_spec (ws := wsX6_verdict) B.pre
  have hown : s.vm.findClass RX6 = some m.cls := findClass_of_methodNamed B.named
  have hlocks := B.notSynchronized
  subst hsz
  have hD := hD0.self (sz := s.heap.size)
  generalize hAe : va_A (mW cy ad S R) s.heap.size = A at hD hE ⊢
  have hA : ∀ q : Nat, s.heap.size ≤ q → A q := fun q h => by rw [← hAe]; exact Or.inr h
  have hS : va_S A s.heap s.heap [] := va_S.rf
  have iX6 : ∀ w ∈ u_ws RX6 TX6 22, w ∈ wsX6_verdict := by decide +kernel
  have hf60 := hts (.fieldLink RX6 60 "InlinePlannerModel" "verdicts" "[I") (by decide +kernel)
  refine g_entry (n := 3) hav (Nat.le_of_ble_eq_true rfl) (fun ls hl => ?_)
  have hl : lv_has ls 3 [(0, .ref (ad 0)), (1, .int x1), (2, .int x2)] := hl
  refine g_nameQ (fun Q hQ => ?_)
  unfold q_X6_verdict at h
  refine lv_aload_n hx hb dX6_verdict_0 rfl (lv_at hl 0 rfl) ?_
  refine lv_iload_n hx hb dX6_verdict_1 rfl (lv_at hl 1 rfl) ?_
  refine lv_iload_n hx hb dX6_verdict_2 rfl (lv_at hl 2 rfl) ?_
  obtain ⟨⟨S2, v1⟩, ev1, h⟩ := o_bind h
  refine g_cVi (As := [.int x1, .int x2]) (rest := []) ⟨hx, hb, hml, hown, hts⟩ (m_X6_asks__ l hst D cy tx ad R _ S x1 x2 S2 v1 ev1) (cwV 2 hts gX6_verdict_X6_asks__ rfl rfl rfl (by decide +kernel) ⟨Nat.le_of_ble_eq_true rfl, Nat.le_of_ble_eq_true rfl⟩) (va_recv hK hP (ci := 6) (q0 := 0) rfl rfl) hP hK hD hS hA hE rfl hl.1 rfl (Nat.le_of_ble_eq_true rfl) dX6_verdict_3 ⟨Nat.le_of_ble_eq_true rfl, Nat.le_of_ble_eq_true rfl⟩ (fun H locs hP hD hS => ?_)
  refine lv_if_eq (tgt := 23) hx hb dX6_verdict_6 (by decide) (fun hc => ?_) (fun hc => ?_)
  · have h := o_pos hc h
    refine lv_iconst (v := 0) hx hb dX6_verdict_23 (by decide) ?_
    obtain ⟨eS, ev⟩ := Prod.mk.inj (Option.some.inj h)
    subst eS
    exact g_iret hQ hx hb hr hP hK hD hS (Nat.le_of_ble_eq_true rfl) (Nat.le_of_ble_eq_true rfl) dX6_verdict_24 hlocks ev
  · have h := o_neg hc h
    refine lv_aload_n hx hb dX6_verdict_9 rfl (lv_at hl 0 rfl) ?_
    refine mgX6_20 hx hb hts iX6 hown hK hP hf60 dX6_verdict_10 ?_
    refine lv_bipush (v := 8) hx hb dX6_verdict_13 (by decide) ?_
    refine lv_iload_n hx hb dX6_verdict_15 rfl (lv_at hl 1 rfl) ?_
    refine lv_imul hx hb dX6_verdict_16 ?_
    refine lv_iload_n hx hb dX6_verdict_17 rfl (lv_at hl 2 rfl) ?_
    refine lv_iadd hx hb dX6_verdict_18 ?_
    obtain ⟨v3, ev3, h⟩ := o_bind h
    refine mld12 hx hb hK hP ev3 dX6_verdict_19 ?_
    refine lv_goto (tgt := 24) hx hb dX6_verdict_20 (by decide) ?_
    obtain ⟨eS, ev⟩ := Prod.mk.inj (Option.some.inj h)
    subst eS
    exact g_iret hQ hx hb hr hP hK hD hS (Nat.le_of_ble_eq_true rfl) (Nat.le_of_ble_eq_true rfl) dX6_verdict_24 hlocks ev
set_option maxHeartbeats 4000000 in
set_option maxRecDepth 100000 in
theorem m_X6_weight (l : Launch) (hst : l.stackTraces = false) (D : va_G) (cy : Nat → ClassId) (tx : List (ClassId × FieldType)) (ad : Nat → Nat) (R : va_W) (sz : Nat) (S : PS) (x1 : Int32) (x2 : Int32) (S' : PS) (v : Int32) (h : q_X6_weight S x1 x2 = some (S', v)) : gMi l yX6_weight wsX6_weight ({ frames := 3, cells := 0, slots := 0, locals := 65 }) 0 0 D (gT cy ++ tx) [.ref (ad 0), .int x1, .int x2] sz (mW cy ad S R) (mW cy ad S' R) v := by
  refine Met.ofW (cc := cX6_weight) (maxL := 3) (ret := (some .int)) (by decide) rfl ?_
  intro p e s m args below meth c s₁ B hml hv
  obtain ⟨hav, hsz, hP, hK, hD0, hE⟩ := hv
  have hx := B.exec
  have hb := B.bytes
  have hr := B.returns
  have hts := atoms_spec (ws := wsX6_weight) B.pre
  have hown : s.vm.findClass RX6 = some m.cls := findClass_of_methodNamed B.named
  have hlocks := B.notSynchronized
  subst hsz
  have hD := hD0.self (sz := s.heap.size)
  generalize hAe : va_A (mW cy ad S R) s.heap.size = A at hD hE ⊢
  have hA : ∀ q : Nat, s.heap.size ≤ q → A q := fun q h => by rw [← hAe]; exact Or.inr h
  have hS : va_S A s.heap s.heap [] := va_S.rf
  have iX6 : ∀ w ∈ u_ws RX6 TX6 22, w ∈ wsX6_weight := by decide +kernel
  have hf63 := hts (.fieldLink RX6 63 "InlinePlannerModel" "weights" "[I") (by decide +kernel)
  refine g_entry (n := 3) hav (Nat.le_of_ble_eq_true rfl) (fun ls hl => ?_)
  have hl : lv_has ls 3 [(0, .ref (ad 0)), (1, .int x1), (2, .int x2)] := hl
  refine g_nameQ (fun Q hQ => ?_)
  unfold q_X6_weight at h
  refine lv_aload_n hx hb dX6_weight_0 rfl (lv_at hl 0 rfl) ?_
  refine lv_iload_n hx hb dX6_weight_1 rfl (lv_at hl 1 rfl) ?_
  refine lv_iload_n hx hb dX6_weight_2 rfl (lv_at hl 2 rfl) ?_
  obtain ⟨⟨S2, v1⟩, ev1, h⟩ := o_bind h
  refine g_cVi (As := [.int x1, .int x2]) (rest := []) ⟨hx, hb, hml, hown, hts⟩ (m_X6_asks__ l hst D cy tx ad R _ S x1 x2 S2 v1 ev1) (cwV 2 hts gX6_weight_X6_asks__ rfl rfl rfl (by decide +kernel) ⟨Nat.le_of_ble_eq_true rfl, Nat.le_of_ble_eq_true rfl⟩) (va_recv hK hP (ci := 6) (q0 := 0) rfl rfl) hP hK hD hS hA hE rfl hl.1 rfl (Nat.le_of_ble_eq_true rfl) dX6_weight_3 ⟨Nat.le_of_ble_eq_true rfl, Nat.le_of_ble_eq_true rfl⟩ (fun H locs hP hD hS => ?_)
  refine lv_if_eq (tgt := 23) hx hb dX6_weight_6 (by decide) (fun hc => ?_) (fun hc => ?_)
  · have h := o_pos hc h
    refine lv_iconst (v := 0) hx hb dX6_weight_23 (by decide) ?_
    obtain ⟨eS, ev⟩ := Prod.mk.inj (Option.some.inj h)
    subst eS
    exact g_iret hQ hx hb hr hP hK hD hS (Nat.le_of_ble_eq_true rfl) (Nat.le_of_ble_eq_true rfl) dX6_weight_24 hlocks ev
  · have h := o_neg hc h
    refine lv_aload_n hx hb dX6_weight_9 rfl (lv_at hl 0 rfl) ?_
    refine mgX6_21 hx hb hts iX6 hown hK hP hf63 dX6_weight_10 ?_
    refine lv_bipush (v := 8) hx hb dX6_weight_13 (by decide) ?_
    refine lv_iload_n hx hb dX6_weight_15 rfl (lv_at hl 1 rfl) ?_
    refine lv_imul hx hb dX6_weight_16 ?_
    refine lv_iload_n hx hb dX6_weight_17 rfl (lv_at hl 2 rfl) ?_
    refine lv_iadd hx hb dX6_weight_18 ?_
    obtain ⟨v3, ev3, h⟩ := o_bind h
    refine mld13 hx hb hK hP ev3 dX6_weight_19 ?_
    refine lv_goto (tgt := 24) hx hb dX6_weight_20 (by decide) ?_
    obtain ⟨eS, ev⟩ := Prod.mk.inj (Option.some.inj h)
    subst eS
    exact g_iret hQ hx hb hr hP hK hD hS (Nat.le_of_ble_eq_true rfl) (Nat.le_of_ble_eq_true rfl) dX6_weight_24 hlocks ev
set_option maxHeartbeats 4000000 in
set_option maxRecDepth 100000 in
theorem m_X6_sum (l : Launch) (hst : l.stackTraces = false) (D : va_G) (cy : Nat → ClassId) (tx : List (ClassId × FieldType)) (ad : Nat → Nat) (R : va_W) (sz : Nat) (S : PS) (x1 : Int32) (v : Int64) (h : q_X6_sum S x1 = some v) : gMl l yX6_sum wsX6_sum ({ frames := 0, cells := 0, slots := 0, locals := 0 }) 0 0 D (gT cy ++ tx) [.ref (ad 0), .int x1] sz (mW cy ad S R) (mW cy ad S R) v := by
  refine Met.ofW (cc := cX6_sum) (maxL := 6) (ret := (some .long)) (by decide) rfl ?_
  intro p e s m args below meth c s₁ B hml hv
  obtain ⟨hav, hsz, hP, hK, hD0, hE⟩ := hv
  have hx := B.exec
  have hb := B.bytes
  have hr := B.returns
  have hts := atoms_spec (ws := wsX6_sum) B.pre
  have hown : s.vm.findClass RX6 = some m.cls := findClass_of_methodNamed B.named
  have hlocks := B.notSynchronized
  subst hsz
  have hD := hD0.self (sz := s.heap.size)
  generalize hAe : va_A (mW cy ad S R) s.heap.size = A at hD hE ⊢
  have hA : ∀ q : Nat, s.heap.size ≤ q → A q := fun q h => by rw [← hAe]; exact Or.inr h
  have hS : va_S A s.heap s.heap [] := va_S.rf
  have iX6 : ∀ w ∈ u_ws RX6 TX6 22, w ∈ wsX6_sum := by decide +kernel
  have hf30 := hts (.fieldLink RX6 30 "InlinePlannerModel" "sites" "[I") (by decide +kernel)
  have hf45 := hts (.fieldLink RX6 45 "InlinePlannerModel" "nodeMethods" "[I") (by decide +kernel)
  have hf60 := hts (.fieldLink RX6 60 "InlinePlannerModel" "verdicts" "[I") (by decide +kernel)
  have hf63 := hts (.fieldLink RX6 63 "InlinePlannerModel" "weights" "[I") (by decide +kernel)
  have hf118 := hts (.fieldLink RX6 118 "InlinePlannerModel" "nodes" "I") (by decide +kernel)
  refine g_entry (n := 6) hav (Nat.le_of_ble_eq_true rfl) (fun ls hl => ?_)
  have hl : lv_has ls 6 [(0, .ref (ad 0)), (1, .int x1)] := hl
  refine g_nameQ (fun Q hQ => ?_)
  unfold q_X6_sum at h
  refine lv_lconst (v := 0) hx hb dX6_sum_0 (by decide) ?_
  refine lv_lstore_n (lv' := [(2, .long 0), (0, .ref (ad 0)), (1, .int x1)]) hx hb dX6_sum_1 rfl hl (by decide) rfl (fun ls hl => ?_)
  refine lv_iconst (v := 0) hx hb dX6_sum_2 (by decide) ?_
  refine lv_istore (lv' := [(4, .int 0), (2, .long 0), (0, .ref (ad 0)), (1, .int x1)]) hx hb dX6_sum_3 hl (by decide) rfl (fun ls hl => ?_)
  have L5 : ∀ (n5 : Nat) (x2 : Int64) (x4 : Int32) (H : Heap) (locs : List Loc) (ls : Array Slot), va_P D vwCl (mW cy ad S R) H → va_D A (mW cy ad S R) → va_S A s.heap H locs → lv_has ls 6 [(0, .ref (ad 0)), (1, .int x1), (2, .long x2), (4, .int x4)] → iter2 (q_X6_sum_L5 S x1 ) n5 x2 x4 = some v → W p l e (headSpec wsX6_sum ({ frames := 0, cells := 0, slots := 0, locals := 0 })).room s m args below meth c H locs 0 0 Q (F0 m 5 ls []) := by
    intro  n5
    induction n5 with
    | zero =>
      intro x2 x4 H locs ls hP hD hS hl h
      exact (it2_0 h).elim
    | succ n5 ih5 =>
      intro x2 x4 H locs ls hP hD hS hl h
      have h : q_X6_sum_L5 S x1  (iter2 (q_X6_sum_L5 S x1 ) n5) x2 x4 = some v := h
      unfold q_X6_sum_L5 at h
      refine lv_iload hx hb dX6_sum_5 (lv_at hl 3 rfl) ?_
      refine lv_aload_n hx hb dX6_sum_7 rfl (lv_at hl 0 rfl) ?_
      refine mgX6_14 hx hb hts iX6 hown hK hP hf118 dX6_sum_8 ?_
      refine lv_icmp_ge (tgt := 84) hx hb dX6_sum_11 (by decide) (fun hc => ?_) (fun hc => ?_)
      · have h := o_pos hc h
        refine lv_lload_n hx hb dX6_sum_84 rfl (lv_at hl 2 rfl) ?_
        exact g_lret hQ hx hb hr hP hK hD hS (Nat.le_of_ble_eq_true rfl) (Nat.le_of_ble_eq_true rfl) dX6_sum_85 hlocks (Option.some.inj h)
      · have h := o_neg hc h
        refine lv_iconst (v := 0) hx hb dX6_sum_14 (by decide) ?_
        refine lv_istore (lv' := [(5, .int 0), (0, .ref (ad 0)), (1, .int x1), (2, .long x2), (4, .int x4)]) hx hb dX6_sum_15 hl (by decide) rfl (fun ls hl => ?_)
        have L17 : ∀ (n17 : Nat) (x2 : Int64) (x5 : Int32) (H : Heap) (locs : List Loc) (ls : Array Slot), va_P D vwCl (mW cy ad S R) H → va_D A (mW cy ad S R) → va_S A s.heap H locs → lv_has ls 6 [(0, .ref (ad 0)), (1, .int x1), (2, .long x2), (4, .int x4), (5, .int x5)] → iter2 (q_X6_sum_L17 S x1 x4 (iter2 (q_X6_sum_L5 S x1 ) n5)) n17 x2 x5 = some v → W p l e (headSpec wsX6_sum ({ frames := 0, cells := 0, slots := 0, locals := 0 })).room s m args below meth c H locs 0 0 Q (F0 m 17 ls []) := by
          intro  n17
          induction n17 with
          | zero =>
            intro x2 x5 H locs ls hP hD hS hl h
            exact (it2_0 h).elim
          | succ n17 ih17 =>
            intro x2 x5 H locs ls hP hD hS hl h
            have h : q_X6_sum_L17 S x1 x4 (iter2 (q_X6_sum_L5 S x1 ) n5) (iter2 (q_X6_sum_L17 S x1 x4 (iter2 (q_X6_sum_L5 S x1 ) n5)) n17) x2 x5 = some v := h
            unfold q_X6_sum_L17 at h
            refine lv_iload hx hb dX6_sum_17 (lv_at hl 4 rfl) ?_
            refine lv_aload_n hx hb dX6_sum_19 rfl (lv_at hl 0 rfl) ?_
            refine mgX6_8 hx hb hts iX6 hown hK hP hf30 dX6_sum_20 ?_
            refine lv_aload_n hx hb dX6_sum_23 rfl (lv_at hl 0 rfl) ?_
            refine mgX6_15 hx hb hts iX6 hown hK hP hf45 dX6_sum_24 ?_
            refine lv_iload hx hb dX6_sum_27 (lv_at hl 3 rfl) ?_
            obtain ⟨v1, ev1, h⟩ := o_bind h
            refine mld7 hx hb hK hP ev1 dX6_sum_29 ?_
            obtain ⟨v2, ev2, h⟩ := o_bind h
            refine mld5 hx hb hK hP ev2 dX6_sum_30 ?_
            refine lv_icmp_ge (tgt := 78) hx hb dX6_sum_31 (by decide) (fun hc => ?_) (fun hc => ?_)
            · have h := o_pos hc h
              refine lv_iinc (v := (x4 + 1)) (lv' := [(4, .int (x4 + 1)), (0, .ref (ad 0)), (1, .int x1), (2, .long x2), (5, .int x5)]) hx hb dX6_sum_78 hl (k := 3) rfl rfl (by decide) rfl (fun ls hl => ?_)
              refine lv_goto (tgt := 5) hx hb dX6_sum_81 (by decide) ?_
              exact ih5 x2 (x4 + 1) _ _ ls hP hD hS (lv_sub hl [1, 2, 3, 0] rfl) h
            · have h := o_neg hc h
              refine lv_lload_n hx hb dX6_sum_34 rfl (lv_at hl 2 rfl) ?_
              refine lv_aload_n hx hb dX6_sum_35 rfl (lv_at hl 0 rfl) ?_
              refine mgX6_20 hx hb hts iX6 hown hK hP hf60 dX6_sum_36 ?_
              refine lv_bipush (v := 8) hx hb dX6_sum_39 (by decide) ?_
              refine lv_iload hx hb dX6_sum_41 (lv_at hl 3 rfl) ?_
              refine lv_imul hx hb dX6_sum_43 ?_
              refine lv_iload hx hb dX6_sum_44 (lv_at hl 4 rfl) ?_
              refine lv_iadd hx hb dX6_sum_46 ?_
              obtain ⟨v3, ev3, h⟩ := o_bind h
              refine mld12 hx hb hK hP ev3 dX6_sum_47 ?_
              refine lv_iload_n hx hb dX6_sum_48 rfl (lv_at hl 1 rfl) ?_
              refine lv_icmp_ne (tgt := 69) hx hb dX6_sum_49 (by decide) (fun hc => ?_) (fun hc => ?_)
              · have h := o_neg hc h
                refine lv_lconst (v := 0) hx hb dX6_sum_69 (by decide) ?_
                refine lv_ladd hx hb dX6_sum_70 ?_
                refine lv_lstore_n (lv' := [(2, .long (x2 + 0)), (0, .ref (ad 0)), (1, .int x1), (4, .int x4), (5, .int x5)]) hx hb dX6_sum_71 rfl hl (by decide) rfl (fun ls hl => ?_)
                refine lv_iinc (v := (x5 + 1)) (lv' := [(5, .int (x5 + 1)), (2, .long (x2 + 0)), (0, .ref (ad 0)), (1, .int x1), (4, .int x4)]) hx hb dX6_sum_72 hl (k := 4) rfl rfl (by decide) rfl (fun ls hl => ?_)
                refine lv_goto (tgt := 17) hx hb dX6_sum_75 (by decide) ?_
                exact ih17 (x2 + 0) (x5 + 1) _ _ ls hP hD hS (lv_sub hl [2, 3, 1, 4, 0] rfl) h
              · have h := o_pos hc h
                refine lv_aload_n hx hb dX6_sum_52 rfl (lv_at hl 0 rfl) ?_
                refine mgX6_21 hx hb hts iX6 hown hK hP hf63 dX6_sum_53 ?_
                refine lv_bipush (v := 8) hx hb dX6_sum_56 (by decide) ?_
                refine lv_iload hx hb dX6_sum_58 (lv_at hl 3 rfl) ?_
                refine lv_imul hx hb dX6_sum_60 ?_
                refine lv_iload hx hb dX6_sum_61 (lv_at hl 4 rfl) ?_
                refine lv_iadd hx hb dX6_sum_63 ?_
                obtain ⟨v4, ev4, h⟩ := o_bind h
                refine mld13 hx hb hK hP ev4 dX6_sum_64 ?_
                refine lv_i2l (v := ((v4 : Int32).toInt64)) hx hb dX6_sum_65 rfl ?_
                refine lv_goto (tgt := 70) hx hb dX6_sum_66 (by decide) ?_
                refine lv_ladd hx hb dX6_sum_70 ?_
                refine lv_lstore_n (lv' := [(2, .long (x2 + ((v4 : Int32).toInt64))), (0, .ref (ad 0)), (1, .int x1), (4, .int x4), (5, .int x5)]) hx hb dX6_sum_71 rfl hl (by decide) rfl (fun ls hl => ?_)
                refine lv_iinc (v := (x5 + 1)) (lv' := [(5, .int (x5 + 1)), (2, .long (x2 + ((v4 : Int32).toInt64))), (0, .ref (ad 0)), (1, .int x1), (4, .int x4)]) hx hb dX6_sum_72 hl (k := 4) rfl rfl (by decide) rfl (fun ls hl => ?_)
                refine lv_goto (tgt := 17) hx hb dX6_sum_75 (by decide) ?_
                exact ih17 (x2 + ((v4 : Int32).toInt64)) (x5 + 1) _ _ ls hP hD hS (lv_sub hl [2, 3, 1, 4, 0] rfl) h
        exact L17  1000 x2 0 _ _ ls hP hD hS (lv_sub hl [1, 2, 3, 4, 0] rfl) h
  exact L5  1000 0 0 _ _ ls hP hD hS (lv_sub hl [2, 3, 1, 0] rfl) h
set_option maxHeartbeats 4000000 in
set_option maxRecDepth 100000 in
theorem m_X6_weightOf (l : Launch) (hst : l.stackTraces = false) (D : va_G) (cy : Nat → ClassId) (tx : List (ClassId × FieldType)) (ad : Nat → Nat) (R : va_W) (sz : Nat) (S : PS) (x1 : Int32) (S' : PS) (v : Int64) (h : q_X6_weightOf S x1 = some (S', v)) : gMl l yX6_weightOf wsX6_weightOf ({ frames := 1, cells := 0, slots := 0, locals := 25 }) 0 0 D (gT cy ++ tx) [.ref (ad 0), .int x1] sz (mW cy ad S R) (mW cy ad S' R) v := by
  refine Met.ofW (cc := cX6_weightOf) (maxL := 2) (ret := (some .long)) (by decide) rfl ?_
  intro p e s m args below meth c s₁ B hml hv
  obtain ⟨hav, hsz, hP, hK, hD0, hE⟩ := hv
  have hx := B.exec
  have hb := B.bytes
  have hr := B.returns
  have hts := atoms_spec (ws := wsX6_weightOf) B.pre
  have hown : s.vm.findClass RX6 = some m.cls := findClass_of_methodNamed B.named
  have hlocks := B.notSynchronized
  subst hsz
  have hD := hD0.self (sz := s.heap.size)
  generalize hAe : va_A (mW cy ad S R) s.heap.size = A at hD hE ⊢
  have hA : ∀ q : Nat, s.heap.size ≤ q → A q := fun q h => by rw [← hAe]; exact Or.inr h
  have hS : va_S A s.heap s.heap [] := va_S.rf
  have iX6 : ∀ w ∈ u_ws RX6 TX6 22, w ∈ wsX6_weightOf := by decide +kernel
  have hf66 := hts (.fieldLink RX6 66 "InlinePlannerModel" "thrown" "I") (by decide +kernel)
  have hf98 := hts (.fieldLink RX6 98 "InlinePlannerModel" "hasPlan" "Z") (by decide +kernel)
  refine g_entry (n := 2) hav (Nat.le_of_ble_eq_true rfl) (fun ls hl => ?_)
  have hl : lv_has ls 2 [(0, .ref (ad 0)), (1, .int x1)] := hl
  refine g_nameQ (fun Q hQ => ?_)
  unfold q_X6_weightOf at h
  refine lv_aload_n hx hb dX6_weightOf_0 rfl (lv_at hl 0 rfl) ?_
  refine lv_aload_n hx hb dX6_weightOf_1 rfl (lv_at hl 0 rfl) ?_
  refine mgX6_13 hx hb hts iX6 hown hK hP hf98 dX6_weightOf_2 ?_
  refine lv_if_ne (tgt := 12) hx hb dX6_weightOf_5 (by decide) (fun hc => ?_) (fun hc => ?_)
  · have h := o_neg hc h
    refine lv_iload_n hx hb dX6_weightOf_12 rfl (lv_at hl 1 rfl) ?_
    refine lv_iconst (v := 0) hx hb dX6_weightOf_13 (by decide) ?_
    refine lv_bipush (v := 7) hx hb dX6_weightOf_14 (by decide) ?_
    obtain ⟨v1, ev1, h⟩ := o_bind h
    refine g_cSi (As := [.int x1, .int 0, .int 7]) (rest := [.ref (ad 0)]) ⟨hx, hb, hml, hown, hts⟩ (m_X6_isIn l hst D (gT cy ++ tx) (mW cy ad S R) _ x1 0 7 v1 ev1) (va_cwS 3 hts gX6_weightOf_X6_isIn rfl rfl rfl (by decide +kernel) ⟨Nat.le_of_ble_eq_true rfl, Nat.le_of_ble_eq_true rfl⟩) hP hK hD hS hA hE rfl hl.1 rfl (Nat.le_of_ble_eq_true rfl) dX6_weightOf_16 ⟨Nat.le_of_ble_eq_true rfl, Nat.le_of_ble_eq_true rfl⟩ (fun H locs hP hD hS => ?_)
    refine lv_if_ne (tgt := 26) hx hb dX6_weightOf_19 (by decide) (fun hc => ?_) (fun hc => ?_)
    · have h := o_neg hc h
      refine lv_iconst (v := 0) hx hb dX6_weightOf_26 (by decide) ?_
      obtain ⟨S2, eS2, h⟩ := o_bind h
      refine mpX6_0 hx hb hts iX6 hown hK hP hD hS hf66 eS2 dX6_weightOf_27 (fun H locs hP hD hS => ?_)
      refine lv_aload_n hx hb dX6_weightOf_30 rfl (lv_at hl 0 rfl) ?_
      refine mgX6_0 hx hb hts iX6 hown hK hP hf66 dX6_weightOf_31 ?_
      refine lv_if_ne (tgt := 45) hx hb dX6_weightOf_34 (by decide) (fun hc => ?_) (fun hc => ?_)
      · have h := o_neg hc h
        refine lv_lconst (v := 0) hx hb dX6_weightOf_45 (by decide) ?_
        obtain ⟨eS, ev⟩ := Prod.mk.inj (Option.some.inj h)
        subst eS
        exact g_lret hQ hx hb hr hP hK hD hS (Nat.le_of_ble_eq_true rfl) (Nat.le_of_ble_eq_true rfl) dX6_weightOf_46 hlocks ev
      · have h := o_pos hc h
        refine lv_aload_n hx hb dX6_weightOf_37 rfl (lv_at hl 0 rfl) ?_
        refine lv_iload_n hx hb dX6_weightOf_38 rfl (lv_at hl 1 rfl) ?_
        obtain ⟨v3, ev3, h⟩ := o_bind h
        refine g_cVl (As := [.int x1]) (rest := []) ⟨hx, hb, hml, hown, hts⟩ (m_X6_sum l hst D cy tx ad R _ S2 x1 v3 ev3) (cwV 1 hts gX6_weightOf_X6_sum rfl rfl rfl (by decide +kernel) ⟨Nat.le_of_ble_eq_true rfl, Nat.le_of_ble_eq_true rfl⟩) (va_recv hK hP (ci := 6) (q0 := 0) rfl rfl) hP hK hD hS hA hE rfl hl.1 rfl (Nat.le_of_ble_eq_true rfl) dX6_weightOf_39 ⟨Nat.le_of_ble_eq_true rfl, Nat.le_of_ble_eq_true rfl⟩ (fun H locs hP hD hS => ?_)
        refine lv_goto (tgt := 46) hx hb dX6_weightOf_42 (by decide) ?_
        obtain ⟨eS, ev⟩ := Prod.mk.inj (Option.some.inj h)
        subst eS
        exact g_lret hQ hx hb hr hP hK hD hS (Nat.le_of_ble_eq_true rfl) (Nat.le_of_ble_eq_true rfl) dX6_weightOf_46 hlocks ev
    · have h := o_pos hc h
      refine lv_iconst (v := 2) hx hb dX6_weightOf_22 (by decide) ?_
      refine lv_goto (tgt := 27) hx hb dX6_weightOf_23 (by decide) ?_
      obtain ⟨S4, eS4, h⟩ := o_bind h
      refine mpX6_0 hx hb hts iX6 hown hK hP hD hS hf66 eS4 dX6_weightOf_27 (fun H locs hP hD hS => ?_)
      refine lv_aload_n hx hb dX6_weightOf_30 rfl (lv_at hl 0 rfl) ?_
      refine mgX6_0 hx hb hts iX6 hown hK hP hf66 dX6_weightOf_31 ?_
      refine lv_if_ne (tgt := 45) hx hb dX6_weightOf_34 (by decide) (fun hc => ?_) (fun hc => ?_)
      · have h := o_neg hc h
        refine lv_lconst (v := 0) hx hb dX6_weightOf_45 (by decide) ?_
        obtain ⟨eS, ev⟩ := Prod.mk.inj (Option.some.inj h)
        subst eS
        exact g_lret hQ hx hb hr hP hK hD hS (Nat.le_of_ble_eq_true rfl) (Nat.le_of_ble_eq_true rfl) dX6_weightOf_46 hlocks ev
      · have h := o_pos hc h
        refine lv_aload_n hx hb dX6_weightOf_37 rfl (lv_at hl 0 rfl) ?_
        refine lv_iload_n hx hb dX6_weightOf_38 rfl (lv_at hl 1 rfl) ?_
        obtain ⟨v5, ev5, h⟩ := o_bind h
        refine g_cVl (As := [.int x1]) (rest := []) ⟨hx, hb, hml, hown, hts⟩ (m_X6_sum l hst D cy tx ad R _ S4 x1 v5 ev5) (cwV 1 hts gX6_weightOf_X6_sum rfl rfl rfl (by decide +kernel) ⟨Nat.le_of_ble_eq_true rfl, Nat.le_of_ble_eq_true rfl⟩) (va_recv hK hP (ci := 6) (q0 := 0) rfl rfl) hP hK hD hS hA hE rfl hl.1 rfl (Nat.le_of_ble_eq_true rfl) dX6_weightOf_39 ⟨Nat.le_of_ble_eq_true rfl, Nat.le_of_ble_eq_true rfl⟩ (fun H locs hP hD hS => ?_)
        refine lv_goto (tgt := 46) hx hb dX6_weightOf_42 (by decide) ?_
        obtain ⟨eS, ev⟩ := Prod.mk.inj (Option.some.inj h)
        subst eS
        exact g_lret hQ hx hb hr hP hK hD hS (Nat.le_of_ble_eq_true rfl) (Nat.le_of_ble_eq_true rfl) dX6_weightOf_46 hlocks ev
  · have h := o_pos hc h
    refine lv_iconst (v := 1) hx hb dX6_weightOf_8 (by decide) ?_
    refine lv_goto (tgt := 27) hx hb dX6_weightOf_9 (by decide) ?_
    obtain ⟨S6, eS6, h⟩ := o_bind h
    refine mpX6_0 hx hb hts iX6 hown hK hP hD hS hf66 eS6 dX6_weightOf_27 (fun H locs hP hD hS => ?_)
    refine lv_aload_n hx hb dX6_weightOf_30 rfl (lv_at hl 0 rfl) ?_
    refine mgX6_0 hx hb hts iX6 hown hK hP hf66 dX6_weightOf_31 ?_
    refine lv_if_ne (tgt := 45) hx hb dX6_weightOf_34 (by decide) (fun hc => ?_) (fun hc => ?_)
    · have h := o_neg hc h
      refine lv_lconst (v := 0) hx hb dX6_weightOf_45 (by decide) ?_
      obtain ⟨eS, ev⟩ := Prod.mk.inj (Option.some.inj h)
      subst eS
      exact g_lret hQ hx hb hr hP hK hD hS (Nat.le_of_ble_eq_true rfl) (Nat.le_of_ble_eq_true rfl) dX6_weightOf_46 hlocks ev
    · have h := o_pos hc h
      refine lv_aload_n hx hb dX6_weightOf_37 rfl (lv_at hl 0 rfl) ?_
      refine lv_iload_n hx hb dX6_weightOf_38 rfl (lv_at hl 1 rfl) ?_
      obtain ⟨v7, ev7, h⟩ := o_bind h
      refine g_cVl (As := [.int x1]) (rest := []) ⟨hx, hb, hml, hown, hts⟩ (m_X6_sum l hst D cy tx ad R _ S6 x1 v7 ev7) (cwV 1 hts gX6_weightOf_X6_sum rfl rfl rfl (by decide +kernel) ⟨Nat.le_of_ble_eq_true rfl, Nat.le_of_ble_eq_true rfl⟩) (va_recv hK hP (ci := 6) (q0 := 0) rfl rfl) hP hK hD hS hA hE rfl hl.1 rfl (Nat.le_of_ble_eq_true rfl) dX6_weightOf_39 ⟨Nat.le_of_ble_eq_true rfl, Nat.le_of_ble_eq_true rfl⟩ (fun H locs hP hD hS => ?_)
      refine lv_goto (tgt := 46) hx hb dX6_weightOf_42 (by decide) ?_
      obtain ⟨eS, ev⟩ := Prod.mk.inj (Option.some.inj h)
      subst eS
      exact g_lret hQ hx hb hr hP hK hD hS (Nat.le_of_ble_eq_true rfl) (Nat.le_of_ble_eq_true rfl) dX6_weightOf_46 hlocks ev
set_option maxHeartbeats 4000000 in
set_option maxRecDepth 100000 in
theorem m_X6_share (l : Launch) (hst : l.stackTraces = false) (D : va_G) (cy : Nat → ClassId) (tx : List (ClassId × FieldType)) (ad : Nat → Nat) (R : va_W) (sz : Nat) (S : PS)  (S' : PS) (v : UInt64) (h : q_X6_share S = some (S', v)) : gMd l yX6_share wsX6_share ({ frames := 1, cells := 0, slots := 0, locals := 25 }) 0 0 D (gT cy ++ tx) [.ref (ad 0)] sz (mW cy ad S R) (mW cy ad S' R) v := by
  refine Met.ofW (cc := cX6_share) (maxL := 4) (ret := (some .double)) (by decide) rfl ?_
  intro p e s m args below meth c s₁ B hml hv
  obtain ⟨hav, hsz, hP, hK, hD0, hE⟩ := hv
  have hx := B.exec
  have hb := B.bytes
  have hr := B.returns
  have hts := atoms_spec (ws := wsX6_share) B.pre
  have hown : s.vm.findClass RX6 = some m.cls := findClass_of_methodNamed B.named
  have hlocks := B.notSynchronized
  subst hsz
  have hD := hD0.self (sz := s.heap.size)
  generalize hAe : va_A (mW cy ad S R) s.heap.size = A at hD hE ⊢
  have hA : ∀ q : Nat, s.heap.size ≤ q → A q := fun q h => by rw [← hAe]; exact Or.inr h
  have hS : va_S A s.heap s.heap [] := va_S.rf
  refine g_entry (n := 4) hav (Nat.le_of_ble_eq_true rfl) (fun ls hl => ?_)
  have hl : lv_has ls 4 [(0, .ref (ad 0))] := hl
  refine g_nameQ (fun Q hQ => ?_)
  unfold q_X6_share at h
  refine lv_aload_n hx hb dX6_share_0 rfl (lv_at hl 0 rfl) ?_
  obtain ⟨⟨S2, v1⟩, ev1, h⟩ := o_bind h
  refine g_cVi (As := []) (rest := []) ⟨hx, hb, hml, hown, hts⟩ (m_X6_asks l hst D cy tx ad R _ S  S2 v1 ev1) (cwV 0 hts gX6_share_X6_asks rfl rfl rfl (by decide +kernel) ⟨Nat.le_of_ble_eq_true rfl, Nat.le_of_ble_eq_true rfl⟩) (va_recv hK hP (ci := 6) (q0 := 0) rfl rfl) hP hK hD hS hA hE rfl hl.1 rfl (Nat.le_of_ble_eq_true rfl) dX6_share_1 ⟨Nat.le_of_ble_eq_true rfl, Nat.le_of_ble_eq_true rfl⟩ (fun H locs hP hD hS => ?_)
  refine lv_if_ne (tgt := 9) hx hb dX6_share_4 (by decide) (fun hc => ?_) (fun hc => ?_)
  · have h := o_neg hc h
    refine lv_lconst (v := 0) hx hb dX6_share_9 (by decide) ?_
    refine lv_lstore_n (lv' := [(1, .long 0), (0, .ref (ad 0))]) hx hb dX6_share_10 rfl hl (by decide) rfl (fun ls hl => ?_)
    refine lv_iconst (v := 0) hx hb dX6_share_11 (by decide) ?_
    refine lv_istore_n (lv' := [(3, .int 0), (1, .long 0), (0, .ref (ad 0))]) hx hb dX6_share_12 rfl hl (by decide) rfl (fun ls hl => ?_)
    have L13 : ∀ (S : PS), ∀ (n13 : Nat) (x1 : Int64) (x3 : Int32) (H : Heap) (locs : List Loc) (ls : Array Slot), va_P D vwCl (mW cy ad S R) H → va_D A (mW cy ad S R) → va_S A s.heap H locs → lv_has ls 4 [(0, .ref (ad 0)), (1, .long x1), (3, .int x3)] → iter2 (q_X6_share_L13 S ) n13 x1 x3 = some (S', v) → W p l e (headSpec wsX6_share ({ frames := 1, cells := 0, slots := 0, locals := 25 })).room s m args below meth c H locs 0 0 Q (F0 m 13 ls []) := by
      intro S n13
      induction n13 with
      | zero =>
        intro x1 x3 H locs ls hP hD hS hl h
        exact (it2_0 h).elim
      | succ n13 ih13 =>
        intro x1 x3 H locs ls hP hD hS hl h
        have h : q_X6_share_L13 S  (iter2 (q_X6_share_L13 S ) n13) x1 x3 = some (S', v) := h
        unfold q_X6_share_L13 at h
        refine lv_iload_n hx hb dX6_share_13 rfl (lv_at hl 2 rfl) ?_
        refine lv_bipush (v := 7) hx hb dX6_share_14 (by decide) ?_
        refine lv_icmp_gt (tgt := 33) hx hb dX6_share_16 (by decide) (fun hc => ?_) (fun hc => ?_)
        · have h := o_pos hc h
          refine lv_lload_n hx hb dX6_share_33 rfl (lv_at hl 1 rfl) ?_
          refine lv_lconst (v := 0) hx hb dX6_share_34 (by decide) ?_
          refine W.lcmp hx hb dX6_share_35 ?_
          refine lv_if_ne (tgt := 43) hx hb dX6_share_36 (by decide) (fun hc => ?_) (fun hc => ?_)
          · have h := o_neg hc h
            refine lv_aload_n hx hb dX6_share_43 rfl (lv_at hl 0 rfl) ?_
            refine lv_iconst (v := 0) hx hb dX6_share_44 (by decide) ?_
            obtain ⟨v3, ev3, h⟩ := o_bind h
            refine g_cVl (As := [.int 0]) (rest := []) ⟨hx, hb, hml, hown, hts⟩ (m_X6_sum l hst D cy tx ad R _ S 0 v3 ev3) (cwV 1 hts gX6_share_X6_sum rfl rfl rfl (by decide +kernel) ⟨Nat.le_of_ble_eq_true rfl, Nat.le_of_ble_eq_true rfl⟩) (va_recv hK hP (ci := 6) (q0 := 0) rfl rfl) hP hK hD hS hA hE rfl hl.1 rfl (Nat.le_of_ble_eq_true rfl) dX6_share_45 ⟨Nat.le_of_ble_eq_true rfl, Nat.le_of_ble_eq_true rfl⟩ (fun H locs hP hD hS => ?_)
            refine lv_l2d hx hb dX6_share_48 ?_
            refine lv_lload_n hx hb dX6_share_49 rfl (lv_at hl 1 rfl) ?_
            refine lv_l2d hx hb dX6_share_50 ?_
            obtain ⟨_, hu4, h⟩ := o_bind h
            refine lv_ddiv hx hb dX6_share_51 (ndiv_spec hu4) ?_
            obtain ⟨eS, ev⟩ := Prod.mk.inj (Option.some.inj h)
            subst eS
            exact g_dret hQ hx hb hr hP hK hD hS (Nat.le_of_ble_eq_true rfl) (Nat.le_of_ble_eq_true rfl) dX6_share_52 hlocks ev
          · have h := o_pos hc h
            refine lv_dconst1 hx hb dX6_share_39 ?_
            refine lv_goto (tgt := 52) hx hb dX6_share_40 (by decide) ?_
            obtain ⟨eS, ev⟩ := Prod.mk.inj (Option.some.inj h)
            subst eS
            exact g_dret hQ hx hb hr hP hK hD hS (Nat.le_of_ble_eq_true rfl) (Nat.le_of_ble_eq_true rfl) dX6_share_52 hlocks ev
        · have h := o_neg hc h
          refine lv_lload_n hx hb dX6_share_19 rfl (lv_at hl 1 rfl) ?_
          refine lv_aload_n hx hb dX6_share_20 rfl (lv_at hl 0 rfl) ?_
          refine lv_iload_n hx hb dX6_share_21 rfl (lv_at hl 2 rfl) ?_
          obtain ⟨v5, ev5, h⟩ := o_bind h
          refine g_cVl (As := [.int x3]) (rest := [.long x1]) ⟨hx, hb, hml, hown, hts⟩ (m_X6_sum l hst D cy tx ad R _ S x3 v5 ev5) (cwV 1 hts gX6_share_X6_sum rfl rfl rfl (by decide +kernel) ⟨Nat.le_of_ble_eq_true rfl, Nat.le_of_ble_eq_true rfl⟩) (va_recv hK hP (ci := 6) (q0 := 0) rfl rfl) hP hK hD hS hA hE rfl hl.1 rfl (Nat.le_of_ble_eq_true rfl) dX6_share_22 ⟨Nat.le_of_ble_eq_true rfl, Nat.le_of_ble_eq_true rfl⟩ (fun H locs hP hD hS => ?_)
          refine lv_ladd hx hb dX6_share_25 ?_
          refine lv_lstore_n (lv' := [(1, .long (x1 + v5)), (0, .ref (ad 0)), (3, .int x3)]) hx hb dX6_share_26 rfl hl (by decide) rfl (fun ls hl => ?_)
          refine lv_iinc (v := (x3 + 1)) (lv' := [(3, .int (x3 + 1)), (1, .long (x1 + v5)), (0, .ref (ad 0))]) hx hb dX6_share_27 hl (k := 2) rfl rfl (by decide) rfl (fun ls hl => ?_)
          refine lv_goto (tgt := 13) hx hb dX6_share_30 (by decide) ?_
          exact ih13 (x1 + v5) (x3 + 1) _ _ ls hP hD hS (lv_sub hl [2, 1, 0] rfl) h
    exact L13 S2 1000 0 0 _ _ ls hP hD hS (lv_sub hl [2, 1, 0] rfl) h
  · have h := o_pos hc h
    refine lv_dconst0 hx hb dX6_share_7 ?_
    obtain ⟨eS, ev⟩ := Prod.mk.inj (Option.some.inj h)
    subst eS
    exact g_dret hQ hx hb hr hP hK hD hS (Nat.le_of_ble_eq_true rfl) (Nat.le_of_ble_eq_true rfl) dX6_share_8 hlocks ev
set_option maxHeartbeats 4000000 in
set_option maxRecDepth 100000 in
theorem m_X6_isHolding (l : Launch) (hst : l.stackTraces = false) (D : va_G) (cy : Nat → ClassId) (tx : List (ClassId × FieldType)) (ad : Nat → Nat) (R : va_W) (sz : Nat) (S : PS) (x1 : Int32) (v : Int32) (h : q_X6_isHolding S x1 = some v) : gMi l yX6_isHolding wsX6_isHolding ({ frames := 4, cells := 0, slots := 0, locals := 93 }) 0 0 D (gT cy ++ tx) [.ref (ad 0), .int x1] sz (mW cy ad S R) (mW cy ad S R) v := by
  refine Met.ofW (cc := cX6_isHolding) (maxL := 2) (ret := (some .boolean)) (by decide) rfl ?_
  intro p e s m args below meth c s₁ B hml hv
  obtain ⟨hav, hsz, hP, hK, hD0, hE⟩ := hv
  have hx := B.exec
  have hb := B.bytes
  have hr := B.returns
  have hts := atoms_spec (ws := wsX6_isHolding) B.pre
  have hown : s.vm.findClass RX6 = some m.cls := findClass_of_methodNamed B.named
  have hlocks := B.notSynchronized
  subst hsz
  have hD := hD0.self (sz := s.heap.size)
  generalize hAe : va_A (mW cy ad S R) s.heap.size = A at hD hE ⊢
  have hA : ∀ q : Nat, s.heap.size ≤ q → A q := fun q h => by rw [← hAe]; exact Or.inr h
  have hS : va_S A s.heap s.heap [] := va_S.rf
  have iX6 : ∀ w ∈ u_ws RX6 TX6 22, w ∈ wsX6_isHolding := by decide +kernel
  have hf45 := hts (.fieldLink RX6 45 "InlinePlannerModel" "nodeMethods" "[I") (by decide +kernel)
  have hf48 := hts (.fieldLink RX6 48 "InlinePlannerModel" "nodeParents" "[I") (by decide +kernel)
  have hf51 := hts (.fieldLink RX6 51 "InlinePlannerModel" "nodeSites" "[I") (by decide +kernel)
  refine g_entry (n := 2) hav (Nat.le_of_ble_eq_true rfl) (fun ls hl => ?_)
  have hl : lv_has ls 2 [(0, .ref (ad 0)), (1, .int x1)] := hl
  refine g_nameQ (fun Q hQ => ?_)
  unfold q_X6_isHolding at h
  refine lv_iload_n hx hb dX6_isHolding_0 rfl (lv_at hl 1 rfl) ?_
  refine lv_if_eq (tgt := 31) hx hb dX6_isHolding_1 (by decide) (fun hc => ?_) (fun hc => ?_)
  · have h := o_pos hc h
    refine lv_iconst (v := 1) hx hb dX6_isHolding_31 (by decide) ?_
    refine lv_goto (tgt := 36) hx hb dX6_isHolding_32 (by decide) ?_
    exact g_zret hQ hx hb hr rfl hP hK hD hS (Nat.le_of_ble_eq_true rfl) (Nat.le_of_ble_eq_true rfl) dX6_isHolding_36 hlocks (Option.some.inj h)
  · have h := o_neg hc h
    refine lv_aload_n hx hb dX6_isHolding_4 rfl (lv_at hl 0 rfl) ?_
    refine lv_aload_n hx hb dX6_isHolding_5 rfl (lv_at hl 0 rfl) ?_
    refine mgX6_16 hx hb hts iX6 hown hK hP hf48 dX6_isHolding_6 ?_
    refine lv_iload_n hx hb dX6_isHolding_9 rfl (lv_at hl 1 rfl) ?_
    obtain ⟨v1, ev1, h⟩ := o_bind h
    refine mld8 hx hb hK hP ev1 dX6_isHolding_10 ?_
    refine lv_aload_n hx hb dX6_isHolding_11 rfl (lv_at hl 0 rfl) ?_
    refine mgX6_17 hx hb hts iX6 hown hK hP hf51 dX6_isHolding_12 ?_
    refine lv_iload_n hx hb dX6_isHolding_15 rfl (lv_at hl 1 rfl) ?_
    obtain ⟨v2, ev2, h⟩ := o_bind h
    refine mld9 hx hb hK hP ev2 dX6_isHolding_16 ?_
    obtain ⟨v3, ev3, h⟩ := o_bind h
    refine g_cVi (As := [.int v1, .int v2]) (rest := []) ⟨hx, hb, hml, hown, hts⟩ (m_X6_targetsOf l hst D cy tx ad R _ S v1 v2 v3 ev3) (cwV 2 hts gX6_isHolding_X6_targetsOf rfl rfl rfl (by decide +kernel) ⟨Nat.le_of_ble_eq_true rfl, Nat.le_of_ble_eq_true rfl⟩) (va_recv hK hP (ci := 6) (q0 := 0) rfl rfl) hP hK hD hS hA hE rfl hl.1 rfl (Nat.le_of_ble_eq_true rfl) dX6_isHolding_17 ⟨Nat.le_of_ble_eq_true rfl, Nat.le_of_ble_eq_true rfl⟩ (fun H locs hP hD hS => ?_)
    refine lv_iconst (v := 1) hx hb dX6_isHolding_20 (by decide) ?_
    refine lv_aload_n hx hb dX6_isHolding_21 rfl (lv_at hl 0 rfl) ?_
    refine mgX6_15 hx hb hts iX6 hown hK hP hf45 dX6_isHolding_22 ?_
    refine lv_iload_n hx hb dX6_isHolding_25 rfl (lv_at hl 1 rfl) ?_
    obtain ⟨v4, ev4, h⟩ := o_bind h
    refine mld7 hx hb hK hP ev4 dX6_isHolding_26 ?_
    refine lv_ishl hx hb dX6_isHolding_27 ?_
    refine lv_icmp_ne (tgt := 35) hx hb dX6_isHolding_28 (by decide) (fun hc => ?_) (fun hc => ?_)
    · have h := o_neg hc h
      refine lv_iconst (v := 0) hx hb dX6_isHolding_35 (by decide) ?_
      exact g_zret hQ hx hb hr rfl hP hK hD hS (Nat.le_of_ble_eq_true rfl) (Nat.le_of_ble_eq_true rfl) dX6_isHolding_36 hlocks (Option.some.inj h)
    · have h := o_pos hc h
      refine lv_iconst (v := 1) hx hb dX6_isHolding_31 (by decide) ?_
      refine lv_goto (tgt := 36) hx hb dX6_isHolding_32 (by decide) ?_
      exact g_zret hQ hx hb hr rfl hP hK hD hS (Nat.le_of_ble_eq_true rfl) (Nat.le_of_ble_eq_true rfl) dX6_isHolding_36 hlocks (Option.some.inj h)
set_option maxHeartbeats 4000000 in
set_option maxRecDepth 100000 in
theorem m_X6_holds (l : Launch) (hst : l.stackTraces = false) (D : va_G) (cy : Nat → ClassId) (tx : List (ClassId × FieldType)) (ad : Nat → Nat) (R : va_W) (sz : Nat) (S : PS) (x1 : Int32) (S' : PS) (v : Int32) (h : q_X6_holds S x1 = some (S', v)) : gMi l yX6_holds wsX6_holds ({ frames := 5, cells := 0, slots := 0, locals := 114 }) 0 0 D (gT cy ++ tx) [.ref (ad 0), .int x1] sz (mW cy ad S R) (mW cy ad S' R) v := by
  refine Met.ofW (cc := cX6_holds) (maxL := 2) (ret := (some .boolean)) (by decide) rfl ?_
  intro p e s m args below meth c s₁ B hml hv
  obtain ⟨hav, hsz, hP, hK, hD0, hE⟩ := hv
  have hx := B.exec
  have hb := B.bytes
  have hr := B.returns
  have hts := atoms_spec (ws := wsX6_holds) B.pre
  have hown : s.vm.findClass RX6 = some m.cls := findClass_of_methodNamed B.named
  have hlocks := B.notSynchronized
  subst hsz
  have hD := hD0.self (sz := s.heap.size)
  generalize hAe : va_A (mW cy ad S R) s.heap.size = A at hD hE ⊢
  have hA : ∀ q : Nat, s.heap.size ≤ q → A q := fun q h => by rw [← hAe]; exact Or.inr h
  have hS : va_S A s.heap s.heap [] := va_S.rf
  refine g_entry (n := 2) hav (Nat.le_of_ble_eq_true rfl) (fun ls hl => ?_)
  have hl : lv_has ls 2 [(0, .ref (ad 0)), (1, .int x1)] := hl
  refine g_nameQ (fun Q hQ => ?_)
  unfold q_X6_holds at h
  refine lv_aload_n hx hb dX6_holds_0 rfl (lv_at hl 0 rfl) ?_
  refine lv_iload_n hx hb dX6_holds_1 rfl (lv_at hl 1 rfl) ?_
  obtain ⟨⟨S2, v1⟩, ev1, h⟩ := o_bind h
  refine g_cVi (As := [.int x1]) (rest := []) ⟨hx, hb, hml, hown, hts⟩ (m_X6_asks_ l hst D cy tx ad R _ S x1 S2 v1 ev1) (cwV 1 hts gX6_holds_X6_asks_ rfl rfl rfl (by decide +kernel) ⟨Nat.le_of_ble_eq_true rfl, Nat.le_of_ble_eq_true rfl⟩) (va_recv hK hP (ci := 6) (q0 := 0) rfl rfl) hP hK hD hS hA hE rfl hl.1 rfl (Nat.le_of_ble_eq_true rfl) dX6_holds_2 ⟨Nat.le_of_ble_eq_true rfl, Nat.le_of_ble_eq_true rfl⟩ (fun H locs hP hD hS => ?_)
  refine lv_if_eq (tgt := 20) hx hb dX6_holds_5 (by decide) (fun hc => ?_) (fun hc => ?_)
  · have h := o_pos hc h
    refine lv_iconst (v := 0) hx hb dX6_holds_20 (by decide) ?_
    obtain ⟨eS, ev⟩ := Prod.mk.inj (Option.some.inj h)
    subst eS
    exact g_zret hQ hx hb hr rfl hP hK hD hS (Nat.le_of_ble_eq_true rfl) (Nat.le_of_ble_eq_true rfl) dX6_holds_21 hlocks ev
  · have h := o_neg hc h
    refine lv_aload_n hx hb dX6_holds_8 rfl (lv_at hl 0 rfl) ?_
    refine lv_iload_n hx hb dX6_holds_9 rfl (lv_at hl 1 rfl) ?_
    obtain ⟨v3, ev3, h⟩ := o_bind h
    refine g_cVi (As := [.int x1]) (rest := []) ⟨hx, hb, hml, hown, hts⟩ (m_X6_isHolding l hst D cy tx ad R _ S2 x1 v3 ev3) (cwV 1 hts gX6_holds_X6_isHolding rfl rfl rfl (by decide +kernel) ⟨Nat.le_of_ble_eq_true rfl, Nat.le_of_ble_eq_true rfl⟩) (va_recv hK hP (ci := 6) (q0 := 0) rfl rfl) hP hK hD hS hA hE rfl hl.1 rfl (Nat.le_of_ble_eq_true rfl) dX6_holds_10 ⟨Nat.le_of_ble_eq_true rfl, Nat.le_of_ble_eq_true rfl⟩ (fun H locs hP hD hS => ?_)
    refine lv_if_eq (tgt := 20) hx hb dX6_holds_13 (by decide) (fun hc => ?_) (fun hc => ?_)
    · have h := o_pos hc h
      refine lv_iconst (v := 0) hx hb dX6_holds_20 (by decide) ?_
      obtain ⟨eS, ev⟩ := Prod.mk.inj (Option.some.inj h)
      subst eS
      exact g_zret hQ hx hb hr rfl hP hK hD hS (Nat.le_of_ble_eq_true rfl) (Nat.le_of_ble_eq_true rfl) dX6_holds_21 hlocks ev
    · have h := o_neg hc h
      refine lv_iconst (v := 1) hx hb dX6_holds_16 (by decide) ?_
      refine lv_goto (tgt := 21) hx hb dX6_holds_17 (by decide) ?_
      obtain ⟨eS, ev⟩ := Prod.mk.inj (Option.some.inj h)
      subst eS
      exact g_zret hQ hx hb hr rfl hP hK hD hS (Nat.le_of_ble_eq_true rfl) (Nat.le_of_ble_eq_true rfl) dX6_holds_21 hlocks ev
set_option maxHeartbeats 4000000 in
set_option maxRecDepth 100000 in
theorem m_X6_firstBroken (l : Launch) (hst : l.stackTraces = false) (D : va_G) (cy : Nat → ClassId) (tx : List (ClassId × FieldType)) (ad : Nat → Nat) (R : va_W) (sz : Nat) (S : PS)  (S' : PS) (v : Int32) (h : q_X6_firstBroken S = some (S', v)) : gMi l yX6_firstBroken wsX6_firstBroken ({ frames := 5, cells := 0, slots := 0, locals := 114 }) 0 0 D (gT cy ++ tx) [.ref (ad 0)] sz (mW cy ad S R) (mW cy ad S' R) v := by
  refine Met.ofW (cc := cX6_firstBroken) (maxL := 2) (ret := (some .int)) (by decide) rfl ?_
  intro p e s m args below meth c s₁ B hml hv
  obtain ⟨hav, hsz, hP, hK, hD0, hE⟩ := hv
  have hx := B.exec
  have hb := B.bytes
  have hr := B.returns
  have hts := atoms_spec (ws := wsX6_firstBroken) B.pre
  have hown : s.vm.findClass RX6 = some m.cls := findClass_of_methodNamed B.named
  have hlocks := B.notSynchronized
  subst hsz
  have hD := hD0.self (sz := s.heap.size)
  generalize hAe : va_A (mW cy ad S R) s.heap.size = A at hD hE ⊢
  have hA : ∀ q : Nat, s.heap.size ≤ q → A q := fun q h => by rw [← hAe]; exact Or.inr h
  have hS : va_S A s.heap s.heap [] := va_S.rf
  have iX6 : ∀ w ∈ u_ws RX6 TX6 22, w ∈ wsX6_firstBroken := by decide +kernel
  have hf118 := hts (.fieldLink RX6 118 "InlinePlannerModel" "nodes" "I") (by decide +kernel)
  refine g_entry (n := 2) hav (Nat.le_of_ble_eq_true rfl) (fun ls hl => ?_)
  have hl : lv_has ls 2 [(0, .ref (ad 0))] := hl
  refine g_nameQ (fun Q hQ => ?_)
  unfold q_X6_firstBroken at h
  refine lv_aload_n hx hb dX6_firstBroken_0 rfl (lv_at hl 0 rfl) ?_
  obtain ⟨⟨S2, v1⟩, ev1, h⟩ := o_bind h
  refine g_cVi (As := []) (rest := []) ⟨hx, hb, hml, hown, hts⟩ (m_X6_asks l hst D cy tx ad R _ S  S2 v1 ev1) (cwV 0 hts gX6_firstBroken_X6_asks rfl rfl rfl (by decide +kernel) ⟨Nat.le_of_ble_eq_true rfl, Nat.le_of_ble_eq_true rfl⟩) (va_recv hK hP (ci := 6) (q0 := 0) rfl rfl) hP hK hD hS hA hE rfl hl.1 rfl (Nat.le_of_ble_eq_true rfl) dX6_firstBroken_1 ⟨Nat.le_of_ble_eq_true rfl, Nat.le_of_ble_eq_true rfl⟩ (fun H locs hP hD hS => ?_)
  refine lv_if_ne (tgt := 9) hx hb dX6_firstBroken_4 (by decide) (fun hc => ?_) (fun hc => ?_)
  · have h := o_neg hc h
    refine lv_iconst (v := 0) hx hb dX6_firstBroken_9 (by decide) ?_
    refine lv_istore_n (lv' := [(1, .int 0), (0, .ref (ad 0))]) hx hb dX6_firstBroken_10 rfl hl (by decide) rfl (fun ls hl => ?_)
    have L11 : ∀ (S : PS), ∀ (n11 : Nat) (x1 : Int32) (H : Heap) (locs : List Loc) (ls : Array Slot), va_P D vwCl (mW cy ad S R) H → va_D A (mW cy ad S R) → va_S A s.heap H locs → lv_has ls 2 [(0, .ref (ad 0)), (1, .int x1)] → iter1 (q_X6_firstBroken_L11 S ) n11 x1 = some (S', v) → W p l e (headSpec wsX6_firstBroken ({ frames := 5, cells := 0, slots := 0, locals := 114 })).room s m args below meth c H locs 0 0 Q (F0 m 11 ls []) := by
      intro S n11
      induction n11 with
      | zero =>
        intro x1 H locs ls hP hD hS hl h
        exact (it1_0 h).elim
      | succ n11 ih11 =>
        intro x1 H locs ls hP hD hS hl h
        have h : q_X6_firstBroken_L11 S  (iter1 (q_X6_firstBroken_L11 S ) n11) x1 = some (S', v) := h
        unfold q_X6_firstBroken_L11 at h
        refine lv_iload_n hx hb dX6_firstBroken_11 rfl (lv_at hl 1 rfl) ?_
        refine lv_aload_n hx hb dX6_firstBroken_12 rfl (lv_at hl 0 rfl) ?_
        refine mgX6_14 hx hb hts iX6 hown hK hP hf118 dX6_firstBroken_13 ?_
        refine lv_icmp_ge (tgt := 35) hx hb dX6_firstBroken_16 (by decide) (fun hc => ?_) (fun hc => ?_)
        · have h := o_pos hc h
          refine lv_iconst (v := (-1)) hx hb dX6_firstBroken_35 (by decide) ?_
          obtain ⟨eS, ev⟩ := Prod.mk.inj (Option.some.inj h)
          subst eS
          exact g_iret hQ hx hb hr hP hK hD hS (Nat.le_of_ble_eq_true rfl) (Nat.le_of_ble_eq_true rfl) dX6_firstBroken_36 hlocks ev
        · have h := o_neg hc h
          refine lv_aload_n hx hb dX6_firstBroken_19 rfl (lv_at hl 0 rfl) ?_
          refine lv_iload_n hx hb dX6_firstBroken_20 rfl (lv_at hl 1 rfl) ?_
          obtain ⟨v3, ev3, h⟩ := o_bind h
          refine g_cVi (As := [.int x1]) (rest := []) ⟨hx, hb, hml, hown, hts⟩ (m_X6_isHolding l hst D cy tx ad R _ S x1 v3 ev3) (cwV 1 hts gX6_firstBroken_X6_isHolding rfl rfl rfl (by decide +kernel) ⟨Nat.le_of_ble_eq_true rfl, Nat.le_of_ble_eq_true rfl⟩) (va_recv hK hP (ci := 6) (q0 := 0) rfl rfl) hP hK hD hS hA hE rfl hl.1 rfl (Nat.le_of_ble_eq_true rfl) dX6_firstBroken_21 ⟨Nat.le_of_ble_eq_true rfl, Nat.le_of_ble_eq_true rfl⟩ (fun H locs hP hD hS => ?_)
          refine lv_if_ne (tgt := 29) hx hb dX6_firstBroken_24 (by decide) (fun hc => ?_) (fun hc => ?_)
          · have h := o_neg hc h
            refine lv_iinc (v := (x1 + 1)) (lv' := [(1, .int (x1 + 1)), (0, .ref (ad 0))]) hx hb dX6_firstBroken_29 hl (k := 1) rfl rfl (by decide) rfl (fun ls hl => ?_)
            refine lv_goto (tgt := 11) hx hb dX6_firstBroken_32 (by decide) ?_
            exact ih11 (x1 + 1) _ _ ls hP hD hS (lv_sub hl [1, 0] rfl) h
          · have h := o_pos hc h
            refine lv_iload_n hx hb dX6_firstBroken_27 rfl (lv_at hl 1 rfl) ?_
            obtain ⟨eS, ev⟩ := Prod.mk.inj (Option.some.inj h)
            subst eS
            exact g_iret hQ hx hb hr hP hK hD hS (Nat.le_of_ble_eq_true rfl) (Nat.le_of_ble_eq_true rfl) dX6_firstBroken_28 hlocks ev
    exact L11 S2 1000 0 _ _ ls hP hD hS (lv_sub hl [1, 0] rfl) h
  · have h := o_pos hc h
    refine lv_iconst (v := 0) hx hb dX6_firstBroken_7 (by decide) ?_
    obtain ⟨eS, ev⟩ := Prod.mk.inj (Option.some.inj h)
    subst eS
    exact g_iret hQ hx hb hr hP hK hD hS (Nat.le_of_ble_eq_true rfl) (Nat.le_of_ble_eq_true rfl) dX6_firstBroken_8 hlocks ev
set_option maxHeartbeats 4000000 in
set_option maxRecDepth 100000 in
theorem m_X6_move (l : Launch) (hst : l.stackTraces = false) (D : va_G) (cy : Nat → ClassId) (tx : List (ClassId × FieldType)) (ad : Nat → Nat) (qe : Nat) (ce : ClassId) (xf : Nat → Int32) (R : va_W) (sz : Nat) (S : PS) (x1 : Int32) (x2 : Int32) (S' : PS) (h : q_X6_move S xf x1 x2 = some S') : gMv l yX6_move wsX6_move ({ frames := 0, cells := 0, slots := 0, locals := 0 }) 0 0 D (gT cy ++ ((ce, .int) :: tx)) [.ref (ad 0), .int x1, .int x2, .ref qe] sz (mW cy ad S ((qe, .inl (ce, 50, .inl xf)) :: R)) (mW cy ad S' ((qe, .inl (ce, 50, .inl xf)) :: R)) := by
  refine Met.ofW (cc := cX6_move) (maxL := 5) (ret := none) (by decide) rfl ?_
  intro p e s m args below meth c s₁ B hml hv
  obtain ⟨hav, hsz, hP, hK, hD0, hE⟩ := hv
  have hx := B.exec
  have hb := B.bytes
  have hr := B.returns
  have hts := atoms_spec (ws := wsX6_move) B.pre
  have hown : s.vm.findClass RX6 = some m.cls := findClass_of_methodNamed B.named
  have hlocks := B.notSynchronized
  subst hsz
  have hD := hD0.self (sz := s.heap.size)
  generalize hAe : va_A (mW cy ad S ((qe, .inl (ce, 50, .inl xf)) :: R)) s.heap.size = A at hD hE ⊢
  have hA : ∀ q : Nat, s.heap.size ≤ q → A q := fun q h => by rw [← hAe]; exact Or.inr h
  have hS : va_S A s.heap s.heap [] := va_S.rf
  have iX6 : ∀ w ∈ u_ws RX6 TX6 22, w ∈ wsX6_move := by decide +kernel
  have hf45 := hts (.fieldLink RX6 45 "InlinePlannerModel" "nodeMethods" "[I") (by decide +kernel)
  have hf48 := hts (.fieldLink RX6 48 "InlinePlannerModel" "nodeParents" "[I") (by decide +kernel)
  have hf51 := hts (.fieldLink RX6 51 "InlinePlannerModel" "nodeSites" "[I") (by decide +kernel)
  have hf54 := hts (.fieldLink RX6 54 "InlinePlannerModel" "nodeDepths" "[I") (by decide +kernel)
  have hf57 := hts (.fieldLink RX6 57 "InlinePlannerModel" "nodeWeights" "[I") (by decide +kernel)
  have hf60 := hts (.fieldLink RX6 60 "InlinePlannerModel" "verdicts" "[I") (by decide +kernel)
  have hf63 := hts (.fieldLink RX6 63 "InlinePlannerModel" "weights" "[I") (by decide +kernel)
  refine g_entry (n := 5) hav (Nat.le_of_ble_eq_true rfl) (fun ls hl => ?_)
  have hl : lv_has ls 5 [(0, .ref (ad 0)), (1, .int x1), (2, .int x2), (3, .ref qe)] := hl
  refine g_nameQ (fun Q hQ => ?_)
  unfold q_X6_move at h
  refine lv_aload_n hx hb dX6_move_0 rfl (lv_at hl 0 rfl) ?_
  refine mgX6_15 hx hb hts iX6 hown hK hP hf45 dX6_move_1 ?_
  refine lv_iload_n hx hb dX6_move_4 rfl (lv_at hl 2 rfl) ?_
  refine lv_aload_n hx hb dX6_move_5 rfl (lv_at hl 0 rfl) ?_
  refine mgX6_15 hx hb hts iX6 hown hK hP hf45 dX6_move_6 ?_
  refine lv_iload_n hx hb dX6_move_9 rfl (lv_at hl 1 rfl) ?_
  obtain ⟨v1, ev1, h⟩ := o_bind h
  refine mld7 hx hb hK hP ev1 dX6_move_10 ?_
  obtain ⟨S2, eS2, h⟩ := o_bind h
  refine mst7 hx hb hK hP hD hS eS2 dX6_move_11 (fun H locs hP hD hS => ?_)
  refine lv_aload_n hx hb dX6_move_12 rfl (lv_at hl 0 rfl) ?_
  refine mgX6_19 hx hb hts iX6 hown hK hP hf57 dX6_move_13 ?_
  refine lv_iload_n hx hb dX6_move_16 rfl (lv_at hl 2 rfl) ?_
  refine lv_aload_n hx hb dX6_move_17 rfl (lv_at hl 0 rfl) ?_
  refine mgX6_19 hx hb hts iX6 hown hK hP hf57 dX6_move_18 ?_
  refine lv_iload_n hx hb dX6_move_21 rfl (lv_at hl 1 rfl) ?_
  obtain ⟨v3, ev3, h⟩ := o_bind h
  refine mld11 hx hb hK hP ev3 dX6_move_22 ?_
  obtain ⟨S4, eS4, h⟩ := o_bind h
  refine mst11 hx hb hK hP hD hS eS4 dX6_move_23 (fun H locs hP hD hS => ?_)
  refine lv_aload_n hx hb dX6_move_24 rfl (lv_at hl 0 rfl) ?_
  refine mgX6_18 hx hb hts iX6 hown hK hP hf54 dX6_move_25 ?_
  refine lv_iload_n hx hb dX6_move_28 rfl (lv_at hl 2 rfl) ?_
  refine lv_aload_n hx hb dX6_move_29 rfl (lv_at hl 0 rfl) ?_
  refine mgX6_18 hx hb hts iX6 hown hK hP hf54 dX6_move_30 ?_
  refine lv_iload_n hx hb dX6_move_33 rfl (lv_at hl 1 rfl) ?_
  obtain ⟨v5, ev5, h⟩ := o_bind h
  refine mld10 hx hb hK hP ev5 dX6_move_34 ?_
  obtain ⟨S6, eS6, h⟩ := o_bind h
  refine mst10 hx hb hK hP hD hS eS6 dX6_move_35 (fun H locs hP hD hS => ?_)
  refine lv_aload_n hx hb dX6_move_36 rfl (lv_at hl 0 rfl) ?_
  refine mgX6_17 hx hb hts iX6 hown hK hP hf51 dX6_move_37 ?_
  refine lv_iload_n hx hb dX6_move_40 rfl (lv_at hl 2 rfl) ?_
  refine lv_aload_n hx hb dX6_move_41 rfl (lv_at hl 0 rfl) ?_
  refine mgX6_17 hx hb hts iX6 hown hK hP hf51 dX6_move_42 ?_
  refine lv_iload_n hx hb dX6_move_45 rfl (lv_at hl 1 rfl) ?_
  obtain ⟨v7, ev7, h⟩ := o_bind h
  refine mld9 hx hb hK hP ev7 dX6_move_46 ?_
  obtain ⟨S8, eS8, h⟩ := o_bind h
  refine mst9 hx hb hK hP hD hS eS8 dX6_move_47 (fun H locs hP hD hS => ?_)
  refine lv_aload_n hx hb dX6_move_48 rfl (lv_at hl 0 rfl) ?_
  refine mgX6_16 hx hb hts iX6 hown hK hP hf48 dX6_move_49 ?_
  refine lv_iload_n hx hb dX6_move_52 rfl (lv_at hl 2 rfl) ?_
  refine lv_iload_n hx hb dX6_move_53 rfl (lv_at hl 1 rfl) ?_
  refine lv_if_ne (tgt := 61) hx hb dX6_move_54 (by decide) (fun hc => ?_) (fun hc => ?_)
  · have h := o_neg hc h
    refine lv_aload_n hx hb dX6_move_61 rfl (lv_at hl 3 rfl) ?_
    refine lv_aload_n hx hb dX6_move_62 rfl (lv_at hl 0 rfl) ?_
    refine mgX6_16 hx hb hts iX6 hown hK hP hf48 dX6_move_63 ?_
    refine lv_iload_n hx hb dX6_move_66 rfl (lv_at hl 1 rfl) ?_
    obtain ⟨v9, ev9, h⟩ := o_bind h
    refine mld8 hx hb hK hP ev9 dX6_move_67 ?_
    obtain ⟨v10, ev10, h⟩ := o_bind h
    refine g_iald hx hb hK hP 15 35 rfl rfl ev10 dX6_move_68 ?_
    obtain ⟨S11, eS11, h⟩ := o_bind h
    refine mst8 hx hb hK hP hD hS eS11 dX6_move_69 (fun H locs hP hD hS => ?_)
    refine lv_iconst (v := 0) hx hb dX6_move_70 (by decide) ?_
    refine lv_istore (lv' := [(4, .int 0), (0, .ref (ad 0)), (1, .int x1), (2, .int x2), (3, .ref qe)]) hx hb dX6_move_71 hl (by decide) rfl (fun ls hl => ?_)
    have L73 : ∀ (n73 : Nat) (x4 : Int32) (S : PS) (H : Heap) (locs : List Loc) (ls : Array Slot), va_P D vwCl (mW cy ad S ((qe, .inl (ce, 50, .inl xf)) :: R)) H → va_D A (mW cy ad S ((qe, .inl (ce, 50, .inl xf)) :: R)) → va_S A s.heap H locs → lv_has ls 5 [(0, .ref (ad 0)), (1, .int x1), (2, .int x2), (4, .int x4)] → iter2 (q_X6_move_L73 x1 x2 xf ) n73 x4 S = some S' → W p l e (headSpec wsX6_move ({ frames := 0, cells := 0, slots := 0, locals := 0 })).room s m args below meth c H locs 0 0 Q (F0 m 73 ls []) := by
      intro  n73
      induction n73 with
      | zero =>
        intro x4 S H locs ls hP hD hS hl h
        exact (it2_0 h).elim
      | succ n73 ih73 =>
        intro x4 S H locs ls hP hD hS hl h
        have h : q_X6_move_L73 x1 x2 xf  (iter2 (q_X6_move_L73 x1 x2 xf ) n73) x4 S = some S' := h
        unfold q_X6_move_L73 at h
        refine lv_iload hx hb dX6_move_73 (lv_at hl 3 rfl) ?_
        refine lv_bipush (v := 8) hx hb dX6_move_75 (by decide) ?_
        refine lv_icmp_ge (tgt := 134) hx hb dX6_move_77 (by decide) (fun hc => ?_) (fun hc => ?_)
        · have h := o_pos hc h
          have eS := Option.some.inj h
          subst eS
          exact g_vret hQ hx hb hr hP hK hD hS (Nat.le_of_ble_eq_true rfl) (Nat.le_of_ble_eq_true rfl) dX6_move_134 hlocks
        · have h := o_neg hc h
          refine lv_aload_n hx hb dX6_move_80 rfl (lv_at hl 0 rfl) ?_
          refine mgX6_20 hx hb hts iX6 hown hK hP hf60 dX6_move_81 ?_
          refine lv_bipush (v := 8) hx hb dX6_move_84 (by decide) ?_
          refine lv_iload_n hx hb dX6_move_86 rfl (lv_at hl 2 rfl) ?_
          refine lv_imul hx hb dX6_move_87 ?_
          refine lv_iload hx hb dX6_move_88 (lv_at hl 3 rfl) ?_
          refine lv_iadd hx hb dX6_move_90 ?_
          refine lv_aload_n hx hb dX6_move_91 rfl (lv_at hl 0 rfl) ?_
          refine mgX6_20 hx hb hts iX6 hown hK hP hf60 dX6_move_92 ?_
          refine lv_bipush (v := 8) hx hb dX6_move_95 (by decide) ?_
          refine lv_iload_n hx hb dX6_move_97 rfl (lv_at hl 1 rfl) ?_
          refine lv_imul hx hb dX6_move_98 ?_
          refine lv_iload hx hb dX6_move_99 (lv_at hl 3 rfl) ?_
          refine lv_iadd hx hb dX6_move_101 ?_
          obtain ⟨v12, ev12, h⟩ := o_bind h
          refine mld12 hx hb hK hP ev12 dX6_move_102 ?_
          obtain ⟨S13, eS13, h⟩ := o_bind h
          refine mst12 hx hb hK hP hD hS eS13 dX6_move_103 (fun H locs hP hD hS => ?_)
          refine lv_aload_n hx hb dX6_move_104 rfl (lv_at hl 0 rfl) ?_
          refine mgX6_21 hx hb hts iX6 hown hK hP hf63 dX6_move_105 ?_
          refine lv_bipush (v := 8) hx hb dX6_move_108 (by decide) ?_
          refine lv_iload_n hx hb dX6_move_110 rfl (lv_at hl 2 rfl) ?_
          refine lv_imul hx hb dX6_move_111 ?_
          refine lv_iload hx hb dX6_move_112 (lv_at hl 3 rfl) ?_
          refine lv_iadd hx hb dX6_move_114 ?_
          refine lv_aload_n hx hb dX6_move_115 rfl (lv_at hl 0 rfl) ?_
          refine mgX6_21 hx hb hts iX6 hown hK hP hf63 dX6_move_116 ?_
          refine lv_bipush (v := 8) hx hb dX6_move_119 (by decide) ?_
          refine lv_iload_n hx hb dX6_move_121 rfl (lv_at hl 1 rfl) ?_
          refine lv_imul hx hb dX6_move_122 ?_
          refine lv_iload hx hb dX6_move_123 (lv_at hl 3 rfl) ?_
          refine lv_iadd hx hb dX6_move_125 ?_
          obtain ⟨v14, ev14, h⟩ := o_bind h
          refine mld13 hx hb hK hP ev14 dX6_move_126 ?_
          obtain ⟨S15, eS15, h⟩ := o_bind h
          refine mst13 hx hb hK hP hD hS eS15 dX6_move_127 (fun H locs hP hD hS => ?_)
          refine lv_iinc (v := (x4 + 1)) (lv' := [(4, .int (x4 + 1)), (0, .ref (ad 0)), (1, .int x1), (2, .int x2)]) hx hb dX6_move_128 hl (k := 3) rfl rfl (by decide) rfl (fun ls hl => ?_)
          refine lv_goto (tgt := 73) hx hb dX6_move_131 (by decide) ?_
          exact ih73 (x4 + 1) S15 _ _ ls hP hD hS (lv_sub hl [1, 2, 3, 0] rfl) h
    exact L73  1000 0 S11 _ _ ls hP hD hS (lv_sub hl [1, 2, 3, 0] rfl) h
  · have h := o_pos hc h
    refine lv_iconst (v := (-1)) hx hb dX6_move_57 (by decide) ?_
    refine lv_goto (tgt := 69) hx hb dX6_move_58 (by decide) ?_
    obtain ⟨S16, eS16, h⟩ := o_bind h
    refine mst8 hx hb hK hP hD hS eS16 dX6_move_69 (fun H locs hP hD hS => ?_)
    refine lv_iconst (v := 0) hx hb dX6_move_70 (by decide) ?_
    refine lv_istore (lv' := [(4, .int 0), (0, .ref (ad 0)), (1, .int x1), (2, .int x2), (3, .ref qe)]) hx hb dX6_move_71 hl (by decide) rfl (fun ls hl => ?_)
    have L73 : ∀ (n73 : Nat) (x4 : Int32) (S : PS) (H : Heap) (locs : List Loc) (ls : Array Slot), va_P D vwCl (mW cy ad S ((qe, .inl (ce, 50, .inl xf)) :: R)) H → va_D A (mW cy ad S ((qe, .inl (ce, 50, .inl xf)) :: R)) → va_S A s.heap H locs → lv_has ls 5 [(0, .ref (ad 0)), (1, .int x1), (2, .int x2), (4, .int x4)] → iter2 (q_X6_move_L73 x1 x2 xf ) n73 x4 S = some S' → W p l e (headSpec wsX6_move ({ frames := 0, cells := 0, slots := 0, locals := 0 })).room s m args below meth c H locs 0 0 Q (F0 m 73 ls []) := by
      intro  n73
      induction n73 with
      | zero =>
        intro x4 S H locs ls hP hD hS hl h
        exact (it2_0 h).elim
      | succ n73 ih73 =>
        intro x4 S H locs ls hP hD hS hl h
        have h : q_X6_move_L73 x1 x2 xf  (iter2 (q_X6_move_L73 x1 x2 xf ) n73) x4 S = some S' := h
        unfold q_X6_move_L73 at h
        refine lv_iload hx hb dX6_move_73 (lv_at hl 3 rfl) ?_
        refine lv_bipush (v := 8) hx hb dX6_move_75 (by decide) ?_
        refine lv_icmp_ge (tgt := 134) hx hb dX6_move_77 (by decide) (fun hc => ?_) (fun hc => ?_)
        · have h := o_pos hc h
          have eS := Option.some.inj h
          subst eS
          exact g_vret hQ hx hb hr hP hK hD hS (Nat.le_of_ble_eq_true rfl) (Nat.le_of_ble_eq_true rfl) dX6_move_134 hlocks
        · have h := o_neg hc h
          refine lv_aload_n hx hb dX6_move_80 rfl (lv_at hl 0 rfl) ?_
          refine mgX6_20 hx hb hts iX6 hown hK hP hf60 dX6_move_81 ?_
          refine lv_bipush (v := 8) hx hb dX6_move_84 (by decide) ?_
          refine lv_iload_n hx hb dX6_move_86 rfl (lv_at hl 2 rfl) ?_
          refine lv_imul hx hb dX6_move_87 ?_
          refine lv_iload hx hb dX6_move_88 (lv_at hl 3 rfl) ?_
          refine lv_iadd hx hb dX6_move_90 ?_
          refine lv_aload_n hx hb dX6_move_91 rfl (lv_at hl 0 rfl) ?_
          refine mgX6_20 hx hb hts iX6 hown hK hP hf60 dX6_move_92 ?_
          refine lv_bipush (v := 8) hx hb dX6_move_95 (by decide) ?_
          refine lv_iload_n hx hb dX6_move_97 rfl (lv_at hl 1 rfl) ?_
          refine lv_imul hx hb dX6_move_98 ?_
          refine lv_iload hx hb dX6_move_99 (lv_at hl 3 rfl) ?_
          refine lv_iadd hx hb dX6_move_101 ?_
          obtain ⟨v17, ev17, h⟩ := o_bind h
          refine mld12 hx hb hK hP ev17 dX6_move_102 ?_
          obtain ⟨S18, eS18, h⟩ := o_bind h
          refine mst12 hx hb hK hP hD hS eS18 dX6_move_103 (fun H locs hP hD hS => ?_)
          refine lv_aload_n hx hb dX6_move_104 rfl (lv_at hl 0 rfl) ?_
          refine mgX6_21 hx hb hts iX6 hown hK hP hf63 dX6_move_105 ?_
          refine lv_bipush (v := 8) hx hb dX6_move_108 (by decide) ?_
          refine lv_iload_n hx hb dX6_move_110 rfl (lv_at hl 2 rfl) ?_
          refine lv_imul hx hb dX6_move_111 ?_
          refine lv_iload hx hb dX6_move_112 (lv_at hl 3 rfl) ?_
          refine lv_iadd hx hb dX6_move_114 ?_
          refine lv_aload_n hx hb dX6_move_115 rfl (lv_at hl 0 rfl) ?_
          refine mgX6_21 hx hb hts iX6 hown hK hP hf63 dX6_move_116 ?_
          refine lv_bipush (v := 8) hx hb dX6_move_119 (by decide) ?_
          refine lv_iload_n hx hb dX6_move_121 rfl (lv_at hl 1 rfl) ?_
          refine lv_imul hx hb dX6_move_122 ?_
          refine lv_iload hx hb dX6_move_123 (lv_at hl 3 rfl) ?_
          refine lv_iadd hx hb dX6_move_125 ?_
          obtain ⟨v19, ev19, h⟩ := o_bind h
          refine mld13 hx hb hK hP ev19 dX6_move_126 ?_
          obtain ⟨S20, eS20, h⟩ := o_bind h
          refine mst13 hx hb hK hP hD hS eS20 dX6_move_127 (fun H locs hP hD hS => ?_)
          refine lv_iinc (v := (x4 + 1)) (lv' := [(4, .int (x4 + 1)), (0, .ref (ad 0)), (1, .int x1), (2, .int x2)]) hx hb dX6_move_128 hl (k := 3) rfl rfl (by decide) rfl (fun ls hl => ?_)
          refine lv_goto (tgt := 73) hx hb dX6_move_131 (by decide) ?_
          exact ih73 (x4 + 1) S20 _ _ ls hP hD hS (lv_sub hl [1, 2, 3, 0] rfl) h
    exact L73  1000 0 S16 _ _ ls hP hD hS (lv_sub hl [1, 2, 3, 0] rfl) h
set_option maxHeartbeats 4000000 in
set_option maxRecDepth 100000 in
theorem m_X6_digest (l : Launch) (hst : l.stackTraces = false) (D : va_G) (cy : Nat → ClassId) (tx : List (ClassId × FieldType)) (ad : Nat → Nat) (R : va_W) (sz : Nat) (S : PS)  (S' : PS) (v : Int64) (h : q_X6_digest S = some (S', v)) : gMl l yX6_digest wsX6_digest ({ frames := 0, cells := 0, slots := 0, locals := 0 }) 0 0 D (gT cy ++ tx) [.ref (ad 0)] sz (mW cy ad S R) (mW cy ad S' R) v := by
  refine Met.ofW (cc := cX6_digest) (maxL := 5) (ret := (some .long)) (by decide) rfl ?_
  intro p e s m args below meth c s₁ B hml hv
  obtain ⟨hav, hsz, hP, hK, hD0, hE⟩ := hv
  have hx := B.exec
  have hb := B.bytes
  have hr := B.returns
  have hts := atoms_spec (ws := wsX6_digest) B.pre
  have hown : s.vm.findClass RX6 = some m.cls := findClass_of_methodNamed B.named
  have hlocks := B.notSynchronized
  subst hsz
  have hD := hD0.self (sz := s.heap.size)
  generalize hAe : va_A (mW cy ad S R) s.heap.size = A at hD hE ⊢
  have hA : ∀ q : Nat, s.heap.size ≤ q → A q := fun q h => by rw [← hAe]; exact Or.inr h
  have hS : va_S A s.heap s.heap [] := va_S.rf
  have iX6 : ∀ w ∈ u_ws RX6 TX6 22, w ∈ wsX6_digest := by decide +kernel
  have hf7 := hts (.fieldLink RX6 7 "InlinePlannerModel" "classes" "I") (by decide +kernel)
  have hf13 := hts (.fieldLink RX6 13 "InlinePlannerModel" "parents" "[I") (by decide +kernel)
  have hf17 := hts (.fieldLink RX6 17 "InlinePlannerModel" "isLive" "[Z") (by decide +kernel)
  have hf30 := hts (.fieldLink RX6 30 "InlinePlannerModel" "sites" "[I") (by decide +kernel)
  have hf36 := hts (.fieldLink RX6 36 "InlinePlannerModel" "budget" "I") (by decide +kernel)
  have hf39 := hts (.fieldLink RX6 39 "InlinePlannerModel" "deepest" "I") (by decide +kernel)
  have hf42 := hts (.fieldLink RX6 42 "InlinePlannerModel" "recursion" "I") (by decide +kernel)
  have hf45 := hts (.fieldLink RX6 45 "InlinePlannerModel" "nodeMethods" "[I") (by decide +kernel)
  have hf48 := hts (.fieldLink RX6 48 "InlinePlannerModel" "nodeParents" "[I") (by decide +kernel)
  have hf60 := hts (.fieldLink RX6 60 "InlinePlannerModel" "verdicts" "[I") (by decide +kernel)
  have hf63 := hts (.fieldLink RX6 63 "InlinePlannerModel" "weights" "[I") (by decide +kernel)
  have hf66 := hts (.fieldLink RX6 66 "InlinePlannerModel" "thrown" "I") (by decide +kernel)
  have hf73 := hts (.fieldLink RX6 73 "InlinePlannerModel" "methods" "I") (by decide +kernel)
  have hf98 := hts (.fieldLink RX6 98 "InlinePlannerModel" "hasPlan" "Z") (by decide +kernel)
  have hf118 := hts (.fieldLink RX6 118 "InlinePlannerModel" "nodes" "I") (by decide +kernel)
  refine g_entry (n := 5) hav (Nat.le_of_ble_eq_true rfl) (fun ls hl => ?_)
  have hl : lv_has ls 5 [(0, .ref (ad 0))] := hl
  refine g_nameQ (fun Q hQ => ?_)
  unfold q_X6_digest at h
  refine lv_aload_n hx hb dX6_digest_0 rfl (lv_at hl 0 rfl) ?_
  refine lv_iconst (v := 0) hx hb dX6_digest_1 (by decide) ?_
  obtain ⟨S1, eS1, h⟩ := o_bind h
  refine mpX6_0 hx hb hts iX6 hown hK hP hD hS hf66 eS1 dX6_digest_2 (fun H locs hP hD hS => ?_)
  refine lv_ldc2 (v := 2759) hx hb hown (hts (.constantLong RX6 166 (2759)) (by decide +kernel)) dX6_digest_5 ?_
  refine lv_aload_n hx hb dX6_digest_8 rfl (lv_at hl 0 rfl) ?_
  refine mgX6_1 hx hb hts iX6 hown hK hP hf7 dX6_digest_9 ?_
  refine lv_i2l (v := (((S1.1 1) : Int32).toInt64)) hx hb dX6_digest_12 rfl ?_
  refine lv_ladd hx hb dX6_digest_13 ?_
  refine lv_lstore_n (lv' := [(1, .long (2759 + (((S1.1 1) : Int32).toInt64))), (0, .ref (ad 0))]) hx hb dX6_digest_14 rfl hl (by decide) rfl (fun ls hl => ?_)
  refine lv_iconst (v := 0) hx hb dX6_digest_15 (by decide) ?_
  refine lv_istore_n (lv' := [(3, .int 0), (1, .long (2759 + (((S1.1 1) : Int32).toInt64))), (0, .ref (ad 0))]) hx hb dX6_digest_16 rfl hl (by decide) rfl (fun ls hl => ?_)
  have L17 : ∀ (S : PS), ∀ (n17 : Nat) (x1 : Int64) (x3 : Int32) (H : Heap) (locs : List Loc) (ls : Array Slot), va_P D vwCl (mW cy ad S R) H → va_D A (mW cy ad S R) → va_S A s.heap H locs → lv_has ls 5 [(0, .ref (ad 0)), (1, .long x1), (3, .int x3)] → iter2 (q_X6_digest_L17 S ) n17 x1 x3 = some (S', v) → W p l e (headSpec wsX6_digest ({ frames := 0, cells := 0, slots := 0, locals := 0 })).room s m args below meth c H locs 0 0 Q (F0 m 17 ls []) := by
    intro S n17
    induction n17 with
    | zero =>
      intro x1 x3 H locs ls hP hD hS hl h
      exact (it2_0 h).elim
    | succ n17 ih17 =>
      intro x1 x3 H locs ls hP hD hS hl h
      have h : q_X6_digest_L17 S  (iter2 (q_X6_digest_L17 S ) n17) x1 x3 = some (S', v) := h
      unfold q_X6_digest_L17 at h
      refine lv_iload_n hx hb dX6_digest_17 rfl (lv_at hl 2 rfl) ?_
      refine lv_aload_n hx hb dX6_digest_18 rfl (lv_at hl 0 rfl) ?_
      refine mgX6_1 hx hb hts iX6 hown hK hP hf7 dX6_digest_19 ?_
      refine lv_icmp_ge (tgt := 64) hx hb dX6_digest_22 (by decide) (fun hc => ?_) (fun hc => ?_)
      · have h := o_pos hc h
        refine lv_lload_n hx hb dX6_digest_64 rfl (lv_at hl 1 rfl) ?_
        refine lv_ldc2 (v := 31) hx hb hown (hts (.constantLong RX6 168 (31)) (by decide +kernel)) dX6_digest_65 ?_
        refine lv_lmul hx hb dX6_digest_68 ?_
        refine lv_aload_n hx hb dX6_digest_69 rfl (lv_at hl 0 rfl) ?_
        refine mgX6_4 hx hb hts iX6 hown hK hP hf73 dX6_digest_70 ?_
        refine lv_i2l (v := (((S.1 2) : Int32).toInt64)) hx hb dX6_digest_73 rfl ?_
        refine lv_ladd hx hb dX6_digest_74 ?_
        refine lv_ldc2 (v := 31) hx hb hown (hts (.constantLong RX6 168 (31)) (by decide +kernel)) dX6_digest_75 ?_
        refine lv_lmul hx hb dX6_digest_78 ?_
        refine lv_aload_n hx hb dX6_digest_79 rfl (lv_at hl 0 rfl) ?_
        refine mgX6_10 hx hb hts iX6 hown hK hP hf36 dX6_digest_80 ?_
        refine lv_i2l (v := (((S.1 3) : Int32).toInt64)) hx hb dX6_digest_83 rfl ?_
        refine lv_ladd hx hb dX6_digest_84 ?_
        refine lv_ldc2 (v := 31) hx hb hown (hts (.constantLong RX6 168 (31)) (by decide +kernel)) dX6_digest_85 ?_
        refine lv_lmul hx hb dX6_digest_88 ?_
        refine lv_aload_n hx hb dX6_digest_89 rfl (lv_at hl 0 rfl) ?_
        refine mgX6_11 hx hb hts iX6 hown hK hP hf39 dX6_digest_90 ?_
        refine lv_i2l (v := (((S.1 4) : Int32).toInt64)) hx hb dX6_digest_93 rfl ?_
        refine lv_ladd hx hb dX6_digest_94 ?_
        refine lv_ldc2 (v := 31) hx hb hown (hts (.constantLong RX6 168 (31)) (by decide +kernel)) dX6_digest_95 ?_
        refine lv_lmul hx hb dX6_digest_98 ?_
        refine lv_aload_n hx hb dX6_digest_99 rfl (lv_at hl 0 rfl) ?_
        refine mgX6_12 hx hb hts iX6 hown hK hP hf42 dX6_digest_100 ?_
        refine lv_i2l (v := (((S.1 5) : Int32).toInt64)) hx hb dX6_digest_103 rfl ?_
        refine lv_ladd hx hb dX6_digest_104 ?_
        refine lv_lstore_n (lv' := [(1, .long ((((((((x1 * 31) + (((S.1 2) : Int32).toInt64)) * 31) + (((S.1 3) : Int32).toInt64)) * 31) + (((S.1 4) : Int32).toInt64)) * 31) + (((S.1 5) : Int32).toInt64))), (0, .ref (ad 0)), (3, .int x3)]) hx hb dX6_digest_105 rfl hl (by decide) rfl (fun ls hl => ?_)
        refine lv_aload_n hx hb dX6_digest_106 rfl (lv_at hl 1 rfl) ?_
        refine mgX6_13 hx hb hts iX6 hown hK hP hf98 dX6_digest_107 ?_
        refine lv_if_ne (tgt := 115) hx hb dX6_digest_110 (by decide) (fun hc => ?_) (fun hc => ?_)
        · have h := o_neg hc h
          refine lv_lload_n hx hb dX6_digest_115 rfl (lv_at hl 0 rfl) ?_
          refine lv_ldc2 (v := 31) hx hb hown (hts (.constantLong RX6 168 (31)) (by decide +kernel)) dX6_digest_116 ?_
          refine lv_lmul hx hb dX6_digest_119 ?_
          refine lv_aload_n hx hb dX6_digest_120 rfl (lv_at hl 1 rfl) ?_
          refine mgX6_14 hx hb hts iX6 hown hK hP hf118 dX6_digest_121 ?_
          refine lv_i2l (v := (((S.1 7) : Int32).toInt64)) hx hb dX6_digest_124 rfl ?_
          refine lv_ladd hx hb dX6_digest_125 ?_
          refine lv_lstore_n (lv' := [(1, .long ((((((((((x1 * 31) + (((S.1 2) : Int32).toInt64)) * 31) + (((S.1 3) : Int32).toInt64)) * 31) + (((S.1 4) : Int32).toInt64)) * 31) + (((S.1 5) : Int32).toInt64)) * 31) + (((S.1 7) : Int32).toInt64))), (0, .ref (ad 0)), (3, .int x3)]) hx hb dX6_digest_126 rfl hl (by decide) rfl (fun ls hl => ?_)
          refine lv_iconst (v := 0) hx hb dX6_digest_127 (by decide) ?_
          refine lv_istore_n (lv' := [(3, .int 0), (1, .long ((((((((((x1 * 31) + (((S.1 2) : Int32).toInt64)) * 31) + (((S.1 3) : Int32).toInt64)) * 31) + (((S.1 4) : Int32).toInt64)) * 31) + (((S.1 5) : Int32).toInt64)) * 31) + (((S.1 7) : Int32).toInt64))), (0, .ref (ad 0))]) hx hb dX6_digest_128 rfl hl (by decide) rfl (fun ls hl => ?_)
          have L129 : ∀ (n129 : Nat) (x1 : Int64) (x3 : Int32) (H : Heap) (locs : List Loc) (ls : Array Slot), va_P D vwCl (mW cy ad S R) H → va_D A (mW cy ad S R) → va_S A s.heap H locs → lv_has ls 5 [(0, .ref (ad 0)), (1, .long x1), (3, .int x3)] → iter2 (q_X6_digest_L129 S ) n129 x1 x3 = some (S', v) → W p l e (headSpec wsX6_digest ({ frames := 0, cells := 0, slots := 0, locals := 0 })).room s m args below meth c H locs 0 0 Q (F0 m 129 ls []) := by
            intro  n129
            induction n129 with
            | zero =>
              intro x1 x3 H locs ls hP hD hS hl h
              exact (it2_0 h).elim
            | succ n129 ih129 =>
              intro x1 x3 H locs ls hP hD hS hl h
              have h : q_X6_digest_L129 S  (iter2 (q_X6_digest_L129 S ) n129) x1 x3 = some (S', v) := h
              unfold q_X6_digest_L129 at h
              refine lv_iload_n hx hb dX6_digest_129 rfl (lv_at hl 2 rfl) ?_
              refine lv_aload_n hx hb dX6_digest_130 rfl (lv_at hl 0 rfl) ?_
              refine mgX6_14 hx hb hts iX6 hown hK hP hf118 dX6_digest_131 ?_
              refine lv_icmp_ge (tgt := 232) hx hb dX6_digest_134 (by decide) (fun hc => ?_) (fun hc => ?_)
              · have h := o_pos hc h
                refine lv_lload_n hx hb dX6_digest_232 rfl (lv_at hl 1 rfl) ?_
                obtain ⟨eS, ev⟩ := Prod.mk.inj (Option.some.inj h)
                subst eS
                exact g_lret hQ hx hb hr hP hK hD hS (Nat.le_of_ble_eq_true rfl) (Nat.le_of_ble_eq_true rfl) dX6_digest_233 hlocks ev
              · have h := o_neg hc h
                refine lv_lload_n hx hb dX6_digest_137 rfl (lv_at hl 1 rfl) ?_
                refine lv_ldc2 (v := 31) hx hb hown (hts (.constantLong RX6 168 (31)) (by decide +kernel)) dX6_digest_138 ?_
                refine lv_lmul hx hb dX6_digest_141 ?_
                refine lv_aload_n hx hb dX6_digest_142 rfl (lv_at hl 0 rfl) ?_
                refine mgX6_15 hx hb hts iX6 hown hK hP hf45 dX6_digest_143 ?_
                refine lv_iload_n hx hb dX6_digest_146 rfl (lv_at hl 2 rfl) ?_
                obtain ⟨v2, ev2, h⟩ := o_bind h
                refine mld7 hx hb hK hP ev2 dX6_digest_147 ?_
                refine lv_i2l (v := ((v2 : Int32).toInt64)) hx hb dX6_digest_148 rfl ?_
                refine lv_ladd hx hb dX6_digest_149 ?_
                refine lv_ldc2 (v := 31) hx hb hown (hts (.constantLong RX6 168 (31)) (by decide +kernel)) dX6_digest_150 ?_
                refine lv_lmul hx hb dX6_digest_153 ?_
                refine lv_aload_n hx hb dX6_digest_154 rfl (lv_at hl 0 rfl) ?_
                refine mgX6_16 hx hb hts iX6 hown hK hP hf48 dX6_digest_155 ?_
                refine lv_iload_n hx hb dX6_digest_158 rfl (lv_at hl 2 rfl) ?_
                obtain ⟨v3, ev3, h⟩ := o_bind h
                refine mld8 hx hb hK hP ev3 dX6_digest_159 ?_
                refine lv_i2l (v := ((v3 : Int32).toInt64)) hx hb dX6_digest_160 rfl ?_
                refine lv_ladd hx hb dX6_digest_161 ?_
                refine lv_lstore_n (lv' := [(1, .long ((((x1 * 31) + ((v2 : Int32).toInt64)) * 31) + ((v3 : Int32).toInt64))), (0, .ref (ad 0)), (3, .int x3)]) hx hb dX6_digest_162 rfl hl (by decide) rfl (fun ls hl => ?_)
                refine lv_iconst (v := 0) hx hb dX6_digest_163 (by decide) ?_
                refine lv_istore (lv' := [(4, .int 0), (1, .long ((((x1 * 31) + ((v2 : Int32).toInt64)) * 31) + ((v3 : Int32).toInt64))), (0, .ref (ad 0)), (3, .int x3)]) hx hb dX6_digest_164 hl (by decide) rfl (fun ls hl => ?_)
                have L166 : ∀ (n166 : Nat) (x1 : Int64) (x4 : Int32) (H : Heap) (locs : List Loc) (ls : Array Slot), va_P D vwCl (mW cy ad S R) H → va_D A (mW cy ad S R) → va_S A s.heap H locs → lv_has ls 5 [(0, .ref (ad 0)), (1, .long x1), (3, .int x3), (4, .int x4)] → iter2 (q_X6_digest_L166 x3 S (iter2 (q_X6_digest_L129 S ) n129)) n166 x1 x4 = some (S', v) → W p l e (headSpec wsX6_digest ({ frames := 0, cells := 0, slots := 0, locals := 0 })).room s m args below meth c H locs 0 0 Q (F0 m 166 ls []) := by
                  intro  n166
                  induction n166 with
                  | zero =>
                    intro x1 x4 H locs ls hP hD hS hl h
                    exact (it2_0 h).elim
                  | succ n166 ih166 =>
                    intro x1 x4 H locs ls hP hD hS hl h
                    have h : q_X6_digest_L166 x3 S (iter2 (q_X6_digest_L129 S ) n129) (iter2 (q_X6_digest_L166 x3 S (iter2 (q_X6_digest_L129 S ) n129)) n166) x1 x4 = some (S', v) := h
                    unfold q_X6_digest_L166 at h
                    refine lv_iload hx hb dX6_digest_166 (lv_at hl 3 rfl) ?_
                    refine lv_aload_n hx hb dX6_digest_168 rfl (lv_at hl 0 rfl) ?_
                    refine mgX6_8 hx hb hts iX6 hown hK hP hf30 dX6_digest_169 ?_
                    refine lv_aload_n hx hb dX6_digest_172 rfl (lv_at hl 0 rfl) ?_
                    refine mgX6_15 hx hb hts iX6 hown hK hP hf45 dX6_digest_173 ?_
                    refine lv_iload_n hx hb dX6_digest_176 rfl (lv_at hl 2 rfl) ?_
                    obtain ⟨v4, ev4, h⟩ := o_bind h
                    refine mld7 hx hb hK hP ev4 dX6_digest_177 ?_
                    obtain ⟨v5, ev5, h⟩ := o_bind h
                    refine mld5 hx hb hK hP ev5 dX6_digest_178 ?_
                    refine lv_icmp_ge (tgt := 226) hx hb dX6_digest_179 (by decide) (fun hc => ?_) (fun hc => ?_)
                    · have h := o_pos hc h
                      refine lv_iinc (v := (x3 + 1)) (lv' := [(3, .int (x3 + 1)), (0, .ref (ad 0)), (1, .long x1), (4, .int x4)]) hx hb dX6_digest_226 hl (k := 2) rfl rfl (by decide) rfl (fun ls hl => ?_)
                      refine lv_goto (tgt := 129) hx hb dX6_digest_229 (by decide) ?_
                      exact ih129 x1 (x3 + 1) _ _ ls hP hD hS (lv_sub hl [1, 2, 0] rfl) h
                    · have h := o_neg hc h
                      refine lv_lload_n hx hb dX6_digest_182 rfl (lv_at hl 1 rfl) ?_
                      refine lv_ldc2 (v := 31) hx hb hown (hts (.constantLong RX6 168 (31)) (by decide +kernel)) dX6_digest_183 ?_
                      refine lv_lmul hx hb dX6_digest_186 ?_
                      refine lv_aload_n hx hb dX6_digest_187 rfl (lv_at hl 0 rfl) ?_
                      refine mgX6_20 hx hb hts iX6 hown hK hP hf60 dX6_digest_188 ?_
                      refine lv_bipush (v := 8) hx hb dX6_digest_191 (by decide) ?_
                      refine lv_iload_n hx hb dX6_digest_193 rfl (lv_at hl 2 rfl) ?_
                      refine lv_imul hx hb dX6_digest_194 ?_
                      refine lv_iload hx hb dX6_digest_195 (lv_at hl 3 rfl) ?_
                      refine lv_iadd hx hb dX6_digest_197 ?_
                      obtain ⟨v6, ev6, h⟩ := o_bind h
                      refine mld12 hx hb hK hP ev6 dX6_digest_198 ?_
                      refine lv_i2l (v := ((v6 : Int32).toInt64)) hx hb dX6_digest_199 rfl ?_
                      refine lv_ladd hx hb dX6_digest_200 ?_
                      refine lv_ldc2 (v := 31) hx hb hown (hts (.constantLong RX6 168 (31)) (by decide +kernel)) dX6_digest_201 ?_
                      refine lv_lmul hx hb dX6_digest_204 ?_
                      refine lv_aload_n hx hb dX6_digest_205 rfl (lv_at hl 0 rfl) ?_
                      refine mgX6_21 hx hb hts iX6 hown hK hP hf63 dX6_digest_206 ?_
                      refine lv_bipush (v := 8) hx hb dX6_digest_209 (by decide) ?_
                      refine lv_iload_n hx hb dX6_digest_211 rfl (lv_at hl 2 rfl) ?_
                      refine lv_imul hx hb dX6_digest_212 ?_
                      refine lv_iload hx hb dX6_digest_213 (lv_at hl 3 rfl) ?_
                      refine lv_iadd hx hb dX6_digest_215 ?_
                      obtain ⟨v7, ev7, h⟩ := o_bind h
                      refine mld13 hx hb hK hP ev7 dX6_digest_216 ?_
                      refine lv_i2l (v := ((v7 : Int32).toInt64)) hx hb dX6_digest_217 rfl ?_
                      refine lv_ladd hx hb dX6_digest_218 ?_
                      refine lv_lstore_n (lv' := [(1, .long ((((x1 * 31) + ((v6 : Int32).toInt64)) * 31) + ((v7 : Int32).toInt64))), (0, .ref (ad 0)), (3, .int x3), (4, .int x4)]) hx hb dX6_digest_219 rfl hl (by decide) rfl (fun ls hl => ?_)
                      refine lv_iinc (v := (x4 + 1)) (lv' := [(4, .int (x4 + 1)), (1, .long ((((x1 * 31) + ((v6 : Int32).toInt64)) * 31) + ((v7 : Int32).toInt64))), (0, .ref (ad 0)), (3, .int x3)]) hx hb dX6_digest_220 hl (k := 3) rfl rfl (by decide) rfl (fun ls hl => ?_)
                      refine lv_goto (tgt := 166) hx hb dX6_digest_223 (by decide) ?_
                      exact ih166 ((((x1 * 31) + ((v6 : Int32).toInt64)) * 31) + ((v7 : Int32).toInt64)) (x4 + 1) _ _ ls hP hD hS (lv_sub hl [2, 1, 3, 0] rfl) h
                exact L166  1000 ((((x1 * 31) + ((v2 : Int32).toInt64)) * 31) + ((v3 : Int32).toInt64)) 0 _ _ ls hP hD hS (lv_sub hl [2, 1, 3, 0] rfl) h
          exact L129  1000 ((((((((((x1 * 31) + (((S.1 2) : Int32).toInt64)) * 31) + (((S.1 3) : Int32).toInt64)) * 31) + (((S.1 4) : Int32).toInt64)) * 31) + (((S.1 5) : Int32).toInt64)) * 31) + (((S.1 7) : Int32).toInt64)) 0 _ _ ls hP hD hS (lv_sub hl [2, 1, 0] rfl) h
        · have h := o_pos hc h
          refine lv_lload_n hx hb dX6_digest_113 rfl (lv_at hl 0 rfl) ?_
          obtain ⟨eS, ev⟩ := Prod.mk.inj (Option.some.inj h)
          subst eS
          exact g_lret hQ hx hb hr hP hK hD hS (Nat.le_of_ble_eq_true rfl) (Nat.le_of_ble_eq_true rfl) dX6_digest_114 hlocks ev
      · have h := o_neg hc h
        refine lv_lload_n hx hb dX6_digest_25 rfl (lv_at hl 1 rfl) ?_
        refine lv_ldc2 (v := 31) hx hb hown (hts (.constantLong RX6 168 (31)) (by decide +kernel)) dX6_digest_26 ?_
        refine lv_lmul hx hb dX6_digest_29 ?_
        refine lv_aload_n hx hb dX6_digest_30 rfl (lv_at hl 0 rfl) ?_
        refine mgX6_2 hx hb hts iX6 hown hK hP hf13 dX6_digest_31 ?_
        refine lv_iload_n hx hb dX6_digest_34 rfl (lv_at hl 2 rfl) ?_
        obtain ⟨v8, ev8, h⟩ := o_bind h
        refine mld0 hx hb hK hP ev8 dX6_digest_35 ?_
        refine lv_i2l (v := ((v8 : Int32).toInt64)) hx hb dX6_digest_36 rfl ?_
        refine lv_ladd hx hb dX6_digest_37 ?_
        refine lv_ldc2 (v := 31) hx hb hown (hts (.constantLong RX6 168 (31)) (by decide +kernel)) dX6_digest_38 ?_
        refine lv_lmul hx hb dX6_digest_41 ?_
        refine lv_aload_n hx hb dX6_digest_42 rfl (lv_at hl 0 rfl) ?_
        refine mgX6_3 hx hb hts iX6 hown hK hP hf17 dX6_digest_43 ?_
        refine lv_iload_n hx hb dX6_digest_46 rfl (lv_at hl 2 rfl) ?_
        obtain ⟨v9, ev9, h⟩ := o_bind h
        refine mld1 hx hb hK hP ev9 dX6_digest_47 ?_
        refine lv_if_eq (tgt := 55) hx hb dX6_digest_48 (by decide) (fun hc => ?_) (fun hc => ?_)
        · have h := o_pos hc h
          refine lv_lconst (v := 0) hx hb dX6_digest_55 (by decide) ?_
          refine lv_ladd hx hb dX6_digest_56 ?_
          refine lv_lstore_n (lv' := [(1, .long ((((x1 * 31) + ((v8 : Int32).toInt64)) * 31) + 0)), (0, .ref (ad 0)), (3, .int x3)]) hx hb dX6_digest_57 rfl hl (by decide) rfl (fun ls hl => ?_)
          refine lv_iinc (v := (x3 + 1)) (lv' := [(3, .int (x3 + 1)), (1, .long ((((x1 * 31) + ((v8 : Int32).toInt64)) * 31) + 0)), (0, .ref (ad 0))]) hx hb dX6_digest_58 hl (k := 2) rfl rfl (by decide) rfl (fun ls hl => ?_)
          refine lv_goto (tgt := 17) hx hb dX6_digest_61 (by decide) ?_
          exact ih17 ((((x1 * 31) + ((v8 : Int32).toInt64)) * 31) + 0) (x3 + 1) _ _ ls hP hD hS (lv_sub hl [2, 1, 0] rfl) h
        · have h := o_neg hc h
          refine lv_lconst (v := 1) hx hb dX6_digest_51 (by decide) ?_
          refine lv_goto (tgt := 56) hx hb dX6_digest_52 (by decide) ?_
          refine lv_ladd hx hb dX6_digest_56 ?_
          refine lv_lstore_n (lv' := [(1, .long ((((x1 * 31) + ((v8 : Int32).toInt64)) * 31) + 1)), (0, .ref (ad 0)), (3, .int x3)]) hx hb dX6_digest_57 rfl hl (by decide) rfl (fun ls hl => ?_)
          refine lv_iinc (v := (x3 + 1)) (lv' := [(3, .int (x3 + 1)), (1, .long ((((x1 * 31) + ((v8 : Int32).toInt64)) * 31) + 1)), (0, .ref (ad 0))]) hx hb dX6_digest_58 hl (k := 2) rfl rfl (by decide) rfl (fun ls hl => ?_)
          refine lv_goto (tgt := 17) hx hb dX6_digest_61 (by decide) ?_
          exact ih17 ((((x1 * 31) + ((v8 : Int32).toInt64)) * 31) + 1) (x3 + 1) _ _ ls hP hD hS (lv_sub hl [2, 1, 0] rfl) h
  exact L17 S1 1000 (2759 + (((S1.1 1) : Int32).toInt64)) 0 _ _ ls hP hD hS (lv_sub hl [2, 1, 0] rfl) h
