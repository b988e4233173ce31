set_option maxHeartbeats 4000000 in
set_option maxRecDepth 100000 in
theorem m_X2_targetSet (l : Launch) (hst : l.stackTraces = false) (D : va_G) (cy : Nat → ClassId) (tx : List (ClassId × FieldType)) (ad : Nat → Nat) (R : va_W) (sz : Nat) (S : PS) (x1 : Int32) (x2 : Int32) (v : Int32) (h : q_X2_targetSet S x1 x2 = some v) : gMi l yX2_targetSet wsX2_targetSet ({ frames := 1, cells := 0, slots := 0, locals := 25 }) 0 0 D (gT cy ++ tx) [.ref (ad 2), .int x1, .int x2] sz (xW cy ad S R) (xW cy ad S R) v := by
  refine Met.ofW (cc := cX2_targetSet) (maxL := 6) (ret := (some .int)) (by decide) rfl ?_
  intro p e s m args below meth c s₁ B hml hv
  obtain ⟨hav, hsz, hP, hK, hD0, hE⟩ := hv
  have hx := B.exec
  have hb := B.bytes
  have hr := B.returns
  have hts := atoms_spec (ws := wsX2_targetSet) B.pre
  have hown : s.vm.findClass RX2 = some m.cls := findClass_of_methodNamed B.named
  have hlocks := B.notSynchronized
  subst hsz
  have hD := hD0.self (sz := s.heap.size)
  generalize hAe : va_A (xW cy ad S R) s.heap.size = A at hD hE ⊢
  have hA : ∀ q : Nat, s.heap.size ≤ q → A q := fun q h => by rw [← hAe]; exact Or.inr h
  have hS : va_S A s.heap s.heap [] := va_S.rf
  have iX0 : ∀ w ∈ u_ws RX0 TX0 4, w ∈ wsX2_targetSet := by decide +kernel
  have iX2 : ∀ w ∈ u_ws RX2 TX2 8, w ∈ wsX2_targetSet := by decide +kernel
  have hf30 := hts (.fieldLink RX2 30 "InlinePlanner$Program" "hierarchy" "LInlinePlanner$Hierarchy;") (by decide +kernel)
  have hf47 := hts (.fieldLink RX2 47 "InlinePlanner$Hierarchy" "count" "I") (by decide +kernel)
  have hf48 := hts (.fieldLink RX2 48 "InlinePlanner$Hierarchy" "live" "[Z") (by decide +kernel)
  refine g_entry (n := 6) hav (Nat.le_of_ble_eq_true rfl) (fun ls hl => ?_)
  have hl : lv_has ls 6 [(0, .ref (ad 2)), (1, .int x1), (2, .int x2)] := hl
  refine g_nameQ (fun Q hQ => ?_)
  unfold q_X2_targetSet at h
  refine lv_iconst (v := 0) hx hb dX2_targetSet_0 (by decide) ?_
  refine lv_istore_n (lv' := [(3, .int 0), (0, .ref (ad 2)), (1, .int x1), (2, .int x2)]) hx hb dX2_targetSet_1 rfl hl (by decide) rfl (fun ls hl => ?_)
  refine lv_iload_n hx hb dX2_targetSet_2 rfl (lv_at hl 2 rfl) ?_
  refine lv_istore (lv' := [(4, .int x1), (3, .int 0), (0, .ref (ad 2)), (1, .int x1), (2, .int x2)]) hx hb dX2_targetSet_3 hl (by decide) rfl (fun ls hl => ?_)
  have L5 : ∀ (n5 : Nat) (x3 : Int32) (x4 : Int32) (H : Heap) (locs : List Loc) (ls : Array Slot), va_P D vwCl (xW cy ad S R) H → va_D A (xW cy ad S R) → va_S A s.heap H locs → lv_has ls 6 [(0, .ref (ad 2)), (1, .int x1), (2, .int x2), (3, .int x3), (4, .int x4)] → iter2 (q_X2_targetSet_L5 S x1 x2 ) n5 x3 x4 = some v → W p l e (headSpec wsX2_targetSet ({ frames := 1, cells := 0, slots := 0, locals := 25 })).room s m args below meth c H locs 0 0 Q (F0 m 5 ls []) := by
    intro  n5
    induction n5 with
    | zero =>
      intro x3 x4 H locs ls hP hD hS hl h
      exact (it2_0 h).elim
    | succ n5 ih5 =>
      intro x3 x4 H locs ls hP hD hS hl h
      have h : q_X2_targetSet_L5 S x1 x2  (iter2 (q_X2_targetSet_L5 S x1 x2 ) n5) x3 x4 = some v := h
      unfold q_X2_targetSet_L5 at h
      refine lv_iload hx hb dX2_targetSet_5 (lv_at hl 4 rfl) ?_
      refine lv_aload_n hx hb dX2_targetSet_7 rfl (lv_at hl 0 rfl) ?_
      refine xgX2_4 hx hb hts iX2 hown hK hP hf30 dX2_targetSet_8 ?_
      refine xgX0_0 hx hb hts iX0 hown hK hP hf47 dX2_targetSet_11 ?_
      refine lv_icmp_ge (tgt := 74) hx hb dX2_targetSet_14 (by decide) (fun hc => ?_) (fun hc => ?_)
      · have h := o_pos hc h
        refine lv_iload_n hx hb dX2_targetSet_74 rfl (lv_at hl 3 rfl) ?_
        exact g_iret hQ hx hb hr hP hK hD hS (Nat.le_of_ble_eq_true rfl) (Nat.le_of_ble_eq_true rfl) dX2_targetSet_75 hlocks (Option.some.inj h)
      · have h := o_neg hc h
        refine lv_aload_n hx hb dX2_targetSet_17 rfl (lv_at hl 0 rfl) ?_
        refine xgX2_4 hx hb hts iX2 hown hK hP hf30 dX2_targetSet_18 ?_
        refine xgX0_2 hx hb hts iX0 hown hK hP hf48 dX2_targetSet_21 ?_
        refine lv_iload hx hb dX2_targetSet_24 (lv_at hl 4 rfl) ?_
        obtain ⟨v1, ev1, h⟩ := o_bind h
        refine xld1 hx hb hK hP ev1 dX2_targetSet_26 ?_
        refine lv_if_eq (tgt := 68) hx hb dX2_targetSet_27 (by decide) (fun hc => ?_) (fun hc => ?_)
        · have h := o_pos hc h
          refine lv_iinc (v := (x4 + 1)) (lv' := [(4, .int (x4 + 1)), (0, .ref (ad 2)), (1, .int x1), (2, .int x2), (3, .int x3)]) hx hb dX2_targetSet_68 hl (k := 4) rfl rfl (by decide) rfl (fun ls hl => ?_)
          refine lv_goto (tgt := 5) hx hb dX2_targetSet_71 (by decide) ?_
          exact ih5 x3 (x4 + 1) _ _ ls hP hD hS (lv_sub hl [1, 2, 3, 4, 0] rfl) h
        · have h := o_neg hc h
          refine lv_aload_n hx hb dX2_targetSet_30 rfl (lv_at hl 0 rfl) ?_
          refine xgX2_4 hx hb hts iX2 hown hK hP hf30 dX2_targetSet_31 ?_
          refine lv_iload hx hb dX2_targetSet_34 (lv_at hl 4 rfl) ?_
          refine lv_iload_n hx hb dX2_targetSet_36 rfl (lv_at hl 1 rfl) ?_
          obtain ⟨v2, ev2, h⟩ := o_bind h
          refine g_cVi (As := [.int x4, .int x1]) (rest := []) ⟨hx, hb, hml, hown, hts⟩ (m_X0_under l hst D cy tx ad R _ S x4 x1 v2 ev2) (cwV 2 hts gX2_targetSet_X0_under rfl rfl rfl (by decide +kernel) ⟨Nat.le_of_ble_eq_true rfl, Nat.le_of_ble_eq_true rfl⟩) (va_recv hK hP (ci := 0) (q0 := 1) rfl rfl) hP hK hD hS hA hE rfl hl.1 rfl (Nat.le_of_ble_eq_true rfl) dX2_targetSet_37 ⟨Nat.le_of_ble_eq_true rfl, Nat.le_of_ble_eq_true rfl⟩ (fun H locs hP hD hS => ?_)
          refine lv_if_eq (tgt := 68) hx hb dX2_targetSet_40 (by decide) (fun hc => ?_) (fun hc => ?_)
          · have h := o_pos hc h
            refine lv_iinc (v := (x4 + 1)) (lv' := [(4, .int (x4 + 1)), (0, .ref (ad 2)), (1, .int x1), (2, .int x2), (3, .int x3)]) hx hb dX2_targetSet_68 hl (k := 4) rfl rfl (by decide) rfl (fun ls hl => ?_)
            refine lv_goto (tgt := 5) hx hb dX2_targetSet_71 (by decide) ?_
            exact ih5 x3 (x4 + 1) _ _ ls hP hD hS (lv_sub hl [1, 2, 3, 4, 0] rfl) h
          · have h := o_neg hc h
            refine lv_aload_n hx hb dX2_targetSet_43 rfl (lv_at hl 0 rfl) ?_
            refine lv_iload hx hb dX2_targetSet_44 (lv_at hl 4 rfl) ?_
            refine lv_iload_n hx hb dX2_targetSet_46 rfl (lv_at hl 2 rfl) ?_
            obtain ⟨v3, ev3, h⟩ := o_bind h
            refine g_cVi (As := [.int x4, .int x2]) (rest := []) ⟨hx, hb, hml, hown, hts⟩ (m_X2_lookUp l hst D cy tx ad R _ S x4 x2 v3 ev3) (cwV 2 hts gX2_targetSet_X2_lookUp rfl rfl rfl (by decide +kernel) ⟨Nat.le_of_ble_eq_true rfl, Nat.le_of_ble_eq_true rfl⟩) (va_recv hK hP (ci := 2) (q0 := 2) rfl rfl) hP hK hD hS hA hE rfl hl.1 rfl (Nat.le_of_ble_eq_true rfl) dX2_targetSet_47 ⟨Nat.le_of_ble_eq_true rfl, Nat.le_of_ble_eq_true rfl⟩ (fun H locs hP hD hS => ?_)
            refine lv_istore (lv' := [(5, .int v3), (0, .ref (ad 2)), (1, .int x1), (2, .int x2), (3, .int x3), (4, .int x4)]) hx hb dX2_targetSet_50 hl (by decide) rfl (fun ls hl => ?_)
            refine lv_iload_n hx hb dX2_targetSet_52 rfl (lv_at hl 4 rfl) ?_
            refine lv_iload hx hb dX2_targetSet_53 (lv_at hl 0 rfl) ?_
            refine lv_if_ge (tgt := 62) hx hb dX2_targetSet_55 (by decide) (fun hc => ?_) (fun hc => ?_)
            · have h := o_pos hc h
              refine lv_iconst (v := 1) hx hb dX2_targetSet_62 (by decide) ?_
              refine lv_iload hx hb dX2_targetSet_63 (lv_at hl 0 rfl) ?_
              refine lv_ishl hx hb dX2_targetSet_65 ?_
              refine lv_ior hx hb dX2_targetSet_66 ?_
              refine lv_istore_n (lv' := [(3, .int (x3 ||| (1 <<< (v3 &&& 31)))), (5, .int v3), (0, .ref (ad 2)), (1, .int x1), (2, .int x2), (4, .int x4)]) hx hb dX2_targetSet_67 rfl hl (by decide) rfl (fun ls hl => ?_)
              refine lv_iinc (v := (x4 + 1)) (lv' := [(4, .int (x4 + 1)), (3, .int (x3 ||| (1 <<< (v3 &&& 31)))), (5, .int v3), (0, .ref (ad 2)), (1, .int x1), (2, .int x2)]) hx hb dX2_targetSet_68 hl (k := 5) rfl rfl (by decide) rfl (fun ls hl => ?_)
              refine lv_goto (tgt := 5) hx hb dX2_targetSet_71 (by decide) ?_
              exact ih5 (x3 ||| (1 <<< (v3 &&& 31))) (x4 + 1) _ _ ls hP hD hS (lv_sub hl [3, 4, 5, 1, 0] rfl) h
            · have h := o_neg hc h
              refine lv_iconst (v := 0) hx hb dX2_targetSet_58 (by decide) ?_
              refine lv_goto (tgt := 66) hx hb dX2_targetSet_59 (by decide) ?_
              refine lv_ior hx hb dX2_targetSet_66 ?_
              refine lv_istore_n (lv' := [(3, .int (x3 ||| 0)), (5, .int v3), (0, .ref (ad 2)), (1, .int x1), (2, .int x2), (4, .int x4)]) hx hb dX2_targetSet_67 rfl hl (by decide) rfl (fun ls hl => ?_)
              refine lv_iinc (v := (x4 + 1)) (lv' := [(4, .int (x4 + 1)), (3, .int (x3 ||| 0)), (5, .int v3), (0, .ref (ad 2)), (1, .int x1), (2, .int x2)]) hx hb dX2_targetSet_68 hl (k := 5) rfl rfl (by decide) rfl (fun ls hl => ?_)
              refine lv_goto (tgt := 5) hx hb dX2_targetSet_71 (by decide) ?_
              exact ih5 (x3 ||| 0) (x4 + 1) _ _ ls hP hD hS (lv_sub hl [3, 4, 5, 1, 0] rfl) h
  exact L5  1000 0 x1 _ _ ls hP hD hS (lv_sub hl [2, 3, 4, 1, 0] rfl) h
set_option maxHeartbeats 4000000 in
set_option maxRecDepth 100000 in
theorem m_X2_targetsOfSite (l : Launch) (hst : l.stackTraces = false) (D : va_G) (cy : Nat → ClassId) (tx : List (ClassId × FieldType)) (ad : Nat → Nat) (R : va_W) (sz : Nat) (S : PS) (x1 : Int32) (x2 : Int32) (v : Int32) (h : q_X2_targetsOfSite S x1 x2 = some v) : gMi l yX2_targetsOfSite wsX2_targetsOfSite ({ frames := 2, cells := 0, slots := 0, locals := 50 }) 0 0 D (gT cy ++ tx) [.ref (ad 2), .int x1, .int x2] sz (xW cy ad S R) (xW cy ad S R) v := by
  refine Met.ofW (cc := cX2_targetsOfSite) (maxL := 4) (ret := (some .int)) (by decide) rfl ?_
  intro p e s m args below meth c s₁ B hml hv
  obtain ⟨hav, hsz, hP, hK, hD0, hE⟩ := hv
  have hx := B.exec
  have hb := B.bytes
  have hr := B.returns
  have hts := atoms_spec (ws := wsX2_targetsOfSite) B.pre
  have hown : s.vm.findClass RX2 = some m.cls := findClass_of_methodNamed B.named
  have hlocks := B.notSynchronized
  subst hsz
  have hD := hD0.self (sz := s.heap.size)
  generalize hAe : va_A (xW cy ad S R) s.heap.size = A at hD hE ⊢
  have hA : ∀ q : Nat, s.heap.size ≤ q → A q := fun q h => by rw [← hAe]; exact Or.inr h
  have hS : va_S A s.heap s.heap [] := va_S.rf
  have iX2 : ∀ w ∈ u_ws RX2 TX2 8, w ∈ wsX2_targetsOfSite := by decide +kernel
  have hf21 := hts (.fieldLink RX2 21 "InlinePlanner$Program" "receivers" "[I") (by decide +kernel)
  have hf24 := hts (.fieldLink RX2 24 "InlinePlanner$Program" "selectors" "[I") (by decide +kernel)
  refine g_entry (n := 4) hav (Nat.le_of_ble_eq_true rfl) (fun ls hl => ?_)
  have hl : lv_has ls 4 [(0, .ref (ad 2)), (1, .int x1), (2, .int x2)] := hl
  refine g_nameQ (fun Q hQ => ?_)
  unfold q_X2_targetsOfSite at h
  refine lv_iload_n hx hb dX2_targetsOfSite_0 rfl (lv_at hl 1 rfl) ?_
  refine lv_iload_n hx hb dX2_targetsOfSite_1 rfl (lv_at hl 2 rfl) ?_
  obtain ⟨v1, ev1, h⟩ := o_bind h
  refine g_cNi (As := [.int x1, .int x2]) (rest := []) ⟨hx, hb, hml, hown, hts⟩ (m_X5_slot l hst D (gT cy ++ tx) (xW cy ad S R) _ x1 x2 v1 ev1) ⟨va_cnB 2 hts gX2_targetsOfSite_X5_slot_n38 rfl rfl rfl (hE.2.2.2.1 (.methodLinkNest RX2 38 yX5_slot RX5) (by decide +kernel)) (hts (.initialized RX5) (by decide +kernel)) (by decide +kernel) ⟨Nat.le_of_ble_eq_true rfl, Nat.le_of_ble_eq_true rfl⟩, hts (.static yX5_slot) (by decide +kernel), trivial⟩ hP hK hD hS hA hE rfl hl.1 rfl (Nat.le_of_ble_eq_true rfl) dX2_targetsOfSite_2 ⟨Nat.le_of_ble_eq_true rfl, Nat.le_of_ble_eq_true rfl⟩ (fun H locs hP hD hS => ?_)
  refine lv_istore_n (lv' := [(3, .int v1), (0, .ref (ad 2)), (1, .int x1), (2, .int x2)]) hx hb dX2_targetsOfSite_5 rfl hl (by decide) rfl (fun ls hl => ?_)
  refine lv_aload_n hx hb dX2_targetsOfSite_6 rfl (lv_at hl 1 rfl) ?_
  refine lv_aload_n hx hb dX2_targetsOfSite_7 rfl (lv_at hl 1 rfl) ?_
  refine xgX2_5 hx hb hts iX2 hown hK hP hf21 dX2_targetsOfSite_8 ?_
  refine lv_iload_n hx hb dX2_targetsOfSite_11 rfl (lv_at hl 0 rfl) ?_
  obtain ⟨v2, ev2, h⟩ := o_bind h
  refine xld6 hx hb hK hP ev2 dX2_targetsOfSite_12 ?_
  refine lv_aload_n hx hb dX2_targetsOfSite_13 rfl (lv_at hl 1 rfl) ?_
  refine xgX2_6 hx hb hts iX2 hown hK hP hf24 dX2_targetsOfSite_14 ?_
  refine lv_iload_n hx hb dX2_targetsOfSite_17 rfl (lv_at hl 0 rfl) ?_
  obtain ⟨v3, ev3, h⟩ := o_bind h
  refine xld7 hx hb hK hP ev3 dX2_targetsOfSite_18 ?_
  obtain ⟨v4, ev4, h⟩ := o_bind h
  refine g_cVi (As := [.int v2, .int v3]) (rest := []) ⟨hx, hb, hml, hown, hts⟩ (m_X2_targetSet l hst D cy tx ad R _ S v2 v3 v4 ev4) (cwV 2 hts gX2_targetsOfSite_X2_targetSet rfl rfl rfl (by decide +kernel) ⟨Nat.le_of_ble_eq_true rfl, Nat.le_of_ble_eq_true rfl⟩) (va_recv hK hP (ci := 2) (q0 := 2) rfl rfl) hP hK hD hS hA hE rfl hl.1 rfl (Nat.le_of_ble_eq_true rfl) dX2_targetsOfSite_19 ⟨Nat.le_of_ble_eq_true rfl, Nat.le_of_ble_eq_true rfl⟩ (fun H locs hP hD hS => ?_)
  exact g_iret hQ hx hb hr hP hK hD hS (Nat.le_of_ble_eq_true rfl) (Nat.le_of_ble_eq_true rfl) dX2_targetsOfSite_22 hlocks (Option.some.inj h)
set_option maxHeartbeats 4000000 in
set_option maxRecDepth 100000 in
theorem m_X2_member (l : Launch) (hst : l.stackTraces = false) (D : va_G) (cy : Nat → ClassId) (tx : List (ClassId × FieldType)) (ad : Nat → Nat) (R : va_W) (sz : Nat) (S : PS) (x1 : Int32) (x2 : Int32) (v : Int32) (h : q_X2_member S x1 x2 = some v) : gMi l yX2_member wsX2_member ({ frames := 1, cells := 0, slots := 0, locals := 21 }) 0 0 D (gT cy ++ tx) [.ref (ad 2), .int x1, .int x2] sz (xW cy ad S R) (xW cy ad S R) v := by
  refine Met.ofW (cc := cX2_member) (maxL := 5) (ret := (some .int)) (by decide) rfl ?_
  intro p e s m args below meth c s₁ B hml hv
  obtain ⟨hav, hsz, hP, hK, hD0, hE⟩ := hv
  have hx := B.exec
  have hb := B.bytes
  have hr := B.returns
  have hts := atoms_spec (ws := wsX2_member) B.pre
  have hown : s.vm.findClass RX2 = some m.cls := findClass_of_methodNamed B.named
  have hlocks := B.notSynchronized
  subst hsz
  have hD := hD0.self (sz := s.heap.size)
  generalize hAe : va_A (xW cy ad S R) s.heap.size = A at hD hE ⊢
  have hA : ∀ q : Nat, s.heap.size ≤ q → A q := fun q h => by rw [← hAe]; exact Or.inr h
  have hS : va_S A s.heap s.heap [] := va_S.rf
  have iX2 : ∀ w ∈ u_ws RX2 TX2 8, w ∈ wsX2_member := by decide +kernel
  have hf34 := hts (.fieldLink RX2 34 "InlinePlanner$Program" "count" "I") (by decide +kernel)
  refine g_entry (n := 5) hav (Nat.le_of_ble_eq_true rfl) (fun ls hl => ?_)
  have hl : lv_has ls 5 [(0, .ref (ad 2)), (1, .int x1), (2, .int x2)] := hl
  refine g_nameQ (fun Q hQ => ?_)
  unfold q_X2_member at h
  refine lv_iload_n hx hb dX2_member_0 rfl (lv_at hl 2 rfl) ?_
  refine lv_istore_n (lv' := [(3, .int x2), (0, .ref (ad 2)), (1, .int x1), (2, .int x2)]) hx hb dX2_member_1 rfl hl (by decide) rfl (fun ls hl => ?_)
  refine lv_iconst (v := 0) hx hb dX2_member_2 (by decide) ?_
  refine lv_istore (lv' := [(4, .int 0), (3, .int x2), (0, .ref (ad 2)), (1, .int x1), (2, .int x2)]) hx hb dX2_member_3 hl (by decide) rfl (fun ls hl => ?_)
  have L5 : ∀ (n5 : Nat) (x3 : Int32) (x4 : Int32) (H : Heap) (locs : List Loc) (ls : Array Slot), va_P D vwCl (xW cy ad S R) H → va_D A (xW cy ad S R) → va_S A s.heap H locs → lv_has ls 5 [(0, .ref (ad 2)), (1, .int x1), (3, .int x3), (4, .int x4)] → iter2 (q_X2_member_L5 S x1 ) n5 x3 x4 = some v → W p l e (headSpec wsX2_member ({ frames := 1, cells := 0, slots := 0, locals := 21 })).room s m args below meth c H locs 0 0 Q (F0 m 5 ls []) := by
    intro  n5
    induction n5 with
    | zero =>
      intro x3 x4 H locs ls hP hD hS hl h
      exact (it2_0 h).elim
    | succ n5 ih5 =>
      intro x3 x4 H locs ls hP hD hS hl h
      have h : q_X2_member_L5 S x1  (iter2 (q_X2_member_L5 S x1 ) n5) x3 x4 = some v := h
      unfold q_X2_member_L5 at h
      refine lv_iload hx hb dX2_member_5 (lv_at hl 3 rfl) ?_
      refine lv_aload_n hx hb dX2_member_7 rfl (lv_at hl 0 rfl) ?_
      refine xgX2_0 hx hb hts iX2 hown hK hP hf34 dX2_member_8 ?_
      refine lv_icmp_ge (tgt := 39) hx hb dX2_member_11 (by decide) (fun hc => ?_) (fun hc => ?_)
      · have h := o_pos hc h
        refine lv_iconst (v := (-1)) hx hb dX2_member_39 (by decide) ?_
        exact g_iret hQ hx hb hr hP hK hD hS (Nat.le_of_ble_eq_true rfl) (Nat.le_of_ble_eq_true rfl) dX2_member_40 hlocks (Option.some.inj h)
      · have h := o_neg hc h
        refine lv_iload_n hx hb dX2_member_14 rfl (lv_at hl 1 rfl) ?_
        refine lv_iload hx hb dX2_member_15 (lv_at hl 3 rfl) ?_
        obtain ⟨v1, ev1, h⟩ := o_bind h
        refine g_cSi (As := [.int x1, .int x4]) (rest := []) ⟨hx, hb, hml, hown, hts⟩ (m_X2_contains l hst D (gT cy ++ tx) (xW cy ad S R) _ x1 x4 v1 ev1) (va_cwS 2 hts gX2_member_X2_contains rfl rfl rfl (by decide +kernel) ⟨Nat.le_of_ble_eq_true rfl, Nat.le_of_ble_eq_true rfl⟩) hP hK hD hS hA hE rfl hl.1 rfl (Nat.le_of_ble_eq_true rfl) dX2_member_17 ⟨Nat.le_of_ble_eq_true rfl, Nat.le_of_ble_eq_true rfl⟩ (fun H locs hP hD hS => ?_)
        refine lv_if_eq (tgt := 33) hx hb dX2_member_20 (by decide) (fun hc => ?_) (fun hc => ?_)
        · have h := o_pos hc h
          refine lv_iinc (v := (x4 + 1)) (lv' := [(4, .int (x4 + 1)), (0, .ref (ad 2)), (1, .int x1), (3, .int x3)]) hx hb dX2_member_33 hl (k := 3) rfl rfl (by decide) rfl (fun ls hl => ?_)
          refine lv_goto (tgt := 5) hx hb dX2_member_36 (by decide) ?_
          exact ih5 x3 (x4 + 1) _ _ ls hP hD hS (lv_sub hl [1, 2, 3, 0] rfl) h
        · have h := o_neg hc h
          refine lv_iload_n hx hb dX2_member_23 rfl (lv_at hl 2 rfl) ?_
          refine lv_if_ne (tgt := 30) hx hb dX2_member_24 (by decide) (fun hc => ?_) (fun hc => ?_)
          · have h := o_neg hc h
            refine lv_iinc (v := (x3 + -1)) (lv' := [(3, .int (x3 + -1)), (0, .ref (ad 2)), (1, .int x1), (4, .int x4)]) hx hb dX2_member_30 hl (k := 2) rfl rfl (by decide) rfl (fun ls hl => ?_)
            refine lv_iinc (v := (x4 + 1)) (lv' := [(4, .int (x4 + 1)), (3, .int (x3 + -1)), (0, .ref (ad 2)), (1, .int x1)]) hx hb dX2_member_33 hl (k := 3) rfl rfl (by decide) rfl (fun ls hl => ?_)
            refine lv_goto (tgt := 5) hx hb dX2_member_36 (by decide) ?_
            exact ih5 (x3 + -1) (x4 + 1) _ _ ls hP hD hS (lv_sub hl [2, 3, 1, 0] rfl) h
          · have h := o_pos hc h
            refine lv_iload hx hb dX2_member_27 (lv_at hl 3 rfl) ?_
            exact g_iret hQ hx hb hr hP hK hD hS (Nat.le_of_ble_eq_true rfl) (Nat.le_of_ble_eq_true rfl) dX2_member_29 hlocks (Option.some.inj h)
  exact L5  1000 x2 0 _ _ ls hP hD hS (lv_sub hl [2, 3, 1, 0] rfl) h
set_option maxHeartbeats 4000000 in
set_option maxRecDepth 100000 in
theorem m_X2_calledFrom (l : Launch) (hst : l.stackTraces = false) (D : va_G) (cy : Nat → ClassId) (tx : List (ClassId × FieldType)) (ad : Nat → Nat) (R : va_W) (sz : Nat) (S : PS) (x1 : Int32) (v : Int32) (h : q_X2_calledFrom S x1 = some v) : gMi l yX2_calledFrom wsX2_calledFrom ({ frames := 3, cells := 0, slots := 0, locals := 73 }) 0 0 D (gT cy ++ tx) [.ref (ad 2), .int x1] sz (xW cy ad S R) (xW cy ad S R) v := by
  refine Met.ofW (cc := cX2_calledFrom) (maxL := 4) (ret := (some .int)) (by decide) rfl ?_
  intro p e s m args below meth c s₁ B hml hv
  obtain ⟨hav, hsz, hP, hK, hD0, hE⟩ := hv
  have hx := B.exec
  have hb := B.bytes
  have hr := B.returns
  have hts := atoms_spec (ws := wsX2_calledFrom) B.pre
  have hown : s.vm.findClass RX2 = some m.cls := findClass_of_methodNamed B.named
  have hlocks := B.notSynchronized
  subst hsz
  have hD := hD0.self (sz := s.heap.size)
  generalize hAe : va_A (xW cy ad S R) s.heap.size = A at hD hE ⊢
  have hA : ∀ q : Nat, s.heap.size ≤ q → A q := fun q h => by rw [← hAe]; exact Or.inr h
  have hS : va_S A s.heap s.heap [] := va_S.rf
  have iX2 : ∀ w ∈ u_ws RX2 TX2 8, w ∈ wsX2_calledFrom := by decide +kernel
  have hf15 := hts (.fieldLink RX2 15 "InlinePlanner$Program" "siteCounts" "[I") (by decide +kernel)
  refine g_entry (n := 4) hav (Nat.le_of_ble_eq_true rfl) (fun ls hl => ?_)
  have hl : lv_has ls 4 [(0, .ref (ad 2)), (1, .int x1)] := hl
  refine g_nameQ (fun Q hQ => ?_)
  unfold q_X2_calledFrom at h
  refine lv_iconst (v := 0) hx hb dX2_calledFrom_0 (by decide) ?_
  refine lv_istore_n (lv' := [(2, .int 0), (0, .ref (ad 2)), (1, .int x1)]) hx hb dX2_calledFrom_1 rfl hl (by decide) rfl (fun ls hl => ?_)
  refine lv_iconst (v := 0) hx hb dX2_calledFrom_2 (by decide) ?_
  refine lv_istore_n (lv' := [(3, .int 0), (2, .int 0), (0, .ref (ad 2)), (1, .int x1)]) hx hb dX2_calledFrom_3 rfl hl (by decide) rfl (fun ls hl => ?_)
  have L4 : ∀ (n4 : Nat) (x2 : Int32) (x3 : Int32) (H : Heap) (locs : List Loc) (ls : Array Slot), va_P D vwCl (xW cy ad S R) H → va_D A (xW cy ad S R) → va_S A s.heap H locs → lv_has ls 4 [(0, .ref (ad 2)), (1, .int x1), (2, .int x2), (3, .int x3)] → iter2 (q_X2_calledFrom_L4 S x1 ) n4 x2 x3 = some v → W p l e (headSpec wsX2_calledFrom ({ frames := 3, cells := 0, slots := 0, locals := 73 })).room s m args below meth c H locs 0 0 Q (F0 m 4 ls []) := by
    intro  n4
    induction n4 with
    | zero =>
      intro x2 x3 H locs ls hP hD hS hl h
      exact (it2_0 h).elim
    | succ n4 ih4 =>
      intro x2 x3 H locs ls hP hD hS hl h
      have h : q_X2_calledFrom_L4 S x1  (iter2 (q_X2_calledFrom_L4 S x1 ) n4) x2 x3 = some v := h
      unfold q_X2_calledFrom_L4 at h
      refine lv_iload_n hx hb dX2_calledFrom_4 rfl (lv_at hl 3 rfl) ?_
      refine lv_aload_n hx hb dX2_calledFrom_5 rfl (lv_at hl 0 rfl) ?_
      refine xgX2_2 hx hb hts iX2 hown hK hP hf15 dX2_calledFrom_6 ?_
      refine lv_iload_n hx hb dX2_calledFrom_9 rfl (lv_at hl 1 rfl) ?_
      obtain ⟨v1, ev1, h⟩ := o_bind h
      refine xld4 hx hb hK hP ev1 dX2_calledFrom_10 ?_
      refine lv_icmp_ge (tgt := 29) hx hb dX2_calledFrom_11 (by decide) (fun hc => ?_) (fun hc => ?_)
      · have h := o_pos hc h
        refine lv_iload_n hx hb dX2_calledFrom_29 rfl (lv_at hl 2 rfl) ?_
        exact g_iret hQ hx hb hr hP hK hD hS (Nat.le_of_ble_eq_true rfl) (Nat.le_of_ble_eq_true rfl) dX2_calledFrom_30 hlocks (Option.some.inj h)
      · have h := o_neg hc h
        refine lv_iload_n hx hb dX2_calledFrom_14 rfl (lv_at hl 2 rfl) ?_
        refine lv_aload_n hx hb dX2_calledFrom_15 rfl (lv_at hl 0 rfl) ?_
        refine lv_iload_n hx hb dX2_calledFrom_16 rfl (lv_at hl 1 rfl) ?_
        refine lv_iload_n hx hb dX2_calledFrom_17 rfl (lv_at hl 3 rfl) ?_
        obtain ⟨v2, ev2, h⟩ := o_bind h
        refine g_cVi (As := [.int x1, .int x3]) (rest := [.int x2]) ⟨hx, hb, hml, hown, hts⟩ (m_X2_targetsOfSite l hst D cy tx ad R _ S x1 x3 v2 ev2) (cwV 2 hts gX2_calledFrom_X2_targetsOfSite rfl rfl rfl (by decide +kernel) ⟨Nat.le_of_ble_eq_true rfl, Nat.le_of_ble_eq_true rfl⟩) (va_recv hK hP (ci := 2) (q0 := 2) rfl rfl) hP hK hD hS hA hE rfl hl.1 rfl (Nat.le_of_ble_eq_true rfl) dX2_calledFrom_18 ⟨Nat.le_of_ble_eq_true rfl, Nat.le_of_ble_eq_true rfl⟩ (fun H locs hP hD hS => ?_)
        refine lv_ior hx hb dX2_calledFrom_21 ?_
        refine lv_istore_n (lv' := [(2, .int (x2 ||| v2)), (0, .ref (ad 2)), (1, .int x1), (3, .int x3)]) hx hb dX2_calledFrom_22 rfl hl (by decide) rfl (fun ls hl => ?_)
        refine lv_iinc (v := (x3 + 1)) (lv' := [(3, .int (x3 + 1)), (2, .int (x2 ||| v2)), (0, .ref (ad 2)), (1, .int x1)]) hx hb dX2_calledFrom_23 hl (k := 3) rfl rfl (by decide) rfl (fun ls hl => ?_)
        refine lv_goto (tgt := 4) hx hb dX2_calledFrom_26 (by decide) ?_
        exact ih4 (x2 ||| v2) (x3 + 1) _ _ ls hP hD hS (lv_sub hl [2, 3, 1, 0] rfl) h
  exact L4  1000 0 0 _ _ ls hP hD hS (lv_sub hl [2, 3, 1, 0] rfl) h
set_option maxHeartbeats 4000000 in
set_option maxRecDepth 100000 in
theorem m_X2_reachableSet (l : Launch) (hst : l.stackTraces = false) (D : va_G) (cy : Nat → ClassId) (tx : List (ClassId × FieldType)) (ad : Nat → Nat) (R : va_W) (sz : Nat) (S : PS) (x1 : Int32) (v : Int32) (h : q_X2_reachableSet S x1 = some v) : gMi l yX2_reachableSet wsX2_reachableSet ({ frames := 4, cells := 0, slots := 0, locals := 96 }) 0 0 D (gT cy ++ tx) [.ref (ad 2), .int x1] sz (xW cy ad S R) (xW cy ad S R) v := by
  refine Met.ofW (cc := cX2_reachableSet) (maxL := 6) (ret := (some .int)) (by decide) rfl ?_
  intro p e s m args below meth c s₁ B hml hv
  obtain ⟨hav, hsz, hP, hK, hD0, hE⟩ := hv
  have hx := B.exec
  have hb := B.bytes
  have hr := B.returns
  have hts := atoms_spec (ws := wsX2_reachableSet) B.pre
  have hown : s.vm.findClass RX2 = some m.cls := findClass_of_methodNamed B.named
  have hlocks := B.notSynchronized
  subst hsz
  have hD := hD0.self (sz := s.heap.size)
  generalize hAe : va_A (xW cy ad S R) s.heap.size = A at hD hE ⊢
  have hA : ∀ q : Nat, s.heap.size ≤ q → A q := fun q h => by rw [← hAe]; exact Or.inr h
  have hS : va_S A s.heap s.heap [] := va_S.rf
  have iX2 : ∀ w ∈ u_ws RX2 TX2 8, w ∈ wsX2_reachableSet := by decide +kernel
  have hf34 := hts (.fieldLink RX2 34 "InlinePlanner$Program" "count" "I") (by decide +kernel)
  refine g_entry (n := 6) hav (Nat.le_of_ble_eq_true rfl) (fun ls hl => ?_)
  have hl : lv_has ls 6 [(0, .ref (ad 2)), (1, .int x1)] := hl
  refine g_nameQ (fun Q hQ => ?_)
  unfold q_X2_reachableSet at h
  refine lv_iconst (v := 1) hx hb dX2_reachableSet_0 (by decide) ?_
  refine lv_iload_n hx hb dX2_reachableSet_1 rfl (lv_at hl 1 rfl) ?_
  refine lv_ishl hx hb dX2_reachableSet_2 ?_
  refine lv_istore_n (lv' := [(2, .int (1 <<< (x1 &&& 31))), (0, .ref (ad 2)), (1, .int x1)]) hx hb dX2_reachableSet_3 rfl hl (by decide) rfl (fun ls hl => ?_)
  refine lv_iconst (v := 0) hx hb dX2_reachableSet_4 (by decide) ?_
  refine lv_istore_n (lv' := [(3, .int 0), (2, .int (1 <<< (x1 &&& 31))), (0, .ref (ad 2)), (1, .int x1)]) hx hb dX2_reachableSet_5 rfl hl (by decide) rfl (fun ls hl => ?_)
  refine lv_iconst (v := 0) hx hb dX2_reachableSet_6 (by decide) ?_
  refine lv_istore (lv' := [(4, .int 0), (3, .int 0), (2, .int (1 <<< (x1 &&& 31))), (0, .ref (ad 2)), (1, .int x1)]) hx hb dX2_reachableSet_7 hl (by decide) rfl (fun ls hl => ?_)
  have L9 : ∀ (n9 : Nat) (x2 : Int32) (x3 : Int32) (x4 : Int32) (H : Heap) (locs : List Loc) (ls : Array Slot), va_P D vwCl (xW cy ad S R) H → va_D A (xW cy ad S R) → va_S A s.heap H locs → lv_has ls 6 [(0, .ref (ad 2)), (2, .int x2), (3, .int x3), (4, .int x4)] → iter3 (q_X2_reachableSet_L9 S ) n9 x2 x3 x4 = some v → W p l e (headSpec wsX2_reachableSet ({ frames := 4, cells := 0, slots := 0, locals := 96 })).room s m args below meth c H locs 0 0 Q (F0 m 9 ls []) := by
    intro  n9
    induction n9 with
    | zero =>
      intro x2 x3 x4 H locs ls hP hD hS hl h
      exact (it3_0 h).elim
    | succ n9 ih9 =>
      intro x2 x3 x4 H locs ls hP hD hS hl h
      have h : q_X2_reachableSet_L9 S  (iter3 (q_X2_reachableSet_L9 S ) n9) x2 x3 x4 = some v := h
      unfold q_X2_reachableSet_L9 at h
      refine lv_iload hx hb dX2_reachableSet_9 (lv_at hl 3 rfl) ?_
      refine lv_aload_n hx hb dX2_reachableSet_11 rfl (lv_at hl 0 rfl) ?_
      refine xgX2_0 hx hb hts iX2 hown hK hP hf34 dX2_reachableSet_12 ?_
      refine lv_icmp_ge (tgt := 59) hx hb dX2_reachableSet_15 (by decide) (fun hc => ?_) (fun hc => ?_)
      · have h := o_pos hc h
        refine lv_iload_n hx hb dX2_reachableSet_59 rfl (lv_at hl 1 rfl) ?_
        exact g_iret hQ hx hb hr hP hK hD hS (Nat.le_of_ble_eq_true rfl) (Nat.le_of_ble_eq_true rfl) dX2_reachableSet_60 hlocks (Option.some.inj h)
      · have h := o_neg hc h
        refine lv_aload_n hx hb dX2_reachableSet_18 rfl (lv_at hl 0 rfl) ?_
        refine lv_iload_n hx hb dX2_reachableSet_19 rfl (lv_at hl 1 rfl) ?_
        refine lv_iload_n hx hb dX2_reachableSet_20 rfl (lv_at hl 2 rfl) ?_
        refine lv_iconst (v := (-1)) hx hb dX2_reachableSet_21 (by decide) ?_
        refine lv_ixor hx hb dX2_reachableSet_22 ?_
        refine lv_iand hx hb dX2_reachableSet_23 ?_
        refine lv_iconst (v := 0) hx hb dX2_reachableSet_24 (by decide) ?_
        obtain ⟨v1, ev1, h⟩ := o_bind h
        refine g_cVi (As := [.int (x2 &&& (x3 ^^^ (-1))), .int 0]) (rest := []) ⟨hx, hb, hml, hown, hts⟩ (m_X2_member l hst D cy tx ad R _ S (x2 &&& (x3 ^^^ (-1))) 0 v1 ev1) (cwV 2 hts gX2_reachableSet_X2_member rfl rfl rfl (by decide +kernel) ⟨Nat.le_of_ble_eq_true rfl, Nat.le_of_ble_eq_true rfl⟩) (va_recv hK hP (ci := 2) (q0 := 2) rfl rfl) hP hK hD hS hA hE rfl hl.1 rfl (Nat.le_of_ble_eq_true rfl) dX2_reachableSet_25 ⟨Nat.le_of_ble_eq_true rfl, Nat.le_of_ble_eq_true rfl⟩ (fun H locs hP hD hS => ?_)
        refine lv_istore (lv' := [(5, .int v1), (0, .ref (ad 2)), (2, .int x2), (3, .int x3), (4, .int x4)]) hx hb dX2_reachableSet_28 hl (by decide) rfl (fun ls hl => ?_)
        refine lv_iload hx hb dX2_reachableSet_30 (lv_at hl 0 rfl) ?_
        refine lv_if_ge (tgt := 37) hx hb dX2_reachableSet_32 (by decide) (fun hc => ?_) (fun hc => ?_)
        · have h := o_pos hc h
          refine lv_iload_n hx hb dX2_reachableSet_37 rfl (lv_at hl 3 rfl) ?_
          refine lv_iconst (v := 1) hx hb dX2_reachableSet_38 (by decide) ?_
          refine lv_iload hx hb dX2_reachableSet_39 (lv_at hl 0 rfl) ?_
          refine lv_ishl hx hb dX2_reachableSet_41 ?_
          refine lv_ior hx hb dX2_reachableSet_42 ?_
          refine lv_istore_n (lv' := [(3, .int (x3 ||| (1 <<< (v1 &&& 31)))), (5, .int v1), (0, .ref (ad 2)), (2, .int x2), (4, .int x4)]) hx hb dX2_reachableSet_43 rfl hl (by decide) rfl (fun ls hl => ?_)
          refine lv_iload_n hx hb dX2_reachableSet_44 rfl (lv_at hl 3 rfl) ?_
          refine lv_aload_n hx hb dX2_reachableSet_45 rfl (lv_at hl 2 rfl) ?_
          refine lv_iload hx hb dX2_reachableSet_46 (lv_at hl 1 rfl) ?_
          obtain ⟨v2, ev2, h⟩ := o_bind h
          refine g_cVi (As := [.int v1]) (rest := [.int x2]) ⟨hx, hb, hml, hown, hts⟩ (m_X2_calledFrom l hst D cy tx ad R _ S v1 v2 ev2) (cwV 1 hts gX2_reachableSet_X2_calledFrom rfl rfl rfl (by decide +kernel) ⟨Nat.le_of_ble_eq_true rfl, Nat.le_of_ble_eq_true rfl⟩) (va_recv hK hP (ci := 2) (q0 := 2) rfl rfl) hP hK hD hS hA hE rfl hl.1 rfl (Nat.le_of_ble_eq_true rfl) dX2_reachableSet_48 ⟨Nat.le_of_ble_eq_true rfl, Nat.le_of_ble_eq_true rfl⟩ (fun H locs hP hD hS => ?_)
          refine lv_ior hx hb dX2_reachableSet_51 ?_
          refine lv_istore_n (lv' := [(2, .int (x2 ||| v2)), (3, .int (x3 ||| (1 <<< (v1 &&& 31)))), (5, .int v1), (0, .ref (ad 2)), (4, .int x4)]) hx hb dX2_reachableSet_52 rfl hl (by decide) rfl (fun ls hl => ?_)
          refine lv_iinc (v := (x4 + 1)) (lv' := [(4, .int (x4 + 1)), (2, .int (x2 ||| v2)), (3, .int (x3 ||| (1 <<< (v1 &&& 31)))), (5, .int v1), (0, .ref (ad 2))]) hx hb dX2_reachableSet_53 hl (k := 4) rfl rfl (by decide) rfl (fun ls hl => ?_)
          refine lv_goto (tgt := 9) hx hb dX2_reachableSet_56 (by decide) ?_
          exact ih9 (x2 ||| v2) (x3 ||| (1 <<< (v1 &&& 31))) (x4 + 1) _ _ ls hP hD hS (lv_sub hl [4, 1, 2, 0] rfl) h
        · have h := o_neg hc h
          refine lv_iload_n hx hb dX2_reachableSet_35 rfl (lv_at hl 2 rfl) ?_
          exact g_iret hQ hx hb hr hP hK hD hS (Nat.le_of_ble_eq_true rfl) (Nat.le_of_ble_eq_true rfl) dX2_reachableSet_36 hlocks (Option.some.inj h)
  exact L9  1000 (1 <<< (x1 &&& 31)) 0 0 _ _ ls hP hD hS (lv_sub hl [3, 2, 1, 0] rfl) h
set_option maxHeartbeats 4000000 in
set_option maxRecDepth 100000 in
theorem m_X3_exists (l : Launch) (hst : l.stackTraces = false) (D : va_G) (cy : Nat → ClassId) (tx : List (ClassId × FieldType)) (ad : Nat → Nat) (R : va_W) (sz : Nat) (S : PS)  (v : Int32) (h : q_X3_exists S = some v) : gMi l yX3_exists wsX3_exists ({ frames := 0, cells := 0, slots := 0, locals := 0 }) 0 0 D (gT cy ++ tx) [.ref (ad 4)] sz (xW cy ad S R) (xW cy ad S R) v := by
  refine Met.ofW (cc := cX3_exists) (maxL := 1) (ret := (some .boolean)) (by decide) rfl ?_
  intro p e s m args below meth c s₁ B hml hv
  obtain ⟨hav, hsz, hP, hK, hD0, hE⟩ := hv
  have hx := B.exec
  have hb := B.bytes
  have hr := B.returns
  have hts := atoms_spec (ws := wsX3_exists) B.pre
  have hown : s.vm.findClass RX3 = some m.cls := findClass_of_methodNamed B.named
  have hlocks := B.notSynchronized
  subst hsz
  have hD := hD0.self (sz := s.heap.size)
  generalize hAe : va_A (xW cy ad S R) s.heap.size = A at hD hE ⊢
  have hA : ∀ q : Nat, s.heap.size ≤ q → A q := fun q h => by rw [← hAe]; exact Or.inr h
  have hS : va_S A s.heap s.heap [] := va_S.rf
  have iX3 : ∀ w ∈ u_ws RX3 TX3 13, w ∈ wsX3_exists := by decide +kernel
  have hf51 := hts (.fieldLink RX3 51 "InlinePlanner$Tree" "count" "I") (by decide +kernel)
  refine g_entry (n := 1) hav (Nat.le_of_ble_eq_true rfl) (fun ls hl => ?_)
  have hl : lv_has ls 1 [(0, .ref (ad 4))] := hl
  refine g_nameQ (fun Q hQ => ?_)
  unfold q_X3_exists at h
  refine lv_aload_n hx hb dX3_exists_0 rfl (lv_at hl 0 rfl) ?_
  refine xgX3_0 hx hb hts iX3 hown hK hP hf51 dX3_exists_1 ?_
  refine lv_if_le (tgt := 11) hx hb dX3_exists_4 (by decide) (fun hc => ?_) (fun hc => ?_)
  · have h := o_pos hc h
    refine lv_iconst (v := 0) hx hb dX3_exists_11 (by decide) ?_
    exact g_zret hQ hx hb hr rfl hP hK hD hS (Nat.le_of_ble_eq_true rfl) (Nat.le_of_ble_eq_true rfl) dX3_exists_12 hlocks (Option.some.inj h)
  · have h := o_neg hc h
    refine lv_iconst (v := 1) hx hb dX3_exists_7 (by decide) ?_
    refine lv_goto (tgt := 12) hx hb dX3_exists_8 (by decide) ?_
    exact g_zret hQ hx hb hr rfl hP hK hD hS (Nat.le_of_ble_eq_true rfl) (Nat.le_of_ble_eq_true rfl) dX3_exists_12 hlocks (Option.some.inj h)
set_option maxHeartbeats 4000000 in
set_option maxRecDepth 100000 in
theorem m_X3_remove (l : Launch) (hst : l.stackTraces = false) (D : va_G) (cy : Nat → ClassId) (tx : List (ClassId × FieldType)) (ad : Nat → Nat) (R : va_W) (sz : Nat) (S : PS)  (S' : PS) (h : q_X3_remove S = some S') : gMv l yX3_remove wsX3_remove ({ frames := 0, cells := 0, slots := 0, locals := 0 }) 0 0 D (gT cy ++ tx) [.ref (ad 4)] sz (xW cy ad S R) (xW cy ad S' R) := by
  refine Met.ofW (cc := cX3_remove) (maxL := 1) (ret := none) (by decide) rfl ?_
  intro p e s m args below meth c s₁ B hml hv
  obtain ⟨hav, hsz, hP, hK, hD0, hE⟩ := hv
  have hx := B.exec
  have hb := B.bytes
  have hr := B.returns
  have hts := atoms_spec (ws := wsX3_remove) B.pre
  have hown : s.vm.findClass RX3 = some m.cls := findClass_of_methodNamed B.named
  have hlocks := B.notSynchronized
  subst hsz
  have hD := hD0.self (sz := s.heap.size)
  generalize hAe : va_A (xW cy ad S R) s.heap.size = A at hD hE ⊢
  have hA : ∀ q : Nat, s.heap.size ≤ q → A q := fun q h => by rw [← hAe]; exact Or.inr h
  have hS : va_S A s.heap s.heap [] := va_S.rf
  have iX3 : ∀ w ∈ u_ws RX3 TX3 13, w ∈ wsX3_remove := by decide +kernel
  have hf51 := hts (.fieldLink RX3 51 "InlinePlanner$Tree" "count" "I") (by decide +kernel)
  have hf55 := hts (.fieldLink RX3 55 "InlinePlanner$Tree" "totalSize" "I") (by decide +kernel)
  refine g_entry (n := 1) hav (Nat.le_of_ble_eq_true rfl) (fun ls hl => ?_)
  have hl : lv_has ls 1 [(0, .ref (ad 4))] := hl
  refine g_nameQ (fun Q hQ => ?_)
  unfold q_X3_remove at h
  refine lv_aload_n hx hb dX3_remove_0 rfl (lv_at hl 0 rfl) ?_
  refine lv_iconst (v := 0) hx hb dX3_remove_1 (by decide) ?_
  obtain ⟨S1, eS1, h⟩ := o_bind h
  refine xpX3_0 hx hb hts iX3 hown hK hP hD hS hf51 eS1 dX3_remove_2 (fun H locs hP hD hS => ?_)
  refine lv_aload_n hx hb dX3_remove_5 rfl (lv_at hl 0 rfl) ?_
  refine lv_iconst (v := 0) hx hb dX3_remove_6 (by decide) ?_
  obtain ⟨S2, eS2, h⟩ := o_bind h
  refine xpX3_1 hx hb hts iX3 hown hK hP hD hS hf55 eS2 dX3_remove_7 (fun H locs hP hD hS => ?_)
  have eS := Option.some.inj h
  subst eS
  exact g_vret hQ hx hb hr hP hK hD hS (Nat.le_of_ble_eq_true rfl) (Nat.le_of_ble_eq_true rfl) dX3_remove_10 hlocks
set_option maxHeartbeats 4000000 in
set_option maxRecDepth 100000 in
theorem m_X3_sitesAt (l : Launch) (hst : l.stackTraces = false) (D : va_G) (cy : Nat → ClassId) (tx : List (ClassId × FieldType)) (ad : Nat → Nat) (R : va_W) (sz : Nat) (S : PS) (x1 : Int32) (v : Int32) (h : q_X3_sitesAt S x1 = some v) : gMi l yX3_sitesAt wsX3_sitesAt ({ frames := 0, cells := 0, slots := 0, locals := 0 }) 0 0 D (gT cy ++ tx) [.ref (ad 4), .int x1] sz (xW cy ad S R) (xW cy ad S R) v := by
  refine Met.ofW (cc := cX3_sitesAt) (maxL := 2) (ret := (some .int)) (by decide) rfl ?_
  intro p e s m args below meth c s₁ B hml hv
  obtain ⟨hav, hsz, hP, hK, hD0, hE⟩ := hv
  have hx := B.exec
  have hb := B.bytes
  have hr := B.returns
  have hts := atoms_spec (ws := wsX3_sitesAt) B.pre
  have hown : s.vm.findClass RX3 = some m.cls := findClass_of_methodNamed B.named
  have hlocks := B.notSynchronized
  subst hsz
  have hD := hD0.self (sz := s.heap.size)
  generalize hAe : va_A (xW cy ad S R) s.heap.size = A at hD hE ⊢
  have hA : ∀ q : Nat, s.heap.size ≤ q → A q := fun q h => by rw [← hAe]; exact Or.inr h
  have hS : va_S A s.heap s.heap [] := va_S.rf
  have iX2 : ∀ w ∈ u_ws RX2 TX2 8, w ∈ wsX3_sitesAt := by decide +kernel
  have iX3 : ∀ w ∈ u_ws RX3 TX3 13, w ∈ wsX3_sitesAt := by decide +kernel
  have hf9 := hts (.fieldLink RX3 9 "InlinePlanner$Tree" "methods" "[I") (by decide +kernel)
  have hf43 := hts (.fieldLink RX3 43 "InlinePlanner$Tree" "program" "LInlinePlanner$Program;") (by decide +kernel)
  have hf58 := hts (.fieldLink RX3 58 "InlinePlanner$Program" "siteCounts" "[I") (by decide +kernel)
  refine g_entry (n := 2) hav (Nat.le_of_ble_eq_true rfl) (fun ls hl => ?_)
  have hl : lv_has ls 2 [(0, .ref (ad 4)), (1, .int x1)] := hl
  refine g_nameQ (fun Q hQ => ?_)
  unfold q_X3_sitesAt at h
  refine lv_aload_n hx hb dX3_sitesAt_0 rfl (lv_at hl 0 rfl) ?_
  refine xgX3_9 hx hb hts iX3 hown hK hP hf43 dX3_sitesAt_1 ?_
  refine xgX2_2 hx hb hts iX2 hown hK hP hf58 dX3_sitesAt_4 ?_
  refine lv_aload_n hx hb dX3_sitesAt_7 rfl (lv_at hl 0 rfl) ?_
  refine xgX3_2 hx hb hts iX3 hown hK hP hf9 dX3_sitesAt_8 ?_
  refine lv_iload_n hx hb dX3_sitesAt_11 rfl (lv_at hl 1 rfl) ?_
  obtain ⟨v1, ev1, h⟩ := o_bind h
  refine xld9 hx hb hK hP ev1 dX3_sitesAt_12 ?_
  obtain ⟨v2, ev2, h⟩ := o_bind h
  refine xld4 hx hb hK hP ev2 dX3_sitesAt_13 ?_
  exact g_iret hQ hx hb hr hP hK hD hS (Nat.le_of_ble_eq_true rfl) (Nat.le_of_ble_eq_true rfl) dX3_sitesAt_14 hlocks (Option.some.inj h)
set_option maxHeartbeats 4000000 in
set_option maxRecDepth 100000 in
theorem m_X3_copiesOnPath (l : Launch) (hst : l.stackTraces = false) (D : va_G) (cy : Nat → ClassId) (tx : List (ClassId × FieldType)) (ad : Nat → Nat) (R : va_W) (sz : Nat) (S : PS) (x1 : Int32) (x2 : Int32) (v : Int32) (h : q_X3_copiesOnPath S x1 x2 = some v) : gMi l yX3_copiesOnPath wsX3_copiesOnPath ({ frames := 0, cells := 0, slots := 0, locals := 0 }) 0 0 D (gT cy ++ tx) [.ref (ad 4), .int x1, .int x2] sz (xW cy ad S R) (xW cy ad S R) v := by
  refine Met.ofW (cc := cX3_copiesOnPath) (maxL := 6) (ret := (some .int)) (by decide) rfl ?_
  intro p e s m args below meth c s₁ B hml hv
  obtain ⟨hav, hsz, hP, hK, hD0, hE⟩ := hv
  have hx := B.exec
  have hb := B.bytes
  have hr := B.returns
  have hts := atoms_spec (ws := wsX3_copiesOnPath) B.pre
  have hown : s.vm.findClass RX3 = some m.cls := findClass_of_methodNamed B.named
  have hlocks := B.notSynchronized
  subst hsz
  have hD := hD0.self (sz := s.heap.size)
  generalize hAe : va_A (xW cy ad S R) s.heap.size = A at hD hE ⊢
  have hA : ∀ q : Nat, s.heap.size ≤ q → A q := fun q h => by rw [← hAe]; exact Or.inr h
  have hS : va_S A s.heap s.heap [] := va_S.rf
  have iX3 : ∀ w ∈ u_ws RX3 TX3 13, w ∈ wsX3_copiesOnPath := by decide +kernel
  have hf9 := hts (.fieldLink RX3 9 "InlinePlanner$Tree" "methods" "[I") (by decide +kernel)
  have hf15 := hts (.fieldLink RX3 15 "InlinePlanner$Tree" "parents" "[I") (by decide +kernel)
  refine g_entry (n := 6) hav (Nat.le_of_ble_eq_true rfl) (fun ls hl => ?_)
  have hl : lv_has ls 6 [(0, .ref (ad 4)), (1, .int x1), (2, .int x2)] := hl
  refine g_nameQ (fun Q hQ => ?_)
  unfold q_X3_copiesOnPath at h
  refine lv_iconst (v := 0) hx hb dX3_copiesOnPath_0 (by decide) ?_
  refine lv_istore_n (lv' := [(3, .int 0), (0, .ref (ad 4)), (1, .int x1), (2, .int x2)]) hx hb dX3_copiesOnPath_1 rfl hl (by decide) rfl (fun ls hl => ?_)
  refine lv_iload_n hx hb dX3_copiesOnPath_2 rfl (lv_at hl 2 rfl) ?_
  refine lv_istore (lv' := [(4, .int x1), (3, .int 0), (0, .ref (ad 4)), (1, .int x1), (2, .int x2)]) hx hb dX3_copiesOnPath_3 hl (by decide) rfl (fun ls hl => ?_)
  refine lv_iconst (v := 0) hx hb dX3_copiesOnPath_5 (by decide) ?_
  refine lv_istore (lv' := [(5, .int 0), (4, .int x1), (3, .int 0), (0, .ref (ad 4)), (1, .int x1), (2, .int x2)]) hx hb dX3_copiesOnPath_6 hl (by decide) rfl (fun ls hl => ?_)
  have L8 : ∀ (n8 : Nat) (x3 : Int32) (x4 : Int32) (x5 : Int32) (H : Heap) (locs : List Loc) (ls : Array Slot), va_P D vwCl (xW cy ad S R) H → va_D A (xW cy ad S R) → va_S A s.heap H locs → lv_has ls 6 [(0, .ref (ad 4)), (2, .int x2), (3, .int x3), (4, .int x4), (5, .int x5)] → iter3 (q_X3_copiesOnPath_L8 S x2 ) n8 x3 x4 x5 = some v → W p l e (headSpec wsX3_copiesOnPath ({ frames := 0, cells := 0, slots := 0, locals := 0 })).room s m args below meth c H locs 0 0 Q (F0 m 8 ls []) := by
    intro  n8
    induction n8 with
    | zero =>
      intro x3 x4 x5 H locs ls hP hD hS hl h
      exact (it3_0 h).elim
    | succ n8 ih8 =>
      intro x3 x4 x5 H locs ls hP hD hS hl h
      have h : q_X3_copiesOnPath_L8 S x2  (iter3 (q_X3_copiesOnPath_L8 S x2 ) n8) x3 x4 x5 = some v := h
      unfold q_X3_copiesOnPath_L8 at h
      refine lv_iload hx hb dX3_copiesOnPath_8 (lv_at hl 4 rfl) ?_
      refine lv_bipush (v := 10) hx hb dX3_copiesOnPath_10 (by decide) ?_
      refine lv_icmp_gt (tgt := 49) hx hb dX3_copiesOnPath_12 (by decide) (fun hc => ?_) (fun hc => ?_)
      · have h := o_pos hc h
        refine lv_iload_n hx hb dX3_copiesOnPath_49 rfl (lv_at hl 2 rfl) ?_
        exact g_iret hQ hx hb hr hP hK hD hS (Nat.le_of_ble_eq_true rfl) (Nat.le_of_ble_eq_true rfl) dX3_copiesOnPath_50 hlocks (Option.some.inj h)
      · have h := o_neg hc h
        refine lv_iload hx hb dX3_copiesOnPath_15 (lv_at hl 3 rfl) ?_
        refine lv_if_lt (tgt := 49) hx hb dX3_copiesOnPath_17 (by decide) (fun hc => ?_) (fun hc => ?_)
        · have h := o_pos hc h
          refine lv_iload_n hx hb dX3_copiesOnPath_49 rfl (lv_at hl 2 rfl) ?_
          exact g_iret hQ hx hb hr hP hK hD hS (Nat.le_of_ble_eq_true rfl) (Nat.le_of_ble_eq_true rfl) dX3_copiesOnPath_50 hlocks (Option.some.inj h)
        · have h := o_neg hc h
          refine lv_aload_n hx hb dX3_copiesOnPath_20 rfl (lv_at hl 0 rfl) ?_
          refine xgX3_2 hx hb hts iX3 hown hK hP hf9 dX3_copiesOnPath_21 ?_
          refine lv_iload hx hb dX3_copiesOnPath_24 (lv_at hl 3 rfl) ?_
          obtain ⟨v1, ev1, h⟩ := o_bind h
          refine xld9 hx hb hK hP ev1 dX3_copiesOnPath_26 ?_
          refine lv_iload_n hx hb dX3_copiesOnPath_27 rfl (lv_at hl 1 rfl) ?_
          refine lv_icmp_ne (tgt := 34) hx hb dX3_copiesOnPath_28 (by decide) (fun hc => ?_) (fun hc => ?_)
          · have h := o_neg hc h
            refine lv_aload_n hx hb dX3_copiesOnPath_34 rfl (lv_at hl 0 rfl) ?_
            refine xgX3_3 hx hb hts iX3 hown hK hP hf15 dX3_copiesOnPath_35 ?_
            refine lv_iload hx hb dX3_copiesOnPath_38 (lv_at hl 3 rfl) ?_
            obtain ⟨v2, ev2, h⟩ := o_bind h
            refine xld10 hx hb hK hP ev2 dX3_copiesOnPath_40 ?_
            refine lv_istore (lv' := [(4, .int v2), (0, .ref (ad 4)), (2, .int x2), (3, .int x3), (5, .int x5)]) hx hb dX3_copiesOnPath_41 hl (by decide) rfl (fun ls hl => ?_)
            refine lv_iinc (v := (x5 + 1)) (lv' := [(5, .int (x5 + 1)), (4, .int v2), (0, .ref (ad 4)), (2, .int x2), (3, .int x3)]) hx hb dX3_copiesOnPath_43 hl (k := 4) rfl rfl (by decide) rfl (fun ls hl => ?_)
            refine lv_goto (tgt := 8) hx hb dX3_copiesOnPath_46 (by decide) ?_
            exact ih8 x3 v2 (x5 + 1) _ _ ls hP hD hS (lv_sub hl [2, 3, 4, 1, 0] rfl) h
          · have h := o_pos hc h
            refine lv_iinc (v := (x3 + 1)) (lv' := [(3, .int (x3 + 1)), (0, .ref (ad 4)), (2, .int x2), (4, .int x4), (5, .int x5)]) hx hb dX3_copiesOnPath_31 hl (k := 2) rfl rfl (by decide) rfl (fun ls hl => ?_)
            refine lv_aload_n hx hb dX3_copiesOnPath_34 rfl (lv_at hl 1 rfl) ?_
            refine xgX3_3 hx hb hts iX3 hown hK hP hf15 dX3_copiesOnPath_35 ?_
            refine lv_iload hx hb dX3_copiesOnPath_38 (lv_at hl 3 rfl) ?_
            obtain ⟨v3, ev3, h⟩ := o_bind h
            refine xld10 hx hb hK hP ev3 dX3_copiesOnPath_40 ?_
            refine lv_istore (lv' := [(4, .int v3), (3, .int (x3 + 1)), (0, .ref (ad 4)), (2, .int x2), (5, .int x5)]) hx hb dX3_copiesOnPath_41 hl (by decide) rfl (fun ls hl => ?_)
            refine lv_iinc (v := (x5 + 1)) (lv' := [(5, .int (x5 + 1)), (4, .int v3), (3, .int (x3 + 1)), (0, .ref (ad 4)), (2, .int x2)]) hx hb dX3_copiesOnPath_43 hl (k := 4) rfl rfl (by decide) rfl (fun ls hl => ?_)
            refine lv_goto (tgt := 8) hx hb dX3_copiesOnPath_46 (by decide) ?_
            exact ih8 (x3 + 1) v3 (x5 + 1) _ _ ls hP hD hS (lv_sub hl [3, 4, 2, 1, 0] rfl) h
  exact L8  1000 0 x1 0 _ _ ls hP hD hS (lv_sub hl [3, 5, 2, 1, 0] rfl) h
set_option maxHeartbeats 4000000 in
set_option maxRecDepth 100000 in
theorem m_X3_earlyVerdict (l : Launch) (hst : l.stackTraces = false) (D : va_G) (cy : Nat → ClassId) (tx : List (ClassId × FieldType)) (ad : Nat → Nat) (R : va_W) (sz : Nat) (S : PS) (x1 : Int32) (x2 : Int32) (x3 : Int32) (v : Int32) (h : q_X3_earlyVerdict S x1 x2 x3 = some v) : gMi l yX3_earlyVerdict wsX3_earlyVerdict ({ frames := 1, cells := 0, slots := 0, locals := 25 }) 0 0 D (gT cy ++ tx) [.ref (ad 4), .int x1, .int x2, .int x3] sz (xW cy ad S R) (xW cy ad S R) v := by
  refine Met.ofW (cc := cX3_earlyVerdict) (maxL := 4) (ret := (some .int)) (by decide) rfl ?_
  intro p e s m args below meth c s₁ B hml hv
  obtain ⟨hav, hsz, hP, hK, hD0, hE⟩ := hv
  have hx := B.exec
  have hb := B.bytes
  have hr := B.returns
  have hts := atoms_spec (ws := wsX3_earlyVerdict) B.pre
  have hown : s.vm.findClass RX3 = some m.cls := findClass_of_methodNamed B.named
  have hlocks := B.notSynchronized
  subst hsz
  have hD := hD0.self (sz := s.heap.size)
  generalize hAe : va_A (xW cy ad S R) s.heap.size = A at hD hE ⊢
  have hA : ∀ q : Nat, s.heap.size ≤ q → A q := fun q h => by rw [← hAe]; exact Or.inr h
  have hS : va_S A s.heap s.heap [] := va_S.rf
  have iX1 : ∀ w ∈ u_ws RX1 TX1 3, w ∈ wsX3_earlyVerdict := by decide +kernel
  have iX3 : ∀ w ∈ u_ws RX3 TX3 13, w ∈ wsX3_earlyVerdict := by decide +kernel
  have hf21 := hts (.fieldLink RX3 21 "InlinePlanner$Tree" "depths" "[I") (by decide +kernel)
  have hf47 := hts (.fieldLink RX3 47 "InlinePlanner$Tree" "limits" "LInlinePlanner$Limits;") (by decide +kernel)
  have hf124 := hts (.fieldLink RX3 124 "InlinePlanner$Limits" "maxDepth" "I") (by decide +kernel)
  have hf132 := hts (.fieldLink RX3 132 "InlinePlanner$Limits" "maxRecursion" "I") (by decide +kernel)
  refine g_entry (n := 4) hav (Nat.le_of_ble_eq_true rfl) (fun ls hl => ?_)
  have hl : lv_has ls 4 [(0, .ref (ad 4)), (1, .int x1), (2, .int x2), (3, .int x3)] := hl
  refine g_nameQ (fun Q hQ => ?_)
  unfold q_X3_earlyVerdict at h
  refine lv_iload_n hx hb dX3_earlyVerdict_0 rfl (lv_at hl 2 rfl) ?_
  refine lv_if_ne (tgt := 6) hx hb dX3_earlyVerdict_1 (by decide) (fun hc => ?_) (fun hc => ?_)
  · have h := o_neg hc h
    refine lv_iload_n hx hb dX3_earlyVerdict_6 rfl (lv_at hl 2 rfl) ?_
    refine lv_iconst (v := 1) hx hb dX3_earlyVerdict_7 (by decide) ?_
    refine lv_icmp_le (tgt := 13) hx hb dX3_earlyVerdict_8 (by decide) (fun hc => ?_) (fun hc => ?_)
    · have h := o_pos hc h
      refine lv_aload_n hx hb dX3_earlyVerdict_13 rfl (lv_at hl 0 rfl) ?_
      refine xgX3_5 hx hb hts iX3 hown hK hP hf21 dX3_earlyVerdict_14 ?_
      refine lv_iload_n hx hb dX3_earlyVerdict_17 rfl (lv_at hl 1 rfl) ?_
      obtain ⟨v1, ev1, h⟩ := o_bind h
      refine xld12 hx hb hK hP ev1 dX3_earlyVerdict_18 ?_
      refine lv_aload_n hx hb dX3_earlyVerdict_19 rfl (lv_at hl 0 rfl) ?_
      refine xgX3_10 hx hb hts iX3 hown hK hP hf47 dX3_earlyVerdict_20 ?_
      refine xgX1_1 hx hb hts iX1 hown hK hP hf124 dX3_earlyVerdict_23 ?_
      refine lv_icmp_lt (tgt := 31) hx hb dX3_earlyVerdict_26 (by decide) (fun hc => ?_) (fun hc => ?_)
      · have h := o_pos hc h
        refine lv_aload_n hx hb dX3_earlyVerdict_31 rfl (lv_at hl 0 rfl) ?_
        refine lv_iload_n hx hb dX3_earlyVerdict_32 rfl (lv_at hl 1 rfl) ?_
        refine lv_iload_n hx hb dX3_earlyVerdict_33 rfl (lv_at hl 3 rfl) ?_
        obtain ⟨v2, ev2, h⟩ := o_bind h
        refine g_cVi (As := [.int x1, .int x3]) (rest := []) ⟨hx, hb, hml, hown, hts⟩ (m_X3_copiesOnPath l hst D cy tx ad R _ S x1 x3 v2 ev2) (cwV 2 hts gX3_earlyVerdict_X3_copiesOnPath rfl rfl rfl (by decide +kernel) ⟨Nat.le_of_ble_eq_true rfl, Nat.le_of_ble_eq_true rfl⟩) (va_recv hK hP (ci := 3) (q0 := 4) rfl rfl) hP hK hD hS hA hE rfl hl.1 rfl (Nat.le_of_ble_eq_true rfl) dX3_earlyVerdict_34 ⟨Nat.le_of_ble_eq_true rfl, Nat.le_of_ble_eq_true rfl⟩ (fun H locs hP hD hS => ?_)
        refine lv_aload_n hx hb dX3_earlyVerdict_37 rfl (lv_at hl 0 rfl) ?_
        refine xgX3_10 hx hb hts iX3 hown hK hP hf47 dX3_earlyVerdict_38 ?_
        refine xgX1_2 hx hb hts iX1 hown hK hP hf132 dX3_earlyVerdict_41 ?_
        refine lv_icmp_le (tgt := 51) hx hb dX3_earlyVerdict_44 (by decide) (fun hc => ?_) (fun hc => ?_)
        · have h := o_pos hc h
          refine lv_iconst (v := (-1)) hx hb dX3_earlyVerdict_51 (by decide) ?_
          exact g_iret hQ hx hb hr hP hK hD hS (Nat.le_of_ble_eq_true rfl) (Nat.le_of_ble_eq_true rfl) dX3_earlyVerdict_52 hlocks (Option.some.inj h)
        · have h := o_neg hc h
          refine lv_iconst (v := 4) hx hb dX3_earlyVerdict_47 (by decide) ?_
          refine lv_goto (tgt := 52) hx hb dX3_earlyVerdict_48 (by decide) ?_
          exact g_iret hQ hx hb hr hP hK hD hS (Nat.le_of_ble_eq_true rfl) (Nat.le_of_ble_eq_true rfl) dX3_earlyVerdict_52 hlocks (Option.some.inj h)
      · have h := o_neg hc h
        refine lv_iconst (v := 3) hx hb dX3_earlyVerdict_29 (by decide) ?_
        exact g_iret hQ hx hb hr hP hK hD hS (Nat.le_of_ble_eq_true rfl) (Nat.le_of_ble_eq_true rfl) dX3_earlyVerdict_30 hlocks (Option.some.inj h)
    · have h := o_neg hc h
      refine lv_iconst (v := 2) hx hb dX3_earlyVerdict_11 (by decide) ?_
      exact g_iret hQ hx hb hr hP hK hD hS (Nat.le_of_ble_eq_true rfl) (Nat.le_of_ble_eq_true rfl) dX3_earlyVerdict_12 hlocks (Option.some.inj h)
  · have h := o_pos hc h
    refine lv_iconst (v := 1) hx hb dX3_earlyVerdict_4 (by decide) ?_
    exact g_iret hQ hx hb hr hP hK hD hS (Nat.le_of_ble_eq_true rfl) (Nat.le_of_ble_eq_true rfl) dX3_earlyVerdict_5 hlocks (Option.some.inj h)
set_option maxHeartbeats 4000000 in
set_option maxRecDepth 100000 in
theorem m_X3_lateVerdict (l : Launch) (hst : l.stackTraces = false) (D : va_G) (cy : Nat → ClassId) (tx : List (ClassId × FieldType)) (ad : Nat → Nat) (R : va_W) (sz : Nat) (S : PS) (x1 : Int32) (v : Int32) (h : q_X3_lateVerdict S x1 = some v) : gMi l yX3_lateVerdict wsX3_lateVerdict ({ frames := 0, cells := 0, slots := 0, locals := 0 }) 0 0 D (gT cy ++ tx) [.ref (ad 4), .int x1] sz (xW cy ad S R) (xW cy ad S R) v := by
  refine Met.ofW (cc := cX3_lateVerdict) (maxL := 2) (ret := (some .int)) (by decide) rfl ?_
  intro p e s m args below meth c s₁ B hml hv
  obtain ⟨hav, hsz, hP, hK, hD0, hE⟩ := hv
  have hx := B.exec
  have hb := B.bytes
  have hr := B.returns
  have hts := atoms_spec (ws := wsX3_lateVerdict) B.pre
  have hown : s.vm.findClass RX3 = some m.cls := findClass_of_methodNamed B.named
  have hlocks := B.notSynchronized
  subst hsz
  have hD := hD0.self (sz := s.heap.size)
  generalize hAe : va_A (xW cy ad S R) s.heap.size = A at hD hE ⊢
  have hA : ∀ q : Nat, s.heap.size ≤ q → A q := fun q h => by rw [← hAe]; exact Or.inr h
  have hS : va_S A s.heap s.heap [] := va_S.rf
  have iX1 : ∀ w ∈ u_ws RX1 TX1 3, w ∈ wsX3_lateVerdict := by decide +kernel
  have iX3 : ∀ w ∈ u_ws RX3 TX3 13, w ∈ wsX3_lateVerdict := by decide +kernel
  have hf47 := hts (.fieldLink RX3 47 "InlinePlanner$Tree" "limits" "LInlinePlanner$Limits;") (by decide +kernel)
  have hf51 := hts (.fieldLink RX3 51 "InlinePlanner$Tree" "count" "I") (by decide +kernel)
  have hf55 := hts (.fieldLink RX3 55 "InlinePlanner$Tree" "totalSize" "I") (by decide +kernel)
  have hf135 := hts (.fieldLink RX3 135 "InlinePlanner$Limits" "budget" "I") (by decide +kernel)
  refine g_entry (n := 2) hav (Nat.le_of_ble_eq_true rfl) (fun ls hl => ?_)
  have hl : lv_has ls 2 [(0, .ref (ad 4)), (1, .int x1)] := hl
  refine g_nameQ (fun Q hQ => ?_)
  unfold q_X3_lateVerdict at h
  refine lv_aload_n hx hb dX3_lateVerdict_0 rfl (lv_at hl 0 rfl) ?_
  refine xgX3_1 hx hb hts iX3 hown hK hP hf55 dX3_lateVerdict_1 ?_
  refine lv_iload_n hx hb dX3_lateVerdict_4 rfl (lv_at hl 1 rfl) ?_
  refine lv_iadd hx hb dX3_lateVerdict_5 ?_
  refine lv_aload_n hx hb dX3_lateVerdict_6 rfl (lv_at hl 0 rfl) ?_
  refine xgX3_10 hx hb hts iX3 hown hK hP hf47 dX3_lateVerdict_7 ?_
  refine xgX1_0 hx hb hts iX1 hown hK hP hf135 dX3_lateVerdict_10 ?_
  refine lv_icmp_le (tgt := 18) hx hb dX3_lateVerdict_13 (by decide) (fun hc => ?_) (fun hc => ?_)
  · have h := o_pos hc h
    refine lv_aload_n hx hb dX3_lateVerdict_18 rfl (lv_at hl 0 rfl) ?_
    refine xgX3_0 hx hb hts iX3 hown hK hP hf51 dX3_lateVerdict_19 ?_
    refine lv_bipush (v := 50) hx hb dX3_lateVerdict_22 (by decide) ?_
    refine lv_icmp_lt (tgt := 32) hx hb dX3_lateVerdict_24 (by decide) (fun hc => ?_) (fun hc => ?_)
    · have h := o_pos hc h
      refine lv_iconst (v := 0) hx hb dX3_lateVerdict_32 (by decide) ?_
      exact g_iret hQ hx hb hr hP hK hD hS (Nat.le_of_ble_eq_true rfl) (Nat.le_of_ble_eq_true rfl) dX3_lateVerdict_33 hlocks (Option.some.inj h)
    · have h := o_neg hc h
      refine lv_bipush (v := 6) hx hb dX3_lateVerdict_27 (by decide) ?_
      refine lv_goto (tgt := 33) hx hb dX3_lateVerdict_29 (by decide) ?_
      exact g_iret hQ hx hb hr hP hK hD hS (Nat.le_of_ble_eq_true rfl) (Nat.le_of_ble_eq_true rfl) dX3_lateVerdict_33 hlocks (Option.some.inj h)
  · have h := o_neg hc h
    refine lv_iconst (v := 5) hx hb dX3_lateVerdict_16 (by decide) ?_
    exact g_iret hQ hx hb hr hP hK hD hS (Nat.le_of_ble_eq_true rfl) (Nat.le_of_ble_eq_true rfl) dX3_lateVerdict_17 hlocks (Option.some.inj h)
set_option maxHeartbeats 4000000 in
set_option maxRecDepth 100000 in
theorem m_X3_merit (l : Launch) (hst : l.stackTraces = false) (D : va_G) (tys : List (ClassId × FieldType)) (Wd : va_W) (sz : Nat) (x0 : Int32) (x1 : Int32) (v : Int32) (h : q_X3_merit x0 x1 = some v) : gMi l yX3_merit wsX3_merit ({ frames := 0, cells := 0, slots := 0, locals := 0 }) 0 0 D tys [.int x0, .int x1] sz Wd Wd v := by
  refine Met.ofW (cc := cX3_merit) (maxL := 2) (ret := (some .int)) (by decide) rfl ?_
  intro p e s m args below meth c s₁ B hml hv
  obtain ⟨hav, hsz, hP, hK, hD0, hE⟩ := hv
  have hx := B.exec
  have hb := B.bytes
  have hr := B.returns
  have hts := atoms_spec (ws := wsX3_merit) B.pre
  have hown : s.vm.findClass RX3 = some m.cls := findClass_of_methodNamed B.named
  have hlocks := B.notSynchronized
  subst hsz
  have hD := hD0.self (sz := s.heap.size)
  generalize hAe : va_A Wd s.heap.size = A at hD hE ⊢
  have hA : ∀ q : Nat, s.heap.size ≤ q → A q := fun q h => by rw [← hAe]; exact Or.inr h
  have hS : va_S A s.heap s.heap [] := va_S.rf
  refine g_entry (n := 2) hav (Nat.le_of_ble_eq_true rfl) (fun ls hl => ?_)
  have hl : lv_has ls 2 [(0, .int x0), (1, .int x1)] := hl
  refine g_nameQ (fun Q hQ => ?_)
  unfold q_X3_merit at h
  refine lv_iload_n hx hb dX3_merit_0 rfl (lv_at hl 1 rfl) ?_
  refine lv_iconst (v := 1) hx hb dX3_merit_1 (by decide) ?_
  refine lv_icmp_ge (tgt := 9) hx hb dX3_merit_2 (by decide) (fun hc => ?_) (fun hc => ?_)
  · have h := o_pos hc h
    refine lv_sipush (v := 1000) hx hb dX3_merit_9 (by decide) ?_
    refine lv_iload_n hx hb dX3_merit_12 rfl (lv_at hl 0 rfl) ?_
    refine lv_imul hx hb dX3_merit_13 ?_
    refine lv_iload_n hx hb dX3_merit_14 rfl (lv_at hl 1 rfl) ?_
    obtain ⟨_, hu1, h⟩ := o_bind h
    refine lv_idiv hx hb dX3_merit_15 (nz_spec hu1) ?_
    exact g_iret hQ hx hb hr hP hK hD hS (Nat.le_of_ble_eq_true rfl) (Nat.le_of_ble_eq_true rfl) dX3_merit_16 hlocks (Option.some.inj h)
  · have h := o_neg hc h
    refine lv_iconst (v := 0) hx hb dX3_merit_5 (by decide) ?_
    refine lv_goto (tgt := 16) hx hb dX3_merit_6 (by decide) ?_
    exact g_iret hQ hx hb hr hP hK hD hS (Nat.le_of_ble_eq_true rfl) (Nat.le_of_ble_eq_true rfl) dX3_merit_16 hlocks (Option.some.inj h)
set_option maxHeartbeats 4000000 in
set_option maxRecDepth 100000 in
theorem m_X3_lookAtSite (l : Launch) (hst : l.stackTraces = false) (D : va_G) (cy : Nat → ClassId) (tx : List (ClassId × FieldType)) (ad : Nat → Nat) (R : va_W) (sz : Nat) (S : PS) (x1 : Int32) (x2 : Int32) (x3 : Int32) (S' : PS) (h : q_X3_lookAtSite S x1 x2 x3 = some S') : gMv l yX3_lookAtSite wsX3_lookAtSite ({ frames := 3, cells := 0, slots := 0, locals := 73 }) 0 0 D (gT cy ++ tx) [.ref (ad 4), .int x1, .int x2, .int x3] sz (xW cy ad S R) (xW cy ad S' R) := by
  refine Met.ofW (cc := cX3_lookAtSite) (maxL := 6) (ret := none) (by decide) rfl ?_
  intro p e s m args below meth c s₁ B hml hv
  obtain ⟨hav, hsz, hP, hK, hD0, hE⟩ := hv
  have hx := B.exec
  have hb := B.bytes
  have hr := B.returns
  have hts := atoms_spec (ws := wsX3_lookAtSite) B.pre
  have hown : s.vm.findClass RX3 = some m.cls := findClass_of_methodNamed B.named
  have hlocks := B.notSynchronized
  subst hsz
  have hD := hD0.self (sz := s.heap.size)
  generalize hAe : va_A (xW cy ad S R) s.heap.size = A at hD hE ⊢
  have hA : ∀ q : Nat, s.heap.size ≤ q → A q := fun q h => by rw [← hAe]; exact Or.inr h
  have hS : va_S A s.heap s.heap [] := va_S.rf
  have iX2 : ∀ w ∈ u_ws RX2 TX2 8, w ∈ wsX3_lookAtSite := by decide +kernel
  have iX3 : ∀ w ∈ u_ws RX3 TX3 13, w ∈ wsX3_lookAtSite := by decide +kernel
  have hf9 := hts (.fieldLink RX3 9 "InlinePlanner$Tree" "methods" "[I") (by decide +kernel)
  have hf24 := hts (.fieldLink RX3 24 "InlinePlanner$Tree" "verdicts" "[I") (by decide +kernel)
  have hf27 := hts (.fieldLink RX3 27 "InlinePlanner$Tree" "weights" "[I") (by decide +kernel)
  have hf30 := hts (.fieldLink RX3 30 "InlinePlanner$Tree" "targets" "[I") (by decide +kernel)
  have hf36 := hts (.fieldLink RX3 36 "InlinePlanner$Tree" "waiting" "LInlinePlanner$Waiting;") (by decide +kernel)
  have hf43 := hts (.fieldLink RX3 43 "InlinePlanner$Tree" "program" "LInlinePlanner$Program;") (by decide +kernel)
  have hf75 := hts (.fieldLink RX3 75 "InlinePlanner$Program" "sizes" "[I") (by decide +kernel)
  have hf97 := hts (.fieldLink RX3 97 "InlinePlanner$Program" "frequencies" "[I") (by decide +kernel)
  refine g_entry (n := 6) hav (Nat.le_of_ble_eq_true rfl) (fun ls hl => ?_)
  have hl : lv_has ls 6 [(0, .ref (ad 4)), (1, .int x1), (2, .int x2), (3, .int x3)] := hl
  refine g_nameQ (fun Q hQ => ?_)
  unfold q_X3_lookAtSite at h
  refine lv_iload_n hx hb dX3_lookAtSite_0 rfl (lv_at hl 1 rfl) ?_
  refine lv_iload_n hx hb dX3_lookAtSite_1 rfl (lv_at hl 2 rfl) ?_
  obtain ⟨v1, ev1, h⟩ := o_bind h
  refine g_cNi (As := [.int x1, .int x2]) (rest := []) ⟨hx, hb, hml, hown, hts⟩ (m_X5_slot l hst D (gT cy ++ tx) (xW cy ad S R) _ x1 x2 v1 ev1) ⟨va_cnB 2 hts gX3_lookAtSite_X5_slot_n89 rfl rfl rfl (hE.2.2.2.1 (.methodLinkNest RX3 89 yX5_slot RX5) (by decide +kernel)) (hts (.initialized RX5) (by decide +kernel)) (by decide +kernel) ⟨Nat.le_of_ble_eq_true rfl, Nat.le_of_ble_eq_true rfl⟩, hts (.static yX5_slot) (by decide +kernel), trivial⟩ hP hK hD hS hA hE rfl hl.1 rfl (Nat.le_of_ble_eq_true rfl) dX3_lookAtSite_2 ⟨Nat.le_of_ble_eq_true rfl, Nat.le_of_ble_eq_true rfl⟩ (fun H locs hP hD hS => ?_)
  refine lv_istore (lv' := [(4, .int v1), (0, .ref (ad 4)), (1, .int x1), (2, .int x2), (3, .int x3)]) hx hb dX3_lookAtSite_5 hl (by decide) rfl (fun ls hl => ?_)
  refine lv_aload_n hx hb dX3_lookAtSite_7 rfl (lv_at hl 1 rfl) ?_
  refine xgX3_9 hx hb hts iX3 hown hK hP hf43 dX3_lookAtSite_8 ?_
  refine lv_aload_n hx hb dX3_lookAtSite_11 rfl (lv_at hl 1 rfl) ?_
  refine xgX3_2 hx hb hts iX3 hown hK hP hf9 dX3_lookAtSite_12 ?_
  refine lv_iload_n hx hb dX3_lookAtSite_15 rfl (lv_at hl 2 rfl) ?_
  obtain ⟨v2, ev2, h⟩ := o_bind h
  refine xld9 hx hb hK hP ev2 dX3_lookAtSite_16 ?_
  refine lv_iload_n hx hb dX3_lookAtSite_17 rfl (lv_at hl 3 rfl) ?_
  obtain ⟨v3, ev3, h⟩ := o_bind h
  refine g_cVi (As := [.int v2, .int x2]) (rest := []) ⟨hx, hb, hml, hown, hts⟩ (m_X2_targetsOfSite l hst D cy tx ad R _ S v2 x2 v3 ev3) (cwV 2 hts gX3_lookAtSite_X2_targetsOfSite rfl rfl rfl (by decide +kernel) ⟨Nat.le_of_ble_eq_true rfl, Nat.le_of_ble_eq_true rfl⟩) (va_recv hK hP (ci := 2) (q0 := 2) rfl rfl) hP hK hD hS hA hE rfl hl.1 rfl (Nat.le_of_ble_eq_true rfl) dX3_lookAtSite_18 ⟨Nat.le_of_ble_eq_true rfl, Nat.le_of_ble_eq_true rfl⟩ (fun H locs hP hD hS => ?_)
  refine lv_istore (lv' := [(5, .int v3), (4, .int v1), (0, .ref (ad 4)), (1, .int x1), (2, .int x2), (3, .int x3)]) hx hb dX3_lookAtSite_21 hl (by decide) rfl (fun ls hl => ?_)
  refine lv_aload_n hx hb dX3_lookAtSite_23 rfl (lv_at hl 2 rfl) ?_
  refine xgX3_7 hx hb hts iX3 hown hK hP hf27 dX3_lookAtSite_24 ?_
  refine lv_iload hx hb dX3_lookAtSite_27 (lv_at hl 1 rfl) ?_
  refine lv_ldc (v := 1000000) hx hb hown (hts (.constant RX3 96 (1000000)) (by decide +kernel)) dX3_lookAtSite_29 ?_
  refine lv_iload_n hx hb dX3_lookAtSite_31 rfl (lv_at hl 5 rfl) ?_
  refine lv_aload_n hx hb dX3_lookAtSite_32 rfl (lv_at hl 2 rfl) ?_
  refine xgX3_9 hx hb hts iX3 hown hK hP hf43 dX3_lookAtSite_33 ?_
  refine xgX2_3 hx hb hts iX2 hown hK hP hf97 dX3_lookAtSite_36 ?_
  refine lv_aload_n hx hb dX3_lookAtSite_39 rfl (lv_at hl 2 rfl) ?_
  refine xgX3_2 hx hb hts iX3 hown hK hP hf9 dX3_lookAtSite_40 ?_
  refine lv_iload_n hx hb dX3_lookAtSite_43 rfl (lv_at hl 3 rfl) ?_
  obtain ⟨v4, ev4, h⟩ := o_bind h
  refine xld9 hx hb hK hP ev4 dX3_lookAtSite_44 ?_
  refine lv_iload_n hx hb dX3_lookAtSite_45 rfl (lv_at hl 4 rfl) ?_
  obtain ⟨v5, ev5, h⟩ := o_bind h
  refine g_cNi (As := [.int v4, .int x2]) (rest := [.ref (ad 11), .int x3, .int 1000000, .int v1, .ref (ad 20)]) ⟨hx, hb, hml, hown, hts⟩ (m_X5_slot l hst D (gT cy ++ tx) (xW cy ad S R) _ v4 x2 v5 ev5) ⟨va_cnB 2 hts gX3_lookAtSite_X5_slot_n89 rfl rfl rfl (hE.2.2.2.1 (.methodLinkNest RX3 89 yX5_slot RX5) (by decide +kernel)) (hts (.initialized RX5) (by decide +kernel)) (by decide +kernel) ⟨Nat.le_of_ble_eq_true rfl, Nat.le_of_ble_eq_true rfl⟩, hts (.static yX5_slot) (by decide +kernel), trivial⟩ hP hK hD hS hA hE rfl hl.1 rfl (Nat.le_of_ble_eq_true rfl) dX3_lookAtSite_46 ⟨Nat.le_of_ble_eq_true rfl, Nat.le_of_ble_eq_true rfl⟩ (fun H locs hP hD hS => ?_)
  obtain ⟨v6, ev6, h⟩ := o_bind h
  refine xld5 hx hb hK hP ev6 dX3_lookAtSite_49 ?_
  refine lv_imul hx hb dX3_lookAtSite_50 ?_
  refine va_mmin hx hb (by rw [hml]; exact hl.1.symm) hown (hts (.methodLink RX3 100 Lib.Math.min.name) (by decide +kernel)) (hts (.static Lib.Math.min.name) (by decide +kernel)) (hts (.initialized "java/lang/Math") (by decide +kernel)) (hts (.code Lib.Math.min.name Lib.Math.min.code 2 (some .int)) (by decide +kernel)) (Nat.le_of_ble_eq_true rfl) (Nat.le_of_ble_eq_true rfl) (Nat.le_of_ble_eq_true rfl) (Nat.le_of_ble_eq_true rfl) dX3_lookAtSite_51 ?_
  obtain ⟨S7, eS7, h⟩ := o_bind h
  refine xst14 hx hb hK hP hD hS eS7 dX3_lookAtSite_54 (fun H locs hP hD hS => ?_)
  refine lv_aload_n hx hb dX3_lookAtSite_55 rfl (lv_at hl 2 rfl) ?_
  refine xgX3_8 hx hb hts iX3 hown hK hP hf30 dX3_lookAtSite_56 ?_
  refine lv_iload hx hb dX3_lookAtSite_59 (lv_at hl 1 rfl) ?_
  refine lv_aload_n hx hb dX3_lookAtSite_61 rfl (lv_at hl 2 rfl) ?_
  refine xgX3_9 hx hb hts iX3 hown hK hP hf43 dX3_lookAtSite_62 ?_
  refine lv_iload hx hb dX3_lookAtSite_65 (lv_at hl 0 rfl) ?_
  refine lv_iconst (v := 0) hx hb dX3_lookAtSite_67 (by decide) ?_
  obtain ⟨v8, ev8, h⟩ := o_bind h
  refine g_cVi (As := [.int v3, .int 0]) (rest := [.int v1, .ref (ad 21)]) ⟨hx, hb, hml, hown, hts⟩ (m_X2_member l hst D cy tx ad R _ S7 v3 0 v8 ev8) (cwV 2 hts gX3_lookAtSite_X2_member rfl rfl rfl (by decide +kernel) ⟨Nat.le_of_ble_eq_true rfl, Nat.le_of_ble_eq_true rfl⟩) (va_recv hK hP (ci := 2) (q0 := 2) rfl rfl) hP hK hD hS hA hE rfl hl.1 rfl (Nat.le_of_ble_eq_true rfl) dX3_lookAtSite_68 ⟨Nat.le_of_ble_eq_true rfl, Nat.le_of_ble_eq_true rfl⟩ (fun H locs hP hD hS => ?_)
  obtain ⟨S9, eS9, h⟩ := o_bind h
  refine xst15 hx hb hK hP hD hS eS9 dX3_lookAtSite_71 (fun H locs hP hD hS => ?_)
  refine lv_aload_n hx hb dX3_lookAtSite_72 rfl (lv_at hl 2 rfl) ?_
  refine xgX3_6 hx hb hts iX3 hown hK hP hf24 dX3_lookAtSite_73 ?_
  refine lv_iload hx hb dX3_lookAtSite_76 (lv_at hl 1 rfl) ?_
  refine lv_aload_n hx hb dX3_lookAtSite_78 rfl (lv_at hl 2 rfl) ?_
  refine lv_iload_n hx hb dX3_lookAtSite_79 rfl (lv_at hl 3 rfl) ?_
  refine lv_iload hx hb dX3_lookAtSite_80 (lv_at hl 0 rfl) ?_
  obtain ⟨v10, ev10, h⟩ := o_bind h
  refine g_cSi (As := [.int v3]) (rest := [.int x1, .ref (ad 4), .int v1, .ref (ad 19)]) ⟨hx, hb, hml, hown, hts⟩ (m_J6_bitCount_0f7a4 l hst D (gT cy ++ tx) (xW cy ad S9 R) _ v3 v10 ev10) (va_cwS 1 hts gX3_lookAtSite_J6_bitCount_0f7a4 rfl rfl rfl (by decide +kernel) ⟨Nat.le_of_ble_eq_true rfl, Nat.le_of_ble_eq_true rfl⟩) hP hK hD hS hA hE rfl hl.1 rfl (Nat.le_of_ble_eq_true rfl) dX3_lookAtSite_82 ⟨Nat.le_of_ble_eq_true rfl, Nat.le_of_ble_eq_true rfl⟩ (fun H locs hP hD hS => ?_)
  refine lv_aload_n hx hb dX3_lookAtSite_85 rfl (lv_at hl 2 rfl) ?_
  refine xgX3_8 hx hb hts iX3 hown hK hP hf30 dX3_lookAtSite_86 ?_
  refine lv_iload hx hb dX3_lookAtSite_89 (lv_at hl 1 rfl) ?_
  obtain ⟨v11, ev11, h⟩ := o_bind h
  refine xld15 hx hb hK hP ev11 dX3_lookAtSite_91 ?_
  obtain ⟨v12, ev12, h⟩ := o_bind h
  refine g_cVi (As := [.int x1, .int v10, .int v11]) (rest := [.int v1, .ref (ad 19)]) ⟨hx, hb, hml, hown, hts⟩ (m_X3_earlyVerdict l hst D cy tx ad R _ S9 x1 v10 v11 v12 ev12) (cwV 3 hts gX3_lookAtSite_X3_earlyVerdict rfl rfl rfl (by decide +kernel) ⟨Nat.le_of_ble_eq_true rfl, Nat.le_of_ble_eq_true rfl⟩) (va_recv hK hP (ci := 3) (q0 := 4) rfl rfl) hP hK hD hS hA hE rfl hl.1 rfl (Nat.le_of_ble_eq_true rfl) dX3_lookAtSite_92 ⟨Nat.le_of_ble_eq_true rfl, Nat.le_of_ble_eq_true rfl⟩ (fun H locs hP hD hS => ?_)
  obtain ⟨S13, eS13, h⟩ := o_bind h
  refine xst13 hx hb hK hP hD hS eS13 dX3_lookAtSite_95 (fun H locs hP hD hS => ?_)
  refine lv_aload_n hx hb dX3_lookAtSite_96 rfl (lv_at hl 2 rfl) ?_
  refine xgX3_6 hx hb hts iX3 hown hK hP hf24 dX3_lookAtSite_97 ?_
  refine lv_iload hx hb dX3_lookAtSite_100 (lv_at hl 1 rfl) ?_
  obtain ⟨v14, ev14, h⟩ := o_bind h
  refine xld13 hx hb hK hP ev14 dX3_lookAtSite_102 ?_
  refine lv_iconst (v := (-1)) hx hb dX3_lookAtSite_103 (by decide) ?_
  refine lv_icmp_ne (tgt := 141) hx hb dX3_lookAtSite_104 (by decide) (fun hc => ?_) (fun hc => ?_)
  · have h := o_neg hc h
    have eS := Option.some.inj h
    subst eS
    exact g_vret hQ hx hb hr hP hK hD hS (Nat.le_of_ble_eq_true rfl) (Nat.le_of_ble_eq_true rfl) dX3_lookAtSite_141 hlocks
  · have h := o_pos hc h
    refine lv_aload_n hx hb dX3_lookAtSite_107 rfl (lv_at hl 2 rfl) ?_
    refine xgX3_11 hx hb hts iX3 hown hK hP hf36 dX3_lookAtSite_108 ?_
    refine lv_iload hx hb dX3_lookAtSite_111 (lv_at hl 1 rfl) ?_
    refine lv_aload_n hx hb dX3_lookAtSite_113 rfl (lv_at hl 2 rfl) ?_
    refine xgX3_7 hx hb hts iX3 hown hK hP hf27 dX3_lookAtSite_114 ?_
    refine lv_iload hx hb dX3_lookAtSite_117 (lv_at hl 1 rfl) ?_
    obtain ⟨v15, ev15, h⟩ := o_bind h
    refine xld14 hx hb hK hP ev15 dX3_lookAtSite_119 ?_
    refine lv_aload_n hx hb dX3_lookAtSite_120 rfl (lv_at hl 2 rfl) ?_
    refine xgX3_9 hx hb hts iX3 hown hK hP hf43 dX3_lookAtSite_121 ?_
    refine xgX2_1 hx hb hts iX2 hown hK hP hf75 dX3_lookAtSite_124 ?_
    refine lv_aload_n hx hb dX3_lookAtSite_127 rfl (lv_at hl 2 rfl) ?_
    refine xgX3_8 hx hb hts iX3 hown hK hP hf30 dX3_lookAtSite_128 ?_
    refine lv_iload hx hb dX3_lookAtSite_131 (lv_at hl 1 rfl) ?_
    obtain ⟨v16, ev16, h⟩ := o_bind h
    refine xld15 hx hb hK hP ev16 dX3_lookAtSite_133 ?_
    obtain ⟨v17, ev17, h⟩ := o_bind h
    refine xld3 hx hb hK hP ev17 dX3_lookAtSite_134 ?_
    obtain ⟨v18, ev18, h⟩ := o_bind h
    refine g_cSi (As := [.int v15, .int v17]) (rest := [.int v1, .ref (ad 5)]) ⟨hx, hb, hml, hown, hts⟩ (m_X3_merit l hst D (gT cy ++ tx) (xW cy ad S13 R) _ v15 v17 v18 ev18) (va_cwS 2 hts gX3_lookAtSite_X3_merit rfl rfl rfl (by decide +kernel) ⟨Nat.le_of_ble_eq_true rfl, Nat.le_of_ble_eq_true rfl⟩) hP hK hD hS hA hE rfl hl.1 rfl (Nat.le_of_ble_eq_true rfl) dX3_lookAtSite_135 ⟨Nat.le_of_ble_eq_true rfl, Nat.le_of_ble_eq_true rfl⟩ (fun H locs hP hD hS => ?_)
    obtain ⟨S20, ev19, h⟩ := o_bind h
    refine g_cVv (As := [.int v1, .int v18]) (rest := []) ⟨hx, hb, hml, hown, hts⟩ (m_X4_insert l hst D cy tx ad R _ S13 v1 v18 S20 ev19) (cwV 2 hts gX3_lookAtSite_X4_insert rfl rfl rfl (by decide +kernel) ⟨Nat.le_of_ble_eq_true rfl, Nat.le_of_ble_eq_true rfl⟩) (va_recv hK hP (ci := 4) (q0 := 5) rfl rfl) hP hK hD hS hA hE rfl hl.1 rfl (Nat.le_of_ble_eq_true rfl) dX3_lookAtSite_138 ⟨Nat.le_of_ble_eq_true rfl, Nat.le_of_ble_eq_true rfl⟩ (fun H locs hP hD hS => ?_)
    have eS := Option.some.inj h
    subst eS
    exact g_vret hQ hx hb hr hP hK hD hS (Nat.le_of_ble_eq_true rfl) (Nat.le_of_ble_eq_true rfl) dX3_lookAtSite_141 hlocks
set_option maxHeartbeats 4000000 in
set_option maxRecDepth 100000 in
theorem m_X3_appendNode (l : Launch) (hst : l.stackTraces = false) (D : va_G) (cy : Nat → ClassId) (tx : List (ClassId × FieldType)) (ad : Nat → Nat) (R : va_W) (sz : Nat) (S : PS) (x1 : Int32) (x2 : Int32) (x3 : Int32) (x4 : Int32) (x5 : Int32) (S' : PS) (h : q_X3_appendNode S x1 x2 x3 x4 x5 = some S') : gMv l yX3_appendNode wsX3_appendNode ({ frames := 4, cells := 0, slots := 0, locals := 98 }) 0 0 D (gT cy ++ tx) [.ref (ad 4), .int x1, .int x2, .int x3, .int x4, .int x5] sz (xW cy ad S R) (xW cy ad S' R) := by
  refine Met.ofW (cc := cX3_appendNode) (maxL := 8) (ret := none) (by decide) rfl ?_
  intro p e s m args below meth c s₁ B hml hv
  obtain ⟨hav, hsz, hP, hK, hD0, hE⟩ := hv
  have hx := B.exec
  have hb := B.bytes
  have hr := B.returns
  have hts := atoms_spec (ws := wsX3_appendNode) B.pre
  have hown : s.vm.findClass RX3 = some m.cls := findClass_of_methodNamed B.named
  have hlocks := B.notSynchronized
  subst hsz
  have hD := hD0.self (sz := s.heap.size)
  generalize hAe : va_A (xW cy ad S R) s.heap.size = A at hD hE ⊢
  have hA : ∀ q : Nat, s.heap.size ≤ q → A q := fun q h => by rw [← hAe]; exact Or.inr h
  have hS : va_S A s.heap s.heap [] := va_S.rf
  have iX2 : ∀ w ∈ u_ws RX2 TX2 8, w ∈ wsX3_appendNode := by decide +kernel
  have iX3 : ∀ w ∈ u_ws RX3 TX3 13, w ∈ wsX3_appendNode := by decide +kernel
  have hf9 := hts (.fieldLink RX3 9 "InlinePlanner$Tree" "methods" "[I") (by decide +kernel)
  have hf15 := hts (.fieldLink RX3 15 "InlinePlanner$Tree" "parents" "[I") (by decide +kernel)
  have hf18 := hts (.fieldLink RX3 18 "InlinePlanner$Tree" "origins" "[I") (by decide +kernel)
  have hf21 := hts (.fieldLink RX3 21 "InlinePlanner$Tree" "depths" "[I") (by decide +kernel)
  have hf43 := hts (.fieldLink RX3 43 "InlinePlanner$Tree" "program" "LInlinePlanner$Program;") (by decide +kernel)
  have hf51 := hts (.fieldLink RX3 51 "InlinePlanner$Tree" "count" "I") (by decide +kernel)
  have hf55 := hts (.fieldLink RX3 55 "InlinePlanner$Tree" "totalSize" "I") (by decide +kernel)
  have hf75 := hts (.fieldLink RX3 75 "InlinePlanner$Program" "sizes" "[I") (by decide +kernel)
  refine g_entry (n := 8) hav (Nat.le_of_ble_eq_true rfl) (fun ls hl => ?_)
  have hl : lv_has ls 8 [(0, .ref (ad 4)), (1, .int x1), (2, .int x2), (3, .int x3), (4, .int x4), (5, .int x5)] := hl
  refine g_nameQ (fun Q hQ => ?_)
  unfold q_X3_appendNode at h
  refine lv_aload_n hx hb dX3_appendNode_0 rfl (lv_at hl 0 rfl) ?_
  refine xgX3_0 hx hb hts iX3 hown hK hP hf51 dX3_appendNode_1 ?_
  refine lv_istore (lv' := [(6, .int (S.1 5)), (0, .ref (ad 4)), (1, .int x1), (2, .int x2), (3, .int x3), (4, .int x4), (5, .int x5)]) hx hb dX3_appendNode_4 hl (by decide) rfl (fun ls hl => ?_)
  refine lv_aload_n hx hb dX3_appendNode_6 rfl (lv_at hl 1 rfl) ?_
  refine xgX3_2 hx hb hts iX3 hown hK hP hf9 dX3_appendNode_7 ?_
  refine lv_iload hx hb dX3_appendNode_10 (lv_at hl 0 rfl) ?_
  refine lv_iload_n hx hb dX3_appendNode_12 rfl (lv_at hl 2 rfl) ?_
  obtain ⟨S1, eS1, h⟩ := o_bind h
  refine xst9 hx hb hK hP hD hS eS1 dX3_appendNode_13 (fun H locs hP hD hS => ?_)
  refine lv_aload_n hx hb dX3_appendNode_14 rfl (lv_at hl 1 rfl) ?_
  refine xgX3_3 hx hb hts iX3 hown hK hP hf15 dX3_appendNode_15 ?_
  refine lv_iload hx hb dX3_appendNode_18 (lv_at hl 0 rfl) ?_
  refine lv_iload_n hx hb dX3_appendNode_20 rfl (lv_at hl 3 rfl) ?_
  obtain ⟨S2, eS2, h⟩ := o_bind h
  refine xst10 hx hb hK hP hD hS eS2 dX3_appendNode_21 (fun H locs hP hD hS => ?_)
  refine lv_aload_n hx hb dX3_appendNode_22 rfl (lv_at hl 1 rfl) ?_
  refine xgX3_4 hx hb hts iX3 hown hK hP hf18 dX3_appendNode_23 ?_
  refine lv_iload hx hb dX3_appendNode_26 (lv_at hl 0 rfl) ?_
  refine lv_iload_n hx hb dX3_appendNode_28 rfl (lv_at hl 4 rfl) ?_
  obtain ⟨S3, eS3, h⟩ := o_bind h
  refine xst11 hx hb hK hP hD hS eS3 dX3_appendNode_29 (fun H locs hP hD hS => ?_)
  refine lv_aload_n hx hb dX3_appendNode_30 rfl (lv_at hl 1 rfl) ?_
  refine xgX3_5 hx hb hts iX3 hown hK hP hf21 dX3_appendNode_31 ?_
  refine lv_iload hx hb dX3_appendNode_34 (lv_at hl 0 rfl) ?_
  refine lv_iload hx hb dX3_appendNode_36 (lv_at hl 5 rfl) ?_
  obtain ⟨S4, eS4, h⟩ := o_bind h
  refine xst12 hx hb hK hP hD hS eS4 dX3_appendNode_38 (fun H locs hP hD hS => ?_)
  refine lv_aload_n hx hb dX3_appendNode_39 rfl (lv_at hl 1 rfl) ?_
  refine lv_dup hx hb dX3_appendNode_40 rfl ?_
  refine xgX3_0 hx hb hts iX3 hown hK hP hf51 dX3_appendNode_41 ?_
  refine lv_iconst (v := 1) hx hb dX3_appendNode_44 (by decide) ?_
  refine lv_iadd hx hb dX3_appendNode_45 ?_
  obtain ⟨S5, eS5, h⟩ := o_bind h
  refine xpX3_0 hx hb hts iX3 hown hK hP hD hS hf51 eS5 dX3_appendNode_46 (fun H locs hP hD hS => ?_)
  refine lv_aload_n hx hb dX3_appendNode_49 rfl (lv_at hl 1 rfl) ?_
  refine lv_dup hx hb dX3_appendNode_50 rfl ?_
  refine xgX3_1 hx hb hts iX3 hown hK hP hf55 dX3_appendNode_51 ?_
  refine lv_aload_n hx hb dX3_appendNode_54 rfl (lv_at hl 1 rfl) ?_
  refine xgX3_9 hx hb hts iX3 hown hK hP hf43 dX3_appendNode_55 ?_
  refine xgX2_1 hx hb hts iX2 hown hK hP hf75 dX3_appendNode_58 ?_
  refine lv_iload_n hx hb dX3_appendNode_61 rfl (lv_at hl 2 rfl) ?_
  obtain ⟨v6, ev6, h⟩ := o_bind h
  refine xld3 hx hb hK hP ev6 dX3_appendNode_62 ?_
  refine lv_iadd hx hb dX3_appendNode_63 ?_
  obtain ⟨S7, eS7, h⟩ := o_bind h
  refine xpX3_1 hx hb hts iX3 hown hK hP hD hS hf55 eS7 dX3_appendNode_64 (fun H locs hP hD hS => ?_)
  refine lv_iconst (v := 0) hx hb dX3_appendNode_67 (by decide) ?_
  refine lv_istore (lv' := [(7, .int 0), (6, .int (S.1 5)), (0, .ref (ad 4)), (1, .int x1), (2, .int x2), (3, .int x3), (4, .int x4), (5, .int x5)]) hx hb dX3_appendNode_68 hl (by decide) rfl (fun ls hl => ?_)
  have L70 : ∀ (x6 : Int32), ∀ (n70 : Nat) (x7 : Int32) (S : PS) (H : Heap) (locs : List Loc) (ls : Array Slot), va_P D vwCl (xW cy ad S R) H → va_D A (xW cy ad S R) → va_S A s.heap H locs → lv_has ls 8 [(0, .ref (ad 4)), (5, .int x5), (6, .int x6), (7, .int x7)] → iter2 (q_X3_appendNode_L70 x5 x6 ) n70 x7 S = some S' → W p l e (headSpec wsX3_appendNode ({ frames := 4, cells := 0, slots := 0, locals := 98 })).room s m args below meth c H locs 0 0 Q (F0 m 70 ls []) := by
    intro x6 n70
    induction n70 with
    | zero =>
      intro x7 S H locs ls hP hD hS hl h
      exact (it2_0 h).elim
    | succ n70 ih70 =>
      intro x7 S H locs ls hP hD hS hl h
      have h : q_X3_appendNode_L70 x5 x6  (iter2 (q_X3_appendNode_L70 x5 x6 ) n70) x7 S = some S' := h
      unfold q_X3_appendNode_L70 at h
      refine lv_iload hx hb dX3_appendNode_70 (lv_at hl 3 rfl) ?_
      refine lv_aload_n hx hb dX3_appendNode_72 rfl (lv_at hl 0 rfl) ?_
      refine lv_iload hx hb dX3_appendNode_73 (lv_at hl 2 rfl) ?_
      obtain ⟨v8, ev8, h⟩ := o_bind h
      refine g_cVi (As := [.int x6]) (rest := [.int x7]) ⟨hx, hb, hml, hown, hts⟩ (m_X3_sitesAt l hst D cy tx ad R _ S x6 v8 ev8) (cwV 1 hts gX3_appendNode_X3_sitesAt rfl rfl rfl (by decide +kernel) ⟨Nat.le_of_ble_eq_true rfl, Nat.le_of_ble_eq_true rfl⟩) (va_recv hK hP (ci := 3) (q0 := 4) rfl rfl) hP hK hD hS hA hE rfl hl.1 rfl (Nat.le_of_ble_eq_true rfl) dX3_appendNode_75 ⟨Nat.le_of_ble_eq_true rfl, Nat.le_of_ble_eq_true rfl⟩ (fun H locs hP hD hS => ?_)
      refine lv_icmp_ge (tgt := 97) hx hb dX3_appendNode_78 (by decide) (fun hc => ?_) (fun hc => ?_)
      · have h := o_pos hc h
        have eS := Option.some.inj h
        subst eS
        exact g_vret hQ hx hb hr hP hK hD hS (Nat.le_of_ble_eq_true rfl) (Nat.le_of_ble_eq_true rfl) dX3_appendNode_97 hlocks
      · have h := o_neg hc h
        refine lv_aload_n hx hb dX3_appendNode_81 rfl (lv_at hl 0 rfl) ?_
        refine lv_iload hx hb dX3_appendNode_82 (lv_at hl 2 rfl) ?_
        refine lv_iload hx hb dX3_appendNode_84 (lv_at hl 3 rfl) ?_
        refine lv_iload hx hb dX3_appendNode_86 (lv_at hl 1 rfl) ?_
        obtain ⟨S10, ev9, h⟩ := o_bind h
        refine g_cVv (As := [.int x6, .int x7, .int x5]) (rest := []) ⟨hx, hb, hml, hown, hts⟩ (m_X3_lookAtSite l hst D cy tx ad R _ S x6 x7 x5 S10 ev9) (cwV 3 hts gX3_appendNode_X3_lookAtSite rfl rfl rfl (by decide +kernel) ⟨Nat.le_of_ble_eq_true rfl, Nat.le_of_ble_eq_true rfl⟩) (va_recv hK hP (ci := 3) (q0 := 4) rfl rfl) hP hK hD hS hA hE rfl hl.1 rfl (Nat.le_of_ble_eq_true rfl) dX3_appendNode_88 ⟨Nat.le_of_ble_eq_true rfl, Nat.le_of_ble_eq_true rfl⟩ (fun H locs hP hD hS => ?_)
        refine lv_iinc (v := (x7 + 1)) (lv' := [(7, .int (x7 + 1)), (0, .ref (ad 4)), (5, .int x5), (6, .int x6)]) hx hb dX3_appendNode_91 hl (k := 3) rfl rfl (by decide) rfl (fun ls hl => ?_)
        refine lv_goto (tgt := 70) hx hb dX3_appendNode_94 (by decide) ?_
        exact ih70 (x7 + 1) S10 _ _ ls hP hD hS (lv_sub hl [1, 2, 3, 0] rfl) h
  exact L70 (S.1 5) 1000 0 S7 _ _ ls hP hD hS (lv_sub hl [2, 7, 1, 0] rfl) h
set_option maxHeartbeats 4000000 in
set_option maxRecDepth 100000 in
theorem m_X3_grow (l : Launch) (hst : l.stackTraces = false) (D : va_G) (cy : Nat → ClassId) (tx : List (ClassId × FieldType)) (ad : Nat → Nat) (R : va_W) (sz : Nat) (S : PS) (x1 : Int32) (S' : PS) (h : q_X3_grow S x1 = some S') : gMv l yX3_grow wsX3_grow ({ frames := 5, cells := 0, slots := 0, locals := 125 }) 0 0 D (gT cy ++ tx) [.ref (ad 4), .int x1] sz (xW cy ad S R) (xW cy ad S' R) := by
  refine Met.ofW (cc := cX3_grow) (maxL := 6) (ret := none) (by decide) rfl ?_
  intro p e s m args below meth c s₁ B hml hv
  obtain ⟨hav, hsz, hP, hK, hD0, hE⟩ := hv
  have hx := B.exec
  have hb := B.bytes
  have hr := B.returns
  have hts := atoms_spec (ws := wsX3_grow) B.pre
  have hown : s.vm.findClass RX3 = some m.cls := findClass_of_methodNamed B.named
  have hlocks := B.notSynchronized
  subst hsz
  have hD := hD0.self (sz := s.heap.size)
  generalize hAe : va_A (xW cy ad S R) s.heap.size = A at hD hE ⊢
  have hA : ∀ q : Nat, s.heap.size ≤ q → A q := fun q h => by rw [← hAe]; exact Or.inr h
  have hS : va_S A s.heap s.heap [] := va_S.rf
  have iX2 : ∀ w ∈ u_ws RX2 TX2 8, w ∈ wsX3_grow := by decide +kernel
  have iX3 : ∀ w ∈ u_ws RX3 TX3 13, w ∈ wsX3_grow := by decide +kernel
  have iX4 : ∀ w ∈ u_ws RX4 TX4 3, w ∈ wsX3_grow := by decide +kernel
  have hf21 := hts (.fieldLink RX3 21 "InlinePlanner$Tree" "depths" "[I") (by decide +kernel)
  have hf24 := hts (.fieldLink RX3 24 "InlinePlanner$Tree" "verdicts" "[I") (by decide +kernel)
  have hf27 := hts (.fieldLink RX3 27 "InlinePlanner$Tree" "weights" "[I") (by decide +kernel)
  have hf30 := hts (.fieldLink RX3 30 "InlinePlanner$Tree" "targets" "[I") (by decide +kernel)
  have hf36 := hts (.fieldLink RX3 36 "InlinePlanner$Tree" "waiting" "LInlinePlanner$Waiting;") (by decide +kernel)
  have hf43 := hts (.fieldLink RX3 43 "InlinePlanner$Tree" "program" "LInlinePlanner$Program;") (by decide +kernel)
  have hf70 := hts (.fieldLink RX3 70 "InlinePlanner$Waiting" "count" "I") (by decide +kernel)
  have hf75 := hts (.fieldLink RX3 75 "InlinePlanner$Program" "sizes" "[I") (by decide +kernel)
  refine g_entry (n := 6) hav (Nat.le_of_ble_eq_true rfl) (fun ls hl => ?_)
  have hl : lv_has ls 6 [(0, .ref (ad 4)), (1, .int x1)] := hl
  refine g_nameQ (fun Q hQ => ?_)
  unfold q_X3_grow at h
  refine lv_aload_n hx hb dX3_grow_0 rfl (lv_at hl 0 rfl) ?_
  obtain ⟨S2, ev1, h⟩ := o_bind h
  refine g_cVv (As := []) (rest := []) ⟨hx, hb, hml, hown, hts⟩ (m_X3_remove l hst D cy tx ad R _ S  S2 ev1) (cwV 0 hts gX3_grow_X3_remove rfl rfl rfl (by decide +kernel) ⟨Nat.le_of_ble_eq_true rfl, Nat.le_of_ble_eq_true rfl⟩) (va_recv hK hP (ci := 3) (q0 := 4) rfl rfl) hP hK hD hS hA hE rfl hl.1 rfl (Nat.le_of_ble_eq_true rfl) dX3_grow_1 ⟨Nat.le_of_ble_eq_true rfl, Nat.le_of_ble_eq_true rfl⟩ (fun H locs hP hD hS => ?_)
  refine lv_aload_n hx hb dX3_grow_4 rfl (lv_at hl 0 rfl) ?_
  refine lv_iload_n hx hb dX3_grow_5 rfl (lv_at hl 1 rfl) ?_
  refine lv_iconst (v := (-1)) hx hb dX3_grow_6 (by decide) ?_
  refine lv_iconst (v := (-1)) hx hb dX3_grow_7 (by decide) ?_
  refine lv_iconst (v := 0) hx hb dX3_grow_8 (by decide) ?_
  refine lv_iconst (v := 1) hx hb dX3_grow_9 (by decide) ?_
  obtain ⟨S4, ev3, h⟩ := o_bind h
  refine g_cVv (As := [.int x1, .int (-1), .int (-1), .int 0, .int 1]) (rest := []) ⟨hx, hb, hml, hown, hts⟩ (m_X3_appendNode l hst D cy tx ad R _ S2 x1 (-1) (-1) 0 1 S4 ev3) (cwV 5 hts gX3_grow_X3_appendNode rfl rfl rfl (by decide +kernel) ⟨Nat.le_of_ble_eq_true rfl, Nat.le_of_ble_eq_true rfl⟩) (va_recv hK hP (ci := 3) (q0 := 4) rfl rfl) hP hK hD hS hA hE rfl hl.1 rfl (Nat.le_of_ble_eq_true rfl) dX3_grow_10 ⟨Nat.le_of_ble_eq_true rfl, Nat.le_of_ble_eq_true rfl⟩ (fun H locs hP hD hS => ?_)
  refine lv_iconst (v := 0) hx hb dX3_grow_13 (by decide) ?_
  refine lv_istore_n (lv' := [(2, .int 0), (0, .ref (ad 4)), (1, .int x1)]) hx hb dX3_grow_14 rfl hl (by decide) rfl (fun ls hl => ?_)
  have L15 : ∀ (n15 : Nat) (x2 : Int32) (S : PS) (H : Heap) (locs : List Loc) (ls : Array Slot), va_P D vwCl (xW cy ad S R) H → va_D A (xW cy ad S R) → va_S A s.heap H locs → lv_has ls 6 [(0, .ref (ad 4)), (2, .int x2)] → iter2 (q_X3_grow_L15  ) n15 x2 S = some S' → W p l e (headSpec wsX3_grow ({ frames := 5, cells := 0, slots := 0, locals := 125 })).room s m args below meth c H locs 0 0 Q (F0 m 15 ls []) := by
    intro  n15
    induction n15 with
    | zero =>
      intro x2 S H locs ls hP hD hS hl h
      exact (it2_0 h).elim
    | succ n15 ih15 =>
      intro x2 S H locs ls hP hD hS hl h
      have h : q_X3_grow_L15   (iter2 (q_X3_grow_L15  ) n15) x2 S = some S' := h
      unfold q_X3_grow_L15 at h
      refine lv_iload_n hx hb dX3_grow_15 rfl (lv_at hl 1 rfl) ?_
      refine lv_sipush (v := 400) hx hb dX3_grow_16 (by decide) ?_
      refine lv_icmp_ge (tgt := 116) hx hb dX3_grow_19 (by decide) (fun hc => ?_) (fun hc => ?_)
      · have h := o_pos hc h
        have eS := Option.some.inj h
        subst eS
        exact g_vret hQ hx hb hr hP hK hD hS (Nat.le_of_ble_eq_true rfl) (Nat.le_of_ble_eq_true rfl) dX3_grow_116 hlocks
      · have h := o_neg hc h
        refine lv_aload_n hx hb dX3_grow_22 rfl (lv_at hl 0 rfl) ?_
        refine xgX3_11 hx hb hts iX3 hown hK hP hf36 dX3_grow_23 ?_
        refine xgX4_0 hx hb hts iX4 hown hK hP hf70 dX3_grow_26 ?_
        refine lv_if_le (tgt := 116) hx hb dX3_grow_29 (by decide) (fun hc => ?_) (fun hc => ?_)
        · have h := o_pos hc h
          have eS := Option.some.inj h
          subst eS
          exact g_vret hQ hx hb hr hP hK hD hS (Nat.le_of_ble_eq_true rfl) (Nat.le_of_ble_eq_true rfl) dX3_grow_116 hlocks
        · have h := o_neg hc h
          refine lv_aload_n hx hb dX3_grow_32 rfl (lv_at hl 0 rfl) ?_
          refine xgX3_11 hx hb hts iX3 hown hK hP hf36 dX3_grow_33 ?_
          obtain ⟨⟨S6, v5⟩, ev5, h⟩ := o_bind h
          refine g_cVi (As := []) (rest := []) ⟨hx, hb, hml, hown, hts⟩ (m_X4_takeNext l hst D cy tx ad R _ S  S6 v5 ev5) (cwV 0 hts gX3_grow_X4_takeNext rfl rfl rfl (by decide +kernel) ⟨Nat.le_of_ble_eq_true rfl, Nat.le_of_ble_eq_true rfl⟩) (va_recv hK hP (ci := 4) (q0 := 5) rfl rfl) hP hK hD hS hA hE rfl hl.1 rfl (Nat.le_of_ble_eq_true rfl) dX3_grow_36 ⟨Nat.le_of_ble_eq_true rfl, Nat.le_of_ble_eq_true rfl⟩ (fun H locs hP hD hS => ?_)
          refine lv_istore_n (lv' := [(3, .int v5), (0, .ref (ad 4)), (2, .int x2)]) hx hb dX3_grow_39 rfl hl (by decide) rfl (fun ls hl => ?_)
          refine lv_aload_n hx hb dX3_grow_40 rfl (lv_at hl 1 rfl) ?_
          refine xgX3_8 hx hb hts iX3 hown hK hP hf30 dX3_grow_41 ?_
          refine lv_iload_n hx hb dX3_grow_44 rfl (lv_at hl 0 rfl) ?_
          obtain ⟨v7, ev7, h⟩ := o_bind h
          refine xld15 hx hb hK hP ev7 dX3_grow_45 ?_
          refine lv_istore (lv' := [(4, .int v7), (3, .int v5), (0, .ref (ad 4)), (2, .int x2)]) hx hb dX3_grow_46 hl (by decide) rfl (fun ls hl => ?_)
          refine lv_aload_n hx hb dX3_grow_48 rfl (lv_at hl 2 rfl) ?_
          refine xgX3_6 hx hb hts iX3 hown hK hP hf24 dX3_grow_49 ?_
          refine lv_iload_n hx hb dX3_grow_52 rfl (lv_at hl 1 rfl) ?_
          refine lv_aload_n hx hb dX3_grow_53 rfl (lv_at hl 2 rfl) ?_
          refine lv_aload_n hx hb dX3_grow_54 rfl (lv_at hl 2 rfl) ?_
          refine xgX3_9 hx hb hts iX3 hown hK hP hf43 dX3_grow_55 ?_
          refine xgX2_1 hx hb hts iX2 hown hK hP hf75 dX3_grow_58 ?_
          refine lv_iload hx hb dX3_grow_61 (lv_at hl 0 rfl) ?_
          obtain ⟨v8, ev8, h⟩ := o_bind h
          refine xld3 hx hb hK hP ev8 dX3_grow_63 ?_
          obtain ⟨v9, ev9, h⟩ := o_bind h
          refine g_cVi (As := [.int v8]) (rest := [.int v5, .ref (ad 19)]) ⟨hx, hb, hml, hown, hts⟩ (m_X3_lateVerdict l hst D cy tx ad R _ S6 v8 v9 ev9) (cwV 1 hts gX3_grow_X3_lateVerdict rfl rfl rfl (by decide +kernel) ⟨Nat.le_of_ble_eq_true rfl, Nat.le_of_ble_eq_true rfl⟩) (va_recv hK hP (ci := 3) (q0 := 4) rfl rfl) hP hK hD hS hA hE rfl hl.1 rfl (Nat.le_of_ble_eq_true rfl) dX3_grow_64 ⟨Nat.le_of_ble_eq_true rfl, Nat.le_of_ble_eq_true rfl⟩ (fun H locs hP hD hS => ?_)
          obtain ⟨S10, eS10, h⟩ := o_bind h
          refine xst13 hx hb hK hP hD hS eS10 dX3_grow_67 (fun H locs hP hD hS => ?_)
          refine lv_aload_n hx hb dX3_grow_68 rfl (lv_at hl 2 rfl) ?_
          refine xgX3_6 hx hb hts iX3 hown hK hP hf24 dX3_grow_69 ?_
          refine lv_iload_n hx hb dX3_grow_72 rfl (lv_at hl 1 rfl) ?_
          obtain ⟨v11, ev11, h⟩ := o_bind h
          refine xld13 hx hb hK hP ev11 dX3_grow_73 ?_
          refine lv_if_ne (tgt := 110) hx hb dX3_grow_74 (by decide) (fun hc => ?_) (fun hc => ?_)
          · have h := o_neg hc h
            refine lv_iinc (v := (x2 + 1)) (lv' := [(2, .int (x2 + 1)), (4, .int v7), (3, .int v5), (0, .ref (ad 4))]) hx hb dX3_grow_110 hl (k := 3) rfl rfl (by decide) rfl (fun ls hl => ?_)
            refine lv_goto (tgt := 15) hx hb dX3_grow_113 (by decide) ?_
            exact ih15 (x2 + 1) S10 _ _ ls hP hD hS (lv_sub hl [3, 0] rfl) h
          · have h := o_pos hc h
            refine lv_iload_n hx hb dX3_grow_77 rfl (lv_at hl 1 rfl) ?_
            refine lv_bipush (v := 8) hx hb dX3_grow_78 (by decide) ?_
            obtain ⟨_, hu12, h⟩ := o_bind h
            refine lv_idiv hx hb dX3_grow_80 (nz_spec hu12) ?_
            refine lv_istore (lv' := [(5, .int (v5 / 8)), (4, .int v7), (3, .int v5), (0, .ref (ad 4)), (2, .int x2)]) hx hb dX3_grow_81 hl (by decide) rfl (fun ls hl => ?_)
            refine lv_aload_n hx hb dX3_grow_83 rfl (lv_at hl 3 rfl) ?_
            refine lv_iload hx hb dX3_grow_84 (lv_at hl 1 rfl) ?_
            refine lv_iload hx hb dX3_grow_86 (lv_at hl 0 rfl) ?_
            refine lv_iload_n hx hb dX3_grow_88 rfl (lv_at hl 2 rfl) ?_
            refine lv_bipush (v := 8) hx hb dX3_grow_89 (by decide) ?_
            obtain ⟨_, hu13, h⟩ := o_bind h
            refine lv_irem hx hb dX3_grow_91 (nz_spec hu13) ?_
            refine lv_aload_n hx hb dX3_grow_92 rfl (lv_at hl 3 rfl) ?_
            refine xgX3_5 hx hb hts iX3 hown hK hP hf21 dX3_grow_93 ?_
            refine lv_iload hx hb dX3_grow_96 (lv_at hl 0 rfl) ?_
            obtain ⟨v14, ev14, h⟩ := o_bind h
            refine xld12 hx hb hK hP ev14 dX3_grow_98 ?_
            refine lv_iconst (v := 1) hx hb dX3_grow_99 (by decide) ?_
            refine lv_iadd hx hb dX3_grow_100 ?_
            refine lv_aload_n hx hb dX3_grow_101 rfl (lv_at hl 3 rfl) ?_
            refine xgX3_7 hx hb hts iX3 hown hK hP hf27 dX3_grow_102 ?_
            refine lv_iload_n hx hb dX3_grow_105 rfl (lv_at hl 2 rfl) ?_
            obtain ⟨v15, ev15, h⟩ := o_bind h
            refine xld14 hx hb hK hP ev15 dX3_grow_106 ?_
            obtain ⟨S17, ev16, h⟩ := o_bind h
            refine g_cVv (As := [.int v7, .int (v5 / 8), .int (v5 - v5 / 8 * 8), .int (v14 + 1), .int v15]) (rest := []) ⟨hx, hb, hml, hown, hts⟩ (m_X3_appendNode l hst D cy tx ad R _ S10 v7 (v5 / 8) (v5 - v5 / 8 * 8) (v14 + 1) v15 S17 ev16) (cwV 5 hts gX3_grow_X3_appendNode rfl rfl rfl (by decide +kernel) ⟨Nat.le_of_ble_eq_true rfl, Nat.le_of_ble_eq_true rfl⟩) (va_recv hK hP (ci := 3) (q0 := 4) rfl rfl) hP hK hD hS hA hE rfl hl.1 rfl (Nat.le_of_ble_eq_true rfl) dX3_grow_107 ⟨Nat.le_of_ble_eq_true rfl, Nat.le_of_ble_eq_true rfl⟩ (fun H locs hP hD hS => ?_)
            refine lv_iinc (v := (x2 + 1)) (lv' := [(2, .int (x2 + 1)), (5, .int (v5 / 8)), (4, .int v7), (3, .int v5), (0, .ref (ad 4))]) hx hb dX3_grow_110 hl (k := 4) rfl rfl (by decide) rfl (fun ls hl => ?_)
            refine lv_goto (tgt := 15) hx hb dX3_grow_113 (by decide) ?_
            exact ih15 (x2 + 1) S17 _ _ ls hP hD hS (lv_sub hl [4, 0] rfl) h
  exact L15  1000 0 S4 _ _ ls hP hD hS (lv_sub hl [1, 0] rfl) h
set_option maxHeartbeats 4000000 in
set_option maxRecDepth 100000 in
theorem m_X3_weightBetween (l : Launch) (hst : l.stackTraces = false) (D : va_G) (cy : Nat → ClassId) (tx : List (ClassId × FieldType)) (ad : Nat → Nat) (R : va_W) (sz : Nat) (S : PS) (x1 : Int32) (x2 : Int32) (v : Int64) (h : q_X3_weightBetween S x1 x2 = some v) : gMl l yX3_weightBetween wsX3_weightBetween ({ frames := 1, cells := 0, slots := 0, locals := 21 }) 0 0 D (gT cy ++ tx) [.ref (ad 4), .int x1, .int x2] sz (xW cy ad S R) (xW cy ad S R) v := by
  refine Met.ofW (cc := cX3_weightBetween) (maxL := 8) (ret := (some .long)) (by decide) rfl ?_
  intro p e s m args below meth c s₁ B hml hv
  obtain ⟨hav, hsz, hP, hK, hD0, hE⟩ := hv
  have hx := B.exec
  have hb := B.bytes
  have hr := B.returns
  have hts := atoms_spec (ws := wsX3_weightBetween) B.pre
  have hown : s.vm.findClass RX3 = some m.cls := findClass_of_methodNamed B.named
  have hlocks := B.notSynchronized
  subst hsz
  have hD := hD0.self (sz := s.heap.size)
  generalize hAe : va_A (xW cy ad S R) s.heap.size = A at hD hE ⊢
  have hA : ∀ q : Nat, s.heap.size ≤ q → A q := fun q h => by rw [← hAe]; exact Or.inr h
  have hS : va_S A s.heap s.heap [] := va_S.rf
  have iX3 : ∀ w ∈ u_ws RX3 TX3 13, w ∈ wsX3_weightBetween := by decide +kernel
  have hf24 := hts (.fieldLink RX3 24 "InlinePlanner$Tree" "verdicts" "[I") (by decide +kernel)
  have hf27 := hts (.fieldLink RX3 27 "InlinePlanner$Tree" "weights" "[I") (by decide +kernel)
  have hf51 := hts (.fieldLink RX3 51 "InlinePlanner$Tree" "count" "I") (by decide +kernel)
  refine g_entry (n := 8) hav (Nat.le_of_ble_eq_true rfl) (fun ls hl => ?_)
  have hl : lv_has ls 8 [(0, .ref (ad 4)), (1, .int x1), (2, .int x2)] := hl
  refine g_nameQ (fun Q hQ => ?_)
  unfold q_X3_weightBetween at h
  refine lv_lconst (v := 0) hx hb dX3_weightBetween_0 (by decide) ?_
  refine lv_lstore_n (lv' := [(3, .long 0), (0, .ref (ad 4)), (1, .int x1), (2, .int x2)]) hx hb dX3_weightBetween_1 rfl hl (by decide) rfl (fun ls hl => ?_)
  refine lv_iconst (v := 0) hx hb dX3_weightBetween_2 (by decide) ?_
  refine lv_istore (lv' := [(5, .int 0), (3, .long 0), (0, .ref (ad 4)), (1, .int x1), (2, .int x2)]) hx hb dX3_weightBetween_3 hl (by decide) rfl (fun ls hl => ?_)
  have L5 : ∀ (n5 : Nat) (x3 : Int64) (x5 : Int32) (H : Heap) (locs : List Loc) (ls : Array Slot), va_P D vwCl (xW cy ad S R) H → va_D A (xW cy ad S R) → va_S A s.heap H locs → lv_has ls 8 [(0, .ref (ad 4)), (1, .int x1), (2, .int x2), (3, .long x3), (5, .int x5)] → iter2 (q_X3_weightBetween_L5 S x1 x2 ) n5 x3 x5 = some v → W p l e (headSpec wsX3_weightBetween ({ frames := 1, cells := 0, slots := 0, locals := 21 })).room s m args below meth c H locs 0 0 Q (F0 m 5 ls []) := by
    intro  n5
    induction n5 with
    | zero =>
      intro x3 x5 H locs ls hP hD hS hl h
      exact (it2_0 h).elim
    | succ n5 ih5 =>
      intro x3 x5 H locs ls hP hD hS hl h
      have h : q_X3_weightBetween_L5 S x1 x2  (iter2 (q_X3_weightBetween_L5 S x1 x2 ) n5) x3 x5 = some v := h
      unfold q_X3_weightBetween_L5 at h
      refine lv_iload hx hb dX3_weightBetween_5 (lv_at hl 4 rfl) ?_
      refine lv_aload_n hx hb dX3_weightBetween_7 rfl (lv_at hl 0 rfl) ?_
      refine xgX3_0 hx hb hts iX3 hown hK hP hf51 dX3_weightBetween_8 ?_
      refine lv_icmp_ge (tgt := 82) hx hb dX3_weightBetween_11 (by decide) (fun hc => ?_) (fun hc => ?_)
      · have h := o_pos hc h
        refine lv_lload_n hx hb dX3_weightBetween_82 rfl (lv_at hl 3 rfl) ?_
        exact g_lret hQ hx hb hr hP hK hD hS (Nat.le_of_ble_eq_true rfl) (Nat.le_of_ble_eq_true rfl) dX3_weightBetween_83 hlocks (Option.some.inj h)
      · have h := o_neg hc h
        refine lv_iconst (v := 0) hx hb dX3_weightBetween_14 (by decide) ?_
        refine lv_istore (lv' := [(6, .int 0), (0, .ref (ad 4)), (1, .int x1), (2, .int x2), (3, .long x3), (5, .int x5)]) hx hb dX3_weightBetween_15 hl (by decide) rfl (fun ls hl => ?_)
        have L17 : ∀ (n17 : Nat) (x3 : Int64) (x6 : Int32) (H : Heap) (locs : List Loc) (ls : Array Slot), va_P D vwCl (xW cy ad S R) H → va_D A (xW cy ad S R) → va_S A s.heap H locs → lv_has ls 8 [(0, .ref (ad 4)), (1, .int x1), (2, .int x2), (3, .long x3), (5, .int x5), (6, .int x6)] → iter2 (q_X3_weightBetween_L17 S x1 x2 x5 (iter2 (q_X3_weightBetween_L5 S x1 x2 ) n5)) n17 x3 x6 = some v → W p l e (headSpec wsX3_weightBetween ({ frames := 1, cells := 0, slots := 0, locals := 21 })).room s m args below meth c H locs 0 0 Q (F0 m 17 ls []) := by
          intro  n17
          induction n17 with
          | zero =>
            intro x3 x6 H locs ls hP hD hS hl h
            exact (it2_0 h).elim
          | succ n17 ih17 =>
            intro x3 x6 H locs ls hP hD hS hl h
            have h : q_X3_weightBetween_L17 S x1 x2 x5 (iter2 (q_X3_weightBetween_L5 S x1 x2 ) n5) (iter2 (q_X3_weightBetween_L17 S x1 x2 x5 (iter2 (q_X3_weightBetween_L5 S x1 x2 ) n5)) n17) x3 x6 = some v := h
            unfold q_X3_weightBetween_L17 at h
            refine lv_iload hx hb dX3_weightBetween_17 (lv_at hl 5 rfl) ?_
            refine lv_aload_n hx hb dX3_weightBetween_19 rfl (lv_at hl 0 rfl) ?_
            refine lv_iload hx hb dX3_weightBetween_20 (lv_at hl 4 rfl) ?_
            obtain ⟨v1, ev1, h⟩ := o_bind h
            refine g_cVi (As := [.int x5]) (rest := [.int x6]) ⟨hx, hb, hml, hown, hts⟩ (m_X3_sitesAt l hst D cy tx ad R _ S x5 v1 ev1) (cwV 1 hts gX3_weightBetween_X3_sitesAt rfl rfl rfl (by decide +kernel) ⟨Nat.le_of_ble_eq_true rfl, Nat.le_of_ble_eq_true rfl⟩) (va_recv hK hP (ci := 3) (q0 := 4) rfl rfl) hP hK hD hS hA hE rfl hl.1 rfl (Nat.le_of_ble_eq_true rfl) dX3_weightBetween_22 ⟨Nat.le_of_ble_eq_true rfl, Nat.le_of_ble_eq_true rfl⟩ (fun H locs hP hD hS => ?_)
            refine lv_icmp_ge (tgt := 76) hx hb dX3_weightBetween_25 (by decide) (fun hc => ?_) (fun hc => ?_)
            · have h := o_pos hc h
              refine lv_iinc (v := (x5 + 1)) (lv' := [(5, .int (x5 + 1)), (0, .ref (ad 4)), (1, .int x1), (2, .int x2), (3, .long x3), (6, .int x6)]) hx hb dX3_weightBetween_76 hl (k := 4) rfl rfl (by decide) rfl (fun ls hl => ?_)
              refine lv_goto (tgt := 5) hx hb dX3_weightBetween_79 (by decide) ?_
              exact ih5 x3 (x5 + 1) _ _ ls hP hD hS (lv_sub hl [1, 2, 3, 4, 0] rfl) h
            · have h := o_neg hc h
              refine lv_iload hx hb dX3_weightBetween_28 (lv_at hl 4 rfl) ?_
              refine lv_iload hx hb dX3_weightBetween_30 (lv_at hl 5 rfl) ?_
              obtain ⟨v2, ev2, h⟩ := o_bind h
              refine g_cNi (As := [.int x5, .int x6]) (rest := []) ⟨hx, hb, hml, hown, hts⟩ (m_X5_slot l hst D (gT cy ++ tx) (xW cy ad S R) _ x5 x6 v2 ev2) ⟨va_cnB 2 hts gX3_weightBetween_X5_slot_n89 rfl rfl rfl (hE.2.2.2.1 (.methodLinkNest RX3 89 yX5_slot RX5) (by decide +kernel)) (hts (.initialized RX5) (by decide +kernel)) (by decide +kernel) ⟨Nat.le_of_ble_eq_true rfl, Nat.le_of_ble_eq_true rfl⟩, hts (.static yX5_slot) (by decide +kernel), trivial⟩ hP hK hD hS hA hE rfl hl.1 rfl (Nat.le_of_ble_eq_true rfl) dX3_weightBetween_32 ⟨Nat.le_of_ble_eq_true rfl, Nat.le_of_ble_eq_true rfl⟩ (fun H locs hP hD hS => ?_)
              refine lv_istore (lv' := [(7, .int v2), (0, .ref (ad 4)), (1, .int x1), (2, .int x2), (3, .long x3), (5, .int x5), (6, .int x6)]) hx hb dX3_weightBetween_35 hl (by decide) rfl (fun ls hl => ?_)
              refine lv_aload_n hx hb dX3_weightBetween_37 rfl (lv_at hl 1 rfl) ?_
              refine xgX3_6 hx hb hts iX3 hown hK hP hf24 dX3_weightBetween_38 ?_
              refine lv_iload hx hb dX3_weightBetween_41 (lv_at hl 0 rfl) ?_
              obtain ⟨v3, ev3, h⟩ := o_bind h
              refine xld13 hx hb hK hP ev3 dX3_weightBetween_43 ?_
              refine lv_iload_n hx hb dX3_weightBetween_44 rfl (lv_at hl 2 rfl) ?_
              refine lv_icmp_lt (tgt := 70) hx hb dX3_weightBetween_45 (by decide) (fun hc => ?_) (fun hc => ?_)
              · have h := o_pos hc h
                refine lv_iinc (v := (x6 + 1)) (lv' := [(6, .int (x6 + 1)), (7, .int v2), (0, .ref (ad 4)), (1, .int x1), (2, .int x2), (3, .long x3), (5, .int x5)]) hx hb dX3_weightBetween_70 hl (k := 6) rfl rfl (by decide) rfl (fun ls hl => ?_)
                refine lv_goto (tgt := 17) hx hb dX3_weightBetween_73 (by decide) ?_
                exact ih17 x3 (x6 + 1) _ _ ls hP hD hS (lv_sub hl [2, 3, 4, 5, 6, 0] rfl) h
              · have h := o_neg hc h
                refine lv_aload_n hx hb dX3_weightBetween_48 rfl (lv_at hl 1 rfl) ?_
                refine xgX3_6 hx hb hts iX3 hown hK hP hf24 dX3_weightBetween_49 ?_
                refine lv_iload hx hb dX3_weightBetween_52 (lv_at hl 0 rfl) ?_
                obtain ⟨v4, ev4, h⟩ := o_bind h
                refine xld13 hx hb hK hP ev4 dX3_weightBetween_54 ?_
                refine lv_iload_n hx hb dX3_weightBetween_55 rfl (lv_at hl 3 rfl) ?_
                refine lv_icmp_gt (tgt := 70) hx hb dX3_weightBetween_56 (by decide) (fun hc => ?_) (fun hc => ?_)
                · have h := o_pos hc h
                  refine lv_iinc (v := (x6 + 1)) (lv' := [(6, .int (x6 + 1)), (7, .int v2), (0, .ref (ad 4)), (1, .int x1), (2, .int x2), (3, .long x3), (5, .int x5)]) hx hb dX3_weightBetween_70 hl (k := 6) rfl rfl (by decide) rfl (fun ls hl => ?_)
                  refine lv_goto (tgt := 17) hx hb dX3_weightBetween_73 (by decide) ?_
                  exact ih17 x3 (x6 + 1) _ _ ls hP hD hS (lv_sub hl [2, 3, 4, 5, 6, 0] rfl) h
                · have h := o_neg hc h
                  refine lv_lload_n hx hb dX3_weightBetween_59 rfl (lv_at hl 4 rfl) ?_
                  refine lv_aload_n hx hb dX3_weightBetween_60 rfl (lv_at hl 1 rfl) ?_
                  refine xgX3_7 hx hb hts iX3 hown hK hP hf27 dX3_weightBetween_61 ?_
                  refine lv_iload hx hb dX3_weightBetween_64 (lv_at hl 0 rfl) ?_
                  obtain ⟨v5, ev5, h⟩ := o_bind h
                  refine xld14 hx hb hK hP ev5 dX3_weightBetween_66 ?_
                  refine lv_i2l (v := ((v5 : Int32).toInt64)) hx hb dX3_weightBetween_67 rfl ?_
                  refine lv_ladd hx hb dX3_weightBetween_68 ?_
                  refine lv_lstore_n (lv' := [(3, .long (x3 + ((v5 : Int32).toInt64))), (7, .int v2), (0, .ref (ad 4)), (1, .int x1), (2, .int x2), (5, .int x5), (6, .int x6)]) hx hb dX3_weightBetween_69 rfl hl (by decide) rfl (fun ls hl => ?_)
                  refine lv_iinc (v := (x6 + 1)) (lv' := [(6, .int (x6 + 1)), (3, .long (x3 + ((v5 : Int32).toInt64))), (7, .int v2), (0, .ref (ad 4)), (1, .int x1), (2, .int x2), (5, .int x5)]) hx hb dX3_weightBetween_70 hl (k := 6) rfl rfl (by decide) rfl (fun ls hl => ?_)
                  refine lv_goto (tgt := 17) hx hb dX3_weightBetween_73 (by decide) ?_
                  exact ih17 (x3 + ((v5 : Int32).toInt64)) (x6 + 1) _ _ ls hP hD hS (lv_sub hl [3, 4, 5, 1, 6, 0] rfl) h
        exact L17  1000 x3 0 _ _ ls hP hD hS (lv_sub hl [1, 2, 3, 4, 5, 0] rfl) h
  exact L5  1000 0 0 _ _ ls hP hD hS (lv_sub hl [2, 3, 4, 1, 0] rfl) h
set_option maxHeartbeats 4000000 in
set_option maxRecDepth 100000 in
theorem m_X3_isSound (l : Launch) (hst : l.stackTraces = false) (D : va_G) (cy : Nat → ClassId) (tx : List (ClassId × FieldType)) (ad : Nat → Nat) (R : va_W) (sz : Nat) (S : PS) (x1 : Int32) (v : Int32) (h : q_X3_isSound S x1 = some v) : gMi l yX3_isSound wsX3_isSound ({ frames := 3, cells := 0, slots := 0, locals := 73 }) 0 0 D (gT cy ++ tx) [.ref (ad 4), .int x1] sz (xW cy ad S R) (xW cy ad S R) v := by
  refine Met.ofW (cc := cX3_isSound) (maxL := 3) (ret := (some .boolean)) (by decide) rfl ?_
  intro p e s m args below meth c s₁ B hml hv
  obtain ⟨hav, hsz, hP, hK, hD0, hE⟩ := hv
  have hx := B.exec
  have hb := B.bytes
  have hr := B.returns
  have hts := atoms_spec (ws := wsX3_isSound) B.pre
  have hown : s.vm.findClass RX3 = some m.cls := findClass_of_methodNamed B.named
  have hlocks := B.notSynchronized
  subst hsz
  have hD := hD0.self (sz := s.heap.size)
  generalize hAe : va_A (xW cy ad S R) s.heap.size = A at hD hE ⊢
  have hA : ∀ q : Nat, s.heap.size ≤ q → A q := fun q h => by rw [← hAe]; exact Or.inr h
  have hS : va_S A s.heap s.heap [] := va_S.rf
  have iX3 : ∀ w ∈ u_ws RX3 TX3 13, w ∈ wsX3_isSound := by decide +kernel
  have hf9 := hts (.fieldLink RX3 9 "InlinePlanner$Tree" "methods" "[I") (by decide +kernel)
  have hf15 := hts (.fieldLink RX3 15 "InlinePlanner$Tree" "parents" "[I") (by decide +kernel)
  have hf18 := hts (.fieldLink RX3 18 "InlinePlanner$Tree" "origins" "[I") (by decide +kernel)
  have hf43 := hts (.fieldLink RX3 43 "InlinePlanner$Tree" "program" "LInlinePlanner$Program;") (by decide +kernel)
  refine g_entry (n := 3) hav (Nat.le_of_ble_eq_true rfl) (fun ls hl => ?_)
  have hl : lv_has ls 3 [(0, .ref (ad 4)), (1, .int x1)] := hl
  refine g_nameQ (fun Q hQ => ?_)
  unfold q_X3_isSound at h
  refine lv_aload_n hx hb dX3_isSound_0 rfl (lv_at hl 0 rfl) ?_
  refine xgX3_3 hx hb hts iX3 hown hK hP hf15 dX3_isSound_1 ?_
  refine lv_iload_n hx hb dX3_isSound_4 rfl (lv_at hl 1 rfl) ?_
  obtain ⟨v1, ev1, h⟩ := o_bind h
  refine xld10 hx hb hK hP ev1 dX3_isSound_5 ?_
  refine lv_istore_n (lv' := [(2, .int v1), (0, .ref (ad 4)), (1, .int x1)]) hx hb dX3_isSound_6 rfl hl (by decide) rfl (fun ls hl => ?_)
  refine lv_iload_n hx hb dX3_isSound_7 rfl (lv_at hl 0 rfl) ?_
  refine lv_if_lt (tgt := 41) hx hb dX3_isSound_8 (by decide) (fun hc => ?_) (fun hc => ?_)
  · have h := o_pos hc h
    refine lv_iconst (v := 1) hx hb dX3_isSound_41 (by decide) ?_
    refine lv_goto (tgt := 46) hx hb dX3_isSound_42 (by decide) ?_
    exact g_zret hQ hx hb hr rfl hP hK hD hS (Nat.le_of_ble_eq_true rfl) (Nat.le_of_ble_eq_true rfl) dX3_isSound_46 hlocks (Option.some.inj h)
  · have h := o_neg hc h
    refine lv_aload_n hx hb dX3_isSound_11 rfl (lv_at hl 1 rfl) ?_
    refine xgX3_9 hx hb hts iX3 hown hK hP hf43 dX3_isSound_12 ?_
    refine lv_aload_n hx hb dX3_isSound_15 rfl (lv_at hl 1 rfl) ?_
    refine xgX3_2 hx hb hts iX3 hown hK hP hf9 dX3_isSound_16 ?_
    refine lv_iload_n hx hb dX3_isSound_19 rfl (lv_at hl 0 rfl) ?_
    obtain ⟨v2, ev2, h⟩ := o_bind h
    refine xld9 hx hb hK hP ev2 dX3_isSound_20 ?_
    refine lv_aload_n hx hb dX3_isSound_21 rfl (lv_at hl 1 rfl) ?_
    refine xgX3_4 hx hb hts iX3 hown hK hP hf18 dX3_isSound_22 ?_
    refine lv_iload_n hx hb dX3_isSound_25 rfl (lv_at hl 2 rfl) ?_
    obtain ⟨v3, ev3, h⟩ := o_bind h
    refine xld11 hx hb hK hP ev3 dX3_isSound_26 ?_
    obtain ⟨v4, ev4, h⟩ := o_bind h
    refine g_cVi (As := [.int v2, .int v3]) (rest := []) ⟨hx, hb, hml, hown, hts⟩ (m_X2_targetsOfSite l hst D cy tx ad R _ S v2 v3 v4 ev4) (cwV 2 hts gX3_isSound_X2_targetsOfSite rfl rfl rfl (by decide +kernel) ⟨Nat.le_of_ble_eq_true rfl, Nat.le_of_ble_eq_true rfl⟩) (va_recv hK hP (ci := 2) (q0 := 2) rfl rfl) hP hK hD hS hA hE rfl hl.1 rfl (Nat.le_of_ble_eq_true rfl) dX3_isSound_27 ⟨Nat.le_of_ble_eq_true rfl, Nat.le_of_ble_eq_true rfl⟩ (fun H locs hP hD hS => ?_)
    refine lv_iconst (v := 1) hx hb dX3_isSound_30 (by decide) ?_
    refine lv_aload_n hx hb dX3_isSound_31 rfl (lv_at hl 1 rfl) ?_
    refine xgX3_2 hx hb hts iX3 hown hK hP hf9 dX3_isSound_32 ?_
    refine lv_iload_n hx hb dX3_isSound_35 rfl (lv_at hl 2 rfl) ?_
    obtain ⟨v5, ev5, h⟩ := o_bind h
    refine xld9 hx hb hK hP ev5 dX3_isSound_36 ?_
    refine lv_ishl hx hb dX3_isSound_37 ?_
    refine lv_icmp_ne (tgt := 45) hx hb dX3_isSound_38 (by decide) (fun hc => ?_) (fun hc => ?_)
    · have h := o_neg hc h
      refine lv_iconst (v := 0) hx hb dX3_isSound_45 (by decide) ?_
      exact g_zret hQ hx hb hr rfl hP hK hD hS (Nat.le_of_ble_eq_true rfl) (Nat.le_of_ble_eq_true rfl) dX3_isSound_46 hlocks (Option.some.inj h)
    · have h := o_pos hc h
      refine lv_iconst (v := 1) hx hb dX3_isSound_41 (by decide) ?_
      refine lv_goto (tgt := 46) hx hb dX3_isSound_42 (by decide) ?_
      exact g_zret hQ hx hb hr rfl hP hK hD hS (Nat.le_of_ble_eq_true rfl) (Nat.le_of_ble_eq_true rfl) dX3_isSound_46 hlocks (Option.some.inj h)
set_option maxHeartbeats 4000000 in
set_option maxRecDepth 100000 in
theorem m_X3_numberAnew (l : Launch) (hst : l.stackTraces = false) (D : va_G) (cy : Nat → ClassId) (tx : List (ClassId × FieldType)) (ad : Nat → Nat) (R : va_W) (sz : Nat) (S : PS)  (S' : PS) (v : Int32) (h : q_X3_numberAnew S = some (S', v)) : gMi l yX3_numberAnew wsX3_numberAnew ({ frames := 4, cells := 0, slots := 0, locals := 95 }) 0 0 D (gT cy ++ tx) [.ref (ad 4)] sz (xW cy ad S R) (xW cy ad S' R) v := by
  refine Met.ofW (cc := cX3_numberAnew) (maxL := 6) (ret := (some .int)) (by decide) rfl ?_
  intro p e s m args below meth c s₁ B hml hv
  obtain ⟨hav, hsz, hP, hK, hD0, hE⟩ := hv
  have hx := B.exec
  have hb := B.bytes
  have hr := B.returns
  have hts := atoms_spec (ws := wsX3_numberAnew) B.pre
  have hown : s.vm.findClass RX3 = some m.cls := findClass_of_methodNamed B.named
  have hlocks := B.notSynchronized
  subst hsz
  have hD := hD0.self (sz := s.heap.size)
  generalize hAe : va_A (xW cy ad S R) s.heap.size = A at hD hE ⊢
  have hA : ∀ q : Nat, s.heap.size ≤ q → A q := fun q h => by rw [← hAe]; exact Or.inr h
  have hS : va_S A s.heap s.heap [] := va_S.rf
  have iX3 : ∀ w ∈ u_ws RX3 TX3 13, w ∈ wsX3_numberAnew := by decide +kernel
  have hf15 := hts (.fieldLink RX3 15 "InlinePlanner$Tree" "parents" "[I") (by decide +kernel)
  have hf18 := hts (.fieldLink RX3 18 "InlinePlanner$Tree" "origins" "[I") (by decide +kernel)
  have hf24 := hts (.fieldLink RX3 24 "InlinePlanner$Tree" "verdicts" "[I") (by decide +kernel)
  have hf40 := hts (.fieldLink RX3 40 "InlinePlanner$Tree" "newNumbers" "[I") (by decide +kernel)
  have hf51 := hts (.fieldLink RX3 51 "InlinePlanner$Tree" "count" "I") (by decide +kernel)
  refine g_entry (n := 6) hav (Nat.le_of_ble_eq_true rfl) (fun ls hl => ?_)
  have hl : lv_has ls 6 [(0, .ref (ad 4))] := hl
  refine g_nameQ (fun Q hQ => ?_)
  unfold q_X3_numberAnew at h
  refine lv_iconst (v := 0) hx hb dX3_numberAnew_0 (by decide) ?_
  refine lv_istore_n (lv' := [(1, .int 0), (0, .ref (ad 4))]) hx hb dX3_numberAnew_1 rfl hl (by decide) rfl (fun ls hl => ?_)
  refine lv_iconst (v := 0) hx hb dX3_numberAnew_2 (by decide) ?_
  refine lv_istore_n (lv' := [(2, .int 0), (1, .int 0), (0, .ref (ad 4))]) hx hb dX3_numberAnew_3 rfl hl (by decide) rfl (fun ls hl => ?_)
  have L4 : ∀ (n4 : Nat) (x1 : Int32) (x2 : Int32) (S : PS) (H : Heap) (locs : List Loc) (ls : Array Slot), va_P D vwCl (xW cy ad S R) H → va_D A (xW cy ad S R) → va_S A s.heap H locs → lv_has ls 6 [(0, .ref (ad 4)), (1, .int x1), (2, .int x2)] → iter3 (q_X3_numberAnew_L4  ) n4 x1 x2 S = some (S', v) → W p l e (headSpec wsX3_numberAnew ({ frames := 4, cells := 0, slots := 0, locals := 95 })).room s m args below meth c H locs 0 0 Q (F0 m 4 ls []) := by
    intro  n4
    induction n4 with
    | zero =>
      intro x1 x2 S H locs ls hP hD hS hl h
      exact (it3_0 h).elim
    | succ n4 ih4 =>
      intro x1 x2 S H locs ls hP hD hS hl h
      have h : q_X3_numberAnew_L4   (iter3 (q_X3_numberAnew_L4  ) n4) x1 x2 S = some (S', v) := h
      unfold q_X3_numberAnew_L4 at h
      refine lv_iload_n hx hb dX3_numberAnew_4 rfl (lv_at hl 2 rfl) ?_
      refine lv_aload_n hx hb dX3_numberAnew_5 rfl (lv_at hl 0 rfl) ?_
      refine xgX3_0 hx hb hts iX3 hown hK hP hf51 dX3_numberAnew_6 ?_
      refine lv_icmp_ge (tgt := 114) hx hb dX3_numberAnew_9 (by decide) (fun hc => ?_) (fun hc => ?_)
      · have h := o_pos hc h
        refine lv_iload_n hx hb dX3_numberAnew_114 rfl (lv_at hl 1 rfl) ?_
        obtain ⟨eS, ev⟩ := Prod.mk.inj (Option.some.inj h)
        subst eS
        exact g_iret hQ hx hb hr hP hK hD hS (Nat.le_of_ble_eq_true rfl) (Nat.le_of_ble_eq_true rfl) dX3_numberAnew_115 hlocks ev
      · have h := o_neg hc h
        refine lv_aload_n hx hb dX3_numberAnew_12 rfl (lv_at hl 0 rfl) ?_
        refine xgX3_3 hx hb hts iX3 hown hK hP hf15 dX3_numberAnew_13 ?_
        refine lv_iload_n hx hb dX3_numberAnew_16 rfl (lv_at hl 2 rfl) ?_
        obtain ⟨v1, ev1, h⟩ := o_bind h
        refine xld10 hx hb hK hP ev1 dX3_numberAnew_17 ?_
        refine lv_istore_n (lv' := [(3, .int v1), (0, .ref (ad 4)), (1, .int x1), (2, .int x2)]) hx hb dX3_numberAnew_18 rfl hl (by decide) rfl (fun ls hl => ?_)
        refine lv_iload_n hx hb dX3_numberAnew_19 rfl (lv_at hl 0 rfl) ?_
        refine lv_if_lt (tgt := 32) hx hb dX3_numberAnew_20 (by decide) (fun hc => ?_) (fun hc => ?_)
        · have h := o_pos hc h
          refine lv_iconst (v := 1) hx hb dX3_numberAnew_32 (by decide) ?_
          refine lv_goto (tgt := 37) hx hb dX3_numberAnew_33 (by decide) ?_
          refine lv_istore (lv' := [(4, .int 1), (3, .int v1), (0, .ref (ad 4)), (1, .int x1), (2, .int x2)]) hx hb dX3_numberAnew_37 hl (by decide) rfl (fun ls hl => ?_)
          refine lv_iload hx hb dX3_numberAnew_39 (lv_at hl 0 rfl) ?_
          refine lv_if_eq (tgt := 56) hx hb dX3_numberAnew_41 (by decide) (fun hc => absurd hc (by decide)) (fun _ => ?_)
          refine lv_aload_n hx hb dX3_numberAnew_44 rfl (lv_at hl 2 rfl) ?_
          refine lv_iload_n hx hb dX3_numberAnew_45 rfl (lv_at hl 4 rfl) ?_
          obtain ⟨v2, ev2, h⟩ := o_bind h
          refine g_cVi (As := [.int x2]) (rest := []) ⟨hx, hb, hml, hown, hts⟩ (m_X3_isSound l hst D cy tx ad R _ S x2 v2 ev2) (cwV 1 hts gX3_numberAnew_X3_isSound rfl rfl rfl (by decide +kernel) ⟨Nat.le_of_ble_eq_true rfl, Nat.le_of_ble_eq_true rfl⟩) (va_recv hK hP (ci := 3) (q0 := 4) rfl rfl) hP hK hD hS hA hE rfl hl.1 rfl (Nat.le_of_ble_eq_true rfl) dX3_numberAnew_46 ⟨Nat.le_of_ble_eq_true rfl, Nat.le_of_ble_eq_true rfl⟩ (fun H locs hP hD hS => ?_)
          refine lv_if_eq (tgt := 56) hx hb dX3_numberAnew_49 (by decide) (fun hc => ?_) (fun hc => ?_)
          · have h := o_pos hc h
            refine lv_iconst (v := 0) hx hb dX3_numberAnew_56 (by decide) ?_
            refine lv_istore (lv' := [(5, .int 0), (4, .int 1), (3, .int v1), (0, .ref (ad 4)), (1, .int x1), (2, .int x2)]) hx hb dX3_numberAnew_57 hl (by decide) rfl (fun ls hl => ?_)
            refine lv_aload_n hx hb dX3_numberAnew_59 rfl (lv_at hl 3 rfl) ?_
            refine xgX3_12 hx hb hts iX3 hown hK hP hf40 dX3_numberAnew_60 ?_
            refine lv_iload_n hx hb dX3_numberAnew_63 rfl (lv_at hl 5 rfl) ?_
            refine lv_iload hx hb dX3_numberAnew_64 (lv_at hl 0 rfl) ?_
            refine lv_if_eq (tgt := 73) hx hb dX3_numberAnew_66 (by decide) (fun _ => ?_) (fun hc => absurd (by decide) hc)
            refine lv_iconst (v := (-1)) hx hb dX3_numberAnew_73 (by decide) ?_
            obtain ⟨S3, eS3, h⟩ := o_bind h
            refine xst16 hx hb hK hP hD hS eS3 dX3_numberAnew_74 (fun H locs hP hD hS => ?_)
            refine lv_iload hx hb dX3_numberAnew_75 (lv_at hl 0 rfl) ?_
            refine lv_if_eq (tgt := 86) hx hb dX3_numberAnew_77 (by decide) (fun _ => ?_) (fun hc => absurd (by decide) hc)
            refine lv_iload hx hb dX3_numberAnew_86 (lv_at hl 1 rfl) ?_
            refine lv_if_eq (tgt := 108) hx hb dX3_numberAnew_88 (by decide) (fun hc => absurd hc (by decide)) (fun _ => ?_)
            refine lv_aload_n hx hb dX3_numberAnew_91 rfl (lv_at hl 3 rfl) ?_
            refine xgX3_6 hx hb hts iX3 hown hK hP hf24 dX3_numberAnew_92 ?_
            refine lv_iload_n hx hb dX3_numberAnew_95 rfl (lv_at hl 2 rfl) ?_
            refine lv_aload_n hx hb dX3_numberAnew_96 rfl (lv_at hl 3 rfl) ?_
            refine xgX3_4 hx hb hts iX3 hown hK hP hf18 dX3_numberAnew_97 ?_
            refine lv_iload_n hx hb dX3_numberAnew_100 rfl (lv_at hl 5 rfl) ?_
            obtain ⟨v4, ev4, h⟩ := o_bind h
            refine xld11 hx hb hK hP ev4 dX3_numberAnew_101 ?_
            obtain ⟨v5, ev5, h⟩ := o_bind h
            refine g_cNi (As := [.int v1, .int v4]) (rest := [.ref (ad 19)]) ⟨hx, hb, hml, hown, hts⟩ (m_X5_slot l hst D (gT cy ++ tx) (xW cy ad S3 R) _ v1 v4 v5 ev5) ⟨va_cnB 2 hts gX3_numberAnew_X5_slot_n89 rfl rfl rfl (hE.2.2.2.1 (.methodLinkNest RX3 89 yX5_slot RX5) (by decide +kernel)) (hts (.initialized RX5) (by decide +kernel)) (by decide +kernel) ⟨Nat.le_of_ble_eq_true rfl, Nat.le_of_ble_eq_true rfl⟩, hts (.static yX5_slot) (by decide +kernel), trivial⟩ hP hK hD hS hA hE rfl hl.1 rfl (Nat.le_of_ble_eq_true rfl) dX3_numberAnew_102 ⟨Nat.le_of_ble_eq_true rfl, Nat.le_of_ble_eq_true rfl⟩ (fun H locs hP hD hS => ?_)
            refine lv_bipush (v := 7) hx hb dX3_numberAnew_105 (by decide) ?_
            obtain ⟨S6, eS6, h⟩ := o_bind h
            refine xst13 hx hb hK hP hD hS eS6 dX3_numberAnew_107 (fun H locs hP hD hS => ?_)
            refine lv_iinc (v := (x2 + 1)) (lv' := [(2, .int (x2 + 1)), (5, .int 0), (4, .int 1), (3, .int v1), (0, .ref (ad 4)), (1, .int x1)]) hx hb dX3_numberAnew_108 hl (k := 5) rfl rfl (by decide) rfl (fun ls hl => ?_)
            refine lv_goto (tgt := 4) hx hb dX3_numberAnew_111 (by decide) ?_
            exact ih4 x1 (x2 + 1) S6 _ _ ls hP hD hS (lv_sub hl [4, 5, 0] rfl) h
          · have h := o_neg hc h
            refine lv_iconst (v := 1) hx hb dX3_numberAnew_52 (by decide) ?_
            refine lv_goto (tgt := 57) hx hb dX3_numberAnew_53 (by decide) ?_
            refine lv_istore (lv' := [(5, .int 1), (4, .int 1), (3, .int v1), (0, .ref (ad 4)), (1, .int x1), (2, .int x2)]) hx hb dX3_numberAnew_57 hl (by decide) rfl (fun ls hl => ?_)
            refine lv_aload_n hx hb dX3_numberAnew_59 rfl (lv_at hl 3 rfl) ?_
            refine xgX3_12 hx hb hts iX3 hown hK hP hf40 dX3_numberAnew_60 ?_
            refine lv_iload_n hx hb dX3_numberAnew_63 rfl (lv_at hl 5 rfl) ?_
            refine lv_iload hx hb dX3_numberAnew_64 (lv_at hl 0 rfl) ?_
            refine lv_if_eq (tgt := 73) hx hb dX3_numberAnew_66 (by decide) (fun hc => absurd hc (by decide)) (fun _ => ?_)
            refine lv_iload_n hx hb dX3_numberAnew_69 rfl (lv_at hl 4 rfl) ?_
            refine lv_goto (tgt := 74) hx hb dX3_numberAnew_70 (by decide) ?_
            obtain ⟨S7, eS7, h⟩ := o_bind h
            refine xst16 hx hb hK hP hD hS eS7 dX3_numberAnew_74 (fun H locs hP hD hS => ?_)
            refine lv_iload hx hb dX3_numberAnew_75 (lv_at hl 0 rfl) ?_
            refine lv_if_eq (tgt := 86) hx hb dX3_numberAnew_77 (by decide) (fun hc => absurd hc (by decide)) (fun _ => ?_)
            refine lv_iinc (v := (x1 + 1)) (lv' := [(1, .int (x1 + 1)), (5, .int 1), (4, .int 1), (3, .int v1), (0, .ref (ad 4)), (2, .int x2)]) hx hb dX3_numberAnew_80 hl (k := 4) rfl rfl (by decide) rfl (fun ls hl => ?_)
            refine lv_goto (tgt := 108) hx hb dX3_numberAnew_83 (by decide) ?_
            refine lv_iinc (v := (x2 + 1)) (lv' := [(2, .int (x2 + 1)), (1, .int (x1 + 1)), (5, .int 1), (4, .int 1), (3, .int v1), (0, .ref (ad 4))]) hx hb dX3_numberAnew_108 hl (k := 5) rfl rfl (by decide) rfl (fun ls hl => ?_)
            refine lv_goto (tgt := 4) hx hb dX3_numberAnew_111 (by decide) ?_
            exact ih4 (x1 + 1) (x2 + 1) S7 _ _ ls hP hD hS (lv_sub hl [5, 1, 0] rfl) h
        · have h := o_neg hc h
          refine lv_aload_n hx hb dX3_numberAnew_23 rfl (lv_at hl 1 rfl) ?_
          refine xgX3_12 hx hb hts iX3 hown hK hP hf40 dX3_numberAnew_24 ?_
          refine lv_iload_n hx hb dX3_numberAnew_27 rfl (lv_at hl 0 rfl) ?_
          obtain ⟨v8, ev8, h⟩ := o_bind h
          refine xld16 hx hb hK hP ev8 dX3_numberAnew_28 ?_
          refine lv_if_lt (tgt := 36) hx hb dX3_numberAnew_29 (by decide) (fun hc => ?_) (fun hc => ?_)
          · have h := o_pos hc h
            refine lv_iconst (v := 0) hx hb dX3_numberAnew_36 (by decide) ?_
            refine lv_istore (lv' := [(4, .int 0), (3, .int v1), (0, .ref (ad 4)), (1, .int x1), (2, .int x2)]) hx hb dX3_numberAnew_37 hl (by decide) rfl (fun ls hl => ?_)
            refine lv_iload hx hb dX3_numberAnew_39 (lv_at hl 0 rfl) ?_
            refine lv_if_eq (tgt := 56) hx hb dX3_numberAnew_41 (by decide) (fun _ => ?_) (fun hc => absurd (by decide) hc)
            refine lv_iconst (v := 0) hx hb dX3_numberAnew_56 (by decide) ?_
            refine lv_istore (lv' := [(5, .int 0), (4, .int 0), (3, .int v1), (0, .ref (ad 4)), (1, .int x1), (2, .int x2)]) hx hb dX3_numberAnew_57 hl (by decide) rfl (fun ls hl => ?_)
            refine lv_aload_n hx hb dX3_numberAnew_59 rfl (lv_at hl 3 rfl) ?_
            refine xgX3_12 hx hb hts iX3 hown hK hP hf40 dX3_numberAnew_60 ?_
            refine lv_iload_n hx hb dX3_numberAnew_63 rfl (lv_at hl 5 rfl) ?_
            refine lv_iload hx hb dX3_numberAnew_64 (lv_at hl 0 rfl) ?_
            refine lv_if_eq (tgt := 73) hx hb dX3_numberAnew_66 (by decide) (fun _ => ?_) (fun hc => absurd (by decide) hc)
            refine lv_iconst (v := (-1)) hx hb dX3_numberAnew_73 (by decide) ?_
            obtain ⟨S9, eS9, h⟩ := o_bind h
            refine xst16 hx hb hK hP hD hS eS9 dX3_numberAnew_74 (fun H locs hP hD hS => ?_)
            refine lv_iload hx hb dX3_numberAnew_75 (lv_at hl 0 rfl) ?_
            refine lv_if_eq (tgt := 86) hx hb dX3_numberAnew_77 (by decide) (fun _ => ?_) (fun hc => absurd (by decide) hc)
            refine lv_iload hx hb dX3_numberAnew_86 (lv_at hl 1 rfl) ?_
            refine lv_if_eq (tgt := 108) hx hb dX3_numberAnew_88 (by decide) (fun _ => ?_) (fun hc => absurd (by decide) hc)
            refine lv_iinc (v := (x2 + 1)) (lv' := [(2, .int (x2 + 1)), (5, .int 0), (4, .int 0), (3, .int v1), (0, .ref (ad 4)), (1, .int x1)]) hx hb dX3_numberAnew_108 hl (k := 5) rfl rfl (by decide) rfl (fun ls hl => ?_)
            refine lv_goto (tgt := 4) hx hb dX3_numberAnew_111 (by decide) ?_
            exact ih4 x1 (x2 + 1) S9 _ _ ls hP hD hS (lv_sub hl [4, 5, 0] rfl) h
          · have h := o_neg hc h
            refine lv_iconst (v := 1) hx hb dX3_numberAnew_32 (by decide) ?_
            refine lv_goto (tgt := 37) hx hb dX3_numberAnew_33 (by decide) ?_
            refine lv_istore (lv' := [(4, .int 1), (3, .int v1), (0, .ref (ad 4)), (1, .int x1), (2, .int x2)]) hx hb dX3_numberAnew_37 hl (by decide) rfl (fun ls hl => ?_)
            refine lv_iload hx hb dX3_numberAnew_39 (lv_at hl 0 rfl) ?_
            refine lv_if_eq (tgt := 56) hx hb dX3_numberAnew_41 (by decide) (fun hc => absurd hc (by decide)) (fun _ => ?_)
            refine lv_aload_n hx hb dX3_numberAnew_44 rfl (lv_at hl 2 rfl) ?_
            refine lv_iload_n hx hb dX3_numberAnew_45 rfl (lv_at hl 4 rfl) ?_
            obtain ⟨v10, ev10, h⟩ := o_bind h
            refine g_cVi (As := [.int x2]) (rest := []) ⟨hx, hb, hml, hown, hts⟩ (m_X3_isSound l hst D cy tx ad R _ S x2 v10 ev10) (cwV 1 hts gX3_numberAnew_X3_isSound rfl rfl rfl (by decide +kernel) ⟨Nat.le_of_ble_eq_true rfl, Nat.le_of_ble_eq_true rfl⟩) (va_recv hK hP (ci := 3) (q0 := 4) rfl rfl) hP hK hD hS hA hE rfl hl.1 rfl (Nat.le_of_ble_eq_true rfl) dX3_numberAnew_46 ⟨Nat.le_of_ble_eq_true rfl, Nat.le_of_ble_eq_true rfl⟩ (fun H locs hP hD hS => ?_)
            refine lv_if_eq (tgt := 56) hx hb dX3_numberAnew_49 (by decide) (fun hc => ?_) (fun hc => ?_)
            · have h := o_pos hc h
              refine lv_iconst (v := 0) hx hb dX3_numberAnew_56 (by decide) ?_
              refine lv_istore (lv' := [(5, .int 0), (4, .int 1), (3, .int v1), (0, .ref (ad 4)), (1, .int x1), (2, .int x2)]) hx hb dX3_numberAnew_57 hl (by decide) rfl (fun ls hl => ?_)
              refine lv_aload_n hx hb dX3_numberAnew_59 rfl (lv_at hl 3 rfl) ?_
              refine xgX3_12 hx hb hts iX3 hown hK hP hf40 dX3_numberAnew_60 ?_
              refine lv_iload_n hx hb dX3_numberAnew_63 rfl (lv_at hl 5 rfl) ?_
              refine lv_iload hx hb dX3_numberAnew_64 (lv_at hl 0 rfl) ?_
              refine lv_if_eq (tgt := 73) hx hb dX3_numberAnew_66 (by decide) (fun _ => ?_) (fun hc => absurd (by decide) hc)
              refine lv_iconst (v := (-1)) hx hb dX3_numberAnew_73 (by decide) ?_
              obtain ⟨S11, eS11, h⟩ := o_bind h
              refine xst16 hx hb hK hP hD hS eS11 dX3_numberAnew_74 (fun H locs hP hD hS => ?_)
              refine lv_iload hx hb dX3_numberAnew_75 (lv_at hl 0 rfl) ?_
              refine lv_if_eq (tgt := 86) hx hb dX3_numberAnew_77 (by decide) (fun _ => ?_) (fun hc => absurd (by decide) hc)
              refine lv_iload hx hb dX3_numberAnew_86 (lv_at hl 1 rfl) ?_
              refine lv_if_eq (tgt := 108) hx hb dX3_numberAnew_88 (by decide) (fun hc => absurd hc (by decide)) (fun _ => ?_)
              refine lv_aload_n hx hb dX3_numberAnew_91 rfl (lv_at hl 3 rfl) ?_
              refine xgX3_6 hx hb hts iX3 hown hK hP hf24 dX3_numberAnew_92 ?_
              refine lv_iload_n hx hb dX3_numberAnew_95 rfl (lv_at hl 2 rfl) ?_
              refine lv_aload_n hx hb dX3_numberAnew_96 rfl (lv_at hl 3 rfl) ?_
              refine xgX3_4 hx hb hts iX3 hown hK hP hf18 dX3_numberAnew_97 ?_
              refine lv_iload_n hx hb dX3_numberAnew_100 rfl (lv_at hl 5 rfl) ?_
              obtain ⟨v12, ev12, h⟩ := o_bind h
              refine xld11 hx hb hK hP ev12 dX3_numberAnew_101 ?_
              obtain ⟨v13, ev13, h⟩ := o_bind h
              refine g_cNi (As := [.int v1, .int v12]) (rest := [.ref (ad 19)]) ⟨hx, hb, hml, hown, hts⟩ (m_X5_slot l hst D (gT cy ++ tx) (xW cy ad S11 R) _ v1 v12 v13 ev13) ⟨va_cnB 2 hts gX3_numberAnew_X5_slot_n89 rfl rfl rfl (hE.2.2.2.1 (.methodLinkNest RX3 89 yX5_slot RX5) (by decide +kernel)) (hts (.initialized RX5) (by decide +kernel)) (by decide +kernel) ⟨Nat.le_of_ble_eq_true rfl, Nat.le_of_ble_eq_true rfl⟩, hts (.static yX5_slot) (by decide +kernel), trivial⟩ hP hK hD hS hA hE rfl hl.1 rfl (Nat.le_of_ble_eq_true rfl) dX3_numberAnew_102 ⟨Nat.le_of_ble_eq_true rfl, Nat.le_of_ble_eq_true rfl⟩ (fun H locs hP hD hS => ?_)
              refine lv_bipush (v := 7) hx hb dX3_numberAnew_105 (by decide) ?_
              obtain ⟨S14, eS14, h⟩ := o_bind h
              refine xst13 hx hb hK hP hD hS eS14 dX3_numberAnew_107 (fun H locs hP hD hS => ?_)
              refine lv_iinc (v := (x2 + 1)) (lv' := [(2, .int (x2 + 1)), (5, .int 0), (4, .int 1), (3, .int v1), (0, .ref (ad 4)), (1, .int x1)]) hx hb dX3_numberAnew_108 hl (k := 5) rfl rfl (by decide) rfl (fun ls hl => ?_)
              refine lv_goto (tgt := 4) hx hb dX3_numberAnew_111 (by decide) ?_
              exact ih4 x1 (x2 + 1) S14 _ _ ls hP hD hS (lv_sub hl [4, 5, 0] rfl) h
            · have h := o_neg hc h
              refine lv_iconst (v := 1) hx hb dX3_numberAnew_52 (by decide) ?_
              refine lv_goto (tgt := 57) hx hb dX3_numberAnew_53 (by decide) ?_
              refine lv_istore (lv' := [(5, .int 1), (4, .int 1), (3, .int v1), (0, .ref (ad 4)), (1, .int x1), (2, .int x2)]) hx hb dX3_numberAnew_57 hl (by decide) rfl (fun ls hl => ?_)
              refine lv_aload_n hx hb dX3_numberAnew_59 rfl (lv_at hl 3 rfl) ?_
              refine xgX3_12 hx hb hts iX3 hown hK hP hf40 dX3_numberAnew_60 ?_
              refine lv_iload_n hx hb dX3_numberAnew_63 rfl (lv_at hl 5 rfl) ?_
              refine lv_iload hx hb dX3_numberAnew_64 (lv_at hl 0 rfl) ?_
              refine lv_if_eq (tgt := 73) hx hb dX3_numberAnew_66 (by decide) (fun hc => absurd hc (by decide)) (fun _ => ?_)
              refine lv_iload_n hx hb dX3_numberAnew_69 rfl (lv_at hl 4 rfl) ?_
              refine lv_goto (tgt := 74) hx hb dX3_numberAnew_70 (by decide) ?_
              obtain ⟨S15, eS15, h⟩ := o_bind h
              refine xst16 hx hb hK hP hD hS eS15 dX3_numberAnew_74 (fun H locs hP hD hS => ?_)
              refine lv_iload hx hb dX3_numberAnew_75 (lv_at hl 0 rfl) ?_
              refine lv_if_eq (tgt := 86) hx hb dX3_numberAnew_77 (by decide) (fun hc => absurd hc (by decide)) (fun _ => ?_)
              refine lv_iinc (v := (x1 + 1)) (lv' := [(1, .int (x1 + 1)), (5, .int 1), (4, .int 1), (3, .int v1), (0, .ref (ad 4)), (2, .int x2)]) hx hb dX3_numberAnew_80 hl (k := 4) rfl rfl (by decide) rfl (fun ls hl => ?_)
              refine lv_goto (tgt := 108) hx hb dX3_numberAnew_83 (by decide) ?_
              refine lv_iinc (v := (x2 + 1)) (lv' := [(2, .int (x2 + 1)), (1, .int (x1 + 1)), (5, .int 1), (4, .int 1), (3, .int v1), (0, .ref (ad 4))]) hx hb dX3_numberAnew_108 hl (k := 5) rfl rfl (by decide) rfl (fun ls hl => ?_)
              refine lv_goto (tgt := 4) hx hb dX3_numberAnew_111 (by decide) ?_
              exact ih4 (x1 + 1) (x2 + 1) S15 _ _ ls hP hD hS (lv_sub hl [5, 1, 0] rfl) h
  exact L4  1000 0 0 S _ _ ls hP hD hS (lv_sub hl [2, 1, 0] rfl) h
set_option maxHeartbeats 4000000 in
set_option maxRecDepth 100000 in
theorem m_X3_move (l : Launch) (hst : l.stackTraces = false) (D : va_G) (cy : Nat → ClassId) (tx : List (ClassId × FieldType)) (ad : Nat → Nat) (R : va_W) (sz : Nat) (S : PS) (x1 : Int32) (x2 : Int32) (S' : PS) (h : q_X3_move S x1 x2 = some S') : gMv l yX3_move wsX3_move ({ frames := 1, cells := 0, slots := 0, locals := 21 }) 0 0 D (gT cy ++ tx) [.ref (ad 4), .int x1, .int x2] sz (xW cy ad S R) (xW cy ad S' R) := by
  refine Met.ofW (cc := cX3_move) (maxL := 4) (ret := none) (by decide) rfl ?_
  intro p e s m args below meth c s₁ B hml hv
  obtain ⟨hav, hsz, hP, hK, hD0, hE⟩ := hv
  have hx := B.exec
  have hb := B.bytes
  have hr := B.returns
  have hts := atoms_spec (ws := wsX3_move) B.pre
  have hown : s.vm.findClass RX3 = some m.cls := findClass_of_methodNamed B.named
  have hlocks := B.notSynchronized
  subst hsz
  have hD := hD0.self (sz := s.heap.size)
  generalize hAe : va_A (xW cy ad S R) s.heap.size = A at hD hE ⊢
  have hA : ∀ q : Nat, s.heap.size ≤ q → A q := fun q h => by rw [← hAe]; exact Or.inr h
  have hS : va_S A s.heap s.heap [] := va_S.rf
  have iX3 : ∀ w ∈ u_ws RX3 TX3 13, w ∈ wsX3_move := by decide +kernel
  have hf9 := hts (.fieldLink RX3 9 "InlinePlanner$Tree" "methods" "[I") (by decide +kernel)
  have hf15 := hts (.fieldLink RX3 15 "InlinePlanner$Tree" "parents" "[I") (by decide +kernel)
  have hf18 := hts (.fieldLink RX3 18 "InlinePlanner$Tree" "origins" "[I") (by decide +kernel)
  have hf21 := hts (.fieldLink RX3 21 "InlinePlanner$Tree" "depths" "[I") (by decide +kernel)
  have hf24 := hts (.fieldLink RX3 24 "InlinePlanner$Tree" "verdicts" "[I") (by decide +kernel)
  have hf27 := hts (.fieldLink RX3 27 "InlinePlanner$Tree" "weights" "[I") (by decide +kernel)
  have hf40 := hts (.fieldLink RX3 40 "InlinePlanner$Tree" "newNumbers" "[I") (by decide +kernel)
  refine g_entry (n := 4) hav (Nat.le_of_ble_eq_true rfl) (fun ls hl => ?_)
  have hl : lv_has ls 4 [(0, .ref (ad 4)), (1, .int x1), (2, .int x2)] := hl
  refine g_nameQ (fun Q hQ => ?_)
  unfold q_X3_move at h
  refine lv_aload_n hx hb dX3_move_0 rfl (lv_at hl 0 rfl) ?_
  refine xgX3_2 hx hb hts iX3 hown hK hP hf9 dX3_move_1 ?_
  refine lv_iload_n hx hb dX3_move_4 rfl (lv_at hl 2 rfl) ?_
  refine lv_aload_n hx hb dX3_move_5 rfl (lv_at hl 0 rfl) ?_
  refine xgX3_2 hx hb hts iX3 hown hK hP hf9 dX3_move_6 ?_
  refine lv_iload_n hx hb dX3_move_9 rfl (lv_at hl 1 rfl) ?_
  obtain ⟨v1, ev1, h⟩ := o_bind h
  refine xld9 hx hb hK hP ev1 dX3_move_10 ?_
  obtain ⟨S2, eS2, h⟩ := o_bind h
  refine xst9 hx hb hK hP hD hS eS2 dX3_move_11 (fun H locs hP hD hS => ?_)
  refine lv_aload_n hx hb dX3_move_12 rfl (lv_at hl 0 rfl) ?_
  refine xgX3_3 hx hb hts iX3 hown hK hP hf15 dX3_move_13 ?_
  refine lv_iload_n hx hb dX3_move_16 rfl (lv_at hl 2 rfl) ?_
  refine lv_aload_n hx hb dX3_move_17 rfl (lv_at hl 0 rfl) ?_
  refine xgX3_3 hx hb hts iX3 hown hK hP hf15 dX3_move_18 ?_
  refine lv_iload_n hx hb dX3_move_21 rfl (lv_at hl 1 rfl) ?_
  obtain ⟨v3, ev3, h⟩ := o_bind h
  refine xld10 hx hb hK hP ev3 dX3_move_22 ?_
  refine lv_if_ge (tgt := 30) hx hb dX3_move_23 (by decide) (fun hc => ?_) (fun hc => ?_)
  · have h := o_pos hc h
    refine lv_aload_n hx hb dX3_move_30 rfl (lv_at hl 0 rfl) ?_
    refine xgX3_12 hx hb hts iX3 hown hK hP hf40 dX3_move_31 ?_
    refine lv_aload_n hx hb dX3_move_34 rfl (lv_at hl 0 rfl) ?_
    refine xgX3_3 hx hb hts iX3 hown hK hP hf15 dX3_move_35 ?_
    refine lv_iload_n hx hb dX3_move_38 rfl (lv_at hl 1 rfl) ?_
    obtain ⟨v4, ev4, h⟩ := o_bind h
    refine xld10 hx hb hK hP ev4 dX3_move_39 ?_
    obtain ⟨v5, ev5, h⟩ := o_bind h
    refine xld16 hx hb hK hP ev5 dX3_move_40 ?_
    obtain ⟨S6, eS6, h⟩ := o_bind h
    refine xst10 hx hb hK hP hD hS eS6 dX3_move_41 (fun H locs hP hD hS => ?_)
    refine lv_aload_n hx hb dX3_move_42 rfl (lv_at hl 0 rfl) ?_
    refine xgX3_4 hx hb hts iX3 hown hK hP hf18 dX3_move_43 ?_
    refine lv_iload_n hx hb dX3_move_46 rfl (lv_at hl 2 rfl) ?_
    refine lv_aload_n hx hb dX3_move_47 rfl (lv_at hl 0 rfl) ?_
    refine xgX3_4 hx hb hts iX3 hown hK hP hf18 dX3_move_48 ?_
    refine lv_iload_n hx hb dX3_move_51 rfl (lv_at hl 1 rfl) ?_
    obtain ⟨v7, ev7, h⟩ := o_bind h
    refine xld11 hx hb hK hP ev7 dX3_move_52 ?_
    obtain ⟨S8, eS8, h⟩ := o_bind h
    refine xst11 hx hb hK hP hD hS eS8 dX3_move_53 (fun H locs hP hD hS => ?_)
    refine lv_aload_n hx hb dX3_move_54 rfl (lv_at hl 0 rfl) ?_
    refine xgX3_5 hx hb hts iX3 hown hK hP hf21 dX3_move_55 ?_
    refine lv_iload_n hx hb dX3_move_58 rfl (lv_at hl 2 rfl) ?_
    refine lv_aload_n hx hb dX3_move_59 rfl (lv_at hl 0 rfl) ?_
    refine xgX3_5 hx hb hts iX3 hown hK hP hf21 dX3_move_60 ?_
    refine lv_iload_n hx hb dX3_move_63 rfl (lv_at hl 1 rfl) ?_
    obtain ⟨v9, ev9, h⟩ := o_bind h
    refine xld12 hx hb hK hP ev9 dX3_move_64 ?_
    obtain ⟨S10, eS10, h⟩ := o_bind h
    refine xst12 hx hb hK hP hD hS eS10 dX3_move_65 (fun H locs hP hD hS => ?_)
    refine lv_iconst (v := 0) hx hb dX3_move_66 (by decide) ?_
    refine lv_istore_n (lv' := [(3, .int 0), (0, .ref (ad 4)), (1, .int x1), (2, .int x2)]) hx hb dX3_move_67 rfl hl (by decide) rfl (fun ls hl => ?_)
    have L68 : ∀ (n68 : Nat) (x3 : Int32) (S : PS) (H : Heap) (locs : List Loc) (ls : Array Slot), va_P D vwCl (xW cy ad S R) H → va_D A (xW cy ad S R) → va_S A s.heap H locs → lv_has ls 4 [(0, .ref (ad 4)), (1, .int x1), (2, .int x2), (3, .int x3)] → iter2 (q_X3_move_L68 x1 x2 ) n68 x3 S = some S' → W p l e (headSpec wsX3_move ({ frames := 1, cells := 0, slots := 0, locals := 21 })).room s m args below meth c H locs 0 0 Q (F0 m 68 ls []) := by
      intro  n68
      induction n68 with
      | zero =>
        intro x3 S H locs ls hP hD hS hl h
        exact (it2_0 h).elim
      | succ n68 ih68 =>
        intro x3 S H locs ls hP hD hS hl h
        have h : q_X3_move_L68 x1 x2  (iter2 (q_X3_move_L68 x1 x2 ) n68) x3 S = some S' := h
        unfold q_X3_move_L68 at h
        refine lv_iload_n hx hb dX3_move_68 rfl (lv_at hl 3 rfl) ?_
        refine lv_aload_n hx hb dX3_move_69 rfl (lv_at hl 0 rfl) ?_
        refine lv_iload_n hx hb dX3_move_70 rfl (lv_at hl 2 rfl) ?_
        obtain ⟨v11, ev11, h⟩ := o_bind h
        refine g_cVi (As := [.int x2]) (rest := [.int x3]) ⟨hx, hb, hml, hown, hts⟩ (m_X3_sitesAt l hst D cy tx ad R _ S x2 v11 ev11) (cwV 1 hts gX3_move_X3_sitesAt rfl rfl rfl (by decide +kernel) ⟨Nat.le_of_ble_eq_true rfl, Nat.le_of_ble_eq_true rfl⟩) (va_recv hK hP (ci := 3) (q0 := 4) rfl rfl) hP hK hD hS hA hE rfl hl.1 rfl (Nat.le_of_ble_eq_true rfl) dX3_move_71 ⟨Nat.le_of_ble_eq_true rfl, Nat.le_of_ble_eq_true rfl⟩ (fun H locs hP hD hS => ?_)
        refine lv_icmp_ge (tgt := 123) hx hb dX3_move_74 (by decide) (fun hc => ?_) (fun hc => ?_)
        · have h := o_pos hc h
          have eS := Option.some.inj h
          subst eS
          exact g_vret hQ hx hb hr hP hK hD hS (Nat.le_of_ble_eq_true rfl) (Nat.le_of_ble_eq_true rfl) dX3_move_123 hlocks
        · have h := o_neg hc h
          refine lv_aload_n hx hb dX3_move_77 rfl (lv_at hl 0 rfl) ?_
          refine xgX3_6 hx hb hts iX3 hown hK hP hf24 dX3_move_78 ?_
          refine lv_iload_n hx hb dX3_move_81 rfl (lv_at hl 2 rfl) ?_
          refine lv_iload_n hx hb dX3_move_82 rfl (lv_at hl 3 rfl) ?_
          obtain ⟨v12, ev12, h⟩ := o_bind h
          refine g_cNi (As := [.int x2, .int x3]) (rest := [.ref (ad 19)]) ⟨hx, hb, hml, hown, hts⟩ (m_X5_slot l hst D (gT cy ++ tx) (xW cy ad S R) _ x2 x3 v12 ev12) ⟨va_cnB 2 hts gX3_move_X5_slot_n89 rfl rfl rfl (hE.2.2.2.1 (.methodLinkNest RX3 89 yX5_slot RX5) (by decide +kernel)) (hts (.initialized RX5) (by decide +kernel)) (by decide +kernel) ⟨Nat.le_of_ble_eq_true rfl, Nat.le_of_ble_eq_true rfl⟩, hts (.static yX5_slot) (by decide +kernel), trivial⟩ hP hK hD hS hA hE rfl hl.1 rfl (Nat.le_of_ble_eq_true rfl) dX3_move_83 ⟨Nat.le_of_ble_eq_true rfl, Nat.le_of_ble_eq_true rfl⟩ (fun H locs hP hD hS => ?_)
          refine lv_aload_n hx hb dX3_move_86 rfl (lv_at hl 0 rfl) ?_
          refine xgX3_6 hx hb hts iX3 hown hK hP hf24 dX3_move_87 ?_
          refine lv_iload_n hx hb dX3_move_90 rfl (lv_at hl 1 rfl) ?_
          refine lv_iload_n hx hb dX3_move_91 rfl (lv_at hl 3 rfl) ?_
          obtain ⟨v13, ev13, h⟩ := o_bind h
          refine g_cNi (As := [.int x1, .int x3]) (rest := [.ref (ad 19), .int v12, .ref (ad 19)]) ⟨hx, hb, hml, hown, hts⟩ (m_X5_slot l hst D (gT cy ++ tx) (xW cy ad S R) _ x1 x3 v13 ev13) ⟨va_cnB 2 hts gX3_move_X5_slot_n89 rfl rfl rfl (hE.2.2.2.1 (.methodLinkNest RX3 89 yX5_slot RX5) (by decide +kernel)) (hts (.initialized RX5) (by decide +kernel)) (by decide +kernel) ⟨Nat.le_of_ble_eq_true rfl, Nat.le_of_ble_eq_true rfl⟩, hts (.static yX5_slot) (by decide +kernel), trivial⟩ hP hK hD hS hA hE rfl hl.1 rfl (Nat.le_of_ble_eq_true rfl) dX3_move_92 ⟨Nat.le_of_ble_eq_true rfl, Nat.le_of_ble_eq_true rfl⟩ (fun H locs hP hD hS => ?_)
          obtain ⟨v14, ev14, h⟩ := o_bind h
          refine xld13 hx hb hK hP ev14 dX3_move_95 ?_
          obtain ⟨S15, eS15, h⟩ := o_bind h
          refine xst13 hx hb hK hP hD hS eS15 dX3_move_96 (fun H locs hP hD hS => ?_)
          refine lv_aload_n hx hb dX3_move_97 rfl (lv_at hl 0 rfl) ?_
          refine xgX3_7 hx hb hts iX3 hown hK hP hf27 dX3_move_98 ?_
          refine lv_iload_n hx hb dX3_move_101 rfl (lv_at hl 2 rfl) ?_
          refine lv_iload_n hx hb dX3_move_102 rfl (lv_at hl 3 rfl) ?_
          obtain ⟨v16, ev16, h⟩ := o_bind h
          refine g_cNi (As := [.int x2, .int x3]) (rest := [.ref (ad 20)]) ⟨hx, hb, hml, hown, hts⟩ (m_X5_slot l hst D (gT cy ++ tx) (xW cy ad S15 R) _ x2 x3 v16 ev16) ⟨va_cnB 2 hts gX3_move_X5_slot_n89 rfl rfl rfl (hE.2.2.2.1 (.methodLinkNest RX3 89 yX5_slot RX5) (by decide +kernel)) (hts (.initialized RX5) (by decide +kernel)) (by decide +kernel) ⟨Nat.le_of_ble_eq_true rfl, Nat.le_of_ble_eq_true rfl⟩, hts (.static yX5_slot) (by decide +kernel), trivial⟩ hP hK hD hS hA hE rfl hl.1 rfl (Nat.le_of_ble_eq_true rfl) dX3_move_103 ⟨Nat.le_of_ble_eq_true rfl, Nat.le_of_ble_eq_true rfl⟩ (fun H locs hP hD hS => ?_)
          refine lv_aload_n hx hb dX3_move_106 rfl (lv_at hl 0 rfl) ?_
          refine xgX3_7 hx hb hts iX3 hown hK hP hf27 dX3_move_107 ?_
          refine lv_iload_n hx hb dX3_move_110 rfl (lv_at hl 1 rfl) ?_
          refine lv_iload_n hx hb dX3_move_111 rfl (lv_at hl 3 rfl) ?_
          obtain ⟨v17, ev17, h⟩ := o_bind h
          refine g_cNi (As := [.int x1, .int x3]) (rest := [.ref (ad 20), .int v16, .ref (ad 20)]) ⟨hx, hb, hml, hown, hts⟩ (m_X5_slot l hst D (gT cy ++ tx) (xW cy ad S15 R) _ x1 x3 v17 ev17) ⟨va_cnB 2 hts gX3_move_X5_slot_n89 rfl rfl rfl (hE.2.2.2.1 (.methodLinkNest RX3 89 yX5_slot RX5) (by decide +kernel)) (hts (.initialized RX5) (by decide +kernel)) (by decide +kernel) ⟨Nat.le_of_ble_eq_true rfl, Nat.le_of_ble_eq_true rfl⟩, hts (.static yX5_slot) (by decide +kernel), trivial⟩ hP hK hD hS hA hE rfl hl.1 rfl (Nat.le_of_ble_eq_true rfl) dX3_move_112 ⟨Nat.le_of_ble_eq_true rfl, Nat.le_of_ble_eq_true rfl⟩ (fun H locs hP hD hS => ?_)
          obtain ⟨v18, ev18, h⟩ := o_bind h
          refine xld14 hx hb hK hP ev18 dX3_move_115 ?_
          obtain ⟨S19, eS19, h⟩ := o_bind h
          refine xst14 hx hb hK hP hD hS eS19 dX3_move_116 (fun H locs hP hD hS => ?_)
          refine lv_iinc (v := (x3 + 1)) (lv' := [(3, .int (x3 + 1)), (0, .ref (ad 4)), (1, .int x1), (2, .int x2)]) hx hb dX3_move_117 hl (k := 3) rfl rfl (by decide) rfl (fun ls hl => ?_)
          refine lv_goto (tgt := 68) hx hb dX3_move_120 (by decide) ?_
          exact ih68 (x3 + 1) S19 _ _ ls hP hD hS (lv_sub hl [1, 2, 3, 0] rfl) h
    exact L68  1000 0 S10 _ _ ls hP hD hS (lv_sub hl [1, 2, 3, 0] rfl) h
  · have h := o_neg hc h
    refine lv_iconst (v := (-1)) hx hb dX3_move_26 (by decide) ?_
    refine lv_goto (tgt := 41) hx hb dX3_move_27 (by decide) ?_
    obtain ⟨S20, eS20, h⟩ := o_bind h
    refine xst10 hx hb hK hP hD hS eS20 dX3_move_41 (fun H locs hP hD hS => ?_)
    refine lv_aload_n hx hb dX3_move_42 rfl (lv_at hl 0 rfl) ?_
    refine xgX3_4 hx hb hts iX3 hown hK hP hf18 dX3_move_43 ?_
    refine lv_iload_n hx hb dX3_move_46 rfl (lv_at hl 2 rfl) ?_
    refine lv_aload_n hx hb dX3_move_47 rfl (lv_at hl 0 rfl) ?_
    refine xgX3_4 hx hb hts iX3 hown hK hP hf18 dX3_move_48 ?_
    refine lv_iload_n hx hb dX3_move_51 rfl (lv_at hl 1 rfl) ?_
    obtain ⟨v21, ev21, h⟩ := o_bind h
    refine xld11 hx hb hK hP ev21 dX3_move_52 ?_
    obtain ⟨S22, eS22, h⟩ := o_bind h
    refine xst11 hx hb hK hP hD hS eS22 dX3_move_53 (fun H locs hP hD hS => ?_)
    refine lv_aload_n hx hb dX3_move_54 rfl (lv_at hl 0 rfl) ?_
    refine xgX3_5 hx hb hts iX3 hown hK hP hf21 dX3_move_55 ?_
    refine lv_iload_n hx hb dX3_move_58 rfl (lv_at hl 2 rfl) ?_
    refine lv_aload_n hx hb dX3_move_59 rfl (lv_at hl 0 rfl) ?_
    refine xgX3_5 hx hb hts iX3 hown hK hP hf21 dX3_move_60 ?_
    refine lv_iload_n hx hb dX3_move_63 rfl (lv_at hl 1 rfl) ?_
    obtain ⟨v23, ev23, h⟩ := o_bind h
    refine xld12 hx hb hK hP ev23 dX3_move_64 ?_
    obtain ⟨S24, eS24, h⟩ := o_bind h
    refine xst12 hx hb hK hP hD hS eS24 dX3_move_65 (fun H locs hP hD hS => ?_)
    refine lv_iconst (v := 0) hx hb dX3_move_66 (by decide) ?_
    refine lv_istore_n (lv' := [(3, .int 0), (0, .ref (ad 4)), (1, .int x1), (2, .int x2)]) hx hb dX3_move_67 rfl hl (by decide) rfl (fun ls hl => ?_)
    have L68 : ∀ (n68 : Nat) (x3 : Int32) (S : PS) (H : Heap) (locs : List Loc) (ls : Array Slot), va_P D vwCl (xW cy ad S R) H → va_D A (xW cy ad S R) → va_S A s.heap H locs → lv_has ls 4 [(0, .ref (ad 4)), (1, .int x1), (2, .int x2), (3, .int x3)] → iter2 (q_X3_move_L68 x1 x2 ) n68 x3 S = some S' → W p l e (headSpec wsX3_move ({ frames := 1, cells := 0, slots := 0, locals := 21 })).room s m args below meth c H locs 0 0 Q (F0 m 68 ls []) := by
      intro  n68
      induction n68 with
      | zero =>
        intro x3 S H locs ls hP hD hS hl h
        exact (it2_0 h).elim
      | succ n68 ih68 =>
        intro x3 S H locs ls hP hD hS hl h
        have h : q_X3_move_L68 x1 x2  (iter2 (q_X3_move_L68 x1 x2 ) n68) x3 S = some S' := h
        unfold q_X3_move_L68 at h
        refine lv_iload_n hx hb dX3_move_68 rfl (lv_at hl 3 rfl) ?_
        refine lv_aload_n hx hb dX3_move_69 rfl (lv_at hl 0 rfl) ?_
        refine lv_iload_n hx hb dX3_move_70 rfl (lv_at hl 2 rfl) ?_
        obtain ⟨v25, ev25, h⟩ := o_bind h
        refine g_cVi (As := [.int x2]) (rest := [.int x3]) ⟨hx, hb, hml, hown, hts⟩ (m_X3_sitesAt l hst D cy tx ad R _ S x2 v25 ev25) (cwV 1 hts gX3_move_X3_sitesAt rfl rfl rfl (by decide +kernel) ⟨Nat.le_of_ble_eq_true rfl, Nat.le_of_ble_eq_true rfl⟩) (va_recv hK hP (ci := 3) (q0 := 4) rfl rfl) hP hK hD hS hA hE rfl hl.1 rfl (Nat.le_of_ble_eq_true rfl) dX3_move_71 ⟨Nat.le_of_ble_eq_true rfl, Nat.le_of_ble_eq_true rfl⟩ (fun H locs hP hD hS => ?_)
        refine lv_icmp_ge (tgt := 123) hx hb dX3_move_74 (by decide) (fun hc => ?_) (fun hc => ?_)
        · have h := o_pos hc h
          have eS := Option.some.inj h
          subst eS
          exact g_vret hQ hx hb hr hP hK hD hS (Nat.le_of_ble_eq_true rfl) (Nat.le_of_ble_eq_true rfl) dX3_move_123 hlocks
        · have h := o_neg hc h
          refine lv_aload_n hx hb dX3_move_77 rfl (lv_at hl 0 rfl) ?_
          refine xgX3_6 hx hb hts iX3 hown hK hP hf24 dX3_move_78 ?_
          refine lv_iload_n hx hb dX3_move_81 rfl (lv_at hl 2 rfl) ?_
          refine lv_iload_n hx hb dX3_move_82 rfl (lv_at hl 3 rfl) ?_
          obtain ⟨v26, ev26, h⟩ := o_bind h
          refine g_cNi (As := [.int x2, .int x3]) (rest := [.ref (ad 19)]) ⟨hx, hb, hml, hown, hts⟩ (m_X5_slot l hst D (gT cy ++ tx) (xW cy ad S R) _ x2 x3 v26 ev26) ⟨va_cnB 2 hts gX3_move_X5_slot_n89 rfl rfl rfl (hE.2.2.2.1 (.methodLinkNest RX3 89 yX5_slot RX5) (by decide +kernel)) (hts (.initialized RX5) (by decide +kernel)) (by decide +kernel) ⟨Nat.le_of_ble_eq_true rfl, Nat.le_of_ble_eq_true rfl⟩, hts (.static yX5_slot) (by decide +kernel), trivial⟩ hP hK hD hS hA hE rfl hl.1 rfl (Nat.le_of_ble_eq_true rfl) dX3_move_83 ⟨Nat.le_of_ble_eq_true rfl, Nat.le_of_ble_eq_true rfl⟩ (fun H locs hP hD hS => ?_)
          refine lv_aload_n hx hb dX3_move_86 rfl (lv_at hl 0 rfl) ?_
          refine xgX3_6 hx hb hts iX3 hown hK hP hf24 dX3_move_87 ?_
          refine lv_iload_n hx hb dX3_move_90 rfl (lv_at hl 1 rfl) ?_
          refine lv_iload_n hx hb dX3_move_91 rfl (lv_at hl 3 rfl) ?_
          obtain ⟨v27, ev27, h⟩ := o_bind h
          refine g_cNi (As := [.int x1, .int x3]) (rest := [.ref (ad 19), .int v26, .ref (ad 19)]) ⟨hx, hb, hml, hown, hts⟩ (m_X5_slot l hst D (gT cy ++ tx) (xW cy ad S R) _ x1 x3 v27 ev27) ⟨va_cnB 2 hts gX3_move_X5_slot_n89 rfl rfl rfl (hE.2.2.2.1 (.methodLinkNest RX3 89 yX5_slot RX5) (by decide +kernel)) (hts (.initialized RX5) (by decide +kernel)) (by decide +kernel) ⟨Nat.le_of_ble_eq_true rfl, Nat.le_of_ble_eq_true rfl⟩, hts (.static yX5_slot) (by decide +kernel), trivial⟩ hP hK hD hS hA hE rfl hl.1 rfl (Nat.le_of_ble_eq_true rfl) dX3_move_92 ⟨Nat.le_of_ble_eq_true rfl, Nat.le_of_ble_eq_true rfl⟩ (fun H locs hP hD hS => ?_)
          obtain ⟨v28, ev28, h⟩ := o_bind h
          refine xld13 hx hb hK hP ev28 dX3_move_95 ?_
          obtain ⟨S29, eS29, h⟩ := o_bind h
          refine xst13 hx hb hK hP hD hS eS29 dX3_move_96 (fun H locs hP hD hS => ?_)
          refine lv_aload_n hx hb dX3_move_97 rfl (lv_at hl 0 rfl) ?_
          refine xgX3_7 hx hb hts iX3 hown hK hP hf27 dX3_move_98 ?_
          refine lv_iload_n hx hb dX3_move_101 rfl (lv_at hl 2 rfl) ?_
          refine lv_iload_n hx hb dX3_move_102 rfl (lv_at hl 3 rfl) ?_
          obtain ⟨v30, ev30, h⟩ := o_bind h
          refine g_cNi (As := [.int x2, .int x3]) (rest := [.ref (ad 20)]) ⟨hx, hb, hml, hown, hts⟩ (m_X5_slot l hst D (gT cy ++ tx) (xW cy ad S29 R) _ x2 x3 v30 ev30) ⟨va_cnB 2 hts gX3_move_X5_slot_n89 rfl rfl rfl (hE.2.2.2.1 (.methodLinkNest RX3 89 yX5_slot RX5) (by decide +kernel)) (hts (.initialized RX5) (by decide +kernel)) (by decide +kernel) ⟨Nat.le_of_ble_eq_true rfl, Nat.le_of_ble_eq_true rfl⟩, hts (.static yX5_slot) (by decide +kernel), trivial⟩ hP hK hD hS hA hE rfl hl.1 rfl (Nat.le_of_ble_eq_true rfl) dX3_move_103 ⟨Nat.le_of_ble_eq_true rfl, Nat.le_of_ble_eq_true rfl⟩ (fun H locs hP hD hS => ?_)
          refine lv_aload_n hx hb dX3_move_106 rfl (lv_at hl 0 rfl) ?_
          refine xgX3_7 hx hb hts iX3 hown hK hP hf27 dX3_move_107 ?_
          refine lv_iload_n hx hb dX3_move_110 rfl (lv_at hl 1 rfl) ?_
          refine lv_iload_n hx hb dX3_move_111 rfl (lv_at hl 3 rfl) ?_
          obtain ⟨v31, ev31, h⟩ := o_bind h
          refine g_cNi (As := [.int x1, .int x3]) (rest := [.ref (ad 20), .int v30, .ref (ad 20)]) ⟨hx, hb, hml, hown, hts⟩ (m_X5_slot l hst D (gT cy ++ tx) (xW cy ad S29 R) _ x1 x3 v31 ev31) ⟨va_cnB 2 hts gX3_move_X5_slot_n89 rfl rfl rfl (hE.2.2.2.1 (.methodLinkNest RX3 89 yX5_slot RX5) (by decide +kernel)) (hts (.initialized RX5) (by decide +kernel)) (by decide +kernel) ⟨Nat.le_of_ble_eq_true rfl, Nat.le_of_ble_eq_true rfl⟩, hts (.static yX5_slot) (by decide +kernel), trivial⟩ hP hK hD hS hA hE rfl hl.1 rfl (Nat.le_of_ble_eq_true rfl) dX3_move_112 ⟨Nat.le_of_ble_eq_true rfl, Nat.le_of_ble_eq_true rfl⟩ (fun H locs hP hD hS => ?_)
          obtain ⟨v32, ev32, h⟩ := o_bind h
          refine xld14 hx hb hK hP ev32 dX3_move_115 ?_
          obtain ⟨S33, eS33, h⟩ := o_bind h
          refine xst14 hx hb hK hP hD hS eS33 dX3_move_116 (fun H locs hP hD hS => ?_)
          refine lv_iinc (v := (x3 + 1)) (lv' := [(3, .int (x3 + 1)), (0, .ref (ad 4)), (1, .int x1), (2, .int x2)]) hx hb dX3_move_117 hl (k := 3) rfl rfl (by decide) rfl (fun ls hl => ?_)
          refine lv_goto (tgt := 68) hx hb dX3_move_120 (by decide) ?_
          exact ih68 (x3 + 1) S33 _ _ ls hP hD hS (lv_sub hl [1, 2, 3, 0] rfl) h
    exact L68  1000 0 S24 _ _ ls hP hD hS (lv_sub hl [1, 2, 3, 0] rfl) h
set_option maxHeartbeats 4000000 in
set_option maxRecDepth 100000 in
theorem m_X3_cutBroken (l : Launch) (hst : l.stackTraces = false) (D : va_G) (cy : Nat → ClassId) (tx : List (ClassId × FieldType)) (ad : Nat → Nat) (R : va_W) (sz : Nat) (S : PS)  (S' : PS) (h : q_X3_cutBroken S = some S') : gMv l yX3_cutBroken wsX3_cutBroken ({ frames := 5, cells := 0, slots := 0, locals := 120 }) 0 0 D (gT cy ++ tx) [.ref (ad 4)] sz (xW cy ad S R) (xW cy ad S' R) := by
  refine Met.ofW (cc := cX3_cutBroken) (maxL := 3) (ret := none) (by decide) rfl ?_
  intro p e s m args below meth c s₁ B hml hv
  obtain ⟨hav, hsz, hP, hK, hD0, hE⟩ := hv
  have hx := B.exec
  have hb := B.bytes
  have hr := B.returns
  have hts := atoms_spec (ws := wsX3_cutBroken) B.pre
  have hown : s.vm.findClass RX3 = some m.cls := findClass_of_methodNamed B.named
  have hlocks := B.notSynchronized
  subst hsz
  have hD := hD0.self (sz := s.heap.size)
  generalize hAe : va_A (xW cy ad S R) s.heap.size = A at hD hE ⊢
  have hA : ∀ q : Nat, s.heap.size ≤ q → A q := fun q h => by rw [← hAe]; exact Or.inr h
  have hS : va_S A s.heap s.heap [] := va_S.rf
  have iX2 : ∀ w ∈ u_ws RX2 TX2 8, w ∈ wsX3_cutBroken := by decide +kernel
  have iX3 : ∀ w ∈ u_ws RX3 TX3 13, w ∈ wsX3_cutBroken := by decide +kernel
  have hf9 := hts (.fieldLink RX3 9 "InlinePlanner$Tree" "methods" "[I") (by decide +kernel)
  have hf40 := hts (.fieldLink RX3 40 "InlinePlanner$Tree" "newNumbers" "[I") (by decide +kernel)
  have hf43 := hts (.fieldLink RX3 43 "InlinePlanner$Tree" "program" "LInlinePlanner$Program;") (by decide +kernel)
  have hf51 := hts (.fieldLink RX3 51 "InlinePlanner$Tree" "count" "I") (by decide +kernel)
  have hf55 := hts (.fieldLink RX3 55 "InlinePlanner$Tree" "totalSize" "I") (by decide +kernel)
  have hf75 := hts (.fieldLink RX3 75 "InlinePlanner$Program" "sizes" "[I") (by decide +kernel)
  refine g_entry (n := 3) hav (Nat.le_of_ble_eq_true rfl) (fun ls hl => ?_)
  have hl : lv_has ls 3 [(0, .ref (ad 4))] := hl
  refine g_nameQ (fun Q hQ => ?_)
  unfold q_X3_cutBroken at h
  refine lv_aload_n hx hb dX3_cutBroken_0 rfl (lv_at hl 0 rfl) ?_
  obtain ⟨⟨S2, v1⟩, ev1, h⟩ := o_bind h
  refine g_cVi (As := []) (rest := []) ⟨hx, hb, hml, hown, hts⟩ (m_X3_numberAnew l hst D cy tx ad R _ S  S2 v1 ev1) (cwV 0 hts gX3_cutBroken_X3_numberAnew rfl rfl rfl (by decide +kernel) ⟨Nat.le_of_ble_eq_true rfl, Nat.le_of_ble_eq_true rfl⟩) (va_recv hK hP (ci := 3) (q0 := 4) rfl rfl) hP hK hD hS hA hE rfl hl.1 rfl (Nat.le_of_ble_eq_true rfl) dX3_cutBroken_1 ⟨Nat.le_of_ble_eq_true rfl, Nat.le_of_ble_eq_true rfl⟩ (fun H locs hP hD hS => ?_)
  refine lv_istore_n (lv' := [(1, .int v1), (0, .ref (ad 4))]) hx hb dX3_cutBroken_4 rfl hl (by decide) rfl (fun ls hl => ?_)
  refine lv_aload_n hx hb dX3_cutBroken_5 rfl (lv_at hl 1 rfl) ?_
  refine lv_iconst (v := 0) hx hb dX3_cutBroken_6 (by decide) ?_
  obtain ⟨S3, eS3, h⟩ := o_bind h
  refine xpX3_1 hx hb hts iX3 hown hK hP hD hS hf55 eS3 dX3_cutBroken_7 (fun H locs hP hD hS => ?_)
  refine lv_iconst (v := 0) hx hb dX3_cutBroken_10 (by decide) ?_
  refine lv_istore_n (lv' := [(2, .int 0), (1, .int v1), (0, .ref (ad 4))]) hx hb dX3_cutBroken_11 rfl hl (by decide) rfl (fun ls hl => ?_)
  have L12 : ∀ (x1 : Int32), ∀ (n12 : Nat) (x2 : Int32) (S : PS) (H : Heap) (locs : List Loc) (ls : Array Slot), va_P D vwCl (xW cy ad S R) H → va_D A (xW cy ad S R) → va_S A s.heap H locs → lv_has ls 3 [(0, .ref (ad 4)), (1, .int x1), (2, .int x2)] → iter2 (q_X3_cutBroken_L12 x1 ) n12 x2 S = some S' → W p l e (headSpec wsX3_cutBroken ({ frames := 5, cells := 0, slots := 0, locals := 120 })).room s m args below meth c H locs 0 0 Q (F0 m 12 ls []) := by
    intro x1 n12
    induction n12 with
    | zero =>
      intro x2 S H locs ls hP hD hS hl h
      exact (it2_0 h).elim
    | succ n12 ih12 =>
      intro x2 S H locs ls hP hD hS hl h
      have h : q_X3_cutBroken_L12 x1  (iter2 (q_X3_cutBroken_L12 x1 ) n12) x2 S = some S' := h
      unfold q_X3_cutBroken_L12 at h
      refine lv_iload_n hx hb dX3_cutBroken_12 rfl (lv_at hl 2 rfl) ?_
      refine lv_aload_n hx hb dX3_cutBroken_13 rfl (lv_at hl 0 rfl) ?_
      refine xgX3_0 hx hb hts iX3 hown hK hP hf51 dX3_cutBroken_14 ?_
      refine lv_icmp_ge (tgt := 74) hx hb dX3_cutBroken_17 (by decide) (fun hc => ?_) (fun hc => ?_)
      · have h := o_pos hc h
        refine lv_aload_n hx hb dX3_cutBroken_74 rfl (lv_at hl 0 rfl) ?_
        refine lv_iload_n hx hb dX3_cutBroken_75 rfl (lv_at hl 1 rfl) ?_
        obtain ⟨S4, eS4, h⟩ := o_bind h
        refine xpX3_0 hx hb hts iX3 hown hK hP hD hS hf51 eS4 dX3_cutBroken_76 (fun H locs hP hD hS => ?_)
        have eS := Option.some.inj h
        subst eS
        exact g_vret hQ hx hb hr hP hK hD hS (Nat.le_of_ble_eq_true rfl) (Nat.le_of_ble_eq_true rfl) dX3_cutBroken_79 hlocks
      · have h := o_neg hc h
        refine lv_aload_n hx hb dX3_cutBroken_20 rfl (lv_at hl 0 rfl) ?_
        refine xgX3_12 hx hb hts iX3 hown hK hP hf40 dX3_cutBroken_21 ?_
        refine lv_iload_n hx hb dX3_cutBroken_24 rfl (lv_at hl 2 rfl) ?_
        obtain ⟨v5, ev5, h⟩ := o_bind h
        refine xld16 hx hb hK hP ev5 dX3_cutBroken_25 ?_
        refine lv_if_lt (tgt := 68) hx hb dX3_cutBroken_26 (by decide) (fun hc => ?_) (fun hc => ?_)
        · have h := o_pos hc h
          refine lv_iinc (v := (x2 + 1)) (lv' := [(2, .int (x2 + 1)), (0, .ref (ad 4)), (1, .int x1)]) hx hb dX3_cutBroken_68 hl (k := 2) rfl rfl (by decide) rfl (fun ls hl => ?_)
          refine lv_goto (tgt := 12) hx hb dX3_cutBroken_71 (by decide) ?_
          exact ih12 (x2 + 1) S _ _ ls hP hD hS (lv_sub hl [1, 2, 0] rfl) h
        · have h := o_neg hc h
          refine lv_aload_n hx hb dX3_cutBroken_29 rfl (lv_at hl 0 rfl) ?_
          refine lv_iload_n hx hb dX3_cutBroken_30 rfl (lv_at hl 2 rfl) ?_
          refine lv_aload_n hx hb dX3_cutBroken_31 rfl (lv_at hl 0 rfl) ?_
          refine xgX3_12 hx hb hts iX3 hown hK hP hf40 dX3_cutBroken_32 ?_
          refine lv_iload_n hx hb dX3_cutBroken_35 rfl (lv_at hl 2 rfl) ?_
          obtain ⟨v6, ev6, h⟩ := o_bind h
          refine xld16 hx hb hK hP ev6 dX3_cutBroken_36 ?_
          obtain ⟨S8, ev7, h⟩ := o_bind h
          refine g_cVv (As := [.int x2, .int v6]) (rest := []) ⟨hx, hb, hml, hown, hts⟩ (m_X3_move l hst D cy tx ad R _ S x2 v6 S8 ev7) (cwV 2 hts gX3_cutBroken_X3_move rfl rfl rfl (by decide +kernel) ⟨Nat.le_of_ble_eq_true rfl, Nat.le_of_ble_eq_true rfl⟩) (va_recv hK hP (ci := 3) (q0 := 4) rfl rfl) hP hK hD hS hA hE rfl hl.1 rfl (Nat.le_of_ble_eq_true rfl) dX3_cutBroken_37 ⟨Nat.le_of_ble_eq_true rfl, Nat.le_of_ble_eq_true rfl⟩ (fun H locs hP hD hS => ?_)
          refine lv_aload_n hx hb dX3_cutBroken_40 rfl (lv_at hl 0 rfl) ?_
          refine lv_dup hx hb dX3_cutBroken_41 rfl ?_
          refine xgX3_1 hx hb hts iX3 hown hK hP hf55 dX3_cutBroken_42 ?_
          refine lv_aload_n hx hb dX3_cutBroken_45 rfl (lv_at hl 0 rfl) ?_
          refine xgX3_9 hx hb hts iX3 hown hK hP hf43 dX3_cutBroken_46 ?_
          refine xgX2_1 hx hb hts iX2 hown hK hP hf75 dX3_cutBroken_49 ?_
          refine lv_aload_n hx hb dX3_cutBroken_52 rfl (lv_at hl 0 rfl) ?_
          refine xgX3_2 hx hb hts iX3 hown hK hP hf9 dX3_cutBroken_53 ?_
          refine lv_aload_n hx hb dX3_cutBroken_56 rfl (lv_at hl 0 rfl) ?_
          refine xgX3_12 hx hb hts iX3 hown hK hP hf40 dX3_cutBroken_57 ?_
          refine lv_iload_n hx hb dX3_cutBroken_60 rfl (lv_at hl 2 rfl) ?_
          obtain ⟨v9, ev9, h⟩ := o_bind h
          refine xld16 hx hb hK hP ev9 dX3_cutBroken_61 ?_
          obtain ⟨v10, ev10, h⟩ := o_bind h
          refine xld9 hx hb hK hP ev10 dX3_cutBroken_62 ?_
          obtain ⟨v11, ev11, h⟩ := o_bind h
          refine xld3 hx hb hK hP ev11 dX3_cutBroken_63 ?_
          refine lv_iadd hx hb dX3_cutBroken_64 ?_
          obtain ⟨S12, eS12, h⟩ := o_bind h
          refine xpX3_1 hx hb hts iX3 hown hK hP hD hS hf55 eS12 dX3_cutBroken_65 (fun H locs hP hD hS => ?_)
          refine lv_iinc (v := (x2 + 1)) (lv' := [(2, .int (x2 + 1)), (0, .ref (ad 4)), (1, .int x1)]) hx hb dX3_cutBroken_68 hl (k := 2) rfl rfl (by decide) rfl (fun ls hl => ?_)
          refine lv_goto (tgt := 12) hx hb dX3_cutBroken_71 (by decide) ?_
          exact ih12 (x2 + 1) S12 _ _ ls hP hD hS (lv_sub hl [1, 2, 0] rfl) h
  exact L12 v1 1000 0 S3 _ _ ls hP hD hS (lv_sub hl [2, 1, 0] rfl) h
set_option maxHeartbeats 4000000 in
set_option maxRecDepth 100000 in
theorem m_X3_mixInto (l : Launch) (hst : l.stackTraces = false) (D : va_G) (cy : Nat → ClassId) (tx : List (ClassId × FieldType)) (ad : Nat → Nat) (R : va_W) (sz : Nat) (S : PS) (x1 : Int64) (v : Int64) (h : q_X3_mixInto S x1 = some v) : gMl l yX3_mixInto wsX3_mixInto ({ frames := 1, cells := 0, slots := 0, locals := 22 }) 0 0 D (gT cy ++ tx) [.ref (ad 4), .long x1] sz (xW cy ad S R) (xW cy ad S R) v := by
  refine Met.ofW (cc := cX3_mixInto) (maxL := 7) (ret := (some .long)) (by decide) rfl ?_
  intro p e s m args below meth c s₁ B hml hv
  obtain ⟨hav, hsz, hP, hK, hD0, hE⟩ := hv
  have hx := B.exec
  have hb := B.bytes
  have hr := B.returns
  have hts := atoms_spec (ws := wsX3_mixInto) B.pre
  have hown : s.vm.findClass RX3 = some m.cls := findClass_of_methodNamed B.named
  have hlocks := B.notSynchronized
  subst hsz
  have hD := hD0.self (sz := s.heap.size)
  generalize hAe : va_A (xW cy ad S R) s.heap.size = A at hD hE ⊢
  have hA : ∀ q : Nat, s.heap.size ≤ q → A q := fun q h => by rw [← hAe]; exact Or.inr h
  have hS : va_S A s.heap s.heap [] := va_S.rf
  have iX3 : ∀ w ∈ u_ws RX3 TX3 13, w ∈ wsX3_mixInto := by decide +kernel
  have hf9 := hts (.fieldLink RX3 9 "InlinePlanner$Tree" "methods" "[I") (by decide +kernel)
  have hf15 := hts (.fieldLink RX3 15 "InlinePlanner$Tree" "parents" "[I") (by decide +kernel)
  have hf24 := hts (.fieldLink RX3 24 "InlinePlanner$Tree" "verdicts" "[I") (by decide +kernel)
  have hf27 := hts (.fieldLink RX3 27 "InlinePlanner$Tree" "weights" "[I") (by decide +kernel)
  have hf51 := hts (.fieldLink RX3 51 "InlinePlanner$Tree" "count" "I") (by decide +kernel)
  refine g_entry (n := 7) hav (Nat.le_of_ble_eq_true rfl) (fun ls hl => ?_)
  have hl : lv_has ls 7 [(0, .ref (ad 4)), (1, .long x1)] := hl
  refine g_nameQ (fun Q hQ => ?_)
  unfold q_X3_mixInto at h
  refine lv_lload_n hx hb dX3_mixInto_0 rfl (lv_at hl 1 rfl) ?_
  refine lv_aload_n hx hb dX3_mixInto_1 rfl (lv_at hl 0 rfl) ?_
  refine xgX3_0 hx hb hts iX3 hown hK hP hf51 dX3_mixInto_2 ?_
  obtain ⟨v1, ev1, h⟩ := o_bind h
  refine g_cNl (As := [.long x1, .int (S.1 5)]) (rest := []) ⟨hx, hb, hml, hown, hts⟩ (m_X5_mix l hst D (gT cy ++ tx) (xW cy ad S R) _ x1 (S.1 5) v1 ev1) ⟨va_cnB 2 hts gX3_mixInto_X5_mix_n148 rfl rfl rfl (hE.2.2.2.1 (.methodLinkNest RX3 148 yX5_mix RX5) (by decide +kernel)) (hts (.initialized RX5) (by decide +kernel)) (by decide +kernel) ⟨Nat.le_of_ble_eq_true rfl, Nat.le_of_ble_eq_true rfl⟩, hts (.static yX5_mix) (by decide +kernel), trivial⟩ hP hK hD hS hA hE rfl hl.1 rfl (Nat.le_of_ble_eq_true rfl) dX3_mixInto_5 ⟨Nat.le_of_ble_eq_true rfl, Nat.le_of_ble_eq_true rfl⟩ (fun H locs hP hD hS => ?_)
  refine lv_lstore_n (lv' := [(3, .long v1), (0, .ref (ad 4)), (1, .long x1)]) hx hb dX3_mixInto_8 rfl hl (by decide) rfl (fun ls hl => ?_)
  refine lv_iconst (v := 0) hx hb dX3_mixInto_9 (by decide) ?_
  refine lv_istore (lv' := [(5, .int 0), (3, .long v1), (0, .ref (ad 4)), (1, .long x1)]) hx hb dX3_mixInto_10 hl (by decide) rfl (fun ls hl => ?_)
  have L12 : ∀ (n12 : Nat) (x3 : Int64) (x5 : Int32) (H : Heap) (locs : List Loc) (ls : Array Slot), va_P D vwCl (xW cy ad S R) H → va_D A (xW cy ad S R) → va_S A s.heap H locs → lv_has ls 7 [(0, .ref (ad 4)), (3, .long x3), (5, .int x5)] → iter2 (q_X3_mixInto_L12 S ) n12 x3 x5 = some v → W p l e (headSpec wsX3_mixInto ({ frames := 1, cells := 0, slots := 0, locals := 22 })).room s m args below meth c H locs 0 0 Q (F0 m 12 ls []) := by
    intro  n12
    induction n12 with
    | zero =>
      intro x3 x5 H locs ls hP hD hS hl h
      exact (it2_0 h).elim
    | succ n12 ih12 =>
      intro x3 x5 H locs ls hP hD hS hl h
      have h : q_X3_mixInto_L12 S  (iter2 (q_X3_mixInto_L12 S ) n12) x3 x5 = some v := h
      unfold q_X3_mixInto_L12 at h
      refine lv_iload hx hb dX3_mixInto_12 (lv_at hl 2 rfl) ?_
      refine lv_aload_n hx hb dX3_mixInto_14 rfl (lv_at hl 0 rfl) ?_
      refine xgX3_0 hx hb hts iX3 hown hK hP hf51 dX3_mixInto_15 ?_
      refine lv_icmp_ge (tgt := 101) hx hb dX3_mixInto_18 (by decide) (fun hc => ?_) (fun hc => ?_)
      · have h := o_pos hc h
        refine lv_lload_n hx hb dX3_mixInto_101 rfl (lv_at hl 1 rfl) ?_
        exact g_lret hQ hx hb hr hP hK hD hS (Nat.le_of_ble_eq_true rfl) (Nat.le_of_ble_eq_true rfl) dX3_mixInto_102 hlocks (Option.some.inj h)
      · have h := o_neg hc h
        refine lv_lload_n hx hb dX3_mixInto_21 rfl (lv_at hl 1 rfl) ?_
        refine lv_aload_n hx hb dX3_mixInto_22 rfl (lv_at hl 0 rfl) ?_
        refine xgX3_2 hx hb hts iX3 hown hK hP hf9 dX3_mixInto_23 ?_
        refine lv_iload hx hb dX3_mixInto_26 (lv_at hl 2 rfl) ?_
        obtain ⟨v2, ev2, h⟩ := o_bind h
        refine xld9 hx hb hK hP ev2 dX3_mixInto_28 ?_
        obtain ⟨v3, ev3, h⟩ := o_bind h
        refine g_cNl (As := [.long x3, .int v2]) (rest := []) ⟨hx, hb, hml, hown, hts⟩ (m_X5_mix l hst D (gT cy ++ tx) (xW cy ad S R) _ x3 v2 v3 ev3) ⟨va_cnB 2 hts gX3_mixInto_X5_mix_n148 rfl rfl rfl (hE.2.2.2.1 (.methodLinkNest RX3 148 yX5_mix RX5) (by decide +kernel)) (hts (.initialized RX5) (by decide +kernel)) (by decide +kernel) ⟨Nat.le_of_ble_eq_true rfl, Nat.le_of_ble_eq_true rfl⟩, hts (.static yX5_mix) (by decide +kernel), trivial⟩ hP hK hD hS hA hE rfl hl.1 rfl (Nat.le_of_ble_eq_true rfl) dX3_mixInto_29 ⟨Nat.le_of_ble_eq_true rfl, Nat.le_of_ble_eq_true rfl⟩ (fun H locs hP hD hS => ?_)
        refine lv_aload_n hx hb dX3_mixInto_32 rfl (lv_at hl 0 rfl) ?_
        refine xgX3_3 hx hb hts iX3 hown hK hP hf15 dX3_mixInto_33 ?_
        refine lv_iload hx hb dX3_mixInto_36 (lv_at hl 2 rfl) ?_
        obtain ⟨v4, ev4, h⟩ := o_bind h
        refine xld10 hx hb hK hP ev4 dX3_mixInto_38 ?_
        obtain ⟨v5, ev5, h⟩ := o_bind h
        refine g_cNl (As := [.long v3, .int v4]) (rest := []) ⟨hx, hb, hml, hown, hts⟩ (m_X5_mix l hst D (gT cy ++ tx) (xW cy ad S R) _ v3 v4 v5 ev5) ⟨va_cnB 2 hts gX3_mixInto_X5_mix_n148 rfl rfl rfl (hE.2.2.2.1 (.methodLinkNest RX3 148 yX5_mix RX5) (by decide +kernel)) (hts (.initialized RX5) (by decide +kernel)) (by decide +kernel) ⟨Nat.le_of_ble_eq_true rfl, Nat.le_of_ble_eq_true rfl⟩, hts (.static yX5_mix) (by decide +kernel), trivial⟩ hP hK hD hS hA hE rfl hl.1 rfl (Nat.le_of_ble_eq_true rfl) dX3_mixInto_39 ⟨Nat.le_of_ble_eq_true rfl, Nat.le_of_ble_eq_true rfl⟩ (fun H locs hP hD hS => ?_)
        refine lv_lstore_n (lv' := [(3, .long v5), (0, .ref (ad 4)), (5, .int x5)]) hx hb dX3_mixInto_42 rfl hl (by decide) rfl (fun ls hl => ?_)
        refine lv_iconst (v := 0) hx hb dX3_mixInto_43 (by decide) ?_
        refine lv_istore (lv' := [(6, .int 0), (3, .long v5), (0, .ref (ad 4)), (5, .int x5)]) hx hb dX3_mixInto_44 hl (by decide) rfl (fun ls hl => ?_)
        have L46 : ∀ (n46 : Nat) (x3 : Int64) (x6 : Int32) (H : Heap) (locs : List Loc) (ls : Array Slot), va_P D vwCl (xW cy ad S R) H → va_D A (xW cy ad S R) → va_S A s.heap H locs → lv_has ls 7 [(0, .ref (ad 4)), (3, .long x3), (5, .int x5), (6, .int x6)] → iter2 (q_X3_mixInto_L46 S x5 (iter2 (q_X3_mixInto_L12 S ) n12)) n46 x3 x6 = some v → W p l e (headSpec wsX3_mixInto ({ frames := 1, cells := 0, slots := 0, locals := 22 })).room s m args below meth c H locs 0 0 Q (F0 m 46 ls []) := by
          intro  n46
          induction n46 with
          | zero =>
            intro x3 x6 H locs ls hP hD hS hl h
            exact (it2_0 h).elim
          | succ n46 ih46 =>
            intro x3 x6 H locs ls hP hD hS hl h
            have h : q_X3_mixInto_L46 S x5 (iter2 (q_X3_mixInto_L12 S ) n12) (iter2 (q_X3_mixInto_L46 S x5 (iter2 (q_X3_mixInto_L12 S ) n12)) n46) x3 x6 = some v := h
            unfold q_X3_mixInto_L46 at h
            refine lv_iload hx hb dX3_mixInto_46 (lv_at hl 3 rfl) ?_
            refine lv_aload_n hx hb dX3_mixInto_48 rfl (lv_at hl 0 rfl) ?_
            refine lv_iload hx hb dX3_mixInto_49 (lv_at hl 2 rfl) ?_
            obtain ⟨v6, ev6, h⟩ := o_bind h
            refine g_cVi (As := [.int x5]) (rest := [.int x6]) ⟨hx, hb, hml, hown, hts⟩ (m_X3_sitesAt l hst D cy tx ad R _ S x5 v6 ev6) (cwV 1 hts gX3_mixInto_X3_sitesAt rfl rfl rfl (by decide +kernel) ⟨Nat.le_of_ble_eq_true rfl, Nat.le_of_ble_eq_true rfl⟩) (va_recv hK hP (ci := 3) (q0 := 4) rfl rfl) hP hK hD hS hA hE rfl hl.1 rfl (Nat.le_of_ble_eq_true rfl) dX3_mixInto_51 ⟨Nat.le_of_ble_eq_true rfl, Nat.le_of_ble_eq_true rfl⟩ (fun H locs hP hD hS => ?_)
            refine lv_icmp_ge (tgt := 95) hx hb dX3_mixInto_54 (by decide) (fun hc => ?_) (fun hc => ?_)
            · have h := o_pos hc h
              refine lv_iinc (v := (x5 + 1)) (lv' := [(5, .int (x5 + 1)), (0, .ref (ad 4)), (3, .long x3), (6, .int x6)]) hx hb dX3_mixInto_95 hl (k := 2) rfl rfl (by decide) rfl (fun ls hl => ?_)
              refine lv_goto (tgt := 12) hx hb dX3_mixInto_98 (by decide) ?_
              exact ih12 x3 (x5 + 1) _ _ ls hP hD hS (lv_sub hl [1, 2, 0] rfl) h
            · have h := o_neg hc h
              refine lv_lload_n hx hb dX3_mixInto_57 rfl (lv_at hl 1 rfl) ?_
              refine lv_aload_n hx hb dX3_mixInto_58 rfl (lv_at hl 0 rfl) ?_
              refine xgX3_6 hx hb hts iX3 hown hK hP hf24 dX3_mixInto_59 ?_
              refine lv_iload hx hb dX3_mixInto_62 (lv_at hl 2 rfl) ?_
              refine lv_iload hx hb dX3_mixInto_64 (lv_at hl 3 rfl) ?_
              obtain ⟨v7, ev7, h⟩ := o_bind h
              refine g_cNi (As := [.int x5, .int x6]) (rest := [.ref (ad 19), .long x3]) ⟨hx, hb, hml, hown, hts⟩ (m_X5_slot l hst D (gT cy ++ tx) (xW cy ad S R) _ x5 x6 v7 ev7) ⟨va_cnB 2 hts gX3_mixInto_X5_slot_n89 rfl rfl rfl (hE.2.2.2.1 (.methodLinkNest RX3 89 yX5_slot RX5) (by decide +kernel)) (hts (.initialized RX5) (by decide +kernel)) (by decide +kernel) ⟨Nat.le_of_ble_eq_true rfl, Nat.le_of_ble_eq_true rfl⟩, hts (.static yX5_slot) (by decide +kernel), trivial⟩ hP hK hD hS hA hE rfl hl.1 rfl (Nat.le_of_ble_eq_true rfl) dX3_mixInto_66 ⟨Nat.le_of_ble_eq_true rfl, Nat.le_of_ble_eq_true rfl⟩ (fun H locs hP hD hS => ?_)
              obtain ⟨v8, ev8, h⟩ := o_bind h
              refine xld13 hx hb hK hP ev8 dX3_mixInto_69 ?_
              obtain ⟨v9, ev9, h⟩ := o_bind h
              refine g_cNl (As := [.long x3, .int v8]) (rest := []) ⟨hx, hb, hml, hown, hts⟩ (m_X5_mix l hst D (gT cy ++ tx) (xW cy ad S R) _ x3 v8 v9 ev9) ⟨va_cnB 2 hts gX3_mixInto_X5_mix_n148 rfl rfl rfl (hE.2.2.2.1 (.methodLinkNest RX3 148 yX5_mix RX5) (by decide +kernel)) (hts (.initialized RX5) (by decide +kernel)) (by decide +kernel) ⟨Nat.le_of_ble_eq_true rfl, Nat.le_of_ble_eq_true rfl⟩, hts (.static yX5_mix) (by decide +kernel), trivial⟩ hP hK hD hS hA hE rfl hl.1 rfl (Nat.le_of_ble_eq_true rfl) dX3_mixInto_70 ⟨Nat.le_of_ble_eq_true rfl, Nat.le_of_ble_eq_true rfl⟩ (fun H locs hP hD hS => ?_)
              refine lv_aload_n hx hb dX3_mixInto_73 rfl (lv_at hl 0 rfl) ?_
              refine xgX3_7 hx hb hts iX3 hown hK hP hf27 dX3_mixInto_74 ?_
              refine lv_iload hx hb dX3_mixInto_77 (lv_at hl 2 rfl) ?_
              refine lv_iload hx hb dX3_mixInto_79 (lv_at hl 3 rfl) ?_
              obtain ⟨v10, ev10, h⟩ := o_bind h
              refine g_cNi (As := [.int x5, .int x6]) (rest := [.ref (ad 20), .long v9]) ⟨hx, hb, hml, hown, hts⟩ (m_X5_slot l hst D (gT cy ++ tx) (xW cy ad S R) _ x5 x6 v10 ev10) ⟨va_cnB 2 hts gX3_mixInto_X5_slot_n89 rfl rfl rfl (hE.2.2.2.1 (.methodLinkNest RX3 89 yX5_slot RX5) (by decide +kernel)) (hts (.initialized RX5) (by decide +kernel)) (by decide +kernel) ⟨Nat.le_of_ble_eq_true rfl, Nat.le_of_ble_eq_true rfl⟩, hts (.static yX5_slot) (by decide +kernel), trivial⟩ hP hK hD hS hA hE rfl hl.1 rfl (Nat.le_of_ble_eq_true rfl) dX3_mixInto_81 ⟨Nat.le_of_ble_eq_true rfl, Nat.le_of_ble_eq_true rfl⟩ (fun H locs hP hD hS => ?_)
              obtain ⟨v11, ev11, h⟩ := o_bind h
              refine xld14 hx hb hK hP ev11 dX3_mixInto_84 ?_
              obtain ⟨v12, ev12, h⟩ := o_bind h
              refine g_cNl (As := [.long v9, .int v11]) (rest := []) ⟨hx, hb, hml, hown, hts⟩ (m_X5_mix l hst D (gT cy ++ tx) (xW cy ad S R) _ v9 v11 v12 ev12) ⟨va_cnB 2 hts gX3_mixInto_X5_mix_n148 rfl rfl rfl (hE.2.2.2.1 (.methodLinkNest RX3 148 yX5_mix RX5) (by decide +kernel)) (hts (.initialized RX5) (by decide +kernel)) (by decide +kernel) ⟨Nat.le_of_ble_eq_true rfl, Nat.le_of_ble_eq_true rfl⟩, hts (.static yX5_mix) (by decide +kernel), trivial⟩ hP hK hD hS hA hE rfl hl.1 rfl (Nat.le_of_ble_eq_true rfl) dX3_mixInto_85 ⟨Nat.le_of_ble_eq_true rfl, Nat.le_of_ble_eq_true rfl⟩ (fun H locs hP hD hS => ?_)
              refine lv_lstore_n (lv' := [(3, .long v12), (0, .ref (ad 4)), (5, .int x5), (6, .int x6)]) hx hb dX3_mixInto_88 rfl hl (by decide) rfl (fun ls hl => ?_)
              refine lv_iinc (v := (x6 + 1)) (lv' := [(6, .int (x6 + 1)), (3, .long v12), (0, .ref (ad 4)), (5, .int x5)]) hx hb dX3_mixInto_89 hl (k := 3) rfl rfl (by decide) rfl (fun ls hl => ?_)
              refine lv_goto (tgt := 46) hx hb dX3_mixInto_92 (by decide) ?_
              exact ih46 v12 (x6 + 1) _ _ ls hP hD hS (lv_sub hl [2, 1, 3, 0] rfl) h
        exact L46  1000 v5 0 _ _ ls hP hD hS (lv_sub hl [2, 1, 3, 0] rfl) h
  exact L12  1000 v1 0 _ _ ls hP hD hS (lv_sub hl [2, 1, 0] rfl) h
