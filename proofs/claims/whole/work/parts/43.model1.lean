set_option maxHeartbeats 4000000 in
set_option maxRecDepth 100000 in
theorem m_X6_isIn (l : Launch) (hst : l.stackTraces = false) (D : va_G) (tys : List (ClassId × FieldType)) (Wd : va_W) (sz : Nat) (x0 : Int32) (x1 : Int32) (x2 : Int32) (v : Int32) (h : q_X6_isIn x0 x1 x2 = some v) : gMi l yX6_isIn wsX6_isIn ({ frames := 0, cells := 0, slots := 0, locals := 0 }) 0 0 D tys [.int x0, .int x1, .int x2] sz Wd Wd v := by
  refine Met.ofW (cc := cX6_isIn) (maxL := 3) (ret := (some .boolean)) (by decide) rfl ?_
  intro p e s m args below meth c s₁ B hml hv
  obtain ⟨hav, hsz, hP, hK, hD0, hE⟩ := hv
  have hx := B.exec
  have hb := B.bytes
  have hr := B.returns
  have hts := atoms_spec (ws := wsX6_isIn) B.pre
  have hown : s.vm.findClass RX6 = some m.cls := findClass_of_methodNamed B.named
  have hlocks := B.notSynchronized
  subst hsz
  have hD := hD0.self (sz := s.heap.size)
  generalize hAe : va_A Wd s.heap.size = A at hD hE ⊢
  have hA : ∀ q : Nat, s.heap.size ≤ q → A q := fun q h => by rw [← hAe]; exact Or.inr h
  have hS : va_S A s.heap s.heap [] := va_S.rf
  refine g_entry (n := 3) hav (Nat.le_of_ble_eq_true rfl) (fun ls hl => ?_)
  have hl : lv_has ls 3 [(0, .int x0), (1, .int x1), (2, .int x2)] := hl
  refine g_nameQ (fun Q hQ => ?_)
  unfold q_X6_isIn at h
  refine lv_iload_n hx hb dX6_isIn_0 rfl (lv_at hl 0 rfl) ?_
  refine lv_iload_n hx hb dX6_isIn_1 rfl (lv_at hl 1 rfl) ?_
  refine lv_icmp_lt (tgt := 14) hx hb dX6_isIn_2 (by decide) (fun hc => ?_) (fun hc => ?_)
  · have h := o_pos hc h
    refine lv_iconst (v := 0) hx hb dX6_isIn_14 (by decide) ?_
    exact g_zret hQ hx hb hr rfl hP hK hD hS (Nat.le_of_ble_eq_true rfl) (Nat.le_of_ble_eq_true rfl) dX6_isIn_15 hlocks (Option.some.inj h)
  · have h := o_neg hc h
    refine lv_iload_n hx hb dX6_isIn_5 rfl (lv_at hl 0 rfl) ?_
    refine lv_iload_n hx hb dX6_isIn_6 rfl (lv_at hl 2 rfl) ?_
    refine lv_icmp_gt (tgt := 14) hx hb dX6_isIn_7 (by decide) (fun hc => ?_) (fun hc => ?_)
    · have h := o_pos hc h
      refine lv_iconst (v := 0) hx hb dX6_isIn_14 (by decide) ?_
      exact g_zret hQ hx hb hr rfl hP hK hD hS (Nat.le_of_ble_eq_true rfl) (Nat.le_of_ble_eq_true rfl) dX6_isIn_15 hlocks (Option.some.inj h)
    · have h := o_neg hc h
      refine lv_iconst (v := 1) hx hb dX6_isIn_10 (by decide) ?_
      refine lv_goto (tgt := 15) hx hb dX6_isIn_11 (by decide) ?_
      exact g_zret hQ hx hb hr rfl hP hK hD hS (Nat.le_of_ble_eq_true rfl) (Nat.le_of_ble_eq_true rfl) dX6_isIn_15 hlocks (Option.some.inj h)
set_option maxHeartbeats 4000000 in
set_option maxRecDepth 100000 in
theorem m_X6_isSelector (l : Launch) (hst : l.stackTraces = false) (D : va_G) (tys : List (ClassId × FieldType)) (Wd : va_W) (sz : Nat) (x0 : Int32) (v : Int32) (h : q_X6_isSelector x0 = some v) : gMi l yX6_isSelector wsX6_isSelector ({ frames := 1, cells := 0, slots := 0, locals := 22 }) 0 0 D tys [.int x0] sz Wd Wd v := by
  refine Met.ofW (cc := cX6_isSelector) (maxL := 1) (ret := (some .boolean)) (by decide) rfl ?_
  intro p e s m args below meth c s₁ B hml hv
  obtain ⟨hav, hsz, hP, hK, hD0, hE⟩ := hv
  have hx := B.exec
  have hb := B.bytes
  have hr := B.returns
  have hts := atoms_spec (ws := wsX6_isSelector) B.pre
  have hown : s.vm.findClass RX6 = some m.cls := findClass_of_methodNamed B.named
  have hlocks := B.notSynchronized
  subst hsz
  have hD := hD0.self (sz := s.heap.size)
  generalize hAe : va_A Wd s.heap.size = A at hD hE ⊢
  have hA : ∀ q : Nat, s.heap.size ≤ q → A q := fun q h => by rw [← hAe]; exact Or.inr h
  have hS : va_S A s.heap s.heap [] := va_S.rf
  refine g_entry (n := 1) hav (Nat.le_of_ble_eq_true rfl) (fun ls hl => ?_)
  have hl : lv_has ls 1 [(0, .int x0)] := hl
  refine g_nameQ (fun Q hQ => ?_)
  unfold q_X6_isSelector at h
  refine lv_iload_n hx hb dX6_isSelector_0 rfl (lv_at hl 0 rfl) ?_
  refine lv_iconst (v := 0) hx hb dX6_isSelector_1 (by decide) ?_
  refine lv_bipush (v := 7) hx hb dX6_isSelector_2 (by decide) ?_
  obtain ⟨v1, ev1, h⟩ := o_bind h
  refine g_cSi (As := [.int x0, .int 0, .int 7]) (rest := []) ⟨hx, hb, hml, hown, hts⟩ (m_X6_isIn l hst D tys Wd _ x0 0 7 v1 ev1) (va_cwS 3 hts gX6_isSelector_X6_isIn rfl rfl rfl (by decide +kernel) ⟨Nat.le_of_ble_eq_true rfl, Nat.le_of_ble_eq_true rfl⟩) hP hK hD hS hA hE rfl hl.1 rfl (Nat.le_of_ble_eq_true rfl) dX6_isSelector_4 ⟨Nat.le_of_ble_eq_true rfl, Nat.le_of_ble_eq_true rfl⟩ (fun H locs hP hD hS => ?_)
  obtain ⟨z2, ez2, h⟩ := o_bind h
  obtain ⟨hn, ez2⟩ := zg_spec ez2
  subst ez2
  exact g_zret hQ hx hb hr hn hP hK hD hS (Nat.le_of_ble_eq_true rfl) (Nat.le_of_ble_eq_true rfl) dX6_isSelector_7 hlocks (Option.some.inj h)
set_option maxHeartbeats 4000000 in
set_option maxRecDepth 100000 in
theorem m_X6_bits (l : Launch) (hst : l.stackTraces = false) (D : va_G) (tys : List (ClassId × FieldType)) (Wd : va_W) (sz : Nat) (x0 : Int32) (v : Int32) (h : q_X6_bits x0 = some v) : gMi l yX6_bits wsX6_bits ({ frames := 0, cells := 0, slots := 0, locals := 0 }) 0 0 D tys [.int x0] sz Wd Wd v := by
  refine Met.ofW (cc := cX6_bits) (maxL := 3) (ret := (some .int)) (by decide) rfl ?_
  intro p e s m args below meth c s₁ B hml hv
  obtain ⟨hav, hsz, hP, hK, hD0, hE⟩ := hv
  have hx := B.exec
  have hb := B.bytes
  have hr := B.returns
  have hts := atoms_spec (ws := wsX6_bits) B.pre
  have hown : s.vm.findClass RX6 = some m.cls := findClass_of_methodNamed B.named
  have hlocks := B.notSynchronized
  subst hsz
  have hD := hD0.self (sz := s.heap.size)
  generalize hAe : va_A Wd s.heap.size = A at hD hE ⊢
  have hA : ∀ q : Nat, s.heap.size ≤ q → A q := fun q h => by rw [← hAe]; exact Or.inr h
  have hS : va_S A s.heap s.heap [] := va_S.rf
  refine g_entry (n := 3) hav (Nat.le_of_ble_eq_true rfl) (fun ls hl => ?_)
  have hl : lv_has ls 3 [(0, .int x0)] := hl
  refine g_nameQ (fun Q hQ => ?_)
  unfold q_X6_bits at h
  refine lv_iconst (v := 0) hx hb dX6_bits_0 (by decide) ?_
  refine lv_istore_n (lv' := [(1, .int 0), (0, .int x0)]) hx hb dX6_bits_1 rfl hl (by decide) rfl (fun ls hl => ?_)
  refine lv_iconst (v := 0) hx hb dX6_bits_2 (by decide) ?_
  refine lv_istore_n (lv' := [(2, .int 0), (1, .int 0), (0, .int x0)]) hx hb dX6_bits_3 rfl hl (by decide) rfl (fun ls hl => ?_)
  have L4 : ∀ (n4 : Nat) (x1 : Int32) (x2 : Int32) (H : Heap) (locs : List Loc) (ls : Array Slot), va_P D vwCl Wd H → va_D A Wd → va_S A s.heap H locs → lv_has ls 3 [(0, .int x0), (1, .int x1), (2, .int x2)] → iter2 (q_X6_bits_L4 x0 ) n4 x1 x2 = some v → W p l e (headSpec wsX6_bits ({ frames := 0, cells := 0, slots := 0, locals := 0 })).room s m args below meth c H locs 0 0 Q (F0 m 4 ls []) := by
    intro  n4
    induction n4 with
    | zero =>
      intro x1 x2 H locs ls hP hD hS hl h
      exact (it2_0 h).elim
    | succ n4 ih4 =>
      intro x1 x2 H locs ls hP hD hS hl h
      have h : q_X6_bits_L4 x0  (iter2 (q_X6_bits_L4 x0 ) n4) x1 x2 = some v := h
      unfold q_X6_bits_L4 at h
      refine lv_iload_n hx hb dX6_bits_4 rfl (lv_at hl 2 rfl) ?_
      refine lv_bipush (v := 30) hx hb dX6_bits_5 (by decide) ?_
      refine lv_icmp_ge (tgt := 24) hx hb dX6_bits_7 (by decide) (fun hc => ?_) (fun hc => ?_)
      · have h := o_pos hc h
        refine lv_iload_n hx hb dX6_bits_24 rfl (lv_at hl 1 rfl) ?_
        exact g_iret hQ hx hb hr hP hK hD hS (Nat.le_of_ble_eq_true rfl) (Nat.le_of_ble_eq_true rfl) dX6_bits_25 hlocks (Option.some.inj h)
      · have h := o_neg hc h
        refine lv_iload_n hx hb dX6_bits_10 rfl (lv_at hl 1 rfl) ?_
        refine lv_iload_n hx hb dX6_bits_11 rfl (lv_at hl 0 rfl) ?_
        refine lv_iload_n hx hb dX6_bits_12 rfl (lv_at hl 2 rfl) ?_
        refine lv_ishr hx hb dX6_bits_13 ?_
        refine lv_iconst (v := 1) hx hb dX6_bits_14 (by decide) ?_
        refine lv_iand hx hb dX6_bits_15 ?_
        refine lv_iadd hx hb dX6_bits_16 ?_
        refine lv_istore_n (lv' := [(1, .int (x1 + ((x0 >>> (x2 &&& 31)) &&& 1))), (0, .int x0), (2, .int x2)]) hx hb dX6_bits_17 rfl hl (by decide) rfl (fun ls hl => ?_)
        refine lv_iinc (v := (x2 + 1)) (lv' := [(2, .int (x2 + 1)), (1, .int (x1 + ((x0 >>> (x2 &&& 31)) &&& 1))), (0, .int x0)]) hx hb dX6_bits_18 hl (k := 2) rfl rfl (by decide) rfl (fun ls hl => ?_)
        refine lv_goto (tgt := 4) hx hb dX6_bits_21 (by decide) ?_
        exact ih4 (x1 + ((x0 >>> (x2 &&& 31)) &&& 1)) (x2 + 1) _ _ ls hP hD hS (lv_sub hl [2, 1, 0] rfl) h
  exact L4  1000 0 0 _ _ ls hP hD hS (lv_sub hl [2, 1, 0] rfl) h
set_option maxHeartbeats 4000000 in
set_option maxRecDepth 100000 in
theorem m_X6_member (l : Launch) (hst : l.stackTraces = false) (D : va_G) (tys : List (ClassId × FieldType)) (Wd : va_W) (sz : Nat) (x0 : Int32) (x1 : Int32) (v : Int32) (h : q_X6_member x0 x1 = some v) : gMi l yX6_member wsX6_member ({ frames := 0, cells := 0, slots := 0, locals := 0 }) 0 0 D tys [.int x0, .int x1] sz Wd Wd v := by
  refine Met.ofW (cc := cX6_member) (maxL := 4) (ret := (some .int)) (by decide) rfl ?_
  intro p e s m args below meth c s₁ B hml hv
  obtain ⟨hav, hsz, hP, hK, hD0, hE⟩ := hv
  have hx := B.exec
  have hb := B.bytes
  have hr := B.returns
  have hts := atoms_spec (ws := wsX6_member) B.pre
  have hown : s.vm.findClass RX6 = some m.cls := findClass_of_methodNamed B.named
  have hlocks := B.notSynchronized
  subst hsz
  have hD := hD0.self (sz := s.heap.size)
  generalize hAe : va_A Wd s.heap.size = A at hD hE ⊢
  have hA : ∀ q : Nat, s.heap.size ≤ q → A q := fun q h => by rw [← hAe]; exact Or.inr h
  have hS : va_S A s.heap s.heap [] := va_S.rf
  refine g_entry (n := 4) hav (Nat.le_of_ble_eq_true rfl) (fun ls hl => ?_)
  have hl : lv_has ls 4 [(0, .int x0), (1, .int x1)] := hl
  refine g_nameQ (fun Q hQ => ?_)
  unfold q_X6_member at h
  refine lv_iload_n hx hb dX6_member_0 rfl (lv_at hl 1 rfl) ?_
  refine lv_istore_n (lv' := [(2, .int x1), (0, .int x0), (1, .int x1)]) hx hb dX6_member_1 rfl hl (by decide) rfl (fun ls hl => ?_)
  refine lv_iconst (v := 0) hx hb dX6_member_2 (by decide) ?_
  refine lv_istore_n (lv' := [(3, .int 0), (2, .int x1), (0, .int x0), (1, .int x1)]) hx hb dX6_member_3 rfl hl (by decide) rfl (fun ls hl => ?_)
  have L4 : ∀ (n4 : Nat) (x2 : Int32) (x3 : Int32) (H : Heap) (locs : List Loc) (ls : Array Slot), va_P D vwCl Wd H → va_D A Wd → va_S A s.heap H locs → lv_has ls 4 [(0, .int x0), (2, .int x2), (3, .int x3)] → iter2 (q_X6_member_L4 x0 ) n4 x2 x3 = some v → W p l e (headSpec wsX6_member ({ frames := 0, cells := 0, slots := 0, locals := 0 })).room s m args below meth c H locs 0 0 Q (F0 m 4 ls []) := by
    intro  n4
    induction n4 with
    | zero =>
      intro x2 x3 H locs ls hP hD hS hl h
      exact (it2_0 h).elim
    | succ n4 ih4 =>
      intro x2 x3 H locs ls hP hD hS hl h
      have h : q_X6_member_L4 x0  (iter2 (q_X6_member_L4 x0 ) n4) x2 x3 = some v := h
      unfold q_X6_member_L4 at h
      refine lv_iload_n hx hb dX6_member_4 rfl (lv_at hl 2 rfl) ?_
      refine lv_bipush (v := 30) hx hb dX6_member_5 (by decide) ?_
      refine lv_icmp_ge (tgt := 36) hx hb dX6_member_7 (by decide) (fun hc => ?_) (fun hc => ?_)
      · have h := o_pos hc h
        refine lv_iconst (v := (-1)) hx hb dX6_member_36 (by decide) ?_
        exact g_iret hQ hx hb hr hP hK hD hS (Nat.le_of_ble_eq_true rfl) (Nat.le_of_ble_eq_true rfl) dX6_member_37 hlocks (Option.some.inj h)
      · have h := o_neg hc h
        refine lv_iload_n hx hb dX6_member_10 rfl (lv_at hl 0 rfl) ?_
        refine lv_iload_n hx hb dX6_member_11 rfl (lv_at hl 2 rfl) ?_
        refine lv_ishr hx hb dX6_member_12 ?_
        refine lv_iconst (v := 1) hx hb dX6_member_13 (by decide) ?_
        refine lv_iand hx hb dX6_member_14 ?_
        refine lv_if_ne (tgt := 21) hx hb dX6_member_15 (by decide) (fun hc => ?_) (fun hc => ?_)
        · have h := o_neg hc h
          refine lv_iload_n hx hb dX6_member_21 rfl (lv_at hl 1 rfl) ?_
          refine lv_if_ne (tgt := 27) hx hb dX6_member_22 (by decide) (fun hc => ?_) (fun hc => ?_)
          · have h := o_neg hc h
            refine lv_iinc (v := (x2 + -1)) (lv' := [(2, .int (x2 + -1)), (0, .int x0), (3, .int x3)]) hx hb dX6_member_27 hl (k := 1) rfl rfl (by decide) rfl (fun ls hl => ?_)
            refine lv_iinc (v := (x3 + 1)) (lv' := [(3, .int (x3 + 1)), (2, .int (x2 + -1)), (0, .int x0)]) hx hb dX6_member_30 hl (k := 2) rfl rfl (by decide) rfl (fun ls hl => ?_)
            refine lv_goto (tgt := 4) hx hb dX6_member_33 (by decide) ?_
            exact ih4 (x2 + -1) (x3 + 1) _ _ ls hP hD hS (lv_sub hl [2, 1, 0] rfl) h
          · have h := o_pos hc h
            refine lv_iload_n hx hb dX6_member_25 rfl (lv_at hl 2 rfl) ?_
            exact g_iret hQ hx hb hr hP hK hD hS (Nat.le_of_ble_eq_true rfl) (Nat.le_of_ble_eq_true rfl) dX6_member_26 hlocks (Option.some.inj h)
        · have h := o_pos hc h
          refine lv_goto (tgt := 30) hx hb dX6_member_18 (by decide) ?_
          refine lv_iinc (v := (x3 + 1)) (lv' := [(3, .int (x3 + 1)), (0, .int x0), (2, .int x2)]) hx hb dX6_member_30 hl (k := 2) rfl rfl (by decide) rfl (fun ls hl => ?_)
          refine lv_goto (tgt := 4) hx hb dX6_member_33 (by decide) ?_
          exact ih4 x2 (x3 + 1) _ _ ls hP hD hS (lv_sub hl [1, 2, 0] rfl) h
  exact L4  1000 x1 0 _ _ ls hP hD hS (lv_sub hl [2, 1, 0] rfl) h
set_option maxHeartbeats 4000000 in
set_option maxRecDepth 100000 in
theorem m_X6_thrown (l : Launch) (hst : l.stackTraces = false) (D : va_G) (cy : Nat → ClassId) (tx : List (ClassId × FieldType)) (ad : Nat → Nat) (R : va_W) (sz : Nat) (S : PS)  (v : Int32) (h : q_X6_thrown S = some v) : gMi l yX6_thrown wsX6_thrown ({ frames := 0, cells := 0, slots := 0, locals := 0 }) 0 0 D (gT cy ++ tx) [.ref (ad 0)] sz (mW cy ad S R) (mW cy ad S R) v := by
  refine Met.ofW (cc := cX6_thrown) (maxL := 1) (ret := (some .int)) (by decide) rfl ?_
  intro p e s m args below meth c s₁ B hml hv
  obtain ⟨hav, hsz, hP, hK, hD0, hE⟩ := hv
  have hx := B.exec
  have hb := B.bytes
  have hr := B.returns
  have hts := atoms_spec (ws := wsX6_thrown) B.pre
  have hown : s.vm.findClass RX6 = some m.cls := findClass_of_methodNamed B.named
  have hlocks := B.notSynchronized
  subst hsz
  have hD := hD0.self (sz := s.heap.size)
  generalize hAe : va_A (mW cy ad S R) s.heap.size = A at hD hE ⊢
  have hA : ∀ q : Nat, s.heap.size ≤ q → A q := fun q h => by rw [← hAe]; exact Or.inr h
  have hS : va_S A s.heap s.heap [] := va_S.rf
  have iX6 : ∀ w ∈ u_ws RX6 TX6 22, w ∈ wsX6_thrown := by decide +kernel
  have hf66 := hts (.fieldLink RX6 66 "InlinePlannerModel" "thrown" "I") (by decide +kernel)
  refine g_entry (n := 1) hav (Nat.le_of_ble_eq_true rfl) (fun ls hl => ?_)
  have hl : lv_has ls 1 [(0, .ref (ad 0))] := hl
  refine g_nameQ (fun Q hQ => ?_)
  unfold q_X6_thrown at h
  refine lv_aload_n hx hb dX6_thrown_0 rfl (lv_at hl 0 rfl) ?_
  refine mgX6_0 hx hb hts iX6 hown hK hP hf66 dX6_thrown_1 ?_
  exact g_iret hQ hx hb hr hP hK hD hS (Nat.le_of_ble_eq_true rfl) (Nat.le_of_ble_eq_true rfl) dX6_thrown_4 hlocks (Option.some.inj h)
set_option maxHeartbeats 4000000 in
set_option maxRecDepth 100000 in
theorem m_X6_no (l : Launch) (hst : l.stackTraces = false) (D : va_G) (cy : Nat → ClassId) (tx : List (ClassId × FieldType)) (ad : Nat → Nat) (R : va_W) (sz : Nat) (S : PS) (x1 : Int32) (S' : PS) (v : Int32) (h : q_X6_no S x1 = some (S', v)) : gMi l yX6_no wsX6_no ({ frames := 0, cells := 0, slots := 0, locals := 0 }) 0 0 D (gT cy ++ tx) [.ref (ad 0), .int x1] sz (mW cy ad S R) (mW cy ad S' R) v := by
  refine Met.ofW (cc := cX6_no) (maxL := 2) (ret := (some .int)) (by decide) rfl ?_
  intro p e s m args below meth c s₁ B hml hv
  obtain ⟨hav, hsz, hP, hK, hD0, hE⟩ := hv
  have hx := B.exec
  have hb := B.bytes
  have hr := B.returns
  have hts := atoms_spec (ws := wsX6_no) B.pre
  have hown : s.vm.findClass RX6 = some m.cls := findClass_of_methodNamed B.named
  have hlocks := B.notSynchronized
  subst hsz
  have hD := hD0.self (sz := s.heap.size)
  generalize hAe : va_A (mW cy ad S R) s.heap.size = A at hD hE ⊢
  have hA : ∀ q : Nat, s.heap.size ≤ q → A q := fun q h => by rw [← hAe]; exact Or.inr h
  have hS : va_S A s.heap s.heap [] := va_S.rf
  have iX6 : ∀ w ∈ u_ws RX6 TX6 22, w ∈ wsX6_no := by decide +kernel
  have hf66 := hts (.fieldLink RX6 66 "InlinePlannerModel" "thrown" "I") (by decide +kernel)
  refine g_entry (n := 2) hav (Nat.le_of_ble_eq_true rfl) (fun ls hl => ?_)
  have hl : lv_has ls 2 [(0, .ref (ad 0)), (1, .int x1)] := hl
  refine g_nameQ (fun Q hQ => ?_)
  unfold q_X6_no at h
  refine lv_aload_n hx hb dX6_no_0 rfl (lv_at hl 0 rfl) ?_
  refine lv_iload_n hx hb dX6_no_1 rfl (lv_at hl 1 rfl) ?_
  obtain ⟨S1, eS1, h⟩ := o_bind h
  refine mpX6_0 hx hb hts iX6 hown hK hP hD hS hf66 eS1 dX6_no_2 (fun H locs hP hD hS => ?_)
  refine lv_iconst (v := 0) hx hb dX6_no_5 (by decide) ?_
  obtain ⟨eS, ev⟩ := Prod.mk.inj (Option.some.inj h)
  subst eS
  exact g_iret hQ hx hb hr hP hK hD hS (Nat.le_of_ble_eq_true rfl) (Nat.le_of_ble_eq_true rfl) dX6_no_6 hlocks ev
set_option maxHeartbeats 4000000 in
set_option maxRecDepth 100000 in
theorem m_X6_isClass (l : Launch) (hst : l.stackTraces = false) (D : va_G) (cy : Nat → ClassId) (tx : List (ClassId × FieldType)) (ad : Nat → Nat) (R : va_W) (sz : Nat) (S : PS) (x1 : Int32) (v : Int32) (h : q_X6_isClass S x1 = some v) : gMi l yX6_isClass wsX6_isClass ({ frames := 1, cells := 0, slots := 0, locals := 22 }) 0 0 D (gT cy ++ tx) [.ref (ad 0), .int x1] sz (mW cy ad S R) (mW cy ad S R) v := by
  refine Met.ofW (cc := cX6_isClass) (maxL := 2) (ret := (some .boolean)) (by decide) rfl ?_
  intro p e s m args below meth c s₁ B hml hv
  obtain ⟨hav, hsz, hP, hK, hD0, hE⟩ := hv
  have hx := B.exec
  have hb := B.bytes
  have hr := B.returns
  have hts := atoms_spec (ws := wsX6_isClass) B.pre
  have hown : s.vm.findClass RX6 = some m.cls := findClass_of_methodNamed B.named
  have hlocks := B.notSynchronized
  subst hsz
  have hD := hD0.self (sz := s.heap.size)
  generalize hAe : va_A (mW cy ad S R) s.heap.size = A at hD hE ⊢
  have hA : ∀ q : Nat, s.heap.size ≤ q → A q := fun q h => by rw [← hAe]; exact Or.inr h
  have hS : va_S A s.heap s.heap [] := va_S.rf
  have iX6 : ∀ w ∈ u_ws RX6 TX6 22, w ∈ wsX6_isClass := by decide +kernel
  have hf7 := hts (.fieldLink RX6 7 "InlinePlannerModel" "classes" "I") (by decide +kernel)
  refine g_entry (n := 2) hav (Nat.le_of_ble_eq_true rfl) (fun ls hl => ?_)
  have hl : lv_has ls 2 [(0, .ref (ad 0)), (1, .int x1)] := hl
  refine g_nameQ (fun Q hQ => ?_)
  unfold q_X6_isClass at h
  refine lv_iload_n hx hb dX6_isClass_0 rfl (lv_at hl 1 rfl) ?_
  refine lv_iconst (v := 0) hx hb dX6_isClass_1 (by decide) ?_
  refine lv_aload_n hx hb dX6_isClass_2 rfl (lv_at hl 0 rfl) ?_
  refine mgX6_1 hx hb hts iX6 hown hK hP hf7 dX6_isClass_3 ?_
  refine lv_iconst (v := 1) hx hb dX6_isClass_6 (by decide) ?_
  refine lv_isub hx hb dX6_isClass_7 ?_
  obtain ⟨v1, ev1, h⟩ := o_bind h
  refine g_cSi (As := [.int x1, .int 0, .int ((S.1 1) - 1)]) (rest := []) ⟨hx, hb, hml, hown, hts⟩ (m_X6_isIn l hst D (gT cy ++ tx) (mW cy ad S R) _ x1 0 ((S.1 1) - 1) v1 ev1) (va_cwS 3 hts gX6_isClass_X6_isIn rfl rfl rfl (by decide +kernel) ⟨Nat.le_of_ble_eq_true rfl, Nat.le_of_ble_eq_true rfl⟩) hP hK hD hS hA hE rfl hl.1 rfl (Nat.le_of_ble_eq_true rfl) dX6_isClass_8 ⟨Nat.le_of_ble_eq_true rfl, Nat.le_of_ble_eq_true rfl⟩ (fun H locs hP hD hS => ?_)
  obtain ⟨z2, ez2, h⟩ := o_bind h
  obtain ⟨hn, ez2⟩ := zg_spec ez2
  subst ez2
  exact g_zret hQ hx hb hr hn hP hK hD hS (Nat.le_of_ble_eq_true rfl) (Nat.le_of_ble_eq_true rfl) dX6_isClass_11 hlocks (Option.some.inj h)
set_option maxHeartbeats 4000000 in
set_option maxRecDepth 100000 in
theorem m_X6_isMethod (l : Launch) (hst : l.stackTraces = false) (D : va_G) (cy : Nat → ClassId) (tx : List (ClassId × FieldType)) (ad : Nat → Nat) (R : va_W) (sz : Nat) (S : PS) (x1 : Int32) (v : Int32) (h : q_X6_isMethod S x1 = some v) : gMi l yX6_isMethod wsX6_isMethod ({ frames := 1, cells := 0, slots := 0, locals := 22 }) 0 0 D (gT cy ++ tx) [.ref (ad 0), .int x1] sz (mW cy ad S R) (mW cy ad S R) v := by
  refine Met.ofW (cc := cX6_isMethod) (maxL := 2) (ret := (some .boolean)) (by decide) rfl ?_
  intro p e s m args below meth c s₁ B hml hv
  obtain ⟨hav, hsz, hP, hK, hD0, hE⟩ := hv
  have hx := B.exec
  have hb := B.bytes
  have hr := B.returns
  have hts := atoms_spec (ws := wsX6_isMethod) B.pre
  have hown : s.vm.findClass RX6 = some m.cls := findClass_of_methodNamed B.named
  have hlocks := B.notSynchronized
  subst hsz
  have hD := hD0.self (sz := s.heap.size)
  generalize hAe : va_A (mW cy ad S R) s.heap.size = A at hD hE ⊢
  have hA : ∀ q : Nat, s.heap.size ≤ q → A q := fun q h => by rw [← hAe]; exact Or.inr h
  have hS : va_S A s.heap s.heap [] := va_S.rf
  have iX6 : ∀ w ∈ u_ws RX6 TX6 22, w ∈ wsX6_isMethod := by decide +kernel
  have hf73 := hts (.fieldLink RX6 73 "InlinePlannerModel" "methods" "I") (by decide +kernel)
  refine g_entry (n := 2) hav (Nat.le_of_ble_eq_true rfl) (fun ls hl => ?_)
  have hl : lv_has ls 2 [(0, .ref (ad 0)), (1, .int x1)] := hl
  refine g_nameQ (fun Q hQ => ?_)
  unfold q_X6_isMethod at h
  refine lv_iload_n hx hb dX6_isMethod_0 rfl (lv_at hl 1 rfl) ?_
  refine lv_iconst (v := 0) hx hb dX6_isMethod_1 (by decide) ?_
  refine lv_aload_n hx hb dX6_isMethod_2 rfl (lv_at hl 0 rfl) ?_
  refine mgX6_4 hx hb hts iX6 hown hK hP hf73 dX6_isMethod_3 ?_
  refine lv_iconst (v := 1) hx hb dX6_isMethod_6 (by decide) ?_
  refine lv_isub hx hb dX6_isMethod_7 ?_
  obtain ⟨v1, ev1, h⟩ := o_bind h
  refine g_cSi (As := [.int x1, .int 0, .int ((S.1 2) - 1)]) (rest := []) ⟨hx, hb, hml, hown, hts⟩ (m_X6_isIn l hst D (gT cy ++ tx) (mW cy ad S R) _ x1 0 ((S.1 2) - 1) v1 ev1) (va_cwS 3 hts gX6_isMethod_X6_isIn rfl rfl rfl (by decide +kernel) ⟨Nat.le_of_ble_eq_true rfl, Nat.le_of_ble_eq_true rfl⟩) hP hK hD hS hA hE rfl hl.1 rfl (Nat.le_of_ble_eq_true rfl) dX6_isMethod_8 ⟨Nat.le_of_ble_eq_true rfl, Nat.le_of_ble_eq_true rfl⟩ (fun H locs hP hD hS => ?_)
  obtain ⟨z2, ez2, h⟩ := o_bind h
  obtain ⟨hn, ez2⟩ := zg_spec ez2
  subst ez2
  exact g_zret hQ hx hb hr hn hP hK hD hS (Nat.le_of_ble_eq_true rfl) (Nat.le_of_ble_eq_true rfl) dX6_isMethod_11 hlocks (Option.some.inj h)
set_option maxHeartbeats 4000000 in
set_option maxRecDepth 100000 in
theorem m_X6_addClass (l : Launch) (hst : l.stackTraces = false) (D : va_G) (cy : Nat → ClassId) (tx : List (ClassId × FieldType)) (ad : Nat → Nat) (R : va_W) (sz : Nat) (S : PS) (x1 : Int32) (S' : PS) (v : Int32) (h : q_X6_addClass S x1 = some (S', v)) : gMi l yX6_addClass wsX6_addClass ({ frames := 2, cells := 0, slots := 0, locals := 43 }) 0 0 D (gT cy ++ tx) [.ref (ad 0), .int x1] sz (mW cy ad S R) (mW cy ad S' R) v := by
  refine Met.ofW (cc := cX6_addClass) (maxL := 2) (ret := (some .int)) (by decide) rfl ?_
  intro p e s m args below meth c s₁ B hml hv
  obtain ⟨hav, hsz, hP, hK, hD0, hE⟩ := hv
  have hx := B.exec
  have hb := B.bytes
  have hr := B.returns
  have hts := atoms_spec (ws := wsX6_addClass) B.pre
  have hown : s.vm.findClass RX6 = some m.cls := findClass_of_methodNamed B.named
  have hlocks := B.notSynchronized
  subst hsz
  have hD := hD0.self (sz := s.heap.size)
  generalize hAe : va_A (mW cy ad S R) s.heap.size = A at hD hE ⊢
  have hA : ∀ q : Nat, s.heap.size ≤ q → A q := fun q h => by rw [← hAe]; exact Or.inr h
  have hS : va_S A s.heap s.heap [] := va_S.rf
  have iX6 : ∀ w ∈ u_ws RX6 TX6 22, w ∈ wsX6_addClass := by decide +kernel
  have hf7 := hts (.fieldLink RX6 7 "InlinePlannerModel" "classes" "I") (by decide +kernel)
  have hf13 := hts (.fieldLink RX6 13 "InlinePlannerModel" "parents" "[I") (by decide +kernel)
  have hf17 := hts (.fieldLink RX6 17 "InlinePlannerModel" "isLive" "[Z") (by decide +kernel)
  have hf66 := hts (.fieldLink RX6 66 "InlinePlannerModel" "thrown" "I") (by decide +kernel)
  refine g_entry (n := 2) hav (Nat.le_of_ble_eq_true rfl) (fun ls hl => ?_)
  have hl : lv_has ls 2 [(0, .ref (ad 0)), (1, .int x1)] := hl
  refine g_nameQ (fun Q hQ => ?_)
  unfold q_X6_addClass at h
  refine lv_aload_n hx hb dX6_addClass_0 rfl (lv_at hl 0 rfl) ?_
  refine lv_iconst (v := 0) hx hb dX6_addClass_1 (by decide) ?_
  obtain ⟨S1, eS1, h⟩ := o_bind h
  refine mpX6_0 hx hb hts iX6 hown hK hP hD hS hf66 eS1 dX6_addClass_2 (fun H locs hP hD hS => ?_)
  refine lv_aload_n hx hb dX6_addClass_5 rfl (lv_at hl 0 rfl) ?_
  refine lv_iload_n hx hb dX6_addClass_6 rfl (lv_at hl 1 rfl) ?_
  obtain ⟨v2, ev2, h⟩ := o_bind h
  refine g_cVi (As := [.int x1]) (rest := []) ⟨hx, hb, hml, hown, hts⟩ (m_X6_isClass l hst D cy tx ad R _ S1 x1 v2 ev2) (cwV 1 hts gX6_addClass_X6_isClass rfl rfl rfl (by decide +kernel) ⟨Nat.le_of_ble_eq_true rfl, Nat.le_of_ble_eq_true rfl⟩) (va_recv hK hP (ci := 6) (q0 := 0) rfl rfl) hP hK hD hS hA hE rfl hl.1 rfl (Nat.le_of_ble_eq_true rfl) dX6_addClass_7 ⟨Nat.le_of_ble_eq_true rfl, Nat.le_of_ble_eq_true rfl⟩ (fun H locs hP hD hS => ?_)
  refine lv_if_ne (tgt := 19) hx hb dX6_addClass_10 (by decide) (fun hc => ?_) (fun hc => ?_)
  · have h := o_neg hc h
    refine lv_aload_n hx hb dX6_addClass_19 rfl (lv_at hl 0 rfl) ?_
    refine mgX6_1 hx hb hts iX6 hown hK hP hf7 dX6_addClass_20 ?_
    refine lv_bipush (v := 16) hx hb dX6_addClass_23 (by decide) ?_
    refine lv_icmp_ne (tgt := 34) hx hb dX6_addClass_25 (by decide) (fun hc => ?_) (fun hc => ?_)
    · have h := o_neg hc h
      refine lv_aload_n hx hb dX6_addClass_34 rfl (lv_at hl 0 rfl) ?_
      refine mgX6_2 hx hb hts iX6 hown hK hP hf13 dX6_addClass_35 ?_
      refine lv_aload_n hx hb dX6_addClass_38 rfl (lv_at hl 0 rfl) ?_
      refine mgX6_1 hx hb hts iX6 hown hK hP hf7 dX6_addClass_39 ?_
      refine lv_iload_n hx hb dX6_addClass_42 rfl (lv_at hl 1 rfl) ?_
      obtain ⟨S3, eS3, h⟩ := o_bind h
      refine mst0 hx hb hK hP hD hS eS3 dX6_addClass_43 (fun H locs hP hD hS => ?_)
      refine lv_aload_n hx hb dX6_addClass_44 rfl (lv_at hl 0 rfl) ?_
      refine mgX6_3 hx hb hts iX6 hown hK hP hf17 dX6_addClass_45 ?_
      refine lv_aload_n hx hb dX6_addClass_48 rfl (lv_at hl 0 rfl) ?_
      refine mgX6_1 hx hb hts iX6 hown hK hP hf7 dX6_addClass_49 ?_
      refine lv_iconst (v := 0) hx hb dX6_addClass_52 (by decide) ?_
      obtain ⟨S4, eS4, h⟩ := o_bind h
      refine mst1 hx hb hK hP hD hS eS4 dX6_addClass_53 (fun H locs hP hD hS => ?_)
      refine lv_aload_n hx hb dX6_addClass_54 rfl (lv_at hl 0 rfl) ?_
      refine lv_dup hx hb dX6_addClass_55 rfl ?_
      refine mgX6_1 hx hb hts iX6 hown hK hP hf7 dX6_addClass_56 ?_
      refine lv_iconst (v := 1) hx hb dX6_addClass_59 (by decide) ?_
      refine lv_iadd hx hb dX6_addClass_60 ?_
      obtain ⟨S5, eS5, h⟩ := o_bind h
      refine mpX6_1 hx hb hts iX6 hown hK hP hD hS hf7 eS5 dX6_addClass_61 (fun H locs hP hD hS => ?_)
      refine lv_aload_n hx hb dX6_addClass_64 rfl (lv_at hl 0 rfl) ?_
      refine mgX6_1 hx hb hts iX6 hown hK hP hf7 dX6_addClass_65 ?_
      refine lv_iconst (v := 1) hx hb dX6_addClass_68 (by decide) ?_
      refine lv_isub hx hb dX6_addClass_69 ?_
      obtain ⟨eS, ev⟩ := Prod.mk.inj (Option.some.inj h)
      subst eS
      exact g_iret hQ hx hb hr hP hK hD hS (Nat.le_of_ble_eq_true rfl) (Nat.le_of_ble_eq_true rfl) dX6_addClass_70 hlocks ev
    · have h := o_pos hc h
      refine lv_aload_n hx hb dX6_addClass_28 rfl (lv_at hl 0 rfl) ?_
      refine lv_iconst (v := 2) hx hb dX6_addClass_29 (by decide) ?_
      obtain ⟨⟨S7, v6⟩, ev6, h⟩ := o_bind h
      refine g_cVi (As := [.int 2]) (rest := []) ⟨hx, hb, hml, hown, hts⟩ (m_X6_no l hst D cy tx ad R _ S1 2 S7 v6 ev6) (cwV 1 hts gX6_addClass_X6_no rfl rfl rfl (by decide +kernel) ⟨Nat.le_of_ble_eq_true rfl, Nat.le_of_ble_eq_true rfl⟩) (va_recv hK hP (ci := 6) (q0 := 0) rfl rfl) hP hK hD hS hA hE rfl hl.1 rfl (Nat.le_of_ble_eq_true rfl) dX6_addClass_30 ⟨Nat.le_of_ble_eq_true rfl, Nat.le_of_ble_eq_true rfl⟩ (fun H locs hP hD hS => ?_)
      obtain ⟨eS, ev⟩ := Prod.mk.inj (Option.some.inj h)
      subst eS
      exact g_iret hQ hx hb hr hP hK hD hS (Nat.le_of_ble_eq_true rfl) (Nat.le_of_ble_eq_true rfl) dX6_addClass_33 hlocks ev
  · have h := o_pos hc h
    refine lv_aload_n hx hb dX6_addClass_13 rfl (lv_at hl 0 rfl) ?_
    refine lv_iconst (v := 1) hx hb dX6_addClass_14 (by decide) ?_
    obtain ⟨⟨S9, v8⟩, ev8, h⟩ := o_bind h
    refine g_cVi (As := [.int 1]) (rest := []) ⟨hx, hb, hml, hown, hts⟩ (m_X6_no l hst D cy tx ad R _ S1 1 S9 v8 ev8) (cwV 1 hts gX6_addClass_X6_no rfl rfl rfl (by decide +kernel) ⟨Nat.le_of_ble_eq_true rfl, Nat.le_of_ble_eq_true rfl⟩) (va_recv hK hP (ci := 6) (q0 := 0) rfl rfl) hP hK hD hS hA hE rfl hl.1 rfl (Nat.le_of_ble_eq_true rfl) dX6_addClass_15 ⟨Nat.le_of_ble_eq_true rfl, Nat.le_of_ble_eq_true rfl⟩ (fun H locs hP hD hS => ?_)
    obtain ⟨eS, ev⟩ := Prod.mk.inj (Option.some.inj h)
    subst eS
    exact g_iret hQ hx hb hr hP hK hD hS (Nat.le_of_ble_eq_true rfl) (Nat.le_of_ble_eq_true rfl) dX6_addClass_18 hlocks ev
set_option maxHeartbeats 4000000 in
set_option maxRecDepth 100000 in
theorem m_X6_setLive (l : Launch) (hst : l.stackTraces = false) (D : va_G) (cy : Nat → ClassId) (tx : List (ClassId × FieldType)) (ad : Nat → Nat) (R : va_W) (sz : Nat) (S : PS) (x1 : Int32) (x2 : Int32) (S' : PS) (v : Int32) (h : q_X6_setLive S x1 x2 = some (S', v)) : gMi l yX6_setLive wsX6_setLive ({ frames := 2, cells := 0, slots := 0, locals := 43 }) 0 0 D (gT cy ++ tx) [.ref (ad 0), .int x1, .int x2] sz (mW cy ad S R) (mW cy ad S' R) v := by
  refine Met.ofW (cc := cX6_setLive) (maxL := 4) (ret := (some .boolean)) (by decide) rfl ?_
  intro p e s m args below meth c s₁ B hml hv
  obtain ⟨hav, hsz, hP, hK, hD0, hE⟩ := hv
  have hx := B.exec
  have hb := B.bytes
  have hr := B.returns
  have hts := atoms_spec (ws := wsX6_setLive) B.pre
  have hown : s.vm.findClass RX6 = some m.cls := findClass_of_methodNamed B.named
  have hlocks := B.notSynchronized
  subst hsz
  have hD := hD0.self (sz := s.heap.size)
  generalize hAe : va_A (mW cy ad S R) s.heap.size = A at hD hE ⊢
  have hA : ∀ q : Nat, s.heap.size ≤ q → A q := fun q h => by rw [← hAe]; exact Or.inr h
  have hS : va_S A s.heap s.heap [] := va_S.rf
  have iX6 : ∀ w ∈ u_ws RX6 TX6 22, w ∈ wsX6_setLive := by decide +kernel
  have hf17 := hts (.fieldLink RX6 17 "InlinePlannerModel" "isLive" "[Z") (by decide +kernel)
  have hf66 := hts (.fieldLink RX6 66 "InlinePlannerModel" "thrown" "I") (by decide +kernel)
  refine g_entry (n := 4) hav (Nat.le_of_ble_eq_true rfl) (fun ls hl => ?_)
  have hl : lv_has ls 4 [(0, .ref (ad 0)), (1, .int x1), (2, .int x2)] := hl
  refine g_nameQ (fun Q hQ => ?_)
  unfold q_X6_setLive at h
  refine lv_aload_n hx hb dX6_setLive_0 rfl (lv_at hl 0 rfl) ?_
  refine lv_aload_n hx hb dX6_setLive_1 rfl (lv_at hl 0 rfl) ?_
  refine lv_iload_n hx hb dX6_setLive_2 rfl (lv_at hl 1 rfl) ?_
  obtain ⟨v1, ev1, h⟩ := o_bind h
  refine g_cVi (As := [.int x1]) (rest := [.ref (ad 0)]) ⟨hx, hb, hml, hown, hts⟩ (m_X6_isClass l hst D cy tx ad R _ S x1 v1 ev1) (cwV 1 hts gX6_setLive_X6_isClass rfl rfl rfl (by decide +kernel) ⟨Nat.le_of_ble_eq_true rfl, Nat.le_of_ble_eq_true rfl⟩) (va_recv hK hP (ci := 6) (q0 := 0) rfl rfl) hP hK hD hS hA hE rfl hl.1 rfl (Nat.le_of_ble_eq_true rfl) dX6_setLive_3 ⟨Nat.le_of_ble_eq_true rfl, Nat.le_of_ble_eq_true rfl⟩ (fun H locs hP hD hS => ?_)
  refine lv_if_eq (tgt := 13) hx hb dX6_setLive_6 (by decide) (fun hc => ?_) (fun hc => ?_)
  · have h := o_pos hc h
    refine lv_iconst (v := 1) hx hb dX6_setLive_13 (by decide) ?_
    obtain ⟨S2, eS2, h⟩ := o_bind h
    refine mpX6_0 hx hb hts iX6 hown hK hP hD hS hf66 eS2 dX6_setLive_14 (fun H locs hP hD hS => ?_)
    refine lv_aload_n hx hb dX6_setLive_17 rfl (lv_at hl 0 rfl) ?_
    refine mgX6_0 hx hb hts iX6 hown hK hP hf66 dX6_setLive_18 ?_
    refine lv_if_eq (tgt := 26) hx hb dX6_setLive_21 (by decide) (fun hc => ?_) (fun hc => ?_)
    · have h := o_pos hc h
      refine lv_aload_n hx hb dX6_setLive_26 rfl (lv_at hl 0 rfl) ?_
      refine mgX6_3 hx hb hts iX6 hown hK hP hf17 dX6_setLive_27 ?_
      refine lv_iload_n hx hb dX6_setLive_30 rfl (lv_at hl 1 rfl) ?_
      obtain ⟨v3, ev3, h⟩ := o_bind h
      refine mld1 hx hb hK hP ev3 dX6_setLive_31 ?_
      refine lv_istore_n (lv' := [(3, .int v3), (0, .ref (ad 0)), (1, .int x1), (2, .int x2)]) hx hb dX6_setLive_32 rfl hl (by decide) rfl (fun ls hl => ?_)
      refine lv_aload_n hx hb dX6_setLive_33 rfl (lv_at hl 1 rfl) ?_
      refine mgX6_3 hx hb hts iX6 hown hK hP hf17 dX6_setLive_34 ?_
      refine lv_iload_n hx hb dX6_setLive_37 rfl (lv_at hl 2 rfl) ?_
      refine lv_iload_n hx hb dX6_setLive_38 rfl (lv_at hl 3 rfl) ?_
      obtain ⟨S4, eS4, h⟩ := o_bind h
      refine mst1 hx hb hK hP hD hS eS4 dX6_setLive_39 (fun H locs hP hD hS => ?_)
      refine lv_iload_n hx hb dX6_setLive_40 rfl (lv_at hl 0 rfl) ?_
      obtain ⟨z5, ez5, h⟩ := o_bind h
      obtain ⟨hn, ez5⟩ := zg_spec ez5
      subst ez5
      obtain ⟨eS, ev⟩ := Prod.mk.inj (Option.some.inj h)
      subst eS
      exact g_zret hQ hx hb hr hn hP hK hD hS (Nat.le_of_ble_eq_true rfl) (Nat.le_of_ble_eq_true rfl) dX6_setLive_41 hlocks ev
    · have h := o_neg hc h
      refine lv_iconst (v := 0) hx hb dX6_setLive_24 (by decide) ?_
      obtain ⟨eS, ev⟩ := Prod.mk.inj (Option.some.inj h)
      subst eS
      exact g_zret hQ hx hb hr rfl hP hK hD hS (Nat.le_of_ble_eq_true rfl) (Nat.le_of_ble_eq_true rfl) dX6_setLive_25 hlocks ev
  · have h := o_neg hc h
    refine lv_iconst (v := 0) hx hb dX6_setLive_9 (by decide) ?_
    refine lv_goto (tgt := 14) hx hb dX6_setLive_10 (by decide) ?_
    obtain ⟨S6, eS6, h⟩ := o_bind h
    refine mpX6_0 hx hb hts iX6 hown hK hP hD hS hf66 eS6 dX6_setLive_14 (fun H locs hP hD hS => ?_)
    refine lv_aload_n hx hb dX6_setLive_17 rfl (lv_at hl 0 rfl) ?_
    refine mgX6_0 hx hb hts iX6 hown hK hP hf66 dX6_setLive_18 ?_
    refine lv_if_eq (tgt := 26) hx hb dX6_setLive_21 (by decide) (fun hc => ?_) (fun hc => ?_)
    · have h := o_pos hc h
      refine lv_aload_n hx hb dX6_setLive_26 rfl (lv_at hl 0 rfl) ?_
      refine mgX6_3 hx hb hts iX6 hown hK hP hf17 dX6_setLive_27 ?_
      refine lv_iload_n hx hb dX6_setLive_30 rfl (lv_at hl 1 rfl) ?_
      obtain ⟨v7, ev7, h⟩ := o_bind h
      refine mld1 hx hb hK hP ev7 dX6_setLive_31 ?_
      refine lv_istore_n (lv' := [(3, .int v7), (0, .ref (ad 0)), (1, .int x1), (2, .int x2)]) hx hb dX6_setLive_32 rfl hl (by decide) rfl (fun ls hl => ?_)
      refine lv_aload_n hx hb dX6_setLive_33 rfl (lv_at hl 1 rfl) ?_
      refine mgX6_3 hx hb hts iX6 hown hK hP hf17 dX6_setLive_34 ?_
      refine lv_iload_n hx hb dX6_setLive_37 rfl (lv_at hl 2 rfl) ?_
      refine lv_iload_n hx hb dX6_setLive_38 rfl (lv_at hl 3 rfl) ?_
      obtain ⟨S8, eS8, h⟩ := o_bind h
      refine mst1 hx hb hK hP hD hS eS8 dX6_setLive_39 (fun H locs hP hD hS => ?_)
      refine lv_iload_n hx hb dX6_setLive_40 rfl (lv_at hl 0 rfl) ?_
      obtain ⟨z9, ez9, h⟩ := o_bind h
      obtain ⟨hn, ez9⟩ := zg_spec ez9
      subst ez9
      obtain ⟨eS, ev⟩ := Prod.mk.inj (Option.some.inj h)
      subst eS
      exact g_zret hQ hx hb hr hn hP hK hD hS (Nat.le_of_ble_eq_true rfl) (Nat.le_of_ble_eq_true rfl) dX6_setLive_41 hlocks ev
    · have h := o_neg hc h
      refine lv_iconst (v := 0) hx hb dX6_setLive_24 (by decide) ?_
      obtain ⟨eS, ev⟩ := Prod.mk.inj (Option.some.inj h)
      subst eS
      exact g_zret hQ hx hb hr rfl hP hK hD hS (Nat.le_of_ble_eq_true rfl) (Nat.le_of_ble_eq_true rfl) dX6_setLive_25 hlocks ev
set_option maxHeartbeats 4000000 in
set_option maxRecDepth 100000 in
theorem m_X6_classCount (l : Launch) (hst : l.stackTraces = false) (D : va_G) (cy : Nat → ClassId) (tx : List (ClassId × FieldType)) (ad : Nat → Nat) (R : va_W) (sz : Nat) (S : PS)  (S' : PS) (v : Int32) (h : q_X6_classCount S = some (S', v)) : gMi l yX6_classCount wsX6_classCount ({ frames := 0, cells := 0, slots := 0, locals := 0 }) 0 0 D (gT cy ++ tx) [.ref (ad 0)] sz (mW cy ad S R) (mW cy ad S' R) v := by
  refine Met.ofW (cc := cX6_classCount) (maxL := 1) (ret := (some .int)) (by decide) rfl ?_
  intro p e s m args below meth c s₁ B hml hv
  obtain ⟨hav, hsz, hP, hK, hD0, hE⟩ := hv
  have hx := B.exec
  have hb := B.bytes
  have hr := B.returns
  have hts := atoms_spec (ws := wsX6_classCount) B.pre
  have hown : s.vm.findClass RX6 = some m.cls := findClass_of_methodNamed B.named
  have hlocks := B.notSynchronized
  subst hsz
  have hD := hD0.self (sz := s.heap.size)
  generalize hAe : va_A (mW cy ad S R) s.heap.size = A at hD hE ⊢
  have hA : ∀ q : Nat, s.heap.size ≤ q → A q := fun q h => by rw [← hAe]; exact Or.inr h
  have hS : va_S A s.heap s.heap [] := va_S.rf
  have iX6 : ∀ w ∈ u_ws RX6 TX6 22, w ∈ wsX6_classCount := by decide +kernel
  have hf7 := hts (.fieldLink RX6 7 "InlinePlannerModel" "classes" "I") (by decide +kernel)
  have hf66 := hts (.fieldLink RX6 66 "InlinePlannerModel" "thrown" "I") (by decide +kernel)
  refine g_entry (n := 1) hav (Nat.le_of_ble_eq_true rfl) (fun ls hl => ?_)
  have hl : lv_has ls 1 [(0, .ref (ad 0))] := hl
  refine g_nameQ (fun Q hQ => ?_)
  unfold q_X6_classCount at h
  refine lv_aload_n hx hb dX6_classCount_0 rfl (lv_at hl 0 rfl) ?_
  refine lv_iconst (v := 0) hx hb dX6_classCount_1 (by decide) ?_
  obtain ⟨S1, eS1, h⟩ := o_bind h
  refine mpX6_0 hx hb hts iX6 hown hK hP hD hS hf66 eS1 dX6_classCount_2 (fun H locs hP hD hS => ?_)
  refine lv_aload_n hx hb dX6_classCount_5 rfl (lv_at hl 0 rfl) ?_
  refine mgX6_1 hx hb hts iX6 hown hK hP hf7 dX6_classCount_6 ?_
  obtain ⟨eS, ev⟩ := Prod.mk.inj (Option.some.inj h)
  subst eS
  exact g_iret hQ hx hb hr hP hK hD hS (Nat.le_of_ble_eq_true rfl) (Nat.le_of_ble_eq_true rfl) dX6_classCount_9 hlocks ev
set_option maxHeartbeats 4000000 in
set_option maxRecDepth 100000 in
theorem m_X6_parent (l : Launch) (hst : l.stackTraces = false) (D : va_G) (cy : Nat → ClassId) (tx : List (ClassId × FieldType)) (ad : Nat → Nat) (R : va_W) (sz : Nat) (S : PS) (x1 : Int32) (S' : PS) (v : Int32) (h : q_X6_parent S x1 = some (S', v)) : gMi l yX6_parent wsX6_parent ({ frames := 2, cells := 0, slots := 0, locals := 43 }) 0 0 D (gT cy ++ tx) [.ref (ad 0), .int x1] sz (mW cy ad S R) (mW cy ad S' R) v := by
  refine Met.ofW (cc := cX6_parent) (maxL := 2) (ret := (some .int)) (by decide) rfl ?_
  intro p e s m args below meth c s₁ B hml hv
  obtain ⟨hav, hsz, hP, hK, hD0, hE⟩ := hv
  have hx := B.exec
  have hb := B.bytes
  have hr := B.returns
  have hts := atoms_spec (ws := wsX6_parent) B.pre
  have hown : s.vm.findClass RX6 = some m.cls := findClass_of_methodNamed B.named
  have hlocks := B.notSynchronized
  subst hsz
  have hD := hD0.self (sz := s.heap.size)
  generalize hAe : va_A (mW cy ad S R) s.heap.size = A at hD hE ⊢
  have hA : ∀ q : Nat, s.heap.size ≤ q → A q := fun q h => by rw [← hAe]; exact Or.inr h
  have hS : va_S A s.heap s.heap [] := va_S.rf
  have iX6 : ∀ w ∈ u_ws RX6 TX6 22, w ∈ wsX6_parent := by decide +kernel
  have hf13 := hts (.fieldLink RX6 13 "InlinePlannerModel" "parents" "[I") (by decide +kernel)
  have hf66 := hts (.fieldLink RX6 66 "InlinePlannerModel" "thrown" "I") (by decide +kernel)
  refine g_entry (n := 2) hav (Nat.le_of_ble_eq_true rfl) (fun ls hl => ?_)
  have hl : lv_has ls 2 [(0, .ref (ad 0)), (1, .int x1)] := hl
  refine g_nameQ (fun Q hQ => ?_)
  unfold q_X6_parent at h
  refine lv_aload_n hx hb dX6_parent_0 rfl (lv_at hl 0 rfl) ?_
  refine lv_iconst (v := 0) hx hb dX6_parent_1 (by decide) ?_
  obtain ⟨S1, eS1, h⟩ := o_bind h
  refine mpX6_0 hx hb hts iX6 hown hK hP hD hS hf66 eS1 dX6_parent_2 (fun H locs hP hD hS => ?_)
  refine lv_aload_n hx hb dX6_parent_5 rfl (lv_at hl 0 rfl) ?_
  refine lv_iload_n hx hb dX6_parent_6 rfl (lv_at hl 1 rfl) ?_
  obtain ⟨v2, ev2, h⟩ := o_bind h
  refine g_cVi (As := [.int x1]) (rest := []) ⟨hx, hb, hml, hown, hts⟩ (m_X6_isClass l hst D cy tx ad R _ S1 x1 v2 ev2) (cwV 1 hts gX6_parent_X6_isClass rfl rfl rfl (by decide +kernel) ⟨Nat.le_of_ble_eq_true rfl, Nat.le_of_ble_eq_true rfl⟩) (va_recv hK hP (ci := 6) (q0 := 0) rfl rfl) hP hK hD hS hA hE rfl hl.1 rfl (Nat.le_of_ble_eq_true rfl) dX6_parent_7 ⟨Nat.le_of_ble_eq_true rfl, Nat.le_of_ble_eq_true rfl⟩ (fun H locs hP hD hS => ?_)
  refine lv_if_eq (tgt := 22) hx hb dX6_parent_10 (by decide) (fun hc => ?_) (fun hc => ?_)
  · have h := o_pos hc h
    refine lv_aload_n hx hb dX6_parent_22 rfl (lv_at hl 0 rfl) ?_
    refine lv_iconst (v := 1) hx hb dX6_parent_23 (by decide) ?_
    obtain ⟨⟨S4, v3⟩, ev3, h⟩ := o_bind h
    refine g_cVi (As := [.int 1]) (rest := []) ⟨hx, hb, hml, hown, hts⟩ (m_X6_no l hst D cy tx ad R _ S1 1 S4 v3 ev3) (cwV 1 hts gX6_parent_X6_no rfl rfl rfl (by decide +kernel) ⟨Nat.le_of_ble_eq_true rfl, Nat.le_of_ble_eq_true rfl⟩) (va_recv hK hP (ci := 6) (q0 := 0) rfl rfl) hP hK hD hS hA hE rfl hl.1 rfl (Nat.le_of_ble_eq_true rfl) dX6_parent_24 ⟨Nat.le_of_ble_eq_true rfl, Nat.le_of_ble_eq_true rfl⟩ (fun H locs hP hD hS => ?_)
    obtain ⟨eS, ev⟩ := Prod.mk.inj (Option.some.inj h)
    subst eS
    exact g_iret hQ hx hb hr hP hK hD hS (Nat.le_of_ble_eq_true rfl) (Nat.le_of_ble_eq_true rfl) dX6_parent_27 hlocks ev
  · have h := o_neg hc h
    refine lv_aload_n hx hb dX6_parent_13 rfl (lv_at hl 0 rfl) ?_
    refine mgX6_2 hx hb hts iX6 hown hK hP hf13 dX6_parent_14 ?_
    refine lv_iload_n hx hb dX6_parent_17 rfl (lv_at hl 1 rfl) ?_
    obtain ⟨v5, ev5, h⟩ := o_bind h
    refine mld0 hx hb hK hP ev5 dX6_parent_18 ?_
    refine lv_goto (tgt := 27) hx hb dX6_parent_19 (by decide) ?_
    obtain ⟨eS, ev⟩ := Prod.mk.inj (Option.some.inj h)
    subst eS
    exact g_iret hQ hx hb hr hP hK hD hS (Nat.le_of_ble_eq_true rfl) (Nat.le_of_ble_eq_true rfl) dX6_parent_27 hlocks ev
set_option maxHeartbeats 4000000 in
set_option maxRecDepth 100000 in
theorem m_X6_below (l : Launch) (hst : l.stackTraces = false) (D : va_G) (cy : Nat → ClassId) (tx : List (ClassId × FieldType)) (ad : Nat → Nat) (R : va_W) (sz : Nat) (S : PS) (x1 : Int32) (x2 : Int32) (v : Int32) (h : q_X6_below S x1 x2 = some v) : gMi l yX6_below wsX6_below ({ frames := 0, cells := 0, slots := 0, locals := 0 }) 0 0 D (gT cy ++ tx) [.ref (ad 0), .int x1, .int x2] sz (mW cy ad S R) (mW cy ad S R) v := by
  refine Met.ofW (cc := cX6_below) (maxL := 4) (ret := (some .boolean)) (by decide) rfl ?_
  intro p e s m args below meth c s₁ B hml hv
  obtain ⟨hav, hsz, hP, hK, hD0, hE⟩ := hv
  have hx := B.exec
  have hb := B.bytes
  have hr := B.returns
  have hts := atoms_spec (ws := wsX6_below) B.pre
  have hown : s.vm.findClass RX6 = some m.cls := findClass_of_methodNamed B.named
  have hlocks := B.notSynchronized
  subst hsz
  have hD := hD0.self (sz := s.heap.size)
  generalize hAe : va_A (mW cy ad S R) s.heap.size = A at hD hE ⊢
  have hA : ∀ q : Nat, s.heap.size ≤ q → A q := fun q h => by rw [← hAe]; exact Or.inr h
  have hS : va_S A s.heap s.heap [] := va_S.rf
  have iX6 : ∀ w ∈ u_ws RX6 TX6 22, w ∈ wsX6_below := by decide +kernel
  have hf13 := hts (.fieldLink RX6 13 "InlinePlannerModel" "parents" "[I") (by decide +kernel)
  refine g_entry (n := 4) hav (Nat.le_of_ble_eq_true rfl) (fun ls hl => ?_)
  have hl : lv_has ls 4 [(0, .ref (ad 0)), (1, .int x1), (2, .int x2)] := hl
  refine g_nameQ (fun Q hQ => ?_)
  unfold q_X6_below at h
  refine lv_iload_n hx hb dX6_below_0 rfl (lv_at hl 1 rfl) ?_
  refine lv_istore_n (lv' := [(3, .int x1), (0, .ref (ad 0)), (1, .int x1), (2, .int x2)]) hx hb dX6_below_1 rfl hl (by decide) rfl (fun ls hl => ?_)
  have L2 : ∀ (n2 : Nat) (x3 : Int32) (H : Heap) (locs : List Loc) (ls : Array Slot), va_P D vwCl (mW cy ad S R) H → va_D A (mW cy ad S R) → va_S A s.heap H locs → lv_has ls 4 [(0, .ref (ad 0)), (2, .int x2), (3, .int x3)] → iter1 (q_X6_below_L2 S x2 ) n2 x3 = some v → W p l e (headSpec wsX6_below ({ frames := 0, cells := 0, slots := 0, locals := 0 })).room s m args below meth c H locs 0 0 Q (F0 m 2 ls []) := by
    intro  n2
    induction n2 with
    | zero =>
      intro x3 H locs ls hP hD hS hl h
      exact (it1_0 h).elim
    | succ n2 ih2 =>
      intro x3 H locs ls hP hD hS hl h
      have h : q_X6_below_L2 S x2  (iter1 (q_X6_below_L2 S x2 ) n2) x3 = some v := h
      unfold q_X6_below_L2 at h
      refine lv_iload_n hx hb dX6_below_2 rfl (lv_at hl 2 rfl) ?_
      refine lv_iconst (v := (-1)) hx hb dX6_below_3 (by decide) ?_
      refine lv_icmp_eq (tgt := 22) hx hb dX6_below_4 (by decide) (fun hc => ?_) (fun hc => ?_)
      · have h := o_pos hc h
        refine lv_iload_n hx hb dX6_below_22 rfl (lv_at hl 2 rfl) ?_
        refine lv_iload_n hx hb dX6_below_23 rfl (lv_at hl 1 rfl) ?_
        refine lv_icmp_ne (tgt := 31) hx hb dX6_below_24 (by decide) (fun hc => ?_) (fun hc => ?_)
        · have h := o_neg hc h
          refine lv_iconst (v := 0) hx hb dX6_below_31 (by decide) ?_
          exact g_zret hQ hx hb hr rfl hP hK hD hS (Nat.le_of_ble_eq_true rfl) (Nat.le_of_ble_eq_true rfl) dX6_below_32 hlocks (Option.some.inj h)
        · have h := o_pos hc h
          refine lv_iconst (v := 1) hx hb dX6_below_27 (by decide) ?_
          refine lv_goto (tgt := 32) hx hb dX6_below_28 (by decide) ?_
          exact g_zret hQ hx hb hr rfl hP hK hD hS (Nat.le_of_ble_eq_true rfl) (Nat.le_of_ble_eq_true rfl) dX6_below_32 hlocks (Option.some.inj h)
      · have h := o_neg hc h
        refine lv_iload_n hx hb dX6_below_7 rfl (lv_at hl 2 rfl) ?_
        refine lv_iload_n hx hb dX6_below_8 rfl (lv_at hl 1 rfl) ?_
        refine lv_icmp_eq (tgt := 22) hx hb dX6_below_9 (by decide) (fun hc => ?_) (fun hc => ?_)
        · have h := o_pos hc h
          refine lv_iload_n hx hb dX6_below_22 rfl (lv_at hl 2 rfl) ?_
          refine lv_iload_n hx hb dX6_below_23 rfl (lv_at hl 1 rfl) ?_
          refine lv_icmp_ne (tgt := 31) hx hb dX6_below_24 (by decide) (fun hc => ?_) (fun hc => ?_)
          · have h := o_neg hc h
            refine lv_iconst (v := 0) hx hb dX6_below_31 (by decide) ?_
            exact g_zret hQ hx hb hr rfl hP hK hD hS (Nat.le_of_ble_eq_true rfl) (Nat.le_of_ble_eq_true rfl) dX6_below_32 hlocks (Option.some.inj h)
          · have h := o_pos hc h
            refine lv_iconst (v := 1) hx hb dX6_below_27 (by decide) ?_
            refine lv_goto (tgt := 32) hx hb dX6_below_28 (by decide) ?_
            exact g_zret hQ hx hb hr rfl hP hK hD hS (Nat.le_of_ble_eq_true rfl) (Nat.le_of_ble_eq_true rfl) dX6_below_32 hlocks (Option.some.inj h)
        · have h := o_neg hc h
          refine lv_aload_n hx hb dX6_below_12 rfl (lv_at hl 0 rfl) ?_
          refine mgX6_2 hx hb hts iX6 hown hK hP hf13 dX6_below_13 ?_
          refine lv_iload_n hx hb dX6_below_16 rfl (lv_at hl 2 rfl) ?_
          obtain ⟨v1, ev1, h⟩ := o_bind h
          refine mld0 hx hb hK hP ev1 dX6_below_17 ?_
          refine lv_istore_n (lv' := [(3, .int v1), (0, .ref (ad 0)), (2, .int x2)]) hx hb dX6_below_18 rfl hl (by decide) rfl (fun ls hl => ?_)
          refine lv_goto (tgt := 2) hx hb dX6_below_19 (by decide) ?_
          exact ih2 v1 _ _ ls hP hD hS (lv_sub hl [1, 2, 0] rfl) h
  exact L2  1000 x1 _ _ ls hP hD hS (lv_sub hl [1, 3, 0] rfl) h
set_option maxHeartbeats 4000000 in
set_option maxRecDepth 100000 in
theorem m_X6_isBelow (l : Launch) (hst : l.stackTraces = false) (D : va_G) (cy : Nat → ClassId) (tx : List (ClassId × FieldType)) (ad : Nat → Nat) (R : va_W) (sz : Nat) (S : PS) (x1 : Int32) (x2 : Int32) (S' : PS) (v : Int32) (h : q_X6_isBelow S x1 x2 = some (S', v)) : gMi l yX6_isBelow wsX6_isBelow ({ frames := 2, cells := 0, slots := 0, locals := 43 }) 0 0 D (gT cy ++ tx) [.ref (ad 0), .int x1, .int x2] sz (mW cy ad S R) (mW cy ad S' R) v := by
  refine Met.ofW (cc := cX6_isBelow) (maxL := 3) (ret := (some .boolean)) (by decide) rfl ?_
  intro p e s m args below meth c s₁ B hml hv
  obtain ⟨hav, hsz, hP, hK, hD0, hE⟩ := hv
  have hx := B.exec
  have hb := B.bytes
  have hr := B.returns
  have hts := atoms_spec (ws := wsX6_isBelow) B.pre
  have hown : s.vm.findClass RX6 = some m.cls := findClass_of_methodNamed B.named
  have hlocks := B.notSynchronized
  subst hsz
  have hD := hD0.self (sz := s.heap.size)
  generalize hAe : va_A (mW cy ad S R) s.heap.size = A at hD hE ⊢
  have hA : ∀ q : Nat, s.heap.size ≤ q → A q := fun q h => by rw [← hAe]; exact Or.inr h
  have hS : va_S A s.heap s.heap [] := va_S.rf
  have iX6 : ∀ w ∈ u_ws RX6 TX6 22, w ∈ wsX6_isBelow := by decide +kernel
  have hf66 := hts (.fieldLink RX6 66 "InlinePlannerModel" "thrown" "I") (by decide +kernel)
  refine g_entry (n := 3) hav (Nat.le_of_ble_eq_true rfl) (fun ls hl => ?_)
  have hl : lv_has ls 3 [(0, .ref (ad 0)), (1, .int x1), (2, .int x2)] := hl
  refine g_nameQ (fun Q hQ => ?_)
  unfold q_X6_isBelow at h
  refine lv_aload_n hx hb dX6_isBelow_0 rfl (lv_at hl 0 rfl) ?_
  refine lv_aload_n hx hb dX6_isBelow_1 rfl (lv_at hl 0 rfl) ?_
  refine lv_iload_n hx hb dX6_isBelow_2 rfl (lv_at hl 1 rfl) ?_
  obtain ⟨v1, ev1, h⟩ := o_bind h
  refine g_cVi (As := [.int x1]) (rest := [.ref (ad 0)]) ⟨hx, hb, hml, hown, hts⟩ (m_X6_isClass l hst D cy tx ad R _ S x1 v1 ev1) (cwV 1 hts gX6_isBelow_X6_isClass rfl rfl rfl (by decide +kernel) ⟨Nat.le_of_ble_eq_true rfl, Nat.le_of_ble_eq_true rfl⟩) (va_recv hK hP (ci := 6) (q0 := 0) rfl rfl) hP hK hD hS hA hE rfl hl.1 rfl (Nat.le_of_ble_eq_true rfl) dX6_isBelow_3 ⟨Nat.le_of_ble_eq_true rfl, Nat.le_of_ble_eq_true rfl⟩ (fun H locs hP hD hS => ?_)
  refine lv_if_eq (tgt := 21) hx hb dX6_isBelow_6 (by decide) (fun hc => ?_) (fun hc => ?_)
  · have h := o_pos hc h
    refine lv_iconst (v := 1) hx hb dX6_isBelow_21 (by decide) ?_
    obtain ⟨S2, eS2, h⟩ := o_bind h
    refine mpX6_0 hx hb hts iX6 hown hK hP hD hS hf66 eS2 dX6_isBelow_22 (fun H locs hP hD hS => ?_)
    refine lv_aload_n hx hb dX6_isBelow_25 rfl (lv_at hl 0 rfl) ?_
    refine mgX6_0 hx hb hts iX6 hown hK hP hf66 dX6_isBelow_26 ?_
    refine lv_if_ne (tgt := 45) hx hb dX6_isBelow_29 (by decide) (fun hc => ?_) (fun hc => ?_)
    · have h := o_neg hc h
      refine lv_iconst (v := 0) hx hb dX6_isBelow_45 (by decide) ?_
      obtain ⟨eS, ev⟩ := Prod.mk.inj (Option.some.inj h)
      subst eS
      exact g_zret hQ hx hb hr rfl hP hK hD hS (Nat.le_of_ble_eq_true rfl) (Nat.le_of_ble_eq_true rfl) dX6_isBelow_46 hlocks ev
    · have h := o_pos hc h
      refine lv_aload_n hx hb dX6_isBelow_32 rfl (lv_at hl 0 rfl) ?_
      refine lv_iload_n hx hb dX6_isBelow_33 rfl (lv_at hl 1 rfl) ?_
      refine lv_iload_n hx hb dX6_isBelow_34 rfl (lv_at hl 2 rfl) ?_
      obtain ⟨v3, ev3, h⟩ := o_bind h
      refine g_cVi (As := [.int x1, .int x2]) (rest := []) ⟨hx, hb, hml, hown, hts⟩ (m_X6_below l hst D cy tx ad R _ S2 x1 x2 v3 ev3) (cwV 2 hts gX6_isBelow_X6_below rfl rfl rfl (by decide +kernel) ⟨Nat.le_of_ble_eq_true rfl, Nat.le_of_ble_eq_true rfl⟩) (va_recv hK hP (ci := 6) (q0 := 0) rfl rfl) hP hK hD hS hA hE rfl hl.1 rfl (Nat.le_of_ble_eq_true rfl) dX6_isBelow_35 ⟨Nat.le_of_ble_eq_true rfl, Nat.le_of_ble_eq_true rfl⟩ (fun H locs hP hD hS => ?_)
      refine lv_if_eq (tgt := 45) hx hb dX6_isBelow_38 (by decide) (fun hc => ?_) (fun hc => ?_)
      · have h := o_pos hc h
        refine lv_iconst (v := 0) hx hb dX6_isBelow_45 (by decide) ?_
        obtain ⟨eS, ev⟩ := Prod.mk.inj (Option.some.inj h)
        subst eS
        exact g_zret hQ hx hb hr rfl hP hK hD hS (Nat.le_of_ble_eq_true rfl) (Nat.le_of_ble_eq_true rfl) dX6_isBelow_46 hlocks ev
      · have h := o_neg hc h
        refine lv_iconst (v := 1) hx hb dX6_isBelow_41 (by decide) ?_
        refine lv_goto (tgt := 46) hx hb dX6_isBelow_42 (by decide) ?_
        obtain ⟨eS, ev⟩ := Prod.mk.inj (Option.some.inj h)
        subst eS
        exact g_zret hQ hx hb hr rfl hP hK hD hS (Nat.le_of_ble_eq_true rfl) (Nat.le_of_ble_eq_true rfl) dX6_isBelow_46 hlocks ev
  · have h := o_neg hc h
    refine lv_aload_n hx hb dX6_isBelow_9 rfl (lv_at hl 0 rfl) ?_
    refine lv_iload_n hx hb dX6_isBelow_10 rfl (lv_at hl 2 rfl) ?_
    obtain ⟨v4, ev4, h⟩ := o_bind h
    refine g_cVi (As := [.int x2]) (rest := [.ref (ad 0)]) ⟨hx, hb, hml, hown, hts⟩ (m_X6_isClass l hst D cy tx ad R _ S x2 v4 ev4) (cwV 1 hts gX6_isBelow_X6_isClass rfl rfl rfl (by decide +kernel) ⟨Nat.le_of_ble_eq_true rfl, Nat.le_of_ble_eq_true rfl⟩) (va_recv hK hP (ci := 6) (q0 := 0) rfl rfl) hP hK hD hS hA hE rfl hl.1 rfl (Nat.le_of_ble_eq_true rfl) dX6_isBelow_11 ⟨Nat.le_of_ble_eq_true rfl, Nat.le_of_ble_eq_true rfl⟩ (fun H locs hP hD hS => ?_)
    refine lv_if_eq (tgt := 21) hx hb dX6_isBelow_14 (by decide) (fun hc => ?_) (fun hc => ?_)
    · have h := o_pos hc h
      refine lv_iconst (v := 1) hx hb dX6_isBelow_21 (by decide) ?_
      obtain ⟨S5, eS5, h⟩ := o_bind h
      refine mpX6_0 hx hb hts iX6 hown hK hP hD hS hf66 eS5 dX6_isBelow_22 (fun H locs hP hD hS => ?_)
      refine lv_aload_n hx hb dX6_isBelow_25 rfl (lv_at hl 0 rfl) ?_
      refine mgX6_0 hx hb hts iX6 hown hK hP hf66 dX6_isBelow_26 ?_
      refine lv_if_ne (tgt := 45) hx hb dX6_isBelow_29 (by decide) (fun hc => ?_) (fun hc => ?_)
      · have h := o_neg hc h
        refine lv_iconst (v := 0) hx hb dX6_isBelow_45 (by decide) ?_
        obtain ⟨eS, ev⟩ := Prod.mk.inj (Option.some.inj h)
        subst eS
        exact g_zret hQ hx hb hr rfl hP hK hD hS (Nat.le_of_ble_eq_true rfl) (Nat.le_of_ble_eq_true rfl) dX6_isBelow_46 hlocks ev
      · have h := o_pos hc h
        refine lv_aload_n hx hb dX6_isBelow_32 rfl (lv_at hl 0 rfl) ?_
        refine lv_iload_n hx hb dX6_isBelow_33 rfl (lv_at hl 1 rfl) ?_
        refine lv_iload_n hx hb dX6_isBelow_34 rfl (lv_at hl 2 rfl) ?_
        obtain ⟨v6, ev6, h⟩ := o_bind h
        refine g_cVi (As := [.int x1, .int x2]) (rest := []) ⟨hx, hb, hml, hown, hts⟩ (m_X6_below l hst D cy tx ad R _ S5 x1 x2 v6 ev6) (cwV 2 hts gX6_isBelow_X6_below rfl rfl rfl (by decide +kernel) ⟨Nat.le_of_ble_eq_true rfl, Nat.le_of_ble_eq_true rfl⟩) (va_recv hK hP (ci := 6) (q0 := 0) rfl rfl) hP hK hD hS hA hE rfl hl.1 rfl (Nat.le_of_ble_eq_true rfl) dX6_isBelow_35 ⟨Nat.le_of_ble_eq_true rfl, Nat.le_of_ble_eq_true rfl⟩ (fun H locs hP hD hS => ?_)
        refine lv_if_eq (tgt := 45) hx hb dX6_isBelow_38 (by decide) (fun hc => ?_) (fun hc => ?_)
        · have h := o_pos hc h
          refine lv_iconst (v := 0) hx hb dX6_isBelow_45 (by decide) ?_
          obtain ⟨eS, ev⟩ := Prod.mk.inj (Option.some.inj h)
          subst eS
          exact g_zret hQ hx hb hr rfl hP hK hD hS (Nat.le_of_ble_eq_true rfl) (Nat.le_of_ble_eq_true rfl) dX6_isBelow_46 hlocks ev
        · have h := o_neg hc h
          refine lv_iconst (v := 1) hx hb dX6_isBelow_41 (by decide) ?_
          refine lv_goto (tgt := 46) hx hb dX6_isBelow_42 (by decide) ?_
          obtain ⟨eS, ev⟩ := Prod.mk.inj (Option.some.inj h)
          subst eS
          exact g_zret hQ hx hb hr rfl hP hK hD hS (Nat.le_of_ble_eq_true rfl) (Nat.le_of_ble_eq_true rfl) dX6_isBelow_46 hlocks ev
    · have h := o_neg hc h
      refine lv_iconst (v := 0) hx hb dX6_isBelow_17 (by decide) ?_
      refine lv_goto (tgt := 22) hx hb dX6_isBelow_18 (by decide) ?_
      obtain ⟨S7, eS7, h⟩ := o_bind h
      refine mpX6_0 hx hb hts iX6 hown hK hP hD hS hf66 eS7 dX6_isBelow_22 (fun H locs hP hD hS => ?_)
      refine lv_aload_n hx hb dX6_isBelow_25 rfl (lv_at hl 0 rfl) ?_
      refine mgX6_0 hx hb hts iX6 hown hK hP hf66 dX6_isBelow_26 ?_
      refine lv_if_ne (tgt := 45) hx hb dX6_isBelow_29 (by decide) (fun hc => ?_) (fun hc => ?_)
      · have h := o_neg hc h
        refine lv_iconst (v := 0) hx hb dX6_isBelow_45 (by decide) ?_
        obtain ⟨eS, ev⟩ := Prod.mk.inj (Option.some.inj h)
        subst eS
        exact g_zret hQ hx hb hr rfl hP hK hD hS (Nat.le_of_ble_eq_true rfl) (Nat.le_of_ble_eq_true rfl) dX6_isBelow_46 hlocks ev
      · have h := o_pos hc h
        refine lv_aload_n hx hb dX6_isBelow_32 rfl (lv_at hl 0 rfl) ?_
        refine lv_iload_n hx hb dX6_isBelow_33 rfl (lv_at hl 1 rfl) ?_
        refine lv_iload_n hx hb dX6_isBelow_34 rfl (lv_at hl 2 rfl) ?_
        obtain ⟨v8, ev8, h⟩ := o_bind h
        refine g_cVi (As := [.int x1, .int x2]) (rest := []) ⟨hx, hb, hml, hown, hts⟩ (m_X6_below l hst D cy tx ad R _ S7 x1 x2 v8 ev8) (cwV 2 hts gX6_isBelow_X6_below rfl rfl rfl (by decide +kernel) ⟨Nat.le_of_ble_eq_true rfl, Nat.le_of_ble_eq_true rfl⟩) (va_recv hK hP (ci := 6) (q0 := 0) rfl rfl) hP hK hD hS hA hE rfl hl.1 rfl (Nat.le_of_ble_eq_true rfl) dX6_isBelow_35 ⟨Nat.le_of_ble_eq_true rfl, Nat.le_of_ble_eq_true rfl⟩ (fun H locs hP hD hS => ?_)
        refine lv_if_eq (tgt := 45) hx hb dX6_isBelow_38 (by decide) (fun hc => ?_) (fun hc => ?_)
        · have h := o_pos hc h
          refine lv_iconst (v := 0) hx hb dX6_isBelow_45 (by decide) ?_
          obtain ⟨eS, ev⟩ := Prod.mk.inj (Option.some.inj h)
          subst eS
          exact g_zret hQ hx hb hr rfl hP hK hD hS (Nat.le_of_ble_eq_true rfl) (Nat.le_of_ble_eq_true rfl) dX6_isBelow_46 hlocks ev
        · have h := o_neg hc h
          refine lv_iconst (v := 1) hx hb dX6_isBelow_41 (by decide) ?_
          refine lv_goto (tgt := 46) hx hb dX6_isBelow_42 (by decide) ?_
          obtain ⟨eS, ev⟩ := Prod.mk.inj (Option.some.inj h)
          subst eS
          exact g_zret hQ hx hb hr rfl hP hK hD hS (Nat.le_of_ble_eq_true rfl) (Nat.le_of_ble_eq_true rfl) dX6_isBelow_46 hlocks ev
set_option maxHeartbeats 4000000 in
set_option maxRecDepth 100000 in
theorem m_X6_liveBelow (l : Launch) (hst : l.stackTraces = false) (D : va_G) (cy : Nat → ClassId) (tx : List (ClassId × FieldType)) (ad : Nat → Nat) (R : va_W) (sz : Nat) (S : PS) (x1 : Int32) (S' : PS) (v : Int32) (h : q_X6_liveBelow S x1 = some (S', v)) : gMi l yX6_liveBelow wsX6_liveBelow ({ frames := 2, cells := 0, slots := 0, locals := 43 }) 0 0 D (gT cy ++ tx) [.ref (ad 0), .int x1] sz (mW cy ad S R) (mW cy ad S' R) v := by
  refine Met.ofW (cc := cX6_liveBelow) (maxL := 4) (ret := (some .int)) (by decide) rfl ?_
  intro p e s m args below meth c s₁ B hml hv
  obtain ⟨hav, hsz, hP, hK, hD0, hE⟩ := hv
  have hx := B.exec
  have hb := B.bytes
  have hr := B.returns
  have hts := atoms_spec (ws := wsX6_liveBelow) B.pre
  have hown : s.vm.findClass RX6 = some m.cls := findClass_of_methodNamed B.named
  have hlocks := B.notSynchronized
  subst hsz
  have hD := hD0.self (sz := s.heap.size)
  generalize hAe : va_A (mW cy ad S R) s.heap.size = A at hD hE ⊢
  have hA : ∀ q : Nat, s.heap.size ≤ q → A q := fun q h => by rw [← hAe]; exact Or.inr h
  have hS : va_S A s.heap s.heap [] := va_S.rf
  have iX6 : ∀ w ∈ u_ws RX6 TX6 22, w ∈ wsX6_liveBelow := by decide +kernel
  have hf7 := hts (.fieldLink RX6 7 "InlinePlannerModel" "classes" "I") (by decide +kernel)
  have hf17 := hts (.fieldLink RX6 17 "InlinePlannerModel" "isLive" "[Z") (by decide +kernel)
  have hf66 := hts (.fieldLink RX6 66 "InlinePlannerModel" "thrown" "I") (by decide +kernel)
  refine g_entry (n := 4) hav (Nat.le_of_ble_eq_true rfl) (fun ls hl => ?_)
  have hl : lv_has ls 4 [(0, .ref (ad 0)), (1, .int x1)] := hl
  refine g_nameQ (fun Q hQ => ?_)
  unfold q_X6_liveBelow at h
  refine lv_aload_n hx hb dX6_liveBelow_0 rfl (lv_at hl 0 rfl) ?_
  refine lv_iconst (v := 0) hx hb dX6_liveBelow_1 (by decide) ?_
  obtain ⟨S1, eS1, h⟩ := o_bind h
  refine mpX6_0 hx hb hts iX6 hown hK hP hD hS hf66 eS1 dX6_liveBelow_2 (fun H locs hP hD hS => ?_)
  refine lv_aload_n hx hb dX6_liveBelow_5 rfl (lv_at hl 0 rfl) ?_
  refine lv_iload_n hx hb dX6_liveBelow_6 rfl (lv_at hl 1 rfl) ?_
  obtain ⟨v2, ev2, h⟩ := o_bind h
  refine g_cVi (As := [.int x1]) (rest := []) ⟨hx, hb, hml, hown, hts⟩ (m_X6_isClass l hst D cy tx ad R _ S1 x1 v2 ev2) (cwV 1 hts gX6_liveBelow_X6_isClass rfl rfl rfl (by decide +kernel) ⟨Nat.le_of_ble_eq_true rfl, Nat.le_of_ble_eq_true rfl⟩) (va_recv hK hP (ci := 6) (q0 := 0) rfl rfl) hP hK hD hS hA hE rfl hl.1 rfl (Nat.le_of_ble_eq_true rfl) dX6_liveBelow_7 ⟨Nat.le_of_ble_eq_true rfl, Nat.le_of_ble_eq_true rfl⟩ (fun H locs hP hD hS => ?_)
  refine lv_if_ne (tgt := 19) hx hb dX6_liveBelow_10 (by decide) (fun hc => ?_) (fun hc => ?_)
  · have h := o_neg hc h
    refine lv_iconst (v := 0) hx hb dX6_liveBelow_19 (by decide) ?_
    refine lv_istore_n (lv' := [(2, .int 0), (0, .ref (ad 0)), (1, .int x1)]) hx hb dX6_liveBelow_20 rfl hl (by decide) rfl (fun ls hl => ?_)
    refine lv_iconst (v := 0) hx hb dX6_liveBelow_21 (by decide) ?_
    refine lv_istore_n (lv' := [(3, .int 0), (2, .int 0), (0, .ref (ad 0)), (1, .int x1)]) hx hb dX6_liveBelow_22 rfl hl (by decide) rfl (fun ls hl => ?_)
    have L23 : ∀ (S : PS), ∀ (n23 : Nat) (x2 : Int32) (x3 : Int32) (H : Heap) (locs : List Loc) (ls : Array Slot), va_P D vwCl (mW cy ad S R) H → va_D A (mW cy ad S R) → va_S A s.heap H locs → lv_has ls 4 [(0, .ref (ad 0)), (1, .int x1), (2, .int x2), (3, .int x3)] → iter2 (q_X6_liveBelow_L23 x1 S ) n23 x2 x3 = some (S', v) → W p l e (headSpec wsX6_liveBelow ({ frames := 2, cells := 0, slots := 0, locals := 43 })).room s m args below meth c H locs 0 0 Q (F0 m 23 ls []) := by
      intro S n23
      induction n23 with
      | zero =>
        intro x2 x3 H locs ls hP hD hS hl h
        exact (it2_0 h).elim
      | succ n23 ih23 =>
        intro x2 x3 H locs ls hP hD hS hl h
        have h : q_X6_liveBelow_L23 x1 S  (iter2 (q_X6_liveBelow_L23 x1 S ) n23) x2 x3 = some (S', v) := h
        unfold q_X6_liveBelow_L23 at h
        refine lv_iload_n hx hb dX6_liveBelow_23 rfl (lv_at hl 3 rfl) ?_
        refine lv_aload_n hx hb dX6_liveBelow_24 rfl (lv_at hl 0 rfl) ?_
        refine mgX6_1 hx hb hts iX6 hown hK hP hf7 dX6_liveBelow_25 ?_
        refine lv_icmp_ge (tgt := 63) hx hb dX6_liveBelow_28 (by decide) (fun hc => ?_) (fun hc => ?_)
        · have h := o_pos hc h
          refine lv_iload_n hx hb dX6_liveBelow_63 rfl (lv_at hl 2 rfl) ?_
          obtain ⟨eS, ev⟩ := Prod.mk.inj (Option.some.inj h)
          subst eS
          exact g_iret hQ hx hb hr hP hK hD hS (Nat.le_of_ble_eq_true rfl) (Nat.le_of_ble_eq_true rfl) dX6_liveBelow_64 hlocks ev
        · have h := o_neg hc h
          refine lv_iload_n hx hb dX6_liveBelow_31 rfl (lv_at hl 2 rfl) ?_
          refine lv_aload_n hx hb dX6_liveBelow_32 rfl (lv_at hl 0 rfl) ?_
          refine mgX6_3 hx hb hts iX6 hown hK hP hf17 dX6_liveBelow_33 ?_
          refine lv_iload_n hx hb dX6_liveBelow_36 rfl (lv_at hl 3 rfl) ?_
          obtain ⟨v3, ev3, h⟩ := o_bind h
          refine mld1 hx hb hK hP ev3 dX6_liveBelow_37 ?_
          refine lv_if_eq (tgt := 54) hx hb dX6_liveBelow_38 (by decide) (fun hc => ?_) (fun hc => ?_)
          · have h := o_pos hc h
            refine lv_iconst (v := 0) hx hb dX6_liveBelow_54 (by decide) ?_
            refine lv_iadd hx hb dX6_liveBelow_55 ?_
            refine lv_istore_n (lv' := [(2, .int (x2 + 0)), (0, .ref (ad 0)), (1, .int x1), (3, .int x3)]) hx hb dX6_liveBelow_56 rfl hl (by decide) rfl (fun ls hl => ?_)
            refine lv_iinc (v := (x3 + 1)) (lv' := [(3, .int (x3 + 1)), (2, .int (x2 + 0)), (0, .ref (ad 0)), (1, .int x1)]) hx hb dX6_liveBelow_57 hl (k := 3) rfl rfl (by decide) rfl (fun ls hl => ?_)
            refine lv_goto (tgt := 23) hx hb dX6_liveBelow_60 (by decide) ?_
            exact ih23 (x2 + 0) (x3 + 1) _ _ ls hP hD hS (lv_sub hl [2, 3, 1, 0] rfl) h
          · have h := o_neg hc h
            refine lv_aload_n hx hb dX6_liveBelow_41 rfl (lv_at hl 0 rfl) ?_
            refine lv_iload_n hx hb dX6_liveBelow_42 rfl (lv_at hl 3 rfl) ?_
            refine lv_iload_n hx hb dX6_liveBelow_43 rfl (lv_at hl 1 rfl) ?_
            obtain ⟨v4, ev4, h⟩ := o_bind h
            refine g_cVi (As := [.int x3, .int x1]) (rest := [.int x2]) ⟨hx, hb, hml, hown, hts⟩ (m_X6_below l hst D cy tx ad R _ S x3 x1 v4 ev4) (cwV 2 hts gX6_liveBelow_X6_below rfl rfl rfl (by decide +kernel) ⟨Nat.le_of_ble_eq_true rfl, Nat.le_of_ble_eq_true rfl⟩) (va_recv hK hP (ci := 6) (q0 := 0) rfl rfl) hP hK hD hS hA hE rfl hl.1 rfl (Nat.le_of_ble_eq_true rfl) dX6_liveBelow_44 ⟨Nat.le_of_ble_eq_true rfl, Nat.le_of_ble_eq_true rfl⟩ (fun H locs hP hD hS => ?_)
            refine lv_if_eq (tgt := 54) hx hb dX6_liveBelow_47 (by decide) (fun hc => ?_) (fun hc => ?_)
            · have h := o_pos hc h
              refine lv_iconst (v := 0) hx hb dX6_liveBelow_54 (by decide) ?_
              refine lv_iadd hx hb dX6_liveBelow_55 ?_
              refine lv_istore_n (lv' := [(2, .int (x2 + 0)), (0, .ref (ad 0)), (1, .int x1), (3, .int x3)]) hx hb dX6_liveBelow_56 rfl hl (by decide) rfl (fun ls hl => ?_)
              refine lv_iinc (v := (x3 + 1)) (lv' := [(3, .int (x3 + 1)), (2, .int (x2 + 0)), (0, .ref (ad 0)), (1, .int x1)]) hx hb dX6_liveBelow_57 hl (k := 3) rfl rfl (by decide) rfl (fun ls hl => ?_)
              refine lv_goto (tgt := 23) hx hb dX6_liveBelow_60 (by decide) ?_
              exact ih23 (x2 + 0) (x3 + 1) _ _ ls hP hD hS (lv_sub hl [2, 3, 1, 0] rfl) h
            · have h := o_neg hc h
              refine lv_iconst (v := 1) hx hb dX6_liveBelow_50 (by decide) ?_
              refine lv_goto (tgt := 55) hx hb dX6_liveBelow_51 (by decide) ?_
              refine lv_iadd hx hb dX6_liveBelow_55 ?_
              refine lv_istore_n (lv' := [(2, .int (x2 + 1)), (0, .ref (ad 0)), (1, .int x1), (3, .int x3)]) hx hb dX6_liveBelow_56 rfl hl (by decide) rfl (fun ls hl => ?_)
              refine lv_iinc (v := (x3 + 1)) (lv' := [(3, .int (x3 + 1)), (2, .int (x2 + 1)), (0, .ref (ad 0)), (1, .int x1)]) hx hb dX6_liveBelow_57 hl (k := 3) rfl rfl (by decide) rfl (fun ls hl => ?_)
              refine lv_goto (tgt := 23) hx hb dX6_liveBelow_60 (by decide) ?_
              exact ih23 (x2 + 1) (x3 + 1) _ _ ls hP hD hS (lv_sub hl [2, 3, 1, 0] rfl) h
    exact L23 S1 1000 0 0 _ _ ls hP hD hS (lv_sub hl [2, 3, 1, 0] rfl) h
  · have h := o_pos hc h
    refine lv_aload_n hx hb dX6_liveBelow_13 rfl (lv_at hl 0 rfl) ?_
    refine lv_iconst (v := 1) hx hb dX6_liveBelow_14 (by decide) ?_
    obtain ⟨⟨S6, v5⟩, ev5, h⟩ := o_bind h
    refine g_cVi (As := [.int 1]) (rest := []) ⟨hx, hb, hml, hown, hts⟩ (m_X6_no l hst D cy tx ad R _ S1 1 S6 v5 ev5) (cwV 1 hts gX6_liveBelow_X6_no rfl rfl rfl (by decide +kernel) ⟨Nat.le_of_ble_eq_true rfl, Nat.le_of_ble_eq_true rfl⟩) (va_recv hK hP (ci := 6) (q0 := 0) rfl rfl) hP hK hD hS hA hE rfl hl.1 rfl (Nat.le_of_ble_eq_true rfl) dX6_liveBelow_15 ⟨Nat.le_of_ble_eq_true rfl, Nat.le_of_ble_eq_true rfl⟩ (fun H locs hP hD hS => ?_)
    obtain ⟨eS, ev⟩ := Prod.mk.inj (Option.some.inj h)
    subst eS
    exact g_iret hQ hx hb hr hP hK hD hS (Nat.le_of_ble_eq_true rfl) (Nat.le_of_ble_eq_true rfl) dX6_liveBelow_18 hlocks ev
set_option maxHeartbeats 4000000 in
set_option maxRecDepth 100000 in
theorem m_X6_own (l : Launch) (hst : l.stackTraces = false) (D : va_G) (cy : Nat → ClassId) (tx : List (ClassId × FieldType)) (ad : Nat → Nat) (R : va_W) (sz : Nat) (S : PS) (x1 : Int32) (x2 : Int32) (v : Int32) (h : q_X6_own S x1 x2 = some v) : gMi l yX6_own wsX6_own ({ frames := 0, cells := 0, slots := 0, locals := 0 }) 0 0 D (gT cy ++ tx) [.ref (ad 0), .int x1, .int x2] sz (mW cy ad S R) (mW cy ad S R) v := by
  refine Met.ofW (cc := cX6_own) (maxL := 4) (ret := (some .int)) (by decide) rfl ?_
  intro p e s m args below meth c s₁ B hml hv
  obtain ⟨hav, hsz, hP, hK, hD0, hE⟩ := hv
  have hx := B.exec
  have hb := B.bytes
  have hr := B.returns
  have hts := atoms_spec (ws := wsX6_own) B.pre
  have hown : s.vm.findClass RX6 = some m.cls := findClass_of_methodNamed B.named
  have hlocks := B.notSynchronized
  subst hsz
  have hD := hD0.self (sz := s.heap.size)
  generalize hAe : va_A (mW cy ad S R) s.heap.size = A at hD hE ⊢
  have hA : ∀ q : Nat, s.heap.size ≤ q → A q := fun q h => by rw [← hAe]; exact Or.inr h
  have hS : va_S A s.heap s.heap [] := va_S.rf
  have iX6 : ∀ w ∈ u_ws RX6 TX6 22, w ∈ wsX6_own := by decide +kernel
  have hf21 := hts (.fieldLink RX6 21 "InlinePlannerModel" "owners" "[I") (by decide +kernel)
  have hf24 := hts (.fieldLink RX6 24 "InlinePlannerModel" "names" "[I") (by decide +kernel)
  have hf73 := hts (.fieldLink RX6 73 "InlinePlannerModel" "methods" "I") (by decide +kernel)
  refine g_entry (n := 4) hav (Nat.le_of_ble_eq_true rfl) (fun ls hl => ?_)
  have hl : lv_has ls 4 [(0, .ref (ad 0)), (1, .int x1), (2, .int x2)] := hl
  refine g_nameQ (fun Q hQ => ?_)
  unfold q_X6_own at h
  refine lv_iconst (v := 0) hx hb dX6_own_0 (by decide) ?_
  refine lv_istore_n (lv' := [(3, .int 0), (0, .ref (ad 0)), (1, .int x1), (2, .int x2)]) hx hb dX6_own_1 rfl hl (by decide) rfl (fun ls hl => ?_)
  have L2 : ∀ (n2 : Nat) (x3 : Int32) (H : Heap) (locs : List Loc) (ls : Array Slot), va_P D vwCl (mW cy ad S R) H → va_D A (mW cy ad S R) → va_S A s.heap H locs → lv_has ls 4 [(0, .ref (ad 0)), (1, .int x1), (2, .int x2), (3, .int x3)] → iter1 (q_X6_own_L2 S x1 x2 ) n2 x3 = some v → W p l e (headSpec wsX6_own ({ frames := 0, cells := 0, slots := 0, locals := 0 })).room s m args below meth c H locs 0 0 Q (F0 m 2 ls []) := by
    intro  n2
    induction n2 with
    | zero =>
      intro x3 H locs ls hP hD hS hl h
      exact (it1_0 h).elim
    | succ n2 ih2 =>
      intro x3 H locs ls hP hD hS hl h
      have h : q_X6_own_L2 S x1 x2  (iter1 (q_X6_own_L2 S x1 x2 ) n2) x3 = some v := h
      unfold q_X6_own_L2 at h
      refine lv_iload_n hx hb dX6_own_2 rfl (lv_at hl 3 rfl) ?_
      refine lv_aload_n hx hb dX6_own_3 rfl (lv_at hl 0 rfl) ?_
      refine mgX6_4 hx hb hts iX6 hown hK hP hf73 dX6_own_4 ?_
      refine lv_icmp_ge (tgt := 38) hx hb dX6_own_7 (by decide) (fun hc => ?_) (fun hc => ?_)
      · have h := o_pos hc h
        refine lv_iconst (v := (-1)) hx hb dX6_own_38 (by decide) ?_
        exact g_iret hQ hx hb hr hP hK hD hS (Nat.le_of_ble_eq_true rfl) (Nat.le_of_ble_eq_true rfl) dX6_own_39 hlocks (Option.some.inj h)
      · have h := o_neg hc h
        refine lv_aload_n hx hb dX6_own_10 rfl (lv_at hl 0 rfl) ?_
        refine mgX6_5 hx hb hts iX6 hown hK hP hf21 dX6_own_11 ?_
        refine lv_iload_n hx hb dX6_own_14 rfl (lv_at hl 3 rfl) ?_
        obtain ⟨v1, ev1, h⟩ := o_bind h
        refine mld2 hx hb hK hP ev1 dX6_own_15 ?_
        refine lv_iload_n hx hb dX6_own_16 rfl (lv_at hl 1 rfl) ?_
        refine lv_icmp_ne (tgt := 32) hx hb dX6_own_17 (by decide) (fun hc => ?_) (fun hc => ?_)
        · have h := o_neg hc h
          refine lv_iinc (v := (x3 + 1)) (lv' := [(3, .int (x3 + 1)), (0, .ref (ad 0)), (1, .int x1), (2, .int x2)]) hx hb dX6_own_32 hl (k := 3) rfl rfl (by decide) rfl (fun ls hl => ?_)
          refine lv_goto (tgt := 2) hx hb dX6_own_35 (by decide) ?_
          exact ih2 (x3 + 1) _ _ ls hP hD hS (lv_sub hl [1, 2, 3, 0] rfl) h
        · have h := o_pos hc h
          refine lv_aload_n hx hb dX6_own_20 rfl (lv_at hl 0 rfl) ?_
          refine mgX6_6 hx hb hts iX6 hown hK hP hf24 dX6_own_21 ?_
          refine lv_iload_n hx hb dX6_own_24 rfl (lv_at hl 3 rfl) ?_
          obtain ⟨v2, ev2, h⟩ := o_bind h
          refine mld3 hx hb hK hP ev2 dX6_own_25 ?_
          refine lv_iload_n hx hb dX6_own_26 rfl (lv_at hl 2 rfl) ?_
          refine lv_icmp_ne (tgt := 32) hx hb dX6_own_27 (by decide) (fun hc => ?_) (fun hc => ?_)
          · have h := o_neg hc h
            refine lv_iinc (v := (x3 + 1)) (lv' := [(3, .int (x3 + 1)), (0, .ref (ad 0)), (1, .int x1), (2, .int x2)]) hx hb dX6_own_32 hl (k := 3) rfl rfl (by decide) rfl (fun ls hl => ?_)
            refine lv_goto (tgt := 2) hx hb dX6_own_35 (by decide) ?_
            exact ih2 (x3 + 1) _ _ ls hP hD hS (lv_sub hl [1, 2, 3, 0] rfl) h
          · have h := o_pos hc h
            refine lv_iload_n hx hb dX6_own_30 rfl (lv_at hl 3 rfl) ?_
            exact g_iret hQ hx hb hr hP hK hD hS (Nat.le_of_ble_eq_true rfl) (Nat.le_of_ble_eq_true rfl) dX6_own_31 hlocks (Option.some.inj h)
  exact L2  1000 0 _ _ ls hP hD hS (lv_sub hl [1, 2, 3, 0] rfl) h
set_option maxHeartbeats 4000000 in
set_option maxRecDepth 100000 in
theorem m_X6_find (l : Launch) (hst : l.stackTraces = false) (D : va_G) (cy : Nat → ClassId) (tx : List (ClassId × FieldType)) (ad : Nat → Nat) (R : va_W) (sz : Nat) (S : PS) (x1 : Int32) (x2 : Int32) (v : Int32) (h : q_X6_find S x1 x2 = some v) : gMi l yX6_find wsX6_find ({ frames := 1, cells := 0, slots := 0, locals := 23 }) 0 0 D (gT cy ++ tx) [.ref (ad 0), .int x1, .int x2] sz (mW cy ad S R) (mW cy ad S R) v := by
  refine Met.ofW (cc := cX6_find) (maxL := 4) (ret := (some .int)) (by decide) rfl ?_
  intro p e s m args below meth c s₁ B hml hv
  obtain ⟨hav, hsz, hP, hK, hD0, hE⟩ := hv
  have hx := B.exec
  have hb := B.bytes
  have hr := B.returns
  have hts := atoms_spec (ws := wsX6_find) B.pre
  have hown : s.vm.findClass RX6 = some m.cls := findClass_of_methodNamed B.named
  have hlocks := B.notSynchronized
  subst hsz
  have hD := hD0.self (sz := s.heap.size)
  generalize hAe : va_A (mW cy ad S R) s.heap.size = A at hD hE ⊢
  have hA : ∀ q : Nat, s.heap.size ≤ q → A q := fun q h => by rw [← hAe]; exact Or.inr h
  have hS : va_S A s.heap s.heap [] := va_S.rf
  have iX6 : ∀ w ∈ u_ws RX6 TX6 22, w ∈ wsX6_find := by decide +kernel
  have hf13 := hts (.fieldLink RX6 13 "InlinePlannerModel" "parents" "[I") (by decide +kernel)
  refine g_entry (n := 4) hav (Nat.le_of_ble_eq_true rfl) (fun ls hl => ?_)
  have hl : lv_has ls 4 [(0, .ref (ad 0)), (1, .int x1), (2, .int x2)] := hl
  refine g_nameQ (fun Q hQ => ?_)
  unfold q_X6_find at h
  refine lv_iload_n hx hb dX6_find_0 rfl (lv_at hl 1 rfl) ?_
  refine lv_istore_n (lv' := [(3, .int x1), (0, .ref (ad 0)), (1, .int x1), (2, .int x2)]) hx hb dX6_find_1 rfl hl (by decide) rfl (fun ls hl => ?_)
  have L2 : ∀ (n2 : Nat) (x3 : Int32) (H : Heap) (locs : List Loc) (ls : Array Slot), va_P D vwCl (mW cy ad S R) H → va_D A (mW cy ad S R) → va_S A s.heap H locs → lv_has ls 4 [(0, .ref (ad 0)), (2, .int x2), (3, .int x3)] → iter1 (q_X6_find_L2 S x2 ) n2 x3 = some v → W p l e (headSpec wsX6_find ({ frames := 1, cells := 0, slots := 0, locals := 23 })).room s m args below meth c H locs 0 0 Q (F0 m 2 ls []) := by
    intro  n2
    induction n2 with
    | zero =>
      intro x3 H locs ls hP hD hS hl h
      exact (it1_0 h).elim
    | succ n2 ih2 =>
      intro x3 H locs ls hP hD hS hl h
      have h : q_X6_find_L2 S x2  (iter1 (q_X6_find_L2 S x2 ) n2) x3 = some v := h
      unfold q_X6_find_L2 at h
      refine lv_iload_n hx hb dX6_find_2 rfl (lv_at hl 2 rfl) ?_
      refine lv_iconst (v := (-1)) hx hb dX6_find_3 (by decide) ?_
      refine lv_icmp_eq (tgt := 34) hx hb dX6_find_4 (by decide) (fun hc => ?_) (fun hc => ?_)
      · have h := o_pos hc h
        refine lv_iconst (v := (-1)) hx hb dX6_find_34 (by decide) ?_
        exact g_iret hQ hx hb hr hP hK hD hS (Nat.le_of_ble_eq_true rfl) (Nat.le_of_ble_eq_true rfl) dX6_find_35 hlocks (Option.some.inj h)
      · have h := o_neg hc h
        refine lv_aload_n hx hb dX6_find_7 rfl (lv_at hl 0 rfl) ?_
        refine lv_iload_n hx hb dX6_find_8 rfl (lv_at hl 2 rfl) ?_
        refine lv_iload_n hx hb dX6_find_9 rfl (lv_at hl 1 rfl) ?_
        obtain ⟨v1, ev1, h⟩ := o_bind h
        refine g_cVi (As := [.int x3, .int x2]) (rest := []) ⟨hx, hb, hml, hown, hts⟩ (m_X6_own l hst D cy tx ad R _ S x3 x2 v1 ev1) (cwV 2 hts gX6_find_X6_own rfl rfl rfl (by decide +kernel) ⟨Nat.le_of_ble_eq_true rfl, Nat.le_of_ble_eq_true rfl⟩) (va_recv hK hP (ci := 6) (q0 := 0) rfl rfl) hP hK hD hS hA hE rfl hl.1 rfl (Nat.le_of_ble_eq_true rfl) dX6_find_10 ⟨Nat.le_of_ble_eq_true rfl, Nat.le_of_ble_eq_true rfl⟩ (fun H locs hP hD hS => ?_)
        refine lv_iconst (v := (-1)) hx hb dX6_find_13 (by decide) ?_
        refine lv_icmp_eq (tgt := 24) hx hb dX6_find_14 (by decide) (fun hc => ?_) (fun hc => ?_)
        · have h := o_pos hc h
          refine lv_aload_n hx hb dX6_find_24 rfl (lv_at hl 0 rfl) ?_
          refine mgX6_2 hx hb hts iX6 hown hK hP hf13 dX6_find_25 ?_
          refine lv_iload_n hx hb dX6_find_28 rfl (lv_at hl 2 rfl) ?_
          obtain ⟨v2, ev2, h⟩ := o_bind h
          refine mld0 hx hb hK hP ev2 dX6_find_29 ?_
          refine lv_istore_n (lv' := [(3, .int v2), (0, .ref (ad 0)), (2, .int x2)]) hx hb dX6_find_30 rfl hl (by decide) rfl (fun ls hl => ?_)
          refine lv_goto (tgt := 2) hx hb dX6_find_31 (by decide) ?_
          exact ih2 v2 _ _ ls hP hD hS (lv_sub hl [1, 2, 0] rfl) h
        · have h := o_neg hc h
          refine lv_aload_n hx hb dX6_find_17 rfl (lv_at hl 0 rfl) ?_
          refine lv_iload_n hx hb dX6_find_18 rfl (lv_at hl 2 rfl) ?_
          refine lv_iload_n hx hb dX6_find_19 rfl (lv_at hl 1 rfl) ?_
          obtain ⟨v3, ev3, h⟩ := o_bind h
          refine g_cVi (As := [.int x3, .int x2]) (rest := []) ⟨hx, hb, hml, hown, hts⟩ (m_X6_own l hst D cy tx ad R _ S x3 x2 v3 ev3) (cwV 2 hts gX6_find_X6_own rfl rfl rfl (by decide +kernel) ⟨Nat.le_of_ble_eq_true rfl, Nat.le_of_ble_eq_true rfl⟩) (va_recv hK hP (ci := 6) (q0 := 0) rfl rfl) hP hK hD hS hA hE rfl hl.1 rfl (Nat.le_of_ble_eq_true rfl) dX6_find_20 ⟨Nat.le_of_ble_eq_true rfl, Nat.le_of_ble_eq_true rfl⟩ (fun H locs hP hD hS => ?_)
          exact g_iret hQ hx hb hr hP hK hD hS (Nat.le_of_ble_eq_true rfl) (Nat.le_of_ble_eq_true rfl) dX6_find_23 hlocks (Option.some.inj h)
  exact L2  1000 x1 _ _ ls hP hD hS (lv_sub hl [1, 3, 0] rfl) h
set_option maxHeartbeats 4000000 in
set_option maxRecDepth 100000 in
theorem m_X6_addMethod (l : Launch) (hst : l.stackTraces = false) (D : va_G) (cy : Nat → ClassId) (tx : List (ClassId × FieldType)) (ad : Nat → Nat) (R : va_W) (sz : Nat) (S : PS) (x1 : Int32) (x2 : Int32) (x3 : Int32) (S' : PS) (v : Int32) (h : q_X6_addMethod S x1 x2 x3 = some (S', v)) : gMi l yX6_addMethod wsX6_addMethod ({ frames := 2, cells := 0, slots := 0, locals := 43 }) 0 0 D (gT cy ++ tx) [.ref (ad 0), .int x1, .int x2, .int x3] sz (mW cy ad S R) (mW cy ad S' R) v := by
  refine Met.ofW (cc := cX6_addMethod) (maxL := 4) (ret := (some .int)) (by decide) rfl ?_
  intro p e s m args below meth c s₁ B hml hv
  obtain ⟨hav, hsz, hP, hK, hD0, hE⟩ := hv
  have hx := B.exec
  have hb := B.bytes
  have hr := B.returns
  have hts := atoms_spec (ws := wsX6_addMethod) B.pre
  have hown : s.vm.findClass RX6 = some m.cls := findClass_of_methodNamed B.named
  have hlocks := B.notSynchronized
  subst hsz
  have hD := hD0.self (sz := s.heap.size)
  generalize hAe : va_A (mW cy ad S R) s.heap.size = A at hD hE ⊢
  have hA : ∀ q : Nat, s.heap.size ≤ q → A q := fun q h => by rw [← hAe]; exact Or.inr h
  have hS : va_S A s.heap s.heap [] := va_S.rf
  have iX6 : ∀ w ∈ u_ws RX6 TX6 22, w ∈ wsX6_addMethod := by decide +kernel
  have hf21 := hts (.fieldLink RX6 21 "InlinePlannerModel" "owners" "[I") (by decide +kernel)
  have hf24 := hts (.fieldLink RX6 24 "InlinePlannerModel" "names" "[I") (by decide +kernel)
  have hf27 := hts (.fieldLink RX6 27 "InlinePlannerModel" "sizes" "[I") (by decide +kernel)
  have hf30 := hts (.fieldLink RX6 30 "InlinePlannerModel" "sites" "[I") (by decide +kernel)
  have hf66 := hts (.fieldLink RX6 66 "InlinePlannerModel" "thrown" "I") (by decide +kernel)
  have hf73 := hts (.fieldLink RX6 73 "InlinePlannerModel" "methods" "I") (by decide +kernel)
  refine g_entry (n := 4) hav (Nat.le_of_ble_eq_true rfl) (fun ls hl => ?_)
  have hl : lv_has ls 4 [(0, .ref (ad 0)), (1, .int x1), (2, .int x2), (3, .int x3)] := hl
  refine g_nameQ (fun Q hQ => ?_)
  unfold q_X6_addMethod at h
  refine lv_aload_n hx hb dX6_addMethod_0 rfl (lv_at hl 0 rfl) ?_
  refine lv_iconst (v := 0) hx hb dX6_addMethod_1 (by decide) ?_
  obtain ⟨S1, eS1, h⟩ := o_bind h
  refine mpX6_0 hx hb hts iX6 hown hK hP hD hS hf66 eS1 dX6_addMethod_2 (fun H locs hP hD hS => ?_)
  refine lv_aload_n hx hb dX6_addMethod_5 rfl (lv_at hl 0 rfl) ?_
  refine lv_iload_n hx hb dX6_addMethod_6 rfl (lv_at hl 1 rfl) ?_
  obtain ⟨v2, ev2, h⟩ := o_bind h
  refine g_cVi (As := [.int x1]) (rest := []) ⟨hx, hb, hml, hown, hts⟩ (m_X6_isClass l hst D cy tx ad R _ S1 x1 v2 ev2) (cwV 1 hts gX6_addMethod_X6_isClass rfl rfl rfl (by decide +kernel) ⟨Nat.le_of_ble_eq_true rfl, Nat.le_of_ble_eq_true rfl⟩) (va_recv hK hP (ci := 6) (q0 := 0) rfl rfl) hP hK hD hS hA hE rfl hl.1 rfl (Nat.le_of_ble_eq_true rfl) dX6_addMethod_7 ⟨Nat.le_of_ble_eq_true rfl, Nat.le_of_ble_eq_true rfl⟩ (fun H locs hP hD hS => ?_)
  refine lv_if_eq (tgt := 20) hx hb dX6_addMethod_10 (by decide) (fun hc => ?_) (fun hc => ?_)
  · have h := o_pos hc h
    refine lv_aload_n hx hb dX6_addMethod_20 rfl (lv_at hl 0 rfl) ?_
    refine lv_iconst (v := 1) hx hb dX6_addMethod_21 (by decide) ?_
    obtain ⟨⟨S4, v3⟩, ev3, h⟩ := o_bind h
    refine g_cVi (As := [.int 1]) (rest := []) ⟨hx, hb, hml, hown, hts⟩ (m_X6_no l hst D cy tx ad R _ S1 1 S4 v3 ev3) (cwV 1 hts gX6_addMethod_X6_no rfl rfl rfl (by decide +kernel) ⟨Nat.le_of_ble_eq_true rfl, Nat.le_of_ble_eq_true rfl⟩) (va_recv hK hP (ci := 6) (q0 := 0) rfl rfl) hP hK hD hS hA hE rfl hl.1 rfl (Nat.le_of_ble_eq_true rfl) dX6_addMethod_22 ⟨Nat.le_of_ble_eq_true rfl, Nat.le_of_ble_eq_true rfl⟩ (fun H locs hP hD hS => ?_)
    obtain ⟨eS, ev⟩ := Prod.mk.inj (Option.some.inj h)
    subst eS
    exact g_iret hQ hx hb hr hP hK hD hS (Nat.le_of_ble_eq_true rfl) (Nat.le_of_ble_eq_true rfl) dX6_addMethod_25 hlocks ev
  · have h := o_neg hc h
    refine lv_iload_n hx hb dX6_addMethod_13 rfl (lv_at hl 2 rfl) ?_
    obtain ⟨v5, ev5, h⟩ := o_bind h
    refine g_cSi (As := [.int x2]) (rest := []) ⟨hx, hb, hml, hown, hts⟩ (m_X6_isSelector l hst D (gT cy ++ tx) (mW cy ad S1 R) _ x2 v5 ev5) (va_cwS 1 hts gX6_addMethod_X6_isSelector rfl rfl rfl (by decide +kernel) ⟨Nat.le_of_ble_eq_true rfl, Nat.le_of_ble_eq_true rfl⟩) hP hK hD hS hA hE rfl hl.1 rfl (Nat.le_of_ble_eq_true rfl) dX6_addMethod_14 ⟨Nat.le_of_ble_eq_true rfl, Nat.le_of_ble_eq_true rfl⟩ (fun H locs hP hD hS => ?_)
    refine lv_if_ne (tgt := 26) hx hb dX6_addMethod_17 (by decide) (fun hc => ?_) (fun hc => ?_)
    · have h := o_neg hc h
      refine lv_iload_n hx hb dX6_addMethod_26 rfl (lv_at hl 3 rfl) ?_
      refine lv_iconst (v := 1) hx hb dX6_addMethod_27 (by decide) ?_
      refine lv_bipush (v := 100) hx hb dX6_addMethod_28 (by decide) ?_
      obtain ⟨v6, ev6, h⟩ := o_bind h
      refine g_cSi (As := [.int x3, .int 1, .int 100]) (rest := []) ⟨hx, hb, hml, hown, hts⟩ (m_X6_isIn l hst D (gT cy ++ tx) (mW cy ad S1 R) _ x3 1 100 v6 ev6) (va_cwS 3 hts gX6_addMethod_X6_isIn rfl rfl rfl (by decide +kernel) ⟨Nat.le_of_ble_eq_true rfl, Nat.le_of_ble_eq_true rfl⟩) hP hK hD hS hA hE rfl hl.1 rfl (Nat.le_of_ble_eq_true rfl) dX6_addMethod_30 ⟨Nat.le_of_ble_eq_true rfl, Nat.le_of_ble_eq_true rfl⟩ (fun H locs hP hD hS => ?_)
      refine lv_if_eq (tgt := 46) hx hb dX6_addMethod_33 (by decide) (fun hc => ?_) (fun hc => ?_)
      · have h := o_pos hc h
        refine lv_aload_n hx hb dX6_addMethod_46 rfl (lv_at hl 0 rfl) ?_
        refine lv_iconst (v := 2) hx hb dX6_addMethod_47 (by decide) ?_
        obtain ⟨⟨S8, v7⟩, ev7, h⟩ := o_bind h
        refine g_cVi (As := [.int 2]) (rest := []) ⟨hx, hb, hml, hown, hts⟩ (m_X6_no l hst D cy tx ad R _ S1 2 S8 v7 ev7) (cwV 1 hts gX6_addMethod_X6_no rfl rfl rfl (by decide +kernel) ⟨Nat.le_of_ble_eq_true rfl, Nat.le_of_ble_eq_true rfl⟩) (va_recv hK hP (ci := 6) (q0 := 0) rfl rfl) hP hK hD hS hA hE rfl hl.1 rfl (Nat.le_of_ble_eq_true rfl) dX6_addMethod_48 ⟨Nat.le_of_ble_eq_true rfl, Nat.le_of_ble_eq_true rfl⟩ (fun H locs hP hD hS => ?_)
        obtain ⟨eS, ev⟩ := Prod.mk.inj (Option.some.inj h)
        subst eS
        exact g_iret hQ hx hb hr hP hK hD hS (Nat.le_of_ble_eq_true rfl) (Nat.le_of_ble_eq_true rfl) dX6_addMethod_51 hlocks ev
      · have h := o_neg hc h
        refine lv_aload_n hx hb dX6_addMethod_36 rfl (lv_at hl 0 rfl) ?_
        refine lv_iload_n hx hb dX6_addMethod_37 rfl (lv_at hl 1 rfl) ?_
        refine lv_iload_n hx hb dX6_addMethod_38 rfl (lv_at hl 2 rfl) ?_
        obtain ⟨v9, ev9, h⟩ := o_bind h
        refine g_cVi (As := [.int x1, .int x2]) (rest := []) ⟨hx, hb, hml, hown, hts⟩ (m_X6_own l hst D cy tx ad R _ S1 x1 x2 v9 ev9) (cwV 2 hts gX6_addMethod_X6_own rfl rfl rfl (by decide +kernel) ⟨Nat.le_of_ble_eq_true rfl, Nat.le_of_ble_eq_true rfl⟩) (va_recv hK hP (ci := 6) (q0 := 0) rfl rfl) hP hK hD hS hA hE rfl hl.1 rfl (Nat.le_of_ble_eq_true rfl) dX6_addMethod_39 ⟨Nat.le_of_ble_eq_true rfl, Nat.le_of_ble_eq_true rfl⟩ (fun H locs hP hD hS => ?_)
        refine lv_iconst (v := (-1)) hx hb dX6_addMethod_42 (by decide) ?_
        refine lv_icmp_eq (tgt := 52) hx hb dX6_addMethod_43 (by decide) (fun hc => ?_) (fun hc => ?_)
        · have h := o_pos hc h
          refine lv_aload_n hx hb dX6_addMethod_52 rfl (lv_at hl 0 rfl) ?_
          refine mgX6_4 hx hb hts iX6 hown hK hP hf73 dX6_addMethod_53 ?_
          refine lv_bipush (v := 30) hx hb dX6_addMethod_56 (by decide) ?_
          refine lv_icmp_ne (tgt := 67) hx hb dX6_addMethod_58 (by decide) (fun hc => ?_) (fun hc => ?_)
          · have h := o_neg hc h
            refine lv_aload_n hx hb dX6_addMethod_67 rfl (lv_at hl 0 rfl) ?_
            refine mgX6_5 hx hb hts iX6 hown hK hP hf21 dX6_addMethod_68 ?_
            refine lv_aload_n hx hb dX6_addMethod_71 rfl (lv_at hl 0 rfl) ?_
            refine mgX6_4 hx hb hts iX6 hown hK hP hf73 dX6_addMethod_72 ?_
            refine lv_iload_n hx hb dX6_addMethod_75 rfl (lv_at hl 1 rfl) ?_
            obtain ⟨S10, eS10, h⟩ := o_bind h
            refine mst2 hx hb hK hP hD hS eS10 dX6_addMethod_76 (fun H locs hP hD hS => ?_)
            refine lv_aload_n hx hb dX6_addMethod_77 rfl (lv_at hl 0 rfl) ?_
            refine mgX6_6 hx hb hts iX6 hown hK hP hf24 dX6_addMethod_78 ?_
            refine lv_aload_n hx hb dX6_addMethod_81 rfl (lv_at hl 0 rfl) ?_
            refine mgX6_4 hx hb hts iX6 hown hK hP hf73 dX6_addMethod_82 ?_
            refine lv_iload_n hx hb dX6_addMethod_85 rfl (lv_at hl 2 rfl) ?_
            obtain ⟨S11, eS11, h⟩ := o_bind h
            refine mst3 hx hb hK hP hD hS eS11 dX6_addMethod_86 (fun H locs hP hD hS => ?_)
            refine lv_aload_n hx hb dX6_addMethod_87 rfl (lv_at hl 0 rfl) ?_
            refine mgX6_7 hx hb hts iX6 hown hK hP hf27 dX6_addMethod_88 ?_
            refine lv_aload_n hx hb dX6_addMethod_91 rfl (lv_at hl 0 rfl) ?_
            refine mgX6_4 hx hb hts iX6 hown hK hP hf73 dX6_addMethod_92 ?_
            refine lv_iload_n hx hb dX6_addMethod_95 rfl (lv_at hl 3 rfl) ?_
            obtain ⟨S12, eS12, h⟩ := o_bind h
            refine mst4 hx hb hK hP hD hS eS12 dX6_addMethod_96 (fun H locs hP hD hS => ?_)
            refine lv_aload_n hx hb dX6_addMethod_97 rfl (lv_at hl 0 rfl) ?_
            refine mgX6_8 hx hb hts iX6 hown hK hP hf30 dX6_addMethod_98 ?_
            refine lv_aload_n hx hb dX6_addMethod_101 rfl (lv_at hl 0 rfl) ?_
            refine mgX6_4 hx hb hts iX6 hown hK hP hf73 dX6_addMethod_102 ?_
            refine lv_iconst (v := 0) hx hb dX6_addMethod_105 (by decide) ?_
            obtain ⟨S13, eS13, h⟩ := o_bind h
            refine mst5 hx hb hK hP hD hS eS13 dX6_addMethod_106 (fun H locs hP hD hS => ?_)
            refine lv_aload_n hx hb dX6_addMethod_107 rfl (lv_at hl 0 rfl) ?_
            refine lv_dup hx hb dX6_addMethod_108 rfl ?_
            refine mgX6_4 hx hb hts iX6 hown hK hP hf73 dX6_addMethod_109 ?_
            refine lv_iconst (v := 1) hx hb dX6_addMethod_112 (by decide) ?_
            refine lv_iadd hx hb dX6_addMethod_113 ?_
            obtain ⟨S14, eS14, h⟩ := o_bind h
            refine mpX6_4 hx hb hts iX6 hown hK hP hD hS hf73 eS14 dX6_addMethod_114 (fun H locs hP hD hS => ?_)
            refine lv_aload_n hx hb dX6_addMethod_117 rfl (lv_at hl 0 rfl) ?_
            refine mgX6_4 hx hb hts iX6 hown hK hP hf73 dX6_addMethod_118 ?_
            refine lv_iconst (v := 1) hx hb dX6_addMethod_121 (by decide) ?_
            refine lv_isub hx hb dX6_addMethod_122 ?_
            obtain ⟨eS, ev⟩ := Prod.mk.inj (Option.some.inj h)
            subst eS
            exact g_iret hQ hx hb hr hP hK hD hS (Nat.le_of_ble_eq_true rfl) (Nat.le_of_ble_eq_true rfl) dX6_addMethod_123 hlocks ev
          · have h := o_pos hc h
            refine lv_aload_n hx hb dX6_addMethod_61 rfl (lv_at hl 0 rfl) ?_
            refine lv_iconst (v := 3) hx hb dX6_addMethod_62 (by decide) ?_
            obtain ⟨⟨S16, v15⟩, ev15, h⟩ := o_bind h
            refine g_cVi (As := [.int 3]) (rest := []) ⟨hx, hb, hml, hown, hts⟩ (m_X6_no l hst D cy tx ad R _ S1 3 S16 v15 ev15) (cwV 1 hts gX6_addMethod_X6_no rfl rfl rfl (by decide +kernel) ⟨Nat.le_of_ble_eq_true rfl, Nat.le_of_ble_eq_true rfl⟩) (va_recv hK hP (ci := 6) (q0 := 0) rfl rfl) hP hK hD hS hA hE rfl hl.1 rfl (Nat.le_of_ble_eq_true rfl) dX6_addMethod_63 ⟨Nat.le_of_ble_eq_true rfl, Nat.le_of_ble_eq_true rfl⟩ (fun H locs hP hD hS => ?_)
            obtain ⟨eS, ev⟩ := Prod.mk.inj (Option.some.inj h)
            subst eS
            exact g_iret hQ hx hb hr hP hK hD hS (Nat.le_of_ble_eq_true rfl) (Nat.le_of_ble_eq_true rfl) dX6_addMethod_66 hlocks ev
        · have h := o_neg hc h
          refine lv_aload_n hx hb dX6_addMethod_46 rfl (lv_at hl 0 rfl) ?_
          refine lv_iconst (v := 2) hx hb dX6_addMethod_47 (by decide) ?_
          obtain ⟨⟨S18, v17⟩, ev17, h⟩ := o_bind h
          refine g_cVi (As := [.int 2]) (rest := []) ⟨hx, hb, hml, hown, hts⟩ (m_X6_no l hst D cy tx ad R _ S1 2 S18 v17 ev17) (cwV 1 hts gX6_addMethod_X6_no rfl rfl rfl (by decide +kernel) ⟨Nat.le_of_ble_eq_true rfl, Nat.le_of_ble_eq_true rfl⟩) (va_recv hK hP (ci := 6) (q0 := 0) rfl rfl) hP hK hD hS hA hE rfl hl.1 rfl (Nat.le_of_ble_eq_true rfl) dX6_addMethod_48 ⟨Nat.le_of_ble_eq_true rfl, Nat.le_of_ble_eq_true rfl⟩ (fun H locs hP hD hS => ?_)
          obtain ⟨eS, ev⟩ := Prod.mk.inj (Option.some.inj h)
          subst eS
          exact g_iret hQ hx hb hr hP hK hD hS (Nat.le_of_ble_eq_true rfl) (Nat.le_of_ble_eq_true rfl) dX6_addMethod_51 hlocks ev
    · have h := o_pos hc h
      refine lv_aload_n hx hb dX6_addMethod_20 rfl (lv_at hl 0 rfl) ?_
      refine lv_iconst (v := 1) hx hb dX6_addMethod_21 (by decide) ?_
      obtain ⟨⟨S20, v19⟩, ev19, h⟩ := o_bind h
      refine g_cVi (As := [.int 1]) (rest := []) ⟨hx, hb, hml, hown, hts⟩ (m_X6_no l hst D cy tx ad R _ S1 1 S20 v19 ev19) (cwV 1 hts gX6_addMethod_X6_no rfl rfl rfl (by decide +kernel) ⟨Nat.le_of_ble_eq_true rfl, Nat.le_of_ble_eq_true rfl⟩) (va_recv hK hP (ci := 6) (q0 := 0) rfl rfl) hP hK hD hS hA hE rfl hl.1 rfl (Nat.le_of_ble_eq_true rfl) dX6_addMethod_22 ⟨Nat.le_of_ble_eq_true rfl, Nat.le_of_ble_eq_true rfl⟩ (fun H locs hP hD hS => ?_)
      obtain ⟨eS, ev⟩ := Prod.mk.inj (Option.some.inj h)
      subst eS
      exact g_iret hQ hx hb hr hP hK hD hS (Nat.le_of_ble_eq_true rfl) (Nat.le_of_ble_eq_true rfl) dX6_addMethod_25 hlocks ev
set_option maxHeartbeats 4000000 in
set_option maxRecDepth 100000 in
theorem m_X6_call (l : Launch) (hst : l.stackTraces = false) (D : va_G) (cy : Nat → ClassId) (tx : List (ClassId × FieldType)) (ad : Nat → Nat) (R : va_W) (sz : Nat) (S : PS) (x1 : Int32) (x2 : Int32) (x3 : Int32) (v : Int32) (h : q_X6_call S x1 x2 x3 = some v) : gMi l yX6_call wsX6_call ({ frames := 0, cells := 0, slots := 0, locals := 0 }) 0 0 D (gT cy ++ tx) [.ref (ad 0), .int x1, .int x2, .int x3] sz (mW cy ad S R) (mW cy ad S R) v := by
  refine Met.ofW (cc := cX6_call) (maxL := 4) (ret := (some .int)) (by decide) rfl ?_
  intro p e s m args below meth c s₁ B hml hv
  obtain ⟨hav, hsz, hP, hK, hD0, hE⟩ := hv
  have hx := B.exec
  have hb := B.bytes
  have hr := B.returns
  have hts := atoms_spec (ws := wsX6_call) B.pre
  have hown : s.vm.findClass RX6 = some m.cls := findClass_of_methodNamed B.named
  have hlocks := B.notSynchronized
  subst hsz
  have hD := hD0.self (sz := s.heap.size)
  generalize hAe : va_A (mW cy ad S R) s.heap.size = A at hD hE ⊢
  have hA : ∀ q : Nat, s.heap.size ≤ q → A q := fun q h => by rw [← hAe]; exact Or.inr h
  have hS : va_S A s.heap s.heap [] := va_S.rf
  have iX6 : ∀ w ∈ u_ws RX6 TX6 22, w ∈ wsX6_call := by decide +kernel
  have hf33 := hts (.fieldLink RX6 33 "InlinePlannerModel" "calls" "[I") (by decide +kernel)
  refine g_entry (n := 4) hav (Nat.le_of_ble_eq_true rfl) (fun ls hl => ?_)
  have hl : lv_has ls 4 [(0, .ref (ad 0)), (1, .int x1), (2, .int x2), (3, .int x3)] := hl
  refine g_nameQ (fun Q hQ => ?_)
  unfold q_X6_call at h
  refine lv_aload_n hx hb dX6_call_0 rfl (lv_at hl 0 rfl) ?_
  refine mgX6_9 hx hb hts iX6 hown hK hP hf33 dX6_call_1 ?_
  refine lv_iconst (v := 3) hx hb dX6_call_4 (by decide) ?_
  refine lv_bipush (v := 8) hx hb dX6_call_5 (by decide) ?_
  refine lv_iload_n hx hb dX6_call_7 rfl (lv_at hl 1 rfl) ?_
  refine lv_imul hx hb dX6_call_8 ?_
  refine lv_iload_n hx hb dX6_call_9 rfl (lv_at hl 2 rfl) ?_
  refine lv_iadd hx hb dX6_call_10 ?_
  refine lv_imul hx hb dX6_call_11 ?_
  refine lv_iload_n hx hb dX6_call_12 rfl (lv_at hl 3 rfl) ?_
  refine lv_iadd hx hb dX6_call_13 ?_
  obtain ⟨v1, ev1, h⟩ := o_bind h
  refine mld6 hx hb hK hP ev1 dX6_call_14 ?_
  exact g_iret hQ hx hb hr hP hK hD hS (Nat.le_of_ble_eq_true rfl) (Nat.le_of_ble_eq_true rfl) dX6_call_15 hlocks (Option.some.inj h)
set_option maxHeartbeats 4000000 in
set_option maxRecDepth 100000 in
theorem m_X6_addCall (l : Launch) (hst : l.stackTraces = false) (D : va_G) (cy : Nat → ClassId) (tx : List (ClassId × FieldType)) (ad : Nat → Nat) (R : va_W) (sz : Nat) (S : PS) (x1 : Int32) (x2 : Int32) (x3 : Int32) (x4 : Int32) (S' : PS) (v : Int32) (h : q_X6_addCall S x1 x2 x3 x4 = some (S', v)) : gMi l yX6_addCall wsX6_addCall ({ frames := 2, cells := 0, slots := 0, locals := 43 }) 0 0 D (gT cy ++ tx) [.ref (ad 0), .int x1, .int x2, .int x3, .int x4] sz (mW cy ad S R) (mW cy ad S' R) v := by
  refine Met.ofW (cc := cX6_addCall) (maxL := 6) (ret := (some .int)) (by decide) rfl ?_
  intro p e s m args below meth c s₁ B hml hv
  obtain ⟨hav, hsz, hP, hK, hD0, hE⟩ := hv
  have hx := B.exec
  have hb := B.bytes
  have hr := B.returns
  have hts := atoms_spec (ws := wsX6_addCall) B.pre
  have hown : s.vm.findClass RX6 = some m.cls := findClass_of_methodNamed B.named
  have hlocks := B.notSynchronized
  subst hsz
  have hD := hD0.self (sz := s.heap.size)
  generalize hAe : va_A (mW cy ad S R) s.heap.size = A at hD hE ⊢
  have hA : ∀ q : Nat, s.heap.size ≤ q → A q := fun q h => by rw [← hAe]; exact Or.inr h
  have hS : va_S A s.heap s.heap [] := va_S.rf
  have iX6 : ∀ w ∈ u_ws RX6 TX6 22, w ∈ wsX6_addCall := by decide +kernel
  have hf30 := hts (.fieldLink RX6 30 "InlinePlannerModel" "sites" "[I") (by decide +kernel)
  have hf33 := hts (.fieldLink RX6 33 "InlinePlannerModel" "calls" "[I") (by decide +kernel)
  have hf66 := hts (.fieldLink RX6 66 "InlinePlannerModel" "thrown" "I") (by decide +kernel)
  have hf98 := hts (.fieldLink RX6 98 "InlinePlannerModel" "hasPlan" "Z") (by decide +kernel)
  refine g_entry (n := 6) hav (Nat.le_of_ble_eq_true rfl) (fun ls hl => ?_)
  have hl : lv_has ls 6 [(0, .ref (ad 0)), (1, .int x1), (2, .int x2), (3, .int x3), (4, .int x4)] := hl
  refine g_nameQ (fun Q hQ => ?_)
  unfold q_X6_addCall at h
  refine lv_aload_n hx hb dX6_addCall_0 rfl (lv_at hl 0 rfl) ?_
  refine lv_iconst (v := 0) hx hb dX6_addCall_1 (by decide) ?_
  obtain ⟨S1, eS1, h⟩ := o_bind h
  refine mpX6_0 hx hb hts iX6 hown hK hP hD hS hf66 eS1 dX6_addCall_2 (fun H locs hP hD hS => ?_)
  refine lv_aload_n hx hb dX6_addCall_5 rfl (lv_at hl 0 rfl) ?_
  refine lv_iload_n hx hb dX6_addCall_6 rfl (lv_at hl 1 rfl) ?_
  obtain ⟨v2, ev2, h⟩ := o_bind h
  refine g_cVi (As := [.int x1]) (rest := []) ⟨hx, hb, hml, hown, hts⟩ (m_X6_isMethod l hst D cy tx ad R _ S1 x1 v2 ev2) (cwV 1 hts gX6_addCall_X6_isMethod rfl rfl rfl (by decide +kernel) ⟨Nat.le_of_ble_eq_true rfl, Nat.le_of_ble_eq_true rfl⟩) (va_recv hK hP (ci := 6) (q0 := 0) rfl rfl) hP hK hD hS hA hE rfl hl.1 rfl (Nat.le_of_ble_eq_true rfl) dX6_addCall_7 ⟨Nat.le_of_ble_eq_true rfl, Nat.le_of_ble_eq_true rfl⟩ (fun H locs hP hD hS => ?_)
  refine lv_if_eq (tgt := 28) hx hb dX6_addCall_10 (by decide) (fun hc => ?_) (fun hc => ?_)
  · have h := o_pos hc h
    refine lv_aload_n hx hb dX6_addCall_28 rfl (lv_at hl 0 rfl) ?_
    refine lv_iconst (v := 1) hx hb dX6_addCall_29 (by decide) ?_
    obtain ⟨⟨S4, v3⟩, ev3, h⟩ := o_bind h
    refine g_cVi (As := [.int 1]) (rest := []) ⟨hx, hb, hml, hown, hts⟩ (m_X6_no l hst D cy tx ad R _ S1 1 S4 v3 ev3) (cwV 1 hts gX6_addCall_X6_no rfl rfl rfl (by decide +kernel) ⟨Nat.le_of_ble_eq_true rfl, Nat.le_of_ble_eq_true rfl⟩) (va_recv hK hP (ci := 6) (q0 := 0) rfl rfl) hP hK hD hS hA hE rfl hl.1 rfl (Nat.le_of_ble_eq_true rfl) dX6_addCall_30 ⟨Nat.le_of_ble_eq_true rfl, Nat.le_of_ble_eq_true rfl⟩ (fun H locs hP hD hS => ?_)
    obtain ⟨eS, ev⟩ := Prod.mk.inj (Option.some.inj h)
    subst eS
    exact g_iret hQ hx hb hr hP hK hD hS (Nat.le_of_ble_eq_true rfl) (Nat.le_of_ble_eq_true rfl) dX6_addCall_33 hlocks ev
  · have h := o_neg hc h
    refine lv_aload_n hx hb dX6_addCall_13 rfl (lv_at hl 0 rfl) ?_
    refine lv_iload_n hx hb dX6_addCall_14 rfl (lv_at hl 2 rfl) ?_
    obtain ⟨v5, ev5, h⟩ := o_bind h
    refine g_cVi (As := [.int x2]) (rest := []) ⟨hx, hb, hml, hown, hts⟩ (m_X6_isClass l hst D cy tx ad R _ S1 x2 v5 ev5) (cwV 1 hts gX6_addCall_X6_isClass rfl rfl rfl (by decide +kernel) ⟨Nat.le_of_ble_eq_true rfl, Nat.le_of_ble_eq_true rfl⟩) (va_recv hK hP (ci := 6) (q0 := 0) rfl rfl) hP hK hD hS hA hE rfl hl.1 rfl (Nat.le_of_ble_eq_true rfl) dX6_addCall_15 ⟨Nat.le_of_ble_eq_true rfl, Nat.le_of_ble_eq_true rfl⟩ (fun H locs hP hD hS => ?_)
    refine lv_if_eq (tgt := 28) hx hb dX6_addCall_18 (by decide) (fun hc => ?_) (fun hc => ?_)
    · have h := o_pos hc h
      refine lv_aload_n hx hb dX6_addCall_28 rfl (lv_at hl 0 rfl) ?_
      refine lv_iconst (v := 1) hx hb dX6_addCall_29 (by decide) ?_
      obtain ⟨⟨S7, v6⟩, ev6, h⟩ := o_bind h
      refine g_cVi (As := [.int 1]) (rest := []) ⟨hx, hb, hml, hown, hts⟩ (m_X6_no l hst D cy tx ad R _ S1 1 S7 v6 ev6) (cwV 1 hts gX6_addCall_X6_no rfl rfl rfl (by decide +kernel) ⟨Nat.le_of_ble_eq_true rfl, Nat.le_of_ble_eq_true rfl⟩) (va_recv hK hP (ci := 6) (q0 := 0) rfl rfl) hP hK hD hS hA hE rfl hl.1 rfl (Nat.le_of_ble_eq_true rfl) dX6_addCall_30 ⟨Nat.le_of_ble_eq_true rfl, Nat.le_of_ble_eq_true rfl⟩ (fun H locs hP hD hS => ?_)
      obtain ⟨eS, ev⟩ := Prod.mk.inj (Option.some.inj h)
      subst eS
      exact g_iret hQ hx hb hr hP hK hD hS (Nat.le_of_ble_eq_true rfl) (Nat.le_of_ble_eq_true rfl) dX6_addCall_33 hlocks ev
    · have h := o_neg hc h
      refine lv_iload_n hx hb dX6_addCall_21 rfl (lv_at hl 3 rfl) ?_
      obtain ⟨v8, ev8, h⟩ := o_bind h
      refine g_cSi (As := [.int x3]) (rest := []) ⟨hx, hb, hml, hown, hts⟩ (m_X6_isSelector l hst D (gT cy ++ tx) (mW cy ad S1 R) _ x3 v8 ev8) (va_cwS 1 hts gX6_addCall_X6_isSelector rfl rfl rfl (by decide +kernel) ⟨Nat.le_of_ble_eq_true rfl, Nat.le_of_ble_eq_true rfl⟩) hP hK hD hS hA hE rfl hl.1 rfl (Nat.le_of_ble_eq_true rfl) dX6_addCall_22 ⟨Nat.le_of_ble_eq_true rfl, Nat.le_of_ble_eq_true rfl⟩ (fun H locs hP hD hS => ?_)
      refine lv_if_ne (tgt := 34) hx hb dX6_addCall_25 (by decide) (fun hc => ?_) (fun hc => ?_)
      · have h := o_neg hc h
        refine lv_iload hx hb dX6_addCall_34 (lv_at hl 4 rfl) ?_
        refine lv_iconst (v := 1) hx hb dX6_addCall_36 (by decide) ?_
        refine lv_bipush (v := 20) hx hb dX6_addCall_37 (by decide) ?_
        obtain ⟨v9, ev9, h⟩ := o_bind h
        refine g_cSi (As := [.int x4, .int 1, .int 20]) (rest := []) ⟨hx, hb, hml, hown, hts⟩ (m_X6_isIn l hst D (gT cy ++ tx) (mW cy ad S1 R) _ x4 1 20 v9 ev9) (va_cwS 3 hts gX6_addCall_X6_isIn rfl rfl rfl (by decide +kernel) ⟨Nat.le_of_ble_eq_true rfl, Nat.le_of_ble_eq_true rfl⟩) hP hK hD hS hA hE rfl hl.1 rfl (Nat.le_of_ble_eq_true rfl) dX6_addCall_39 ⟨Nat.le_of_ble_eq_true rfl, Nat.le_of_ble_eq_true rfl⟩ (fun H locs hP hD hS => ?_)
        refine lv_if_ne (tgt := 51) hx hb dX6_addCall_42 (by decide) (fun hc => ?_) (fun hc => ?_)
        · have h := o_neg hc h
          refine lv_aload_n hx hb dX6_addCall_51 rfl (lv_at hl 0 rfl) ?_
          refine mgX6_8 hx hb hts iX6 hown hK hP hf30 dX6_addCall_52 ?_
          refine lv_iload_n hx hb dX6_addCall_55 rfl (lv_at hl 1 rfl) ?_
          obtain ⟨v10, ev10, h⟩ := o_bind h
          refine mld5 hx hb hK hP ev10 dX6_addCall_56 ?_
          refine lv_bipush (v := 8) hx hb dX6_addCall_57 (by decide) ?_
          refine lv_icmp_ne (tgt := 68) hx hb dX6_addCall_59 (by decide) (fun hc => ?_) (fun hc => ?_)
          · have h := o_neg hc h
            refine lv_iconst (v := 3) hx hb dX6_addCall_68 (by decide) ?_
            refine lv_bipush (v := 8) hx hb dX6_addCall_69 (by decide) ?_
            refine lv_iload_n hx hb dX6_addCall_71 rfl (lv_at hl 1 rfl) ?_
            refine lv_imul hx hb dX6_addCall_72 ?_
            refine lv_aload_n hx hb dX6_addCall_73 rfl (lv_at hl 0 rfl) ?_
            refine mgX6_8 hx hb hts iX6 hown hK hP hf30 dX6_addCall_74 ?_
            refine lv_iload_n hx hb dX6_addCall_77 rfl (lv_at hl 1 rfl) ?_
            obtain ⟨v11, ev11, h⟩ := o_bind h
            refine mld5 hx hb hK hP ev11 dX6_addCall_78 ?_
            refine lv_iadd hx hb dX6_addCall_79 ?_
            refine lv_imul hx hb dX6_addCall_80 ?_
            refine lv_istore (lv' := [(5, .int (3 * ((8 * x1) + v11))), (0, .ref (ad 0)), (1, .int x1), (2, .int x2), (3, .int x3), (4, .int x4)]) hx hb dX6_addCall_81 hl (by decide) rfl (fun ls hl => ?_)
            refine lv_aload_n hx hb dX6_addCall_83 rfl (lv_at hl 1 rfl) ?_
            refine mgX6_9 hx hb hts iX6 hown hK hP hf33 dX6_addCall_84 ?_
            refine lv_iload hx hb dX6_addCall_87 (lv_at hl 0 rfl) ?_
            refine lv_iload_n hx hb dX6_addCall_89 rfl (lv_at hl 3 rfl) ?_
            obtain ⟨S12, eS12, h⟩ := o_bind h
            refine mst6 hx hb hK hP hD hS eS12 dX6_addCall_90 (fun H locs hP hD hS => ?_)
            refine lv_aload_n hx hb dX6_addCall_91 rfl (lv_at hl 1 rfl) ?_
            refine mgX6_9 hx hb hts iX6 hown hK hP hf33 dX6_addCall_92 ?_
            refine lv_iload hx hb dX6_addCall_95 (lv_at hl 0 rfl) ?_
            refine lv_iconst (v := 1) hx hb dX6_addCall_97 (by decide) ?_
            refine lv_iadd hx hb dX6_addCall_98 ?_
            refine lv_iload_n hx hb dX6_addCall_99 rfl (lv_at hl 4 rfl) ?_
            obtain ⟨S13, eS13, h⟩ := o_bind h
            refine mst6 hx hb hK hP hD hS eS13 dX6_addCall_100 (fun H locs hP hD hS => ?_)
            refine lv_aload_n hx hb dX6_addCall_101 rfl (lv_at hl 1 rfl) ?_
            refine mgX6_9 hx hb hts iX6 hown hK hP hf33 dX6_addCall_102 ?_
            refine lv_iload hx hb dX6_addCall_105 (lv_at hl 0 rfl) ?_
            refine lv_iconst (v := 2) hx hb dX6_addCall_107 (by decide) ?_
            refine lv_iadd hx hb dX6_addCall_108 ?_
            refine lv_iload hx hb dX6_addCall_109 (lv_at hl 5 rfl) ?_
            obtain ⟨S14, eS14, h⟩ := o_bind h
            refine mst6 hx hb hK hP hD hS eS14 dX6_addCall_111 (fun H locs hP hD hS => ?_)
            refine lv_aload_n hx hb dX6_addCall_112 rfl (lv_at hl 1 rfl) ?_
            refine mgX6_8 hx hb hts iX6 hown hK hP hf30 dX6_addCall_113 ?_
            refine lv_iload_n hx hb dX6_addCall_116 rfl (lv_at hl 2 rfl) ?_
            refine lv_dup2_11 hx hb dX6_addCall_117 rfl rfl ?_
            obtain ⟨v15, ev15, h⟩ := o_bind h
            refine mld5 hx hb hK hP ev15 dX6_addCall_118 ?_
            refine lv_iconst (v := 1) hx hb dX6_addCall_119 (by decide) ?_
            refine lv_iadd hx hb dX6_addCall_120 ?_
            obtain ⟨S16, eS16, h⟩ := o_bind h
            refine mst5 hx hb hK hP hD hS eS16 dX6_addCall_121 (fun H locs hP hD hS => ?_)
            refine lv_aload_n hx hb dX6_addCall_122 rfl (lv_at hl 1 rfl) ?_
            refine lv_iconst (v := 0) hx hb dX6_addCall_123 (by decide) ?_
            obtain ⟨S17, eS17, h⟩ := o_bind h
            refine mpX6_13 hx hb hts iX6 hown hK hP hD hS hf98 (by decide) eS17 dX6_addCall_124 (fun H locs hP hD hS => ?_)
            refine lv_aload_n hx hb dX6_addCall_127 rfl (lv_at hl 1 rfl) ?_
            refine mgX6_8 hx hb hts iX6 hown hK hP hf30 dX6_addCall_128 ?_
            refine lv_iload_n hx hb dX6_addCall_131 rfl (lv_at hl 2 rfl) ?_
            obtain ⟨v18, ev18, h⟩ := o_bind h
            refine mld5 hx hb hK hP ev18 dX6_addCall_132 ?_
            refine lv_iconst (v := 1) hx hb dX6_addCall_133 (by decide) ?_
            refine lv_isub hx hb dX6_addCall_134 ?_
            obtain ⟨eS, ev⟩ := Prod.mk.inj (Option.some.inj h)
            subst eS
            exact g_iret hQ hx hb hr hP hK hD hS (Nat.le_of_ble_eq_true rfl) (Nat.le_of_ble_eq_true rfl) dX6_addCall_135 hlocks ev
          · have h := o_pos hc h
            refine lv_aload_n hx hb dX6_addCall_62 rfl (lv_at hl 0 rfl) ?_
            refine lv_iconst (v := 3) hx hb dX6_addCall_63 (by decide) ?_
            obtain ⟨⟨S20, v19⟩, ev19, h⟩ := o_bind h
            refine g_cVi (As := [.int 3]) (rest := []) ⟨hx, hb, hml, hown, hts⟩ (m_X6_no l hst D cy tx ad R _ S1 3 S20 v19 ev19) (cwV 1 hts gX6_addCall_X6_no rfl rfl rfl (by decide +kernel) ⟨Nat.le_of_ble_eq_true rfl, Nat.le_of_ble_eq_true rfl⟩) (va_recv hK hP (ci := 6) (q0 := 0) rfl rfl) hP hK hD hS hA hE rfl hl.1 rfl (Nat.le_of_ble_eq_true rfl) dX6_addCall_64 ⟨Nat.le_of_ble_eq_true rfl, Nat.le_of_ble_eq_true rfl⟩ (fun H locs hP hD hS => ?_)
            obtain ⟨eS, ev⟩ := Prod.mk.inj (Option.some.inj h)
            subst eS
            exact g_iret hQ hx hb hr hP hK hD hS (Nat.le_of_ble_eq_true rfl) (Nat.le_of_ble_eq_true rfl) dX6_addCall_67 hlocks ev
        · have h := o_pos hc h
          refine lv_aload_n hx hb dX6_addCall_45 rfl (lv_at hl 0 rfl) ?_
          refine lv_iconst (v := 2) hx hb dX6_addCall_46 (by decide) ?_
          obtain ⟨⟨S22, v21⟩, ev21, h⟩ := o_bind h
          refine g_cVi (As := [.int 2]) (rest := []) ⟨hx, hb, hml, hown, hts⟩ (m_X6_no l hst D cy tx ad R _ S1 2 S22 v21 ev21) (cwV 1 hts gX6_addCall_X6_no rfl rfl rfl (by decide +kernel) ⟨Nat.le_of_ble_eq_true rfl, Nat.le_of_ble_eq_true rfl⟩) (va_recv hK hP (ci := 6) (q0 := 0) rfl rfl) hP hK hD hS hA hE rfl hl.1 rfl (Nat.le_of_ble_eq_true rfl) dX6_addCall_47 ⟨Nat.le_of_ble_eq_true rfl, Nat.le_of_ble_eq_true rfl⟩ (fun H locs hP hD hS => ?_)
          obtain ⟨eS, ev⟩ := Prod.mk.inj (Option.some.inj h)
          subst eS
          exact g_iret hQ hx hb hr hP hK hD hS (Nat.le_of_ble_eq_true rfl) (Nat.le_of_ble_eq_true rfl) dX6_addCall_50 hlocks ev
      · have h := o_pos hc h
        refine lv_aload_n hx hb dX6_addCall_28 rfl (lv_at hl 0 rfl) ?_
        refine lv_iconst (v := 1) hx hb dX6_addCall_29 (by decide) ?_
        obtain ⟨⟨S24, v23⟩, ev23, h⟩ := o_bind h
        refine g_cVi (As := [.int 1]) (rest := []) ⟨hx, hb, hml, hown, hts⟩ (m_X6_no l hst D cy tx ad R _ S1 1 S24 v23 ev23) (cwV 1 hts gX6_addCall_X6_no rfl rfl rfl (by decide +kernel) ⟨Nat.le_of_ble_eq_true rfl, Nat.le_of_ble_eq_true rfl⟩) (va_recv hK hP (ci := 6) (q0 := 0) rfl rfl) hP hK hD hS hA hE rfl hl.1 rfl (Nat.le_of_ble_eq_true rfl) dX6_addCall_30 ⟨Nat.le_of_ble_eq_true rfl, Nat.le_of_ble_eq_true rfl⟩ (fun H locs hP hD hS => ?_)
        obtain ⟨eS, ev⟩ := Prod.mk.inj (Option.some.inj h)
        subst eS
        exact g_iret hQ hx hb hr hP hK hD hS (Nat.le_of_ble_eq_true rfl) (Nat.le_of_ble_eq_true rfl) dX6_addCall_33 hlocks ev
set_option maxHeartbeats 4000000 in
set_option maxRecDepth 100000 in
theorem m_X6_methodCount (l : Launch) (hst : l.stackTraces = false) (D : va_G) (cy : Nat → ClassId) (tx : List (ClassId × FieldType)) (ad : Nat → Nat) (R : va_W) (sz : Nat) (S : PS)  (S' : PS) (v : Int32) (h : q_X6_methodCount S = some (S', v)) : gMi l yX6_methodCount wsX6_methodCount ({ frames := 0, cells := 0, slots := 0, locals := 0 }) 0 0 D (gT cy ++ tx) [.ref (ad 0)] sz (mW cy ad S R) (mW cy ad S' R) v := by
  refine Met.ofW (cc := cX6_methodCount) (maxL := 1) (ret := (some .int)) (by decide) rfl ?_
  intro p e s m args below meth c s₁ B hml hv
  obtain ⟨hav, hsz, hP, hK, hD0, hE⟩ := hv
  have hx := B.exec
  have hb := B.bytes
  have hr := B.returns
  have hts := atoms_spec (ws := wsX6_methodCount) B.pre
  have hown : s.vm.findClass RX6 = some m.cls := findClass_of_methodNamed B.named
  have hlocks := B.notSynchronized
  subst hsz
  have hD := hD0.self (sz := s.heap.size)
  generalize hAe : va_A (mW cy ad S R) s.heap.size = A at hD hE ⊢
  have hA : ∀ q : Nat, s.heap.size ≤ q → A q := fun q h => by rw [← hAe]; exact Or.inr h
  have hS : va_S A s.heap s.heap [] := va_S.rf
  have iX6 : ∀ w ∈ u_ws RX6 TX6 22, w ∈ wsX6_methodCount := by decide +kernel
  have hf66 := hts (.fieldLink RX6 66 "InlinePlannerModel" "thrown" "I") (by decide +kernel)
  have hf73 := hts (.fieldLink RX6 73 "InlinePlannerModel" "methods" "I") (by decide +kernel)
  refine g_entry (n := 1) hav (Nat.le_of_ble_eq_true rfl) (fun ls hl => ?_)
  have hl : lv_has ls 1 [(0, .ref (ad 0))] := hl
  refine g_nameQ (fun Q hQ => ?_)
  unfold q_X6_methodCount at h
  refine lv_aload_n hx hb dX6_methodCount_0 rfl (lv_at hl 0 rfl) ?_
  refine lv_iconst (v := 0) hx hb dX6_methodCount_1 (by decide) ?_
  obtain ⟨S1, eS1, h⟩ := o_bind h
  refine mpX6_0 hx hb hts iX6 hown hK hP hD hS hf66 eS1 dX6_methodCount_2 (fun H locs hP hD hS => ?_)
  refine lv_aload_n hx hb dX6_methodCount_5 rfl (lv_at hl 0 rfl) ?_
  refine mgX6_4 hx hb hts iX6 hown hK hP hf73 dX6_methodCount_6 ?_
  obtain ⟨eS, ev⟩ := Prod.mk.inj (Option.some.inj h)
  subst eS
  exact g_iret hQ hx hb hr hP hK hD hS (Nat.le_of_ble_eq_true rfl) (Nat.le_of_ble_eq_true rfl) dX6_methodCount_9 hlocks ev
set_option maxHeartbeats 4000000 in
set_option maxRecDepth 100000 in
theorem m_X6_found (l : Launch) (hst : l.stackTraces = false) (D : va_G) (cy : Nat → ClassId) (tx : List (ClassId × FieldType)) (ad : Nat → Nat) (R : va_W) (sz : Nat) (S : PS) (x1 : Int32) (x2 : Int32) (S' : PS) (v : Int32) (h : q_X6_found S x1 x2 = some (S', v)) : gMi l yX6_found wsX6_found ({ frames := 2, cells := 0, slots := 0, locals := 46 }) 0 0 D (gT cy ++ tx) [.ref (ad 0), .int x1, .int x2] sz (mW cy ad S R) (mW cy ad S' R) v := by
  refine Met.ofW (cc := cX6_found) (maxL := 3) (ret := (some .int)) (by decide) rfl ?_
  intro p e s m args below meth c s₁ B hml hv
  obtain ⟨hav, hsz, hP, hK, hD0, hE⟩ := hv
  have hx := B.exec
  have hb := B.bytes
  have hr := B.returns
  have hts := atoms_spec (ws := wsX6_found) B.pre
  have hown : s.vm.findClass RX6 = some m.cls := findClass_of_methodNamed B.named
  have hlocks := B.notSynchronized
  subst hsz
  have hD := hD0.self (sz := s.heap.size)
  generalize hAe : va_A (mW cy ad S R) s.heap.size = A at hD hE ⊢
  have hA : ∀ q : Nat, s.heap.size ≤ q → A q := fun q h => by rw [← hAe]; exact Or.inr h
  have hS : va_S A s.heap s.heap [] := va_S.rf
  have iX6 : ∀ w ∈ u_ws RX6 TX6 22, w ∈ wsX6_found := by decide +kernel
  have hf66 := hts (.fieldLink RX6 66 "InlinePlannerModel" "thrown" "I") (by decide +kernel)
  refine g_entry (n := 3) hav (Nat.le_of_ble_eq_true rfl) (fun ls hl => ?_)
  have hl : lv_has ls 3 [(0, .ref (ad 0)), (1, .int x1), (2, .int x2)] := hl
  refine g_nameQ (fun Q hQ => ?_)
  unfold q_X6_found at h
  refine lv_aload_n hx hb dX6_found_0 rfl (lv_at hl 0 rfl) ?_
  refine lv_iconst (v := 0) hx hb dX6_found_1 (by decide) ?_
  obtain ⟨S1, eS1, h⟩ := o_bind h
  refine mpX6_0 hx hb hts iX6 hown hK hP hD hS hf66 eS1 dX6_found_2 (fun H locs hP hD hS => ?_)
  refine lv_aload_n hx hb dX6_found_5 rfl (lv_at hl 0 rfl) ?_
  refine lv_iload_n hx hb dX6_found_6 rfl (lv_at hl 1 rfl) ?_
  obtain ⟨v2, ev2, h⟩ := o_bind h
  refine g_cVi (As := [.int x1]) (rest := []) ⟨hx, hb, hml, hown, hts⟩ (m_X6_isClass l hst D cy tx ad R _ S1 x1 v2 ev2) (cwV 1 hts gX6_found_X6_isClass rfl rfl rfl (by decide +kernel) ⟨Nat.le_of_ble_eq_true rfl, Nat.le_of_ble_eq_true rfl⟩) (va_recv hK hP (ci := 6) (q0 := 0) rfl rfl) hP hK hD hS hA hE rfl hl.1 rfl (Nat.le_of_ble_eq_true rfl) dX6_found_7 ⟨Nat.le_of_ble_eq_true rfl, Nat.le_of_ble_eq_true rfl⟩ (fun H locs hP hD hS => ?_)
  refine lv_if_eq (tgt := 29) hx hb dX6_found_10 (by decide) (fun hc => ?_) (fun hc => ?_)
  · have h := o_pos hc h
    refine lv_aload_n hx hb dX6_found_29 rfl (lv_at hl 0 rfl) ?_
    refine lv_iconst (v := 1) hx hb dX6_found_30 (by decide) ?_
    obtain ⟨⟨S4, v3⟩, ev3, h⟩ := o_bind h
    refine g_cVi (As := [.int 1]) (rest := []) ⟨hx, hb, hml, hown, hts⟩ (m_X6_no l hst D cy tx ad R _ S1 1 S4 v3 ev3) (cwV 1 hts gX6_found_X6_no rfl rfl rfl (by decide +kernel) ⟨Nat.le_of_ble_eq_true rfl, Nat.le_of_ble_eq_true rfl⟩) (va_recv hK hP (ci := 6) (q0 := 0) rfl rfl) hP hK hD hS hA hE rfl hl.1 rfl (Nat.le_of_ble_eq_true rfl) dX6_found_31 ⟨Nat.le_of_ble_eq_true rfl, Nat.le_of_ble_eq_true rfl⟩ (fun H locs hP hD hS => ?_)
    obtain ⟨eS, ev⟩ := Prod.mk.inj (Option.some.inj h)
    subst eS
    exact g_iret hQ hx hb hr hP hK hD hS (Nat.le_of_ble_eq_true rfl) (Nat.le_of_ble_eq_true rfl) dX6_found_34 hlocks ev
  · have h := o_neg hc h
    refine lv_iload_n hx hb dX6_found_13 rfl (lv_at hl 2 rfl) ?_
    obtain ⟨v5, ev5, h⟩ := o_bind h
    refine g_cSi (As := [.int x2]) (rest := []) ⟨hx, hb, hml, hown, hts⟩ (m_X6_isSelector l hst D (gT cy ++ tx) (mW cy ad S1 R) _ x2 v5 ev5) (va_cwS 1 hts gX6_found_X6_isSelector rfl rfl rfl (by decide +kernel) ⟨Nat.le_of_ble_eq_true rfl, Nat.le_of_ble_eq_true rfl⟩) hP hK hD hS hA hE rfl hl.1 rfl (Nat.le_of_ble_eq_true rfl) dX6_found_14 ⟨Nat.le_of_ble_eq_true rfl, Nat.le_of_ble_eq_true rfl⟩ (fun H locs hP hD hS => ?_)
    refine lv_if_eq (tgt := 29) hx hb dX6_found_17 (by decide) (fun hc => ?_) (fun hc => ?_)
    · have h := o_pos hc h
      refine lv_aload_n hx hb dX6_found_29 rfl (lv_at hl 0 rfl) ?_
      refine lv_iconst (v := 1) hx hb dX6_found_30 (by decide) ?_
      obtain ⟨⟨S7, v6⟩, ev6, h⟩ := o_bind h
      refine g_cVi (As := [.int 1]) (rest := []) ⟨hx, hb, hml, hown, hts⟩ (m_X6_no l hst D cy tx ad R _ S1 1 S7 v6 ev6) (cwV 1 hts gX6_found_X6_no rfl rfl rfl (by decide +kernel) ⟨Nat.le_of_ble_eq_true rfl, Nat.le_of_ble_eq_true rfl⟩) (va_recv hK hP (ci := 6) (q0 := 0) rfl rfl) hP hK hD hS hA hE rfl hl.1 rfl (Nat.le_of_ble_eq_true rfl) dX6_found_31 ⟨Nat.le_of_ble_eq_true rfl, Nat.le_of_ble_eq_true rfl⟩ (fun H locs hP hD hS => ?_)
      obtain ⟨eS, ev⟩ := Prod.mk.inj (Option.some.inj h)
      subst eS
      exact g_iret hQ hx hb hr hP hK hD hS (Nat.le_of_ble_eq_true rfl) (Nat.le_of_ble_eq_true rfl) dX6_found_34 hlocks ev
    · have h := o_neg hc h
      refine lv_aload_n hx hb dX6_found_20 rfl (lv_at hl 0 rfl) ?_
      refine lv_iload_n hx hb dX6_found_21 rfl (lv_at hl 1 rfl) ?_
      refine lv_iload_n hx hb dX6_found_22 rfl (lv_at hl 2 rfl) ?_
      obtain ⟨v8, ev8, h⟩ := o_bind h
      refine g_cVi (As := [.int x1, .int x2]) (rest := []) ⟨hx, hb, hml, hown, hts⟩ (m_X6_find l hst D cy tx ad R _ S1 x1 x2 v8 ev8) (cwV 2 hts gX6_found_X6_find rfl rfl rfl (by decide +kernel) ⟨Nat.le_of_ble_eq_true rfl, Nat.le_of_ble_eq_true rfl⟩) (va_recv hK hP (ci := 6) (q0 := 0) rfl rfl) hP hK hD hS hA hE rfl hl.1 rfl (Nat.le_of_ble_eq_true rfl) dX6_found_23 ⟨Nat.le_of_ble_eq_true rfl, Nat.le_of_ble_eq_true rfl⟩ (fun H locs hP hD hS => ?_)
      refine lv_goto (tgt := 34) hx hb dX6_found_26 (by decide) ?_
      obtain ⟨eS, ev⟩ := Prod.mk.inj (Option.some.inj h)
      subst eS
      exact g_iret hQ hx hb hr hP hK hD hS (Nat.le_of_ble_eq_true rfl) (Nat.le_of_ble_eq_true rfl) dX6_found_34 hlocks ev
set_option maxHeartbeats 4000000 in
set_option maxRecDepth 100000 in
theorem m_X6_targets (l : Launch) (hst : l.stackTraces = false) (D : va_G) (cy : Nat → ClassId) (tx : List (ClassId × FieldType)) (ad : Nat → Nat) (R : va_W) (sz : Nat) (S : PS) (x1 : Int32) (x2 : Int32) (v : Int32) (h : q_X6_targets S x1 x2 = some v) : gMi l yX6_targets wsX6_targets ({ frames := 2, cells := 0, slots := 0, locals := 46 }) 0 0 D (gT cy ++ tx) [.ref (ad 0), .int x1, .int x2] sz (mW cy ad S R) (mW cy ad S R) v := by
  refine Met.ofW (cc := cX6_targets) (maxL := 6) (ret := (some .int)) (by decide) rfl ?_
  intro p e s m args below meth c s₁ B hml hv
  obtain ⟨hav, hsz, hP, hK, hD0, hE⟩ := hv
  have hx := B.exec
  have hb := B.bytes
  have hr := B.returns
  have hts := atoms_spec (ws := wsX6_targets) B.pre
  have hown : s.vm.findClass RX6 = some m.cls := findClass_of_methodNamed B.named
  have hlocks := B.notSynchronized
  subst hsz
  have hD := hD0.self (sz := s.heap.size)
  generalize hAe : va_A (mW cy ad S R) s.heap.size = A at hD hE ⊢
  have hA : ∀ q : Nat, s.heap.size ≤ q → A q := fun q h => by rw [← hAe]; exact Or.inr h
  have hS : va_S A s.heap s.heap [] := va_S.rf
  have iX6 : ∀ w ∈ u_ws RX6 TX6 22, w ∈ wsX6_targets := by decide +kernel
  have hf7 := hts (.fieldLink RX6 7 "InlinePlannerModel" "classes" "I") (by decide +kernel)
  have hf17 := hts (.fieldLink RX6 17 "InlinePlannerModel" "isLive" "[Z") (by decide +kernel)
  refine g_entry (n := 6) hav (Nat.le_of_ble_eq_true rfl) (fun ls hl => ?_)
  have hl : lv_has ls 6 [(0, .ref (ad 0)), (1, .int x1), (2, .int x2)] := hl
  refine g_nameQ (fun Q hQ => ?_)
  unfold q_X6_targets at h
  refine lv_iconst (v := 0) hx hb dX6_targets_0 (by decide) ?_
  refine lv_istore_n (lv' := [(3, .int 0), (0, .ref (ad 0)), (1, .int x1), (2, .int x2)]) hx hb dX6_targets_1 rfl hl (by decide) rfl (fun ls hl => ?_)
  refine lv_iconst (v := 0) hx hb dX6_targets_2 (by decide) ?_
  refine lv_istore (lv' := [(4, .int 0), (3, .int 0), (0, .ref (ad 0)), (1, .int x1), (2, .int x2)]) hx hb dX6_targets_3 hl (by decide) rfl (fun ls hl => ?_)
  have L5 : ∀ (n5 : Nat) (x3 : Int32) (x4 : Int32) (H : Heap) (locs : List Loc) (ls : Array Slot), va_P D vwCl (mW cy ad S R) H → va_D A (mW cy ad S R) → va_S A s.heap H locs → lv_has ls 6 [(0, .ref (ad 0)), (1, .int x1), (2, .int x2), (3, .int x3), (4, .int x4)] → iter2 (q_X6_targets_L5 S x1 x2 ) n5 x3 x4 = some v → W p l e (headSpec wsX6_targets ({ frames := 2, cells := 0, slots := 0, locals := 46 })).room s m args below meth c H locs 0 0 Q (F0 m 5 ls []) := by
    intro  n5
    induction n5 with
    | zero =>
      intro x3 x4 H locs ls hP hD hS hl h
      exact (it2_0 h).elim
    | succ n5 ih5 =>
      intro x3 x4 H locs ls hP hD hS hl h
      have h : q_X6_targets_L5 S x1 x2  (iter2 (q_X6_targets_L5 S x1 x2 ) n5) x3 x4 = some v := h
      unfold q_X6_targets_L5 at h
      refine lv_iload hx hb dX6_targets_5 (lv_at hl 4 rfl) ?_
      refine lv_aload_n hx hb dX6_targets_7 rfl (lv_at hl 0 rfl) ?_
      refine mgX6_1 hx hb hts iX6 hown hK hP hf7 dX6_targets_8 ?_
      refine lv_icmp_ge (tgt := 65) hx hb dX6_targets_11 (by decide) (fun hc => ?_) (fun hc => ?_)
      · have h := o_pos hc h
        refine lv_iload_n hx hb dX6_targets_65 rfl (lv_at hl 3 rfl) ?_
        exact g_iret hQ hx hb hr hP hK hD hS (Nat.le_of_ble_eq_true rfl) (Nat.le_of_ble_eq_true rfl) dX6_targets_66 hlocks (Option.some.inj h)
      · have h := o_neg hc h
        refine lv_aload_n hx hb dX6_targets_14 rfl (lv_at hl 0 rfl) ?_
        refine mgX6_3 hx hb hts iX6 hown hK hP hf17 dX6_targets_15 ?_
        refine lv_iload hx hb dX6_targets_18 (lv_at hl 4 rfl) ?_
        obtain ⟨v1, ev1, h⟩ := o_bind h
        refine mld1 hx hb hK hP ev1 dX6_targets_20 ?_
        refine lv_if_eq (tgt := 59) hx hb dX6_targets_21 (by decide) (fun hc => ?_) (fun hc => ?_)
        · have h := o_pos hc h
          refine lv_iinc (v := (x4 + 1)) (lv' := [(4, .int (x4 + 1)), (0, .ref (ad 0)), (1, .int x1), (2, .int x2), (3, .int x3)]) hx hb dX6_targets_59 hl (k := 4) rfl rfl (by decide) rfl (fun ls hl => ?_)
          refine lv_goto (tgt := 5) hx hb dX6_targets_62 (by decide) ?_
          exact ih5 x3 (x4 + 1) _ _ ls hP hD hS (lv_sub hl [1, 2, 3, 4, 0] rfl) h
        · have h := o_neg hc h
          refine lv_aload_n hx hb dX6_targets_24 rfl (lv_at hl 0 rfl) ?_
          refine lv_iload hx hb dX6_targets_25 (lv_at hl 4 rfl) ?_
          refine lv_iload_n hx hb dX6_targets_27 rfl (lv_at hl 1 rfl) ?_
          obtain ⟨v2, ev2, h⟩ := o_bind h
          refine g_cVi (As := [.int x4, .int x1]) (rest := []) ⟨hx, hb, hml, hown, hts⟩ (m_X6_below l hst D cy tx ad R _ S x4 x1 v2 ev2) (cwV 2 hts gX6_targets_X6_below rfl rfl rfl (by decide +kernel) ⟨Nat.le_of_ble_eq_true rfl, Nat.le_of_ble_eq_true rfl⟩) (va_recv hK hP (ci := 6) (q0 := 0) rfl rfl) hP hK hD hS hA hE rfl hl.1 rfl (Nat.le_of_ble_eq_true rfl) dX6_targets_28 ⟨Nat.le_of_ble_eq_true rfl, Nat.le_of_ble_eq_true rfl⟩ (fun H locs hP hD hS => ?_)
          refine lv_if_ne (tgt := 37) hx hb dX6_targets_31 (by decide) (fun hc => ?_) (fun hc => ?_)
          · have h := o_neg hc h
            refine lv_aload_n hx hb dX6_targets_37 rfl (lv_at hl 0 rfl) ?_
            refine lv_iload hx hb dX6_targets_38 (lv_at hl 4 rfl) ?_
            refine lv_iload_n hx hb dX6_targets_40 rfl (lv_at hl 2 rfl) ?_
            obtain ⟨v3, ev3, h⟩ := o_bind h
            refine g_cVi (As := [.int x4, .int x2]) (rest := []) ⟨hx, hb, hml, hown, hts⟩ (m_X6_find l hst D cy tx ad R _ S x4 x2 v3 ev3) (cwV 2 hts gX6_targets_X6_find rfl rfl rfl (by decide +kernel) ⟨Nat.le_of_ble_eq_true rfl, Nat.le_of_ble_eq_true rfl⟩) (va_recv hK hP (ci := 6) (q0 := 0) rfl rfl) hP hK hD hS hA hE rfl hl.1 rfl (Nat.le_of_ble_eq_true rfl) dX6_targets_41 ⟨Nat.le_of_ble_eq_true rfl, Nat.le_of_ble_eq_true rfl⟩ (fun H locs hP hD hS => ?_)
            refine lv_istore (lv' := [(5, .int v3), (0, .ref (ad 0)), (1, .int x1), (2, .int x2), (3, .int x3), (4, .int x4)]) hx hb dX6_targets_44 hl (by decide) rfl (fun ls hl => ?_)
            refine lv_iload hx hb dX6_targets_46 (lv_at hl 0 rfl) ?_
            refine lv_iconst (v := (-1)) hx hb dX6_targets_48 (by decide) ?_
            refine lv_icmp_eq (tgt := 59) hx hb dX6_targets_49 (by decide) (fun hc => ?_) (fun hc => ?_)
            · have h := o_pos hc h
              refine lv_iinc (v := (x4 + 1)) (lv' := [(4, .int (x4 + 1)), (5, .int v3), (0, .ref (ad 0)), (1, .int x1), (2, .int x2), (3, .int x3)]) hx hb dX6_targets_59 hl (k := 5) rfl rfl (by decide) rfl (fun ls hl => ?_)
              refine lv_goto (tgt := 5) hx hb dX6_targets_62 (by decide) ?_
              exact ih5 x3 (x4 + 1) _ _ ls hP hD hS (lv_sub hl [2, 3, 4, 5, 0] rfl) h
            · have h := o_neg hc h
              refine lv_iload_n hx hb dX6_targets_52 rfl (lv_at hl 4 rfl) ?_
              refine lv_iconst (v := 1) hx hb dX6_targets_53 (by decide) ?_
              refine lv_iload hx hb dX6_targets_54 (lv_at hl 0 rfl) ?_
              refine lv_ishl hx hb dX6_targets_56 ?_
              refine lv_ior hx hb dX6_targets_57 ?_
              refine lv_istore_n (lv' := [(3, .int (x3 ||| (1 <<< (v3 &&& 31)))), (5, .int v3), (0, .ref (ad 0)), (1, .int x1), (2, .int x2), (4, .int x4)]) hx hb dX6_targets_58 rfl hl (by decide) rfl (fun ls hl => ?_)
              refine lv_iinc (v := (x4 + 1)) (lv' := [(4, .int (x4 + 1)), (3, .int (x3 ||| (1 <<< (v3 &&& 31)))), (5, .int v3), (0, .ref (ad 0)), (1, .int x1), (2, .int x2)]) hx hb dX6_targets_59 hl (k := 5) rfl rfl (by decide) rfl (fun ls hl => ?_)
              refine lv_goto (tgt := 5) hx hb dX6_targets_62 (by decide) ?_
              exact ih5 (x3 ||| (1 <<< (v3 &&& 31))) (x4 + 1) _ _ ls hP hD hS (lv_sub hl [3, 4, 5, 1, 0] rfl) h
          · have h := o_pos hc h
            refine lv_goto (tgt := 59) hx hb dX6_targets_34 (by decide) ?_
            refine lv_iinc (v := (x4 + 1)) (lv' := [(4, .int (x4 + 1)), (0, .ref (ad 0)), (1, .int x1), (2, .int x2), (3, .int x3)]) hx hb dX6_targets_59 hl (k := 4) rfl rfl (by decide) rfl (fun ls hl => ?_)
            refine lv_goto (tgt := 5) hx hb dX6_targets_62 (by decide) ?_
            exact ih5 x3 (x4 + 1) _ _ ls hP hD hS (lv_sub hl [1, 2, 3, 4, 0] rfl) h
  exact L5  1000 0 0 _ _ ls hP hD hS (lv_sub hl [2, 3, 4, 1, 0] rfl) h
set_option maxHeartbeats 4000000 in
set_option maxRecDepth 100000 in
theorem m_X6_targetCount (l : Launch) (hst : l.stackTraces = false) (D : va_G) (cy : Nat → ClassId) (tx : List (ClassId × FieldType)) (ad : Nat → Nat) (R : va_W) (sz : Nat) (S : PS) (x1 : Int32) (x2 : Int32) (S' : PS) (v : Int32) (h : q_X6_targetCount S x1 x2 = some (S', v)) : gMi l yX6_targetCount wsX6_targetCount ({ frames := 3, cells := 0, slots := 0, locals := 71 }) 0 0 D (gT cy ++ tx) [.ref (ad 0), .int x1, .int x2] sz (mW cy ad S R) (mW cy ad S' R) v := by
  refine Met.ofW (cc := cX6_targetCount) (maxL := 3) (ret := (some .int)) (by decide) rfl ?_
  intro p e s m args below meth c s₁ B hml hv
  obtain ⟨hav, hsz, hP, hK, hD0, hE⟩ := hv
  have hx := B.exec
  have hb := B.bytes
  have hr := B.returns
  have hts := atoms_spec (ws := wsX6_targetCount) B.pre
  have hown : s.vm.findClass RX6 = some m.cls := findClass_of_methodNamed B.named
  have hlocks := B.notSynchronized
  subst hsz
  have hD := hD0.self (sz := s.heap.size)
  generalize hAe : va_A (mW cy ad S R) s.heap.size = A at hD hE ⊢
  have hA : ∀ q : Nat, s.heap.size ≤ q → A q := fun q h => by rw [← hAe]; exact Or.inr h
  have hS : va_S A s.heap s.heap [] := va_S.rf
  have iX6 : ∀ w ∈ u_ws RX6 TX6 22, w ∈ wsX6_targetCount := by decide +kernel
  have hf66 := hts (.fieldLink RX6 66 "InlinePlannerModel" "thrown" "I") (by decide +kernel)
  refine g_entry (n := 3) hav (Nat.le_of_ble_eq_true rfl) (fun ls hl => ?_)
  have hl : lv_has ls 3 [(0, .ref (ad 0)), (1, .int x1), (2, .int x2)] := hl
  refine g_nameQ (fun Q hQ => ?_)
  unfold q_X6_targetCount at h
  refine lv_aload_n hx hb dX6_targetCount_0 rfl (lv_at hl 0 rfl) ?_
  refine lv_iconst (v := 0) hx hb dX6_targetCount_1 (by decide) ?_
  obtain ⟨S1, eS1, h⟩ := o_bind h
  refine mpX6_0 hx hb hts iX6 hown hK hP hD hS hf66 eS1 dX6_targetCount_2 (fun H locs hP hD hS => ?_)
  refine lv_aload_n hx hb dX6_targetCount_5 rfl (lv_at hl 0 rfl) ?_
  refine lv_iload_n hx hb dX6_targetCount_6 rfl (lv_at hl 1 rfl) ?_
  obtain ⟨v2, ev2, h⟩ := o_bind h
  refine g_cVi (As := [.int x1]) (rest := []) ⟨hx, hb, hml, hown, hts⟩ (m_X6_isClass l hst D cy tx ad R _ S1 x1 v2 ev2) (cwV 1 hts gX6_targetCount_X6_isClass rfl rfl rfl (by decide +kernel) ⟨Nat.le_of_ble_eq_true rfl, Nat.le_of_ble_eq_true rfl⟩) (va_recv hK hP (ci := 6) (q0 := 0) rfl rfl) hP hK hD hS hA hE rfl hl.1 rfl (Nat.le_of_ble_eq_true rfl) dX6_targetCount_7 ⟨Nat.le_of_ble_eq_true rfl, Nat.le_of_ble_eq_true rfl⟩ (fun H locs hP hD hS => ?_)
  refine lv_if_eq (tgt := 32) hx hb dX6_targetCount_10 (by decide) (fun hc => ?_) (fun hc => ?_)
  · have h := o_pos hc h
    refine lv_aload_n hx hb dX6_targetCount_32 rfl (lv_at hl 0 rfl) ?_
    refine lv_iconst (v := 1) hx hb dX6_targetCount_33 (by decide) ?_
    obtain ⟨⟨S4, v3⟩, ev3, h⟩ := o_bind h
    refine g_cVi (As := [.int 1]) (rest := []) ⟨hx, hb, hml, hown, hts⟩ (m_X6_no l hst D cy tx ad R _ S1 1 S4 v3 ev3) (cwV 1 hts gX6_targetCount_X6_no rfl rfl rfl (by decide +kernel) ⟨Nat.le_of_ble_eq_true rfl, Nat.le_of_ble_eq_true rfl⟩) (va_recv hK hP (ci := 6) (q0 := 0) rfl rfl) hP hK hD hS hA hE rfl hl.1 rfl (Nat.le_of_ble_eq_true rfl) dX6_targetCount_34 ⟨Nat.le_of_ble_eq_true rfl, Nat.le_of_ble_eq_true rfl⟩ (fun H locs hP hD hS => ?_)
    obtain ⟨eS, ev⟩ := Prod.mk.inj (Option.some.inj h)
    subst eS
    exact g_iret hQ hx hb hr hP hK hD hS (Nat.le_of_ble_eq_true rfl) (Nat.le_of_ble_eq_true rfl) dX6_targetCount_37 hlocks ev
  · have h := o_neg hc h
    refine lv_iload_n hx hb dX6_targetCount_13 rfl (lv_at hl 2 rfl) ?_
    obtain ⟨v5, ev5, h⟩ := o_bind h
    refine g_cSi (As := [.int x2]) (rest := []) ⟨hx, hb, hml, hown, hts⟩ (m_X6_isSelector l hst D (gT cy ++ tx) (mW cy ad S1 R) _ x2 v5 ev5) (va_cwS 1 hts gX6_targetCount_X6_isSelector rfl rfl rfl (by decide +kernel) ⟨Nat.le_of_ble_eq_true rfl, Nat.le_of_ble_eq_true rfl⟩) hP hK hD hS hA hE rfl hl.1 rfl (Nat.le_of_ble_eq_true rfl) dX6_targetCount_14 ⟨Nat.le_of_ble_eq_true rfl, Nat.le_of_ble_eq_true rfl⟩ (fun H locs hP hD hS => ?_)
    refine lv_if_eq (tgt := 32) hx hb dX6_targetCount_17 (by decide) (fun hc => ?_) (fun hc => ?_)
    · have h := o_pos hc h
      refine lv_aload_n hx hb dX6_targetCount_32 rfl (lv_at hl 0 rfl) ?_
      refine lv_iconst (v := 1) hx hb dX6_targetCount_33 (by decide) ?_
      obtain ⟨⟨S7, v6⟩, ev6, h⟩ := o_bind h
      refine g_cVi (As := [.int 1]) (rest := []) ⟨hx, hb, hml, hown, hts⟩ (m_X6_no l hst D cy tx ad R _ S1 1 S7 v6 ev6) (cwV 1 hts gX6_targetCount_X6_no rfl rfl rfl (by decide +kernel) ⟨Nat.le_of_ble_eq_true rfl, Nat.le_of_ble_eq_true rfl⟩) (va_recv hK hP (ci := 6) (q0 := 0) rfl rfl) hP hK hD hS hA hE rfl hl.1 rfl (Nat.le_of_ble_eq_true rfl) dX6_targetCount_34 ⟨Nat.le_of_ble_eq_true rfl, Nat.le_of_ble_eq_true rfl⟩ (fun H locs hP hD hS => ?_)
      obtain ⟨eS, ev⟩ := Prod.mk.inj (Option.some.inj h)
      subst eS
      exact g_iret hQ hx hb hr hP hK hD hS (Nat.le_of_ble_eq_true rfl) (Nat.le_of_ble_eq_true rfl) dX6_targetCount_37 hlocks ev
    · have h := o_neg hc h
      refine lv_aload_n hx hb dX6_targetCount_20 rfl (lv_at hl 0 rfl) ?_
      refine lv_iload_n hx hb dX6_targetCount_21 rfl (lv_at hl 1 rfl) ?_
      refine lv_iload_n hx hb dX6_targetCount_22 rfl (lv_at hl 2 rfl) ?_
      obtain ⟨v8, ev8, h⟩ := o_bind h
      refine g_cVi (As := [.int x1, .int x2]) (rest := []) ⟨hx, hb, hml, hown, hts⟩ (m_X6_targets l hst D cy tx ad R _ S1 x1 x2 v8 ev8) (cwV 2 hts gX6_targetCount_X6_targets rfl rfl rfl (by decide +kernel) ⟨Nat.le_of_ble_eq_true rfl, Nat.le_of_ble_eq_true rfl⟩) (va_recv hK hP (ci := 6) (q0 := 0) rfl rfl) hP hK hD hS hA hE rfl hl.1 rfl (Nat.le_of_ble_eq_true rfl) dX6_targetCount_23 ⟨Nat.le_of_ble_eq_true rfl, Nat.le_of_ble_eq_true rfl⟩ (fun H locs hP hD hS => ?_)
      obtain ⟨v9, ev9, h⟩ := o_bind h
      refine g_cSi (As := [.int v8]) (rest := []) ⟨hx, hb, hml, hown, hts⟩ (m_X6_bits l hst D (gT cy ++ tx) (mW cy ad S1 R) _ v8 v9 ev9) (va_cwS 1 hts gX6_targetCount_X6_bits rfl rfl rfl (by decide +kernel) ⟨Nat.le_of_ble_eq_true rfl, Nat.le_of_ble_eq_true rfl⟩) hP hK hD hS hA hE rfl hl.1 rfl (Nat.le_of_ble_eq_true rfl) dX6_targetCount_26 ⟨Nat.le_of_ble_eq_true rfl, Nat.le_of_ble_eq_true rfl⟩ (fun H locs hP hD hS => ?_)
      refine lv_goto (tgt := 37) hx hb dX6_targetCount_29 (by decide) ?_
      obtain ⟨eS, ev⟩ := Prod.mk.inj (Option.some.inj h)
      subst eS
      exact g_iret hQ hx hb hr hP hK hD hS (Nat.le_of_ble_eq_true rfl) (Nat.le_of_ble_eq_true rfl) dX6_targetCount_37 hlocks ev
set_option maxHeartbeats 4000000 in
set_option maxRecDepth 100000 in
theorem m_X6_target (l : Launch) (hst : l.stackTraces = false) (D : va_G) (cy : Nat → ClassId) (tx : List (ClassId × FieldType)) (ad : Nat → Nat) (R : va_W) (sz : Nat) (S : PS) (x1 : Int32) (x2 : Int32) (x3 : Int32) (S' : PS) (v : Int32) (h : q_X6_target S x1 x2 x3 = some (S', v)) : gMi l yX6_target wsX6_target ({ frames := 3, cells := 0, slots := 0, locals := 71 }) 0 0 D (gT cy ++ tx) [.ref (ad 0), .int x1, .int x2, .int x3] sz (mW cy ad S R) (mW cy ad S' R) v := by
  refine Met.ofW (cc := cX6_target) (maxL := 5) (ret := (some .int)) (by decide) rfl ?_
  intro p e s m args below meth c s₁ B hml hv
  obtain ⟨hav, hsz, hP, hK, hD0, hE⟩ := hv
  have hx := B.exec
  have hb := B.bytes
  have hr := B.returns
  have hts := atoms_spec (ws := wsX6_target) B.pre
  have hown : s.vm.findClass RX6 = some m.cls := findClass_of_methodNamed B.named
  have hlocks := B.notSynchronized
  subst hsz
  have hD := hD0.self (sz := s.heap.size)
  generalize hAe : va_A (mW cy ad S R) s.heap.size = A at hD hE ⊢
  have hA : ∀ q : Nat, s.heap.size ≤ q → A q := fun q h => by rw [← hAe]; exact Or.inr h
  have hS : va_S A s.heap s.heap [] := va_S.rf
  have iX6 : ∀ w ∈ u_ws RX6 TX6 22, w ∈ wsX6_target := by decide +kernel
  have hf66 := hts (.fieldLink RX6 66 "InlinePlannerModel" "thrown" "I") (by decide +kernel)
  refine g_entry (n := 5) hav (Nat.le_of_ble_eq_true rfl) (fun ls hl => ?_)
  have hl : lv_has ls 5 [(0, .ref (ad 0)), (1, .int x1), (2, .int x2), (3, .int x3)] := hl
  refine g_nameQ (fun Q hQ => ?_)
  unfold q_X6_target at h
  refine lv_aload_n hx hb dX6_target_0 rfl (lv_at hl 0 rfl) ?_
  refine lv_iconst (v := 0) hx hb dX6_target_1 (by decide) ?_
  obtain ⟨S1, eS1, h⟩ := o_bind h
  refine mpX6_0 hx hb hts iX6 hown hK hP hD hS hf66 eS1 dX6_target_2 (fun H locs hP hD hS => ?_)
  refine lv_aload_n hx hb dX6_target_5 rfl (lv_at hl 0 rfl) ?_
  refine lv_iload_n hx hb dX6_target_6 rfl (lv_at hl 1 rfl) ?_
  obtain ⟨v2, ev2, h⟩ := o_bind h
  refine g_cVi (As := [.int x1]) (rest := []) ⟨hx, hb, hml, hown, hts⟩ (m_X6_isClass l hst D cy tx ad R _ S1 x1 v2 ev2) (cwV 1 hts gX6_target_X6_isClass rfl rfl rfl (by decide +kernel) ⟨Nat.le_of_ble_eq_true rfl, Nat.le_of_ble_eq_true rfl⟩) (va_recv hK hP (ci := 6) (q0 := 0) rfl rfl) hP hK hD hS hA hE rfl hl.1 rfl (Nat.le_of_ble_eq_true rfl) dX6_target_7 ⟨Nat.le_of_ble_eq_true rfl, Nat.le_of_ble_eq_true rfl⟩ (fun H locs hP hD hS => ?_)
  refine lv_if_eq (tgt := 20) hx hb dX6_target_10 (by decide) (fun hc => ?_) (fun hc => ?_)
  · have h := o_pos hc h
    refine lv_aload_n hx hb dX6_target_20 rfl (lv_at hl 0 rfl) ?_
    refine lv_iconst (v := 1) hx hb dX6_target_21 (by decide) ?_
    obtain ⟨⟨S4, v3⟩, ev3, h⟩ := o_bind h
    refine g_cVi (As := [.int 1]) (rest := []) ⟨hx, hb, hml, hown, hts⟩ (m_X6_no l hst D cy tx ad R _ S1 1 S4 v3 ev3) (cwV 1 hts gX6_target_X6_no rfl rfl rfl (by decide +kernel) ⟨Nat.le_of_ble_eq_true rfl, Nat.le_of_ble_eq_true rfl⟩) (va_recv hK hP (ci := 6) (q0 := 0) rfl rfl) hP hK hD hS hA hE rfl hl.1 rfl (Nat.le_of_ble_eq_true rfl) dX6_target_22 ⟨Nat.le_of_ble_eq_true rfl, Nat.le_of_ble_eq_true rfl⟩ (fun H locs hP hD hS => ?_)
    obtain ⟨eS, ev⟩ := Prod.mk.inj (Option.some.inj h)
    subst eS
    exact g_iret hQ hx hb hr hP hK hD hS (Nat.le_of_ble_eq_true rfl) (Nat.le_of_ble_eq_true rfl) dX6_target_25 hlocks ev
  · have h := o_neg hc h
    refine lv_iload_n hx hb dX6_target_13 rfl (lv_at hl 2 rfl) ?_
    obtain ⟨v5, ev5, h⟩ := o_bind h
    refine g_cSi (As := [.int x2]) (rest := []) ⟨hx, hb, hml, hown, hts⟩ (m_X6_isSelector l hst D (gT cy ++ tx) (mW cy ad S1 R) _ x2 v5 ev5) (va_cwS 1 hts gX6_target_X6_isSelector rfl rfl rfl (by decide +kernel) ⟨Nat.le_of_ble_eq_true rfl, Nat.le_of_ble_eq_true rfl⟩) hP hK hD hS hA hE rfl hl.1 rfl (Nat.le_of_ble_eq_true rfl) dX6_target_14 ⟨Nat.le_of_ble_eq_true rfl, Nat.le_of_ble_eq_true rfl⟩ (fun H locs hP hD hS => ?_)
    refine lv_if_ne (tgt := 26) hx hb dX6_target_17 (by decide) (fun hc => ?_) (fun hc => ?_)
    · have h := o_neg hc h
      refine lv_iload_n hx hb dX6_target_26 rfl (lv_at hl 3 rfl) ?_
      refine lv_if_ge (tgt := 34) hx hb dX6_target_27 (by decide) (fun hc => ?_) (fun hc => ?_)
      · have h := o_pos hc h
        refine lv_aload_n hx hb dX6_target_34 rfl (lv_at hl 0 rfl) ?_
        refine lv_iload_n hx hb dX6_target_35 rfl (lv_at hl 1 rfl) ?_
        refine lv_iload_n hx hb dX6_target_36 rfl (lv_at hl 2 rfl) ?_
        obtain ⟨v6, ev6, h⟩ := o_bind h
        refine g_cVi (As := [.int x1, .int x2]) (rest := []) ⟨hx, hb, hml, hown, hts⟩ (m_X6_targets l hst D cy tx ad R _ S1 x1 x2 v6 ev6) (cwV 2 hts gX6_target_X6_targets rfl rfl rfl (by decide +kernel) ⟨Nat.le_of_ble_eq_true rfl, Nat.le_of_ble_eq_true rfl⟩) (va_recv hK hP (ci := 6) (q0 := 0) rfl rfl) hP hK hD hS hA hE rfl hl.1 rfl (Nat.le_of_ble_eq_true rfl) dX6_target_37 ⟨Nat.le_of_ble_eq_true rfl, Nat.le_of_ble_eq_true rfl⟩ (fun H locs hP hD hS => ?_)
        refine lv_iload_n hx hb dX6_target_40 rfl (lv_at hl 3 rfl) ?_
        obtain ⟨v7, ev7, h⟩ := o_bind h
        refine g_cSi (As := [.int v6, .int x3]) (rest := []) ⟨hx, hb, hml, hown, hts⟩ (m_X6_member l hst D (gT cy ++ tx) (mW cy ad S1 R) _ v6 x3 v7 ev7) (va_cwS 2 hts gX6_target_X6_member rfl rfl rfl (by decide +kernel) ⟨Nat.le_of_ble_eq_true rfl, Nat.le_of_ble_eq_true rfl⟩) hP hK hD hS hA hE rfl hl.1 rfl (Nat.le_of_ble_eq_true rfl) dX6_target_41 ⟨Nat.le_of_ble_eq_true rfl, Nat.le_of_ble_eq_true rfl⟩ (fun H locs hP hD hS => ?_)
        refine lv_istore (lv' := [(4, .int v7), (0, .ref (ad 0)), (1, .int x1), (2, .int x2), (3, .int x3)]) hx hb dX6_target_44 hl (by decide) rfl (fun ls hl => ?_)
        refine lv_iload hx hb dX6_target_46 (lv_at hl 0 rfl) ?_
        refine lv_iconst (v := (-1)) hx hb dX6_target_48 (by decide) ?_
        refine lv_icmp_ne (tgt := 60) hx hb dX6_target_49 (by decide) (fun hc => ?_) (fun hc => ?_)
        · have h := o_neg hc h
          refine lv_iload hx hb dX6_target_60 (lv_at hl 0 rfl) ?_
          obtain ⟨eS, ev⟩ := Prod.mk.inj (Option.some.inj h)
          subst eS
          exact g_iret hQ hx hb hr hP hK hD hS (Nat.le_of_ble_eq_true rfl) (Nat.le_of_ble_eq_true rfl) dX6_target_62 hlocks ev
        · have h := o_pos hc h
          refine lv_aload_n hx hb dX6_target_52 rfl (lv_at hl 1 rfl) ?_
          refine lv_iconst (v := 2) hx hb dX6_target_53 (by decide) ?_
          obtain ⟨⟨S9, v8⟩, ev8, h⟩ := o_bind h
          refine g_cVi (As := [.int 2]) (rest := []) ⟨hx, hb, hml, hown, hts⟩ (m_X6_no l hst D cy tx ad R _ S1 2 S9 v8 ev8) (cwV 1 hts gX6_target_X6_no rfl rfl rfl (by decide +kernel) ⟨Nat.le_of_ble_eq_true rfl, Nat.le_of_ble_eq_true rfl⟩) (va_recv hK hP (ci := 6) (q0 := 0) rfl rfl) hP hK hD hS hA hE rfl hl.1 rfl (Nat.le_of_ble_eq_true rfl) dX6_target_54 ⟨Nat.le_of_ble_eq_true rfl, Nat.le_of_ble_eq_true rfl⟩ (fun H locs hP hD hS => ?_)
          refine lv_goto (tgt := 62) hx hb dX6_target_57 (by decide) ?_
          obtain ⟨eS, ev⟩ := Prod.mk.inj (Option.some.inj h)
          subst eS
          exact g_iret hQ hx hb hr hP hK hD hS (Nat.le_of_ble_eq_true rfl) (Nat.le_of_ble_eq_true rfl) dX6_target_62 hlocks ev
      · have h := o_neg hc h
        refine lv_iconst (v := (-1)) hx hb dX6_target_30 (by decide) ?_
        refine lv_goto (tgt := 44) hx hb dX6_target_31 (by decide) ?_
        refine lv_istore (lv' := [(4, .int (-1)), (0, .ref (ad 0)), (1, .int x1), (2, .int x2), (3, .int x3)]) hx hb dX6_target_44 hl (by decide) rfl (fun ls hl => ?_)
        refine lv_iload hx hb dX6_target_46 (lv_at hl 0 rfl) ?_
        refine lv_iconst (v := (-1)) hx hb dX6_target_48 (by decide) ?_
        refine lv_icmp_ne (tgt := 60) hx hb dX6_target_49 (by decide) (fun hc => absurd hc (by decide)) (fun _ => ?_)
        refine lv_aload_n hx hb dX6_target_52 rfl (lv_at hl 1 rfl) ?_
        refine lv_iconst (v := 2) hx hb dX6_target_53 (by decide) ?_
        obtain ⟨⟨S11, v10⟩, ev10, h⟩ := o_bind h
        refine g_cVi (As := [.int 2]) (rest := []) ⟨hx, hb, hml, hown, hts⟩ (m_X6_no l hst D cy tx ad R _ S1 2 S11 v10 ev10) (cwV 1 hts gX6_target_X6_no rfl rfl rfl (by decide +kernel) ⟨Nat.le_of_ble_eq_true rfl, Nat.le_of_ble_eq_true rfl⟩) (va_recv hK hP (ci := 6) (q0 := 0) rfl rfl) hP hK hD hS hA hE rfl hl.1 rfl (Nat.le_of_ble_eq_true rfl) dX6_target_54 ⟨Nat.le_of_ble_eq_true rfl, Nat.le_of_ble_eq_true rfl⟩ (fun H locs hP hD hS => ?_)
        refine lv_goto (tgt := 62) hx hb dX6_target_57 (by decide) ?_
        obtain ⟨eS, ev⟩ := Prod.mk.inj (Option.some.inj h)
        subst eS
        exact g_iret hQ hx hb hr hP hK hD hS (Nat.le_of_ble_eq_true rfl) (Nat.le_of_ble_eq_true rfl) dX6_target_62 hlocks ev
    · have h := o_pos hc h
      refine lv_aload_n hx hb dX6_target_20 rfl (lv_at hl 0 rfl) ?_
      refine lv_iconst (v := 1) hx hb dX6_target_21 (by decide) ?_
      obtain ⟨⟨S13, v12⟩, ev12, h⟩ := o_bind h
      refine g_cVi (As := [.int 1]) (rest := []) ⟨hx, hb, hml, hown, hts⟩ (m_X6_no l hst D cy tx ad R _ S1 1 S13 v12 ev12) (cwV 1 hts gX6_target_X6_no rfl rfl rfl (by decide +kernel) ⟨Nat.le_of_ble_eq_true rfl, Nat.le_of_ble_eq_true rfl⟩) (va_recv hK hP (ci := 6) (q0 := 0) rfl rfl) hP hK hD hS hA hE rfl hl.1 rfl (Nat.le_of_ble_eq_true rfl) dX6_target_22 ⟨Nat.le_of_ble_eq_true rfl, Nat.le_of_ble_eq_true rfl⟩ (fun H locs hP hD hS => ?_)
      obtain ⟨eS, ev⟩ := Prod.mk.inj (Option.some.inj h)
      subst eS
      exact g_iret hQ hx hb hr hP hK hD hS (Nat.le_of_ble_eq_true rfl) (Nat.le_of_ble_eq_true rfl) dX6_target_25 hlocks ev
set_option maxHeartbeats 4000000 in
set_option maxRecDepth 100000 in
theorem m_X6_reached (l : Launch) (hst : l.stackTraces = false) (D : va_G) (cy : Nat → ClassId) (tx : List (ClassId × FieldType)) (ad : Nat → Nat) (R : va_W) (sz : Nat) (S : PS) (x1 : Int32) (S' : PS) (v : Int32) (h : q_X6_reached S x1 = some (S', v)) : gMi l yX6_reached wsX6_reached ({ frames := 3, cells := 0, slots := 0, locals := 71 }) 0 0 D (gT cy ++ tx) [.ref (ad 0), .int x1] sz (mW cy ad S R) (mW cy ad S' R) v := by
  refine Met.ofW (cc := cX6_reached) (maxL := 6) (ret := (some .int)) (by decide) rfl ?_
  intro p e s m args below meth c s₁ B hml hv
  obtain ⟨hav, hsz, hP, hK, hD0, hE⟩ := hv
  have hx := B.exec
  have hb := B.bytes
  have hr := B.returns
  have hts := atoms_spec (ws := wsX6_reached) B.pre
  have hown : s.vm.findClass RX6 = some m.cls := findClass_of_methodNamed B.named
  have hlocks := B.notSynchronized
  subst hsz
  have hD := hD0.self (sz := s.heap.size)
  generalize hAe : va_A (mW cy ad S R) s.heap.size = A at hD hE ⊢
  have hA : ∀ q : Nat, s.heap.size ≤ q → A q := fun q h => by rw [← hAe]; exact Or.inr h
  have hS : va_S A s.heap s.heap [] := va_S.rf
  have iX6 : ∀ w ∈ u_ws RX6 TX6 22, w ∈ wsX6_reached := by decide +kernel
  have hf30 := hts (.fieldLink RX6 30 "InlinePlannerModel" "sites" "[I") (by decide +kernel)
  have hf66 := hts (.fieldLink RX6 66 "InlinePlannerModel" "thrown" "I") (by decide +kernel)
  have hf73 := hts (.fieldLink RX6 73 "InlinePlannerModel" "methods" "I") (by decide +kernel)
  refine g_entry (n := 6) hav (Nat.le_of_ble_eq_true rfl) (fun ls hl => ?_)
  have hl : lv_has ls 6 [(0, .ref (ad 0)), (1, .int x1)] := hl
  refine g_nameQ (fun Q hQ => ?_)
  unfold q_X6_reached at h
  refine lv_aload_n hx hb dX6_reached_0 rfl (lv_at hl 0 rfl) ?_
  refine lv_iconst (v := 0) hx hb dX6_reached_1 (by decide) ?_
  obtain ⟨S1, eS1, h⟩ := o_bind h
  refine mpX6_0 hx hb hts iX6 hown hK hP hD hS hf66 eS1 dX6_reached_2 (fun H locs hP hD hS => ?_)
  refine lv_aload_n hx hb dX6_reached_5 rfl (lv_at hl 0 rfl) ?_
  refine lv_iload_n hx hb dX6_reached_6 rfl (lv_at hl 1 rfl) ?_
  obtain ⟨v2, ev2, h⟩ := o_bind h
  refine g_cVi (As := [.int x1]) (rest := []) ⟨hx, hb, hml, hown, hts⟩ (m_X6_isMethod l hst D cy tx ad R _ S1 x1 v2 ev2) (cwV 1 hts gX6_reached_X6_isMethod rfl rfl rfl (by decide +kernel) ⟨Nat.le_of_ble_eq_true rfl, Nat.le_of_ble_eq_true rfl⟩) (va_recv hK hP (ci := 6) (q0 := 0) rfl rfl) hP hK hD hS hA hE rfl hl.1 rfl (Nat.le_of_ble_eq_true rfl) dX6_reached_7 ⟨Nat.le_of_ble_eq_true rfl, Nat.le_of_ble_eq_true rfl⟩ (fun H locs hP hD hS => ?_)
  refine lv_if_ne (tgt := 19) hx hb dX6_reached_10 (by decide) (fun hc => ?_) (fun hc => ?_)
  · have h := o_neg hc h
    refine lv_iconst (v := 1) hx hb dX6_reached_19 (by decide) ?_
    refine lv_iload_n hx hb dX6_reached_20 rfl (lv_at hl 1 rfl) ?_
    refine lv_ishl hx hb dX6_reached_21 ?_
    refine lv_istore_n (lv' := [(2, .int (1 <<< (x1 &&& 31))), (0, .ref (ad 0)), (1, .int x1)]) hx hb dX6_reached_22 rfl hl (by decide) rfl (fun ls hl => ?_)
    refine lv_iconst (v := 0) hx hb dX6_reached_23 (by decide) ?_
    refine lv_istore_n (lv' := [(3, .int 0), (2, .int (1 <<< (x1 &&& 31))), (0, .ref (ad 0)), (1, .int x1)]) hx hb dX6_reached_24 rfl hl (by decide) rfl (fun ls hl => ?_)
    have L25 : ∀ (S : PS), ∀ (n25 : Nat) (x2 : Int32) (x3 : Int32) (H : Heap) (locs : List Loc) (ls : Array Slot), va_P D vwCl (mW cy ad S R) H → va_D A (mW cy ad S R) → va_S A s.heap H locs → lv_has ls 6 [(0, .ref (ad 0)), (2, .int x2), (3, .int x3)] → iter2 (q_X6_reached_L25 S ) n25 x2 x3 = some (S', v) → W p l e (headSpec wsX6_reached ({ frames := 3, cells := 0, slots := 0, locals := 71 })).room s m args below meth c H locs 0 0 Q (F0 m 25 ls []) := by
      intro S n25
      induction n25 with
      | zero =>
        intro x2 x3 H locs ls hP hD hS hl h
        exact (it2_0 h).elim
      | succ n25 ih25 =>
        intro x2 x3 H locs ls hP hD hS hl h
        have h : q_X6_reached_L25 S  (iter2 (q_X6_reached_L25 S ) n25) x2 x3 = some (S', v) := h
        unfold q_X6_reached_L25 at h
        refine lv_iload_n hx hb dX6_reached_25 rfl (lv_at hl 1 rfl) ?_
        refine lv_iload_n hx hb dX6_reached_26 rfl (lv_at hl 2 rfl) ?_
        refine lv_icmp_eq (tgt := 109) hx hb dX6_reached_27 (by decide) (fun hc => ?_) (fun hc => ?_)
        · have h := o_pos hc h
          refine lv_iload_n hx hb dX6_reached_109 rfl (lv_at hl 1 rfl) ?_
          obtain ⟨eS, ev⟩ := Prod.mk.inj (Option.some.inj h)
          subst eS
          exact g_iret hQ hx hb hr hP hK hD hS (Nat.le_of_ble_eq_true rfl) (Nat.le_of_ble_eq_true rfl) dX6_reached_110 hlocks ev
        · have h := o_neg hc h
          refine lv_iload_n hx hb dX6_reached_30 rfl (lv_at hl 1 rfl) ?_
          refine lv_istore_n (lv' := [(3, .int x2), (0, .ref (ad 0)), (2, .int x2)]) hx hb dX6_reached_31 rfl hl (by decide) rfl (fun ls hl => ?_)
          refine lv_iconst (v := 0) hx hb dX6_reached_32 (by decide) ?_
          refine lv_istore (lv' := [(4, .int 0), (3, .int x2), (0, .ref (ad 0)), (2, .int x2)]) hx hb dX6_reached_33 hl (by decide) rfl (fun ls hl => ?_)
          have L35 : ∀ (x3 : Int32), ∀ (n35 : Nat) (x2 : Int32) (x4 : Int32) (H : Heap) (locs : List Loc) (ls : Array Slot), va_P D vwCl (mW cy ad S R) H → va_D A (mW cy ad S R) → va_S A s.heap H locs → lv_has ls 6 [(0, .ref (ad 0)), (2, .int x2), (3, .int x3), (4, .int x4)] → iter2 (q_X6_reached_L35 x3 S (iter2 (q_X6_reached_L25 S ) n25)) n35 x2 x4 = some (S', v) → W p l e (headSpec wsX6_reached ({ frames := 3, cells := 0, slots := 0, locals := 71 })).room s m args below meth c H locs 0 0 Q (F0 m 35 ls []) := by
            intro x3 n35
            induction n35 with
            | zero =>
              intro x2 x4 H locs ls hP hD hS hl h
              exact (it2_0 h).elim
            | succ n35 ih35 =>
              intro x2 x4 H locs ls hP hD hS hl h
              have h : q_X6_reached_L35 x3 S (iter2 (q_X6_reached_L25 S ) n25) (iter2 (q_X6_reached_L35 x3 S (iter2 (q_X6_reached_L25 S ) n25)) n35) x2 x4 = some (S', v) := h
              unfold q_X6_reached_L35 at h
              refine lv_iload hx hb dX6_reached_35 (lv_at hl 3 rfl) ?_
              refine lv_aload_n hx hb dX6_reached_37 rfl (lv_at hl 0 rfl) ?_
              refine mgX6_4 hx hb hts iX6 hown hK hP hf73 dX6_reached_38 ?_
              refine lv_icmp_ge (tgt := 106) hx hb dX6_reached_41 (by decide) (fun hc => ?_) (fun hc => ?_)
              · have h := o_pos hc h
                refine lv_goto (tgt := 25) hx hb dX6_reached_106 (by decide) ?_
                exact ih25 x2 x3 _ _ ls hP hD hS (lv_sub hl [0, 1, 2] rfl) h
              · have h := o_neg hc h
                refine lv_iconst (v := 0) hx hb dX6_reached_44 (by decide) ?_
                refine lv_istore (lv' := [(5, .int 0), (0, .ref (ad 0)), (2, .int x2), (3, .int x3), (4, .int x4)]) hx hb dX6_reached_45 hl (by decide) rfl (fun ls hl => ?_)
                have L47 : ∀ (n47 : Nat) (x2 : Int32) (x5 : Int32) (H : Heap) (locs : List Loc) (ls : Array Slot), va_P D vwCl (mW cy ad S R) H → va_D A (mW cy ad S R) → va_S A s.heap H locs → lv_has ls 6 [(0, .ref (ad 0)), (2, .int x2), (3, .int x3), (4, .int x4), (5, .int x5)] → iter2 (q_X6_reached_L47 x3 x4 S (iter2 (q_X6_reached_L25 S ) n25) (iter2 (q_X6_reached_L35 x3 S (iter2 (q_X6_reached_L25 S ) n25)) n35)) n47 x2 x5 = some (S', v) → W p l e (headSpec wsX6_reached ({ frames := 3, cells := 0, slots := 0, locals := 71 })).room s m args below meth c H locs 0 0 Q (F0 m 47 ls []) := by
                  intro  n47
                  induction n47 with
                  | zero =>
                    intro x2 x5 H locs ls hP hD hS hl h
                    exact (it2_0 h).elim
                  | succ n47 ih47 =>
                    intro x2 x5 H locs ls hP hD hS hl h
                    have h : q_X6_reached_L47 x3 x4 S (iter2 (q_X6_reached_L25 S ) n25) (iter2 (q_X6_reached_L35 x3 S (iter2 (q_X6_reached_L25 S ) n25)) n35) (iter2 (q_X6_reached_L47 x3 x4 S (iter2 (q_X6_reached_L25 S ) n25) (iter2 (q_X6_reached_L35 x3 S (iter2 (q_X6_reached_L25 S ) n25)) n35)) n47) x2 x5 = some (S', v) := h
                    unfold q_X6_reached_L47 at h
                    refine lv_iload hx hb dX6_reached_47 (lv_at hl 4 rfl) ?_
                    refine lv_aload_n hx hb dX6_reached_49 rfl (lv_at hl 0 rfl) ?_
                    refine mgX6_8 hx hb hts iX6 hown hK hP hf30 dX6_reached_50 ?_
                    refine lv_iload hx hb dX6_reached_53 (lv_at hl 3 rfl) ?_
                    obtain ⟨v3, ev3, h⟩ := o_bind h
                    refine mld5 hx hb hK hP ev3 dX6_reached_55 ?_
                    refine lv_icmp_ge (tgt := 100) hx hb dX6_reached_56 (by decide) (fun hc => ?_) (fun hc => ?_)
                    · have h := o_pos hc h
                      refine lv_iinc (v := (x4 + 1)) (lv' := [(4, .int (x4 + 1)), (0, .ref (ad 0)), (2, .int x2), (3, .int x3), (5, .int x5)]) hx hb dX6_reached_100 hl (k := 3) rfl rfl (by decide) rfl (fun ls hl => ?_)
                      refine lv_goto (tgt := 35) hx hb dX6_reached_103 (by decide) ?_
                      exact ih35 x2 (x4 + 1) _ _ ls hP hD hS (lv_sub hl [1, 2, 3, 0] rfl) h
                    · have h := o_neg hc h
                      refine lv_iload_n hx hb dX6_reached_59 rfl (lv_at hl 1 rfl) ?_
                      refine lv_iload hx hb dX6_reached_60 (lv_at hl 3 rfl) ?_
                      refine lv_ishr hx hb dX6_reached_62 ?_
                      refine lv_iconst (v := 1) hx hb dX6_reached_63 (by decide) ?_
                      refine lv_iand hx hb dX6_reached_64 ?_
                      refine lv_iconst (v := 1) hx hb dX6_reached_65 (by decide) ?_
                      refine lv_icmp_ne (tgt := 100) hx hb dX6_reached_66 (by decide) (fun hc => ?_) (fun hc => ?_)
                      · have h := o_neg hc h
                        refine lv_iinc (v := (x4 + 1)) (lv' := [(4, .int (x4 + 1)), (0, .ref (ad 0)), (2, .int x2), (3, .int x3), (5, .int x5)]) hx hb dX6_reached_100 hl (k := 3) rfl rfl (by decide) rfl (fun ls hl => ?_)
                        refine lv_goto (tgt := 35) hx hb dX6_reached_103 (by decide) ?_
                        exact ih35 x2 (x4 + 1) _ _ ls hP hD hS (lv_sub hl [1, 2, 3, 0] rfl) h
                      · have h := o_pos hc h
                        refine lv_iload_n hx hb dX6_reached_69 rfl (lv_at hl 1 rfl) ?_
                        refine lv_aload_n hx hb dX6_reached_70 rfl (lv_at hl 0 rfl) ?_
                        refine lv_aload_n hx hb dX6_reached_71 rfl (lv_at hl 0 rfl) ?_
                        refine lv_iload hx hb dX6_reached_72 (lv_at hl 3 rfl) ?_
                        refine lv_iload hx hb dX6_reached_74 (lv_at hl 4 rfl) ?_
                        refine lv_iconst (v := 0) hx hb dX6_reached_76 (by decide) ?_
                        obtain ⟨v4, ev4, h⟩ := o_bind h
                        refine g_cVi (As := [.int x4, .int x5, .int 0]) (rest := [.ref (ad 0), .int x2]) ⟨hx, hb, hml, hown, hts⟩ (m_X6_call l hst D cy tx ad R _ S x4 x5 0 v4 ev4) (cwV 3 hts gX6_reached_X6_call rfl rfl rfl (by decide +kernel) ⟨Nat.le_of_ble_eq_true rfl, Nat.le_of_ble_eq_true rfl⟩) (va_recv hK hP (ci := 6) (q0 := 0) rfl rfl) hP hK hD hS hA hE rfl hl.1 rfl (Nat.le_of_ble_eq_true rfl) dX6_reached_77 ⟨Nat.le_of_ble_eq_true rfl, Nat.le_of_ble_eq_true rfl⟩ (fun H locs hP hD hS => ?_)
                        refine lv_aload_n hx hb dX6_reached_80 rfl (lv_at hl 0 rfl) ?_
                        refine lv_iload hx hb dX6_reached_81 (lv_at hl 3 rfl) ?_
                        refine lv_iload hx hb dX6_reached_83 (lv_at hl 4 rfl) ?_
                        refine lv_iconst (v := 1) hx hb dX6_reached_85 (by decide) ?_
                        obtain ⟨v5, ev5, h⟩ := o_bind h
                        refine g_cVi (As := [.int x4, .int x5, .int 1]) (rest := [.int v4, .ref (ad 0), .int x2]) ⟨hx, hb, hml, hown, hts⟩ (m_X6_call l hst D cy tx ad R _ S x4 x5 1 v5 ev5) (cwV 3 hts gX6_reached_X6_call rfl rfl rfl (by decide +kernel) ⟨Nat.le_of_ble_eq_true rfl, Nat.le_of_ble_eq_true rfl⟩) (va_recv hK hP (ci := 6) (q0 := 0) rfl rfl) hP hK hD hS hA hE rfl hl.1 rfl (Nat.le_of_ble_eq_true rfl) dX6_reached_86 ⟨Nat.le_of_ble_eq_true rfl, Nat.le_of_ble_eq_true rfl⟩ (fun H locs hP hD hS => ?_)
                        obtain ⟨v6, ev6, h⟩ := o_bind h
                        refine g_cVi (As := [.int v4, .int v5]) (rest := [.int x2]) ⟨hx, hb, hml, hown, hts⟩ (m_X6_targets l hst D cy tx ad R _ S v4 v5 v6 ev6) (cwV 2 hts gX6_reached_X6_targets rfl rfl rfl (by decide +kernel) ⟨Nat.le_of_ble_eq_true rfl, Nat.le_of_ble_eq_true rfl⟩) (va_recv hK hP (ci := 6) (q0 := 0) rfl rfl) hP hK hD hS hA hE rfl hl.1 rfl (Nat.le_of_ble_eq_true rfl) dX6_reached_89 ⟨Nat.le_of_ble_eq_true rfl, Nat.le_of_ble_eq_true rfl⟩ (fun H locs hP hD hS => ?_)
                        refine lv_ior hx hb dX6_reached_92 ?_
                        refine lv_istore_n (lv' := [(2, .int (x2 ||| v6)), (0, .ref (ad 0)), (3, .int x3), (4, .int x4), (5, .int x5)]) hx hb dX6_reached_93 rfl hl (by decide) rfl (fun ls hl => ?_)
                        refine lv_iinc (v := (x5 + 1)) (lv' := [(5, .int (x5 + 1)), (2, .int (x2 ||| v6)), (0, .ref (ad 0)), (3, .int x3), (4, .int x4)]) hx hb dX6_reached_94 hl (k := 4) rfl rfl (by decide) rfl (fun ls hl => ?_)
                        refine lv_goto (tgt := 47) hx hb dX6_reached_97 (by decide) ?_
                        exact ih47 (x2 ||| v6) (x5 + 1) _ _ ls hP hD hS (lv_sub hl [2, 1, 3, 4, 0] rfl) h
                exact L47  1000 x2 0 _ _ ls hP hD hS (lv_sub hl [1, 2, 3, 4, 0] rfl) h
          exact L35 x2 1000 x2 0 _ _ ls hP hD hS (lv_sub hl [2, 3, 1, 0] rfl) h
    exact L25 S1 1000 (1 <<< (x1 &&& 31)) 0 _ _ ls hP hD hS (lv_sub hl [2, 1, 0] rfl) h
  · have h := o_pos hc h
    refine lv_aload_n hx hb dX6_reached_13 rfl (lv_at hl 0 rfl) ?_
    refine lv_iconst (v := 1) hx hb dX6_reached_14 (by decide) ?_
    obtain ⟨⟨S8, v7⟩, ev7, h⟩ := o_bind h
    refine g_cVi (As := [.int 1]) (rest := []) ⟨hx, hb, hml, hown, hts⟩ (m_X6_no l hst D cy tx ad R _ S1 1 S8 v7 ev7) (cwV 1 hts gX6_reached_X6_no rfl rfl rfl (by decide +kernel) ⟨Nat.le_of_ble_eq_true rfl, Nat.le_of_ble_eq_true rfl⟩) (va_recv hK hP (ci := 6) (q0 := 0) rfl rfl) hP hK hD hS hA hE rfl hl.1 rfl (Nat.le_of_ble_eq_true rfl) dX6_reached_15 ⟨Nat.le_of_ble_eq_true rfl, Nat.le_of_ble_eq_true rfl⟩ (fun H locs hP hD hS => ?_)
    obtain ⟨eS, ev⟩ := Prod.mk.inj (Option.some.inj h)
    subst eS
    exact g_iret hQ hx hb hr hP hK hD hS (Nat.le_of_ble_eq_true rfl) (Nat.le_of_ble_eq_true rfl) dX6_reached_18 hlocks ev
set_option maxHeartbeats 4000000 in
set_option maxRecDepth 100000 in
theorem m_X6_setLimits (l : Launch) (hst : l.stackTraces = false) (D : va_G) (cy : Nat → ClassId) (tx : List (ClassId × FieldType)) (ad : Nat → Nat) (R : va_W) (sz : Nat) (S : PS) (x1 : Int32) (x2 : Int32) (x3 : Int32) (S' : PS) (v : Int32) (h : q_X6_setLimits S x1 x2 x3 = some (S', v)) : gMi l yX6_setLimits wsX6_setLimits ({ frames := 1, cells := 0, slots := 0, locals := 22 }) 0 0 D (gT cy ++ tx) [.ref (ad 0), .int x1, .int x2, .int x3] sz (mW cy ad S R) (mW cy ad S' R) v := by
  refine Met.ofW (cc := cX6_setLimits) (maxL := 5) (ret := (some .boolean)) (by decide) rfl ?_
  intro p e s m args below meth c s₁ B hml hv
  obtain ⟨hav, hsz, hP, hK, hD0, hE⟩ := hv
  have hx := B.exec
  have hb := B.bytes
  have hr := B.returns
  have hts := atoms_spec (ws := wsX6_setLimits) B.pre
  have hown : s.vm.findClass RX6 = some m.cls := findClass_of_methodNamed B.named
  have hlocks := B.notSynchronized
  subst hsz
  have hD := hD0.self (sz := s.heap.size)
  generalize hAe : va_A (mW cy ad S R) s.heap.size = A at hD hE ⊢
  have hA : ∀ q : Nat, s.heap.size ≤ q → A q := fun q h => by rw [← hAe]; exact Or.inr h
  have hS : va_S A s.heap s.heap [] := va_S.rf
  have iX6 : ∀ w ∈ u_ws RX6 TX6 22, w ∈ wsX6_setLimits := by decide +kernel
  have hf36 := hts (.fieldLink RX6 36 "InlinePlannerModel" "budget" "I") (by decide +kernel)
  have hf39 := hts (.fieldLink RX6 39 "InlinePlannerModel" "deepest" "I") (by decide +kernel)
  have hf42 := hts (.fieldLink RX6 42 "InlinePlannerModel" "recursion" "I") (by decide +kernel)
  have hf66 := hts (.fieldLink RX6 66 "InlinePlannerModel" "thrown" "I") (by decide +kernel)
  have hf98 := hts (.fieldLink RX6 98 "InlinePlannerModel" "hasPlan" "Z") (by decide +kernel)
  refine g_entry (n := 5) hav (Nat.le_of_ble_eq_true rfl) (fun ls hl => ?_)
  have hl : lv_has ls 5 [(0, .ref (ad 0)), (1, .int x1), (2, .int x2), (3, .int x3)] := hl
  refine g_nameQ (fun Q hQ => ?_)
  unfold q_X6_setLimits at h
  refine lv_aload_n hx hb dX6_setLimits_0 rfl (lv_at hl 0 rfl) ?_
  refine lv_iconst (v := 0) hx hb dX6_setLimits_1 (by decide) ?_
  obtain ⟨S1, eS1, h⟩ := o_bind h
  refine mpX6_0 hx hb hts iX6 hown hK hP hD hS hf66 eS1 dX6_setLimits_2 (fun H locs hP hD hS => ?_)
  refine lv_iload_n hx hb dX6_setLimits_5 rfl (lv_at hl 1 rfl) ?_
  refine lv_iconst (v := 1) hx hb dX6_setLimits_6 (by decide) ?_
  refine lv_sipush (v := 5000) hx hb dX6_setLimits_7 (by decide) ?_
  obtain ⟨v2, ev2, h⟩ := o_bind h
  refine g_cSi (As := [.int x1, .int 1, .int 5000]) (rest := []) ⟨hx, hb, hml, hown, hts⟩ (m_X6_isIn l hst D (gT cy ++ tx) (mW cy ad S1 R) _ x1 1 5000 v2 ev2) (va_cwS 3 hts gX6_setLimits_X6_isIn rfl rfl rfl (by decide +kernel) ⟨Nat.le_of_ble_eq_true rfl, Nat.le_of_ble_eq_true rfl⟩) hP hK hD hS hA hE rfl hl.1 rfl (Nat.le_of_ble_eq_true rfl) dX6_setLimits_10 ⟨Nat.le_of_ble_eq_true rfl, Nat.le_of_ble_eq_true rfl⟩ (fun H locs hP hD hS => ?_)
  refine lv_if_eq (tgt := 35) hx hb dX6_setLimits_13 (by decide) (fun hc => ?_) (fun hc => ?_)
  · have h := o_pos hc h
    refine lv_aload_n hx hb dX6_setLimits_35 rfl (lv_at hl 0 rfl) ?_
    refine lv_iconst (v := 1) hx hb dX6_setLimits_36 (by decide) ?_
    obtain ⟨⟨S4, v3⟩, ev3, h⟩ := o_bind h
    refine g_cVi (As := [.int 1]) (rest := []) ⟨hx, hb, hml, hown, hts⟩ (m_X6_no l hst D cy tx ad R _ S1 1 S4 v3 ev3) (cwV 1 hts gX6_setLimits_X6_no rfl rfl rfl (by decide +kernel) ⟨Nat.le_of_ble_eq_true rfl, Nat.le_of_ble_eq_true rfl⟩) (va_recv hK hP (ci := 6) (q0 := 0) rfl rfl) hP hK hD hS hA hE rfl hl.1 rfl (Nat.le_of_ble_eq_true rfl) dX6_setLimits_37 ⟨Nat.le_of_ble_eq_true rfl, Nat.le_of_ble_eq_true rfl⟩ (fun H locs hP hD hS => ?_)
    refine lv_if_le (tgt := 47) hx hb dX6_setLimits_40 (by decide) (fun hc => ?_) (fun hc => ?_)
    · have h := o_pos hc h
      refine lv_iconst (v := 0) hx hb dX6_setLimits_47 (by decide) ?_
      obtain ⟨eS, ev⟩ := Prod.mk.inj (Option.some.inj h)
      subst eS
      exact g_zret hQ hx hb hr rfl hP hK hD hS (Nat.le_of_ble_eq_true rfl) (Nat.le_of_ble_eq_true rfl) dX6_setLimits_48 hlocks ev
    · have h := o_neg hc h
      refine lv_iconst (v := 1) hx hb dX6_setLimits_43 (by decide) ?_
      refine lv_goto (tgt := 48) hx hb dX6_setLimits_44 (by decide) ?_
      obtain ⟨eS, ev⟩ := Prod.mk.inj (Option.some.inj h)
      subst eS
      exact g_zret hQ hx hb hr rfl hP hK hD hS (Nat.le_of_ble_eq_true rfl) (Nat.le_of_ble_eq_true rfl) dX6_setLimits_48 hlocks ev
  · have h := o_neg hc h
    refine lv_iload_n hx hb dX6_setLimits_16 rfl (lv_at hl 2 rfl) ?_
    refine lv_iconst (v := 0) hx hb dX6_setLimits_17 (by decide) ?_
    refine lv_bipush (v := 10) hx hb dX6_setLimits_18 (by decide) ?_
    obtain ⟨v5, ev5, h⟩ := o_bind h
    refine g_cSi (As := [.int x2, .int 0, .int 10]) (rest := []) ⟨hx, hb, hml, hown, hts⟩ (m_X6_isIn l hst D (gT cy ++ tx) (mW cy ad S1 R) _ x2 0 10 v5 ev5) (va_cwS 3 hts gX6_setLimits_X6_isIn rfl rfl rfl (by decide +kernel) ⟨Nat.le_of_ble_eq_true rfl, Nat.le_of_ble_eq_true rfl⟩) hP hK hD hS hA hE rfl hl.1 rfl (Nat.le_of_ble_eq_true rfl) dX6_setLimits_20 ⟨Nat.le_of_ble_eq_true rfl, Nat.le_of_ble_eq_true rfl⟩ (fun H locs hP hD hS => ?_)
    refine lv_if_eq (tgt := 35) hx hb dX6_setLimits_23 (by decide) (fun hc => ?_) (fun hc => ?_)
    · have h := o_pos hc h
      refine lv_aload_n hx hb dX6_setLimits_35 rfl (lv_at hl 0 rfl) ?_
      refine lv_iconst (v := 1) hx hb dX6_setLimits_36 (by decide) ?_
      obtain ⟨⟨S7, v6⟩, ev6, h⟩ := o_bind h
      refine g_cVi (As := [.int 1]) (rest := []) ⟨hx, hb, hml, hown, hts⟩ (m_X6_no l hst D cy tx ad R _ S1 1 S7 v6 ev6) (cwV 1 hts gX6_setLimits_X6_no rfl rfl rfl (by decide +kernel) ⟨Nat.le_of_ble_eq_true rfl, Nat.le_of_ble_eq_true rfl⟩) (va_recv hK hP (ci := 6) (q0 := 0) rfl rfl) hP hK hD hS hA hE rfl hl.1 rfl (Nat.le_of_ble_eq_true rfl) dX6_setLimits_37 ⟨Nat.le_of_ble_eq_true rfl, Nat.le_of_ble_eq_true rfl⟩ (fun H locs hP hD hS => ?_)
      refine lv_if_le (tgt := 47) hx hb dX6_setLimits_40 (by decide) (fun hc => ?_) (fun hc => ?_)
      · have h := o_pos hc h
        refine lv_iconst (v := 0) hx hb dX6_setLimits_47 (by decide) ?_
        obtain ⟨eS, ev⟩ := Prod.mk.inj (Option.some.inj h)
        subst eS
        exact g_zret hQ hx hb hr rfl hP hK hD hS (Nat.le_of_ble_eq_true rfl) (Nat.le_of_ble_eq_true rfl) dX6_setLimits_48 hlocks ev
      · have h := o_neg hc h
        refine lv_iconst (v := 1) hx hb dX6_setLimits_43 (by decide) ?_
        refine lv_goto (tgt := 48) hx hb dX6_setLimits_44 (by decide) ?_
        obtain ⟨eS, ev⟩ := Prod.mk.inj (Option.some.inj h)
        subst eS
        exact g_zret hQ hx hb hr rfl hP hK hD hS (Nat.le_of_ble_eq_true rfl) (Nat.le_of_ble_eq_true rfl) dX6_setLimits_48 hlocks ev
    · have h := o_neg hc h
      refine lv_iload_n hx hb dX6_setLimits_26 rfl (lv_at hl 3 rfl) ?_
      refine lv_iconst (v := 0) hx hb dX6_setLimits_27 (by decide) ?_
      refine lv_iconst (v := 5) hx hb dX6_setLimits_28 (by decide) ?_
      obtain ⟨v8, ev8, h⟩ := o_bind h
      refine g_cSi (As := [.int x3, .int 0, .int 5]) (rest := []) ⟨hx, hb, hml, hown, hts⟩ (m_X6_isIn l hst D (gT cy ++ tx) (mW cy ad S1 R) _ x3 0 5 v8 ev8) (va_cwS 3 hts gX6_setLimits_X6_isIn rfl rfl rfl (by decide +kernel) ⟨Nat.le_of_ble_eq_true rfl, Nat.le_of_ble_eq_true rfl⟩) hP hK hD hS hA hE rfl hl.1 rfl (Nat.le_of_ble_eq_true rfl) dX6_setLimits_29 ⟨Nat.le_of_ble_eq_true rfl, Nat.le_of_ble_eq_true rfl⟩ (fun H locs hP hD hS => ?_)
      refine lv_if_ne (tgt := 49) hx hb dX6_setLimits_32 (by decide) (fun hc => ?_) (fun hc => ?_)
      · have h := o_neg hc h
        refine lv_aload_n hx hb dX6_setLimits_49 rfl (lv_at hl 0 rfl) ?_
        refine mgX6_10 hx hb hts iX6 hown hK hP hf36 dX6_setLimits_50 ?_
        refine lv_iload_n hx hb dX6_setLimits_53 rfl (lv_at hl 1 rfl) ?_
        refine lv_icmp_ne (tgt := 73) hx hb dX6_setLimits_54 (by decide) (fun hc => ?_) (fun hc => ?_)
        · have h := o_neg hc h
          refine lv_iconst (v := 1) hx hb dX6_setLimits_73 (by decide) ?_
          refine lv_goto (tgt := 78) hx hb dX6_setLimits_74 (by decide) ?_
          refine lv_istore (lv' := [(4, .int 1), (0, .ref (ad 0)), (1, .int x1), (2, .int x2), (3, .int x3)]) hx hb dX6_setLimits_78 hl (by decide) rfl (fun ls hl => ?_)
          refine lv_aload_n hx hb dX6_setLimits_80 rfl (lv_at hl 1 rfl) ?_
          refine lv_iload_n hx hb dX6_setLimits_81 rfl (lv_at hl 2 rfl) ?_
          obtain ⟨S9, eS9, h⟩ := o_bind h
          refine mpX6_10 hx hb hts iX6 hown hK hP hD hS hf36 eS9 dX6_setLimits_82 (fun H locs hP hD hS => ?_)
          refine lv_aload_n hx hb dX6_setLimits_85 rfl (lv_at hl 1 rfl) ?_
          refine lv_iload_n hx hb dX6_setLimits_86 rfl (lv_at hl 3 rfl) ?_
          obtain ⟨S10, eS10, h⟩ := o_bind h
          refine mpX6_11 hx hb hts iX6 hown hK hP hD hS hf39 eS10 dX6_setLimits_87 (fun H locs hP hD hS => ?_)
          refine lv_aload_n hx hb dX6_setLimits_90 rfl (lv_at hl 1 rfl) ?_
          refine lv_iload_n hx hb dX6_setLimits_91 rfl (lv_at hl 4 rfl) ?_
          obtain ⟨S11, eS11, h⟩ := o_bind h
          refine mpX6_12 hx hb hts iX6 hown hK hP hD hS hf42 eS11 dX6_setLimits_92 (fun H locs hP hD hS => ?_)
          refine lv_aload_n hx hb dX6_setLimits_95 rfl (lv_at hl 1 rfl) ?_
          refine lv_iconst (v := 0) hx hb dX6_setLimits_96 (by decide) ?_
          obtain ⟨S12, eS12, h⟩ := o_bind h
          refine mpX6_13 hx hb hts iX6 hown hK hP hD hS hf98 (by decide) eS12 dX6_setLimits_97 (fun H locs hP hD hS => ?_)
          refine lv_iload hx hb dX6_setLimits_100 (lv_at hl 0 rfl) ?_
          obtain ⟨eS, ev⟩ := Prod.mk.inj (Option.some.inj h)
          subst eS
          exact g_zret hQ hx hb hr rfl hP hK hD hS (Nat.le_of_ble_eq_true rfl) (Nat.le_of_ble_eq_true rfl) dX6_setLimits_102 hlocks ev
        · have h := o_pos hc h
          refine lv_aload_n hx hb dX6_setLimits_57 rfl (lv_at hl 0 rfl) ?_
          refine mgX6_11 hx hb hts iX6 hown hK hP hf39 dX6_setLimits_58 ?_
          refine lv_iload_n hx hb dX6_setLimits_61 rfl (lv_at hl 2 rfl) ?_
          refine lv_icmp_ne (tgt := 73) hx hb dX6_setLimits_62 (by decide) (fun hc => ?_) (fun hc => ?_)
          · have h := o_neg hc h
            refine lv_iconst (v := 1) hx hb dX6_setLimits_73 (by decide) ?_
            refine lv_goto (tgt := 78) hx hb dX6_setLimits_74 (by decide) ?_
            refine lv_istore (lv' := [(4, .int 1), (0, .ref (ad 0)), (1, .int x1), (2, .int x2), (3, .int x3)]) hx hb dX6_setLimits_78 hl (by decide) rfl (fun ls hl => ?_)
            refine lv_aload_n hx hb dX6_setLimits_80 rfl (lv_at hl 1 rfl) ?_
            refine lv_iload_n hx hb dX6_setLimits_81 rfl (lv_at hl 2 rfl) ?_
            obtain ⟨S13, eS13, h⟩ := o_bind h
            refine mpX6_10 hx hb hts iX6 hown hK hP hD hS hf36 eS13 dX6_setLimits_82 (fun H locs hP hD hS => ?_)
            refine lv_aload_n hx hb dX6_setLimits_85 rfl (lv_at hl 1 rfl) ?_
            refine lv_iload_n hx hb dX6_setLimits_86 rfl (lv_at hl 3 rfl) ?_
            obtain ⟨S14, eS14, h⟩ := o_bind h
            refine mpX6_11 hx hb hts iX6 hown hK hP hD hS hf39 eS14 dX6_setLimits_87 (fun H locs hP hD hS => ?_)
            refine lv_aload_n hx hb dX6_setLimits_90 rfl (lv_at hl 1 rfl) ?_
            refine lv_iload_n hx hb dX6_setLimits_91 rfl (lv_at hl 4 rfl) ?_
            obtain ⟨S15, eS15, h⟩ := o_bind h
            refine mpX6_12 hx hb hts iX6 hown hK hP hD hS hf42 eS15 dX6_setLimits_92 (fun H locs hP hD hS => ?_)
            refine lv_aload_n hx hb dX6_setLimits_95 rfl (lv_at hl 1 rfl) ?_
            refine lv_iconst (v := 0) hx hb dX6_setLimits_96 (by decide) ?_
            obtain ⟨S16, eS16, h⟩ := o_bind h
            refine mpX6_13 hx hb hts iX6 hown hK hP hD hS hf98 (by decide) eS16 dX6_setLimits_97 (fun H locs hP hD hS => ?_)
            refine lv_iload hx hb dX6_setLimits_100 (lv_at hl 0 rfl) ?_
            obtain ⟨eS, ev⟩ := Prod.mk.inj (Option.some.inj h)
            subst eS
            exact g_zret hQ hx hb hr rfl hP hK hD hS (Nat.le_of_ble_eq_true rfl) (Nat.le_of_ble_eq_true rfl) dX6_setLimits_102 hlocks ev
          · have h := o_pos hc h
            refine lv_aload_n hx hb dX6_setLimits_65 rfl (lv_at hl 0 rfl) ?_
            refine mgX6_12 hx hb hts iX6 hown hK hP hf42 dX6_setLimits_66 ?_
            refine lv_iload_n hx hb dX6_setLimits_69 rfl (lv_at hl 3 rfl) ?_
            refine lv_icmp_eq (tgt := 77) hx hb dX6_setLimits_70 (by decide) (fun hc => ?_) (fun hc => ?_)
            · have h := o_pos hc h
              refine lv_iconst (v := 0) hx hb dX6_setLimits_77 (by decide) ?_
              refine lv_istore (lv' := [(4, .int 0), (0, .ref (ad 0)), (1, .int x1), (2, .int x2), (3, .int x3)]) hx hb dX6_setLimits_78 hl (by decide) rfl (fun ls hl => ?_)
              refine lv_aload_n hx hb dX6_setLimits_80 rfl (lv_at hl 1 rfl) ?_
              refine lv_iload_n hx hb dX6_setLimits_81 rfl (lv_at hl 2 rfl) ?_
              obtain ⟨S17, eS17, h⟩ := o_bind h
              refine mpX6_10 hx hb hts iX6 hown hK hP hD hS hf36 eS17 dX6_setLimits_82 (fun H locs hP hD hS => ?_)
              refine lv_aload_n hx hb dX6_setLimits_85 rfl (lv_at hl 1 rfl) ?_
              refine lv_iload_n hx hb dX6_setLimits_86 rfl (lv_at hl 3 rfl) ?_
              obtain ⟨S18, eS18, h⟩ := o_bind h
              refine mpX6_11 hx hb hts iX6 hown hK hP hD hS hf39 eS18 dX6_setLimits_87 (fun H locs hP hD hS => ?_)
              refine lv_aload_n hx hb dX6_setLimits_90 rfl (lv_at hl 1 rfl) ?_
              refine lv_iload_n hx hb dX6_setLimits_91 rfl (lv_at hl 4 rfl) ?_
              obtain ⟨S19, eS19, h⟩ := o_bind h
              refine mpX6_12 hx hb hts iX6 hown hK hP hD hS hf42 eS19 dX6_setLimits_92 (fun H locs hP hD hS => ?_)
              refine lv_aload_n hx hb dX6_setLimits_95 rfl (lv_at hl 1 rfl) ?_
              refine lv_iconst (v := 0) hx hb dX6_setLimits_96 (by decide) ?_
              obtain ⟨S20, eS20, h⟩ := o_bind h
              refine mpX6_13 hx hb hts iX6 hown hK hP hD hS hf98 (by decide) eS20 dX6_setLimits_97 (fun H locs hP hD hS => ?_)
              refine lv_iload hx hb dX6_setLimits_100 (lv_at hl 0 rfl) ?_
              obtain ⟨eS, ev⟩ := Prod.mk.inj (Option.some.inj h)
              subst eS
              exact g_zret hQ hx hb hr rfl hP hK hD hS (Nat.le_of_ble_eq_true rfl) (Nat.le_of_ble_eq_true rfl) dX6_setLimits_102 hlocks ev
            · have h := o_neg hc h
              refine lv_iconst (v := 1) hx hb dX6_setLimits_73 (by decide) ?_
              refine lv_goto (tgt := 78) hx hb dX6_setLimits_74 (by decide) ?_
              refine lv_istore (lv' := [(4, .int 1), (0, .ref (ad 0)), (1, .int x1), (2, .int x2), (3, .int x3)]) hx hb dX6_setLimits_78 hl (by decide) rfl (fun ls hl => ?_)
              refine lv_aload_n hx hb dX6_setLimits_80 rfl (lv_at hl 1 rfl) ?_
              refine lv_iload_n hx hb dX6_setLimits_81 rfl (lv_at hl 2 rfl) ?_
              obtain ⟨S21, eS21, h⟩ := o_bind h
              refine mpX6_10 hx hb hts iX6 hown hK hP hD hS hf36 eS21 dX6_setLimits_82 (fun H locs hP hD hS => ?_)
              refine lv_aload_n hx hb dX6_setLimits_85 rfl (lv_at hl 1 rfl) ?_
              refine lv_iload_n hx hb dX6_setLimits_86 rfl (lv_at hl 3 rfl) ?_
              obtain ⟨S22, eS22, h⟩ := o_bind h
              refine mpX6_11 hx hb hts iX6 hown hK hP hD hS hf39 eS22 dX6_setLimits_87 (fun H locs hP hD hS => ?_)
              refine lv_aload_n hx hb dX6_setLimits_90 rfl (lv_at hl 1 rfl) ?_
              refine lv_iload_n hx hb dX6_setLimits_91 rfl (lv_at hl 4 rfl) ?_
              obtain ⟨S23, eS23, h⟩ := o_bind h
              refine mpX6_12 hx hb hts iX6 hown hK hP hD hS hf42 eS23 dX6_setLimits_92 (fun H locs hP hD hS => ?_)
              refine lv_aload_n hx hb dX6_setLimits_95 rfl (lv_at hl 1 rfl) ?_
              refine lv_iconst (v := 0) hx hb dX6_setLimits_96 (by decide) ?_
              obtain ⟨S24, eS24, h⟩ := o_bind h
              refine mpX6_13 hx hb hts iX6 hown hK hP hD hS hf98 (by decide) eS24 dX6_setLimits_97 (fun H locs hP hD hS => ?_)
              refine lv_iload hx hb dX6_setLimits_100 (lv_at hl 0 rfl) ?_
              obtain ⟨eS, ev⟩ := Prod.mk.inj (Option.some.inj h)
              subst eS
              exact g_zret hQ hx hb hr rfl hP hK hD hS (Nat.le_of_ble_eq_true rfl) (Nat.le_of_ble_eq_true rfl) dX6_setLimits_102 hlocks ev
      · have h := o_pos hc h
        refine lv_aload_n hx hb dX6_setLimits_35 rfl (lv_at hl 0 rfl) ?_
        refine lv_iconst (v := 1) hx hb dX6_setLimits_36 (by decide) ?_
        obtain ⟨⟨S26, v25⟩, ev25, h⟩ := o_bind h
        refine g_cVi (As := [.int 1]) (rest := []) ⟨hx, hb, hml, hown, hts⟩ (m_X6_no l hst D cy tx ad R _ S1 1 S26 v25 ev25) (cwV 1 hts gX6_setLimits_X6_no rfl rfl rfl (by decide +kernel) ⟨Nat.le_of_ble_eq_true rfl, Nat.le_of_ble_eq_true rfl⟩) (va_recv hK hP (ci := 6) (q0 := 0) rfl rfl) hP hK hD hS hA hE rfl hl.1 rfl (Nat.le_of_ble_eq_true rfl) dX6_setLimits_37 ⟨Nat.le_of_ble_eq_true rfl, Nat.le_of_ble_eq_true rfl⟩ (fun H locs hP hD hS => ?_)
        refine lv_if_le (tgt := 47) hx hb dX6_setLimits_40 (by decide) (fun hc => ?_) (fun hc => ?_)
        · have h := o_pos hc h
          refine lv_iconst (v := 0) hx hb dX6_setLimits_47 (by decide) ?_
          obtain ⟨eS, ev⟩ := Prod.mk.inj (Option.some.inj h)
          subst eS
          exact g_zret hQ hx hb hr rfl hP hK hD hS (Nat.le_of_ble_eq_true rfl) (Nat.le_of_ble_eq_true rfl) dX6_setLimits_48 hlocks ev
        · have h := o_neg hc h
          refine lv_iconst (v := 1) hx hb dX6_setLimits_43 (by decide) ?_
          refine lv_goto (tgt := 48) hx hb dX6_setLimits_44 (by decide) ?_
          obtain ⟨eS, ev⟩ := Prod.mk.inj (Option.some.inj h)
          subst eS
          exact g_zret hQ hx hb hr rfl hP hK hD hS (Nat.le_of_ble_eq_true rfl) (Nat.le_of_ble_eq_true rfl) dX6_setLimits_48 hlocks ev
