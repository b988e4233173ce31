set_option maxHeartbeats 4000000 in
set_option maxRecDepth 100000 in
theorem m_X5_checkClass (l : Launch) (hst : l.stackTraces = false) (D : va_G) (cy : Nat → ClassId) (tx : List (ClassId × FieldType)) (ad : Nat → Nat) (R : va_W) (sz : Nat) (S : PS) (x1 : Int32) (o : Nat ⊕ Unit) (h : q_X5_checkClass S x1 = some o) : gYv l yX5_checkClass wsX5_checkClass ({ frames := 6, cells := 1, slots := 6, locals := 82 }) 1 6 D (gT cy ++ tx) [.ref (ad 0), .int x1] sz (xW cy ad S R) o := by
  refine vx_ofW (cc := cX5_checkClass) (maxL := 2) (ret := none) (by decide) rfl ?_
  intro p e s m args below meth c s₁ B hml hnt hv
  obtain ⟨hav, hsz, hP, hK, hD0, hE⟩ := hv
  have hx := B.exec
  have hb := B.bytes
  have hr := B.returns
  have hts := atoms_spec (ws := wsX5_checkClass) B.pre
  have hown : s.vm.findClass RX5 = some m.cls := findClass_of_methodNamed B.named
  have hlocks := B.notSynchronized
  subst hsz
  have hD := hD0.self (sz := s.heap.size)
  generalize hAe : va_A (xW cy ad S R) s.heap.size = A at hD hE ⊢
  have hA : ∀ q : Nat, s.heap.size ≤ q → A q := fun q h => by rw [← hAe]; exact Or.inr h
  have hS : va_S A s.heap s.heap [] := va_S.rf
  have iX0 : ∀ w ∈ u_ws RX0 TX0 4, w ∈ wsX5_checkClass := by decide +kernel
  have iX5 : ∀ w ∈ u_ws RX5 TX5 4, w ∈ wsX5_checkClass := by decide +kernel
  have hf12 := hts (.fieldLink RX5 12 "InlinePlanner" "hierarchy" "LInlinePlanner$Hierarchy;") (by decide +kernel)
  have hf45 := hts (.fieldLink RX5 45 "InlinePlanner$Hierarchy" "count" "I") (by decide +kernel)
  refine g_entry (n := 2) hav (Nat.le_of_ble_eq_true rfl) (fun ls hl => ?_)
  have hl : lv_has ls 2 [(0, .ref (ad 0)), (1, .int x1)] := hl
  refine g_nameQ (fun Q hQ => ?_)
  unfold q_X5_checkClass at h
  refine lv_iload_n hx hb dX5_checkClass_0 rfl (lv_at hl 1 rfl) ?_
  refine lv_if_lt (tgt := 15) hx hb dX5_checkClass_1 (by decide) (fun hc => ?_) (fun hc => ?_)
  · have h := o_pos hc h
    exact g_throw (k := 1) (ik := 185) (is := 213) (ic := 189) (text := "there is no such class") hQ hx hb hst hnt hlocks (by rw [hml]; exact hl.1.symm) hown hts hE (by decide +kernel) (by decide +kernel) (by decide +kernel) (by decide +kernel) (fun _ h => List.mem_cons_of_mem _ (List.mem_append_right _ h)) (by decide +kernel) (by decide +kernel) (Option.some.inj h) hP hK hD hS dX5_checkClass_15 dX5_checkClass_18 dX5_checkClass_19 dX5_checkClass_21 dX5_checkClass_24 (Nat.le_of_ble_eq_true rfl) (Nat.le_of_ble_eq_true rfl) (Nat.le_of_ble_eq_true rfl) (Nat.le_of_ble_eq_true rfl) (Nat.le_of_ble_eq_true rfl) (Nat.le_of_ble_eq_true rfl)
  · have h := o_neg hc h
    refine lv_iload_n hx hb dX5_checkClass_4 rfl (lv_at hl 1 rfl) ?_
    refine lv_aload_n hx hb dX5_checkClass_5 rfl (lv_at hl 0 rfl) ?_
    refine xgX5_0 hx hb hts iX5 hown hK hP hf12 dX5_checkClass_6 ?_
    refine xgX0_0 hx hb hts iX0 hown hK hP hf45 dX5_checkClass_9 ?_
    refine lv_icmp_lt (tgt := 25) hx hb dX5_checkClass_12 (by decide) (fun hc => ?_) (fun hc => ?_)
    · have h := o_pos hc h
      exact g_vretY hQ hx hb hr hP hK hD hS (Nat.le_of_ble_eq_true rfl) (Nat.le_of_ble_eq_true rfl) dX5_checkClass_25 hlocks (Option.some.inj h)
    · have h := o_neg hc h
      exact g_throw (k := 1) (ik := 185) (is := 213) (ic := 189) (text := "there is no such class") hQ hx hb hst hnt hlocks (by rw [hml]; exact hl.1.symm) hown hts hE (by decide +kernel) (by decide +kernel) (by decide +kernel) (by decide +kernel) (fun _ h => List.mem_cons_of_mem _ (List.mem_append_right _ h)) (by decide +kernel) (by decide +kernel) (Option.some.inj h) hP hK hD hS dX5_checkClass_15 dX5_checkClass_18 dX5_checkClass_19 dX5_checkClass_21 dX5_checkClass_24 (Nat.le_of_ble_eq_true rfl) (Nat.le_of_ble_eq_true rfl) (Nat.le_of_ble_eq_true rfl) (Nat.le_of_ble_eq_true rfl) (Nat.le_of_ble_eq_true rfl) (Nat.le_of_ble_eq_true rfl)
set_option maxHeartbeats 4000000 in
set_option maxRecDepth 100000 in
theorem m_X5_checkSelector (l : Launch) (hst : l.stackTraces = false) (D : va_G) (cy : Nat → ClassId) (tx : List (ClassId × FieldType)) (ad : Nat → Nat) (R : va_W) (sz : Nat) (S : PS) (x1 : Int32) (o : Nat ⊕ Unit) (h : q_X5_checkSelector S x1 = some o) : gYv l yX5_checkSelector wsX5_checkSelector ({ frames := 6, cells := 1, slots := 6, locals := 82 }) 1 6 D (gT cy ++ tx) [.ref (ad 0), .int x1] sz (xW cy ad S R) o := by
  refine vx_ofW (cc := cX5_checkSelector) (maxL := 2) (ret := none) (by decide) rfl ?_
  intro p e s m args below meth c s₁ B hml hnt hv
  obtain ⟨hav, hsz, hP, hK, hD0, hE⟩ := hv
  have hx := B.exec
  have hb := B.bytes
  have hr := B.returns
  have hts := atoms_spec (ws := wsX5_checkSelector) B.pre
  have hown : s.vm.findClass RX5 = some m.cls := findClass_of_methodNamed B.named
  have hlocks := B.notSynchronized
  subst hsz
  have hD := hD0.self (sz := s.heap.size)
  generalize hAe : va_A (xW cy ad S R) s.heap.size = A at hD hE ⊢
  have hA : ∀ q : Nat, s.heap.size ≤ q → A q := fun q h => by rw [← hAe]; exact Or.inr h
  have hS : va_S A s.heap s.heap [] := va_S.rf
  refine g_entry (n := 2) hav (Nat.le_of_ble_eq_true rfl) (fun ls hl => ?_)
  have hl : lv_has ls 2 [(0, .ref (ad 0)), (1, .int x1)] := hl
  refine g_nameQ (fun Q hQ => ?_)
  unfold q_X5_checkSelector at h
  refine lv_iload_n hx hb dX5_checkSelector_0 rfl (lv_at hl 1 rfl) ?_
  refine lv_if_lt (tgt := 10) hx hb dX5_checkSelector_1 (by decide) (fun hc => ?_) (fun hc => ?_)
  · have h := o_pos hc h
    exact g_throw (k := 1) (ik := 185) (is := 215) (ic := 189) (text := "there is no such selector") hQ hx hb hst hnt hlocks (by rw [hml]; exact hl.1.symm) hown hts hE (by decide +kernel) (by decide +kernel) (by decide +kernel) (by decide +kernel) (fun _ h => List.mem_cons_of_mem _ (List.mem_append_right _ h)) (by decide +kernel) (by decide +kernel) (Option.some.inj h) hP hK hD hS dX5_checkSelector_10 dX5_checkSelector_13 dX5_checkSelector_14 dX5_checkSelector_16 dX5_checkSelector_19 (Nat.le_of_ble_eq_true rfl) (Nat.le_of_ble_eq_true rfl) (Nat.le_of_ble_eq_true rfl) (Nat.le_of_ble_eq_true rfl) (Nat.le_of_ble_eq_true rfl) (Nat.le_of_ble_eq_true rfl)
  · have h := o_neg hc h
    refine lv_iload_n hx hb dX5_checkSelector_4 rfl (lv_at hl 1 rfl) ?_
    refine lv_bipush (v := 8) hx hb dX5_checkSelector_5 (by decide) ?_
    refine lv_icmp_lt (tgt := 20) hx hb dX5_checkSelector_7 (by decide) (fun hc => ?_) (fun hc => ?_)
    · have h := o_pos hc h
      exact g_vretY hQ hx hb hr hP hK hD hS (Nat.le_of_ble_eq_true rfl) (Nat.le_of_ble_eq_true rfl) dX5_checkSelector_20 hlocks (Option.some.inj h)
    · have h := o_neg hc h
      exact g_throw (k := 1) (ik := 185) (is := 215) (ic := 189) (text := "there is no such selector") hQ hx hb hst hnt hlocks (by rw [hml]; exact hl.1.symm) hown hts hE (by decide +kernel) (by decide +kernel) (by decide +kernel) (by decide +kernel) (fun _ h => List.mem_cons_of_mem _ (List.mem_append_right _ h)) (by decide +kernel) (by decide +kernel) (Option.some.inj h) hP hK hD hS dX5_checkSelector_10 dX5_checkSelector_13 dX5_checkSelector_14 dX5_checkSelector_16 dX5_checkSelector_19 (Nat.le_of_ble_eq_true rfl) (Nat.le_of_ble_eq_true rfl) (Nat.le_of_ble_eq_true rfl) (Nat.le_of_ble_eq_true rfl) (Nat.le_of_ble_eq_true rfl) (Nat.le_of_ble_eq_true rfl)
set_option maxHeartbeats 4000000 in
set_option maxRecDepth 100000 in
theorem m_X5_checkMethod (l : Launch) (hst : l.stackTraces = false) (D : va_G) (cy : Nat → ClassId) (tx : List (ClassId × FieldType)) (ad : Nat → Nat) (R : va_W) (sz : Nat) (S : PS) (x1 : Int32) (o : Nat ⊕ Unit) (h : q_X5_checkMethod S x1 = some o) : gYv l yX5_checkMethod wsX5_checkMethod ({ frames := 6, cells := 1, slots := 6, locals := 82 }) 1 6 D (gT cy ++ tx) [.ref (ad 0), .int x1] sz (xW cy ad S R) o := by
  refine vx_ofW (cc := cX5_checkMethod) (maxL := 2) (ret := none) (by decide) rfl ?_
  intro p e s m args below meth c s₁ B hml hnt hv
  obtain ⟨hav, hsz, hP, hK, hD0, hE⟩ := hv
  have hx := B.exec
  have hb := B.bytes
  have hr := B.returns
  have hts := atoms_spec (ws := wsX5_checkMethod) B.pre
  have hown : s.vm.findClass RX5 = some m.cls := findClass_of_methodNamed B.named
  have hlocks := B.notSynchronized
  subst hsz
  have hD := hD0.self (sz := s.heap.size)
  generalize hAe : va_A (xW cy ad S R) s.heap.size = A at hD hE ⊢
  have hA : ∀ q : Nat, s.heap.size ≤ q → A q := fun q h => by rw [← hAe]; exact Or.inr h
  have hS : va_S A s.heap s.heap [] := va_S.rf
  have iX2 : ∀ w ∈ u_ws RX2 TX2 8, w ∈ wsX5_checkMethod := by decide +kernel
  have iX5 : ∀ w ∈ u_ws RX5 TX5 4, w ∈ wsX5_checkMethod := by decide +kernel
  have hf21 := hts (.fieldLink RX5 21 "InlinePlanner" "program" "LInlinePlanner$Program;") (by decide +kernel)
  have hf85 := hts (.fieldLink RX5 85 "InlinePlanner$Program" "count" "I") (by decide +kernel)
  refine g_entry (n := 2) hav (Nat.le_of_ble_eq_true rfl) (fun ls hl => ?_)
  have hl : lv_has ls 2 [(0, .ref (ad 0)), (1, .int x1)] := hl
  refine g_nameQ (fun Q hQ => ?_)
  unfold q_X5_checkMethod at h
  refine lv_iload_n hx hb dX5_checkMethod_0 rfl (lv_at hl 1 rfl) ?_
  refine lv_if_lt (tgt := 15) hx hb dX5_checkMethod_1 (by decide) (fun hc => ?_) (fun hc => ?_)
  · have h := o_pos hc h
    exact g_throw (k := 1) (ik := 185) (is := 217) (ic := 189) (text := "there is no such method") hQ hx hb hst hnt hlocks (by rw [hml]; exact hl.1.symm) hown hts hE (by decide +kernel) (by decide +kernel) (by decide +kernel) (by decide +kernel) (fun _ h => List.mem_cons_of_mem _ (List.mem_append_right _ h)) (by decide +kernel) (by decide +kernel) (Option.some.inj h) hP hK hD hS dX5_checkMethod_15 dX5_checkMethod_18 dX5_checkMethod_19 dX5_checkMethod_21 dX5_checkMethod_24 (Nat.le_of_ble_eq_true rfl) (Nat.le_of_ble_eq_true rfl) (Nat.le_of_ble_eq_true rfl) (Nat.le_of_ble_eq_true rfl) (Nat.le_of_ble_eq_true rfl) (Nat.le_of_ble_eq_true rfl)
  · have h := o_neg hc h
    refine lv_iload_n hx hb dX5_checkMethod_4 rfl (lv_at hl 1 rfl) ?_
    refine lv_aload_n hx hb dX5_checkMethod_5 rfl (lv_at hl 0 rfl) ?_
    refine xgX5_1 hx hb hts iX5 hown hK hP hf21 dX5_checkMethod_6 ?_
    refine xgX2_0 hx hb hts iX2 hown hK hP hf85 dX5_checkMethod_9 ?_
    refine lv_icmp_lt (tgt := 25) hx hb dX5_checkMethod_12 (by decide) (fun hc => ?_) (fun hc => ?_)
    · have h := o_pos hc h
      exact g_vretY hQ hx hb hr hP hK hD hS (Nat.le_of_ble_eq_true rfl) (Nat.le_of_ble_eq_true rfl) dX5_checkMethod_25 hlocks (Option.some.inj h)
    · have h := o_neg hc h
      exact g_throw (k := 1) (ik := 185) (is := 217) (ic := 189) (text := "there is no such method") hQ hx hb hst hnt hlocks (by rw [hml]; exact hl.1.symm) hown hts hE (by decide +kernel) (by decide +kernel) (by decide +kernel) (by decide +kernel) (fun _ h => List.mem_cons_of_mem _ (List.mem_append_right _ h)) (by decide +kernel) (by decide +kernel) (Option.some.inj h) hP hK hD hS dX5_checkMethod_15 dX5_checkMethod_18 dX5_checkMethod_19 dX5_checkMethod_21 dX5_checkMethod_24 (Nat.le_of_ble_eq_true rfl) (Nat.le_of_ble_eq_true rfl) (Nat.le_of_ble_eq_true rfl) (Nat.le_of_ble_eq_true rfl) (Nat.le_of_ble_eq_true rfl) (Nat.le_of_ble_eq_true rfl)
set_option maxHeartbeats 4000000 in
set_option maxRecDepth 100000 in
theorem m_X5_checkPlan (l : Launch) (hst : l.stackTraces = false) (D : va_G) (cy : Nat → ClassId) (tx : List (ClassId × FieldType)) (ad : Nat → Nat) (R : va_W) (sz : Nat) (S : PS)  (o : Nat ⊕ Unit) (h : q_X5_checkPlan S = some o) : gYv l yX5_checkPlan wsX5_checkPlan ({ frames := 6, cells := 1, slots := 6, locals := 82 }) 1 6 D (gT cy ++ tx) [.ref (ad 0)] sz (xW cy ad S R) o := by
  refine vx_ofW (cc := cX5_checkPlan) (maxL := 1) (ret := none) (by decide) rfl ?_
  intro p e s m args below meth c s₁ B hml hnt hv
  obtain ⟨hav, hsz, hP, hK, hD0, hE⟩ := hv
  have hx := B.exec
  have hb := B.bytes
  have hr := B.returns
  have hts := atoms_spec (ws := wsX5_checkPlan) B.pre
  have hown : s.vm.findClass RX5 = some m.cls := findClass_of_methodNamed B.named
  have hlocks := B.notSynchronized
  subst hsz
  have hD := hD0.self (sz := s.heap.size)
  generalize hAe : va_A (xW cy ad S R) s.heap.size = A at hD hE ⊢
  have hA : ∀ q : Nat, s.heap.size ≤ q → A q := fun q h => by rw [← hAe]; exact Or.inr h
  have hS : va_S A s.heap s.heap [] := va_S.rf
  have iX5 : ∀ w ∈ u_ws RX5 TX5 4, w ∈ wsX5_checkPlan := by decide +kernel
  have hf37 := hts (.fieldLink RX5 37 "InlinePlanner" "tree" "LInlinePlanner$Tree;") (by decide +kernel)
  refine g_entry (n := 1) hav (Nat.le_of_ble_eq_true rfl) (fun ls hl => ?_)
  have hl : lv_has ls 1 [(0, .ref (ad 0))] := hl
  refine g_nameQ (fun Q hQ => ?_)
  unfold q_X5_checkPlan at h
  refine lv_aload_n hx hb dX5_checkPlan_0 rfl (lv_at hl 0 rfl) ?_
  refine xgX5_3 hx hb hts iX5 hown hK hP hf37 dX5_checkPlan_1 ?_
  obtain ⟨v1, ev1, h⟩ := o_bind h
  refine g_cVi (As := []) (rest := []) ⟨hx, hb, hml, hown, hts⟩ (m_X3_exists l hst D cy tx ad R _ S  v1 ev1) (cwV 0 hts gX5_checkPlan_X3_exists rfl rfl rfl (by decide +kernel) ⟨Nat.le_of_ble_eq_true rfl, Nat.le_of_ble_eq_true rfl⟩) (va_recv hK hP (ci := 3) (q0 := 4) rfl rfl) hP hK hD hS hA hE rfl hl.1 rfl (Nat.le_of_ble_eq_true rfl) dX5_checkPlan_4 ⟨Nat.le_of_ble_eq_true rfl, Nat.le_of_ble_eq_true rfl⟩ (fun H locs hP hD hS => ?_)
  refine lv_if_ne (tgt := 20) hx hb dX5_checkPlan_7 (by decide) (fun hc => ?_) (fun hc => ?_)
  · have h := o_neg hc h
    exact g_vretY hQ hx hb hr hP hK hD hS (Nat.le_of_ble_eq_true rfl) (Nat.le_of_ble_eq_true rfl) dX5_checkPlan_20 hlocks (Option.some.inj h)
  · have h := o_pos hc h
    exact g_throw (k := 2) (ik := 49) (is := 219) (ic := 53) (text := "there is no plan") hQ hx hb hst hnt hlocks (by rw [hml]; exact hl.1.symm) hown hts hE (by decide +kernel) (by decide +kernel) (by decide +kernel) (by decide +kernel) (fun _ h => List.mem_cons_of_mem _ (List.mem_append_right _ h)) (by decide +kernel) (by decide +kernel) (Option.some.inj h) hP hK hD hS dX5_checkPlan_10 dX5_checkPlan_13 dX5_checkPlan_14 dX5_checkPlan_16 dX5_checkPlan_19 (Nat.le_of_ble_eq_true rfl) (Nat.le_of_ble_eq_true rfl) (Nat.le_of_ble_eq_true rfl) (Nat.le_of_ble_eq_true rfl) (Nat.le_of_ble_eq_true rfl) (Nat.le_of_ble_eq_true rfl)
set_option maxHeartbeats 4000000 in
set_option maxRecDepth 100000 in
theorem m_X5_checkNode (l : Launch) (hst : l.stackTraces = false) (D : va_G) (cy : Nat → ClassId) (tx : List (ClassId × FieldType)) (ad : Nat → Nat) (R : va_W) (sz : Nat) (S : PS) (x1 : Int32) (o : Nat ⊕ Unit) (h : q_X5_checkNode S x1 = some o) : gYv l yX5_checkNode wsX5_checkNode ({ frames := 7, cells := 2, slots := 12, locals := 102 }) 2 12 D (gT cy ++ tx) [.ref (ad 0), .int x1] sz (xW cy ad S R) o := by
  refine vx_ofW (cc := cX5_checkNode) (maxL := 2) (ret := none) (by decide) rfl ?_
  intro p e s m args below meth c s₁ B hml hnt hv
  obtain ⟨hav, hsz, hP, hK, hD0, hE⟩ := hv
  have hx := B.exec
  have hb := B.bytes
  have hr := B.returns
  have hts := atoms_spec (ws := wsX5_checkNode) B.pre
  have hown : s.vm.findClass RX5 = some m.cls := findClass_of_methodNamed B.named
  have hlocks := B.notSynchronized
  subst hsz
  have hD := hD0.self (sz := s.heap.size)
  generalize hAe : va_A (xW cy ad S R) s.heap.size = A at hD hE ⊢
  have hA : ∀ q : Nat, s.heap.size ≤ q → A q := fun q h => by rw [← hAe]; exact Or.inr h
  have hS : va_S A s.heap s.heap [] := va_S.rf
  have iX3 : ∀ w ∈ u_ws RX3 TX3 13, w ∈ wsX5_checkNode := by decide +kernel
  have iX5 : ∀ w ∈ u_ws RX5 TX5 4, w ∈ wsX5_checkNode := by decide +kernel
  have hf37 := hts (.fieldLink RX5 37 "InlinePlanner" "tree" "LInlinePlanner$Tree;") (by decide +kernel)
  have hf145 := hts (.fieldLink RX5 145 "InlinePlanner$Tree" "count" "I") (by decide +kernel)
  refine g_entry (n := 2) hav (Nat.le_of_ble_eq_true rfl) (fun ls hl => ?_)
  have hl : lv_has ls 2 [(0, .ref (ad 0)), (1, .int x1)] := hl
  refine g_nameQ (fun Q hQ => ?_)
  unfold q_X5_checkNode at h
  refine lv_aload_n hx hb dX5_checkNode_0 rfl (lv_at hl 0 rfl) ?_
  rcases x_bind h with ⟨k2, ek2, h⟩ | ⟨v1, ek2, h⟩
  · refine g_tYv (As := []) (rest := []) ⟨hx, hb, hml, hown, hts⟩ (m_X5_checkPlan l hst D cy tx ad R _ S  (.inl k2) ek2) (cwV 0 hts gX5_checkNode_X5_checkPlan rfl rfl rfl (by decide +kernel) ⟨Nat.le_of_ble_eq_true rfl, Nat.le_of_ble_eq_true rfl⟩) (va_recv hK hP (ci := 5) (q0 := 0) rfl rfl) hP hK hD hS hA hE rfl hl.1 rfl (Nat.le_of_ble_eq_true rfl) dX5_checkNode_1 ⟨Nat.le_of_ble_eq_true rfl, Nat.le_of_ble_eq_true rfl⟩ (fun ce q9 H locs hP hD hS hce hcv hcl => ?_)
    exact g_xout hQ hnt hlocks h hP hK hD hS hce hcv hcl (Nat.le_of_ble_eq_true rfl) (Nat.le_of_ble_eq_true rfl)
  · refine g_rYv (As := []) (rest := []) ⟨hx, hb, hml, hown, hts⟩ (m_X5_checkPlan l hst D cy tx ad R _ S  (.inr v1) ek2) (cwV 0 hts gX5_checkNode_X5_checkPlan rfl rfl rfl (by decide +kernel) ⟨Nat.le_of_ble_eq_true rfl, Nat.le_of_ble_eq_true rfl⟩) (va_recv hK hP (ci := 5) (q0 := 0) rfl rfl) hP hK hD hS hA hE rfl hl.1 rfl (Nat.le_of_ble_eq_true rfl) dX5_checkNode_1 ⟨Nat.le_of_ble_eq_true rfl, Nat.le_of_ble_eq_true rfl⟩ (fun H locs hP hD hS => ?_)
    refine W.widen (k := 1) (n := 6) (Nat.le_of_ble_eq_true rfl) (Nat.le_of_ble_eq_true rfl) ?_
    refine lv_iload_n hx hb dX5_checkNode_4 rfl (lv_at hl 1 rfl) ?_
    refine lv_if_lt (tgt := 19) hx hb dX5_checkNode_5 (by decide) (fun hc => ?_) (fun hc => ?_)
    · have h := o_pos hc h
      exact g_throw (k := 1) (ik := 185) (is := 221) (ic := 189) (text := "there is no such node") hQ hx hb hst hnt hlocks (by rw [hml]; exact hl.1.symm) hown hts hE (by decide +kernel) (by decide +kernel) (by decide +kernel) (by decide +kernel) (fun _ h => List.mem_cons_of_mem _ (List.mem_append_left _ (List.mem_append_right _ h))) (by decide +kernel) (by decide +kernel) (Option.some.inj h) hP hK hD hS dX5_checkNode_19 dX5_checkNode_22 dX5_checkNode_23 dX5_checkNode_25 dX5_checkNode_28 (Nat.le_of_ble_eq_true rfl) (Nat.le_of_ble_eq_true rfl) (Nat.le_of_ble_eq_true rfl) (Nat.le_of_ble_eq_true rfl) (Nat.le_of_ble_eq_true rfl) (Nat.le_of_ble_eq_true rfl)
    · have h := o_neg hc h
      refine lv_iload_n hx hb dX5_checkNode_8 rfl (lv_at hl 1 rfl) ?_
      refine lv_aload_n hx hb dX5_checkNode_9 rfl (lv_at hl 0 rfl) ?_
      refine xgX5_3 hx hb hts iX5 hown hK hP hf37 dX5_checkNode_10 ?_
      refine xgX3_0 hx hb hts iX3 hown hK hP hf145 dX5_checkNode_13 ?_
      refine lv_icmp_lt (tgt := 29) hx hb dX5_checkNode_16 (by decide) (fun hc => ?_) (fun hc => ?_)
      · have h := o_pos hc h
        exact g_vretY hQ hx hb hr hP hK hD hS (Nat.le_of_ble_eq_true rfl) (Nat.le_of_ble_eq_true rfl) dX5_checkNode_29 hlocks (Option.some.inj h)
      · have h := o_neg hc h
        exact g_throw (k := 1) (ik := 185) (is := 221) (ic := 189) (text := "there is no such node") hQ hx hb hst hnt hlocks (by rw [hml]; exact hl.1.symm) hown hts hE (by decide +kernel) (by decide +kernel) (by decide +kernel) (by decide +kernel) (fun _ h => List.mem_cons_of_mem _ (List.mem_append_left _ (List.mem_append_right _ h))) (by decide +kernel) (by decide +kernel) (Option.some.inj h) hP hK hD hS dX5_checkNode_19 dX5_checkNode_22 dX5_checkNode_23 dX5_checkNode_25 dX5_checkNode_28 (Nat.le_of_ble_eq_true rfl) (Nat.le_of_ble_eq_true rfl) (Nat.le_of_ble_eq_true rfl) (Nat.le_of_ble_eq_true rfl) (Nat.le_of_ble_eq_true rfl) (Nat.le_of_ble_eq_true rfl)
set_option maxHeartbeats 4000000 in
set_option maxRecDepth 100000 in
theorem m_X5_checkSite (l : Launch) (hst : l.stackTraces = false) (D : va_G) (cy : Nat → ClassId) (tx : List (ClassId × FieldType)) (ad : Nat → Nat) (R : va_W) (sz : Nat) (S : PS) (x1 : Int32) (x2 : Int32) (o : Nat ⊕ Unit) (h : q_X5_checkSite S x1 x2 = some o) : gYv l yX5_checkSite wsX5_checkSite ({ frames := 8, cells := 3, slots := 18, locals := 123 }) 3 18 D (gT cy ++ tx) [.ref (ad 0), .int x1, .int x2] sz (xW cy ad S R) o := by
  refine vx_ofW (cc := cX5_checkSite) (maxL := 3) (ret := none) (by decide) rfl ?_
  intro p e s m args below meth c s₁ B hml hnt hv
  obtain ⟨hav, hsz, hP, hK, hD0, hE⟩ := hv
  have hx := B.exec
  have hb := B.bytes
  have hr := B.returns
  have hts := atoms_spec (ws := wsX5_checkSite) B.pre
  have hown : s.vm.findClass RX5 = some m.cls := findClass_of_methodNamed B.named
  have hlocks := B.notSynchronized
  subst hsz
  have hD := hD0.self (sz := s.heap.size)
  generalize hAe : va_A (xW cy ad S R) s.heap.size = A at hD hE ⊢
  have hA : ∀ q : Nat, s.heap.size ≤ q → A q := fun q h => by rw [← hAe]; exact Or.inr h
  have hS : va_S A s.heap s.heap [] := va_S.rf
  have iX5 : ∀ w ∈ u_ws RX5 TX5 4, w ∈ wsX5_checkSite := by decide +kernel
  have hf37 := hts (.fieldLink RX5 37 "InlinePlanner" "tree" "LInlinePlanner$Tree;") (by decide +kernel)
  refine g_entry (n := 3) hav (Nat.le_of_ble_eq_true rfl) (fun ls hl => ?_)
  have hl : lv_has ls 3 [(0, .ref (ad 0)), (1, .int x1), (2, .int x2)] := hl
  refine g_nameQ (fun Q hQ => ?_)
  unfold q_X5_checkSite at h
  refine lv_aload_n hx hb dX5_checkSite_0 rfl (lv_at hl 0 rfl) ?_
  refine lv_iload_n hx hb dX5_checkSite_1 rfl (lv_at hl 1 rfl) ?_
  rcases x_bind h with ⟨k2, ek2, h⟩ | ⟨v1, ek2, h⟩
  · refine g_tYv (As := [.int x1]) (rest := []) ⟨hx, hb, hml, hown, hts⟩ (m_X5_checkNode l hst D cy tx ad R _ S x1 (.inl k2) ek2) (cwV 1 hts gX5_checkSite_X5_checkNode rfl rfl rfl (by decide +kernel) ⟨Nat.le_of_ble_eq_true rfl, Nat.le_of_ble_eq_true rfl⟩) (va_recv hK hP (ci := 5) (q0 := 0) rfl rfl) hP hK hD hS hA hE rfl hl.1 rfl (Nat.le_of_ble_eq_true rfl) dX5_checkSite_2 ⟨Nat.le_of_ble_eq_true rfl, Nat.le_of_ble_eq_true rfl⟩ (fun ce q9 H locs hP hD hS hce hcv hcl => ?_)
    exact g_xout hQ hnt hlocks h hP hK hD hS hce hcv hcl (Nat.le_of_ble_eq_true rfl) (Nat.le_of_ble_eq_true rfl)
  · refine g_rYv (As := [.int x1]) (rest := []) ⟨hx, hb, hml, hown, hts⟩ (m_X5_checkNode l hst D cy tx ad R _ S x1 (.inr v1) ek2) (cwV 1 hts gX5_checkSite_X5_checkNode rfl rfl rfl (by decide +kernel) ⟨Nat.le_of_ble_eq_true rfl, Nat.le_of_ble_eq_true rfl⟩) (va_recv hK hP (ci := 5) (q0 := 0) rfl rfl) hP hK hD hS hA hE rfl hl.1 rfl (Nat.le_of_ble_eq_true rfl) dX5_checkSite_2 ⟨Nat.le_of_ble_eq_true rfl, Nat.le_of_ble_eq_true rfl⟩ (fun H locs hP hD hS => ?_)
    refine W.widen (k := 2) (n := 12) (Nat.le_of_ble_eq_true rfl) (Nat.le_of_ble_eq_true rfl) ?_
    refine lv_iload_n hx hb dX5_checkSite_5 rfl (lv_at hl 2 rfl) ?_
    refine lv_if_lt (tgt := 21) hx hb dX5_checkSite_6 (by decide) (fun hc => ?_) (fun hc => ?_)
    · have h := o_pos hc h
      exact g_throw (k := 1) (ik := 185) (is := 223) (ic := 189) (text := "there is no such site") hQ hx hb hst hnt hlocks (by rw [hml]; exact hl.1.symm) hown hts hE (by decide +kernel) (by decide +kernel) (by decide +kernel) (by decide +kernel) (fun _ h => List.mem_cons_of_mem _ (List.mem_append_left _ (List.mem_append_right _ h))) (by decide +kernel) (by decide +kernel) (Option.some.inj h) hP hK hD hS dX5_checkSite_21 dX5_checkSite_24 dX5_checkSite_25 dX5_checkSite_27 dX5_checkSite_30 (Nat.le_of_ble_eq_true rfl) (Nat.le_of_ble_eq_true rfl) (Nat.le_of_ble_eq_true rfl) (Nat.le_of_ble_eq_true rfl) (Nat.le_of_ble_eq_true rfl) (Nat.le_of_ble_eq_true rfl)
    · have h := o_neg hc h
      refine lv_iload_n hx hb dX5_checkSite_9 rfl (lv_at hl 2 rfl) ?_
      refine lv_aload_n hx hb dX5_checkSite_10 rfl (lv_at hl 0 rfl) ?_
      refine xgX5_3 hx hb hts iX5 hown hK hP hf37 dX5_checkSite_11 ?_
      refine lv_iload_n hx hb dX5_checkSite_14 rfl (lv_at hl 1 rfl) ?_
      obtain ⟨v3, ev3, h⟩ := o_bind h
      refine g_cVi (As := [.int x1]) (rest := [.int x2]) ⟨hx, hb, hml, hown, hts⟩ (m_X3_sitesAt l hst D cy tx ad R _ S x1 v3 ev3) (cwV 1 hts gX5_checkSite_X3_sitesAt rfl rfl rfl (by decide +kernel) ⟨Nat.le_of_ble_eq_true rfl, Nat.le_of_ble_eq_true rfl⟩) (va_recv hK hP (ci := 3) (q0 := 4) rfl rfl) hP hK hD hS hA hE rfl hl.1 rfl (Nat.le_of_ble_eq_true rfl) dX5_checkSite_15 ⟨Nat.le_of_ble_eq_true rfl, Nat.le_of_ble_eq_true rfl⟩ (fun H locs hP hD hS => ?_)
      refine lv_icmp_lt (tgt := 31) hx hb dX5_checkSite_18 (by decide) (fun hc => ?_) (fun hc => ?_)
      · have h := o_pos hc h
        exact g_vretY hQ hx hb hr hP hK hD hS (Nat.le_of_ble_eq_true rfl) (Nat.le_of_ble_eq_true rfl) dX5_checkSite_31 hlocks (Option.some.inj h)
      · have h := o_neg hc h
        exact g_throw (k := 1) (ik := 185) (is := 223) (ic := 189) (text := "there is no such site") hQ hx hb hst hnt hlocks (by rw [hml]; exact hl.1.symm) hown hts hE (by decide +kernel) (by decide +kernel) (by decide +kernel) (by decide +kernel) (fun _ h => List.mem_cons_of_mem _ (List.mem_append_left _ (List.mem_append_right _ h))) (by decide +kernel) (by decide +kernel) (Option.some.inj h) hP hK hD hS dX5_checkSite_21 dX5_checkSite_24 dX5_checkSite_25 dX5_checkSite_27 dX5_checkSite_30 (Nat.le_of_ble_eq_true rfl) (Nat.le_of_ble_eq_true rfl) (Nat.le_of_ble_eq_true rfl) (Nat.le_of_ble_eq_true rfl) (Nat.le_of_ble_eq_true rfl) (Nat.le_of_ble_eq_true rfl)
set_option maxHeartbeats 4000000 in
set_option maxRecDepth 100000 in
theorem m_X5_addClass (l : Launch) (hst : l.stackTraces = false) (D : va_G) (cy : Nat → ClassId) (tx : List (ClassId × FieldType)) (ad : Nat → Nat) (R : va_W) (sz : Nat) (S : PS) (x1 : Int32) (o : Nat ⊕ (PS × Int32)) (h : q_X5_addClass S x1 = some o) : gXi l yX5_addClass wsX5_addClass ({ frames := 7, cells := 2, slots := 12, locals := 103 }) 2 12 D (gT cy ++ tx) [.ref (ad 0), .int x1] sz (xW cy ad S R) (fun u => (xW cy ad u R)) o := by
  refine vx_ofW (cc := cX5_addClass) (maxL := 2) (ret := (some .int)) (by decide) rfl ?_
  intro p e s m args below meth c s₁ B hml hnt hv
  obtain ⟨hav, hsz, hP, hK, hD0, hE⟩ := hv
  have hx := B.exec
  have hb := B.bytes
  have hr := B.returns
  have hts := atoms_spec (ws := wsX5_addClass) B.pre
  have hown : s.vm.findClass RX5 = some m.cls := findClass_of_methodNamed B.named
  have hlocks := B.notSynchronized
  subst hsz
  have hD := hD0.self (sz := s.heap.size)
  generalize hAe : va_A (xW cy ad S R) s.heap.size = A at hD hE ⊢
  have hA : ∀ q : Nat, s.heap.size ≤ q → A q := fun q h => by rw [← hAe]; exact Or.inr h
  have hS : va_S A s.heap s.heap [] := va_S.rf
  have iX0 : ∀ w ∈ u_ws RX0 TX0 4, w ∈ wsX5_addClass := by decide +kernel
  have iX5 : ∀ w ∈ u_ws RX5 TX5 4, w ∈ wsX5_addClass := by decide +kernel
  have hf12 := hts (.fieldLink RX5 12 "InlinePlanner" "hierarchy" "LInlinePlanner$Hierarchy;") (by decide +kernel)
  have hf45 := hts (.fieldLink RX5 45 "InlinePlanner$Hierarchy" "count" "I") (by decide +kernel)
  refine g_entry (n := 2) hav (Nat.le_of_ble_eq_true rfl) (fun ls hl => ?_)
  have hl : lv_has ls 2 [(0, .ref (ad 0)), (1, .int x1)] := hl
  refine g_nameQ (fun Q hQ => ?_)
  unfold q_X5_addClass at h
  refine lv_aload_n hx hb dX5_addClass_0 rfl (lv_at hl 0 rfl) ?_
  refine lv_iload_n hx hb dX5_addClass_1 rfl (lv_at hl 1 rfl) ?_
  rcases x_bind h with ⟨k2, ek2, h⟩ | ⟨v1, ek2, h⟩
  · refine g_tYv (As := [.int x1]) (rest := []) ⟨hx, hb, hml, hown, hts⟩ (m_X5_checkClass l hst D cy tx ad R _ S x1 (.inl k2) ek2) (cwV 1 hts gX5_addClass_X5_checkClass rfl rfl rfl (by decide +kernel) ⟨Nat.le_of_ble_eq_true rfl, Nat.le_of_ble_eq_true rfl⟩) (va_recv hK hP (ci := 5) (q0 := 0) rfl rfl) hP hK hD hS hA hE rfl hl.1 rfl (Nat.le_of_ble_eq_true rfl) dX5_addClass_2 ⟨Nat.le_of_ble_eq_true rfl, Nat.le_of_ble_eq_true rfl⟩ (fun ce q9 H locs hP hD hS hce hcv hcl => ?_)
    exact g_xout hQ hnt hlocks h hP hK hD hS hce hcv hcl (Nat.le_of_ble_eq_true rfl) (Nat.le_of_ble_eq_true rfl)
  · refine g_rYv (As := [.int x1]) (rest := []) ⟨hx, hb, hml, hown, hts⟩ (m_X5_checkClass l hst D cy tx ad R _ S x1 (.inr v1) ek2) (cwV 1 hts gX5_addClass_X5_checkClass rfl rfl rfl (by decide +kernel) ⟨Nat.le_of_ble_eq_true rfl, Nat.le_of_ble_eq_true rfl⟩) (va_recv hK hP (ci := 5) (q0 := 0) rfl rfl) hP hK hD hS hA hE rfl hl.1 rfl (Nat.le_of_ble_eq_true rfl) dX5_addClass_2 ⟨Nat.le_of_ble_eq_true rfl, Nat.le_of_ble_eq_true rfl⟩ (fun H locs hP hD hS => ?_)
    refine W.widen (k := 1) (n := 6) (Nat.le_of_ble_eq_true rfl) (Nat.le_of_ble_eq_true rfl) ?_
    refine lv_aload_n hx hb dX5_addClass_5 rfl (lv_at hl 0 rfl) ?_
    refine xgX5_0 hx hb hts iX5 hown hK hP hf12 dX5_addClass_6 ?_
    refine xgX0_0 hx hb hts iX0 hown hK hP hf45 dX5_addClass_9 ?_
    refine lv_bipush (v := 16) hx hb dX5_addClass_12 (by decide) ?_
    refine lv_icmp_lt (tgt := 27) hx hb dX5_addClass_14 (by decide) (fun hc => ?_) (fun hc => ?_)
    · have h := o_pos hc h
      refine lv_aload_n hx hb dX5_addClass_27 rfl (lv_at hl 0 rfl) ?_
      refine xgX5_0 hx hb hts iX5 hown hK hP hf12 dX5_addClass_28 ?_
      refine lv_iload_n hx hb dX5_addClass_31 rfl (lv_at hl 1 rfl) ?_
      obtain ⟨⟨S4, v3⟩, ev3, h⟩ := o_bind h
      refine g_cVi (As := [.int x1]) (rest := []) ⟨hx, hb, hml, hown, hts⟩ (m_X0_append l hst D cy tx ad R _ S x1 S4 v3 ev3) (cwV 1 hts gX5_addClass_X0_append rfl rfl rfl (by decide +kernel) ⟨Nat.le_of_ble_eq_true rfl, Nat.le_of_ble_eq_true rfl⟩) (va_recv hK hP (ci := 0) (q0 := 1) rfl rfl) hP hK hD hS hA hE rfl hl.1 rfl (Nat.le_of_ble_eq_true rfl) dX5_addClass_32 ⟨Nat.le_of_ble_eq_true rfl, Nat.le_of_ble_eq_true rfl⟩ (fun H locs hP hD hS => ?_)
      exact g_iretX (Wf := fun u => (xW cy ad u R)) (S1 := S4) hQ hx hb hr hP hK hD hS (Nat.le_of_ble_eq_true rfl) (Nat.le_of_ble_eq_true rfl) dX5_addClass_35 hlocks (Option.some.inj h)
    · have h := o_neg hc h
      exact g_throw (k := 2) (ik := 49) (is := 51) (ic := 53) (text := "there are 16 classes") hQ hx hb hst hnt hlocks (by rw [hml]; exact hl.1.symm) hown hts hE (by decide +kernel) (by decide +kernel) (by decide +kernel) (by decide +kernel) (fun _ h => List.mem_cons_of_mem _ (List.mem_append_left _ (List.mem_append_right _ h))) (by decide +kernel) (by decide +kernel) (Option.some.inj h) hP hK hD hS dX5_addClass_17 dX5_addClass_20 dX5_addClass_21 dX5_addClass_23 dX5_addClass_26 (Nat.le_of_ble_eq_true rfl) (Nat.le_of_ble_eq_true rfl) (Nat.le_of_ble_eq_true rfl) (Nat.le_of_ble_eq_true rfl) (Nat.le_of_ble_eq_true rfl) (Nat.le_of_ble_eq_true rfl)
set_option maxHeartbeats 4000000 in
set_option maxRecDepth 100000 in
theorem m_X5_setLive (l : Launch) (hst : l.stackTraces = false) (D : va_G) (cy : Nat → ClassId) (tx : List (ClassId × FieldType)) (ad : Nat → Nat) (R : va_W) (sz : Nat) (S : PS) (x1 : Int32) (x2 : Int32) (o : Nat ⊕ (PS × Int32)) (h : q_X5_setLive S x1 x2 = some o) : gXi l yX5_setLive wsX5_setLive ({ frames := 7, cells := 1, slots := 6, locals := 103 }) 1 6 D (gT cy ++ tx) [.ref (ad 0), .int x1, .int x2] sz (xW cy ad S R) (fun u => (xW cy ad u R)) o := by
  refine vx_ofW (cc := cX5_setLive) (maxL := 4) (ret := (some .boolean)) (by decide) rfl ?_
  intro p e s m args below meth c s₁ B hml hnt hv
  obtain ⟨hav, hsz, hP, hK, hD0, hE⟩ := hv
  have hx := B.exec
  have hb := B.bytes
  have hr := B.returns
  have hts := atoms_spec (ws := wsX5_setLive) B.pre
  have hown : s.vm.findClass RX5 = some m.cls := findClass_of_methodNamed B.named
  have hlocks := B.notSynchronized
  subst hsz
  have hD := hD0.self (sz := s.heap.size)
  generalize hAe : va_A (xW cy ad S R) s.heap.size = A at hD hE ⊢
  have hA : ∀ q : Nat, s.heap.size ≤ q → A q := fun q h => by rw [← hAe]; exact Or.inr h
  have hS : va_S A s.heap s.heap [] := va_S.rf
  have iX0 : ∀ w ∈ u_ws RX0 TX0 4, w ∈ wsX5_setLive := by decide +kernel
  have iX5 : ∀ w ∈ u_ws RX5 TX5 4, w ∈ wsX5_setLive := by decide +kernel
  have hf12 := hts (.fieldLink RX5 12 "InlinePlanner" "hierarchy" "LInlinePlanner$Hierarchy;") (by decide +kernel)
  have hf60 := hts (.fieldLink RX5 60 "InlinePlanner$Hierarchy" "live" "[Z") (by decide +kernel)
  refine g_entry (n := 4) hav (Nat.le_of_ble_eq_true rfl) (fun ls hl => ?_)
  have hl : lv_has ls 4 [(0, .ref (ad 0)), (1, .int x1), (2, .int x2)] := hl
  refine g_nameQ (fun Q hQ => ?_)
  unfold q_X5_setLive at h
  refine lv_aload_n hx hb dX5_setLive_0 rfl (lv_at hl 0 rfl) ?_
  refine lv_iload_n hx hb dX5_setLive_1 rfl (lv_at hl 1 rfl) ?_
  rcases x_bind h with ⟨k2, ek2, h⟩ | ⟨v1, ek2, h⟩
  · refine g_tYv (As := [.int x1]) (rest := []) ⟨hx, hb, hml, hown, hts⟩ (m_X5_checkClass l hst D cy tx ad R _ S x1 (.inl k2) ek2) (cwV 1 hts gX5_setLive_X5_checkClass rfl rfl rfl (by decide +kernel) ⟨Nat.le_of_ble_eq_true rfl, Nat.le_of_ble_eq_true rfl⟩) (va_recv hK hP (ci := 5) (q0 := 0) rfl rfl) hP hK hD hS hA hE rfl hl.1 rfl (Nat.le_of_ble_eq_true rfl) dX5_setLive_2 ⟨Nat.le_of_ble_eq_true rfl, Nat.le_of_ble_eq_true rfl⟩ (fun ce q9 H locs hP hD hS hce hcv hcl => ?_)
    exact g_xout hQ hnt hlocks h hP hK hD hS hce hcv hcl (Nat.le_of_ble_eq_true rfl) (Nat.le_of_ble_eq_true rfl)
  · refine g_rYv (As := [.int x1]) (rest := []) ⟨hx, hb, hml, hown, hts⟩ (m_X5_checkClass l hst D cy tx ad R _ S x1 (.inr v1) ek2) (cwV 1 hts gX5_setLive_X5_checkClass rfl rfl rfl (by decide +kernel) ⟨Nat.le_of_ble_eq_true rfl, Nat.le_of_ble_eq_true rfl⟩) (va_recv hK hP (ci := 5) (q0 := 0) rfl rfl) hP hK hD hS hA hE rfl hl.1 rfl (Nat.le_of_ble_eq_true rfl) dX5_setLive_2 ⟨Nat.le_of_ble_eq_true rfl, Nat.le_of_ble_eq_true rfl⟩ (fun H locs hP hD hS => ?_)
    refine W.widen (k := 1) (n := 6) (Nat.le_of_ble_eq_true rfl) (Nat.le_of_ble_eq_true rfl) ?_
    refine lv_aload_n hx hb dX5_setLive_5 rfl (lv_at hl 0 rfl) ?_
    refine xgX5_0 hx hb hts iX5 hown hK hP hf12 dX5_setLive_6 ?_
    refine xgX0_2 hx hb hts iX0 hown hK hP hf60 dX5_setLive_9 ?_
    refine lv_iload_n hx hb dX5_setLive_12 rfl (lv_at hl 1 rfl) ?_
    obtain ⟨v3, ev3, h⟩ := o_bind h
    refine xld1 hx hb hK hP ev3 dX5_setLive_13 ?_
    refine lv_istore_n (lv' := [(3, .int v3), (0, .ref (ad 0)), (1, .int x1), (2, .int x2)]) hx hb dX5_setLive_14 rfl hl (by decide) rfl (fun ls hl => ?_)
    refine lv_aload_n hx hb dX5_setLive_15 rfl (lv_at hl 1 rfl) ?_
    refine xgX5_0 hx hb hts iX5 hown hK hP hf12 dX5_setLive_16 ?_
    refine xgX0_2 hx hb hts iX0 hown hK hP hf60 dX5_setLive_19 ?_
    refine lv_iload_n hx hb dX5_setLive_22 rfl (lv_at hl 2 rfl) ?_
    refine lv_iload_n hx hb dX5_setLive_23 rfl (lv_at hl 3 rfl) ?_
    obtain ⟨S4, eS4, h⟩ := o_bind h
    refine xst1 hx hb hK hP hD hS eS4 dX5_setLive_24 (fun H locs hP hD hS => ?_)
    refine lv_iload_n hx hb dX5_setLive_25 rfl (lv_at hl 0 rfl) ?_
    obtain ⟨z5, ez5, h⟩ := o_bind h
    obtain ⟨hn, ez5⟩ := zg_spec ez5
    subst ez5
    exact g_zretX (Wf := fun u => (xW cy ad u R)) (S1 := S4) hQ hx hb hr hn hP hK hD hS (Nat.le_of_ble_eq_true rfl) (Nat.le_of_ble_eq_true rfl) dX5_setLive_26 hlocks (Option.some.inj h)
set_option maxHeartbeats 4000000 in
set_option maxRecDepth 100000 in
theorem m_X5_classCount (l : Launch) (hst : l.stackTraces = false) (D : va_G) (cy : Nat → ClassId) (tx : List (ClassId × FieldType)) (ad : Nat → Nat) (R : va_W) (sz : Nat) (S : PS)  (v : Int32) (h : q_X5_classCount S = some v) : gMi l yX5_classCount wsX5_classCount ({ frames := 0, cells := 0, slots := 0, locals := 0 }) 0 0 D (gT cy ++ tx) [.ref (ad 0)] sz (xW cy ad S R) (xW cy ad S R) v := by
  refine Met.ofW (cc := cX5_classCount) (maxL := 1) (ret := (some .int)) (by decide) rfl ?_
  intro p e s m args below meth c s₁ B hml hv
  obtain ⟨hav, hsz, hP, hK, hD0, hE⟩ := hv
  have hx := B.exec
  have hb := B.bytes
  have hr := B.returns
  have hts := atoms_spec (ws := wsX5_classCount) B.pre
  have hown : s.vm.findClass RX5 = some m.cls := findClass_of_methodNamed B.named
  have hlocks := B.notSynchronized
  subst hsz
  have hD := hD0.self (sz := s.heap.size)
  generalize hAe : va_A (xW cy ad S R) s.heap.size = A at hD hE ⊢
  have hA : ∀ q : Nat, s.heap.size ≤ q → A q := fun q h => by rw [← hAe]; exact Or.inr h
  have hS : va_S A s.heap s.heap [] := va_S.rf
  have iX0 : ∀ w ∈ u_ws RX0 TX0 4, w ∈ wsX5_classCount := by decide +kernel
  have iX5 : ∀ w ∈ u_ws RX5 TX5 4, w ∈ wsX5_classCount := by decide +kernel
  have hf12 := hts (.fieldLink RX5 12 "InlinePlanner" "hierarchy" "LInlinePlanner$Hierarchy;") (by decide +kernel)
  have hf45 := hts (.fieldLink RX5 45 "InlinePlanner$Hierarchy" "count" "I") (by decide +kernel)
  refine g_entry (n := 1) hav (Nat.le_of_ble_eq_true rfl) (fun ls hl => ?_)
  have hl : lv_has ls 1 [(0, .ref (ad 0))] := hl
  refine g_nameQ (fun Q hQ => ?_)
  unfold q_X5_classCount at h
  refine lv_aload_n hx hb dX5_classCount_0 rfl (lv_at hl 0 rfl) ?_
  refine xgX5_0 hx hb hts iX5 hown hK hP hf12 dX5_classCount_1 ?_
  refine xgX0_0 hx hb hts iX0 hown hK hP hf45 dX5_classCount_4 ?_
  exact g_iret hQ hx hb hr hP hK hD hS (Nat.le_of_ble_eq_true rfl) (Nat.le_of_ble_eq_true rfl) dX5_classCount_7 hlocks (Option.some.inj h)
set_option maxHeartbeats 4000000 in
set_option maxRecDepth 100000 in
theorem m_X5_parent (l : Launch) (hst : l.stackTraces = false) (D : va_G) (cy : Nat → ClassId) (tx : List (ClassId × FieldType)) (ad : Nat → Nat) (R : va_W) (sz : Nat) (S : PS) (x1 : Int32) (o : Nat ⊕ Int32) (h : q_X5_parent S x1 = some o) : gYi l yX5_parent wsX5_parent ({ frames := 7, cells := 1, slots := 6, locals := 103 }) 1 6 D (gT cy ++ tx) [.ref (ad 0), .int x1] sz (xW cy ad S R) o := by
  refine vx_ofW (cc := cX5_parent) (maxL := 2) (ret := (some .int)) (by decide) rfl ?_
  intro p e s m args below meth c s₁ B hml hnt hv
  obtain ⟨hav, hsz, hP, hK, hD0, hE⟩ := hv
  have hx := B.exec
  have hb := B.bytes
  have hr := B.returns
  have hts := atoms_spec (ws := wsX5_parent) B.pre
  have hown : s.vm.findClass RX5 = some m.cls := findClass_of_methodNamed B.named
  have hlocks := B.notSynchronized
  subst hsz
  have hD := hD0.self (sz := s.heap.size)
  generalize hAe : va_A (xW cy ad S R) s.heap.size = A at hD hE ⊢
  have hA : ∀ q : Nat, s.heap.size ≤ q → A q := fun q h => by rw [← hAe]; exact Or.inr h
  have hS : va_S A s.heap s.heap [] := va_S.rf
  have iX0 : ∀ w ∈ u_ws RX0 TX0 4, w ∈ wsX5_parent := by decide +kernel
  have iX5 : ∀ w ∈ u_ws RX5 TX5 4, w ∈ wsX5_parent := by decide +kernel
  have hf12 := hts (.fieldLink RX5 12 "InlinePlanner" "hierarchy" "LInlinePlanner$Hierarchy;") (by decide +kernel)
  have hf64 := hts (.fieldLink RX5 64 "InlinePlanner$Hierarchy" "parents" "[I") (by decide +kernel)
  refine g_entry (n := 2) hav (Nat.le_of_ble_eq_true rfl) (fun ls hl => ?_)
  have hl : lv_has ls 2 [(0, .ref (ad 0)), (1, .int x1)] := hl
  refine g_nameQ (fun Q hQ => ?_)
  unfold q_X5_parent at h
  refine lv_aload_n hx hb dX5_parent_0 rfl (lv_at hl 0 rfl) ?_
  refine lv_iload_n hx hb dX5_parent_1 rfl (lv_at hl 1 rfl) ?_
  rcases x_bind h with ⟨k2, ek2, h⟩ | ⟨v1, ek2, h⟩
  · refine g_tYv (As := [.int x1]) (rest := []) ⟨hx, hb, hml, hown, hts⟩ (m_X5_checkClass l hst D cy tx ad R _ S x1 (.inl k2) ek2) (cwV 1 hts gX5_parent_X5_checkClass rfl rfl rfl (by decide +kernel) ⟨Nat.le_of_ble_eq_true rfl, Nat.le_of_ble_eq_true rfl⟩) (va_recv hK hP (ci := 5) (q0 := 0) rfl rfl) hP hK hD hS hA hE rfl hl.1 rfl (Nat.le_of_ble_eq_true rfl) dX5_parent_2 ⟨Nat.le_of_ble_eq_true rfl, Nat.le_of_ble_eq_true rfl⟩ (fun ce q9 H locs hP hD hS hce hcv hcl => ?_)
    exact g_xout hQ hnt hlocks h hP hK hD hS hce hcv hcl (Nat.le_of_ble_eq_true rfl) (Nat.le_of_ble_eq_true rfl)
  · refine g_rYv (As := [.int x1]) (rest := []) ⟨hx, hb, hml, hown, hts⟩ (m_X5_checkClass l hst D cy tx ad R _ S x1 (.inr v1) ek2) (cwV 1 hts gX5_parent_X5_checkClass rfl rfl rfl (by decide +kernel) ⟨Nat.le_of_ble_eq_true rfl, Nat.le_of_ble_eq_true rfl⟩) (va_recv hK hP (ci := 5) (q0 := 0) rfl rfl) hP hK hD hS hA hE rfl hl.1 rfl (Nat.le_of_ble_eq_true rfl) dX5_parent_2 ⟨Nat.le_of_ble_eq_true rfl, Nat.le_of_ble_eq_true rfl⟩ (fun H locs hP hD hS => ?_)
    refine W.widen (k := 1) (n := 6) (Nat.le_of_ble_eq_true rfl) (Nat.le_of_ble_eq_true rfl) ?_
    refine lv_aload_n hx hb dX5_parent_5 rfl (lv_at hl 0 rfl) ?_
    refine xgX5_0 hx hb hts iX5 hown hK hP hf12 dX5_parent_6 ?_
    refine xgX0_1 hx hb hts iX0 hown hK hP hf64 dX5_parent_9 ?_
    refine lv_iload_n hx hb dX5_parent_12 rfl (lv_at hl 1 rfl) ?_
    obtain ⟨v3, ev3, h⟩ := o_bind h
    refine xld0 hx hb hK hP ev3 dX5_parent_13 ?_
    exact g_iretY hQ hx hb hr hP hK hD hS (Nat.le_of_ble_eq_true rfl) (Nat.le_of_ble_eq_true rfl) dX5_parent_14 hlocks (Option.some.inj h)
set_option maxHeartbeats 4000000 in
set_option maxRecDepth 100000 in
theorem m_X5_isBelow (l : Launch) (hst : l.stackTraces = false) (D : va_G) (cy : Nat → ClassId) (tx : List (ClassId × FieldType)) (ad : Nat → Nat) (R : va_W) (sz : Nat) (S : PS) (x1 : Int32) (x2 : Int32) (o : Nat ⊕ Int32) (h : q_X5_isBelow S x1 x2 = some o) : gYi l yX5_isBelow wsX5_isBelow ({ frames := 7, cells := 2, slots := 12, locals := 103 }) 2 12 D (gT cy ++ tx) [.ref (ad 0), .int x1, .int x2] sz (xW cy ad S R) o := by
  refine vx_ofW (cc := cX5_isBelow) (maxL := 3) (ret := (some .boolean)) (by decide) rfl ?_
  intro p e s m args below meth c s₁ B hml hnt hv
  obtain ⟨hav, hsz, hP, hK, hD0, hE⟩ := hv
  have hx := B.exec
  have hb := B.bytes
  have hr := B.returns
  have hts := atoms_spec (ws := wsX5_isBelow) B.pre
  have hown : s.vm.findClass RX5 = some m.cls := findClass_of_methodNamed B.named
  have hlocks := B.notSynchronized
  subst hsz
  have hD := hD0.self (sz := s.heap.size)
  generalize hAe : va_A (xW cy ad S R) s.heap.size = A at hD hE ⊢
  have hA : ∀ q : Nat, s.heap.size ≤ q → A q := fun q h => by rw [← hAe]; exact Or.inr h
  have hS : va_S A s.heap s.heap [] := va_S.rf
  have iX5 : ∀ w ∈ u_ws RX5 TX5 4, w ∈ wsX5_isBelow := by decide +kernel
  have hf12 := hts (.fieldLink RX5 12 "InlinePlanner" "hierarchy" "LInlinePlanner$Hierarchy;") (by decide +kernel)
  refine g_entry (n := 3) hav (Nat.le_of_ble_eq_true rfl) (fun ls hl => ?_)
  have hl : lv_has ls 3 [(0, .ref (ad 0)), (1, .int x1), (2, .int x2)] := hl
  refine g_nameQ (fun Q hQ => ?_)
  unfold q_X5_isBelow at h
  refine lv_aload_n hx hb dX5_isBelow_0 rfl (lv_at hl 0 rfl) ?_
  refine lv_iload_n hx hb dX5_isBelow_1 rfl (lv_at hl 1 rfl) ?_
  rcases x_bind h with ⟨k2, ek2, h⟩ | ⟨v1, ek2, h⟩
  · refine g_tYv (As := [.int x1]) (rest := []) ⟨hx, hb, hml, hown, hts⟩ (m_X5_checkClass l hst D cy tx ad R _ S x1 (.inl k2) ek2) (cwV 1 hts gX5_isBelow_X5_checkClass rfl rfl rfl (by decide +kernel) ⟨Nat.le_of_ble_eq_true rfl, Nat.le_of_ble_eq_true rfl⟩) (va_recv hK hP (ci := 5) (q0 := 0) rfl rfl) hP hK hD hS hA hE rfl hl.1 rfl (Nat.le_of_ble_eq_true rfl) dX5_isBelow_2 ⟨Nat.le_of_ble_eq_true rfl, Nat.le_of_ble_eq_true rfl⟩ (fun ce q9 H locs hP hD hS hce hcv hcl => ?_)
    exact g_xout hQ hnt hlocks h hP hK hD hS hce hcv hcl (Nat.le_of_ble_eq_true rfl) (Nat.le_of_ble_eq_true rfl)
  · refine g_rYv (As := [.int x1]) (rest := []) ⟨hx, hb, hml, hown, hts⟩ (m_X5_checkClass l hst D cy tx ad R _ S x1 (.inr v1) ek2) (cwV 1 hts gX5_isBelow_X5_checkClass rfl rfl rfl (by decide +kernel) ⟨Nat.le_of_ble_eq_true rfl, Nat.le_of_ble_eq_true rfl⟩) (va_recv hK hP (ci := 5) (q0 := 0) rfl rfl) hP hK hD hS hA hE rfl hl.1 rfl (Nat.le_of_ble_eq_true rfl) dX5_isBelow_2 ⟨Nat.le_of_ble_eq_true rfl, Nat.le_of_ble_eq_true rfl⟩ (fun H locs hP hD hS => ?_)
    refine W.widen (k := 1) (n := 6) (Nat.le_of_ble_eq_true rfl) (Nat.le_of_ble_eq_true rfl) ?_
    refine lv_aload_n hx hb dX5_isBelow_5 rfl (lv_at hl 0 rfl) ?_
    refine lv_iload_n hx hb dX5_isBelow_6 rfl (lv_at hl 2 rfl) ?_
    rcases x_bind h with ⟨k4, ek4, h⟩ | ⟨v3, ek4, h⟩
    · refine g_tYv (As := [.int x2]) (rest := []) ⟨hx, hb, hml, hown, hts⟩ (m_X5_checkClass l hst D cy tx ad R _ S x2 (.inl k4) ek4) (cwV 1 hts gX5_isBelow_X5_checkClass rfl rfl rfl (by decide +kernel) ⟨Nat.le_of_ble_eq_true rfl, Nat.le_of_ble_eq_true rfl⟩) (va_recv hK hP (ci := 5) (q0 := 0) rfl rfl) hP hK hD hS hA hE rfl hl.1 rfl (Nat.le_of_ble_eq_true rfl) dX5_isBelow_7 ⟨Nat.le_of_ble_eq_true rfl, Nat.le_of_ble_eq_true rfl⟩ (fun ce q9 H locs hP hD hS hce hcv hcl => ?_)
      exact g_xout hQ hnt hlocks h hP hK hD hS hce hcv hcl (Nat.le_of_ble_eq_true rfl) (Nat.le_of_ble_eq_true rfl)
    · refine g_rYv (As := [.int x2]) (rest := []) ⟨hx, hb, hml, hown, hts⟩ (m_X5_checkClass l hst D cy tx ad R _ S x2 (.inr v3) ek4) (cwV 1 hts gX5_isBelow_X5_checkClass rfl rfl rfl (by decide +kernel) ⟨Nat.le_of_ble_eq_true rfl, Nat.le_of_ble_eq_true rfl⟩) (va_recv hK hP (ci := 5) (q0 := 0) rfl rfl) hP hK hD hS hA hE rfl hl.1 rfl (Nat.le_of_ble_eq_true rfl) dX5_isBelow_7 ⟨Nat.le_of_ble_eq_true rfl, Nat.le_of_ble_eq_true rfl⟩ (fun H locs hP hD hS => ?_)
      refine W.widen (k := 2) (n := 12) (Nat.le_of_ble_eq_true rfl) (Nat.le_of_ble_eq_true rfl) ?_
      refine lv_aload_n hx hb dX5_isBelow_10 rfl (lv_at hl 0 rfl) ?_
      refine xgX5_0 hx hb hts iX5 hown hK hP hf12 dX5_isBelow_11 ?_
      refine lv_iload_n hx hb dX5_isBelow_14 rfl (lv_at hl 1 rfl) ?_
      refine lv_iload_n hx hb dX5_isBelow_15 rfl (lv_at hl 2 rfl) ?_
      obtain ⟨v5, ev5, h⟩ := o_bind h
      refine g_cVi (As := [.int x1, .int x2]) (rest := []) ⟨hx, hb, hml, hown, hts⟩ (m_X0_under l hst D cy tx ad R _ S x1 x2 v5 ev5) (cwV 2 hts gX5_isBelow_X0_under rfl rfl rfl (by decide +kernel) ⟨Nat.le_of_ble_eq_true rfl, Nat.le_of_ble_eq_true rfl⟩) (va_recv hK hP (ci := 0) (q0 := 1) rfl rfl) hP hK hD hS hA hE rfl hl.1 rfl (Nat.le_of_ble_eq_true rfl) dX5_isBelow_16 ⟨Nat.le_of_ble_eq_true rfl, Nat.le_of_ble_eq_true rfl⟩ (fun H locs hP hD hS => ?_)
      obtain ⟨z6, ez6, h⟩ := o_bind h
      obtain ⟨hn, ez6⟩ := zg_spec ez6
      subst ez6
      exact g_zretY hQ hx hb hr hn hP hK hD hS (Nat.le_of_ble_eq_true rfl) (Nat.le_of_ble_eq_true rfl) dX5_isBelow_19 hlocks (Option.some.inj h)
set_option maxHeartbeats 4000000 in
set_option maxRecDepth 100000 in
theorem m_X5_liveBelow (l : Launch) (hst : l.stackTraces = false) (D : va_G) (cy : Nat → ClassId) (tx : List (ClassId × FieldType)) (ad : Nat → Nat) (R : va_W) (sz : Nat) (S : PS) (x1 : Int32) (o : Nat ⊕ Int32) (h : q_X5_liveBelow S x1 = some o) : gYi l yX5_liveBelow wsX5_liveBelow ({ frames := 7, cells := 1, slots := 6, locals := 103 }) 1 6 D (gT cy ++ tx) [.ref (ad 0), .int x1] sz (xW cy ad S R) o := by
  refine vx_ofW (cc := cX5_liveBelow) (maxL := 4) (ret := (some .int)) (by decide) rfl ?_
  intro p e s m args below meth c s₁ B hml hnt hv
  obtain ⟨hav, hsz, hP, hK, hD0, hE⟩ := hv
  have hx := B.exec
  have hb := B.bytes
  have hr := B.returns
  have hts := atoms_spec (ws := wsX5_liveBelow) B.pre
  have hown : s.vm.findClass RX5 = some m.cls := findClass_of_methodNamed B.named
  have hlocks := B.notSynchronized
  subst hsz
  have hD := hD0.self (sz := s.heap.size)
  generalize hAe : va_A (xW cy ad S R) s.heap.size = A at hD hE ⊢
  have hA : ∀ q : Nat, s.heap.size ≤ q → A q := fun q h => by rw [← hAe]; exact Or.inr h
  have hS : va_S A s.heap s.heap [] := va_S.rf
  have iX0 : ∀ w ∈ u_ws RX0 TX0 4, w ∈ wsX5_liveBelow := by decide +kernel
  have iX5 : ∀ w ∈ u_ws RX5 TX5 4, w ∈ wsX5_liveBelow := by decide +kernel
  have hf12 := hts (.fieldLink RX5 12 "InlinePlanner" "hierarchy" "LInlinePlanner$Hierarchy;") (by decide +kernel)
  have hf45 := hts (.fieldLink RX5 45 "InlinePlanner$Hierarchy" "count" "I") (by decide +kernel)
  have hf60 := hts (.fieldLink RX5 60 "InlinePlanner$Hierarchy" "live" "[Z") (by decide +kernel)
  refine g_entry (n := 4) hav (Nat.le_of_ble_eq_true rfl) (fun ls hl => ?_)
  have hl : lv_has ls 4 [(0, .ref (ad 0)), (1, .int x1)] := hl
  refine g_nameQ (fun Q hQ => ?_)
  unfold q_X5_liveBelow at h
  refine lv_aload_n hx hb dX5_liveBelow_0 rfl (lv_at hl 0 rfl) ?_
  refine lv_iload_n hx hb dX5_liveBelow_1 rfl (lv_at hl 1 rfl) ?_
  rcases x_bind h with ⟨k2, ek2, h⟩ | ⟨v1, ek2, h⟩
  · refine g_tYv (As := [.int x1]) (rest := []) ⟨hx, hb, hml, hown, hts⟩ (m_X5_checkClass l hst D cy tx ad R _ S x1 (.inl k2) ek2) (cwV 1 hts gX5_liveBelow_X5_checkClass rfl rfl rfl (by decide +kernel) ⟨Nat.le_of_ble_eq_true rfl, Nat.le_of_ble_eq_true rfl⟩) (va_recv hK hP (ci := 5) (q0 := 0) rfl rfl) hP hK hD hS hA hE rfl hl.1 rfl (Nat.le_of_ble_eq_true rfl) dX5_liveBelow_2 ⟨Nat.le_of_ble_eq_true rfl, Nat.le_of_ble_eq_true rfl⟩ (fun ce q9 H locs hP hD hS hce hcv hcl => ?_)
    exact g_xout hQ hnt hlocks h hP hK hD hS hce hcv hcl (Nat.le_of_ble_eq_true rfl) (Nat.le_of_ble_eq_true rfl)
  · refine g_rYv (As := [.int x1]) (rest := []) ⟨hx, hb, hml, hown, hts⟩ (m_X5_checkClass l hst D cy tx ad R _ S x1 (.inr v1) ek2) (cwV 1 hts gX5_liveBelow_X5_checkClass rfl rfl rfl (by decide +kernel) ⟨Nat.le_of_ble_eq_true rfl, Nat.le_of_ble_eq_true rfl⟩) (va_recv hK hP (ci := 5) (q0 := 0) rfl rfl) hP hK hD hS hA hE rfl hl.1 rfl (Nat.le_of_ble_eq_true rfl) dX5_liveBelow_2 ⟨Nat.le_of_ble_eq_true rfl, Nat.le_of_ble_eq_true rfl⟩ (fun H locs hP hD hS => ?_)
    refine W.widen (k := 1) (n := 6) (Nat.le_of_ble_eq_true rfl) (Nat.le_of_ble_eq_true rfl) ?_
    refine lv_iconst (v := 0) hx hb dX5_liveBelow_5 (by decide) ?_
    refine lv_istore_n (lv' := [(2, .int 0), (0, .ref (ad 0)), (1, .int x1)]) hx hb dX5_liveBelow_6 rfl hl (by decide) rfl (fun ls hl => ?_)
    refine lv_iconst (v := 0) hx hb dX5_liveBelow_7 (by decide) ?_
    refine lv_istore_n (lv' := [(3, .int 0), (2, .int 0), (0, .ref (ad 0)), (1, .int x1)]) hx hb dX5_liveBelow_8 rfl hl (by decide) rfl (fun ls hl => ?_)
    have L9 : ∀ (n9 : Nat) (x2 : Int32) (x3 : Int32) (H : Heap) (locs : List Loc) (ls : Array Slot), va_P D vwCl (xW cy ad S R) H → va_D A (xW cy ad S R) → va_S A s.heap H locs → lv_has ls 4 [(0, .ref (ad 0)), (1, .int x1), (2, .int x2), (3, .int x3)] → iter2 (q_X5_liveBelow_L9 S x1 ) n9 x2 x3 = some o → W p l e (headSpec wsX5_liveBelow ({ frames := 7, cells := 1, slots := 6, locals := 103 })).room s m args below meth c H locs 1 6 Q (F0 m 9 ls []) := by
      intro  n9
      induction n9 with
      | zero =>
        intro x2 x3 H locs ls hP hD hS hl h
        exact (it2_0 h).elim
      | succ n9 ih9 =>
        intro x2 x3 H locs ls hP hD hS hl h
        have h : q_X5_liveBelow_L9 S x1  (iter2 (q_X5_liveBelow_L9 S x1 ) n9) x2 x3 = some o := h
        unfold q_X5_liveBelow_L9 at h
        refine lv_iload_n hx hb dX5_liveBelow_9 rfl (lv_at hl 3 rfl) ?_
        refine lv_aload_n hx hb dX5_liveBelow_10 rfl (lv_at hl 0 rfl) ?_
        refine xgX5_0 hx hb hts iX5 hown hK hP hf12 dX5_liveBelow_11 ?_
        refine xgX0_0 hx hb hts iX0 hown hK hP hf45 dX5_liveBelow_14 ?_
        refine lv_icmp_ge (tgt := 53) hx hb dX5_liveBelow_17 (by decide) (fun hc => ?_) (fun hc => ?_)
        · have h := o_pos hc h
          refine lv_iload_n hx hb dX5_liveBelow_53 rfl (lv_at hl 2 rfl) ?_
          exact g_iretY hQ hx hb hr hP hK hD hS (Nat.le_of_ble_eq_true rfl) (Nat.le_of_ble_eq_true rfl) dX5_liveBelow_54 hlocks (Option.some.inj h)
        · have h := o_neg hc h
          refine lv_aload_n hx hb dX5_liveBelow_20 rfl (lv_at hl 0 rfl) ?_
          refine xgX5_0 hx hb hts iX5 hown hK hP hf12 dX5_liveBelow_21 ?_
          refine xgX0_2 hx hb hts iX0 hown hK hP hf60 dX5_liveBelow_24 ?_
          refine lv_iload_n hx hb dX5_liveBelow_27 rfl (lv_at hl 3 rfl) ?_
          obtain ⟨v3, ev3, h⟩ := o_bind h
          refine xld1 hx hb hK hP ev3 dX5_liveBelow_28 ?_
          refine lv_if_eq (tgt := 47) hx hb dX5_liveBelow_29 (by decide) (fun hc => ?_) (fun hc => ?_)
          · have h := o_pos hc h
            refine lv_iinc (v := (x3 + 1)) (lv' := [(3, .int (x3 + 1)), (0, .ref (ad 0)), (1, .int x1), (2, .int x2)]) hx hb dX5_liveBelow_47 hl (k := 3) rfl rfl (by decide) rfl (fun ls hl => ?_)
            refine lv_goto (tgt := 9) hx hb dX5_liveBelow_50 (by decide) ?_
            exact ih9 x2 (x3 + 1) _ _ ls hP hD hS (lv_sub hl [1, 2, 3, 0] rfl) h
          · have h := o_neg hc h
            refine lv_aload_n hx hb dX5_liveBelow_32 rfl (lv_at hl 0 rfl) ?_
            refine xgX5_0 hx hb hts iX5 hown hK hP hf12 dX5_liveBelow_33 ?_
            refine lv_iload_n hx hb dX5_liveBelow_36 rfl (lv_at hl 3 rfl) ?_
            refine lv_iload_n hx hb dX5_liveBelow_37 rfl (lv_at hl 1 rfl) ?_
            obtain ⟨v4, ev4, h⟩ := o_bind h
            refine g_cVi (As := [.int x3, .int x1]) (rest := []) ⟨hx, hb, hml, hown, hts⟩ (m_X0_under l hst D cy tx ad R _ S x3 x1 v4 ev4) (cwV 2 hts gX5_liveBelow_X0_under rfl rfl rfl (by decide +kernel) ⟨Nat.le_of_ble_eq_true rfl, Nat.le_of_ble_eq_true rfl⟩) (va_recv hK hP (ci := 0) (q0 := 1) rfl rfl) hP hK hD hS hA hE rfl hl.1 rfl (Nat.le_of_ble_eq_true rfl) dX5_liveBelow_38 ⟨Nat.le_of_ble_eq_true rfl, Nat.le_of_ble_eq_true rfl⟩ (fun H locs hP hD hS => ?_)
            refine lv_if_eq (tgt := 47) hx hb dX5_liveBelow_41 (by decide) (fun hc => ?_) (fun hc => ?_)
            · have h := o_pos hc h
              refine lv_iinc (v := (x3 + 1)) (lv' := [(3, .int (x3 + 1)), (0, .ref (ad 0)), (1, .int x1), (2, .int x2)]) hx hb dX5_liveBelow_47 hl (k := 3) rfl rfl (by decide) rfl (fun ls hl => ?_)
              refine lv_goto (tgt := 9) hx hb dX5_liveBelow_50 (by decide) ?_
              exact ih9 x2 (x3 + 1) _ _ ls hP hD hS (lv_sub hl [1, 2, 3, 0] rfl) h
            · have h := o_neg hc h
              refine lv_iinc (v := (x2 + 1)) (lv' := [(2, .int (x2 + 1)), (0, .ref (ad 0)), (1, .int x1), (3, .int x3)]) hx hb dX5_liveBelow_44 hl (k := 2) rfl rfl (by decide) rfl (fun ls hl => ?_)
              refine lv_iinc (v := (x3 + 1)) (lv' := [(3, .int (x3 + 1)), (2, .int (x2 + 1)), (0, .ref (ad 0)), (1, .int x1)]) hx hb dX5_liveBelow_47 hl (k := 3) rfl rfl (by decide) rfl (fun ls hl => ?_)
              refine lv_goto (tgt := 9) hx hb dX5_liveBelow_50 (by decide) ?_
              exact ih9 (x2 + 1) (x3 + 1) _ _ ls hP hD hS (lv_sub hl [2, 3, 1, 0] rfl) h
    exact L9  1000 0 0 _ _ ls hP hD hS (lv_sub hl [2, 3, 1, 0] rfl) h
set_option maxHeartbeats 4000000 in
set_option maxRecDepth 100000 in
theorem m_X5_addMethod (l : Launch) (hst : l.stackTraces = false) (D : va_G) (cy : Nat → ClassId) (tx : List (ClassId × FieldType)) (ad : Nat → Nat) (R : va_W) (sz : Nat) (S : PS) (x1 : Int32) (x2 : Int32) (x3 : Int32) (o : Nat ⊕ (PS × Int32)) (h : q_X5_addMethod S x1 x2 x3 = some o) : gXi l yX5_addMethod wsX5_addMethod ({ frames := 7, cells := 3, slots := 18, locals := 103 }) 3 18 D (gT cy ++ tx) [.ref (ad 0), .int x1, .int x2, .int x3] sz (xW cy ad S R) (fun u => (xW cy ad u R)) o := by
  refine vx_ofW (cc := cX5_addMethod) (maxL := 4) (ret := (some .int)) (by decide) rfl ?_
  intro p e s m args below meth c s₁ B hml hnt hv
  obtain ⟨hav, hsz, hP, hK, hD0, hE⟩ := hv
  have hx := B.exec
  have hb := B.bytes
  have hr := B.returns
  have hts := atoms_spec (ws := wsX5_addMethod) B.pre
  have hown : s.vm.findClass RX5 = some m.cls := findClass_of_methodNamed B.named
  have hlocks := B.notSynchronized
  subst hsz
  have hD := hD0.self (sz := s.heap.size)
  generalize hAe : va_A (xW cy ad S R) s.heap.size = A at hD hE ⊢
  have hA : ∀ q : Nat, s.heap.size ≤ q → A q := fun q h => by rw [← hAe]; exact Or.inr h
  have hS : va_S A s.heap s.heap [] := va_S.rf
  have iX2 : ∀ w ∈ u_ws RX2 TX2 8, w ∈ wsX5_addMethod := by decide +kernel
  have iX5 : ∀ w ∈ u_ws RX5 TX5 4, w ∈ wsX5_addMethod := by decide +kernel
  have hf21 := hts (.fieldLink RX5 21 "InlinePlanner" "program" "LInlinePlanner$Program;") (by decide +kernel)
  have hf85 := hts (.fieldLink RX5 85 "InlinePlanner$Program" "count" "I") (by decide +kernel)
  refine g_entry (n := 4) hav (Nat.le_of_ble_eq_true rfl) (fun ls hl => ?_)
  have hl : lv_has ls 4 [(0, .ref (ad 0)), (1, .int x1), (2, .int x2), (3, .int x3)] := hl
  refine g_nameQ (fun Q hQ => ?_)
  unfold q_X5_addMethod at h
  refine lv_aload_n hx hb dX5_addMethod_0 rfl (lv_at hl 0 rfl) ?_
  refine lv_iload_n hx hb dX5_addMethod_1 rfl (lv_at hl 1 rfl) ?_
  rcases x_bind h with ⟨k2, ek2, h⟩ | ⟨v1, ek2, h⟩
  · refine g_tYv (As := [.int x1]) (rest := []) ⟨hx, hb, hml, hown, hts⟩ (m_X5_checkClass l hst D cy tx ad R _ S x1 (.inl k2) ek2) (cwV 1 hts gX5_addMethod_X5_checkClass rfl rfl rfl (by decide +kernel) ⟨Nat.le_of_ble_eq_true rfl, Nat.le_of_ble_eq_true rfl⟩) (va_recv hK hP (ci := 5) (q0 := 0) rfl rfl) hP hK hD hS hA hE rfl hl.1 rfl (Nat.le_of_ble_eq_true rfl) dX5_addMethod_2 ⟨Nat.le_of_ble_eq_true rfl, Nat.le_of_ble_eq_true rfl⟩ (fun ce q9 H locs hP hD hS hce hcv hcl => ?_)
    exact g_xout hQ hnt hlocks h hP hK hD hS hce hcv hcl (Nat.le_of_ble_eq_true rfl) (Nat.le_of_ble_eq_true rfl)
  · refine g_rYv (As := [.int x1]) (rest := []) ⟨hx, hb, hml, hown, hts⟩ (m_X5_checkClass l hst D cy tx ad R _ S x1 (.inr v1) ek2) (cwV 1 hts gX5_addMethod_X5_checkClass rfl rfl rfl (by decide +kernel) ⟨Nat.le_of_ble_eq_true rfl, Nat.le_of_ble_eq_true rfl⟩) (va_recv hK hP (ci := 5) (q0 := 0) rfl rfl) hP hK hD hS hA hE rfl hl.1 rfl (Nat.le_of_ble_eq_true rfl) dX5_addMethod_2 ⟨Nat.le_of_ble_eq_true rfl, Nat.le_of_ble_eq_true rfl⟩ (fun H locs hP hD hS => ?_)
    refine W.widen (k := 1) (n := 6) (Nat.le_of_ble_eq_true rfl) (Nat.le_of_ble_eq_true rfl) ?_
    refine lv_aload_n hx hb dX5_addMethod_5 rfl (lv_at hl 0 rfl) ?_
    refine lv_iload_n hx hb dX5_addMethod_6 rfl (lv_at hl 2 rfl) ?_
    rcases x_bind h with ⟨k4, ek4, h⟩ | ⟨v3, ek4, h⟩
    · refine g_tYv (As := [.int x2]) (rest := []) ⟨hx, hb, hml, hown, hts⟩ (m_X5_checkSelector l hst D cy tx ad R _ S x2 (.inl k4) ek4) (cwV 1 hts gX5_addMethod_X5_checkSelector rfl rfl rfl (by decide +kernel) ⟨Nat.le_of_ble_eq_true rfl, Nat.le_of_ble_eq_true rfl⟩) (va_recv hK hP (ci := 5) (q0 := 0) rfl rfl) hP hK hD hS hA hE rfl hl.1 rfl (Nat.le_of_ble_eq_true rfl) dX5_addMethod_7 ⟨Nat.le_of_ble_eq_true rfl, Nat.le_of_ble_eq_true rfl⟩ (fun ce q9 H locs hP hD hS hce hcv hcl => ?_)
      exact g_xout hQ hnt hlocks h hP hK hD hS hce hcv hcl (Nat.le_of_ble_eq_true rfl) (Nat.le_of_ble_eq_true rfl)
    · refine g_rYv (As := [.int x2]) (rest := []) ⟨hx, hb, hml, hown, hts⟩ (m_X5_checkSelector l hst D cy tx ad R _ S x2 (.inr v3) ek4) (cwV 1 hts gX5_addMethod_X5_checkSelector rfl rfl rfl (by decide +kernel) ⟨Nat.le_of_ble_eq_true rfl, Nat.le_of_ble_eq_true rfl⟩) (va_recv hK hP (ci := 5) (q0 := 0) rfl rfl) hP hK hD hS hA hE rfl hl.1 rfl (Nat.le_of_ble_eq_true rfl) dX5_addMethod_7 ⟨Nat.le_of_ble_eq_true rfl, Nat.le_of_ble_eq_true rfl⟩ (fun H locs hP hD hS => ?_)
      refine W.widen (k := 2) (n := 12) (Nat.le_of_ble_eq_true rfl) (Nat.le_of_ble_eq_true rfl) ?_
      refine lv_iload_n hx hb dX5_addMethod_10 rfl (lv_at hl 3 rfl) ?_
      refine lv_iconst (v := 1) hx hb dX5_addMethod_11 (by decide) ?_
      refine lv_icmp_lt (tgt := 21) hx hb dX5_addMethod_12 (by decide) (fun hc => ?_) (fun hc => ?_)
      · have h := o_pos hc h
        exact g_throw (k := 3) (ik := 75) (is := 77) (ic := 79) (text := "the size is not 1 to 100") hQ hx hb hst hnt hlocks (by rw [hml]; exact hl.1.symm) hown hts hE (by decide +kernel) (by decide +kernel) (by decide +kernel) (by decide +kernel) (fun _ h => List.mem_cons_of_mem _ (List.mem_append_left _ (List.mem_append_left _ (List.mem_append_right _ h)))) (by decide +kernel) (by decide +kernel) (Option.some.inj h) hP hK hD hS dX5_addMethod_21 dX5_addMethod_24 dX5_addMethod_25 dX5_addMethod_27 dX5_addMethod_30 (Nat.le_of_ble_eq_true rfl) (Nat.le_of_ble_eq_true rfl) (Nat.le_of_ble_eq_true rfl) (Nat.le_of_ble_eq_true rfl) (Nat.le_of_ble_eq_true rfl) (Nat.le_of_ble_eq_true rfl)
      · have h := o_neg hc h
        refine lv_iload_n hx hb dX5_addMethod_15 rfl (lv_at hl 3 rfl) ?_
        refine lv_bipush (v := 100) hx hb dX5_addMethod_16 (by decide) ?_
        refine lv_icmp_le (tgt := 31) hx hb dX5_addMethod_18 (by decide) (fun hc => ?_) (fun hc => ?_)
        · have h := o_pos hc h
          refine lv_aload_n hx hb dX5_addMethod_31 rfl (lv_at hl 0 rfl) ?_
          refine xgX5_1 hx hb hts iX5 hown hK hP hf21 dX5_addMethod_32 ?_
          refine lv_iload_n hx hb dX5_addMethod_35 rfl (lv_at hl 1 rfl) ?_
          refine lv_iload_n hx hb dX5_addMethod_36 rfl (lv_at hl 2 rfl) ?_
          obtain ⟨v5, ev5, h⟩ := o_bind h
          refine g_cVi (As := [.int x1, .int x2]) (rest := []) ⟨hx, hb, hml, hown, hts⟩ (m_X2_hasOwn l hst D cy tx ad R _ S x1 x2 v5 ev5) (cwV 2 hts gX5_addMethod_X2_hasOwn rfl rfl rfl (by decide +kernel) ⟨Nat.le_of_ble_eq_true rfl, Nat.le_of_ble_eq_true rfl⟩) (va_recv hK hP (ci := 2) (q0 := 2) rfl rfl) hP hK hD hS hA hE rfl hl.1 rfl (Nat.le_of_ble_eq_true rfl) dX5_addMethod_37 ⟨Nat.le_of_ble_eq_true rfl, Nat.le_of_ble_eq_true rfl⟩ (fun H locs hP hD hS => ?_)
          refine lv_if_eq (tgt := 53) hx hb dX5_addMethod_40 (by decide) (fun hc => ?_) (fun hc => ?_)
          · have h := o_pos hc h
            refine lv_aload_n hx hb dX5_addMethod_53 rfl (lv_at hl 0 rfl) ?_
            refine xgX5_1 hx hb hts iX5 hown hK hP hf21 dX5_addMethod_54 ?_
            refine xgX2_0 hx hb hts iX2 hown hK hP hf85 dX5_addMethod_57 ?_
            refine lv_bipush (v := 30) hx hb dX5_addMethod_60 (by decide) ?_
            refine lv_icmp_lt (tgt := 75) hx hb dX5_addMethod_62 (by decide) (fun hc => ?_) (fun hc => ?_)
            · have h := o_pos hc h
              refine lv_aload_n hx hb dX5_addMethod_75 rfl (lv_at hl 0 rfl) ?_
              refine xgX5_1 hx hb hts iX5 hown hK hP hf21 dX5_addMethod_76 ?_
              refine lv_iload_n hx hb dX5_addMethod_79 rfl (lv_at hl 1 rfl) ?_
              refine lv_iload_n hx hb dX5_addMethod_80 rfl (lv_at hl 2 rfl) ?_
              refine lv_iload_n hx hb dX5_addMethod_81 rfl (lv_at hl 3 rfl) ?_
              obtain ⟨⟨S7, v6⟩, ev6, h⟩ := o_bind h
              refine g_cVi (As := [.int x1, .int x2, .int x3]) (rest := []) ⟨hx, hb, hml, hown, hts⟩ (m_X2_appendMethod l hst D cy tx ad R _ S x1 x2 x3 S7 v6 ev6) (cwV 3 hts gX5_addMethod_X2_appendMethod rfl rfl rfl (by decide +kernel) ⟨Nat.le_of_ble_eq_true rfl, Nat.le_of_ble_eq_true rfl⟩) (va_recv hK hP (ci := 2) (q0 := 2) rfl rfl) hP hK hD hS hA hE rfl hl.1 rfl (Nat.le_of_ble_eq_true rfl) dX5_addMethod_82 ⟨Nat.le_of_ble_eq_true rfl, Nat.le_of_ble_eq_true rfl⟩ (fun H locs hP hD hS => ?_)
              exact g_iretX (Wf := fun u => (xW cy ad u R)) (S1 := S7) hQ hx hb hr hP hK hD hS (Nat.le_of_ble_eq_true rfl) (Nat.le_of_ble_eq_true rfl) dX5_addMethod_85 hlocks (Option.some.inj h)
            · have h := o_neg hc h
              exact g_throw (k := 2) (ik := 49) (is := 86) (ic := 53) (text := "there are 30 methods") hQ hx hb hst hnt hlocks (by rw [hml]; exact hl.1.symm) hown hts hE (by decide +kernel) (by decide +kernel) (by decide +kernel) (by decide +kernel) (fun _ h => List.mem_cons_of_mem _ (List.mem_append_left _ (List.mem_append_right _ h))) (by decide +kernel) (by decide +kernel) (Option.some.inj h) hP hK hD hS dX5_addMethod_65 dX5_addMethod_68 dX5_addMethod_69 dX5_addMethod_71 dX5_addMethod_74 (Nat.le_of_ble_eq_true rfl) (Nat.le_of_ble_eq_true rfl) (Nat.le_of_ble_eq_true rfl) (Nat.le_of_ble_eq_true rfl) (Nat.le_of_ble_eq_true rfl) (Nat.le_of_ble_eq_true rfl)
          · have h := o_neg hc h
            exact g_throw (k := 3) (ik := 75) (is := 83) (ic := 79) (text := "the class has a method for this selector") hQ hx hb hst hnt hlocks (by rw [hml]; exact hl.1.symm) hown hts hE (by decide +kernel) (by decide +kernel) (by decide +kernel) (by decide +kernel) (fun _ h => List.mem_cons_of_mem _ (List.mem_append_left _ (List.mem_append_left _ (List.mem_append_right _ h)))) (by decide +kernel) (by decide +kernel) (Option.some.inj h) hP hK hD hS dX5_addMethod_43 dX5_addMethod_46 dX5_addMethod_47 dX5_addMethod_49 dX5_addMethod_52 (Nat.le_of_ble_eq_true rfl) (Nat.le_of_ble_eq_true rfl) (Nat.le_of_ble_eq_true rfl) (Nat.le_of_ble_eq_true rfl) (Nat.le_of_ble_eq_true rfl) (Nat.le_of_ble_eq_true rfl)
        · have h := o_neg hc h
          exact g_throw (k := 3) (ik := 75) (is := 77) (ic := 79) (text := "the size is not 1 to 100") hQ hx hb hst hnt hlocks (by rw [hml]; exact hl.1.symm) hown hts hE (by decide +kernel) (by decide +kernel) (by decide +kernel) (by decide +kernel) (fun _ h => List.mem_cons_of_mem _ (List.mem_append_left _ (List.mem_append_left _ (List.mem_append_right _ h)))) (by decide +kernel) (by decide +kernel) (Option.some.inj h) hP hK hD hS dX5_addMethod_21 dX5_addMethod_24 dX5_addMethod_25 dX5_addMethod_27 dX5_addMethod_30 (Nat.le_of_ble_eq_true rfl) (Nat.le_of_ble_eq_true rfl) (Nat.le_of_ble_eq_true rfl) (Nat.le_of_ble_eq_true rfl) (Nat.le_of_ble_eq_true rfl) (Nat.le_of_ble_eq_true rfl)
set_option maxHeartbeats 4000000 in
set_option maxRecDepth 100000 in
theorem m_X5_addCall (l : Launch) (hst : l.stackTraces = false) (D : va_G) (cy : Nat → ClassId) (tx : List (ClassId × FieldType)) (ad : Nat → Nat) (R : va_W) (sz : Nat) (S : PS) (x1 : Int32) (x2 : Int32) (x3 : Int32) (x4 : Int32) (o : Nat ⊕ (PS × Int32)) (h : q_X5_addCall S x1 x2 x3 x4 = some o) : gXi l yX5_addCall wsX5_addCall ({ frames := 7, cells := 4, slots := 24, locals := 103 }) 4 24 D (gT cy ++ tx) [.ref (ad 0), .int x1, .int x2, .int x3, .int x4] sz (xW cy ad S R) (fun u => (xW cy ad u R)) o := by
  refine vx_ofW (cc := cX5_addCall) (maxL := 5) (ret := (some .int)) (by decide) rfl ?_
  intro p e s m args below meth c s₁ B hml hnt hv
  obtain ⟨hav, hsz, hP, hK, hD0, hE⟩ := hv
  have hx := B.exec
  have hb := B.bytes
  have hr := B.returns
  have hts := atoms_spec (ws := wsX5_addCall) B.pre
  have hown : s.vm.findClass RX5 = some m.cls := findClass_of_methodNamed B.named
  have hlocks := B.notSynchronized
  subst hsz
  have hD := hD0.self (sz := s.heap.size)
  generalize hAe : va_A (xW cy ad S R) s.heap.size = A at hD hE ⊢
  have hA : ∀ q : Nat, s.heap.size ≤ q → A q := fun q h => by rw [← hAe]; exact Or.inr h
  have hS : va_S A s.heap s.heap [] := va_S.rf
  have iX2 : ∀ w ∈ u_ws RX2 TX2 8, w ∈ wsX5_addCall := by decide +kernel
  have iX5 : ∀ w ∈ u_ws RX5 TX5 4, w ∈ wsX5_addCall := by decide +kernel
  have hf21 := hts (.fieldLink RX5 21 "InlinePlanner" "program" "LInlinePlanner$Program;") (by decide +kernel)
  have hf37 := hts (.fieldLink RX5 37 "InlinePlanner" "tree" "LInlinePlanner$Tree;") (by decide +kernel)
  have hf97 := hts (.fieldLink RX5 97 "InlinePlanner$Program" "siteCounts" "[I") (by decide +kernel)
  refine g_entry (n := 5) hav (Nat.le_of_ble_eq_true rfl) (fun ls hl => ?_)
  have hl : lv_has ls 5 [(0, .ref (ad 0)), (1, .int x1), (2, .int x2), (3, .int x3), (4, .int x4)] := hl
  refine g_nameQ (fun Q hQ => ?_)
  unfold q_X5_addCall at h
  refine lv_aload_n hx hb dX5_addCall_0 rfl (lv_at hl 0 rfl) ?_
  refine lv_iload_n hx hb dX5_addCall_1 rfl (lv_at hl 1 rfl) ?_
  rcases x_bind h with ⟨k2, ek2, h⟩ | ⟨v1, ek2, h⟩
  · refine g_tYv (As := [.int x1]) (rest := []) ⟨hx, hb, hml, hown, hts⟩ (m_X5_checkMethod l hst D cy tx ad R _ S x1 (.inl k2) ek2) (cwV 1 hts gX5_addCall_X5_checkMethod rfl rfl rfl (by decide +kernel) ⟨Nat.le_of_ble_eq_true rfl, Nat.le_of_ble_eq_true rfl⟩) (va_recv hK hP (ci := 5) (q0 := 0) rfl rfl) hP hK hD hS hA hE rfl hl.1 rfl (Nat.le_of_ble_eq_true rfl) dX5_addCall_2 ⟨Nat.le_of_ble_eq_true rfl, Nat.le_of_ble_eq_true rfl⟩ (fun ce q9 H locs hP hD hS hce hcv hcl => ?_)
    exact g_xout hQ hnt hlocks h hP hK hD hS hce hcv hcl (Nat.le_of_ble_eq_true rfl) (Nat.le_of_ble_eq_true rfl)
  · refine g_rYv (As := [.int x1]) (rest := []) ⟨hx, hb, hml, hown, hts⟩ (m_X5_checkMethod l hst D cy tx ad R _ S x1 (.inr v1) ek2) (cwV 1 hts gX5_addCall_X5_checkMethod rfl rfl rfl (by decide +kernel) ⟨Nat.le_of_ble_eq_true rfl, Nat.le_of_ble_eq_true rfl⟩) (va_recv hK hP (ci := 5) (q0 := 0) rfl rfl) hP hK hD hS hA hE rfl hl.1 rfl (Nat.le_of_ble_eq_true rfl) dX5_addCall_2 ⟨Nat.le_of_ble_eq_true rfl, Nat.le_of_ble_eq_true rfl⟩ (fun H locs hP hD hS => ?_)
    refine W.widen (k := 1) (n := 6) (Nat.le_of_ble_eq_true rfl) (Nat.le_of_ble_eq_true rfl) ?_
    refine lv_aload_n hx hb dX5_addCall_5 rfl (lv_at hl 0 rfl) ?_
    refine lv_iload_n hx hb dX5_addCall_6 rfl (lv_at hl 2 rfl) ?_
    rcases x_bind h with ⟨k4, ek4, h⟩ | ⟨v3, ek4, h⟩
    · refine g_tYv (As := [.int x2]) (rest := []) ⟨hx, hb, hml, hown, hts⟩ (m_X5_checkClass l hst D cy tx ad R _ S x2 (.inl k4) ek4) (cwV 1 hts gX5_addCall_X5_checkClass rfl rfl rfl (by decide +kernel) ⟨Nat.le_of_ble_eq_true rfl, Nat.le_of_ble_eq_true rfl⟩) (va_recv hK hP (ci := 5) (q0 := 0) rfl rfl) hP hK hD hS hA hE rfl hl.1 rfl (Nat.le_of_ble_eq_true rfl) dX5_addCall_7 ⟨Nat.le_of_ble_eq_true rfl, Nat.le_of_ble_eq_true rfl⟩ (fun ce q9 H locs hP hD hS hce hcv hcl => ?_)
      exact g_xout hQ hnt hlocks h hP hK hD hS hce hcv hcl (Nat.le_of_ble_eq_true rfl) (Nat.le_of_ble_eq_true rfl)
    · refine g_rYv (As := [.int x2]) (rest := []) ⟨hx, hb, hml, hown, hts⟩ (m_X5_checkClass l hst D cy tx ad R _ S x2 (.inr v3) ek4) (cwV 1 hts gX5_addCall_X5_checkClass rfl rfl rfl (by decide +kernel) ⟨Nat.le_of_ble_eq_true rfl, Nat.le_of_ble_eq_true rfl⟩) (va_recv hK hP (ci := 5) (q0 := 0) rfl rfl) hP hK hD hS hA hE rfl hl.1 rfl (Nat.le_of_ble_eq_true rfl) dX5_addCall_7 ⟨Nat.le_of_ble_eq_true rfl, Nat.le_of_ble_eq_true rfl⟩ (fun H locs hP hD hS => ?_)
      refine W.widen (k := 2) (n := 12) (Nat.le_of_ble_eq_true rfl) (Nat.le_of_ble_eq_true rfl) ?_
      refine lv_aload_n hx hb dX5_addCall_10 rfl (lv_at hl 0 rfl) ?_
      refine lv_iload_n hx hb dX5_addCall_11 rfl (lv_at hl 3 rfl) ?_
      rcases x_bind h with ⟨k6, ek6, h⟩ | ⟨v5, ek6, h⟩
      · refine g_tYv (As := [.int x3]) (rest := []) ⟨hx, hb, hml, hown, hts⟩ (m_X5_checkSelector l hst D cy tx ad R _ S x3 (.inl k6) ek6) (cwV 1 hts gX5_addCall_X5_checkSelector rfl rfl rfl (by decide +kernel) ⟨Nat.le_of_ble_eq_true rfl, Nat.le_of_ble_eq_true rfl⟩) (va_recv hK hP (ci := 5) (q0 := 0) rfl rfl) hP hK hD hS hA hE rfl hl.1 rfl (Nat.le_of_ble_eq_true rfl) dX5_addCall_12 ⟨Nat.le_of_ble_eq_true rfl, Nat.le_of_ble_eq_true rfl⟩ (fun ce q9 H locs hP hD hS hce hcv hcl => ?_)
        exact g_xout hQ hnt hlocks h hP hK hD hS hce hcv hcl (Nat.le_of_ble_eq_true rfl) (Nat.le_of_ble_eq_true rfl)
      · refine g_rYv (As := [.int x3]) (rest := []) ⟨hx, hb, hml, hown, hts⟩ (m_X5_checkSelector l hst D cy tx ad R _ S x3 (.inr v5) ek6) (cwV 1 hts gX5_addCall_X5_checkSelector rfl rfl rfl (by decide +kernel) ⟨Nat.le_of_ble_eq_true rfl, Nat.le_of_ble_eq_true rfl⟩) (va_recv hK hP (ci := 5) (q0 := 0) rfl rfl) hP hK hD hS hA hE rfl hl.1 rfl (Nat.le_of_ble_eq_true rfl) dX5_addCall_12 ⟨Nat.le_of_ble_eq_true rfl, Nat.le_of_ble_eq_true rfl⟩ (fun H locs hP hD hS => ?_)
        refine W.widen (k := 3) (n := 18) (Nat.le_of_ble_eq_true rfl) (Nat.le_of_ble_eq_true rfl) ?_
        refine lv_iload hx hb dX5_addCall_15 (lv_at hl 4 rfl) ?_
        refine lv_iconst (v := 1) hx hb dX5_addCall_17 (by decide) ?_
        refine lv_icmp_lt (tgt := 28) hx hb dX5_addCall_18 (by decide) (fun hc => ?_) (fun hc => ?_)
        · have h := o_pos hc h
          exact g_throw (k := 3) (ik := 75) (is := 95) (ic := 79) (text := "the frequency is not 1 to 20") hQ hx hb hst hnt hlocks (by rw [hml]; exact hl.1.symm) hown hts hE (by decide +kernel) (by decide +kernel) (by decide +kernel) (by decide +kernel) (fun _ h => List.mem_cons_of_mem _ (List.mem_append_left _ (List.mem_append_left _ (List.mem_append_right _ h)))) (by decide +kernel) (by decide +kernel) (Option.some.inj h) hP hK hD hS dX5_addCall_28 dX5_addCall_31 dX5_addCall_32 dX5_addCall_34 dX5_addCall_37 (Nat.le_of_ble_eq_true rfl) (Nat.le_of_ble_eq_true rfl) (Nat.le_of_ble_eq_true rfl) (Nat.le_of_ble_eq_true rfl) (Nat.le_of_ble_eq_true rfl) (Nat.le_of_ble_eq_true rfl)
        · have h := o_neg hc h
          refine lv_iload hx hb dX5_addCall_21 (lv_at hl 4 rfl) ?_
          refine lv_bipush (v := 20) hx hb dX5_addCall_23 (by decide) ?_
          refine lv_icmp_le (tgt := 38) hx hb dX5_addCall_25 (by decide) (fun hc => ?_) (fun hc => ?_)
          · have h := o_pos hc h
            refine lv_aload_n hx hb dX5_addCall_38 rfl (lv_at hl 0 rfl) ?_
            refine xgX5_1 hx hb hts iX5 hown hK hP hf21 dX5_addCall_39 ?_
            refine xgX2_2 hx hb hts iX2 hown hK hP hf97 dX5_addCall_42 ?_
            refine lv_iload_n hx hb dX5_addCall_45 rfl (lv_at hl 1 rfl) ?_
            obtain ⟨v7, ev7, h⟩ := o_bind h
            refine xld4 hx hb hK hP ev7 dX5_addCall_46 ?_
            refine lv_bipush (v := 8) hx hb dX5_addCall_47 (by decide) ?_
            refine lv_icmp_lt (tgt := 62) hx hb dX5_addCall_49 (by decide) (fun hc => ?_) (fun hc => ?_)
            · have h := o_pos hc h
              refine lv_aload_n hx hb dX5_addCall_62 rfl (lv_at hl 0 rfl) ?_
              refine xgX5_3 hx hb hts iX5 hown hK hP hf37 dX5_addCall_63 ?_
              obtain ⟨S9, ev8, h⟩ := o_bind h
              refine g_cVv (As := []) (rest := []) ⟨hx, hb, hml, hown, hts⟩ (m_X3_remove l hst D cy tx ad R _ S  S9 ev8) (cwV 0 hts gX5_addCall_X3_remove rfl rfl rfl (by decide +kernel) ⟨Nat.le_of_ble_eq_true rfl, Nat.le_of_ble_eq_true rfl⟩) (va_recv hK hP (ci := 3) (q0 := 4) rfl rfl) hP hK hD hS hA hE rfl hl.1 rfl (Nat.le_of_ble_eq_true rfl) dX5_addCall_66 ⟨Nat.le_of_ble_eq_true rfl, Nat.le_of_ble_eq_true rfl⟩ (fun H locs hP hD hS => ?_)
              refine lv_aload_n hx hb dX5_addCall_69 rfl (lv_at hl 0 rfl) ?_
              refine xgX5_1 hx hb hts iX5 hown hK hP hf21 dX5_addCall_70 ?_
              refine lv_iload_n hx hb dX5_addCall_73 rfl (lv_at hl 1 rfl) ?_
              refine lv_iload_n hx hb dX5_addCall_74 rfl (lv_at hl 2 rfl) ?_
              refine lv_iload_n hx hb dX5_addCall_75 rfl (lv_at hl 3 rfl) ?_
              refine lv_iload hx hb dX5_addCall_76 (lv_at hl 4 rfl) ?_
              obtain ⟨⟨S11, v10⟩, ev10, h⟩ := o_bind h
              refine g_cVi (As := [.int x1, .int x2, .int x3, .int x4]) (rest := []) ⟨hx, hb, hml, hown, hts⟩ (m_X2_appendSite l hst D cy tx ad R _ S9 x1 x2 x3 x4 S11 v10 ev10) (cwV 4 hts gX5_addCall_X2_appendSite rfl rfl rfl (by decide +kernel) ⟨Nat.le_of_ble_eq_true rfl, Nat.le_of_ble_eq_true rfl⟩) (va_recv hK hP (ci := 2) (q0 := 2) rfl rfl) hP hK hD hS hA hE rfl hl.1 rfl (Nat.le_of_ble_eq_true rfl) dX5_addCall_78 ⟨Nat.le_of_ble_eq_true rfl, Nat.le_of_ble_eq_true rfl⟩ (fun H locs hP hD hS => ?_)
              exact g_iretX (Wf := fun u => (xW cy ad u R)) (S1 := S11) hQ hx hb hr hP hK hD hS (Nat.le_of_ble_eq_true rfl) (Nat.le_of_ble_eq_true rfl) dX5_addCall_81 hlocks (Option.some.inj h)
            · have h := o_neg hc h
              exact g_throw (k := 2) (ik := 49) (is := 100) (ic := 53) (text := "the method has 8 sites") hQ hx hb hst hnt hlocks (by rw [hml]; exact hl.1.symm) hown hts hE (by decide +kernel) (by decide +kernel) (by decide +kernel) (by decide +kernel) (fun _ h => List.mem_cons_of_mem _ (List.mem_append_left _ (List.mem_append_right _ h))) (by decide +kernel) (by decide +kernel) (Option.some.inj h) hP hK hD hS dX5_addCall_52 dX5_addCall_55 dX5_addCall_56 dX5_addCall_58 dX5_addCall_61 (Nat.le_of_ble_eq_true rfl) (Nat.le_of_ble_eq_true rfl) (Nat.le_of_ble_eq_true rfl) (Nat.le_of_ble_eq_true rfl) (Nat.le_of_ble_eq_true rfl) (Nat.le_of_ble_eq_true rfl)
          · have h := o_neg hc h
            exact g_throw (k := 3) (ik := 75) (is := 95) (ic := 79) (text := "the frequency is not 1 to 20") hQ hx hb hst hnt hlocks (by rw [hml]; exact hl.1.symm) hown hts hE (by decide +kernel) (by decide +kernel) (by decide +kernel) (by decide +kernel) (fun _ h => List.mem_cons_of_mem _ (List.mem_append_left _ (List.mem_append_left _ (List.mem_append_right _ h)))) (by decide +kernel) (by decide +kernel) (Option.some.inj h) hP hK hD hS dX5_addCall_28 dX5_addCall_31 dX5_addCall_32 dX5_addCall_34 dX5_addCall_37 (Nat.le_of_ble_eq_true rfl) (Nat.le_of_ble_eq_true rfl) (Nat.le_of_ble_eq_true rfl) (Nat.le_of_ble_eq_true rfl) (Nat.le_of_ble_eq_true rfl) (Nat.le_of_ble_eq_true rfl)
set_option maxHeartbeats 4000000 in
set_option maxRecDepth 100000 in
theorem m_X5_methodCount (l : Launch) (hst : l.stackTraces = false) (D : va_G) (cy : Nat → ClassId) (tx : List (ClassId × FieldType)) (ad : Nat → Nat) (R : va_W) (sz : Nat) (S : PS)  (v : Int32) (h : q_X5_methodCount S = some v) : gMi l yX5_methodCount wsX5_methodCount ({ frames := 0, cells := 0, slots := 0, locals := 0 }) 0 0 D (gT cy ++ tx) [.ref (ad 0)] sz (xW cy ad S R) (xW cy ad S R) v := by
  refine Met.ofW (cc := cX5_methodCount) (maxL := 1) (ret := (some .int)) (by decide) rfl ?_
  intro p e s m args below meth c s₁ B hml hv
  obtain ⟨hav, hsz, hP, hK, hD0, hE⟩ := hv
  have hx := B.exec
  have hb := B.bytes
  have hr := B.returns
  have hts := atoms_spec (ws := wsX5_methodCount) B.pre
  have hown : s.vm.findClass RX5 = some m.cls := findClass_of_methodNamed B.named
  have hlocks := B.notSynchronized
  subst hsz
  have hD := hD0.self (sz := s.heap.size)
  generalize hAe : va_A (xW cy ad S R) s.heap.size = A at hD hE ⊢
  have hA : ∀ q : Nat, s.heap.size ≤ q → A q := fun q h => by rw [← hAe]; exact Or.inr h
  have hS : va_S A s.heap s.heap [] := va_S.rf
  have iX2 : ∀ w ∈ u_ws RX2 TX2 8, w ∈ wsX5_methodCount := by decide +kernel
  have iX5 : ∀ w ∈ u_ws RX5 TX5 4, w ∈ wsX5_methodCount := by decide +kernel
  have hf21 := hts (.fieldLink RX5 21 "InlinePlanner" "program" "LInlinePlanner$Program;") (by decide +kernel)
  have hf85 := hts (.fieldLink RX5 85 "InlinePlanner$Program" "count" "I") (by decide +kernel)
  refine g_entry (n := 1) hav (Nat.le_of_ble_eq_true rfl) (fun ls hl => ?_)
  have hl : lv_has ls 1 [(0, .ref (ad 0))] := hl
  refine g_nameQ (fun Q hQ => ?_)
  unfold q_X5_methodCount at h
  refine lv_aload_n hx hb dX5_methodCount_0 rfl (lv_at hl 0 rfl) ?_
  refine xgX5_1 hx hb hts iX5 hown hK hP hf21 dX5_methodCount_1 ?_
  refine xgX2_0 hx hb hts iX2 hown hK hP hf85 dX5_methodCount_4 ?_
  exact g_iret hQ hx hb hr hP hK hD hS (Nat.le_of_ble_eq_true rfl) (Nat.le_of_ble_eq_true rfl) dX5_methodCount_7 hlocks (Option.some.inj h)
set_option maxHeartbeats 4000000 in
set_option maxRecDepth 100000 in
theorem m_X5_found (l : Launch) (hst : l.stackTraces = false) (D : va_G) (cy : Nat → ClassId) (tx : List (ClassId × FieldType)) (ad : Nat → Nat) (R : va_W) (sz : Nat) (S : PS) (x1 : Int32) (x2 : Int32) (o : Nat ⊕ Int32) (h : q_X5_found S x1 x2 = some o) : gYi l yX5_found wsX5_found ({ frames := 7, cells := 2, slots := 12, locals := 103 }) 2 12 D (gT cy ++ tx) [.ref (ad 0), .int x1, .int x2] sz (xW cy ad S R) o := by
  refine vx_ofW (cc := cX5_found) (maxL := 3) (ret := (some .int)) (by decide) rfl ?_
  intro p e s m args below meth c s₁ B hml hnt hv
  obtain ⟨hav, hsz, hP, hK, hD0, hE⟩ := hv
  have hx := B.exec
  have hb := B.bytes
  have hr := B.returns
  have hts := atoms_spec (ws := wsX5_found) B.pre
  have hown : s.vm.findClass RX5 = some m.cls := findClass_of_methodNamed B.named
  have hlocks := B.notSynchronized
  subst hsz
  have hD := hD0.self (sz := s.heap.size)
  generalize hAe : va_A (xW cy ad S R) s.heap.size = A at hD hE ⊢
  have hA : ∀ q : Nat, s.heap.size ≤ q → A q := fun q h => by rw [← hAe]; exact Or.inr h
  have hS : va_S A s.heap s.heap [] := va_S.rf
  have iX5 : ∀ w ∈ u_ws RX5 TX5 4, w ∈ wsX5_found := by decide +kernel
  have hf21 := hts (.fieldLink RX5 21 "InlinePlanner" "program" "LInlinePlanner$Program;") (by decide +kernel)
  refine g_entry (n := 3) hav (Nat.le_of_ble_eq_true rfl) (fun ls hl => ?_)
  have hl : lv_has ls 3 [(0, .ref (ad 0)), (1, .int x1), (2, .int x2)] := hl
  refine g_nameQ (fun Q hQ => ?_)
  unfold q_X5_found at h
  refine lv_aload_n hx hb dX5_found_0 rfl (lv_at hl 0 rfl) ?_
  refine lv_iload_n hx hb dX5_found_1 rfl (lv_at hl 1 rfl) ?_
  rcases x_bind h with ⟨k2, ek2, h⟩ | ⟨v1, ek2, h⟩
  · refine g_tYv (As := [.int x1]) (rest := []) ⟨hx, hb, hml, hown, hts⟩ (m_X5_checkClass l hst D cy tx ad R _ S x1 (.inl k2) ek2) (cwV 1 hts gX5_found_X5_checkClass rfl rfl rfl (by decide +kernel) ⟨Nat.le_of_ble_eq_true rfl, Nat.le_of_ble_eq_true rfl⟩) (va_recv hK hP (ci := 5) (q0 := 0) rfl rfl) hP hK hD hS hA hE rfl hl.1 rfl (Nat.le_of_ble_eq_true rfl) dX5_found_2 ⟨Nat.le_of_ble_eq_true rfl, Nat.le_of_ble_eq_true rfl⟩ (fun ce q9 H locs hP hD hS hce hcv hcl => ?_)
    exact g_xout hQ hnt hlocks h hP hK hD hS hce hcv hcl (Nat.le_of_ble_eq_true rfl) (Nat.le_of_ble_eq_true rfl)
  · refine g_rYv (As := [.int x1]) (rest := []) ⟨hx, hb, hml, hown, hts⟩ (m_X5_checkClass l hst D cy tx ad R _ S x1 (.inr v1) ek2) (cwV 1 hts gX5_found_X5_checkClass rfl rfl rfl (by decide +kernel) ⟨Nat.le_of_ble_eq_true rfl, Nat.le_of_ble_eq_true rfl⟩) (va_recv hK hP (ci := 5) (q0 := 0) rfl rfl) hP hK hD hS hA hE rfl hl.1 rfl (Nat.le_of_ble_eq_true rfl) dX5_found_2 ⟨Nat.le_of_ble_eq_true rfl, Nat.le_of_ble_eq_true rfl⟩ (fun H locs hP hD hS => ?_)
    refine W.widen (k := 1) (n := 6) (Nat.le_of_ble_eq_true rfl) (Nat.le_of_ble_eq_true rfl) ?_
    refine lv_aload_n hx hb dX5_found_5 rfl (lv_at hl 0 rfl) ?_
    refine lv_iload_n hx hb dX5_found_6 rfl (lv_at hl 2 rfl) ?_
    rcases x_bind h with ⟨k4, ek4, h⟩ | ⟨v3, ek4, h⟩
    · refine g_tYv (As := [.int x2]) (rest := []) ⟨hx, hb, hml, hown, hts⟩ (m_X5_checkSelector l hst D cy tx ad R _ S x2 (.inl k4) ek4) (cwV 1 hts gX5_found_X5_checkSelector rfl rfl rfl (by decide +kernel) ⟨Nat.le_of_ble_eq_true rfl, Nat.le_of_ble_eq_true rfl⟩) (va_recv hK hP (ci := 5) (q0 := 0) rfl rfl) hP hK hD hS hA hE rfl hl.1 rfl (Nat.le_of_ble_eq_true rfl) dX5_found_7 ⟨Nat.le_of_ble_eq_true rfl, Nat.le_of_ble_eq_true rfl⟩ (fun ce q9 H locs hP hD hS hce hcv hcl => ?_)
      exact g_xout hQ hnt hlocks h hP hK hD hS hce hcv hcl (Nat.le_of_ble_eq_true rfl) (Nat.le_of_ble_eq_true rfl)
    · refine g_rYv (As := [.int x2]) (rest := []) ⟨hx, hb, hml, hown, hts⟩ (m_X5_checkSelector l hst D cy tx ad R _ S x2 (.inr v3) ek4) (cwV 1 hts gX5_found_X5_checkSelector rfl rfl rfl (by decide +kernel) ⟨Nat.le_of_ble_eq_true rfl, Nat.le_of_ble_eq_true rfl⟩) (va_recv hK hP (ci := 5) (q0 := 0) rfl rfl) hP hK hD hS hA hE rfl hl.1 rfl (Nat.le_of_ble_eq_true rfl) dX5_found_7 ⟨Nat.le_of_ble_eq_true rfl, Nat.le_of_ble_eq_true rfl⟩ (fun H locs hP hD hS => ?_)
      refine W.widen (k := 2) (n := 12) (Nat.le_of_ble_eq_true rfl) (Nat.le_of_ble_eq_true rfl) ?_
      refine lv_aload_n hx hb dX5_found_10 rfl (lv_at hl 0 rfl) ?_
      refine xgX5_1 hx hb hts iX5 hown hK hP hf21 dX5_found_11 ?_
      refine lv_iload_n hx hb dX5_found_14 rfl (lv_at hl 1 rfl) ?_
      refine lv_iload_n hx hb dX5_found_15 rfl (lv_at hl 2 rfl) ?_
      obtain ⟨v5, ev5, h⟩ := o_bind h
      refine g_cVi (As := [.int x1, .int x2]) (rest := []) ⟨hx, hb, hml, hown, hts⟩ (m_X2_lookUp l hst D cy tx ad R _ S x1 x2 v5 ev5) (cwV 2 hts gX5_found_X2_lookUp rfl rfl rfl (by decide +kernel) ⟨Nat.le_of_ble_eq_true rfl, Nat.le_of_ble_eq_true rfl⟩) (va_recv hK hP (ci := 2) (q0 := 2) rfl rfl) hP hK hD hS hA hE rfl hl.1 rfl (Nat.le_of_ble_eq_true rfl) dX5_found_16 ⟨Nat.le_of_ble_eq_true rfl, Nat.le_of_ble_eq_true rfl⟩ (fun H locs hP hD hS => ?_)
      exact g_iretY hQ hx hb hr hP hK hD hS (Nat.le_of_ble_eq_true rfl) (Nat.le_of_ble_eq_true rfl) dX5_found_19 hlocks (Option.some.inj h)
set_option maxHeartbeats 4000000 in
set_option maxRecDepth 100000 in
theorem m_X5_targetCount (l : Launch) (hst : l.stackTraces = false) (D : va_G) (cy : Nat → ClassId) (tx : List (ClassId × FieldType)) (ad : Nat → Nat) (R : va_W) (sz : Nat) (S : PS) (x1 : Int32) (x2 : Int32) (o : Nat ⊕ Int32) (h : q_X5_targetCount S x1 x2 = some o) : gYi l yX5_targetCount wsX5_targetCount ({ frames := 7, cells := 2, slots := 12, locals := 103 }) 2 12 D (gT cy ++ tx) [.ref (ad 0), .int x1, .int x2] sz (xW cy ad S R) o := by
  refine vx_ofW (cc := cX5_targetCount) (maxL := 3) (ret := (some .int)) (by decide) rfl ?_
  intro p e s m args below meth c s₁ B hml hnt hv
  obtain ⟨hav, hsz, hP, hK, hD0, hE⟩ := hv
  have hx := B.exec
  have hb := B.bytes
  have hr := B.returns
  have hts := atoms_spec (ws := wsX5_targetCount) B.pre
  have hown : s.vm.findClass RX5 = some m.cls := findClass_of_methodNamed B.named
  have hlocks := B.notSynchronized
  subst hsz
  have hD := hD0.self (sz := s.heap.size)
  generalize hAe : va_A (xW cy ad S R) s.heap.size = A at hD hE ⊢
  have hA : ∀ q : Nat, s.heap.size ≤ q → A q := fun q h => by rw [← hAe]; exact Or.inr h
  have hS : va_S A s.heap s.heap [] := va_S.rf
  have iX5 : ∀ w ∈ u_ws RX5 TX5 4, w ∈ wsX5_targetCount := by decide +kernel
  have hf21 := hts (.fieldLink RX5 21 "InlinePlanner" "program" "LInlinePlanner$Program;") (by decide +kernel)
  refine g_entry (n := 3) hav (Nat.le_of_ble_eq_true rfl) (fun ls hl => ?_)
  have hl : lv_has ls 3 [(0, .ref (ad 0)), (1, .int x1), (2, .int x2)] := hl
  refine g_nameQ (fun Q hQ => ?_)
  unfold q_X5_targetCount at h
  refine lv_aload_n hx hb dX5_targetCount_0 rfl (lv_at hl 0 rfl) ?_
  refine lv_iload_n hx hb dX5_targetCount_1 rfl (lv_at hl 1 rfl) ?_
  rcases x_bind h with ⟨k2, ek2, h⟩ | ⟨v1, ek2, h⟩
  · refine g_tYv (As := [.int x1]) (rest := []) ⟨hx, hb, hml, hown, hts⟩ (m_X5_checkClass l hst D cy tx ad R _ S x1 (.inl k2) ek2) (cwV 1 hts gX5_targetCount_X5_checkClass rfl rfl rfl (by decide +kernel) ⟨Nat.le_of_ble_eq_true rfl, Nat.le_of_ble_eq_true rfl⟩) (va_recv hK hP (ci := 5) (q0 := 0) rfl rfl) hP hK hD hS hA hE rfl hl.1 rfl (Nat.le_of_ble_eq_true rfl) dX5_targetCount_2 ⟨Nat.le_of_ble_eq_true rfl, Nat.le_of_ble_eq_true rfl⟩ (fun ce q9 H locs hP hD hS hce hcv hcl => ?_)
    exact g_xout hQ hnt hlocks h hP hK hD hS hce hcv hcl (Nat.le_of_ble_eq_true rfl) (Nat.le_of_ble_eq_true rfl)
  · refine g_rYv (As := [.int x1]) (rest := []) ⟨hx, hb, hml, hown, hts⟩ (m_X5_checkClass l hst D cy tx ad R _ S x1 (.inr v1) ek2) (cwV 1 hts gX5_targetCount_X5_checkClass rfl rfl rfl (by decide +kernel) ⟨Nat.le_of_ble_eq_true rfl, Nat.le_of_ble_eq_true rfl⟩) (va_recv hK hP (ci := 5) (q0 := 0) rfl rfl) hP hK hD hS hA hE rfl hl.1 rfl (Nat.le_of_ble_eq_true rfl) dX5_targetCount_2 ⟨Nat.le_of_ble_eq_true rfl, Nat.le_of_ble_eq_true rfl⟩ (fun H locs hP hD hS => ?_)
    refine W.widen (k := 1) (n := 6) (Nat.le_of_ble_eq_true rfl) (Nat.le_of_ble_eq_true rfl) ?_
    refine lv_aload_n hx hb dX5_targetCount_5 rfl (lv_at hl 0 rfl) ?_
    refine lv_iload_n hx hb dX5_targetCount_6 rfl (lv_at hl 2 rfl) ?_
    rcases x_bind h with ⟨k4, ek4, h⟩ | ⟨v3, ek4, h⟩
    · refine g_tYv (As := [.int x2]) (rest := []) ⟨hx, hb, hml, hown, hts⟩ (m_X5_checkSelector l hst D cy tx ad R _ S x2 (.inl k4) ek4) (cwV 1 hts gX5_targetCount_X5_checkSelector rfl rfl rfl (by decide +kernel) ⟨Nat.le_of_ble_eq_true rfl, Nat.le_of_ble_eq_true rfl⟩) (va_recv hK hP (ci := 5) (q0 := 0) rfl rfl) hP hK hD hS hA hE rfl hl.1 rfl (Nat.le_of_ble_eq_true rfl) dX5_targetCount_7 ⟨Nat.le_of_ble_eq_true rfl, Nat.le_of_ble_eq_true rfl⟩ (fun ce q9 H locs hP hD hS hce hcv hcl => ?_)
      exact g_xout hQ hnt hlocks h hP hK hD hS hce hcv hcl (Nat.le_of_ble_eq_true rfl) (Nat.le_of_ble_eq_true rfl)
    · refine g_rYv (As := [.int x2]) (rest := []) ⟨hx, hb, hml, hown, hts⟩ (m_X5_checkSelector l hst D cy tx ad R _ S x2 (.inr v3) ek4) (cwV 1 hts gX5_targetCount_X5_checkSelector rfl rfl rfl (by decide +kernel) ⟨Nat.le_of_ble_eq_true rfl, Nat.le_of_ble_eq_true rfl⟩) (va_recv hK hP (ci := 5) (q0 := 0) rfl rfl) hP hK hD hS hA hE rfl hl.1 rfl (Nat.le_of_ble_eq_true rfl) dX5_targetCount_7 ⟨Nat.le_of_ble_eq_true rfl, Nat.le_of_ble_eq_true rfl⟩ (fun H locs hP hD hS => ?_)
      refine W.widen (k := 2) (n := 12) (Nat.le_of_ble_eq_true rfl) (Nat.le_of_ble_eq_true rfl) ?_
      refine lv_aload_n hx hb dX5_targetCount_10 rfl (lv_at hl 0 rfl) ?_
      refine xgX5_1 hx hb hts iX5 hown hK hP hf21 dX5_targetCount_11 ?_
      refine lv_iload_n hx hb dX5_targetCount_14 rfl (lv_at hl 1 rfl) ?_
      refine lv_iload_n hx hb dX5_targetCount_15 rfl (lv_at hl 2 rfl) ?_
      obtain ⟨v5, ev5, h⟩ := o_bind h
      refine g_cVi (As := [.int x1, .int x2]) (rest := []) ⟨hx, hb, hml, hown, hts⟩ (m_X2_targetSet l hst D cy tx ad R _ S x1 x2 v5 ev5) (cwV 2 hts gX5_targetCount_X2_targetSet rfl rfl rfl (by decide +kernel) ⟨Nat.le_of_ble_eq_true rfl, Nat.le_of_ble_eq_true rfl⟩) (va_recv hK hP (ci := 2) (q0 := 2) rfl rfl) hP hK hD hS hA hE rfl hl.1 rfl (Nat.le_of_ble_eq_true rfl) dX5_targetCount_16 ⟨Nat.le_of_ble_eq_true rfl, Nat.le_of_ble_eq_true rfl⟩ (fun H locs hP hD hS => ?_)
      obtain ⟨v6, ev6, h⟩ := o_bind h
      refine g_cSi (As := [.int v5]) (rest := []) ⟨hx, hb, hml, hown, hts⟩ (m_J6_bitCount_0f7a4 l hst D (gT cy ++ tx) (xW cy ad S R) _ v5 v6 ev6) (va_cwS 1 hts gX5_targetCount_J6_bitCount_0f7a4 rfl rfl rfl (by decide +kernel) ⟨Nat.le_of_ble_eq_true rfl, Nat.le_of_ble_eq_true rfl⟩) hP hK hD hS hA hE rfl hl.1 rfl (Nat.le_of_ble_eq_true rfl) dX5_targetCount_19 ⟨Nat.le_of_ble_eq_true rfl, Nat.le_of_ble_eq_true rfl⟩ (fun H locs hP hD hS => ?_)
      exact g_iretY hQ hx hb hr hP hK hD hS (Nat.le_of_ble_eq_true rfl) (Nat.le_of_ble_eq_true rfl) dX5_targetCount_22 hlocks (Option.some.inj h)
set_option maxHeartbeats 4000000 in
set_option maxRecDepth 100000 in
theorem m_X5_target (l : Launch) (hst : l.stackTraces = false) (D : va_G) (cy : Nat → ClassId) (tx : List (ClassId × FieldType)) (ad : Nat → Nat) (R : va_W) (sz : Nat) (S : PS) (x1 : Int32) (x2 : Int32) (x3 : Int32) (o : Nat ⊕ Int32) (h : q_X5_target S x1 x2 x3 = some o) : gYi l yX5_target wsX5_target ({ frames := 7, cells := 3, slots := 18, locals := 103 }) 3 18 D (gT cy ++ tx) [.ref (ad 0), .int x1, .int x2, .int x3] sz (xW cy ad S R) o := by
  refine vx_ofW (cc := cX5_target) (maxL := 5) (ret := (some .int)) (by decide) rfl ?_
  intro p e s m args below meth c s₁ B hml hnt hv
  obtain ⟨hav, hsz, hP, hK, hD0, hE⟩ := hv
  have hx := B.exec
  have hb := B.bytes
  have hr := B.returns
  have hts := atoms_spec (ws := wsX5_target) B.pre
  have hown : s.vm.findClass RX5 = some m.cls := findClass_of_methodNamed B.named
  have hlocks := B.notSynchronized
  subst hsz
  have hD := hD0.self (sz := s.heap.size)
  generalize hAe : va_A (xW cy ad S R) s.heap.size = A at hD hE ⊢
  have hA : ∀ q : Nat, s.heap.size ≤ q → A q := fun q h => by rw [← hAe]; exact Or.inr h
  have hS : va_S A s.heap s.heap [] := va_S.rf
  have iX5 : ∀ w ∈ u_ws RX5 TX5 4, w ∈ wsX5_target := by decide +kernel
  have hf21 := hts (.fieldLink RX5 21 "InlinePlanner" "program" "LInlinePlanner$Program;") (by decide +kernel)
  refine g_entry (n := 5) hav (Nat.le_of_ble_eq_true rfl) (fun ls hl => ?_)
  have hl : lv_has ls 5 [(0, .ref (ad 0)), (1, .int x1), (2, .int x2), (3, .int x3)] := hl
  refine g_nameQ (fun Q hQ => ?_)
  unfold q_X5_target at h
  refine lv_aload_n hx hb dX5_target_0 rfl (lv_at hl 0 rfl) ?_
  refine lv_iload_n hx hb dX5_target_1 rfl (lv_at hl 1 rfl) ?_
  rcases x_bind h with ⟨k2, ek2, h⟩ | ⟨v1, ek2, h⟩
  · refine g_tYv (As := [.int x1]) (rest := []) ⟨hx, hb, hml, hown, hts⟩ (m_X5_checkClass l hst D cy tx ad R _ S x1 (.inl k2) ek2) (cwV 1 hts gX5_target_X5_checkClass rfl rfl rfl (by decide +kernel) ⟨Nat.le_of_ble_eq_true rfl, Nat.le_of_ble_eq_true rfl⟩) (va_recv hK hP (ci := 5) (q0 := 0) rfl rfl) hP hK hD hS hA hE rfl hl.1 rfl (Nat.le_of_ble_eq_true rfl) dX5_target_2 ⟨Nat.le_of_ble_eq_true rfl, Nat.le_of_ble_eq_true rfl⟩ (fun ce q9 H locs hP hD hS hce hcv hcl => ?_)
    exact g_xout hQ hnt hlocks h hP hK hD hS hce hcv hcl (Nat.le_of_ble_eq_true rfl) (Nat.le_of_ble_eq_true rfl)
  · refine g_rYv (As := [.int x1]) (rest := []) ⟨hx, hb, hml, hown, hts⟩ (m_X5_checkClass l hst D cy tx ad R _ S x1 (.inr v1) ek2) (cwV 1 hts gX5_target_X5_checkClass rfl rfl rfl (by decide +kernel) ⟨Nat.le_of_ble_eq_true rfl, Nat.le_of_ble_eq_true rfl⟩) (va_recv hK hP (ci := 5) (q0 := 0) rfl rfl) hP hK hD hS hA hE rfl hl.1 rfl (Nat.le_of_ble_eq_true rfl) dX5_target_2 ⟨Nat.le_of_ble_eq_true rfl, Nat.le_of_ble_eq_true rfl⟩ (fun H locs hP hD hS => ?_)
    refine W.widen (k := 1) (n := 6) (Nat.le_of_ble_eq_true rfl) (Nat.le_of_ble_eq_true rfl) ?_
    refine lv_aload_n hx hb dX5_target_5 rfl (lv_at hl 0 rfl) ?_
    refine lv_iload_n hx hb dX5_target_6 rfl (lv_at hl 2 rfl) ?_
    rcases x_bind h with ⟨k4, ek4, h⟩ | ⟨v3, ek4, h⟩
    · refine g_tYv (As := [.int x2]) (rest := []) ⟨hx, hb, hml, hown, hts⟩ (m_X5_checkSelector l hst D cy tx ad R _ S x2 (.inl k4) ek4) (cwV 1 hts gX5_target_X5_checkSelector rfl rfl rfl (by decide +kernel) ⟨Nat.le_of_ble_eq_true rfl, Nat.le_of_ble_eq_true rfl⟩) (va_recv hK hP (ci := 5) (q0 := 0) rfl rfl) hP hK hD hS hA hE rfl hl.1 rfl (Nat.le_of_ble_eq_true rfl) dX5_target_7 ⟨Nat.le_of_ble_eq_true rfl, Nat.le_of_ble_eq_true rfl⟩ (fun ce q9 H locs hP hD hS hce hcv hcl => ?_)
      exact g_xout hQ hnt hlocks h hP hK hD hS hce hcv hcl (Nat.le_of_ble_eq_true rfl) (Nat.le_of_ble_eq_true rfl)
    · refine g_rYv (As := [.int x2]) (rest := []) ⟨hx, hb, hml, hown, hts⟩ (m_X5_checkSelector l hst D cy tx ad R _ S x2 (.inr v3) ek4) (cwV 1 hts gX5_target_X5_checkSelector rfl rfl rfl (by decide +kernel) ⟨Nat.le_of_ble_eq_true rfl, Nat.le_of_ble_eq_true rfl⟩) (va_recv hK hP (ci := 5) (q0 := 0) rfl rfl) hP hK hD hS hA hE rfl hl.1 rfl (Nat.le_of_ble_eq_true rfl) dX5_target_7 ⟨Nat.le_of_ble_eq_true rfl, Nat.le_of_ble_eq_true rfl⟩ (fun H locs hP hD hS => ?_)
      refine W.widen (k := 2) (n := 12) (Nat.le_of_ble_eq_true rfl) (Nat.le_of_ble_eq_true rfl) ?_
      refine lv_aload_n hx hb dX5_target_10 rfl (lv_at hl 0 rfl) ?_
      refine xgX5_1 hx hb hts iX5 hown hK hP hf21 dX5_target_11 ?_
      refine lv_aload_n hx hb dX5_target_14 rfl (lv_at hl 0 rfl) ?_
      refine xgX5_1 hx hb hts iX5 hown hK hP hf21 dX5_target_15 ?_
      refine lv_iload_n hx hb dX5_target_18 rfl (lv_at hl 1 rfl) ?_
      refine lv_iload_n hx hb dX5_target_19 rfl (lv_at hl 2 rfl) ?_
      obtain ⟨v5, ev5, h⟩ := o_bind h
      refine g_cVi (As := [.int x1, .int x2]) (rest := [.ref (ad 2)]) ⟨hx, hb, hml, hown, hts⟩ (m_X2_targetSet l hst D cy tx ad R _ S x1 x2 v5 ev5) (cwV 2 hts gX5_target_X2_targetSet rfl rfl rfl (by decide +kernel) ⟨Nat.le_of_ble_eq_true rfl, Nat.le_of_ble_eq_true rfl⟩) (va_recv hK hP (ci := 2) (q0 := 2) rfl rfl) hP hK hD hS hA hE rfl hl.1 rfl (Nat.le_of_ble_eq_true rfl) dX5_target_20 ⟨Nat.le_of_ble_eq_true rfl, Nat.le_of_ble_eq_true rfl⟩ (fun H locs hP hD hS => ?_)
      refine lv_iload_n hx hb dX5_target_23 rfl (lv_at hl 3 rfl) ?_
      obtain ⟨v6, ev6, h⟩ := o_bind h
      refine g_cVi (As := [.int v5, .int x3]) (rest := []) ⟨hx, hb, hml, hown, hts⟩ (m_X2_member l hst D cy tx ad R _ S v5 x3 v6 ev6) (cwV 2 hts gX5_target_X2_member rfl rfl rfl (by decide +kernel) ⟨Nat.le_of_ble_eq_true rfl, Nat.le_of_ble_eq_true rfl⟩) (va_recv hK hP (ci := 2) (q0 := 2) rfl rfl) hP hK hD hS hA hE rfl hl.1 rfl (Nat.le_of_ble_eq_true rfl) dX5_target_24 ⟨Nat.le_of_ble_eq_true rfl, Nat.le_of_ble_eq_true rfl⟩ (fun H locs hP hD hS => ?_)
      refine lv_istore (lv' := [(4, .int v6), (0, .ref (ad 0)), (1, .int x1), (2, .int x2), (3, .int x3)]) hx hb dX5_target_27 hl (by decide) rfl (fun ls hl => ?_)
      refine lv_iload hx hb dX5_target_29 (lv_at hl 0 rfl) ?_
      refine lv_if_ge (tgt := 44) hx hb dX5_target_31 (by decide) (fun hc => ?_) (fun hc => ?_)
      · have h := o_pos hc h
        refine lv_iload hx hb dX5_target_44 (lv_at hl 0 rfl) ?_
        exact g_iretY hQ hx hb hr hP hK hD hS (Nat.le_of_ble_eq_true rfl) (Nat.le_of_ble_eq_true rfl) dX5_target_46 hlocks (Option.some.inj h)
      · have h := o_neg hc h
        exact g_throwN (ik := 124) (is := 126) (text := "there is no such target") hQ hx hb hst hnt hlocks (by rw [hml]; exact hl.1.symm) hown hts hE (by decide +kernel) (by decide +kernel) (by decide +kernel) (fun _ h => List.mem_cons_of_mem _ (List.mem_append_left _ (List.mem_append_right _ h))) (by decide +kernel) (by decide +kernel) (Option.some.inj h) hP hK hD hS dX5_target_34 dX5_target_37 dX5_target_38 dX5_target_40 dX5_target_43 (Nat.le_of_ble_eq_true rfl) (Nat.le_of_ble_eq_true rfl) (Nat.le_of_ble_eq_true rfl) (Nat.le_of_ble_eq_true rfl) (Nat.le_of_ble_eq_true rfl) (Nat.le_of_ble_eq_true rfl)
set_option maxHeartbeats 4000000 in
set_option maxRecDepth 100000 in
theorem m_X5_reached (l : Launch) (hst : l.stackTraces = false) (D : va_G) (cy : Nat → ClassId) (tx : List (ClassId × FieldType)) (ad : Nat → Nat) (R : va_W) (sz : Nat) (S : PS) (x1 : Int32) (o : Nat ⊕ Int32) (h : q_X5_reached S x1 = some o) : gYi l yX5_reached wsX5_reached ({ frames := 7, cells := 1, slots := 6, locals := 121 }) 1 6 D (gT cy ++ tx) [.ref (ad 0), .int x1] sz (xW cy ad S R) o := by
  refine vx_ofW (cc := cX5_reached) (maxL := 2) (ret := (some .int)) (by decide) rfl ?_
  intro p e s m args below meth c s₁ B hml hnt hv
  obtain ⟨hav, hsz, hP, hK, hD0, hE⟩ := hv
  have hx := B.exec
  have hb := B.bytes
  have hr := B.returns
  have hts := atoms_spec (ws := wsX5_reached) B.pre
  have hown : s.vm.findClass RX5 = some m.cls := findClass_of_methodNamed B.named
  have hlocks := B.notSynchronized
  subst hsz
  have hD := hD0.self (sz := s.heap.size)
  generalize hAe : va_A (xW cy ad S R) s.heap.size = A at hD hE ⊢
  have hA : ∀ q : Nat, s.heap.size ≤ q → A q := fun q h => by rw [← hAe]; exact Or.inr h
  have hS : va_S A s.heap s.heap [] := va_S.rf
  have iX5 : ∀ w ∈ u_ws RX5 TX5 4, w ∈ wsX5_reached := by decide +kernel
  have hf21 := hts (.fieldLink RX5 21 "InlinePlanner" "program" "LInlinePlanner$Program;") (by decide +kernel)
  refine g_entry (n := 2) hav (Nat.le_of_ble_eq_true rfl) (fun ls hl => ?_)
  have hl : lv_has ls 2 [(0, .ref (ad 0)), (1, .int x1)] := hl
  refine g_nameQ (fun Q hQ => ?_)
  unfold q_X5_reached at h
  refine lv_aload_n hx hb dX5_reached_0 rfl (lv_at hl 0 rfl) ?_
  refine lv_iload_n hx hb dX5_reached_1 rfl (lv_at hl 1 rfl) ?_
  rcases x_bind h with ⟨k2, ek2, h⟩ | ⟨v1, ek2, h⟩
  · refine g_tYv (As := [.int x1]) (rest := []) ⟨hx, hb, hml, hown, hts⟩ (m_X5_checkMethod l hst D cy tx ad R _ S x1 (.inl k2) ek2) (cwV 1 hts gX5_reached_X5_checkMethod rfl rfl rfl (by decide +kernel) ⟨Nat.le_of_ble_eq_true rfl, Nat.le_of_ble_eq_true rfl⟩) (va_recv hK hP (ci := 5) (q0 := 0) rfl rfl) hP hK hD hS hA hE rfl hl.1 rfl (Nat.le_of_ble_eq_true rfl) dX5_reached_2 ⟨Nat.le_of_ble_eq_true rfl, Nat.le_of_ble_eq_true rfl⟩ (fun ce q9 H locs hP hD hS hce hcv hcl => ?_)
    exact g_xout hQ hnt hlocks h hP hK hD hS hce hcv hcl (Nat.le_of_ble_eq_true rfl) (Nat.le_of_ble_eq_true rfl)
  · refine g_rYv (As := [.int x1]) (rest := []) ⟨hx, hb, hml, hown, hts⟩ (m_X5_checkMethod l hst D cy tx ad R _ S x1 (.inr v1) ek2) (cwV 1 hts gX5_reached_X5_checkMethod rfl rfl rfl (by decide +kernel) ⟨Nat.le_of_ble_eq_true rfl, Nat.le_of_ble_eq_true rfl⟩) (va_recv hK hP (ci := 5) (q0 := 0) rfl rfl) hP hK hD hS hA hE rfl hl.1 rfl (Nat.le_of_ble_eq_true rfl) dX5_reached_2 ⟨Nat.le_of_ble_eq_true rfl, Nat.le_of_ble_eq_true rfl⟩ (fun H locs hP hD hS => ?_)
    refine W.widen (k := 1) (n := 6) (Nat.le_of_ble_eq_true rfl) (Nat.le_of_ble_eq_true rfl) ?_
    refine lv_aload_n hx hb dX5_reached_5 rfl (lv_at hl 0 rfl) ?_
    refine xgX5_1 hx hb hts iX5 hown hK hP hf21 dX5_reached_6 ?_
    refine lv_iload_n hx hb dX5_reached_9 rfl (lv_at hl 1 rfl) ?_
    obtain ⟨v3, ev3, h⟩ := o_bind h
    refine g_cVi (As := [.int x1]) (rest := []) ⟨hx, hb, hml, hown, hts⟩ (m_X2_reachableSet l hst D cy tx ad R _ S x1 v3 ev3) (cwV 1 hts gX5_reached_X2_reachableSet rfl rfl rfl (by decide +kernel) ⟨Nat.le_of_ble_eq_true rfl, Nat.le_of_ble_eq_true rfl⟩) (va_recv hK hP (ci := 2) (q0 := 2) rfl rfl) hP hK hD hS hA hE rfl hl.1 rfl (Nat.le_of_ble_eq_true rfl) dX5_reached_10 ⟨Nat.le_of_ble_eq_true rfl, Nat.le_of_ble_eq_true rfl⟩ (fun H locs hP hD hS => ?_)
    exact g_iretY hQ hx hb hr hP hK hD hS (Nat.le_of_ble_eq_true rfl) (Nat.le_of_ble_eq_true rfl) dX5_reached_13 hlocks (Option.some.inj h)
set_option maxHeartbeats 4000000 in
set_option maxRecDepth 100000 in
theorem m_X5_setLimits (l : Launch) (hst : l.stackTraces = false) (D : va_G) (cy : Nat → ClassId) (tx : List (ClassId × FieldType)) (ad : Nat → Nat) (R : va_W) (sz : Nat) (S : PS) (x1 : Int32) (x2 : Int32) (x3 : Int32) (o : Nat ⊕ (PS × Int32)) (h : q_X5_setLimits S x1 x2 x3 = some o) : gXi l yX5_setLimits wsX5_setLimits ({ frames := 6, cells := 1, slots := 6, locals := 82 }) 1 6 D (gT cy ++ tx) [.ref (ad 0), .int x1, .int x2, .int x3] sz (xW cy ad S R) (fun u => (xW cy ad u R)) o := by
  refine vx_ofW (cc := cX5_setLimits) (maxL := 4) (ret := (some .boolean)) (by decide) rfl ?_
  intro p e s m args below meth c s₁ B hml hnt hv
  obtain ⟨hav, hsz, hP, hK, hD0, hE⟩ := hv
  have hx := B.exec
  have hb := B.bytes
  have hr := B.returns
  have hts := atoms_spec (ws := wsX5_setLimits) B.pre
  have hown : s.vm.findClass RX5 = some m.cls := findClass_of_methodNamed B.named
  have hlocks := B.notSynchronized
  subst hsz
  have hD := hD0.self (sz := s.heap.size)
  generalize hAe : va_A (xW cy ad S R) s.heap.size = A at hD hE ⊢
  have hA : ∀ q : Nat, s.heap.size ≤ q → A q := fun q h => by rw [← hAe]; exact Or.inr h
  have hS : va_S A s.heap s.heap [] := va_S.rf
  have iX5 : ∀ w ∈ u_ws RX5 TX5 4, w ∈ wsX5_setLimits := by decide +kernel
  have hf28 := hts (.fieldLink RX5 28 "InlinePlanner" "limits" "LInlinePlanner$Limits;") (by decide +kernel)
  have hf37 := hts (.fieldLink RX5 37 "InlinePlanner" "tree" "LInlinePlanner$Tree;") (by decide +kernel)
  refine g_entry (n := 4) hav (Nat.le_of_ble_eq_true rfl) (fun ls hl => ?_)
  have hl : lv_has ls 4 [(0, .ref (ad 0)), (1, .int x1), (2, .int x2), (3, .int x3)] := hl
  refine g_nameQ (fun Q hQ => ?_)
  unfold q_X5_setLimits at h
  refine lv_iload_n hx hb dX5_setLimits_0 rfl (lv_at hl 1 rfl) ?_
  refine lv_iconst (v := 1) hx hb dX5_setLimits_1 (by decide) ?_
  refine lv_icmp_lt (tgt := 12) hx hb dX5_setLimits_2 (by decide) (fun hc => ?_) (fun hc => ?_)
  · have h := o_pos hc h
    exact g_throw (k := 3) (ik := 75) (is := 132) (ic := 79) (text := "the budget is not 1 to 5000") hQ hx hb hst hnt hlocks (by rw [hml]; exact hl.1.symm) hown hts hE (by decide +kernel) (by decide +kernel) (by decide +kernel) (by decide +kernel) (fun _ h => List.mem_cons_of_mem _ (List.mem_append_right _ h)) (by decide +kernel) (by decide +kernel) (Option.some.inj h) hP hK hD hS dX5_setLimits_12 dX5_setLimits_15 dX5_setLimits_16 dX5_setLimits_18 dX5_setLimits_21 (Nat.le_of_ble_eq_true rfl) (Nat.le_of_ble_eq_true rfl) (Nat.le_of_ble_eq_true rfl) (Nat.le_of_ble_eq_true rfl) (Nat.le_of_ble_eq_true rfl) (Nat.le_of_ble_eq_true rfl)
  · have h := o_neg hc h
    refine lv_iload_n hx hb dX5_setLimits_5 rfl (lv_at hl 1 rfl) ?_
    refine lv_sipush (v := 5000) hx hb dX5_setLimits_6 (by decide) ?_
    refine lv_icmp_le (tgt := 22) hx hb dX5_setLimits_9 (by decide) (fun hc => ?_) (fun hc => ?_)
    · have h := o_pos hc h
      refine lv_iload_n hx hb dX5_setLimits_22 rfl (lv_at hl 2 rfl) ?_
      refine lv_if_lt (tgt := 32) hx hb dX5_setLimits_23 (by decide) (fun hc => ?_) (fun hc => ?_)
      · have h := o_pos hc h
        exact g_throw (k := 3) (ik := 75) (is := 134) (ic := 79) (text := "the depth is not 0 to 10") hQ hx hb hst hnt hlocks (by rw [hml]; exact hl.1.symm) hown hts hE (by decide +kernel) (by decide +kernel) (by decide +kernel) (by decide +kernel) (fun _ h => List.mem_cons_of_mem _ (List.mem_append_right _ h)) (by decide +kernel) (by decide +kernel) (Option.some.inj h) hP hK hD hS dX5_setLimits_32 dX5_setLimits_35 dX5_setLimits_36 dX5_setLimits_38 dX5_setLimits_41 (Nat.le_of_ble_eq_true rfl) (Nat.le_of_ble_eq_true rfl) (Nat.le_of_ble_eq_true rfl) (Nat.le_of_ble_eq_true rfl) (Nat.le_of_ble_eq_true rfl) (Nat.le_of_ble_eq_true rfl)
      · have h := o_neg hc h
        refine lv_iload_n hx hb dX5_setLimits_26 rfl (lv_at hl 2 rfl) ?_
        refine lv_bipush (v := 10) hx hb dX5_setLimits_27 (by decide) ?_
        refine lv_icmp_le (tgt := 42) hx hb dX5_setLimits_29 (by decide) (fun hc => ?_) (fun hc => ?_)
        · have h := o_pos hc h
          refine lv_iload_n hx hb dX5_setLimits_42 rfl (lv_at hl 3 rfl) ?_
          refine lv_if_lt (tgt := 51) hx hb dX5_setLimits_43 (by decide) (fun hc => ?_) (fun hc => ?_)
          · have h := o_pos hc h
            exact g_throw (k := 3) (ik := 75) (is := 136) (ic := 79) (text := "the recursion is not 0 to 5") hQ hx hb hst hnt hlocks (by rw [hml]; exact hl.1.symm) hown hts hE (by decide +kernel) (by decide +kernel) (by decide +kernel) (by decide +kernel) (fun _ h => List.mem_cons_of_mem _ (List.mem_append_right _ h)) (by decide +kernel) (by decide +kernel) (Option.some.inj h) hP hK hD hS dX5_setLimits_51 dX5_setLimits_54 dX5_setLimits_55 dX5_setLimits_57 dX5_setLimits_60 (Nat.le_of_ble_eq_true rfl) (Nat.le_of_ble_eq_true rfl) (Nat.le_of_ble_eq_true rfl) (Nat.le_of_ble_eq_true rfl) (Nat.le_of_ble_eq_true rfl) (Nat.le_of_ble_eq_true rfl)
          · have h := o_neg hc h
            refine lv_iload_n hx hb dX5_setLimits_46 rfl (lv_at hl 3 rfl) ?_
            refine lv_iconst (v := 5) hx hb dX5_setLimits_47 (by decide) ?_
            refine lv_icmp_le (tgt := 61) hx hb dX5_setLimits_48 (by decide) (fun hc => ?_) (fun hc => ?_)
            · have h := o_pos hc h
              refine lv_aload_n hx hb dX5_setLimits_61 rfl (lv_at hl 0 rfl) ?_
              refine xgX5_3 hx hb hts iX5 hown hK hP hf37 dX5_setLimits_62 ?_
              obtain ⟨S2, ev1, h⟩ := o_bind h
              refine g_cVv (As := []) (rest := []) ⟨hx, hb, hml, hown, hts⟩ (m_X3_remove l hst D cy tx ad R _ S  S2 ev1) (cwV 0 hts gX5_setLimits_X3_remove rfl rfl rfl (by decide +kernel) ⟨Nat.le_of_ble_eq_true rfl, Nat.le_of_ble_eq_true rfl⟩) (va_recv hK hP (ci := 3) (q0 := 4) rfl rfl) hP hK hD hS hA hE rfl hl.1 rfl (Nat.le_of_ble_eq_true rfl) dX5_setLimits_65 ⟨Nat.le_of_ble_eq_true rfl, Nat.le_of_ble_eq_true rfl⟩ (fun H locs hP hD hS => ?_)
              refine lv_aload_n hx hb dX5_setLimits_68 rfl (lv_at hl 0 rfl) ?_
              refine xgX5_2 hx hb hts iX5 hown hK hP hf28 dX5_setLimits_69 ?_
              refine lv_iload_n hx hb dX5_setLimits_72 rfl (lv_at hl 1 rfl) ?_
              refine lv_iload_n hx hb dX5_setLimits_73 rfl (lv_at hl 2 rfl) ?_
              refine lv_iload_n hx hb dX5_setLimits_74 rfl (lv_at hl 3 rfl) ?_
              obtain ⟨⟨S4, v3⟩, ev3, h⟩ := o_bind h
              refine g_cVi (As := [.int x1, .int x2, .int x3]) (rest := []) ⟨hx, hb, hml, hown, hts⟩ (m_X1_change l hst D cy tx ad R _ S2 x1 x2 x3 S4 v3 ev3) (cwV 3 hts gX5_setLimits_X1_change rfl rfl rfl (by decide +kernel) ⟨Nat.le_of_ble_eq_true rfl, Nat.le_of_ble_eq_true rfl⟩) (va_recv hK hP (ci := 1) (q0 := 3) rfl rfl) hP hK hD hS hA hE rfl hl.1 rfl (Nat.le_of_ble_eq_true rfl) dX5_setLimits_75 ⟨Nat.le_of_ble_eq_true rfl, Nat.le_of_ble_eq_true rfl⟩ (fun H locs hP hD hS => ?_)
              obtain ⟨z5, ez5, h⟩ := o_bind h
              obtain ⟨hn, ez5⟩ := zg_spec ez5
              subst ez5
              exact g_zretX (Wf := fun u => (xW cy ad u R)) (S1 := S4) hQ hx hb hr hn hP hK hD hS (Nat.le_of_ble_eq_true rfl) (Nat.le_of_ble_eq_true rfl) dX5_setLimits_78 hlocks (Option.some.inj h)
            · have h := o_neg hc h
              exact g_throw (k := 3) (ik := 75) (is := 136) (ic := 79) (text := "the recursion is not 0 to 5") hQ hx hb hst hnt hlocks (by rw [hml]; exact hl.1.symm) hown hts hE (by decide +kernel) (by decide +kernel) (by decide +kernel) (by decide +kernel) (fun _ h => List.mem_cons_of_mem _ (List.mem_append_right _ h)) (by decide +kernel) (by decide +kernel) (Option.some.inj h) hP hK hD hS dX5_setLimits_51 dX5_setLimits_54 dX5_setLimits_55 dX5_setLimits_57 dX5_setLimits_60 (Nat.le_of_ble_eq_true rfl) (Nat.le_of_ble_eq_true rfl) (Nat.le_of_ble_eq_true rfl) (Nat.le_of_ble_eq_true rfl) (Nat.le_of_ble_eq_true rfl) (Nat.le_of_ble_eq_true rfl)
        · have h := o_neg hc h
          exact g_throw (k := 3) (ik := 75) (is := 134) (ic := 79) (text := "the depth is not 0 to 10") hQ hx hb hst hnt hlocks (by rw [hml]; exact hl.1.symm) hown hts hE (by decide +kernel) (by decide +kernel) (by decide +kernel) (by decide +kernel) (fun _ h => List.mem_cons_of_mem _ (List.mem_append_right _ h)) (by decide +kernel) (by decide +kernel) (Option.some.inj h) hP hK hD hS dX5_setLimits_32 dX5_setLimits_35 dX5_setLimits_36 dX5_setLimits_38 dX5_setLimits_41 (Nat.le_of_ble_eq_true rfl) (Nat.le_of_ble_eq_true rfl) (Nat.le_of_ble_eq_true rfl) (Nat.le_of_ble_eq_true rfl) (Nat.le_of_ble_eq_true rfl) (Nat.le_of_ble_eq_true rfl)
    · have h := o_neg hc h
      exact g_throw (k := 3) (ik := 75) (is := 132) (ic := 79) (text := "the budget is not 1 to 5000") hQ hx hb hst hnt hlocks (by rw [hml]; exact hl.1.symm) hown hts hE (by decide +kernel) (by decide +kernel) (by decide +kernel) (by decide +kernel) (fun _ h => List.mem_cons_of_mem _ (List.mem_append_right _ h)) (by decide +kernel) (by decide +kernel) (Option.some.inj h) hP hK hD hS dX5_setLimits_12 dX5_setLimits_15 dX5_setLimits_16 dX5_setLimits_18 dX5_setLimits_21 (Nat.le_of_ble_eq_true rfl) (Nat.le_of_ble_eq_true rfl) (Nat.le_of_ble_eq_true rfl) (Nat.le_of_ble_eq_true rfl) (Nat.le_of_ble_eq_true rfl) (Nat.le_of_ble_eq_true rfl)
set_option maxHeartbeats 4000000 in
set_option maxRecDepth 100000 in
theorem m_X5_plan (l : Launch) (hst : l.stackTraces = false) (D : va_G) (cy : Nat → ClassId) (tx : List (ClassId × FieldType)) (ad : Nat → Nat) (R : va_W) (sz : Nat) (S : PS) (x1 : Int32) (o : Nat ⊕ (PS × Int32)) (h : q_X5_plan S x1 = some o) : gXi l yX5_plan wsX5_plan ({ frames := 7, cells := 1, slots := 6, locals := 150 }) 1 6 D (gT cy ++ tx) [.ref (ad 0), .int x1] sz (xW cy ad S R) (fun u => (xW cy ad u R)) o := by
  refine vx_ofW (cc := cX5_plan) (maxL := 2) (ret := (some .int)) (by decide) rfl ?_
  intro p e s m args below meth c s₁ B hml hnt hv
  obtain ⟨hav, hsz, hP, hK, hD0, hE⟩ := hv
  have hx := B.exec
  have hb := B.bytes
  have hr := B.returns
  have hts := atoms_spec (ws := wsX5_plan) B.pre
  have hown : s.vm.findClass RX5 = some m.cls := findClass_of_methodNamed B.named
  have hlocks := B.notSynchronized
  subst hsz
  have hD := hD0.self (sz := s.heap.size)
  generalize hAe : va_A (xW cy ad S R) s.heap.size = A at hD hE ⊢
  have hA : ∀ q : Nat, s.heap.size ≤ q → A q := fun q h => by rw [← hAe]; exact Or.inr h
  have hS : va_S A s.heap s.heap [] := va_S.rf
  have iX3 : ∀ w ∈ u_ws RX3 TX3 13, w ∈ wsX5_plan := by decide +kernel
  have iX5 : ∀ w ∈ u_ws RX5 TX5 4, w ∈ wsX5_plan := by decide +kernel
  have hf37 := hts (.fieldLink RX5 37 "InlinePlanner" "tree" "LInlinePlanner$Tree;") (by decide +kernel)
  have hf145 := hts (.fieldLink RX5 145 "InlinePlanner$Tree" "count" "I") (by decide +kernel)
  refine g_entry (n := 2) hav (Nat.le_of_ble_eq_true rfl) (fun ls hl => ?_)
  have hl : lv_has ls 2 [(0, .ref (ad 0)), (1, .int x1)] := hl
  refine g_nameQ (fun Q hQ => ?_)
  unfold q_X5_plan at h
  refine lv_aload_n hx hb dX5_plan_0 rfl (lv_at hl 0 rfl) ?_
  refine lv_iload_n hx hb dX5_plan_1 rfl (lv_at hl 1 rfl) ?_
  rcases x_bind h with ⟨k2, ek2, h⟩ | ⟨v1, ek2, h⟩
  · refine g_tYv (As := [.int x1]) (rest := []) ⟨hx, hb, hml, hown, hts⟩ (m_X5_checkMethod l hst D cy tx ad R _ S x1 (.inl k2) ek2) (cwV 1 hts gX5_plan_X5_checkMethod rfl rfl rfl (by decide +kernel) ⟨Nat.le_of_ble_eq_true rfl, Nat.le_of_ble_eq_true rfl⟩) (va_recv hK hP (ci := 5) (q0 := 0) rfl rfl) hP hK hD hS hA hE rfl hl.1 rfl (Nat.le_of_ble_eq_true rfl) dX5_plan_2 ⟨Nat.le_of_ble_eq_true rfl, Nat.le_of_ble_eq_true rfl⟩ (fun ce q9 H locs hP hD hS hce hcv hcl => ?_)
    exact g_xout hQ hnt hlocks h hP hK hD hS hce hcv hcl (Nat.le_of_ble_eq_true rfl) (Nat.le_of_ble_eq_true rfl)
  · refine g_rYv (As := [.int x1]) (rest := []) ⟨hx, hb, hml, hown, hts⟩ (m_X5_checkMethod l hst D cy tx ad R _ S x1 (.inr v1) ek2) (cwV 1 hts gX5_plan_X5_checkMethod rfl rfl rfl (by decide +kernel) ⟨Nat.le_of_ble_eq_true rfl, Nat.le_of_ble_eq_true rfl⟩) (va_recv hK hP (ci := 5) (q0 := 0) rfl rfl) hP hK hD hS hA hE rfl hl.1 rfl (Nat.le_of_ble_eq_true rfl) dX5_plan_2 ⟨Nat.le_of_ble_eq_true rfl, Nat.le_of_ble_eq_true rfl⟩ (fun H locs hP hD hS => ?_)
    refine W.widen (k := 1) (n := 6) (Nat.le_of_ble_eq_true rfl) (Nat.le_of_ble_eq_true rfl) ?_
    refine lv_aload_n hx hb dX5_plan_5 rfl (lv_at hl 0 rfl) ?_
    refine xgX5_3 hx hb hts iX5 hown hK hP hf37 dX5_plan_6 ?_
    refine lv_iload_n hx hb dX5_plan_9 rfl (lv_at hl 1 rfl) ?_
    obtain ⟨S4, ev3, h⟩ := o_bind h
    refine g_cVv (As := [.int x1]) (rest := []) ⟨hx, hb, hml, hown, hts⟩ (m_X3_grow l hst D cy tx ad R _ S x1 S4 ev3) (cwV 1 hts gX5_plan_X3_grow rfl rfl rfl (by decide +kernel) ⟨Nat.le_of_ble_eq_true rfl, Nat.le_of_ble_eq_true rfl⟩) (va_recv hK hP (ci := 3) (q0 := 4) rfl rfl) hP hK hD hS hA hE rfl hl.1 rfl (Nat.le_of_ble_eq_true rfl) dX5_plan_10 ⟨Nat.le_of_ble_eq_true rfl, Nat.le_of_ble_eq_true rfl⟩ (fun H locs hP hD hS => ?_)
    refine lv_aload_n hx hb dX5_plan_13 rfl (lv_at hl 0 rfl) ?_
    refine xgX5_3 hx hb hts iX5 hown hK hP hf37 dX5_plan_14 ?_
    refine xgX3_0 hx hb hts iX3 hown hK hP hf145 dX5_plan_17 ?_
    exact g_iretX (Wf := fun u => (xW cy ad u R)) (S1 := S4) hQ hx hb hr hP hK hD hS (Nat.le_of_ble_eq_true rfl) (Nat.le_of_ble_eq_true rfl) dX5_plan_20 hlocks (Option.some.inj h)
set_option maxHeartbeats 4000000 in
set_option maxRecDepth 100000 in
theorem m_X5_hasPlan (l : Launch) (hst : l.stackTraces = false) (D : va_G) (cy : Nat → ClassId) (tx : List (ClassId × FieldType)) (ad : Nat → Nat) (R : va_W) (sz : Nat) (S : PS)  (v : Int32) (h : q_X5_hasPlan S = some v) : gMi l yX5_hasPlan wsX5_hasPlan ({ frames := 1, cells := 0, slots := 0, locals := 20 }) 0 0 D (gT cy ++ tx) [.ref (ad 0)] sz (xW cy ad S R) (xW cy ad S R) v := by
  refine Met.ofW (cc := cX5_hasPlan) (maxL := 1) (ret := (some .boolean)) (by decide) rfl ?_
  intro p e s m args below meth c s₁ B hml hv
  obtain ⟨hav, hsz, hP, hK, hD0, hE⟩ := hv
  have hx := B.exec
  have hb := B.bytes
  have hr := B.returns
  have hts := atoms_spec (ws := wsX5_hasPlan) B.pre
  have hown : s.vm.findClass RX5 = some m.cls := findClass_of_methodNamed B.named
  have hlocks := B.notSynchronized
  subst hsz
  have hD := hD0.self (sz := s.heap.size)
  generalize hAe : va_A (xW cy ad S R) s.heap.size = A at hD hE ⊢
  have hA : ∀ q : Nat, s.heap.size ≤ q → A q := fun q h => by rw [← hAe]; exact Or.inr h
  have hS : va_S A s.heap s.heap [] := va_S.rf
  have iX5 : ∀ w ∈ u_ws RX5 TX5 4, w ∈ wsX5_hasPlan := by decide +kernel
  have hf37 := hts (.fieldLink RX5 37 "InlinePlanner" "tree" "LInlinePlanner$Tree;") (by decide +kernel)
  refine g_entry (n := 1) hav (Nat.le_of_ble_eq_true rfl) (fun ls hl => ?_)
  have hl : lv_has ls 1 [(0, .ref (ad 0))] := hl
  refine g_nameQ (fun Q hQ => ?_)
  unfold q_X5_hasPlan at h
  refine lv_aload_n hx hb dX5_hasPlan_0 rfl (lv_at hl 0 rfl) ?_
  refine xgX5_3 hx hb hts iX5 hown hK hP hf37 dX5_hasPlan_1 ?_
  obtain ⟨v1, ev1, h⟩ := o_bind h
  refine g_cVi (As := []) (rest := []) ⟨hx, hb, hml, hown, hts⟩ (m_X3_exists l hst D cy tx ad R _ S  v1 ev1) (cwV 0 hts gX5_hasPlan_X3_exists rfl rfl rfl (by decide +kernel) ⟨Nat.le_of_ble_eq_true rfl, Nat.le_of_ble_eq_true rfl⟩) (va_recv hK hP (ci := 3) (q0 := 4) rfl rfl) hP hK hD hS hA hE rfl hl.1 rfl (Nat.le_of_ble_eq_true rfl) dX5_hasPlan_4 ⟨Nat.le_of_ble_eq_true rfl, Nat.le_of_ble_eq_true rfl⟩ (fun H locs hP hD hS => ?_)
  obtain ⟨z2, ez2, h⟩ := o_bind h
  obtain ⟨hn, ez2⟩ := zg_spec ez2
  subst ez2
  exact g_zret hQ hx hb hr hn hP hK hD hS (Nat.le_of_ble_eq_true rfl) (Nat.le_of_ble_eq_true rfl) dX5_hasPlan_7 hlocks (Option.some.inj h)
set_option maxHeartbeats 4000000 in
set_option maxRecDepth 100000 in
theorem m_X5_nodeCount (l : Launch) (hst : l.stackTraces = false) (D : va_G) (cy : Nat → ClassId) (tx : List (ClassId × FieldType)) (ad : Nat → Nat) (R : va_W) (sz : Nat) (S : PS)  (o : Nat ⊕ Int32) (h : q_X5_nodeCount S = some o) : gYi l yX5_nodeCount wsX5_nodeCount ({ frames := 7, cells := 1, slots := 6, locals := 102 }) 1 6 D (gT cy ++ tx) [.ref (ad 0)] sz (xW cy ad S R) o := by
  refine vx_ofW (cc := cX5_nodeCount) (maxL := 1) (ret := (some .int)) (by decide) rfl ?_
  intro p e s m args below meth c s₁ B hml hnt hv
  obtain ⟨hav, hsz, hP, hK, hD0, hE⟩ := hv
  have hx := B.exec
  have hb := B.bytes
  have hr := B.returns
  have hts := atoms_spec (ws := wsX5_nodeCount) B.pre
  have hown : s.vm.findClass RX5 = some m.cls := findClass_of_methodNamed B.named
  have hlocks := B.notSynchronized
  subst hsz
  have hD := hD0.self (sz := s.heap.size)
  generalize hAe : va_A (xW cy ad S R) s.heap.size = A at hD hE ⊢
  have hA : ∀ q : Nat, s.heap.size ≤ q → A q := fun q h => by rw [← hAe]; exact Or.inr h
  have hS : va_S A s.heap s.heap [] := va_S.rf
  have iX3 : ∀ w ∈ u_ws RX3 TX3 13, w ∈ wsX5_nodeCount := by decide +kernel
  have iX5 : ∀ w ∈ u_ws RX5 TX5 4, w ∈ wsX5_nodeCount := by decide +kernel
  have hf37 := hts (.fieldLink RX5 37 "InlinePlanner" "tree" "LInlinePlanner$Tree;") (by decide +kernel)
  have hf145 := hts (.fieldLink RX5 145 "InlinePlanner$Tree" "count" "I") (by decide +kernel)
  refine g_entry (n := 1) hav (Nat.le_of_ble_eq_true rfl) (fun ls hl => ?_)
  have hl : lv_has ls 1 [(0, .ref (ad 0))] := hl
  refine g_nameQ (fun Q hQ => ?_)
  unfold q_X5_nodeCount at h
  refine lv_aload_n hx hb dX5_nodeCount_0 rfl (lv_at hl 0 rfl) ?_
  rcases x_bind h with ⟨k2, ek2, h⟩ | ⟨v1, ek2, h⟩
  · refine g_tYv (As := []) (rest := []) ⟨hx, hb, hml, hown, hts⟩ (m_X5_checkPlan l hst D cy tx ad R _ S  (.inl k2) ek2) (cwV 0 hts gX5_nodeCount_X5_checkPlan rfl rfl rfl (by decide +kernel) ⟨Nat.le_of_ble_eq_true rfl, Nat.le_of_ble_eq_true rfl⟩) (va_recv hK hP (ci := 5) (q0 := 0) rfl rfl) hP hK hD hS hA hE rfl hl.1 rfl (Nat.le_of_ble_eq_true rfl) dX5_nodeCount_1 ⟨Nat.le_of_ble_eq_true rfl, Nat.le_of_ble_eq_true rfl⟩ (fun ce q9 H locs hP hD hS hce hcv hcl => ?_)
    exact g_xout hQ hnt hlocks h hP hK hD hS hce hcv hcl (Nat.le_of_ble_eq_true rfl) (Nat.le_of_ble_eq_true rfl)
  · refine g_rYv (As := []) (rest := []) ⟨hx, hb, hml, hown, hts⟩ (m_X5_checkPlan l hst D cy tx ad R _ S  (.inr v1) ek2) (cwV 0 hts gX5_nodeCount_X5_checkPlan rfl rfl rfl (by decide +kernel) ⟨Nat.le_of_ble_eq_true rfl, Nat.le_of_ble_eq_true rfl⟩) (va_recv hK hP (ci := 5) (q0 := 0) rfl rfl) hP hK hD hS hA hE rfl hl.1 rfl (Nat.le_of_ble_eq_true rfl) dX5_nodeCount_1 ⟨Nat.le_of_ble_eq_true rfl, Nat.le_of_ble_eq_true rfl⟩ (fun H locs hP hD hS => ?_)
    refine W.widen (k := 1) (n := 6) (Nat.le_of_ble_eq_true rfl) (Nat.le_of_ble_eq_true rfl) ?_
    refine lv_aload_n hx hb dX5_nodeCount_4 rfl (lv_at hl 0 rfl) ?_
    refine xgX5_3 hx hb hts iX5 hown hK hP hf37 dX5_nodeCount_5 ?_
    refine xgX3_0 hx hb hts iX3 hown hK hP hf145 dX5_nodeCount_8 ?_
    exact g_iretY hQ hx hb hr hP hK hD hS (Nat.le_of_ble_eq_true rfl) (Nat.le_of_ble_eq_true rfl) dX5_nodeCount_11 hlocks (Option.some.inj h)
set_option maxHeartbeats 4000000 in
set_option maxRecDepth 100000 in
theorem m_X5_size (l : Launch) (hst : l.stackTraces = false) (D : va_G) (cy : Nat → ClassId) (tx : List (ClassId × FieldType)) (ad : Nat → Nat) (R : va_W) (sz : Nat) (S : PS)  (o : Nat ⊕ Int32) (h : q_X5_size S = some o) : gYi l yX5_size wsX5_size ({ frames := 7, cells := 1, slots := 6, locals := 102 }) 1 6 D (gT cy ++ tx) [.ref (ad 0)] sz (xW cy ad S R) o := by
  refine vx_ofW (cc := cX5_size) (maxL := 1) (ret := (some .int)) (by decide) rfl ?_
  intro p e s m args below meth c s₁ B hml hnt hv
  obtain ⟨hav, hsz, hP, hK, hD0, hE⟩ := hv
  have hx := B.exec
  have hb := B.bytes
  have hr := B.returns
  have hts := atoms_spec (ws := wsX5_size) B.pre
  have hown : s.vm.findClass RX5 = some m.cls := findClass_of_methodNamed B.named
  have hlocks := B.notSynchronized
  subst hsz
  have hD := hD0.self (sz := s.heap.size)
  generalize hAe : va_A (xW cy ad S R) s.heap.size = A at hD hE ⊢
  have hA : ∀ q : Nat, s.heap.size ≤ q → A q := fun q h => by rw [← hAe]; exact Or.inr h
  have hS : va_S A s.heap s.heap [] := va_S.rf
  have iX3 : ∀ w ∈ u_ws RX3 TX3 13, w ∈ wsX5_size := by decide +kernel
  have iX5 : ∀ w ∈ u_ws RX5 TX5 4, w ∈ wsX5_size := by decide +kernel
  have hf37 := hts (.fieldLink RX5 37 "InlinePlanner" "tree" "LInlinePlanner$Tree;") (by decide +kernel)
  have hf153 := hts (.fieldLink RX5 153 "InlinePlanner$Tree" "totalSize" "I") (by decide +kernel)
  refine g_entry (n := 1) hav (Nat.le_of_ble_eq_true rfl) (fun ls hl => ?_)
  have hl : lv_has ls 1 [(0, .ref (ad 0))] := hl
  refine g_nameQ (fun Q hQ => ?_)
  unfold q_X5_size at h
  refine lv_aload_n hx hb dX5_size_0 rfl (lv_at hl 0 rfl) ?_
  rcases x_bind h with ⟨k2, ek2, h⟩ | ⟨v1, ek2, h⟩
  · refine g_tYv (As := []) (rest := []) ⟨hx, hb, hml, hown, hts⟩ (m_X5_checkPlan l hst D cy tx ad R _ S  (.inl k2) ek2) (cwV 0 hts gX5_size_X5_checkPlan rfl rfl rfl (by decide +kernel) ⟨Nat.le_of_ble_eq_true rfl, Nat.le_of_ble_eq_true rfl⟩) (va_recv hK hP (ci := 5) (q0 := 0) rfl rfl) hP hK hD hS hA hE rfl hl.1 rfl (Nat.le_of_ble_eq_true rfl) dX5_size_1 ⟨Nat.le_of_ble_eq_true rfl, Nat.le_of_ble_eq_true rfl⟩ (fun ce q9 H locs hP hD hS hce hcv hcl => ?_)
    exact g_xout hQ hnt hlocks h hP hK hD hS hce hcv hcl (Nat.le_of_ble_eq_true rfl) (Nat.le_of_ble_eq_true rfl)
  · refine g_rYv (As := []) (rest := []) ⟨hx, hb, hml, hown, hts⟩ (m_X5_checkPlan l hst D cy tx ad R _ S  (.inr v1) ek2) (cwV 0 hts gX5_size_X5_checkPlan rfl rfl rfl (by decide +kernel) ⟨Nat.le_of_ble_eq_true rfl, Nat.le_of_ble_eq_true rfl⟩) (va_recv hK hP (ci := 5) (q0 := 0) rfl rfl) hP hK hD hS hA hE rfl hl.1 rfl (Nat.le_of_ble_eq_true rfl) dX5_size_1 ⟨Nat.le_of_ble_eq_true rfl, Nat.le_of_ble_eq_true rfl⟩ (fun H locs hP hD hS => ?_)
    refine W.widen (k := 1) (n := 6) (Nat.le_of_ble_eq_true rfl) (Nat.le_of_ble_eq_true rfl) ?_
    refine lv_aload_n hx hb dX5_size_4 rfl (lv_at hl 0 rfl) ?_
    refine xgX5_3 hx hb hts iX5 hown hK hP hf37 dX5_size_5 ?_
    refine xgX3_1 hx hb hts iX3 hown hK hP hf153 dX5_size_8 ?_
    exact g_iretY hQ hx hb hr hP hK hD hS (Nat.le_of_ble_eq_true rfl) (Nat.le_of_ble_eq_true rfl) dX5_size_11 hlocks (Option.some.inj h)
set_option maxHeartbeats 4000000 in
set_option maxRecDepth 100000 in
theorem m_X5_method (l : Launch) (hst : l.stackTraces = false) (D : va_G) (cy : Nat → ClassId) (tx : List (ClassId × FieldType)) (ad : Nat → Nat) (R : va_W) (sz : Nat) (S : PS) (x1 : Int32) (o : Nat ⊕ Int32) (h : q_X5_method S x1 = some o) : gYi l yX5_method wsX5_method ({ frames := 8, cells := 2, slots := 12, locals := 123 }) 2 12 D (gT cy ++ tx) [.ref (ad 0), .int x1] sz (xW cy ad S R) o := by
  refine vx_ofW (cc := cX5_method) (maxL := 2) (ret := (some .int)) (by decide) rfl ?_
  intro p e s m args below meth c s₁ B hml hnt hv
  obtain ⟨hav, hsz, hP, hK, hD0, hE⟩ := hv
  have hx := B.exec
  have hb := B.bytes
  have hr := B.returns
  have hts := atoms_spec (ws := wsX5_method) B.pre
  have hown : s.vm.findClass RX5 = some m.cls := findClass_of_methodNamed B.named
  have hlocks := B.notSynchronized
  subst hsz
  have hD := hD0.self (sz := s.heap.size)
  generalize hAe : va_A (xW cy ad S R) s.heap.size = A at hD hE ⊢
  have hA : ∀ q : Nat, s.heap.size ≤ q → A q := fun q h => by rw [← hAe]; exact Or.inr h
  have hS : va_S A s.heap s.heap [] := va_S.rf
  have iX3 : ∀ w ∈ u_ws RX3 TX3 13, w ∈ wsX5_method := by decide +kernel
  have iX5 : ∀ w ∈ u_ws RX5 TX5 4, w ∈ wsX5_method := by decide +kernel
  have hf37 := hts (.fieldLink RX5 37 "InlinePlanner" "tree" "LInlinePlanner$Tree;") (by decide +kernel)
  have hf159 := hts (.fieldLink RX5 159 "InlinePlanner$Tree" "methods" "[I") (by decide +kernel)
  refine g_entry (n := 2) hav (Nat.le_of_ble_eq_true rfl) (fun ls hl => ?_)
  have hl : lv_has ls 2 [(0, .ref (ad 0)), (1, .int x1)] := hl
  refine g_nameQ (fun Q hQ => ?_)
  unfold q_X5_method at h
  refine lv_aload_n hx hb dX5_method_0 rfl (lv_at hl 0 rfl) ?_
  refine lv_iload_n hx hb dX5_method_1 rfl (lv_at hl 1 rfl) ?_
  rcases x_bind h with ⟨k2, ek2, h⟩ | ⟨v1, ek2, h⟩
  · refine g_tYv (As := [.int x1]) (rest := []) ⟨hx, hb, hml, hown, hts⟩ (m_X5_checkNode l hst D cy tx ad R _ S x1 (.inl k2) ek2) (cwV 1 hts gX5_method_X5_checkNode rfl rfl rfl (by decide +kernel) ⟨Nat.le_of_ble_eq_true rfl, Nat.le_of_ble_eq_true rfl⟩) (va_recv hK hP (ci := 5) (q0 := 0) rfl rfl) hP hK hD hS hA hE rfl hl.1 rfl (Nat.le_of_ble_eq_true rfl) dX5_method_2 ⟨Nat.le_of_ble_eq_true rfl, Nat.le_of_ble_eq_true rfl⟩ (fun ce q9 H locs hP hD hS hce hcv hcl => ?_)
    exact g_xout hQ hnt hlocks h hP hK hD hS hce hcv hcl (Nat.le_of_ble_eq_true rfl) (Nat.le_of_ble_eq_true rfl)
  · refine g_rYv (As := [.int x1]) (rest := []) ⟨hx, hb, hml, hown, hts⟩ (m_X5_checkNode l hst D cy tx ad R _ S x1 (.inr v1) ek2) (cwV 1 hts gX5_method_X5_checkNode rfl rfl rfl (by decide +kernel) ⟨Nat.le_of_ble_eq_true rfl, Nat.le_of_ble_eq_true rfl⟩) (va_recv hK hP (ci := 5) (q0 := 0) rfl rfl) hP hK hD hS hA hE rfl hl.1 rfl (Nat.le_of_ble_eq_true rfl) dX5_method_2 ⟨Nat.le_of_ble_eq_true rfl, Nat.le_of_ble_eq_true rfl⟩ (fun H locs hP hD hS => ?_)
    refine W.widen (k := 2) (n := 12) (Nat.le_of_ble_eq_true rfl) (Nat.le_of_ble_eq_true rfl) ?_
    refine lv_aload_n hx hb dX5_method_5 rfl (lv_at hl 0 rfl) ?_
    refine xgX5_3 hx hb hts iX5 hown hK hP hf37 dX5_method_6 ?_
    refine xgX3_2 hx hb hts iX3 hown hK hP hf159 dX5_method_9 ?_
    refine lv_iload_n hx hb dX5_method_12 rfl (lv_at hl 1 rfl) ?_
    obtain ⟨v3, ev3, h⟩ := o_bind h
    refine xld9 hx hb hK hP ev3 dX5_method_13 ?_
    exact g_iretY hQ hx hb hr hP hK hD hS (Nat.le_of_ble_eq_true rfl) (Nat.le_of_ble_eq_true rfl) dX5_method_14 hlocks (Option.some.inj h)
set_option maxHeartbeats 4000000 in
set_option maxRecDepth 100000 in
theorem m_X5_parentNode (l : Launch) (hst : l.stackTraces = false) (D : va_G) (cy : Nat → ClassId) (tx : List (ClassId × FieldType)) (ad : Nat → Nat) (R : va_W) (sz : Nat) (S : PS) (x1 : Int32) (o : Nat ⊕ Int32) (h : q_X5_parentNode S x1 = some o) : gYi l yX5_parentNode wsX5_parentNode ({ frames := 8, cells := 2, slots := 12, locals := 123 }) 2 12 D (gT cy ++ tx) [.ref (ad 0), .int x1] sz (xW cy ad S R) o := by
  refine vx_ofW (cc := cX5_parentNode) (maxL := 2) (ret := (some .int)) (by decide) rfl ?_
  intro p e s m args below meth c s₁ B hml hnt hv
  obtain ⟨hav, hsz, hP, hK, hD0, hE⟩ := hv
  have hx := B.exec
  have hb := B.bytes
  have hr := B.returns
  have hts := atoms_spec (ws := wsX5_parentNode) B.pre
  have hown : s.vm.findClass RX5 = some m.cls := findClass_of_methodNamed B.named
  have hlocks := B.notSynchronized
  subst hsz
  have hD := hD0.self (sz := s.heap.size)
  generalize hAe : va_A (xW cy ad S R) s.heap.size = A at hD hE ⊢
  have hA : ∀ q : Nat, s.heap.size ≤ q → A q := fun q h => by rw [← hAe]; exact Or.inr h
  have hS : va_S A s.heap s.heap [] := va_S.rf
  have iX3 : ∀ w ∈ u_ws RX3 TX3 13, w ∈ wsX5_parentNode := by decide +kernel
  have iX5 : ∀ w ∈ u_ws RX5 TX5 4, w ∈ wsX5_parentNode := by decide +kernel
  have hf37 := hts (.fieldLink RX5 37 "InlinePlanner" "tree" "LInlinePlanner$Tree;") (by decide +kernel)
  have hf162 := hts (.fieldLink RX5 162 "InlinePlanner$Tree" "parents" "[I") (by decide +kernel)
  refine g_entry (n := 2) hav (Nat.le_of_ble_eq_true rfl) (fun ls hl => ?_)
  have hl : lv_has ls 2 [(0, .ref (ad 0)), (1, .int x1)] := hl
  refine g_nameQ (fun Q hQ => ?_)
  unfold q_X5_parentNode at h
  refine lv_aload_n hx hb dX5_parentNode_0 rfl (lv_at hl 0 rfl) ?_
  refine lv_iload_n hx hb dX5_parentNode_1 rfl (lv_at hl 1 rfl) ?_
  rcases x_bind h with ⟨k2, ek2, h⟩ | ⟨v1, ek2, h⟩
  · refine g_tYv (As := [.int x1]) (rest := []) ⟨hx, hb, hml, hown, hts⟩ (m_X5_checkNode l hst D cy tx ad R _ S x1 (.inl k2) ek2) (cwV 1 hts gX5_parentNode_X5_checkNode rfl rfl rfl (by decide +kernel) ⟨Nat.le_of_ble_eq_true rfl, Nat.le_of_ble_eq_true rfl⟩) (va_recv hK hP (ci := 5) (q0 := 0) rfl rfl) hP hK hD hS hA hE rfl hl.1 rfl (Nat.le_of_ble_eq_true rfl) dX5_parentNode_2 ⟨Nat.le_of_ble_eq_true rfl, Nat.le_of_ble_eq_true rfl⟩ (fun ce q9 H locs hP hD hS hce hcv hcl => ?_)
    exact g_xout hQ hnt hlocks h hP hK hD hS hce hcv hcl (Nat.le_of_ble_eq_true rfl) (Nat.le_of_ble_eq_true rfl)
  · refine g_rYv (As := [.int x1]) (rest := []) ⟨hx, hb, hml, hown, hts⟩ (m_X5_checkNode l hst D cy tx ad R _ S x1 (.inr v1) ek2) (cwV 1 hts gX5_parentNode_X5_checkNode rfl rfl rfl (by decide +kernel) ⟨Nat.le_of_ble_eq_true rfl, Nat.le_of_ble_eq_true rfl⟩) (va_recv hK hP (ci := 5) (q0 := 0) rfl rfl) hP hK hD hS hA hE rfl hl.1 rfl (Nat.le_of_ble_eq_true rfl) dX5_parentNode_2 ⟨Nat.le_of_ble_eq_true rfl, Nat.le_of_ble_eq_true rfl⟩ (fun H locs hP hD hS => ?_)
    refine W.widen (k := 2) (n := 12) (Nat.le_of_ble_eq_true rfl) (Nat.le_of_ble_eq_true rfl) ?_
    refine lv_aload_n hx hb dX5_parentNode_5 rfl (lv_at hl 0 rfl) ?_
    refine xgX5_3 hx hb hts iX5 hown hK hP hf37 dX5_parentNode_6 ?_
    refine xgX3_3 hx hb hts iX3 hown hK hP hf162 dX5_parentNode_9 ?_
    refine lv_iload_n hx hb dX5_parentNode_12 rfl (lv_at hl 1 rfl) ?_
    obtain ⟨v3, ev3, h⟩ := o_bind h
    refine xld10 hx hb hK hP ev3 dX5_parentNode_13 ?_
    exact g_iretY hQ hx hb hr hP hK hD hS (Nat.le_of_ble_eq_true rfl) (Nat.le_of_ble_eq_true rfl) dX5_parentNode_14 hlocks (Option.some.inj h)
set_option maxHeartbeats 4000000 in
set_option maxRecDepth 100000 in
theorem m_X5_siteOf (l : Launch) (hst : l.stackTraces = false) (D : va_G) (cy : Nat → ClassId) (tx : List (ClassId × FieldType)) (ad : Nat → Nat) (R : va_W) (sz : Nat) (S : PS) (x1 : Int32) (o : Nat ⊕ Int32) (h : q_X5_siteOf S x1 = some o) : gYi l yX5_siteOf wsX5_siteOf ({ frames := 8, cells := 2, slots := 12, locals := 123 }) 2 12 D (gT cy ++ tx) [.ref (ad 0), .int x1] sz (xW cy ad S R) o := by
  refine vx_ofW (cc := cX5_siteOf) (maxL := 2) (ret := (some .int)) (by decide) rfl ?_
  intro p e s m args below meth c s₁ B hml hnt hv
  obtain ⟨hav, hsz, hP, hK, hD0, hE⟩ := hv
  have hx := B.exec
  have hb := B.bytes
  have hr := B.returns
  have hts := atoms_spec (ws := wsX5_siteOf) B.pre
  have hown : s.vm.findClass RX5 = some m.cls := findClass_of_methodNamed B.named
  have hlocks := B.notSynchronized
  subst hsz
  have hD := hD0.self (sz := s.heap.size)
  generalize hAe : va_A (xW cy ad S R) s.heap.size = A at hD hE ⊢
  have hA : ∀ q : Nat, s.heap.size ≤ q → A q := fun q h => by rw [← hAe]; exact Or.inr h
  have hS : va_S A s.heap s.heap [] := va_S.rf
  have iX3 : ∀ w ∈ u_ws RX3 TX3 13, w ∈ wsX5_siteOf := by decide +kernel
  have iX5 : ∀ w ∈ u_ws RX5 TX5 4, w ∈ wsX5_siteOf := by decide +kernel
  have hf37 := hts (.fieldLink RX5 37 "InlinePlanner" "tree" "LInlinePlanner$Tree;") (by decide +kernel)
  have hf163 := hts (.fieldLink RX5 163 "InlinePlanner$Tree" "origins" "[I") (by decide +kernel)
  refine g_entry (n := 2) hav (Nat.le_of_ble_eq_true rfl) (fun ls hl => ?_)
  have hl : lv_has ls 2 [(0, .ref (ad 0)), (1, .int x1)] := hl
  refine g_nameQ (fun Q hQ => ?_)
  unfold q_X5_siteOf at h
  refine lv_aload_n hx hb dX5_siteOf_0 rfl (lv_at hl 0 rfl) ?_
  refine lv_iload_n hx hb dX5_siteOf_1 rfl (lv_at hl 1 rfl) ?_
  rcases x_bind h with ⟨k2, ek2, h⟩ | ⟨v1, ek2, h⟩
  · refine g_tYv (As := [.int x1]) (rest := []) ⟨hx, hb, hml, hown, hts⟩ (m_X5_checkNode l hst D cy tx ad R _ S x1 (.inl k2) ek2) (cwV 1 hts gX5_siteOf_X5_checkNode rfl rfl rfl (by decide +kernel) ⟨Nat.le_of_ble_eq_true rfl, Nat.le_of_ble_eq_true rfl⟩) (va_recv hK hP (ci := 5) (q0 := 0) rfl rfl) hP hK hD hS hA hE rfl hl.1 rfl (Nat.le_of_ble_eq_true rfl) dX5_siteOf_2 ⟨Nat.le_of_ble_eq_true rfl, Nat.le_of_ble_eq_true rfl⟩ (fun ce q9 H locs hP hD hS hce hcv hcl => ?_)
    exact g_xout hQ hnt hlocks h hP hK hD hS hce hcv hcl (Nat.le_of_ble_eq_true rfl) (Nat.le_of_ble_eq_true rfl)
  · refine g_rYv (As := [.int x1]) (rest := []) ⟨hx, hb, hml, hown, hts⟩ (m_X5_checkNode l hst D cy tx ad R _ S x1 (.inr v1) ek2) (cwV 1 hts gX5_siteOf_X5_checkNode rfl rfl rfl (by decide +kernel) ⟨Nat.le_of_ble_eq_true rfl, Nat.le_of_ble_eq_true rfl⟩) (va_recv hK hP (ci := 5) (q0 := 0) rfl rfl) hP hK hD hS hA hE rfl hl.1 rfl (Nat.le_of_ble_eq_true rfl) dX5_siteOf_2 ⟨Nat.le_of_ble_eq_true rfl, Nat.le_of_ble_eq_true rfl⟩ (fun H locs hP hD hS => ?_)
    refine W.widen (k := 2) (n := 12) (Nat.le_of_ble_eq_true rfl) (Nat.le_of_ble_eq_true rfl) ?_
    refine lv_aload_n hx hb dX5_siteOf_5 rfl (lv_at hl 0 rfl) ?_
    refine xgX5_3 hx hb hts iX5 hown hK hP hf37 dX5_siteOf_6 ?_
    refine xgX3_4 hx hb hts iX3 hown hK hP hf163 dX5_siteOf_9 ?_
    refine lv_iload_n hx hb dX5_siteOf_12 rfl (lv_at hl 1 rfl) ?_
    obtain ⟨v3, ev3, h⟩ := o_bind h
    refine xld11 hx hb hK hP ev3 dX5_siteOf_13 ?_
    exact g_iretY hQ hx hb hr hP hK hD hS (Nat.le_of_ble_eq_true rfl) (Nat.le_of_ble_eq_true rfl) dX5_siteOf_14 hlocks (Option.some.inj h)
set_option maxHeartbeats 4000000 in
set_option maxRecDepth 100000 in
theorem m_X5_depth (l : Launch) (hst : l.stackTraces = false) (D : va_G) (cy : Nat → ClassId) (tx : List (ClassId × FieldType)) (ad : Nat → Nat) (R : va_W) (sz : Nat) (S : PS) (x1 : Int32) (o : Nat ⊕ Int32) (h : q_X5_depth S x1 = some o) : gYi l yX5_depth wsX5_depth ({ frames := 8, cells := 2, slots := 12, locals := 123 }) 2 12 D (gT cy ++ tx) [.ref (ad 0), .int x1] sz (xW cy ad S R) o := by
  refine vx_ofW (cc := cX5_depth) (maxL := 2) (ret := (some .int)) (by decide) rfl ?_
  intro p e s m args below meth c s₁ B hml hnt hv
  obtain ⟨hav, hsz, hP, hK, hD0, hE⟩ := hv
  have hx := B.exec
  have hb := B.bytes
  have hr := B.returns
  have hts := atoms_spec (ws := wsX5_depth) B.pre
  have hown : s.vm.findClass RX5 = some m.cls := findClass_of_methodNamed B.named
  have hlocks := B.notSynchronized
  subst hsz
  have hD := hD0.self (sz := s.heap.size)
  generalize hAe : va_A (xW cy ad S R) s.heap.size = A at hD hE ⊢
  have hA : ∀ q : Nat, s.heap.size ≤ q → A q := fun q h => by rw [← hAe]; exact Or.inr h
  have hS : va_S A s.heap s.heap [] := va_S.rf
  have iX3 : ∀ w ∈ u_ws RX3 TX3 13, w ∈ wsX5_depth := by decide +kernel
  have iX5 : ∀ w ∈ u_ws RX5 TX5 4, w ∈ wsX5_depth := by decide +kernel
  have hf37 := hts (.fieldLink RX5 37 "InlinePlanner" "tree" "LInlinePlanner$Tree;") (by decide +kernel)
  have hf166 := hts (.fieldLink RX5 166 "InlinePlanner$Tree" "depths" "[I") (by decide +kernel)
  refine g_entry (n := 2) hav (Nat.le_of_ble_eq_true rfl) (fun ls hl => ?_)
  have hl : lv_has ls 2 [(0, .ref (ad 0)), (1, .int x1)] := hl
  refine g_nameQ (fun Q hQ => ?_)
  unfold q_X5_depth at h
  refine lv_aload_n hx hb dX5_depth_0 rfl (lv_at hl 0 rfl) ?_
  refine lv_iload_n hx hb dX5_depth_1 rfl (lv_at hl 1 rfl) ?_
  rcases x_bind h with ⟨k2, ek2, h⟩ | ⟨v1, ek2, h⟩
  · refine g_tYv (As := [.int x1]) (rest := []) ⟨hx, hb, hml, hown, hts⟩ (m_X5_checkNode l hst D cy tx ad R _ S x1 (.inl k2) ek2) (cwV 1 hts gX5_depth_X5_checkNode rfl rfl rfl (by decide +kernel) ⟨Nat.le_of_ble_eq_true rfl, Nat.le_of_ble_eq_true rfl⟩) (va_recv hK hP (ci := 5) (q0 := 0) rfl rfl) hP hK hD hS hA hE rfl hl.1 rfl (Nat.le_of_ble_eq_true rfl) dX5_depth_2 ⟨Nat.le_of_ble_eq_true rfl, Nat.le_of_ble_eq_true rfl⟩ (fun ce q9 H locs hP hD hS hce hcv hcl => ?_)
    exact g_xout hQ hnt hlocks h hP hK hD hS hce hcv hcl (Nat.le_of_ble_eq_true rfl) (Nat.le_of_ble_eq_true rfl)
  · refine g_rYv (As := [.int x1]) (rest := []) ⟨hx, hb, hml, hown, hts⟩ (m_X5_checkNode l hst D cy tx ad R _ S x1 (.inr v1) ek2) (cwV 1 hts gX5_depth_X5_checkNode rfl rfl rfl (by decide +kernel) ⟨Nat.le_of_ble_eq_true rfl, Nat.le_of_ble_eq_true rfl⟩) (va_recv hK hP (ci := 5) (q0 := 0) rfl rfl) hP hK hD hS hA hE rfl hl.1 rfl (Nat.le_of_ble_eq_true rfl) dX5_depth_2 ⟨Nat.le_of_ble_eq_true rfl, Nat.le_of_ble_eq_true rfl⟩ (fun H locs hP hD hS => ?_)
    refine W.widen (k := 2) (n := 12) (Nat.le_of_ble_eq_true rfl) (Nat.le_of_ble_eq_true rfl) ?_
    refine lv_aload_n hx hb dX5_depth_5 rfl (lv_at hl 0 rfl) ?_
    refine xgX5_3 hx hb hts iX5 hown hK hP hf37 dX5_depth_6 ?_
    refine xgX3_5 hx hb hts iX3 hown hK hP hf166 dX5_depth_9 ?_
    refine lv_iload_n hx hb dX5_depth_12 rfl (lv_at hl 1 rfl) ?_
    obtain ⟨v3, ev3, h⟩ := o_bind h
    refine xld12 hx hb hK hP ev3 dX5_depth_13 ?_
    exact g_iretY hQ hx hb hr hP hK hD hS (Nat.le_of_ble_eq_true rfl) (Nat.le_of_ble_eq_true rfl) dX5_depth_14 hlocks (Option.some.inj h)
set_option maxHeartbeats 4000000 in
set_option maxRecDepth 100000 in
theorem m_X5_siteCount (l : Launch) (hst : l.stackTraces = false) (D : va_G) (cy : Nat → ClassId) (tx : List (ClassId × FieldType)) (ad : Nat → Nat) (R : va_W) (sz : Nat) (S : PS) (x1 : Int32) (o : Nat ⊕ Int32) (h : q_X5_siteCount S x1 = some o) : gYi l yX5_siteCount wsX5_siteCount ({ frames := 8, cells := 2, slots := 12, locals := 123 }) 2 12 D (gT cy ++ tx) [.ref (ad 0), .int x1] sz (xW cy ad S R) o := by
  refine vx_ofW (cc := cX5_siteCount) (maxL := 2) (ret := (some .int)) (by decide) rfl ?_
  intro p e s m args below meth c s₁ B hml hnt hv
  obtain ⟨hav, hsz, hP, hK, hD0, hE⟩ := hv
  have hx := B.exec
  have hb := B.bytes
  have hr := B.returns
  have hts := atoms_spec (ws := wsX5_siteCount) B.pre
  have hown : s.vm.findClass RX5 = some m.cls := findClass_of_methodNamed B.named
  have hlocks := B.notSynchronized
  subst hsz
  have hD := hD0.self (sz := s.heap.size)
  generalize hAe : va_A (xW cy ad S R) s.heap.size = A at hD hE ⊢
  have hA : ∀ q : Nat, s.heap.size ≤ q → A q := fun q h => by rw [← hAe]; exact Or.inr h
  have hS : va_S A s.heap s.heap [] := va_S.rf
  have iX5 : ∀ w ∈ u_ws RX5 TX5 4, w ∈ wsX5_siteCount := by decide +kernel
  have hf37 := hts (.fieldLink RX5 37 "InlinePlanner" "tree" "LInlinePlanner$Tree;") (by decide +kernel)
  refine g_entry (n := 2) hav (Nat.le_of_ble_eq_true rfl) (fun ls hl => ?_)
  have hl : lv_has ls 2 [(0, .ref (ad 0)), (1, .int x1)] := hl
  refine g_nameQ (fun Q hQ => ?_)
  unfold q_X5_siteCount at h
  refine lv_aload_n hx hb dX5_siteCount_0 rfl (lv_at hl 0 rfl) ?_
  refine lv_iload_n hx hb dX5_siteCount_1 rfl (lv_at hl 1 rfl) ?_
  rcases x_bind h with ⟨k2, ek2, h⟩ | ⟨v1, ek2, h⟩
  · refine g_tYv (As := [.int x1]) (rest := []) ⟨hx, hb, hml, hown, hts⟩ (m_X5_checkNode l hst D cy tx ad R _ S x1 (.inl k2) ek2) (cwV 1 hts gX5_siteCount_X5_checkNode rfl rfl rfl (by decide +kernel) ⟨Nat.le_of_ble_eq_true rfl, Nat.le_of_ble_eq_true rfl⟩) (va_recv hK hP (ci := 5) (q0 := 0) rfl rfl) hP hK hD hS hA hE rfl hl.1 rfl (Nat.le_of_ble_eq_true rfl) dX5_siteCount_2 ⟨Nat.le_of_ble_eq_true rfl, Nat.le_of_ble_eq_true rfl⟩ (fun ce q9 H locs hP hD hS hce hcv hcl => ?_)
    exact g_xout hQ hnt hlocks h hP hK hD hS hce hcv hcl (Nat.le_of_ble_eq_true rfl) (Nat.le_of_ble_eq_true rfl)
  · refine g_rYv (As := [.int x1]) (rest := []) ⟨hx, hb, hml, hown, hts⟩ (m_X5_checkNode l hst D cy tx ad R _ S x1 (.inr v1) ek2) (cwV 1 hts gX5_siteCount_X5_checkNode rfl rfl rfl (by decide +kernel) ⟨Nat.le_of_ble_eq_true rfl, Nat.le_of_ble_eq_true rfl⟩) (va_recv hK hP (ci := 5) (q0 := 0) rfl rfl) hP hK hD hS hA hE rfl hl.1 rfl (Nat.le_of_ble_eq_true rfl) dX5_siteCount_2 ⟨Nat.le_of_ble_eq_true rfl, Nat.le_of_ble_eq_true rfl⟩ (fun H locs hP hD hS => ?_)
    refine W.widen (k := 2) (n := 12) (Nat.le_of_ble_eq_true rfl) (Nat.le_of_ble_eq_true rfl) ?_
    refine lv_aload_n hx hb dX5_siteCount_5 rfl (lv_at hl 0 rfl) ?_
    refine xgX5_3 hx hb hts iX5 hown hK hP hf37 dX5_siteCount_6 ?_
    refine lv_iload_n hx hb dX5_siteCount_9 rfl (lv_at hl 1 rfl) ?_
    obtain ⟨v3, ev3, h⟩ := o_bind h
    refine g_cVi (As := [.int x1]) (rest := []) ⟨hx, hb, hml, hown, hts⟩ (m_X3_sitesAt l hst D cy tx ad R _ S x1 v3 ev3) (cwV 1 hts gX5_siteCount_X3_sitesAt rfl rfl rfl (by decide +kernel) ⟨Nat.le_of_ble_eq_true rfl, Nat.le_of_ble_eq_true rfl⟩) (va_recv hK hP (ci := 3) (q0 := 4) rfl rfl) hP hK hD hS hA hE rfl hl.1 rfl (Nat.le_of_ble_eq_true rfl) dX5_siteCount_10 ⟨Nat.le_of_ble_eq_true rfl, Nat.le_of_ble_eq_true rfl⟩ (fun H locs hP hD hS => ?_)
    exact g_iretY hQ hx hb hr hP hK hD hS (Nat.le_of_ble_eq_true rfl) (Nat.le_of_ble_eq_true rfl) dX5_siteCount_13 hlocks (Option.some.inj h)
set_option maxHeartbeats 4000000 in
set_option maxRecDepth 100000 in
theorem m_X5_verdict (l : Launch) (hst : l.stackTraces = false) (D : va_G) (cy : Nat → ClassId) (tx : List (ClassId × FieldType)) (ad : Nat → Nat) (R : va_W) (sz : Nat) (S : PS) (x1 : Int32) (x2 : Int32) (o : Nat ⊕ Int32) (h : q_X5_verdict S x1 x2 = some o) : gYi l yX5_verdict wsX5_verdict ({ frames := 9, cells := 3, slots := 18, locals := 145 }) 3 18 D (gT cy ++ tx) [.ref (ad 0), .int x1, .int x2] sz (xW cy ad S R) o := by
  refine vx_ofW (cc := cX5_verdict) (maxL := 3) (ret := (some .int)) (by decide) rfl ?_
  intro p e s m args below meth c s₁ B hml hnt hv
  obtain ⟨hav, hsz, hP, hK, hD0, hE⟩ := hv
  have hx := B.exec
  have hb := B.bytes
  have hr := B.returns
  have hts := atoms_spec (ws := wsX5_verdict) B.pre
  have hown : s.vm.findClass RX5 = some m.cls := findClass_of_methodNamed B.named
  have hlocks := B.notSynchronized
  subst hsz
  have hD := hD0.self (sz := s.heap.size)
  generalize hAe : va_A (xW cy ad S R) s.heap.size = A at hD hE ⊢
  have hA : ∀ q : Nat, s.heap.size ≤ q → A q := fun q h => by rw [← hAe]; exact Or.inr h
  have hS : va_S A s.heap s.heap [] := va_S.rf
  have iX3 : ∀ w ∈ u_ws RX3 TX3 13, w ∈ wsX5_verdict := by decide +kernel
  have iX5 : ∀ w ∈ u_ws RX5 TX5 4, w ∈ wsX5_verdict := by decide +kernel
  have hf37 := hts (.fieldLink RX5 37 "InlinePlanner" "tree" "LInlinePlanner$Tree;") (by decide +kernel)
  have hf176 := hts (.fieldLink RX5 176 "InlinePlanner$Tree" "verdicts" "[I") (by decide +kernel)
  refine g_entry (n := 3) hav (Nat.le_of_ble_eq_true rfl) (fun ls hl => ?_)
  have hl : lv_has ls 3 [(0, .ref (ad 0)), (1, .int x1), (2, .int x2)] := hl
  refine g_nameQ (fun Q hQ => ?_)
  unfold q_X5_verdict at h
  refine lv_aload_n hx hb dX5_verdict_0 rfl (lv_at hl 0 rfl) ?_
  refine lv_iload_n hx hb dX5_verdict_1 rfl (lv_at hl 1 rfl) ?_
  refine lv_iload_n hx hb dX5_verdict_2 rfl (lv_at hl 2 rfl) ?_
  rcases x_bind h with ⟨k2, ek2, h⟩ | ⟨v1, ek2, h⟩
  · refine g_tYv (As := [.int x1, .int x2]) (rest := []) ⟨hx, hb, hml, hown, hts⟩ (m_X5_checkSite l hst D cy tx ad R _ S x1 x2 (.inl k2) ek2) (cwV 2 hts gX5_verdict_X5_checkSite rfl rfl rfl (by decide +kernel) ⟨Nat.le_of_ble_eq_true rfl, Nat.le_of_ble_eq_true rfl⟩) (va_recv hK hP (ci := 5) (q0 := 0) rfl rfl) hP hK hD hS hA hE rfl hl.1 rfl (Nat.le_of_ble_eq_true rfl) dX5_verdict_3 ⟨Nat.le_of_ble_eq_true rfl, Nat.le_of_ble_eq_true rfl⟩ (fun ce q9 H locs hP hD hS hce hcv hcl => ?_)
    exact g_xout hQ hnt hlocks h hP hK hD hS hce hcv hcl (Nat.le_of_ble_eq_true rfl) (Nat.le_of_ble_eq_true rfl)
  · refine g_rYv (As := [.int x1, .int x2]) (rest := []) ⟨hx, hb, hml, hown, hts⟩ (m_X5_checkSite l hst D cy tx ad R _ S x1 x2 (.inr v1) ek2) (cwV 2 hts gX5_verdict_X5_checkSite rfl rfl rfl (by decide +kernel) ⟨Nat.le_of_ble_eq_true rfl, Nat.le_of_ble_eq_true rfl⟩) (va_recv hK hP (ci := 5) (q0 := 0) rfl rfl) hP hK hD hS hA hE rfl hl.1 rfl (Nat.le_of_ble_eq_true rfl) dX5_verdict_3 ⟨Nat.le_of_ble_eq_true rfl, Nat.le_of_ble_eq_true rfl⟩ (fun H locs hP hD hS => ?_)
    refine W.widen (k := 3) (n := 18) (Nat.le_of_ble_eq_true rfl) (Nat.le_of_ble_eq_true rfl) ?_
    refine lv_aload_n hx hb dX5_verdict_6 rfl (lv_at hl 0 rfl) ?_
    refine xgX5_3 hx hb hts iX5 hown hK hP hf37 dX5_verdict_7 ?_
    refine xgX3_6 hx hb hts iX3 hown hK hP hf176 dX5_verdict_10 ?_
    refine lv_iload_n hx hb dX5_verdict_13 rfl (lv_at hl 1 rfl) ?_
    refine lv_iload_n hx hb dX5_verdict_14 rfl (lv_at hl 2 rfl) ?_
    obtain ⟨v3, ev3, h⟩ := o_bind h
    refine g_cSi (As := [.int x1, .int x2]) (rest := [.ref (ad 19)]) ⟨hx, hb, hml, hown, hts⟩ (m_X5_slot l hst D (gT cy ++ tx) (xW cy ad S R) _ x1 x2 v3 ev3) (va_cwS 2 hts gX5_verdict_X5_slot rfl rfl rfl (by decide +kernel) ⟨Nat.le_of_ble_eq_true rfl, Nat.le_of_ble_eq_true rfl⟩) hP hK hD hS hA hE rfl hl.1 rfl (Nat.le_of_ble_eq_true rfl) dX5_verdict_15 ⟨Nat.le_of_ble_eq_true rfl, Nat.le_of_ble_eq_true rfl⟩ (fun H locs hP hD hS => ?_)
    obtain ⟨v4, ev4, h⟩ := o_bind h
    refine xld13 hx hb hK hP ev4 dX5_verdict_18 ?_
    exact g_iretY hQ hx hb hr hP hK hD hS (Nat.le_of_ble_eq_true rfl) (Nat.le_of_ble_eq_true rfl) dX5_verdict_19 hlocks (Option.some.inj h)
set_option maxHeartbeats 4000000 in
set_option maxRecDepth 100000 in
theorem m_X5_weight (l : Launch) (hst : l.stackTraces = false) (D : va_G) (cy : Nat → ClassId) (tx : List (ClassId × FieldType)) (ad : Nat → Nat) (R : va_W) (sz : Nat) (S : PS) (x1 : Int32) (x2 : Int32) (o : Nat ⊕ Int32) (h : q_X5_weight S x1 x2 = some o) : gYi l yX5_weight wsX5_weight ({ frames := 9, cells := 3, slots := 18, locals := 145 }) 3 18 D (gT cy ++ tx) [.ref (ad 0), .int x1, .int x2] sz (xW cy ad S R) o := by
  refine vx_ofW (cc := cX5_weight) (maxL := 3) (ret := (some .int)) (by decide) rfl ?_
  intro p e s m args below meth c s₁ B hml hnt hv
  obtain ⟨hav, hsz, hP, hK, hD0, hE⟩ := hv
  have hx := B.exec
  have hb := B.bytes
  have hr := B.returns
  have hts := atoms_spec (ws := wsX5_weight) B.pre
  have hown : s.vm.findClass RX5 = some m.cls := findClass_of_methodNamed B.named
  have hlocks := B.notSynchronized
  subst hsz
  have hD := hD0.self (sz := s.heap.size)
  generalize hAe : va_A (xW cy ad S R) s.heap.size = A at hD hE ⊢
  have hA : ∀ q : Nat, s.heap.size ≤ q → A q := fun q h => by rw [← hAe]; exact Or.inr h
  have hS : va_S A s.heap s.heap [] := va_S.rf
  have iX3 : ∀ w ∈ u_ws RX3 TX3 13, w ∈ wsX5_weight := by decide +kernel
  have iX5 : ∀ w ∈ u_ws RX5 TX5 4, w ∈ wsX5_weight := by decide +kernel
  have hf37 := hts (.fieldLink RX5 37 "InlinePlanner" "tree" "LInlinePlanner$Tree;") (by decide +kernel)
  have hf182 := hts (.fieldLink RX5 182 "InlinePlanner$Tree" "weights" "[I") (by decide +kernel)
  refine g_entry (n := 3) hav (Nat.le_of_ble_eq_true rfl) (fun ls hl => ?_)
  have hl : lv_has ls 3 [(0, .ref (ad 0)), (1, .int x1), (2, .int x2)] := hl
  refine g_nameQ (fun Q hQ => ?_)
  unfold q_X5_weight at h
  refine lv_aload_n hx hb dX5_weight_0 rfl (lv_at hl 0 rfl) ?_
  refine lv_iload_n hx hb dX5_weight_1 rfl (lv_at hl 1 rfl) ?_
  refine lv_iload_n hx hb dX5_weight_2 rfl (lv_at hl 2 rfl) ?_
  rcases x_bind h with ⟨k2, ek2, h⟩ | ⟨v1, ek2, h⟩
  · refine g_tYv (As := [.int x1, .int x2]) (rest := []) ⟨hx, hb, hml, hown, hts⟩ (m_X5_checkSite l hst D cy tx ad R _ S x1 x2 (.inl k2) ek2) (cwV 2 hts gX5_weight_X5_checkSite rfl rfl rfl (by decide +kernel) ⟨Nat.le_of_ble_eq_true rfl, Nat.le_of_ble_eq_true rfl⟩) (va_recv hK hP (ci := 5) (q0 := 0) rfl rfl) hP hK hD hS hA hE rfl hl.1 rfl (Nat.le_of_ble_eq_true rfl) dX5_weight_3 ⟨Nat.le_of_ble_eq_true rfl, Nat.le_of_ble_eq_true rfl⟩ (fun ce q9 H locs hP hD hS hce hcv hcl => ?_)
    exact g_xout hQ hnt hlocks h hP hK hD hS hce hcv hcl (Nat.le_of_ble_eq_true rfl) (Nat.le_of_ble_eq_true rfl)
  · refine g_rYv (As := [.int x1, .int x2]) (rest := []) ⟨hx, hb, hml, hown, hts⟩ (m_X5_checkSite l hst D cy tx ad R _ S x1 x2 (.inr v1) ek2) (cwV 2 hts gX5_weight_X5_checkSite rfl rfl rfl (by decide +kernel) ⟨Nat.le_of_ble_eq_true rfl, Nat.le_of_ble_eq_true rfl⟩) (va_recv hK hP (ci := 5) (q0 := 0) rfl rfl) hP hK hD hS hA hE rfl hl.1 rfl (Nat.le_of_ble_eq_true rfl) dX5_weight_3 ⟨Nat.le_of_ble_eq_true rfl, Nat.le_of_ble_eq_true rfl⟩ (fun H locs hP hD hS => ?_)
    refine W.widen (k := 3) (n := 18) (Nat.le_of_ble_eq_true rfl) (Nat.le_of_ble_eq_true rfl) ?_
    refine lv_aload_n hx hb dX5_weight_6 rfl (lv_at hl 0 rfl) ?_
    refine xgX5_3 hx hb hts iX5 hown hK hP hf37 dX5_weight_7 ?_
    refine xgX3_7 hx hb hts iX3 hown hK hP hf182 dX5_weight_10 ?_
    refine lv_iload_n hx hb dX5_weight_13 rfl (lv_at hl 1 rfl) ?_
    refine lv_iload_n hx hb dX5_weight_14 rfl (lv_at hl 2 rfl) ?_
    obtain ⟨v3, ev3, h⟩ := o_bind h
    refine g_cSi (As := [.int x1, .int x2]) (rest := [.ref (ad 20)]) ⟨hx, hb, hml, hown, hts⟩ (m_X5_slot l hst D (gT cy ++ tx) (xW cy ad S R) _ x1 x2 v3 ev3) (va_cwS 2 hts gX5_weight_X5_slot rfl rfl rfl (by decide +kernel) ⟨Nat.le_of_ble_eq_true rfl, Nat.le_of_ble_eq_true rfl⟩) hP hK hD hS hA hE rfl hl.1 rfl (Nat.le_of_ble_eq_true rfl) dX5_weight_15 ⟨Nat.le_of_ble_eq_true rfl, Nat.le_of_ble_eq_true rfl⟩ (fun H locs hP hD hS => ?_)
    obtain ⟨v4, ev4, h⟩ := o_bind h
    refine xld14 hx hb hK hP ev4 dX5_weight_18 ?_
    exact g_iretY hQ hx hb hr hP hK hD hS (Nat.le_of_ble_eq_true rfl) (Nat.le_of_ble_eq_true rfl) dX5_weight_19 hlocks (Option.some.inj h)
set_option maxHeartbeats 4000000 in
set_option maxRecDepth 100000 in
theorem m_X5_weightOf (l : Launch) (hst : l.stackTraces = false) (D : va_G) (cy : Nat → ClassId) (tx : List (ClassId × FieldType)) (ad : Nat → Nat) (R : va_W) (sz : Nat) (S : PS) (x1 : Int32) (o : Nat ⊕ Int64) (h : q_X5_weightOf S x1 = some o) : gYl l yX5_weightOf wsX5_weightOf ({ frames := 7, cells := 2, slots := 12, locals := 102 }) 2 12 D (gT cy ++ tx) [.ref (ad 0), .int x1] sz (xW cy ad S R) o := by
  refine vx_ofW (cc := cX5_weightOf) (maxL := 2) (ret := (some .long)) (by decide) rfl ?_
  intro p e s m args below meth c s₁ B hml hnt hv
  obtain ⟨hav, hsz, hP, hK, hD0, hE⟩ := hv
  have hx := B.exec
  have hb := B.bytes
  have hr := B.returns
  have hts := atoms_spec (ws := wsX5_weightOf) B.pre
  have hown : s.vm.findClass RX5 = some m.cls := findClass_of_methodNamed B.named
  have hlocks := B.notSynchronized
  subst hsz
  have hD := hD0.self (sz := s.heap.size)
  generalize hAe : va_A (xW cy ad S R) s.heap.size = A at hD hE ⊢
  have hA : ∀ q : Nat, s.heap.size ≤ q → A q := fun q h => by rw [← hAe]; exact Or.inr h
  have hS : va_S A s.heap s.heap [] := va_S.rf
  have iX5 : ∀ w ∈ u_ws RX5 TX5 4, w ∈ wsX5_weightOf := by decide +kernel
  have hf37 := hts (.fieldLink RX5 37 "InlinePlanner" "tree" "LInlinePlanner$Tree;") (by decide +kernel)
  refine g_entry (n := 2) hav (Nat.le_of_ble_eq_true rfl) (fun ls hl => ?_)
  have hl : lv_has ls 2 [(0, .ref (ad 0)), (1, .int x1)] := hl
  refine g_nameQ (fun Q hQ => ?_)
  unfold q_X5_weightOf at h
  refine lv_aload_n hx hb dX5_weightOf_0 rfl (lv_at hl 0 rfl) ?_
  rcases x_bind h with ⟨k2, ek2, h⟩ | ⟨v1, ek2, h⟩
  · refine g_tYv (As := []) (rest := []) ⟨hx, hb, hml, hown, hts⟩ (m_X5_checkPlan l hst D cy tx ad R _ S  (.inl k2) ek2) (cwV 0 hts gX5_weightOf_X5_checkPlan rfl rfl rfl (by decide +kernel) ⟨Nat.le_of_ble_eq_true rfl, Nat.le_of_ble_eq_true rfl⟩) (va_recv hK hP (ci := 5) (q0 := 0) rfl rfl) hP hK hD hS hA hE rfl hl.1 rfl (Nat.le_of_ble_eq_true rfl) dX5_weightOf_1 ⟨Nat.le_of_ble_eq_true rfl, Nat.le_of_ble_eq_true rfl⟩ (fun ce q9 H locs hP hD hS hce hcv hcl => ?_)
    exact g_xout hQ hnt hlocks h hP hK hD hS hce hcv hcl (Nat.le_of_ble_eq_true rfl) (Nat.le_of_ble_eq_true rfl)
  · refine g_rYv (As := []) (rest := []) ⟨hx, hb, hml, hown, hts⟩ (m_X5_checkPlan l hst D cy tx ad R _ S  (.inr v1) ek2) (cwV 0 hts gX5_weightOf_X5_checkPlan rfl rfl rfl (by decide +kernel) ⟨Nat.le_of_ble_eq_true rfl, Nat.le_of_ble_eq_true rfl⟩) (va_recv hK hP (ci := 5) (q0 := 0) rfl rfl) hP hK hD hS hA hE rfl hl.1 rfl (Nat.le_of_ble_eq_true rfl) dX5_weightOf_1 ⟨Nat.le_of_ble_eq_true rfl, Nat.le_of_ble_eq_true rfl⟩ (fun H locs hP hD hS => ?_)
    refine W.widen (k := 1) (n := 6) (Nat.le_of_ble_eq_true rfl) (Nat.le_of_ble_eq_true rfl) ?_
    refine lv_iload_n hx hb dX5_weightOf_4 rfl (lv_at hl 1 rfl) ?_
    refine lv_if_lt (tgt := 14) hx hb dX5_weightOf_5 (by decide) (fun hc => ?_) (fun hc => ?_)
    · have h := o_pos hc h
      exact g_throw (k := 1) (ik := 185) (is := 187) (ic := 189) (text := "the verdict is not 0 to 7") hQ hx hb hst hnt hlocks (by rw [hml]; exact hl.1.symm) hown hts hE (by decide +kernel) (by decide +kernel) (by decide +kernel) (by decide +kernel) (fun _ h => List.mem_cons_of_mem _ (List.mem_append_left _ (List.mem_append_right _ h))) (by decide +kernel) (by decide +kernel) (Option.some.inj h) hP hK hD hS dX5_weightOf_14 dX5_weightOf_17 dX5_weightOf_18 dX5_weightOf_20 dX5_weightOf_23 (Nat.le_of_ble_eq_true rfl) (Nat.le_of_ble_eq_true rfl) (Nat.le_of_ble_eq_true rfl) (Nat.le_of_ble_eq_true rfl) (Nat.le_of_ble_eq_true rfl) (Nat.le_of_ble_eq_true rfl)
    · have h := o_neg hc h
      refine lv_iload_n hx hb dX5_weightOf_8 rfl (lv_at hl 1 rfl) ?_
      refine lv_bipush (v := 7) hx hb dX5_weightOf_9 (by decide) ?_
      refine lv_icmp_le (tgt := 24) hx hb dX5_weightOf_11 (by decide) (fun hc => ?_) (fun hc => ?_)
      · have h := o_pos hc h
        refine lv_aload_n hx hb dX5_weightOf_24 rfl (lv_at hl 0 rfl) ?_
        refine xgX5_3 hx hb hts iX5 hown hK hP hf37 dX5_weightOf_25 ?_
        refine lv_iload_n hx hb dX5_weightOf_28 rfl (lv_at hl 1 rfl) ?_
        refine lv_iload_n hx hb dX5_weightOf_29 rfl (lv_at hl 1 rfl) ?_
        obtain ⟨v3, ev3, h⟩ := o_bind h
        refine g_cVl (As := [.int x1, .int x1]) (rest := []) ⟨hx, hb, hml, hown, hts⟩ (m_X3_weightBetween l hst D cy tx ad R _ S x1 x1 v3 ev3) (cwV 2 hts gX5_weightOf_X3_weightBetween rfl rfl rfl (by decide +kernel) ⟨Nat.le_of_ble_eq_true rfl, Nat.le_of_ble_eq_true rfl⟩) (va_recv hK hP (ci := 3) (q0 := 4) rfl rfl) hP hK hD hS hA hE rfl hl.1 rfl (Nat.le_of_ble_eq_true rfl) dX5_weightOf_30 ⟨Nat.le_of_ble_eq_true rfl, Nat.le_of_ble_eq_true rfl⟩ (fun H locs hP hD hS => ?_)
        exact g_lretY hQ hx hb hr hP hK hD hS (Nat.le_of_ble_eq_true rfl) (Nat.le_of_ble_eq_true rfl) dX5_weightOf_33 hlocks (Option.some.inj h)
      · have h := o_neg hc h
        exact g_throw (k := 1) (ik := 185) (is := 187) (ic := 189) (text := "the verdict is not 0 to 7") hQ hx hb hst hnt hlocks (by rw [hml]; exact hl.1.symm) hown hts hE (by decide +kernel) (by decide +kernel) (by decide +kernel) (by decide +kernel) (fun _ h => List.mem_cons_of_mem _ (List.mem_append_left _ (List.mem_append_right _ h))) (by decide +kernel) (by decide +kernel) (Option.some.inj h) hP hK hD hS dX5_weightOf_14 dX5_weightOf_17 dX5_weightOf_18 dX5_weightOf_20 dX5_weightOf_23 (Nat.le_of_ble_eq_true rfl) (Nat.le_of_ble_eq_true rfl) (Nat.le_of_ble_eq_true rfl) (Nat.le_of_ble_eq_true rfl) (Nat.le_of_ble_eq_true rfl) (Nat.le_of_ble_eq_true rfl)
set_option maxHeartbeats 4000000 in
set_option maxRecDepth 100000 in
theorem m_X5_share (l : Launch) (hst : l.stackTraces = false) (D : va_G) (cy : Nat → ClassId) (tx : List (ClassId × FieldType)) (ad : Nat → Nat) (R : va_W) (sz : Nat) (S : PS)  (o : Nat ⊕ UInt64) (h : q_X5_share S = some o) : gYd l yX5_share wsX5_share ({ frames := 7, cells := 1, slots := 6, locals := 102 }) 1 6 D (gT cy ++ tx) [.ref (ad 0)] sz (xW cy ad S R) o := by
  refine vx_ofW (cc := cX5_share) (maxL := 3) (ret := (some .double)) (by decide) rfl ?_
  intro p e s m args below meth c s₁ B hml hnt hv
  obtain ⟨hav, hsz, hP, hK, hD0, hE⟩ := hv
  have hx := B.exec
  have hb := B.bytes
  have hr := B.returns
  have hts := atoms_spec (ws := wsX5_share) B.pre
  have hown : s.vm.findClass RX5 = some m.cls := findClass_of_methodNamed B.named
  have hlocks := B.notSynchronized
  subst hsz
  have hD := hD0.self (sz := s.heap.size)
  generalize hAe : va_A (xW cy ad S R) s.heap.size = A at hD hE ⊢
  have hA : ∀ q : Nat, s.heap.size ≤ q → A q := fun q h => by rw [← hAe]; exact Or.inr h
  have hS : va_S A s.heap s.heap [] := va_S.rf
  have iX5 : ∀ w ∈ u_ws RX5 TX5 4, w ∈ wsX5_share := by decide +kernel
  have hf37 := hts (.fieldLink RX5 37 "InlinePlanner" "tree" "LInlinePlanner$Tree;") (by decide +kernel)
  refine g_entry (n := 3) hav (Nat.le_of_ble_eq_true rfl) (fun ls hl => ?_)
  have hl : lv_has ls 3 [(0, .ref (ad 0))] := hl
  refine g_nameQ (fun Q hQ => ?_)
  unfold q_X5_share at h
  refine lv_aload_n hx hb dX5_share_0 rfl (lv_at hl 0 rfl) ?_
  rcases x_bind h with ⟨k2, ek2, h⟩ | ⟨v1, ek2, h⟩
  · refine g_tYv (As := []) (rest := []) ⟨hx, hb, hml, hown, hts⟩ (m_X5_checkPlan l hst D cy tx ad R _ S  (.inl k2) ek2) (cwV 0 hts gX5_share_X5_checkPlan rfl rfl rfl (by decide +kernel) ⟨Nat.le_of_ble_eq_true rfl, Nat.le_of_ble_eq_true rfl⟩) (va_recv hK hP (ci := 5) (q0 := 0) rfl rfl) hP hK hD hS hA hE rfl hl.1 rfl (Nat.le_of_ble_eq_true rfl) dX5_share_1 ⟨Nat.le_of_ble_eq_true rfl, Nat.le_of_ble_eq_true rfl⟩ (fun ce q9 H locs hP hD hS hce hcv hcl => ?_)
    exact g_xout hQ hnt hlocks h hP hK hD hS hce hcv hcl (Nat.le_of_ble_eq_true rfl) (Nat.le_of_ble_eq_true rfl)
  · refine g_rYv (As := []) (rest := []) ⟨hx, hb, hml, hown, hts⟩ (m_X5_checkPlan l hst D cy tx ad R _ S  (.inr v1) ek2) (cwV 0 hts gX5_share_X5_checkPlan rfl rfl rfl (by decide +kernel) ⟨Nat.le_of_ble_eq_true rfl, Nat.le_of_ble_eq_true rfl⟩) (va_recv hK hP (ci := 5) (q0 := 0) rfl rfl) hP hK hD hS hA hE rfl hl.1 rfl (Nat.le_of_ble_eq_true rfl) dX5_share_1 ⟨Nat.le_of_ble_eq_true rfl, Nat.le_of_ble_eq_true rfl⟩ (fun H locs hP hD hS => ?_)
    refine W.widen (k := 1) (n := 6) (Nat.le_of_ble_eq_true rfl) (Nat.le_of_ble_eq_true rfl) ?_
    refine lv_aload_n hx hb dX5_share_4 rfl (lv_at hl 0 rfl) ?_
    refine xgX5_3 hx hb hts iX5 hown hK hP hf37 dX5_share_5 ?_
    refine lv_iconst (v := 0) hx hb dX5_share_8 (by decide) ?_
    refine lv_bipush (v := 7) hx hb dX5_share_9 (by decide) ?_
    obtain ⟨v3, ev3, h⟩ := o_bind h
    refine g_cVl (As := [.int 0, .int 7]) (rest := []) ⟨hx, hb, hml, hown, hts⟩ (m_X3_weightBetween l hst D cy tx ad R _ S 0 7 v3 ev3) (cwV 2 hts gX5_share_X3_weightBetween rfl rfl rfl (by decide +kernel) ⟨Nat.le_of_ble_eq_true rfl, Nat.le_of_ble_eq_true rfl⟩) (va_recv hK hP (ci := 3) (q0 := 4) rfl rfl) hP hK hD hS hA hE rfl hl.1 rfl (Nat.le_of_ble_eq_true rfl) dX5_share_11 ⟨Nat.le_of_ble_eq_true rfl, Nat.le_of_ble_eq_true rfl⟩ (fun H locs hP hD hS => ?_)
    refine lv_lstore_n (lv' := [(1, .long v3), (0, .ref (ad 0))]) hx hb dX5_share_14 rfl hl (by decide) rfl (fun ls hl => ?_)
    refine lv_lload_n hx hb dX5_share_15 rfl (lv_at hl 0 rfl) ?_
    refine lv_lconst (v := 0) hx hb dX5_share_16 (by decide) ?_
    refine W.lcmp hx hb dX5_share_17 ?_
    refine lv_if_ne (tgt := 23) hx hb dX5_share_18 (by decide) (fun hc => ?_) (fun hc => ?_)
    · have h := o_neg hc h
      refine lv_aload_n hx hb dX5_share_23 rfl (lv_at hl 1 rfl) ?_
      refine xgX5_3 hx hb hts iX5 hown hK hP hf37 dX5_share_24 ?_
      refine lv_iconst (v := 0) hx hb dX5_share_27 (by decide) ?_
      refine lv_iconst (v := 0) hx hb dX5_share_28 (by decide) ?_
      obtain ⟨v4, ev4, h⟩ := o_bind h
      refine g_cVl (As := [.int 0, .int 0]) (rest := []) ⟨hx, hb, hml, hown, hts⟩ (m_X3_weightBetween l hst D cy tx ad R _ S 0 0 v4 ev4) (cwV 2 hts gX5_share_X3_weightBetween rfl rfl rfl (by decide +kernel) ⟨Nat.le_of_ble_eq_true rfl, Nat.le_of_ble_eq_true rfl⟩) (va_recv hK hP (ci := 3) (q0 := 4) rfl rfl) hP hK hD hS hA hE rfl hl.1 rfl (Nat.le_of_ble_eq_true rfl) dX5_share_29 ⟨Nat.le_of_ble_eq_true rfl, Nat.le_of_ble_eq_true rfl⟩ (fun H locs hP hD hS => ?_)
      refine lv_l2d hx hb dX5_share_32 ?_
      refine lv_lload_n hx hb dX5_share_33 rfl (lv_at hl 0 rfl) ?_
      refine lv_l2d hx hb dX5_share_34 ?_
      obtain ⟨_, hu5, h⟩ := o_bind h
      refine lv_ddiv hx hb dX5_share_35 (ndiv_spec hu5) ?_
      exact g_dretY hQ hx hb hr hP hK hD hS (Nat.le_of_ble_eq_true rfl) (Nat.le_of_ble_eq_true rfl) dX5_share_36 hlocks (Option.some.inj h)
    · have h := o_pos hc h
      refine lv_dconst1 hx hb dX5_share_21 ?_
      exact g_dretY hQ hx hb hr hP hK hD hS (Nat.le_of_ble_eq_true rfl) (Nat.le_of_ble_eq_true rfl) dX5_share_22 hlocks (Option.some.inj h)
set_option maxHeartbeats 4000000 in
set_option maxRecDepth 100000 in
theorem m_X5_holds (l : Launch) (hst : l.stackTraces = false) (D : va_G) (cy : Nat → ClassId) (tx : List (ClassId × FieldType)) (ad : Nat → Nat) (R : va_W) (sz : Nat) (S : PS) (x1 : Int32) (o : Nat ⊕ Int32) (h : q_X5_holds S x1 = some o) : gYi l yX5_holds wsX5_holds ({ frames := 8, cells := 2, slots := 12, locals := 123 }) 2 12 D (gT cy ++ tx) [.ref (ad 0), .int x1] sz (xW cy ad S R) o := by
  refine vx_ofW (cc := cX5_holds) (maxL := 2) (ret := (some .boolean)) (by decide) rfl ?_
  intro p e s m args below meth c s₁ B hml hnt hv
  obtain ⟨hav, hsz, hP, hK, hD0, hE⟩ := hv
  have hx := B.exec
  have hb := B.bytes
  have hr := B.returns
  have hts := atoms_spec (ws := wsX5_holds) B.pre
  have hown : s.vm.findClass RX5 = some m.cls := findClass_of_methodNamed B.named
  have hlocks := B.notSynchronized
  subst hsz
  have hD := hD0.self (sz := s.heap.size)
  generalize hAe : va_A (xW cy ad S R) s.heap.size = A at hD hE ⊢
  have hA : ∀ q : Nat, s.heap.size ≤ q → A q := fun q h => by rw [← hAe]; exact Or.inr h
  have hS : va_S A s.heap s.heap [] := va_S.rf
  have iX5 : ∀ w ∈ u_ws RX5 TX5 4, w ∈ wsX5_holds := by decide +kernel
  have hf37 := hts (.fieldLink RX5 37 "InlinePlanner" "tree" "LInlinePlanner$Tree;") (by decide +kernel)
  refine g_entry (n := 2) hav (Nat.le_of_ble_eq_true rfl) (fun ls hl => ?_)
  have hl : lv_has ls 2 [(0, .ref (ad 0)), (1, .int x1)] := hl
  refine g_nameQ (fun Q hQ => ?_)
  unfold q_X5_holds at h
  refine lv_aload_n hx hb dX5_holds_0 rfl (lv_at hl 0 rfl) ?_
  refine lv_iload_n hx hb dX5_holds_1 rfl (lv_at hl 1 rfl) ?_
  rcases x_bind h with ⟨k2, ek2, h⟩ | ⟨v1, ek2, h⟩
  · refine g_tYv (As := [.int x1]) (rest := []) ⟨hx, hb, hml, hown, hts⟩ (m_X5_checkNode l hst D cy tx ad R _ S x1 (.inl k2) ek2) (cwV 1 hts gX5_holds_X5_checkNode rfl rfl rfl (by decide +kernel) ⟨Nat.le_of_ble_eq_true rfl, Nat.le_of_ble_eq_true rfl⟩) (va_recv hK hP (ci := 5) (q0 := 0) rfl rfl) hP hK hD hS hA hE rfl hl.1 rfl (Nat.le_of_ble_eq_true rfl) dX5_holds_2 ⟨Nat.le_of_ble_eq_true rfl, Nat.le_of_ble_eq_true rfl⟩ (fun ce q9 H locs hP hD hS hce hcv hcl => ?_)
    exact g_xout hQ hnt hlocks h hP hK hD hS hce hcv hcl (Nat.le_of_ble_eq_true rfl) (Nat.le_of_ble_eq_true rfl)
  · refine g_rYv (As := [.int x1]) (rest := []) ⟨hx, hb, hml, hown, hts⟩ (m_X5_checkNode l hst D cy tx ad R _ S x1 (.inr v1) ek2) (cwV 1 hts gX5_holds_X5_checkNode rfl rfl rfl (by decide +kernel) ⟨Nat.le_of_ble_eq_true rfl, Nat.le_of_ble_eq_true rfl⟩) (va_recv hK hP (ci := 5) (q0 := 0) rfl rfl) hP hK hD hS hA hE rfl hl.1 rfl (Nat.le_of_ble_eq_true rfl) dX5_holds_2 ⟨Nat.le_of_ble_eq_true rfl, Nat.le_of_ble_eq_true rfl⟩ (fun H locs hP hD hS => ?_)
    refine W.widen (k := 2) (n := 12) (Nat.le_of_ble_eq_true rfl) (Nat.le_of_ble_eq_true rfl) ?_
    refine lv_aload_n hx hb dX5_holds_5 rfl (lv_at hl 0 rfl) ?_
    refine xgX5_3 hx hb hts iX5 hown hK hP hf37 dX5_holds_6 ?_
    refine lv_iload_n hx hb dX5_holds_9 rfl (lv_at hl 1 rfl) ?_
    obtain ⟨v3, ev3, h⟩ := o_bind h
    refine g_cVi (As := [.int x1]) (rest := []) ⟨hx, hb, hml, hown, hts⟩ (m_X3_isSound l hst D cy tx ad R _ S x1 v3 ev3) (cwV 1 hts gX5_holds_X3_isSound rfl rfl rfl (by decide +kernel) ⟨Nat.le_of_ble_eq_true rfl, Nat.le_of_ble_eq_true rfl⟩) (va_recv hK hP (ci := 3) (q0 := 4) rfl rfl) hP hK hD hS hA hE rfl hl.1 rfl (Nat.le_of_ble_eq_true rfl) dX5_holds_10 ⟨Nat.le_of_ble_eq_true rfl, Nat.le_of_ble_eq_true rfl⟩ (fun H locs hP hD hS => ?_)
    obtain ⟨z4, ez4, h⟩ := o_bind h
    obtain ⟨hn, ez4⟩ := zg_spec ez4
    subst ez4
    exact g_zretY hQ hx hb hr hn hP hK hD hS (Nat.le_of_ble_eq_true rfl) (Nat.le_of_ble_eq_true rfl) dX5_holds_13 hlocks (Option.some.inj h)
set_option maxHeartbeats 4000000 in
set_option maxRecDepth 100000 in
theorem m_X5_firstBroken (l : Launch) (hst : l.stackTraces = false) (D : va_G) (cy : Nat → ClassId) (tx : List (ClassId × FieldType)) (ad : Nat → Nat) (R : va_W) (sz : Nat) (S : PS)  (o : Nat ⊕ Int32) (h : q_X5_firstBroken S = some o) : gYi l yX5_firstBroken wsX5_firstBroken ({ frames := 7, cells := 1, slots := 6, locals := 102 }) 1 6 D (gT cy ++ tx) [.ref (ad 0)] sz (xW cy ad S R) o := by
  refine vx_ofW (cc := cX5_firstBroken) (maxL := 2) (ret := (some .int)) (by decide) rfl ?_
  intro p e s m args below meth c s₁ B hml hnt hv
  obtain ⟨hav, hsz, hP, hK, hD0, hE⟩ := hv
  have hx := B.exec
  have hb := B.bytes
  have hr := B.returns
  have hts := atoms_spec (ws := wsX5_firstBroken) B.pre
  have hown : s.vm.findClass RX5 = some m.cls := findClass_of_methodNamed B.named
  have hlocks := B.notSynchronized
  subst hsz
  have hD := hD0.self (sz := s.heap.size)
  generalize hAe : va_A (xW cy ad S R) s.heap.size = A at hD hE ⊢
  have hA : ∀ q : Nat, s.heap.size ≤ q → A q := fun q h => by rw [← hAe]; exact Or.inr h
  have hS : va_S A s.heap s.heap [] := va_S.rf
  have iX3 : ∀ w ∈ u_ws RX3 TX3 13, w ∈ wsX5_firstBroken := by decide +kernel
  have iX5 : ∀ w ∈ u_ws RX5 TX5 4, w ∈ wsX5_firstBroken := by decide +kernel
  have hf37 := hts (.fieldLink RX5 37 "InlinePlanner" "tree" "LInlinePlanner$Tree;") (by decide +kernel)
  have hf145 := hts (.fieldLink RX5 145 "InlinePlanner$Tree" "count" "I") (by decide +kernel)
  refine g_entry (n := 2) hav (Nat.le_of_ble_eq_true rfl) (fun ls hl => ?_)
  have hl : lv_has ls 2 [(0, .ref (ad 0))] := hl
  refine g_nameQ (fun Q hQ => ?_)
  unfold q_X5_firstBroken at h
  refine lv_aload_n hx hb dX5_firstBroken_0 rfl (lv_at hl 0 rfl) ?_
  rcases x_bind h with ⟨k2, ek2, h⟩ | ⟨v1, ek2, h⟩
  · refine g_tYv (As := []) (rest := []) ⟨hx, hb, hml, hown, hts⟩ (m_X5_checkPlan l hst D cy tx ad R _ S  (.inl k2) ek2) (cwV 0 hts gX5_firstBroken_X5_checkPlan rfl rfl rfl (by decide +kernel) ⟨Nat.le_of_ble_eq_true rfl, Nat.le_of_ble_eq_true rfl⟩) (va_recv hK hP (ci := 5) (q0 := 0) rfl rfl) hP hK hD hS hA hE rfl hl.1 rfl (Nat.le_of_ble_eq_true rfl) dX5_firstBroken_1 ⟨Nat.le_of_ble_eq_true rfl, Nat.le_of_ble_eq_true rfl⟩ (fun ce q9 H locs hP hD hS hce hcv hcl => ?_)
    exact g_xout hQ hnt hlocks h hP hK hD hS hce hcv hcl (Nat.le_of_ble_eq_true rfl) (Nat.le_of_ble_eq_true rfl)
  · refine g_rYv (As := []) (rest := []) ⟨hx, hb, hml, hown, hts⟩ (m_X5_checkPlan l hst D cy tx ad R _ S  (.inr v1) ek2) (cwV 0 hts gX5_firstBroken_X5_checkPlan rfl rfl rfl (by decide +kernel) ⟨Nat.le_of_ble_eq_true rfl, Nat.le_of_ble_eq_true rfl⟩) (va_recv hK hP (ci := 5) (q0 := 0) rfl rfl) hP hK hD hS hA hE rfl hl.1 rfl (Nat.le_of_ble_eq_true rfl) dX5_firstBroken_1 ⟨Nat.le_of_ble_eq_true rfl, Nat.le_of_ble_eq_true rfl⟩ (fun H locs hP hD hS => ?_)
    refine W.widen (k := 1) (n := 6) (Nat.le_of_ble_eq_true rfl) (Nat.le_of_ble_eq_true rfl) ?_
    refine lv_iconst (v := 0) hx hb dX5_firstBroken_4 (by decide) ?_
    refine lv_istore_n (lv' := [(1, .int 0), (0, .ref (ad 0))]) hx hb dX5_firstBroken_5 rfl hl (by decide) rfl (fun ls hl => ?_)
    have L6 : ∀ (n6 : Nat) (x1 : Int32) (H : Heap) (locs : List Loc) (ls : Array Slot), va_P D vwCl (xW cy ad S R) H → va_D A (xW cy ad S R) → va_S A s.heap H locs → lv_has ls 2 [(0, .ref (ad 0)), (1, .int x1)] → iter1 (q_X5_firstBroken_L6 S ) n6 x1 = some o → W p l e (headSpec wsX5_firstBroken ({ frames := 7, cells := 1, slots := 6, locals := 102 })).room s m args below meth c H locs 1 6 Q (F0 m 6 ls []) := by
      intro  n6
      induction n6 with
      | zero =>
        intro x1 H locs ls hP hD hS hl h
        exact (it1_0 h).elim
      | succ n6 ih6 =>
        intro x1 H locs ls hP hD hS hl h
        have h : q_X5_firstBroken_L6 S  (iter1 (q_X5_firstBroken_L6 S ) n6) x1 = some o := h
        unfold q_X5_firstBroken_L6 at h
        refine lv_iload_n hx hb dX5_firstBroken_6 rfl (lv_at hl 1 rfl) ?_
        refine lv_aload_n hx hb dX5_firstBroken_7 rfl (lv_at hl 0 rfl) ?_
        refine xgX5_3 hx hb hts iX5 hown hK hP hf37 dX5_firstBroken_8 ?_
        refine xgX3_0 hx hb hts iX3 hown hK hP hf145 dX5_firstBroken_11 ?_
        refine lv_icmp_ge (tgt := 36) hx hb dX5_firstBroken_14 (by decide) (fun hc => ?_) (fun hc => ?_)
        · have h := o_pos hc h
          refine lv_iconst (v := (-1)) hx hb dX5_firstBroken_36 (by decide) ?_
          exact g_iretY hQ hx hb hr hP hK hD hS (Nat.le_of_ble_eq_true rfl) (Nat.le_of_ble_eq_true rfl) dX5_firstBroken_37 hlocks (Option.some.inj h)
        · have h := o_neg hc h
          refine lv_aload_n hx hb dX5_firstBroken_17 rfl (lv_at hl 0 rfl) ?_
          refine xgX5_3 hx hb hts iX5 hown hK hP hf37 dX5_firstBroken_18 ?_
          refine lv_iload_n hx hb dX5_firstBroken_21 rfl (lv_at hl 1 rfl) ?_
          obtain ⟨v3, ev3, h⟩ := o_bind h
          refine g_cVi (As := [.int x1]) (rest := []) ⟨hx, hb, hml, hown, hts⟩ (m_X3_isSound l hst D cy tx ad R _ S x1 v3 ev3) (cwV 1 hts gX5_firstBroken_X3_isSound rfl rfl rfl (by decide +kernel) ⟨Nat.le_of_ble_eq_true rfl, Nat.le_of_ble_eq_true rfl⟩) (va_recv hK hP (ci := 3) (q0 := 4) rfl rfl) hP hK hD hS hA hE rfl hl.1 rfl (Nat.le_of_ble_eq_true rfl) dX5_firstBroken_22 ⟨Nat.le_of_ble_eq_true rfl, Nat.le_of_ble_eq_true rfl⟩ (fun H locs hP hD hS => ?_)
          refine lv_if_ne (tgt := 30) hx hb dX5_firstBroken_25 (by decide) (fun hc => ?_) (fun hc => ?_)
          · have h := o_neg hc h
            refine lv_iinc (v := (x1 + 1)) (lv' := [(1, .int (x1 + 1)), (0, .ref (ad 0))]) hx hb dX5_firstBroken_30 hl (k := 1) rfl rfl (by decide) rfl (fun ls hl => ?_)
            refine lv_goto (tgt := 6) hx hb dX5_firstBroken_33 (by decide) ?_
            exact ih6 (x1 + 1) _ _ ls hP hD hS (lv_sub hl [1, 0] rfl) h
          · have h := o_pos hc h
            refine lv_iload_n hx hb dX5_firstBroken_28 rfl (lv_at hl 1 rfl) ?_
            exact g_iretY hQ hx hb hr hP hK hD hS (Nat.le_of_ble_eq_true rfl) (Nat.le_of_ble_eq_true rfl) dX5_firstBroken_29 hlocks (Option.some.inj h)
    exact L6  1000 0 _ _ ls hP hD hS (lv_sub hl [1, 0] rfl) h
set_option maxHeartbeats 4000000 in
set_option maxRecDepth 100000 in
theorem m_X5_prune (l : Launch) (hst : l.stackTraces = false) (D : va_G) (cy : Nat → ClassId) (tx : List (ClassId × FieldType)) (ad : Nat → Nat) (R : va_W) (sz : Nat) (S : PS)  (o : Nat ⊕ (PS × Int32)) (h : q_X5_prune S = some o) : gXi l yX5_prune wsX5_prune ({ frames := 7, cells := 1, slots := 6, locals := 142 }) 1 6 D (gT cy ++ tx) [.ref (ad 0)] sz (xW cy ad S R) (fun u => (xW cy ad u R)) o := by
  refine vx_ofW (cc := cX5_prune) (maxL := 2) (ret := (some .int)) (by decide) rfl ?_
  intro p e s m args below meth c s₁ B hml hnt hv
  obtain ⟨hav, hsz, hP, hK, hD0, hE⟩ := hv
  have hx := B.exec
  have hb := B.bytes
  have hr := B.returns
  have hts := atoms_spec (ws := wsX5_prune) B.pre
  have hown : s.vm.findClass RX5 = some m.cls := findClass_of_methodNamed B.named
  have hlocks := B.notSynchronized
  subst hsz
  have hD := hD0.self (sz := s.heap.size)
  generalize hAe : va_A (xW cy ad S R) s.heap.size = A at hD hE ⊢
  have hA : ∀ q : Nat, s.heap.size ≤ q → A q := fun q h => by rw [← hAe]; exact Or.inr h
  have hS : va_S A s.heap s.heap [] := va_S.rf
  have iX3 : ∀ w ∈ u_ws RX3 TX3 13, w ∈ wsX5_prune := by decide +kernel
  have iX5 : ∀ w ∈ u_ws RX5 TX5 4, w ∈ wsX5_prune := by decide +kernel
  have hf37 := hts (.fieldLink RX5 37 "InlinePlanner" "tree" "LInlinePlanner$Tree;") (by decide +kernel)
  have hf145 := hts (.fieldLink RX5 145 "InlinePlanner$Tree" "count" "I") (by decide +kernel)
  refine g_entry (n := 2) hav (Nat.le_of_ble_eq_true rfl) (fun ls hl => ?_)
  have hl : lv_has ls 2 [(0, .ref (ad 0))] := hl
  refine g_nameQ (fun Q hQ => ?_)
  unfold q_X5_prune at h
  refine lv_aload_n hx hb dX5_prune_0 rfl (lv_at hl 0 rfl) ?_
  rcases x_bind h with ⟨k2, ek2, h⟩ | ⟨v1, ek2, h⟩
  · refine g_tYv (As := []) (rest := []) ⟨hx, hb, hml, hown, hts⟩ (m_X5_checkPlan l hst D cy tx ad R _ S  (.inl k2) ek2) (cwV 0 hts gX5_prune_X5_checkPlan rfl rfl rfl (by decide +kernel) ⟨Nat.le_of_ble_eq_true rfl, Nat.le_of_ble_eq_true rfl⟩) (va_recv hK hP (ci := 5) (q0 := 0) rfl rfl) hP hK hD hS hA hE rfl hl.1 rfl (Nat.le_of_ble_eq_true rfl) dX5_prune_1 ⟨Nat.le_of_ble_eq_true rfl, Nat.le_of_ble_eq_true rfl⟩ (fun ce q9 H locs hP hD hS hce hcv hcl => ?_)
    exact g_xout hQ hnt hlocks h hP hK hD hS hce hcv hcl (Nat.le_of_ble_eq_true rfl) (Nat.le_of_ble_eq_true rfl)
  · refine g_rYv (As := []) (rest := []) ⟨hx, hb, hml, hown, hts⟩ (m_X5_checkPlan l hst D cy tx ad R _ S  (.inr v1) ek2) (cwV 0 hts gX5_prune_X5_checkPlan rfl rfl rfl (by decide +kernel) ⟨Nat.le_of_ble_eq_true rfl, Nat.le_of_ble_eq_true rfl⟩) (va_recv hK hP (ci := 5) (q0 := 0) rfl rfl) hP hK hD hS hA hE rfl hl.1 rfl (Nat.le_of_ble_eq_true rfl) dX5_prune_1 ⟨Nat.le_of_ble_eq_true rfl, Nat.le_of_ble_eq_true rfl⟩ (fun H locs hP hD hS => ?_)
    refine W.widen (k := 1) (n := 6) (Nat.le_of_ble_eq_true rfl) (Nat.le_of_ble_eq_true rfl) ?_
    refine lv_aload_n hx hb dX5_prune_4 rfl (lv_at hl 0 rfl) ?_
    refine xgX5_3 hx hb hts iX5 hown hK hP hf37 dX5_prune_5 ?_
    refine xgX3_0 hx hb hts iX3 hown hK hP hf145 dX5_prune_8 ?_
    refine lv_istore_n (lv' := [(1, .int (S.1 5)), (0, .ref (ad 0))]) hx hb dX5_prune_11 rfl hl (by decide) rfl (fun ls hl => ?_)
    refine lv_aload_n hx hb dX5_prune_12 rfl (lv_at hl 1 rfl) ?_
    refine xgX5_3 hx hb hts iX5 hown hK hP hf37 dX5_prune_13 ?_
    obtain ⟨S4, ev3, h⟩ := o_bind h
    refine g_cVv (As := []) (rest := []) ⟨hx, hb, hml, hown, hts⟩ (m_X3_cutBroken l hst D cy tx ad R _ S  S4 ev3) (cwV 0 hts gX5_prune_X3_cutBroken rfl rfl rfl (by decide +kernel) ⟨Nat.le_of_ble_eq_true rfl, Nat.le_of_ble_eq_true rfl⟩) (va_recv hK hP (ci := 3) (q0 := 4) rfl rfl) hP hK hD hS hA hE rfl hl.1 rfl (Nat.le_of_ble_eq_true rfl) dX5_prune_16 ⟨Nat.le_of_ble_eq_true rfl, Nat.le_of_ble_eq_true rfl⟩ (fun H locs hP hD hS => ?_)
    refine lv_iload_n hx hb dX5_prune_19 rfl (lv_at hl 0 rfl) ?_
    refine lv_aload_n hx hb dX5_prune_20 rfl (lv_at hl 1 rfl) ?_
    refine xgX5_3 hx hb hts iX5 hown hK hP hf37 dX5_prune_21 ?_
    refine xgX3_0 hx hb hts iX3 hown hK hP hf145 dX5_prune_24 ?_
    refine lv_isub hx hb dX5_prune_27 ?_
    exact g_iretX (Wf := fun u => (xW cy ad u R)) (S1 := S4) hQ hx hb hr hP hK hD hS (Nat.le_of_ble_eq_true rfl) (Nat.le_of_ble_eq_true rfl) dX5_prune_28 hlocks (Option.some.inj h)
set_option maxHeartbeats 4000000 in
set_option maxRecDepth 100000 in
theorem m_X5_digest (l : Launch) (hst : l.stackTraces = false) (D : va_G) (cy : Nat → ClassId) (tx : List (ClassId × FieldType)) (ad : Nat → Nat) (R : va_W) (sz : Nat) (S : PS)  (v : Int64) (h : q_X5_digest S = some v) : gMl l yX5_digest wsX5_digest ({ frames := 2, cells := 0, slots := 0, locals := 48 }) 0 0 D (gT cy ++ tx) [.ref (ad 0)] sz (xW cy ad S R) (xW cy ad S R) v := by
  refine Met.ofW (cc := cX5_digest) (maxL := 3) (ret := (some .long)) (by decide) rfl ?_
  intro p e s m args below meth c s₁ B hml hv
  obtain ⟨hav, hsz, hP, hK, hD0, hE⟩ := hv
  have hx := B.exec
  have hb := B.bytes
  have hr := B.returns
  have hts := atoms_spec (ws := wsX5_digest) B.pre
  have hown : s.vm.findClass RX5 = some m.cls := findClass_of_methodNamed B.named
  have hlocks := B.notSynchronized
  subst hsz
  have hD := hD0.self (sz := s.heap.size)
  generalize hAe : va_A (xW cy ad S R) s.heap.size = A at hD hE ⊢
  have hA : ∀ q : Nat, s.heap.size ≤ q → A q := fun q h => by rw [← hAe]; exact Or.inr h
  have hS : va_S A s.heap s.heap [] := va_S.rf
  have iX2 : ∀ w ∈ u_ws RX2 TX2 8, w ∈ wsX5_digest := by decide +kernel
  have iX5 : ∀ w ∈ u_ws RX5 TX5 4, w ∈ wsX5_digest := by decide +kernel
  have hf12 := hts (.fieldLink RX5 12 "InlinePlanner" "hierarchy" "LInlinePlanner$Hierarchy;") (by decide +kernel)
  have hf21 := hts (.fieldLink RX5 21 "InlinePlanner" "program" "LInlinePlanner$Program;") (by decide +kernel)
  have hf28 := hts (.fieldLink RX5 28 "InlinePlanner" "limits" "LInlinePlanner$Limits;") (by decide +kernel)
  have hf37 := hts (.fieldLink RX5 37 "InlinePlanner" "tree" "LInlinePlanner$Tree;") (by decide +kernel)
  have hf85 := hts (.fieldLink RX5 85 "InlinePlanner$Program" "count" "I") (by decide +kernel)
  refine g_entry (n := 3) hav (Nat.le_of_ble_eq_true rfl) (fun ls hl => ?_)
  have hl : lv_has ls 3 [(0, .ref (ad 0))] := hl
  refine g_nameQ (fun Q hQ => ?_)
  unfold q_X5_digest at h
  refine lv_aload_n hx hb dX5_digest_0 rfl (lv_at hl 0 rfl) ?_
  refine xgX5_0 hx hb hts iX5 hown hK hP hf12 dX5_digest_1 ?_
  refine lv_ldc2 (v := 89) hx hb hown (hts (.constantLong RX5 201 (89)) (by decide +kernel)) dX5_digest_4 ?_
  obtain ⟨v1, ev1, h⟩ := o_bind h
  refine g_cVl (As := [.long 89]) (rest := []) ⟨hx, hb, hml, hown, hts⟩ (m_X0_mixInto l hst D cy tx ad R _ S 89 v1 ev1) (cwV 1 hts gX5_digest_X0_mixInto rfl rfl rfl (by decide +kernel) ⟨Nat.le_of_ble_eq_true rfl, Nat.le_of_ble_eq_true rfl⟩) (va_recv hK hP (ci := 0) (q0 := 1) rfl rfl) hP hK hD hS hA hE rfl hl.1 rfl (Nat.le_of_ble_eq_true rfl) dX5_digest_7 ⟨Nat.le_of_ble_eq_true rfl, Nat.le_of_ble_eq_true rfl⟩ (fun H locs hP hD hS => ?_)
  refine lv_lstore_n (lv' := [(1, .long v1), (0, .ref (ad 0))]) hx hb dX5_digest_10 rfl hl (by decide) rfl (fun ls hl => ?_)
  refine lv_lload_n hx hb dX5_digest_11 rfl (lv_at hl 0 rfl) ?_
  refine lv_aload_n hx hb dX5_digest_12 rfl (lv_at hl 1 rfl) ?_
  refine xgX5_1 hx hb hts iX5 hown hK hP hf21 dX5_digest_13 ?_
  refine xgX2_0 hx hb hts iX2 hown hK hP hf85 dX5_digest_16 ?_
  obtain ⟨v2, ev2, h⟩ := o_bind h
  refine g_cSl (As := [.long v1, .int (S.1 1)]) (rest := []) ⟨hx, hb, hml, hown, hts⟩ (m_X5_mix l hst D (gT cy ++ tx) (xW cy ad S R) _ v1 (S.1 1) v2 ev2) (va_cwS 2 hts gX5_digest_X5_mix rfl rfl rfl (by decide +kernel) ⟨Nat.le_of_ble_eq_true rfl, Nat.le_of_ble_eq_true rfl⟩) hP hK hD hS hA hE rfl hl.1 rfl (Nat.le_of_ble_eq_true rfl) dX5_digest_19 ⟨Nat.le_of_ble_eq_true rfl, Nat.le_of_ble_eq_true rfl⟩ (fun H locs hP hD hS => ?_)
  refine lv_lstore_n (lv' := [(1, .long v2), (0, .ref (ad 0))]) hx hb dX5_digest_22 rfl hl (by decide) rfl (fun ls hl => ?_)
  refine lv_aload_n hx hb dX5_digest_23 rfl (lv_at hl 1 rfl) ?_
  refine xgX5_2 hx hb hts iX5 hown hK hP hf28 dX5_digest_24 ?_
  refine lv_lload_n hx hb dX5_digest_27 rfl (lv_at hl 0 rfl) ?_
  obtain ⟨v3, ev3, h⟩ := o_bind h
  refine g_cVl (As := [.long v2]) (rest := []) ⟨hx, hb, hml, hown, hts⟩ (m_X1_mixInto l hst D cy tx ad R _ S v2 v3 ev3) (cwV 1 hts gX5_digest_X1_mixInto rfl rfl rfl (by decide +kernel) ⟨Nat.le_of_ble_eq_true rfl, Nat.le_of_ble_eq_true rfl⟩) (va_recv hK hP (ci := 1) (q0 := 3) rfl rfl) hP hK hD hS hA hE rfl hl.1 rfl (Nat.le_of_ble_eq_true rfl) dX5_digest_28 ⟨Nat.le_of_ble_eq_true rfl, Nat.le_of_ble_eq_true rfl⟩ (fun H locs hP hD hS => ?_)
  refine lv_lstore_n (lv' := [(1, .long v3), (0, .ref (ad 0))]) hx hb dX5_digest_31 rfl hl (by decide) rfl (fun ls hl => ?_)
  refine lv_aload_n hx hb dX5_digest_32 rfl (lv_at hl 1 rfl) ?_
  refine xgX5_3 hx hb hts iX5 hown hK hP hf37 dX5_digest_33 ?_
  obtain ⟨v4, ev4, h⟩ := o_bind h
  refine g_cVi (As := []) (rest := []) ⟨hx, hb, hml, hown, hts⟩ (m_X3_exists l hst D cy tx ad R _ S  v4 ev4) (cwV 0 hts gX5_digest_X3_exists rfl rfl rfl (by decide +kernel) ⟨Nat.le_of_ble_eq_true rfl, Nat.le_of_ble_eq_true rfl⟩) (va_recv hK hP (ci := 3) (q0 := 4) rfl rfl) hP hK hD hS hA hE rfl hl.1 rfl (Nat.le_of_ble_eq_true rfl) dX5_digest_36 ⟨Nat.le_of_ble_eq_true rfl, Nat.le_of_ble_eq_true rfl⟩ (fun H locs hP hD hS => ?_)
  refine lv_if_eq (tgt := 53) hx hb dX5_digest_39 (by decide) (fun hc => ?_) (fun hc => ?_)
  · have h := o_pos hc h
    refine lv_lload_n hx hb dX5_digest_53 rfl (lv_at hl 0 rfl) ?_
    exact g_lret hQ hx hb hr hP hK hD hS (Nat.le_of_ble_eq_true rfl) (Nat.le_of_ble_eq_true rfl) dX5_digest_54 hlocks (Option.some.inj h)
  · have h := o_neg hc h
    refine lv_aload_n hx hb dX5_digest_42 rfl (lv_at hl 1 rfl) ?_
    refine xgX5_3 hx hb hts iX5 hown hK hP hf37 dX5_digest_43 ?_
    refine lv_lload_n hx hb dX5_digest_46 rfl (lv_at hl 0 rfl) ?_
    obtain ⟨v5, ev5, h⟩ := o_bind h
    refine g_cVl (As := [.long v3]) (rest := []) ⟨hx, hb, hml, hown, hts⟩ (m_X3_mixInto l hst D cy tx ad R _ S v3 v5 ev5) (cwV 1 hts gX5_digest_X3_mixInto rfl rfl rfl (by decide +kernel) ⟨Nat.le_of_ble_eq_true rfl, Nat.le_of_ble_eq_true rfl⟩) (va_recv hK hP (ci := 3) (q0 := 4) rfl rfl) hP hK hD hS hA hE rfl hl.1 rfl (Nat.le_of_ble_eq_true rfl) dX5_digest_47 ⟨Nat.le_of_ble_eq_true rfl, Nat.le_of_ble_eq_true rfl⟩ (fun H locs hP hD hS => ?_)
    refine lv_goto (tgt := 54) hx hb dX5_digest_50 (by decide) ?_
    exact g_lret hQ hx hb hr hP hK hD hS (Nat.le_of_ble_eq_true rfl) (Nat.le_of_ble_eq_true rfl) dX5_digest_54 hlocks (Option.some.inj h)
