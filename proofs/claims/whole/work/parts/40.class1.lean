set_option maxHeartbeats 4000000 in
set_option maxRecDepth 100000 in
theorem m_X5_slot (l : Launch) (hst : l.stackTraces = false) (D : va_G) (tys : List (ClassId × FieldType)) (Wd : va_W) (sz : Nat) (x0 : Int32) (x1 : Int32) (v : Int32) (h : q_X5_slot x0 x1 = some v) : gMi l yX5_slot wsX5_slot ({ frames := 0, cells := 0, slots := 0, locals := 0 }) 0 0 D tys [.int x0, .int x1] sz Wd Wd v := by
  refine Met.ofW (cc := cX5_slot) (maxL := 2) (ret := (some .int)) (by decide) rfl ?_
  intro p e s m args below meth c s₁ B hml hv
  obtain ⟨hav, hsz, hP, hK, hD0, hE⟩ := hv
  have hx := B.exec
  have hb := B.bytes
  have hr := B.returns
  have hts := atoms_spec (ws := wsX5_slot) B.pre
  have hown : s.vm.findClass RX5 = some m.cls := findClass_of_methodNamed B.named
  have hlocks := B.notSynchronized
  subst hsz
  have hD := hD0.self (sz := s.heap.size)
  generalize hAe : va_A Wd s.heap.size = A at hD hE ⊢
  have hA : ∀ q : Nat, s.heap.size ≤ q → A q := fun q h => by rw [← hAe]; exact Or.inr h
  have hS : va_S A s.heap s.heap [] := va_S.rf
  refine g_entry (n := 2) hav (Nat.le_of_ble_eq_true rfl) (fun ls hl => ?_)
  have hl : lv_has ls 2 [(0, .int x0), (1, .int x1)] := hl
  refine g_nameQ (fun Q hQ => ?_)
  unfold q_X5_slot at h
  refine lv_iload_n hx hb dX5_slot_0 rfl (lv_at hl 0 rfl) ?_
  refine lv_bipush (v := 8) hx hb dX5_slot_1 (by decide) ?_
  refine lv_imul hx hb dX5_slot_3 ?_
  refine lv_iload_n hx hb dX5_slot_4 rfl (lv_at hl 1 rfl) ?_
  refine lv_iadd hx hb dX5_slot_5 ?_
  exact g_iret hQ hx hb hr hP hK hD hS (Nat.le_of_ble_eq_true rfl) (Nat.le_of_ble_eq_true rfl) dX5_slot_6 hlocks (Option.some.inj h)
set_option maxHeartbeats 4000000 in
set_option maxRecDepth 100000 in
theorem m_X5_mix (l : Launch) (hst : l.stackTraces = false) (D : va_G) (tys : List (ClassId × FieldType)) (Wd : va_W) (sz : Nat) (x0 : Int64) (x2 : Int32) (v : Int64) (h : q_X5_mix x0 x2 = some v) : gMl l yX5_mix wsX5_mix ({ frames := 0, cells := 0, slots := 0, locals := 0 }) 0 0 D tys [.long x0, .int x2] sz Wd Wd v := by
  refine Met.ofW (cc := cX5_mix) (maxL := 3) (ret := (some .long)) (by decide) rfl ?_
  intro p e s m args below meth c s₁ B hml hv
  obtain ⟨hav, hsz, hP, hK, hD0, hE⟩ := hv
  have hx := B.exec
  have hb := B.bytes
  have hr := B.returns
  have hts := atoms_spec (ws := wsX5_mix) B.pre
  have hown : s.vm.findClass RX5 = some m.cls := findClass_of_methodNamed B.named
  have hlocks := B.notSynchronized
  subst hsz
  have hD := hD0.self (sz := s.heap.size)
  generalize hAe : va_A Wd s.heap.size = A at hD hE ⊢
  have hA : ∀ q : Nat, s.heap.size ≤ q → A q := fun q h => by rw [← hAe]; exact Or.inr h
  have hS : va_S A s.heap s.heap [] := va_S.rf
  refine g_entry (n := 3) hav (Nat.le_of_ble_eq_true rfl) (fun ls hl => ?_)
  have hl : lv_has ls 3 [(0, .long x0), (2, .int x2)] := hl
  refine g_nameQ (fun Q hQ => ?_)
  unfold q_X5_mix at h
  refine lv_lload_n hx hb dX5_mix_0 rfl (lv_at hl 0 rfl) ?_
  refine lv_ldc2 (v := 31) hx hb hown (hts (.constantLong RX5 225 (31)) (by decide +kernel)) dX5_mix_1 ?_
  refine lv_lmul hx hb dX5_mix_4 ?_
  refine lv_iload_n hx hb dX5_mix_5 rfl (lv_at hl 1 rfl) ?_
  refine lv_i2l (v := ((x2 : Int32).toInt64)) hx hb dX5_mix_6 rfl ?_
  refine lv_ladd hx hb dX5_mix_7 ?_
  exact g_lret hQ hx hb hr hP hK hD hS (Nat.le_of_ble_eq_true rfl) (Nat.le_of_ble_eq_true rfl) dX5_mix_8 hlocks (Option.some.inj h)
set_option maxHeartbeats 4000000 in
set_option maxRecDepth 100000 in
theorem m_J6_bitCount_0f7a4 (l : Launch) (hst : l.stackTraces = false) (D : va_G) (tys : List (ClassId × FieldType)) (Wd : va_W) (sz : Nat) (x0 : Int32) (v : Int32) (h : q_J6_bitCount_0f7a4 x0 = some v) : gMi l yJ6_bitCount_0f7a4 wsJ6_bitCount_0f7a4 ({ frames := 0, cells := 0, slots := 0, locals := 0 }) 0 0 D tys [.int x0] sz Wd Wd v := by
  refine Met.ofW (cc := cJ6_bitCount_0f7a4) (maxL := 1) (ret := (some .int)) (by decide) rfl ?_
  intro p e s m args below meth c s₁ B hml hv
  obtain ⟨hav, hsz, hP, hK, hD0, hE⟩ := hv
  have hx := B.exec
  have hb := B.bytes
  have hr := B.returns
  have hts := atoms_spec (ws := wsJ6_bitCount_0f7a4) B.pre
  have hown : s.vm.findClass RJ6 = some m.cls := findClass_of_methodNamed B.named
  have hlocks := B.notSynchronized
  subst hsz
  have hD := hD0.self (sz := s.heap.size)
  generalize hAe : va_A Wd s.heap.size = A at hD hE ⊢
  have hA : ∀ q : Nat, s.heap.size ≤ q → A q := fun q h => by rw [← hAe]; exact Or.inr h
  have hS : va_S A s.heap s.heap [] := va_S.rf
  refine g_entry (n := 1) hav (Nat.le_of_ble_eq_true rfl) (fun ls hl => ?_)
  have hl : lv_has ls 1 [(0, .int x0)] := hl
  refine g_nameQ (fun Q hQ => ?_)
  unfold q_J6_bitCount_0f7a4 at h
  refine lv_iload_n hx hb dJ6_bitCount_0f7a4_0 rfl (lv_at hl 0 rfl) ?_
  refine lv_iload_n hx hb dJ6_bitCount_0f7a4_1 rfl (lv_at hl 0 rfl) ?_
  refine lv_iconst (v := 1) hx hb dJ6_bitCount_0f7a4_2 (by decide) ?_
  refine lv_iushr (v := ((x0.toUInt32 >>> ((1 : Int32).toUInt32 &&& Int32.toUInt32 31)).toInt32)) hx hb dJ6_bitCount_0f7a4_3 rfl ?_
  refine lv_ldcw (v := 1431655765) hx hb hown (hts (.constant RJ6 265 (1431655765)) (by decide +kernel)) dJ6_bitCount_0f7a4_4 ?_
  refine lv_iand hx hb dJ6_bitCount_0f7a4_7 ?_
  refine lv_isub hx hb dJ6_bitCount_0f7a4_8 ?_
  obtain ⟨t1, et1, h⟩ := o_bind h
  refine g_topi (Option.some.inj et1) ?_
  refine lv_istore_n (lv' := [(0, .int t1)]) hx hb dJ6_bitCount_0f7a4_9 rfl hl (by decide) rfl (fun ls hl => ?_)
  refine lv_iload_n hx hb dJ6_bitCount_0f7a4_10 rfl (lv_at hl 0 rfl) ?_
  refine lv_ldcw (v := 858993459) hx hb hown (hts (.constant RJ6 266 (858993459)) (by decide +kernel)) dJ6_bitCount_0f7a4_11 ?_
  refine lv_iand hx hb dJ6_bitCount_0f7a4_14 ?_
  refine lv_iload_n hx hb dJ6_bitCount_0f7a4_15 rfl (lv_at hl 0 rfl) ?_
  refine lv_iconst (v := 2) hx hb dJ6_bitCount_0f7a4_16 (by decide) ?_
  refine lv_iushr (v := ((t1.toUInt32 >>> ((2 : Int32).toUInt32 &&& Int32.toUInt32 31)).toInt32)) hx hb dJ6_bitCount_0f7a4_17 rfl ?_
  refine lv_ldcw (v := 858993459) hx hb hown (hts (.constant RJ6 266 (858993459)) (by decide +kernel)) dJ6_bitCount_0f7a4_18 ?_
  refine lv_iand hx hb dJ6_bitCount_0f7a4_21 ?_
  refine lv_iadd hx hb dJ6_bitCount_0f7a4_22 ?_
  obtain ⟨t2, et2, h⟩ := o_bind h
  refine g_topi (Option.some.inj et2) ?_
  refine lv_istore_n (lv' := [(0, .int t2)]) hx hb dJ6_bitCount_0f7a4_23 rfl hl (by decide) rfl (fun ls hl => ?_)
  refine lv_iload_n hx hb dJ6_bitCount_0f7a4_24 rfl (lv_at hl 0 rfl) ?_
  refine lv_iload_n hx hb dJ6_bitCount_0f7a4_25 rfl (lv_at hl 0 rfl) ?_
  refine lv_iconst (v := 4) hx hb dJ6_bitCount_0f7a4_26 (by decide) ?_
  refine lv_iushr (v := ((t2.toUInt32 >>> ((4 : Int32).toUInt32 &&& Int32.toUInt32 31)).toInt32)) hx hb dJ6_bitCount_0f7a4_27 rfl ?_
  refine lv_iadd hx hb dJ6_bitCount_0f7a4_28 ?_
  refine lv_ldcw (v := 252645135) hx hb hown (hts (.constant RJ6 267 (252645135)) (by decide +kernel)) dJ6_bitCount_0f7a4_29 ?_
  refine lv_iand hx hb dJ6_bitCount_0f7a4_32 ?_
  obtain ⟨t3, et3, h⟩ := o_bind h
  refine g_topi (Option.some.inj et3) ?_
  refine lv_istore_n (lv' := [(0, .int t3)]) hx hb dJ6_bitCount_0f7a4_33 rfl hl (by decide) rfl (fun ls hl => ?_)
  refine lv_iload_n hx hb dJ6_bitCount_0f7a4_34 rfl (lv_at hl 0 rfl) ?_
  refine lv_iload_n hx hb dJ6_bitCount_0f7a4_35 rfl (lv_at hl 0 rfl) ?_
  refine lv_bipush (v := 8) hx hb dJ6_bitCount_0f7a4_36 (by decide) ?_
  refine lv_iushr (v := ((t3.toUInt32 >>> ((8 : Int32).toUInt32 &&& Int32.toUInt32 31)).toInt32)) hx hb dJ6_bitCount_0f7a4_38 rfl ?_
  refine lv_iadd hx hb dJ6_bitCount_0f7a4_39 ?_
  obtain ⟨t4, et4, h⟩ := o_bind h
  refine g_topi (Option.some.inj et4) ?_
  refine lv_istore_n (lv' := [(0, .int t4)]) hx hb dJ6_bitCount_0f7a4_40 rfl hl (by decide) rfl (fun ls hl => ?_)
  refine lv_iload_n hx hb dJ6_bitCount_0f7a4_41 rfl (lv_at hl 0 rfl) ?_
  refine lv_iload_n hx hb dJ6_bitCount_0f7a4_42 rfl (lv_at hl 0 rfl) ?_
  refine lv_bipush (v := 16) hx hb dJ6_bitCount_0f7a4_43 (by decide) ?_
  refine lv_iushr (v := ((t4.toUInt32 >>> ((16 : Int32).toUInt32 &&& Int32.toUInt32 31)).toInt32)) hx hb dJ6_bitCount_0f7a4_45 rfl ?_
  refine lv_iadd hx hb dJ6_bitCount_0f7a4_46 ?_
  obtain ⟨t5, et5, h⟩ := o_bind h
  refine g_topi (Option.some.inj et5) ?_
  refine lv_istore_n (lv' := [(0, .int t5)]) hx hb dJ6_bitCount_0f7a4_47 rfl hl (by decide) rfl (fun ls hl => ?_)
  refine lv_iload_n hx hb dJ6_bitCount_0f7a4_48 rfl (lv_at hl 0 rfl) ?_
  refine lv_bipush (v := 63) hx hb dJ6_bitCount_0f7a4_49 (by decide) ?_
  refine lv_iand hx hb dJ6_bitCount_0f7a4_51 ?_
  exact g_iret hQ hx hb hr hP hK hD hS (Nat.le_of_ble_eq_true rfl) (Nat.le_of_ble_eq_true rfl) dJ6_bitCount_0f7a4_52 hlocks (Option.some.inj h)
set_option maxHeartbeats 4000000 in
set_option maxRecDepth 100000 in
theorem m_X2_contains (l : Launch) (hst : l.stackTraces = false) (D : va_G) (tys : List (ClassId × FieldType)) (Wd : va_W) (sz : Nat) (x0 : Int32) (x1 : Int32) (v : Int32) (h : q_X2_contains x0 x1 = some v) : gMi l yX2_contains wsX2_contains ({ frames := 0, cells := 0, slots := 0, locals := 0 }) 0 0 D tys [.int x0, .int x1] sz Wd Wd v := by
  refine Met.ofW (cc := cX2_contains) (maxL := 2) (ret := (some .boolean)) (by decide) rfl ?_
  intro p e s m args below meth c s₁ B hml hv
  obtain ⟨hav, hsz, hP, hK, hD0, hE⟩ := hv
  have hx := B.exec
  have hb := B.bytes
  have hr := B.returns
  have hts := atoms_spec (ws := wsX2_contains) B.pre
  have hown : s.vm.findClass RX2 = some m.cls := findClass_of_methodNamed B.named
  have hlocks := B.notSynchronized
  subst hsz
  have hD := hD0.self (sz := s.heap.size)
  generalize hAe : va_A Wd s.heap.size = A at hD hE ⊢
  have hA : ∀ q : Nat, s.heap.size ≤ q → A q := fun q h => by rw [← hAe]; exact Or.inr h
  have hS : va_S A s.heap s.heap [] := va_S.rf
  refine g_entry (n := 2) hav (Nat.le_of_ble_eq_true rfl) (fun ls hl => ?_)
  have hl : lv_has ls 2 [(0, .int x0), (1, .int x1)] := hl
  refine g_nameQ (fun Q hQ => ?_)
  unfold q_X2_contains at h
  refine lv_iload_n hx hb dX2_contains_0 rfl (lv_at hl 0 rfl) ?_
  refine lv_iload_n hx hb dX2_contains_1 rfl (lv_at hl 1 rfl) ?_
  refine lv_ishr hx hb dX2_contains_2 ?_
  refine lv_iconst (v := 1) hx hb dX2_contains_3 (by decide) ?_
  refine lv_iand hx hb dX2_contains_4 ?_
  refine lv_iconst (v := 1) hx hb dX2_contains_5 (by decide) ?_
  refine lv_icmp_ne (tgt := 13) hx hb dX2_contains_6 (by decide) (fun hc => ?_) (fun hc => ?_)
  · have h := o_neg hc h
    refine lv_iconst (v := 0) hx hb dX2_contains_13 (by decide) ?_
    exact g_zret hQ hx hb hr rfl hP hK hD hS (Nat.le_of_ble_eq_true rfl) (Nat.le_of_ble_eq_true rfl) dX2_contains_14 hlocks (Option.some.inj h)
  · have h := o_pos hc h
    refine lv_iconst (v := 1) hx hb dX2_contains_9 (by decide) ?_
    refine lv_goto (tgt := 14) hx hb dX2_contains_10 (by decide) ?_
    exact g_zret hQ hx hb hr rfl hP hK hD hS (Nat.le_of_ble_eq_true rfl) (Nat.le_of_ble_eq_true rfl) dX2_contains_14 hlocks (Option.some.inj h)
set_option maxHeartbeats 4000000 in
set_option maxRecDepth 100000 in
theorem m_X0_append (l : Launch) (hst : l.stackTraces = false) (D : va_G) (cy : Nat → ClassId) (tx : List (ClassId × FieldType)) (ad : Nat → Nat) (R : va_W) (sz : Nat) (S : PS) (x1 : Int32) (S' : PS) (v : Int32) (h : q_X0_append S x1 = some (S', v)) : gMi l yX0_append wsX0_append ({ frames := 0, cells := 0, slots := 0, locals := 0 }) 0 0 D (gT cy ++ tx) [.ref (ad 1), .int x1] sz (xW cy ad S R) (xW cy ad S' R) v := by
  refine Met.ofW (cc := cX0_append) (maxL := 3) (ret := (some .int)) (by decide) rfl ?_
  intro p e s m args below meth c s₁ B hml hv
  obtain ⟨hav, hsz, hP, hK, hD0, hE⟩ := hv
  have hx := B.exec
  have hb := B.bytes
  have hr := B.returns
  have hts := atoms_spec (ws := wsX0_append) B.pre
  have hown : s.vm.findClass RX0 = some m.cls := findClass_of_methodNamed B.named
  have hlocks := B.notSynchronized
  subst hsz
  have hD := hD0.self (sz := s.heap.size)
  generalize hAe : va_A (xW cy ad S R) s.heap.size = A at hD hE ⊢
  have hA : ∀ q : Nat, s.heap.size ≤ q → A q := fun q h => by rw [← hAe]; exact Or.inr h
  have hS : va_S A s.heap s.heap [] := va_S.rf
  have iX0 : ∀ w ∈ u_ws RX0 TX0 4, w ∈ wsX0_append := by decide +kernel
  have hf9 := hts (.fieldLink RX0 9 "InlinePlanner$Hierarchy" "parents" "[I") (by decide +kernel)
  have hf19 := hts (.fieldLink RX0 19 "InlinePlanner$Hierarchy" "above" "[I") (by decide +kernel)
  have hf22 := hts (.fieldLink RX0 22 "InlinePlanner$Hierarchy" "count" "I") (by decide +kernel)
  refine g_entry (n := 3) hav (Nat.le_of_ble_eq_true rfl) (fun ls hl => ?_)
  have hl : lv_has ls 3 [(0, .ref (ad 1)), (1, .int x1)] := hl
  refine g_nameQ (fun Q hQ => ?_)
  unfold q_X0_append at h
  refine lv_aload_n hx hb dX0_append_0 rfl (lv_at hl 0 rfl) ?_
  refine xgX0_0 hx hb hts iX0 hown hK hP hf22 dX0_append_1 ?_
  refine lv_istore_n (lv' := [(2, .int (S.1 0)), (0, .ref (ad 1)), (1, .int x1)]) hx hb dX0_append_4 rfl hl (by decide) rfl (fun ls hl => ?_)
  refine lv_aload_n hx hb dX0_append_5 rfl (lv_at hl 1 rfl) ?_
  refine xgX0_1 hx hb hts iX0 hown hK hP hf9 dX0_append_6 ?_
  refine lv_iload_n hx hb dX0_append_9 rfl (lv_at hl 0 rfl) ?_
  refine lv_iload_n hx hb dX0_append_10 rfl (lv_at hl 2 rfl) ?_
  obtain ⟨S1, eS1, h⟩ := o_bind h
  refine xst0 hx hb hK hP hD hS eS1 dX0_append_11 (fun H locs hP hD hS => ?_)
  refine lv_aload_n hx hb dX0_append_12 rfl (lv_at hl 1 rfl) ?_
  refine xgX0_3 hx hb hts iX0 hown hK hP hf19 dX0_append_13 ?_
  refine lv_iload_n hx hb dX0_append_16 rfl (lv_at hl 0 rfl) ?_
  refine lv_aload_n hx hb dX0_append_17 rfl (lv_at hl 1 rfl) ?_
  refine xgX0_3 hx hb hts iX0 hown hK hP hf19 dX0_append_18 ?_
  refine lv_iload_n hx hb dX0_append_21 rfl (lv_at hl 2 rfl) ?_
  obtain ⟨v2, ev2, h⟩ := o_bind h
  refine xld2 hx hb hK hP ev2 dX0_append_22 ?_
  refine lv_iconst (v := 1) hx hb dX0_append_23 (by decide) ?_
  refine lv_iload_n hx hb dX0_append_24 rfl (lv_at hl 0 rfl) ?_
  refine lv_ishl hx hb dX0_append_25 ?_
  refine lv_ior hx hb dX0_append_26 ?_
  obtain ⟨S3, eS3, h⟩ := o_bind h
  refine xst2 hx hb hK hP hD hS eS3 dX0_append_27 (fun H locs hP hD hS => ?_)
  refine lv_aload_n hx hb dX0_append_28 rfl (lv_at hl 1 rfl) ?_
  refine lv_dup hx hb dX0_append_29 rfl ?_
  refine xgX0_0 hx hb hts iX0 hown hK hP hf22 dX0_append_30 ?_
  refine lv_iconst (v := 1) hx hb dX0_append_33 (by decide) ?_
  refine lv_iadd hx hb dX0_append_34 ?_
  obtain ⟨S4, eS4, h⟩ := o_bind h
  refine xpX0_0 hx hb hts iX0 hown hK hP hD hS hf22 eS4 dX0_append_35 (fun H locs hP hD hS => ?_)
  refine lv_iload_n hx hb dX0_append_38 rfl (lv_at hl 0 rfl) ?_
  obtain ⟨eS, ev⟩ := Prod.mk.inj (Option.some.inj h)
  subst eS
  exact g_iret hQ hx hb hr hP hK hD hS (Nat.le_of_ble_eq_true rfl) (Nat.le_of_ble_eq_true rfl) dX0_append_39 hlocks ev
set_option maxHeartbeats 4000000 in
set_option maxRecDepth 100000 in
theorem m_X0_under (l : Launch) (hst : l.stackTraces = false) (D : va_G) (cy : Nat → ClassId) (tx : List (ClassId × FieldType)) (ad : Nat → Nat) (R : va_W) (sz : Nat) (S : PS) (x1 : Int32) (x2 : Int32) (v : Int32) (h : q_X0_under S x1 x2 = some v) : gMi l yX0_under wsX0_under ({ frames := 0, cells := 0, slots := 0, locals := 0 }) 0 0 D (gT cy ++ tx) [.ref (ad 1), .int x1, .int x2] sz (xW cy ad S R) (xW cy ad S R) v := by
  refine Met.ofW (cc := cX0_under) (maxL := 3) (ret := (some .boolean)) (by decide) rfl ?_
  intro p e s m args below meth c s₁ B hml hv
  obtain ⟨hav, hsz, hP, hK, hD0, hE⟩ := hv
  have hx := B.exec
  have hb := B.bytes
  have hr := B.returns
  have hts := atoms_spec (ws := wsX0_under) B.pre
  have hown : s.vm.findClass RX0 = some m.cls := findClass_of_methodNamed B.named
  have hlocks := B.notSynchronized
  subst hsz
  have hD := hD0.self (sz := s.heap.size)
  generalize hAe : va_A (xW cy ad S R) s.heap.size = A at hD hE ⊢
  have hA : ∀ q : Nat, s.heap.size ≤ q → A q := fun q h => by rw [← hAe]; exact Or.inr h
  have hS : va_S A s.heap s.heap [] := va_S.rf
  have iX0 : ∀ w ∈ u_ws RX0 TX0 4, w ∈ wsX0_under := by decide +kernel
  have hf19 := hts (.fieldLink RX0 19 "InlinePlanner$Hierarchy" "above" "[I") (by decide +kernel)
  refine g_entry (n := 3) hav (Nat.le_of_ble_eq_true rfl) (fun ls hl => ?_)
  have hl : lv_has ls 3 [(0, .ref (ad 1)), (1, .int x1), (2, .int x2)] := hl
  refine g_nameQ (fun Q hQ => ?_)
  unfold q_X0_under at h
  refine lv_aload_n hx hb dX0_under_0 rfl (lv_at hl 0 rfl) ?_
  refine xgX0_3 hx hb hts iX0 hown hK hP hf19 dX0_under_1 ?_
  refine lv_iload_n hx hb dX0_under_4 rfl (lv_at hl 1 rfl) ?_
  obtain ⟨v1, ev1, h⟩ := o_bind h
  refine xld2 hx hb hK hP ev1 dX0_under_5 ?_
  refine lv_iload_n hx hb dX0_under_6 rfl (lv_at hl 2 rfl) ?_
  refine lv_ishr hx hb dX0_under_7 ?_
  refine lv_iconst (v := 1) hx hb dX0_under_8 (by decide) ?_
  refine lv_iand hx hb dX0_under_9 ?_
  refine lv_iconst (v := 1) hx hb dX0_under_10 (by decide) ?_
  refine lv_icmp_ne (tgt := 18) hx hb dX0_under_11 (by decide) (fun hc => ?_) (fun hc => ?_)
  · have h := o_neg hc h
    refine lv_iconst (v := 0) hx hb dX0_under_18 (by decide) ?_
    exact g_zret hQ hx hb hr rfl hP hK hD hS (Nat.le_of_ble_eq_true rfl) (Nat.le_of_ble_eq_true rfl) dX0_under_19 hlocks (Option.some.inj h)
  · have h := o_pos hc h
    refine lv_iconst (v := 1) hx hb dX0_under_14 (by decide) ?_
    refine lv_goto (tgt := 19) hx hb dX0_under_15 (by decide) ?_
    exact g_zret hQ hx hb hr rfl hP hK hD hS (Nat.le_of_ble_eq_true rfl) (Nat.le_of_ble_eq_true rfl) dX0_under_19 hlocks (Option.some.inj h)
set_option maxHeartbeats 4000000 in
set_option maxRecDepth 100000 in
theorem m_X0_mixInto (l : Launch) (hst : l.stackTraces = false) (D : va_G) (cy : Nat → ClassId) (tx : List (ClassId × FieldType)) (ad : Nat → Nat) (R : va_W) (sz : Nat) (S : PS) (x1 : Int64) (v : Int64) (h : q_X0_mixInto S x1 = some v) : gMl l yX0_mixInto wsX0_mixInto ({ frames := 1, cells := 0, slots := 0, locals := 22 }) 0 0 D (gT cy ++ tx) [.ref (ad 1), .long x1] sz (xW cy ad S R) (xW cy ad S R) v := by
  refine Met.ofW (cc := cX0_mixInto) (maxL := 6) (ret := (some .long)) (by decide) rfl ?_
  intro p e s m args below meth c s₁ B hml hv
  obtain ⟨hav, hsz, hP, hK, hD0, hE⟩ := hv
  have hx := B.exec
  have hb := B.bytes
  have hr := B.returns
  have hts := atoms_spec (ws := wsX0_mixInto) B.pre
  have hown : s.vm.findClass RX0 = some m.cls := findClass_of_methodNamed B.named
  have hlocks := B.notSynchronized
  subst hsz
  have hD := hD0.self (sz := s.heap.size)
  generalize hAe : va_A (xW cy ad S R) s.heap.size = A at hD hE ⊢
  have hA : ∀ q : Nat, s.heap.size ≤ q → A q := fun q h => by rw [← hAe]; exact Or.inr h
  have hS : va_S A s.heap s.heap [] := va_S.rf
  have iX0 : ∀ w ∈ u_ws RX0 TX0 4, w ∈ wsX0_mixInto := by decide +kernel
  have hf9 := hts (.fieldLink RX0 9 "InlinePlanner$Hierarchy" "parents" "[I") (by decide +kernel)
  have hf15 := hts (.fieldLink RX0 15 "InlinePlanner$Hierarchy" "live" "[Z") (by decide +kernel)
  have hf22 := hts (.fieldLink RX0 22 "InlinePlanner$Hierarchy" "count" "I") (by decide +kernel)
  refine g_entry (n := 6) hav (Nat.le_of_ble_eq_true rfl) (fun ls hl => ?_)
  have hl : lv_has ls 6 [(0, .ref (ad 1)), (1, .long x1)] := hl
  refine g_nameQ (fun Q hQ => ?_)
  unfold q_X0_mixInto at h
  refine lv_lload_n hx hb dX0_mixInto_0 rfl (lv_at hl 1 rfl) ?_
  refine lv_aload_n hx hb dX0_mixInto_1 rfl (lv_at hl 0 rfl) ?_
  refine xgX0_0 hx hb hts iX0 hown hK hP hf22 dX0_mixInto_2 ?_
  obtain ⟨v1, ev1, h⟩ := o_bind h
  refine g_cNl (As := [.long x1, .int (S.1 0)]) (rest := []) ⟨hx, hb, hml, hown, hts⟩ (m_X5_mix l hst D (gT cy ++ tx) (xW cy ad S R) _ x1 (S.1 0) v1 ev1) ⟨va_cnB 2 hts gX0_mixInto_X5_mix_n26 rfl rfl rfl (hE.2.2.2.1 (.methodLinkNest RX0 26 yX5_mix RX5) (by decide +kernel)) (hts (.initialized RX5) (by decide +kernel)) (by decide +kernel) ⟨Nat.le_of_ble_eq_true rfl, Nat.le_of_ble_eq_true rfl⟩, hts (.static yX5_mix) (by decide +kernel), trivial⟩ hP hK hD hS hA hE rfl hl.1 rfl (Nat.le_of_ble_eq_true rfl) dX0_mixInto_5 ⟨Nat.le_of_ble_eq_true rfl, Nat.le_of_ble_eq_true rfl⟩ (fun H locs hP hD hS => ?_)
  refine lv_lstore_n (lv' := [(3, .long v1), (0, .ref (ad 1)), (1, .long x1)]) hx hb dX0_mixInto_8 rfl hl (by decide) rfl (fun ls hl => ?_)
  refine lv_iconst (v := 0) hx hb dX0_mixInto_9 (by decide) ?_
  refine lv_istore (lv' := [(5, .int 0), (3, .long v1), (0, .ref (ad 1)), (1, .long x1)]) hx hb dX0_mixInto_10 hl (by decide) rfl (fun ls hl => ?_)
  have L12 : ∀ (n12 : Nat) (x3 : Int64) (x5 : Int32) (H : Heap) (locs : List Loc) (ls : Array Slot), va_P D vwCl (xW cy ad S R) H → va_D A (xW cy ad S R) → va_S A s.heap H locs → lv_has ls 6 [(0, .ref (ad 1)), (3, .long x3), (5, .int x5)] → iter2 (q_X0_mixInto_L12 S ) n12 x3 x5 = some v → W p l e (headSpec wsX0_mixInto ({ frames := 1, cells := 0, slots := 0, locals := 22 })).room s m args below meth c H locs 0 0 Q (F0 m 12 ls []) := by
    intro  n12
    induction n12 with
    | zero =>
      intro x3 x5 H locs ls hP hD hS hl h
      exact (it2_0 h).elim
    | succ n12 ih12 =>
      intro x3 x5 H locs ls hP hD hS hl h
      have h : q_X0_mixInto_L12 S  (iter2 (q_X0_mixInto_L12 S ) n12) x3 x5 = some v := h
      unfold q_X0_mixInto_L12 at h
      refine lv_iload hx hb dX0_mixInto_12 (lv_at hl 2 rfl) ?_
      refine lv_aload_n hx hb dX0_mixInto_14 rfl (lv_at hl 0 rfl) ?_
      refine xgX0_0 hx hb hts iX0 hown hK hP hf22 dX0_mixInto_15 ?_
      refine lv_icmp_ge (tgt := 59) hx hb dX0_mixInto_18 (by decide) (fun hc => ?_) (fun hc => ?_)
      · have h := o_pos hc h
        refine lv_lload_n hx hb dX0_mixInto_59 rfl (lv_at hl 1 rfl) ?_
        exact g_lret hQ hx hb hr hP hK hD hS (Nat.le_of_ble_eq_true rfl) (Nat.le_of_ble_eq_true rfl) dX0_mixInto_60 hlocks (Option.some.inj h)
      · have h := o_neg hc h
        refine lv_lload_n hx hb dX0_mixInto_21 rfl (lv_at hl 1 rfl) ?_
        refine lv_aload_n hx hb dX0_mixInto_22 rfl (lv_at hl 0 rfl) ?_
        refine xgX0_1 hx hb hts iX0 hown hK hP hf9 dX0_mixInto_23 ?_
        refine lv_iload hx hb dX0_mixInto_26 (lv_at hl 2 rfl) ?_
        obtain ⟨v2, ev2, h⟩ := o_bind h
        refine xld0 hx hb hK hP ev2 dX0_mixInto_28 ?_
        obtain ⟨v3, ev3, h⟩ := o_bind h
        refine g_cNl (As := [.long x3, .int v2]) (rest := []) ⟨hx, hb, hml, hown, hts⟩ (m_X5_mix l hst D (gT cy ++ tx) (xW cy ad S R) _ x3 v2 v3 ev3) ⟨va_cnB 2 hts gX0_mixInto_X5_mix_n26 rfl rfl rfl (hE.2.2.2.1 (.methodLinkNest RX0 26 yX5_mix RX5) (by decide +kernel)) (hts (.initialized RX5) (by decide +kernel)) (by decide +kernel) ⟨Nat.le_of_ble_eq_true rfl, Nat.le_of_ble_eq_true rfl⟩, hts (.static yX5_mix) (by decide +kernel), trivial⟩ hP hK hD hS hA hE rfl hl.1 rfl (Nat.le_of_ble_eq_true rfl) dX0_mixInto_29 ⟨Nat.le_of_ble_eq_true rfl, Nat.le_of_ble_eq_true rfl⟩ (fun H locs hP hD hS => ?_)
        refine lv_lstore_n (lv' := [(3, .long v3), (0, .ref (ad 1)), (5, .int x5)]) hx hb dX0_mixInto_32 rfl hl (by decide) rfl (fun ls hl => ?_)
        refine lv_lload_n hx hb dX0_mixInto_33 rfl (lv_at hl 0 rfl) ?_
        refine lv_aload_n hx hb dX0_mixInto_34 rfl (lv_at hl 1 rfl) ?_
        refine xgX0_2 hx hb hts iX0 hown hK hP hf15 dX0_mixInto_35 ?_
        refine lv_iload hx hb dX0_mixInto_38 (lv_at hl 2 rfl) ?_
        obtain ⟨v4, ev4, h⟩ := o_bind h
        refine xld1 hx hb hK hP ev4 dX0_mixInto_40 ?_
        refine lv_if_eq (tgt := 48) hx hb dX0_mixInto_41 (by decide) (fun hc => ?_) (fun hc => ?_)
        · have h := o_pos hc h
          refine lv_iconst (v := 0) hx hb dX0_mixInto_48 (by decide) ?_
          obtain ⟨v5, ev5, h⟩ := o_bind h
          refine g_cNl (As := [.long v3, .int 0]) (rest := []) ⟨hx, hb, hml, hown, hts⟩ (m_X5_mix l hst D (gT cy ++ tx) (xW cy ad S R) _ v3 0 v5 ev5) ⟨va_cnB 2 hts gX0_mixInto_X5_mix_n26 rfl rfl rfl (hE.2.2.2.1 (.methodLinkNest RX0 26 yX5_mix RX5) (by decide +kernel)) (hts (.initialized RX5) (by decide +kernel)) (by decide +kernel) ⟨Nat.le_of_ble_eq_true rfl, Nat.le_of_ble_eq_true rfl⟩, hts (.static yX5_mix) (by decide +kernel), trivial⟩ hP hK hD hS hA hE rfl hl.1 rfl (Nat.le_of_ble_eq_true rfl) dX0_mixInto_49 ⟨Nat.le_of_ble_eq_true rfl, Nat.le_of_ble_eq_true rfl⟩ (fun H locs hP hD hS => ?_)
          refine lv_lstore_n (lv' := [(3, .long v5), (0, .ref (ad 1)), (5, .int x5)]) hx hb dX0_mixInto_52 rfl hl (by decide) rfl (fun ls hl => ?_)
          refine lv_iinc (v := (x5 + 1)) (lv' := [(5, .int (x5 + 1)), (3, .long v5), (0, .ref (ad 1))]) hx hb dX0_mixInto_53 hl (k := 2) rfl rfl (by decide) rfl (fun ls hl => ?_)
          refine lv_goto (tgt := 12) hx hb dX0_mixInto_56 (by decide) ?_
          exact ih12 v5 (x5 + 1) _ _ ls hP hD hS (lv_sub hl [2, 1, 0] rfl) h
        · have h := o_neg hc h
          refine lv_iconst (v := 1) hx hb dX0_mixInto_44 (by decide) ?_
          refine lv_goto (tgt := 49) hx hb dX0_mixInto_45 (by decide) ?_
          obtain ⟨v6, ev6, h⟩ := o_bind h
          refine g_cNl (As := [.long v3, .int 1]) (rest := []) ⟨hx, hb, hml, hown, hts⟩ (m_X5_mix l hst D (gT cy ++ tx) (xW cy ad S R) _ v3 1 v6 ev6) ⟨va_cnB 2 hts gX0_mixInto_X5_mix_n26 rfl rfl rfl (hE.2.2.2.1 (.methodLinkNest RX0 26 yX5_mix RX5) (by decide +kernel)) (hts (.initialized RX5) (by decide +kernel)) (by decide +kernel) ⟨Nat.le_of_ble_eq_true rfl, Nat.le_of_ble_eq_true rfl⟩, hts (.static yX5_mix) (by decide +kernel), trivial⟩ hP hK hD hS hA hE rfl hl.1 rfl (Nat.le_of_ble_eq_true rfl) dX0_mixInto_49 ⟨Nat.le_of_ble_eq_true rfl, Nat.le_of_ble_eq_true rfl⟩ (fun H locs hP hD hS => ?_)
          refine lv_lstore_n (lv' := [(3, .long v6), (0, .ref (ad 1)), (5, .int x5)]) hx hb dX0_mixInto_52 rfl hl (by decide) rfl (fun ls hl => ?_)
          refine lv_iinc (v := (x5 + 1)) (lv' := [(5, .int (x5 + 1)), (3, .long v6), (0, .ref (ad 1))]) hx hb dX0_mixInto_53 hl (k := 2) rfl rfl (by decide) rfl (fun ls hl => ?_)
          refine lv_goto (tgt := 12) hx hb dX0_mixInto_56 (by decide) ?_
          exact ih12 v6 (x5 + 1) _ _ ls hP hD hS (lv_sub hl [2, 1, 0] rfl) h
  exact L12  1000 v1 0 _ _ ls hP hD hS (lv_sub hl [2, 1, 0] rfl) h
set_option maxHeartbeats 4000000 in
set_option maxRecDepth 100000 in
theorem m_X1_change (l : Launch) (hst : l.stackTraces = false) (D : va_G) (cy : Nat → ClassId) (tx : List (ClassId × FieldType)) (ad : Nat → Nat) (R : va_W) (sz : Nat) (S : PS) (x1 : Int32) (x2 : Int32) (x3 : Int32) (S' : PS) (v : Int32) (h : q_X1_change S x1 x2 x3 = some (S', v)) : gMi l yX1_change wsX1_change ({ frames := 0, cells := 0, slots := 0, locals := 0 }) 0 0 D (gT cy ++ tx) [.ref (ad 3), .int x1, .int x2, .int x3] sz (xW cy ad S R) (xW cy ad S' R) v := by
  refine Met.ofW (cc := cX1_change) (maxL := 5) (ret := (some .boolean)) (by decide) rfl ?_
  intro p e s m args below meth c s₁ B hml hv
  obtain ⟨hav, hsz, hP, hK, hD0, hE⟩ := hv
  have hx := B.exec
  have hb := B.bytes
  have hr := B.returns
  have hts := atoms_spec (ws := wsX1_change) B.pre
  have hown : s.vm.findClass RX1 = some m.cls := findClass_of_methodNamed B.named
  have hlocks := B.notSynchronized
  subst hsz
  have hD := hD0.self (sz := s.heap.size)
  generalize hAe : va_A (xW cy ad S R) s.heap.size = A at hD hE ⊢
  have hA : ∀ q : Nat, s.heap.size ≤ q → A q := fun q h => by rw [← hAe]; exact Or.inr h
  have hS : va_S A s.heap s.heap [] := va_S.rf
  have iX1 : ∀ w ∈ u_ws RX1 TX1 3, w ∈ wsX1_change := by decide +kernel
  have hf7 := hts (.fieldLink RX1 7 "InlinePlanner$Limits" "budget" "I") (by decide +kernel)
  have hf13 := hts (.fieldLink RX1 13 "InlinePlanner$Limits" "maxDepth" "I") (by decide +kernel)
  have hf16 := hts (.fieldLink RX1 16 "InlinePlanner$Limits" "maxRecursion" "I") (by decide +kernel)
  refine g_entry (n := 5) hav (Nat.le_of_ble_eq_true rfl) (fun ls hl => ?_)
  have hl : lv_has ls 5 [(0, .ref (ad 3)), (1, .int x1), (2, .int x2), (3, .int x3)] := hl
  refine g_nameQ (fun Q hQ => ?_)
  unfold q_X1_change at h
  refine lv_iload_n hx hb dX1_change_0 rfl (lv_at hl 1 rfl) ?_
  refine lv_aload_n hx hb dX1_change_1 rfl (lv_at hl 0 rfl) ?_
  refine xgX1_0 hx hb hts iX1 hown hK hP hf7 dX1_change_2 ?_
  refine lv_icmp_ne (tgt := 24) hx hb dX1_change_5 (by decide) (fun hc => ?_) (fun hc => ?_)
  · have h := o_neg hc h
    refine lv_iconst (v := 1) hx hb dX1_change_24 (by decide) ?_
    refine lv_goto (tgt := 29) hx hb dX1_change_25 (by decide) ?_
    refine lv_istore (lv' := [(4, .int 1), (0, .ref (ad 3)), (1, .int x1), (2, .int x2), (3, .int x3)]) hx hb dX1_change_29 hl (by decide) rfl (fun ls hl => ?_)
    refine lv_aload_n hx hb dX1_change_31 rfl (lv_at hl 1 rfl) ?_
    refine lv_iload_n hx hb dX1_change_32 rfl (lv_at hl 2 rfl) ?_
    obtain ⟨S1, eS1, h⟩ := o_bind h
    refine xpX1_0 hx hb hts iX1 hown hK hP hD hS hf7 eS1 dX1_change_33 (fun H locs hP hD hS => ?_)
    refine lv_aload_n hx hb dX1_change_36 rfl (lv_at hl 1 rfl) ?_
    refine lv_iload_n hx hb dX1_change_37 rfl (lv_at hl 3 rfl) ?_
    obtain ⟨S2, eS2, h⟩ := o_bind h
    refine xpX1_1 hx hb hts iX1 hown hK hP hD hS hf13 eS2 dX1_change_38 (fun H locs hP hD hS => ?_)
    refine lv_aload_n hx hb dX1_change_41 rfl (lv_at hl 1 rfl) ?_
    refine lv_iload_n hx hb dX1_change_42 rfl (lv_at hl 4 rfl) ?_
    obtain ⟨S3, eS3, h⟩ := o_bind h
    refine xpX1_2 hx hb hts iX1 hown hK hP hD hS hf16 eS3 dX1_change_43 (fun H locs hP hD hS => ?_)
    refine lv_iload hx hb dX1_change_46 (lv_at hl 0 rfl) ?_
    obtain ⟨eS, ev⟩ := Prod.mk.inj (Option.some.inj h)
    subst eS
    exact g_zret hQ hx hb hr rfl hP hK hD hS (Nat.le_of_ble_eq_true rfl) (Nat.le_of_ble_eq_true rfl) dX1_change_48 hlocks ev
  · have h := o_pos hc h
    refine lv_iload_n hx hb dX1_change_8 rfl (lv_at hl 2 rfl) ?_
    refine lv_aload_n hx hb dX1_change_9 rfl (lv_at hl 0 rfl) ?_
    refine xgX1_1 hx hb hts iX1 hown hK hP hf13 dX1_change_10 ?_
    refine lv_icmp_ne (tgt := 24) hx hb dX1_change_13 (by decide) (fun hc => ?_) (fun hc => ?_)
    · have h := o_neg hc h
      refine lv_iconst (v := 1) hx hb dX1_change_24 (by decide) ?_
      refine lv_goto (tgt := 29) hx hb dX1_change_25 (by decide) ?_
      refine lv_istore (lv' := [(4, .int 1), (0, .ref (ad 3)), (1, .int x1), (2, .int x2), (3, .int x3)]) hx hb dX1_change_29 hl (by decide) rfl (fun ls hl => ?_)
      refine lv_aload_n hx hb dX1_change_31 rfl (lv_at hl 1 rfl) ?_
      refine lv_iload_n hx hb dX1_change_32 rfl (lv_at hl 2 rfl) ?_
      obtain ⟨S4, eS4, h⟩ := o_bind h
      refine xpX1_0 hx hb hts iX1 hown hK hP hD hS hf7 eS4 dX1_change_33 (fun H locs hP hD hS => ?_)
      refine lv_aload_n hx hb dX1_change_36 rfl (lv_at hl 1 rfl) ?_
      refine lv_iload_n hx hb dX1_change_37 rfl (lv_at hl 3 rfl) ?_
      obtain ⟨S5, eS5, h⟩ := o_bind h
      refine xpX1_1 hx hb hts iX1 hown hK hP hD hS hf13 eS5 dX1_change_38 (fun H locs hP hD hS => ?_)
      refine lv_aload_n hx hb dX1_change_41 rfl (lv_at hl 1 rfl) ?_
      refine lv_iload_n hx hb dX1_change_42 rfl (lv_at hl 4 rfl) ?_
      obtain ⟨S6, eS6, h⟩ := o_bind h
      refine xpX1_2 hx hb hts iX1 hown hK hP hD hS hf16 eS6 dX1_change_43 (fun H locs hP hD hS => ?_)
      refine lv_iload hx hb dX1_change_46 (lv_at hl 0 rfl) ?_
      obtain ⟨eS, ev⟩ := Prod.mk.inj (Option.some.inj h)
      subst eS
      exact g_zret hQ hx hb hr rfl hP hK hD hS (Nat.le_of_ble_eq_true rfl) (Nat.le_of_ble_eq_true rfl) dX1_change_48 hlocks ev
    · have h := o_pos hc h
      refine lv_iload_n hx hb dX1_change_16 rfl (lv_at hl 3 rfl) ?_
      refine lv_aload_n hx hb dX1_change_17 rfl (lv_at hl 0 rfl) ?_
      refine xgX1_2 hx hb hts iX1 hown hK hP hf16 dX1_change_18 ?_
      refine lv_icmp_eq (tgt := 28) hx hb dX1_change_21 (by decide) (fun hc => ?_) (fun hc => ?_)
      · have h := o_pos hc h
        refine lv_iconst (v := 0) hx hb dX1_change_28 (by decide) ?_
        refine lv_istore (lv' := [(4, .int 0), (0, .ref (ad 3)), (1, .int x1), (2, .int x2), (3, .int x3)]) hx hb dX1_change_29 hl (by decide) rfl (fun ls hl => ?_)
        refine lv_aload_n hx hb dX1_change_31 rfl (lv_at hl 1 rfl) ?_
        refine lv_iload_n hx hb dX1_change_32 rfl (lv_at hl 2 rfl) ?_
        obtain ⟨S7, eS7, h⟩ := o_bind h
        refine xpX1_0 hx hb hts iX1 hown hK hP hD hS hf7 eS7 dX1_change_33 (fun H locs hP hD hS => ?_)
        refine lv_aload_n hx hb dX1_change_36 rfl (lv_at hl 1 rfl) ?_
        refine lv_iload_n hx hb dX1_change_37 rfl (lv_at hl 3 rfl) ?_
        obtain ⟨S8, eS8, h⟩ := o_bind h
        refine xpX1_1 hx hb hts iX1 hown hK hP hD hS hf13 eS8 dX1_change_38 (fun H locs hP hD hS => ?_)
        refine lv_aload_n hx hb dX1_change_41 rfl (lv_at hl 1 rfl) ?_
        refine lv_iload_n hx hb dX1_change_42 rfl (lv_at hl 4 rfl) ?_
        obtain ⟨S9, eS9, h⟩ := o_bind h
        refine xpX1_2 hx hb hts iX1 hown hK hP hD hS hf16 eS9 dX1_change_43 (fun H locs hP hD hS => ?_)
        refine lv_iload hx hb dX1_change_46 (lv_at hl 0 rfl) ?_
        obtain ⟨eS, ev⟩ := Prod.mk.inj (Option.some.inj h)
        subst eS
        exact g_zret hQ hx hb hr rfl hP hK hD hS (Nat.le_of_ble_eq_true rfl) (Nat.le_of_ble_eq_true rfl) dX1_change_48 hlocks ev
      · have h := o_neg hc h
        refine lv_iconst (v := 1) hx hb dX1_change_24 (by decide) ?_
        refine lv_goto (tgt := 29) hx hb dX1_change_25 (by decide) ?_
        refine lv_istore (lv' := [(4, .int 1), (0, .ref (ad 3)), (1, .int x1), (2, .int x2), (3, .int x3)]) hx hb dX1_change_29 hl (by decide) rfl (fun ls hl => ?_)
        refine lv_aload_n hx hb dX1_change_31 rfl (lv_at hl 1 rfl) ?_
        refine lv_iload_n hx hb dX1_change_32 rfl (lv_at hl 2 rfl) ?_
        obtain ⟨S10, eS10, h⟩ := o_bind h
        refine xpX1_0 hx hb hts iX1 hown hK hP hD hS hf7 eS10 dX1_change_33 (fun H locs hP hD hS => ?_)
        refine lv_aload_n hx hb dX1_change_36 rfl (lv_at hl 1 rfl) ?_
        refine lv_iload_n hx hb dX1_change_37 rfl (lv_at hl 3 rfl) ?_
        obtain ⟨S11, eS11, h⟩ := o_bind h
        refine xpX1_1 hx hb hts iX1 hown hK hP hD hS hf13 eS11 dX1_change_38 (fun H locs hP hD hS => ?_)
        refine lv_aload_n hx hb dX1_change_41 rfl (lv_at hl 1 rfl) ?_
        refine lv_iload_n hx hb dX1_change_42 rfl (lv_at hl 4 rfl) ?_
        obtain ⟨S12, eS12, h⟩ := o_bind h
        refine xpX1_2 hx hb hts iX1 hown hK hP hD hS hf16 eS12 dX1_change_43 (fun H locs hP hD hS => ?_)
        refine lv_iload hx hb dX1_change_46 (lv_at hl 0 rfl) ?_
        obtain ⟨eS, ev⟩ := Prod.mk.inj (Option.some.inj h)
        subst eS
        exact g_zret hQ hx hb hr rfl hP hK hD hS (Nat.le_of_ble_eq_true rfl) (Nat.le_of_ble_eq_true rfl) dX1_change_48 hlocks ev
set_option maxHeartbeats 4000000 in
set_option maxRecDepth 100000 in
theorem m_X1_mixInto (l : Launch) (hst : l.stackTraces = false) (D : va_G) (cy : Nat → ClassId) (tx : List (ClassId × FieldType)) (ad : Nat → Nat) (R : va_W) (sz : Nat) (S : PS) (x1 : Int64) (v : Int64) (h : q_X1_mixInto S x1 = some v) : gMl l yX1_mixInto wsX1_mixInto ({ frames := 1, cells := 0, slots := 0, locals := 22 }) 0 0 D (gT cy ++ tx) [.ref (ad 3), .long x1] sz (xW cy ad S R) (xW cy ad S R) v := by
  refine Met.ofW (cc := cX1_mixInto) (maxL := 3) (ret := (some .long)) (by decide) rfl ?_
  intro p e s m args below meth c s₁ B hml hv
  obtain ⟨hav, hsz, hP, hK, hD0, hE⟩ := hv
  have hx := B.exec
  have hb := B.bytes
  have hr := B.returns
  have hts := atoms_spec (ws := wsX1_mixInto) B.pre
  have hown : s.vm.findClass RX1 = some m.cls := findClass_of_methodNamed B.named
  have hlocks := B.notSynchronized
  subst hsz
  have hD := hD0.self (sz := s.heap.size)
  generalize hAe : va_A (xW cy ad S R) s.heap.size = A at hD hE ⊢
  have hA : ∀ q : Nat, s.heap.size ≤ q → A q := fun q h => by rw [← hAe]; exact Or.inr h
  have hS : va_S A s.heap s.heap [] := va_S.rf
  have iX1 : ∀ w ∈ u_ws RX1 TX1 3, w ∈ wsX1_mixInto := by decide +kernel
  have hf7 := hts (.fieldLink RX1 7 "InlinePlanner$Limits" "budget" "I") (by decide +kernel)
  have hf13 := hts (.fieldLink RX1 13 "InlinePlanner$Limits" "maxDepth" "I") (by decide +kernel)
  have hf16 := hts (.fieldLink RX1 16 "InlinePlanner$Limits" "maxRecursion" "I") (by decide +kernel)
  refine g_entry (n := 3) hav (Nat.le_of_ble_eq_true rfl) (fun ls hl => ?_)
  have hl : lv_has ls 3 [(0, .ref (ad 3)), (1, .long x1)] := hl
  refine g_nameQ (fun Q hQ => ?_)
  unfold q_X1_mixInto at h
  refine lv_lload_n hx hb dX1_mixInto_0 rfl (lv_at hl 1 rfl) ?_
  refine lv_aload_n hx hb dX1_mixInto_1 rfl (lv_at hl 0 rfl) ?_
  refine xgX1_0 hx hb hts iX1 hown hK hP hf7 dX1_mixInto_2 ?_
  obtain ⟨v1, ev1, h⟩ := o_bind h
  refine g_cNl (As := [.long x1, .int (S.1 2)]) (rest := []) ⟨hx, hb, hml, hown, hts⟩ (m_X5_mix l hst D (gT cy ++ tx) (xW cy ad S R) _ x1 (S.1 2) v1 ev1) ⟨va_cnB 2 hts gX1_mixInto_X5_mix_n19 rfl rfl rfl (hE.2.2.2.1 (.methodLinkNest RX1 19 yX5_mix RX5) (by decide +kernel)) (hts (.initialized RX5) (by decide +kernel)) (by decide +kernel) ⟨Nat.le_of_ble_eq_true rfl, Nat.le_of_ble_eq_true rfl⟩, hts (.static yX5_mix) (by decide +kernel), trivial⟩ hP hK hD hS hA hE rfl hl.1 rfl (Nat.le_of_ble_eq_true rfl) dX1_mixInto_5 ⟨Nat.le_of_ble_eq_true rfl, Nat.le_of_ble_eq_true rfl⟩ (fun H locs hP hD hS => ?_)
  refine lv_aload_n hx hb dX1_mixInto_8 rfl (lv_at hl 0 rfl) ?_
  refine xgX1_1 hx hb hts iX1 hown hK hP hf13 dX1_mixInto_9 ?_
  obtain ⟨v2, ev2, h⟩ := o_bind h
  refine g_cNl (As := [.long v1, .int (S.1 3)]) (rest := []) ⟨hx, hb, hml, hown, hts⟩ (m_X5_mix l hst D (gT cy ++ tx) (xW cy ad S R) _ v1 (S.1 3) v2 ev2) ⟨va_cnB 2 hts gX1_mixInto_X5_mix_n19 rfl rfl rfl (hE.2.2.2.1 (.methodLinkNest RX1 19 yX5_mix RX5) (by decide +kernel)) (hts (.initialized RX5) (by decide +kernel)) (by decide +kernel) ⟨Nat.le_of_ble_eq_true rfl, Nat.le_of_ble_eq_true rfl⟩, hts (.static yX5_mix) (by decide +kernel), trivial⟩ hP hK hD hS hA hE rfl hl.1 rfl (Nat.le_of_ble_eq_true rfl) dX1_mixInto_12 ⟨Nat.le_of_ble_eq_true rfl, Nat.le_of_ble_eq_true rfl⟩ (fun H locs hP hD hS => ?_)
  refine lv_aload_n hx hb dX1_mixInto_15 rfl (lv_at hl 0 rfl) ?_
  refine xgX1_2 hx hb hts iX1 hown hK hP hf16 dX1_mixInto_16 ?_
  obtain ⟨v3, ev3, h⟩ := o_bind h
  refine g_cNl (As := [.long v2, .int (S.1 4)]) (rest := []) ⟨hx, hb, hml, hown, hts⟩ (m_X5_mix l hst D (gT cy ++ tx) (xW cy ad S R) _ v2 (S.1 4) v3 ev3) ⟨va_cnB 2 hts gX1_mixInto_X5_mix_n19 rfl rfl rfl (hE.2.2.2.1 (.methodLinkNest RX1 19 yX5_mix RX5) (by decide +kernel)) (hts (.initialized RX5) (by decide +kernel)) (by decide +kernel) ⟨Nat.le_of_ble_eq_true rfl, Nat.le_of_ble_eq_true rfl⟩, hts (.static yX5_mix) (by decide +kernel), trivial⟩ hP hK hD hS hA hE rfl hl.1 rfl (Nat.le_of_ble_eq_true rfl) dX1_mixInto_19 ⟨Nat.le_of_ble_eq_true rfl, Nat.le_of_ble_eq_true rfl⟩ (fun H locs hP hD hS => ?_)
  exact g_lret hQ hx hb hr hP hK hD hS (Nat.le_of_ble_eq_true rfl) (Nat.le_of_ble_eq_true rfl) dX1_mixInto_22 hlocks (Option.some.inj h)
set_option maxHeartbeats 4000000 in
set_option maxRecDepth 100000 in
theorem m_X4_isTakenBefore (l : Launch) (hst : l.stackTraces = false) (D : va_G) (cy : Nat → ClassId) (tx : List (ClassId × FieldType)) (ad : Nat → Nat) (R : va_W) (sz : Nat) (S : PS) (x1 : Int32) (x2 : Int32) (x3 : Int32) (v : Int32) (h : q_X4_isTakenBefore S x1 x2 x3 = some v) : gMi l yX4_isTakenBefore wsX4_isTakenBefore ({ frames := 0, cells := 0, slots := 0, locals := 0 }) 0 0 D (gT cy ++ tx) [.ref (ad 5), .int x1, .int x2, .int x3] sz (xW cy ad S R) (xW cy ad S R) v := by
  refine Met.ofW (cc := cX4_isTakenBefore) (maxL := 4) (ret := (some .boolean)) (by decide) rfl ?_
  intro p e s m args below meth c s₁ B hml hv
  obtain ⟨hav, hsz, hP, hK, hD0, hE⟩ := hv
  have hx := B.exec
  have hb := B.bytes
  have hr := B.returns
  have hts := atoms_spec (ws := wsX4_isTakenBefore) B.pre
  have hown : s.vm.findClass RX4 = some m.cls := findClass_of_methodNamed B.named
  have hlocks := B.notSynchronized
  subst hsz
  have hD := hD0.self (sz := s.heap.size)
  generalize hAe : va_A (xW cy ad S R) s.heap.size = A at hD hE ⊢
  have hA : ∀ q : Nat, s.heap.size ≤ q → A q := fun q h => by rw [← hAe]; exact Or.inr h
  have hS : va_S A s.heap s.heap [] := va_S.rf
  have iX4 : ∀ w ∈ u_ws RX4 TX4 3, w ∈ wsX4_isTakenBefore := by decide +kernel
  have hf9 := hts (.fieldLink RX4 9 "InlinePlanner$Waiting" "slots" "[I") (by decide +kernel)
  have hf15 := hts (.fieldLink RX4 15 "InlinePlanner$Waiting" "merits" "[I") (by decide +kernel)
  refine g_entry (n := 4) hav (Nat.le_of_ble_eq_true rfl) (fun ls hl => ?_)
  have hl : lv_has ls 4 [(0, .ref (ad 5)), (1, .int x1), (2, .int x2), (3, .int x3)] := hl
  refine g_nameQ (fun Q hQ => ?_)
  unfold q_X4_isTakenBefore at h
  refine lv_iload_n hx hb dX4_isTakenBefore_0 rfl (lv_at hl 2 rfl) ?_
  refine lv_aload_n hx hb dX4_isTakenBefore_1 rfl (lv_at hl 0 rfl) ?_
  refine xgX4_2 hx hb hts iX4 hown hK hP hf15 dX4_isTakenBefore_2 ?_
  refine lv_iload_n hx hb dX4_isTakenBefore_5 rfl (lv_at hl 3 rfl) ?_
  obtain ⟨v1, ev1, h⟩ := o_bind h
  refine xld18 hx hb hK hP ev1 dX4_isTakenBefore_6 ?_
  refine lv_icmp_ne (tgt := 28) hx hb dX4_isTakenBefore_7 (by decide) (fun hc => ?_) (fun hc => ?_)
  · have h := o_neg hc h
    refine lv_iload_n hx hb dX4_isTakenBefore_28 rfl (lv_at hl 2 rfl) ?_
    refine lv_aload_n hx hb dX4_isTakenBefore_29 rfl (lv_at hl 0 rfl) ?_
    refine xgX4_2 hx hb hts iX4 hown hK hP hf15 dX4_isTakenBefore_30 ?_
    refine lv_iload_n hx hb dX4_isTakenBefore_33 rfl (lv_at hl 3 rfl) ?_
    obtain ⟨v2, ev2, h⟩ := o_bind h
    refine xld18 hx hb hK hP ev2 dX4_isTakenBefore_34 ?_
    refine lv_icmp_le (tgt := 42) hx hb dX4_isTakenBefore_35 (by decide) (fun hc => ?_) (fun hc => ?_)
    · have h := o_pos hc h
      refine lv_iconst (v := 0) hx hb dX4_isTakenBefore_42 (by decide) ?_
      exact g_zret hQ hx hb hr rfl hP hK hD hS (Nat.le_of_ble_eq_true rfl) (Nat.le_of_ble_eq_true rfl) dX4_isTakenBefore_43 hlocks (Option.some.inj h)
    · have h := o_neg hc h
      refine lv_iconst (v := 1) hx hb dX4_isTakenBefore_38 (by decide) ?_
      refine lv_goto (tgt := 43) hx hb dX4_isTakenBefore_39 (by decide) ?_
      exact g_zret hQ hx hb hr rfl hP hK hD hS (Nat.le_of_ble_eq_true rfl) (Nat.le_of_ble_eq_true rfl) dX4_isTakenBefore_43 hlocks (Option.some.inj h)
  · have h := o_pos hc h
    refine lv_iload_n hx hb dX4_isTakenBefore_10 rfl (lv_at hl 1 rfl) ?_
    refine lv_aload_n hx hb dX4_isTakenBefore_11 rfl (lv_at hl 0 rfl) ?_
    refine xgX4_1 hx hb hts iX4 hown hK hP hf9 dX4_isTakenBefore_12 ?_
    refine lv_iload_n hx hb dX4_isTakenBefore_15 rfl (lv_at hl 3 rfl) ?_
    obtain ⟨v3, ev3, h⟩ := o_bind h
    refine xld17 hx hb hK hP ev3 dX4_isTakenBefore_16 ?_
    refine lv_icmp_ge (tgt := 24) hx hb dX4_isTakenBefore_17 (by decide) (fun hc => ?_) (fun hc => ?_)
    · have h := o_pos hc h
      refine lv_iconst (v := 0) hx hb dX4_isTakenBefore_24 (by decide) ?_
      refine lv_goto (tgt := 43) hx hb dX4_isTakenBefore_25 (by decide) ?_
      exact g_zret hQ hx hb hr rfl hP hK hD hS (Nat.le_of_ble_eq_true rfl) (Nat.le_of_ble_eq_true rfl) dX4_isTakenBefore_43 hlocks (Option.some.inj h)
    · have h := o_neg hc h
      refine lv_iconst (v := 1) hx hb dX4_isTakenBefore_20 (by decide) ?_
      refine lv_goto (tgt := 43) hx hb dX4_isTakenBefore_21 (by decide) ?_
      exact g_zret hQ hx hb hr rfl hP hK hD hS (Nat.le_of_ble_eq_true rfl) (Nat.le_of_ble_eq_true rfl) dX4_isTakenBefore_43 hlocks (Option.some.inj h)
set_option maxHeartbeats 4000000 in
set_option maxRecDepth 100000 in
theorem m_X4_insert (l : Launch) (hst : l.stackTraces = false) (D : va_G) (cy : Nat → ClassId) (tx : List (ClassId × FieldType)) (ad : Nat → Nat) (R : va_W) (sz : Nat) (S : PS) (x1 : Int32) (x2 : Int32) (S' : PS) (h : q_X4_insert S x1 x2 = some S') : gMv l yX4_insert wsX4_insert ({ frames := 1, cells := 0, slots := 0, locals := 23 }) 0 0 D (gT cy ++ tx) [.ref (ad 5), .int x1, .int x2] sz (xW cy ad S R) (xW cy ad S' R) := by
  refine Met.ofW (cc := cX4_insert) (maxL := 4) (ret := none) (by decide) rfl ?_
  intro p e s m args below meth c s₁ B hml hv
  obtain ⟨hav, hsz, hP, hK, hD0, hE⟩ := hv
  have hx := B.exec
  have hb := B.bytes
  have hr := B.returns
  have hts := atoms_spec (ws := wsX4_insert) B.pre
  have hown : s.vm.findClass RX4 = some m.cls := findClass_of_methodNamed B.named
  have hlocks := B.notSynchronized
  subst hsz
  have hD := hD0.self (sz := s.heap.size)
  generalize hAe : va_A (xW cy ad S R) s.heap.size = A at hD hE ⊢
  have hA : ∀ q : Nat, s.heap.size ≤ q → A q := fun q h => by rw [← hAe]; exact Or.inr h
  have hS : va_S A s.heap s.heap [] := va_S.rf
  have iX4 : ∀ w ∈ u_ws RX4 TX4 3, w ∈ wsX4_insert := by decide +kernel
  have hf9 := hts (.fieldLink RX4 9 "InlinePlanner$Waiting" "slots" "[I") (by decide +kernel)
  have hf15 := hts (.fieldLink RX4 15 "InlinePlanner$Waiting" "merits" "[I") (by decide +kernel)
  have hf18 := hts (.fieldLink RX4 18 "InlinePlanner$Waiting" "count" "I") (by decide +kernel)
  refine g_entry (n := 4) hav (Nat.le_of_ble_eq_true rfl) (fun ls hl => ?_)
  have hl : lv_has ls 4 [(0, .ref (ad 5)), (1, .int x1), (2, .int x2)] := hl
  refine g_nameQ (fun Q hQ => ?_)
  unfold q_X4_insert at h
  refine lv_aload_n hx hb dX4_insert_0 rfl (lv_at hl 0 rfl) ?_
  refine xgX4_0 hx hb hts iX4 hown hK hP hf18 dX4_insert_1 ?_
  refine lv_istore_n (lv' := [(3, .int (S.1 7)), (0, .ref (ad 5)), (1, .int x1), (2, .int x2)]) hx hb dX4_insert_4 rfl hl (by decide) rfl (fun ls hl => ?_)
  have L5 : ∀ (n5 : Nat) (x3 : Int32) (S : PS) (H : Heap) (locs : List Loc) (ls : Array Slot), va_P D vwCl (xW cy ad S R) H → va_D A (xW cy ad S R) → va_S A s.heap H locs → lv_has ls 4 [(0, .ref (ad 5)), (1, .int x1), (2, .int x2), (3, .int x3)] → iter2 (q_X4_insert_L5 x1 x2 ) n5 x3 S = some S' → W p l e (headSpec wsX4_insert ({ frames := 1, cells := 0, slots := 0, locals := 23 })).room s m args below meth c H locs 0 0 Q (F0 m 5 ls []) := by
    intro  n5
    induction n5 with
    | zero =>
      intro x3 S H locs ls hP hD hS hl h
      exact (it2_0 h).elim
    | succ n5 ih5 =>
      intro x3 S H locs ls hP hD hS hl h
      have h : q_X4_insert_L5 x1 x2  (iter2 (q_X4_insert_L5 x1 x2 ) n5) x3 S = some S' := h
      unfold q_X4_insert_L5 at h
      refine lv_iload_n hx hb dX4_insert_5 rfl (lv_at hl 3 rfl) ?_
      refine lv_if_le (tgt := 55) hx hb dX4_insert_6 (by decide) (fun hc => ?_) (fun hc => ?_)
      · have h := o_pos hc h
        refine lv_aload_n hx hb dX4_insert_55 rfl (lv_at hl 0 rfl) ?_
        refine xgX4_1 hx hb hts iX4 hown hK hP hf9 dX4_insert_56 ?_
        refine lv_iload_n hx hb dX4_insert_59 rfl (lv_at hl 3 rfl) ?_
        refine lv_iload_n hx hb dX4_insert_60 rfl (lv_at hl 1 rfl) ?_
        obtain ⟨S1, eS1, h⟩ := o_bind h
        refine xst17 hx hb hK hP hD hS eS1 dX4_insert_61 (fun H locs hP hD hS => ?_)
        refine lv_aload_n hx hb dX4_insert_62 rfl (lv_at hl 0 rfl) ?_
        refine xgX4_2 hx hb hts iX4 hown hK hP hf15 dX4_insert_63 ?_
        refine lv_iload_n hx hb dX4_insert_66 rfl (lv_at hl 3 rfl) ?_
        refine lv_iload_n hx hb dX4_insert_67 rfl (lv_at hl 2 rfl) ?_
        obtain ⟨S2, eS2, h⟩ := o_bind h
        refine xst18 hx hb hK hP hD hS eS2 dX4_insert_68 (fun H locs hP hD hS => ?_)
        refine lv_aload_n hx hb dX4_insert_69 rfl (lv_at hl 0 rfl) ?_
        refine lv_dup hx hb dX4_insert_70 rfl ?_
        refine xgX4_0 hx hb hts iX4 hown hK hP hf18 dX4_insert_71 ?_
        refine lv_iconst (v := 1) hx hb dX4_insert_74 (by decide) ?_
        refine lv_iadd hx hb dX4_insert_75 ?_
        obtain ⟨S3, eS3, h⟩ := o_bind h
        refine xpX4_0 hx hb hts iX4 hown hK hP hD hS hf18 eS3 dX4_insert_76 (fun H locs hP hD hS => ?_)
        have eS := Option.some.inj h
        subst eS
        exact g_vret hQ hx hb hr hP hK hD hS (Nat.le_of_ble_eq_true rfl) (Nat.le_of_ble_eq_true rfl) dX4_insert_79 hlocks
      · have h := o_neg hc h
        refine lv_aload_n hx hb dX4_insert_9 rfl (lv_at hl 0 rfl) ?_
        refine lv_iload_n hx hb dX4_insert_10 rfl (lv_at hl 1 rfl) ?_
        refine lv_iload_n hx hb dX4_insert_11 rfl (lv_at hl 2 rfl) ?_
        refine lv_iload_n hx hb dX4_insert_12 rfl (lv_at hl 3 rfl) ?_
        refine lv_iconst (v := 1) hx hb dX4_insert_13 (by decide) ?_
        refine lv_isub hx hb dX4_insert_14 ?_
        obtain ⟨v4, ev4, h⟩ := o_bind h
        refine g_cVi (As := [.int x1, .int x2, .int (x3 - 1)]) (rest := []) ⟨hx, hb, hml, hown, hts⟩ (m_X4_isTakenBefore l hst D cy tx ad R _ S x1 x2 (x3 - 1) v4 ev4) (cwV 3 hts gX4_insert_X4_isTakenBefore rfl rfl rfl (by decide +kernel) ⟨Nat.le_of_ble_eq_true rfl, Nat.le_of_ble_eq_true rfl⟩) (va_recv hK hP (ci := 4) (q0 := 5) rfl rfl) hP hK hD hS hA hE rfl hl.1 rfl (Nat.le_of_ble_eq_true rfl) dX4_insert_15 ⟨Nat.le_of_ble_eq_true rfl, Nat.le_of_ble_eq_true rfl⟩ (fun H locs hP hD hS => ?_)
        refine lv_if_ne (tgt := 55) hx hb dX4_insert_18 (by decide) (fun hc => ?_) (fun hc => ?_)
        · have h := o_neg hc h
          refine lv_aload_n hx hb dX4_insert_55 rfl (lv_at hl 0 rfl) ?_
          refine xgX4_1 hx hb hts iX4 hown hK hP hf9 dX4_insert_56 ?_
          refine lv_iload_n hx hb dX4_insert_59 rfl (lv_at hl 3 rfl) ?_
          refine lv_iload_n hx hb dX4_insert_60 rfl (lv_at hl 1 rfl) ?_
          obtain ⟨S5, eS5, h⟩ := o_bind h
          refine xst17 hx hb hK hP hD hS eS5 dX4_insert_61 (fun H locs hP hD hS => ?_)
          refine lv_aload_n hx hb dX4_insert_62 rfl (lv_at hl 0 rfl) ?_
          refine xgX4_2 hx hb hts iX4 hown hK hP hf15 dX4_insert_63 ?_
          refine lv_iload_n hx hb dX4_insert_66 rfl (lv_at hl 3 rfl) ?_
          refine lv_iload_n hx hb dX4_insert_67 rfl (lv_at hl 2 rfl) ?_
          obtain ⟨S6, eS6, h⟩ := o_bind h
          refine xst18 hx hb hK hP hD hS eS6 dX4_insert_68 (fun H locs hP hD hS => ?_)
          refine lv_aload_n hx hb dX4_insert_69 rfl (lv_at hl 0 rfl) ?_
          refine lv_dup hx hb dX4_insert_70 rfl ?_
          refine xgX4_0 hx hb hts iX4 hown hK hP hf18 dX4_insert_71 ?_
          refine lv_iconst (v := 1) hx hb dX4_insert_74 (by decide) ?_
          refine lv_iadd hx hb dX4_insert_75 ?_
          obtain ⟨S7, eS7, h⟩ := o_bind h
          refine xpX4_0 hx hb hts iX4 hown hK hP hD hS hf18 eS7 dX4_insert_76 (fun H locs hP hD hS => ?_)
          have eS := Option.some.inj h
          subst eS
          exact g_vret hQ hx hb hr hP hK hD hS (Nat.le_of_ble_eq_true rfl) (Nat.le_of_ble_eq_true rfl) dX4_insert_79 hlocks
        · have h := o_pos hc h
          refine lv_aload_n hx hb dX4_insert_21 rfl (lv_at hl 0 rfl) ?_
          refine xgX4_1 hx hb hts iX4 hown hK hP hf9 dX4_insert_22 ?_
          refine lv_iload_n hx hb dX4_insert_25 rfl (lv_at hl 3 rfl) ?_
          refine lv_aload_n hx hb dX4_insert_26 rfl (lv_at hl 0 rfl) ?_
          refine xgX4_1 hx hb hts iX4 hown hK hP hf9 dX4_insert_27 ?_
          refine lv_iload_n hx hb dX4_insert_30 rfl (lv_at hl 3 rfl) ?_
          refine lv_iconst (v := 1) hx hb dX4_insert_31 (by decide) ?_
          refine lv_isub hx hb dX4_insert_32 ?_
          obtain ⟨v8, ev8, h⟩ := o_bind h
          refine xld17 hx hb hK hP ev8 dX4_insert_33 ?_
          obtain ⟨S9, eS9, h⟩ := o_bind h
          refine xst17 hx hb hK hP hD hS eS9 dX4_insert_34 (fun H locs hP hD hS => ?_)
          refine lv_aload_n hx hb dX4_insert_35 rfl (lv_at hl 0 rfl) ?_
          refine xgX4_2 hx hb hts iX4 hown hK hP hf15 dX4_insert_36 ?_
          refine lv_iload_n hx hb dX4_insert_39 rfl (lv_at hl 3 rfl) ?_
          refine lv_aload_n hx hb dX4_insert_40 rfl (lv_at hl 0 rfl) ?_
          refine xgX4_2 hx hb hts iX4 hown hK hP hf15 dX4_insert_41 ?_
          refine lv_iload_n hx hb dX4_insert_44 rfl (lv_at hl 3 rfl) ?_
          refine lv_iconst (v := 1) hx hb dX4_insert_45 (by decide) ?_
          refine lv_isub hx hb dX4_insert_46 ?_
          obtain ⟨v10, ev10, h⟩ := o_bind h
          refine xld18 hx hb hK hP ev10 dX4_insert_47 ?_
          obtain ⟨S11, eS11, h⟩ := o_bind h
          refine xst18 hx hb hK hP hD hS eS11 dX4_insert_48 (fun H locs hP hD hS => ?_)
          refine lv_iinc (v := (x3 + -1)) (lv' := [(3, .int (x3 + -1)), (0, .ref (ad 5)), (1, .int x1), (2, .int x2)]) hx hb dX4_insert_49 hl (k := 3) rfl rfl (by decide) rfl (fun ls hl => ?_)
          refine lv_goto (tgt := 5) hx hb dX4_insert_52 (by decide) ?_
          exact ih5 (x3 + -1) S11 _ _ ls hP hD hS (lv_sub hl [1, 2, 3, 0] rfl) h
  exact L5  1000 (S.1 7) S _ _ ls hP hD hS (lv_sub hl [1, 2, 3, 0] rfl) h
set_option maxHeartbeats 4000000 in
set_option maxRecDepth 100000 in
theorem m_X4_takeNext (l : Launch) (hst : l.stackTraces = false) (D : va_G) (cy : Nat → ClassId) (tx : List (ClassId × FieldType)) (ad : Nat → Nat) (R : va_W) (sz : Nat) (S : PS)  (S' : PS) (v : Int32) (h : q_X4_takeNext S = some (S', v)) : gMi l yX4_takeNext wsX4_takeNext ({ frames := 0, cells := 0, slots := 0, locals := 0 }) 0 0 D (gT cy ++ tx) [.ref (ad 5)] sz (xW cy ad S R) (xW cy ad S' R) v := by
  refine Met.ofW (cc := cX4_takeNext) (maxL := 1) (ret := (some .int)) (by decide) rfl ?_
  intro p e s m args below meth c s₁ B hml hv
  obtain ⟨hav, hsz, hP, hK, hD0, hE⟩ := hv
  have hx := B.exec
  have hb := B.bytes
  have hr := B.returns
  have hts := atoms_spec (ws := wsX4_takeNext) B.pre
  have hown : s.vm.findClass RX4 = some m.cls := findClass_of_methodNamed B.named
  have hlocks := B.notSynchronized
  subst hsz
  have hD := hD0.self (sz := s.heap.size)
  generalize hAe : va_A (xW cy ad S R) s.heap.size = A at hD hE ⊢
  have hA : ∀ q : Nat, s.heap.size ≤ q → A q := fun q h => by rw [← hAe]; exact Or.inr h
  have hS : va_S A s.heap s.heap [] := va_S.rf
  have iX4 : ∀ w ∈ u_ws RX4 TX4 3, w ∈ wsX4_takeNext := by decide +kernel
  have hf9 := hts (.fieldLink RX4 9 "InlinePlanner$Waiting" "slots" "[I") (by decide +kernel)
  have hf18 := hts (.fieldLink RX4 18 "InlinePlanner$Waiting" "count" "I") (by decide +kernel)
  refine g_entry (n := 1) hav (Nat.le_of_ble_eq_true rfl) (fun ls hl => ?_)
  have hl : lv_has ls 1 [(0, .ref (ad 5))] := hl
  refine g_nameQ (fun Q hQ => ?_)
  unfold q_X4_takeNext at h
  refine lv_aload_n hx hb dX4_takeNext_0 rfl (lv_at hl 0 rfl) ?_
  refine lv_dup hx hb dX4_takeNext_1 rfl ?_
  refine xgX4_0 hx hb hts iX4 hown hK hP hf18 dX4_takeNext_2 ?_
  refine lv_iconst (v := 1) hx hb dX4_takeNext_5 (by decide) ?_
  refine lv_isub hx hb dX4_takeNext_6 ?_
  obtain ⟨S1, eS1, h⟩ := o_bind h
  refine xpX4_0 hx hb hts iX4 hown hK hP hD hS hf18 eS1 dX4_takeNext_7 (fun H locs hP hD hS => ?_)
  refine lv_aload_n hx hb dX4_takeNext_10 rfl (lv_at hl 0 rfl) ?_
  refine xgX4_1 hx hb hts iX4 hown hK hP hf9 dX4_takeNext_11 ?_
  refine lv_aload_n hx hb dX4_takeNext_14 rfl (lv_at hl 0 rfl) ?_
  refine xgX4_0 hx hb hts iX4 hown hK hP hf18 dX4_takeNext_15 ?_
  obtain ⟨v2, ev2, h⟩ := o_bind h
  refine xld17 hx hb hK hP ev2 dX4_takeNext_18 ?_
  obtain ⟨eS, ev⟩ := Prod.mk.inj (Option.some.inj h)
  subst eS
  exact g_iret hQ hx hb hr hP hK hD hS (Nat.le_of_ble_eq_true rfl) (Nat.le_of_ble_eq_true rfl) dX4_takeNext_19 hlocks ev
set_option maxHeartbeats 4000000 in
set_option maxRecDepth 100000 in
theorem m_X2_hasOwn (l : Launch) (hst : l.stackTraces = false) (D : va_G) (cy : Nat → ClassId) (tx : List (ClassId × FieldType)) (ad : Nat → Nat) (R : va_W) (sz : Nat) (S : PS) (x1 : Int32) (x2 : Int32) (v : Int32) (h : q_X2_hasOwn S x1 x2 = some v) : gMi l yX2_hasOwn wsX2_hasOwn ({ frames := 0, cells := 0, slots := 0, locals := 0 }) 0 0 D (gT cy ++ tx) [.ref (ad 2), .int x1, .int x2] sz (xW cy ad S R) (xW cy ad S R) v := by
  refine Met.ofW (cc := cX2_hasOwn) (maxL := 3) (ret := (some .boolean)) (by decide) rfl ?_
  intro p e s m args below meth c s₁ B hml hv
  obtain ⟨hav, hsz, hP, hK, hD0, hE⟩ := hv
  have hx := B.exec
  have hb := B.bytes
  have hr := B.returns
  have hts := atoms_spec (ws := wsX2_hasOwn) B.pre
  have hown : s.vm.findClass RX2 = some m.cls := findClass_of_methodNamed B.named
  have hlocks := B.notSynchronized
  subst hsz
  have hD := hD0.self (sz := s.heap.size)
  generalize hAe : va_A (xW cy ad S R) s.heap.size = A at hD hE ⊢
  have hA : ∀ q : Nat, s.heap.size ≤ q → A q := fun q h => by rw [← hAe]; exact Or.inr h
  have hS : va_S A s.heap s.heap [] := va_S.rf
  have iX2 : ∀ w ∈ u_ws RX2 TX2 8, w ∈ wsX2_hasOwn := by decide +kernel
  have hf27 := hts (.fieldLink RX2 27 "InlinePlanner$Program" "own" "[I") (by decide +kernel)
  refine g_entry (n := 3) hav (Nat.le_of_ble_eq_true rfl) (fun ls hl => ?_)
  have hl : lv_has ls 3 [(0, .ref (ad 2)), (1, .int x1), (2, .int x2)] := hl
  refine g_nameQ (fun Q hQ => ?_)
  unfold q_X2_hasOwn at h
  refine lv_aload_n hx hb dX2_hasOwn_0 rfl (lv_at hl 0 rfl) ?_
  refine xgX2_7 hx hb hts iX2 hown hK hP hf27 dX2_hasOwn_1 ?_
  refine lv_iload_n hx hb dX2_hasOwn_4 rfl (lv_at hl 1 rfl) ?_
  refine lv_bipush (v := 8) hx hb dX2_hasOwn_5 (by decide) ?_
  refine lv_imul hx hb dX2_hasOwn_7 ?_
  refine lv_iload_n hx hb dX2_hasOwn_8 rfl (lv_at hl 2 rfl) ?_
  refine lv_iadd hx hb dX2_hasOwn_9 ?_
  obtain ⟨v1, ev1, h⟩ := o_bind h
  refine xld8 hx hb hK hP ev1 dX2_hasOwn_10 ?_
  refine lv_if_le (tgt := 18) hx hb dX2_hasOwn_11 (by decide) (fun hc => ?_) (fun hc => ?_)
  · have h := o_pos hc h
    refine lv_iconst (v := 0) hx hb dX2_hasOwn_18 (by decide) ?_
    exact g_zret hQ hx hb hr rfl hP hK hD hS (Nat.le_of_ble_eq_true rfl) (Nat.le_of_ble_eq_true rfl) dX2_hasOwn_19 hlocks (Option.some.inj h)
  · have h := o_neg hc h
    refine lv_iconst (v := 1) hx hb dX2_hasOwn_14 (by decide) ?_
    refine lv_goto (tgt := 19) hx hb dX2_hasOwn_15 (by decide) ?_
    exact g_zret hQ hx hb hr rfl hP hK hD hS (Nat.le_of_ble_eq_true rfl) (Nat.le_of_ble_eq_true rfl) dX2_hasOwn_19 hlocks (Option.some.inj h)
set_option maxHeartbeats 4000000 in
set_option maxRecDepth 100000 in
theorem m_X2_appendMethod (l : Launch) (hst : l.stackTraces = false) (D : va_G) (cy : Nat → ClassId) (tx : List (ClassId × FieldType)) (ad : Nat → Nat) (R : va_W) (sz : Nat) (S : PS) (x1 : Int32) (x2 : Int32) (x3 : Int32) (S' : PS) (v : Int32) (h : q_X2_appendMethod S x1 x2 x3 = some (S', v)) : gMi l yX2_appendMethod wsX2_appendMethod ({ frames := 0, cells := 0, slots := 0, locals := 0 }) 0 0 D (gT cy ++ tx) [.ref (ad 2), .int x1, .int x2, .int x3] sz (xW cy ad S R) (xW cy ad S' R) v := by
  refine Met.ofW (cc := cX2_appendMethod) (maxL := 5) (ret := (some .int)) (by decide) rfl ?_
  intro p e s m args below meth c s₁ B hml hv
  obtain ⟨hav, hsz, hP, hK, hD0, hE⟩ := hv
  have hx := B.exec
  have hb := B.bytes
  have hr := B.returns
  have hts := atoms_spec (ws := wsX2_appendMethod) B.pre
  have hown : s.vm.findClass RX2 = some m.cls := findClass_of_methodNamed B.named
  have hlocks := B.notSynchronized
  subst hsz
  have hD := hD0.self (sz := s.heap.size)
  generalize hAe : va_A (xW cy ad S R) s.heap.size = A at hD hE ⊢
  have hA : ∀ q : Nat, s.heap.size ≤ q → A q := fun q h => by rw [← hAe]; exact Or.inr h
  have hS : va_S A s.heap s.heap [] := va_S.rf
  have iX2 : ∀ w ∈ u_ws RX2 TX2 8, w ∈ wsX2_appendMethod := by decide +kernel
  have hf9 := hts (.fieldLink RX2 9 "InlinePlanner$Program" "sizes" "[I") (by decide +kernel)
  have hf27 := hts (.fieldLink RX2 27 "InlinePlanner$Program" "own" "[I") (by decide +kernel)
  have hf34 := hts (.fieldLink RX2 34 "InlinePlanner$Program" "count" "I") (by decide +kernel)
  refine g_entry (n := 5) hav (Nat.le_of_ble_eq_true rfl) (fun ls hl => ?_)
  have hl : lv_has ls 5 [(0, .ref (ad 2)), (1, .int x1), (2, .int x2), (3, .int x3)] := hl
  refine g_nameQ (fun Q hQ => ?_)
  unfold q_X2_appendMethod at h
  refine lv_aload_n hx hb dX2_appendMethod_0 rfl (lv_at hl 0 rfl) ?_
  refine xgX2_0 hx hb hts iX2 hown hK hP hf34 dX2_appendMethod_1 ?_
  refine lv_istore (lv' := [(4, .int (S.1 1)), (0, .ref (ad 2)), (1, .int x1), (2, .int x2), (3, .int x3)]) hx hb dX2_appendMethod_4 hl (by decide) rfl (fun ls hl => ?_)
  refine lv_aload_n hx hb dX2_appendMethod_6 rfl (lv_at hl 1 rfl) ?_
  refine xgX2_1 hx hb hts iX2 hown hK hP hf9 dX2_appendMethod_7 ?_
  refine lv_iload hx hb dX2_appendMethod_10 (lv_at hl 0 rfl) ?_
  refine lv_iload_n hx hb dX2_appendMethod_12 rfl (lv_at hl 4 rfl) ?_
  obtain ⟨S1, eS1, h⟩ := o_bind h
  refine xst3 hx hb hK hP hD hS eS1 dX2_appendMethod_13 (fun H locs hP hD hS => ?_)
  refine lv_aload_n hx hb dX2_appendMethod_14 rfl (lv_at hl 1 rfl) ?_
  refine lv_dup hx hb dX2_appendMethod_15 rfl ?_
  refine xgX2_0 hx hb hts iX2 hown hK hP hf34 dX2_appendMethod_16 ?_
  refine lv_iconst (v := 1) hx hb dX2_appendMethod_19 (by decide) ?_
  refine lv_iadd hx hb dX2_appendMethod_20 ?_
  obtain ⟨S2, eS2, h⟩ := o_bind h
  refine xpX2_0 hx hb hts iX2 hown hK hP hD hS hf34 eS2 dX2_appendMethod_21 (fun H locs hP hD hS => ?_)
  refine lv_aload_n hx hb dX2_appendMethod_24 rfl (lv_at hl 1 rfl) ?_
  refine xgX2_7 hx hb hts iX2 hown hK hP hf27 dX2_appendMethod_25 ?_
  refine lv_iload_n hx hb dX2_appendMethod_28 rfl (lv_at hl 2 rfl) ?_
  refine lv_bipush (v := 8) hx hb dX2_appendMethod_29 (by decide) ?_
  refine lv_imul hx hb dX2_appendMethod_31 ?_
  refine lv_iload_n hx hb dX2_appendMethod_32 rfl (lv_at hl 3 rfl) ?_
  refine lv_iadd hx hb dX2_appendMethod_33 ?_
  refine lv_aload_n hx hb dX2_appendMethod_34 rfl (lv_at hl 1 rfl) ?_
  refine xgX2_0 hx hb hts iX2 hown hK hP hf34 dX2_appendMethod_35 ?_
  obtain ⟨S3, eS3, h⟩ := o_bind h
  refine xst8 hx hb hK hP hD hS eS3 dX2_appendMethod_38 (fun H locs hP hD hS => ?_)
  refine lv_iload hx hb dX2_appendMethod_39 (lv_at hl 0 rfl) ?_
  obtain ⟨eS, ev⟩ := Prod.mk.inj (Option.some.inj h)
  subst eS
  exact g_iret hQ hx hb hr hP hK hD hS (Nat.le_of_ble_eq_true rfl) (Nat.le_of_ble_eq_true rfl) dX2_appendMethod_41 hlocks ev
set_option maxHeartbeats 4000000 in
set_option maxRecDepth 100000 in
theorem m_X2_appendSite (l : Launch) (hst : l.stackTraces = false) (D : va_G) (cy : Nat → ClassId) (tx : List (ClassId × FieldType)) (ad : Nat → Nat) (R : va_W) (sz : Nat) (S : PS) (x1 : Int32) (x2 : Int32) (x3 : Int32) (x4 : Int32) (S' : PS) (v : Int32) (h : q_X2_appendSite S x1 x2 x3 x4 = some (S', v)) : gMi l yX2_appendSite wsX2_appendSite ({ frames := 1, cells := 0, slots := 0, locals := 21 }) 0 0 D (gT cy ++ tx) [.ref (ad 2), .int x1, .int x2, .int x3, .int x4] sz (xW cy ad S R) (xW cy ad S' R) v := by
  refine Met.ofW (cc := cX2_appendSite) (maxL := 7) (ret := (some .int)) (by decide) rfl ?_
  intro p e s m args below meth c s₁ B hml hv
  obtain ⟨hav, hsz, hP, hK, hD0, hE⟩ := hv
  have hx := B.exec
  have hb := B.bytes
  have hr := B.returns
  have hts := atoms_spec (ws := wsX2_appendSite) B.pre
  have hown : s.vm.findClass RX2 = some m.cls := findClass_of_methodNamed B.named
  have hlocks := B.notSynchronized
  subst hsz
  have hD := hD0.self (sz := s.heap.size)
  generalize hAe : va_A (xW cy ad S R) s.heap.size = A at hD hE ⊢
  have hA : ∀ q : Nat, s.heap.size ≤ q → A q := fun q h => by rw [← hAe]; exact Or.inr h
  have hS : va_S A s.heap s.heap [] := va_S.rf
  have iX2 : ∀ w ∈ u_ws RX2 TX2 8, w ∈ wsX2_appendSite := by decide +kernel
  have hf15 := hts (.fieldLink RX2 15 "InlinePlanner$Program" "siteCounts" "[I") (by decide +kernel)
  have hf18 := hts (.fieldLink RX2 18 "InlinePlanner$Program" "frequencies" "[I") (by decide +kernel)
  have hf21 := hts (.fieldLink RX2 21 "InlinePlanner$Program" "receivers" "[I") (by decide +kernel)
  have hf24 := hts (.fieldLink RX2 24 "InlinePlanner$Program" "selectors" "[I") (by decide +kernel)
  refine g_entry (n := 7) hav (Nat.le_of_ble_eq_true rfl) (fun ls hl => ?_)
  have hl : lv_has ls 7 [(0, .ref (ad 2)), (1, .int x1), (2, .int x2), (3, .int x3), (4, .int x4)] := hl
  refine g_nameQ (fun Q hQ => ?_)
  unfold q_X2_appendSite at h
  refine lv_aload_n hx hb dX2_appendSite_0 rfl (lv_at hl 0 rfl) ?_
  refine xgX2_2 hx hb hts iX2 hown hK hP hf15 dX2_appendSite_1 ?_
  refine lv_iload_n hx hb dX2_appendSite_4 rfl (lv_at hl 1 rfl) ?_
  obtain ⟨v1, ev1, h⟩ := o_bind h
  refine xld4 hx hb hK hP ev1 dX2_appendSite_5 ?_
  refine lv_istore (lv' := [(5, .int v1), (0, .ref (ad 2)), (1, .int x1), (2, .int x2), (3, .int x3), (4, .int x4)]) hx hb dX2_appendSite_6 hl (by decide) rfl (fun ls hl => ?_)
  refine lv_iload_n hx hb dX2_appendSite_8 rfl (lv_at hl 2 rfl) ?_
  refine lv_iload hx hb dX2_appendSite_9 (lv_at hl 0 rfl) ?_
  obtain ⟨v2, ev2, h⟩ := o_bind h
  refine g_cNi (As := [.int x1, .int v1]) (rest := []) ⟨hx, hb, hml, hown, hts⟩ (m_X5_slot l hst D (gT cy ++ tx) (xW cy ad S R) _ x1 v1 v2 ev2) ⟨va_cnB 2 hts gX2_appendSite_X5_slot_n38 rfl rfl rfl (hE.2.2.2.1 (.methodLinkNest RX2 38 yX5_slot RX5) (by decide +kernel)) (hts (.initialized RX5) (by decide +kernel)) (by decide +kernel) ⟨Nat.le_of_ble_eq_true rfl, Nat.le_of_ble_eq_true rfl⟩, hts (.static yX5_slot) (by decide +kernel), trivial⟩ hP hK hD hS hA hE rfl hl.1 rfl (Nat.le_of_ble_eq_true rfl) dX2_appendSite_11 ⟨Nat.le_of_ble_eq_true rfl, Nat.le_of_ble_eq_true rfl⟩ (fun H locs hP hD hS => ?_)
  refine lv_istore (lv' := [(6, .int v2), (5, .int v1), (0, .ref (ad 2)), (1, .int x1), (2, .int x2), (3, .int x3), (4, .int x4)]) hx hb dX2_appendSite_14 hl (by decide) rfl (fun ls hl => ?_)
  refine lv_aload_n hx hb dX2_appendSite_16 rfl (lv_at hl 2 rfl) ?_
  refine xgX2_5 hx hb hts iX2 hown hK hP hf21 dX2_appendSite_17 ?_
  refine lv_iload hx hb dX2_appendSite_20 (lv_at hl 0 rfl) ?_
  refine lv_iload_n hx hb dX2_appendSite_22 rfl (lv_at hl 4 rfl) ?_
  obtain ⟨S3, eS3, h⟩ := o_bind h
  refine xst6 hx hb hK hP hD hS eS3 dX2_appendSite_23 (fun H locs hP hD hS => ?_)
  refine lv_aload_n hx hb dX2_appendSite_24 rfl (lv_at hl 2 rfl) ?_
  refine xgX2_6 hx hb hts iX2 hown hK hP hf24 dX2_appendSite_25 ?_
  refine lv_iload hx hb dX2_appendSite_28 (lv_at hl 0 rfl) ?_
  refine lv_iload_n hx hb dX2_appendSite_30 rfl (lv_at hl 5 rfl) ?_
  obtain ⟨S4, eS4, h⟩ := o_bind h
  refine xst7 hx hb hK hP hD hS eS4 dX2_appendSite_31 (fun H locs hP hD hS => ?_)
  refine lv_aload_n hx hb dX2_appendSite_32 rfl (lv_at hl 2 rfl) ?_
  refine xgX2_3 hx hb hts iX2 hown hK hP hf18 dX2_appendSite_33 ?_
  refine lv_iload hx hb dX2_appendSite_36 (lv_at hl 0 rfl) ?_
  refine lv_iload hx hb dX2_appendSite_38 (lv_at hl 6 rfl) ?_
  obtain ⟨S5, eS5, h⟩ := o_bind h
  refine xst5 hx hb hK hP hD hS eS5 dX2_appendSite_40 (fun H locs hP hD hS => ?_)
  refine lv_aload_n hx hb dX2_appendSite_41 rfl (lv_at hl 2 rfl) ?_
  refine xgX2_2 hx hb hts iX2 hown hK hP hf15 dX2_appendSite_42 ?_
  refine lv_iload_n hx hb dX2_appendSite_45 rfl (lv_at hl 3 rfl) ?_
  refine lv_dup2_11 hx hb dX2_appendSite_46 rfl rfl ?_
  obtain ⟨v6, ev6, h⟩ := o_bind h
  refine xld4 hx hb hK hP ev6 dX2_appendSite_47 ?_
  refine lv_iconst (v := 1) hx hb dX2_appendSite_48 (by decide) ?_
  refine lv_iadd hx hb dX2_appendSite_49 ?_
  obtain ⟨S7, eS7, h⟩ := o_bind h
  refine xst4 hx hb hK hP hD hS eS7 dX2_appendSite_50 (fun H locs hP hD hS => ?_)
  refine lv_iload hx hb dX2_appendSite_51 (lv_at hl 1 rfl) ?_
  obtain ⟨eS, ev⟩ := Prod.mk.inj (Option.some.inj h)
  subst eS
  exact g_iret hQ hx hb hr hP hK hD hS (Nat.le_of_ble_eq_true rfl) (Nat.le_of_ble_eq_true rfl) dX2_appendSite_53 hlocks ev
set_option maxHeartbeats 4000000 in
set_option maxRecDepth 100000 in
theorem m_X2_lookUp (l : Launch) (hst : l.stackTraces = false) (D : va_G) (cy : Nat → ClassId) (tx : List (ClassId × FieldType)) (ad : Nat → Nat) (R : va_W) (sz : Nat) (S : PS) (x1 : Int32) (x2 : Int32) (v : Int32) (h : q_X2_lookUp S x1 x2 = some v) : gMi l yX2_lookUp wsX2_lookUp ({ frames := 0, cells := 0, slots := 0, locals := 0 }) 0 0 D (gT cy ++ tx) [.ref (ad 2), .int x1, .int x2] sz (xW cy ad S R) (xW cy ad S R) v := by
  refine Met.ofW (cc := cX2_lookUp) (maxL := 6) (ret := (some .int)) (by decide) rfl ?_
  intro p e s m args below meth c s₁ B hml hv
  obtain ⟨hav, hsz, hP, hK, hD0, hE⟩ := hv
  have hx := B.exec
  have hb := B.bytes
  have hr := B.returns
  have hts := atoms_spec (ws := wsX2_lookUp) B.pre
  have hown : s.vm.findClass RX2 = some m.cls := findClass_of_methodNamed B.named
  have hlocks := B.notSynchronized
  subst hsz
  have hD := hD0.self (sz := s.heap.size)
  generalize hAe : va_A (xW cy ad S R) s.heap.size = A at hD hE ⊢
  have hA : ∀ q : Nat, s.heap.size ≤ q → A q := fun q h => by rw [← hAe]; exact Or.inr h
  have hS : va_S A s.heap s.heap [] := va_S.rf
  have iX0 : ∀ w ∈ u_ws RX0 TX0 4, w ∈ wsX2_lookUp := by decide +kernel
  have iX2 : ∀ w ∈ u_ws RX2 TX2 8, w ∈ wsX2_lookUp := by decide +kernel
  have hf27 := hts (.fieldLink RX2 27 "InlinePlanner$Program" "own" "[I") (by decide +kernel)
  have hf30 := hts (.fieldLink RX2 30 "InlinePlanner$Program" "hierarchy" "LInlinePlanner$Hierarchy;") (by decide +kernel)
  have hf42 := hts (.fieldLink RX2 42 "InlinePlanner$Hierarchy" "parents" "[I") (by decide +kernel)
  refine g_entry (n := 6) hav (Nat.le_of_ble_eq_true rfl) (fun ls hl => ?_)
  have hl : lv_has ls 6 [(0, .ref (ad 2)), (1, .int x1), (2, .int x2)] := hl
  refine g_nameQ (fun Q hQ => ?_)
  unfold q_X2_lookUp at h
  refine lv_iload_n hx hb dX2_lookUp_0 rfl (lv_at hl 1 rfl) ?_
  refine lv_istore_n (lv' := [(3, .int x1), (0, .ref (ad 2)), (1, .int x1), (2, .int x2)]) hx hb dX2_lookUp_1 rfl hl (by decide) rfl (fun ls hl => ?_)
  refine lv_iconst (v := 0) hx hb dX2_lookUp_2 (by decide) ?_
  refine lv_istore (lv' := [(4, .int 0), (3, .int x1), (0, .ref (ad 2)), (1, .int x1), (2, .int x2)]) hx hb dX2_lookUp_3 hl (by decide) rfl (fun ls hl => ?_)
  have L5 : ∀ (n5 : Nat) (x3 : Int32) (x4 : Int32) (H : Heap) (locs : List Loc) (ls : Array Slot), va_P D vwCl (xW cy ad S R) H → va_D A (xW cy ad S R) → va_S A s.heap H locs → lv_has ls 6 [(0, .ref (ad 2)), (2, .int x2), (3, .int x3), (4, .int x4)] → iter2 (q_X2_lookUp_L5 S x2 ) n5 x3 x4 = some v → W p l e (headSpec wsX2_lookUp ({ frames := 0, cells := 0, slots := 0, locals := 0 })).room s m args below meth c H locs 0 0 Q (F0 m 5 ls []) := by
    intro  n5
    induction n5 with
    | zero =>
      intro x3 x4 H locs ls hP hD hS hl h
      exact (it2_0 h).elim
    | succ n5 ih5 =>
      intro x3 x4 H locs ls hP hD hS hl h
      have h : q_X2_lookUp_L5 S x2  (iter2 (q_X2_lookUp_L5 S x2 ) n5) x3 x4 = some v := h
      unfold q_X2_lookUp_L5 at h
      refine lv_iload hx hb dX2_lookUp_5 (lv_at hl 3 rfl) ?_
      refine lv_bipush (v := 16) hx hb dX2_lookUp_7 (by decide) ?_
      refine lv_icmp_ge (tgt := 55) hx hb dX2_lookUp_9 (by decide) (fun hc => ?_) (fun hc => ?_)
      · have h := o_pos hc h
        refine lv_iconst (v := (-1)) hx hb dX2_lookUp_55 (by decide) ?_
        exact g_iret hQ hx hb hr hP hK hD hS (Nat.le_of_ble_eq_true rfl) (Nat.le_of_ble_eq_true rfl) dX2_lookUp_56 hlocks (Option.some.inj h)
      · have h := o_neg hc h
        refine lv_iload_n hx hb dX2_lookUp_12 rfl (lv_at hl 2 rfl) ?_
        refine lv_if_lt (tgt := 55) hx hb dX2_lookUp_13 (by decide) (fun hc => ?_) (fun hc => ?_)
        · have h := o_pos hc h
          refine lv_iconst (v := (-1)) hx hb dX2_lookUp_55 (by decide) ?_
          exact g_iret hQ hx hb hr hP hK hD hS (Nat.le_of_ble_eq_true rfl) (Nat.le_of_ble_eq_true rfl) dX2_lookUp_56 hlocks (Option.some.inj h)
        · have h := o_neg hc h
          refine lv_aload_n hx hb dX2_lookUp_16 rfl (lv_at hl 0 rfl) ?_
          refine xgX2_7 hx hb hts iX2 hown hK hP hf27 dX2_lookUp_17 ?_
          refine lv_iload_n hx hb dX2_lookUp_20 rfl (lv_at hl 2 rfl) ?_
          refine lv_bipush (v := 8) hx hb dX2_lookUp_21 (by decide) ?_
          refine lv_imul hx hb dX2_lookUp_23 ?_
          refine lv_iload_n hx hb dX2_lookUp_24 rfl (lv_at hl 1 rfl) ?_
          refine lv_iadd hx hb dX2_lookUp_25 ?_
          obtain ⟨v1, ev1, h⟩ := o_bind h
          refine xld8 hx hb hK hP ev1 dX2_lookUp_26 ?_
          refine lv_iconst (v := 1) hx hb dX2_lookUp_27 (by decide) ?_
          refine lv_isub hx hb dX2_lookUp_28 ?_
          refine lv_istore (lv' := [(5, .int (v1 - 1)), (0, .ref (ad 2)), (2, .int x2), (3, .int x3), (4, .int x4)]) hx hb dX2_lookUp_29 hl (by decide) rfl (fun ls hl => ?_)
          refine lv_iload hx hb dX2_lookUp_31 (lv_at hl 0 rfl) ?_
          refine lv_if_lt (tgt := 39) hx hb dX2_lookUp_33 (by decide) (fun hc => ?_) (fun hc => ?_)
          · have h := o_pos hc h
            refine lv_aload_n hx hb dX2_lookUp_39 rfl (lv_at hl 1 rfl) ?_
            refine xgX2_4 hx hb hts iX2 hown hK hP hf30 dX2_lookUp_40 ?_
            refine xgX0_1 hx hb hts iX0 hown hK hP hf42 dX2_lookUp_43 ?_
            refine lv_iload_n hx hb dX2_lookUp_46 rfl (lv_at hl 3 rfl) ?_
            obtain ⟨v2, ev2, h⟩ := o_bind h
            refine xld0 hx hb hK hP ev2 dX2_lookUp_47 ?_
            refine lv_istore_n (lv' := [(3, .int v2), (5, .int (v1 - 1)), (0, .ref (ad 2)), (2, .int x2), (4, .int x4)]) hx hb dX2_lookUp_48 rfl hl (by decide) rfl (fun ls hl => ?_)
            refine lv_iinc (v := (x4 + 1)) (lv' := [(4, .int (x4 + 1)), (3, .int v2), (5, .int (v1 - 1)), (0, .ref (ad 2)), (2, .int x2)]) hx hb dX2_lookUp_49 hl (k := 4) rfl rfl (by decide) rfl (fun ls hl => ?_)
            refine lv_goto (tgt := 5) hx hb dX2_lookUp_52 (by decide) ?_
            exact ih5 v2 (x4 + 1) _ _ ls hP hD hS (lv_sub hl [3, 4, 1, 0] rfl) h
          · have h := o_neg hc h
            refine lv_iload hx hb dX2_lookUp_36 (lv_at hl 0 rfl) ?_
            exact g_iret hQ hx hb hr hP hK hD hS (Nat.le_of_ble_eq_true rfl) (Nat.le_of_ble_eq_true rfl) dX2_lookUp_38 hlocks (Option.some.inj h)
  exact L5  1000 x1 0 _ _ ls hP hD hS (lv_sub hl [2, 4, 1, 0] rfl) h
