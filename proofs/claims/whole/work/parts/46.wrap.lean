/-- a wrapper: it throws nothing -/
abbrev gLi (l : Launch) (y : MethodName) (ws : List Cond) (rm : Room) (mc ms : Nat) (D : va_G) (tys : List (ClassId × FieldType)) (av : List Value) (sz : Nat) (Wd : va_W) (Wd' : va_W) (v : Int32) : Prop :=
  vx_Met l y ws rm (va_Pc av (gPre D tys sz Wd)) (va_Qi (fun r (_ : Unit) => v = r) (fun _ t => gPost D tys (va_A Wd sz) Wd' t) (va_A Wd sz)) (vx_X (fun _ : Unit => False) (fun _ _ _ => True) (va_A Wd sz)) mc ms (va_A Wd sz)
theorem g_iretV {p : Program} {l : Launch} {e : Env} {R : Room} {s : State} {m : MethodId} {args : Array Value} {below : List Frame} {meth : Method} {c : Code} {H : Heap} {locs : List Loc} {cells slots : Nat} {Q : State → Prop} {cc : ByteArray} {pc : Nat} {ls : Array Slot} {D : va_G} {A : Nat → Prop} {tys : List (ClassId × FieldType)} {Wd' : va_W} {v v0 : Int32} {mc ms : Nat} {XC : String → State → State → Prop} (hQ : vx_MQ below (va_Qi (fun r (_ : Unit) => v = r) (fun _ t => gPost D tys A Wd' t) A) XC args s mc ms A = Q) (hexec : p.tables.exec = Jvm.exec) (hb : c.code = cc) (hr : meth.sig.returnType = some .int) (hP : va_P D vwCl Wd' H) (hK : va_K D vwCl tys s) (hD : va_D A Wd') (hS : va_S A s.heap H locs) (hc : cells ≤ mc) (hs : slots ≤ ms) (hdg : decode cc pc = .ok (.ireturn, 1)) (hlocks : meth.locks = false) (ev : v0 = v) : W p l e R s m args below meth c H locs cells slots Q (F0 m pc ls [.int v0]) := by
  subst hQ
  refine vx_ret (W.widen hc hs ?_)
  exact W.iret hexec hb hr (fun t ht hW => ⟨⟨v0, (), rfl, ev.symm, by rw [ht]; exact hP, va_K.moved hW.alike hK, hD⟩, hS.F ht⟩) hS.2.2 hdg hlocks
set_option maxHeartbeats 4000000 in
set_option maxRecDepth 100000 in
theorem m_L_addClass (l : Launch) (hst : l.stackTraces = false) (D : va_G) (cy : Nat → ClassId) (tx : List (ClassId × FieldType)) (ad : Nat → Nat) (qo : Nat) (R : va_W) (sz : Nat) (S : PS) (ov : (Nat → Int64)) (x1 : Int32) (S' : PS) (ov' : (Nat → Int64)) (k : Int32) (h : q_L_addClass S ov x1 = some (S', ov', k)) : gLi l yL_addClass wsL_addClass ({ frames := 8, cells := 2, slots := 12, locals := 124 }) 2 12 D (gT cy ++ tx) [.ref (ad 0), .int x1, .ref qo] sz (xW cy ad S ((qo, .inl (cy 33, 1, .inr (.inl ov))) :: R)) (xW cy ad S' ((qo, .inl (cy 33, 1, .inr (.inl ov'))) :: R)) k := by
  refine vx_ofWH (cc := cL_addClass) (maxL := 4) (ret := (some .int)) (hh := [(0, 9, 12, 13), (0, 9, 15, 15)]) (by decide) rfl ?_
  intro p e s m args below meth c s₁ B hml hv
  obtain ⟨hav, hsz, hP, hK, hD0, hE⟩ := hv
  have hx := B.exec
  have hb := B.bytes
  have hr := B.returns
  have hts := atoms_spec (ws := wsL_addClass) B.pre
  have hown : s.vm.findClass RL = some m.cls := findClass_of_methodNamed B.named
  have hlocks := B.notSynchronized
  have htab := vx_table (x := yL_addClass) B (hts _ (List.mem_cons_self))
  subst hsz
  have hD := hD0.self (sz := s.heap.size)
  generalize hAe : va_A (xW cy ad S ((qo, .inl (cy 33, 1, .inr (.inl ov))) :: R)) s.heap.size = A at hD hE ⊢
  have hA : ∀ q : Nat, s.heap.size ≤ q → A q := fun q h => by rw [← hAe]; exact Or.inr h
  have hS : va_S A s.heap s.heap [] := va_S.rf
  refine g_entry (n := 4) hav (Nat.le_of_ble_eq_true rfl) (fun ls hl => ?_)
  have hl : lv_has ls 4 [(0, .ref (ad 0)), (1, .int x1), (2, .ref qo)] := hl
  refine g_nameQ (fun Q hQ => ?_)
  unfold q_L_addClass at h
  refine lv_aload_n hx hb dL_addClass_0 rfl (lv_at hl 2 rfl) ?_
  refine lv_iconst (v := 0) hx hb dL_addClass_1 (by decide) ?_
  refine lv_aload_n hx hb dL_addClass_2 rfl (lv_at hl 0 rfl) ?_
  refine lv_iload_n hx hb dL_addClass_3 rfl (lv_at hl 1 rfl) ?_
  rcases x_catch h with ⟨e1, he, h⟩ | ⟨v, he, h⟩
  · refine g_tXi (As := [.int x1]) (rest := [.int 0, .ref qo]) ⟨hx, hb, hml, hown, hts⟩ (m_X5_addClass l hst D cy tx ad ((qo, .inl (cy 33, 1, .inr (.inl ov))) :: R) _ S x1 (.inl e1) he) (cwV 1 hts gL_addClass_X5_addClass rfl rfl rfl (by decide +kernel) ⟨Nat.le_of_ble_eq_true rfl, Nat.le_of_ble_eq_true rfl⟩) (va_recv hK hP (ci := 5) (q0 := 0) rfl rfl) hP hK hD hS hA hE rfl hl.1 rfl (Nat.le_of_ble_eq_true rfl) dL_addClass_4 ⟨Nat.le_of_ble_eq_true rfl, Nat.le_of_ble_eq_true rfl⟩ (fun ce q9 H locs hP hD hS hce hcv hcl => ?_)
    by_cases hk0 : e1 = 1
    · have h := o_pos hk0 h
      subst hk0
      refine vx_catch (name := exN 1) hown [] ⟨0, 9, 12, 13⟩ [⟨0, 9, 15, 15⟩] (by rw [htab]; rfl) (fun z hz => absurd hz List.not_mem_nil) (by decide) (by decide) (hts (.classLink RL 13 "java/lang/IndexOutOfBoundsException") (by decide +kernel)) (va_Nw.use rfl (hE.2.2.2.1 (.castable "java/lang/IndexOutOfBoundsException" "java/lang/IndexOutOfBoundsException") (by decide +kernel))) hce hcv hcl ?_
      refine lv_astore_n (lv' := [(3, .ref q9), (0, .ref (ad 0)), (1, .int x1), (2, .ref qo)]) hx hb dL_addClass_12 rfl hl (by decide) rfl (fun ls hl => ?_)
      refine lv_iconst (v := 1) hx hb dL_addClass_13 (by decide) ?_
      obtain ⟨eS, eo⟩ := Prod.mk.inj (Option.some.inj h)
      obtain ⟨eo, ev⟩ := Prod.mk.inj eo
      subst eS; subst eo
      exact g_iretV hQ hx hb hr hP hK hD hS (Nat.le_of_ble_eq_true rfl) (Nat.le_of_ble_eq_true rfl) dL_addClass_14 hlocks ev
    · have h := o_neg hk0 h
      by_cases hk1 : e1 = 2
      · have h := o_pos hk1 h
        subst hk1
        refine vx_catch (name := exN 2) hown [⟨0, 9, 12, 13⟩] ⟨0, 9, 15, 15⟩ [] (by rw [htab]; rfl) (fun z hz => by rw [List.mem_singleton.mp hz]; exact Or.inr ⟨by decide, exN 1, hts (.classLink RL 13 "java/lang/IndexOutOfBoundsException") (by decide +kernel), hE.2.2.2.2 2 1 (by decide) (by decide) (by decide)⟩) (by decide) (by decide) (hts (.classLink RL 15 "java/lang/IllegalStateException") (by decide +kernel)) (va_Nw.use rfl (hE.2.2.2.1 (.castable "java/lang/IllegalStateException" "java/lang/IllegalStateException") (by decide +kernel))) hce hcv hcl ?_
        refine lv_astore_n (lv' := [(3, .ref q9), (0, .ref (ad 0)), (1, .int x1), (2, .ref qo)]) hx hb dL_addClass_15 rfl hl (by decide) rfl (fun ls hl => ?_)
        refine lv_iconst (v := 2) hx hb dL_addClass_16 (by decide) ?_
        obtain ⟨eS, eo⟩ := Prod.mk.inj (Option.some.inj h)
        obtain ⟨eo, ev⟩ := Prod.mk.inj eo
        subst eS; subst eo
        exact g_iretV hQ hx hb hr hP hK hD hS (Nat.le_of_ble_eq_true rfl) (Nat.le_of_ble_eq_true rfl) dL_addClass_17 hlocks ev
      · have h := o_neg hk1 h
        cases h
  · obtain ⟨S1, v⟩ := v
    refine g_rXi (As := [.int x1]) (rest := [.int 0, .ref qo]) ⟨hx, hb, hml, hown, hts⟩ (m_X5_addClass l hst D cy tx ad ((qo, .inl (cy 33, 1, .inr (.inl ov))) :: R) _ S x1 (.inr (S1, v)) he) (cwV 1 hts gL_addClass_X5_addClass rfl rfl rfl (by decide +kernel) ⟨Nat.le_of_ble_eq_true rfl, Nat.le_of_ble_eq_true rfl⟩) (va_recv hK hP (ci := 5) (q0 := 0) rfl rfl) hP hK hD hS hA hE rfl hl.1 rfl (Nat.le_of_ble_eq_true rfl) dL_addClass_4 ⟨Nat.le_of_ble_eq_true rfl, Nat.le_of_ble_eq_true rfl⟩ (fun H locs hP hD hS => ?_)
    refine W.widen (k := 2) (n := 12) (Nat.le_of_ble_eq_true rfl) (Nat.le_of_ble_eq_true rfl) ?_
    refine lv_i2l (v := ((v : Int32).toInt64)) hx hb dL_addClass_7 rfl ?_
    obtain ⟨f1, ef1, h⟩ := o_bind h
    refine g_last hx hb hK hP hD hS 25 33 rfl rfl ef1 dL_addClass_8 (fun H locs hP hD hS => ?_)
    have hP : va_P D vwCl (xW cy ad S1 ((qo, .inl (cy 33, 1, .inr (.inl f1))) :: R)) H := hP
    have hD : va_D A (xW cy ad S1 ((qo, .inl (cy 33, 1, .inr (.inl f1))) :: R)) := hD
    refine lv_goto (tgt := 18) hx hb dL_addClass_9 (by decide) ?_
    refine lv_iconst (v := 0) hx hb dL_addClass_18 (by decide) ?_
    obtain ⟨eS, eo⟩ := Prod.mk.inj (Option.some.inj h)
    obtain ⟨eo, ev⟩ := Prod.mk.inj eo
    subst eS; subst eo
    exact g_iretV hQ hx hb hr hP hK hD hS (Nat.le_of_ble_eq_true rfl) (Nat.le_of_ble_eq_true rfl) dL_addClass_19 hlocks ev
set_option maxHeartbeats 4000000 in
set_option maxRecDepth 100000 in
theorem m_L_setLive (l : Launch) (hst : l.stackTraces = false) (D : va_G) (cy : Nat → ClassId) (tx : List (ClassId × FieldType)) (ad : Nat → Nat) (qo : Nat) (R : va_W) (sz : Nat) (S : PS) (ov : (Nat → Int64)) (x1 : Int32) (x2 : Int32) (S' : PS) (ov' : (Nat → Int64)) (k : Int32) (h : q_L_setLive S ov x1 x2 = some (S', ov', k)) : gLi l yL_setLive wsL_setLive ({ frames := 8, cells := 1, slots := 6, locals := 126 }) 1 6 D (gT cy ++ tx) [.ref (ad 0), .int x1, .int x2, .ref qo] sz (xW cy ad S ((qo, .inl (cy 33, 1, .inr (.inl ov))) :: R)) (xW cy ad S' ((qo, .inl (cy 33, 1, .inr (.inl ov'))) :: R)) k := by
  refine vx_ofWH (cc := cL_setLive) (maxL := 5) (ret := (some .int)) (hh := [(0, 17, 20, 13)]) (by decide) rfl ?_
  intro p e s m args below meth c s₁ B hml hv
  obtain ⟨hav, hsz, hP, hK, hD0, hE⟩ := hv
  have hx := B.exec
  have hb := B.bytes
  have hr := B.returns
  have hts := atoms_spec (ws := wsL_setLive) B.pre
  have hown : s.vm.findClass RL = some m.cls := findClass_of_methodNamed B.named
  have hlocks := B.notSynchronized
  have htab := vx_table (x := yL_setLive) B (hts _ (List.mem_cons_self))
  subst hsz
  have hD := hD0.self (sz := s.heap.size)
  generalize hAe : va_A (xW cy ad S ((qo, .inl (cy 33, 1, .inr (.inl ov))) :: R)) s.heap.size = A at hD hE ⊢
  have hA : ∀ q : Nat, s.heap.size ≤ q → A q := fun q h => by rw [← hAe]; exact Or.inr h
  have hS : va_S A s.heap s.heap [] := va_S.rf
  refine g_entry (n := 5) hav (Nat.le_of_ble_eq_true rfl) (fun ls hl => ?_)
  have hl : lv_has ls 5 [(0, .ref (ad 0)), (1, .int x1), (2, .int x2), (3, .ref qo)] := hl
  refine g_nameQ (fun Q hQ => ?_)
  unfold q_L_setLive at h
  refine lv_aload_n hx hb dL_setLive_0 rfl (lv_at hl 3 rfl) ?_
  refine lv_iconst (v := 0) hx hb dL_setLive_1 (by decide) ?_
  refine lv_aload_n hx hb dL_setLive_2 rfl (lv_at hl 0 rfl) ?_
  refine lv_iload_n hx hb dL_setLive_3 rfl (lv_at hl 1 rfl) ?_
  refine lv_iload_n hx hb dL_setLive_4 rfl (lv_at hl 2 rfl) ?_
  rcases x_catch h with ⟨e1, he, h⟩ | ⟨v, he, h⟩
  · refine g_tXi (As := [.int x1, .int x2]) (rest := [.int 0, .ref qo]) ⟨hx, hb, hml, hown, hts⟩ (m_X5_setLive l hst D cy tx ad ((qo, .inl (cy 33, 1, .inr (.inl ov))) :: R) _ S x1 x2 (.inl e1) he) (cwV 2 hts gL_setLive_X5_setLive rfl rfl rfl (by decide +kernel) ⟨Nat.le_of_ble_eq_true rfl, Nat.le_of_ble_eq_true rfl⟩) (va_recv hK hP (ci := 5) (q0 := 0) rfl rfl) hP hK hD hS hA hE rfl hl.1 rfl (Nat.le_of_ble_eq_true rfl) dL_setLive_5 ⟨Nat.le_of_ble_eq_true rfl, Nat.le_of_ble_eq_true rfl⟩ (fun ce q9 H locs hP hD hS hce hcv hcl => ?_)
    by_cases hk0 : e1 = 1
    · have h := o_pos hk0 h
      subst hk0
      refine vx_catch (name := exN 1) hown [] ⟨0, 17, 20, 13⟩ [] (by rw [htab]; rfl) (fun z hz => absurd hz List.not_mem_nil) (by decide) (by decide) (hts (.classLink RL 13 "java/lang/IndexOutOfBoundsException") (by decide +kernel)) (va_Nw.use rfl (hE.2.2.2.1 (.castable "java/lang/IndexOutOfBoundsException" "java/lang/IndexOutOfBoundsException") (by decide +kernel))) hce hcv hcl ?_
      refine lv_astore (lv' := [(4, .ref q9), (0, .ref (ad 0)), (1, .int x1), (2, .int x2), (3, .ref qo)]) hx hb dL_setLive_20 hl (by decide) rfl (fun ls hl => ?_)
      refine lv_iconst (v := 1) hx hb dL_setLive_22 (by decide) ?_
      obtain ⟨eS, eo⟩ := Prod.mk.inj (Option.some.inj h)
      obtain ⟨eo, ev⟩ := Prod.mk.inj eo
      subst eS; subst eo
      exact g_iretV hQ hx hb hr hP hK hD hS (Nat.le_of_ble_eq_true rfl) (Nat.le_of_ble_eq_true rfl) dL_setLive_23 hlocks ev
    · have h := o_neg hk0 h
      cases h
  · obtain ⟨S1, v⟩ := v
    refine g_rXi (As := [.int x1, .int x2]) (rest := [.int 0, .ref qo]) ⟨hx, hb, hml, hown, hts⟩ (m_X5_setLive l hst D cy tx ad ((qo, .inl (cy 33, 1, .inr (.inl ov))) :: R) _ S x1 x2 (.inr (S1, v)) he) (cwV 2 hts gL_setLive_X5_setLive rfl rfl rfl (by decide +kernel) ⟨Nat.le_of_ble_eq_true rfl, Nat.le_of_ble_eq_true rfl⟩) (va_recv hK hP (ci := 5) (q0 := 0) rfl rfl) hP hK hD hS hA hE rfl hl.1 rfl (Nat.le_of_ble_eq_true rfl) dL_setLive_5 ⟨Nat.le_of_ble_eq_true rfl, Nat.le_of_ble_eq_true rfl⟩ (fun H locs hP hD hS => ?_)
    refine W.widen (k := 1) (n := 6) (Nat.le_of_ble_eq_true rfl) (Nat.le_of_ble_eq_true rfl) ?_
    refine lv_if_eq (tgt := 15) hx hb dL_setLive_8 (by decide) (fun hc => ?_) (fun hc => ?_)
    · have h := o_pos hc h
      refine lv_lconst (v := 0) hx hb dL_setLive_15 (by decide) ?_
      obtain ⟨f1, ef1, h⟩ := o_bind h
      refine g_last hx hb hK hP hD hS 25 33 rfl rfl ef1 dL_setLive_16 (fun H locs hP hD hS => ?_)
      have hP : va_P D vwCl (xW cy ad S1 ((qo, .inl (cy 33, 1, .inr (.inl f1))) :: R)) H := hP
      have hD : va_D A (xW cy ad S1 ((qo, .inl (cy 33, 1, .inr (.inl f1))) :: R)) := hD
      refine lv_goto (tgt := 24) hx hb dL_setLive_17 (by decide) ?_
      refine lv_iconst (v := 0) hx hb dL_setLive_24 (by decide) ?_
      obtain ⟨eS, eo⟩ := Prod.mk.inj (Option.some.inj h)
      obtain ⟨eo, ev⟩ := Prod.mk.inj eo
      subst eS; subst eo
      exact g_iretV hQ hx hb hr hP hK hD hS (Nat.le_of_ble_eq_true rfl) (Nat.le_of_ble_eq_true rfl) dL_setLive_25 hlocks ev
    · have h := o_neg hc h
      refine lv_lconst (v := 1) hx hb dL_setLive_11 (by decide) ?_
      refine lv_goto (tgt := 16) hx hb dL_setLive_12 (by decide) ?_
      obtain ⟨f2, ef2, h⟩ := o_bind h
      refine g_last hx hb hK hP hD hS 25 33 rfl rfl ef2 dL_setLive_16 (fun H locs hP hD hS => ?_)
      have hP : va_P D vwCl (xW cy ad S1 ((qo, .inl (cy 33, 1, .inr (.inl f2))) :: R)) H := hP
      have hD : va_D A (xW cy ad S1 ((qo, .inl (cy 33, 1, .inr (.inl f2))) :: R)) := hD
      refine lv_goto (tgt := 24) hx hb dL_setLive_17 (by decide) ?_
      refine lv_iconst (v := 0) hx hb dL_setLive_24 (by decide) ?_
      obtain ⟨eS, eo⟩ := Prod.mk.inj (Option.some.inj h)
      obtain ⟨eo, ev⟩ := Prod.mk.inj eo
      subst eS; subst eo
      exact g_iretV hQ hx hb hr hP hK hD hS (Nat.le_of_ble_eq_true rfl) (Nat.le_of_ble_eq_true rfl) dL_setLive_25 hlocks ev
set_option maxHeartbeats 4000000 in
set_option maxRecDepth 100000 in
theorem m_L_parent (l : Launch) (hst : l.stackTraces = false) (D : va_G) (cy : Nat → ClassId) (tx : List (ClassId × FieldType)) (ad : Nat → Nat) (qo : Nat) (R : va_W) (sz : Nat) (S : PS) (ov : (Nat → Int64)) (x1 : Int32) (S' : PS) (ov' : (Nat → Int64)) (k : Int32) (h : q_L_parent S ov x1 = some (S', ov', k)) : gLi l yL_parent wsL_parent ({ frames := 8, cells := 1, slots := 6, locals := 124 }) 1 6 D (gT cy ++ tx) [.ref (ad 0), .int x1, .ref qo] sz (xW cy ad S ((qo, .inl (cy 33, 1, .inr (.inl ov))) :: R)) (xW cy ad S' ((qo, .inl (cy 33, 1, .inr (.inl ov'))) :: R)) k := by
  refine vx_ofWH (cc := cL_parent) (maxL := 4) (ret := (some .int)) (hh := [(0, 9, 12, 13)]) (by decide) rfl ?_
  intro p e s m args below meth c s₁ B hml hv
  obtain ⟨hav, hsz, hP, hK, hD0, hE⟩ := hv
  have hx := B.exec
  have hb := B.bytes
  have hr := B.returns
  have hts := atoms_spec (ws := wsL_parent) B.pre
  have hown : s.vm.findClass RL = some m.cls := findClass_of_methodNamed B.named
  have hlocks := B.notSynchronized
  have htab := vx_table (x := yL_parent) B (hts _ (List.mem_cons_self))
  subst hsz
  have hD := hD0.self (sz := s.heap.size)
  generalize hAe : va_A (xW cy ad S ((qo, .inl (cy 33, 1, .inr (.inl ov))) :: R)) s.heap.size = A at hD hE ⊢
  have hA : ∀ q : Nat, s.heap.size ≤ q → A q := fun q h => by rw [← hAe]; exact Or.inr h
  have hS : va_S A s.heap s.heap [] := va_S.rf
  refine g_entry (n := 4) hav (Nat.le_of_ble_eq_true rfl) (fun ls hl => ?_)
  have hl : lv_has ls 4 [(0, .ref (ad 0)), (1, .int x1), (2, .ref qo)] := hl
  refine g_nameQ (fun Q hQ => ?_)
  unfold q_L_parent at h
  refine lv_aload_n hx hb dL_parent_0 rfl (lv_at hl 2 rfl) ?_
  refine lv_iconst (v := 0) hx hb dL_parent_1 (by decide) ?_
  refine lv_aload_n hx hb dL_parent_2 rfl (lv_at hl 0 rfl) ?_
  refine lv_iload_n hx hb dL_parent_3 rfl (lv_at hl 1 rfl) ?_
  rcases x_catch h with ⟨e1, he, h⟩ | ⟨v, he, h⟩
  · refine g_tYi (As := [.int x1]) (rest := [.int 0, .ref qo]) ⟨hx, hb, hml, hown, hts⟩ (m_X5_parent l hst D cy tx ad ((qo, .inl (cy 33, 1, .inr (.inl ov))) :: R) _ S x1 (.inl e1) he) (cwV 1 hts gL_parent_X5_parent rfl rfl rfl (by decide +kernel) ⟨Nat.le_of_ble_eq_true rfl, Nat.le_of_ble_eq_true rfl⟩) (va_recv hK hP (ci := 5) (q0 := 0) rfl rfl) hP hK hD hS hA hE rfl hl.1 rfl (Nat.le_of_ble_eq_true rfl) dL_parent_4 ⟨Nat.le_of_ble_eq_true rfl, Nat.le_of_ble_eq_true rfl⟩ (fun ce q9 H locs hP hD hS hce hcv hcl => ?_)
    by_cases hk0 : e1 = 1
    · have h := o_pos hk0 h
      subst hk0
      refine vx_catch (name := exN 1) hown [] ⟨0, 9, 12, 13⟩ [] (by rw [htab]; rfl) (fun z hz => absurd hz List.not_mem_nil) (by decide) (by decide) (hts (.classLink RL 13 "java/lang/IndexOutOfBoundsException") (by decide +kernel)) (va_Nw.use rfl (hE.2.2.2.1 (.castable "java/lang/IndexOutOfBoundsException" "java/lang/IndexOutOfBoundsException") (by decide +kernel))) hce hcv hcl ?_
      refine lv_astore_n (lv' := [(3, .ref q9), (0, .ref (ad 0)), (1, .int x1), (2, .ref qo)]) hx hb dL_parent_12 rfl hl (by decide) rfl (fun ls hl => ?_)
      refine lv_iconst (v := 1) hx hb dL_parent_13 (by decide) ?_
      obtain ⟨eS, eo⟩ := Prod.mk.inj (Option.some.inj h)
      obtain ⟨eo, ev⟩ := Prod.mk.inj eo
      subst eS; subst eo
      exact g_iretV hQ hx hb hr hP hK hD hS (Nat.le_of_ble_eq_true rfl) (Nat.le_of_ble_eq_true rfl) dL_parent_14 hlocks ev
    · have h := o_neg hk0 h
      cases h
  · refine g_rYi (As := [.int x1]) (rest := [.int 0, .ref qo]) ⟨hx, hb, hml, hown, hts⟩ (m_X5_parent l hst D cy tx ad ((qo, .inl (cy 33, 1, .inr (.inl ov))) :: R) _ S x1 (.inr v) he) (cwV 1 hts gL_parent_X5_parent rfl rfl rfl (by decide +kernel) ⟨Nat.le_of_ble_eq_true rfl, Nat.le_of_ble_eq_true rfl⟩) (va_recv hK hP (ci := 5) (q0 := 0) rfl rfl) hP hK hD hS hA hE rfl hl.1 rfl (Nat.le_of_ble_eq_true rfl) dL_parent_4 ⟨Nat.le_of_ble_eq_true rfl, Nat.le_of_ble_eq_true rfl⟩ (fun H locs hP hD hS => ?_)
    refine W.widen (k := 1) (n := 6) (Nat.le_of_ble_eq_true rfl) (Nat.le_of_ble_eq_true rfl) ?_
    refine lv_i2l (v := ((v : Int32).toInt64)) hx hb dL_parent_7 rfl ?_
    obtain ⟨f1, ef1, h⟩ := o_bind h
    refine g_last hx hb hK hP hD hS 25 33 rfl rfl ef1 dL_parent_8 (fun H locs hP hD hS => ?_)
    have hP : va_P D vwCl (xW cy ad S ((qo, .inl (cy 33, 1, .inr (.inl f1))) :: R)) H := hP
    have hD : va_D A (xW cy ad S ((qo, .inl (cy 33, 1, .inr (.inl f1))) :: R)) := hD
    refine lv_goto (tgt := 15) hx hb dL_parent_9 (by decide) ?_
    refine lv_iconst (v := 0) hx hb dL_parent_15 (by decide) ?_
    obtain ⟨eS, eo⟩ := Prod.mk.inj (Option.some.inj h)
    obtain ⟨eo, ev⟩ := Prod.mk.inj eo
    subst eS; subst eo
    exact g_iretV hQ hx hb hr hP hK hD hS (Nat.le_of_ble_eq_true rfl) (Nat.le_of_ble_eq_true rfl) dL_parent_16 hlocks ev
set_option maxHeartbeats 4000000 in
set_option maxRecDepth 100000 in
theorem m_L_isBelow (l : Launch) (hst : l.stackTraces = false) (D : va_G) (cy : Nat → ClassId) (tx : List (ClassId × FieldType)) (ad : Nat → Nat) (qo : Nat) (R : va_W) (sz : Nat) (S : PS) (ov : (Nat → Int64)) (x1 : Int32) (x2 : Int32) (S' : PS) (ov' : (Nat → Int64)) (k : Int32) (h : q_L_isBelow S ov x1 x2 = some (S', ov', k)) : gLi l yL_isBelow wsL_isBelow ({ frames := 8, cells := 2, slots := 12, locals := 125 }) 2 12 D (gT cy ++ tx) [.ref (ad 0), .int x1, .int x2, .ref qo] sz (xW cy ad S ((qo, .inl (cy 33, 1, .inr (.inl ov))) :: R)) (xW cy ad S' ((qo, .inl (cy 33, 1, .inr (.inl ov'))) :: R)) k := by
  refine vx_ofWH (cc := cL_isBelow) (maxL := 5) (ret := (some .int)) (hh := [(0, 17, 20, 13)]) (by decide) rfl ?_
  intro p e s m args below meth c s₁ B hml hv
  obtain ⟨hav, hsz, hP, hK, hD0, hE⟩ := hv
  have hx := B.exec
  have hb := B.bytes
  have hr := B.returns
  have hts := atoms_spec (ws := wsL_isBelow) B.pre
  have hown : s.vm.findClass RL = some m.cls := findClass_of_methodNamed B.named
  have hlocks := B.notSynchronized
  have htab := vx_table (x := yL_isBelow) B (hts _ (List.mem_cons_self))
  subst hsz
  have hD := hD0.self (sz := s.heap.size)
  generalize hAe : va_A (xW cy ad S ((qo, .inl (cy 33, 1, .inr (.inl ov))) :: R)) s.heap.size = A at hD hE ⊢
  have hA : ∀ q : Nat, s.heap.size ≤ q → A q := fun q h => by rw [← hAe]; exact Or.inr h
  have hS : va_S A s.heap s.heap [] := va_S.rf
  refine g_entry (n := 5) hav (Nat.le_of_ble_eq_true rfl) (fun ls hl => ?_)
  have hl : lv_has ls 5 [(0, .ref (ad 0)), (1, .int x1), (2, .int x2), (3, .ref qo)] := hl
  refine g_nameQ (fun Q hQ => ?_)
  unfold q_L_isBelow at h
  refine lv_aload_n hx hb dL_isBelow_0 rfl (lv_at hl 3 rfl) ?_
  refine lv_iconst (v := 0) hx hb dL_isBelow_1 (by decide) ?_
  refine lv_aload_n hx hb dL_isBelow_2 rfl (lv_at hl 0 rfl) ?_
  refine lv_iload_n hx hb dL_isBelow_3 rfl (lv_at hl 1 rfl) ?_
  refine lv_iload_n hx hb dL_isBelow_4 rfl (lv_at hl 2 rfl) ?_
  rcases x_catch h with ⟨e1, he, h⟩ | ⟨v, he, h⟩
  · refine g_tYi (As := [.int x1, .int x2]) (rest := [.int 0, .ref qo]) ⟨hx, hb, hml, hown, hts⟩ (m_X5_isBelow l hst D cy tx ad ((qo, .inl (cy 33, 1, .inr (.inl ov))) :: R) _ S x1 x2 (.inl e1) he) (cwV 2 hts gL_isBelow_X5_isBelow rfl rfl rfl (by decide +kernel) ⟨Nat.le_of_ble_eq_true rfl, Nat.le_of_ble_eq_true rfl⟩) (va_recv hK hP (ci := 5) (q0 := 0) rfl rfl) hP hK hD hS hA hE rfl hl.1 rfl (Nat.le_of_ble_eq_true rfl) dL_isBelow_5 ⟨Nat.le_of_ble_eq_true rfl, Nat.le_of_ble_eq_true rfl⟩ (fun ce q9 H locs hP hD hS hce hcv hcl => ?_)
    by_cases hk0 : e1 = 1
    · have h := o_pos hk0 h
      subst hk0
      refine vx_catch (name := exN 1) hown [] ⟨0, 17, 20, 13⟩ [] (by rw [htab]; rfl) (fun z hz => absurd hz List.not_mem_nil) (by decide) (by decide) (hts (.classLink RL 13 "java/lang/IndexOutOfBoundsException") (by decide +kernel)) (va_Nw.use rfl (hE.2.2.2.1 (.castable "java/lang/IndexOutOfBoundsException" "java/lang/IndexOutOfBoundsException") (by decide +kernel))) hce hcv hcl ?_
      refine lv_astore (lv' := [(4, .ref q9), (0, .ref (ad 0)), (1, .int x1), (2, .int x2), (3, .ref qo)]) hx hb dL_isBelow_20 hl (by decide) rfl (fun ls hl => ?_)
      refine lv_iconst (v := 1) hx hb dL_isBelow_22 (by decide) ?_
      obtain ⟨eS, eo⟩ := Prod.mk.inj (Option.some.inj h)
      obtain ⟨eo, ev⟩ := Prod.mk.inj eo
      subst eS; subst eo
      exact g_iretV hQ hx hb hr hP hK hD hS (Nat.le_of_ble_eq_true rfl) (Nat.le_of_ble_eq_true rfl) dL_isBelow_23 hlocks ev
    · have h := o_neg hk0 h
      cases h
  · refine g_rYi (As := [.int x1, .int x2]) (rest := [.int 0, .ref qo]) ⟨hx, hb, hml, hown, hts⟩ (m_X5_isBelow l hst D cy tx ad ((qo, .inl (cy 33, 1, .inr (.inl ov))) :: R) _ S x1 x2 (.inr v) he) (cwV 2 hts gL_isBelow_X5_isBelow rfl rfl rfl (by decide +kernel) ⟨Nat.le_of_ble_eq_true rfl, Nat.le_of_ble_eq_true rfl⟩) (va_recv hK hP (ci := 5) (q0 := 0) rfl rfl) hP hK hD hS hA hE rfl hl.1 rfl (Nat.le_of_ble_eq_true rfl) dL_isBelow_5 ⟨Nat.le_of_ble_eq_true rfl, Nat.le_of_ble_eq_true rfl⟩ (fun H locs hP hD hS => ?_)
    refine W.widen (k := 2) (n := 12) (Nat.le_of_ble_eq_true rfl) (Nat.le_of_ble_eq_true rfl) ?_
    refine lv_if_eq (tgt := 15) hx hb dL_isBelow_8 (by decide) (fun hc => ?_) (fun hc => ?_)
    · have h := o_pos hc h
      refine lv_lconst (v := 0) hx hb dL_isBelow_15 (by decide) ?_
      obtain ⟨f1, ef1, h⟩ := o_bind h
      refine g_last hx hb hK hP hD hS 25 33 rfl rfl ef1 dL_isBelow_16 (fun H locs hP hD hS => ?_)
      have hP : va_P D vwCl (xW cy ad S ((qo, .inl (cy 33, 1, .inr (.inl f1))) :: R)) H := hP
      have hD : va_D A (xW cy ad S ((qo, .inl (cy 33, 1, .inr (.inl f1))) :: R)) := hD
      refine lv_goto (tgt := 24) hx hb dL_isBelow_17 (by decide) ?_
      refine lv_iconst (v := 0) hx hb dL_isBelow_24 (by decide) ?_
      obtain ⟨eS, eo⟩ := Prod.mk.inj (Option.some.inj h)
      obtain ⟨eo, ev⟩ := Prod.mk.inj eo
      subst eS; subst eo
      exact g_iretV hQ hx hb hr hP hK hD hS (Nat.le_of_ble_eq_true rfl) (Nat.le_of_ble_eq_true rfl) dL_isBelow_25 hlocks ev
    · have h := o_neg hc h
      refine lv_lconst (v := 1) hx hb dL_isBelow_11 (by decide) ?_
      refine lv_goto (tgt := 16) hx hb dL_isBelow_12 (by decide) ?_
      obtain ⟨f2, ef2, h⟩ := o_bind h
      refine g_last hx hb hK hP hD hS 25 33 rfl rfl ef2 dL_isBelow_16 (fun H locs hP hD hS => ?_)
      have hP : va_P D vwCl (xW cy ad S ((qo, .inl (cy 33, 1, .inr (.inl f2))) :: R)) H := hP
      have hD : va_D A (xW cy ad S ((qo, .inl (cy 33, 1, .inr (.inl f2))) :: R)) := hD
      refine lv_goto (tgt := 24) hx hb dL_isBelow_17 (by decide) ?_
      refine lv_iconst (v := 0) hx hb dL_isBelow_24 (by decide) ?_
      obtain ⟨eS, eo⟩ := Prod.mk.inj (Option.some.inj h)
      obtain ⟨eo, ev⟩ := Prod.mk.inj eo
      subst eS; subst eo
      exact g_iretV hQ hx hb hr hP hK hD hS (Nat.le_of_ble_eq_true rfl) (Nat.le_of_ble_eq_true rfl) dL_isBelow_25 hlocks ev
set_option maxHeartbeats 4000000 in
set_option maxRecDepth 100000 in
theorem m_L_liveBelow (l : Launch) (hst : l.stackTraces = false) (D : va_G) (cy : Nat → ClassId) (tx : List (ClassId × FieldType)) (ad : Nat → Nat) (qo : Nat) (R : va_W) (sz : Nat) (S : PS) (ov : (Nat → Int64)) (x1 : Int32) (S' : PS) (ov' : (Nat → Int64)) (k : Int32) (h : q_L_liveBelow S ov x1 = some (S', ov', k)) : gLi l yL_liveBelow wsL_liveBelow ({ frames := 8, cells := 1, slots := 6, locals := 126 }) 1 6 D (gT cy ++ tx) [.ref (ad 0), .int x1, .ref qo] sz (xW cy ad S ((qo, .inl (cy 33, 1, .inr (.inl ov))) :: R)) (xW cy ad S' ((qo, .inl (cy 33, 1, .inr (.inl ov'))) :: R)) k := by
  refine vx_ofWH (cc := cL_liveBelow) (maxL := 4) (ret := (some .int)) (hh := [(0, 9, 12, 13)]) (by decide) rfl ?_
  intro p e s m args below meth c s₁ B hml hv
  obtain ⟨hav, hsz, hP, hK, hD0, hE⟩ := hv
  have hx := B.exec
  have hb := B.bytes
  have hr := B.returns
  have hts := atoms_spec (ws := wsL_liveBelow) B.pre
  have hown : s.vm.findClass RL = some m.cls := findClass_of_methodNamed B.named
  have hlocks := B.notSynchronized
  have htab := vx_table (x := yL_liveBelow) B (hts _ (List.mem_cons_self))
  subst hsz
  have hD := hD0.self (sz := s.heap.size)
  generalize hAe : va_A (xW cy ad S ((qo, .inl (cy 33, 1, .inr (.inl ov))) :: R)) s.heap.size = A at hD hE ⊢
  have hA : ∀ q : Nat, s.heap.size ≤ q → A q := fun q h => by rw [← hAe]; exact Or.inr h
  have hS : va_S A s.heap s.heap [] := va_S.rf
  refine g_entry (n := 4) hav (Nat.le_of_ble_eq_true rfl) (fun ls hl => ?_)
  have hl : lv_has ls 4 [(0, .ref (ad 0)), (1, .int x1), (2, .ref qo)] := hl
  refine g_nameQ (fun Q hQ => ?_)
  unfold q_L_liveBelow at h
  refine lv_aload_n hx hb dL_liveBelow_0 rfl (lv_at hl 2 rfl) ?_
  refine lv_iconst (v := 0) hx hb dL_liveBelow_1 (by decide) ?_
  refine lv_aload_n hx hb dL_liveBelow_2 rfl (lv_at hl 0 rfl) ?_
  refine lv_iload_n hx hb dL_liveBelow_3 rfl (lv_at hl 1 rfl) ?_
  rcases x_catch h with ⟨e1, he, h⟩ | ⟨v, he, h⟩
  · refine g_tYi (As := [.int x1]) (rest := [.int 0, .ref qo]) ⟨hx, hb, hml, hown, hts⟩ (m_X5_liveBelow l hst D cy tx ad ((qo, .inl (cy 33, 1, .inr (.inl ov))) :: R) _ S x1 (.inl e1) he) (cwV 1 hts gL_liveBelow_X5_liveBelow rfl rfl rfl (by decide +kernel) ⟨Nat.le_of_ble_eq_true rfl, Nat.le_of_ble_eq_true rfl⟩) (va_recv hK hP (ci := 5) (q0 := 0) rfl rfl) hP hK hD hS hA hE rfl hl.1 rfl (Nat.le_of_ble_eq_true rfl) dL_liveBelow_4 ⟨Nat.le_of_ble_eq_true rfl, Nat.le_of_ble_eq_true rfl⟩ (fun ce q9 H locs hP hD hS hce hcv hcl => ?_)
    by_cases hk0 : e1 = 1
    · have h := o_pos hk0 h
      subst hk0
      refine vx_catch (name := exN 1) hown [] ⟨0, 9, 12, 13⟩ [] (by rw [htab]; rfl) (fun z hz => absurd hz List.not_mem_nil) (by decide) (by decide) (hts (.classLink RL 13 "java/lang/IndexOutOfBoundsException") (by decide +kernel)) (va_Nw.use rfl (hE.2.2.2.1 (.castable "java/lang/IndexOutOfBoundsException" "java/lang/IndexOutOfBoundsException") (by decide +kernel))) hce hcv hcl ?_
      refine lv_astore_n (lv' := [(3, .ref q9), (0, .ref (ad 0)), (1, .int x1), (2, .ref qo)]) hx hb dL_liveBelow_12 rfl hl (by decide) rfl (fun ls hl => ?_)
      refine lv_iconst (v := 1) hx hb dL_liveBelow_13 (by decide) ?_
      obtain ⟨eS, eo⟩ := Prod.mk.inj (Option.some.inj h)
      obtain ⟨eo, ev⟩ := Prod.mk.inj eo
      subst eS; subst eo
      exact g_iretV hQ hx hb hr hP hK hD hS (Nat.le_of_ble_eq_true rfl) (Nat.le_of_ble_eq_true rfl) dL_liveBelow_14 hlocks ev
    · have h := o_neg hk0 h
      cases h
  · refine g_rYi (As := [.int x1]) (rest := [.int 0, .ref qo]) ⟨hx, hb, hml, hown, hts⟩ (m_X5_liveBelow l hst D cy tx ad ((qo, .inl (cy 33, 1, .inr (.inl ov))) :: R) _ S x1 (.inr v) he) (cwV 1 hts gL_liveBelow_X5_liveBelow rfl rfl rfl (by decide +kernel) ⟨Nat.le_of_ble_eq_true rfl, Nat.le_of_ble_eq_true rfl⟩) (va_recv hK hP (ci := 5) (q0 := 0) rfl rfl) hP hK hD hS hA hE rfl hl.1 rfl (Nat.le_of_ble_eq_true rfl) dL_liveBelow_4 ⟨Nat.le_of_ble_eq_true rfl, Nat.le_of_ble_eq_true rfl⟩ (fun H locs hP hD hS => ?_)
    refine W.widen (k := 1) (n := 6) (Nat.le_of_ble_eq_true rfl) (Nat.le_of_ble_eq_true rfl) ?_
    refine lv_i2l (v := ((v : Int32).toInt64)) hx hb dL_liveBelow_7 rfl ?_
    obtain ⟨f1, ef1, h⟩ := o_bind h
    refine g_last hx hb hK hP hD hS 25 33 rfl rfl ef1 dL_liveBelow_8 (fun H locs hP hD hS => ?_)
    have hP : va_P D vwCl (xW cy ad S ((qo, .inl (cy 33, 1, .inr (.inl f1))) :: R)) H := hP
    have hD : va_D A (xW cy ad S ((qo, .inl (cy 33, 1, .inr (.inl f1))) :: R)) := hD
    refine lv_goto (tgt := 15) hx hb dL_liveBelow_9 (by decide) ?_
    refine lv_iconst (v := 0) hx hb dL_liveBelow_15 (by decide) ?_
    obtain ⟨eS, eo⟩ := Prod.mk.inj (Option.some.inj h)
    obtain ⟨eo, ev⟩ := Prod.mk.inj eo
    subst eS; subst eo
    exact g_iretV hQ hx hb hr hP hK hD hS (Nat.le_of_ble_eq_true rfl) (Nat.le_of_ble_eq_true rfl) dL_liveBelow_16 hlocks ev
set_option maxHeartbeats 4000000 in
set_option maxRecDepth 100000 in
theorem m_L_addMethod (l : Launch) (hst : l.stackTraces = false) (D : va_G) (cy : Nat → ClassId) (tx : List (ClassId × FieldType)) (ad : Nat → Nat) (qo : Nat) (R : va_W) (sz : Nat) (S : PS) (ov : (Nat → Int64)) (x1 : Int32) (x2 : Int32) (x3 : Int32) (S' : PS) (ov' : (Nat → Int64)) (k : Int32) (h : q_L_addMethod S ov x1 x2 x3 = some (S', ov', k)) : gLi l yL_addMethod wsL_addMethod ({ frames := 8, cells := 3, slots := 18, locals := 126 }) 3 18 D (gT cy ++ tx) [.ref (ad 0), .int x1, .int x2, .int x3, .ref qo] sz (xW cy ad S ((qo, .inl (cy 33, 1, .inr (.inl ov))) :: R)) (xW cy ad S' ((qo, .inl (cy 33, 1, .inr (.inl ov'))) :: R)) k := by
  refine vx_ofWH (cc := cL_addMethod) (maxL := 6) (ret := (some .int)) (hh := [(0, 12, 15, 13), (0, 12, 19, 35), (0, 12, 23, 15)]) (by decide) rfl ?_
  intro p e s m args below meth c s₁ B hml hv
  obtain ⟨hav, hsz, hP, hK, hD0, hE⟩ := hv
  have hx := B.exec
  have hb := B.bytes
  have hr := B.returns
  have hts := atoms_spec (ws := wsL_addMethod) B.pre
  have hown : s.vm.findClass RL = some m.cls := findClass_of_methodNamed B.named
  have hlocks := B.notSynchronized
  have htab := vx_table (x := yL_addMethod) B (hts _ (List.mem_cons_self))
  subst hsz
  have hD := hD0.self (sz := s.heap.size)
  generalize hAe : va_A (xW cy ad S ((qo, .inl (cy 33, 1, .inr (.inl ov))) :: R)) s.heap.size = A at hD hE ⊢
  have hA : ∀ q : Nat, s.heap.size ≤ q → A q := fun q h => by rw [← hAe]; exact Or.inr h
  have hS : va_S A s.heap s.heap [] := va_S.rf
  refine g_entry (n := 6) hav (Nat.le_of_ble_eq_true rfl) (fun ls hl => ?_)
  have hl : lv_has ls 6 [(0, .ref (ad 0)), (1, .int x1), (2, .int x2), (3, .int x3), (4, .ref qo)] := hl
  refine g_nameQ (fun Q hQ => ?_)
  unfold q_L_addMethod at h
  refine lv_aload hx hb dL_addMethod_0 (lv_at hl 4 rfl) ?_
  refine lv_iconst (v := 0) hx hb dL_addMethod_2 (by decide) ?_
  refine lv_aload_n hx hb dL_addMethod_3 rfl (lv_at hl 0 rfl) ?_
  refine lv_iload_n hx hb dL_addMethod_4 rfl (lv_at hl 1 rfl) ?_
  refine lv_iload_n hx hb dL_addMethod_5 rfl (lv_at hl 2 rfl) ?_
  refine lv_iload_n hx hb dL_addMethod_6 rfl (lv_at hl 3 rfl) ?_
  rcases x_catch h with ⟨e1, he, h⟩ | ⟨v, he, h⟩
  · refine g_tXi (As := [.int x1, .int x2, .int x3]) (rest := [.int 0, .ref qo]) ⟨hx, hb, hml, hown, hts⟩ (m_X5_addMethod l hst D cy tx ad ((qo, .inl (cy 33, 1, .inr (.inl ov))) :: R) _ S x1 x2 x3 (.inl e1) he) (cwV 3 hts gL_addMethod_X5_addMethod rfl rfl rfl (by decide +kernel) ⟨Nat.le_of_ble_eq_true rfl, Nat.le_of_ble_eq_true rfl⟩) (va_recv hK hP (ci := 5) (q0 := 0) rfl rfl) hP hK hD hS hA hE rfl hl.1 rfl (Nat.le_of_ble_eq_true rfl) dL_addMethod_7 ⟨Nat.le_of_ble_eq_true rfl, Nat.le_of_ble_eq_true rfl⟩ (fun ce q9 H locs hP hD hS hce hcv hcl => ?_)
    by_cases hk0 : e1 = 1
    · have h := o_pos hk0 h
      subst hk0
      refine vx_catch (name := exN 1) hown [] ⟨0, 12, 15, 13⟩ [⟨0, 12, 19, 35⟩, ⟨0, 12, 23, 15⟩] (by rw [htab]; rfl) (fun z hz => absurd hz List.not_mem_nil) (by decide) (by decide) (hts (.classLink RL 13 "java/lang/IndexOutOfBoundsException") (by decide +kernel)) (va_Nw.use rfl (hE.2.2.2.1 (.castable "java/lang/IndexOutOfBoundsException" "java/lang/IndexOutOfBoundsException") (by decide +kernel))) hce hcv hcl ?_
      refine lv_astore (lv' := [(5, .ref q9), (0, .ref (ad 0)), (1, .int x1), (2, .int x2), (3, .int x3), (4, .ref qo)]) hx hb dL_addMethod_15 hl (by decide) rfl (fun ls hl => ?_)
      refine lv_iconst (v := 1) hx hb dL_addMethod_17 (by decide) ?_
      obtain ⟨eS, eo⟩ := Prod.mk.inj (Option.some.inj h)
      obtain ⟨eo, ev⟩ := Prod.mk.inj eo
      subst eS; subst eo
      exact g_iretV hQ hx hb hr hP hK hD hS (Nat.le_of_ble_eq_true rfl) (Nat.le_of_ble_eq_true rfl) dL_addMethod_18 hlocks ev
    · have h := o_neg hk0 h
      by_cases hk1 : e1 = 3
      · have h := o_pos hk1 h
        subst hk1
        refine vx_catch (name := exN 3) hown [⟨0, 12, 15, 13⟩] ⟨0, 12, 19, 35⟩ [⟨0, 12, 23, 15⟩] (by rw [htab]; rfl) (fun z hz => by rw [List.mem_singleton.mp hz]; exact Or.inr ⟨by decide, exN 1, hts (.classLink RL 13 "java/lang/IndexOutOfBoundsException") (by decide +kernel), hE.2.2.2.2 3 1 (by decide) (by decide) (by decide)⟩) (by decide) (by decide) (hts (.classLink RL 35 "java/lang/IllegalArgumentException") (by decide +kernel)) (va_Nw.use rfl (hE.2.2.2.1 (.castable "java/lang/IllegalArgumentException" "java/lang/IllegalArgumentException") (by decide +kernel))) hce hcv hcl ?_
        refine lv_astore (lv' := [(5, .ref q9), (0, .ref (ad 0)), (1, .int x1), (2, .int x2), (3, .int x3), (4, .ref qo)]) hx hb dL_addMethod_19 hl (by decide) rfl (fun ls hl => ?_)
        refine lv_iconst (v := 2) hx hb dL_addMethod_21 (by decide) ?_
        obtain ⟨eS, eo⟩ := Prod.mk.inj (Option.some.inj h)
        obtain ⟨eo, ev⟩ := Prod.mk.inj eo
        subst eS; subst eo
        exact g_iretV hQ hx hb hr hP hK hD hS (Nat.le_of_ble_eq_true rfl) (Nat.le_of_ble_eq_true rfl) dL_addMethod_22 hlocks ev
      · have h := o_neg hk1 h
        by_cases hk2 : e1 = 2
        · have h := o_pos hk2 h
          subst hk2
          refine vx_catch (name := exN 2) hown [⟨0, 12, 15, 13⟩, ⟨0, 12, 19, 35⟩] ⟨0, 12, 23, 15⟩ [] (by rw [htab]; rfl) (fun z hz => by
          rcases List.mem_cons.mp hz with rfl | hz
          · exact Or.inr ⟨by decide, exN 1, hts (.classLink RL 13 "java/lang/IndexOutOfBoundsException") (by decide +kernel), hE.2.2.2.2 2 1 (by decide) (by decide) (by decide)⟩
          · rw [List.mem_singleton.mp hz]; exact Or.inr ⟨by decide, exN 3, hts (.classLink RL 35 "java/lang/IllegalArgumentException") (by decide +kernel), hE.2.2.2.2 2 3 (by decide) (by decide) (by decide)⟩) (by decide) (by decide) (hts (.classLink RL 15 "java/lang/IllegalStateException") (by decide +kernel)) (va_Nw.use rfl (hE.2.2.2.1 (.castable "java/lang/IllegalStateException" "java/lang/IllegalStateException") (by decide +kernel))) hce hcv hcl ?_
          refine lv_astore (lv' := [(5, .ref q9), (0, .ref (ad 0)), (1, .int x1), (2, .int x2), (3, .int x3), (4, .ref qo)]) hx hb dL_addMethod_23 hl (by decide) rfl (fun ls hl => ?_)
          refine lv_iconst (v := 3) hx hb dL_addMethod_25 (by decide) ?_
          obtain ⟨eS, eo⟩ := Prod.mk.inj (Option.some.inj h)
          obtain ⟨eo, ev⟩ := Prod.mk.inj eo
          subst eS; subst eo
          exact g_iretV hQ hx hb hr hP hK hD hS (Nat.le_of_ble_eq_true rfl) (Nat.le_of_ble_eq_true rfl) dL_addMethod_26 hlocks ev
        · have h := o_neg hk2 h
          cases h
  · obtain ⟨S1, v⟩ := v
    refine g_rXi (As := [.int x1, .int x2, .int x3]) (rest := [.int 0, .ref qo]) ⟨hx, hb, hml, hown, hts⟩ (m_X5_addMethod l hst D cy tx ad ((qo, .inl (cy 33, 1, .inr (.inl ov))) :: R) _ S x1 x2 x3 (.inr (S1, v)) he) (cwV 3 hts gL_addMethod_X5_addMethod rfl rfl rfl (by decide +kernel) ⟨Nat.le_of_ble_eq_true rfl, Nat.le_of_ble_eq_true rfl⟩) (va_recv hK hP (ci := 5) (q0 := 0) rfl rfl) hP hK hD hS hA hE rfl hl.1 rfl (Nat.le_of_ble_eq_true rfl) dL_addMethod_7 ⟨Nat.le_of_ble_eq_true rfl, Nat.le_of_ble_eq_true rfl⟩ (fun H locs hP hD hS => ?_)
    refine W.widen (k := 3) (n := 18) (Nat.le_of_ble_eq_true rfl) (Nat.le_of_ble_eq_true rfl) ?_
    refine lv_i2l (v := ((v : Int32).toInt64)) hx hb dL_addMethod_10 rfl ?_
    obtain ⟨f1, ef1, h⟩ := o_bind h
    refine g_last hx hb hK hP hD hS 25 33 rfl rfl ef1 dL_addMethod_11 (fun H locs hP hD hS => ?_)
    have hP : va_P D vwCl (xW cy ad S1 ((qo, .inl (cy 33, 1, .inr (.inl f1))) :: R)) H := hP
    have hD : va_D A (xW cy ad S1 ((qo, .inl (cy 33, 1, .inr (.inl f1))) :: R)) := hD
    refine lv_goto (tgt := 27) hx hb dL_addMethod_12 (by decide) ?_
    refine lv_iconst (v := 0) hx hb dL_addMethod_27 (by decide) ?_
    obtain ⟨eS, eo⟩ := Prod.mk.inj (Option.some.inj h)
    obtain ⟨eo, ev⟩ := Prod.mk.inj eo
    subst eS; subst eo
    exact g_iretV hQ hx hb hr hP hK hD hS (Nat.le_of_ble_eq_true rfl) (Nat.le_of_ble_eq_true rfl) dL_addMethod_28 hlocks ev
set_option maxHeartbeats 4000000 in
set_option maxRecDepth 100000 in
theorem m_L_addCall (l : Launch) (hst : l.stackTraces = false) (D : va_G) (cy : Nat → ClassId) (tx : List (ClassId × FieldType)) (ad : Nat → Nat) (qo : Nat) (R : va_W) (sz : Nat) (S : PS) (ov : (Nat → Int64)) (x1 : Int32) (x2 : Int32) (x3 : Int32) (x4 : Int32) (S' : PS) (ov' : (Nat → Int64)) (k : Int32) (h : q_L_addCall S ov x1 x2 x3 x4 = some (S', ov', k)) : gLi l yL_addCall wsL_addCall ({ frames := 8, cells := 4, slots := 24, locals := 127 }) 4 24 D (gT cy ++ tx) [.ref (ad 0), .int x1, .int x2, .int x3, .int x4, .ref qo] sz (xW cy ad S ((qo, .inl (cy 33, 1, .inr (.inl ov))) :: R)) (xW cy ad S' ((qo, .inl (cy 33, 1, .inr (.inl ov'))) :: R)) k := by
  refine vx_ofWH (cc := cL_addCall) (maxL := 7) (ret := (some .int)) (hh := [(0, 14, 17, 13), (0, 14, 21, 35), (0, 14, 25, 15)]) (by decide) rfl ?_
  intro p e s m args below meth c s₁ B hml hv
  obtain ⟨hav, hsz, hP, hK, hD0, hE⟩ := hv
  have hx := B.exec
  have hb := B.bytes
  have hr := B.returns
  have hts := atoms_spec (ws := wsL_addCall) B.pre
  have hown : s.vm.findClass RL = some m.cls := findClass_of_methodNamed B.named
  have hlocks := B.notSynchronized
  have htab := vx_table (x := yL_addCall) B (hts _ (List.mem_cons_self))
  subst hsz
  have hD := hD0.self (sz := s.heap.size)
  generalize hAe : va_A (xW cy ad S ((qo, .inl (cy 33, 1, .inr (.inl ov))) :: R)) s.heap.size = A at hD hE ⊢
  have hA : ∀ q : Nat, s.heap.size ≤ q → A q := fun q h => by rw [← hAe]; exact Or.inr h
  have hS : va_S A s.heap s.heap [] := va_S.rf
  refine g_entry (n := 7) hav (Nat.le_of_ble_eq_true rfl) (fun ls hl => ?_)
  have hl : lv_has ls 7 [(0, .ref (ad 0)), (1, .int x1), (2, .int x2), (3, .int x3), (4, .int x4), (5, .ref qo)] := hl
  refine g_nameQ (fun Q hQ => ?_)
  unfold q_L_addCall at h
  refine lv_aload hx hb dL_addCall_0 (lv_at hl 5 rfl) ?_
  refine lv_iconst (v := 0) hx hb dL_addCall_2 (by decide) ?_
  refine lv_aload_n hx hb dL_addCall_3 rfl (lv_at hl 0 rfl) ?_
  refine lv_iload_n hx hb dL_addCall_4 rfl (lv_at hl 1 rfl) ?_
  refine lv_iload_n hx hb dL_addCall_5 rfl (lv_at hl 2 rfl) ?_
  refine lv_iload_n hx hb dL_addCall_6 rfl (lv_at hl 3 rfl) ?_
  refine lv_iload hx hb dL_addCall_7 (lv_at hl 4 rfl) ?_
  rcases x_catch h with ⟨e1, he, h⟩ | ⟨v, he, h⟩
  · refine g_tXi (As := [.int x1, .int x2, .int x3, .int x4]) (rest := [.int 0, .ref qo]) ⟨hx, hb, hml, hown, hts⟩ (m_X5_addCall l hst D cy tx ad ((qo, .inl (cy 33, 1, .inr (.inl ov))) :: R) _ S x1 x2 x3 x4 (.inl e1) he) (cwV 4 hts gL_addCall_X5_addCall rfl rfl rfl (by decide +kernel) ⟨Nat.le_of_ble_eq_true rfl, Nat.le_of_ble_eq_true rfl⟩) (va_recv hK hP (ci := 5) (q0 := 0) rfl rfl) hP hK hD hS hA hE rfl hl.1 rfl (Nat.le_of_ble_eq_true rfl) dL_addCall_9 ⟨Nat.le_of_ble_eq_true rfl, Nat.le_of_ble_eq_true rfl⟩ (fun ce q9 H locs hP hD hS hce hcv hcl => ?_)
    by_cases hk0 : e1 = 1
    · have h := o_pos hk0 h
      subst hk0
      refine vx_catch (name := exN 1) hown [] ⟨0, 14, 17, 13⟩ [⟨0, 14, 21, 35⟩, ⟨0, 14, 25, 15⟩] (by rw [htab]; rfl) (fun z hz => absurd hz List.not_mem_nil) (by decide) (by decide) (hts (.classLink RL 13 "java/lang/IndexOutOfBoundsException") (by decide +kernel)) (va_Nw.use rfl (hE.2.2.2.1 (.castable "java/lang/IndexOutOfBoundsException" "java/lang/IndexOutOfBoundsException") (by decide +kernel))) hce hcv hcl ?_
      refine lv_astore (lv' := [(6, .ref q9), (0, .ref (ad 0)), (1, .int x1), (2, .int x2), (3, .int x3), (4, .int x4), (5, .ref qo)]) hx hb dL_addCall_17 hl (by decide) rfl (fun ls hl => ?_)
      refine lv_iconst (v := 1) hx hb dL_addCall_19 (by decide) ?_
      obtain ⟨eS, eo⟩ := Prod.mk.inj (Option.some.inj h)
      obtain ⟨eo, ev⟩ := Prod.mk.inj eo
      subst eS; subst eo
      exact g_iretV hQ hx hb hr hP hK hD hS (Nat.le_of_ble_eq_true rfl) (Nat.le_of_ble_eq_true rfl) dL_addCall_20 hlocks ev
    · have h := o_neg hk0 h
      by_cases hk1 : e1 = 3
      · have h := o_pos hk1 h
        subst hk1
        refine vx_catch (name := exN 3) hown [⟨0, 14, 17, 13⟩] ⟨0, 14, 21, 35⟩ [⟨0, 14, 25, 15⟩] (by rw [htab]; rfl) (fun z hz => by rw [List.mem_singleton.mp hz]; exact Or.inr ⟨by decide, exN 1, hts (.classLink RL 13 "java/lang/IndexOutOfBoundsException") (by decide +kernel), hE.2.2.2.2 3 1 (by decide) (by decide) (by decide)⟩) (by decide) (by decide) (hts (.classLink RL 35 "java/lang/IllegalArgumentException") (by decide +kernel)) (va_Nw.use rfl (hE.2.2.2.1 (.castable "java/lang/IllegalArgumentException" "java/lang/IllegalArgumentException") (by decide +kernel))) hce hcv hcl ?_
        refine lv_astore (lv' := [(6, .ref q9), (0, .ref (ad 0)), (1, .int x1), (2, .int x2), (3, .int x3), (4, .int x4), (5, .ref qo)]) hx hb dL_addCall_21 hl (by decide) rfl (fun ls hl => ?_)
        refine lv_iconst (v := 2) hx hb dL_addCall_23 (by decide) ?_
        obtain ⟨eS, eo⟩ := Prod.mk.inj (Option.some.inj h)
        obtain ⟨eo, ev⟩ := Prod.mk.inj eo
        subst eS; subst eo
        exact g_iretV hQ hx hb hr hP hK hD hS (Nat.le_of_ble_eq_true rfl) (Nat.le_of_ble_eq_true rfl) dL_addCall_24 hlocks ev
      · have h := o_neg hk1 h
        by_cases hk2 : e1 = 2
        · have h := o_pos hk2 h
          subst hk2
          refine vx_catch (name := exN 2) hown [⟨0, 14, 17, 13⟩, ⟨0, 14, 21, 35⟩] ⟨0, 14, 25, 15⟩ [] (by rw [htab]; rfl) (fun z hz => by
          rcases List.mem_cons.mp hz with rfl | hz
          · exact Or.inr ⟨by decide, exN 1, hts (.classLink RL 13 "java/lang/IndexOutOfBoundsException") (by decide +kernel), hE.2.2.2.2 2 1 (by decide) (by decide) (by decide)⟩
          · rw [List.mem_singleton.mp hz]; exact Or.inr ⟨by decide, exN 3, hts (.classLink RL 35 "java/lang/IllegalArgumentException") (by decide +kernel), hE.2.2.2.2 2 3 (by decide) (by decide) (by decide)⟩) (by decide) (by decide) (hts (.classLink RL 15 "java/lang/IllegalStateException") (by decide +kernel)) (va_Nw.use rfl (hE.2.2.2.1 (.castable "java/lang/IllegalStateException" "java/lang/IllegalStateException") (by decide +kernel))) hce hcv hcl ?_
          refine lv_astore (lv' := [(6, .ref q9), (0, .ref (ad 0)), (1, .int x1), (2, .int x2), (3, .int x3), (4, .int x4), (5, .ref qo)]) hx hb dL_addCall_25 hl (by decide) rfl (fun ls hl => ?_)
          refine lv_iconst (v := 3) hx hb dL_addCall_27 (by decide) ?_
          obtain ⟨eS, eo⟩ := Prod.mk.inj (Option.some.inj h)
          obtain ⟨eo, ev⟩ := Prod.mk.inj eo
          subst eS; subst eo
          exact g_iretV hQ hx hb hr hP hK hD hS (Nat.le_of_ble_eq_true rfl) (Nat.le_of_ble_eq_true rfl) dL_addCall_28 hlocks ev
        · have h := o_neg hk2 h
          cases h
  · obtain ⟨S1, v⟩ := v
    refine g_rXi (As := [.int x1, .int x2, .int x3, .int x4]) (rest := [.int 0, .ref qo]) ⟨hx, hb, hml, hown, hts⟩ (m_X5_addCall l hst D cy tx ad ((qo, .inl (cy 33, 1, .inr (.inl ov))) :: R) _ S x1 x2 x3 x4 (.inr (S1, v)) he) (cwV 4 hts gL_addCall_X5_addCall rfl rfl rfl (by decide +kernel) ⟨Nat.le_of_ble_eq_true rfl, Nat.le_of_ble_eq_true rfl⟩) (va_recv hK hP (ci := 5) (q0 := 0) rfl rfl) hP hK hD hS hA hE rfl hl.1 rfl (Nat.le_of_ble_eq_true rfl) dL_addCall_9 ⟨Nat.le_of_ble_eq_true rfl, Nat.le_of_ble_eq_true rfl⟩ (fun H locs hP hD hS => ?_)
    refine W.widen (k := 4) (n := 24) (Nat.le_of_ble_eq_true rfl) (Nat.le_of_ble_eq_true rfl) ?_
    refine lv_i2l (v := ((v : Int32).toInt64)) hx hb dL_addCall_12 rfl ?_
    obtain ⟨f1, ef1, h⟩ := o_bind h
    refine g_last hx hb hK hP hD hS 25 33 rfl rfl ef1 dL_addCall_13 (fun H locs hP hD hS => ?_)
    have hP : va_P D vwCl (xW cy ad S1 ((qo, .inl (cy 33, 1, .inr (.inl f1))) :: R)) H := hP
    have hD : va_D A (xW cy ad S1 ((qo, .inl (cy 33, 1, .inr (.inl f1))) :: R)) := hD
    refine lv_goto (tgt := 29) hx hb dL_addCall_14 (by decide) ?_
    refine lv_iconst (v := 0) hx hb dL_addCall_29 (by decide) ?_
    obtain ⟨eS, eo⟩ := Prod.mk.inj (Option.some.inj h)
    obtain ⟨eo, ev⟩ := Prod.mk.inj eo
    subst eS; subst eo
    exact g_iretV hQ hx hb hr hP hK hD hS (Nat.le_of_ble_eq_true rfl) (Nat.le_of_ble_eq_true rfl) dL_addCall_30 hlocks ev
set_option maxHeartbeats 4000000 in
set_option maxRecDepth 100000 in
theorem m_L_found (l : Launch) (hst : l.stackTraces = false) (D : va_G) (cy : Nat → ClassId) (tx : List (ClassId × FieldType)) (ad : Nat → Nat) (qo : Nat) (R : va_W) (sz : Nat) (S : PS) (ov : (Nat → Int64)) (x1 : Int32) (x2 : Int32) (S' : PS) (ov' : (Nat → Int64)) (k : Int32) (h : q_L_found S ov x1 x2 = some (S', ov', k)) : gLi l yL_found wsL_found ({ frames := 8, cells := 2, slots := 12, locals := 125 }) 2 12 D (gT cy ++ tx) [.ref (ad 0), .int x1, .int x2, .ref qo] sz (xW cy ad S ((qo, .inl (cy 33, 1, .inr (.inl ov))) :: R)) (xW cy ad S' ((qo, .inl (cy 33, 1, .inr (.inl ov'))) :: R)) k := by
  refine vx_ofWH (cc := cL_found) (maxL := 5) (ret := (some .int)) (hh := [(0, 10, 13, 13)]) (by decide) rfl ?_
  intro p e s m args below meth c s₁ B hml hv
  obtain ⟨hav, hsz, hP, hK, hD0, hE⟩ := hv
  have hx := B.exec
  have hb := B.bytes
  have hr := B.returns
  have hts := atoms_spec (ws := wsL_found) B.pre
  have hown : s.vm.findClass RL = some m.cls := findClass_of_methodNamed B.named
  have hlocks := B.notSynchronized
  have htab := vx_table (x := yL_found) B (hts _ (List.mem_cons_self))
  subst hsz
  have hD := hD0.self (sz := s.heap.size)
  generalize hAe : va_A (xW cy ad S ((qo, .inl (cy 33, 1, .inr (.inl ov))) :: R)) s.heap.size = A at hD hE ⊢
  have hA : ∀ q : Nat, s.heap.size ≤ q → A q := fun q h => by rw [← hAe]; exact Or.inr h
  have hS : va_S A s.heap s.heap [] := va_S.rf
  refine g_entry (n := 5) hav (Nat.le_of_ble_eq_true rfl) (fun ls hl => ?_)
  have hl : lv_has ls 5 [(0, .ref (ad 0)), (1, .int x1), (2, .int x2), (3, .ref qo)] := hl
  refine g_nameQ (fun Q hQ => ?_)
  unfold q_L_found at h
  refine lv_aload_n hx hb dL_found_0 rfl (lv_at hl 3 rfl) ?_
  refine lv_iconst (v := 0) hx hb dL_found_1 (by decide) ?_
  refine lv_aload_n hx hb dL_found_2 rfl (lv_at hl 0 rfl) ?_
  refine lv_iload_n hx hb dL_found_3 rfl (lv_at hl 1 rfl) ?_
  refine lv_iload_n hx hb dL_found_4 rfl (lv_at hl 2 rfl) ?_
  rcases x_catch h with ⟨e1, he, h⟩ | ⟨v, he, h⟩
  · refine g_tYi (As := [.int x1, .int x2]) (rest := [.int 0, .ref qo]) ⟨hx, hb, hml, hown, hts⟩ (m_X5_found l hst D cy tx ad ((qo, .inl (cy 33, 1, .inr (.inl ov))) :: R) _ S x1 x2 (.inl e1) he) (cwV 2 hts gL_found_X5_found rfl rfl rfl (by decide +kernel) ⟨Nat.le_of_ble_eq_true rfl, Nat.le_of_ble_eq_true rfl⟩) (va_recv hK hP (ci := 5) (q0 := 0) rfl rfl) hP hK hD hS hA hE rfl hl.1 rfl (Nat.le_of_ble_eq_true rfl) dL_found_5 ⟨Nat.le_of_ble_eq_true rfl, Nat.le_of_ble_eq_true rfl⟩ (fun ce q9 H locs hP hD hS hce hcv hcl => ?_)
    by_cases hk0 : e1 = 1
    · have h := o_pos hk0 h
      subst hk0
      refine vx_catch (name := exN 1) hown [] ⟨0, 10, 13, 13⟩ [] (by rw [htab]; rfl) (fun z hz => absurd hz List.not_mem_nil) (by decide) (by decide) (hts (.classLink RL 13 "java/lang/IndexOutOfBoundsException") (by decide +kernel)) (va_Nw.use rfl (hE.2.2.2.1 (.castable "java/lang/IndexOutOfBoundsException" "java/lang/IndexOutOfBoundsException") (by decide +kernel))) hce hcv hcl ?_
      refine lv_astore (lv' := [(4, .ref q9), (0, .ref (ad 0)), (1, .int x1), (2, .int x2), (3, .ref qo)]) hx hb dL_found_13 hl (by decide) rfl (fun ls hl => ?_)
      refine lv_iconst (v := 1) hx hb dL_found_15 (by decide) ?_
      obtain ⟨eS, eo⟩ := Prod.mk.inj (Option.some.inj h)
      obtain ⟨eo, ev⟩ := Prod.mk.inj eo
      subst eS; subst eo
      exact g_iretV hQ hx hb hr hP hK hD hS (Nat.le_of_ble_eq_true rfl) (Nat.le_of_ble_eq_true rfl) dL_found_16 hlocks ev
    · have h := o_neg hk0 h
      cases h
  · refine g_rYi (As := [.int x1, .int x2]) (rest := [.int 0, .ref qo]) ⟨hx, hb, hml, hown, hts⟩ (m_X5_found l hst D cy tx ad ((qo, .inl (cy 33, 1, .inr (.inl ov))) :: R) _ S x1 x2 (.inr v) he) (cwV 2 hts gL_found_X5_found rfl rfl rfl (by decide +kernel) ⟨Nat.le_of_ble_eq_true rfl, Nat.le_of_ble_eq_true rfl⟩) (va_recv hK hP (ci := 5) (q0 := 0) rfl rfl) hP hK hD hS hA hE rfl hl.1 rfl (Nat.le_of_ble_eq_true rfl) dL_found_5 ⟨Nat.le_of_ble_eq_true rfl, Nat.le_of_ble_eq_true rfl⟩ (fun H locs hP hD hS => ?_)
    refine W.widen (k := 2) (n := 12) (Nat.le_of_ble_eq_true rfl) (Nat.le_of_ble_eq_true rfl) ?_
    refine lv_i2l (v := ((v : Int32).toInt64)) hx hb dL_found_8 rfl ?_
    obtain ⟨f1, ef1, h⟩ := o_bind h
    refine g_last hx hb hK hP hD hS 25 33 rfl rfl ef1 dL_found_9 (fun H locs hP hD hS => ?_)
    have hP : va_P D vwCl (xW cy ad S ((qo, .inl (cy 33, 1, .inr (.inl f1))) :: R)) H := hP
    have hD : va_D A (xW cy ad S ((qo, .inl (cy 33, 1, .inr (.inl f1))) :: R)) := hD
    refine lv_goto (tgt := 17) hx hb dL_found_10 (by decide) ?_
    refine lv_iconst (v := 0) hx hb dL_found_17 (by decide) ?_
    obtain ⟨eS, eo⟩ := Prod.mk.inj (Option.some.inj h)
    obtain ⟨eo, ev⟩ := Prod.mk.inj eo
    subst eS; subst eo
    exact g_iretV hQ hx hb hr hP hK hD hS (Nat.le_of_ble_eq_true rfl) (Nat.le_of_ble_eq_true rfl) dL_found_18 hlocks ev
set_option maxHeartbeats 4000000 in
set_option maxRecDepth 100000 in
theorem m_L_targetCount (l : Launch) (hst : l.stackTraces = false) (D : va_G) (cy : Nat → ClassId) (tx : List (ClassId × FieldType)) (ad : Nat → Nat) (qo : Nat) (R : va_W) (sz : Nat) (S : PS) (ov : (Nat → Int64)) (x1 : Int32) (x2 : Int32) (S' : PS) (ov' : (Nat → Int64)) (k : Int32) (h : q_L_targetCount S ov x1 x2 = some (S', ov', k)) : gLi l yL_targetCount wsL_targetCount ({ frames := 8, cells := 2, slots := 12, locals := 125 }) 2 12 D (gT cy ++ tx) [.ref (ad 0), .int x1, .int x2, .ref qo] sz (xW cy ad S ((qo, .inl (cy 33, 1, .inr (.inl ov))) :: R)) (xW cy ad S' ((qo, .inl (cy 33, 1, .inr (.inl ov'))) :: R)) k := by
  refine vx_ofWH (cc := cL_targetCount) (maxL := 5) (ret := (some .int)) (hh := [(0, 10, 13, 13)]) (by decide) rfl ?_
  intro p e s m args below meth c s₁ B hml hv
  obtain ⟨hav, hsz, hP, hK, hD0, hE⟩ := hv
  have hx := B.exec
  have hb := B.bytes
  have hr := B.returns
  have hts := atoms_spec (ws := wsL_targetCount) B.pre
  have hown : s.vm.findClass RL = some m.cls := findClass_of_methodNamed B.named
  have hlocks := B.notSynchronized
  have htab := vx_table (x := yL_targetCount) B (hts _ (List.mem_cons_self))
  subst hsz
  have hD := hD0.self (sz := s.heap.size)
  generalize hAe : va_A (xW cy ad S ((qo, .inl (cy 33, 1, .inr (.inl ov))) :: R)) s.heap.size = A at hD hE ⊢
  have hA : ∀ q : Nat, s.heap.size ≤ q → A q := fun q h => by rw [← hAe]; exact Or.inr h
  have hS : va_S A s.heap s.heap [] := va_S.rf
  refine g_entry (n := 5) hav (Nat.le_of_ble_eq_true rfl) (fun ls hl => ?_)
  have hl : lv_has ls 5 [(0, .ref (ad 0)), (1, .int x1), (2, .int x2), (3, .ref qo)] := hl
  refine g_nameQ (fun Q hQ => ?_)
  unfold q_L_targetCount at h
  refine lv_aload_n hx hb dL_targetCount_0 rfl (lv_at hl 3 rfl) ?_
  refine lv_iconst (v := 0) hx hb dL_targetCount_1 (by decide) ?_
  refine lv_aload_n hx hb dL_targetCount_2 rfl (lv_at hl 0 rfl) ?_
  refine lv_iload_n hx hb dL_targetCount_3 rfl (lv_at hl 1 rfl) ?_
  refine lv_iload_n hx hb dL_targetCount_4 rfl (lv_at hl 2 rfl) ?_
  rcases x_catch h with ⟨e1, he, h⟩ | ⟨v, he, h⟩
  · refine g_tYi (As := [.int x1, .int x2]) (rest := [.int 0, .ref qo]) ⟨hx, hb, hml, hown, hts⟩ (m_X5_targetCount l hst D cy tx ad ((qo, .inl (cy 33, 1, .inr (.inl ov))) :: R) _ S x1 x2 (.inl e1) he) (cwV 2 hts gL_targetCount_X5_targetCount rfl rfl rfl (by decide +kernel) ⟨Nat.le_of_ble_eq_true rfl, Nat.le_of_ble_eq_true rfl⟩) (va_recv hK hP (ci := 5) (q0 := 0) rfl rfl) hP hK hD hS hA hE rfl hl.1 rfl (Nat.le_of_ble_eq_true rfl) dL_targetCount_5 ⟨Nat.le_of_ble_eq_true rfl, Nat.le_of_ble_eq_true rfl⟩ (fun ce q9 H locs hP hD hS hce hcv hcl => ?_)
    by_cases hk0 : e1 = 1
    · have h := o_pos hk0 h
      subst hk0
      refine vx_catch (name := exN 1) hown [] ⟨0, 10, 13, 13⟩ [] (by rw [htab]; rfl) (fun z hz => absurd hz List.not_mem_nil) (by decide) (by decide) (hts (.classLink RL 13 "java/lang/IndexOutOfBoundsException") (by decide +kernel)) (va_Nw.use rfl (hE.2.2.2.1 (.castable "java/lang/IndexOutOfBoundsException" "java/lang/IndexOutOfBoundsException") (by decide +kernel))) hce hcv hcl ?_
      refine lv_astore (lv' := [(4, .ref q9), (0, .ref (ad 0)), (1, .int x1), (2, .int x2), (3, .ref qo)]) hx hb dL_targetCount_13 hl (by decide) rfl (fun ls hl => ?_)
      refine lv_iconst (v := 1) hx hb dL_targetCount_15 (by decide) ?_
      obtain ⟨eS, eo⟩ := Prod.mk.inj (Option.some.inj h)
      obtain ⟨eo, ev⟩ := Prod.mk.inj eo
      subst eS; subst eo
      exact g_iretV hQ hx hb hr hP hK hD hS (Nat.le_of_ble_eq_true rfl) (Nat.le_of_ble_eq_true rfl) dL_targetCount_16 hlocks ev
    · have h := o_neg hk0 h
      cases h
  · refine g_rYi (As := [.int x1, .int x2]) (rest := [.int 0, .ref qo]) ⟨hx, hb, hml, hown, hts⟩ (m_X5_targetCount l hst D cy tx ad ((qo, .inl (cy 33, 1, .inr (.inl ov))) :: R) _ S x1 x2 (.inr v) he) (cwV 2 hts gL_targetCount_X5_targetCount rfl rfl rfl (by decide +kernel) ⟨Nat.le_of_ble_eq_true rfl, Nat.le_of_ble_eq_true rfl⟩) (va_recv hK hP (ci := 5) (q0 := 0) rfl rfl) hP hK hD hS hA hE rfl hl.1 rfl (Nat.le_of_ble_eq_true rfl) dL_targetCount_5 ⟨Nat.le_of_ble_eq_true rfl, Nat.le_of_ble_eq_true rfl⟩ (fun H locs hP hD hS => ?_)
    refine W.widen (k := 2) (n := 12) (Nat.le_of_ble_eq_true rfl) (Nat.le_of_ble_eq_true rfl) ?_
    refine lv_i2l (v := ((v : Int32).toInt64)) hx hb dL_targetCount_8 rfl ?_
    obtain ⟨f1, ef1, h⟩ := o_bind h
    refine g_last hx hb hK hP hD hS 25 33 rfl rfl ef1 dL_targetCount_9 (fun H locs hP hD hS => ?_)
    have hP : va_P D vwCl (xW cy ad S ((qo, .inl (cy 33, 1, .inr (.inl f1))) :: R)) H := hP
    have hD : va_D A (xW cy ad S ((qo, .inl (cy 33, 1, .inr (.inl f1))) :: R)) := hD
    refine lv_goto (tgt := 17) hx hb dL_targetCount_10 (by decide) ?_
    refine lv_iconst (v := 0) hx hb dL_targetCount_17 (by decide) ?_
    obtain ⟨eS, eo⟩ := Prod.mk.inj (Option.some.inj h)
    obtain ⟨eo, ev⟩ := Prod.mk.inj eo
    subst eS; subst eo
    exact g_iretV hQ hx hb hr hP hK hD hS (Nat.le_of_ble_eq_true rfl) (Nat.le_of_ble_eq_true rfl) dL_targetCount_18 hlocks ev
set_option maxHeartbeats 4000000 in
set_option maxRecDepth 100000 in
theorem m_L_target (l : Launch) (hst : l.stackTraces = false) (D : va_G) (cy : Nat → ClassId) (tx : List (ClassId × FieldType)) (ad : Nat → Nat) (qo : Nat) (R : va_W) (sz : Nat) (S : PS) (ov : (Nat → Int64)) (x1 : Int32) (x2 : Int32) (x3 : Int32) (S' : PS) (ov' : (Nat → Int64)) (k : Int32) (h : q_L_target S ov x1 x2 x3 = some (S', ov', k)) : gLi l yL_target wsL_target ({ frames := 8, cells := 3, slots := 18, locals := 127 }) 3 18 D (gT cy ++ tx) [.ref (ad 0), .int x1, .int x2, .int x3, .ref qo] sz (xW cy ad S ((qo, .inl (cy 33, 1, .inr (.inl ov))) :: R)) (xW cy ad S' ((qo, .inl (cy 33, 1, .inr (.inl ov'))) :: R)) k := by
  refine vx_ofWH (cc := cL_target) (maxL := 6) (ret := (some .int)) (hh := [(0, 12, 15, 13), (0, 12, 19, 51)]) (by decide) rfl ?_
  intro p e s m args below meth c s₁ B hml hv
  obtain ⟨hav, hsz, hP, hK, hD0, hE⟩ := hv
  have hx := B.exec
  have hb := B.bytes
  have hr := B.returns
  have hts := atoms_spec (ws := wsL_target) B.pre
  have hown : s.vm.findClass RL = some m.cls := findClass_of_methodNamed B.named
  have hlocks := B.notSynchronized
  have htab := vx_table (x := yL_target) B (hts _ (List.mem_cons_self))
  subst hsz
  have hD := hD0.self (sz := s.heap.size)
  generalize hAe : va_A (xW cy ad S ((qo, .inl (cy 33, 1, .inr (.inl ov))) :: R)) s.heap.size = A at hD hE ⊢
  have hA : ∀ q : Nat, s.heap.size ≤ q → A q := fun q h => by rw [← hAe]; exact Or.inr h
  have hS : va_S A s.heap s.heap [] := va_S.rf
  refine g_entry (n := 6) hav (Nat.le_of_ble_eq_true rfl) (fun ls hl => ?_)
  have hl : lv_has ls 6 [(0, .ref (ad 0)), (1, .int x1), (2, .int x2), (3, .int x3), (4, .ref qo)] := hl
  refine g_nameQ (fun Q hQ => ?_)
  unfold q_L_target at h
  refine lv_aload hx hb dL_target_0 (lv_at hl 4 rfl) ?_
  refine lv_iconst (v := 0) hx hb dL_target_2 (by decide) ?_
  refine lv_aload_n hx hb dL_target_3 rfl (lv_at hl 0 rfl) ?_
  refine lv_iload_n hx hb dL_target_4 rfl (lv_at hl 1 rfl) ?_
  refine lv_iload_n hx hb dL_target_5 rfl (lv_at hl 2 rfl) ?_
  refine lv_iload_n hx hb dL_target_6 rfl (lv_at hl 3 rfl) ?_
  rcases x_catch h with ⟨e1, he, h⟩ | ⟨v, he, h⟩
  · refine g_tYi (As := [.int x1, .int x2, .int x3]) (rest := [.int 0, .ref qo]) ⟨hx, hb, hml, hown, hts⟩ (m_X5_target l hst D cy tx ad ((qo, .inl (cy 33, 1, .inr (.inl ov))) :: R) _ S x1 x2 x3 (.inl e1) he) (cwV 3 hts gL_target_X5_target rfl rfl rfl (by decide +kernel) ⟨Nat.le_of_ble_eq_true rfl, Nat.le_of_ble_eq_true rfl⟩) (va_recv hK hP (ci := 5) (q0 := 0) rfl rfl) hP hK hD hS hA hE rfl hl.1 rfl (Nat.le_of_ble_eq_true rfl) dL_target_7 ⟨Nat.le_of_ble_eq_true rfl, Nat.le_of_ble_eq_true rfl⟩ (fun ce q9 H locs hP hD hS hce hcv hcl => ?_)
    by_cases hk0 : e1 = 1
    · have h := o_pos hk0 h
      subst hk0
      refine vx_catch (name := exN 1) hown [] ⟨0, 12, 15, 13⟩ [⟨0, 12, 19, 51⟩] (by rw [htab]; rfl) (fun z hz => absurd hz List.not_mem_nil) (by decide) (by decide) (hts (.classLink RL 13 "java/lang/IndexOutOfBoundsException") (by decide +kernel)) (va_Nw.use rfl (hE.2.2.2.1 (.castable "java/lang/IndexOutOfBoundsException" "java/lang/IndexOutOfBoundsException") (by decide +kernel))) hce hcv hcl ?_
      refine lv_astore (lv' := [(5, .ref q9), (0, .ref (ad 0)), (1, .int x1), (2, .int x2), (3, .int x3), (4, .ref qo)]) hx hb dL_target_15 hl (by decide) rfl (fun ls hl => ?_)
      refine lv_iconst (v := 1) hx hb dL_target_17 (by decide) ?_
      obtain ⟨eS, eo⟩ := Prod.mk.inj (Option.some.inj h)
      obtain ⟨eo, ev⟩ := Prod.mk.inj eo
      subst eS; subst eo
      exact g_iretV hQ hx hb hr hP hK hD hS (Nat.le_of_ble_eq_true rfl) (Nat.le_of_ble_eq_true rfl) dL_target_18 hlocks ev
    · have h := o_neg hk0 h
      by_cases hk1 : e1 = 4
      · have h := o_pos hk1 h
        subst hk1
        refine vx_catch (name := exN 4) hown [⟨0, 12, 15, 13⟩] ⟨0, 12, 19, 51⟩ [] (by rw [htab]; rfl) (fun z hz => by rw [List.mem_singleton.mp hz]; exact Or.inr ⟨by decide, exN 1, hts (.classLink RL 13 "java/lang/IndexOutOfBoundsException") (by decide +kernel), hE.2.2.2.2 4 1 (by decide) (by decide) (by decide)⟩) (by decide) (by decide) (hts (.classLink RL 51 "java/util/NoSuchElementException") (by decide +kernel)) (va_Nw.use rfl (hE.2.2.2.1 (.castable "java/util/NoSuchElementException" "java/util/NoSuchElementException") (by decide +kernel))) hce hcv hcl ?_
        refine lv_astore (lv' := [(5, .ref q9), (0, .ref (ad 0)), (1, .int x1), (2, .int x2), (3, .int x3), (4, .ref qo)]) hx hb dL_target_19 hl (by decide) rfl (fun ls hl => ?_)
        refine lv_iconst (v := 2) hx hb dL_target_21 (by decide) ?_
        obtain ⟨eS, eo⟩ := Prod.mk.inj (Option.some.inj h)
        obtain ⟨eo, ev⟩ := Prod.mk.inj eo
        subst eS; subst eo
        exact g_iretV hQ hx hb hr hP hK hD hS (Nat.le_of_ble_eq_true rfl) (Nat.le_of_ble_eq_true rfl) dL_target_22 hlocks ev
      · have h := o_neg hk1 h
        cases h
  · refine g_rYi (As := [.int x1, .int x2, .int x3]) (rest := [.int 0, .ref qo]) ⟨hx, hb, hml, hown, hts⟩ (m_X5_target l hst D cy tx ad ((qo, .inl (cy 33, 1, .inr (.inl ov))) :: R) _ S x1 x2 x3 (.inr v) he) (cwV 3 hts gL_target_X5_target rfl rfl rfl (by decide +kernel) ⟨Nat.le_of_ble_eq_true rfl, Nat.le_of_ble_eq_true rfl⟩) (va_recv hK hP (ci := 5) (q0 := 0) rfl rfl) hP hK hD hS hA hE rfl hl.1 rfl (Nat.le_of_ble_eq_true rfl) dL_target_7 ⟨Nat.le_of_ble_eq_true rfl, Nat.le_of_ble_eq_true rfl⟩ (fun H locs hP hD hS => ?_)
    refine W.widen (k := 3) (n := 18) (Nat.le_of_ble_eq_true rfl) (Nat.le_of_ble_eq_true rfl) ?_
    refine lv_i2l (v := ((v : Int32).toInt64)) hx hb dL_target_10 rfl ?_
    obtain ⟨f1, ef1, h⟩ := o_bind h
    refine g_last hx hb hK hP hD hS 25 33 rfl rfl ef1 dL_target_11 (fun H locs hP hD hS => ?_)
    have hP : va_P D vwCl (xW cy ad S ((qo, .inl (cy 33, 1, .inr (.inl f1))) :: R)) H := hP
    have hD : va_D A (xW cy ad S ((qo, .inl (cy 33, 1, .inr (.inl f1))) :: R)) := hD
    refine lv_goto (tgt := 23) hx hb dL_target_12 (by decide) ?_
    refine lv_iconst (v := 0) hx hb dL_target_23 (by decide) ?_
    obtain ⟨eS, eo⟩ := Prod.mk.inj (Option.some.inj h)
    obtain ⟨eo, ev⟩ := Prod.mk.inj eo
    subst eS; subst eo
    exact g_iretV hQ hx hb hr hP hK hD hS (Nat.le_of_ble_eq_true rfl) (Nat.le_of_ble_eq_true rfl) dL_target_24 hlocks ev
set_option maxHeartbeats 4000000 in
set_option maxRecDepth 100000 in
theorem m_L_reached (l : Launch) (hst : l.stackTraces = false) (D : va_G) (cy : Nat → ClassId) (tx : List (ClassId × FieldType)) (ad : Nat → Nat) (qo : Nat) (R : va_W) (sz : Nat) (S : PS) (ov : (Nat → Int64)) (x1 : Int32) (S' : PS) (ov' : (Nat → Int64)) (k : Int32) (h : q_L_reached S ov x1 = some (S', ov', k)) : gLi l yL_reached wsL_reached ({ frames := 8, cells := 1, slots := 6, locals := 142 }) 1 6 D (gT cy ++ tx) [.ref (ad 0), .int x1, .ref qo] sz (xW cy ad S ((qo, .inl (cy 33, 1, .inr (.inl ov))) :: R)) (xW cy ad S' ((qo, .inl (cy 33, 1, .inr (.inl ov'))) :: R)) k := by
  refine vx_ofWH (cc := cL_reached) (maxL := 4) (ret := (some .int)) (hh := [(0, 9, 12, 13)]) (by decide) rfl ?_
  intro p e s m args below meth c s₁ B hml hv
  obtain ⟨hav, hsz, hP, hK, hD0, hE⟩ := hv
  have hx := B.exec
  have hb := B.bytes
  have hr := B.returns
  have hts := atoms_spec (ws := wsL_reached) B.pre
  have hown : s.vm.findClass RL = some m.cls := findClass_of_methodNamed B.named
  have hlocks := B.notSynchronized
  have htab := vx_table (x := yL_reached) B (hts _ (List.mem_cons_self))
  subst hsz
  have hD := hD0.self (sz := s.heap.size)
  generalize hAe : va_A (xW cy ad S ((qo, .inl (cy 33, 1, .inr (.inl ov))) :: R)) s.heap.size = A at hD hE ⊢
  have hA : ∀ q : Nat, s.heap.size ≤ q → A q := fun q h => by rw [← hAe]; exact Or.inr h
  have hS : va_S A s.heap s.heap [] := va_S.rf
  refine g_entry (n := 4) hav (Nat.le_of_ble_eq_true rfl) (fun ls hl => ?_)
  have hl : lv_has ls 4 [(0, .ref (ad 0)), (1, .int x1), (2, .ref qo)] := hl
  refine g_nameQ (fun Q hQ => ?_)
  unfold q_L_reached at h
  refine lv_aload_n hx hb dL_reached_0 rfl (lv_at hl 2 rfl) ?_
  refine lv_iconst (v := 0) hx hb dL_reached_1 (by decide) ?_
  refine lv_aload_n hx hb dL_reached_2 rfl (lv_at hl 0 rfl) ?_
  refine lv_iload_n hx hb dL_reached_3 rfl (lv_at hl 1 rfl) ?_
  rcases x_catch h with ⟨e1, he, h⟩ | ⟨v, he, h⟩
  · refine g_tYi (As := [.int x1]) (rest := [.int 0, .ref qo]) ⟨hx, hb, hml, hown, hts⟩ (m_X5_reached l hst D cy tx ad ((qo, .inl (cy 33, 1, .inr (.inl ov))) :: R) _ S x1 (.inl e1) he) (cwV 1 hts gL_reached_X5_reached rfl rfl rfl (by decide +kernel) ⟨Nat.le_of_ble_eq_true rfl, Nat.le_of_ble_eq_true rfl⟩) (va_recv hK hP (ci := 5) (q0 := 0) rfl rfl) hP hK hD hS hA hE rfl hl.1 rfl (Nat.le_of_ble_eq_true rfl) dL_reached_4 ⟨Nat.le_of_ble_eq_true rfl, Nat.le_of_ble_eq_true rfl⟩ (fun ce q9 H locs hP hD hS hce hcv hcl => ?_)
    by_cases hk0 : e1 = 1
    · have h := o_pos hk0 h
      subst hk0
      refine vx_catch (name := exN 1) hown [] ⟨0, 9, 12, 13⟩ [] (by rw [htab]; rfl) (fun z hz => absurd hz List.not_mem_nil) (by decide) (by decide) (hts (.classLink RL 13 "java/lang/IndexOutOfBoundsException") (by decide +kernel)) (va_Nw.use rfl (hE.2.2.2.1 (.castable "java/lang/IndexOutOfBoundsException" "java/lang/IndexOutOfBoundsException") (by decide +kernel))) hce hcv hcl ?_
      refine lv_astore_n (lv' := [(3, .ref q9), (0, .ref (ad 0)), (1, .int x1), (2, .ref qo)]) hx hb dL_reached_12 rfl hl (by decide) rfl (fun ls hl => ?_)
      refine lv_iconst (v := 1) hx hb dL_reached_13 (by decide) ?_
      obtain ⟨eS, eo⟩ := Prod.mk.inj (Option.some.inj h)
      obtain ⟨eo, ev⟩ := Prod.mk.inj eo
      subst eS; subst eo
      exact g_iretV hQ hx hb hr hP hK hD hS (Nat.le_of_ble_eq_true rfl) (Nat.le_of_ble_eq_true rfl) dL_reached_14 hlocks ev
    · have h := o_neg hk0 h
      cases h
  · refine g_rYi (As := [.int x1]) (rest := [.int 0, .ref qo]) ⟨hx, hb, hml, hown, hts⟩ (m_X5_reached l hst D cy tx ad ((qo, .inl (cy 33, 1, .inr (.inl ov))) :: R) _ S x1 (.inr v) he) (cwV 1 hts gL_reached_X5_reached rfl rfl rfl (by decide +kernel) ⟨Nat.le_of_ble_eq_true rfl, Nat.le_of_ble_eq_true rfl⟩) (va_recv hK hP (ci := 5) (q0 := 0) rfl rfl) hP hK hD hS hA hE rfl hl.1 rfl (Nat.le_of_ble_eq_true rfl) dL_reached_4 ⟨Nat.le_of_ble_eq_true rfl, Nat.le_of_ble_eq_true rfl⟩ (fun H locs hP hD hS => ?_)
    refine W.widen (k := 1) (n := 6) (Nat.le_of_ble_eq_true rfl) (Nat.le_of_ble_eq_true rfl) ?_
    refine lv_i2l (v := ((v : Int32).toInt64)) hx hb dL_reached_7 rfl ?_
    obtain ⟨f1, ef1, h⟩ := o_bind h
    refine g_last hx hb hK hP hD hS 25 33 rfl rfl ef1 dL_reached_8 (fun H locs hP hD hS => ?_)
    have hP : va_P D vwCl (xW cy ad S ((qo, .inl (cy 33, 1, .inr (.inl f1))) :: R)) H := hP
    have hD : va_D A (xW cy ad S ((qo, .inl (cy 33, 1, .inr (.inl f1))) :: R)) := hD
    refine lv_goto (tgt := 15) hx hb dL_reached_9 (by decide) ?_
    refine lv_iconst (v := 0) hx hb dL_reached_15 (by decide) ?_
    obtain ⟨eS, eo⟩ := Prod.mk.inj (Option.some.inj h)
    obtain ⟨eo, ev⟩ := Prod.mk.inj eo
    subst eS; subst eo
    exact g_iretV hQ hx hb hr hP hK hD hS (Nat.le_of_ble_eq_true rfl) (Nat.le_of_ble_eq_true rfl) dL_reached_16 hlocks ev
set_option maxHeartbeats 4000000 in
set_option maxRecDepth 100000 in
theorem m_L_setLimits (l : Launch) (hst : l.stackTraces = false) (D : va_G) (cy : Nat → ClassId) (tx : List (ClassId × FieldType)) (ad : Nat → Nat) (qo : Nat) (R : va_W) (sz : Nat) (S : PS) (ov : (Nat → Int64)) (x1 : Int32) (x2 : Int32) (x3 : Int32) (S' : PS) (ov' : (Nat → Int64)) (k : Int32) (h : q_L_setLimits S ov x1 x2 x3 = some (S', ov', k)) : gLi l yL_setLimits wsL_setLimits ({ frames := 7, cells := 1, slots := 6, locals := 105 }) 1 6 D (gT cy ++ tx) [.ref (ad 0), .int x1, .int x2, .int x3, .ref qo] sz (xW cy ad S ((qo, .inl (cy 33, 1, .inr (.inl ov))) :: R)) (xW cy ad S' ((qo, .inl (cy 33, 1, .inr (.inl ov'))) :: R)) k := by
  refine vx_ofWH (cc := cL_setLimits) (maxL := 6) (ret := (some .int)) (hh := [(0, 19, 22, 35)]) (by decide) rfl ?_
  intro p e s m args below meth c s₁ B hml hv
  obtain ⟨hav, hsz, hP, hK, hD0, hE⟩ := hv
  have hx := B.exec
  have hb := B.bytes
  have hr := B.returns
  have hts := atoms_spec (ws := wsL_setLimits) B.pre
  have hown : s.vm.findClass RL = some m.cls := findClass_of_methodNamed B.named
  have hlocks := B.notSynchronized
  have htab := vx_table (x := yL_setLimits) B (hts _ (List.mem_cons_self))
  subst hsz
  have hD := hD0.self (sz := s.heap.size)
  generalize hAe : va_A (xW cy ad S ((qo, .inl (cy 33, 1, .inr (.inl ov))) :: R)) s.heap.size = A at hD hE ⊢
  have hA : ∀ q : Nat, s.heap.size ≤ q → A q := fun q h => by rw [← hAe]; exact Or.inr h
  have hS : va_S A s.heap s.heap [] := va_S.rf
  refine g_entry (n := 6) hav (Nat.le_of_ble_eq_true rfl) (fun ls hl => ?_)
  have hl : lv_has ls 6 [(0, .ref (ad 0)), (1, .int x1), (2, .int x2), (3, .int x3), (4, .ref qo)] := hl
  refine g_nameQ (fun Q hQ => ?_)
  unfold q_L_setLimits at h
  refine lv_aload hx hb dL_setLimits_0 (lv_at hl 4 rfl) ?_
  refine lv_iconst (v := 0) hx hb dL_setLimits_2 (by decide) ?_
  refine lv_aload_n hx hb dL_setLimits_3 rfl (lv_at hl 0 rfl) ?_
  refine lv_iload_n hx hb dL_setLimits_4 rfl (lv_at hl 1 rfl) ?_
  refine lv_iload_n hx hb dL_setLimits_5 rfl (lv_at hl 2 rfl) ?_
  refine lv_iload_n hx hb dL_setLimits_6 rfl (lv_at hl 3 rfl) ?_
  rcases x_catch h with ⟨e1, he, h⟩ | ⟨v, he, h⟩
  · refine g_tXi (As := [.int x1, .int x2, .int x3]) (rest := [.int 0, .ref qo]) ⟨hx, hb, hml, hown, hts⟩ (m_X5_setLimits l hst D cy tx ad ((qo, .inl (cy 33, 1, .inr (.inl ov))) :: R) _ S x1 x2 x3 (.inl e1) he) (cwV 3 hts gL_setLimits_X5_setLimits rfl rfl rfl (by decide +kernel) ⟨Nat.le_of_ble_eq_true rfl, Nat.le_of_ble_eq_true rfl⟩) (va_recv hK hP (ci := 5) (q0 := 0) rfl rfl) hP hK hD hS hA hE rfl hl.1 rfl (Nat.le_of_ble_eq_true rfl) dL_setLimits_7 ⟨Nat.le_of_ble_eq_true rfl, Nat.le_of_ble_eq_true rfl⟩ (fun ce q9 H locs hP hD hS hce hcv hcl => ?_)
    by_cases hk0 : e1 = 3
    · have h := o_pos hk0 h
      subst hk0
      refine vx_catch (name := exN 3) hown [] ⟨0, 19, 22, 35⟩ [] (by rw [htab]; rfl) (fun z hz => absurd hz List.not_mem_nil) (by decide) (by decide) (hts (.classLink RL 35 "java/lang/IllegalArgumentException") (by decide +kernel)) (va_Nw.use rfl (hE.2.2.2.1 (.castable "java/lang/IllegalArgumentException" "java/lang/IllegalArgumentException") (by decide +kernel))) hce hcv hcl ?_
      refine lv_astore (lv' := [(5, .ref q9), (0, .ref (ad 0)), (1, .int x1), (2, .int x2), (3, .int x3), (4, .ref qo)]) hx hb dL_setLimits_22 hl (by decide) rfl (fun ls hl => ?_)
      refine lv_iconst (v := 1) hx hb dL_setLimits_24 (by decide) ?_
      obtain ⟨eS, eo⟩ := Prod.mk.inj (Option.some.inj h)
      obtain ⟨eo, ev⟩ := Prod.mk.inj eo
      subst eS; subst eo
      exact g_iretV hQ hx hb hr hP hK hD hS (Nat.le_of_ble_eq_true rfl) (Nat.le_of_ble_eq_true rfl) dL_setLimits_25 hlocks ev
    · have h := o_neg hk0 h
      cases h
  · obtain ⟨S1, v⟩ := v
    refine g_rXi (As := [.int x1, .int x2, .int x3]) (rest := [.int 0, .ref qo]) ⟨hx, hb, hml, hown, hts⟩ (m_X5_setLimits l hst D cy tx ad ((qo, .inl (cy 33, 1, .inr (.inl ov))) :: R) _ S x1 x2 x3 (.inr (S1, v)) he) (cwV 3 hts gL_setLimits_X5_setLimits rfl rfl rfl (by decide +kernel) ⟨Nat.le_of_ble_eq_true rfl, Nat.le_of_ble_eq_true rfl⟩) (va_recv hK hP (ci := 5) (q0 := 0) rfl rfl) hP hK hD hS hA hE rfl hl.1 rfl (Nat.le_of_ble_eq_true rfl) dL_setLimits_7 ⟨Nat.le_of_ble_eq_true rfl, Nat.le_of_ble_eq_true rfl⟩ (fun H locs hP hD hS => ?_)
    refine W.widen (k := 1) (n := 6) (Nat.le_of_ble_eq_true rfl) (Nat.le_of_ble_eq_true rfl) ?_
    refine lv_if_eq (tgt := 17) hx hb dL_setLimits_10 (by decide) (fun hc => ?_) (fun hc => ?_)
    · have h := o_pos hc h
      refine lv_lconst (v := 0) hx hb dL_setLimits_17 (by decide) ?_
      obtain ⟨f1, ef1, h⟩ := o_bind h
      refine g_last hx hb hK hP hD hS 25 33 rfl rfl ef1 dL_setLimits_18 (fun H locs hP hD hS => ?_)
      have hP : va_P D vwCl (xW cy ad S1 ((qo, .inl (cy 33, 1, .inr (.inl f1))) :: R)) H := hP
      have hD : va_D A (xW cy ad S1 ((qo, .inl (cy 33, 1, .inr (.inl f1))) :: R)) := hD
      refine lv_goto (tgt := 26) hx hb dL_setLimits_19 (by decide) ?_
      refine lv_iconst (v := 0) hx hb dL_setLimits_26 (by decide) ?_
      obtain ⟨eS, eo⟩ := Prod.mk.inj (Option.some.inj h)
      obtain ⟨eo, ev⟩ := Prod.mk.inj eo
      subst eS; subst eo
      exact g_iretV hQ hx hb hr hP hK hD hS (Nat.le_of_ble_eq_true rfl) (Nat.le_of_ble_eq_true rfl) dL_setLimits_27 hlocks ev
    · have h := o_neg hc h
      refine lv_lconst (v := 1) hx hb dL_setLimits_13 (by decide) ?_
      refine lv_goto (tgt := 18) hx hb dL_setLimits_14 (by decide) ?_
      obtain ⟨f2, ef2, h⟩ := o_bind h
      refine g_last hx hb hK hP hD hS 25 33 rfl rfl ef2 dL_setLimits_18 (fun H locs hP hD hS => ?_)
      have hP : va_P D vwCl (xW cy ad S1 ((qo, .inl (cy 33, 1, .inr (.inl f2))) :: R)) H := hP
      have hD : va_D A (xW cy ad S1 ((qo, .inl (cy 33, 1, .inr (.inl f2))) :: R)) := hD
      refine lv_goto (tgt := 26) hx hb dL_setLimits_19 (by decide) ?_
      refine lv_iconst (v := 0) hx hb dL_setLimits_26 (by decide) ?_
      obtain ⟨eS, eo⟩ := Prod.mk.inj (Option.some.inj h)
      obtain ⟨eo, ev⟩ := Prod.mk.inj eo
      subst eS; subst eo
      exact g_iretV hQ hx hb hr hP hK hD hS (Nat.le_of_ble_eq_true rfl) (Nat.le_of_ble_eq_true rfl) dL_setLimits_27 hlocks ev
set_option maxHeartbeats 4000000 in
set_option maxRecDepth 100000 in
theorem m_L_plan (l : Launch) (hst : l.stackTraces = false) (D : va_G) (cy : Nat → ClassId) (tx : List (ClassId × FieldType)) (ad : Nat → Nat) (qo : Nat) (R : va_W) (sz : Nat) (S : PS) (ov : (Nat → Int64)) (x1 : Int32) (S' : PS) (ov' : (Nat → Int64)) (k : Int32) (h : q_L_plan S ov x1 = some (S', ov', k)) : gLi l yL_plan wsL_plan ({ frames := 8, cells := 1, slots := 6, locals := 171 }) 1 6 D (gT cy ++ tx) [.ref (ad 0), .int x1, .ref qo] sz (xW cy ad S ((qo, .inl (cy 33, 1, .inr (.inl ov))) :: R)) (xW cy ad S' ((qo, .inl (cy 33, 1, .inr (.inl ov'))) :: R)) k := by
  refine vx_ofWH (cc := cL_plan) (maxL := 4) (ret := (some .int)) (hh := [(0, 9, 12, 13)]) (by decide) rfl ?_
  intro p e s m args below meth c s₁ B hml hv
  obtain ⟨hav, hsz, hP, hK, hD0, hE⟩ := hv
  have hx := B.exec
  have hb := B.bytes
  have hr := B.returns
  have hts := atoms_spec (ws := wsL_plan) B.pre
  have hown : s.vm.findClass RL = some m.cls := findClass_of_methodNamed B.named
  have hlocks := B.notSynchronized
  have htab := vx_table (x := yL_plan) B (hts _ (List.mem_cons_self))
  subst hsz
  have hD := hD0.self (sz := s.heap.size)
  generalize hAe : va_A (xW cy ad S ((qo, .inl (cy 33, 1, .inr (.inl ov))) :: R)) s.heap.size = A at hD hE ⊢
  have hA : ∀ q : Nat, s.heap.size ≤ q → A q := fun q h => by rw [← hAe]; exact Or.inr h
  have hS : va_S A s.heap s.heap [] := va_S.rf
  refine g_entry (n := 4) hav (Nat.le_of_ble_eq_true rfl) (fun ls hl => ?_)
  have hl : lv_has ls 4 [(0, .ref (ad 0)), (1, .int x1), (2, .ref qo)] := hl
  refine g_nameQ (fun Q hQ => ?_)
  unfold q_L_plan at h
  refine lv_aload_n hx hb dL_plan_0 rfl (lv_at hl 2 rfl) ?_
  refine lv_iconst (v := 0) hx hb dL_plan_1 (by decide) ?_
  refine lv_aload_n hx hb dL_plan_2 rfl (lv_at hl 0 rfl) ?_
  refine lv_iload_n hx hb dL_plan_3 rfl (lv_at hl 1 rfl) ?_
  rcases x_catch h with ⟨e1, he, h⟩ | ⟨v, he, h⟩
  · refine g_tXi (As := [.int x1]) (rest := [.int 0, .ref qo]) ⟨hx, hb, hml, hown, hts⟩ (m_X5_plan l hst D cy tx ad ((qo, .inl (cy 33, 1, .inr (.inl ov))) :: R) _ S x1 (.inl e1) he) (cwV 1 hts gL_plan_X5_plan rfl rfl rfl (by decide +kernel) ⟨Nat.le_of_ble_eq_true rfl, Nat.le_of_ble_eq_true rfl⟩) (va_recv hK hP (ci := 5) (q0 := 0) rfl rfl) hP hK hD hS hA hE rfl hl.1 rfl (Nat.le_of_ble_eq_true rfl) dL_plan_4 ⟨Nat.le_of_ble_eq_true rfl, Nat.le_of_ble_eq_true rfl⟩ (fun ce q9 H locs hP hD hS hce hcv hcl => ?_)
    by_cases hk0 : e1 = 1
    · have h := o_pos hk0 h
      subst hk0
      refine vx_catch (name := exN 1) hown [] ⟨0, 9, 12, 13⟩ [] (by rw [htab]; rfl) (fun z hz => absurd hz List.not_mem_nil) (by decide) (by decide) (hts (.classLink RL 13 "java/lang/IndexOutOfBoundsException") (by decide +kernel)) (va_Nw.use rfl (hE.2.2.2.1 (.castable "java/lang/IndexOutOfBoundsException" "java/lang/IndexOutOfBoundsException") (by decide +kernel))) hce hcv hcl ?_
      refine lv_astore_n (lv' := [(3, .ref q9), (0, .ref (ad 0)), (1, .int x1), (2, .ref qo)]) hx hb dL_plan_12 rfl hl (by decide) rfl (fun ls hl => ?_)
      refine lv_iconst (v := 1) hx hb dL_plan_13 (by decide) ?_
      obtain ⟨eS, eo⟩ := Prod.mk.inj (Option.some.inj h)
      obtain ⟨eo, ev⟩ := Prod.mk.inj eo
      subst eS; subst eo
      exact g_iretV hQ hx hb hr hP hK hD hS (Nat.le_of_ble_eq_true rfl) (Nat.le_of_ble_eq_true rfl) dL_plan_14 hlocks ev
    · have h := o_neg hk0 h
      cases h
  · obtain ⟨S1, v⟩ := v
    refine g_rXi (As := [.int x1]) (rest := [.int 0, .ref qo]) ⟨hx, hb, hml, hown, hts⟩ (m_X5_plan l hst D cy tx ad ((qo, .inl (cy 33, 1, .inr (.inl ov))) :: R) _ S x1 (.inr (S1, v)) he) (cwV 1 hts gL_plan_X5_plan rfl rfl rfl (by decide +kernel) ⟨Nat.le_of_ble_eq_true rfl, Nat.le_of_ble_eq_true rfl⟩) (va_recv hK hP (ci := 5) (q0 := 0) rfl rfl) hP hK hD hS hA hE rfl hl.1 rfl (Nat.le_of_ble_eq_true rfl) dL_plan_4 ⟨Nat.le_of_ble_eq_true rfl, Nat.le_of_ble_eq_true rfl⟩ (fun H locs hP hD hS => ?_)
    refine W.widen (k := 1) (n := 6) (Nat.le_of_ble_eq_true rfl) (Nat.le_of_ble_eq_true rfl) ?_
    refine lv_i2l (v := ((v : Int32).toInt64)) hx hb dL_plan_7 rfl ?_
    obtain ⟨f1, ef1, h⟩ := o_bind h
    refine g_last hx hb hK hP hD hS 25 33 rfl rfl ef1 dL_plan_8 (fun H locs hP hD hS => ?_)
    have hP : va_P D vwCl (xW cy ad S1 ((qo, .inl (cy 33, 1, .inr (.inl f1))) :: R)) H := hP
    have hD : va_D A (xW cy ad S1 ((qo, .inl (cy 33, 1, .inr (.inl f1))) :: R)) := hD
    refine lv_goto (tgt := 15) hx hb dL_plan_9 (by decide) ?_
    refine lv_iconst (v := 0) hx hb dL_plan_15 (by decide) ?_
    obtain ⟨eS, eo⟩ := Prod.mk.inj (Option.some.inj h)
    obtain ⟨eo, ev⟩ := Prod.mk.inj eo
    subst eS; subst eo
    exact g_iretV hQ hx hb hr hP hK hD hS (Nat.le_of_ble_eq_true rfl) (Nat.le_of_ble_eq_true rfl) dL_plan_16 hlocks ev
set_option maxHeartbeats 4000000 in
set_option maxRecDepth 100000 in
theorem m_L_nodeCount (l : Launch) (hst : l.stackTraces = false) (D : va_G) (cy : Nat → ClassId) (tx : List (ClassId × FieldType)) (ad : Nat → Nat) (qo : Nat) (R : va_W) (sz : Nat) (S : PS) (ov : (Nat → Int64))  (S' : PS) (ov' : (Nat → Int64)) (k : Int32) (h : q_L_nodeCount S ov = some (S', ov', k)) : gLi l yL_nodeCount wsL_nodeCount ({ frames := 8, cells := 1, slots := 6, locals := 122 }) 1 6 D (gT cy ++ tx) [.ref (ad 0), .ref qo] sz (xW cy ad S ((qo, .inl (cy 33, 1, .inr (.inl ov))) :: R)) (xW cy ad S' ((qo, .inl (cy 33, 1, .inr (.inl ov'))) :: R)) k := by
  refine vx_ofWH (cc := cL_nodeCount) (maxL := 3) (ret := (some .int)) (hh := [(0, 8, 11, 15)]) (by decide) rfl ?_
  intro p e s m args below meth c s₁ B hml hv
  obtain ⟨hav, hsz, hP, hK, hD0, hE⟩ := hv
  have hx := B.exec
  have hb := B.bytes
  have hr := B.returns
  have hts := atoms_spec (ws := wsL_nodeCount) B.pre
  have hown : s.vm.findClass RL = some m.cls := findClass_of_methodNamed B.named
  have hlocks := B.notSynchronized
  have htab := vx_table (x := yL_nodeCount) B (hts _ (List.mem_cons_self))
  subst hsz
  have hD := hD0.self (sz := s.heap.size)
  generalize hAe : va_A (xW cy ad S ((qo, .inl (cy 33, 1, .inr (.inl ov))) :: R)) s.heap.size = A at hD hE ⊢
  have hA : ∀ q : Nat, s.heap.size ≤ q → A q := fun q h => by rw [← hAe]; exact Or.inr h
  have hS : va_S A s.heap s.heap [] := va_S.rf
  refine g_entry (n := 3) hav (Nat.le_of_ble_eq_true rfl) (fun ls hl => ?_)
  have hl : lv_has ls 3 [(0, .ref (ad 0)), (1, .ref qo)] := hl
  refine g_nameQ (fun Q hQ => ?_)
  unfold q_L_nodeCount at h
  refine lv_aload_n hx hb dL_nodeCount_0 rfl (lv_at hl 1 rfl) ?_
  refine lv_iconst (v := 0) hx hb dL_nodeCount_1 (by decide) ?_
  refine lv_aload_n hx hb dL_nodeCount_2 rfl (lv_at hl 0 rfl) ?_
  rcases x_catch h with ⟨e1, he, h⟩ | ⟨v, he, h⟩
  · refine g_tYi (As := []) (rest := [.int 0, .ref qo]) ⟨hx, hb, hml, hown, hts⟩ (m_X5_nodeCount l hst D cy tx ad ((qo, .inl (cy 33, 1, .inr (.inl ov))) :: R) _ S  (.inl e1) he) (cwV 0 hts gL_nodeCount_X5_nodeCount rfl rfl rfl (by decide +kernel) ⟨Nat.le_of_ble_eq_true rfl, Nat.le_of_ble_eq_true rfl⟩) (va_recv hK hP (ci := 5) (q0 := 0) rfl rfl) hP hK hD hS hA hE rfl hl.1 rfl (Nat.le_of_ble_eq_true rfl) dL_nodeCount_3 ⟨Nat.le_of_ble_eq_true rfl, Nat.le_of_ble_eq_true rfl⟩ (fun ce q9 H locs hP hD hS hce hcv hcl => ?_)
    by_cases hk0 : e1 = 2
    · have h := o_pos hk0 h
      subst hk0
      refine vx_catch (name := exN 2) hown [] ⟨0, 8, 11, 15⟩ [] (by rw [htab]; rfl) (fun z hz => absurd hz List.not_mem_nil) (by decide) (by decide) (hts (.classLink RL 15 "java/lang/IllegalStateException") (by decide +kernel)) (va_Nw.use rfl (hE.2.2.2.1 (.castable "java/lang/IllegalStateException" "java/lang/IllegalStateException") (by decide +kernel))) hce hcv hcl ?_
      refine lv_astore_n (lv' := [(2, .ref q9), (0, .ref (ad 0)), (1, .ref qo)]) hx hb dL_nodeCount_11 rfl hl (by decide) rfl (fun ls hl => ?_)
      refine lv_iconst (v := 1) hx hb dL_nodeCount_12 (by decide) ?_
      obtain ⟨eS, eo⟩ := Prod.mk.inj (Option.some.inj h)
      obtain ⟨eo, ev⟩ := Prod.mk.inj eo
      subst eS; subst eo
      exact g_iretV hQ hx hb hr hP hK hD hS (Nat.le_of_ble_eq_true rfl) (Nat.le_of_ble_eq_true rfl) dL_nodeCount_13 hlocks ev
    · have h := o_neg hk0 h
      cases h
  · refine g_rYi (As := []) (rest := [.int 0, .ref qo]) ⟨hx, hb, hml, hown, hts⟩ (m_X5_nodeCount l hst D cy tx ad ((qo, .inl (cy 33, 1, .inr (.inl ov))) :: R) _ S  (.inr v) he) (cwV 0 hts gL_nodeCount_X5_nodeCount rfl rfl rfl (by decide +kernel) ⟨Nat.le_of_ble_eq_true rfl, Nat.le_of_ble_eq_true rfl⟩) (va_recv hK hP (ci := 5) (q0 := 0) rfl rfl) hP hK hD hS hA hE rfl hl.1 rfl (Nat.le_of_ble_eq_true rfl) dL_nodeCount_3 ⟨Nat.le_of_ble_eq_true rfl, Nat.le_of_ble_eq_true rfl⟩ (fun H locs hP hD hS => ?_)
    refine W.widen (k := 1) (n := 6) (Nat.le_of_ble_eq_true rfl) (Nat.le_of_ble_eq_true rfl) ?_
    refine lv_i2l (v := ((v : Int32).toInt64)) hx hb dL_nodeCount_6 rfl ?_
    obtain ⟨f1, ef1, h⟩ := o_bind h
    refine g_last hx hb hK hP hD hS 25 33 rfl rfl ef1 dL_nodeCount_7 (fun H locs hP hD hS => ?_)
    have hP : va_P D vwCl (xW cy ad S ((qo, .inl (cy 33, 1, .inr (.inl f1))) :: R)) H := hP
    have hD : va_D A (xW cy ad S ((qo, .inl (cy 33, 1, .inr (.inl f1))) :: R)) := hD
    refine lv_goto (tgt := 14) hx hb dL_nodeCount_8 (by decide) ?_
    refine lv_iconst (v := 0) hx hb dL_nodeCount_14 (by decide) ?_
    obtain ⟨eS, eo⟩ := Prod.mk.inj (Option.some.inj h)
    obtain ⟨eo, ev⟩ := Prod.mk.inj eo
    subst eS; subst eo
    exact g_iretV hQ hx hb hr hP hK hD hS (Nat.le_of_ble_eq_true rfl) (Nat.le_of_ble_eq_true rfl) dL_nodeCount_15 hlocks ev
set_option maxHeartbeats 4000000 in
set_option maxRecDepth 100000 in
theorem m_L_size (l : Launch) (hst : l.stackTraces = false) (D : va_G) (cy : Nat → ClassId) (tx : List (ClassId × FieldType)) (ad : Nat → Nat) (qo : Nat) (R : va_W) (sz : Nat) (S : PS) (ov : (Nat → Int64))  (S' : PS) (ov' : (Nat → Int64)) (k : Int32) (h : q_L_size S ov = some (S', ov', k)) : gLi l yL_size wsL_size ({ frames := 8, cells := 1, slots := 6, locals := 122 }) 1 6 D (gT cy ++ tx) [.ref (ad 0), .ref qo] sz (xW cy ad S ((qo, .inl (cy 33, 1, .inr (.inl ov))) :: R)) (xW cy ad S' ((qo, .inl (cy 33, 1, .inr (.inl ov'))) :: R)) k := by
  refine vx_ofWH (cc := cL_size) (maxL := 3) (ret := (some .int)) (hh := [(0, 8, 11, 15)]) (by decide) rfl ?_
  intro p e s m args below meth c s₁ B hml hv
  obtain ⟨hav, hsz, hP, hK, hD0, hE⟩ := hv
  have hx := B.exec
  have hb := B.bytes
  have hr := B.returns
  have hts := atoms_spec (ws := wsL_size) B.pre
  have hown : s.vm.findClass RL = some m.cls := findClass_of_methodNamed B.named
  have hlocks := B.notSynchronized
  have htab := vx_table (x := yL_size) B (hts _ (List.mem_cons_self))
  subst hsz
  have hD := hD0.self (sz := s.heap.size)
  generalize hAe : va_A (xW cy ad S ((qo, .inl (cy 33, 1, .inr (.inl ov))) :: R)) s.heap.size = A at hD hE ⊢
  have hA : ∀ q : Nat, s.heap.size ≤ q → A q := fun q h => by rw [← hAe]; exact Or.inr h
  have hS : va_S A s.heap s.heap [] := va_S.rf
  refine g_entry (n := 3) hav (Nat.le_of_ble_eq_true rfl) (fun ls hl => ?_)
  have hl : lv_has ls 3 [(0, .ref (ad 0)), (1, .ref qo)] := hl
  refine g_nameQ (fun Q hQ => ?_)
  unfold q_L_size at h
  refine lv_aload_n hx hb dL_size_0 rfl (lv_at hl 1 rfl) ?_
  refine lv_iconst (v := 0) hx hb dL_size_1 (by decide) ?_
  refine lv_aload_n hx hb dL_size_2 rfl (lv_at hl 0 rfl) ?_
  rcases x_catch h with ⟨e1, he, h⟩ | ⟨v, he, h⟩
  · refine g_tYi (As := []) (rest := [.int 0, .ref qo]) ⟨hx, hb, hml, hown, hts⟩ (m_X5_size l hst D cy tx ad ((qo, .inl (cy 33, 1, .inr (.inl ov))) :: R) _ S  (.inl e1) he) (cwV 0 hts gL_size_X5_size rfl rfl rfl (by decide +kernel) ⟨Nat.le_of_ble_eq_true rfl, Nat.le_of_ble_eq_true rfl⟩) (va_recv hK hP (ci := 5) (q0 := 0) rfl rfl) hP hK hD hS hA hE rfl hl.1 rfl (Nat.le_of_ble_eq_true rfl) dL_size_3 ⟨Nat.le_of_ble_eq_true rfl, Nat.le_of_ble_eq_true rfl⟩ (fun ce q9 H locs hP hD hS hce hcv hcl => ?_)
    by_cases hk0 : e1 = 2
    · have h := o_pos hk0 h
      subst hk0
      refine vx_catch (name := exN 2) hown [] ⟨0, 8, 11, 15⟩ [] (by rw [htab]; rfl) (fun z hz => absurd hz List.not_mem_nil) (by decide) (by decide) (hts (.classLink RL 15 "java/lang/IllegalStateException") (by decide +kernel)) (va_Nw.use rfl (hE.2.2.2.1 (.castable "java/lang/IllegalStateException" "java/lang/IllegalStateException") (by decide +kernel))) hce hcv hcl ?_
      refine lv_astore_n (lv' := [(2, .ref q9), (0, .ref (ad 0)), (1, .ref qo)]) hx hb dL_size_11 rfl hl (by decide) rfl (fun ls hl => ?_)
      refine lv_iconst (v := 1) hx hb dL_size_12 (by decide) ?_
      obtain ⟨eS, eo⟩ := Prod.mk.inj (Option.some.inj h)
      obtain ⟨eo, ev⟩ := Prod.mk.inj eo
      subst eS; subst eo
      exact g_iretV hQ hx hb hr hP hK hD hS (Nat.le_of_ble_eq_true rfl) (Nat.le_of_ble_eq_true rfl) dL_size_13 hlocks ev
    · have h := o_neg hk0 h
      cases h
  · refine g_rYi (As := []) (rest := [.int 0, .ref qo]) ⟨hx, hb, hml, hown, hts⟩ (m_X5_size l hst D cy tx ad ((qo, .inl (cy 33, 1, .inr (.inl ov))) :: R) _ S  (.inr v) he) (cwV 0 hts gL_size_X5_size rfl rfl rfl (by decide +kernel) ⟨Nat.le_of_ble_eq_true rfl, Nat.le_of_ble_eq_true rfl⟩) (va_recv hK hP (ci := 5) (q0 := 0) rfl rfl) hP hK hD hS hA hE rfl hl.1 rfl (Nat.le_of_ble_eq_true rfl) dL_size_3 ⟨Nat.le_of_ble_eq_true rfl, Nat.le_of_ble_eq_true rfl⟩ (fun H locs hP hD hS => ?_)
    refine W.widen (k := 1) (n := 6) (Nat.le_of_ble_eq_true rfl) (Nat.le_of_ble_eq_true rfl) ?_
    refine lv_i2l (v := ((v : Int32).toInt64)) hx hb dL_size_6 rfl ?_
    obtain ⟨f1, ef1, h⟩ := o_bind h
    refine g_last hx hb hK hP hD hS 25 33 rfl rfl ef1 dL_size_7 (fun H locs hP hD hS => ?_)
    have hP : va_P D vwCl (xW cy ad S ((qo, .inl (cy 33, 1, .inr (.inl f1))) :: R)) H := hP
    have hD : va_D A (xW cy ad S ((qo, .inl (cy 33, 1, .inr (.inl f1))) :: R)) := hD
    refine lv_goto (tgt := 14) hx hb dL_size_8 (by decide) ?_
    refine lv_iconst (v := 0) hx hb dL_size_14 (by decide) ?_
    obtain ⟨eS, eo⟩ := Prod.mk.inj (Option.some.inj h)
    obtain ⟨eo, ev⟩ := Prod.mk.inj eo
    subst eS; subst eo
    exact g_iretV hQ hx hb hr hP hK hD hS (Nat.le_of_ble_eq_true rfl) (Nat.le_of_ble_eq_true rfl) dL_size_15 hlocks ev
set_option maxHeartbeats 4000000 in
set_option maxRecDepth 100000 in
theorem m_L_method (l : Launch) (hst : l.stackTraces = false) (D : va_G) (cy : Nat → ClassId) (tx : List (ClassId × FieldType)) (ad : Nat → Nat) (qo : Nat) (R : va_W) (sz : Nat) (S : PS) (ov : (Nat → Int64)) (x1 : Int32) (S' : PS) (ov' : (Nat → Int64)) (k : Int32) (h : q_L_method S ov x1 = some (S', ov', k)) : gLi l yL_method wsL_method ({ frames := 9, cells := 2, slots := 12, locals := 144 }) 2 12 D (gT cy ++ tx) [.ref (ad 0), .int x1, .ref qo] sz (xW cy ad S ((qo, .inl (cy 33, 1, .inr (.inl ov))) :: R)) (xW cy ad S' ((qo, .inl (cy 33, 1, .inr (.inl ov'))) :: R)) k := by
  refine vx_ofWH (cc := cL_method) (maxL := 4) (ret := (some .int)) (hh := [(0, 9, 12, 15), (0, 9, 15, 13)]) (by decide) rfl ?_
  intro p e s m args below meth c s₁ B hml hv
  obtain ⟨hav, hsz, hP, hK, hD0, hE⟩ := hv
  have hx := B.exec
  have hb := B.bytes
  have hr := B.returns
  have hts := atoms_spec (ws := wsL_method) B.pre
  have hown : s.vm.findClass RL = some m.cls := findClass_of_methodNamed B.named
  have hlocks := B.notSynchronized
  have htab := vx_table (x := yL_method) B (hts _ (List.mem_cons_self))
  subst hsz
  have hD := hD0.self (sz := s.heap.size)
  generalize hAe : va_A (xW cy ad S ((qo, .inl (cy 33, 1, .inr (.inl ov))) :: R)) s.heap.size = A at hD hE ⊢
  have hA : ∀ q : Nat, s.heap.size ≤ q → A q := fun q h => by rw [← hAe]; exact Or.inr h
  have hS : va_S A s.heap s.heap [] := va_S.rf
  refine g_entry (n := 4) hav (Nat.le_of_ble_eq_true rfl) (fun ls hl => ?_)
  have hl : lv_has ls 4 [(0, .ref (ad 0)), (1, .int x1), (2, .ref qo)] := hl
  refine g_nameQ (fun Q hQ => ?_)
  unfold q_L_method at h
  refine lv_aload_n hx hb dL_method_0 rfl (lv_at hl 2 rfl) ?_
  refine lv_iconst (v := 0) hx hb dL_method_1 (by decide) ?_
  refine lv_aload_n hx hb dL_method_2 rfl (lv_at hl 0 rfl) ?_
  refine lv_iload_n hx hb dL_method_3 rfl (lv_at hl 1 rfl) ?_
  rcases x_catch h with ⟨e1, he, h⟩ | ⟨v, he, h⟩
  · refine g_tYi (As := [.int x1]) (rest := [.int 0, .ref qo]) ⟨hx, hb, hml, hown, hts⟩ (m_X5_method l hst D cy tx ad ((qo, .inl (cy 33, 1, .inr (.inl ov))) :: R) _ S x1 (.inl e1) he) (cwV 1 hts gL_method_X5_method rfl rfl rfl (by decide +kernel) ⟨Nat.le_of_ble_eq_true rfl, Nat.le_of_ble_eq_true rfl⟩) (va_recv hK hP (ci := 5) (q0 := 0) rfl rfl) hP hK hD hS hA hE rfl hl.1 rfl (Nat.le_of_ble_eq_true rfl) dL_method_4 ⟨Nat.le_of_ble_eq_true rfl, Nat.le_of_ble_eq_true rfl⟩ (fun ce q9 H locs hP hD hS hce hcv hcl => ?_)
    by_cases hk0 : e1 = 2
    · have h := o_pos hk0 h
      subst hk0
      refine vx_catch (name := exN 2) hown [] ⟨0, 9, 12, 15⟩ [⟨0, 9, 15, 13⟩] (by rw [htab]; rfl) (fun z hz => absurd hz List.not_mem_nil) (by decide) (by decide) (hts (.classLink RL 15 "java/lang/IllegalStateException") (by decide +kernel)) (va_Nw.use rfl (hE.2.2.2.1 (.castable "java/lang/IllegalStateException" "java/lang/IllegalStateException") (by decide +kernel))) hce hcv hcl ?_
      refine lv_astore_n (lv' := [(3, .ref q9), (0, .ref (ad 0)), (1, .int x1), (2, .ref qo)]) hx hb dL_method_12 rfl hl (by decide) rfl (fun ls hl => ?_)
      refine lv_iconst (v := 1) hx hb dL_method_13 (by decide) ?_
      obtain ⟨eS, eo⟩ := Prod.mk.inj (Option.some.inj h)
      obtain ⟨eo, ev⟩ := Prod.mk.inj eo
      subst eS; subst eo
      exact g_iretV hQ hx hb hr hP hK hD hS (Nat.le_of_ble_eq_true rfl) (Nat.le_of_ble_eq_true rfl) dL_method_14 hlocks ev
    · have h := o_neg hk0 h
      by_cases hk1 : e1 = 1
      · have h := o_pos hk1 h
        subst hk1
        refine vx_catch (name := exN 1) hown [⟨0, 9, 12, 15⟩] ⟨0, 9, 15, 13⟩ [] (by rw [htab]; rfl) (fun z hz => by rw [List.mem_singleton.mp hz]; exact Or.inr ⟨by decide, exN 2, hts (.classLink RL 15 "java/lang/IllegalStateException") (by decide +kernel), hE.2.2.2.2 1 2 (by decide) (by decide) (by decide)⟩) (by decide) (by decide) (hts (.classLink RL 13 "java/lang/IndexOutOfBoundsException") (by decide +kernel)) (va_Nw.use rfl (hE.2.2.2.1 (.castable "java/lang/IndexOutOfBoundsException" "java/lang/IndexOutOfBoundsException") (by decide +kernel))) hce hcv hcl ?_
        refine lv_astore_n (lv' := [(3, .ref q9), (0, .ref (ad 0)), (1, .int x1), (2, .ref qo)]) hx hb dL_method_15 rfl hl (by decide) rfl (fun ls hl => ?_)
        refine lv_iconst (v := 2) hx hb dL_method_16 (by decide) ?_
        obtain ⟨eS, eo⟩ := Prod.mk.inj (Option.some.inj h)
        obtain ⟨eo, ev⟩ := Prod.mk.inj eo
        subst eS; subst eo
        exact g_iretV hQ hx hb hr hP hK hD hS (Nat.le_of_ble_eq_true rfl) (Nat.le_of_ble_eq_true rfl) dL_method_17 hlocks ev
      · have h := o_neg hk1 h
        cases h
  · refine g_rYi (As := [.int x1]) (rest := [.int 0, .ref qo]) ⟨hx, hb, hml, hown, hts⟩ (m_X5_method l hst D cy tx ad ((qo, .inl (cy 33, 1, .inr (.inl ov))) :: R) _ S x1 (.inr v) he) (cwV 1 hts gL_method_X5_method rfl rfl rfl (by decide +kernel) ⟨Nat.le_of_ble_eq_true rfl, Nat.le_of_ble_eq_true rfl⟩) (va_recv hK hP (ci := 5) (q0 := 0) rfl rfl) hP hK hD hS hA hE rfl hl.1 rfl (Nat.le_of_ble_eq_true rfl) dL_method_4 ⟨Nat.le_of_ble_eq_true rfl, Nat.le_of_ble_eq_true rfl⟩ (fun H locs hP hD hS => ?_)
    refine W.widen (k := 2) (n := 12) (Nat.le_of_ble_eq_true rfl) (Nat.le_of_ble_eq_true rfl) ?_
    refine lv_i2l (v := ((v : Int32).toInt64)) hx hb dL_method_7 rfl ?_
    obtain ⟨f1, ef1, h⟩ := o_bind h
    refine g_last hx hb hK hP hD hS 25 33 rfl rfl ef1 dL_method_8 (fun H locs hP hD hS => ?_)
    have hP : va_P D vwCl (xW cy ad S ((qo, .inl (cy 33, 1, .inr (.inl f1))) :: R)) H := hP
    have hD : va_D A (xW cy ad S ((qo, .inl (cy 33, 1, .inr (.inl f1))) :: R)) := hD
    refine lv_goto (tgt := 18) hx hb dL_method_9 (by decide) ?_
    refine lv_iconst (v := 0) hx hb dL_method_18 (by decide) ?_
    obtain ⟨eS, eo⟩ := Prod.mk.inj (Option.some.inj h)
    obtain ⟨eo, ev⟩ := Prod.mk.inj eo
    subst eS; subst eo
    exact g_iretV hQ hx hb hr hP hK hD hS (Nat.le_of_ble_eq_true rfl) (Nat.le_of_ble_eq_true rfl) dL_method_19 hlocks ev
set_option maxHeartbeats 4000000 in
set_option maxRecDepth 100000 in
theorem m_L_parentNode (l : Launch) (hst : l.stackTraces = false) (D : va_G) (cy : Nat → ClassId) (tx : List (ClassId × FieldType)) (ad : Nat → Nat) (qo : Nat) (R : va_W) (sz : Nat) (S : PS) (ov : (Nat → Int64)) (x1 : Int32) (S' : PS) (ov' : (Nat → Int64)) (k : Int32) (h : q_L_parentNode S ov x1 = some (S', ov', k)) : gLi l yL_parentNode wsL_parentNode ({ frames := 9, cells := 2, slots := 12, locals := 144 }) 2 12 D (gT cy ++ tx) [.ref (ad 0), .int x1, .ref qo] sz (xW cy ad S ((qo, .inl (cy 33, 1, .inr (.inl ov))) :: R)) (xW cy ad S' ((qo, .inl (cy 33, 1, .inr (.inl ov'))) :: R)) k := by
  refine vx_ofWH (cc := cL_parentNode) (maxL := 4) (ret := (some .int)) (hh := [(0, 9, 12, 15), (0, 9, 15, 13)]) (by decide) rfl ?_
  intro p e s m args below meth c s₁ B hml hv
  obtain ⟨hav, hsz, hP, hK, hD0, hE⟩ := hv
  have hx := B.exec
  have hb := B.bytes
  have hr := B.returns
  have hts := atoms_spec (ws := wsL_parentNode) B.pre
  have hown : s.vm.findClass RL = some m.cls := findClass_of_methodNamed B.named
  have hlocks := B.notSynchronized
  have htab := vx_table (x := yL_parentNode) B (hts _ (List.mem_cons_self))
  subst hsz
  have hD := hD0.self (sz := s.heap.size)
  generalize hAe : va_A (xW cy ad S ((qo, .inl (cy 33, 1, .inr (.inl ov))) :: R)) s.heap.size = A at hD hE ⊢
  have hA : ∀ q : Nat, s.heap.size ≤ q → A q := fun q h => by rw [← hAe]; exact Or.inr h
  have hS : va_S A s.heap s.heap [] := va_S.rf
  refine g_entry (n := 4) hav (Nat.le_of_ble_eq_true rfl) (fun ls hl => ?_)
  have hl : lv_has ls 4 [(0, .ref (ad 0)), (1, .int x1), (2, .ref qo)] := hl
  refine g_nameQ (fun Q hQ => ?_)
  unfold q_L_parentNode at h
  refine lv_aload_n hx hb dL_parentNode_0 rfl (lv_at hl 2 rfl) ?_
  refine lv_iconst (v := 0) hx hb dL_parentNode_1 (by decide) ?_
  refine lv_aload_n hx hb dL_parentNode_2 rfl (lv_at hl 0 rfl) ?_
  refine lv_iload_n hx hb dL_parentNode_3 rfl (lv_at hl 1 rfl) ?_
  rcases x_catch h with ⟨e1, he, h⟩ | ⟨v, he, h⟩
  · refine g_tYi (As := [.int x1]) (rest := [.int 0, .ref qo]) ⟨hx, hb, hml, hown, hts⟩ (m_X5_parentNode l hst D cy tx ad ((qo, .inl (cy 33, 1, .inr (.inl ov))) :: R) _ S x1 (.inl e1) he) (cwV 1 hts gL_parentNode_X5_parentNode rfl rfl rfl (by decide +kernel) ⟨Nat.le_of_ble_eq_true rfl, Nat.le_of_ble_eq_true rfl⟩) (va_recv hK hP (ci := 5) (q0 := 0) rfl rfl) hP hK hD hS hA hE rfl hl.1 rfl (Nat.le_of_ble_eq_true rfl) dL_parentNode_4 ⟨Nat.le_of_ble_eq_true rfl, Nat.le_of_ble_eq_true rfl⟩ (fun ce q9 H locs hP hD hS hce hcv hcl => ?_)
    by_cases hk0 : e1 = 2
    · have h := o_pos hk0 h
      subst hk0
      refine vx_catch (name := exN 2) hown [] ⟨0, 9, 12, 15⟩ [⟨0, 9, 15, 13⟩] (by rw [htab]; rfl) (fun z hz => absurd hz List.not_mem_nil) (by decide) (by decide) (hts (.classLink RL 15 "java/lang/IllegalStateException") (by decide +kernel)) (va_Nw.use rfl (hE.2.2.2.1 (.castable "java/lang/IllegalStateException" "java/lang/IllegalStateException") (by decide +kernel))) hce hcv hcl ?_
      refine lv_astore_n (lv' := [(3, .ref q9), (0, .ref (ad 0)), (1, .int x1), (2, .ref qo)]) hx hb dL_parentNode_12 rfl hl (by decide) rfl (fun ls hl => ?_)
      refine lv_iconst (v := 1) hx hb dL_parentNode_13 (by decide) ?_
      obtain ⟨eS, eo⟩ := Prod.mk.inj (Option.some.inj h)
      obtain ⟨eo, ev⟩ := Prod.mk.inj eo
      subst eS; subst eo
      exact g_iretV hQ hx hb hr hP hK hD hS (Nat.le_of_ble_eq_true rfl) (Nat.le_of_ble_eq_true rfl) dL_parentNode_14 hlocks ev
    · have h := o_neg hk0 h
      by_cases hk1 : e1 = 1
      · have h := o_pos hk1 h
        subst hk1
        refine vx_catch (name := exN 1) hown [⟨0, 9, 12, 15⟩] ⟨0, 9, 15, 13⟩ [] (by rw [htab]; rfl) (fun z hz => by rw [List.mem_singleton.mp hz]; exact Or.inr ⟨by decide, exN 2, hts (.classLink RL 15 "java/lang/IllegalStateException") (by decide +kernel), hE.2.2.2.2 1 2 (by decide) (by decide) (by decide)⟩) (by decide) (by decide) (hts (.classLink RL 13 "java/lang/IndexOutOfBoundsException") (by decide +kernel)) (va_Nw.use rfl (hE.2.2.2.1 (.castable "java/lang/IndexOutOfBoundsException" "java/lang/IndexOutOfBoundsException") (by decide +kernel))) hce hcv hcl ?_
        refine lv_astore_n (lv' := [(3, .ref q9), (0, .ref (ad 0)), (1, .int x1), (2, .ref qo)]) hx hb dL_parentNode_15 rfl hl (by decide) rfl (fun ls hl => ?_)
        refine lv_iconst (v := 2) hx hb dL_parentNode_16 (by decide) ?_
        obtain ⟨eS, eo⟩ := Prod.mk.inj (Option.some.inj h)
        obtain ⟨eo, ev⟩ := Prod.mk.inj eo
        subst eS; subst eo
        exact g_iretV hQ hx hb hr hP hK hD hS (Nat.le_of_ble_eq_true rfl) (Nat.le_of_ble_eq_true rfl) dL_parentNode_17 hlocks ev
      · have h := o_neg hk1 h
        cases h
  · refine g_rYi (As := [.int x1]) (rest := [.int 0, .ref qo]) ⟨hx, hb, hml, hown, hts⟩ (m_X5_parentNode l hst D cy tx ad ((qo, .inl (cy 33, 1, .inr (.inl ov))) :: R) _ S x1 (.inr v) he) (cwV 1 hts gL_parentNode_X5_parentNode rfl rfl rfl (by decide +kernel) ⟨Nat.le_of_ble_eq_true rfl, Nat.le_of_ble_eq_true rfl⟩) (va_recv hK hP (ci := 5) (q0 := 0) rfl rfl) hP hK hD hS hA hE rfl hl.1 rfl (Nat.le_of_ble_eq_true rfl) dL_parentNode_4 ⟨Nat.le_of_ble_eq_true rfl, Nat.le_of_ble_eq_true rfl⟩ (fun H locs hP hD hS => ?_)
    refine W.widen (k := 2) (n := 12) (Nat.le_of_ble_eq_true rfl) (Nat.le_of_ble_eq_true rfl) ?_
    refine lv_i2l (v := ((v : Int32).toInt64)) hx hb dL_parentNode_7 rfl ?_
    obtain ⟨f1, ef1, h⟩ := o_bind h
    refine g_last hx hb hK hP hD hS 25 33 rfl rfl ef1 dL_parentNode_8 (fun H locs hP hD hS => ?_)
    have hP : va_P D vwCl (xW cy ad S ((qo, .inl (cy 33, 1, .inr (.inl f1))) :: R)) H := hP
    have hD : va_D A (xW cy ad S ((qo, .inl (cy 33, 1, .inr (.inl f1))) :: R)) := hD
    refine lv_goto (tgt := 18) hx hb dL_parentNode_9 (by decide) ?_
    refine lv_iconst (v := 0) hx hb dL_parentNode_18 (by decide) ?_
    obtain ⟨eS, eo⟩ := Prod.mk.inj (Option.some.inj h)
    obtain ⟨eo, ev⟩ := Prod.mk.inj eo
    subst eS; subst eo
    exact g_iretV hQ hx hb hr hP hK hD hS (Nat.le_of_ble_eq_true rfl) (Nat.le_of_ble_eq_true rfl) dL_parentNode_19 hlocks ev
set_option maxHeartbeats 4000000 in
set_option maxRecDepth 100000 in
theorem m_L_siteOf (l : Launch) (hst : l.stackTraces = false) (D : va_G) (cy : Nat → ClassId) (tx : List (ClassId × FieldType)) (ad : Nat → Nat) (qo : Nat) (R : va_W) (sz : Nat) (S : PS) (ov : (Nat → Int64)) (x1 : Int32) (S' : PS) (ov' : (Nat → Int64)) (k : Int32) (h : q_L_siteOf S ov x1 = some (S', ov', k)) : gLi l yL_siteOf wsL_siteOf ({ frames := 9, cells := 2, slots := 12, locals := 144 }) 2 12 D (gT cy ++ tx) [.ref (ad 0), .int x1, .ref qo] sz (xW cy ad S ((qo, .inl (cy 33, 1, .inr (.inl ov))) :: R)) (xW cy ad S' ((qo, .inl (cy 33, 1, .inr (.inl ov'))) :: R)) k := by
  refine vx_ofWH (cc := cL_siteOf) (maxL := 4) (ret := (some .int)) (hh := [(0, 9, 12, 15), (0, 9, 15, 13)]) (by decide) rfl ?_
  intro p e s m args below meth c s₁ B hml hv
  obtain ⟨hav, hsz, hP, hK, hD0, hE⟩ := hv
  have hx := B.exec
  have hb := B.bytes
  have hr := B.returns
  have hts := atoms_spec (ws := wsL_siteOf) B.pre
  have hown : s.vm.findClass RL = some m.cls := findClass_of_methodNamed B.named
  have hlocks := B.notSynchronized
  have htab := vx_table (x := yL_siteOf) B (hts _ (List.mem_cons_self))
  subst hsz
  have hD := hD0.self (sz := s.heap.size)
  generalize hAe : va_A (xW cy ad S ((qo, .inl (cy 33, 1, .inr (.inl ov))) :: R)) s.heap.size = A at hD hE ⊢
  have hA : ∀ q : Nat, s.heap.size ≤ q → A q := fun q h => by rw [← hAe]; exact Or.inr h
  have hS : va_S A s.heap s.heap [] := va_S.rf
  refine g_entry (n := 4) hav (Nat.le_of_ble_eq_true rfl) (fun ls hl => ?_)
  have hl : lv_has ls 4 [(0, .ref (ad 0)), (1, .int x1), (2, .ref qo)] := hl
  refine g_nameQ (fun Q hQ => ?_)
  unfold q_L_siteOf at h
  refine lv_aload_n hx hb dL_siteOf_0 rfl (lv_at hl 2 rfl) ?_
  refine lv_iconst (v := 0) hx hb dL_siteOf_1 (by decide) ?_
  refine lv_aload_n hx hb dL_siteOf_2 rfl (lv_at hl 0 rfl) ?_
  refine lv_iload_n hx hb dL_siteOf_3 rfl (lv_at hl 1 rfl) ?_
  rcases x_catch h with ⟨e1, he, h⟩ | ⟨v, he, h⟩
  · refine g_tYi (As := [.int x1]) (rest := [.int 0, .ref qo]) ⟨hx, hb, hml, hown, hts⟩ (m_X5_siteOf l hst D cy tx ad ((qo, .inl (cy 33, 1, .inr (.inl ov))) :: R) _ S x1 (.inl e1) he) (cwV 1 hts gL_siteOf_X5_siteOf rfl rfl rfl (by decide +kernel) ⟨Nat.le_of_ble_eq_true rfl, Nat.le_of_ble_eq_true rfl⟩) (va_recv hK hP (ci := 5) (q0 := 0) rfl rfl) hP hK hD hS hA hE rfl hl.1 rfl (Nat.le_of_ble_eq_true rfl) dL_siteOf_4 ⟨Nat.le_of_ble_eq_true rfl, Nat.le_of_ble_eq_true rfl⟩ (fun ce q9 H locs hP hD hS hce hcv hcl => ?_)
    by_cases hk0 : e1 = 2
    · have h := o_pos hk0 h
      subst hk0
      refine vx_catch (name := exN 2) hown [] ⟨0, 9, 12, 15⟩ [⟨0, 9, 15, 13⟩] (by rw [htab]; rfl) (fun z hz => absurd hz List.not_mem_nil) (by decide) (by decide) (hts (.classLink RL 15 "java/lang/IllegalStateException") (by decide +kernel)) (va_Nw.use rfl (hE.2.2.2.1 (.castable "java/lang/IllegalStateException" "java/lang/IllegalStateException") (by decide +kernel))) hce hcv hcl ?_
      refine lv_astore_n (lv' := [(3, .ref q9), (0, .ref (ad 0)), (1, .int x1), (2, .ref qo)]) hx hb dL_siteOf_12 rfl hl (by decide) rfl (fun ls hl => ?_)
      refine lv_iconst (v := 1) hx hb dL_siteOf_13 (by decide) ?_
      obtain ⟨eS, eo⟩ := Prod.mk.inj (Option.some.inj h)
      obtain ⟨eo, ev⟩ := Prod.mk.inj eo
      subst eS; subst eo
      exact g_iretV hQ hx hb hr hP hK hD hS (Nat.le_of_ble_eq_true rfl) (Nat.le_of_ble_eq_true rfl) dL_siteOf_14 hlocks ev
    · have h := o_neg hk0 h
      by_cases hk1 : e1 = 1
      · have h := o_pos hk1 h
        subst hk1
        refine vx_catch (name := exN 1) hown [⟨0, 9, 12, 15⟩] ⟨0, 9, 15, 13⟩ [] (by rw [htab]; rfl) (fun z hz => by rw [List.mem_singleton.mp hz]; exact Or.inr ⟨by decide, exN 2, hts (.classLink RL 15 "java/lang/IllegalStateException") (by decide +kernel), hE.2.2.2.2 1 2 (by decide) (by decide) (by decide)⟩) (by decide) (by decide) (hts (.classLink RL 13 "java/lang/IndexOutOfBoundsException") (by decide +kernel)) (va_Nw.use rfl (hE.2.2.2.1 (.castable "java/lang/IndexOutOfBoundsException" "java/lang/IndexOutOfBoundsException") (by decide +kernel))) hce hcv hcl ?_
        refine lv_astore_n (lv' := [(3, .ref q9), (0, .ref (ad 0)), (1, .int x1), (2, .ref qo)]) hx hb dL_siteOf_15 rfl hl (by decide) rfl (fun ls hl => ?_)
        refine lv_iconst (v := 2) hx hb dL_siteOf_16 (by decide) ?_
        obtain ⟨eS, eo⟩ := Prod.mk.inj (Option.some.inj h)
        obtain ⟨eo, ev⟩ := Prod.mk.inj eo
        subst eS; subst eo
        exact g_iretV hQ hx hb hr hP hK hD hS (Nat.le_of_ble_eq_true rfl) (Nat.le_of_ble_eq_true rfl) dL_siteOf_17 hlocks ev
      · have h := o_neg hk1 h
        cases h
  · refine g_rYi (As := [.int x1]) (rest := [.int 0, .ref qo]) ⟨hx, hb, hml, hown, hts⟩ (m_X5_siteOf l hst D cy tx ad ((qo, .inl (cy 33, 1, .inr (.inl ov))) :: R) _ S x1 (.inr v) he) (cwV 1 hts gL_siteOf_X5_siteOf rfl rfl rfl (by decide +kernel) ⟨Nat.le_of_ble_eq_true rfl, Nat.le_of_ble_eq_true rfl⟩) (va_recv hK hP (ci := 5) (q0 := 0) rfl rfl) hP hK hD hS hA hE rfl hl.1 rfl (Nat.le_of_ble_eq_true rfl) dL_siteOf_4 ⟨Nat.le_of_ble_eq_true rfl, Nat.le_of_ble_eq_true rfl⟩ (fun H locs hP hD hS => ?_)
    refine W.widen (k := 2) (n := 12) (Nat.le_of_ble_eq_true rfl) (Nat.le_of_ble_eq_true rfl) ?_
    refine lv_i2l (v := ((v : Int32).toInt64)) hx hb dL_siteOf_7 rfl ?_
    obtain ⟨f1, ef1, h⟩ := o_bind h
    refine g_last hx hb hK hP hD hS 25 33 rfl rfl ef1 dL_siteOf_8 (fun H locs hP hD hS => ?_)
    have hP : va_P D vwCl (xW cy ad S ((qo, .inl (cy 33, 1, .inr (.inl f1))) :: R)) H := hP
    have hD : va_D A (xW cy ad S ((qo, .inl (cy 33, 1, .inr (.inl f1))) :: R)) := hD
    refine lv_goto (tgt := 18) hx hb dL_siteOf_9 (by decide) ?_
    refine lv_iconst (v := 0) hx hb dL_siteOf_18 (by decide) ?_
    obtain ⟨eS, eo⟩ := Prod.mk.inj (Option.some.inj h)
    obtain ⟨eo, ev⟩ := Prod.mk.inj eo
    subst eS; subst eo
    exact g_iretV hQ hx hb hr hP hK hD hS (Nat.le_of_ble_eq_true rfl) (Nat.le_of_ble_eq_true rfl) dL_siteOf_19 hlocks ev
set_option maxHeartbeats 4000000 in
set_option maxRecDepth 100000 in
theorem m_L_depth (l : Launch) (hst : l.stackTraces = false) (D : va_G) (cy : Nat → ClassId) (tx : List (ClassId × FieldType)) (ad : Nat → Nat) (qo : Nat) (R : va_W) (sz : Nat) (S : PS) (ov : (Nat → Int64)) (x1 : Int32) (S' : PS) (ov' : (Nat → Int64)) (k : Int32) (h : q_L_depth S ov x1 = some (S', ov', k)) : gLi l yL_depth wsL_depth ({ frames := 9, cells := 2, slots := 12, locals := 144 }) 2 12 D (gT cy ++ tx) [.ref (ad 0), .int x1, .ref qo] sz (xW cy ad S ((qo, .inl (cy 33, 1, .inr (.inl ov))) :: R)) (xW cy ad S' ((qo, .inl (cy 33, 1, .inr (.inl ov'))) :: R)) k := by
  refine vx_ofWH (cc := cL_depth) (maxL := 4) (ret := (some .int)) (hh := [(0, 9, 12, 15), (0, 9, 15, 13)]) (by decide) rfl ?_
  intro p e s m args below meth c s₁ B hml hv
  obtain ⟨hav, hsz, hP, hK, hD0, hE⟩ := hv
  have hx := B.exec
  have hb := B.bytes
  have hr := B.returns
  have hts := atoms_spec (ws := wsL_depth) B.pre
  have hown : s.vm.findClass RL = some m.cls := findClass_of_methodNamed B.named
  have hlocks := B.notSynchronized
  have htab := vx_table (x := yL_depth) B (hts _ (List.mem_cons_self))
  subst hsz
  have hD := hD0.self (sz := s.heap.size)
  generalize hAe : va_A (xW cy ad S ((qo, .inl (cy 33, 1, .inr (.inl ov))) :: R)) s.heap.size = A at hD hE ⊢
  have hA : ∀ q : Nat, s.heap.size ≤ q → A q := fun q h => by rw [← hAe]; exact Or.inr h
  have hS : va_S A s.heap s.heap [] := va_S.rf
  refine g_entry (n := 4) hav (Nat.le_of_ble_eq_true rfl) (fun ls hl => ?_)
  have hl : lv_has ls 4 [(0, .ref (ad 0)), (1, .int x1), (2, .ref qo)] := hl
  refine g_nameQ (fun Q hQ => ?_)
  unfold q_L_depth at h
  refine lv_aload_n hx hb dL_depth_0 rfl (lv_at hl 2 rfl) ?_
  refine lv_iconst (v := 0) hx hb dL_depth_1 (by decide) ?_
  refine lv_aload_n hx hb dL_depth_2 rfl (lv_at hl 0 rfl) ?_
  refine lv_iload_n hx hb dL_depth_3 rfl (lv_at hl 1 rfl) ?_
  rcases x_catch h with ⟨e1, he, h⟩ | ⟨v, he, h⟩
  · refine g_tYi (As := [.int x1]) (rest := [.int 0, .ref qo]) ⟨hx, hb, hml, hown, hts⟩ (m_X5_depth l hst D cy tx ad ((qo, .inl (cy 33, 1, .inr (.inl ov))) :: R) _ S x1 (.inl e1) he) (cwV 1 hts gL_depth_X5_depth rfl rfl rfl (by decide +kernel) ⟨Nat.le_of_ble_eq_true rfl, Nat.le_of_ble_eq_true rfl⟩) (va_recv hK hP (ci := 5) (q0 := 0) rfl rfl) hP hK hD hS hA hE rfl hl.1 rfl (Nat.le_of_ble_eq_true rfl) dL_depth_4 ⟨Nat.le_of_ble_eq_true rfl, Nat.le_of_ble_eq_true rfl⟩ (fun ce q9 H locs hP hD hS hce hcv hcl => ?_)
    by_cases hk0 : e1 = 2
    · have h := o_pos hk0 h
      subst hk0
      refine vx_catch (name := exN 2) hown [] ⟨0, 9, 12, 15⟩ [⟨0, 9, 15, 13⟩] (by rw [htab]; rfl) (fun z hz => absurd hz List.not_mem_nil) (by decide) (by decide) (hts (.classLink RL 15 "java/lang/IllegalStateException") (by decide +kernel)) (va_Nw.use rfl (hE.2.2.2.1 (.castable "java/lang/IllegalStateException" "java/lang/IllegalStateException") (by decide +kernel))) hce hcv hcl ?_
      refine lv_astore_n (lv' := [(3, .ref q9), (0, .ref (ad 0)), (1, .int x1), (2, .ref qo)]) hx hb dL_depth_12 rfl hl (by decide) rfl (fun ls hl => ?_)
      refine lv_iconst (v := 1) hx hb dL_depth_13 (by decide) ?_
      obtain ⟨eS, eo⟩ := Prod.mk.inj (Option.some.inj h)
      obtain ⟨eo, ev⟩ := Prod.mk.inj eo
      subst eS; subst eo
      exact g_iretV hQ hx hb hr hP hK hD hS (Nat.le_of_ble_eq_true rfl) (Nat.le_of_ble_eq_true rfl) dL_depth_14 hlocks ev
    · have h := o_neg hk0 h
      by_cases hk1 : e1 = 1
      · have h := o_pos hk1 h
        subst hk1
        refine vx_catch (name := exN 1) hown [⟨0, 9, 12, 15⟩] ⟨0, 9, 15, 13⟩ [] (by rw [htab]; rfl) (fun z hz => by rw [List.mem_singleton.mp hz]; exact Or.inr ⟨by decide, exN 2, hts (.classLink RL 15 "java/lang/IllegalStateException") (by decide +kernel), hE.2.2.2.2 1 2 (by decide) (by decide) (by decide)⟩) (by decide) (by decide) (hts (.classLink RL 13 "java/lang/IndexOutOfBoundsException") (by decide +kernel)) (va_Nw.use rfl (hE.2.2.2.1 (.castable "java/lang/IndexOutOfBoundsException" "java/lang/IndexOutOfBoundsException") (by decide +kernel))) hce hcv hcl ?_
        refine lv_astore_n (lv' := [(3, .ref q9), (0, .ref (ad 0)), (1, .int x1), (2, .ref qo)]) hx hb dL_depth_15 rfl hl (by decide) rfl (fun ls hl => ?_)
        refine lv_iconst (v := 2) hx hb dL_depth_16 (by decide) ?_
        obtain ⟨eS, eo⟩ := Prod.mk.inj (Option.some.inj h)
        obtain ⟨eo, ev⟩ := Prod.mk.inj eo
        subst eS; subst eo
        exact g_iretV hQ hx hb hr hP hK hD hS (Nat.le_of_ble_eq_true rfl) (Nat.le_of_ble_eq_true rfl) dL_depth_17 hlocks ev
      · have h := o_neg hk1 h
        cases h
  · refine g_rYi (As := [.int x1]) (rest := [.int 0, .ref qo]) ⟨hx, hb, hml, hown, hts⟩ (m_X5_depth l hst D cy tx ad ((qo, .inl (cy 33, 1, .inr (.inl ov))) :: R) _ S x1 (.inr v) he) (cwV 1 hts gL_depth_X5_depth rfl rfl rfl (by decide +kernel) ⟨Nat.le_of_ble_eq_true rfl, Nat.le_of_ble_eq_true rfl⟩) (va_recv hK hP (ci := 5) (q0 := 0) rfl rfl) hP hK hD hS hA hE rfl hl.1 rfl (Nat.le_of_ble_eq_true rfl) dL_depth_4 ⟨Nat.le_of_ble_eq_true rfl, Nat.le_of_ble_eq_true rfl⟩ (fun H locs hP hD hS => ?_)
    refine W.widen (k := 2) (n := 12) (Nat.le_of_ble_eq_true rfl) (Nat.le_of_ble_eq_true rfl) ?_
    refine lv_i2l (v := ((v : Int32).toInt64)) hx hb dL_depth_7 rfl ?_
    obtain ⟨f1, ef1, h⟩ := o_bind h
    refine g_last hx hb hK hP hD hS 25 33 rfl rfl ef1 dL_depth_8 (fun H locs hP hD hS => ?_)
    have hP : va_P D vwCl (xW cy ad S ((qo, .inl (cy 33, 1, .inr (.inl f1))) :: R)) H := hP
    have hD : va_D A (xW cy ad S ((qo, .inl (cy 33, 1, .inr (.inl f1))) :: R)) := hD
    refine lv_goto (tgt := 18) hx hb dL_depth_9 (by decide) ?_
    refine lv_iconst (v := 0) hx hb dL_depth_18 (by decide) ?_
    obtain ⟨eS, eo⟩ := Prod.mk.inj (Option.some.inj h)
    obtain ⟨eo, ev⟩ := Prod.mk.inj eo
    subst eS; subst eo
    exact g_iretV hQ hx hb hr hP hK hD hS (Nat.le_of_ble_eq_true rfl) (Nat.le_of_ble_eq_true rfl) dL_depth_19 hlocks ev
set_option maxHeartbeats 4000000 in
set_option maxRecDepth 100000 in
theorem m_L_siteCount (l : Launch) (hst : l.stackTraces = false) (D : va_G) (cy : Nat → ClassId) (tx : List (ClassId × FieldType)) (ad : Nat → Nat) (qo : Nat) (R : va_W) (sz : Nat) (S : PS) (ov : (Nat → Int64)) (x1 : Int32) (S' : PS) (ov' : (Nat → Int64)) (k : Int32) (h : q_L_siteCount S ov x1 = some (S', ov', k)) : gLi l yL_siteCount wsL_siteCount ({ frames := 9, cells := 2, slots := 12, locals := 144 }) 2 12 D (gT cy ++ tx) [.ref (ad 0), .int x1, .ref qo] sz (xW cy ad S ((qo, .inl (cy 33, 1, .inr (.inl ov))) :: R)) (xW cy ad S' ((qo, .inl (cy 33, 1, .inr (.inl ov'))) :: R)) k := by
  refine vx_ofWH (cc := cL_siteCount) (maxL := 4) (ret := (some .int)) (hh := [(0, 9, 12, 15), (0, 9, 15, 13)]) (by decide) rfl ?_
  intro p e s m args below meth c s₁ B hml hv
  obtain ⟨hav, hsz, hP, hK, hD0, hE⟩ := hv
  have hx := B.exec
  have hb := B.bytes
  have hr := B.returns
  have hts := atoms_spec (ws := wsL_siteCount) B.pre
  have hown : s.vm.findClass RL = some m.cls := findClass_of_methodNamed B.named
  have hlocks := B.notSynchronized
  have htab := vx_table (x := yL_siteCount) B (hts _ (List.mem_cons_self))
  subst hsz
  have hD := hD0.self (sz := s.heap.size)
  generalize hAe : va_A (xW cy ad S ((qo, .inl (cy 33, 1, .inr (.inl ov))) :: R)) s.heap.size = A at hD hE ⊢
  have hA : ∀ q : Nat, s.heap.size ≤ q → A q := fun q h => by rw [← hAe]; exact Or.inr h
  have hS : va_S A s.heap s.heap [] := va_S.rf
  refine g_entry (n := 4) hav (Nat.le_of_ble_eq_true rfl) (fun ls hl => ?_)
  have hl : lv_has ls 4 [(0, .ref (ad 0)), (1, .int x1), (2, .ref qo)] := hl
  refine g_nameQ (fun Q hQ => ?_)
  unfold q_L_siteCount at h
  refine lv_aload_n hx hb dL_siteCount_0 rfl (lv_at hl 2 rfl) ?_
  refine lv_iconst (v := 0) hx hb dL_siteCount_1 (by decide) ?_
  refine lv_aload_n hx hb dL_siteCount_2 rfl (lv_at hl 0 rfl) ?_
  refine lv_iload_n hx hb dL_siteCount_3 rfl (lv_at hl 1 rfl) ?_
  rcases x_catch h with ⟨e1, he, h⟩ | ⟨v, he, h⟩
  · refine g_tYi (As := [.int x1]) (rest := [.int 0, .ref qo]) ⟨hx, hb, hml, hown, hts⟩ (m_X5_siteCount l hst D cy tx ad ((qo, .inl (cy 33, 1, .inr (.inl ov))) :: R) _ S x1 (.inl e1) he) (cwV 1 hts gL_siteCount_X5_siteCount rfl rfl rfl (by decide +kernel) ⟨Nat.le_of_ble_eq_true rfl, Nat.le_of_ble_eq_true rfl⟩) (va_recv hK hP (ci := 5) (q0 := 0) rfl rfl) hP hK hD hS hA hE rfl hl.1 rfl (Nat.le_of_ble_eq_true rfl) dL_siteCount_4 ⟨Nat.le_of_ble_eq_true rfl, Nat.le_of_ble_eq_true rfl⟩ (fun ce q9 H locs hP hD hS hce hcv hcl => ?_)
    by_cases hk0 : e1 = 2
    · have h := o_pos hk0 h
      subst hk0
      refine vx_catch (name := exN 2) hown [] ⟨0, 9, 12, 15⟩ [⟨0, 9, 15, 13⟩] (by rw [htab]; rfl) (fun z hz => absurd hz List.not_mem_nil) (by decide) (by decide) (hts (.classLink RL 15 "java/lang/IllegalStateException") (by decide +kernel)) (va_Nw.use rfl (hE.2.2.2.1 (.castable "java/lang/IllegalStateException" "java/lang/IllegalStateException") (by decide +kernel))) hce hcv hcl ?_
      refine lv_astore_n (lv' := [(3, .ref q9), (0, .ref (ad 0)), (1, .int x1), (2, .ref qo)]) hx hb dL_siteCount_12 rfl hl (by decide) rfl (fun ls hl => ?_)
      refine lv_iconst (v := 1) hx hb dL_siteCount_13 (by decide) ?_
      obtain ⟨eS, eo⟩ := Prod.mk.inj (Option.some.inj h)
      obtain ⟨eo, ev⟩ := Prod.mk.inj eo
      subst eS; subst eo
      exact g_iretV hQ hx hb hr hP hK hD hS (Nat.le_of_ble_eq_true rfl) (Nat.le_of_ble_eq_true rfl) dL_siteCount_14 hlocks ev
    · have h := o_neg hk0 h
      by_cases hk1 : e1 = 1
      · have h := o_pos hk1 h
        subst hk1
        refine vx_catch (name := exN 1) hown [⟨0, 9, 12, 15⟩] ⟨0, 9, 15, 13⟩ [] (by rw [htab]; rfl) (fun z hz => by rw [List.mem_singleton.mp hz]; exact Or.inr ⟨by decide, exN 2, hts (.classLink RL 15 "java/lang/IllegalStateException") (by decide +kernel), hE.2.2.2.2 1 2 (by decide) (by decide) (by decide)⟩) (by decide) (by decide) (hts (.classLink RL 13 "java/lang/IndexOutOfBoundsException") (by decide +kernel)) (va_Nw.use rfl (hE.2.2.2.1 (.castable "java/lang/IndexOutOfBoundsException" "java/lang/IndexOutOfBoundsException") (by decide +kernel))) hce hcv hcl ?_
        refine lv_astore_n (lv' := [(3, .ref q9), (0, .ref (ad 0)), (1, .int x1), (2, .ref qo)]) hx hb dL_siteCount_15 rfl hl (by decide) rfl (fun ls hl => ?_)
        refine lv_iconst (v := 2) hx hb dL_siteCount_16 (by decide) ?_
        obtain ⟨eS, eo⟩ := Prod.mk.inj (Option.some.inj h)
        obtain ⟨eo, ev⟩ := Prod.mk.inj eo
        subst eS; subst eo
        exact g_iretV hQ hx hb hr hP hK hD hS (Nat.le_of_ble_eq_true rfl) (Nat.le_of_ble_eq_true rfl) dL_siteCount_17 hlocks ev
      · have h := o_neg hk1 h
        cases h
  · refine g_rYi (As := [.int x1]) (rest := [.int 0, .ref qo]) ⟨hx, hb, hml, hown, hts⟩ (m_X5_siteCount l hst D cy tx ad ((qo, .inl (cy 33, 1, .inr (.inl ov))) :: R) _ S x1 (.inr v) he) (cwV 1 hts gL_siteCount_X5_siteCount rfl rfl rfl (by decide +kernel) ⟨Nat.le_of_ble_eq_true rfl, Nat.le_of_ble_eq_true rfl⟩) (va_recv hK hP (ci := 5) (q0 := 0) rfl rfl) hP hK hD hS hA hE rfl hl.1 rfl (Nat.le_of_ble_eq_true rfl) dL_siteCount_4 ⟨Nat.le_of_ble_eq_true rfl, Nat.le_of_ble_eq_true rfl⟩ (fun H locs hP hD hS => ?_)
    refine W.widen (k := 2) (n := 12) (Nat.le_of_ble_eq_true rfl) (Nat.le_of_ble_eq_true rfl) ?_
    refine lv_i2l (v := ((v : Int32).toInt64)) hx hb dL_siteCount_7 rfl ?_
    obtain ⟨f1, ef1, h⟩ := o_bind h
    refine g_last hx hb hK hP hD hS 25 33 rfl rfl ef1 dL_siteCount_8 (fun H locs hP hD hS => ?_)
    have hP : va_P D vwCl (xW cy ad S ((qo, .inl (cy 33, 1, .inr (.inl f1))) :: R)) H := hP
    have hD : va_D A (xW cy ad S ((qo, .inl (cy 33, 1, .inr (.inl f1))) :: R)) := hD
    refine lv_goto (tgt := 18) hx hb dL_siteCount_9 (by decide) ?_
    refine lv_iconst (v := 0) hx hb dL_siteCount_18 (by decide) ?_
    obtain ⟨eS, eo⟩ := Prod.mk.inj (Option.some.inj h)
    obtain ⟨eo, ev⟩ := Prod.mk.inj eo
    subst eS; subst eo
    exact g_iretV hQ hx hb hr hP hK hD hS (Nat.le_of_ble_eq_true rfl) (Nat.le_of_ble_eq_true rfl) dL_siteCount_19 hlocks ev
set_option maxHeartbeats 4000000 in
set_option maxRecDepth 100000 in
theorem m_L_verdict (l : Launch) (hst : l.stackTraces = false) (D : va_G) (cy : Nat → ClassId) (tx : List (ClassId × FieldType)) (ad : Nat → Nat) (qo : Nat) (R : va_W) (sz : Nat) (S : PS) (ov : (Nat → Int64)) (x1 : Int32) (x2 : Int32) (S' : PS) (ov' : (Nat → Int64)) (k : Int32) (h : q_L_verdict S ov x1 x2 = some (S', ov', k)) : gLi l yL_verdict wsL_verdict ({ frames := 10, cells := 3, slots := 18, locals := 167 }) 3 18 D (gT cy ++ tx) [.ref (ad 0), .int x1, .int x2, .ref qo] sz (xW cy ad S ((qo, .inl (cy 33, 1, .inr (.inl ov))) :: R)) (xW cy ad S' ((qo, .inl (cy 33, 1, .inr (.inl ov'))) :: R)) k := by
  refine vx_ofWH (cc := cL_verdict) (maxL := 5) (ret := (some .int)) (hh := [(0, 10, 13, 15), (0, 10, 17, 13)]) (by decide) rfl ?_
  intro p e s m args below meth c s₁ B hml hv
  obtain ⟨hav, hsz, hP, hK, hD0, hE⟩ := hv
  have hx := B.exec
  have hb := B.bytes
  have hr := B.returns
  have hts := atoms_spec (ws := wsL_verdict) B.pre
  have hown : s.vm.findClass RL = some m.cls := findClass_of_methodNamed B.named
  have hlocks := B.notSynchronized
  have htab := vx_table (x := yL_verdict) B (hts _ (List.mem_cons_self))
  subst hsz
  have hD := hD0.self (sz := s.heap.size)
  generalize hAe : va_A (xW cy ad S ((qo, .inl (cy 33, 1, .inr (.inl ov))) :: R)) s.heap.size = A at hD hE ⊢
  have hA : ∀ q : Nat, s.heap.size ≤ q → A q := fun q h => by rw [← hAe]; exact Or.inr h
  have hS : va_S A s.heap s.heap [] := va_S.rf
  refine g_entry (n := 5) hav (Nat.le_of_ble_eq_true rfl) (fun ls hl => ?_)
  have hl : lv_has ls 5 [(0, .ref (ad 0)), (1, .int x1), (2, .int x2), (3, .ref qo)] := hl
  refine g_nameQ (fun Q hQ => ?_)
  unfold q_L_verdict at h
  refine lv_aload_n hx hb dL_verdict_0 rfl (lv_at hl 3 rfl) ?_
  refine lv_iconst (v := 0) hx hb dL_verdict_1 (by decide) ?_
  refine lv_aload_n hx hb dL_verdict_2 rfl (lv_at hl 0 rfl) ?_
  refine lv_iload_n hx hb dL_verdict_3 rfl (lv_at hl 1 rfl) ?_
  refine lv_iload_n hx hb dL_verdict_4 rfl (lv_at hl 2 rfl) ?_
  rcases x_catch h with ⟨e1, he, h⟩ | ⟨v, he, h⟩
  · refine g_tYi (As := [.int x1, .int x2]) (rest := [.int 0, .ref qo]) ⟨hx, hb, hml, hown, hts⟩ (m_X5_verdict l hst D cy tx ad ((qo, .inl (cy 33, 1, .inr (.inl ov))) :: R) _ S x1 x2 (.inl e1) he) (cwV 2 hts gL_verdict_X5_verdict rfl rfl rfl (by decide +kernel) ⟨Nat.le_of_ble_eq_true rfl, Nat.le_of_ble_eq_true rfl⟩) (va_recv hK hP (ci := 5) (q0 := 0) rfl rfl) hP hK hD hS hA hE rfl hl.1 rfl (Nat.le_of_ble_eq_true rfl) dL_verdict_5 ⟨Nat.le_of_ble_eq_true rfl, Nat.le_of_ble_eq_true rfl⟩ (fun ce q9 H locs hP hD hS hce hcv hcl => ?_)
    by_cases hk0 : e1 = 2
    · have h := o_pos hk0 h
      subst hk0
      refine vx_catch (name := exN 2) hown [] ⟨0, 10, 13, 15⟩ [⟨0, 10, 17, 13⟩] (by rw [htab]; rfl) (fun z hz => absurd hz List.not_mem_nil) (by decide) (by decide) (hts (.classLink RL 15 "java/lang/IllegalStateException") (by decide +kernel)) (va_Nw.use rfl (hE.2.2.2.1 (.castable "java/lang/IllegalStateException" "java/lang/IllegalStateException") (by decide +kernel))) hce hcv hcl ?_
      refine lv_astore (lv' := [(4, .ref q9), (0, .ref (ad 0)), (1, .int x1), (2, .int x2), (3, .ref qo)]) hx hb dL_verdict_13 hl (by decide) rfl (fun ls hl => ?_)
      refine lv_iconst (v := 1) hx hb dL_verdict_15 (by decide) ?_
      obtain ⟨eS, eo⟩ := Prod.mk.inj (Option.some.inj h)
      obtain ⟨eo, ev⟩ := Prod.mk.inj eo
      subst eS; subst eo
      exact g_iretV hQ hx hb hr hP hK hD hS (Nat.le_of_ble_eq_true rfl) (Nat.le_of_ble_eq_true rfl) dL_verdict_16 hlocks ev
    · have h := o_neg hk0 h
      by_cases hk1 : e1 = 1
      · have h := o_pos hk1 h
        subst hk1
        refine vx_catch (name := exN 1) hown [⟨0, 10, 13, 15⟩] ⟨0, 10, 17, 13⟩ [] (by rw [htab]; rfl) (fun z hz => by rw [List.mem_singleton.mp hz]; exact Or.inr ⟨by decide, exN 2, hts (.classLink RL 15 "java/lang/IllegalStateException") (by decide +kernel), hE.2.2.2.2 1 2 (by decide) (by decide) (by decide)⟩) (by decide) (by decide) (hts (.classLink RL 13 "java/lang/IndexOutOfBoundsException") (by decide +kernel)) (va_Nw.use rfl (hE.2.2.2.1 (.castable "java/lang/IndexOutOfBoundsException" "java/lang/IndexOutOfBoundsException") (by decide +kernel))) hce hcv hcl ?_
        refine lv_astore (lv' := [(4, .ref q9), (0, .ref (ad 0)), (1, .int x1), (2, .int x2), (3, .ref qo)]) hx hb dL_verdict_17 hl (by decide) rfl (fun ls hl => ?_)
        refine lv_iconst (v := 2) hx hb dL_verdict_19 (by decide) ?_
        obtain ⟨eS, eo⟩ := Prod.mk.inj (Option.some.inj h)
        obtain ⟨eo, ev⟩ := Prod.mk.inj eo
        subst eS; subst eo
        exact g_iretV hQ hx hb hr hP hK hD hS (Nat.le_of_ble_eq_true rfl) (Nat.le_of_ble_eq_true rfl) dL_verdict_20 hlocks ev
      · have h := o_neg hk1 h
        cases h
  · refine g_rYi (As := [.int x1, .int x2]) (rest := [.int 0, .ref qo]) ⟨hx, hb, hml, hown, hts⟩ (m_X5_verdict l hst D cy tx ad ((qo, .inl (cy 33, 1, .inr (.inl ov))) :: R) _ S x1 x2 (.inr v) he) (cwV 2 hts gL_verdict_X5_verdict rfl rfl rfl (by decide +kernel) ⟨Nat.le_of_ble_eq_true rfl, Nat.le_of_ble_eq_true rfl⟩) (va_recv hK hP (ci := 5) (q0 := 0) rfl rfl) hP hK hD hS hA hE rfl hl.1 rfl (Nat.le_of_ble_eq_true rfl) dL_verdict_5 ⟨Nat.le_of_ble_eq_true rfl, Nat.le_of_ble_eq_true rfl⟩ (fun H locs hP hD hS => ?_)
    refine W.widen (k := 3) (n := 18) (Nat.le_of_ble_eq_true rfl) (Nat.le_of_ble_eq_true rfl) ?_
    refine lv_i2l (v := ((v : Int32).toInt64)) hx hb dL_verdict_8 rfl ?_
    obtain ⟨f1, ef1, h⟩ := o_bind h
    refine g_last hx hb hK hP hD hS 25 33 rfl rfl ef1 dL_verdict_9 (fun H locs hP hD hS => ?_)
    have hP : va_P D vwCl (xW cy ad S ((qo, .inl (cy 33, 1, .inr (.inl f1))) :: R)) H := hP
    have hD : va_D A (xW cy ad S ((qo, .inl (cy 33, 1, .inr (.inl f1))) :: R)) := hD
    refine lv_goto (tgt := 21) hx hb dL_verdict_10 (by decide) ?_
    refine lv_iconst (v := 0) hx hb dL_verdict_21 (by decide) ?_
    obtain ⟨eS, eo⟩ := Prod.mk.inj (Option.some.inj h)
    obtain ⟨eo, ev⟩ := Prod.mk.inj eo
    subst eS; subst eo
    exact g_iretV hQ hx hb hr hP hK hD hS (Nat.le_of_ble_eq_true rfl) (Nat.le_of_ble_eq_true rfl) dL_verdict_22 hlocks ev
set_option maxHeartbeats 4000000 in
set_option maxRecDepth 100000 in
theorem m_L_weight (l : Launch) (hst : l.stackTraces = false) (D : va_G) (cy : Nat → ClassId) (tx : List (ClassId × FieldType)) (ad : Nat → Nat) (qo : Nat) (R : va_W) (sz : Nat) (S : PS) (ov : (Nat → Int64)) (x1 : Int32) (x2 : Int32) (S' : PS) (ov' : (Nat → Int64)) (k : Int32) (h : q_L_weight S ov x1 x2 = some (S', ov', k)) : gLi l yL_weight wsL_weight ({ frames := 10, cells := 3, slots := 18, locals := 167 }) 3 18 D (gT cy ++ tx) [.ref (ad 0), .int x1, .int x2, .ref qo] sz (xW cy ad S ((qo, .inl (cy 33, 1, .inr (.inl ov))) :: R)) (xW cy ad S' ((qo, .inl (cy 33, 1, .inr (.inl ov'))) :: R)) k := by
  refine vx_ofWH (cc := cL_weight) (maxL := 5) (ret := (some .int)) (hh := [(0, 10, 13, 15), (0, 10, 17, 13)]) (by decide) rfl ?_
  intro p e s m args below meth c s₁ B hml hv
  obtain ⟨hav, hsz, hP, hK, hD0, hE⟩ := hv
  have hx := B.exec
  have hb := B.bytes
  have hr := B.returns
  have hts := atoms_spec (ws := wsL_weight) B.pre
  have hown : s.vm.findClass RL = some m.cls := findClass_of_methodNamed B.named
  have hlocks := B.notSynchronized
  have htab := vx_table (x := yL_weight) B (hts _ (List.mem_cons_self))
  subst hsz
  have hD := hD0.self (sz := s.heap.size)
  generalize hAe : va_A (xW cy ad S ((qo, .inl (cy 33, 1, .inr (.inl ov))) :: R)) s.heap.size = A at hD hE ⊢
  have hA : ∀ q : Nat, s.heap.size ≤ q → A q := fun q h => by rw [← hAe]; exact Or.inr h
  have hS : va_S A s.heap s.heap [] := va_S.rf
  refine g_entry (n := 5) hav (Nat.le_of_ble_eq_true rfl) (fun ls hl => ?_)
  have hl : lv_has ls 5 [(0, .ref (ad 0)), (1, .int x1), (2, .int x2), (3, .ref qo)] := hl
  refine g_nameQ (fun Q hQ => ?_)
  unfold q_L_weight at h
  refine lv_aload_n hx hb dL_weight_0 rfl (lv_at hl 3 rfl) ?_
  refine lv_iconst (v := 0) hx hb dL_weight_1 (by decide) ?_
  refine lv_aload_n hx hb dL_weight_2 rfl (lv_at hl 0 rfl) ?_
  refine lv_iload_n hx hb dL_weight_3 rfl (lv_at hl 1 rfl) ?_
  refine lv_iload_n hx hb dL_weight_4 rfl (lv_at hl 2 rfl) ?_
  rcases x_catch h with ⟨e1, he, h⟩ | ⟨v, he, h⟩
  · refine g_tYi (As := [.int x1, .int x2]) (rest := [.int 0, .ref qo]) ⟨hx, hb, hml, hown, hts⟩ (m_X5_weight l hst D cy tx ad ((qo, .inl (cy 33, 1, .inr (.inl ov))) :: R) _ S x1 x2 (.inl e1) he) (cwV 2 hts gL_weight_X5_weight rfl rfl rfl (by decide +kernel) ⟨Nat.le_of_ble_eq_true rfl, Nat.le_of_ble_eq_true rfl⟩) (va_recv hK hP (ci := 5) (q0 := 0) rfl rfl) hP hK hD hS hA hE rfl hl.1 rfl (Nat.le_of_ble_eq_true rfl) dL_weight_5 ⟨Nat.le_of_ble_eq_true rfl, Nat.le_of_ble_eq_true rfl⟩ (fun ce q9 H locs hP hD hS hce hcv hcl => ?_)
    by_cases hk0 : e1 = 2
    · have h := o_pos hk0 h
      subst hk0
      refine vx_catch (name := exN 2) hown [] ⟨0, 10, 13, 15⟩ [⟨0, 10, 17, 13⟩] (by rw [htab]; rfl) (fun z hz => absurd hz List.not_mem_nil) (by decide) (by decide) (hts (.classLink RL 15 "java/lang/IllegalStateException") (by decide +kernel)) (va_Nw.use rfl (hE.2.2.2.1 (.castable "java/lang/IllegalStateException" "java/lang/IllegalStateException") (by decide +kernel))) hce hcv hcl ?_
      refine lv_astore (lv' := [(4, .ref q9), (0, .ref (ad 0)), (1, .int x1), (2, .int x2), (3, .ref qo)]) hx hb dL_weight_13 hl (by decide) rfl (fun ls hl => ?_)
      refine lv_iconst (v := 1) hx hb dL_weight_15 (by decide) ?_
      obtain ⟨eS, eo⟩ := Prod.mk.inj (Option.some.inj h)
      obtain ⟨eo, ev⟩ := Prod.mk.inj eo
      subst eS; subst eo
      exact g_iretV hQ hx hb hr hP hK hD hS (Nat.le_of_ble_eq_true rfl) (Nat.le_of_ble_eq_true rfl) dL_weight_16 hlocks ev
    · have h := o_neg hk0 h
      by_cases hk1 : e1 = 1
      · have h := o_pos hk1 h
        subst hk1
        refine vx_catch (name := exN 1) hown [⟨0, 10, 13, 15⟩] ⟨0, 10, 17, 13⟩ [] (by rw [htab]; rfl) (fun z hz => by rw [List.mem_singleton.mp hz]; exact Or.inr ⟨by decide, exN 2, hts (.classLink RL 15 "java/lang/IllegalStateException") (by decide +kernel), hE.2.2.2.2 1 2 (by decide) (by decide) (by decide)⟩) (by decide) (by decide) (hts (.classLink RL 13 "java/lang/IndexOutOfBoundsException") (by decide +kernel)) (va_Nw.use rfl (hE.2.2.2.1 (.castable "java/lang/IndexOutOfBoundsException" "java/lang/IndexOutOfBoundsException") (by decide +kernel))) hce hcv hcl ?_
        refine lv_astore (lv' := [(4, .ref q9), (0, .ref (ad 0)), (1, .int x1), (2, .int x2), (3, .ref qo)]) hx hb dL_weight_17 hl (by decide) rfl (fun ls hl => ?_)
        refine lv_iconst (v := 2) hx hb dL_weight_19 (by decide) ?_
        obtain ⟨eS, eo⟩ := Prod.mk.inj (Option.some.inj h)
        obtain ⟨eo, ev⟩ := Prod.mk.inj eo
        subst eS; subst eo
        exact g_iretV hQ hx hb hr hP hK hD hS (Nat.le_of_ble_eq_true rfl) (Nat.le_of_ble_eq_true rfl) dL_weight_20 hlocks ev
      · have h := o_neg hk1 h
        cases h
  · refine g_rYi (As := [.int x1, .int x2]) (rest := [.int 0, .ref qo]) ⟨hx, hb, hml, hown, hts⟩ (m_X5_weight l hst D cy tx ad ((qo, .inl (cy 33, 1, .inr (.inl ov))) :: R) _ S x1 x2 (.inr v) he) (cwV 2 hts gL_weight_X5_weight rfl rfl rfl (by decide +kernel) ⟨Nat.le_of_ble_eq_true rfl, Nat.le_of_ble_eq_true rfl⟩) (va_recv hK hP (ci := 5) (q0 := 0) rfl rfl) hP hK hD hS hA hE rfl hl.1 rfl (Nat.le_of_ble_eq_true rfl) dL_weight_5 ⟨Nat.le_of_ble_eq_true rfl, Nat.le_of_ble_eq_true rfl⟩ (fun H locs hP hD hS => ?_)
    refine W.widen (k := 3) (n := 18) (Nat.le_of_ble_eq_true rfl) (Nat.le_of_ble_eq_true rfl) ?_
    refine lv_i2l (v := ((v : Int32).toInt64)) hx hb dL_weight_8 rfl ?_
    obtain ⟨f1, ef1, h⟩ := o_bind h
    refine g_last hx hb hK hP hD hS 25 33 rfl rfl ef1 dL_weight_9 (fun H locs hP hD hS => ?_)
    have hP : va_P D vwCl (xW cy ad S ((qo, .inl (cy 33, 1, .inr (.inl f1))) :: R)) H := hP
    have hD : va_D A (xW cy ad S ((qo, .inl (cy 33, 1, .inr (.inl f1))) :: R)) := hD
    refine lv_goto (tgt := 21) hx hb dL_weight_10 (by decide) ?_
    refine lv_iconst (v := 0) hx hb dL_weight_21 (by decide) ?_
    obtain ⟨eS, eo⟩ := Prod.mk.inj (Option.some.inj h)
    obtain ⟨eo, ev⟩ := Prod.mk.inj eo
    subst eS; subst eo
    exact g_iretV hQ hx hb hr hP hK hD hS (Nat.le_of_ble_eq_true rfl) (Nat.le_of_ble_eq_true rfl) dL_weight_22 hlocks ev
set_option maxHeartbeats 4000000 in
set_option maxRecDepth 100000 in
theorem m_L_weightOf (l : Launch) (hst : l.stackTraces = false) (D : va_G) (cy : Nat → ClassId) (tx : List (ClassId × FieldType)) (ad : Nat → Nat) (qo : Nat) (R : va_W) (sz : Nat) (S : PS) (ov : (Nat → Int64)) (x1 : Int32) (S' : PS) (ov' : (Nat → Int64)) (k : Int32) (h : q_L_weightOf S ov x1 = some (S', ov', k)) : gLi l yL_weightOf wsL_weightOf ({ frames := 8, cells := 2, slots := 12, locals := 123 }) 2 12 D (gT cy ++ tx) [.ref (ad 0), .int x1, .ref qo] sz (xW cy ad S ((qo, .inl (cy 33, 1, .inr (.inl ov))) :: R)) (xW cy ad S' ((qo, .inl (cy 33, 1, .inr (.inl ov'))) :: R)) k := by
  refine vx_ofWH (cc := cL_weightOf) (maxL := 4) (ret := (some .int)) (hh := [(0, 8, 11, 15), (0, 8, 14, 13)]) (by decide) rfl ?_
  intro p e s m args below meth c s₁ B hml hv
  obtain ⟨hav, hsz, hP, hK, hD0, hE⟩ := hv
  have hx := B.exec
  have hb := B.bytes
  have hr := B.returns
  have hts := atoms_spec (ws := wsL_weightOf) B.pre
  have hown : s.vm.findClass RL = some m.cls := findClass_of_methodNamed B.named
  have hlocks := B.notSynchronized
  have htab := vx_table (x := yL_weightOf) B (hts _ (List.mem_cons_self))
  subst hsz
  have hD := hD0.self (sz := s.heap.size)
  generalize hAe : va_A (xW cy ad S ((qo, .inl (cy 33, 1, .inr (.inl ov))) :: R)) s.heap.size = A at hD hE ⊢
  have hA : ∀ q : Nat, s.heap.size ≤ q → A q := fun q h => by rw [← hAe]; exact Or.inr h
  have hS : va_S A s.heap s.heap [] := va_S.rf
  refine g_entry (n := 4) hav (Nat.le_of_ble_eq_true rfl) (fun ls hl => ?_)
  have hl : lv_has ls 4 [(0, .ref (ad 0)), (1, .int x1), (2, .ref qo)] := hl
  refine g_nameQ (fun Q hQ => ?_)
  unfold q_L_weightOf at h
  refine lv_aload_n hx hb dL_weightOf_0 rfl (lv_at hl 2 rfl) ?_
  refine lv_iconst (v := 0) hx hb dL_weightOf_1 (by decide) ?_
  refine lv_aload_n hx hb dL_weightOf_2 rfl (lv_at hl 0 rfl) ?_
  refine lv_iload_n hx hb dL_weightOf_3 rfl (lv_at hl 1 rfl) ?_
  rcases x_catch h with ⟨e1, he, h⟩ | ⟨v, he, h⟩
  · refine g_tYl (As := [.int x1]) (rest := [.int 0, .ref qo]) ⟨hx, hb, hml, hown, hts⟩ (m_X5_weightOf l hst D cy tx ad ((qo, .inl (cy 33, 1, .inr (.inl ov))) :: R) _ S x1 (.inl e1) he) (cwV 1 hts gL_weightOf_X5_weightOf rfl rfl rfl (by decide +kernel) ⟨Nat.le_of_ble_eq_true rfl, Nat.le_of_ble_eq_true rfl⟩) (va_recv hK hP (ci := 5) (q0 := 0) rfl rfl) hP hK hD hS hA hE rfl hl.1 rfl (Nat.le_of_ble_eq_true rfl) dL_weightOf_4 ⟨Nat.le_of_ble_eq_true rfl, Nat.le_of_ble_eq_true rfl⟩ (fun ce q9 H locs hP hD hS hce hcv hcl => ?_)
    by_cases hk0 : e1 = 2
    · have h := o_pos hk0 h
      subst hk0
      refine vx_catch (name := exN 2) hown [] ⟨0, 8, 11, 15⟩ [⟨0, 8, 14, 13⟩] (by rw [htab]; rfl) (fun z hz => absurd hz List.not_mem_nil) (by decide) (by decide) (hts (.classLink RL 15 "java/lang/IllegalStateException") (by decide +kernel)) (va_Nw.use rfl (hE.2.2.2.1 (.castable "java/lang/IllegalStateException" "java/lang/IllegalStateException") (by decide +kernel))) hce hcv hcl ?_
      refine lv_astore_n (lv' := [(3, .ref q9), (0, .ref (ad 0)), (1, .int x1), (2, .ref qo)]) hx hb dL_weightOf_11 rfl hl (by decide) rfl (fun ls hl => ?_)
      refine lv_iconst (v := 1) hx hb dL_weightOf_12 (by decide) ?_
      obtain ⟨eS, eo⟩ := Prod.mk.inj (Option.some.inj h)
      obtain ⟨eo, ev⟩ := Prod.mk.inj eo
      subst eS; subst eo
      exact g_iretV hQ hx hb hr hP hK hD hS (Nat.le_of_ble_eq_true rfl) (Nat.le_of_ble_eq_true rfl) dL_weightOf_13 hlocks ev
    · have h := o_neg hk0 h
      by_cases hk1 : e1 = 1
      · have h := o_pos hk1 h
        subst hk1
        refine vx_catch (name := exN 1) hown [⟨0, 8, 11, 15⟩] ⟨0, 8, 14, 13⟩ [] (by rw [htab]; rfl) (fun z hz => by rw [List.mem_singleton.mp hz]; exact Or.inr ⟨by decide, exN 2, hts (.classLink RL 15 "java/lang/IllegalStateException") (by decide +kernel), hE.2.2.2.2 1 2 (by decide) (by decide) (by decide)⟩) (by decide) (by decide) (hts (.classLink RL 13 "java/lang/IndexOutOfBoundsException") (by decide +kernel)) (va_Nw.use rfl (hE.2.2.2.1 (.castable "java/lang/IndexOutOfBoundsException" "java/lang/IndexOutOfBoundsException") (by decide +kernel))) hce hcv hcl ?_
        refine lv_astore_n (lv' := [(3, .ref q9), (0, .ref (ad 0)), (1, .int x1), (2, .ref qo)]) hx hb dL_weightOf_14 rfl hl (by decide) rfl (fun ls hl => ?_)
        refine lv_iconst (v := 2) hx hb dL_weightOf_15 (by decide) ?_
        obtain ⟨eS, eo⟩ := Prod.mk.inj (Option.some.inj h)
        obtain ⟨eo, ev⟩ := Prod.mk.inj eo
        subst eS; subst eo
        exact g_iretV hQ hx hb hr hP hK hD hS (Nat.le_of_ble_eq_true rfl) (Nat.le_of_ble_eq_true rfl) dL_weightOf_16 hlocks ev
      · have h := o_neg hk1 h
        cases h
  · refine g_rYl (As := [.int x1]) (rest := [.int 0, .ref qo]) ⟨hx, hb, hml, hown, hts⟩ (m_X5_weightOf l hst D cy tx ad ((qo, .inl (cy 33, 1, .inr (.inl ov))) :: R) _ S x1 (.inr v) he) (cwV 1 hts gL_weightOf_X5_weightOf rfl rfl rfl (by decide +kernel) ⟨Nat.le_of_ble_eq_true rfl, Nat.le_of_ble_eq_true rfl⟩) (va_recv hK hP (ci := 5) (q0 := 0) rfl rfl) hP hK hD hS hA hE rfl hl.1 rfl (Nat.le_of_ble_eq_true rfl) dL_weightOf_4 ⟨Nat.le_of_ble_eq_true rfl, Nat.le_of_ble_eq_true rfl⟩ (fun H locs hP hD hS => ?_)
    refine W.widen (k := 2) (n := 12) (Nat.le_of_ble_eq_true rfl) (Nat.le_of_ble_eq_true rfl) ?_
    obtain ⟨f1, ef1, h⟩ := o_bind h
    refine g_last hx hb hK hP hD hS 25 33 rfl rfl ef1 dL_weightOf_7 (fun H locs hP hD hS => ?_)
    have hP : va_P D vwCl (xW cy ad S ((qo, .inl (cy 33, 1, .inr (.inl f1))) :: R)) H := hP
    have hD : va_D A (xW cy ad S ((qo, .inl (cy 33, 1, .inr (.inl f1))) :: R)) := hD
    refine lv_goto (tgt := 17) hx hb dL_weightOf_8 (by decide) ?_
    refine lv_iconst (v := 0) hx hb dL_weightOf_17 (by decide) ?_
    obtain ⟨eS, eo⟩ := Prod.mk.inj (Option.some.inj h)
    obtain ⟨eo, ev⟩ := Prod.mk.inj eo
    subst eS; subst eo
    exact g_iretV hQ hx hb hr hP hK hD hS (Nat.le_of_ble_eq_true rfl) (Nat.le_of_ble_eq_true rfl) dL_weightOf_18 hlocks ev
set_option maxHeartbeats 4000000 in
set_option maxRecDepth 100000 in
theorem m_L_share (l : Launch) (hst : l.stackTraces = false) (D : va_G) (cy : Nat → ClassId) (tx : List (ClassId × FieldType)) (ad : Nat → Nat) (qo : Nat) (R : va_W) (sz : Nat) (S : PS) (ov : (Nat → UInt64))  (S' : PS) (ov' : (Nat → UInt64)) (k : Int32) (h : q_L_share S ov = some (S', ov', k)) : gLi l yL_share wsL_share ({ frames := 8, cells := 1, slots := 6, locals := 124 }) 1 6 D (gT cy ++ tx) [.ref (ad 0), .ref qo] sz (xW cy ad S ((qo, .inl (cy 34, 1, .inr (.inr (.inr (.inl ov))))) :: R)) (xW cy ad S' ((qo, .inl (cy 34, 1, .inr (.inr (.inr (.inl ov'))))) :: R)) k := by
  refine vx_ofWH (cc := cL_share) (maxL := 3) (ret := (some .int)) (hh := [(0, 7, 10, 15)]) (by decide) rfl ?_
  intro p e s m args below meth c s₁ B hml hv
  obtain ⟨hav, hsz, hP, hK, hD0, hE⟩ := hv
  have hx := B.exec
  have hb := B.bytes
  have hr := B.returns
  have hts := atoms_spec (ws := wsL_share) B.pre
  have hown : s.vm.findClass RL = some m.cls := findClass_of_methodNamed B.named
  have hlocks := B.notSynchronized
  have htab := vx_table (x := yL_share) B (hts _ (List.mem_cons_self))
  subst hsz
  have hD := hD0.self (sz := s.heap.size)
  generalize hAe : va_A (xW cy ad S ((qo, .inl (cy 34, 1, .inr (.inr (.inr (.inl ov))))) :: R)) s.heap.size = A at hD hE ⊢
  have hA : ∀ q : Nat, s.heap.size ≤ q → A q := fun q h => by rw [← hAe]; exact Or.inr h
  have hS : va_S A s.heap s.heap [] := va_S.rf
  refine g_entry (n := 3) hav (Nat.le_of_ble_eq_true rfl) (fun ls hl => ?_)
  have hl : lv_has ls 3 [(0, .ref (ad 0)), (1, .ref qo)] := hl
  refine g_nameQ (fun Q hQ => ?_)
  unfold q_L_share at h
  refine lv_aload_n hx hb dL_share_0 rfl (lv_at hl 1 rfl) ?_
  refine lv_iconst (v := 0) hx hb dL_share_1 (by decide) ?_
  refine lv_aload_n hx hb dL_share_2 rfl (lv_at hl 0 rfl) ?_
  rcases x_catch h with ⟨e1, he, h⟩ | ⟨v, he, h⟩
  · refine g_tYd (As := []) (rest := [.int 0, .ref qo]) ⟨hx, hb, hml, hown, hts⟩ (m_X5_share l hst D cy tx ad ((qo, .inl (cy 34, 1, .inr (.inr (.inr (.inl ov))))) :: R) _ S  (.inl e1) he) (cwV 0 hts gL_share_X5_share rfl rfl rfl (by decide +kernel) ⟨Nat.le_of_ble_eq_true rfl, Nat.le_of_ble_eq_true rfl⟩) (va_recv hK hP (ci := 5) (q0 := 0) rfl rfl) hP hK hD hS hA hE rfl hl.1 rfl (Nat.le_of_ble_eq_true rfl) dL_share_3 ⟨Nat.le_of_ble_eq_true rfl, Nat.le_of_ble_eq_true rfl⟩ (fun ce q9 H locs hP hD hS hce hcv hcl => ?_)
    by_cases hk0 : e1 = 2
    · have h := o_pos hk0 h
      subst hk0
      refine vx_catch (name := exN 2) hown [] ⟨0, 7, 10, 15⟩ [] (by rw [htab]; rfl) (fun z hz => absurd hz List.not_mem_nil) (by decide) (by decide) (hts (.classLink RL 15 "java/lang/IllegalStateException") (by decide +kernel)) (va_Nw.use rfl (hE.2.2.2.1 (.castable "java/lang/IllegalStateException" "java/lang/IllegalStateException") (by decide +kernel))) hce hcv hcl ?_
      refine lv_astore_n (lv' := [(2, .ref q9), (0, .ref (ad 0)), (1, .ref qo)]) hx hb dL_share_10 rfl hl (by decide) rfl (fun ls hl => ?_)
      refine lv_iconst (v := 1) hx hb dL_share_11 (by decide) ?_
      obtain ⟨eS, eo⟩ := Prod.mk.inj (Option.some.inj h)
      obtain ⟨eo, ev⟩ := Prod.mk.inj eo
      subst eS; subst eo
      exact g_iretV hQ hx hb hr hP hK hD hS (Nat.le_of_ble_eq_true rfl) (Nat.le_of_ble_eq_true rfl) dL_share_12 hlocks ev
    · have h := o_neg hk0 h
      cases h
  · refine g_rYd (As := []) (rest := [.int 0, .ref qo]) ⟨hx, hb, hml, hown, hts⟩ (m_X5_share l hst D cy tx ad ((qo, .inl (cy 34, 1, .inr (.inr (.inr (.inl ov))))) :: R) _ S  (.inr v) he) (cwV 0 hts gL_share_X5_share rfl rfl rfl (by decide +kernel) ⟨Nat.le_of_ble_eq_true rfl, Nat.le_of_ble_eq_true rfl⟩) (va_recv hK hP (ci := 5) (q0 := 0) rfl rfl) hP hK hD hS hA hE rfl hl.1 rfl (Nat.le_of_ble_eq_true rfl) dL_share_3 ⟨Nat.le_of_ble_eq_true rfl, Nat.le_of_ble_eq_true rfl⟩ (fun H locs hP hD hS => ?_)
    refine W.widen (k := 1) (n := 6) (Nat.le_of_ble_eq_true rfl) (Nat.le_of_ble_eq_true rfl) ?_
    obtain ⟨f1, ef1, h⟩ := o_bind h
    refine g_dast hx hb hK hP hD hS 25 34 rfl rfl ef1 dL_share_6 (fun H locs hP hD hS => ?_)
    have hP : va_P D vwCl (xW cy ad S ((qo, .inl (cy 34, 1, .inr (.inr (.inr (.inl f1))))) :: R)) H := hP
    have hD : va_D A (xW cy ad S ((qo, .inl (cy 34, 1, .inr (.inr (.inr (.inl f1))))) :: R)) := hD
    refine lv_goto (tgt := 13) hx hb dL_share_7 (by decide) ?_
    refine lv_iconst (v := 0) hx hb dL_share_13 (by decide) ?_
    obtain ⟨eS, eo⟩ := Prod.mk.inj (Option.some.inj h)
    obtain ⟨eo, ev⟩ := Prod.mk.inj eo
    subst eS; subst eo
    exact g_iretV hQ hx hb hr hP hK hD hS (Nat.le_of_ble_eq_true rfl) (Nat.le_of_ble_eq_true rfl) dL_share_14 hlocks ev
set_option maxHeartbeats 4000000 in
set_option maxRecDepth 100000 in
theorem m_L_holds (l : Launch) (hst : l.stackTraces = false) (D : va_G) (cy : Nat → ClassId) (tx : List (ClassId × FieldType)) (ad : Nat → Nat) (qo : Nat) (R : va_W) (sz : Nat) (S : PS) (ov : (Nat → Int64)) (x1 : Int32) (S' : PS) (ov' : (Nat → Int64)) (k : Int32) (h : q_L_holds S ov x1 = some (S', ov', k)) : gLi l yL_holds wsL_holds ({ frames := 9, cells := 2, slots := 12, locals := 144 }) 2 12 D (gT cy ++ tx) [.ref (ad 0), .int x1, .ref qo] sz (xW cy ad S ((qo, .inl (cy 33, 1, .inr (.inl ov))) :: R)) (xW cy ad S' ((qo, .inl (cy 33, 1, .inr (.inl ov'))) :: R)) k := by
  refine vx_ofWH (cc := cL_holds) (maxL := 4) (ret := (some .int)) (hh := [(0, 16, 19, 15), (0, 16, 22, 13)]) (by decide) rfl ?_
  intro p e s m args below meth c s₁ B hml hv
  obtain ⟨hav, hsz, hP, hK, hD0, hE⟩ := hv
  have hx := B.exec
  have hb := B.bytes
  have hr := B.returns
  have hts := atoms_spec (ws := wsL_holds) B.pre
  have hown : s.vm.findClass RL = some m.cls := findClass_of_methodNamed B.named
  have hlocks := B.notSynchronized
  have htab := vx_table (x := yL_holds) B (hts _ (List.mem_cons_self))
  subst hsz
  have hD := hD0.self (sz := s.heap.size)
  generalize hAe : va_A (xW cy ad S ((qo, .inl (cy 33, 1, .inr (.inl ov))) :: R)) s.heap.size = A at hD hE ⊢
  have hA : ∀ q : Nat, s.heap.size ≤ q → A q := fun q h => by rw [← hAe]; exact Or.inr h
  have hS : va_S A s.heap s.heap [] := va_S.rf
  refine g_entry (n := 4) hav (Nat.le_of_ble_eq_true rfl) (fun ls hl => ?_)
  have hl : lv_has ls 4 [(0, .ref (ad 0)), (1, .int x1), (2, .ref qo)] := hl
  refine g_nameQ (fun Q hQ => ?_)
  unfold q_L_holds at h
  refine lv_aload_n hx hb dL_holds_0 rfl (lv_at hl 2 rfl) ?_
  refine lv_iconst (v := 0) hx hb dL_holds_1 (by decide) ?_
  refine lv_aload_n hx hb dL_holds_2 rfl (lv_at hl 0 rfl) ?_
  refine lv_iload_n hx hb dL_holds_3 rfl (lv_at hl 1 rfl) ?_
  rcases x_catch h with ⟨e1, he, h⟩ | ⟨v, he, h⟩
  · refine g_tYi (As := [.int x1]) (rest := [.int 0, .ref qo]) ⟨hx, hb, hml, hown, hts⟩ (m_X5_holds l hst D cy tx ad ((qo, .inl (cy 33, 1, .inr (.inl ov))) :: R) _ S x1 (.inl e1) he) (cwV 1 hts gL_holds_X5_holds rfl rfl rfl (by decide +kernel) ⟨Nat.le_of_ble_eq_true rfl, Nat.le_of_ble_eq_true rfl⟩) (va_recv hK hP (ci := 5) (q0 := 0) rfl rfl) hP hK hD hS hA hE rfl hl.1 rfl (Nat.le_of_ble_eq_true rfl) dL_holds_4 ⟨Nat.le_of_ble_eq_true rfl, Nat.le_of_ble_eq_true rfl⟩ (fun ce q9 H locs hP hD hS hce hcv hcl => ?_)
    by_cases hk0 : e1 = 2
    · have h := o_pos hk0 h
      subst hk0
      refine vx_catch (name := exN 2) hown [] ⟨0, 16, 19, 15⟩ [⟨0, 16, 22, 13⟩] (by rw [htab]; rfl) (fun z hz => absurd hz List.not_mem_nil) (by decide) (by decide) (hts (.classLink RL 15 "java/lang/IllegalStateException") (by decide +kernel)) (va_Nw.use rfl (hE.2.2.2.1 (.castable "java/lang/IllegalStateException" "java/lang/IllegalStateException") (by decide +kernel))) hce hcv hcl ?_
      refine lv_astore_n (lv' := [(3, .ref q9), (0, .ref (ad 0)), (1, .int x1), (2, .ref qo)]) hx hb dL_holds_19 rfl hl (by decide) rfl (fun ls hl => ?_)
      refine lv_iconst (v := 1) hx hb dL_holds_20 (by decide) ?_
      obtain ⟨eS, eo⟩ := Prod.mk.inj (Option.some.inj h)
      obtain ⟨eo, ev⟩ := Prod.mk.inj eo
      subst eS; subst eo
      exact g_iretV hQ hx hb hr hP hK hD hS (Nat.le_of_ble_eq_true rfl) (Nat.le_of_ble_eq_true rfl) dL_holds_21 hlocks ev
    · have h := o_neg hk0 h
      by_cases hk1 : e1 = 1
      · have h := o_pos hk1 h
        subst hk1
        refine vx_catch (name := exN 1) hown [⟨0, 16, 19, 15⟩] ⟨0, 16, 22, 13⟩ [] (by rw [htab]; rfl) (fun z hz => by rw [List.mem_singleton.mp hz]; exact Or.inr ⟨by decide, exN 2, hts (.classLink RL 15 "java/lang/IllegalStateException") (by decide +kernel), hE.2.2.2.2 1 2 (by decide) (by decide) (by decide)⟩) (by decide) (by decide) (hts (.classLink RL 13 "java/lang/IndexOutOfBoundsException") (by decide +kernel)) (va_Nw.use rfl (hE.2.2.2.1 (.castable "java/lang/IndexOutOfBoundsException" "java/lang/IndexOutOfBoundsException") (by decide +kernel))) hce hcv hcl ?_
        refine lv_astore_n (lv' := [(3, .ref q9), (0, .ref (ad 0)), (1, .int x1), (2, .ref qo)]) hx hb dL_holds_22 rfl hl (by decide) rfl (fun ls hl => ?_)
        refine lv_iconst (v := 2) hx hb dL_holds_23 (by decide) ?_
        obtain ⟨eS, eo⟩ := Prod.mk.inj (Option.some.inj h)
        obtain ⟨eo, ev⟩ := Prod.mk.inj eo
        subst eS; subst eo
        exact g_iretV hQ hx hb hr hP hK hD hS (Nat.le_of_ble_eq_true rfl) (Nat.le_of_ble_eq_true rfl) dL_holds_24 hlocks ev
      · have h := o_neg hk1 h
        cases h
  · refine g_rYi (As := [.int x1]) (rest := [.int 0, .ref qo]) ⟨hx, hb, hml, hown, hts⟩ (m_X5_holds l hst D cy tx ad ((qo, .inl (cy 33, 1, .inr (.inl ov))) :: R) _ S x1 (.inr v) he) (cwV 1 hts gL_holds_X5_holds rfl rfl rfl (by decide +kernel) ⟨Nat.le_of_ble_eq_true rfl, Nat.le_of_ble_eq_true rfl⟩) (va_recv hK hP (ci := 5) (q0 := 0) rfl rfl) hP hK hD hS hA hE rfl hl.1 rfl (Nat.le_of_ble_eq_true rfl) dL_holds_4 ⟨Nat.le_of_ble_eq_true rfl, Nat.le_of_ble_eq_true rfl⟩ (fun H locs hP hD hS => ?_)
    refine W.widen (k := 2) (n := 12) (Nat.le_of_ble_eq_true rfl) (Nat.le_of_ble_eq_true rfl) ?_
    refine lv_if_eq (tgt := 14) hx hb dL_holds_7 (by decide) (fun hc => ?_) (fun hc => ?_)
    · have h := o_pos hc h
      refine lv_lconst (v := 0) hx hb dL_holds_14 (by decide) ?_
      obtain ⟨f1, ef1, h⟩ := o_bind h
      refine g_last hx hb hK hP hD hS 25 33 rfl rfl ef1 dL_holds_15 (fun H locs hP hD hS => ?_)
      have hP : va_P D vwCl (xW cy ad S ((qo, .inl (cy 33, 1, .inr (.inl f1))) :: R)) H := hP
      have hD : va_D A (xW cy ad S ((qo, .inl (cy 33, 1, .inr (.inl f1))) :: R)) := hD
      refine lv_goto (tgt := 25) hx hb dL_holds_16 (by decide) ?_
      refine lv_iconst (v := 0) hx hb dL_holds_25 (by decide) ?_
      obtain ⟨eS, eo⟩ := Prod.mk.inj (Option.some.inj h)
      obtain ⟨eo, ev⟩ := Prod.mk.inj eo
      subst eS; subst eo
      exact g_iretV hQ hx hb hr hP hK hD hS (Nat.le_of_ble_eq_true rfl) (Nat.le_of_ble_eq_true rfl) dL_holds_26 hlocks ev
    · have h := o_neg hc h
      refine lv_lconst (v := 1) hx hb dL_holds_10 (by decide) ?_
      refine lv_goto (tgt := 15) hx hb dL_holds_11 (by decide) ?_
      obtain ⟨f2, ef2, h⟩ := o_bind h
      refine g_last hx hb hK hP hD hS 25 33 rfl rfl ef2 dL_holds_15 (fun H locs hP hD hS => ?_)
      have hP : va_P D vwCl (xW cy ad S ((qo, .inl (cy 33, 1, .inr (.inl f2))) :: R)) H := hP
      have hD : va_D A (xW cy ad S ((qo, .inl (cy 33, 1, .inr (.inl f2))) :: R)) := hD
      refine lv_goto (tgt := 25) hx hb dL_holds_16 (by decide) ?_
      refine lv_iconst (v := 0) hx hb dL_holds_25 (by decide) ?_
      obtain ⟨eS, eo⟩ := Prod.mk.inj (Option.some.inj h)
      obtain ⟨eo, ev⟩ := Prod.mk.inj eo
      subst eS; subst eo
      exact g_iretV hQ hx hb hr hP hK hD hS (Nat.le_of_ble_eq_true rfl) (Nat.le_of_ble_eq_true rfl) dL_holds_26 hlocks ev
set_option maxHeartbeats 4000000 in
set_option maxRecDepth 100000 in
theorem m_L_firstBroken (l : Launch) (hst : l.stackTraces = false) (D : va_G) (cy : Nat → ClassId) (tx : List (ClassId × FieldType)) (ad : Nat → Nat) (qo : Nat) (R : va_W) (sz : Nat) (S : PS) (ov : (Nat → Int64))  (S' : PS) (ov' : (Nat → Int64)) (k : Int32) (h : q_L_firstBroken S ov = some (S', ov', k)) : gLi l yL_firstBroken wsL_firstBroken ({ frames := 8, cells := 1, slots := 6, locals := 123 }) 1 6 D (gT cy ++ tx) [.ref (ad 0), .ref qo] sz (xW cy ad S ((qo, .inl (cy 33, 1, .inr (.inl ov))) :: R)) (xW cy ad S' ((qo, .inl (cy 33, 1, .inr (.inl ov'))) :: R)) k := by
  refine vx_ofWH (cc := cL_firstBroken) (maxL := 3) (ret := (some .int)) (hh := [(0, 8, 11, 15)]) (by decide) rfl ?_
  intro p e s m args below meth c s₁ B hml hv
  obtain ⟨hav, hsz, hP, hK, hD0, hE⟩ := hv
  have hx := B.exec
  have hb := B.bytes
  have hr := B.returns
  have hts := atoms_spec (ws := wsL_firstBroken) B.pre
  have hown : s.vm.findClass RL = some m.cls := findClass_of_methodNamed B.named
  have hlocks := B.notSynchronized
  have htab := vx_table (x := yL_firstBroken) B (hts _ (List.mem_cons_self))
  subst hsz
  have hD := hD0.self (sz := s.heap.size)
  generalize hAe : va_A (xW cy ad S ((qo, .inl (cy 33, 1, .inr (.inl ov))) :: R)) s.heap.size = A at hD hE ⊢
  have hA : ∀ q : Nat, s.heap.size ≤ q → A q := fun q h => by rw [← hAe]; exact Or.inr h
  have hS : va_S A s.heap s.heap [] := va_S.rf
  refine g_entry (n := 3) hav (Nat.le_of_ble_eq_true rfl) (fun ls hl => ?_)
  have hl : lv_has ls 3 [(0, .ref (ad 0)), (1, .ref qo)] := hl
  refine g_nameQ (fun Q hQ => ?_)
  unfold q_L_firstBroken at h
  refine lv_aload_n hx hb dL_firstBroken_0 rfl (lv_at hl 1 rfl) ?_
  refine lv_iconst (v := 0) hx hb dL_firstBroken_1 (by decide) ?_
  refine lv_aload_n hx hb dL_firstBroken_2 rfl (lv_at hl 0 rfl) ?_
  rcases x_catch h with ⟨e1, he, h⟩ | ⟨v, he, h⟩
  · refine g_tYi (As := []) (rest := [.int 0, .ref qo]) ⟨hx, hb, hml, hown, hts⟩ (m_X5_firstBroken l hst D cy tx ad ((qo, .inl (cy 33, 1, .inr (.inl ov))) :: R) _ S  (.inl e1) he) (cwV 0 hts gL_firstBroken_X5_firstBroken rfl rfl rfl (by decide +kernel) ⟨Nat.le_of_ble_eq_true rfl, Nat.le_of_ble_eq_true rfl⟩) (va_recv hK hP (ci := 5) (q0 := 0) rfl rfl) hP hK hD hS hA hE rfl hl.1 rfl (Nat.le_of_ble_eq_true rfl) dL_firstBroken_3 ⟨Nat.le_of_ble_eq_true rfl, Nat.le_of_ble_eq_true rfl⟩ (fun ce q9 H locs hP hD hS hce hcv hcl => ?_)
    by_cases hk0 : e1 = 2
    · have h := o_pos hk0 h
      subst hk0
      refine vx_catch (name := exN 2) hown [] ⟨0, 8, 11, 15⟩ [] (by rw [htab]; rfl) (fun z hz => absurd hz List.not_mem_nil) (by decide) (by decide) (hts (.classLink RL 15 "java/lang/IllegalStateException") (by decide +kernel)) (va_Nw.use rfl (hE.2.2.2.1 (.castable "java/lang/IllegalStateException" "java/lang/IllegalStateException") (by decide +kernel))) hce hcv hcl ?_
      refine lv_astore_n (lv' := [(2, .ref q9), (0, .ref (ad 0)), (1, .ref qo)]) hx hb dL_firstBroken_11 rfl hl (by decide) rfl (fun ls hl => ?_)
      refine lv_iconst (v := 1) hx hb dL_firstBroken_12 (by decide) ?_
      obtain ⟨eS, eo⟩ := Prod.mk.inj (Option.some.inj h)
      obtain ⟨eo, ev⟩ := Prod.mk.inj eo
      subst eS; subst eo
      exact g_iretV hQ hx hb hr hP hK hD hS (Nat.le_of_ble_eq_true rfl) (Nat.le_of_ble_eq_true rfl) dL_firstBroken_13 hlocks ev
    · have h := o_neg hk0 h
      cases h
  · refine g_rYi (As := []) (rest := [.int 0, .ref qo]) ⟨hx, hb, hml, hown, hts⟩ (m_X5_firstBroken l hst D cy tx ad ((qo, .inl (cy 33, 1, .inr (.inl ov))) :: R) _ S  (.inr v) he) (cwV 0 hts gL_firstBroken_X5_firstBroken rfl rfl rfl (by decide +kernel) ⟨Nat.le_of_ble_eq_true rfl, Nat.le_of_ble_eq_true rfl⟩) (va_recv hK hP (ci := 5) (q0 := 0) rfl rfl) hP hK hD hS hA hE rfl hl.1 rfl (Nat.le_of_ble_eq_true rfl) dL_firstBroken_3 ⟨Nat.le_of_ble_eq_true rfl, Nat.le_of_ble_eq_true rfl⟩ (fun H locs hP hD hS => ?_)
    refine W.widen (k := 1) (n := 6) (Nat.le_of_ble_eq_true rfl) (Nat.le_of_ble_eq_true rfl) ?_
    refine lv_i2l (v := ((v : Int32).toInt64)) hx hb dL_firstBroken_6 rfl ?_
    obtain ⟨f1, ef1, h⟩ := o_bind h
    refine g_last hx hb hK hP hD hS 25 33 rfl rfl ef1 dL_firstBroken_7 (fun H locs hP hD hS => ?_)
    have hP : va_P D vwCl (xW cy ad S ((qo, .inl (cy 33, 1, .inr (.inl f1))) :: R)) H := hP
    have hD : va_D A (xW cy ad S ((qo, .inl (cy 33, 1, .inr (.inl f1))) :: R)) := hD
    refine lv_goto (tgt := 14) hx hb dL_firstBroken_8 (by decide) ?_
    refine lv_iconst (v := 0) hx hb dL_firstBroken_14 (by decide) ?_
    obtain ⟨eS, eo⟩ := Prod.mk.inj (Option.some.inj h)
    obtain ⟨eo, ev⟩ := Prod.mk.inj eo
    subst eS; subst eo
    exact g_iretV hQ hx hb hr hP hK hD hS (Nat.le_of_ble_eq_true rfl) (Nat.le_of_ble_eq_true rfl) dL_firstBroken_15 hlocks ev
set_option maxHeartbeats 4000000 in
set_option maxRecDepth 100000 in
theorem m_L_prune (l : Launch) (hst : l.stackTraces = false) (D : va_G) (cy : Nat → ClassId) (tx : List (ClassId × FieldType)) (ad : Nat → Nat) (qo : Nat) (R : va_W) (sz : Nat) (S : PS) (ov : (Nat → Int64))  (S' : PS) (ov' : (Nat → Int64)) (k : Int32) (h : q_L_prune S ov = some (S', ov', k)) : gLi l yL_prune wsL_prune ({ frames := 8, cells := 1, slots := 6, locals := 163 }) 1 6 D (gT cy ++ tx) [.ref (ad 0), .ref qo] sz (xW cy ad S ((qo, .inl (cy 33, 1, .inr (.inl ov))) :: R)) (xW cy ad S' ((qo, .inl (cy 33, 1, .inr (.inl ov'))) :: R)) k := by
  refine vx_ofWH (cc := cL_prune) (maxL := 3) (ret := (some .int)) (hh := [(0, 8, 11, 15)]) (by decide) rfl ?_
  intro p e s m args below meth c s₁ B hml hv
  obtain ⟨hav, hsz, hP, hK, hD0, hE⟩ := hv
  have hx := B.exec
  have hb := B.bytes
  have hr := B.returns
  have hts := atoms_spec (ws := wsL_prune) B.pre
  have hown : s.vm.findClass RL = some m.cls := findClass_of_methodNamed B.named
  have hlocks := B.notSynchronized
  have htab := vx_table (x := yL_prune) B (hts _ (List.mem_cons_self))
  subst hsz
  have hD := hD0.self (sz := s.heap.size)
  generalize hAe : va_A (xW cy ad S ((qo, .inl (cy 33, 1, .inr (.inl ov))) :: R)) s.heap.size = A at hD hE ⊢
  have hA : ∀ q : Nat, s.heap.size ≤ q → A q := fun q h => by rw [← hAe]; exact Or.inr h
  have hS : va_S A s.heap s.heap [] := va_S.rf
  refine g_entry (n := 3) hav (Nat.le_of_ble_eq_true rfl) (fun ls hl => ?_)
  have hl : lv_has ls 3 [(0, .ref (ad 0)), (1, .ref qo)] := hl
  refine g_nameQ (fun Q hQ => ?_)
  unfold q_L_prune at h
  refine lv_aload_n hx hb dL_prune_0 rfl (lv_at hl 1 rfl) ?_
  refine lv_iconst (v := 0) hx hb dL_prune_1 (by decide) ?_
  refine lv_aload_n hx hb dL_prune_2 rfl (lv_at hl 0 rfl) ?_
  rcases x_catch h with ⟨e1, he, h⟩ | ⟨v, he, h⟩
  · refine g_tXi (As := []) (rest := [.int 0, .ref qo]) ⟨hx, hb, hml, hown, hts⟩ (m_X5_prune l hst D cy tx ad ((qo, .inl (cy 33, 1, .inr (.inl ov))) :: R) _ S  (.inl e1) he) (cwV 0 hts gL_prune_X5_prune rfl rfl rfl (by decide +kernel) ⟨Nat.le_of_ble_eq_true rfl, Nat.le_of_ble_eq_true rfl⟩) (va_recv hK hP (ci := 5) (q0 := 0) rfl rfl) hP hK hD hS hA hE rfl hl.1 rfl (Nat.le_of_ble_eq_true rfl) dL_prune_3 ⟨Nat.le_of_ble_eq_true rfl, Nat.le_of_ble_eq_true rfl⟩ (fun ce q9 H locs hP hD hS hce hcv hcl => ?_)
    by_cases hk0 : e1 = 2
    · have h := o_pos hk0 h
      subst hk0
      refine vx_catch (name := exN 2) hown [] ⟨0, 8, 11, 15⟩ [] (by rw [htab]; rfl) (fun z hz => absurd hz List.not_mem_nil) (by decide) (by decide) (hts (.classLink RL 15 "java/lang/IllegalStateException") (by decide +kernel)) (va_Nw.use rfl (hE.2.2.2.1 (.castable "java/lang/IllegalStateException" "java/lang/IllegalStateException") (by decide +kernel))) hce hcv hcl ?_
      refine lv_astore_n (lv' := [(2, .ref q9), (0, .ref (ad 0)), (1, .ref qo)]) hx hb dL_prune_11 rfl hl (by decide) rfl (fun ls hl => ?_)
      refine lv_iconst (v := 1) hx hb dL_prune_12 (by decide) ?_
      obtain ⟨eS, eo⟩ := Prod.mk.inj (Option.some.inj h)
      obtain ⟨eo, ev⟩ := Prod.mk.inj eo
      subst eS; subst eo
      exact g_iretV hQ hx hb hr hP hK hD hS (Nat.le_of_ble_eq_true rfl) (Nat.le_of_ble_eq_true rfl) dL_prune_13 hlocks ev
    · have h := o_neg hk0 h
      cases h
  · obtain ⟨S1, v⟩ := v
    refine g_rXi (As := []) (rest := [.int 0, .ref qo]) ⟨hx, hb, hml, hown, hts⟩ (m_X5_prune l hst D cy tx ad ((qo, .inl (cy 33, 1, .inr (.inl ov))) :: R) _ S  (.inr (S1, v)) he) (cwV 0 hts gL_prune_X5_prune rfl rfl rfl (by decide +kernel) ⟨Nat.le_of_ble_eq_true rfl, Nat.le_of_ble_eq_true rfl⟩) (va_recv hK hP (ci := 5) (q0 := 0) rfl rfl) hP hK hD hS hA hE rfl hl.1 rfl (Nat.le_of_ble_eq_true rfl) dL_prune_3 ⟨Nat.le_of_ble_eq_true rfl, Nat.le_of_ble_eq_true rfl⟩ (fun H locs hP hD hS => ?_)
    refine W.widen (k := 1) (n := 6) (Nat.le_of_ble_eq_true rfl) (Nat.le_of_ble_eq_true rfl) ?_
    refine lv_i2l (v := ((v : Int32).toInt64)) hx hb dL_prune_6 rfl ?_
    obtain ⟨f1, ef1, h⟩ := o_bind h
    refine g_last hx hb hK hP hD hS 25 33 rfl rfl ef1 dL_prune_7 (fun H locs hP hD hS => ?_)
    have hP : va_P D vwCl (xW cy ad S1 ((qo, .inl (cy 33, 1, .inr (.inl f1))) :: R)) H := hP
    have hD : va_D A (xW cy ad S1 ((qo, .inl (cy 33, 1, .inr (.inl f1))) :: R)) := hD
    refine lv_goto (tgt := 14) hx hb dL_prune_8 (by decide) ?_
    refine lv_iconst (v := 0) hx hb dL_prune_14 (by decide) ?_
    obtain ⟨eS, eo⟩ := Prod.mk.inj (Option.some.inj h)
    obtain ⟨eo, ev⟩ := Prod.mk.inj eo
    subst eS; subst eo
    exact g_iretV hQ hx hb hr hP hK hD hS (Nat.le_of_ble_eq_true rfl) (Nat.le_of_ble_eq_true rfl) dL_prune_15 hlocks ev
