set_option maxHeartbeats 4000000 in
set_option maxRecDepth 100000 in
theorem m_X6_prune (l : Launch) (hst : l.stackTraces = false) (D : va_G) (cy : Nat → ClassId) (tx : List (ClassId × FieldType)) (ad : Nat → Nat) (R : va_W) (sz : Nat) (S : PS)  (S' : PS) (v : Int32) (h : q_X6_prune S = some (S', v)) : gMi l yX6_prune wsX6_prune ({ frames := 5, cells := 1, slots := 50, locals := 114 }) 1 50 D (gT cy ++ tx) [.ref (ad 0)] sz (mW cy ad S R) (mW cy ad S' R) v := by
  refine Met.ofW (cc := cX6_prune) (maxL := 5) (ret := (some .int)) (by decide) rfl ?_
  intro p e s m args below meth c s₁ B hml hv
  obtain ⟨hav, hsz, hP, hK, hD0, hE⟩ := hv
  have hx := B.exec
  have hb := B.bytes
  have hr := B.returns
  have hts := atoms_spec (ws := wsX6_prune) B.pre
  have hown : s.vm.findClass RX6 = some m.cls := findClass_of_methodNamed B.named
  have hlocks := B.notSynchronized
  subst hsz
  have hD := hD0.self (sz := s.heap.size)
  generalize hAe : va_A (mW cy ad S R) s.heap.size = A at hD hE ⊢
  have hA : ∀ q : Nat, s.heap.size ≤ q → A q := fun q h => by rw [← hAe]; exact Or.inr h
  have hS : va_S A s.heap s.heap [] := va_S.rf
  have iX6 : ∀ w ∈ u_ws RX6 TX6 22, w ∈ wsX6_prune := by decide +kernel
  have hf48 := hts (.fieldLink RX6 48 "InlinePlannerModel" "nodeParents" "[I") (by decide +kernel)
  have hf51 := hts (.fieldLink RX6 51 "InlinePlannerModel" "nodeSites" "[I") (by decide +kernel)
  have hf60 := hts (.fieldLink RX6 60 "InlinePlannerModel" "verdicts" "[I") (by decide +kernel)
  have hf118 := hts (.fieldLink RX6 118 "InlinePlannerModel" "nodes" "I") (by decide +kernel)
  refine g_entry (n := 5) hav (Nat.le_of_ble_eq_true rfl) (fun ls hl => ?_)
  have hl : lv_has ls 5 [(0, .ref (ad 0))] := hl
  refine g_nameQ (fun Q hQ => ?_)
  unfold q_X6_prune at h
  refine lv_aload_n hx hb dX6_prune_0 rfl (lv_at hl 0 rfl) ?_
  obtain ⟨⟨S2, v1⟩, ev1, h⟩ := o_bind h
  refine g_cVi (As := []) (rest := []) ⟨hx, hb, hml, hown, hts⟩ (m_X6_asks l hst D cy tx ad R _ S  S2 v1 ev1) (cwV 0 hts gX6_prune_X6_asks rfl rfl rfl (by decide +kernel) ⟨Nat.le_of_ble_eq_true rfl, Nat.le_of_ble_eq_true rfl⟩) (va_recv hK hP (ci := 6) (q0 := 0) rfl rfl) hP hK hD hS hA hE rfl hl.1 rfl (Nat.le_of_ble_eq_true rfl) dX6_prune_1 ⟨Nat.le_of_ble_eq_true rfl, Nat.le_of_ble_eq_true rfl⟩ (fun H locs hP hD hS => ?_)
  refine lv_if_ne (tgt := 9) hx hb dX6_prune_4 (by decide) (fun hc => ?_) (fun hc => ?_)
  · have h := o_neg hc h
    refine lv_bipush (v := 50) hx hb dX6_prune_9 (by decide) ?_
    refine g_newN hx hb (hts (.arrayClass .int) (by decide +kernel)) hK hP hD hS hA (Nat.le_of_ble_eq_true rfl) (Nat.le_of_ble_eq_true rfl) dX6_prune_11 (fun qe ce H hK hP hD hS => ?_)
    refine W.widen (k := 1) (n := 50) (Nat.le_of_ble_eq_true rfl) (Nat.le_of_ble_eq_true rfl) ?_
    refine lv_astore_n (lv' := [(1, .ref qe), (0, .ref (ad 0))]) hx hb dX6_prune_13 rfl hl (by decide) rfl (fun ls hl => ?_)
    refine lv_iconst (v := 0) hx hb dX6_prune_14 (by decide) ?_
    refine lv_istore_n (lv' := [(2, .int 0), (1, .ref qe), (0, .ref (ad 0))]) hx hb dX6_prune_15 rfl hl (by decide) rfl (fun ls hl => ?_)
    refine lv_iconst (v := 0) hx hb dX6_prune_16 (by decide) ?_
    refine lv_istore_n (lv' := [(3, .int 0), (2, .int 0), (1, .ref qe), (0, .ref (ad 0))]) hx hb dX6_prune_17 rfl hl (by decide) rfl (fun ls hl => ?_)
    have L18 : ∀ (S : PS), ∀ (n18 : Nat) (x2 : Int32) (x3 : Int32) (xf : (Nat → Int32)) (H : Heap) (locs : List Loc) (ls : Array Slot), va_P D vwCl (mW cy ad S ((qe, .inl (ce, 50, .inl xf)) :: R)) H → va_D A (mW cy ad S ((qe, .inl (ce, 50, .inl xf)) :: R)) → va_S A s.heap H locs → lv_has ls 5 [(0, .ref (ad 0)), (1, .ref qe), (2, .int x2), (3, .int x3)] → iter3 (q_X6_prune_L18 S ) n18 x2 x3 xf = some (S', v) → W p l e (headSpec wsX6_prune ({ frames := 5, cells := 1, slots := 50, locals := 114 })).room s m args below meth c H locs 1 50 Q (F0 m 18 ls []) := by
      intro S n18
      induction n18 with
      | zero =>
        intro x2 x3 xf H locs ls hP hD hS hl h
        exact (it3_0 h).elim
      | succ n18 ih18 =>
        intro x2 x3 xf H locs ls hP hD hS hl h
        have h : q_X6_prune_L18 S  (iter3 (q_X6_prune_L18 S ) n18) x2 x3 xf = some (S', v) := h
        unfold q_X6_prune_L18 at h
        refine lv_iload_n hx hb dX6_prune_18 rfl (lv_at hl 3 rfl) ?_
        refine lv_aload_n hx hb dX6_prune_19 rfl (lv_at hl 0 rfl) ?_
        refine mgX6_14 hx hb hts iX6 hown hK hP hf118 dX6_prune_20 ?_
        refine lv_icmp_ge (tgt := 89) hx hb dX6_prune_23 (by decide) (fun hc => ?_) (fun hc => ?_)
        · have h := o_pos hc h
          refine lv_iconst (v := 1) hx hb dX6_prune_89 (by decide) ?_
          refine lv_istore_n (lv' := [(3, .int 1), (0, .ref (ad 0)), (1, .ref qe), (2, .int x2)]) hx hb dX6_prune_90 rfl hl (by decide) rfl (fun ls hl => ?_)
          have L91 : ∀ (n91 : Nat) (x3 : Int32) (S : PS) (H : Heap) (locs : List Loc) (ls : Array Slot), va_P D vwCl (mW cy ad S ((qe, .inl (ce, 50, .inl xf)) :: R)) H → va_D A (mW cy ad S ((qe, .inl (ce, 50, .inl xf)) :: R)) → va_S A s.heap H locs → lv_has ls 5 [(0, .ref (ad 0)), (1, .ref qe), (2, .int x2), (3, .int x3)] → iter2 (q_X6_prune_L91 x2 xf ) n91 x3 S = some (S', v) → W p l e (headSpec wsX6_prune ({ frames := 5, cells := 1, slots := 50, locals := 114 })).room s m args below meth c H locs 1 50 Q (F0 m 91 ls []) := by
            intro  n91
            induction n91 with
            | zero =>
              intro x3 S H locs ls hP hD hS hl h
              exact (it2_0 h).elim
            | succ n91 ih91 =>
              intro x3 S H locs ls hP hD hS hl h
              have h : q_X6_prune_L91 x2 xf  (iter2 (q_X6_prune_L91 x2 xf ) n91) x3 S = some (S', v) := h
              unfold q_X6_prune_L91 at h
              refine lv_iload_n hx hb dX6_prune_91 rfl (lv_at hl 3 rfl) ?_
              refine lv_aload_n hx hb dX6_prune_92 rfl (lv_at hl 0 rfl) ?_
              refine mgX6_14 hx hb hts iX6 hown hK hP hf118 dX6_prune_93 ?_
              refine lv_icmp_ge (tgt := 135) hx hb dX6_prune_96 (by decide) (fun hc => ?_) (fun hc => ?_)
              · have h := o_pos hc h
                refine lv_iconst (v := 0) hx hb dX6_prune_135 (by decide) ?_
                refine lv_istore_n (lv' := [(3, .int 0), (0, .ref (ad 0)), (1, .ref qe), (2, .int x2)]) hx hb dX6_prune_136 rfl hl (by decide) rfl (fun ls hl => ?_)
                have L137 : ∀ (n137 : Nat) (x3 : Int32) (S : PS) (H : Heap) (locs : List Loc) (ls : Array Slot), va_P D vwCl (mW cy ad S ((qe, .inl (ce, 50, .inl xf)) :: R)) H → va_D A (mW cy ad S ((qe, .inl (ce, 50, .inl xf)) :: R)) → va_S A s.heap H locs → lv_has ls 5 [(0, .ref (ad 0)), (1, .ref qe), (2, .int x2), (3, .int x3)] → iter2 (q_X6_prune_L137 x2 xf ) n137 x3 S = some (S', v) → W p l e (headSpec wsX6_prune ({ frames := 5, cells := 1, slots := 50, locals := 114 })).room s m args below meth c H locs 1 50 Q (F0 m 137 ls []) := by
                  intro  n137
                  induction n137 with
                  | zero =>
                    intro x3 S H locs ls hP hD hS hl h
                    exact (it2_0 h).elim
                  | succ n137 ih137 =>
                    intro x3 S H locs ls hP hD hS hl h
                    have h : q_X6_prune_L137 x2 xf  (iter2 (q_X6_prune_L137 x2 xf ) n137) x3 S = some (S', v) := h
                    unfold q_X6_prune_L137 at h
                    refine lv_iload_n hx hb dX6_prune_137 rfl (lv_at hl 3 rfl) ?_
                    refine lv_aload_n hx hb dX6_prune_138 rfl (lv_at hl 0 rfl) ?_
                    refine mgX6_14 hx hb hts iX6 hown hK hP hf118 dX6_prune_139 ?_
                    refine lv_icmp_ge (tgt := 167) hx hb dX6_prune_142 (by decide) (fun hc => ?_) (fun hc => ?_)
                    · have h := o_pos hc h
                      refine lv_aload_n hx hb dX6_prune_167 rfl (lv_at hl 0 rfl) ?_
                      refine mgX6_14 hx hb hts iX6 hown hK hP hf118 dX6_prune_168 ?_
                      refine lv_iload_n hx hb dX6_prune_171 rfl (lv_at hl 2 rfl) ?_
                      refine lv_isub hx hb dX6_prune_172 ?_
                      refine lv_istore_n (lv' := [(3, .int ((S.1 7) - x2)), (0, .ref (ad 0)), (1, .ref qe), (2, .int x2)]) hx hb dX6_prune_173 rfl hl (by decide) rfl (fun ls hl => ?_)
                      refine lv_aload_n hx hb dX6_prune_174 rfl (lv_at hl 1 rfl) ?_
                      refine lv_iload_n hx hb dX6_prune_175 rfl (lv_at hl 3 rfl) ?_
                      obtain ⟨S3, eS3, h⟩ := o_bind h
                      refine mpX6_14 hx hb hts iX6 hown hK hP hD hS hf118 eS3 dX6_prune_176 (fun H locs hP hD hS => ?_)
                      refine lv_iload_n hx hb dX6_prune_179 rfl (lv_at hl 0 rfl) ?_
                      obtain ⟨eS, ev⟩ := Prod.mk.inj (Option.some.inj h)
                      subst eS
                      have hP := mW_dropP hP
                      have hD := mW_dropD hD
                      have hK := gT_drop hK
                      exact g_iret hQ hx hb hr hP hK hD hS (Nat.le_of_ble_eq_true rfl) (Nat.le_of_ble_eq_true rfl) dX6_prune_180 hlocks ev
                    · have h := o_neg hc h
                      refine lv_aload_n hx hb dX6_prune_145 rfl (lv_at hl 1 rfl) ?_
                      refine lv_iload_n hx hb dX6_prune_146 rfl (lv_at hl 3 rfl) ?_
                      obtain ⟨v4, ev4, h⟩ := o_bind h
                      refine g_iald hx hb hK hP 15 35 rfl rfl ev4 dX6_prune_147 ?_
                      refine lv_iconst (v := (-1)) hx hb dX6_prune_148 (by decide) ?_
                      refine lv_icmp_eq (tgt := 161) hx hb dX6_prune_149 (by decide) (fun hc => ?_) (fun hc => ?_)
                      · have h := o_pos hc h
                        refine lv_iinc (v := (x3 + 1)) (lv' := [(3, .int (x3 + 1)), (0, .ref (ad 0)), (1, .ref qe), (2, .int x2)]) hx hb dX6_prune_161 hl (k := 3) rfl rfl (by decide) rfl (fun ls hl => ?_)
                        refine lv_goto (tgt := 137) hx hb dX6_prune_164 (by decide) ?_
                        exact ih137 (x3 + 1) S _ _ ls hP hD hS (lv_sub hl [1, 2, 3, 0] rfl) h
                      · have h := o_neg hc h
                        refine lv_aload_n hx hb dX6_prune_152 rfl (lv_at hl 0 rfl) ?_
                        refine lv_iload_n hx hb dX6_prune_153 rfl (lv_at hl 3 rfl) ?_
                        refine lv_aload_n hx hb dX6_prune_154 rfl (lv_at hl 1 rfl) ?_
                        refine lv_iload_n hx hb dX6_prune_155 rfl (lv_at hl 3 rfl) ?_
                        obtain ⟨v5, ev5, h⟩ := o_bind h
                        refine g_iald hx hb hK hP 15 35 rfl rfl ev5 dX6_prune_156 ?_
                        refine lv_aload_n hx hb dX6_prune_157 rfl (lv_at hl 1 rfl) ?_
                        obtain ⟨S7, ev6, h⟩ := o_bind h
                        refine g_cVv (As := [.int x3, .int v5, .ref qe]) (rest := []) ⟨hx, hb, hml, hown, hts⟩ (m_X6_move l hst D cy tx ad qe ce xf R _ S x3 v5 S7 ev6) (cwV 3 hts gX6_prune_X6_move rfl rfl rfl (by decide +kernel) ⟨Nat.le_of_ble_eq_true rfl, Nat.le_of_ble_eq_true rfl⟩) (va_recv hK hP (ci := 6) (q0 := 0) rfl rfl) hP hK hD hS hA hE rfl hl.1 rfl (Nat.le_of_ble_eq_true rfl) dX6_prune_158 ⟨Nat.le_of_ble_eq_true rfl, Nat.le_of_ble_eq_true rfl⟩ (fun H locs hP hD hS => ?_)
                        refine lv_iinc (v := (x3 + 1)) (lv' := [(3, .int (x3 + 1)), (0, .ref (ad 0)), (1, .ref qe), (2, .int x2)]) hx hb dX6_prune_161 hl (k := 3) rfl rfl (by decide) rfl (fun ls hl => ?_)
                        refine lv_goto (tgt := 137) hx hb dX6_prune_164 (by decide) ?_
                        exact ih137 (x3 + 1) S7 _ _ ls hP hD hS (lv_sub hl [1, 2, 3, 0] rfl) h
                exact L137  1000 0 S _ _ ls hP hD hS (lv_sub hl [1, 2, 3, 0] rfl) h
              · have h := o_neg hc h
                refine lv_aload_n hx hb dX6_prune_99 rfl (lv_at hl 1 rfl) ?_
                refine lv_iload_n hx hb dX6_prune_100 rfl (lv_at hl 3 rfl) ?_
                obtain ⟨v8, ev8, h⟩ := o_bind h
                refine g_iald hx hb hK hP 15 35 rfl rfl ev8 dX6_prune_101 ?_
                refine lv_iconst (v := (-1)) hx hb dX6_prune_102 (by decide) ?_
                refine lv_icmp_ne (tgt := 129) hx hb dX6_prune_103 (by decide) (fun hc => ?_) (fun hc => ?_)
                · have h := o_neg hc h
                  refine lv_iinc (v := (x3 + 1)) (lv' := [(3, .int (x3 + 1)), (0, .ref (ad 0)), (1, .ref qe), (2, .int x2)]) hx hb dX6_prune_129 hl (k := 3) rfl rfl (by decide) rfl (fun ls hl => ?_)
                  refine lv_goto (tgt := 91) hx hb dX6_prune_132 (by decide) ?_
                  exact ih91 (x3 + 1) S _ _ ls hP hD hS (lv_sub hl [1, 2, 3, 0] rfl) h
                · have h := o_pos hc h
                  refine lv_aload_n hx hb dX6_prune_106 rfl (lv_at hl 0 rfl) ?_
                  refine mgX6_20 hx hb hts iX6 hown hK hP hf60 dX6_prune_107 ?_
                  refine lv_bipush (v := 8) hx hb dX6_prune_110 (by decide) ?_
                  refine lv_aload_n hx hb dX6_prune_112 rfl (lv_at hl 0 rfl) ?_
                  refine mgX6_16 hx hb hts iX6 hown hK hP hf48 dX6_prune_113 ?_
                  refine lv_iload_n hx hb dX6_prune_116 rfl (lv_at hl 3 rfl) ?_
                  obtain ⟨v9, ev9, h⟩ := o_bind h
                  refine mld8 hx hb hK hP ev9 dX6_prune_117 ?_
                  refine lv_imul hx hb dX6_prune_118 ?_
                  refine lv_aload_n hx hb dX6_prune_119 rfl (lv_at hl 0 rfl) ?_
                  refine mgX6_17 hx hb hts iX6 hown hK hP hf51 dX6_prune_120 ?_
                  refine lv_iload_n hx hb dX6_prune_123 rfl (lv_at hl 3 rfl) ?_
                  obtain ⟨v10, ev10, h⟩ := o_bind h
                  refine mld9 hx hb hK hP ev10 dX6_prune_124 ?_
                  refine lv_iadd hx hb dX6_prune_125 ?_
                  refine lv_bipush (v := 7) hx hb dX6_prune_126 (by decide) ?_
                  obtain ⟨S11, eS11, h⟩ := o_bind h
                  refine mst12 hx hb hK hP hD hS eS11 dX6_prune_128 (fun H locs hP hD hS => ?_)
                  refine lv_iinc (v := (x3 + 1)) (lv' := [(3, .int (x3 + 1)), (0, .ref (ad 0)), (1, .ref qe), (2, .int x2)]) hx hb dX6_prune_129 hl (k := 3) rfl rfl (by decide) rfl (fun ls hl => ?_)
                  refine lv_goto (tgt := 91) hx hb dX6_prune_132 (by decide) ?_
                  exact ih91 (x3 + 1) S11 _ _ ls hP hD hS (lv_sub hl [1, 2, 3, 0] rfl) h
          exact L91  1000 1 S _ _ ls hP hD hS (lv_sub hl [1, 2, 3, 0] rfl) h
        · have h := o_neg hc h
          refine lv_iload_n hx hb dX6_prune_26 rfl (lv_at hl 3 rfl) ?_
          refine lv_if_eq (tgt := 50) hx hb dX6_prune_27 (by decide) (fun hc => ?_) (fun hc => ?_)
          · have h := o_pos hc h
            refine lv_iconst (v := 1) hx hb dX6_prune_50 (by decide) ?_
            refine lv_goto (tgt := 55) hx hb dX6_prune_51 (by decide) ?_
            refine lv_istore (lv' := [(4, .int 1), (0, .ref (ad 0)), (1, .ref qe), (2, .int x2), (3, .int x3)]) hx hb dX6_prune_55 hl (by decide) rfl (fun ls hl => ?_)
            refine lv_aload_n hx hb dX6_prune_57 rfl (lv_at hl 2 rfl) ?_
            refine lv_iload_n hx hb dX6_prune_58 rfl (lv_at hl 4 rfl) ?_
            refine lv_iload hx hb dX6_prune_59 (lv_at hl 0 rfl) ?_
            refine lv_if_eq (tgt := 68) hx hb dX6_prune_61 (by decide) (fun hc => absurd hc (by decide)) (fun _ => ?_)
            refine lv_iload_n hx hb dX6_prune_64 rfl (lv_at hl 3 rfl) ?_
            refine lv_goto (tgt := 69) hx hb dX6_prune_65 (by decide) ?_
            obtain ⟨f13, ef13, h⟩ := o_bind h
            refine g_iast hx hb hK hP hD hS 15 35 rfl rfl ef13 dX6_prune_69 (fun H locs hP hD hS => ?_)
            have hP : va_P D vwCl (mW cy ad S ((qe, .inl (ce, 50, .inl f13)) :: R)) H := hP
            have hD : va_D A (mW cy ad S ((qe, .inl (ce, 50, .inl f13)) :: R)) := hD
            refine lv_iload_n hx hb dX6_prune_70 rfl (lv_at hl 3 rfl) ?_
            refine lv_iload hx hb dX6_prune_71 (lv_at hl 0 rfl) ?_
            refine lv_if_eq (tgt := 80) hx hb dX6_prune_73 (by decide) (fun hc => absurd hc (by decide)) (fun _ => ?_)
            refine lv_iconst (v := 1) hx hb dX6_prune_76 (by decide) ?_
            refine lv_goto (tgt := 81) hx hb dX6_prune_77 (by decide) ?_
            refine lv_iadd hx hb dX6_prune_81 ?_
            refine lv_istore_n (lv' := [(2, .int (x2 + 1)), (4, .int 1), (0, .ref (ad 0)), (1, .ref qe), (3, .int x3)]) hx hb dX6_prune_82 rfl hl (by decide) rfl (fun ls hl => ?_)
            refine lv_iinc (v := (x3 + 1)) (lv' := [(3, .int (x3 + 1)), (2, .int (x2 + 1)), (4, .int 1), (0, .ref (ad 0)), (1, .ref qe)]) hx hb dX6_prune_83 hl (k := 4) rfl rfl (by decide) rfl (fun ls hl => ?_)
            refine lv_goto (tgt := 18) hx hb dX6_prune_86 (by decide) ?_
            exact ih18 (x2 + 1) (x3 + 1) f13 _ _ ls hP hD hS (lv_sub hl [3, 4, 1, 0] rfl) h
          · have h := o_neg hc h
            refine lv_aload_n hx hb dX6_prune_30 rfl (lv_at hl 0 rfl) ?_
            refine lv_iload_n hx hb dX6_prune_31 rfl (lv_at hl 3 rfl) ?_
            obtain ⟨v14, ev14, h⟩ := o_bind h
            refine g_cVi (As := [.int x3]) (rest := []) ⟨hx, hb, hml, hown, hts⟩ (m_X6_isHolding l hst D cy ((ce, .int) :: tx) ad ((qe, .inl (ce, 50, .inl xf)) :: R) _ S x3 v14 ev14) (cwV 1 hts gX6_prune_X6_isHolding rfl rfl rfl (by decide +kernel) ⟨Nat.le_of_ble_eq_true rfl, Nat.le_of_ble_eq_true rfl⟩) (va_recv hK hP (ci := 6) (q0 := 0) rfl rfl) hP hK hD hS hA hE rfl hl.1 rfl (Nat.le_of_ble_eq_true rfl) dX6_prune_32 ⟨Nat.le_of_ble_eq_true rfl, Nat.le_of_ble_eq_true rfl⟩ (fun H locs hP hD hS => ?_)
            refine lv_if_eq (tgt := 54) hx hb dX6_prune_35 (by decide) (fun hc => ?_) (fun hc => ?_)
            · have h := o_pos hc h
              refine lv_iconst (v := 0) hx hb dX6_prune_54 (by decide) ?_
              refine lv_istore (lv' := [(4, .int 0), (0, .ref (ad 0)), (1, .ref qe), (2, .int x2), (3, .int x3)]) hx hb dX6_prune_55 hl (by decide) rfl (fun ls hl => ?_)
              refine lv_aload_n hx hb dX6_prune_57 rfl (lv_at hl 2 rfl) ?_
              refine lv_iload_n hx hb dX6_prune_58 rfl (lv_at hl 4 rfl) ?_
              refine lv_iload hx hb dX6_prune_59 (lv_at hl 0 rfl) ?_
              refine lv_if_eq (tgt := 68) hx hb dX6_prune_61 (by decide) (fun _ => ?_) (fun hc => absurd (by decide) hc)
              refine lv_iconst (v := (-1)) hx hb dX6_prune_68 (by decide) ?_
              obtain ⟨f16, ef16, h⟩ := o_bind h
              refine g_iast hx hb hK hP hD hS 15 35 rfl rfl ef16 dX6_prune_69 (fun H locs hP hD hS => ?_)
              have hP : va_P D vwCl (mW cy ad S ((qe, .inl (ce, 50, .inl f16)) :: R)) H := hP
              have hD : va_D A (mW cy ad S ((qe, .inl (ce, 50, .inl f16)) :: R)) := hD
              refine lv_iload_n hx hb dX6_prune_70 rfl (lv_at hl 3 rfl) ?_
              refine lv_iload hx hb dX6_prune_71 (lv_at hl 0 rfl) ?_
              refine lv_if_eq (tgt := 80) hx hb dX6_prune_73 (by decide) (fun _ => ?_) (fun hc => absurd (by decide) hc)
              refine lv_iconst (v := 0) hx hb dX6_prune_80 (by decide) ?_
              refine lv_iadd hx hb dX6_prune_81 ?_
              refine lv_istore_n (lv' := [(2, .int (x2 + 0)), (4, .int 0), (0, .ref (ad 0)), (1, .ref qe), (3, .int x3)]) hx hb dX6_prune_82 rfl hl (by decide) rfl (fun ls hl => ?_)
              refine lv_iinc (v := (x3 + 1)) (lv' := [(3, .int (x3 + 1)), (2, .int (x2 + 0)), (4, .int 0), (0, .ref (ad 0)), (1, .ref qe)]) hx hb dX6_prune_83 hl (k := 4) rfl rfl (by decide) rfl (fun ls hl => ?_)
              refine lv_goto (tgt := 18) hx hb dX6_prune_86 (by decide) ?_
              exact ih18 (x2 + 0) (x3 + 1) f16 _ _ ls hP hD hS (lv_sub hl [3, 4, 1, 0] rfl) h
            · have h := o_neg hc h
              refine lv_aload_n hx hb dX6_prune_38 rfl (lv_at hl 1 rfl) ?_
              refine lv_aload_n hx hb dX6_prune_39 rfl (lv_at hl 0 rfl) ?_
              refine mgX6_16 hx hb hts iX6 hown hK hP hf48 dX6_prune_40 ?_
              refine lv_iload_n hx hb dX6_prune_43 rfl (lv_at hl 3 rfl) ?_
              obtain ⟨v17, ev17, h⟩ := o_bind h
              refine mld8 hx hb hK hP ev17 dX6_prune_44 ?_
              obtain ⟨v18, ev18, h⟩ := o_bind h
              refine g_iald hx hb hK hP 15 35 rfl rfl ev18 dX6_prune_45 ?_
              refine lv_iconst (v := (-1)) hx hb dX6_prune_46 (by decide) ?_
              refine lv_icmp_eq (tgt := 54) hx hb dX6_prune_47 (by decide) (fun hc => ?_) (fun hc => ?_)
              · have h := o_pos hc h
                refine lv_iconst (v := 0) hx hb dX6_prune_54 (by decide) ?_
                refine lv_istore (lv' := [(4, .int 0), (0, .ref (ad 0)), (1, .ref qe), (2, .int x2), (3, .int x3)]) hx hb dX6_prune_55 hl (by decide) rfl (fun ls hl => ?_)
                refine lv_aload_n hx hb dX6_prune_57 rfl (lv_at hl 2 rfl) ?_
                refine lv_iload_n hx hb dX6_prune_58 rfl (lv_at hl 4 rfl) ?_
                refine lv_iload hx hb dX6_prune_59 (lv_at hl 0 rfl) ?_
                refine lv_if_eq (tgt := 68) hx hb dX6_prune_61 (by decide) (fun _ => ?_) (fun hc => absurd (by decide) hc)
                refine lv_iconst (v := (-1)) hx hb dX6_prune_68 (by decide) ?_
                obtain ⟨f20, ef20, h⟩ := o_bind h
                refine g_iast hx hb hK hP hD hS 15 35 rfl rfl ef20 dX6_prune_69 (fun H locs hP hD hS => ?_)
                have hP : va_P D vwCl (mW cy ad S ((qe, .inl (ce, 50, .inl f20)) :: R)) H := hP
                have hD : va_D A (mW cy ad S ((qe, .inl (ce, 50, .inl f20)) :: R)) := hD
                refine lv_iload_n hx hb dX6_prune_70 rfl (lv_at hl 3 rfl) ?_
                refine lv_iload hx hb dX6_prune_71 (lv_at hl 0 rfl) ?_
                refine lv_if_eq (tgt := 80) hx hb dX6_prune_73 (by decide) (fun _ => ?_) (fun hc => absurd (by decide) hc)
                refine lv_iconst (v := 0) hx hb dX6_prune_80 (by decide) ?_
                refine lv_iadd hx hb dX6_prune_81 ?_
                refine lv_istore_n (lv' := [(2, .int (x2 + 0)), (4, .int 0), (0, .ref (ad 0)), (1, .ref qe), (3, .int x3)]) hx hb dX6_prune_82 rfl hl (by decide) rfl (fun ls hl => ?_)
                refine lv_iinc (v := (x3 + 1)) (lv' := [(3, .int (x3 + 1)), (2, .int (x2 + 0)), (4, .int 0), (0, .ref (ad 0)), (1, .ref qe)]) hx hb dX6_prune_83 hl (k := 4) rfl rfl (by decide) rfl (fun ls hl => ?_)
                refine lv_goto (tgt := 18) hx hb dX6_prune_86 (by decide) ?_
                exact ih18 (x2 + 0) (x3 + 1) f20 _ _ ls hP hD hS (lv_sub hl [3, 4, 1, 0] rfl) h
              · have h := o_neg hc h
                refine lv_iconst (v := 1) hx hb dX6_prune_50 (by decide) ?_
                refine lv_goto (tgt := 55) hx hb dX6_prune_51 (by decide) ?_
                refine lv_istore (lv' := [(4, .int 1), (0, .ref (ad 0)), (1, .ref qe), (2, .int x2), (3, .int x3)]) hx hb dX6_prune_55 hl (by decide) rfl (fun ls hl => ?_)
                refine lv_aload_n hx hb dX6_prune_57 rfl (lv_at hl 2 rfl) ?_
                refine lv_iload_n hx hb dX6_prune_58 rfl (lv_at hl 4 rfl) ?_
                refine lv_iload hx hb dX6_prune_59 (lv_at hl 0 rfl) ?_
                refine lv_if_eq (tgt := 68) hx hb dX6_prune_61 (by decide) (fun hc => absurd hc (by decide)) (fun _ => ?_)
                refine lv_iload_n hx hb dX6_prune_64 rfl (lv_at hl 3 rfl) ?_
                refine lv_goto (tgt := 69) hx hb dX6_prune_65 (by decide) ?_
                obtain ⟨f22, ef22, h⟩ := o_bind h
                refine g_iast hx hb hK hP hD hS 15 35 rfl rfl ef22 dX6_prune_69 (fun H locs hP hD hS => ?_)
                have hP : va_P D vwCl (mW cy ad S ((qe, .inl (ce, 50, .inl f22)) :: R)) H := hP
                have hD : va_D A (mW cy ad S ((qe, .inl (ce, 50, .inl f22)) :: R)) := hD
                refine lv_iload_n hx hb dX6_prune_70 rfl (lv_at hl 3 rfl) ?_
                refine lv_iload hx hb dX6_prune_71 (lv_at hl 0 rfl) ?_
                refine lv_if_eq (tgt := 80) hx hb dX6_prune_73 (by decide) (fun hc => absurd hc (by decide)) (fun _ => ?_)
                refine lv_iconst (v := 1) hx hb dX6_prune_76 (by decide) ?_
                refine lv_goto (tgt := 81) hx hb dX6_prune_77 (by decide) ?_
                refine lv_iadd hx hb dX6_prune_81 ?_
                refine lv_istore_n (lv' := [(2, .int (x2 + 1)), (4, .int 1), (0, .ref (ad 0)), (1, .ref qe), (3, .int x3)]) hx hb dX6_prune_82 rfl hl (by decide) rfl (fun ls hl => ?_)
                refine lv_iinc (v := (x3 + 1)) (lv' := [(3, .int (x3 + 1)), (2, .int (x2 + 1)), (4, .int 1), (0, .ref (ad 0)), (1, .ref qe)]) hx hb dX6_prune_83 hl (k := 4) rfl rfl (by decide) rfl (fun ls hl => ?_)
                refine lv_goto (tgt := 18) hx hb dX6_prune_86 (by decide) ?_
                exact ih18 (x2 + 1) (x3 + 1) f22 _ _ ls hP hD hS (lv_sub hl [3, 4, 1, 0] rfl) h
    exact L18 S2 1000 0 0 (fun _ => 0) _ _ ls hP hD hS (lv_sub hl [3, 2, 1, 0] rfl) h
  · have h := o_pos hc h
    refine lv_iconst (v := 0) hx hb dX6_prune_7 (by decide) ?_
    obtain ⟨eS, ev⟩ := Prod.mk.inj (Option.some.inj h)
    subst eS
    exact g_iret hQ hx hb hr hP hK hD hS (Nat.le_of_ble_eq_true rfl) (Nat.le_of_ble_eq_true rfl) dX6_prune_8 hlocks ev
